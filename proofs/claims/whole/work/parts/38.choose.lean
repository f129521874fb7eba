/-! the class's countFor, chooseCourse -/
set_option maxRecDepth 20000 in
set_option maxHeartbeats 4000000 in
theorem sg_X10_countFor_0 {Γ : pv_C} {d kc ks : Nat} {ty : pv_T} {h : pv_H} {r : pv_R} {g : pv_G} {Q : pv_Q} (x : Int32) (y : Int32) (F : pv_E Γ d kc ks mX10_countFor 9 [some (.ref 50), some (.int x), some (.int y), some (.int 0), some (.int 1000000), some (.int 0), none] [] ty h r g Q) : pv_E Γ d kc ks mX10_countFor 0 [some (.ref 50), some (.int x), some (.int y), none, none, none, none] [] ty h r g Q := by
  refine pv_iconst (v := 0) (by decide) dX10_countFor_0 ?_
  refine pv_istore_n (ls' := [some (.ref 50), some (.int x), some (.int y), some (.int 0), none, none, none]) dX10_countFor_1 (by decide) rfl rfl ?_
  refine pv_ldc (v := 1000000) dX10_countFor_2 kc_X10_32 ?_
  refine pv_istore (ls' := [some (.ref 50), some (.int x), some (.int y), some (.int 0), some (.int 1000000), none, none]) dX10_countFor_4 (by decide) rfl rfl ?_
  refine pv_iconst (v := 0) (by decide) dX10_countFor_6 ?_
  refine pv_istore (ls' := [some (.ref 50), some (.int x), some (.int y), some (.int 0), some (.int 1000000), some (.int 0), none]) dX10_countFor_7 (by decide) rfl rfl ?_
  exact F
set_option maxRecDepth 20000 in
set_option maxHeartbeats 4000000 in
theorem sg_X10_countFor_9 {Γ : pv_C} {d kc ks : Nat} {ty : pv_T} {h : pv_H} {r : pv_R} {g : pv_G} {Q : pv_Q} (x1 : Int32) (x2 : Int32) (x3 : Int32) (x4 : Int32) (x5 : Int32) (hL : pv_Lay ty r) (F : vp_in x1 10 ∧ (((h 51 (Int32.toNatClampNeg x1)) < x5 → Q (some (.int x3)) ty h r g) ∧ (¬ (h 51 (Int32.toNatClampNeg x1)) < x5 → ((x2 < (x5 * x1) → Q (some (.int x3)) ty h r g) ∧ (¬ x2 < (x5 * x1) → vp_in ((((x1 - 1) * 61) + x2) - (x5 * x1)) 610 ∧ ((x4 < (x5 + (h 52 (Int32.toNatClampNeg ((((x1 - 1) * 61) + x2) - (x5 * x1))))) → pv_E Γ d kc ks mX10_countFor 9 [some (.ref 50), some (.int x1), some (.int x2), some (.int x3), some (.int x4), some (.int (x5 + 1)), none] [] ty h r g Q) ∧ (¬ x4 < (x5 + (h 52 (Int32.toNatClampNeg ((((x1 - 1) * 61) + x2) - (x5 * x1))))) → pv_E Γ d kc ks mX10_countFor 9 [some (.ref 50), some (.int x1), some (.int x2), some (.int x5), some (.int (x5 + (h 52 (Int32.toNatClampNeg ((((x1 - 1) * 61) + x2) - (x5 * x1)))))), some (.int (x5 + 1)), none] [] ty h r g Q))))))) : pv_E Γ d kc ks mX10_countFor 9 [some (.ref 50), some (.int x1), some (.int x2), some (.int x3), some (.int x4), some (.int x5), none] [] ty h r g Q := by
  refine pv_iload dX10_countFor_9 rfl ?_
  refine pv_aload_n dX10_countFor_11 rfl ?_
  refine pv_getRk 10 0 dX10_countFor_12 fl_X10_9 rfl (lt_50 hL) (lr_50_0 hL) ?_
  refine pv_iload_n dX10_countFor_15 rfl ?_
  obtain ⟨q1, F⟩ := F
  refine pv_iald dX10_countFor_16 (lt_51 hL) q1 ?_
  refine pv_icmp_gt (tgt := 71) dX10_countFor_17 (by decide) (fun c1 => ?_) (fun c1 => ?_)
  · have F := F.1 c1
    refine pv_iload_n dX10_countFor_71 rfl ?_
    exact pv_ireturn dX10_countFor_72 rfl rfl F
  · have F := F.2 c1
    refine pv_iload dX10_countFor_20 rfl ?_
    refine pv_iload_n dX10_countFor_22 rfl ?_
    refine pv_imul dX10_countFor_23 ?_
    refine pv_iload_n dX10_countFor_24 rfl ?_
    refine pv_icmp_gt (tgt := 71) dX10_countFor_25 (by decide) (fun c2 => ?_) (fun c2 => ?_)
    · have F := F.1 c2
      refine pv_iload_n dX10_countFor_71 rfl ?_
      exact pv_ireturn dX10_countFor_72 rfl rfl F
    · have F := F.2 c2
      refine pv_iload dX10_countFor_28 rfl ?_
      refine pv_aload_n dX10_countFor_30 rfl ?_
      refine pv_getRk 10 1 dX10_countFor_31 fl_X10_15 rfl (lt_50 hL) (lr_50_1 hL) ?_
      refine pv_iload_n dX10_countFor_34 rfl ?_
      refine pv_iconst (v := 1) (by decide) dX10_countFor_35 ?_
      refine pv_isub dX10_countFor_36 ?_
      refine pv_pc (pc' := 37) rfl ?_
      refine pv_bipush (v := 61) (by decide) dX10_countFor_37 ?_
      refine pv_imul dX10_countFor_39 ?_
      refine pv_iload_n dX10_countFor_40 rfl ?_
      refine pv_iadd dX10_countFor_41 ?_
      refine pv_iload dX10_countFor_42 rfl ?_
      refine pv_iload_n dX10_countFor_44 rfl ?_
      refine pv_pc (pc' := 45) rfl ?_
      refine pv_imul dX10_countFor_45 ?_
      refine pv_isub dX10_countFor_46 ?_
      obtain ⟨q2, F⟩ := F
      refine pv_iald dX10_countFor_47 (lt_52 hL) q2 ?_
      refine pv_iadd dX10_countFor_48 ?_
      refine pv_istore (ls' := [some (.ref 50), some (.int x1), some (.int x2), some (.int x3), some (.int x4), some (.int x5), some (.int (x5 + (h 52 (Int32.toNatClampNeg ((((x1 - 1) * 61) + x2) - (x5 * x1))))))]) dX10_countFor_49 (by decide) rfl rfl ?_
      refine pv_iload dX10_countFor_51 rfl ?_
      refine pv_iload dX10_countFor_53 rfl ?_
      refine pv_icmp_gt (tgt := 65) dX10_countFor_55 (by decide) (fun c3 => ?_) (fun c3 => ?_)
      · have F := F.1 c3
        refine pv_iinc (v := x5 + 1) (ls' := [some (.ref 50), some (.int x1), some (.int x2), some (.int x3), some (.int x4), some (.int (x5 + 1)), some (.int (x5 + (h 52 (Int32.toNatClampNeg ((((x1 - 1) * 61) + x2) - (x5 * x1))))))]) dX10_countFor_65 rfl (by rfl) rfl rfl ?_
        refine pv_goto (tgt := 9) dX10_countFor_68 (by decide) ?_
        refine pv_forgetL (ls' := [some (.ref 50), some (.int x1), some (.int x2), some (.int x3), some (.int x4), some (.int (x5 + 1)), none]) (pv_subL_ok ⟨rfl, ⟨rfl, ⟨rfl, ⟨rfl, ⟨rfl, ⟨rfl, trivial⟩⟩⟩⟩⟩⟩) ?_
        exact F
      · have F := F.2 c3
        refine pv_iload dX10_countFor_58 rfl ?_
        refine pv_istore_n (ls' := [some (.ref 50), some (.int x1), some (.int x2), some (.int x5), some (.int x4), some (.int x5), some (.int (x5 + (h 52 (Int32.toNatClampNeg ((((x1 - 1) * 61) + x2) - (x5 * x1))))))]) dX10_countFor_60 (by decide) rfl rfl ?_
        refine pv_iload dX10_countFor_61 rfl ?_
        refine pv_istore (ls' := [some (.ref 50), some (.int x1), some (.int x2), some (.int x5), some (.int (x5 + (h 52 (Int32.toNatClampNeg ((((x1 - 1) * 61) + x2) - (x5 * x1)))))), some (.int x5), some (.int (x5 + (h 52 (Int32.toNatClampNeg ((((x1 - 1) * 61) + x2) - (x5 * x1))))))]) dX10_countFor_63 (by decide) rfl rfl ?_
        refine pv_iinc (v := x5 + 1) (ls' := [some (.ref 50), some (.int x1), some (.int x2), some (.int x5), some (.int (x5 + (h 52 (Int32.toNatClampNeg ((((x1 - 1) * 61) + x2) - (x5 * x1)))))), some (.int (x5 + 1)), some (.int (x5 + (h 52 (Int32.toNatClampNeg ((((x1 - 1) * 61) + x2) - (x5 * x1))))))]) dX10_countFor_65 rfl (by rfl) rfl rfl ?_
        refine pv_goto (tgt := 9) dX10_countFor_68 (by decide) ?_
        refine pv_forgetL (ls' := [some (.ref 50), some (.int x1), some (.int x2), some (.int x5), some (.int (x5 + (h 52 (Int32.toNatClampNeg ((((x1 - 1) * 61) + x2) - (x5 * x1)))))), some (.int (x5 + 1)), none]) (pv_subL_ok ⟨rfl, ⟨rfl, ⟨rfl, ⟨rfl, ⟨rfl, ⟨rfl, trivial⟩⟩⟩⟩⟩⟩) ?_
        exact F
set_option maxRecDepth 20000 in
set_option maxHeartbeats 4000000 in
theorem sg_X10_chooseCourse_0 {Γ : pv_C} {d kc ks : Nat} {ty : pv_T} {h : pv_H} {r : pv_R} {g : pv_G} {Q : pv_Q} (x : Int32) (F : pv_E Γ d kc ks mX10_chooseCourse 2 [some (.ref 50), some (.int x), some (.int 0), none, none] [] ty h r g Q) : pv_E Γ d kc ks mX10_chooseCourse 0 [some (.ref 50), some (.int x), none, none, none] [] ty h r g Q := by
  refine pv_iconst (v := 0) (by decide) dX10_chooseCourse_0 ?_
  refine pv_istore_n (ls' := [some (.ref 50), some (.int x), some (.int 0), none, none]) dX10_chooseCourse_1 (by decide) rfl rfl ?_
  exact F
set_option maxRecDepth 20000 in
set_option maxHeartbeats 4000000 in
theorem sg_X10_chooseCourse_2 {Γ : pv_C} {d kc ks : Nat} {ty : pv_T} {h : pv_H} {r : pv_R} {g : pv_G} {Q : pv_Q} (x1 : Int32) (x2 : Int32) (hL : pv_Lay ty r) (F : ((x1 < x2 → pv_E Γ d kc ks mX10_chooseCourse 31 [some (.ref 50), some (.int x1), some (.int 1), none, none] [] ty h r g Q) ∧ (¬ x1 < x2 → ((¬ x2 = 0 → vp_in x2 610 ∧ (∀ h1 : pv_H, h1 = pv_up h 52 (Int32.toNatClampNeg x2) 1000000 → pv_E Γ d kc ks mX10_chooseCourse 2 [some (.ref 50), some (.int x1), some (.int (x2 + 1)), none, none] [] ty h1 r g Q)) ∧ (x2 = 0 → vp_in x2 610 ∧ (∀ h2 : pv_H, h2 = pv_up h 52 (Int32.toNatClampNeg x2) 0 → pv_E Γ d kc ks mX10_chooseCourse 2 [some (.ref 50), some (.int x1), some (.int (x2 + 1)), none, none] [] ty h2 r g Q)))))) : pv_E Γ d kc ks mX10_chooseCourse 2 [some (.ref 50), some (.int x1), some (.int x2), none, none] [] ty h r g Q := by
  refine pv_iload_n dX10_chooseCourse_2 rfl ?_
  refine pv_iload_n dX10_chooseCourse_3 rfl ?_
  refine pv_icmp_gt (tgt := 29) dX10_chooseCourse_4 (by decide) (fun c1 => ?_) (fun c1 => ?_)
  · have F := F.1 c1
    refine pv_iconst (v := 1) (by decide) dX10_chooseCourse_29 ?_
    refine pv_istore_n (ls' := [some (.ref 50), some (.int x1), some (.int 1), none, none]) dX10_chooseCourse_30 (by decide) rfl rfl ?_
    exact F
  · have F := F.2 c1
    refine pv_aload_n dX10_chooseCourse_7 rfl ?_
    refine pv_getRk 10 1 dX10_chooseCourse_8 fl_X10_15 rfl (lt_50 hL) (lr_50_1 hL) ?_
    refine pv_iload_n dX10_chooseCourse_11 rfl ?_
    refine pv_iload_n dX10_chooseCourse_12 rfl ?_
    refine pv_if_ne (tgt := 20) dX10_chooseCourse_13 (by decide) (fun c2 => ?_) (fun c2 => ?_)
    · have F := F.1 c2
      refine pv_ldc (v := 1000000) dX10_chooseCourse_20 kc_X10_32 ?_
      obtain ⟨q1, F⟩ := F
      obtain ⟨h1, eh1⟩ : ∃ h1 : pv_H, h1 = pv_up h 52 (Int32.toNatClampNeg x2) 1000000 := ⟨_, rfl⟩
      have F := F h1 eh1
      refine pv_iast dX10_chooseCourse_22 (lt_52 hL) (by decide) q1 ?_
      refine pv_hE eh1 ?_
      refine pv_iinc (v := x2 + 1) (ls' := [some (.ref 50), some (.int x1), some (.int (x2 + 1)), none, none]) dX10_chooseCourse_23 rfl (by rfl) rfl rfl ?_
      refine pv_goto (tgt := 2) dX10_chooseCourse_26 (by decide) ?_
      exact F
    · have F := F.2 c2
      refine pv_iconst (v := 0) (by decide) dX10_chooseCourse_16 ?_
      refine pv_goto (tgt := 22) dX10_chooseCourse_17 (by decide) ?_
      obtain ⟨q2, F⟩ := F
      obtain ⟨h2, eh2⟩ : ∃ h2 : pv_H, h2 = pv_up h 52 (Int32.toNatClampNeg x2) 0 := ⟨_, rfl⟩
      have F := F h2 eh2
      refine pv_iast dX10_chooseCourse_22 (lt_52 hL) (by decide) q2 ?_
      refine pv_hE eh2 ?_
      refine pv_iinc (v := x2 + 1) (ls' := [some (.ref 50), some (.int x1), some (.int (x2 + 1)), none, none]) dX10_chooseCourse_23 rfl (by rfl) rfl rfl ?_
      refine pv_goto (tgt := 2) dX10_chooseCourse_26 (by decide) ?_
      exact F
set_option maxRecDepth 20000 in
set_option maxHeartbeats 4000000 in
theorem sg_X10_chooseCourse_31 {Γ : pv_C} {d kc ks : Nat} {ty : pv_T} {h : pv_H} {r : pv_R} {g : pv_G} {Q : pv_Q} (x1 : Int32) (x2 : Int32) (hL : pv_Lay ty r) (F : ((9 < x2 → vp_in (549 + x1) 610 ∧ (((h 52 (Int32.toNatClampNeg (549 + x1))) < 1000000 → pv_E Γ d kc ks mX10_chooseCourse 119 [some (.ref 50), some (.int x1), some (.int x1), some (.int 9), none] [] ty h r g Q) ∧ (¬ (h 52 (Int32.toNatClampNeg (549 + x1))) < 1000000 → Q (some (.int (-2))) ty h r g))) ∧ (¬ 9 < x2 → pv_E Γ d kc ks mX10_chooseCourse 39 [some (.ref 50), some (.int x1), some (.int x2), some (.int 0), none] [] ty h r g Q))) : pv_E Γ d kc ks mX10_chooseCourse 31 [some (.ref 50), some (.int x1), some (.int x2), none, none] [] ty h r g Q := by
  refine pv_iload_n dX10_chooseCourse_31 rfl ?_
  refine pv_bipush (v := 9) (by decide) dX10_chooseCourse_32 ?_
  refine pv_icmp_gt (tgt := 96) dX10_chooseCourse_34 (by decide) (fun c1 => ?_) (fun c1 => ?_)
  · have F := F.1 c1
    refine pv_aload_n dX10_chooseCourse_96 rfl ?_
    refine pv_getRk 10 1 dX10_chooseCourse_97 fl_X10_15 rfl (lt_50 hL) (lr_50_1 hL) ?_
    refine pv_sipush (v := 549) (by decide) dX10_chooseCourse_100 ?_
    refine pv_iload_n dX10_chooseCourse_103 rfl ?_
    refine pv_iadd dX10_chooseCourse_104 ?_
    obtain ⟨q1, F⟩ := F
    refine pv_iald dX10_chooseCourse_105 (lt_52 hL) q1 ?_
    refine pv_ldc (v := 1000000) dX10_chooseCourse_106 kc_X10_32 ?_
    refine pv_icmp_lt (tgt := 114) dX10_chooseCourse_108 (by decide) (fun c2 => ?_) (fun c2 => ?_)
    · have F := F.1 c2
      refine pv_iload_n dX10_chooseCourse_114 rfl ?_
      refine pv_istore_n (ls' := [some (.ref 50), some (.int x1), some (.int x1), none, none]) dX10_chooseCourse_115 (by decide) rfl rfl ?_
      refine pv_bipush (v := 9) (by decide) dX10_chooseCourse_116 ?_
      refine pv_istore_n (ls' := [some (.ref 50), some (.int x1), some (.int x1), some (.int 9), none]) dX10_chooseCourse_118 (by decide) rfl rfl ?_
      exact F
    · have F := F.2 c2
      refine pv_bipush (v := (-2)) (by decide) dX10_chooseCourse_111 ?_
      exact pv_ireturn dX10_chooseCourse_113 rfl rfl F
  · have F := F.2 c1
    refine pv_iconst (v := 0) (by decide) dX10_chooseCourse_37 ?_
    refine pv_istore_n (ls' := [some (.ref 50), some (.int x1), some (.int x2), some (.int 0), none]) dX10_chooseCourse_38 (by decide) rfl rfl ?_
    exact F
set_option maxRecDepth 20000 in
set_option maxHeartbeats 4000000 in
theorem sg_X10_chooseCourse_39 {Γ : pv_C} {d kc ks : Nat} {ty : pv_T} {h : pv_H} {r : pv_R} {g : pv_G} {Q : pv_Q} (x1 : Int32) (x2 : Int32) (x3 : Int32) (hd : 1 ≤ d) (hL : pv_Lay ty r) (F : ((x1 < x3 → pv_E Γ d kc ks mX10_chooseCourse 31 [some (.ref 50), some (.int x1), some (.int (x2 + 1)), none, none] [] ty h r g Q) ∧ (¬ x1 < x3 → pv_CJ Γ (d - 1) mX10_countFor [.ref 50, .int x2, .int x3] ty h r g (fun (w1 : Int32) (h1 : pv_H) => vp_in ((((x2 - 1) * 61) + x3) - (w1 * x2)) 610 ∧ vp_in ((x2 * 61) + x3) 610 ∧ (∀ h2 : pv_H, h2 = pv_up h1 52 (Int32.toNatClampNeg ((x2 * 61) + x3)) (w1 + (h1 52 (Int32.toNatClampNeg ((((x2 - 1) * 61) + x3) - (w1 * x2))))) → pv_E Γ d kc ks mX10_chooseCourse 39 [some (.ref 50), some (.int x1), some (.int x2), some (.int (x3 + 1)), none] [] ty h2 r g Q))))) : pv_E Γ d kc ks mX10_chooseCourse 39 [some (.ref 50), some (.int x1), some (.int x2), some (.int x3), none] [] ty h r g Q := by
  refine pv_iload_n dX10_chooseCourse_39 rfl ?_
  refine pv_iload_n dX10_chooseCourse_40 rfl ?_
  refine pv_icmp_gt (tgt := 90) dX10_chooseCourse_41 (by decide) (fun c1 => ?_) (fun c1 => ?_)
  · have F := F.1 c1
    refine pv_iinc (v := x2 + 1) (ls' := [some (.ref 50), some (.int x1), some (.int (x2 + 1)), some (.int x3), none]) dX10_chooseCourse_90 rfl (by rfl) rfl rfl ?_
    refine pv_goto (tgt := 31) dX10_chooseCourse_93 (by decide) ?_
    refine pv_forgetL (ls' := [some (.ref 50), some (.int x1), some (.int (x2 + 1)), none, none]) (pv_subL_ok ⟨rfl, ⟨rfl, ⟨rfl, trivial⟩⟩⟩) ?_
    exact F
  · have F := F.2 c1
    refine pv_aload_n dX10_chooseCourse_44 rfl ?_
    refine pv_iload_n dX10_chooseCourse_45 rfl ?_
    refine pv_iload_n dX10_chooseCourse_46 rfl ?_
    refine pv_invV (As := [.int x2, .int x3]) (d' := d - 1) dX10_chooseCourse_47 moX10_countFor ml_X10_33 (lt_50 hL) (Or.inl ⟨_, rfl, rfl⟩) (Nat.le_of_ble_eq_true rfl) (by omega) (Nat.zero_le _) (Nat.zero_le _) F (fun v ty' h1 r' g' hq => ?_) rfl
    obtain ⟨e2, e4, e5, w1, e1, F⟩ := hq
    rw [e1, e2, e4, e5]
    refine pv_pc (pc' := 50) rfl ?_
    show pv_E Γ d kc ks mX10_chooseCourse 50 [some (.ref 50), some (.int x1), some (.int x2), some (.int x3), none] [.int w1] ty h1 r g Q
    refine pv_istore (ls' := [some (.ref 50), some (.int x1), some (.int x2), some (.int x3), some (.int w1)]) dX10_chooseCourse_50 (by decide) rfl rfl ?_
    refine pv_aload_n dX10_chooseCourse_52 rfl ?_
    refine pv_getRk 10 1 dX10_chooseCourse_53 fl_X10_15 rfl (lt_50 hL) (lr_50_1 hL) ?_
    refine pv_iload_n dX10_chooseCourse_56 rfl ?_
    refine pv_bipush (v := 61) (by decide) dX10_chooseCourse_57 ?_
    refine pv_imul dX10_chooseCourse_59 ?_
    refine pv_pc (pc' := 60) rfl ?_
    refine pv_iload_n dX10_chooseCourse_60 rfl ?_
    refine pv_iadd dX10_chooseCourse_61 ?_
    refine pv_iload dX10_chooseCourse_62 rfl ?_
    refine pv_aload_n dX10_chooseCourse_64 rfl ?_
    refine pv_getRk 10 1 dX10_chooseCourse_65 fl_X10_15 rfl (lt_50 hL) (lr_50_1 hL) ?_
    refine pv_iload_n dX10_chooseCourse_68 rfl ?_
    refine pv_pc (pc' := 69) rfl ?_
    refine pv_iconst (v := 1) (by decide) dX10_chooseCourse_69 ?_
    refine pv_isub dX10_chooseCourse_70 ?_
    refine pv_bipush (v := 61) (by decide) dX10_chooseCourse_71 ?_
    refine pv_imul dX10_chooseCourse_73 ?_
    refine pv_iload_n dX10_chooseCourse_74 rfl ?_
    refine pv_iadd dX10_chooseCourse_75 ?_
    refine pv_pc (pc' := 76) rfl ?_
    refine pv_iload dX10_chooseCourse_76 rfl ?_
    refine pv_iload_n dX10_chooseCourse_78 rfl ?_
    refine pv_imul dX10_chooseCourse_79 ?_
    refine pv_isub dX10_chooseCourse_80 ?_
    obtain ⟨q1, F⟩ := F
    refine pv_iald dX10_chooseCourse_81 (lt_52 hL) q1 ?_
    refine pv_iadd dX10_chooseCourse_82 ?_
    obtain ⟨q2, F⟩ := F
    obtain ⟨h2, eh2⟩ : ∃ h2 : pv_H, h2 = pv_up h1 52 (Int32.toNatClampNeg ((x2 * 61) + x3)) (w1 + (h1 52 (Int32.toNatClampNeg ((((x2 - 1) * 61) + x3) - (w1 * x2))))) := ⟨_, rfl⟩
    have F := F h2 eh2
    refine pv_iast dX10_chooseCourse_83 (lt_52 hL) (by decide) q2 ?_
    refine pv_hE eh2 ?_
    refine pv_iinc (v := x3 + 1) (ls' := [some (.ref 50), some (.int x1), some (.int x2), some (.int (x3 + 1)), some (.int w1)]) dX10_chooseCourse_84 rfl (by rfl) rfl rfl ?_
    refine pv_goto (tgt := 39) dX10_chooseCourse_87 (by decide) ?_
    refine pv_forgetL (ls' := [some (.ref 50), some (.int x1), some (.int x2), some (.int (x3 + 1)), none]) (pv_subL_ok ⟨rfl, ⟨rfl, ⟨rfl, ⟨rfl, trivial⟩⟩⟩⟩) ?_
    exact F
set_option maxRecDepth 20000 in
set_option maxHeartbeats 4000000 in
theorem sg_X10_chooseCourse_119 {Γ : pv_C} {d kc ks : Nat} {ty : pv_T} {h : pv_H} {r : pv_R} {g : pv_G} {Q : pv_Q} (x1 : Int32) (x2 : Int32) (x3 : Int32) (hd : 1 ≤ d) (hL : pv_Lay ty r) (F : ((x3 < 1 → vp_in (549 + x1) 610 ∧ Q (some (.int (h 52 (Int32.toNatClampNeg (549 + x1))))) ty h r g) ∧ (¬ x3 < 1 → pv_CJ Γ (d - 1) mX10_countFor [.ref 50, .int x3, .int x2] ty h r g (fun (w1 : Int32) (h1 : pv_H) => vp_in x3 10 ∧ (∀ h2 : pv_H, h2 = pv_up h1 53 (Int32.toNatClampNeg x3) w1 → vp_in x3 10 ∧ pv_E Γ d kc ks mX10_chooseCourse 119 [some (.ref 50), some (.int x1), some (.int (x2 - ((h2 53 (Int32.toNatClampNeg x3)) * x3))), some (.int (x3 + (-1))), none] [] ty h2 r g Q))))) : pv_E Γ d kc ks mX10_chooseCourse 119 [some (.ref 50), some (.int x1), some (.int x2), some (.int x3), none] [] ty h r g Q := by
  refine pv_iload_n dX10_chooseCourse_119 rfl ?_
  refine pv_iconst (v := 1) (by decide) dX10_chooseCourse_120 ?_
  refine pv_icmp_lt (tgt := 153) dX10_chooseCourse_121 (by decide) (fun c1 => ?_) (fun c1 => ?_)
  · have F := F.1 c1
    refine pv_aload_n dX10_chooseCourse_153 rfl ?_
    refine pv_getRk 10 1 dX10_chooseCourse_154 fl_X10_15 rfl (lt_50 hL) (lr_50_1 hL) ?_
    refine pv_sipush (v := 549) (by decide) dX10_chooseCourse_157 ?_
    refine pv_iload_n dX10_chooseCourse_160 rfl ?_
    refine pv_iadd dX10_chooseCourse_161 ?_
    obtain ⟨q1, F⟩ := F
    refine pv_iald dX10_chooseCourse_162 (lt_52 hL) q1 ?_
    exact pv_ireturn dX10_chooseCourse_163 rfl rfl F
  · have F := F.2 c1
    refine pv_aload_n dX10_chooseCourse_124 rfl ?_
    refine pv_getRk 10 2 dX10_chooseCourse_125 fl_X10_18 rfl (lt_50 hL) (lr_50_2 hL) ?_
    refine pv_iload_n dX10_chooseCourse_128 rfl ?_
    refine pv_aload_n dX10_chooseCourse_129 rfl ?_
    refine pv_iload_n dX10_chooseCourse_130 rfl ?_
    refine pv_iload_n dX10_chooseCourse_131 rfl ?_
    refine pv_pc (pc' := 132) rfl ?_
    refine pv_invV (As := [.int x3, .int x2]) (d' := d - 1) dX10_chooseCourse_132 moX10_countFor ml_X10_33 (lt_50 hL) (Or.inl ⟨_, rfl, rfl⟩) (Nat.le_of_ble_eq_true rfl) (by omega) (Nat.zero_le _) (Nat.zero_le _) F (fun v ty' h1 r' g' hq => ?_) rfl
    obtain ⟨e2, e4, e5, w1, e1, F⟩ := hq
    rw [e1, e2, e4, e5]
    refine pv_pc (pc' := 135) rfl ?_
    show pv_E Γ d kc ks mX10_chooseCourse 135 [some (.ref 50), some (.int x1), some (.int x2), some (.int x3), none] [.int w1, .int x3, .ref 53] ty h1 r g Q
    obtain ⟨q2, F⟩ := F
    obtain ⟨h2, eh2⟩ : ∃ h2 : pv_H, h2 = pv_up h1 53 (Int32.toNatClampNeg x3) w1 := ⟨_, rfl⟩
    have F := F h2 eh2
    refine pv_iast dX10_chooseCourse_135 (lt_53 hL) (by decide) q2 ?_
    refine pv_hE eh2 ?_
    refine pv_iload_n dX10_chooseCourse_136 rfl ?_
    refine pv_aload_n dX10_chooseCourse_137 rfl ?_
    refine pv_getRk 10 2 dX10_chooseCourse_138 fl_X10_18 rfl (lt_50 hL) (lr_50_2 hL) ?_
    refine pv_iload_n dX10_chooseCourse_141 rfl ?_
    obtain ⟨q3, F⟩ := F
    refine pv_iald dX10_chooseCourse_142 (lt_53 hL) q3 ?_
    refine pv_iload_n dX10_chooseCourse_143 rfl ?_
    refine pv_imul dX10_chooseCourse_144 ?_
    refine pv_isub dX10_chooseCourse_145 ?_
    refine pv_istore_n (ls' := [some (.ref 50), some (.int x1), some (.int (x2 - ((h2 53 (Int32.toNatClampNeg x3)) * x3))), some (.int x3), none]) dX10_chooseCourse_146 (by decide) rfl rfl ?_
    refine pv_iinc (v := x3 + (-1)) (ls' := [some (.ref 50), some (.int x1), some (.int (x2 - ((h2 53 (Int32.toNatClampNeg x3)) * x3))), some (.int (x3 + (-1))), none]) dX10_chooseCourse_147 rfl (by rfl) rfl rfl ?_
    refine pv_goto (tgt := 119) dX10_chooseCourse_150 (by decide) ?_
    exact F
section YC
variable {Γ : pv_C} {d kc ks : Nat} {ty : pv_T} {h h0 : pv_H} {r : pv_R} {g : pv_G} {Q : pv_Q} {st : Nat → Nat} {s v w : Nat}
abbrev yC : Nat → Nat → Prop := fun a _ => a = 52 ∨ a = 53
theorem yc_9 (hL : pv_Lay ty r) (hs : s < 9) (hv : v ≤ w) (hw : w ≤ 60) (hst : yd_st st h 51) (hG : ∀ u, u ≤ w → h 52 (61 * s + u) = nI (yd_F st s u)) (hQ : Q (some (.int (nI (yd_B st s v)))) ty h r g) : ∀ (m k : Nat), k + m = yd_K st (s + 1) v → pv_E Γ d kc ks mX10_countFor 9 [some (.ref 50), some (.int (nI (s + 1))), some (.int (nI v)), some (.int (nI (yd_bs (yd_F st s) (s + 1) v k))), some (.int (nI (yd_mn (yd_F st s) (s + 1) v k))), some (.int (nI k)), none] [] ty h r g Q := by
  intro m
  have h314 : h 51 (nI (s + 1)).toNatClampNeg = nI (st (s + 1)) := by rw [nI_clamp (by omega)]; exact (hst (s + 1) (by omega)).2
  have hle := (hst (s + 1) (by omega)).1
  have hi : vp_in (nI (s + 1)) 10 := vp_in_nI (by omega) (by decide)
  have hKb : yd_K st (s + 1) v ≤ 1000 := by unfold yd_K; omega
  induction m with
  | zero =>
    intro k hk
    have hKi := yd_K_iff (st := st) (s := s) (v := v) (k := k)
    have hks : k * (s + 1) ≤ 1000 * 9 := Nat.mul_le_mul (by omega) (by omega)
    have hQ' : Q (some (.int (nI (yd_bs (yd_F st s) (s + 1) v k)))) ty h r g := by rw [show k = yd_K st (s + 1) v by omega]; exact hQ
    exact sg_X10_countFor_9 _ _ _ _ _ hL ⟨hi, pk_lt (st (s + 1)) k (fun _ => hQ') (fun c1 => pk_lt v (k * (s + 1)) (fun _ => hQ') (fun c2 => absurd (hKi.mpr ⟨c1, c2⟩) (by omega)) rfl (pk_mul _ _)) h314⟩
  | succ m ih =>
    intro k hk
    have hKi := (yd_K_iff (st := st) (s := s) (v := v) (k := k)).mp (by omega)
    have hks : k * (s + 1) ≤ 1000 * 9 := Nat.mul_le_mul (by omega) (by omega)
    have hj2 : vp_in ((nI (s + 1) - 1) * 61 + nI v - nI k * nI (s + 1)) 610 := by rw [yi_2 hKi.2]; exact vp_in_nI (by omega) (by decide)
    have hi' := ih (k + 1) (by omega)
    have e1 : yd_mn (yd_F st s) (s + 1) v (k + 1) = min (yd_mn (yd_F st s) (s + 1) v k) (yd_F st s (v - k * (s + 1)) + k) := rfl
    have e0 : yd_bs (yd_F st s) (s + 1) v (k + 1) = if yd_F st s (v - k * (s + 1)) + k ≤ yd_mn (yd_F st s) (s + 1) v k then k else yd_bs (yd_F st s) (s + 1) v k := rfl
    have b1 := yd_mn_le (yd_F st s) (s + 1) v k
    have b2 := yd_F_le st s (v - k * (s + 1))
    have e2 : nI k + h 52 (Int32.toNatClampNeg ((nI (s + 1) - 1) * 61 + nI v - nI k * nI (s + 1))) = nI (yd_F st s (v - k * (s + 1)) + k) := by
      rw [yi_2 hKi.2, nI_clamp (by omega), hG _ (by omega), nI_add, Nat.add_comm]
    refine sg_X10_countFor_9 _ _ _ _ _ hL ⟨hi, pk_lt (st (s + 1)) k (fun c1 => absurd hKi.1 (by omega)) (fun c1 => pk_lt v (k * (s + 1)) (fun c2 => absurd hKi.2 (by omega)) (fun c2 => ⟨hj2, ?_⟩) rfl (pk_mul _ _)) h314⟩
    rw [e2, nI_1]
    refine pk_lt _ _ (fun c3 => ?_) (fun c3 => ?_)
    · rw [e1, e0, if_neg (by omega), Nat.min_eq_left (by omega)] at hi'; exact hi'
    · rw [e1, e0, if_pos c3, Nat.min_eq_right c3] at hi'; exact hi'
theorem ct_X10_countFor (hL : pv_Lay ty r) (hs : s < 9) (hv : v ≤ w) (hw : w ≤ 60) (hst : yd_st st h 51) (hG : ∀ u, u ≤ w → h 52 (61 * s + u) = nI (yd_F st s u)) : pv_CJ Γ d mX10_countFor [.ref 50, .int (nI (s + 1)), .int (nI v)] ty h r g (fun x h' => x = nI (yd_B st s v) ∧ h' = h) :=
  pv_fn 4 pn_X10 rfl (Nat.le_of_ble_eq_true rfl) (sg_X10_countFor_0 _ _ (yc_9 hL hs hv hw hst hG (pv_jqi ⟨rfl, rfl⟩) _ 0 (Nat.zero_add _)))
theorem yc_39 (hd : 1 ≤ d) (hL : pv_Lay ty r) (hs : s < 9) (hw : w ≤ 60) (hst : yd_st st h0 51) (hE : ∀ h', pv_fr yC h0 h' → yd_tb st h' 52 w (s + 2) 0 → pv_E Γ d kc ks mX10_chooseCourse 31 [some (.ref 50), some (.int (nI w)), some (.int (nI (s + 2))), none, none] [] ty h' r g Q) : ∀ (m v : Nat) (h : pv_H), v + m = w + 1 → pv_fr yC h0 h → yd_tb st h 52 w (s + 1) v → pv_E Γ d kc ks mX10_chooseCourse 39 [some (.ref 50), some (.int (nI w)), some (.int (nI (s + 1))), some (.int (nI v)), none] [] ty h r g Q := by
  intro m
  induction m with
  | zero =>
    intro v h hv hf t
    refine sg_X10_chooseCourse_39 _ _ _ hd hL (pk_lt w v (fun _ => ?_) (fun c => absurd hv (by omega)))
    rw [nI_1]
    rw [show v = w + 1 by omega] at t
    exact hE h hf (yd_tb_nx t)
  | succ m ih =>
    intro v h hv hf t
    have hG : ∀ u, u ≤ w → h 52 (61 * s + u) = nI (yd_F st s u) := fun u hu => t.1 s u (by omega) hu
    have hB := yd_B_le st s v
    refine sg_X10_chooseCourse_39 _ _ _ hd hL (pk_lt w v (fun c => absurd c (by omega)) (fun c => pv_CJ.mono (ct_X10_countFor hL hs (show v ≤ w by omega) hw (yd_st_fr hf (fun j => by simp) hst) hG) (fun x h' q => ?_)))
    obtain ⟨rfl, rfl⟩ := q
    refine ⟨by rw [yi_2 hB.2]; exact vp_in_nI (by omega) (by decide), by rw [ni_61r]; exact vp_in_nI (by omega) (by decide), fun h2 e2 => ?_⟩
    rw [yi_2 hB.2, ni_61r, nI_clamp (by omega), nI_clamp (by omega), hG _ (by omega), nI_add, show yd_B st s v + yd_F st s (v - yd_B st s v * (s + 1)) = yd_F st (s + 1) v by have := (yd_F_B st s v).1; omega] at e2
    rw [e2, nI_1]
    exact ih (v + 1) _ (by omega) (pv_fr_up hf (Or.inl rfl)) (yd_tb_up hw (by omega) t)
theorem yc_31 (hd : 1 ≤ d) (hL : pv_Lay ty r) (hw : w ≤ 60) (hst : yd_st st h0 51) (hE : ∀ h', pv_fr yC h0 h' → yd_tb st h' 52 w 10 0 → pv_E Γ d kc ks mX10_chooseCourse 31 [some (.ref 50), some (.int (nI w)), some (.int (nI 10)), none, none] [] ty h' r g Q) : ∀ (m s : Nat) (h : pv_H), s + m = 9 → pv_fr yC h0 h → yd_tb st h 52 w (s + 1) 0 → pv_E Γ d kc ks mX10_chooseCourse 31 [some (.ref 50), some (.int (nI w)), some (.int (nI (s + 1))), none, none] [] ty h r g Q := by
  intro m
  induction m with
  | zero =>
    intro s h hs hf t
    rw [show s = 9 by omega] at t ⊢
    exact hE h hf t
  | succ m ih =>
    intro s h hs hf t
    refine sg_X10_chooseCourse_31 _ _ hL (pk_lt 9 (s + 1) (fun c => absurd c (by omega)) (fun c => ?_))
    exact yc_39 hd hL (by omega) hw hst (fun h' f' t' => ih (s + 1) h' (by omega) f' t') (w + 1) 0 h (by omega) hf t
theorem yc_2 (hL : pv_Lay ty r) (hw : w ≤ 60) (hE : ∀ h', pv_fr yC h0 h' → yd_tb st h' 52 w 1 0 → pv_E Γ d kc ks mX10_chooseCourse 31 [some (.ref 50), some (.int (nI w)), some (.int (nI 1)), none, none] [] ty h' r g Q) : ∀ (m v : Nat) (h : pv_H), v + m = w + 1 → pv_fr yC h0 h → yd_tb st h 52 w 0 v → pv_E Γ d kc ks mX10_chooseCourse 2 [some (.ref 50), some (.int (nI w)), some (.int (nI v)), none, none] [] ty h r g Q := by
  intro m
  induction m with
  | zero =>
    intro v h hv hf t
    refine sg_X10_chooseCourse_2 _ _ hL (pk_lt w v (fun _ => ?_) (fun c => absurd hv (by omega)))
    rw [show v = w + 1 by omega] at t
    exact hE h hf (yd_tb_nx t)
  | succ m ih =>
    intro v h hv hf t
    have hi : vp_in (nI v) 610 := vp_in_nI (by omega) (by decide)
    have t' := yd_tb_up hw (show v ≤ w by omega) t
    have hi' := ih (v + 1) _ (by omega) (pv_fr_up hf (Or.inl rfl)) t'
    rw [Nat.mul_zero, Nat.zero_add] at hi'
    refine sg_X10_chooseCourse_2 _ _ hL (pk_lt w v (fun c => absurd c (by omega)) (fun c => pj_eq v 0 (fun c1 => ⟨hi, fun h1 e1 => ?_⟩) (fun c1 => ⟨hi, fun h1 e1 => ?_⟩)))
    · rw [e1, nI_1, nI_clamp (by omega)]
      have e2 : yd_F st 0 v = 0 := by unfold yd_F; rw [if_pos c1]
      rw [e2] at hi'; exact hi'
    · rw [e1, nI_1, nI_clamp (by omega)]
      have e2 : yd_F st 0 v = 1000000 := by unfold yd_F; rw [if_neg c1]
      rw [e2] at hi'; exact hi'
theorem yc_119 (hd : 1 ≤ d) (hL : pv_Lay ty r) (hw : w ≤ 60) (hst : yd_st st h0 51) (hQ : ∀ h', pv_fr yC h0 h' → (∀ j, j < 9 → h' 53 (9 - j) = nI (yd_T st w j)) → Q (some (.int (nI (yd_F st 9 w)))) ty h' r g) : ∀ (m j : Nat) (h : pv_H), j + m = 9 → pv_fr yC h0 h → yd_tb st h 52 w 10 0 → (∀ i, i < j → h 53 (9 - i) = nI (yd_T st w i)) → pv_E Γ d kc ks mX10_chooseCourse 119 [some (.ref 50), some (.int (nI w)), some (.int (nI (yd_l st w j))), some (.int (nI (9 - j))), none] [] ty h r g Q := by
  intro m
  induction m with
  | zero =>
    intro j h hj hf t hT
    rw [show j = 9 by omega] at hT ⊢
    have e1 : h 52 (549 + nI w).toNatClampNeg = nI (yd_F st 9 w) := by
      rw [show (549 : Int32) = nI 549 from rfl, nI_add, nI_clamp (by omega)]
      exact t.1 9 w (by omega) (Nat.le_refl _)
    refine sg_X10_chooseCourse_119 _ _ _ hd hL (pk_lt 0 1 (fun _ => ⟨?_, ?_⟩) (fun c => absurd c (by omega)))
    · rw [show (549 : Int32) = nI 549 from rfl, nI_add]; exact vp_in_nI (by omega) (by decide)
    · rw [e1]; exact hQ h hf hT
  | succ m ih =>
    intro j h hj hf t hT
    have hl := yd_l_le st w j
    obtain ⟨s, hs⟩ : ∃ s, s = 8 - j := ⟨_, rfl⟩
    rw [show 9 - j = s + 1 by omega]
    have hB := yd_B_le st s (yd_l st w j)
    have hst' := yd_st_fr hf (fun j => by simp) hst
    have hle := (hst' (s + 1) (by omega)).1
    have hi : vp_in (nI (s + 1)) 10 := vp_in_nI (by omega) (by decide)
    refine sg_X10_chooseCourse_119 _ _ _ hd hL (pk_lt (s + 1) 1 (fun c => absurd c (by omega)) (fun _ => pv_CJ.mono (ct_X10_countFor hL (by omega) hl hw hst' (fun u hu => t.1 s u (by omega) hu)) (fun x h' q => ?_)))
    obtain ⟨rfl, rfl⟩ := q
    refine ⟨hi, fun h2 e2 => ⟨hi, ?_⟩⟩
    rw [nI_clamp (by omega)] at e2 ⊢
    rw [e2, pv_up_same, pk_mul, pk_sub hB.2, pk_m1]
    have h1 := ih (j + 1) (pv_up h' 53 (s + 1) (nI (yd_B st s (yd_l st w j)))) (by omega) (pv_fr_up hf (Or.inr rfl)) ⟨fun s' u a b => by rw [pv_up_a (by decide)]; exact t.1 s' u a b, fun u hu => absurd hu (by omega)⟩ (fun i hi => by
      by_cases q : i = j
      · rw [q, show 9 - j = s + 1 by omega, pv_up_same, hs]; rfl
      · rw [pv_up_j (by omega)]; exact hT i (by omega))
    have e3 : yd_l st w (j + 1) = yd_l st w j - yd_B st s (yd_l st w j) * (s + 1) := by rw [hs]; rfl
    rw [e3, show 9 - (j + 1) = s by omega] at h1
    exact h1
theorem ct_X10_chooseCourse (hd : 1 ≤ d) (hL : pv_Lay ty r) (hw : w ≤ 60) (hst : yd_st st h 51) : pv_CJ Γ d mX10_chooseCourse [.ref 50, .int (nI w)] ty h r g (fun x h' => pv_fr yC h h' ∧ (yd_F st 9 w < 1000000 → x = nI (yd_F st 9 w) ∧ ∀ j, j < 9 → h' 53 (9 - j) = nI (yd_T st w j)) ∧ (¬ yd_F st 9 w < 1000000 → x = -2)) := by
  refine pv_fn 3 pn_X10 rfl (Nat.le_of_ble_eq_true rfl) (sg_X10_chooseCourse_0 _ (yc_2 hL hw (fun h1 f1 t1 => yc_31 hd hL hw hst (fun h2 f2 t2 => ?_) 9 0 h1 rfl f1 t1) (w + 1) 0 h (by omega) (pv_fr_refl _ _) ⟨fun s' u a _ => absurd a (by omega), fun u hu => absurd hu (by omega)⟩))
  have e1 : h2 52 (549 + nI w).toNatClampNeg = nI (yd_F st 9 w) := by
    rw [show (549 : Int32) = nI 549 from rfl, nI_add, nI_clamp (by omega)]
    exact t2.1 9 w (by omega) (Nat.le_refl _)
  have b := yd_F_le st 9 w
  refine sg_X10_chooseCourse_31 _ _ hL (pk_lt 9 10 (fun _ => ⟨?_, ?_⟩) (fun c => absurd c (by omega)))
  · rw [show (549 : Int32) = nI 549 from rfl, nI_add]; exact vp_in_nI (by omega) (by decide)
  · rw [e1]
    refine pk_lt (yd_F st 9 w) 1000000 (fun c => ?_) (fun c => pv_jqi ⟨f2, fun q => absurd q (by omega), fun _ => rfl⟩)
    exact yc_119 hd hL hw hst (fun h' f' hT => pv_jqi ⟨f', fun _ => ⟨rfl, hT⟩, fun q => absurd c q⟩) 9 0 h2 rfl f2 t2 (fun i hi => absurd hi (by omega))
end YC
