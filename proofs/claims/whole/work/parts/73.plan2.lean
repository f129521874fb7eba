/-! plan: the class tries all choices -/
set_option maxRecDepth 20000 in
set_option maxHeartbeats 4000000 in
theorem sg_X7_keepIfBetter_0 {Γ : pv_C} {d kc ks : Nat} {ty : pv_T} {h : pv_H} {r : pv_R} {g : pv_G} {Q : pv_Q} (x : Int32) (y : Int32) (hd : 1 ≤ d) (hL : pv_Lay ty r) (F : (((h 60 9) < x → (∀ h1 : pv_H, h1 = pv_up h 60 9 x → (∀ h2 : pv_H, h2 = pv_up h1 60 10 y → pv_acpOK ty 65 0 66 0 6 ∧ (∀ h3 : pv_H, h3 = pv_cpy h2 65 (Int32.toNatClampNeg 0) 66 (Int32.toNatClampNeg 0) (Int32.toNatClampNeg 6) → Q none ty h3 r g)))) ∧ (¬ (h 60 9) < x → ((¬ x = (h 60 9) → Q none ty h r g) ∧ (x = (h 60 9) → (((h 60 10) ≤ y → Q none ty h r g) ∧ (¬ (h 60 10) ≤ y → (∀ h4 : pv_H, h4 = pv_up h 60 9 x → (∀ h5 : pv_H, h5 = pv_up h4 60 10 y → pv_acpOK ty 65 0 66 0 6 ∧ (∀ h6 : pv_H, h6 = pv_cpy h5 65 (Int32.toNatClampNeg 0) 66 (Int32.toNatClampNeg 0) (Int32.toNatClampNeg 6) → Q none ty h6 r g)))))))))) : pv_E Γ d kc ks mX7_keepIfBetter 0 [some (.ref 60), some (.int x), some (.int y)] [] ty h r g Q := by
  refine pv_iload_n dX7_keepIfBetter_0 rfl ?_
  refine pv_aload_n dX7_keepIfBetter_1 rfl ?_
  refine pv_getI 7 9 dX7_keepIfBetter_2 fl_X7_46 rfl (lt_60 hL) ?_
  refine pv_icmp_gt (tgt := 24) dX7_keepIfBetter_5 (by decide) (fun c1 => ?_) (fun c1 => ?_)
  · have F := F.1 c1
    refine pv_aload_n dX7_keepIfBetter_24 rfl ?_
    refine pv_iload_n dX7_keepIfBetter_25 rfl ?_
    obtain ⟨h1, eh1⟩ : ∃ h1 : pv_H, h1 = pv_up h 60 9 x := ⟨_, rfl⟩
    have F := F h1 eh1
    refine pv_putI 7 9 dX7_keepIfBetter_26 fl_X7_46 ⟨_, rfl, Or.inl rfl⟩ (Or.inl rfl) (lt_60 hL) ?_
    refine pv_hE eh1 ?_
    refine pv_aload_n dX7_keepIfBetter_29 rfl ?_
    refine pv_iload_n dX7_keepIfBetter_30 rfl ?_
    obtain ⟨h2, eh2⟩ : ∃ h2 : pv_H, h2 = pv_up h1 60 10 y := ⟨_, rfl⟩
    have F := F h2 eh2
    refine pv_putI 7 10 dX7_keepIfBetter_31 fl_X7_49 ⟨_, rfl, Or.inl rfl⟩ (Or.inl rfl) (lt_60 hL) ?_
    refine pv_hE eh2 ?_
    refine pv_aload_n dX7_keepIfBetter_34 rfl ?_
    refine pv_getRk 7 4 dX7_keepIfBetter_35 fl_X7_24 rfl (lt_60 hL) (lr_60_4 hL) ?_
    refine pv_iconst (v := 0) (by decide) dX7_keepIfBetter_38 ?_
    refine pv_aload_n dX7_keepIfBetter_39 rfl ?_
    refine pv_getRk 7 5 dX7_keepIfBetter_40 fl_X7_27 rfl (lt_60 hL) (lr_60_5 hL) ?_
    refine pv_iconst (v := 0) (by decide) dX7_keepIfBetter_43 ?_
    refine pv_pc (pc' := 44) rfl ?_
    refine pv_bipush (v := 6) (by decide) dX7_keepIfBetter_44 ?_
    obtain ⟨q1, F⟩ := F
    obtain ⟨h3, eh3⟩ : ∃ h3 : pv_H, h3 = pv_cpy h2 65 (Int32.toNatClampNeg 0) 66 (Int32.toNatClampNeg 0) (Int32.toNatClampNeg 6) := ⟨_, rfl⟩
    have F := F h3 eh3
    refine pv_acopy dX7_keepIfBetter_46 ml_X7_70 acp_n acp_s acp_i q1 (by omega) (Nat.le_of_ble_eq_true rfl) ?_
    refine pv_hE eh3 ?_
    exact pv_return dX7_keepIfBetter_49 rfl F
  · have F := F.2 c1
    refine pv_iload_n dX7_keepIfBetter_8 rfl ?_
    refine pv_aload_n dX7_keepIfBetter_9 rfl ?_
    refine pv_getI 7 9 dX7_keepIfBetter_10 fl_X7_46 rfl (lt_60 hL) ?_
    refine pv_icmp_ne (tgt := 49) dX7_keepIfBetter_13 (by decide) (fun c2 => ?_) (fun c2 => ?_)
    · have F := F.1 c2
      exact pv_return dX7_keepIfBetter_49 rfl F
    · have F := F.2 c2
      refine pv_iload_n dX7_keepIfBetter_16 rfl ?_
      refine pv_aload_n dX7_keepIfBetter_17 rfl ?_
      refine pv_getI 7 10 dX7_keepIfBetter_18 fl_X7_49 rfl (lt_60 hL) ?_
      refine pv_icmp_ge (tgt := 49) dX7_keepIfBetter_21 (by decide) (fun c3 => ?_) (fun c3 => ?_)
      · have F := F.1 c3
        exact pv_return dX7_keepIfBetter_49 rfl F
      · have F := F.2 c3
        refine pv_aload_n dX7_keepIfBetter_24 rfl ?_
        refine pv_iload_n dX7_keepIfBetter_25 rfl ?_
        obtain ⟨h4, eh4⟩ : ∃ h4 : pv_H, h4 = pv_up h 60 9 x := ⟨_, rfl⟩
        have F := F h4 eh4
        refine pv_putI 7 9 dX7_keepIfBetter_26 fl_X7_46 ⟨_, rfl, Or.inl rfl⟩ (Or.inl rfl) (lt_60 hL) ?_
        refine pv_hE eh4 ?_
        refine pv_aload_n dX7_keepIfBetter_29 rfl ?_
        refine pv_iload_n dX7_keepIfBetter_30 rfl ?_
        obtain ⟨h5, eh5⟩ : ∃ h5 : pv_H, h5 = pv_up h4 60 10 y := ⟨_, rfl⟩
        have F := F h5 eh5
        refine pv_putI 7 10 dX7_keepIfBetter_31 fl_X7_49 ⟨_, rfl, Or.inl rfl⟩ (Or.inl rfl) (lt_60 hL) ?_
        refine pv_hE eh5 ?_
        refine pv_aload_n dX7_keepIfBetter_34 rfl ?_
        refine pv_getRk 7 4 dX7_keepIfBetter_35 fl_X7_24 rfl (lt_60 hL) (lr_60_4 hL) ?_
        refine pv_iconst (v := 0) (by decide) dX7_keepIfBetter_38 ?_
        refine pv_aload_n dX7_keepIfBetter_39 rfl ?_
        refine pv_getRk 7 5 dX7_keepIfBetter_40 fl_X7_27 rfl (lt_60 hL) (lr_60_5 hL) ?_
        refine pv_iconst (v := 0) (by decide) dX7_keepIfBetter_43 ?_
        refine pv_pc (pc' := 44) rfl ?_
        refine pv_bipush (v := 6) (by decide) dX7_keepIfBetter_44 ?_
        obtain ⟨q2, F⟩ := F
        obtain ⟨h6, eh6⟩ : ∃ h6 : pv_H, h6 = pv_cpy h5 65 (Int32.toNatClampNeg 0) 66 (Int32.toNatClampNeg 0) (Int32.toNatClampNeg 6) := ⟨_, rfl⟩
        have F := F h6 eh6
        refine pv_acopy dX7_keepIfBetter_46 ml_X7_70 acp_n acp_s acp_i q2 (by omega) (Nat.le_of_ble_eq_true rfl) ?_
        refine pv_hE eh6 ?_
        exact pv_return dX7_keepIfBetter_49 rfl F
set_option maxRecDepth 20000 in
set_option maxHeartbeats 4000000 in
theorem sg_X7_tryFrom_0 {Γ : pv_C} {d kc ks : Nat} {ty : pv_T} {h : pv_H} {r : pv_R} {g : pv_G} {Q : pv_Q} (x : Int32) (y : Int32) (z : Int32) (hd : 1 ≤ d) (hL : pv_Lay ty r) (F : (((h 60 7) ≤ x → pv_CW Γ (d - 1) mX7_keepIfBetter [.ref 60, .int y, .int z] ty h r g (fun (h1 : pv_H) => Q none ty h1 r g)) ∧ (¬ (h 60 7) ≤ x → ((x < 6 → pv_E Γ d kc ks mX7_tryFrom 24 [some (.ref 60), some (.int x), some (.int y), some (.int z), some (.int 0), none] [] ty h r g Q) ∧ (¬ x < 6 → pv_CW Γ (d - 1) mX7_keepIfBetter [.ref 60, .int y, .int z] ty h r g (fun (h2 : pv_H) => Q none ty h2 r g)))))) : pv_E Γ d kc ks mX7_tryFrom 0 [some (.ref 60), some (.int x), some (.int y), some (.int z), none, none] [] ty h r g Q := by
  refine pv_iload_n dX7_tryFrom_0 rfl ?_
  refine pv_aload_n dX7_tryFrom_1 rfl ?_
  refine pv_getI 7 7 dX7_tryFrom_2 fl_X7_43 rfl (lt_60 hL) ?_
  refine pv_icmp_ge (tgt := 14) dX7_tryFrom_5 (by decide) (fun c1 => ?_) (fun c1 => ?_)
  · have F := F.1 c1
    refine pv_aload_n dX7_tryFrom_14 rfl ?_
    refine pv_iload_n dX7_tryFrom_15 rfl ?_
    refine pv_iload_n dX7_tryFrom_16 rfl ?_
    refine pv_invV (As := [.int y, .int z]) (d' := d - 1) dX7_tryFrom_17 moX7_keepIfBetter ml_X7_66 (lt_60 hL) (Or.inl ⟨_, rfl, rfl⟩) (Nat.le_of_ble_eq_true rfl) (by omega) (Nat.zero_le _) (Nat.zero_le _) F (fun v ty' h1 r' g' hq => ?_) rfl
    obtain ⟨e2, e4, e5, e1, F⟩ := hq
    rw [e1, e2, e4, e5]
    refine pv_pc (pc' := 20) rfl ?_
    show pv_E Γ d kc ks mX7_tryFrom 20 [some (.ref 60), some (.int x), some (.int y), some (.int z), none, none] [] ty h1 r g Q
    exact pv_return dX7_tryFrom_20 rfl F
  · have F := F.2 c1
    refine pv_iload_n dX7_tryFrom_8 rfl ?_
    refine pv_bipush (v := 6) (by decide) dX7_tryFrom_9 ?_
    refine pv_icmp_lt (tgt := 21) dX7_tryFrom_11 (by decide) (fun c2 => ?_) (fun c2 => ?_)
    · have F := F.1 c2
      refine pv_iconst (v := 0) (by decide) dX7_tryFrom_21 ?_
      refine pv_istore (ls' := [some (.ref 60), some (.int x), some (.int y), some (.int z), some (.int 0), none]) dX7_tryFrom_22 (by decide) rfl rfl ?_
      exact F
    · have F := F.2 c2
      refine pv_aload_n dX7_tryFrom_14 rfl ?_
      refine pv_iload_n dX7_tryFrom_15 rfl ?_
      refine pv_iload_n dX7_tryFrom_16 rfl ?_
      refine pv_invV (As := [.int y, .int z]) (d' := d - 1) dX7_tryFrom_17 moX7_keepIfBetter ml_X7_66 (lt_60 hL) (Or.inl ⟨_, rfl, rfl⟩) (Nat.le_of_ble_eq_true rfl) (by omega) (Nat.zero_le _) (Nat.zero_le _) F (fun v ty' h2 r' g' hq => ?_) rfl
      obtain ⟨e2, e4, e5, e1, F⟩ := hq
      rw [e1, e2, e4, e5]
      refine pv_pc (pc' := 20) rfl ?_
      show pv_E Γ d kc ks mX7_tryFrom 20 [some (.ref 60), some (.int x), some (.int y), some (.int z), none, none] [] ty h2 r g Q
      exact pv_return dX7_tryFrom_20 rfl F
set_option maxRecDepth 20000 in
set_option maxHeartbeats 4000000 in
theorem sg_X7_tryFrom_24 {Γ : pv_C} {d kc ks : Nat} {ty : pv_T} {h : pv_H} {r : pv_R} {g : pv_G} {Q : pv_Q} (x1 : Int32) (x2 : Int32) (x3 : Int32) (x4 : Int32) (hd : 1 ≤ d) (hL : pv_Lay ty r) (F : (((h 60 8) ≤ x4 → vp_in x1 6 ∧ (∀ h1 : pv_H, h1 = pv_up h 65 (Int32.toNatClampNeg x1) (h 60 8) → pv_CW Γ (d - 1) mX7_tryFrom [.ref 60, .int (x1 + 1), .int x2, .int x3] ty h1 r g (fun (h2 : pv_H) => Q none ty h2 r g))) ∧ (¬ (h 60 8) ≤ x4 → vp_in ((x1 * 3) + x4) 18 ∧ vp_in x4 3 ∧ (((h 64 (Int32.toNatClampNeg x4)) < (h 63 (Int32.toNatClampNeg ((x1 * 3) + x4))) → pv_E Γ d kc ks mX7_tryFrom 24 [some (.ref 60), some (.int x1), some (.int x2), some (.int x3), some (.int (x4 + 1)), none] [] ty h r g Q) ∧ (¬ (h 64 (Int32.toNatClampNeg x4)) < (h 63 (Int32.toNatClampNeg ((x1 * 3) + x4))) → vp_in x4 3 ∧ vp_in x4 3 ∧ (∀ h3 : pv_H, h3 = pv_up h 64 (Int32.toNatClampNeg x4) ((h 64 (Int32.toNatClampNeg x4)) - (h 63 (Int32.toNatClampNeg ((x1 * 3) + x4)))) → vp_in x1 6 ∧ (∀ h4 : pv_H, h4 = pv_up h3 65 (Int32.toNatClampNeg x1) x4 → vp_in ((x1 * 3) + x4) 18 ∧ pv_CW Γ (d - 1) mX7_tryFrom [.ref 60, .int (x1 + 1), .int (x2 + (h4 62 (Int32.toNatClampNeg ((x1 * 3) + x4)))), .int (x3 + (h 63 (Int32.toNatClampNeg ((x1 * 3) + x4))))] ty h4 r g (fun (h5 : pv_H) => vp_in x4 3 ∧ vp_in x4 3 ∧ (∀ h6 : pv_H, h6 = pv_up h5 64 (Int32.toNatClampNeg x4) ((h5 64 (Int32.toNatClampNeg x4)) + (h 63 (Int32.toNatClampNeg ((x1 * 3) + x4)))) → pv_E Γ d kc ks mX7_tryFrom 24 [some (.ref 60), some (.int x1), some (.int x2), some (.int x3), some (.int (x4 + 1)), none] [] ty h6 r g Q))))))))) : pv_E Γ d kc ks mX7_tryFrom 24 [some (.ref 60), some (.int x1), some (.int x2), some (.int x3), some (.int x4), none] [] ty h r g Q := by
  refine pv_iload dX7_tryFrom_24 rfl ?_
  refine pv_aload_n dX7_tryFrom_26 rfl ?_
  refine pv_getI 7 8 dX7_tryFrom_27 fl_X7_39 rfl (lt_60 hL) ?_
  refine pv_icmp_ge (tgt := 120) dX7_tryFrom_30 (by decide) (fun c1 => ?_) (fun c1 => ?_)
  · have F := F.1 c1
    refine pv_aload_n dX7_tryFrom_120 rfl ?_
    refine pv_getRk 7 4 dX7_tryFrom_121 fl_X7_24 rfl (lt_60 hL) (lr_60_4 hL) ?_
    refine pv_iload_n dX7_tryFrom_124 rfl ?_
    refine pv_aload_n dX7_tryFrom_125 rfl ?_
    refine pv_getI 7 8 dX7_tryFrom_126 fl_X7_39 rfl (lt_60 hL) ?_
    obtain ⟨q1, F⟩ := F
    obtain ⟨h1, eh1⟩ : ∃ h1 : pv_H, h1 = pv_up h 65 (Int32.toNatClampNeg x1) (h 60 8) := ⟨_, rfl⟩
    have F := F h1 eh1
    refine pv_iast dX7_tryFrom_129 (lt_65 hL) (by decide) q1 ?_
    refine pv_hE eh1 ?_
    refine pv_aload_n dX7_tryFrom_130 rfl ?_
    refine pv_iload_n dX7_tryFrom_131 rfl ?_
    refine pv_iconst (v := 1) (by decide) dX7_tryFrom_132 ?_
    refine pv_iadd dX7_tryFrom_133 ?_
    refine pv_iload_n dX7_tryFrom_134 rfl ?_
    refine pv_iload_n dX7_tryFrom_135 rfl ?_
    refine pv_pc (pc' := 136) rfl ?_
    refine pv_invV (As := [.int (x1 + 1), .int x2, .int x3]) (d' := d - 1) dX7_tryFrom_136 moX7_tryFrom ml_X7_62 (lt_60 hL) (Or.inl ⟨_, rfl, rfl⟩) (Nat.le_of_ble_eq_true rfl) (by omega) (Nat.zero_le _) (Nat.zero_le _) F (fun v ty' h2 r' g' hq => ?_) rfl
    obtain ⟨e2, e4, e5, e1, F⟩ := hq
    rw [e1, e2, e4, e5]
    refine pv_pc (pc' := 139) rfl ?_
    show pv_E Γ d kc ks mX7_tryFrom 139 [some (.ref 60), some (.int x1), some (.int x2), some (.int x3), some (.int x4), none] [] ty h2 r g Q
    exact pv_return dX7_tryFrom_139 rfl F
  · have F := F.2 c1
    refine pv_aload_n dX7_tryFrom_33 rfl ?_
    refine pv_getRk 7 2 dX7_tryFrom_34 fl_X7_18 rfl (lt_60 hL) (lr_60_2 hL) ?_
    refine pv_iload_n dX7_tryFrom_37 rfl ?_
    refine pv_iconst (v := 3) (by decide) dX7_tryFrom_38 ?_
    refine pv_imul dX7_tryFrom_39 ?_
    refine pv_iload dX7_tryFrom_40 rfl ?_
    refine pv_pc (pc' := 42) rfl ?_
    refine pv_iadd dX7_tryFrom_42 ?_
    obtain ⟨q2, F⟩ := F
    refine pv_iald dX7_tryFrom_43 (lt_63 hL) q2 ?_
    refine pv_istore (ls' := [some (.ref 60), some (.int x1), some (.int x2), some (.int x3), some (.int x4), some (.int (h 63 (Int32.toNatClampNeg ((x1 * 3) + x4))))]) dX7_tryFrom_44 (by decide) rfl rfl ?_
    refine pv_iload dX7_tryFrom_46 rfl ?_
    refine pv_aload_n dX7_tryFrom_48 rfl ?_
    refine pv_getRk 7 3 dX7_tryFrom_49 fl_X7_21 rfl (lt_60 hL) (lr_60_3 hL) ?_
    refine pv_iload dX7_tryFrom_52 rfl ?_
    obtain ⟨q3, F⟩ := F
    refine pv_iald dX7_tryFrom_54 (lt_64 hL) q3 ?_
    refine pv_icmp_gt (tgt := 114) dX7_tryFrom_55 (by decide) (fun c2 => ?_) (fun c2 => ?_)
    · have F := F.1 c2
      refine pv_iinc (v := x4 + 1) (ls' := [some (.ref 60), some (.int x1), some (.int x2), some (.int x3), some (.int (x4 + 1)), some (.int (h 63 (Int32.toNatClampNeg ((x1 * 3) + x4))))]) dX7_tryFrom_114 rfl (by rfl) rfl rfl ?_
      refine pv_goto (tgt := 24) dX7_tryFrom_117 (by decide) ?_
      refine pv_forgetL (ls' := [some (.ref 60), some (.int x1), some (.int x2), some (.int x3), some (.int (x4 + 1)), none]) (pv_subL_ok ⟨rfl, ⟨rfl, ⟨rfl, ⟨rfl, ⟨rfl, trivial⟩⟩⟩⟩⟩) ?_
      exact F
    · have F := F.2 c2
      refine pv_aload_n dX7_tryFrom_58 rfl ?_
      refine pv_getRk 7 3 dX7_tryFrom_59 fl_X7_21 rfl (lt_60 hL) (lr_60_3 hL) ?_
      refine pv_iload dX7_tryFrom_62 rfl ?_
      refine pv_dup2 rfl rfl dX7_tryFrom_64 ?_
      obtain ⟨q4, F⟩ := F
      refine pv_iald dX7_tryFrom_65 (lt_64 hL) q4 ?_
      refine pv_iload dX7_tryFrom_66 rfl ?_
      refine pv_isub dX7_tryFrom_68 ?_
      obtain ⟨q5, F⟩ := F
      obtain ⟨h3, eh3⟩ : ∃ h3 : pv_H, h3 = pv_up h 64 (Int32.toNatClampNeg x4) ((h 64 (Int32.toNatClampNeg x4)) - (h 63 (Int32.toNatClampNeg ((x1 * 3) + x4)))) := ⟨_, rfl⟩
      have F := F h3 eh3
      refine pv_iast dX7_tryFrom_69 (lt_64 hL) (by decide) q5 ?_
      refine pv_hE eh3 ?_
      refine pv_aload_n dX7_tryFrom_70 rfl ?_
      refine pv_getRk 7 4 dX7_tryFrom_71 fl_X7_24 rfl (lt_60 hL) (lr_60_4 hL) ?_
      refine pv_iload_n dX7_tryFrom_74 rfl ?_
      refine pv_iload dX7_tryFrom_75 rfl ?_
      obtain ⟨q6, F⟩ := F
      obtain ⟨h4, eh4⟩ : ∃ h4 : pv_H, h4 = pv_up h3 65 (Int32.toNatClampNeg x1) x4 := ⟨_, rfl⟩
      have F := F h4 eh4
      refine pv_iast dX7_tryFrom_77 (lt_65 hL) (by decide) q6 ?_
      refine pv_hE eh4 ?_
      refine pv_aload_n dX7_tryFrom_78 rfl ?_
      refine pv_iload_n dX7_tryFrom_79 rfl ?_
      refine pv_iconst (v := 1) (by decide) dX7_tryFrom_80 ?_
      refine pv_iadd dX7_tryFrom_81 ?_
      refine pv_iload_n dX7_tryFrom_82 rfl ?_
      refine pv_aload_n dX7_tryFrom_83 rfl ?_
      refine pv_pc (pc' := 84) rfl ?_
      refine pv_getRk 7 1 dX7_tryFrom_84 fl_X7_15 rfl (lt_60 hL) (lr_60_1 hL) ?_
      refine pv_iload_n dX7_tryFrom_87 rfl ?_
      refine pv_iconst (v := 3) (by decide) dX7_tryFrom_88 ?_
      refine pv_imul dX7_tryFrom_89 ?_
      refine pv_iload dX7_tryFrom_90 rfl ?_
      refine pv_iadd dX7_tryFrom_92 ?_
      refine pv_pc (pc' := 93) rfl ?_
      obtain ⟨q7, F⟩ := F
      refine pv_iald dX7_tryFrom_93 (lt_62 hL) q7 ?_
      refine pv_iadd dX7_tryFrom_94 ?_
      refine pv_iload_n dX7_tryFrom_95 rfl ?_
      refine pv_iload dX7_tryFrom_96 rfl ?_
      refine pv_iadd dX7_tryFrom_98 ?_
      refine pv_invV (As := [.int (x1 + 1), .int (x2 + (h4 62 (Int32.toNatClampNeg ((x1 * 3) + x4)))), .int (x3 + (h 63 (Int32.toNatClampNeg ((x1 * 3) + x4))))]) (d' := d - 1) dX7_tryFrom_99 moX7_tryFrom ml_X7_62 (lt_60 hL) (Or.inl ⟨_, rfl, rfl⟩) (Nat.le_of_ble_eq_true rfl) (by omega) (Nat.zero_le _) (Nat.zero_le _) F (fun v ty' h5 r' g' hq => ?_) rfl
      obtain ⟨e2, e4, e5, e1, F⟩ := hq
      rw [e1, e2, e4, e5]
      refine pv_pc (pc' := 102) rfl ?_
      show pv_E Γ d kc ks mX7_tryFrom 102 [some (.ref 60), some (.int x1), some (.int x2), some (.int x3), some (.int x4), some (.int (h 63 (Int32.toNatClampNeg ((x1 * 3) + x4))))] [] ty h5 r g Q
      refine pv_aload_n dX7_tryFrom_102 rfl ?_
      refine pv_getRk 7 3 dX7_tryFrom_103 fl_X7_21 rfl (lt_60 hL) (lr_60_3 hL) ?_
      refine pv_iload dX7_tryFrom_106 rfl ?_
      refine pv_dup2 rfl rfl dX7_tryFrom_108 ?_
      obtain ⟨q8, F⟩ := F
      refine pv_iald dX7_tryFrom_109 (lt_64 hL) q8 ?_
      refine pv_iload dX7_tryFrom_110 rfl ?_
      refine pv_iadd dX7_tryFrom_112 ?_
      obtain ⟨q9, F⟩ := F
      obtain ⟨h6, eh6⟩ : ∃ h6 : pv_H, h6 = pv_up h5 64 (Int32.toNatClampNeg x4) ((h5 64 (Int32.toNatClampNeg x4)) + (h 63 (Int32.toNatClampNeg ((x1 * 3) + x4)))) := ⟨_, rfl⟩
      have F := F h6 eh6
      refine pv_iast dX7_tryFrom_113 (lt_64 hL) (by decide) q9 ?_
      refine pv_hE eh6 ?_
      refine pv_iinc (v := x4 + 1) (ls' := [some (.ref 60), some (.int x1), some (.int x2), some (.int x3), some (.int (x4 + 1)), some (.int (h 63 (Int32.toNatClampNeg ((x1 * 3) + x4))))]) dX7_tryFrom_114 rfl (by rfl) rfl rfl ?_
      refine pv_goto (tgt := 24) dX7_tryFrom_117 (by decide) ?_
      refine pv_forgetL (ls' := [some (.ref 60), some (.int x1), some (.int x2), some (.int x3), some (.int (x4 + 1)), none]) (pv_subL_ok ⟨rfl, ⟨rfl, ⟨rfl, ⟨rfl, ⟨rfl, trivial⟩⟩⟩⟩⟩) ?_
      exact F
theorem ni_3r (n k : Nat) : nI n * 3 + nI k = nI (3 * n + k) := by rw [show (3 : Int32) = nI 3 from rfl, pk_mul, nI_add, Nat.mul_comm]
/-- the tables of the streets of the set -/
def qp_tab (B : Nat → Bool) (n : Nat) (W : Nat → Nat → Int32) (P : Nat → Nat → Nat) (h : pv_H) : Prop := h 60 7 = nI (qp_n B 8) ∧ h 60 8 = nI n ∧ ∀ i, i < 8 → B i = true → ∀ y, y < n → h 62 (3 * qp_n B i + y) = W i y ∧ h 63 (3 * qp_n B i + y) = nI (P i y)
def qp_best (B : Nat → Bool) (h : pv_H) (b : qp_b) : Prop := h 60 9 = b.1 ∧ h 60 10 = b.2.1 ∧ (b.1 ≠ -1 → ∀ i, i < 8 → B i = true → h 66 (qp_n B i) = nI (b.2.2 i))
abbrev qpT : Nat → Nat → Prop := fun a j => a = 64 ∨ a = 65 ∨ a = 66 ∨ (a = 60 ∧ (j = 9 ∨ j = 10))
def qp_pre (B : Nat → Bool) (h : pv_H) (c : Nat → Nat) (i : Nat) : Prop := ∀ k, k < i → B k = true → h 65 (qp_n B k) = nI (c k)
theorem qp_tab_fr {B : Nat → Bool} {n : Nat} {W : Nat → Nat → Int32} {P : Nat → Nat → Nat} {h h' : pv_H} (f : pv_fr qpT h h') (t : qp_tab B n W P h) : qp_tab B n W P h' := by
  unfold qp_tab
  rw [f 60 7 (by decide), f 60 8 (by decide), pv_fr_r (a := 62) f (fun j => by simp), pv_fr_r (a := 63) f (fun j => by simp)]
  exact t
section PLC
variable {Γ : pv_C} {d kc ks : Nat} {ty : pv_T} {h h0 : pv_H} {r : pv_R} {g : pv_G} {Q : pv_Q} {B : Nat → Bool} {n : Nat} {W : Nat → Nat → Int32} {P : Nat → Nat → Nat} {M : Nat → Nat} {c : Nat → Nat} {b : qp_b}
theorem ct_X7_keep (hd : 1 ≤ d) (hL : pv_Lay ty r) (h6 : qp_n B 8 ≤ 6) (hb : qp_best B h b) (hc : qp_pre B h c 8) {w x : Int32} : pv_CW Γ d mX7_keepIfBetter [.ref 60, .int w, .int x] ty h r g (fun h' => pv_fr (fun a j => a = 66 ∨ (a = 60 ∧ (j = 9 ∨ j = 10))) h h' ∧ qp_best B h' (qp_keep b w x c)) := by
  have ok : pv_acpOK ty 65 0 66 0 6 := ⟨20, 6, 6, hL.1 (65, 20, 6) (by decide), hL.1 (66, 20, 6) (by decide), Or.inl rfl, by decide, by decide, by decide, by decide, by decide, by decide, by decide⟩
  have hk : (b.1 < w ∨ (w = b.1 ∧ x < b.2.1)) → ∀ h1 : pv_H, h1 = pv_up h 60 9 w → ∀ h2 : pv_H, h2 = pv_up h1 60 10 x → pv_acpOK ty 65 0 66 0 6 ∧ ∀ h3 : pv_H, h3 = pv_cpy h2 65 (Int32.toNatClampNeg 0) 66 (Int32.toNatClampNeg 0) (Int32.toNatClampNeg 6) → pv_wq ty r g (fun h' => pv_fr (fun a j => a = 66 ∨ (a = 60 ∧ (j = 9 ∨ j = 10))) h h' ∧ qp_best B h' (qp_keep b w x c)) none ty h3 r g := fun q h1 e1 h2 e2 => ⟨ok, fun h3 e3 => pv_wqi ⟨fun a j z => ?_, ?_⟩⟩
  · refine pv_fn 0 pn_X7 rfl (Nat.le_of_ble_eq_true rfl) (sg_X7_keepIfBetter_0 w x hd hL ?_)
    obtain ⟨b1, b2, b3⟩ := hb
    rw [b1, b2]
    have hno : ¬ (b.1 < w ∨ (w = b.1 ∧ x < b.2.1)) → pv_wq ty r g (fun h' => pv_fr (fun a j => a = 66 ∨ (a = 60 ∧ (j = 9 ∨ j = 10))) h h' ∧ qp_best B h' (qp_keep b w x c)) none ty h r g := fun q => pv_wqi ⟨pv_fr_refl _ _, by unfold qp_keep; rw [if_neg q]; exact ⟨b1, b2, b3⟩⟩
    exact ⟨fun c1 => hk (Or.inl c1), fun c1 => ⟨fun c2 => hno (fun q => q.elim c1 (fun q => c2 q.1)), fun c2 => ⟨fun c3 => hno (fun q => q.elim c1 (fun q => Int32.not_lt.mpr c3 q.2)), fun c3 => hk (Or.inr ⟨c2, Int32.not_le.mp c3⟩)⟩⟩⟩
  · rw [e3]
    unfold pv_cpy
    rw [if_neg (fun q => z (Or.inl q.1)), e2, pv_up, if_neg (fun q => z (Or.inr ⟨q.1, Or.inr q.2⟩)), e1, pv_up, if_neg (fun q => z (Or.inr ⟨q.1, Or.inl q.2⟩))]
  · unfold qp_keep
    rw [if_pos q]
    refine ⟨?_, ?_, fun _ i hi hB => ?_⟩
    · rw [e3]; unfold pv_cpy; rw [if_neg (fun q => absurd q.1 (by decide)), e2, pv_up_j (by decide), e1, pv_up_same]
    · rw [e3]; unfold pv_cpy; rw [if_neg (fun q => absurd q.1 (by decide)), e2, pv_up_same]
    · have := qp_n_lt hB hi
      rw [e3]; unfold pv_cpy
      rw [show Int32.toNatClampNeg 0 = 0 from rfl, show Int32.toNatClampNeg 6 = 6 from rfl, if_pos ⟨rfl, by omega, by omega⟩, e2, pv_up_a (by decide), e1, pv_up_a (by decide), Nat.zero_add, Nat.sub_zero]
      exact hc i hi hB
/-- what trying the streets from the i-th on leaves -/
def qp_done (B : Nat → Bool) (h : pv_H) (i : Nat) (b : qp_b) (h' : pv_H) : Prop := pv_fr qpT h h' ∧ (∀ y, y < 3 → h' 64 y = h 64 y) ∧ (∀ k, k < i → B k = true → h' 65 (qp_n B k) = h 65 (qp_n B k)) ∧ qp_best B h' b
theorem qp_pre_d {h' : pv_H} {i : Nat} (hd : qp_done B h i b h') (hp : qp_pre B h c i) : qp_pre B h' c i := fun k hk hB => (hd.2.2.1 k hk hB).trans (hp k hk hB)
theorem qp_pre_u {i y : Nat} (hB : B i = true) (hp : qp_pre B h c i) : qp_pre B (pv_up h 65 (qp_n B i) (nI y)) (qp_u c i y) (i + 1) := fun k hk hBk => by
  by_cases q : k = i
  · rw [q, pv_up_same, qp_u_s]
  · have := qp_n_lt hBk (show k < i by omega)
    rw [pv_up_j (by omega), qp_u_n q]; exact hp k (by omega) hBk
theorem qp_pre_a {a j i : Nat} {x : Int32} (ha : 65 ≠ a) (hp : qp_pre B h c i) : qp_pre B (pv_up h a j x) c i := fun k hk hB => by rw [pv_up_a ha]; exact hp k hk hB
theorem qp_best_a {a j : Nat} {x : Int32} (h1 : 60 ≠ a) (h2 : 66 ≠ a) (hb : qp_best B h b) : qp_best B (pv_up h a j x) b := by
  unfold qp_best
  rw [pv_up_a h1, pv_up_a h1]
  exact ⟨hb.1, hb.2.1, fun q i hi hB => by rw [pv_up_a h2]; exact hb.2.2 q i hi hB⟩
theorem qp_24 {i j k : Nat} (hL : pv_Lay ty r) (hn : n ≤ 3) (hi : i < 8) (hj : i + j = 7) (hB : B i = true) (hk : k = qp_n B i) (h6 : qp_n B 8 ≤ 6) (hM : ∀ y, y < 3 → M y < 2 ^ 20) (hP : ∀ i y, i < 8 → P i y < 2 ^ 20) (t0 : qp_tab B n W P h0) (hl : ∀ y, y < 3 → h0 64 y = nI (M y - qp_s B n P c y i)) (hs : ∀ y, y < 3 → qp_s B n P c y i ≤ M y) (hp : qp_pre B h0 c i)
  (ih : ∀ (c : Nat → Nat) (b : qp_b) (h : pv_H), qp_tab B n W P h → (∀ y, y < 3 → h 64 y = nI (M y - qp_s B n P c y (i + 1))) → (∀ y, y < 3 → qp_s B n P c y (i + 1) ≤ M y) → qp_pre B h c (i + 1) → qp_best B h b → pv_CW Γ (d - 1) mX7_tryFrom [.ref 60, .int (nI (qp_n B (i + 1))), .int (qp_w B n W c (i + 1)), .int (nI (qp_x B n P c (i + 1)))] ty h r g (qp_done B h (i + 1) (qp_r B n W P M j c b)))
  (hd : 1 ≤ d) (hQ : ∀ h', qp_done B h0 i (qp_f (fun y b => qp_r B n W P M j (qp_u c i y) b) (n + 1) b) h' → Q none ty h' r g) : ∀ (m y : Nat) (h : pv_H), y + m = n → qp_done B h0 i (qp_f (fun y b => qp_r B n W P M j (qp_u c i y) b) y b) h → pv_E Γ d kc ks mX7_tryFrom 24 [some (.ref 60), some (.int (nI k)), some (.int (qp_w B n W c i)), some (.int (nI (qp_x B n P c i))), some (.int (nI y)), none] [] ty h r g Q := by
  have hk6 := qp_n_lt hB hi
  have e1 : qp_n B (i + 1) = k + 1 := by show (if _ then _ else _) = _; rw [if_pos hB, hk]
  subst hk
  intro m
  induction m with
  | zero =>
    intro y h hy hq
    rw [show y = n by omega] at hq ⊢
    obtain ⟨f1, f2, f3, f4⟩ := hq
    have t := qp_tab_fr f1 t0
    refine sg_X7_tryFrom_24 _ _ _ _ hd hL ?_
    rw [t.2.1, nI_1, nI_clamp (by omega)]
    refine pk_le n n (fun _ => ⟨vp_in_nI (by omega) (by decide), fun h1 e1' => ?_⟩) (fun c => absurd c (by omega))
    subst e1'
    have hw : qp_w B n W (qp_u c i n) (i + 1) = qp_w B n W c i := by rw [qp_w_u, if_neg (fun q => q.2 rfl)]
    have hss : ∀ y, qp_s B n P (qp_u c i n) y (i + 1) = qp_s B n P c y i := fun y => by rw [qp_s_u, if_neg (fun q => q.2.1 rfl)]
    have hx : qp_x B n P (qp_u c i n) (i + 1) = qp_x B n P c i := by unfold qp_x; rw [hss, hss, hss]
    have := ih (qp_u c i n) (qp_f (fun y b => qp_r B n W P M j (qp_u c i y) b) n b) (pv_up h 65 (qp_n B i) (nI n)) (qp_tab_fr (pv_fr_up (pv_fr_refl _ _) (Or.inr (Or.inl rfl))) t) (fun y hy => by rw [pv_up_a (by decide), f2 y hy, hl y hy, hss]) (fun y hy => by rw [hss]; exact hs y hy) (qp_pre_u hB (fun k hk hBk => (f3 k hk hBk).trans (hp k hk hBk))) (qp_best_a (by decide) (by decide) f4)
    rw [e1, hw, hx] at this
    refine pv_CW.mono this (fun h' q => ?_)
    obtain ⟨g1, g2, g3, g4⟩ := q
    refine hQ h' ⟨fun a j z => ?_, fun y hy => ?_, fun k hk hBk => ?_, g4⟩
    · rw [g1 a j z, pv_up, if_neg (fun q => z (Or.inr (Or.inl q.1)))]; exact f1 a j z
    · rw [g2 y hy, pv_up_a (by decide)]; exact f2 y hy
    · have := qp_n_lt hBk hk
      rw [g3 k (by omega) hBk, pv_up_j (by omega)]; exact f3 k hk hBk
  | succ m ihm =>
    intro y h hy hq
    have hq0 := hq
    obtain ⟨f1, f2, f3, f4⟩ := hq
    have t := qp_tab_fr f1 t0
    obtain ⟨tw, tp⟩ := t.2.2 i hi hB y (by omega)
    have hl' : h 64 y = nI (M y - qp_s B n P c y i) := (f2 y (by omega)).trans (hl y (by omega))
    have b1 := hM y (by omega)
    have b2 := hP i y hi
    have ihm' := ihm (y + 1)
    have hfe : qp_f (fun y b => qp_r B n W P M j (qp_u c i y) b) (y + 1) b = qp_r B n W P M j (qp_u c i y) (qp_f (fun y b => qp_r B n W P M j (qp_u c i y) b) y b) := rfl
    rw [hfe] at ihm'
    have hsy : ∀ y', qp_s B n P (qp_u c i y) y' (i + 1) = if y = y' then qp_s B n P c y' i + P i y' else qp_s B n P c y' i := fun y' => by
      rw [qp_s_u]
      by_cases q : y = y'
      · rw [if_pos q, if_pos ⟨hB, by omega, q⟩]
      · rw [if_neg q, if_neg (fun z => q z.2.2)]
    have hin : vp_in (nI y) 3 := vp_in_nI (by omega) (by decide)
    have hin2 : vp_in (nI (3 * qp_n B i + y)) 18 := vp_in_nI (by omega) (by decide)
    refine sg_X7_tryFrom_24 _ _ _ _ hd hL ?_
    rw [t.2.1, nI_1, nI_1, ni_3r, nI_clamp (show y < 2 ^ 31 by omega), nI_clamp (show 3 * qp_n B i + y < 2 ^ 31 by omega), nI_clamp (show qp_n B i < 2 ^ 31 by omega), hl', tp]
    refine pk_le n y (fun q => absurd q (by omega)) (fun _ => ⟨hin2, hin, pk_lt (M y - qp_s B n P c y i) (P i y) (fun q => ?_) (fun q => ⟨hin, hin, fun h3 e3 => ⟨vp_in_nI (by omega) (by decide), fun h4 e4 => ⟨hin2, ?_⟩⟩⟩)⟩)
    · refine ihm' h (by omega) ?_
      rw [qp_r_no (show y < 3 by omega) j _ _ (by omega) (by rw [show 8 - j = i + 1 by omega, hsy, if_pos rfl]; have := hs y (by omega); omega)]
      exact hq0
    · rw [pk_sub q] at e3
      have hw : qp_w B n W (qp_u c i y) (i + 1) = qp_w B n W c i + W i y := by rw [qp_w_u, if_pos ⟨hB, by omega⟩]
      have hx : qp_x B n P (qp_u c i y) (i + 1) = qp_x B n P c i + P i y := by
        unfold qp_x
        rw [hsy, hsy, hsy]
        have : y = 0 ∨ y = 1 ∨ y = 2 := by omega
        rcases this with rfl | rfl | rfl
        · rw [if_pos rfl, if_neg (by omega), if_neg (by omega)]; omega
        · rw [if_neg (by omega), if_pos rfl, if_neg (by omega)]; omega
        · rw [if_neg (by omega), if_neg (by omega), if_pos rfl]; omega
      have f4' : pv_fr qpT h h4 := by rw [e4, e3]; exact pv_fr_up (pv_fr_up (pv_fr_refl _ _) (Or.inl rfl)) (Or.inr (Or.inl rfl))
      have c64 : ∀ y', y' < 3 → h4 64 y' = nI (M y' - qp_s B n P (qp_u c i y) y' (i + 1)) := fun y' hy' => by
        rw [e4, pv_up_a (by decide), e3, hsy]
        by_cases z : y = y'
        · subst z; rw [pv_up_same, if_pos rfl, Nat.sub_sub]
        · rw [pv_up_j (fun w => z w.symm), if_neg z, f2 y' hy', hl y' hy']
      have h62 : h4 62 (3 * qp_n B i + y) = W i y := by rw [e4, pv_up_a (by decide), e3, pv_up_a (by decide)]; exact tw
      have := ih (qp_u c i y) (qp_f (fun y b => qp_r B n W P M j (qp_u c i y) b) y b) h4 (qp_tab_fr f4' t) c64 (fun y' hy' => by
        rw [hsy]
        have := hs y' hy'
        by_cases z : y = y'
        · subst z; rw [if_pos rfl]; omega
        · rw [if_neg z]; exact this) (by rw [e4]; exact qp_pre_u hB (by rw [e3]; exact qp_pre_a (by decide) (fun k hk hBk => (f3 k hk hBk).trans (hp k hk hBk)))) (by rw [e4, e3]; exact qp_best_a (by decide) (by decide) (qp_best_a (by decide) (by decide) f4))
      rw [e1, hw, hx, show nI (qp_x B n P c i + P i y) = nI (qp_x B n P c i) + nI (P i y) from (nI_add _ _).symm] at this
      rw [h62]
      refine pv_CW.mono this (fun h5 q5 => ⟨hin, hin, fun h6' e6 => ?_⟩)
      obtain ⟨g1, g2, g3, g4⟩ := q5
      rw [g2 y (by omega), c64 y (by omega), hsy, if_pos rfl, nI_add] at e6
      rw [e6]
      refine ihm' _ (by omega) ⟨fun a j z => ?_, fun y' hy' => ?_, fun k hk hBk => ?_, qp_best_a (by decide) (by decide) g4⟩
      · rw [pv_up, if_neg (fun q => z (Or.inl q.1)), g1 a j z, f4' a j z]; exact f1 a j z
      · by_cases z : y' = y
        · subst z
          rw [pv_up_same, hl y' hy']
          congr 1
          omega
        · rw [pv_up_j z, g2 y' hy', e4, pv_up_a (by decide), e3, pv_up_j z]; exact f2 y' hy'
      · have := qp_n_lt hBk hk
        rw [pv_up_a (by decide), g3 k (by omega) hBk, e4, pv_up_j (by omega), e3, pv_up_a (by decide)]; exact f3 k hk hBk
theorem ct_X7_try (hL : pv_Lay ty r) (hn : n ≤ 3) (h6 : qp_n B 8 ≤ 6) (hM : ∀ y, y < 3 → M y < 2 ^ 20) (hP : ∀ i y, i < 8 → P i y < 2 ^ 20) : ∀ (j d : Nat) (c : Nat → Nat) (b : qp_b) (h : pv_H), j ≤ 8 → j + 2 ≤ d → qp_tab B n W P h → (∀ y, y < 3 → h 64 y = nI (M y - qp_s B n P c y (8 - j))) → (∀ y, y < 3 → qp_s B n P c y (8 - j) ≤ M y) → qp_pre B h c (8 - j) → qp_best B h b → pv_CW Γ d mX7_tryFrom [.ref 60, .int (nI (qp_n B (8 - j))), .int (qp_w B n W c (8 - j)), .int (nI (qp_x B n P c (8 - j)))] ty h r g (qp_done B h (8 - j) (qp_r B n W P M j c b)) := by
  intro j
  induction j with
  | zero =>
    intro d c b h _ hd t hl hs hp hb
    rw [Nat.sub_zero] at *
    refine pv_fn 2 pn_X7 rfl (Nat.le_of_ble_eq_true rfl) (sg_X7_tryFrom_0 _ _ _ (by omega) hL ?_)
    rw [t.1]
    refine pk_le (qp_n B 8) (qp_n B 8) (fun _ => pv_CW.mono (ct_X7_keep (by omega) hL h6 hb hp) (fun h' q => pv_wqi ⟨pv_fr_mono (fun a j z => Or.inr (Or.inr z)) q.1, fun y _ => q.1 64 y (by simp), fun k _ _ => q.1 65 _ (by simp), ?_⟩)) (fun c => absurd c (by omega))
    show qp_best B h' (qp_ev B n W P M c b)
    unfold qp_ev
    rw [if_pos ⟨hs 0 (by decide), hs 1 (by decide), hs 2 (by decide)⟩]
    exact q.2
  | succ j ih =>
    intro d c b h hj hd t hl hs hp hb
    obtain ⟨i, hi⟩ : ∃ i, i = 7 - j := ⟨_, rfl⟩
    have e8 : 8 - (j + 1) = i := by omega
    have e9 : 8 - j = i + 1 := by omega
    rw [e8] at hl hs hp ⊢
    rw [e9] at ih
    have er : qp_r B n W P M (j + 1) c b = if B i = true then qp_f (fun y b => qp_r B n W P M j (qp_u c i y) b) (n + 1) b else qp_r B n W P M j (qp_u c i 0) b := by subst hi; rfl
    rw [er]
    by_cases hB : B i = true
    · rw [if_pos hB]
      have hk6 := qp_n_lt hB (show i < 8 by omega)
      refine pv_fn 2 pn_X7 rfl (Nat.le_of_ble_eq_true rfl) (sg_X7_tryFrom_0 _ _ _ (by omega) hL ?_)
      rw [t.1]
      refine pk_le (qp_n B 8) (qp_n B i) (fun c => absurd c (by omega)) (fun _ => pk_lt (qp_n B i) 6 (fun _ => ?_) (fun c => absurd c (by omega)))
      exact qp_24 hL hn (by omega) (by omega) hB rfl h6 hM hP t hl hs hp (fun c b h t l s p q => ih (d - 1) c b h (by omega) (by omega) t l s p q) (by omega) (fun h' q => pv_wqi q) n 0 h (by omega) ⟨pv_fr_refl _ _, fun _ _ => rfl, fun _ _ _ => rfl, hb⟩
    · rw [if_neg hB]
      have e1 : qp_n B (i + 1) = qp_n B i := by show (if _ then _ else _) = _; rw [if_neg hB]
      have hw : qp_w B n W (qp_u c i 0) (i + 1) = qp_w B n W c i := by rw [qp_w_u, if_neg (fun q => hB q.1)]
      have hss : ∀ y, qp_s B n P (qp_u c i 0) y (i + 1) = qp_s B n P c y i := fun y => by rw [qp_s_u, if_neg (fun q => hB q.1)]
      have hx : qp_x B n P (qp_u c i 0) (i + 1) = qp_x B n P c i := by unfold qp_x; rw [hss, hss, hss]
      have := ih d (qp_u c i 0) b h (by omega) (by omega) t (fun y hy => by rw [hss]; exact hl y hy) (fun y hy => by rw [hss]; exact hs y hy) (fun k hk hBk => by
        have : k ≠ i := fun e => hB (e ▸ hBk)
        rw [qp_u_n this]; exact hp k (by omega) hBk) hb
      rw [e1, hw, hx] at this
      exact pv_CW.mono this (fun h' q => ⟨q.1, q.2.1, fun k hk hBk => q.2.2.1 k (by omega) hBk, q.2.2.2⟩)
end PLC
