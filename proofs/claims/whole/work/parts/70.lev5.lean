/-! level, levelled, move: the reference -/
set_option maxRecDepth 20000 in
set_option maxHeartbeats 4000000 in
theorem sg_X12_falls_0 {Γ : pv_C} {d kc ks : Nat} {ty : pv_T} {h : pv_H} {r : pv_R} {g : pv_G} {Q : pv_Q} (x : Int32) (y : Int32) (z : Int32) (u : Int32) (v : Int32) (F : ((z = 0 → (((y - x) < u → Q (some (.int 0)) ty h r g) ∧ (¬ (y - x) < u → ((v < (y - x) → Q (some (.int 0)) ty h r g) ∧ (¬ v < (y - x) → Q (some (.int 1)) ty h r g))))) ∧ (¬ z = 0 → (((x - y) < u → Q (some (.int 0)) ty h r g) ∧ (¬ (x - y) < u → ((v < (x - y) → Q (some (.int 0)) ty h r g) ∧ (¬ v < (x - y) → Q (some (.int 1)) ty h r g))))))) : pv_E Γ d kc ks mX12_falls 0 [some (.int x), some (.int y), some (.int z), some (.int u), some (.int v), none] [] ty h r g Q := by
  refine pv_iload_n dX12_falls_0 rfl ?_
  refine pv_if_eq (tgt := 10) dX12_falls_1 (by decide) (fun c1 => ?_) (fun c1 => ?_)
  · have F := F.1 c1
    refine pv_iload_n dX12_falls_10 rfl ?_
    refine pv_iload_n dX12_falls_11 rfl ?_
    refine pv_isub dX12_falls_12 ?_
    refine pv_istore (ls' := [some (.int x), some (.int y), some (.int z), some (.int u), some (.int v), some (.int (y - x))]) dX12_falls_13 (by decide) rfl rfl ?_
    refine pv_iload dX12_falls_15 rfl ?_
    refine pv_iload_n dX12_falls_17 rfl ?_
    refine pv_pc (pc' := 18) rfl ?_
    refine pv_icmp_lt (tgt := 32) dX12_falls_18 (by decide) (fun c2 => ?_) (fun c2 => ?_)
    · have F := F.1 c2
      refine pv_iconst (v := 0) (by decide) dX12_falls_32 ?_
      exact pv_ireturn dX12_falls_33 rfl (by decide) F
    · have F := F.2 c2
      refine pv_iload dX12_falls_21 rfl ?_
      refine pv_iload dX12_falls_23 rfl ?_
      refine pv_icmp_gt (tgt := 32) dX12_falls_25 (by decide) (fun c3 => ?_) (fun c3 => ?_)
      · have F := F.1 c3
        refine pv_iconst (v := 0) (by decide) dX12_falls_32 ?_
        exact pv_ireturn dX12_falls_33 rfl (by decide) F
      · have F := F.2 c3
        refine pv_iconst (v := 1) (by decide) dX12_falls_28 ?_
        refine pv_goto (tgt := 33) dX12_falls_29 (by decide) ?_
        exact pv_ireturn dX12_falls_33 rfl (by decide) F
  · have F := F.2 c1
    refine pv_iload_n dX12_falls_4 rfl ?_
    refine pv_iload_n dX12_falls_5 rfl ?_
    refine pv_isub dX12_falls_6 ?_
    refine pv_goto (tgt := 13) dX12_falls_7 (by decide) ?_
    refine pv_istore (ls' := [some (.int x), some (.int y), some (.int z), some (.int u), some (.int v), some (.int (x - y))]) dX12_falls_13 (by decide) rfl rfl ?_
    refine pv_iload dX12_falls_15 rfl ?_
    refine pv_iload_n dX12_falls_17 rfl ?_
    refine pv_icmp_lt (tgt := 32) dX12_falls_18 (by decide) (fun c4 => ?_) (fun c4 => ?_)
    · have F := F.1 c4
      refine pv_iconst (v := 0) (by decide) dX12_falls_32 ?_
      exact pv_ireturn dX12_falls_33 rfl (by decide) F
    · have F := F.2 c4
      refine pv_iload dX12_falls_21 rfl ?_
      refine pv_iload dX12_falls_23 rfl ?_
      refine pv_icmp_gt (tgt := 32) dX12_falls_25 (by decide) (fun c5 => ?_) (fun c5 => ?_)
      · have F := F.1 c5
        refine pv_iconst (v := 0) (by decide) dX12_falls_32 ?_
        exact pv_ireturn dX12_falls_33 rfl (by decide) F
      · have F := F.2 c5
        refine pv_iconst (v := 1) (by decide) dX12_falls_28 ?_
        refine pv_goto (tgt := 33) dX12_falls_29 (by decide) ?_
        exact pv_ireturn dX12_falls_33 rfl (by decide) F
abbrev lv_fl (x y z u v : Int32) : Prop := (z = 0 → u ≤ y - x ∧ y - x ≤ v) ∧ (¬ z = 0 → u ≤ x - y ∧ x - y ≤ v)
theorem ct_X12_falls {Γ : pv_C} {d : Nat} {ty : pv_T} {h : pv_H} {r : pv_R} {g : pv_G} {x y z u v : Int32} (_ : 0 ≤ d) : pv_CT Γ d 0 0 mX12_falls [.int x, .int y, .int z, .int u, .int v] ty h r g (pv_is (.int (pf_b (lv_fl x y z u v))) ty h r g) := by
  refine pv_fn 1 pn_X12 rfl (Nat.le_of_ble_eq_true rfl) (sg_X12_falls_0 x y z u v ⟨fun c0 => ⟨fun c1 => ?_, fun c1 => ⟨fun c2 => ?_, fun c2 => ?_⟩⟩, fun c0 => ⟨fun c1 => ?_, fun c1 => ⟨fun c2 => ?_, fun c2 => ?_⟩⟩⟩)
  · rw [pf_b_f (fun q => Int32.not_lt.mpr (q.1 c0).1 c1)]; exact pv_is_refl _ _ _ _ _
  · rw [pf_b_f (fun q => Int32.not_lt.mpr (q.1 c0).2 c2)]; exact pv_is_refl _ _ _ _ _
  · rw [pf_b_t ⟨fun _ => ⟨Int32.not_lt.mp c1, Int32.not_lt.mp c2⟩, fun q => absurd c0 q⟩]; exact pv_is_refl _ _ _ _ _
  · rw [pf_b_f (fun q => Int32.not_lt.mpr (q.2 c0).1 c1)]; exact pv_is_refl _ _ _ _ _
  · rw [pf_b_f (fun q => Int32.not_lt.mpr (q.2 c0).2 c2)]; exact pv_is_refl _ _ _ _ _
  · rw [pf_b_t ⟨fun q => absurd q c0, fun _ => ⟨Int32.not_lt.mp c1, Int32.not_lt.mp c2⟩⟩]; exact pv_is_refl _ _ _ _ _
set_option maxRecDepth 20000 in
set_option maxHeartbeats 4000000 in
theorem sg_X12_level_0 {Γ : pv_C} {d kc ks : Nat} {ty : pv_T} {h : pv_H} {r : pv_R} {g : pv_G} {Q : pv_Q} (x : Int32) (y : Int32) (z : Int32) (u : Int32) (hd : 3 ≤ d) (hL : pv_Lay ty r) (F : (0 ≤ h 200 1 ∧ h 200 1 ≤ 8) ∧ (((pf_b (pf_sq h x y z)) = 0 → Q (some (.int (-1))) ty h r g) ∧ (¬ (pf_b (pf_sq h x y z)) = 0 → (((pf_b (0 ≤ u ∧ u ≤ 99)) = 0 → Q (some (.int (-1))) ty h r g) ∧ (¬ (pf_b (0 ≤ u ∧ u ≤ 99)) = 0 → (((u / 10) ≤ (u - u / 10 * 10) → vp_in x 8 ∧ pv_E Γ d kc ks mX12_level 64 [some (.ref 200), some (.int x), some (.int y), some (.int z), none, some (.int (u / 10)), some (.int (u - u / 10 * 10)), some (.int (h 303 (Int32.toNatClampNeg x))), some (.int ((h 303 (Int32.toNatClampNeg x)) - 1)), none, none, none] [] ty h r g Q) ∧ (¬ (u / 10) ≤ (u - u / 10 * 10) → Q (some (.int (-1))) ty h r g))))))) : pv_E Γ d kc ks mX12_level 0 [some (.ref 200), some (.int x), some (.int y), some (.int z), some (.int u), none, none, none, none, none, none, none] [] ty h r g Q := by
  refine pv_aload_n dX12_level_0 rfl ?_
  refine pv_iload_n dX12_level_1 rfl ?_
  refine pv_iload_n dX12_level_2 rfl ?_
  refine pv_iload_n dX12_level_3 rfl ?_
  obtain ⟨q1, F⟩ := F
  refine pv_invV (As := [.int x, .int y, .int z]) (d' := d - 1) dX12_level_4 moX12_isSquare ml_X12_172 (lt_200 hL) (Or.inl ⟨_, rfl, rfl⟩) (Nat.le_of_ble_eq_true rfl) (by omega) (Nat.zero_le _) (Nat.zero_le _) (ct_X12_isSquare (by omega) hL q1) (fun v ty' h' r' g' hq => ?_) rfl
  obtain ⟨e1, e2, e3, e4, e5⟩ := hq
  rw [e1, e2, e3, e4, e5]
  refine pv_pc (pc' := 7) rfl ?_
  show pv_E Γ d kc ks mX12_level 7 [some (.ref 200), some (.int x), some (.int y), some (.int z), some (.int u), none, none, none, none, none, none, none] [.int (pf_b (pf_sq h x y z))] ty h r g Q
  refine pv_if_eq (tgt := 34) dX12_level_7 (by decide) (fun c1 => ?_) (fun c1 => ?_)
  · have F := F.1 c1
    refine pv_iconst (v := (-1)) (by decide) dX12_level_34 ?_
    exact pv_ireturn dX12_level_35 rfl rfl F
  · have F := F.2 c1
    refine pv_iload dX12_level_10 rfl ?_
    refine pv_iconst (v := 0) (by decide) dX12_level_12 ?_
    refine pv_bipush (v := 99) (by decide) dX12_level_13 ?_
    refine pv_invS (As := [.int u, .int 0, .int 99]) (d' := d - 1) dX12_level_15 moX12_in ml_X12_164 (Nat.le_of_ble_eq_true rfl) (by omega) (Nat.zero_le _) (Nat.zero_le _) (ct_X12_in (by omega)) (fun v ty' h' r' g' hq => ?_) rfl
    obtain ⟨e1, e2, e3, e4, e5⟩ := hq
    rw [e1, e2, e3, e4, e5]
    refine pv_pc (pc' := 18) rfl ?_
    show pv_E Γ d kc ks mX12_level 18 [some (.ref 200), some (.int x), some (.int y), some (.int z), some (.int u), none, none, none, none, none, none, none] [.int (pf_b (0 ≤ u ∧ u ≤ 99))] ty h r g Q
    refine pv_if_eq (tgt := 34) dX12_level_18 (by decide) (fun c2 => ?_) (fun c2 => ?_)
    · have F := F.1 c2
      refine pv_iconst (v := (-1)) (by decide) dX12_level_34 ?_
      exact pv_ireturn dX12_level_35 rfl rfl F
    · have F := F.2 c2
      refine pv_iload dX12_level_21 rfl ?_
      refine pv_bipush (v := 10) (by decide) dX12_level_23 ?_
      refine pv_idiv (by decide) dX12_level_25 ?_
      refine pv_iload dX12_level_26 rfl ?_
      refine pv_bipush (v := 10) (by decide) dX12_level_28 ?_
      refine pv_irem (by decide) dX12_level_30 ?_
      refine pv_pc (pc' := 31) rfl ?_
      refine pv_icmp_le (tgt := 36) dX12_level_31 (by decide) (fun c3 => ?_) (fun c3 => ?_)
      · have F := F.1 c3
        refine pv_iload dX12_level_36 rfl ?_
        refine pv_bipush (v := 10) (by decide) dX12_level_38 ?_
        refine pv_idiv (by decide) dX12_level_40 ?_
        refine pv_istore (ls' := [some (.ref 200), some (.int x), some (.int y), some (.int z), some (.int u), some (.int (u / 10)), none, none, none, none, none, none]) dX12_level_41 (by decide) rfl rfl ?_
        refine pv_iload dX12_level_43 rfl ?_
        refine pv_bipush (v := 10) (by decide) dX12_level_45 ?_
        refine pv_pc (pc' := 47) rfl ?_
        refine pv_irem (by decide) dX12_level_47 ?_
        refine pv_istore (ls' := [some (.ref 200), some (.int x), some (.int y), some (.int z), some (.int u), some (.int (u / 10)), some (.int (u - u / 10 * 10)), none, none, none, none, none]) dX12_level_48 (by decide) rfl rfl ?_
        refine pv_aload_n dX12_level_50 rfl ?_
        refine pv_getRk 12 3 dX12_level_51 fl_X12_13 rfl (lt_200 hL) (lr_200_3 hL) ?_
        refine pv_iload_n dX12_level_54 rfl ?_
        obtain ⟨q2, F⟩ := F
        refine pv_iald dX12_level_55 (lt_303 hL) q2 ?_
        refine pv_istore (ls' := [some (.ref 200), some (.int x), some (.int y), some (.int z), some (.int u), some (.int (u / 10)), some (.int (u - u / 10 * 10)), some (.int (h 303 (Int32.toNatClampNeg x))), none, none, none, none]) dX12_level_56 (by decide) rfl rfl ?_
        refine pv_iload dX12_level_58 rfl ?_
        refine pv_iconst (v := 1) (by decide) dX12_level_60 ?_
        refine pv_isub dX12_level_61 ?_
        refine pv_istore (ls' := [some (.ref 200), some (.int x), some (.int y), some (.int z), some (.int u), some (.int (u / 10)), some (.int (u - u / 10 * 10)), some (.int (h 303 (Int32.toNatClampNeg x))), some (.int ((h 303 (Int32.toNatClampNeg x)) - 1)), none, none, none]) dX12_level_62 (by decide) rfl rfl ?_
        refine pv_forgetL (ls' := [some (.ref 200), some (.int x), some (.int y), some (.int z), none, some (.int (u / 10)), some (.int (u - u / 10 * 10)), some (.int (h 303 (Int32.toNatClampNeg x))), some (.int ((h 303 (Int32.toNatClampNeg x)) - 1)), none, none, none]) (pv_subL_ok ⟨rfl, ⟨rfl, ⟨rfl, ⟨rfl, ⟨rfl, ⟨rfl, ⟨rfl, ⟨rfl, trivial⟩⟩⟩⟩⟩⟩⟩⟩) ?_
        exact F
      · have F := F.2 c3
        refine pv_iconst (v := (-1)) (by decide) dX12_level_34 ?_
        exact pv_ireturn dX12_level_35 rfl rfl F
set_option maxRecDepth 20000 in
set_option maxHeartbeats 4000000 in
theorem sg_X12_level_64 {Γ : pv_C} {d kc ks : Nat} {ty : pv_T} {h : pv_H} {r : pv_R} {g : pv_G} {Q : pv_Q} (x1 : Int32) (x2 : Int32) (x3 : Int32) (x5 : Int32) (x6 : Int32) (x7 : Int32) (x8 : Int32) (F : ((x8 < 0 → pv_E Γ d kc ks mX12_level 247 [some (.ref 200), some (.int x1), some (.int x2), some (.int x3), none, some (.int x5), some (.int x6), some (.int x7), some (.int 0), some (.int 1), none, none] [] ty h r g Q) ∧ (¬ x8 < 0 → pv_E Γ d kc ks mX12_level 72 [some (.ref 200), some (.int x1), some (.int x2), some (.int x3), none, some (.int x5), some (.int x6), some (.int x7), some (.int x8), some (.int 0), none, none] [] ty h r g Q))) : pv_E Γ d kc ks mX12_level 64 [some (.ref 200), some (.int x1), some (.int x2), some (.int x3), none, some (.int x5), some (.int x6), some (.int x7), some (.int x8), none, none, none] [] ty h r g Q := by
  refine pv_iload dX12_level_64 rfl ?_
  refine pv_if_lt (tgt := 241) dX12_level_66 (by decide) (fun c1 => ?_) (fun c1 => ?_)
  · have F := F.1 c1
    refine pv_iconst (v := 0) (by decide) dX12_level_241 ?_
    refine pv_istore (ls' := [some (.ref 200), some (.int x1), some (.int x2), some (.int x3), none, some (.int x5), some (.int x6), some (.int x7), some (.int 0), none, none, none]) dX12_level_242 (by decide) rfl rfl ?_
    refine pv_iconst (v := 1) (by decide) dX12_level_244 ?_
    refine pv_istore (ls' := [some (.ref 200), some (.int x1), some (.int x2), some (.int x3), none, some (.int x5), some (.int x6), some (.int x7), some (.int 0), some (.int 1), none, none]) dX12_level_245 (by decide) rfl rfl ?_
    exact F
  · have F := F.2 c1
    refine pv_iconst (v := 0) (by decide) dX12_level_69 ?_
    refine pv_istore (ls' := [some (.ref 200), some (.int x1), some (.int x2), some (.int x3), none, some (.int x5), some (.int x6), some (.int x7), some (.int x8), some (.int 0), none, none]) dX12_level_70 (by decide) rfl rfl ?_
    exact F
set_option maxRecDepth 20000 in
set_option maxHeartbeats 4000000 in
theorem sg_X12_level_72 {Γ : pv_C} {d kc ks : Nat} {ty : pv_T} {h : pv_H} {r : pv_R} {g : pv_G} {Q : pv_Q} (x1 : Int32) (x2 : Int32) (x3 : Int32) (x5 : Int32) (x6 : Int32) (x7 : Int32) (x8 : Int32) (x9 : Int32) (F : ((100 ≤ x9 → pv_E Γ d kc ks mX12_level 64 [some (.ref 200), some (.int x1), some (.int x2), some (.int x3), none, some (.int x5), some (.int x6), some (.int x7), some (.int (x8 + (-1))), none, none, none] [] ty h r g Q) ∧ (¬ 100 ≤ x9 → ((¬ x8 = (x7 - 1) → pv_E Γ d kc ks mX12_level 99 [some (.ref 200), some (.int x1), some (.int x2), some (.int x3), none, some (.int x5), some (.int x6), some (.int x7), some (.int x8), some (.int x9), some (.int 1000000), some (.int 0)] [] ty h r g Q) ∧ (x8 = (x7 - 1) → pv_E Γ d kc ks mX12_level 99 [some (.ref 200), some (.int x1), some (.int x2), some (.int x3), none, some (.int x5), some (.int x6), some (.int x7), some (.int x8), some (.int x9), some (.int 0), some (.int 0)] [] ty h r g Q))))) : pv_E Γ d kc ks mX12_level 72 [some (.ref 200), some (.int x1), some (.int x2), some (.int x3), none, some (.int x5), some (.int x6), some (.int x7), some (.int x8), some (.int x9), none, none] [] ty h r g Q := by
  refine pv_iload dX12_level_72 rfl ?_
  refine pv_bipush (v := 100) (by decide) dX12_level_74 ?_
  refine pv_icmp_ge (tgt := 235) dX12_level_76 (by decide) (fun c1 => ?_) (fun c1 => ?_)
  · have F := F.1 c1
    refine pv_iinc (v := x8 + (-1)) (ls' := [some (.ref 200), some (.int x1), some (.int x2), some (.int x3), none, some (.int x5), some (.int x6), some (.int x7), some (.int (x8 + (-1))), some (.int x9), none, none]) dX12_level_235 rfl (by rfl) rfl rfl ?_
    refine pv_goto (tgt := 64) dX12_level_238 (by decide) ?_
    refine pv_forgetL (ls' := [some (.ref 200), some (.int x1), some (.int x2), some (.int x3), none, some (.int x5), some (.int x6), some (.int x7), some (.int (x8 + (-1))), none, none, none]) (pv_subL_ok ⟨rfl, ⟨rfl, ⟨rfl, ⟨rfl, ⟨rfl, ⟨rfl, ⟨rfl, ⟨rfl, trivial⟩⟩⟩⟩⟩⟩⟩⟩) ?_
    exact F
  · have F := F.2 c1
    refine pv_iload dX12_level_79 rfl ?_
    refine pv_iload dX12_level_81 rfl ?_
    refine pv_iconst (v := 1) (by decide) dX12_level_83 ?_
    refine pv_isub dX12_level_84 ?_
    refine pv_icmp_ne (tgt := 92) dX12_level_85 (by decide) (fun c2 => ?_) (fun c2 => ?_)
    · have F := F.1 c2
      refine pv_ldc (v := 1000000) dX12_level_92 kc_X12_189 ?_
      refine pv_istore (ls' := [some (.ref 200), some (.int x1), some (.int x2), some (.int x3), none, some (.int x5), some (.int x6), some (.int x7), some (.int x8), some (.int x9), some (.int 1000000), none]) dX12_level_94 (by decide) rfl rfl ?_
      refine pv_iconst (v := 0) (by decide) dX12_level_96 ?_
      refine pv_istore (ls' := [some (.ref 200), some (.int x1), some (.int x2), some (.int x3), none, some (.int x5), some (.int x6), some (.int x7), some (.int x8), some (.int x9), some (.int 1000000), some (.int 0)]) dX12_level_97 (by decide) rfl rfl ?_
      exact F
    · have F := F.2 c2
      refine pv_iconst (v := 0) (by decide) dX12_level_88 ?_
      refine pv_goto (tgt := 94) dX12_level_89 (by decide) ?_
      refine pv_istore (ls' := [some (.ref 200), some (.int x1), some (.int x2), some (.int x3), none, some (.int x5), some (.int x6), some (.int x7), some (.int x8), some (.int x9), some (.int 0), none]) dX12_level_94 (by decide) rfl rfl ?_
      refine pv_iconst (v := 0) (by decide) dX12_level_96 ?_
      refine pv_istore (ls' := [some (.ref 200), some (.int x1), some (.int x2), some (.int x3), none, some (.int x5), some (.int x6), some (.int x7), some (.int x8), some (.int x9), some (.int 0), some (.int 0)]) dX12_level_97 (by decide) rfl rfl ?_
      exact F
set_option maxRecDepth 20000 in
set_option maxHeartbeats 4000000 in
theorem sg_X12_level_247 {Γ : pv_C} {d kc ks : Nat} {ty : pv_T} {h : pv_H} {r : pv_R} {g : pv_G} {Q : pv_Q} (x1 : Int32) (x2 : Int32) (x3 : Int32) (x5 : Int32) (x6 : Int32) (x7 : Int32) (x8 : Int32) (x9 : Int32) (hL : pv_Lay ty r) (F : ((100 ≤ x9 → vp_in x8 900 ∧ (((h 313 (Int32.toNatClampNeg x8)) < 1000000 → (∀ h1 : pv_H, h1 = pv_up h 200 7 x1 → (∀ h2 : pv_H, h2 = pv_up h1 200 8 x2 → (∀ h3 : pv_H, h3 = pv_up h2 200 9 1 → vp_in x8 900 ∧ (∀ h4 : pv_H, h4 = pv_up h3 200 10 (h3 313 (Int32.toNatClampNeg x8)) → pv_E Γ d kc ks mX12_level 325 [some (.ref 200), some (.int x1), some (.int x2), some (.int x3), none, some (.int x5), some (.int x6), some (.int x7), some (.int x8), some (.int 0), none, none] [] ty h4 r g Q))))) ∧ (¬ (h 313 (Int32.toNatClampNeg x8)) < 1000000 → Q (some (.int (-2))) ty h r g))) ∧ (¬ 100 ≤ x9 → vp_in x9 900 ∧ vp_in x8 900 ∧ (((h 313 (Int32.toNatClampNeg x8)) ≤ (h 313 (Int32.toNatClampNeg x9)) → pv_E Γ d kc ks mX12_level 247 [some (.ref 200), some (.int x1), some (.int x2), some (.int x3), none, some (.int x5), some (.int x6), some (.int x7), some (.int x8), some (.int (x9 + 1)), none, none] [] ty h r g Q) ∧ (¬ (h 313 (Int32.toNatClampNeg x8)) ≤ (h 313 (Int32.toNatClampNeg x9)) → pv_E Γ d kc ks mX12_level 247 [some (.ref 200), some (.int x1), some (.int x2), some (.int x3), none, some (.int x5), some (.int x6), some (.int x7), some (.int x9), some (.int (x9 + 1)), none, none] [] ty h r g Q))))) : pv_E Γ d kc ks mX12_level 247 [some (.ref 200), some (.int x1), some (.int x2), some (.int x3), none, some (.int x5), some (.int x6), some (.int x7), some (.int x8), some (.int x9), none, none] [] ty h r g Q := by
  refine pv_iload dX12_level_247 rfl ?_
  refine pv_bipush (v := 100) (by decide) dX12_level_249 ?_
  refine pv_icmp_ge (tgt := 281) dX12_level_251 (by decide) (fun c1 => ?_) (fun c1 => ?_)
  · have F := F.1 c1
    refine pv_aload_n dX12_level_281 rfl ?_
    refine pv_getRk 12 13 dX12_level_282 fl_X12_39 rfl (lt_200 hL) (lr_200_13 hL) ?_
    refine pv_iload dX12_level_285 rfl ?_
    obtain ⟨q1, F⟩ := F
    refine pv_iald dX12_level_287 (lt_313 hL) q1 ?_
    refine pv_ldc (v := 1000000) dX12_level_288 kc_X12_189 ?_
    refine pv_icmp_lt (tgt := 296) dX12_level_290 (by decide) (fun c2 => ?_) (fun c2 => ?_)
    · have F := F.1 c2
      refine pv_aload_n dX12_level_296 rfl ?_
      refine pv_iload_n dX12_level_297 rfl ?_
      obtain ⟨h1, eh1⟩ : ∃ h1 : pv_H, h1 = pv_up h 200 7 x1 := ⟨_, rfl⟩
      have F := F h1 eh1
      refine pv_putI 12 7 dX12_level_298 fl_X12_26 ⟨_, rfl, Or.inl rfl⟩ (Or.inl rfl) (lt_200 hL) ?_
      refine pv_hE eh1 ?_
      refine pv_aload_n dX12_level_301 rfl ?_
      refine pv_iload_n dX12_level_302 rfl ?_
      obtain ⟨h2, eh2⟩ : ∃ h2 : pv_H, h2 = pv_up h1 200 8 x2 := ⟨_, rfl⟩
      have F := F h2 eh2
      refine pv_putI 12 8 dX12_level_303 fl_X12_30 ⟨_, rfl, Or.inl rfl⟩ (Or.inl rfl) (lt_200 hL) ?_
      refine pv_hE eh2 ?_
      refine pv_aload_n dX12_level_306 rfl ?_
      refine pv_iconst (v := 1) (by decide) dX12_level_307 ?_
      obtain ⟨h3, eh3⟩ : ∃ h3 : pv_H, h3 = pv_up h2 200 9 1 := ⟨_, rfl⟩
      have F := F h3 eh3
      refine pv_putI 12 9 dX12_level_308 fl_X12_198 ⟨_, rfl, Or.inl rfl⟩ (Or.inr ⟨rfl, by decide⟩) (lt_200 hL) ?_
      refine pv_hE eh3 ?_
      refine pv_aload_n dX12_level_311 rfl ?_
      refine pv_aload_n dX12_level_312 rfl ?_
      refine pv_getRk 12 13 dX12_level_313 fl_X12_39 rfl (lt_200 hL) (lr_200_13 hL) ?_
      refine pv_iload dX12_level_316 rfl ?_
      obtain ⟨q2, F⟩ := F
      refine pv_iald dX12_level_318 (lt_313 hL) q2 ?_
      obtain ⟨h4, eh4⟩ : ∃ h4 : pv_H, h4 = pv_up h3 200 10 (h3 313 (Int32.toNatClampNeg x8)) := ⟨_, rfl⟩
      have F := F h4 eh4
      refine pv_putI 12 10 dX12_level_319 fl_X12_202 ⟨_, rfl, Or.inl rfl⟩ (Or.inl rfl) (lt_200 hL) ?_
      refine pv_hE eh4 ?_
      refine pv_iconst (v := 0) (by decide) dX12_level_322 ?_
      refine pv_istore (ls' := [some (.ref 200), some (.int x1), some (.int x2), some (.int x3), none, some (.int x5), some (.int x6), some (.int x7), some (.int x8), some (.int 0), none, none]) dX12_level_323 (by decide) rfl rfl ?_
      exact F
    · have F := F.2 c2
      refine pv_bipush (v := (-2)) (by decide) dX12_level_293 ?_
      exact pv_ireturn dX12_level_295 rfl rfl F
  · have F := F.2 c1
    refine pv_aload_n dX12_level_254 rfl ?_
    refine pv_getRk 12 13 dX12_level_255 fl_X12_39 rfl (lt_200 hL) (lr_200_13 hL) ?_
    refine pv_iload dX12_level_258 rfl ?_
    obtain ⟨q3, F⟩ := F
    refine pv_iald dX12_level_260 (lt_313 hL) q3 ?_
    refine pv_aload_n dX12_level_261 rfl ?_
    refine pv_getRk 12 13 dX12_level_262 fl_X12_39 rfl (lt_200 hL) (lr_200_13 hL) ?_
    refine pv_iload dX12_level_265 rfl ?_
    obtain ⟨q4, F⟩ := F
    refine pv_iald dX12_level_267 (lt_313 hL) q4 ?_
    refine pv_icmp_ge (tgt := 275) dX12_level_268 (by decide) (fun c3 => ?_) (fun c3 => ?_)
    · have F := F.1 c3
      refine pv_iinc (v := x9 + 1) (ls' := [some (.ref 200), some (.int x1), some (.int x2), some (.int x3), none, some (.int x5), some (.int x6), some (.int x7), some (.int x8), some (.int (x9 + 1)), none, none]) dX12_level_275 rfl (by rfl) rfl rfl ?_
      refine pv_goto (tgt := 247) dX12_level_278 (by decide) ?_
      exact F
    · have F := F.2 c3
      refine pv_iload dX12_level_271 rfl ?_
      refine pv_istore (ls' := [some (.ref 200), some (.int x1), some (.int x2), some (.int x3), none, some (.int x5), some (.int x6), some (.int x7), some (.int x9), some (.int x9), none, none]) dX12_level_273 (by decide) rfl rfl ?_
      refine pv_iinc (v := x9 + 1) (ls' := [some (.ref 200), some (.int x1), some (.int x2), some (.int x3), none, some (.int x5), some (.int x6), some (.int x7), some (.int x9), some (.int (x9 + 1)), none, none]) dX12_level_275 rfl (by rfl) rfl rfl ?_
      refine pv_goto (tgt := 247) dX12_level_278 (by decide) ?_
      exact F
set_option maxRecDepth 20000 in
set_option maxHeartbeats 4000000 in
theorem sg_X12_level_99 {Γ : pv_C} {d kc ks : Nat} {ty : pv_T} {h : pv_H} {r : pv_R} {g : pv_G} {Q : pv_Q} (x1 : Int32) (x2 : Int32) (x3 : Int32) (x5 : Int32) (x6 : Int32) (x7 : Int32) (x8 : Int32) (x9 : Int32) (x10 : Int32) (x11 : Int32) (hd : 1 ≤ d) (hL : pv_Lay ty r) (F : ((100 ≤ x11 → ((¬ x10 = 1000000 → vp_in (144 * x1 + 9 * x2 + x8) 1152 ∧ vp_in ((100 * x8) + x9) 900 ∧ (∀ h1 : pv_H, h1 = pv_up h 313 (Int32.toNatClampNeg ((100 * x8) + x9)) (x10 + (pf_abs (x9 - (h 304 (Int32.toNatClampNeg (144 * x1 + 9 * x2 + x8)))))) → pv_E Γ d kc ks mX12_level 72 [some (.ref 200), some (.int x1), some (.int x2), some (.int x3), none, some (.int x5), some (.int x6), some (.int x7), some (.int x8), some (.int (x9 + 1)), none, none] [] ty h1 r g Q)) ∧ (x10 = 1000000 → vp_in ((100 * x8) + x9) 900 ∧ (∀ h2 : pv_H, h2 = pv_up h 313 (Int32.toNatClampNeg ((100 * x8) + x9)) 1000000 → pv_E Γ d kc ks mX12_level 72 [some (.ref 200), some (.int x1), some (.int x2), some (.int x3), none, some (.int x5), some (.int x6), some (.int x7), some (.int x8), some (.int (x9 + 1)), none, none] [] ty h2 r g Q)))) ∧ (¬ 100 ≤ x11 → (((x7 - 1) ≤ x8 → ((¬ x10 = 1000000 → vp_in (144 * x1 + 9 * x2 + x8) 1152 ∧ vp_in ((100 * x8) + x9) 900 ∧ (∀ h3 : pv_H, h3 = pv_up h 313 (Int32.toNatClampNeg ((100 * x8) + x9)) (x10 + (pf_abs (x9 - (h 304 (Int32.toNatClampNeg (144 * x1 + 9 * x2 + x8)))))) → pv_E Γ d kc ks mX12_level 72 [some (.ref 200), some (.int x1), some (.int x2), some (.int x3), none, some (.int x5), some (.int x6), some (.int x7), some (.int x8), some (.int (x9 + 1)), none, none] [] ty h3 r g Q)) ∧ (x10 = 1000000 → vp_in ((100 * x8) + x9) 900 ∧ (∀ h4 : pv_H, h4 = pv_up h 313 (Int32.toNatClampNeg ((100 * x8) + x9)) 1000000 → pv_E Γ d kc ks mX12_level 72 [some (.ref 200), some (.int x1), some (.int x2), some (.int x3), none, some (.int x5), some (.int x6), some (.int x7), some (.int x8), some (.int (x9 + 1)), none, none] [] ty h4 r g Q)))) ∧ (¬ (x7 - 1) ≤ x8 → ((x3 ≤ x8 → (((pf_b (lv_fl x9 x11 0 x5 x6)) = 0 → pv_E Γ d kc ks mX12_level 99 [some (.ref 200), some (.int x1), some (.int x2), some (.int x3), none, some (.int x5), some (.int x6), some (.int x7), some (.int x8), some (.int x9), some (.int x10), some (.int (x11 + 1))] [] ty h r g Q) ∧ (¬ (pf_b (lv_fl x9 x11 0 x5 x6)) = 0 → vp_in ((100 * (x8 + 1)) + x11) 900 ∧ ((x10 ≤ (h 313 (Int32.toNatClampNeg ((100 * (x8 + 1)) + x11))) → pv_E Γ d kc ks mX12_level 99 [some (.ref 200), some (.int x1), some (.int x2), some (.int x3), none, some (.int x5), some (.int x6), some (.int x7), some (.int x8), some (.int x9), some (.int x10), some (.int (x11 + 1))] [] ty h r g Q) ∧ (¬ x10 ≤ (h 313 (Int32.toNatClampNeg ((100 * (x8 + 1)) + x11))) → vp_in ((100 * (x8 + 1)) + x11) 900 ∧ pv_E Γ d kc ks mX12_level 99 [some (.ref 200), some (.int x1), some (.int x2), some (.int x3), none, some (.int x5), some (.int x6), some (.int x7), some (.int x8), some (.int x9), some (.int (h 313 (Int32.toNatClampNeg ((100 * (x8 + 1)) + x11)))), some (.int (x11 + 1))] [] ty h r g Q))))) ∧ (¬ x3 ≤ x8 → (((pf_b (lv_fl x9 x11 1 x5 x6)) = 0 → pv_E Γ d kc ks mX12_level 99 [some (.ref 200), some (.int x1), some (.int x2), some (.int x3), none, some (.int x5), some (.int x6), some (.int x7), some (.int x8), some (.int x9), some (.int x10), some (.int (x11 + 1))] [] ty h r g Q) ∧ (¬ (pf_b (lv_fl x9 x11 1 x5 x6)) = 0 → vp_in ((100 * (x8 + 1)) + x11) 900 ∧ ((x10 ≤ (h 313 (Int32.toNatClampNeg ((100 * (x8 + 1)) + x11))) → pv_E Γ d kc ks mX12_level 99 [some (.ref 200), some (.int x1), some (.int x2), some (.int x3), none, some (.int x5), some (.int x6), some (.int x7), some (.int x8), some (.int x9), some (.int x10), some (.int (x11 + 1))] [] ty h r g Q) ∧ (¬ x10 ≤ (h 313 (Int32.toNatClampNeg ((100 * (x8 + 1)) + x11))) → vp_in ((100 * (x8 + 1)) + x11) 900 ∧ pv_E Γ d kc ks mX12_level 99 [some (.ref 200), some (.int x1), some (.int x2), some (.int x3), none, some (.int x5), some (.int x6), some (.int x7), some (.int x8), some (.int x9), some (.int (h 313 (Int32.toNatClampNeg ((100 * (x8 + 1)) + x11)))), some (.int (x11 + 1))] [] ty h r g Q))))))))))) : pv_E Γ d kc ks mX12_level 99 [some (.ref 200), some (.int x1), some (.int x2), some (.int x3), none, some (.int x5), some (.int x6), some (.int x7), some (.int x8), some (.int x9), some (.int x10), some (.int x11)] [] ty h r g Q := by
  refine pv_iload dX12_level_99 rfl ?_
  refine pv_bipush (v := 100) (by decide) dX12_level_101 ?_
  refine pv_icmp_ge (tgt := 183) dX12_level_103 (by decide) (fun c1 => ?_) (fun c1 => ?_)
  · have F := F.1 c1
    refine pv_aload_n dX12_level_183 rfl ?_
    refine pv_getRk 12 13 dX12_level_184 fl_X12_39 rfl (lt_200 hL) (lr_200_13 hL) ?_
    refine pv_bipush (v := 100) (by decide) dX12_level_187 ?_
    refine pv_iload dX12_level_189 rfl ?_
    refine pv_imul dX12_level_191 ?_
    refine pv_iload dX12_level_192 rfl ?_
    refine pv_pc (pc' := 194) rfl ?_
    refine pv_iadd dX12_level_194 ?_
    refine pv_iload dX12_level_195 rfl ?_
    refine pv_ldc (v := 1000000) dX12_level_197 kc_X12_189 ?_
    refine pv_icmp_ne (tgt := 207) dX12_level_199 (by decide) (fun c2 => ?_) (fun c2 => ?_)
    · have F := F.1 c2
      refine pv_iload dX12_level_207 rfl ?_
      refine pv_iload dX12_level_209 rfl ?_
      refine pv_aload_n dX12_level_211 rfl ?_
      refine pv_getRk 12 4 dX12_level_212 fl_X12_16 rfl (lt_200 hL) (lr_200_4 hL) ?_
      refine pv_iload_n dX12_level_215 rfl ?_
      refine pv_iload_n dX12_level_216 rfl ?_
      refine pv_pc (pc' := 217) rfl ?_
      refine pv_iload dX12_level_217 rfl ?_
      refine pv_invS (As := [.int x1, .int x2, .int x8]) (d' := d - 1) dX12_level_219 moX12_place ml_X12_175 (Nat.le_of_ble_eq_true rfl) (by omega) (Nat.zero_le _) (Nat.zero_le _) (ct_X12_place (by omega)) (fun v ty' h' r' g' hq => ?_) rfl
      obtain ⟨e1, e2, e3, e4, e5⟩ := hq
      rw [e1, e2, e3, e4, e5]
      refine pv_pc (pc' := 222) rfl ?_
      show pv_E Γ d kc ks mX12_level 222 [some (.ref 200), some (.int x1), some (.int x2), some (.int x3), none, some (.int x5), some (.int x6), some (.int x7), some (.int x8), some (.int x9), some (.int x10), some (.int x11)] [.int (144 * x1 + 9 * x2 + x8), .ref 304, .int x9, .int x10, .int ((100 * x8) + x9), .ref 313] ty h r g Q
      obtain ⟨q1, F⟩ := F
      refine pv_iald dX12_level_222 (lt_304 hL) q1 ?_
      refine pv_isub dX12_level_223 ?_
      refine pv_invS (As := [.int (x9 - (h 304 (Int32.toNatClampNeg (144 * x1 + 9 * x2 + x8))))]) (d' := d - 1) dX12_level_224 moX12_size ml_X12_194 (Nat.le_of_ble_eq_true rfl) (by omega) (Nat.zero_le _) (Nat.zero_le _) (ct_X12_size (by omega)) (fun v ty' h' r' g' hq => ?_) rfl
      obtain ⟨e1, e2, e3, e4, e5⟩ := hq
      rw [e1, e2, e3, e4, e5]
      refine pv_pc (pc' := 227) rfl ?_
      show pv_E Γ d kc ks mX12_level 227 [some (.ref 200), some (.int x1), some (.int x2), some (.int x3), none, some (.int x5), some (.int x6), some (.int x7), some (.int x8), some (.int x9), some (.int x10), some (.int x11)] [.int (pf_abs (x9 - (h 304 (Int32.toNatClampNeg (144 * x1 + 9 * x2 + x8))))), .int x10, .int ((100 * x8) + x9), .ref 313] ty h r g Q
      refine pv_iadd dX12_level_227 ?_
      obtain ⟨q2, F⟩ := F
      obtain ⟨h1, eh1⟩ : ∃ h1 : pv_H, h1 = pv_up h 313 (Int32.toNatClampNeg ((100 * x8) + x9)) (x10 + (pf_abs (x9 - (h 304 (Int32.toNatClampNeg (144 * x1 + 9 * x2 + x8)))))) := ⟨_, rfl⟩
      have F := F h1 eh1
      refine pv_iast dX12_level_228 (lt_313 hL) (by decide) q2 ?_
      refine pv_hE eh1 ?_
      refine pv_iinc (v := x9 + 1) (ls' := [some (.ref 200), some (.int x1), some (.int x2), some (.int x3), none, some (.int x5), some (.int x6), some (.int x7), some (.int x8), some (.int (x9 + 1)), some (.int x10), some (.int x11)]) dX12_level_229 rfl (by rfl) rfl rfl ?_
      refine pv_goto (tgt := 72) dX12_level_232 (by decide) ?_
      refine pv_forgetL (ls' := [some (.ref 200), some (.int x1), some (.int x2), some (.int x3), none, some (.int x5), some (.int x6), some (.int x7), some (.int x8), some (.int (x9 + 1)), none, none]) (pv_subL_ok ⟨rfl, ⟨rfl, ⟨rfl, ⟨rfl, ⟨rfl, ⟨rfl, ⟨rfl, ⟨rfl, ⟨rfl, trivial⟩⟩⟩⟩⟩⟩⟩⟩⟩) ?_
      exact F
    · have F := F.2 c2
      refine pv_ldc (v := 1000000) dX12_level_202 kc_X12_189 ?_
      refine pv_goto (tgt := 228) dX12_level_204 (by decide) ?_
      obtain ⟨q3, F⟩ := F
      obtain ⟨h2, eh2⟩ : ∃ h2 : pv_H, h2 = pv_up h 313 (Int32.toNatClampNeg ((100 * x8) + x9)) 1000000 := ⟨_, rfl⟩
      have F := F h2 eh2
      refine pv_iast dX12_level_228 (lt_313 hL) (by decide) q3 ?_
      refine pv_hE eh2 ?_
      refine pv_iinc (v := x9 + 1) (ls' := [some (.ref 200), some (.int x1), some (.int x2), some (.int x3), none, some (.int x5), some (.int x6), some (.int x7), some (.int x8), some (.int (x9 + 1)), some (.int x10), some (.int x11)]) dX12_level_229 rfl (by rfl) rfl rfl ?_
      refine pv_goto (tgt := 72) dX12_level_232 (by decide) ?_
      refine pv_forgetL (ls' := [some (.ref 200), some (.int x1), some (.int x2), some (.int x3), none, some (.int x5), some (.int x6), some (.int x7), some (.int x8), some (.int (x9 + 1)), none, none]) (pv_subL_ok ⟨rfl, ⟨rfl, ⟨rfl, ⟨rfl, ⟨rfl, ⟨rfl, ⟨rfl, ⟨rfl, ⟨rfl, trivial⟩⟩⟩⟩⟩⟩⟩⟩⟩) ?_
      exact F
  · have F := F.2 c1
    refine pv_iload dX12_level_106 rfl ?_
    refine pv_iload dX12_level_108 rfl ?_
    refine pv_iconst (v := 1) (by decide) dX12_level_110 ?_
    refine pv_isub dX12_level_111 ?_
    refine pv_icmp_ge (tgt := 183) dX12_level_112 (by decide) (fun c3 => ?_) (fun c3 => ?_)
    · have F := F.1 c3
      refine pv_aload_n dX12_level_183 rfl ?_
      refine pv_getRk 12 13 dX12_level_184 fl_X12_39 rfl (lt_200 hL) (lr_200_13 hL) ?_
      refine pv_bipush (v := 100) (by decide) dX12_level_187 ?_
      refine pv_iload dX12_level_189 rfl ?_
      refine pv_imul dX12_level_191 ?_
      refine pv_iload dX12_level_192 rfl ?_
      refine pv_pc (pc' := 194) rfl ?_
      refine pv_iadd dX12_level_194 ?_
      refine pv_iload dX12_level_195 rfl ?_
      refine pv_ldc (v := 1000000) dX12_level_197 kc_X12_189 ?_
      refine pv_icmp_ne (tgt := 207) dX12_level_199 (by decide) (fun c4 => ?_) (fun c4 => ?_)
      · have F := F.1 c4
        refine pv_iload dX12_level_207 rfl ?_
        refine pv_iload dX12_level_209 rfl ?_
        refine pv_aload_n dX12_level_211 rfl ?_
        refine pv_getRk 12 4 dX12_level_212 fl_X12_16 rfl (lt_200 hL) (lr_200_4 hL) ?_
        refine pv_iload_n dX12_level_215 rfl ?_
        refine pv_iload_n dX12_level_216 rfl ?_
        refine pv_pc (pc' := 217) rfl ?_
        refine pv_iload dX12_level_217 rfl ?_
        refine pv_invS (As := [.int x1, .int x2, .int x8]) (d' := d - 1) dX12_level_219 moX12_place ml_X12_175 (Nat.le_of_ble_eq_true rfl) (by omega) (Nat.zero_le _) (Nat.zero_le _) (ct_X12_place (by omega)) (fun v ty' h' r' g' hq => ?_) rfl
        obtain ⟨e1, e2, e3, e4, e5⟩ := hq
        rw [e1, e2, e3, e4, e5]
        refine pv_pc (pc' := 222) rfl ?_
        show pv_E Γ d kc ks mX12_level 222 [some (.ref 200), some (.int x1), some (.int x2), some (.int x3), none, some (.int x5), some (.int x6), some (.int x7), some (.int x8), some (.int x9), some (.int x10), some (.int x11)] [.int (144 * x1 + 9 * x2 + x8), .ref 304, .int x9, .int x10, .int ((100 * x8) + x9), .ref 313] ty h r g Q
        obtain ⟨q4, F⟩ := F
        refine pv_iald dX12_level_222 (lt_304 hL) q4 ?_
        refine pv_isub dX12_level_223 ?_
        refine pv_invS (As := [.int (x9 - (h 304 (Int32.toNatClampNeg (144 * x1 + 9 * x2 + x8))))]) (d' := d - 1) dX12_level_224 moX12_size ml_X12_194 (Nat.le_of_ble_eq_true rfl) (by omega) (Nat.zero_le _) (Nat.zero_le _) (ct_X12_size (by omega)) (fun v ty' h' r' g' hq => ?_) rfl
        obtain ⟨e1, e2, e3, e4, e5⟩ := hq
        rw [e1, e2, e3, e4, e5]
        refine pv_pc (pc' := 227) rfl ?_
        show pv_E Γ d kc ks mX12_level 227 [some (.ref 200), some (.int x1), some (.int x2), some (.int x3), none, some (.int x5), some (.int x6), some (.int x7), some (.int x8), some (.int x9), some (.int x10), some (.int x11)] [.int (pf_abs (x9 - (h 304 (Int32.toNatClampNeg (144 * x1 + 9 * x2 + x8))))), .int x10, .int ((100 * x8) + x9), .ref 313] ty h r g Q
        refine pv_iadd dX12_level_227 ?_
        obtain ⟨q5, F⟩ := F
        obtain ⟨h3, eh3⟩ : ∃ h3 : pv_H, h3 = pv_up h 313 (Int32.toNatClampNeg ((100 * x8) + x9)) (x10 + (pf_abs (x9 - (h 304 (Int32.toNatClampNeg (144 * x1 + 9 * x2 + x8)))))) := ⟨_, rfl⟩
        have F := F h3 eh3
        refine pv_iast dX12_level_228 (lt_313 hL) (by decide) q5 ?_
        refine pv_hE eh3 ?_
        refine pv_iinc (v := x9 + 1) (ls' := [some (.ref 200), some (.int x1), some (.int x2), some (.int x3), none, some (.int x5), some (.int x6), some (.int x7), some (.int x8), some (.int (x9 + 1)), some (.int x10), some (.int x11)]) dX12_level_229 rfl (by rfl) rfl rfl ?_
        refine pv_goto (tgt := 72) dX12_level_232 (by decide) ?_
        refine pv_forgetL (ls' := [some (.ref 200), some (.int x1), some (.int x2), some (.int x3), none, some (.int x5), some (.int x6), some (.int x7), some (.int x8), some (.int (x9 + 1)), none, none]) (pv_subL_ok ⟨rfl, ⟨rfl, ⟨rfl, ⟨rfl, ⟨rfl, ⟨rfl, ⟨rfl, ⟨rfl, ⟨rfl, trivial⟩⟩⟩⟩⟩⟩⟩⟩⟩) ?_
        exact F
      · have F := F.2 c4
        refine pv_ldc (v := 1000000) dX12_level_202 kc_X12_189 ?_
        refine pv_goto (tgt := 228) dX12_level_204 (by decide) ?_
        obtain ⟨q6, F⟩ := F
        obtain ⟨h4, eh4⟩ : ∃ h4 : pv_H, h4 = pv_up h 313 (Int32.toNatClampNeg ((100 * x8) + x9)) 1000000 := ⟨_, rfl⟩
        have F := F h4 eh4
        refine pv_iast dX12_level_228 (lt_313 hL) (by decide) q6 ?_
        refine pv_hE eh4 ?_
        refine pv_iinc (v := x9 + 1) (ls' := [some (.ref 200), some (.int x1), some (.int x2), some (.int x3), none, some (.int x5), some (.int x6), some (.int x7), some (.int x8), some (.int (x9 + 1)), some (.int x10), some (.int x11)]) dX12_level_229 rfl (by rfl) rfl rfl ?_
        refine pv_goto (tgt := 72) dX12_level_232 (by decide) ?_
        refine pv_forgetL (ls' := [some (.ref 200), some (.int x1), some (.int x2), some (.int x3), none, some (.int x5), some (.int x6), some (.int x7), some (.int x8), some (.int (x9 + 1)), none, none]) (pv_subL_ok ⟨rfl, ⟨rfl, ⟨rfl, ⟨rfl, ⟨rfl, ⟨rfl, ⟨rfl, ⟨rfl, ⟨rfl, trivial⟩⟩⟩⟩⟩⟩⟩⟩⟩) ?_
        exact F
    · have F := F.2 c3
      refine pv_iload dX12_level_115 rfl ?_
      refine pv_iload dX12_level_117 rfl ?_
      refine pv_iload dX12_level_119 rfl ?_
      refine pv_iload_n dX12_level_121 rfl ?_
      refine pv_icmp_ge (tgt := 129) dX12_level_122 (by decide) (fun c5 => ?_) (fun c5 => ?_)
      · have F := F.1 c5
        refine pv_iconst (v := 0) (by decide) dX12_level_129 ?_
        refine pv_iload dX12_level_130 rfl ?_
        refine pv_iload dX12_level_132 rfl ?_
        refine pv_invS (As := [.int x9, .int x11, .int 0, .int x5, .int x6]) (d' := d - 1) dX12_level_134 moX12_falls ml_X12_190 (Nat.le_of_ble_eq_true rfl) (by omega) (Nat.zero_le _) (Nat.zero_le _) (ct_X12_falls (by omega)) (fun v ty' h' r' g' hq => ?_) rfl
        obtain ⟨e1, e2, e3, e4, e5⟩ := hq
        rw [e1, e2, e3, e4, e5]
        refine pv_pc (pc' := 137) rfl ?_
        show pv_E Γ d kc ks mX12_level 137 [some (.ref 200), some (.int x1), some (.int x2), some (.int x3), none, some (.int x5), some (.int x6), some (.int x7), some (.int x8), some (.int x9), some (.int x10), some (.int x11)] [.int (pf_b (lv_fl x9 x11 0 x5 x6))] ty h r g Q
        refine pv_if_eq (tgt := 177) dX12_level_137 (by decide) (fun c6 => ?_) (fun c6 => ?_)
        · have F := F.1 c6
          refine pv_iinc (v := x11 + 1) (ls' := [some (.ref 200), some (.int x1), some (.int x2), some (.int x3), none, some (.int x5), some (.int x6), some (.int x7), some (.int x8), some (.int x9), some (.int x10), some (.int (x11 + 1))]) dX12_level_177 rfl (by rfl) rfl rfl ?_
          refine pv_goto (tgt := 99) dX12_level_180 (by decide) ?_
          exact F
        · have F := F.2 c6
          refine pv_aload_n dX12_level_140 rfl ?_
          refine pv_getRk 12 13 dX12_level_141 fl_X12_39 rfl (lt_200 hL) (lr_200_13 hL) ?_
          refine pv_bipush (v := 100) (by decide) dX12_level_144 ?_
          refine pv_iload dX12_level_146 rfl ?_
          refine pv_iconst (v := 1) (by decide) dX12_level_148 ?_
          refine pv_iadd dX12_level_149 ?_
          refine pv_pc (pc' := 150) rfl ?_
          refine pv_imul dX12_level_150 ?_
          refine pv_iload dX12_level_151 rfl ?_
          refine pv_iadd dX12_level_153 ?_
          obtain ⟨q7, F⟩ := F
          refine pv_iald dX12_level_154 (lt_313 hL) q7 ?_
          refine pv_iload dX12_level_155 rfl ?_
          refine pv_icmp_ge (tgt := 177) dX12_level_157 (by decide) (fun c7 => ?_) (fun c7 => ?_)
          · have F := F.1 c7
            refine pv_iinc (v := x11 + 1) (ls' := [some (.ref 200), some (.int x1), some (.int x2), some (.int x3), none, some (.int x5), some (.int x6), some (.int x7), some (.int x8), some (.int x9), some (.int x10), some (.int (x11 + 1))]) dX12_level_177 rfl (by rfl) rfl rfl ?_
            refine pv_goto (tgt := 99) dX12_level_180 (by decide) ?_
            exact F
          · have F := F.2 c7
            refine pv_aload_n dX12_level_160 rfl ?_
            refine pv_getRk 12 13 dX12_level_161 fl_X12_39 rfl (lt_200 hL) (lr_200_13 hL) ?_
            refine pv_bipush (v := 100) (by decide) dX12_level_164 ?_
            refine pv_iload dX12_level_166 rfl ?_
            refine pv_iconst (v := 1) (by decide) dX12_level_168 ?_
            refine pv_iadd dX12_level_169 ?_
            refine pv_pc (pc' := 170) rfl ?_
            refine pv_imul dX12_level_170 ?_
            refine pv_iload dX12_level_171 rfl ?_
            refine pv_iadd dX12_level_173 ?_
            obtain ⟨q8, F⟩ := F
            refine pv_iald dX12_level_174 (lt_313 hL) q8 ?_
            refine pv_istore (ls' := [some (.ref 200), some (.int x1), some (.int x2), some (.int x3), none, some (.int x5), some (.int x6), some (.int x7), some (.int x8), some (.int x9), some (.int (h 313 (Int32.toNatClampNeg ((100 * (x8 + 1)) + x11)))), some (.int x11)]) dX12_level_175 (by decide) rfl rfl ?_
            refine pv_iinc (v := x11 + 1) (ls' := [some (.ref 200), some (.int x1), some (.int x2), some (.int x3), none, some (.int x5), some (.int x6), some (.int x7), some (.int x8), some (.int x9), some (.int (h 313 (Int32.toNatClampNeg ((100 * (x8 + 1)) + x11)))), some (.int (x11 + 1))]) dX12_level_177 rfl (by rfl) rfl rfl ?_
            refine pv_goto (tgt := 99) dX12_level_180 (by decide) ?_
            exact F
      · have F := F.2 c5
        refine pv_iconst (v := 1) (by decide) dX12_level_125 ?_
        refine pv_goto (tgt := 130) dX12_level_126 (by decide) ?_
        refine pv_iload dX12_level_130 rfl ?_
        refine pv_iload dX12_level_132 rfl ?_
        refine pv_invS (As := [.int x9, .int x11, .int 1, .int x5, .int x6]) (d' := d - 1) dX12_level_134 moX12_falls ml_X12_190 (Nat.le_of_ble_eq_true rfl) (by omega) (Nat.zero_le _) (Nat.zero_le _) (ct_X12_falls (by omega)) (fun v ty' h' r' g' hq => ?_) rfl
        obtain ⟨e1, e2, e3, e4, e5⟩ := hq
        rw [e1, e2, e3, e4, e5]
        refine pv_pc (pc' := 137) rfl ?_
        show pv_E Γ d kc ks mX12_level 137 [some (.ref 200), some (.int x1), some (.int x2), some (.int x3), none, some (.int x5), some (.int x6), some (.int x7), some (.int x8), some (.int x9), some (.int x10), some (.int x11)] [.int (pf_b (lv_fl x9 x11 1 x5 x6))] ty h r g Q
        refine pv_if_eq (tgt := 177) dX12_level_137 (by decide) (fun c8 => ?_) (fun c8 => ?_)
        · have F := F.1 c8
          refine pv_iinc (v := x11 + 1) (ls' := [some (.ref 200), some (.int x1), some (.int x2), some (.int x3), none, some (.int x5), some (.int x6), some (.int x7), some (.int x8), some (.int x9), some (.int x10), some (.int (x11 + 1))]) dX12_level_177 rfl (by rfl) rfl rfl ?_
          refine pv_goto (tgt := 99) dX12_level_180 (by decide) ?_
          exact F
        · have F := F.2 c8
          refine pv_aload_n dX12_level_140 rfl ?_
          refine pv_getRk 12 13 dX12_level_141 fl_X12_39 rfl (lt_200 hL) (lr_200_13 hL) ?_
          refine pv_bipush (v := 100) (by decide) dX12_level_144 ?_
          refine pv_iload dX12_level_146 rfl ?_
          refine pv_iconst (v := 1) (by decide) dX12_level_148 ?_
          refine pv_iadd dX12_level_149 ?_
          refine pv_pc (pc' := 150) rfl ?_
          refine pv_imul dX12_level_150 ?_
          refine pv_iload dX12_level_151 rfl ?_
          refine pv_iadd dX12_level_153 ?_
          obtain ⟨q9, F⟩ := F
          refine pv_iald dX12_level_154 (lt_313 hL) q9 ?_
          refine pv_iload dX12_level_155 rfl ?_
          refine pv_icmp_ge (tgt := 177) dX12_level_157 (by decide) (fun c9 => ?_) (fun c9 => ?_)
          · have F := F.1 c9
            refine pv_iinc (v := x11 + 1) (ls' := [some (.ref 200), some (.int x1), some (.int x2), some (.int x3), none, some (.int x5), some (.int x6), some (.int x7), some (.int x8), some (.int x9), some (.int x10), some (.int (x11 + 1))]) dX12_level_177 rfl (by rfl) rfl rfl ?_
            refine pv_goto (tgt := 99) dX12_level_180 (by decide) ?_
            exact F
          · have F := F.2 c9
            refine pv_aload_n dX12_level_160 rfl ?_
            refine pv_getRk 12 13 dX12_level_161 fl_X12_39 rfl (lt_200 hL) (lr_200_13 hL) ?_
            refine pv_bipush (v := 100) (by decide) dX12_level_164 ?_
            refine pv_iload dX12_level_166 rfl ?_
            refine pv_iconst (v := 1) (by decide) dX12_level_168 ?_
            refine pv_iadd dX12_level_169 ?_
            refine pv_pc (pc' := 170) rfl ?_
            refine pv_imul dX12_level_170 ?_
            refine pv_iload dX12_level_171 rfl ?_
            refine pv_iadd dX12_level_173 ?_
            obtain ⟨q10, F⟩ := F
            refine pv_iald dX12_level_174 (lt_313 hL) q10 ?_
            refine pv_istore (ls' := [some (.ref 200), some (.int x1), some (.int x2), some (.int x3), none, some (.int x5), some (.int x6), some (.int x7), some (.int x8), some (.int x9), some (.int (h 313 (Int32.toNatClampNeg ((100 * (x8 + 1)) + x11)))), some (.int x11)]) dX12_level_175 (by decide) rfl rfl ?_
            refine pv_iinc (v := x11 + 1) (ls' := [some (.ref 200), some (.int x1), some (.int x2), some (.int x3), none, some (.int x5), some (.int x6), some (.int x7), some (.int x8), some (.int x9), some (.int (h 313 (Int32.toNatClampNeg ((100 * (x8 + 1)) + x11)))), some (.int (x11 + 1))]) dX12_level_177 rfl (by rfl) rfl rfl ?_
            refine pv_goto (tgt := 99) dX12_level_180 (by decide) ?_
            exact F
set_option maxRecDepth 20000 in
set_option maxHeartbeats 4000000 in
theorem sg_X12_level_325 {Γ : pv_C} {d kc ks : Nat} {ty : pv_T} {h : pv_H} {r : pv_R} {g : pv_G} {Q : pv_Q} (x1 : Int32) (x2 : Int32) (x3 : Int32) (x5 : Int32) (x6 : Int32) (x7 : Int32) (x8 : Int32) (x9 : Int32) (hd : 1 ≤ d) (hL : pv_Lay ty r) (F : ((x7 ≤ x9 → vp_in 0 9 ∧ (∀ h1 : pv_H, h1 = pv_up h 311 (Int32.toNatClampNeg 0) x8 → pv_E Γ d kc ks mX12_level 368 [some (.ref 200), some (.int x1), some (.int x2), some (.int x3), none, some (.int x5), some (.int x6), some (.int x7), none, some (.int 1), none, none] [] ty h1 r g Q)) ∧ (¬ x7 ≤ x9 → vp_in (144 * x1 + 9 * x2 + x9) 1152 ∧ vp_in x9 9 ∧ (∀ h2 : pv_H, h2 = pv_up h 312 (Int32.toNatClampNeg x9) (h 304 (Int32.toNatClampNeg (144 * x1 + 9 * x2 + x9))) → pv_E Γ d kc ks mX12_level 325 [some (.ref 200), some (.int x1), some (.int x2), some (.int x3), none, some (.int x5), some (.int x6), some (.int x7), some (.int x8), some (.int (x9 + 1)), none, none] [] ty h2 r g Q)))) : pv_E Γ d kc ks mX12_level 325 [some (.ref 200), some (.int x1), some (.int x2), some (.int x3), none, some (.int x5), some (.int x6), some (.int x7), some (.int x8), some (.int x9), none, none] [] ty h r g Q := by
  refine pv_iload dX12_level_325 rfl ?_
  refine pv_iload dX12_level_327 rfl ?_
  refine pv_icmp_ge (tgt := 357) dX12_level_329 (by decide) (fun c1 => ?_) (fun c1 => ?_)
  · have F := F.1 c1
    refine pv_aload_n dX12_level_357 rfl ?_
    refine pv_getRk 12 11 dX12_level_358 fl_X12_33 rfl (lt_200 hL) (lr_200_11 hL) ?_
    refine pv_iconst (v := 0) (by decide) dX12_level_361 ?_
    refine pv_iload dX12_level_362 rfl ?_
    obtain ⟨q1, F⟩ := F
    obtain ⟨h1, eh1⟩ : ∃ h1 : pv_H, h1 = pv_up h 311 (Int32.toNatClampNeg 0) x8 := ⟨_, rfl⟩
    have F := F h1 eh1
    refine pv_iast dX12_level_364 (lt_311 hL) (by decide) q1 ?_
    refine pv_hE eh1 ?_
    refine pv_iconst (v := 1) (by decide) dX12_level_365 ?_
    refine pv_istore (ls' := [some (.ref 200), some (.int x1), some (.int x2), some (.int x3), none, some (.int x5), some (.int x6), some (.int x7), some (.int x8), some (.int 1), none, none]) dX12_level_366 (by decide) rfl rfl ?_
    refine pv_forgetL (ls' := [some (.ref 200), some (.int x1), some (.int x2), some (.int x3), none, some (.int x5), some (.int x6), some (.int x7), none, some (.int 1), none, none]) (pv_subL_ok ⟨rfl, ⟨rfl, ⟨rfl, ⟨rfl, ⟨rfl, ⟨rfl, ⟨rfl, ⟨rfl, trivial⟩⟩⟩⟩⟩⟩⟩⟩) ?_
    exact F
  · have F := F.2 c1
    refine pv_aload_n dX12_level_332 rfl ?_
    refine pv_getRk 12 12 dX12_level_333 fl_X12_36 rfl (lt_200 hL) (lr_200_12 hL) ?_
    refine pv_iload dX12_level_336 rfl ?_
    refine pv_aload_n dX12_level_338 rfl ?_
    refine pv_getRk 12 4 dX12_level_339 fl_X12_16 rfl (lt_200 hL) (lr_200_4 hL) ?_
    refine pv_iload_n dX12_level_342 rfl ?_
    refine pv_pc (pc' := 343) rfl ?_
    refine pv_iload_n dX12_level_343 rfl ?_
    refine pv_iload dX12_level_344 rfl ?_
    refine pv_invS (As := [.int x1, .int x2, .int x9]) (d' := d - 1) dX12_level_346 moX12_place ml_X12_175 (Nat.le_of_ble_eq_true rfl) (by omega) (Nat.zero_le _) (Nat.zero_le _) (ct_X12_place (by omega)) (fun v ty' h' r' g' hq => ?_) rfl
    obtain ⟨e1, e2, e3, e4, e5⟩ := hq
    rw [e1, e2, e3, e4, e5]
    refine pv_pc (pc' := 349) rfl ?_
    show pv_E Γ d kc ks mX12_level 349 [some (.ref 200), some (.int x1), some (.int x2), some (.int x3), none, some (.int x5), some (.int x6), some (.int x7), some (.int x8), some (.int x9), none, none] [.int (144 * x1 + 9 * x2 + x9), .ref 304, .int x9, .ref 312] ty h r g Q
    obtain ⟨q2, F⟩ := F
    refine pv_iald dX12_level_349 (lt_304 hL) q2 ?_
    obtain ⟨q3, F⟩ := F
    obtain ⟨h2, eh2⟩ : ∃ h2 : pv_H, h2 = pv_up h 312 (Int32.toNatClampNeg x9) (h 304 (Int32.toNatClampNeg (144 * x1 + 9 * x2 + x9))) := ⟨_, rfl⟩
    have F := F h2 eh2
    refine pv_iast dX12_level_350 (lt_312 hL) (by decide) q3 ?_
    refine pv_hE eh2 ?_
    refine pv_iinc (v := x9 + 1) (ls' := [some (.ref 200), some (.int x1), some (.int x2), some (.int x3), none, some (.int x5), some (.int x6), some (.int x7), some (.int x8), some (.int (x9 + 1)), none, none]) dX12_level_351 rfl (by rfl) rfl rfl ?_
    refine pv_goto (tgt := 325) dX12_level_354 (by decide) ?_
    exact F
set_option maxRecDepth 20000 in
set_option maxHeartbeats 4000000 in
theorem sg_X12_level_368 {Γ : pv_C} {d kc ks : Nat} {ty : pv_T} {h : pv_H} {r : pv_R} {g : pv_G} {Q : pv_Q} (x1 : Int32) (x2 : Int32) (x3 : Int32) (x5 : Int32) (x6 : Int32) (x7 : Int32) (x9 : Int32) (hd : 1 ≤ d) (hL : pv_Lay ty r) (F : ((x7 ≤ x9 → Q (some (.int (h 200 10))) ty h r g) ∧ (¬ x7 ≤ x9 → vp_in (x9 - 1) 9 ∧ vp_in ((100 * (x9 - 1)) + (h 311 (Int32.toNatClampNeg (x9 - 1)))) 900 ∧ vp_in (x9 - 1) 9 ∧ vp_in (144 * x1 + 9 * x2 + (x9 - 1)) 1152 ∧ pv_E Γ d kc ks mX12_level 430 [some (.ref 200), some (.int x1), some (.int x2), some (.int x3), none, some (.int x5), some (.int x6), some (.int x7), none, some (.int x9), some (.int ((h 313 (Int32.toNatClampNeg ((100 * (x9 - 1)) + (h 311 (Int32.toNatClampNeg (x9 - 1)))))) - (pf_abs ((h 311 (Int32.toNatClampNeg (x9 - 1))) - (h 304 (Int32.toNatClampNeg (144 * x1 + 9 * x2 + (x9 - 1)))))))), some (.int 0)] [] ty h r g Q))) : pv_E Γ d kc ks mX12_level 368 [some (.ref 200), some (.int x1), some (.int x2), some (.int x3), none, some (.int x5), some (.int x6), some (.int x7), none, some (.int x9), none, none] [] ty h r g Q := by
  refine pv_iload dX12_level_368 rfl ?_
  refine pv_iload dX12_level_370 rfl ?_
  refine pv_icmp_ge (tgt := 503) dX12_level_372 (by decide) (fun c1 => ?_) (fun c1 => ?_)
  · have F := F.1 c1
    refine pv_aload_n dX12_level_503 rfl ?_
    refine pv_getI 12 10 dX12_level_504 fl_X12_202 rfl (lt_200 hL) ?_
    exact pv_ireturn dX12_level_507 rfl rfl F
  · have F := F.2 c1
    refine pv_aload_n dX12_level_375 rfl ?_
    refine pv_getRk 12 13 dX12_level_376 fl_X12_39 rfl (lt_200 hL) (lr_200_13 hL) ?_
    refine pv_bipush (v := 100) (by decide) dX12_level_379 ?_
    refine pv_iload dX12_level_381 rfl ?_
    refine pv_iconst (v := 1) (by decide) dX12_level_383 ?_
    refine pv_isub dX12_level_384 ?_
    refine pv_pc (pc' := 385) rfl ?_
    refine pv_imul dX12_level_385 ?_
    refine pv_aload_n dX12_level_386 rfl ?_
    refine pv_getRk 12 11 dX12_level_387 fl_X12_33 rfl (lt_200 hL) (lr_200_11 hL) ?_
    refine pv_iload dX12_level_390 rfl ?_
    refine pv_iconst (v := 1) (by decide) dX12_level_392 ?_
    refine pv_isub dX12_level_393 ?_
    refine pv_pc (pc' := 394) rfl ?_
    obtain ⟨q1, F⟩ := F
    refine pv_iald dX12_level_394 (lt_311 hL) q1 ?_
    refine pv_iadd dX12_level_395 ?_
    obtain ⟨q2, F⟩ := F
    refine pv_iald dX12_level_396 (lt_313 hL) q2 ?_
    refine pv_aload_n dX12_level_397 rfl ?_
    refine pv_getRk 12 11 dX12_level_398 fl_X12_33 rfl (lt_200 hL) (lr_200_11 hL) ?_
    refine pv_iload dX12_level_401 rfl ?_
    refine pv_iconst (v := 1) (by decide) dX12_level_403 ?_
    refine pv_isub dX12_level_404 ?_
    obtain ⟨q3, F⟩ := F
    refine pv_iald dX12_level_405 (lt_311 hL) q3 ?_
    refine pv_aload_n dX12_level_406 rfl ?_
    refine pv_getRk 12 4 dX12_level_407 fl_X12_16 rfl (lt_200 hL) (lr_200_4 hL) ?_
    refine pv_iload_n dX12_level_410 rfl ?_
    refine pv_iload_n dX12_level_411 rfl ?_
    refine pv_iload dX12_level_412 rfl ?_
    refine pv_iconst (v := 1) (by decide) dX12_level_414 ?_
    refine pv_pc (pc' := 415) rfl ?_
    refine pv_isub dX12_level_415 ?_
    refine pv_invS (As := [.int x1, .int x2, .int (x9 - 1)]) (d' := d - 1) dX12_level_416 moX12_place ml_X12_175 (Nat.le_of_ble_eq_true rfl) (by omega) (Nat.zero_le _) (Nat.zero_le _) (ct_X12_place (by omega)) (fun v ty' h' r' g' hq => ?_) rfl
    obtain ⟨e1, e2, e3, e4, e5⟩ := hq
    rw [e1, e2, e3, e4, e5]
    refine pv_pc (pc' := 419) rfl ?_
    show pv_E Γ d kc ks mX12_level 419 [some (.ref 200), some (.int x1), some (.int x2), some (.int x3), none, some (.int x5), some (.int x6), some (.int x7), none, some (.int x9), none, none] [.int (144 * x1 + 9 * x2 + (x9 - 1)), .ref 304, .int (h 311 (Int32.toNatClampNeg (x9 - 1))), .int (h 313 (Int32.toNatClampNeg ((100 * (x9 - 1)) + (h 311 (Int32.toNatClampNeg (x9 - 1))))))] ty h r g Q
    obtain ⟨q4, F⟩ := F
    refine pv_iald dX12_level_419 (lt_304 hL) q4 ?_
    refine pv_isub dX12_level_420 ?_
    refine pv_invS (As := [.int ((h 311 (Int32.toNatClampNeg (x9 - 1))) - (h 304 (Int32.toNatClampNeg (144 * x1 + 9 * x2 + (x9 - 1)))))]) (d' := d - 1) dX12_level_421 moX12_size ml_X12_194 (Nat.le_of_ble_eq_true rfl) (by omega) (Nat.zero_le _) (Nat.zero_le _) (ct_X12_size (by omega)) (fun v ty' h' r' g' hq => ?_) rfl
    obtain ⟨e1, e2, e3, e4, e5⟩ := hq
    rw [e1, e2, e3, e4, e5]
    refine pv_pc (pc' := 424) rfl ?_
    show pv_E Γ d kc ks mX12_level 424 [some (.ref 200), some (.int x1), some (.int x2), some (.int x3), none, some (.int x5), some (.int x6), some (.int x7), none, some (.int x9), none, none] [.int (pf_abs ((h 311 (Int32.toNatClampNeg (x9 - 1))) - (h 304 (Int32.toNatClampNeg (144 * x1 + 9 * x2 + (x9 - 1)))))), .int (h 313 (Int32.toNatClampNeg ((100 * (x9 - 1)) + (h 311 (Int32.toNatClampNeg (x9 - 1))))))] ty h r g Q
    refine pv_isub dX12_level_424 ?_
    refine pv_istore (ls' := [some (.ref 200), some (.int x1), some (.int x2), some (.int x3), none, some (.int x5), some (.int x6), some (.int x7), none, some (.int x9), some (.int ((h 313 (Int32.toNatClampNeg ((100 * (x9 - 1)) + (h 311 (Int32.toNatClampNeg (x9 - 1)))))) - (pf_abs ((h 311 (Int32.toNatClampNeg (x9 - 1))) - (h 304 (Int32.toNatClampNeg (144 * x1 + 9 * x2 + (x9 - 1)))))))), none]) dX12_level_425 (by decide) rfl rfl ?_
    refine pv_iconst (v := 0) (by decide) dX12_level_427 ?_
    refine pv_istore (ls' := [some (.ref 200), some (.int x1), some (.int x2), some (.int x3), none, some (.int x5), some (.int x6), some (.int x7), none, some (.int x9), some (.int ((h 313 (Int32.toNatClampNeg ((100 * (x9 - 1)) + (h 311 (Int32.toNatClampNeg (x9 - 1)))))) - (pf_abs ((h 311 (Int32.toNatClampNeg (x9 - 1))) - (h 304 (Int32.toNatClampNeg (144 * x1 + 9 * x2 + (x9 - 1)))))))), some (.int 0)]) dX12_level_428 (by decide) rfl rfl ?_
    exact F
set_option maxRecDepth 20000 in
set_option maxHeartbeats 4000000 in
theorem sg_X12_level_430 {Γ : pv_C} {d kc ks : Nat} {ty : pv_T} {h : pv_H} {r : pv_R} {g : pv_G} {Q : pv_Q} (x1 : Int32) (x2 : Int32) (x3 : Int32) (x5 : Int32) (x6 : Int32) (x7 : Int32) (x9 : Int32) (x10 : Int32) (x11 : Int32) (hd : 1 ≤ d) (hL : pv_Lay ty r) (F : vp_in (x9 - 1) 9 ∧ ((x3 ≤ (x9 - 1) → (((pf_b (lv_fl (h 311 (Int32.toNatClampNeg (x9 - 1))) x11 0 x5 x6)) = 0 → pv_E Γ d kc ks mX12_level 430 [some (.ref 200), some (.int x1), some (.int x2), some (.int x3), none, some (.int x5), some (.int x6), some (.int x7), none, some (.int x9), some (.int x10), some (.int (x11 + 1))] [] ty h r g Q) ∧ (¬ (pf_b (lv_fl (h 311 (Int32.toNatClampNeg (x9 - 1))) x11 0 x5 x6)) = 0 → vp_in ((100 * x9) + x11) 900 ∧ (((h 313 (Int32.toNatClampNeg ((100 * x9) + x11))) = x10 → vp_in x9 9 ∧ (∀ h1 : pv_H, h1 = pv_up h 311 (Int32.toNatClampNeg x9) x11 → pv_E Γ d kc ks mX12_level 368 [some (.ref 200), some (.int x1), some (.int x2), some (.int x3), none, some (.int x5), some (.int x6), some (.int x7), none, some (.int (x9 + 1)), none, none] [] ty h1 r g Q)) ∧ (¬ (h 313 (Int32.toNatClampNeg ((100 * x9) + x11))) = x10 → pv_E Γ d kc ks mX12_level 430 [some (.ref 200), some (.int x1), some (.int x2), some (.int x3), none, some (.int x5), some (.int x6), some (.int x7), none, some (.int x9), some (.int x10), some (.int (x11 + 1))] [] ty h r g Q))))) ∧ (¬ x3 ≤ (x9 - 1) → (((pf_b (lv_fl (h 311 (Int32.toNatClampNeg (x9 - 1))) x11 1 x5 x6)) = 0 → pv_E Γ d kc ks mX12_level 430 [some (.ref 200), some (.int x1), some (.int x2), some (.int x3), none, some (.int x5), some (.int x6), some (.int x7), none, some (.int x9), some (.int x10), some (.int (x11 + 1))] [] ty h r g Q) ∧ (¬ (pf_b (lv_fl (h 311 (Int32.toNatClampNeg (x9 - 1))) x11 1 x5 x6)) = 0 → vp_in ((100 * x9) + x11) 900 ∧ (((h 313 (Int32.toNatClampNeg ((100 * x9) + x11))) = x10 → vp_in x9 9 ∧ (∀ h2 : pv_H, h2 = pv_up h 311 (Int32.toNatClampNeg x9) x11 → pv_E Γ d kc ks mX12_level 368 [some (.ref 200), some (.int x1), some (.int x2), some (.int x3), none, some (.int x5), some (.int x6), some (.int x7), none, some (.int (x9 + 1)), none, none] [] ty h2 r g Q)) ∧ (¬ (h 313 (Int32.toNatClampNeg ((100 * x9) + x11))) = x10 → pv_E Γ d kc ks mX12_level 430 [some (.ref 200), some (.int x1), some (.int x2), some (.int x3), none, some (.int x5), some (.int x6), some (.int x7), none, some (.int x9), some (.int x10), some (.int (x11 + 1))] [] ty h r g Q))))))) : pv_E Γ d kc ks mX12_level 430 [some (.ref 200), some (.int x1), some (.int x2), some (.int x3), none, some (.int x5), some (.int x6), some (.int x7), none, some (.int x9), some (.int x10), some (.int x11)] [] ty h r g Q := by
  refine pv_aload_n dX12_level_430 rfl ?_
  refine pv_getRk 12 11 dX12_level_431 fl_X12_33 rfl (lt_200 hL) (lr_200_11 hL) ?_
  refine pv_iload dX12_level_434 rfl ?_
  refine pv_iconst (v := 1) (by decide) dX12_level_436 ?_
  refine pv_isub dX12_level_437 ?_
  obtain ⟨q1, F⟩ := F
  refine pv_iald dX12_level_438 (lt_311 hL) q1 ?_
  refine pv_iload dX12_level_439 rfl ?_
  refine pv_iload dX12_level_441 rfl ?_
  refine pv_iconst (v := 1) (by decide) dX12_level_443 ?_
  refine pv_isub dX12_level_444 ?_
  refine pv_iload_n dX12_level_445 rfl ?_
  refine pv_icmp_ge (tgt := 453) dX12_level_446 (by decide) (fun c1 => ?_) (fun c1 => ?_)
  · have F := F.1 c1
    refine pv_iconst (v := 0) (by decide) dX12_level_453 ?_
    refine pv_iload dX12_level_454 rfl ?_
    refine pv_iload dX12_level_456 rfl ?_
    refine pv_invS (As := [.int (h 311 (Int32.toNatClampNeg (x9 - 1))), .int x11, .int 0, .int x5, .int x6]) (d' := d - 1) dX12_level_458 moX12_falls ml_X12_190 (Nat.le_of_ble_eq_true rfl) (by omega) (Nat.zero_le _) (Nat.zero_le _) (ct_X12_falls (by omega)) (fun v ty' h' r' g' hq => ?_) rfl
    obtain ⟨e1, e2, e3, e4, e5⟩ := hq
    rw [e1, e2, e3, e4, e5]
    refine pv_pc (pc' := 461) rfl ?_
    show pv_E Γ d kc ks mX12_level 461 [some (.ref 200), some (.int x1), some (.int x2), some (.int x3), none, some (.int x5), some (.int x6), some (.int x7), none, some (.int x9), some (.int x10), some (.int x11)] [.int (pf_b (lv_fl (h 311 (Int32.toNatClampNeg (x9 - 1))) x11 0 x5 x6))] ty h r g Q
    refine pv_if_eq (tgt := 482) dX12_level_461 (by decide) (fun c2 => ?_) (fun c2 => ?_)
    · have F := F.1 c2
      refine pv_iinc (v := x11 + 1) (ls' := [some (.ref 200), some (.int x1), some (.int x2), some (.int x3), none, some (.int x5), some (.int x6), some (.int x7), none, some (.int x9), some (.int x10), some (.int (x11 + 1))]) dX12_level_482 rfl (by rfl) rfl rfl ?_
      refine pv_goto (tgt := 430) dX12_level_485 (by decide) ?_
      exact F
    · have F := F.2 c2
      refine pv_aload_n dX12_level_464 rfl ?_
      refine pv_getRk 12 13 dX12_level_465 fl_X12_39 rfl (lt_200 hL) (lr_200_13 hL) ?_
      refine pv_bipush (v := 100) (by decide) dX12_level_468 ?_
      refine pv_iload dX12_level_470 rfl ?_
      refine pv_imul dX12_level_472 ?_
      refine pv_iload dX12_level_473 rfl ?_
      refine pv_pc (pc' := 475) rfl ?_
      refine pv_iadd dX12_level_475 ?_
      obtain ⟨q2, F⟩ := F
      refine pv_iald dX12_level_476 (lt_313 hL) q2 ?_
      refine pv_iload dX12_level_477 rfl ?_
      refine pv_icmp_eq (tgt := 488) dX12_level_479 (by decide) (fun c3 => ?_) (fun c3 => ?_)
      · have F := F.1 c3
        refine pv_aload_n dX12_level_488 rfl ?_
        refine pv_getRk 12 11 dX12_level_489 fl_X12_33 rfl (lt_200 hL) (lr_200_11 hL) ?_
        refine pv_iload dX12_level_492 rfl ?_
        refine pv_iload dX12_level_494 rfl ?_
        obtain ⟨q3, F⟩ := F
        obtain ⟨h1, eh1⟩ : ∃ h1 : pv_H, h1 = pv_up h 311 (Int32.toNatClampNeg x9) x11 := ⟨_, rfl⟩
        have F := F h1 eh1
        refine pv_iast dX12_level_496 (lt_311 hL) (by decide) q3 ?_
        refine pv_hE eh1 ?_
        refine pv_iinc (v := x9 + 1) (ls' := [some (.ref 200), some (.int x1), some (.int x2), some (.int x3), none, some (.int x5), some (.int x6), some (.int x7), none, some (.int (x9 + 1)), some (.int x10), some (.int x11)]) dX12_level_497 rfl (by rfl) rfl rfl ?_
        refine pv_goto (tgt := 368) dX12_level_500 (by decide) ?_
        refine pv_forgetL (ls' := [some (.ref 200), some (.int x1), some (.int x2), some (.int x3), none, some (.int x5), some (.int x6), some (.int x7), none, some (.int (x9 + 1)), none, none]) (pv_subL_ok ⟨rfl, ⟨rfl, ⟨rfl, ⟨rfl, ⟨rfl, ⟨rfl, ⟨rfl, ⟨rfl, trivial⟩⟩⟩⟩⟩⟩⟩⟩) ?_
        exact F
      · have F := F.2 c3
        refine pv_iinc (v := x11 + 1) (ls' := [some (.ref 200), some (.int x1), some (.int x2), some (.int x3), none, some (.int x5), some (.int x6), some (.int x7), none, some (.int x9), some (.int x10), some (.int (x11 + 1))]) dX12_level_482 rfl (by rfl) rfl rfl ?_
        refine pv_goto (tgt := 430) dX12_level_485 (by decide) ?_
        exact F
  · have F := F.2 c1
    refine pv_iconst (v := 1) (by decide) dX12_level_449 ?_
    refine pv_goto (tgt := 454) dX12_level_450 (by decide) ?_
    refine pv_iload dX12_level_454 rfl ?_
    refine pv_iload dX12_level_456 rfl ?_
    refine pv_invS (As := [.int (h 311 (Int32.toNatClampNeg (x9 - 1))), .int x11, .int 1, .int x5, .int x6]) (d' := d - 1) dX12_level_458 moX12_falls ml_X12_190 (Nat.le_of_ble_eq_true rfl) (by omega) (Nat.zero_le _) (Nat.zero_le _) (ct_X12_falls (by omega)) (fun v ty' h' r' g' hq => ?_) rfl
    obtain ⟨e1, e2, e3, e4, e5⟩ := hq
    rw [e1, e2, e3, e4, e5]
    refine pv_pc (pc' := 461) rfl ?_
    show pv_E Γ d kc ks mX12_level 461 [some (.ref 200), some (.int x1), some (.int x2), some (.int x3), none, some (.int x5), some (.int x6), some (.int x7), none, some (.int x9), some (.int x10), some (.int x11)] [.int (pf_b (lv_fl (h 311 (Int32.toNatClampNeg (x9 - 1))) x11 1 x5 x6))] ty h r g Q
    refine pv_if_eq (tgt := 482) dX12_level_461 (by decide) (fun c4 => ?_) (fun c4 => ?_)
    · have F := F.1 c4
      refine pv_iinc (v := x11 + 1) (ls' := [some (.ref 200), some (.int x1), some (.int x2), some (.int x3), none, some (.int x5), some (.int x6), some (.int x7), none, some (.int x9), some (.int x10), some (.int (x11 + 1))]) dX12_level_482 rfl (by rfl) rfl rfl ?_
      refine pv_goto (tgt := 430) dX12_level_485 (by decide) ?_
      exact F
    · have F := F.2 c4
      refine pv_aload_n dX12_level_464 rfl ?_
      refine pv_getRk 12 13 dX12_level_465 fl_X12_39 rfl (lt_200 hL) (lr_200_13 hL) ?_
      refine pv_bipush (v := 100) (by decide) dX12_level_468 ?_
      refine pv_iload dX12_level_470 rfl ?_
      refine pv_imul dX12_level_472 ?_
      refine pv_iload dX12_level_473 rfl ?_
      refine pv_pc (pc' := 475) rfl ?_
      refine pv_iadd dX12_level_475 ?_
      obtain ⟨q4, F⟩ := F
      refine pv_iald dX12_level_476 (lt_313 hL) q4 ?_
      refine pv_iload dX12_level_477 rfl ?_
      refine pv_icmp_eq (tgt := 488) dX12_level_479 (by decide) (fun c5 => ?_) (fun c5 => ?_)
      · have F := F.1 c5
        refine pv_aload_n dX12_level_488 rfl ?_
        refine pv_getRk 12 11 dX12_level_489 fl_X12_33 rfl (lt_200 hL) (lr_200_11 hL) ?_
        refine pv_iload dX12_level_492 rfl ?_
        refine pv_iload dX12_level_494 rfl ?_
        obtain ⟨q5, F⟩ := F
        obtain ⟨h2, eh2⟩ : ∃ h2 : pv_H, h2 = pv_up h 311 (Int32.toNatClampNeg x9) x11 := ⟨_, rfl⟩
        have F := F h2 eh2
        refine pv_iast dX12_level_496 (lt_311 hL) (by decide) q5 ?_
        refine pv_hE eh2 ?_
        refine pv_iinc (v := x9 + 1) (ls' := [some (.ref 200), some (.int x1), some (.int x2), some (.int x3), none, some (.int x5), some (.int x6), some (.int x7), none, some (.int (x9 + 1)), some (.int x10), some (.int x11)]) dX12_level_497 rfl (by rfl) rfl rfl ?_
        refine pv_goto (tgt := 368) dX12_level_500 (by decide) ?_
        refine pv_forgetL (ls' := [some (.ref 200), some (.int x1), some (.int x2), some (.int x3), none, some (.int x5), some (.int x6), some (.int x7), none, some (.int (x9 + 1)), none, none]) (pv_subL_ok ⟨rfl, ⟨rfl, ⟨rfl, ⟨rfl, ⟨rfl, ⟨rfl, ⟨rfl, ⟨rfl, trivial⟩⟩⟩⟩⟩⟩⟩⟩) ?_
        exact F
      · have F := F.2 c5
        refine pv_iinc (v := x11 + 1) (ls' := [some (.ref 200), some (.int x1), some (.int x2), some (.int x3), none, some (.int x5), some (.int x6), some (.int x7), none, some (.int x9), some (.int x10), some (.int (x11 + 1))]) dX12_level_482 rfl (by rfl) rfl rfl ?_
        refine pv_goto (tgt := 430) dX12_level_485 (by decide) ?_
        exact F
set_option maxRecDepth 20000 in
set_option maxHeartbeats 4000000 in
theorem sg_X12_levelled_0 {Γ : pv_C} {d kc ks : Nat} {ty : pv_T} {h : pv_H} {r : pv_R} {g : pv_G} {Q : pv_Q} (x : Int32) (hd : 1 ≤ d) (hL : pv_Lay ty r) (F : (((h 200 9) = 0 → Q (some (.int (-1))) ty h r g) ∧ (¬ (h 200 9) = 0 → vp_in (h 200 7) 8 ∧ (((pf_b (0 ≤ x ∧ x ≤ ((h 303 (Int32.toNatClampNeg (h 200 7))) - 1))) = 0 → Q (some (.int (-1))) ty h r g) ∧ (¬ (pf_b (0 ≤ x ∧ x ≤ ((h 303 (Int32.toNatClampNeg (h 200 7))) - 1))) = 0 → vp_in x 9 ∧ Q (some (.int (h 311 (Int32.toNatClampNeg x)))) ty h r g))))) : pv_E Γ d kc ks mX12_levelled 0 [some (.ref 200), some (.int x)] [] ty h r g Q := by
  refine pv_aload_n dX12_levelled_0 rfl ?_
  refine pv_getI 12 9 dX12_levelled_1 fl_X12_198 rfl (lt_200 hL) ?_
  refine pv_if_eq (tgt := 35) dX12_levelled_4 (by decide) (fun c1 => ?_) (fun c1 => ?_)
  · have F := F.1 c1
    refine pv_iconst (v := (-1)) (by decide) dX12_levelled_35 ?_
    exact pv_ireturn dX12_levelled_36 rfl rfl F
  · have F := F.2 c1
    refine pv_iload_n dX12_levelled_7 rfl ?_
    refine pv_iconst (v := 0) (by decide) dX12_levelled_8 ?_
    refine pv_aload_n dX12_levelled_9 rfl ?_
    refine pv_getRk 12 3 dX12_levelled_10 fl_X12_13 rfl (lt_200 hL) (lr_200_3 hL) ?_
    refine pv_aload_n dX12_levelled_13 rfl ?_
    refine pv_getI 12 7 dX12_levelled_14 fl_X12_26 rfl (lt_200 hL) ?_
    refine pv_pc (pc' := 17) rfl ?_
    obtain ⟨q1, F⟩ := F
    refine pv_iald dX12_levelled_17 (lt_303 hL) q1 ?_
    refine pv_iconst (v := 1) (by decide) dX12_levelled_18 ?_
    refine pv_isub dX12_levelled_19 ?_
    refine pv_invS (As := [.int x, .int 0, .int ((h 303 (Int32.toNatClampNeg (h 200 7))) - 1)]) (d' := d - 1) dX12_levelled_20 moX12_in ml_X12_164 (Nat.le_of_ble_eq_true rfl) (by omega) (Nat.zero_le _) (Nat.zero_le _) (ct_X12_in (by omega)) (fun v ty' h' r' g' hq => ?_) rfl
    obtain ⟨e1, e2, e3, e4, e5⟩ := hq
    rw [e1, e2, e3, e4, e5]
    refine pv_pc (pc' := 23) rfl ?_
    show pv_E Γ d kc ks mX12_levelled 23 [some (.ref 200), some (.int x)] [.int (pf_b (0 ≤ x ∧ x ≤ ((h 303 (Int32.toNatClampNeg (h 200 7))) - 1)))] ty h r g Q
    refine pv_if_eq (tgt := 35) dX12_levelled_23 (by decide) (fun c2 => ?_) (fun c2 => ?_)
    · have F := F.1 c2
      refine pv_iconst (v := (-1)) (by decide) dX12_levelled_35 ?_
      exact pv_ireturn dX12_levelled_36 rfl rfl F
    · have F := F.2 c2
      refine pv_aload_n dX12_levelled_26 rfl ?_
      refine pv_getRk 12 11 dX12_levelled_27 fl_X12_33 rfl (lt_200 hL) (lr_200_11 hL) ?_
      refine pv_iload_n dX12_levelled_30 rfl ?_
      obtain ⟨q2, F⟩ := F
      refine pv_iald dX12_levelled_31 (lt_311 hL) q2 ?_
      refine pv_goto (tgt := 36) dX12_levelled_32 (by decide) ?_
      exact pv_ireturn dX12_levelled_36 rfl rfl F
set_option maxRecDepth 20000 in
set_option maxHeartbeats 4000000 in
theorem sg_X12_move_0 {Γ : pv_C} {d kc ks : Nat} {ty : pv_T} {h : pv_H} {r : pv_R} {g : pv_G} {Q : pv_Q}  (hL : pv_Lay ty r) (F : ((¬ (h 200 9) = 0 → pv_E Γ d kc ks mX12_move 12 [some (.ref 200), some (.int 0)] [] ty h r g Q) ∧ ((h 200 9) = 0 → Q (some (.int (-2))) ty h r g))) : pv_E Γ d kc ks mX12_move 0 [some (.ref 200), none] [] ty h r g Q := by
  refine pv_aload_n dX12_move_0 rfl ?_
  refine pv_getI 12 9 dX12_move_1 fl_X12_198 rfl (lt_200 hL) ?_
  refine pv_if_ne (tgt := 10) dX12_move_4 (by decide) (fun c1 => ?_) (fun c1 => ?_)
  · have F := F.1 c1
    refine pv_iconst (v := 0) (by decide) dX12_move_10 ?_
    refine pv_istore_n (ls' := [some (.ref 200), some (.int 0)]) dX12_move_11 (by decide) rfl rfl ?_
    exact F
  · have F := F.2 c1
    refine pv_bipush (v := (-2)) (by decide) dX12_move_7 ?_
    exact pv_ireturn dX12_move_9 rfl rfl F
set_option maxRecDepth 20000 in
set_option maxHeartbeats 4000000 in
theorem sg_X12_move_12 {Γ : pv_C} {d kc ks : Nat} {ty : pv_T} {h : pv_H} {r : pv_R} {g : pv_G} {Q : pv_Q} (x1 : Int32) (hd : 1 ≤ d) (hL : pv_Lay ty r) (F : vp_in (h 200 7) 8 ∧ (((h 303 (Int32.toNatClampNeg (h 200 7))) ≤ x1 → pv_E Γ d kc ks mX12_move 62 [some (.ref 200), some (.int 0)] [] ty h r g Q) ∧ (¬ (h 303 (Int32.toNatClampNeg (h 200 7))) ≤ x1 → vp_in (144 * (h 200 7) + 9 * (h 200 8) + x1) 1152 ∧ vp_in x1 9 ∧ (((h 304 (Int32.toNatClampNeg (144 * (h 200 7) + 9 * (h 200 8) + x1))) = (h 312 (Int32.toNatClampNeg x1)) → pv_E Γ d kc ks mX12_move 12 [some (.ref 200), some (.int (x1 + 1))] [] ty h r g Q) ∧ (¬ (h 304 (Int32.toNatClampNeg (144 * (h 200 7) + 9 * (h 200 8) + x1))) = (h 312 (Int32.toNatClampNeg x1)) → Q (some (.int (-2))) ty h r g))))) : pv_E Γ d kc ks mX12_move 12 [some (.ref 200), some (.int x1)] [] ty h r g Q := by
  refine pv_iload_n dX12_move_12 rfl ?_
  refine pv_aload_n dX12_move_13 rfl ?_
  refine pv_getRk 12 3 dX12_move_14 fl_X12_13 rfl (lt_200 hL) (lr_200_3 hL) ?_
  refine pv_aload_n dX12_move_17 rfl ?_
  refine pv_getI 12 7 dX12_move_18 fl_X12_26 rfl (lt_200 hL) ?_
  obtain ⟨q1, F⟩ := F
  refine pv_iald dX12_move_21 (lt_303 hL) q1 ?_
  refine pv_icmp_ge (tgt := 60) dX12_move_22 (by decide) (fun c1 => ?_) (fun c1 => ?_)
  · have F := F.1 c1
    refine pv_iconst (v := 0) (by decide) dX12_move_60 ?_
    refine pv_istore_n (ls' := [some (.ref 200), some (.int 0)]) dX12_move_61 (by decide) rfl rfl ?_
    exact F
  · have F := F.2 c1
    refine pv_aload_n dX12_move_25 rfl ?_
    refine pv_getRk 12 4 dX12_move_26 fl_X12_16 rfl (lt_200 hL) (lr_200_4 hL) ?_
    refine pv_aload_n dX12_move_29 rfl ?_
    refine pv_getI 12 7 dX12_move_30 fl_X12_26 rfl (lt_200 hL) ?_
    refine pv_aload_n dX12_move_33 rfl ?_
    refine pv_getI 12 8 dX12_move_34 fl_X12_30 rfl (lt_200 hL) ?_
    refine pv_pc (pc' := 37) rfl ?_
    refine pv_iload_n dX12_move_37 rfl ?_
    refine pv_invS (As := [.int (h 200 7), .int (h 200 8), .int x1]) (d' := d - 1) dX12_move_38 moX12_place ml_X12_175 (Nat.le_of_ble_eq_true rfl) (by omega) (Nat.zero_le _) (Nat.zero_le _) (ct_X12_place (by omega)) (fun v ty' h' r' g' hq => ?_) rfl
    obtain ⟨e1, e2, e3, e4, e5⟩ := hq
    rw [e1, e2, e3, e4, e5]
    refine pv_pc (pc' := 41) rfl ?_
    show pv_E Γ d kc ks mX12_move 41 [some (.ref 200), some (.int x1)] [.int (144 * (h 200 7) + 9 * (h 200 8) + x1), .ref 304] ty h r g Q
    obtain ⟨q2, F⟩ := F
    refine pv_iald dX12_move_41 (lt_304 hL) q2 ?_
    refine pv_aload_n dX12_move_42 rfl ?_
    refine pv_getRk 12 12 dX12_move_43 fl_X12_36 rfl (lt_200 hL) (lr_200_12 hL) ?_
    refine pv_iload_n dX12_move_46 rfl ?_
    obtain ⟨q3, F⟩ := F
    refine pv_iald dX12_move_47 (lt_312 hL) q3 ?_
    refine pv_icmp_eq (tgt := 54) dX12_move_48 (by decide) (fun c2 => ?_) (fun c2 => ?_)
    · have F := F.1 c2
      refine pv_iinc (v := x1 + 1) (ls' := [some (.ref 200), some (.int (x1 + 1))]) dX12_move_54 rfl (by rfl) rfl rfl ?_
      refine pv_goto (tgt := 12) dX12_move_57 (by decide) ?_
      exact F
    · have F := F.2 c2
      refine pv_bipush (v := (-2)) (by decide) dX12_move_51 ?_
      exact pv_ireturn dX12_move_53 rfl rfl F
set_option maxRecDepth 20000 in
set_option maxHeartbeats 4000000 in
theorem sg_X12_move_62 {Γ : pv_C} {d kc ks : Nat} {ty : pv_T} {h : pv_H} {r : pv_R} {g : pv_G} {Q : pv_Q} (x1 : Int32) (hd : 1 ≤ d) (hL : pv_Lay ty r) (F : vp_in (h 200 7) 8 ∧ (((h 303 (Int32.toNatClampNeg (h 200 7))) ≤ x1 → (∀ h1 : pv_H, h1 = pv_up h 200 9 0 → Q (some (.int (h1 200 10))) ty h1 r g)) ∧ (¬ (h 303 (Int32.toNatClampNeg (h 200 7))) ≤ x1 → vp_in x1 9 ∧ vp_in (144 * (h 200 7) + 9 * (h 200 8) + x1) 1152 ∧ (∀ h2 : pv_H, h2 = pv_up h 304 (Int32.toNatClampNeg (144 * (h 200 7) + 9 * (h 200 8) + x1)) (h 311 (Int32.toNatClampNeg x1)) → pv_E Γ d kc ks mX12_move 62 [some (.ref 200), some (.int (x1 + 1))] [] ty h2 r g Q)))) : pv_E Γ d kc ks mX12_move 62 [some (.ref 200), some (.int x1)] [] ty h r g Q := by
  refine pv_iload_n dX12_move_62 rfl ?_
  refine pv_aload_n dX12_move_63 rfl ?_
  refine pv_getRk 12 3 dX12_move_64 fl_X12_13 rfl (lt_200 hL) (lr_200_3 hL) ?_
  refine pv_aload_n dX12_move_67 rfl ?_
  refine pv_getI 12 7 dX12_move_68 fl_X12_26 rfl (lt_200 hL) ?_
  obtain ⟨q1, F⟩ := F
  refine pv_iald dX12_move_71 (lt_303 hL) q1 ?_
  refine pv_icmp_ge (tgt := 104) dX12_move_72 (by decide) (fun c1 => ?_) (fun c1 => ?_)
  · have F := F.1 c1
    refine pv_aload_n dX12_move_104 rfl ?_
    refine pv_iconst (v := 0) (by decide) dX12_move_105 ?_
    obtain ⟨h1, eh1⟩ : ∃ h1 : pv_H, h1 = pv_up h 200 9 0 := ⟨_, rfl⟩
    have F := F h1 eh1
    refine pv_putI 12 9 dX12_move_106 fl_X12_198 ⟨_, rfl, Or.inl rfl⟩ (Or.inr ⟨rfl, by decide⟩) (lt_200 hL) ?_
    refine pv_hE eh1 ?_
    refine pv_aload_n dX12_move_109 rfl ?_
    refine pv_getI 12 10 dX12_move_110 fl_X12_202 rfl (lt_200 hL) ?_
    exact pv_ireturn dX12_move_113 rfl rfl F
  · have F := F.2 c1
    refine pv_aload_n dX12_move_75 rfl ?_
    refine pv_getRk 12 4 dX12_move_76 fl_X12_16 rfl (lt_200 hL) (lr_200_4 hL) ?_
    refine pv_aload_n dX12_move_79 rfl ?_
    refine pv_getI 12 7 dX12_move_80 fl_X12_26 rfl (lt_200 hL) ?_
    refine pv_aload_n dX12_move_83 rfl ?_
    refine pv_getI 12 8 dX12_move_84 fl_X12_30 rfl (lt_200 hL) ?_
    refine pv_pc (pc' := 87) rfl ?_
    refine pv_iload_n dX12_move_87 rfl ?_
    refine pv_invS (As := [.int (h 200 7), .int (h 200 8), .int x1]) (d' := d - 1) dX12_move_88 moX12_place ml_X12_175 (Nat.le_of_ble_eq_true rfl) (by omega) (Nat.zero_le _) (Nat.zero_le _) (ct_X12_place (by omega)) (fun v ty' h' r' g' hq => ?_) rfl
    obtain ⟨e1, e2, e3, e4, e5⟩ := hq
    rw [e1, e2, e3, e4, e5]
    refine pv_pc (pc' := 91) rfl ?_
    show pv_E Γ d kc ks mX12_move 91 [some (.ref 200), some (.int x1)] [.int (144 * (h 200 7) + 9 * (h 200 8) + x1), .ref 304] ty h r g Q
    refine pv_aload_n dX12_move_91 rfl ?_
    refine pv_getRk 12 11 dX12_move_92 fl_X12_33 rfl (lt_200 hL) (lr_200_11 hL) ?_
    refine pv_iload_n dX12_move_95 rfl ?_
    obtain ⟨q2, F⟩ := F
    refine pv_iald dX12_move_96 (lt_311 hL) q2 ?_
    obtain ⟨q3, F⟩ := F
    obtain ⟨h2, eh2⟩ : ∃ h2 : pv_H, h2 = pv_up h 304 (Int32.toNatClampNeg (144 * (h 200 7) + 9 * (h 200 8) + x1)) (h 311 (Int32.toNatClampNeg x1)) := ⟨_, rfl⟩
    have F := F h2 eh2
    refine pv_iast dX12_move_97 (lt_304 hL) (by decide) q3 ?_
    refine pv_hE eh2 ?_
    refine pv_iinc (v := x1 + 1) (ls' := [some (.ref 200), some (.int (x1 + 1))]) dX12_move_98 rfl (by rfl) rfl rfl ?_
    refine pv_goto (tgt := 62) dX12_move_101 (by decide) ?_
    exact F
theorem lv_fl_0 {k f e c a b : Nat} (q : k ≤ c) (hf : f < 100) (he : e < 100) (ha : a < 100) (hb : b < 100) : lv_fl (nI a) (nI b) 0 (nI f) (nI e) ↔ lv_ok k f e c a b = true := by
  unfold lv_ok
  rw [if_pos q, decide_eq_true_iff]
  constructor
  · intro z
    have := z.1 rfl
    rw [lv_s1 (by omega) (by omega) (by omega), lv_s2 (by omega) (by omega) (by omega)] at this
    omega
  · intro z
    refine ⟨fun _ => ?_, fun q => absurd rfl q⟩
    rw [lv_s1 (by omega) (by omega) (by omega), lv_s2 (by omega) (by omega) (by omega)]
    omega
theorem lv_fl_1 {k f e c a b : Nat} (q : ¬ k ≤ c) (hf : f < 100) (he : e < 100) (ha : a < 100) (hb : b < 100) : lv_fl (nI a) (nI b) 1 (nI f) (nI e) ↔ lv_ok k f e c a b = true := by
  unfold lv_ok
  rw [if_neg q, decide_eq_true_iff]
  constructor
  · intro z
    have := z.2 (by decide)
    rw [lv_s1 (by omega) (by omega) (by omega), lv_s2 (by omega) (by omega) (by omega)] at this
    omega
  · intro z
    refine ⟨fun q => absurd q (by decide), fun _ => ?_⟩
    rw [lv_s1 (by omega) (by omega) (by omega), lv_s2 (by omega) (by omega) (by omega)]
    omega
abbrev lmL (s i k f e C : Nat) (o8 o9 o10 o11 : Option Value) : List (Option Value) := [some (.ref 200), some (.int (nI s)), some (.int (nI i)), some (.int (nI k)), none, some (.int (nI f)), some (.int (nI e)), some (.int (nI C)), o8, o9, o10, o11]
section LM
variable {Γ : pv_C} {d kc ks : Nat} {ty : pv_T} {h h0 : pv_H} {r : pv_R} {g : pv_G} {Q : pv_Q} {O : Nat → Int32} {C k f e s i c a : Nat}
theorem lm_w (hs : s < 8) (hi : i < 16) (hC : C ≤ 9) (hc : c < C) (ha : a < 100) (ho : h 304 (144 * s + 9 * i + c) = O c) {x : Int32} (hx : lv_G O C k f e c a = if x = 1000000 then 1000000 else x + pf_abs (nI a - O c)) (hE : pv_E Γ d kc ks mX12_level 72 (lmL s i k f e C (some (.int (nI c))) (some (.int (nI (a + 1)))) none none) [] ty (pv_up h 313 (100 * c + a) (lv_G O C k f e c a)) r g Q) : (¬ x = 1000000 →
        vp_in (144 * nI s + 9 * nI i + nI c) 1152 ∧
        vp_in ((100 * nI c) + nI a) 900 ∧
        (∀ h1 : pv_H, h1 = pv_up h 313 (Int32.toNatClampNeg ((100 * nI c) + nI a)) (x + (pf_abs (nI a - (h 304 (Int32.toNatClampNeg (144 * nI s + 9 * nI i + nI c)))))) →
          pv_E Γ d kc ks mX12_level 72 (lmL s i k f e C (some (.int (nI c))) (some (.int (nI a + 1))) none none) [] ty h1 r g Q)) ∧
      (x = 1000000 →
        vp_in ((100 * nI c) + nI a) 900 ∧
        (∀ h2 : pv_H, h2 = pv_up h 313 (Int32.toNatClampNeg ((100 * nI c) + nI a)) 1000000 →
          pv_E Γ d kc ks mX12_level 72 (lmL s i k f e C (some (.int (nI c))) (some (.int (nI a + 1))) none none) [] ty h2 r g Q)) := by
  rw [ni_plc hs hi (by omega), ho, ni_100l, nI_clamp (by omega), nI_1]
  refine ⟨fun q => ⟨ni_pli hs hi (by omega), vp_in_nI (by omega) (by decide), fun h1 e1 => ?_⟩, fun q => ⟨vp_in_nI (by omega) (by decide), fun h1 e1 => ?_⟩⟩
  · rw [if_neg q] at hx; rw [e1, ← hx]; exact hE
  · rw [if_pos q] at hx; rw [hx] at hE; rw [e1]; exact hE
theorem lm_99 (hd : 1 ≤ d) (hL : pv_Lay ty r) (hs : s < 8) (hi : i < 16) (hC : C ≤ 9) (hc : c + 1 < C) (hf : f < 100) (he : e < 100) (hk : k < 100) (ha : a < 100) (ho : h 304 (144 * s + 9 * i + c) = O c) (ht : ∀ b, b < 100 → h 313 (100 * (c + 1) + b) = lv_G O C k f e (c + 1) b) (hE : pv_E Γ d kc ks mX12_level 72 (lmL s i k f e C (some (.int (nI c))) (some (.int (nI (a + 1)))) none none) [] ty (pv_up h 313 (100 * c + a) (lv_G O C k f e c a)) r g Q) : ∀ (m n : Nat), n + m = 100 → pv_E Γ d kc ks mX12_level 99 (lmL s i k f e C (some (.int (nI c))) (some (.int (nI a))) (some (.int (lv_m (lv_ok k f e c a) (lv_G O C k f e (c + 1)) n))) (some (.int (nI n)))) [] ty h r g Q := by
  intro m
  induction m with
  | zero =>
    intro n hn
    rw [show n = 100 by omega]
    exact sg_X12_level_99 _ _ _ _ _ _ _ _ _ _ hd hL (pk_le 100 100 (fun _ => lm_w hs hi hC (by omega) ha ho (lv_G_s hc a) hE) (fun c => absurd c (by omega)))
  | succ m ih =>
    intro n hn
    have ih' := ih (n + 1) (by omega)
    have e1 : lv_m (lv_ok k f e c a) (lv_G O C k f e (c + 1)) (n + 1) = if lv_ok k f e c a n = true ∧ lv_G O C k f e (c + 1) n < lv_m (lv_ok k f e c a) (lv_G O C k f e (c + 1)) n then lv_G O C k f e (c + 1) n else lv_m (lv_ok k f e c a) (lv_G O C k f e (c + 1)) n := rfl
    have hin : vp_in (nI (100 * (c + 1) + n)) 900 := vp_in_nI (by omega) (by decide)
    refine sg_X12_level_99 _ _ _ _ _ _ _ _ _ _ hd hL (pk_le 100 n (fun c => absurd c (by omega)) (fun _ => ⟨fun q => absurd ((ni_m1_le (by omega) (by omega) (by omega)).mp q) (by omega), fun _ => ?_⟩))
    rw [nI_1, nI_1, ni_100l, nI_clamp (by omega), ht n (by omega)]
    refine pk_le k c (fun q => ?_) (fun q => ?_)
    · have hfl := lv_fl_0 (b := n) q hf he ha (by omega)
      refine pk_b (fun c1 => ⟨hin, fun c2 => ?_, fun c2 => ⟨hin, ?_⟩⟩) (fun c1 => ?_)
      · rw [e1, if_neg (fun z => Int32.not_lt.mpr c2 z.2)] at ih'; exact ih'
      · rw [e1, if_pos ⟨hfl.mp c1, Int32.not_le.mp c2⟩] at ih'; exact ih'
      · rw [e1, if_neg (fun z => c1 (hfl.mpr z.1))] at ih'; exact ih'
    · have hfl := lv_fl_1 (b := n) (show ¬ k ≤ c by omega) hf he ha (by omega)
      refine pk_b (fun c1 => ⟨hin, fun c2 => ?_, fun c2 => ⟨hin, ?_⟩⟩) (fun c1 => ?_)
      · rw [e1, if_neg (fun z => Int32.not_lt.mpr c2 z.2)] at ih'; exact ih'
      · rw [e1, if_pos ⟨hfl.mp c1, Int32.not_le.mp c2⟩] at ih'; exact ih'
      · rw [e1, if_neg (fun z => c1 (hfl.mpr z.1))] at ih'; exact ih'
theorem lm_72 (hd : 1 ≤ d) (hL : pv_Lay ty r) (hs : s < 8) (hi : i < 16) (hC : C ≤ 9) (hc : c < C) (hf : f < 100) (he : e < 100) (hk : k < 100) (hO : ∀ c, c < C → h0 304 (144 * s + 9 * i + c) = O c) (hE : ∀ h', pv_fr (aR 313) h0 h' → lv_tb O C k f e h' 313 c 100 → pv_E Γ d kc ks mX12_level 64 (lmL s i k f e C (some (.int (nI c - 1))) none none none) [] ty h' r g Q) : ∀ (m a : Nat) (h : pv_H), a + m = 100 → pv_fr (aR 313) h0 h → lv_tb O C k f e h 313 c a → pv_E Γ d kc ks mX12_level 72 (lmL s i k f e C (some (.int (nI c))) (some (.int (nI a))) none none) [] ty h r g Q := by
  intro m
  induction m with
  | zero =>
    intro a h ha hf t
    rw [show a = 100 by omega] at t ⊢
    refine sg_X12_level_72 _ _ _ _ _ _ _ _ (pk_le 100 100 (fun _ => ?_) (fun c => absurd c (by omega)))
    rw [← Int32.sub_eq_add_neg]
    exact hE h hf t
  | succ m ih =>
    intro a h ha hf t
    have ho : h 304 (144 * s + 9 * i + c) = O c := (hf 304 _ (show ¬ 304 = 313 by decide)).trans (hO c hc)
    have hE' := ih (a + 1) (pv_up h 313 (100 * c + a) (lv_G O C k f e c a)) (by omega) (pv_fr_up hf rfl) (lv_tb_up (by omega) t rfl)
    refine sg_X12_level_72 _ _ _ _ _ _ _ _ (pk_le 100 a (fun c => absurd c (by omega)) (fun _ => ?_))
    rw [ni_m1 (show 0 < C by omega)]
    refine pj_eq c (C - 1) (fun q => ?_) (fun q => ?_)
    · refine sg_X12_level_99 _ _ _ _ _ _ _ _ _ _ hd hL (pk_le 100 0 (fun c => absurd c (by omega)) (fun _ => ⟨fun _ => ?_, fun z => absurd ((ni_m1_le (by omega) (by omega) (by omega)).mpr (by omega)) z⟩))
      exact lm_w hs hi hC hc (by omega) ho (by rw [if_neg (by decide), lv_G_l (by omega), Int32.zero_add]) hE'
    · exact lm_99 hd hL hs hi hC (by omega) (by assumption) he hk (by omega) ho (fun b hb => t.1 (c + 1) b (by omega) (by omega) hb) hE' 100 0 rfl
theorem lm_64 (hd : 1 ≤ d) (hL : pv_Lay ty r) (hs : s < 8) (hi : i < 16) (h1 : 1 ≤ C) (hC : C ≤ 9) (hf : f < 100) (he : e < 100) (hk : k < 100) (hO : ∀ c, c < C → h0 304 (144 * s + 9 * i + c) = O c) (hE : ∀ h', pv_fr (aR 313) h0 h' → lv_tb O C k f e h' 313 0 100 → pv_E Γ d kc ks mX12_level 247 (lmL s i k f e C (some (.int (nI 0))) (some (.int (nI 1))) none none) [] ty h' r g Q) : ∀ (c : Nat) (h : pv_H), c ≤ C → pv_fr (aR 313) h0 h → (∀ c', c = c' + 1 → lv_tb O C k f e h 313 c' 0) → (c = 0 → lv_tb O C k f e h 313 0 100) → pv_E Γ d kc ks mX12_level 64 (lmL s i k f e C (some (.int (nI c - 1))) none none none) [] ty h r g Q := by
  intro c
  induction c with
  | zero =>
    intro h _ hf _ t
    exact sg_X12_level_64 _ _ _ _ _ _ _ ⟨fun _ => hE h hf (t rfl), fun q => absurd (show nI 0 - 1 < 0 by decide) q⟩
  | succ c ih =>
    intro h hc hf t _
    rw [nI_pred]
    refine sg_X12_level_64 _ _ _ _ _ _ _ ⟨fun q => absurd q (nI_pos (by omega)), fun _ => ?_⟩
    refine lm_72 hd hL hs hi hC hc (by assumption) he hk hO (fun h' f' t' => ?_) 100 0 h rfl hf (t c rfl)
    refine ih h' (by omega) f' (fun c' e' => ?_) (fun e' => ?_)
    · subst e'; exact lv_tb_nx t'
    · rw [e'] at t'; exact t'
abbrev lvM : Nat → Nat → Prop := fun a j => a = 311 ∨ a = 312 ∨ a = 313 ∨ (a = 200 ∧ 7 ≤ j ∧ j ≤ 10)
/-- what the reference has set when a level is found -/
def lm_set (h : pv_H) (s i : Nat) (x : Int32) : Prop := h 200 7 = nI s ∧ h 200 8 = nI i ∧ h 200 9 = 1 ∧ h 200 10 = x
theorem lm_set_fr {h' : pv_H} {x : Int32} (e0 : h' 200 = h 200) (t : lm_set h s i x) : lm_set h' s i x := by unfold lm_set; rw [e0]; exact t
theorem lm_430 (hd : 1 ≤ d) (hL : pv_Lay ty r) (hC : C ≤ 9) (hc : c + 1 < C) (hf : f < 100) (he : e < 100) (hk : k < 100) {p q : Nat} (hp : p < 100) (h3 : h 311 c = nI p) (ht : ∀ b, b < 100 → h 313 (100 * (c + 1) + b) = lv_G O C k f e (c + 1) b) (hq : lv_is (lv_ok k f e c p) (lv_G O C k f e (c + 1)) 100 q) (hE : pv_E Γ d kc ks mX12_level 368 (lmL s i k f e C none (some (.int (nI (c + 1 + 1)))) none none) [] ty (pv_up h 311 (c + 1) (nI q)) r g Q) : ∀ (m b : Nat), b + m = q → pv_E Γ d kc ks mX12_level 430 (lmL s i k f e C none (some (.int (nI (c + 1)))) (some (.int (lv_m (lv_ok k f e c p) (lv_G O C k f e (c + 1)) 100))) (some (.int (nI b)))) [] ty h r g Q := by
  obtain ⟨q1, q2, q3, q4, q5⟩ := hq
  intro m
  induction m with
  | zero =>
    intro b hb
    rw [show b = q by omega]
    refine sg_X12_level_430 _ _ _ _ _ _ _ _ _ hd hL ?_
    rw [nI_pred, nI_clamp (show c < 2 ^ 31 by omega), h3, ni_100l, nI_clamp (show 100 * (c + 1) + q < 2 ^ 31 by omega), ht q q1, q4, nI_clamp (show c + 1 < 2 ^ 31 by omega), nI_1, nI_1]
    refine ⟨vp_in_nI (by omega) (by decide), pk_le k c (fun z => pk_b (fun _ => ⟨vp_in_nI (by omega) (by decide), fun _ => ⟨vp_in_nI (by omega) (by decide), fun h1 e1 => by rw [e1]; exact hE⟩, fun w => absurd rfl w⟩) (fun w => absurd ((lv_fl_0 z hf he hp q1).mpr q3) w)) (fun z => pk_b (fun _ => ⟨vp_in_nI (by omega) (by decide), fun _ => ⟨vp_in_nI (by omega) (by decide), fun h1 e1 => by rw [e1]; exact hE⟩, fun w => absurd rfl w⟩) (fun w => absurd ((lv_fl_1 (show ¬ k ≤ c by omega) hf he hp q1).mpr q3) w))⟩
  | succ m ih =>
    intro b hb
    have ih' := ih (b + 1) (by omega)
    refine sg_X12_level_430 _ _ _ _ _ _ _ _ _ hd hL ?_
    rw [nI_pred, nI_clamp (show c < 2 ^ 31 by omega), h3, ni_100l, nI_clamp (show 100 * (c + 1) + b < 2 ^ 31 by omega), ht b (by omega), nI_1, nI_1]
    refine ⟨vp_in_nI (by omega) (by decide), pk_le k c (fun z => pk_b (fun w => ⟨vp_in_nI (by omega) (by decide), fun v => absurd v (q5 b (by omega) ((lv_fl_0 z hf he hp (by omega)).mp w)), fun _ => ih'⟩) (fun _ => ih')) (fun z => pk_b (fun w => ⟨vp_in_nI (by omega) (by decide), fun v => absurd v (q5 b (by omega) ((lv_fl_1 (show ¬ k ≤ c by omega) hf he hp (by omega)).mp w)), fun _ => ih'⟩) (fun _ => ih'))⟩
theorem lm_368 (hd : 1 ≤ d) (hL : pv_Lay ty r) (hs : s < 8) (hi : i < 16) (hC : C ≤ 9) (hf : f < 100) (he : e < 100) (hk : k < 100) (hO : ∀ c, c < C → h0 304 (144 * s + 9 * i + c) = O c) (ht : lv_tb O C k f e h0 313 0 100) (hm : lv_M O C k f e < 1000000) (hst : lm_set h0 s i (lv_M O C k f e)) (hQ : ∀ h', pv_fr (aR 311) h0 h' → (∀ c, c < C → h' 311 c = nI (lv_p O C k f e c)) → Q (some (.int (lv_M O C k f e))) ty h' r g) : ∀ (m c : Nat) (h : pv_H), c + 1 + m = C → pv_fr (aR 311) h0 h → (∀ c', c' < c + 1 → h 311 c' = nI (lv_p O C k f e c')) → pv_E Γ d kc ks mX12_level 368 (lmL s i k f e C none (some (.int (nI (c + 1)))) none none) [] ty h r g Q := by
  intro m
  induction m with
  | zero =>
    intro c h hc hf t
    refine sg_X12_level_368 _ _ _ _ _ _ _ hd hL ?_
    rw [show c + 1 = C by omega] at t ⊢
    rw [(hf 200 10 (show ¬ 200 = 311 by decide)).trans hst.2.2.2]
    exact pk_le C C (fun _ => hQ h hf t) (fun c => absurd c (by omega))
  | succ m ih =>
    intro c h hc hfr t
    obtain ⟨p1, p2⟩ := lv_p_c hm c (by omega)
    obtain ⟨s1, s2, s3⟩ := lv_p_s (by omega) p2
    have e304 : h 304 (144 * s + 9 * i + c) = O c := (hfr 304 _ (show ¬ 304 = 311 by decide)).trans (hO c (by omega))
    have e313 : ∀ c' b, c' < C → b < 100 → h 313 (100 * c' + b) = lv_G O C k f e c' b := fun c' b h1 h2 => (hfr 313 _ (show ¬ 313 = 311 by decide)).trans (by
      by_cases q : c' = 0
      · rw [q]; exact ht.2 b h2
      · exact ht.1 c' b (by omega) h1 h2)
    refine sg_X12_level_368 _ _ _ _ _ _ _ hd hL ?_
    rw [nI_pred, nI_clamp (show c < 2 ^ 31 by omega), t c (by omega), ni_100l, nI_clamp (show 100 * c + lv_p O C k f e c < 2 ^ 31 by omega), e313 c _ (by omega) p1, ni_plc hs hi (by omega), e304, s3]
    refine pk_le C (c + 1) (fun q => absurd q (by omega)) (fun _ => ⟨vp_in_nI (by omega) (by decide), vp_in_nI (by omega) (by decide), vp_in_nI (by omega) (by decide), ni_pli hs hi (by omega), ?_⟩)
    refine lm_430 hd hL hC (by omega) hf he hk p1 (t c (by omega)) (fun b hb => e313 (c + 1) b (by omega) hb) s1 ?_ (lv_p O C k f e (c + 1)) 0 (Nat.zero_add _)
    refine ih (c + 1) _ (by omega) (pv_fr_up hfr rfl) (fun c' hc' => ?_)
    by_cases q : c' = c + 1
    · rw [q, pv_up_same]
    · rw [pv_up_j q]; exact t c' (by omega)
theorem lm_325 (hd : 1 ≤ d) (hL : pv_Lay ty r) (hs : s < 8) (hi : i < 16) (h1 : 1 ≤ C) (hC : C ≤ 9) (hO : ∀ c, c < C → h0 304 (144 * s + 9 * i + c) = O c) {x8 : Int32} (hE : ∀ h', pv_fr (aR 312) h0 h' → (∀ c, c < C → h' 312 c = O c) → pv_E Γ d kc ks mX12_level 368 (lmL s i k f e C none (some (.int (nI 1))) none none) [] ty (pv_up h' 311 0 x8) r g Q) : ∀ (m c : Nat) (h : pv_H), c + m = C → pv_fr (aR 312) h0 h → (∀ c', c' < c → h 312 c' = O c') → pv_E Γ d kc ks mX12_level 325 (lmL s i k f e C (some (.int x8)) (some (.int (nI c))) none none) [] ty h r g Q := by
  intro m
  induction m with
  | zero =>
    intro c h hc hf t
    rw [show c = C by omega] at t ⊢
    exact sg_X12_level_325 _ _ _ _ _ _ _ _ hd hL (pk_le C C (fun _ => ⟨(show vp_in (nI 0) 9 from vp_in_nI (by decide) (by decide)), fun h1 e1 => by rw [e1]; exact hE h hf t⟩) (fun c => absurd c (by omega)))
  | succ m ih =>
    intro c h hc hf t
    refine sg_X12_level_325 _ _ _ _ _ _ _ _ hd hL (pk_le C c (fun q => absurd q (by omega)) (fun _ => ⟨ni_pli hs hi (by omega), vp_in_nI (by omega) (by decide), fun h1 e1 => ?_⟩))
    rw [e1, ni_plc hs hi (by omega), nI_clamp (by omega), (hf 304 _ (show ¬ 304 = 312 by decide)).trans (hO c (by omega)), nI_1]
    refine ih (c + 1) _ (by omega) (pv_fr_up hf rfl) (fun c' hc' => ?_)
    by_cases q : c' = c
    · rw [q, pv_up_same]
    · rw [pv_up_j q]; exact t c' (by omega)
theorem lm_247 (hd : 1 ≤ d) (hL : pv_Lay ty r) (hs : s < 8) (hi : i < 16) (h1 : 1 ≤ C) (hC : C ≤ 9) (hf : f < 100) (he : e < 100) (hk : k < 100) (hO : ∀ c, c < C → h 304 (144 * s + 9 * i + c) = O c) (ht : lv_tb O C k f e h 313 0 100) (hQ1 : lv_M O C k f e = 1000000 → Q (some (.int (-2))) ty h r g) (hQ2 : ∀ h', pv_fr lvM h h' → lv_M O C k f e < 1000000 → lm_set h' s i (lv_M O C k f e) → lv_rows O C k f e h' 312 311 C → Q (some (.int (lv_M O C k f e))) ty h' r g) : ∀ (m n : Nat), n + m = 100 → 1 ≤ n → pv_E Γ d kc ks mX12_level 247 (lmL s i k f e C (some (.int (nI (lv_r (lv_G O C k f e 0) n)))) (some (.int (nI n))) none none) [] ty h r g Q := by
  have t : ∀ b, b < 100 → h 313 b = lv_G O C k f e 0 b := fun b hb => by have := ht.2 b hb; rw [Nat.mul_zero, Nat.zero_add] at this; exact this
  intro m
  induction m with
  | zero =>
    intro n hn h1n
    obtain ⟨a1, a2, a3⟩ := lv_r_a (lv_G O C k f e 0) n h1n
    rw [show n = 100 by omega] at a1 a2 a3 ⊢
    have hin : vp_in (nI (lv_r (lv_G O C k f e 0) 100)) 900 := vp_in_nI (by omega) (by decide)
    refine sg_X12_level_247 _ _ _ _ _ _ _ _ hL (pk_le 100 100 (fun _ => ⟨hin, ?_⟩) (fun c => absurd c (by omega)))
    rw [nI_clamp (by omega), t _ a1]
    refine ⟨fun c2 h1 e1 h2 e2 h3 e3 => ⟨hin, fun h4 e4 => ?_⟩, fun c2 => hQ1 (a3 c2).1⟩
    obtain ⟨b1, b2⟩ := a2 c2
    have hm : lv_M O C k f e < 1000000 := by rw [show lv_M O C k f e = _ from b1]; exact c2
    have hp0 : lv_p O C k f e 0 = lv_r (lv_G O C k f e 0) 100 := by show Int32.toNatClampNeg _ = _; rw [b2]; exact nI_clamp (by omega)
    have e3' : h3 313 (lv_r (lv_G O C k f e 0) 100) = lv_M O C k f e := by rw [e3, pv_up_a (by decide), e2, pv_up_a (by decide), e1, pv_up_a (by decide), t _ a1]; exact b1.symm
    rw [e3'] at e4
    have hf4 : pv_fr lvM h h4 := by
      rw [e4, e3, e2, e1]
      exact pv_fr_up (pv_fr_up (pv_fr_up (pv_fr_up (pv_fr_refl _ _) (Or.inr (Or.inr (Or.inr ⟨rfl, by decide, by decide⟩)))) (Or.inr (Or.inr (Or.inr ⟨rfl, by decide, by decide⟩)))) (Or.inr (Or.inr (Or.inr ⟨rfl, by decide, by decide⟩)))) (Or.inr (Or.inr (Or.inr ⟨rfl, by decide, by decide⟩)))
    have hst : lm_set h4 s i (lv_M O C k f e) := ⟨by rw [e4, pv_up_j (by decide), e3, pv_up_j (by decide), e2, pv_up_j (by decide), e1, pv_up_same], by rw [e4, pv_up_j (by decide), e3, pv_up_j (by decide), e2, pv_up_same], by rw [e4, pv_up_j (by decide), e3, pv_up_same], by rw [e4, pv_up_same]⟩
    have r4 : ∀ A, A ≠ 200 → h4 A = h A := fun A hA => by funext j; rw [e4, pv_up_a hA, e3, pv_up_a hA, e2, pv_up_a hA, e1, pv_up_a hA]
    refine lm_325 (O := O) (h0 := h4) hd hL hs hi (by omega) hC (fun c hc => by rw [r4 304 (by decide)]; exact hO c hc) (fun h5 f5 t5 => ?_) C 0 h4 (Nat.zero_add _) (pv_fr_refl _ _) (fun _ q => absurd q (by omega))
    have g5 : pv_fr (fun a _ => a = 311 ∨ a = 312) h4 (pv_up h5 311 0 (nI (lv_r (lv_G O C k f e 0) 100))) := pv_fr_up (pv_fr_mono (fun a j z => Or.inr z) f5) (Or.inl rfl)
    have r5 : ∀ A, A ≠ 311 → A ≠ 312 → pv_up h5 311 0 (nI (lv_r (lv_G O C k f e 0) 100)) A = h4 A := fun A h1 h2 => pv_fr_r g5 (fun j q => q.elim h1 h2)
    refine lm_368 (O := O) (h0 := pv_up h5 311 0 (nI (lv_r (lv_G O C k f e 0) 100))) hd hL hs hi hC hf he hk (fun c hc => by rw [r5 304 (by decide) (by decide), r4 304 (by decide)]; exact hO c hc) (lv_tb_fr (by rw [r5 313 (by decide) (by decide), r4 313 (by decide)]) ht) hm (lm_set_fr (r5 200 (by decide) (by decide)) hst) (fun h6 f6 t6 => ?_) (C - 1) 0 _ (by omega) (pv_fr_refl _ _) (fun c' hc' => by rw [show c' = 0 by omega, pv_up_same, hp0])
    have e6 : ∀ A, A ≠ 311 → h6 A = pv_up h5 311 0 (nI (lv_r (lv_G O C k f e 0) 100)) A := fun A hA => pv_fr_r f6 (fun j => hA)
    refine hQ2 h6 (fun a j z => ?_) hm (lm_set_fr ((e6 200 (by decide)).trans (r5 200 (by decide) (by decide))) hst) (fun c hc => ⟨?_, t6 c hc⟩)
    · rw [e6 a (fun q => z (Or.inl q)), r5 a (fun q => z (Or.inl q)) (fun q => z (Or.inr (Or.inl q)))]
      exact hf4 a j z
    · rw [e6 312 (by decide), pv_up_a (by decide)]; exact t5 c hc
  | succ m ih =>
    intro n hn h1n
    have ih' := ih (n + 1) (by omega) (by omega)
    have a1 := (lv_r_a (lv_G O C k f e 0) n h1n).1
    have e0 : lv_r (lv_G O C k f e 0) (n + 1) = if lv_G O C k f e 0 n < lv_G O C k f e 0 (lv_r (lv_G O C k f e 0) n) then n else lv_r (lv_G O C k f e 0) n := rfl
    refine sg_X12_level_247 _ _ _ _ _ _ _ _ hL (pk_le 100 n (fun c => absurd c (by omega)) (fun _ => ⟨vp_in_nI (by omega) (by decide), vp_in_nI (by omega) (by decide), ?_⟩))
    rw [nI_clamp (by omega), nI_clamp (by omega), t _ (by omega), t _ (by omega), nI_1]
    refine ⟨fun c => ?_, fun c => ?_⟩
    · rw [e0, if_neg (Int32.not_lt.mpr c)] at ih'; exact ih'
    · rw [e0, if_pos (Int32.not_le.mp c)] at ih'; exact ih'
theorem lv_r_1 (G : Nat → Int32) : lv_r G 1 = 0 := by show (if G 0 < G 0 then 0 else 0) = 0; split <;> rfl
theorem ct_X12_level {ns : Nat} (hd : 3 ≤ d) (hL : pv_Lay ty r) (hM : mStreets h ns) {x y z u : Int32} {K : pv_Q}
  (h1 : ¬ lv_v h x y z u → K (some (.int (-1))) ty h r g)
  (h2 : ∀ s i k f e, s < ns → i < mR h s → k < mC h s → f < 10 → e < 10 → f ≤ e → x = nI s → y = nI i → z = nI k → u = nI (10 * f + e) → (∀ h', pv_fr (aR 313) h h' → lv_M (mH h s i) (mC h s) k f e = 1000000 → K (some (.int (-2))) ty h' r g) ∧ (∀ h', pv_fr lvM h h' → lv_M (mH h s i) (mC h s) k f e < 1000000 → lm_set h' s i (lv_M (mH h s i) (mC h s) k f e) → lv_rows (mH h s i) (mC h s) k f e h' 312 311 (mC h s) → K (some (.int (lv_M (mH h s i) (mC h s) k f e))) ty h' r g)) : pv_CT Γ d 0 0 mX12_level [.ref 200, .int x, .int y, .int z, .int u] ty h r g K := by
  refine pv_fn 7 pn_X12 rfl (Nat.le_of_ble_eq_true rfl) (sg_X12_level_0 x y z u (by omega) hL ⟨ni_b8 hM.2.1 hM.1, pk_b (fun c2 => pk_b (fun c3 => ⟨fun c4 => ?_, fun c4 => h1 (fun q => c4 q.2.2)⟩) (fun c3 => h1 (fun q => c3 q.2.1))) (fun c2 => h1 (fun q => c2 q.1))⟩)
  obtain ⟨s, i, k, hs, hi, hk, rfl, rfl, rfl⟩ := (mSq hM).mp c2
  obtain ⟨f, e, hf, he, e1, e2, e3⟩ := lv_u c3
  rw [e3, e2] at c4 ⊢
  have hfe : f ≤ e := (nI_leI (by omega) (by omega)).mp c4
  obtain ⟨m1, m2, m3, m4, m5, m6⟩ := hM.2.2 s hs
  have := h2 s i k f e hs hi hk hf he hfe rfl rfl rfl e1
  refine ⟨vp_in_nI (by omega) (by decide), ?_⟩
  rw [nI_clamp (by omega), m3]
  refine lm_64 (O := mH h s i) (by omega) hL m1 (by omega) m5.1 m5.2 (by omega) (by omega) (by omega) (fun c hc => rfl) (fun h' f' t' => ?_) (mC h s) h (Nat.le_refl _) (pv_fr_refl _ _) (fun c' e' => ⟨fun c'' b h1 h2 => absurd h2 (by omega), fun b hb => absurd hb (by omega)⟩) (fun q => absurd q (by omega))
  rw [show nI 0 = nI (lv_r (lv_G (mH h s i) (mC h s) k f e 0) 1) by rw [lv_r_1]]
  refine lm_247 (O := mH h s i) (by omega) hL m1 (by omega) m5.1 m5.2 (by omega) (by omega) (by omega) (fun c hc => f' 304 _ (show ¬ 304 = 313 by decide)) t' (fun q => this.1 h' f' q) (fun h'' f'' q st rows => this.2 h'' (pv_fr_tr (pv_fr_mono (fun a j z => Or.inr (Or.inr (Or.inl z))) f') f'') q st rows) 99 1 rfl (Nat.le_refl _)
end LM
