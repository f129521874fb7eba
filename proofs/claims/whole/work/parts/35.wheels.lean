/-! wheels, cost: both sides -/
set_option maxRecDepth 20000 in
set_option maxHeartbeats 4000000 in
theorem sg_X12_wheels_0 {Γ : pv_C} {d kc ks : Nat} {ty : pv_T} {h : pv_H} {r : pv_R} {g : pv_G} {Q : pv_Q} (x : Int32) (y : Int32) (z : Int32) (hd : 2 ≤ d) (hL : pv_Lay ty r) (F : (((pf_b (0 ≤ x ∧ x ≤ h 200 1 - 1)) = 0 → Q (some (.int (-1))) ty h r g) ∧ (¬ (pf_b (0 ≤ x ∧ x ≤ h 200 1 - 1)) = 0 → (((pf_b (0 ≤ y ∧ y ≤ (h 200 19))) = 0 → Q (some (.int (-1))) ty h r g) ∧ (¬ (pf_b (0 ≤ y ∧ y ≤ (h 200 19))) = 0 → ((¬ (pf_b ((-1) ≤ z ∧ z ≤ 9999)) = 0 → ((z < 0 → vp_in ((31 * x) + y) 248 ∧ (∀ h1 : pv_H, h1 = pv_up h 320 (Int32.toNatClampNeg ((31 * x) + y)) (0 &&& 1) → vp_in ((31 * x) + y) 248 ∧ (∀ h2 : pv_H, h2 = pv_up h1 321 (Int32.toNatClampNeg ((31 * x) + y)) z → Q (some (.int 1)) ty h2 r g))) ∧ (¬ z < 0 → vp_in ((31 * x) + y) 248 ∧ (∀ h3 : pv_H, h3 = pv_up h 320 (Int32.toNatClampNeg ((31 * x) + y)) (1 &&& 1) → vp_in ((31 * x) + y) 248 ∧ (∀ h4 : pv_H, h4 = pv_up h3 321 (Int32.toNatClampNeg ((31 * x) + y)) z → Q (some (.int 1)) ty h4 r g))))) ∧ ((pf_b ((-1) ≤ z ∧ z ≤ 9999)) = 0 → Q (some (.int (-1))) ty h r g))))))) : pv_E Γ d kc ks mX12_wheels 0 [some (.ref 200), some (.int x), some (.int y), some (.int z)] [] ty h r g Q := by
  refine pv_aload_n dX12_wheels_0 rfl ?_
  refine pv_iload_n dX12_wheels_1 rfl ?_
  refine pv_invV (As := [.int x]) (d' := d - 1) dX12_wheels_2 moX12_isStreet ml_X12_168 (lt_200 hL) (Or.inl ⟨_, rfl, rfl⟩) (Nat.le_of_ble_eq_true rfl) (by omega) (Nat.zero_le _) (Nat.zero_le _) (ct_X12_isStreet (by omega) hL) (fun v ty' h' r' g' hq => ?_) rfl
  obtain ⟨e1, e2, e3, e4, e5⟩ := hq
  rw [e1, e2, e3, e4, e5]
  refine pv_pc (pc' := 5) rfl ?_
  show pv_E Γ d kc ks mX12_wheels 5 [some (.ref 200), some (.int x), some (.int y), some (.int z)] [.int (pf_b (0 ≤ x ∧ x ≤ h 200 1 - 1))] ty h r g Q
  refine pv_if_eq (tgt := 31) dX12_wheels_5 (by decide) (fun c1 => ?_) (fun c1 => ?_)
  · have F := F.1 c1
    refine pv_iconst (v := (-1)) (by decide) dX12_wheels_31 ?_
    exact pv_ireturn dX12_wheels_32 rfl rfl F
  · have F := F.2 c1
    refine pv_iload_n dX12_wheels_8 rfl ?_
    refine pv_iconst (v := 0) (by decide) dX12_wheels_9 ?_
    refine pv_aload_n dX12_wheels_10 rfl ?_
    refine pv_getI 12 19 dX12_wheels_11 fl_X12_211 rfl (lt_200 hL) ?_
    refine pv_invS (As := [.int y, .int 0, .int (h 200 19)]) (d' := d - 1) dX12_wheels_14 moX12_in ml_X12_164 (Nat.le_of_ble_eq_true rfl) (by omega) (Nat.zero_le _) (Nat.zero_le _) (ct_X12_in (by omega)) (fun v ty' h' r' g' hq => ?_) rfl
    obtain ⟨e1, e2, e3, e4, e5⟩ := hq
    rw [e1, e2, e3, e4, e5]
    refine pv_pc (pc' := 17) rfl ?_
    show pv_E Γ d kc ks mX12_wheels 17 [some (.ref 200), some (.int x), some (.int y), some (.int z)] [.int (pf_b (0 ≤ y ∧ y ≤ (h 200 19)))] ty h r g Q
    refine pv_if_eq (tgt := 31) dX12_wheels_17 (by decide) (fun c2 => ?_) (fun c2 => ?_)
    · have F := F.1 c2
      refine pv_iconst (v := (-1)) (by decide) dX12_wheels_31 ?_
      exact pv_ireturn dX12_wheels_32 rfl rfl F
    · have F := F.2 c2
      refine pv_iload_n dX12_wheels_20 rfl ?_
      refine pv_iconst (v := (-1)) (by decide) dX12_wheels_21 ?_
      refine pv_sipush (v := 9999) (by decide) dX12_wheels_22 ?_
      refine pv_invS (As := [.int z, .int (-1), .int 9999]) (d' := d - 1) dX12_wheels_25 moX12_in ml_X12_164 (Nat.le_of_ble_eq_true rfl) (by omega) (Nat.zero_le _) (Nat.zero_le _) (ct_X12_in (by omega)) (fun v ty' h' r' g' hq => ?_) rfl
      obtain ⟨e1, e2, e3, e4, e5⟩ := hq
      rw [e1, e2, e3, e4, e5]
      refine pv_pc (pc' := 28) rfl ?_
      show pv_E Γ d kc ks mX12_wheels 28 [some (.ref 200), some (.int x), some (.int y), some (.int z)] [.int (pf_b ((-1) ≤ z ∧ z ≤ 9999))] ty h r g Q
      refine pv_if_ne (tgt := 33) dX12_wheels_28 (by decide) (fun c3 => ?_) (fun c3 => ?_)
      · have F := F.1 c3
        refine pv_aload_n dX12_wheels_33 rfl ?_
        refine pv_getRk 12 20 dX12_wheels_34 fl_X12_54 rfl (lt_200 hL) (lr_200_20 hL) ?_
        refine pv_bipush (v := 31) (by decide) dX12_wheels_37 ?_
        refine pv_iload_n dX12_wheels_39 rfl ?_
        refine pv_imul dX12_wheels_40 ?_
        refine pv_iload_n dX12_wheels_41 rfl ?_
        refine pv_pc (pc' := 42) rfl ?_
        refine pv_iadd dX12_wheels_42 ?_
        refine pv_iload_n dX12_wheels_43 rfl ?_
        refine pv_if_lt (tgt := 51) dX12_wheels_44 (by decide) (fun c4 => ?_) (fun c4 => ?_)
        · have F := F.1 c4
          refine pv_iconst (v := 0) (by decide) dX12_wheels_51 ?_
          obtain ⟨q1, F⟩ := F
          obtain ⟨h1, eh1⟩ : ∃ h1 : pv_H, h1 = pv_up h 320 (Int32.toNatClampNeg ((31 * x) + y)) (0 &&& 1) := ⟨_, rfl⟩
          have F := F h1 eh1
          refine pv_zast dX12_wheels_52 (lt_320 hL) (by decide) q1 ?_
          refine pv_hE eh1 ?_
          refine pv_aload_n dX12_wheels_53 rfl ?_
          refine pv_getRk 12 21 dX12_wheels_54 fl_X12_57 rfl (lt_200 hL) (lr_200_21 hL) ?_
          refine pv_bipush (v := 31) (by decide) dX12_wheels_57 ?_
          refine pv_iload_n dX12_wheels_59 rfl ?_
          refine pv_imul dX12_wheels_60 ?_
          refine pv_iload_n dX12_wheels_61 rfl ?_
          refine pv_pc (pc' := 62) rfl ?_
          refine pv_iadd dX12_wheels_62 ?_
          refine pv_iload_n dX12_wheels_63 rfl ?_
          obtain ⟨q2, F⟩ := F
          obtain ⟨h2, eh2⟩ : ∃ h2 : pv_H, h2 = pv_up h1 321 (Int32.toNatClampNeg ((31 * x) + y)) z := ⟨_, rfl⟩
          have F := F h2 eh2
          refine pv_iast dX12_wheels_64 (lt_321 hL) (by decide) q2 ?_
          refine pv_hE eh2 ?_
          refine pv_iconst (v := 1) (by decide) dX12_wheels_65 ?_
          exact pv_ireturn dX12_wheels_66 rfl rfl F
        · have F := F.2 c4
          refine pv_iconst (v := 1) (by decide) dX12_wheels_47 ?_
          refine pv_goto (tgt := 52) dX12_wheels_48 (by decide) ?_
          obtain ⟨q3, F⟩ := F
          obtain ⟨h3, eh3⟩ : ∃ h3 : pv_H, h3 = pv_up h 320 (Int32.toNatClampNeg ((31 * x) + y)) (1 &&& 1) := ⟨_, rfl⟩
          have F := F h3 eh3
          refine pv_zast dX12_wheels_52 (lt_320 hL) (by decide) q3 ?_
          refine pv_hE eh3 ?_
          refine pv_aload_n dX12_wheels_53 rfl ?_
          refine pv_getRk 12 21 dX12_wheels_54 fl_X12_57 rfl (lt_200 hL) (lr_200_21 hL) ?_
          refine pv_bipush (v := 31) (by decide) dX12_wheels_57 ?_
          refine pv_iload_n dX12_wheels_59 rfl ?_
          refine pv_imul dX12_wheels_60 ?_
          refine pv_iload_n dX12_wheels_61 rfl ?_
          refine pv_pc (pc' := 62) rfl ?_
          refine pv_iadd dX12_wheels_62 ?_
          refine pv_iload_n dX12_wheels_63 rfl ?_
          obtain ⟨q4, F⟩ := F
          obtain ⟨h4, eh4⟩ : ∃ h4 : pv_H, h4 = pv_up h3 321 (Int32.toNatClampNeg ((31 * x) + y)) z := ⟨_, rfl⟩
          have F := F h4 eh4
          refine pv_iast dX12_wheels_64 (lt_321 hL) (by decide) q4 ?_
          refine pv_hE eh4 ?_
          refine pv_iconst (v := 1) (by decide) dX12_wheels_65 ?_
          exact pv_ireturn dX12_wheels_66 rfl rfl F
      · have F := F.2 c3
        refine pv_iconst (v := (-1)) (by decide) dX12_wheels_31 ?_
        exact pv_ireturn dX12_wheels_32 rfl rfl F
set_option maxRecDepth 20000 in
set_option maxHeartbeats 4000000 in
theorem sg_X12_cost_0 {Γ : pv_C} {d kc ks : Nat} {ty : pv_T} {h : pv_H} {r : pv_R} {g : pv_G} {Q : pv_Q} (x : Int32) (y : Int32) (z : Int32) (u : Int32) (hd : 2 ≤ d) (hL : pv_Lay ty r) (F : (((pf_b (0 ≤ x ∧ x ≤ h 200 1 - 1)) = 0 → Q (some (.int (-1))) ty h r g) ∧ (¬ (pf_b (0 ≤ x ∧ x ≤ h 200 1 - 1)) = 0 → (((pf_b (1 ≤ y ∧ y ≤ 9999)) = 0 → Q (some (.int (-1))) ty h r g) ∧ (¬ (pf_b (1 ≤ y ∧ y ≤ 9999)) = 0 → (((pf_b (0 ≤ z ∧ z ≤ y)) = 0 → Q (some (.int (-1))) ty h r g) ∧ (¬ (pf_b (0 ≤ z ∧ z ≤ y)) = 0 → ((¬ (pf_b (0 ≤ u ∧ u ≤ 40)) = 0 → vp_in x 8 ∧ (∀ h1 : pv_H, h1 = pv_up h 323 (Int32.toNatClampNeg x) y → vp_in x 8 ∧ (∀ h2 : pv_H, h2 = pv_up h1 324 (Int32.toNatClampNeg x) z → vp_in x 8 ∧ (∀ h3 : pv_H, h3 = pv_up h2 325 (Int32.toNatClampNeg x) u → Q (some (.int 1)) ty h3 r g)))) ∧ ((pf_b (0 ≤ u ∧ u ≤ 40)) = 0 → Q (some (.int (-1))) ty h r g))))))))) : pv_E Γ d kc ks mX12_cost 0 [some (.ref 200), some (.int x), some (.int y), some (.int z), some (.int u)] [] ty h r g Q := by
  refine pv_aload_n dX12_cost_0 rfl ?_
  refine pv_iload_n dX12_cost_1 rfl ?_
  refine pv_invV (As := [.int x]) (d' := d - 1) dX12_cost_2 moX12_isStreet ml_X12_168 (lt_200 hL) (Or.inl ⟨_, rfl, rfl⟩) (Nat.le_of_ble_eq_true rfl) (by omega) (Nat.zero_le _) (Nat.zero_le _) (ct_X12_isStreet (by omega) hL) (fun v ty' h' r' g' hq => ?_) rfl
  obtain ⟨e1, e2, e3, e4, e5⟩ := hq
  rw [e1, e2, e3, e4, e5]
  refine pv_pc (pc' := 5) rfl ?_
  show pv_E Γ d kc ks mX12_cost 5 [some (.ref 200), some (.int x), some (.int y), some (.int z), some (.int u)] [.int (pf_b (0 ≤ x ∧ x ≤ h 200 1 - 1))] ty h r g Q
  refine pv_if_eq (tgt := 39) dX12_cost_5 (by decide) (fun c1 => ?_) (fun c1 => ?_)
  · have F := F.1 c1
    refine pv_iconst (v := (-1)) (by decide) dX12_cost_39 ?_
    exact pv_ireturn dX12_cost_40 rfl rfl F
  · have F := F.2 c1
    refine pv_iload_n dX12_cost_8 rfl ?_
    refine pv_iconst (v := 1) (by decide) dX12_cost_9 ?_
    refine pv_sipush (v := 9999) (by decide) dX12_cost_10 ?_
    refine pv_invS (As := [.int y, .int 1, .int 9999]) (d' := d - 1) dX12_cost_13 moX12_in ml_X12_164 (Nat.le_of_ble_eq_true rfl) (by omega) (Nat.zero_le _) (Nat.zero_le _) (ct_X12_in (by omega)) (fun v ty' h' r' g' hq => ?_) rfl
    obtain ⟨e1, e2, e3, e4, e5⟩ := hq
    rw [e1, e2, e3, e4, e5]
    refine pv_pc (pc' := 16) rfl ?_
    show pv_E Γ d kc ks mX12_cost 16 [some (.ref 200), some (.int x), some (.int y), some (.int z), some (.int u)] [.int (pf_b (1 ≤ y ∧ y ≤ 9999))] ty h r g Q
    refine pv_if_eq (tgt := 39) dX12_cost_16 (by decide) (fun c2 => ?_) (fun c2 => ?_)
    · have F := F.1 c2
      refine pv_iconst (v := (-1)) (by decide) dX12_cost_39 ?_
      exact pv_ireturn dX12_cost_40 rfl rfl F
    · have F := F.2 c2
      refine pv_iload_n dX12_cost_19 rfl ?_
      refine pv_iconst (v := 0) (by decide) dX12_cost_20 ?_
      refine pv_iload_n dX12_cost_21 rfl ?_
      refine pv_invS (As := [.int z, .int 0, .int y]) (d' := d - 1) dX12_cost_22 moX12_in ml_X12_164 (Nat.le_of_ble_eq_true rfl) (by omega) (Nat.zero_le _) (Nat.zero_le _) (ct_X12_in (by omega)) (fun v ty' h' r' g' hq => ?_) rfl
      obtain ⟨e1, e2, e3, e4, e5⟩ := hq
      rw [e1, e2, e3, e4, e5]
      refine pv_pc (pc' := 25) rfl ?_
      show pv_E Γ d kc ks mX12_cost 25 [some (.ref 200), some (.int x), some (.int y), some (.int z), some (.int u)] [.int (pf_b (0 ≤ z ∧ z ≤ y))] ty h r g Q
      refine pv_if_eq (tgt := 39) dX12_cost_25 (by decide) (fun c3 => ?_) (fun c3 => ?_)
      · have F := F.1 c3
        refine pv_iconst (v := (-1)) (by decide) dX12_cost_39 ?_
        exact pv_ireturn dX12_cost_40 rfl rfl F
      · have F := F.2 c3
        refine pv_iload dX12_cost_28 rfl ?_
        refine pv_iconst (v := 0) (by decide) dX12_cost_30 ?_
        refine pv_bipush (v := 40) (by decide) dX12_cost_31 ?_
        refine pv_invS (As := [.int u, .int 0, .int 40]) (d' := d - 1) dX12_cost_33 moX12_in ml_X12_164 (Nat.le_of_ble_eq_true rfl) (by omega) (Nat.zero_le _) (Nat.zero_le _) (ct_X12_in (by omega)) (fun v ty' h' r' g' hq => ?_) rfl
        obtain ⟨e1, e2, e3, e4, e5⟩ := hq
        rw [e1, e2, e3, e4, e5]
        refine pv_pc (pc' := 36) rfl ?_
        show pv_E Γ d kc ks mX12_cost 36 [some (.ref 200), some (.int x), some (.int y), some (.int z), some (.int u)] [.int (pf_b (0 ≤ u ∧ u ≤ 40))] ty h r g Q
        refine pv_if_ne (tgt := 41) dX12_cost_36 (by decide) (fun c4 => ?_) (fun c4 => ?_)
        · have F := F.1 c4
          refine pv_aload_n dX12_cost_41 rfl ?_
          refine pv_getRk 12 23 dX12_cost_42 fl_X12_63 rfl (lt_200 hL) (lr_200_23 hL) ?_
          refine pv_iload_n dX12_cost_45 rfl ?_
          refine pv_iload_n dX12_cost_46 rfl ?_
          obtain ⟨q1, F⟩ := F
          obtain ⟨h1, eh1⟩ : ∃ h1 : pv_H, h1 = pv_up h 323 (Int32.toNatClampNeg x) y := ⟨_, rfl⟩
          have F := F h1 eh1
          refine pv_iast dX12_cost_47 (lt_323 hL) (by decide) q1 ?_
          refine pv_hE eh1 ?_
          refine pv_aload_n dX12_cost_48 rfl ?_
          refine pv_getRk 12 24 dX12_cost_49 fl_X12_66 rfl (lt_200 hL) (lr_200_24 hL) ?_
          refine pv_iload_n dX12_cost_52 rfl ?_
          refine pv_iload_n dX12_cost_53 rfl ?_
          obtain ⟨q2, F⟩ := F
          obtain ⟨h2, eh2⟩ : ∃ h2 : pv_H, h2 = pv_up h1 324 (Int32.toNatClampNeg x) z := ⟨_, rfl⟩
          have F := F h2 eh2
          refine pv_iast dX12_cost_54 (lt_324 hL) (by decide) q2 ?_
          refine pv_hE eh2 ?_
          refine pv_aload_n dX12_cost_55 rfl ?_
          refine pv_getRk 12 25 dX12_cost_56 fl_X12_69 rfl (lt_200 hL) (lr_200_25 hL) ?_
          refine pv_iload_n dX12_cost_59 rfl ?_
          refine pv_iload dX12_cost_60 rfl ?_
          obtain ⟨q3, F⟩ := F
          obtain ⟨h3, eh3⟩ : ∃ h3 : pv_H, h3 = pv_up h2 325 (Int32.toNatClampNeg x) u := ⟨_, rfl⟩
          have F := F h3 eh3
          refine pv_iast dX12_cost_62 (lt_325 hL) (by decide) q3 ?_
          refine pv_hE eh3 ?_
          refine pv_iconst (v := 1) (by decide) dX12_cost_63 ?_
          exact pv_ireturn dX12_cost_64 rfl rfl F
        · have F := F.2 c4
          refine pv_iconst (v := (-1)) (by decide) dX12_cost_39 ?_
          exact pv_ireturn dX12_cost_40 rfl rfl F
set_option maxRecDepth 20000 in
set_option maxHeartbeats 4000000 in
theorem sg_X11_wheels_0 {Γ : pv_C} {d kc ks : Nat} {ty : pv_T} {h : pv_H} {r : pv_R} {g : pv_G} {Q : pv_Q} (x : Int32) (y : Int32) (z : Int32) (hd : 1 ≤ d) (hL : pv_Lay ty r) (F : pv_CT Γ (d - 1) 0 0 mX11_findStreet [.ref 100, .int x] ty h r g (fun (v1 : Option Value) (ty1 : pv_T) (h1 : pv_H) (r1 : pv_R) (g1 : pv_G) => ∃ w1 : Nat, v1 = some (.ref w1) ∧ pv_Lay ty1 r1 ∧ ((w1 = 0 → Q (some (.int (-1))) ty1 h1 r1 g1) ∧ (¬ w1 = 0 → (((pf_b (0 ≤ y ∧ y ≤ (h1 100 5))) = 0 → Q (some (.int (-1))) ty1 h1 r1 g1) ∧ (¬ (pf_b (0 ≤ y ∧ y ≤ (h1 100 5))) = 0 → ((¬ (pf_b ((-1) ≤ z ∧ z ≤ 9999)) = 0 → ty1 w1 = some (8, 0) ∧ pv_inb ty1 (r1 w1 4) 20 y ∧ 10 ≤ (r1 w1 4) ∧ (∀ h2 : pv_H, h2 = pv_up h1 (r1 w1 4) (Int32.toNatClampNeg y) z → Q (some (.int 1)) ty1 h2 r1 g1)) ∧ ((pf_b ((-1) ≤ z ∧ z ≤ 9999)) = 0 → Q (some (.int (-1))) ty1 h1 r1 g1)))))))) : pv_E Γ d kc ks mX11_wheels 0 [some (.ref 100), some (.int x), some (.int y), some (.int z), none] [] ty h r g Q := by
  refine pv_aload_n dX11_wheels_0 rfl ?_
  refine pv_iload_n dX11_wheels_1 rfl ?_
  refine pv_invV (As := [.int x]) (d' := d - 1) dX11_wheels_2 moX11_findStreet ml_X11_80 (lt_100 hL) (Or.inl ⟨_, rfl, rfl⟩) (Nat.le_of_ble_eq_true rfl) (by omega) (Nat.zero_le _) (Nat.zero_le _) F (fun v1 ty1 h1 r1 g1 F => ?_) rfl
  obtain ⟨w1, rfl, F⟩ := F
  obtain ⟨hL1, F⟩ := F
  refine pv_pc (pc' := 5) rfl ?_
  show pv_E Γ d kc ks mX11_wheels 5 [some (.ref 100), some (.int x), some (.int y), some (.int z), none] [.ref w1] ty1 h1 r1 g1 Q
  refine pv_astore (ls' := [some (.ref 100), some (.int x), some (.int y), some (.int z), some (.ref w1)]) dX11_wheels_5 (by decide) rfl rfl ?_
  refine pv_aload dX11_wheels_7 rfl ?_
  refine pv_ifnull (tgt := 35) dX11_wheels_9 (by decide) (fun c1 => ?_) (fun c1 => ?_)
  · have F := F.1 c1
    refine pv_iconst (v := (-1)) (by decide) dX11_wheels_35 ?_
    exact pv_ireturn dX11_wheels_36 rfl rfl F
  · have F := F.2 c1
    refine pv_iload_n dX11_wheels_12 rfl ?_
    refine pv_iconst (v := 0) (by decide) dX11_wheels_13 ?_
    refine pv_aload_n dX11_wheels_14 rfl ?_
    refine pv_getI 11 5 dX11_wheels_15 fl_X11_139 rfl (lt_100 hL1) ?_
    refine pv_invS (As := [.int y, .int 0, .int (h1 100 5)]) (d' := d - 1) dX11_wheels_18 moX11_within ml_X11_69 (Nat.le_of_ble_eq_true rfl) (by omega) (Nat.zero_le _) (Nat.zero_le _) (ct_X11_within (by omega)) (fun v ty' h' r' g' hq => ?_) rfl
    obtain ⟨e1, e2, e3, e4, e5⟩ := hq
    rw [e1, e2, e3, e4, e5]
    refine pv_pc (pc' := 21) rfl ?_
    show pv_E Γ d kc ks mX11_wheels 21 [some (.ref 100), some (.int x), some (.int y), some (.int z), some (.ref w1)] [.int (pf_b (0 ≤ y ∧ y ≤ (h1 100 5)))] ty1 h1 r1 g1 Q
    refine pv_if_eq (tgt := 35) dX11_wheels_21 (by decide) (fun c2 => ?_) (fun c2 => ?_)
    · have F := F.1 c2
      refine pv_iconst (v := (-1)) (by decide) dX11_wheels_35 ?_
      exact pv_ireturn dX11_wheels_36 rfl rfl F
    · have F := F.2 c2
      refine pv_iload_n dX11_wheels_24 rfl ?_
      refine pv_iconst (v := (-1)) (by decide) dX11_wheels_25 ?_
      refine pv_sipush (v := 9999) (by decide) dX11_wheels_26 ?_
      refine pv_invS (As := [.int z, .int (-1), .int 9999]) (d' := d - 1) dX11_wheels_29 moX11_within ml_X11_69 (Nat.le_of_ble_eq_true rfl) (by omega) (Nat.zero_le _) (Nat.zero_le _) (ct_X11_within (by omega)) (fun v ty' h' r' g' hq => ?_) rfl
      obtain ⟨e1, e2, e3, e4, e5⟩ := hq
      rw [e1, e2, e3, e4, e5]
      refine pv_pc (pc' := 32) rfl ?_
      show pv_E Γ d kc ks mX11_wheels 32 [some (.ref 100), some (.int x), some (.int y), some (.int z), some (.ref w1)] [.int (pf_b ((-1) ≤ z ∧ z ≤ 9999))] ty1 h1 r1 g1 Q
      refine pv_if_ne (tgt := 37) dX11_wheels_32 (by decide) (fun c3 => ?_) (fun c3 => ?_)
      · have F := F.1 c3
        refine pv_aload dX11_wheels_37 rfl ?_
        obtain ⟨q1, F⟩ := F
        refine pv_getR 8 4 dX11_wheels_39 fl_X11_142 rfl q1 ?_
        refine pv_iload_n dX11_wheels_42 rfl ?_
        refine pv_iload_n dX11_wheels_43 rfl ?_
        obtain ⟨q2, F⟩ := F
        obtain ⟨q2n, q2t, q2i⟩ := q2
        obtain ⟨q2w, F⟩ := F
        obtain ⟨h2, eh2⟩ : ∃ h2 : pv_H, h2 = pv_up h1 (r1 w1 4) (Int32.toNatClampNeg y) z := ⟨_, rfl⟩
        have F := F h2 eh2
        refine pv_iast dX11_wheels_44 q2t q2w q2i ?_
        refine pv_hE eh2 ?_
        refine pv_iconst (v := 1) (by decide) dX11_wheels_45 ?_
        exact pv_ireturn dX11_wheels_46 rfl rfl F
      · have F := F.2 c3
        refine pv_iconst (v := (-1)) (by decide) dX11_wheels_35 ?_
        exact pv_ireturn dX11_wheels_36 rfl rfl F
set_option maxRecDepth 20000 in
set_option maxHeartbeats 4000000 in
theorem sg_X11_cost_0 {Γ : pv_C} {d kc ks : Nat} {ty : pv_T} {h : pv_H} {r : pv_R} {g : pv_G} {Q : pv_Q} (x : Int32) (y : Int32) (z : Int32) (u : Int32) (hd : 1 ≤ d) (hL : pv_Lay ty r) (F : pv_CT Γ (d - 1) 0 0 mX11_findStreet [.ref 100, .int x] ty h r g (fun (v1 : Option Value) (ty1 : pv_T) (h1 : pv_H) (r1 : pv_R) (g1 : pv_G) => ∃ w1 : Nat, v1 = some (.ref w1) ∧ pv_Lay ty1 r1 ∧ ((w1 = 0 → Q (some (.int (-1))) ty1 h1 r1 g1) ∧ (¬ w1 = 0 → (((pf_b (1 ≤ y ∧ y ≤ 9999)) = 0 → Q (some (.int (-1))) ty1 h1 r1 g1) ∧ (¬ (pf_b (1 ≤ y ∧ y ≤ 9999)) = 0 → (((pf_b (0 ≤ z ∧ z ≤ y)) = 0 → Q (some (.int (-1))) ty1 h1 r1 g1) ∧ (¬ (pf_b (0 ≤ z ∧ z ≤ y)) = 0 → ((¬ (pf_b (0 ≤ u ∧ u ≤ 40)) = 0 → ty1 w1 = some (8, 0) ∧ (∀ h2 : pv_H, h2 = pv_up h1 w1 6 y → ty1 w1 = some (8, 0) ∧ (∀ h3 : pv_H, h3 = pv_up h2 w1 7 z → ty1 w1 = some (8, 0) ∧ (∀ h4 : pv_H, h4 = pv_up h3 w1 8 u → Q (some (.int 1)) ty1 h4 r1 g1)))) ∧ ((pf_b (0 ≤ u ∧ u ≤ 40)) = 0 → Q (some (.int (-1))) ty1 h1 r1 g1)))))))))) : pv_E Γ d kc ks mX11_cost 0 [some (.ref 100), some (.int x), some (.int y), some (.int z), some (.int u), none] [] ty h r g Q := by
  refine pv_aload_n dX11_cost_0 rfl ?_
  refine pv_iload_n dX11_cost_1 rfl ?_
  refine pv_invV (As := [.int x]) (d' := d - 1) dX11_cost_2 moX11_findStreet ml_X11_80 (lt_100 hL) (Or.inl ⟨_, rfl, rfl⟩) (Nat.le_of_ble_eq_true rfl) (by omega) (Nat.zero_le _) (Nat.zero_le _) F (fun v1 ty1 h1 r1 g1 F => ?_) rfl
  obtain ⟨w1, rfl, F⟩ := F
  obtain ⟨hL1, F⟩ := F
  refine pv_pc (pc' := 5) rfl ?_
  show pv_E Γ d kc ks mX11_cost 5 [some (.ref 100), some (.int x), some (.int y), some (.int z), some (.int u), none] [.ref w1] ty1 h1 r1 g1 Q
  refine pv_astore (ls' := [some (.ref 100), some (.int x), some (.int y), some (.int z), some (.int u), some (.ref w1)]) dX11_cost_5 (by decide) rfl rfl ?_
  refine pv_aload dX11_cost_7 rfl ?_
  refine pv_ifnull (tgt := 43) dX11_cost_9 (by decide) (fun c1 => ?_) (fun c1 => ?_)
  · have F := F.1 c1
    refine pv_iconst (v := (-1)) (by decide) dX11_cost_43 ?_
    exact pv_ireturn dX11_cost_44 rfl rfl F
  · have F := F.2 c1
    refine pv_iload_n dX11_cost_12 rfl ?_
    refine pv_iconst (v := 1) (by decide) dX11_cost_13 ?_
    refine pv_sipush (v := 9999) (by decide) dX11_cost_14 ?_
    refine pv_invS (As := [.int y, .int 1, .int 9999]) (d' := d - 1) dX11_cost_17 moX11_within ml_X11_69 (Nat.le_of_ble_eq_true rfl) (by omega) (Nat.zero_le _) (Nat.zero_le _) (ct_X11_within (by omega)) (fun v ty' h' r' g' hq => ?_) rfl
    obtain ⟨e1, e2, e3, e4, e5⟩ := hq
    rw [e1, e2, e3, e4, e5]
    refine pv_pc (pc' := 20) rfl ?_
    show pv_E Γ d kc ks mX11_cost 20 [some (.ref 100), some (.int x), some (.int y), some (.int z), some (.int u), some (.ref w1)] [.int (pf_b (1 ≤ y ∧ y ≤ 9999))] ty1 h1 r1 g1 Q
    refine pv_if_eq (tgt := 43) dX11_cost_20 (by decide) (fun c2 => ?_) (fun c2 => ?_)
    · have F := F.1 c2
      refine pv_iconst (v := (-1)) (by decide) dX11_cost_43 ?_
      exact pv_ireturn dX11_cost_44 rfl rfl F
    · have F := F.2 c2
      refine pv_iload_n dX11_cost_23 rfl ?_
      refine pv_iconst (v := 0) (by decide) dX11_cost_24 ?_
      refine pv_iload_n dX11_cost_25 rfl ?_
      refine pv_invS (As := [.int z, .int 0, .int y]) (d' := d - 1) dX11_cost_26 moX11_within ml_X11_69 (Nat.le_of_ble_eq_true rfl) (by omega) (Nat.zero_le _) (Nat.zero_le _) (ct_X11_within (by omega)) (fun v ty' h' r' g' hq => ?_) rfl
      obtain ⟨e1, e2, e3, e4, e5⟩ := hq
      rw [e1, e2, e3, e4, e5]
      refine pv_pc (pc' := 29) rfl ?_
      show pv_E Γ d kc ks mX11_cost 29 [some (.ref 100), some (.int x), some (.int y), some (.int z), some (.int u), some (.ref w1)] [.int (pf_b (0 ≤ z ∧ z ≤ y))] ty1 h1 r1 g1 Q
      refine pv_if_eq (tgt := 43) dX11_cost_29 (by decide) (fun c3 => ?_) (fun c3 => ?_)
      · have F := F.1 c3
        refine pv_iconst (v := (-1)) (by decide) dX11_cost_43 ?_
        exact pv_ireturn dX11_cost_44 rfl rfl F
      · have F := F.2 c3
        refine pv_iload dX11_cost_32 rfl ?_
        refine pv_iconst (v := 0) (by decide) dX11_cost_34 ?_
        refine pv_bipush (v := 40) (by decide) dX11_cost_35 ?_
        refine pv_invS (As := [.int u, .int 0, .int 40]) (d' := d - 1) dX11_cost_37 moX11_within ml_X11_69 (Nat.le_of_ble_eq_true rfl) (by omega) (Nat.zero_le _) (Nat.zero_le _) (ct_X11_within (by omega)) (fun v ty' h' r' g' hq => ?_) rfl
        obtain ⟨e1, e2, e3, e4, e5⟩ := hq
        rw [e1, e2, e3, e4, e5]
        refine pv_pc (pc' := 40) rfl ?_
        show pv_E Γ d kc ks mX11_cost 40 [some (.ref 100), some (.int x), some (.int y), some (.int z), some (.int u), some (.ref w1)] [.int (pf_b (0 ≤ u ∧ u ≤ 40))] ty1 h1 r1 g1 Q
        refine pv_if_ne (tgt := 45) dX11_cost_40 (by decide) (fun c4 => ?_) (fun c4 => ?_)
        · have F := F.1 c4
          refine pv_aload dX11_cost_45 rfl ?_
          refine pv_iload_n dX11_cost_47 rfl ?_
          obtain ⟨q1, F⟩ := F
          obtain ⟨h2, eh2⟩ : ∃ h2 : pv_H, h2 = pv_up h1 w1 6 y := ⟨_, rfl⟩
          have F := F h2 eh2
          refine pv_putI 8 6 dX11_cost_48 fl_X11_151 ⟨_, rfl, Or.inl rfl⟩ (Or.inl rfl) q1 ?_
          refine pv_hE eh2 ?_
          refine pv_aload dX11_cost_51 rfl ?_
          refine pv_iload_n dX11_cost_53 rfl ?_
          obtain ⟨q2, F⟩ := F
          obtain ⟨h3, eh3⟩ : ∃ h3 : pv_H, h3 = pv_up h2 w1 7 z := ⟨_, rfl⟩
          have F := F h3 eh3
          refine pv_putI 8 7 dX11_cost_54 fl_X11_154 ⟨_, rfl, Or.inl rfl⟩ (Or.inl rfl) q2 ?_
          refine pv_hE eh3 ?_
          refine pv_aload dX11_cost_57 rfl ?_
          refine pv_iload dX11_cost_59 rfl ?_
          obtain ⟨q3, F⟩ := F
          obtain ⟨h4, eh4⟩ : ∃ h4 : pv_H, h4 = pv_up h3 w1 8 u := ⟨_, rfl⟩
          have F := F h4 eh4
          refine pv_putI 8 8 dX11_cost_61 fl_X11_157 ⟨_, rfl, Or.inl rfl⟩ (Or.inl rfl) q3 ?_
          refine pv_hE eh4 ?_
          refine pv_iconst (v := 1) (by decide) dX11_cost_64 ?_
          exact pv_ireturn dX11_cost_65 rfl rfl F
        · have F := F.2 c4
          refine pv_iconst (v := (-1)) (by decide) dX11_cost_43 ?_
          exact pv_ireturn dX11_cost_44 rfl rfl F
section WK
variable {Γ : pv_C} {d : Nat} {ty : pv_T} {h : pv_H} {r : pv_R} {g : pv_G} {ns T : Nat}
/-- cost(): what is refused; what is written -/
def fo_cost (h : pv_H) (x y z u : Int32) : Prop := (0 ≤ x ∧ x ≤ h 200 1 - 1) ∧ (1 ≤ y ∧ y ≤ 9999) ∧ (0 ≤ z ∧ z ≤ y) ∧ (0 ≤ u ∧ u ≤ 40)
theorem ct_X12_cost (hd : 2 ≤ d) (hL : pv_Lay ty r) (hS : mStreets h ns) {x y z u : Int32} : pv_CJ Γ d mX12_cost [.ref 200, .int x, .int y, .int z, .int u] ty h r g (fun w h' => (¬ fo_cost h x y z u → w = -1 ∧ h' = h) ∧ (fo_cost h x y z u → w = 1 ∧ ∀ s, s < ns → x = nI s → h' = pv_up (pv_up (pv_up h 323 s y) 324 s z) 325 s u)) := by
  have h8 := hS.1
  refine pv_fn 0 pn_X12 rfl (Nat.le_of_ble_eq_true rfl) (sg_X12_cost_0 x y z u (by omega) hL ?_)
  simp only [pf_b_0, Classical.not_not]
  refine ⟨fun c1 => pv_jqi ⟨fun _ => ⟨rfl, rfl⟩, fun q => absurd q.1 c1⟩, fun c1 => ⟨fun c2 => pv_jqi ⟨fun _ => ⟨rfl, rfl⟩, fun q => absurd q.2.1 c2⟩, fun c2 => ⟨fun c3 => pv_jqi ⟨fun _ => ⟨rfl, rfl⟩, fun q => absurd q.2.2.1 c3⟩, fun c3 => ⟨fun c4 => ?_, fun c4 => pv_jqi ⟨fun _ => ⟨rfl, rfl⟩, fun q => absurd q.2.2.2 c4⟩⟩⟩⟩⟩
  have hv : vp_in x 8 := pf_in8 (ni_b8 hS.2.1 hS.1) c1
  refine ⟨hv, fun h1 e1 => ⟨hv, fun h2 e2 => ⟨hv, fun h3 e3 => pv_jqi ⟨fun q => absurd ⟨c1, c2, c3, c4⟩ q, fun _ => ⟨rfl, fun s hs e => ?_⟩⟩⟩⟩⟩
  rw [e, nI_clamp (by omega)] at e1 e2 e3
  rw [e3, e2, e1]
theorem ct_X11_cost (hd : 1 ≤ d) (hL : pv_Lay ty r) (hS : cpS ty h r ns) {x y z u : Int32} : pv_CJ Γ d mX11_cost [.ref 100, .int x, .int y, .int z, .int u] ty h r g (fun w h' => (¬ fo_cost h x y z u → w = -1 ∧ h' = h) ∧ (fo_cost h x y z u → w = 1 ∧ ∀ s, s < ns → x = nI s → h' = pv_up (pv_up (pv_up h (cA s) 6 y) (cA s) 7 z) (cA s) 8 u)) := by
  have h8 := hS.1.1
  refine pv_fn 1 pn_X11 rfl (Nat.le_of_ble_eq_true rfl) (sg_X11_cost_0 x y z u (by omega) hL (ct_find hL hS (fun hf => ⟨_, rfl, hL, fun _ => pv_jqi ⟨fun _ => ⟨rfl, rfl⟩, fun q => absurd q.1 hf⟩, fun q => absurd rfl q⟩) (fun s hs e => ⟨_, rfl, hL, fun q => absurd q (cA_ne s), fun _ => ?_⟩)))
  subst e
  have hv : 0 ≤ nI s ∧ nI s ≤ h 200 1 - 1 := by rw [hS.1.2.1, ni_valid (by omega)]; exact ⟨s, hs, rfl⟩
  obtain ⟨-, hS', -⟩ := hS.2.2 s hs
  have ht := hS'.2.1
  simp only [pf_b_0, Classical.not_not]
  refine ⟨fun c2 => pv_jqi ⟨fun _ => ⟨rfl, rfl⟩, fun q => absurd q.2.1 c2⟩, fun c2 => ⟨fun c3 => pv_jqi ⟨fun _ => ⟨rfl, rfl⟩, fun q => absurd q.2.2.1 c3⟩, fun c3 => ⟨fun c4 => ?_, fun c4 => pv_jqi ⟨fun _ => ⟨rfl, rfl⟩, fun q => absurd q.2.2.2 c4⟩⟩⟩⟩
  refine ⟨ht, fun h2 e2 => ⟨ht, fun h3 e3 => ⟨ht, fun h4 e4 => pv_jqi ⟨fun q => absurd ⟨hv, c2, c3, c4⟩ q, fun _ => ⟨rfl, fun s' hs' e => ?_⟩⟩⟩⟩⟩
  have := (nI_eq (by omega) (by omega)).mp e
  rw [← this, e4, e3, e2]
/-- wheels() -/
def fo_wheels (h : pv_H) (T : Nat) (x y z : Int32) : Prop := (0 ≤ x ∧ x ≤ h 200 1 - 1) ∧ (0 ≤ y ∧ y ≤ nI T) ∧ (-1 ≤ z ∧ z ≤ 9999)
theorem ct_X12_wheels (hd : 2 ≤ d) (hL : pv_Lay ty r) (hS : mStreets h ns) (hM : mYr h T) {x y z : Int32} : pv_CJ Γ d mX12_wheels [.ref 200, .int x, .int y, .int z] ty h r g (fun w h' => (¬ fo_wheels h T x y z → w = -1 ∧ h' = h) ∧ (fo_wheels h T x y z → w = 1 ∧ ∀ s Y, s < ns → Y ≤ T → x = nI s → y = nI Y → h' = pv_up (pv_up h 320 (31 * s + Y) (if z < 0 then 0 else 1)) 321 (31 * s + Y) z)) := by
  have h8 := hS.1
  have hT := hM.1
  refine pv_fn 0 pn_X12 rfl (Nat.le_of_ble_eq_true rfl) (sg_X12_wheels_0 x y z (by omega) hL ?_)
  simp only [pf_b_0, Classical.not_not]
  rw [hM.2.1]
  refine ⟨fun c1 => pv_jqi ⟨fun _ => ⟨rfl, rfl⟩, fun q => absurd q.1 c1⟩, fun c1 => ⟨fun c2 => pv_jqi ⟨fun _ => ⟨rfl, rfl⟩, fun q => absurd q.2.1 c2⟩, fun c2 => ⟨fun c3 => ?_, fun c3 => pv_jqi ⟨fun _ => ⟨rfl, rfl⟩, fun q => absurd q.2.2 c3⟩⟩⟩⟩
  have hok : fo_wheels h T x y z := ⟨c1, c2, c3⟩
  rw [hS.2.1, ni_valid (by omega)] at c1
  obtain ⟨s, hs, rfl⟩ := c1
  obtain ⟨Y, hY, rfl⟩ := nI_of (Int32.not_lt.mpr c2.1)
  have hYT := (nI_leI hY (by omega)).mp c2.2
  rw [ni_31, nI_clamp (by omega)]
  have hv : vp_in (nI (31 * s + Y)) 248 := vp_in_nI (by omega) (by decide)
  have fin : ∀ s' Y', s' < ns → Y' ≤ T → nI s = nI s' → nI Y = nI Y' → s' = s ∧ Y' = Y := fun s' Y' a1 a2 a3 a4 => ⟨((nI_eq (by omega) (by omega)).mp a3).symm, ((nI_eq (by omega) (by omega)).mp a4).symm⟩
  refine ⟨fun c4 => ⟨hv, fun h1 e1 => ⟨hv, fun h2 e2 => pv_jqi ⟨fun q => absurd hok q, fun _ => ⟨rfl, fun s' Y' a1 a2 a3 a4 => ?_⟩⟩⟩⟩, fun c4 => ⟨hv, fun h1 e1 => ⟨hv, fun h2 e2 => pv_jqi ⟨fun q => absurd hok q, fun _ => ⟨rfl, fun s' Y' a1 a2 a3 a4 => ?_⟩⟩⟩⟩⟩
  · obtain ⟨b1, b2⟩ := fin s' Y' a1 a2 a3 a4
    rw [b1, b2, if_pos c4, e2, e1]; rfl
  · obtain ⟨b1, b2⟩ := fin s' Y' a1 a2 a3 a4
    rw [b1, b2, if_neg c4, e2, e1]; rfl
theorem ct_X11_wheels (hd : 1 ≤ d) (hL : pv_Lay ty r) (hS : cpS ty h r ns) (hI : cpY h ns T) {x y z : Int32} : pv_CJ Γ d mX11_wheels [.ref 100, .int x, .int y, .int z] ty h r g (fun w h' => (¬ fo_wheels h T x y z → w = -1 ∧ h' = h) ∧ (fo_wheels h T x y z → w = 1 ∧ ∀ s Y, s < ns → Y ≤ T → x = nI s → y = nI Y → h' = pv_up h (cA s + 3) Y z)) := by
  have h8 := hS.1.1
  have hT := hI.1.1
  refine pv_fn 1 pn_X11 rfl (Nat.le_of_ble_eq_true rfl) (sg_X11_wheels_0 x y z (by omega) hL (ct_find hL hS (fun hf => ⟨_, rfl, hL, fun _ => pv_jqi ⟨fun _ => ⟨rfl, rfl⟩, fun q => absurd q.1 hf⟩, fun q => absurd rfl q⟩) (fun s hs e => ⟨_, rfl, hL, fun q => absurd q (cA_ne s), fun _ => ?_⟩)))
  subst e
  have hv : 0 ≤ nI s ∧ nI s ≤ h 200 1 - 1 := by rw [hS.1.2.1, ni_valid (by omega)]; exact ⟨s, hs, rfl⟩
  obtain ⟨-, hS', -⟩ := hS.2.2 s hs
  have ht := hS'.2.1
  have h4 := hS'.2.2.2.2.2.2.1.2.2
  have h5 := hS'.2.2.2.2.2.2.2.1.2.2
  simp only [pf_b_0, Classical.not_not]
  rw [hI.2.1, h4]
  refine ⟨fun c2 => pv_jqi ⟨fun _ => ⟨rfl, rfl⟩, fun q => absurd q.2.1 c2⟩, fun c2 => ⟨fun c3 => ?_, fun c3 => pv_jqi ⟨fun _ => ⟨rfl, rfl⟩, fun q => absurd q.2.2 c3⟩⟩⟩
  have hok : fo_wheels h T (nI s) y z := ⟨hv, c2, c3⟩
  obtain ⟨Y, hY, rfl⟩ := nI_of (Int32.not_lt.mpr c2.1)
  have hYT := (nI_leI hY (by omega)).mp c2.2
  rw [nI_clamp (by omega)]
  refine ⟨ht, ⟨31, h5, vp_in_nI (by omega) (by decide)⟩, by show 10 ≤ 1000 + 4 * s + 3; omega, fun h2 e2 => pv_jqi ⟨fun q => absurd hok q, fun _ => ⟨rfl, fun s' Y' a1 a2 a3 a4 => ?_⟩⟩⟩
  have b1 := (nI_eq (by omega) (by omega)).mp a3
  have b2 := (nI_eq (by omega) (by omega)).mp a4
  rw [← b1, ← b2]; exact e2
end WK
