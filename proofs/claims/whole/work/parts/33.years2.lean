/-! wear, pave: both sides -/
/-- the years of both sides, THIS YEAR being T -/
def mYr (h : pv_H) (T : Nat) : Prop := T ≤ 30 ∧ h 200 19 = nI T ∧ ∀ s, s < 8 → (∀ y, y < 31 → (h 320 (31 * s + y) = 0 ∨ h 320 (31 * s + y) = 1) ∧ (¬ h 320 (31 * s + y) = 0 → ¬ h 321 (31 * s + y) = -1)) ∧ ∃ p, p ≤ T ∧ h 322 s = nI p
def cpY (h : pv_H) (ns T : Nat) : Prop := mYr h T ∧ h 100 5 = nI T ∧ ∀ s, s < ns → (∀ y, y < 31 → h (cA s + 3) y = wT h s y) ∧ h (cA s) 5 = h 322 s ∧ h (cA s) 6 = h 323 s ∧ h (cA s) 7 = h 324 s ∧ h (cA s) 8 = h 325 s
/-- wear of street s at year Y, by the reference's cells -/
def mWear (h : pv_H) (s Y : Nat) : Int32 := wr_s (wT h s) (mn_v (wT h s) (h 200 19).toNatClampNeg) (h 322 s).toNatClampNeg (Y - (h 322 s).toNatClampNeg)
def fn_wear (h : pv_H) (x y : Int32) : Int32 := if (0 ≤ x ∧ x ≤ h 200 1 - 1) ∧ (0 ≤ y ∧ y ≤ 40) then mWear h x.toNatClampNeg y.toNatClampNeg else -1
set_option maxRecDepth 20000 in
set_option maxHeartbeats 4000000 in
theorem sg_X12_wear_0 {Γ : pv_C} {d kc ks : Nat} {ty : pv_T} {h : pv_H} {r : pv_R} {g : pv_G} {Q : pv_Q} (x : Int32) (y : Int32) (hd : 2 ≤ d) (hL : pv_Lay ty r) (F : (((pf_b (0 ≤ x ∧ x ≤ h 200 1 - 1)) = 0 → Q (some (.int (-1))) ty h r g) ∧ (¬ (pf_b (0 ≤ x ∧ x ≤ h 200 1 - 1)) = 0 → (((pf_b (0 ≤ y ∧ y ≤ 40)) = 0 → Q (some (.int (-1))) ty h r g) ∧ (¬ (pf_b (0 ≤ y ∧ y ≤ 40)) = 0 → pv_CT Γ (d - 1) 0 0 mX12_wearOf [.ref 200, .int x, .int y] ty h r g (fun (v1 : Option Value) (ty1 : pv_T) (h1 : pv_H) (r1 : pv_R) (g1 : pv_G) => ∃ w1 : Int32, v1 = some (.int w1) ∧ pv_Lay ty1 r1 ∧ Q (some (.int w1)) ty1 h1 r1 g1)))))) : pv_E Γ d kc ks mX12_wear 0 [some (.ref 200), some (.int x), some (.int y)] [] ty h r g Q := by
  refine pv_aload_n dX12_wear_0 rfl ?_
  refine pv_iload_n dX12_wear_1 rfl ?_
  refine pv_invV (As := [.int x]) (d' := d - 1) dX12_wear_2 moX12_isStreet ml_X12_168 (lt_200 hL) (Or.inl ⟨_, rfl, rfl⟩) (Nat.le_of_ble_eq_true rfl) (by omega) (Nat.zero_le _) (Nat.zero_le _) (ct_X12_isStreet (by omega) hL) (fun v ty' h' r' g' hq => ?_) rfl
  obtain ⟨e1, e2, e3, e4, e5⟩ := hq
  rw [e1, e2, e3, e4, e5]
  refine pv_pc (pc' := 5) rfl ?_
  show pv_E Γ d kc ks mX12_wear 5 [some (.ref 200), some (.int x), some (.int y)] [.int (pf_b (0 ≤ x ∧ x ≤ h 200 1 - 1))] ty h r g Q
  refine pv_if_eq (tgt := 27) dX12_wear_5 (by decide) (fun c1 => ?_) (fun c1 => ?_)
  · have F := F.1 c1
    refine pv_iconst (v := (-1)) (by decide) dX12_wear_27 ?_
    exact pv_ireturn dX12_wear_28 rfl rfl F
  · have F := F.2 c1
    refine pv_iload_n dX12_wear_8 rfl ?_
    refine pv_iconst (v := 0) (by decide) dX12_wear_9 ?_
    refine pv_bipush (v := 40) (by decide) dX12_wear_10 ?_
    refine pv_invS (As := [.int y, .int 0, .int 40]) (d' := d - 1) dX12_wear_12 moX12_in ml_X12_164 (Nat.le_of_ble_eq_true rfl) (by omega) (Nat.zero_le _) (Nat.zero_le _) (ct_X12_in (by omega)) (fun v ty' h' r' g' hq => ?_) rfl
    obtain ⟨e1, e2, e3, e4, e5⟩ := hq
    rw [e1, e2, e3, e4, e5]
    refine pv_pc (pc' := 15) rfl ?_
    show pv_E Γ d kc ks mX12_wear 15 [some (.ref 200), some (.int x), some (.int y)] [.int (pf_b (0 ≤ y ∧ y ≤ 40))] ty h r g Q
    refine pv_if_eq (tgt := 27) dX12_wear_15 (by decide) (fun c2 => ?_) (fun c2 => ?_)
    · have F := F.1 c2
      refine pv_iconst (v := (-1)) (by decide) dX12_wear_27 ?_
      exact pv_ireturn dX12_wear_28 rfl rfl F
    · have F := F.2 c2
      refine pv_aload_n dX12_wear_18 rfl ?_
      refine pv_iload_n dX12_wear_19 rfl ?_
      refine pv_iload_n dX12_wear_20 rfl ?_
      refine pv_invV (As := [.int x, .int y]) (d' := d - 1) dX12_wear_21 moX12_wearOf ml_X12_217 (lt_200 hL) (Or.inl ⟨_, rfl, rfl⟩) (Nat.le_of_ble_eq_true rfl) (by omega) (Nat.zero_le _) (Nat.zero_le _) F (fun v1 ty1 h1 r1 g1 F => ?_) rfl
      obtain ⟨w1, rfl, F⟩ := F
      obtain ⟨hL1, F⟩ := F
      refine pv_pc (pc' := 24) rfl ?_
      show pv_E Γ d kc ks mX12_wear 24 [some (.ref 200), some (.int x), some (.int y)] [.int w1] ty1 h1 r1 g1 Q
      refine pv_goto (tgt := 28) dX12_wear_24 (by decide) ?_
      exact pv_ireturn dX12_wear_28 rfl rfl F
set_option maxRecDepth 20000 in
set_option maxHeartbeats 4000000 in
theorem sg_X12_pave_0 {Γ : pv_C} {d kc ks : Nat} {ty : pv_T} {h : pv_H} {r : pv_R} {g : pv_G} {Q : pv_Q} (x : Int32) (hd : 2 ≤ d) (hL : pv_Lay ty r) (F : ((¬ (pf_b (0 ≤ x ∧ x ≤ h 200 1 - 1)) = 0 → pv_CT Γ (d - 1) 0 0 mX12_wearOf [.ref 200, .int x, .int (h 200 19)] ty h r g (fun (v1 : Option Value) (ty1 : pv_T) (h1 : pv_H) (r1 : pv_R) (g1 : pv_G) => ∃ w1 : Int32, v1 = some (.int w1) ∧ pv_Lay ty1 r1 ∧ vp_in x 8 ∧ (∀ h2 : pv_H, h2 = pv_up h1 322 (Int32.toNatClampNeg x) (h1 200 19) → Q (some (.int w1)) ty1 h2 r1 g1))) ∧ ((pf_b (0 ≤ x ∧ x ≤ h 200 1 - 1)) = 0 → Q (some (.int (-1))) ty h r g))) : pv_E Γ d kc ks mX12_pave 0 [some (.ref 200), some (.int x), none] [] ty h r g Q := by
  refine pv_aload_n dX12_pave_0 rfl ?_
  refine pv_iload_n dX12_pave_1 rfl ?_
  refine pv_invV (As := [.int x]) (d' := d - 1) dX12_pave_2 moX12_isStreet ml_X12_168 (lt_200 hL) (Or.inl ⟨_, rfl, rfl⟩) (Nat.le_of_ble_eq_true rfl) (by omega) (Nat.zero_le _) (Nat.zero_le _) (ct_X12_isStreet (by omega) hL) (fun v ty' h' r' g' hq => ?_) rfl
  obtain ⟨e1, e2, e3, e4, e5⟩ := hq
  rw [e1, e2, e3, e4, e5]
  refine pv_pc (pc' := 5) rfl ?_
  show pv_E Γ d kc ks mX12_pave 5 [some (.ref 200), some (.int x), none] [.int (pf_b (0 ≤ x ∧ x ≤ h 200 1 - 1))] ty h r g Q
  refine pv_if_ne (tgt := 10) dX12_pave_5 (by decide) (fun c1 => ?_) (fun c1 => ?_)
  · have F := F.1 c1
    refine pv_aload_n dX12_pave_10 rfl ?_
    refine pv_iload_n dX12_pave_11 rfl ?_
    refine pv_aload_n dX12_pave_12 rfl ?_
    refine pv_getI 12 19 dX12_pave_13 fl_X12_211 rfl (lt_200 hL) ?_
    refine pv_invV (As := [.int x, .int (h 200 19)]) (d' := d - 1) dX12_pave_16 moX12_wearOf ml_X12_217 (lt_200 hL) (Or.inl ⟨_, rfl, rfl⟩) (Nat.le_of_ble_eq_true rfl) (by omega) (Nat.zero_le _) (Nat.zero_le _) F (fun v1 ty1 h1 r1 g1 F => ?_) rfl
    obtain ⟨w1, rfl, F⟩ := F
    obtain ⟨hL1, F⟩ := F
    refine pv_pc (pc' := 19) rfl ?_
    show pv_E Γ d kc ks mX12_pave 19 [some (.ref 200), some (.int x), none] [.int w1] ty1 h1 r1 g1 Q
    refine pv_istore_n (ls' := [some (.ref 200), some (.int x), some (.int w1)]) dX12_pave_19 (by decide) rfl rfl ?_
    refine pv_aload_n dX12_pave_20 rfl ?_
    refine pv_getRk 12 22 dX12_pave_21 fl_X12_60 rfl (lt_200 hL1) (lr_200_22 hL1) ?_
    refine pv_iload_n dX12_pave_24 rfl ?_
    refine pv_aload_n dX12_pave_25 rfl ?_
    refine pv_getI 12 19 dX12_pave_26 fl_X12_211 rfl (lt_200 hL1) ?_
    refine pv_pc (pc' := 29) rfl ?_
    obtain ⟨q1, F⟩ := F
    obtain ⟨h2, eh2⟩ : ∃ h2 : pv_H, h2 = pv_up h1 322 (Int32.toNatClampNeg x) (h1 200 19) := ⟨_, rfl⟩
    have F := F h2 eh2
    refine pv_iast dX12_pave_29 (lt_322 hL1) (by decide) q1 ?_
    refine pv_hE eh2 ?_
    refine pv_iload_n dX12_pave_30 rfl ?_
    exact pv_ireturn dX12_pave_31 rfl rfl F
  · have F := F.2 c1
    refine pv_iconst (v := (-1)) (by decide) dX12_pave_8 ?_
    exact pv_ireturn dX12_pave_9 rfl rfl F
set_option maxRecDepth 20000 in
set_option maxHeartbeats 4000000 in
theorem sg_X11_wear_0 {Γ : pv_C} {d kc ks : Nat} {ty : pv_T} {h : pv_H} {r : pv_R} {g : pv_G} {Q : pv_Q} (x : Int32) (y : Int32) (hd : 1 ≤ d) (hL : pv_Lay ty r) (F : pv_CT Γ (d - 1) 0 0 mX11_findStreet [.ref 100, .int x] ty h r g (fun (v1 : Option Value) (ty1 : pv_T) (h1 : pv_H) (r1 : pv_R) (g1 : pv_G) => ∃ w1 : Nat, v1 = some (.ref w1) ∧ pv_Lay ty1 r1 ∧ ((w1 = 0 → Q (some (.int (-1))) ty1 h1 r1 g1) ∧ (¬ w1 = 0 → ((¬ (pf_b (0 ≤ y ∧ y ≤ 40)) = 0 → ty1 w1 = some (8, 0) ∧ pv_CT Γ (d - 1) 0 0 mX8_wearAt [.ref w1, .int y, .int (h1 100 5)] ty1 h1 r1 g1 (fun (v2 : Option Value) (ty2 : pv_T) (h2 : pv_H) (r2 : pv_R) (g2 : pv_G) => ∃ w2 : Int32, v2 = some (.int w2) ∧ pv_Lay ty2 r2 ∧ Q (some (.int w2)) ty2 h2 r2 g2)) ∧ ((pf_b (0 ≤ y ∧ y ≤ 40)) = 0 → Q (some (.int (-1))) ty1 h1 r1 g1)))))) : pv_E Γ d kc ks mX11_wear 0 [some (.ref 100), some (.int x), some (.int y), none] [] ty h r g Q := by
  refine pv_aload_n dX11_wear_0 rfl ?_
  refine pv_iload_n dX11_wear_1 rfl ?_
  refine pv_invV (As := [.int x]) (d' := d - 1) dX11_wear_2 moX11_findStreet ml_X11_80 (lt_100 hL) (Or.inl ⟨_, rfl, rfl⟩) (Nat.le_of_ble_eq_true rfl) (by omega) (Nat.zero_le _) (Nat.zero_le _) F (fun v1 ty1 h1 r1 g1 F => ?_) rfl
  obtain ⟨w1, rfl, F⟩ := F
  obtain ⟨hL1, F⟩ := F
  refine pv_pc (pc' := 5) rfl ?_
  show pv_E Γ d kc ks mX11_wear 5 [some (.ref 100), some (.int x), some (.int y), none] [.ref w1] ty1 h1 r1 g1 Q
  refine pv_astore_n (ls' := [some (.ref 100), some (.int x), some (.int y), some (.ref w1)]) dX11_wear_5 (by decide) rfl rfl ?_
  refine pv_aload_n dX11_wear_6 rfl ?_
  refine pv_ifnull (tgt := 20) dX11_wear_7 (by decide) (fun c1 => ?_) (fun c1 => ?_)
  · have F := F.1 c1
    refine pv_iconst (v := (-1)) (by decide) dX11_wear_20 ?_
    exact pv_ireturn dX11_wear_21 rfl rfl F
  · have F := F.2 c1
    refine pv_iload_n dX11_wear_10 rfl ?_
    refine pv_iconst (v := 0) (by decide) dX11_wear_11 ?_
    refine pv_bipush (v := 40) (by decide) dX11_wear_12 ?_
    refine pv_invS (As := [.int y, .int 0, .int 40]) (d' := d - 1) dX11_wear_14 moX11_within ml_X11_69 (Nat.le_of_ble_eq_true rfl) (by omega) (Nat.zero_le _) (Nat.zero_le _) (ct_X11_within (by omega)) (fun v ty' h' r' g' hq => ?_) rfl
    obtain ⟨e1, e2, e3, e4, e5⟩ := hq
    rw [e1, e2, e3, e4, e5]
    refine pv_pc (pc' := 17) rfl ?_
    show pv_E Γ d kc ks mX11_wear 17 [some (.ref 100), some (.int x), some (.int y), some (.ref w1)] [.int (pf_b (0 ≤ y ∧ y ≤ 40))] ty1 h1 r1 g1 Q
    refine pv_if_ne (tgt := 22) dX11_wear_17 (by decide) (fun c2 => ?_) (fun c2 => ?_)
    · have F := F.1 c2
      refine pv_aload_n dX11_wear_22 rfl ?_
      refine pv_iload_n dX11_wear_23 rfl ?_
      refine pv_aload_n dX11_wear_24 rfl ?_
      refine pv_getI 11 5 dX11_wear_25 fl_X11_139 rfl (lt_100 hL1) ?_
      obtain ⟨q1, F⟩ := F
      refine pv_invV (As := [.int y, .int (h1 100 5)]) (d' := d - 1) dX11_wear_28 moX8_wearAt ml_X11_145 q1 (Or.inl ⟨_, rfl, rfl⟩) (Nat.le_of_ble_eq_true rfl) (by omega) (Nat.zero_le _) (Nat.zero_le _) F (fun v2 ty2 h2 r2 g2 F => ?_) rfl
      obtain ⟨w2, rfl, F⟩ := F
      obtain ⟨hL2, F⟩ := F
      refine pv_pc (pc' := 31) rfl ?_
      show pv_E Γ d kc ks mX11_wear 31 [some (.ref 100), some (.int x), some (.int y), some (.ref w1)] [.int w2] ty2 h2 r2 g2 Q
      exact pv_ireturn dX11_wear_31 rfl rfl F
    · have F := F.2 c2
      refine pv_iconst (v := (-1)) (by decide) dX11_wear_20 ?_
      exact pv_ireturn dX11_wear_21 rfl rfl F
set_option maxRecDepth 20000 in
set_option maxHeartbeats 4000000 in
theorem sg_X11_pave_0 {Γ : pv_C} {d kc ks : Nat} {ty : pv_T} {h : pv_H} {r : pv_R} {g : pv_G} {Q : pv_Q} (x : Int32) (hd : 1 ≤ d) (hL : pv_Lay ty r) (F : pv_CT Γ (d - 1) 0 0 mX11_findStreet [.ref 100, .int x] ty h r g (fun (v1 : Option Value) (ty1 : pv_T) (h1 : pv_H) (r1 : pv_R) (g1 : pv_G) => ∃ w1 : Nat, v1 = some (.ref w1) ∧ pv_Lay ty1 r1 ∧ ((¬ w1 = 0 → ty1 w1 = some (8, 0) ∧ pv_CT Γ (d - 1) 0 0 mX8_wearAt [.ref w1, .int (h1 100 5), .int (h1 100 5)] ty1 h1 r1 g1 (fun (v2 : Option Value) (ty2 : pv_T) (h2 : pv_H) (r2 : pv_R) (g2 : pv_G) => ∃ w2 : Int32, v2 = some (.int w2) ∧ pv_Lay ty2 r2 ∧ ty2 w1 = some (8, 0) ∧ (∀ h3 : pv_H, h3 = pv_up h2 w1 5 (h2 100 5) → Q (some (.int w2)) ty2 h3 r2 g2))) ∧ (w1 = 0 → Q (some (.int (-1))) ty1 h1 r1 g1)))) : pv_E Γ d kc ks mX11_pave 0 [some (.ref 100), some (.int x), none, none] [] ty h r g Q := by
  refine pv_aload_n dX11_pave_0 rfl ?_
  refine pv_iload_n dX11_pave_1 rfl ?_
  refine pv_invV (As := [.int x]) (d' := d - 1) dX11_pave_2 moX11_findStreet ml_X11_80 (lt_100 hL) (Or.inl ⟨_, rfl, rfl⟩) (Nat.le_of_ble_eq_true rfl) (by omega) (Nat.zero_le _) (Nat.zero_le _) F (fun v1 ty1 h1 r1 g1 F => ?_) rfl
  obtain ⟨w1, rfl, F⟩ := F
  obtain ⟨hL1, F⟩ := F
  refine pv_pc (pc' := 5) rfl ?_
  show pv_E Γ d kc ks mX11_pave 5 [some (.ref 100), some (.int x), none, none] [.ref w1] ty1 h1 r1 g1 Q
  refine pv_astore_n (ls' := [some (.ref 100), some (.int x), some (.ref w1), none]) dX11_pave_5 (by decide) rfl rfl ?_
  refine pv_aload_n dX11_pave_6 rfl ?_
  refine pv_ifnonnull (tgt := 12) dX11_pave_7 (by decide) (fun c1 => ?_) (fun c1 => ?_)
  · have F := F.1 c1
    refine pv_aload_n dX11_pave_12 rfl ?_
    refine pv_aload_n dX11_pave_13 rfl ?_
    refine pv_getI 11 5 dX11_pave_14 fl_X11_139 rfl (lt_100 hL1) ?_
    refine pv_aload_n dX11_pave_17 rfl ?_
    refine pv_getI 11 5 dX11_pave_18 fl_X11_139 rfl (lt_100 hL1) ?_
    obtain ⟨q1, F⟩ := F
    refine pv_invV (As := [.int (h1 100 5), .int (h1 100 5)]) (d' := d - 1) dX11_pave_21 moX8_wearAt ml_X11_145 q1 (Or.inl ⟨_, rfl, rfl⟩) (Nat.le_of_ble_eq_true rfl) (by omega) (Nat.zero_le _) (Nat.zero_le _) F (fun v2 ty2 h2 r2 g2 F => ?_) rfl
    obtain ⟨w2, rfl, F⟩ := F
    obtain ⟨hL2, F⟩ := F
    refine pv_pc (pc' := 24) rfl ?_
    show pv_E Γ d kc ks mX11_pave 24 [some (.ref 100), some (.int x), some (.ref w1), none] [.int w2] ty2 h2 r2 g2 Q
    refine pv_istore_n (ls' := [some (.ref 100), some (.int x), some (.ref w1), some (.int w2)]) dX11_pave_24 (by decide) rfl rfl ?_
    refine pv_aload_n dX11_pave_25 rfl ?_
    refine pv_aload_n dX11_pave_26 rfl ?_
    refine pv_getI 11 5 dX11_pave_27 fl_X11_139 rfl (lt_100 hL2) ?_
    obtain ⟨q2, F⟩ := F
    obtain ⟨h3, eh3⟩ : ∃ h3 : pv_H, h3 = pv_up h2 w1 5 (h2 100 5) := ⟨_, rfl⟩
    have F := F h3 eh3
    refine pv_putI 8 5 dX11_pave_30 fl_X11_148 ⟨_, rfl, Or.inl rfl⟩ (Or.inl rfl) q2 ?_
    refine pv_hE eh3 ?_
    refine pv_iload_n dX11_pave_33 rfl ?_
    exact pv_ireturn dX11_pave_34 rfl rfl F
  · have F := F.2 c1
    refine pv_iconst (v := (-1)) (by decide) dX11_pave_10 ?_
    exact pv_ireturn dX11_pave_11 rfl rfl F
section WG
variable {Γ : pv_C} {d : Nat} {ty : pv_T} {h : pv_H} {r : pv_R} {g : pv_G} {ns T : Nat}
theorem ct_mwear (hd : 1 ≤ d) (hL : pv_Lay ty r) (hM : mYr h T) {s Y : Nat} (hs : s < 8) (hY : Y < 1000) {K : pv_Q} (hK : K (some (.int (mWear h s Y))) ty h r g) : pv_CT Γ d 0 0 mX12_wearOf [.ref 200, .int (nI s), .int (nI Y)] ty h r g K := by
  obtain ⟨hT, hn, hq⟩ := hM
  obtain ⟨h1, p, hp, hpv⟩ := hq s hs
  refine pv_CT.use (ct_X12_wearOf hd hL hs hT hn (fun y hy => (h1 y hy).2) hY (by omega) hpv) ?_
  unfold mWear at hK
  rw [hn, hpv, nI_clamp (by omega), nI_clamp (by omega)] at hK
  exact hK
theorem ct_cwear (hd : 1 ≤ d) (hS : cpS ty h r ns) (hI : cpY h ns T) {s Y : Nat} (hs : s < ns) (hY : Y < 1000) {K : pv_Q} (hK : K (some (.int (mWear h s Y))) ty h r g) : pv_CT Γ d 0 0 mX8_wearAt [.ref (cA s), .int (nI Y), .int (nI T)] ty h r g K := by
  obtain ⟨⟨hT, hn, hq⟩, hc, hr⟩ := hI
  have h8 := hS.1.1
  obtain ⟨h1, p, hp, hpv⟩ := hq s (by omega)
  obtain ⟨r1, r2, -⟩ := hr s hs
  obtain ⟨-, hS', -⟩ := hS.2.2 s hs
  have ha := hS'.2.1
  have h4 := hS'.2.2.2.2.2.2.1.2.2
  have ht := hS'.2.2.2.2.2.2.2.1.2.2
  refine pv_CT.use (ct_X8_wearAt hd ha h4 ht hT hY (by omega) (r2.trans hpv)) ?_
  unfold mWear at hK
  rw [hn, hpv, nI_clamp (by omega), nI_clamp (by omega)] at hK
  rw [wr_s_c (f := h (cA s + 3)) (f' := wT h s) r1, mn_v_c (f := h (cA s + 3)) (f' := wT h s) (n := T) (fun k hk => r1 k (by omega))]
  exact hK
theorem ct_X12_wear (hd : 3 ≤ d) (hL : pv_Lay ty r) (hS : mStreets h ns) (hM : mYr h T) {x y : Int32} : pv_CT Γ d 0 0 mX12_wear [.ref 200, .int x, .int y] ty h r g (pv_is (.int (fn_wear h x y)) ty h r g) := by
  refine pv_fn 0 pn_X12 rfl (Nat.le_of_ble_eq_true rfl) (sg_X12_wear_0 x y (by omega) hL ?_)
  simp only [pf_b_0, Classical.not_not]
  have h8 := hS.1
  have kf : ¬ ((0 ≤ x ∧ x ≤ h 200 1 - 1) ∧ (0 ≤ y ∧ y ≤ 40)) → pv_is (.int (fn_wear h x y)) ty h r g (some (.int (-1))) ty h r g := fun q => by
    unfold fn_wear
    rw [if_neg q]
    exact pv_is_refl _ _ _ _ _
  have kt : (0 ≤ x ∧ x ≤ h 200 1 - 1) → (0 ≤ y ∧ y ≤ 40) → ∃ s Y, s < 8 ∧ Y < 1000 ∧ x = nI s ∧ y = nI Y ∧ fn_wear h x y = mWear h s Y := fun q1 q2 => by
    have q1' := q1
    rw [hS.2.1, ni_valid (by omega)] at q1
    obtain ⟨s, h1, rfl⟩ := q1
    obtain ⟨Y, h2, rfl⟩ := nI_of (Int32.not_lt.mpr q2.1)
    have h3 := (nI_leI (b := 40) h2 (by decide)).mp q2.2
    refine ⟨s, Y, by omega, by omega, rfl, rfl, ?_⟩
    unfold fn_wear
    rw [if_pos ⟨q1', q2⟩, nI_clamp (by omega), nI_clamp h2]
  refine ⟨fun c1 => kf (fun q => c1 q.1), fun c1 => ⟨fun c2 => kf (fun q => c2 q.2), fun c2 => ?_⟩⟩
  obtain ⟨s, Y, hs, hY, rfl, rfl, e⟩ := kt c1 c2
  rw [e]
  exact ct_mwear (by omega) hL hM hs hY ⟨_, rfl, hL, pv_is_refl _ _ _ _ _⟩
end WG
