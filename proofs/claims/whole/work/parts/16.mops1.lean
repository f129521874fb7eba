/-! the reference's public calls on heights -/
theorem pv_CT.use {Γ : pv_C} {d : Nat} {N : pv_M} {As : List Value} {ty : pv_T} {h : pv_H} {r : pv_R} {g : pv_G} {v : Value} {K : pv_Q} (k : pv_CT Γ d 0 0 N As ty h r g (pv_is v ty h r g)) (hK : K (some v) ty h r g) : pv_CT Γ d 0 0 N As ty h r g K :=
  pv_CT.mono k (fun v ty' h' r' g' q => by
    obtain ⟨e1, e2, e3, e4, e5⟩ := q
    rw [e1, e2, e3, e4, e5]
    exact hK)
abbrev mR (h : pv_H) (s : Nat) : Nat := (h 302 s).toNatClampNeg
abbrev mC (h : pv_H) (s : Nat) : Nat := (h 303 s).toNatClampNeg
def mStreets (h : pv_H) (ns : Nat) : Prop := ns ≤ 8 ∧ h 200 1 = nI ns ∧ ∀ s, s < ns → mStr h s (mR h s) (mC h s)
theorem ni_valid {x : Int32} {n : Nat} (hn : n < 2 ^ 30) : (0 ≤ x ∧ x ≤ nI n - 1) ↔ ∃ s, s < n ∧ x = nI s := by
  constructor
  · rintro ⟨h0, h1⟩
    obtain ⟨s, hs, rfl⟩ := nI_of (Int32.not_lt.mpr h0)
    refine ⟨s, ?_, rfl⟩
    cases n with
    | zero =>
      have := Int32.le_trans h0 h1
      exact absurd this (by decide)
    | succ n =>
      rw [nI_pred, nI_leI hs (by omega)] at h1
      omega
  · rintro ⟨s, hs, rfl⟩
    refine ⟨nI_pos' (by omega), ?_⟩
    rw [ni_m1 (by omega), nI_leI (by omega) (by omega)]
    omega
theorem ni_b8 {ns : Nat} {x : Int32} (h : x = nI ns) (hn : ns ≤ 8) : 0 ≤ x ∧ x ≤ 8 := by
  rw [h]
  exact ⟨nI_pos' (by omega), (nI_leI (b := 8) (by omega) (by decide)).mpr hn⟩
theorem mSq {h : pv_H} {ns : Nat} (hM : mStreets h ns) {x y z : Int32} : pf_sq h x y z ↔ ∃ s a c, s < ns ∧ a < mR h s ∧ c < mC h s ∧ x = nI s ∧ y = nI a ∧ z = nI c := by
  obtain ⟨h8, hn, hs⟩ := hM
  unfold pf_sq
  rw [hn, ni_valid (by omega)]
  constructor
  · rintro ⟨⟨s, h1, rfl⟩, h2, h3⟩
    have hS := hs s h1
    rw [nI_clamp (by omega)] at h2 h3
    rw [hS.2.1, ni_valid (by have := hS.2.2.2.1; omega)] at h2
    rw [hS.2.2.1, ni_valid (by have := hS.2.2.2.2.1; omega)] at h3
    obtain ⟨a, ha, rfl⟩ := h2
    obtain ⟨c, hc, rfl⟩ := h3
    exact ⟨s, a, c, h1, ha, hc, rfl, rfl, rfl⟩
  · rintro ⟨s, a, c, h1, ha, hc, rfl, rfl, rfl⟩
    have hS := hs s h1
    refine ⟨⟨s, h1, rfl⟩, ?_, ?_⟩
    · rw [nI_clamp (by omega), hS.2.1, ni_valid (by have := hS.2.2.2.1; omega)]
      exact ⟨a, ha, rfl⟩
    · rw [nI_clamp (by omega), hS.2.2.1, ni_valid (by have := hS.2.2.2.2.1; omega)]
      exact ⟨c, hc, rfl⟩
set_option maxRecDepth 20000 in
set_option maxHeartbeats 4000000 in
theorem sg_X12_isDrain_0 {Γ : pv_C} {d kc ks : Nat} {ty : pv_T} {h : pv_H} {r : pv_R} {g : pv_G} {Q : pv_Q} (x : Int32) (y : Int32) (hd : 1 ≤ d) (hL : pv_Lay ty r) (F : vp_in (144 * x + 9 * (y / 16) + (y - y / 16 * 16)) 1152 ∧ (narrow .boolean (.int (h 305 (Int32.toNatClampNeg (144 * x + 9 * (y / 16) + (y - y / 16 * 16))))) = .int (h 305 (Int32.toNatClampNeg (144 * x + 9 * (y / 16) + (y - y / 16 * 16)))) ∧ Q (some (.int (h 305 (Int32.toNatClampNeg (144 * x + 9 * (y / 16) + (y - y / 16 * 16)))))) ty h r g)) : pv_E Γ d kc ks mX12_isDrain 0 [some (.ref 200), some (.int x), some (.int y)] [] ty h r g Q := by
  refine pv_aload_n dX12_isDrain_0 rfl ?_
  refine pv_getRk 12 5 dX12_isDrain_1 fl_X12_19 rfl (lt_200 hL) (lr_200_5 hL) ?_
  refine pv_iload_n dX12_isDrain_4 rfl ?_
  refine pv_iload_n dX12_isDrain_5 rfl ?_
  refine pv_bipush (v := 16) (by decide) dX12_isDrain_6 ?_
  refine pv_idiv (by decide) dX12_isDrain_8 ?_
  refine pv_pc (pc' := 9) rfl ?_
  refine pv_iload_n dX12_isDrain_9 rfl ?_
  refine pv_bipush (v := 16) (by decide) dX12_isDrain_10 ?_
  refine pv_irem (by decide) dX12_isDrain_12 ?_
  refine pv_invS (As := [.int x, .int (y / 16), .int (y - y / 16 * 16)]) (d' := d - 1) dX12_isDrain_13 moX12_place ml_X12_175 (Nat.le_of_ble_eq_true rfl) (by omega) (Nat.zero_le _) (Nat.zero_le _) (ct_X12_place (by omega)) (fun v ty' h' r' g' hq => ?_) rfl
  obtain ⟨e1, e2, e3, e4, e5⟩ := hq
  rw [e1, e2, e3, e4, e5]
  refine pv_pc (pc' := 16) rfl ?_
  show pv_E Γ d kc ks mX12_isDrain 16 [some (.ref 200), some (.int x), some (.int y)] [.int (144 * x + 9 * (y / 16) + (y - y / 16 * 16)), .ref 305] ty h r g Q
  obtain ⟨q1, F⟩ := F
  refine pv_zald dX12_isDrain_16 (lt_305 hL) q1 ?_
  exact pv_ireturn dX12_isDrain_17 rfl F.1 F.2
set_option maxRecDepth 20000 in
set_option maxHeartbeats 4000000 in
theorem sg_X12_water_0 {Γ : pv_C} {d kc ks : Nat} {ty : pv_T} {h : pv_H} {r : pv_R} {g : pv_G} {Q : pv_Q} (x : Int32) (y : Int32) (z : Int32) (hd : 3 ≤ d) (hL : pv_Lay ty r) (F : (0 ≤ h 200 1 ∧ h 200 1 ≤ 8) ∧ ((¬ (pf_b (pf_sq h x y z)) = 0 → pv_CT Γ (d - 1) 0 0 mX12_comesTo [.ref 200, .int x, .int y, .int z] ty h r g (fun (v1 : Option Value) (ty1 : pv_T) (h1 : pv_H) (r1 : pv_R) (g1 : pv_G) => ∃ w1 : Int32, v1 = some (.int w1) ∧ pv_Lay ty1 r1 ∧ pv_CT Γ (d - 1) 0 0 mX12_isDrain [.ref 200, .int x, .int w1] ty1 h1 r1 g1 (fun (v2 : Option Value) (ty2 : pv_T) (h2 : pv_H) (r2 : pv_R) (g2 : pv_G) => ∃ w2 : Int32, v2 = some (.int w2) ∧ pv_Lay ty2 r2 ∧ ((w2 = 0 → Q (some (.int (w1 + 0))) ty2 h2 r2 g2) ∧ (¬ w2 = 0 → Q (some (.int (w1 + 1000))) ty2 h2 r2 g2))))) ∧ ((pf_b (pf_sq h x y z)) = 0 → Q (some (.int (-1))) ty h r g))) : pv_E Γ d kc ks mX12_water 0 [some (.ref 200), some (.int x), some (.int y), some (.int z), none] [] ty h r g Q := by
  refine pv_aload_n dX12_water_0 rfl ?_
  refine pv_iload_n dX12_water_1 rfl ?_
  refine pv_iload_n dX12_water_2 rfl ?_
  refine pv_iload_n dX12_water_3 rfl ?_
  obtain ⟨q1, F⟩ := F
  refine pv_invV (As := [.int x, .int y, .int z]) (d' := d - 1) dX12_water_4 moX12_isSquare ml_X12_172 (lt_200 hL) (Or.inl ⟨_, rfl, rfl⟩) (Nat.le_of_ble_eq_true rfl) (by omega) (Nat.zero_le _) (Nat.zero_le _) (ct_X12_isSquare (by omega) hL q1) (fun v ty' h' r' g' hq => ?_) rfl
  obtain ⟨e1, e2, e3, e4, e5⟩ := hq
  rw [e1, e2, e3, e4, e5]
  refine pv_pc (pc' := 7) rfl ?_
  show pv_E Γ d kc ks mX12_water 7 [some (.ref 200), some (.int x), some (.int y), some (.int z), none] [.int (pf_b (pf_sq h x y z))] ty h r g Q
  refine pv_if_ne (tgt := 12) dX12_water_7 (by decide) (fun c1 => ?_) (fun c1 => ?_)
  · have F := F.1 c1
    refine pv_aload_n dX12_water_12 rfl ?_
    refine pv_iload_n dX12_water_13 rfl ?_
    refine pv_iload_n dX12_water_14 rfl ?_
    refine pv_iload_n dX12_water_15 rfl ?_
    refine pv_invV (As := [.int x, .int y, .int z]) (d' := d - 1) dX12_water_16 moX12_comesTo ml_X12_182 (lt_200 hL) (Or.inl ⟨_, rfl, rfl⟩) (Nat.le_of_ble_eq_true rfl) (by omega) (Nat.zero_le _) (Nat.zero_le _) F (fun v1 ty1 h1 r1 g1 F => ?_) rfl
    obtain ⟨w1, rfl, F⟩ := F
    obtain ⟨hL1, F⟩ := F
    refine pv_pc (pc' := 19) rfl ?_
    show pv_E Γ d kc ks mX12_water 19 [some (.ref 200), some (.int x), some (.int y), some (.int z), none] [.int w1] ty1 h1 r1 g1 Q
    refine pv_istore (ls' := [some (.ref 200), some (.int x), some (.int y), some (.int z), some (.int w1)]) dX12_water_19 (by decide) rfl rfl ?_
    refine pv_iload dX12_water_21 rfl ?_
    refine pv_aload_n dX12_water_23 rfl ?_
    refine pv_iload_n dX12_water_24 rfl ?_
    refine pv_iload dX12_water_25 rfl ?_
    refine pv_invV (As := [.int x, .int w1]) (d' := d - 1) dX12_water_27 moX12_isDrain ml_X12_185 (lt_200 hL1) (Or.inl ⟨_, rfl, rfl⟩) (Nat.le_of_ble_eq_true rfl) (by omega) (Nat.zero_le _) (Nat.zero_le _) F (fun v2 ty2 h2 r2 g2 F => ?_) rfl
    obtain ⟨w2, rfl, F⟩ := F
    obtain ⟨hL2, F⟩ := F
    refine pv_pc (pc' := 30) rfl ?_
    show pv_E Γ d kc ks mX12_water 30 [some (.ref 200), some (.int x), some (.int y), some (.int z), some (.int w1)] [.int w2, .int w1] ty2 h2 r2 g2 Q
    refine pv_if_eq (tgt := 39) dX12_water_30 (by decide) (fun c2 => ?_) (fun c2 => ?_)
    · have F := F.1 c2
      refine pv_iconst (v := 0) (by decide) dX12_water_39 ?_
      refine pv_iadd dX12_water_40 ?_
      exact pv_ireturn dX12_water_41 rfl rfl F
    · have F := F.2 c2
      refine pv_sipush (v := 1000) (by decide) dX12_water_33 ?_
      refine pv_goto (tgt := 40) dX12_water_36 (by decide) ?_
      refine pv_iadd dX12_water_40 ?_
      exact pv_ireturn dX12_water_41 rfl rfl F
  · have F := F.2 c1
    refine pv_iconst (v := (-1)) (by decide) dX12_water_10 ?_
    exact pv_ireturn dX12_water_11 rfl rfl F
set_option maxRecDepth 20000 in
set_option maxHeartbeats 4000000 in
theorem sg_X12_read_0 {Γ : pv_C} {d kc ks : Nat} {ty : pv_T} {h : pv_H} {r : pv_R} {g : pv_G} {Q : pv_Q} (x : Int32) (y : Int32) (z : Int32) (hd : 3 ≤ d) (hL : pv_Lay ty r) (F : (0 ≤ h 200 1 ∧ h 200 1 ≤ 8) ∧ (((pf_b (pf_sq h x y z)) = 0 → Q (some (.int (-1))) ty h r g) ∧ (¬ (pf_b (pf_sq h x y z)) = 0 → vp_in (144 * x + 9 * y + z) 1152 ∧ Q (some (.int (h 304 (Int32.toNatClampNeg (144 * x + 9 * y + z))))) ty h r g))) : pv_E Γ d kc ks mX12_read 0 [some (.ref 200), some (.int x), some (.int y), some (.int z)] [] ty h r g Q := by
  refine pv_aload_n dX12_read_0 rfl ?_
  refine pv_iload_n dX12_read_1 rfl ?_
  refine pv_iload_n dX12_read_2 rfl ?_
  refine pv_iload_n dX12_read_3 rfl ?_
  obtain ⟨q1, F⟩ := F
  refine pv_invV (As := [.int x, .int y, .int z]) (d' := d - 1) dX12_read_4 moX12_isSquare ml_X12_172 (lt_200 hL) (Or.inl ⟨_, rfl, rfl⟩) (Nat.le_of_ble_eq_true rfl) (by omega) (Nat.zero_le _) (Nat.zero_le _) (ct_X12_isSquare (by omega) hL q1) (fun v ty' h' r' g' hq => ?_) rfl
  obtain ⟨e1, e2, e3, e4, e5⟩ := hq
  rw [e1, e2, e3, e4, e5]
  refine pv_pc (pc' := 7) rfl ?_
  show pv_E Γ d kc ks mX12_read 7 [some (.ref 200), some (.int x), some (.int y), some (.int z)] [.int (pf_b (pf_sq h x y z))] ty h r g Q
  refine pv_if_eq (tgt := 24) dX12_read_7 (by decide) (fun c1 => ?_) (fun c1 => ?_)
  · have F := F.1 c1
    refine pv_iconst (v := (-1)) (by decide) dX12_read_24 ?_
    exact pv_ireturn dX12_read_25 rfl rfl F
  · have F := F.2 c1
    refine pv_aload_n dX12_read_10 rfl ?_
    refine pv_getRk 12 4 dX12_read_11 fl_X12_16 rfl (lt_200 hL) (lr_200_4 hL) ?_
    refine pv_iload_n dX12_read_14 rfl ?_
    refine pv_iload_n dX12_read_15 rfl ?_
    refine pv_iload_n dX12_read_16 rfl ?_
    refine pv_invS (As := [.int x, .int y, .int z]) (d' := d - 1) dX12_read_17 moX12_place ml_X12_175 (Nat.le_of_ble_eq_true rfl) (by omega) (Nat.zero_le _) (Nat.zero_le _) (ct_X12_place (by omega)) (fun v ty' h' r' g' hq => ?_) rfl
    obtain ⟨e1, e2, e3, e4, e5⟩ := hq
    rw [e1, e2, e3, e4, e5]
    refine pv_pc (pc' := 20) rfl ?_
    show pv_E Γ d kc ks mX12_read 20 [some (.ref 200), some (.int x), some (.int y), some (.int z)] [.int (144 * x + 9 * y + z), .ref 304] ty h r g Q
    obtain ⟨q2, F⟩ := F
    refine pv_iald dX12_read_20 (lt_304 hL) q2 ?_
    refine pv_goto (tgt := 25) dX12_read_21 (by decide) ?_
    exact pv_ireturn dX12_read_25 rfl rfl F
set_option maxRecDepth 20000 in
set_option maxHeartbeats 4000000 in
theorem sg_X12_height_0 {Γ : pv_C} {d kc ks : Nat} {ty : pv_T} {h : pv_H} {r : pv_R} {g : pv_G} {Q : pv_Q} (x : Int32) (y : Int32) (z : Int32) (u : Int32) (hd : 3 ≤ d) (hL : pv_Lay ty r) (F : (0 ≤ h 200 1 ∧ h 200 1 ≤ 8) ∧ (((pf_b (pf_sq h x y z)) = 0 → Q (some (.int (-1))) ty h r g) ∧ (¬ (pf_b (pf_sq h x y z)) = 0 → ((¬ (pf_b (0 ≤ u ∧ u ≤ 99)) = 0 → vp_in (144 * x + 9 * y + z) 1152 ∧ vp_in (144 * x + 9 * y + z) 1152 ∧ (∀ h1 : pv_H, h1 = pv_up h 304 (Int32.toNatClampNeg (144 * x + 9 * y + z)) u → Q (some (.int (h 304 (Int32.toNatClampNeg (144 * x + 9 * y + z))))) ty h1 r g)) ∧ ((pf_b (0 ≤ u ∧ u ≤ 99)) = 0 → Q (some (.int (-1))) ty h r g))))) : pv_E Γ d kc ks mX12_height 0 [some (.ref 200), some (.int x), some (.int y), some (.int z), some (.int u), none] [] ty h r g Q := by
  refine pv_aload_n dX12_height_0 rfl ?_
  refine pv_iload_n dX12_height_1 rfl ?_
  refine pv_iload_n dX12_height_2 rfl ?_
  refine pv_iload_n dX12_height_3 rfl ?_
  obtain ⟨q1, F⟩ := F
  refine pv_invV (As := [.int x, .int y, .int z]) (d' := d - 1) dX12_height_4 moX12_isSquare ml_X12_172 (lt_200 hL) (Or.inl ⟨_, rfl, rfl⟩) (Nat.le_of_ble_eq_true rfl) (by omega) (Nat.zero_le _) (Nat.zero_le _) (ct_X12_isSquare (by omega) hL q1) (fun v ty' h' r' g' hq => ?_) rfl
  obtain ⟨e1, e2, e3, e4, e5⟩ := hq
  rw [e1, e2, e3, e4, e5]
  refine pv_pc (pc' := 7) rfl ?_
  show pv_E Γ d kc ks mX12_height 7 [some (.ref 200), some (.int x), some (.int y), some (.int z), some (.int u), none] [.int (pf_b (pf_sq h x y z))] ty h r g Q
  refine pv_if_eq (tgt := 21) dX12_height_7 (by decide) (fun c1 => ?_) (fun c1 => ?_)
  · have F := F.1 c1
    refine pv_iconst (v := (-1)) (by decide) dX12_height_21 ?_
    exact pv_ireturn dX12_height_22 rfl rfl F
  · have F := F.2 c1
    refine pv_iload dX12_height_10 rfl ?_
    refine pv_iconst (v := 0) (by decide) dX12_height_12 ?_
    refine pv_bipush (v := 99) (by decide) dX12_height_13 ?_
    refine pv_invS (As := [.int u, .int 0, .int 99]) (d' := d - 1) dX12_height_15 moX12_in ml_X12_164 (Nat.le_of_ble_eq_true rfl) (by omega) (Nat.zero_le _) (Nat.zero_le _) (ct_X12_in (by omega)) (fun v ty' h' r' g' hq => ?_) rfl
    obtain ⟨e1, e2, e3, e4, e5⟩ := hq
    rw [e1, e2, e3, e4, e5]
    refine pv_pc (pc' := 18) rfl ?_
    show pv_E Γ d kc ks mX12_height 18 [some (.ref 200), some (.int x), some (.int y), some (.int z), some (.int u), none] [.int (pf_b (0 ≤ u ∧ u ≤ 99))] ty h r g Q
    refine pv_if_ne (tgt := 23) dX12_height_18 (by decide) (fun c2 => ?_) (fun c2 => ?_)
    · have F := F.1 c2
      refine pv_aload_n dX12_height_23 rfl ?_
      refine pv_getRk 12 4 dX12_height_24 fl_X12_16 rfl (lt_200 hL) (lr_200_4 hL) ?_
      refine pv_iload_n dX12_height_27 rfl ?_
      refine pv_iload_n dX12_height_28 rfl ?_
      refine pv_iload_n dX12_height_29 rfl ?_
      refine pv_invS (As := [.int x, .int y, .int z]) (d' := d - 1) dX12_height_30 moX12_place ml_X12_175 (Nat.le_of_ble_eq_true rfl) (by omega) (Nat.zero_le _) (Nat.zero_le _) (ct_X12_place (by omega)) (fun v ty' h' r' g' hq => ?_) rfl
      obtain ⟨e1, e2, e3, e4, e5⟩ := hq
      rw [e1, e2, e3, e4, e5]
      refine pv_pc (pc' := 33) rfl ?_
      show pv_E Γ d kc ks mX12_height 33 [some (.ref 200), some (.int x), some (.int y), some (.int z), some (.int u), none] [.int (144 * x + 9 * y + z), .ref 304] ty h r g Q
      obtain ⟨q2, F⟩ := F
      refine pv_iald dX12_height_33 (lt_304 hL) q2 ?_
      refine pv_istore (ls' := [some (.ref 200), some (.int x), some (.int y), some (.int z), some (.int u), some (.int (h 304 (Int32.toNatClampNeg (144 * x + 9 * y + z))))]) dX12_height_34 (by decide) rfl rfl ?_
      refine pv_aload_n dX12_height_36 rfl ?_
      refine pv_getRk 12 4 dX12_height_37 fl_X12_16 rfl (lt_200 hL) (lr_200_4 hL) ?_
      refine pv_iload_n dX12_height_40 rfl ?_
      refine pv_iload_n dX12_height_41 rfl ?_
      refine pv_iload_n dX12_height_42 rfl ?_
      refine pv_pc (pc' := 43) rfl ?_
      refine pv_invS (As := [.int x, .int y, .int z]) (d' := d - 1) dX12_height_43 moX12_place ml_X12_175 (Nat.le_of_ble_eq_true rfl) (by omega) (Nat.zero_le _) (Nat.zero_le _) (ct_X12_place (by omega)) (fun v ty' h' r' g' hq => ?_) rfl
      obtain ⟨e1, e2, e3, e4, e5⟩ := hq
      rw [e1, e2, e3, e4, e5]
      refine pv_pc (pc' := 46) rfl ?_
      show pv_E Γ d kc ks mX12_height 46 [some (.ref 200), some (.int x), some (.int y), some (.int z), some (.int u), some (.int (h 304 (Int32.toNatClampNeg (144 * x + 9 * y + z))))] [.int (144 * x + 9 * y + z), .ref 304] ty h r g Q
      refine pv_iload dX12_height_46 rfl ?_
      obtain ⟨q3, F⟩ := F
      obtain ⟨h1, eh1⟩ : ∃ h1 : pv_H, h1 = pv_up h 304 (Int32.toNatClampNeg (144 * x + 9 * y + z)) u := ⟨_, rfl⟩
      have F := F h1 eh1
      refine pv_iast dX12_height_48 (lt_304 hL) (by decide) q3 ?_
      refine pv_hE eh1 ?_
      refine pv_iload dX12_height_49 rfl ?_
      exact pv_ireturn dX12_height_51 rfl rfl F
    · have F := F.2 c2
      refine pv_iconst (v := (-1)) (by decide) dX12_height_21 ?_
      exact pv_ireturn dX12_height_22 rfl rfl F
set_option maxRecDepth 20000 in
set_option maxHeartbeats 4000000 in
theorem sg_X12_drain_0 {Γ : pv_C} {d kc ks : Nat} {ty : pv_T} {h : pv_H} {r : pv_R} {g : pv_G} {Q : pv_Q} (x : Int32) (y : Int32) (z : Int32) (u : Int32) (hd : 3 ≤ d) (hL : pv_Lay ty r) (F : (0 ≤ h 200 1 ∧ h 200 1 ≤ 8) ∧ (((pf_b (pf_sq h x y z)) = 0 → Q (some (.int (-1))) ty h r g) ∧ (¬ (pf_b (pf_sq h x y z)) = 0 → ((¬ (pf_b (0 ≤ u ∧ u ≤ 1)) = 0 → vp_in (144 * x + 9 * y + z) 1152 ∧ (((h 305 (Int32.toNatClampNeg (144 * x + 9 * y + z))) = 0 → ((¬ u = 1 → vp_in (144 * x + 9 * y + z) 1152 ∧ (∀ h1 : pv_H, h1 = pv_up h 305 (Int32.toNatClampNeg (144 * x + 9 * y + z)) (0 &&& 1) → Q (some (.int 0)) ty h1 r g)) ∧ (u = 1 → vp_in (144 * x + 9 * y + z) 1152 ∧ (∀ h2 : pv_H, h2 = pv_up h 305 (Int32.toNatClampNeg (144 * x + 9 * y + z)) (1 &&& 1) → Q (some (.int 0)) ty h2 r g)))) ∧ (¬ (h 305 (Int32.toNatClampNeg (144 * x + 9 * y + z))) = 0 → ((¬ u = 1 → vp_in (144 * x + 9 * y + z) 1152 ∧ (∀ h3 : pv_H, h3 = pv_up h 305 (Int32.toNatClampNeg (144 * x + 9 * y + z)) (0 &&& 1) → Q (some (.int 1)) ty h3 r g)) ∧ (u = 1 → vp_in (144 * x + 9 * y + z) 1152 ∧ (∀ h4 : pv_H, h4 = pv_up h 305 (Int32.toNatClampNeg (144 * x + 9 * y + z)) (1 &&& 1) → Q (some (.int 1)) ty h4 r g)))))) ∧ ((pf_b (0 ≤ u ∧ u ≤ 1)) = 0 → Q (some (.int (-1))) ty h r g))))) : pv_E Γ d kc ks mX12_drain 0 [some (.ref 200), some (.int x), some (.int y), some (.int z), some (.int u), none] [] ty h r g Q := by
  refine pv_aload_n dX12_drain_0 rfl ?_
  refine pv_iload_n dX12_drain_1 rfl ?_
  refine pv_iload_n dX12_drain_2 rfl ?_
  refine pv_iload_n dX12_drain_3 rfl ?_
  obtain ⟨q1, F⟩ := F
  refine pv_invV (As := [.int x, .int y, .int z]) (d' := d - 1) dX12_drain_4 moX12_isSquare ml_X12_172 (lt_200 hL) (Or.inl ⟨_, rfl, rfl⟩) (Nat.le_of_ble_eq_true rfl) (by omega) (Nat.zero_le _) (Nat.zero_le _) (ct_X12_isSquare (by omega) hL q1) (fun v ty' h' r' g' hq => ?_) rfl
  obtain ⟨e1, e2, e3, e4, e5⟩ := hq
  rw [e1, e2, e3, e4, e5]
  refine pv_pc (pc' := 7) rfl ?_
  show pv_E Γ d kc ks mX12_drain 7 [some (.ref 200), some (.int x), some (.int y), some (.int z), some (.int u), none] [.int (pf_b (pf_sq h x y z))] ty h r g Q
  refine pv_if_eq (tgt := 20) dX12_drain_7 (by decide) (fun c1 => ?_) (fun c1 => ?_)
  · have F := F.1 c1
    refine pv_iconst (v := (-1)) (by decide) dX12_drain_20 ?_
    exact pv_ireturn dX12_drain_21 rfl rfl F
  · have F := F.2 c1
    refine pv_iload dX12_drain_10 rfl ?_
    refine pv_iconst (v := 0) (by decide) dX12_drain_12 ?_
    refine pv_iconst (v := 1) (by decide) dX12_drain_13 ?_
    refine pv_invS (As := [.int u, .int 0, .int 1]) (d' := d - 1) dX12_drain_14 moX12_in ml_X12_164 (Nat.le_of_ble_eq_true rfl) (by omega) (Nat.zero_le _) (Nat.zero_le _) (ct_X12_in (by omega)) (fun v ty' h' r' g' hq => ?_) rfl
    obtain ⟨e1, e2, e3, e4, e5⟩ := hq
    rw [e1, e2, e3, e4, e5]
    refine pv_pc (pc' := 17) rfl ?_
    show pv_E Γ d kc ks mX12_drain 17 [some (.ref 200), some (.int x), some (.int y), some (.int z), some (.int u), none] [.int (pf_b (0 ≤ u ∧ u ≤ 1))] ty h r g Q
    refine pv_if_ne (tgt := 22) dX12_drain_17 (by decide) (fun c2 => ?_) (fun c2 => ?_)
    · have F := F.1 c2
      refine pv_aload_n dX12_drain_22 rfl ?_
      refine pv_getRk 12 5 dX12_drain_23 fl_X12_19 rfl (lt_200 hL) (lr_200_5 hL) ?_
      refine pv_iload_n dX12_drain_26 rfl ?_
      refine pv_iload_n dX12_drain_27 rfl ?_
      refine pv_iload_n dX12_drain_28 rfl ?_
      refine pv_invS (As := [.int x, .int y, .int z]) (d' := d - 1) dX12_drain_29 moX12_place ml_X12_175 (Nat.le_of_ble_eq_true rfl) (by omega) (Nat.zero_le _) (Nat.zero_le _) (ct_X12_place (by omega)) (fun v ty' h' r' g' hq => ?_) rfl
      obtain ⟨e1, e2, e3, e4, e5⟩ := hq
      rw [e1, e2, e3, e4, e5]
      refine pv_pc (pc' := 32) rfl ?_
      show pv_E Γ d kc ks mX12_drain 32 [some (.ref 200), some (.int x), some (.int y), some (.int z), some (.int u), none] [.int (144 * x + 9 * y + z), .ref 305] ty h r g Q
      obtain ⟨q2, F⟩ := F
      refine pv_zald dX12_drain_32 (lt_305 hL) q2 ?_
      refine pv_if_eq (tgt := 40) dX12_drain_33 (by decide) (fun c3 => ?_) (fun c3 => ?_)
      · have F := F.1 c3
        refine pv_iconst (v := 0) (by decide) dX12_drain_40 ?_
        refine pv_istore (ls' := [some (.ref 200), some (.int x), some (.int y), some (.int z), some (.int u), some (.int 0)]) dX12_drain_41 (by decide) rfl rfl ?_
        refine pv_aload_n dX12_drain_43 rfl ?_
        refine pv_getRk 12 5 dX12_drain_44 fl_X12_19 rfl (lt_200 hL) (lr_200_5 hL) ?_
        refine pv_iload_n dX12_drain_47 rfl ?_
        refine pv_iload_n dX12_drain_48 rfl ?_
        refine pv_pc (pc' := 49) rfl ?_
        refine pv_iload_n dX12_drain_49 rfl ?_
        refine pv_invS (As := [.int x, .int y, .int z]) (d' := d - 1) dX12_drain_50 moX12_place ml_X12_175 (Nat.le_of_ble_eq_true rfl) (by omega) (Nat.zero_le _) (Nat.zero_le _) (ct_X12_place (by omega)) (fun v ty' h' r' g' hq => ?_) rfl
        obtain ⟨e1, e2, e3, e4, e5⟩ := hq
        rw [e1, e2, e3, e4, e5]
        refine pv_pc (pc' := 53) rfl ?_
        show pv_E Γ d kc ks mX12_drain 53 [some (.ref 200), some (.int x), some (.int y), some (.int z), some (.int u), some (.int 0)] [.int (144 * x + 9 * y + z), .ref 305] ty h r g Q
        refine pv_iload dX12_drain_53 rfl ?_
        refine pv_iconst (v := 1) (by decide) dX12_drain_55 ?_
        refine pv_icmp_ne (tgt := 63) dX12_drain_56 (by decide) (fun c4 => ?_) (fun c4 => ?_)
        · have F := F.1 c4
          refine pv_iconst (v := 0) (by decide) dX12_drain_63 ?_
          obtain ⟨q3, F⟩ := F
          obtain ⟨h1, eh1⟩ : ∃ h1 : pv_H, h1 = pv_up h 305 (Int32.toNatClampNeg (144 * x + 9 * y + z)) (0 &&& 1) := ⟨_, rfl⟩
          have F := F h1 eh1
          refine pv_zast dX12_drain_64 (lt_305 hL) (by decide) q3 ?_
          refine pv_hE eh1 ?_
          refine pv_iload dX12_drain_65 rfl ?_
          exact pv_ireturn dX12_drain_67 rfl rfl F
        · have F := F.2 c4
          refine pv_iconst (v := 1) (by decide) dX12_drain_59 ?_
          refine pv_goto (tgt := 64) dX12_drain_60 (by decide) ?_
          obtain ⟨q4, F⟩ := F
          obtain ⟨h2, eh2⟩ : ∃ h2 : pv_H, h2 = pv_up h 305 (Int32.toNatClampNeg (144 * x + 9 * y + z)) (1 &&& 1) := ⟨_, rfl⟩
          have F := F h2 eh2
          refine pv_zast dX12_drain_64 (lt_305 hL) (by decide) q4 ?_
          refine pv_hE eh2 ?_
          refine pv_iload dX12_drain_65 rfl ?_
          exact pv_ireturn dX12_drain_67 rfl rfl F
      · have F := F.2 c3
        refine pv_iconst (v := 1) (by decide) dX12_drain_36 ?_
        refine pv_goto (tgt := 41) dX12_drain_37 (by decide) ?_
        refine pv_istore (ls' := [some (.ref 200), some (.int x), some (.int y), some (.int z), some (.int u), some (.int 1)]) dX12_drain_41 (by decide) rfl rfl ?_
        refine pv_aload_n dX12_drain_43 rfl ?_
        refine pv_getRk 12 5 dX12_drain_44 fl_X12_19 rfl (lt_200 hL) (lr_200_5 hL) ?_
        refine pv_iload_n dX12_drain_47 rfl ?_
        refine pv_iload_n dX12_drain_48 rfl ?_
        refine pv_iload_n dX12_drain_49 rfl ?_
        refine pv_pc (pc' := 50) rfl ?_
        refine pv_invS (As := [.int x, .int y, .int z]) (d' := d - 1) dX12_drain_50 moX12_place ml_X12_175 (Nat.le_of_ble_eq_true rfl) (by omega) (Nat.zero_le _) (Nat.zero_le _) (ct_X12_place (by omega)) (fun v ty' h' r' g' hq => ?_) rfl
        obtain ⟨e1, e2, e3, e4, e5⟩ := hq
        rw [e1, e2, e3, e4, e5]
        refine pv_pc (pc' := 53) rfl ?_
        show pv_E Γ d kc ks mX12_drain 53 [some (.ref 200), some (.int x), some (.int y), some (.int z), some (.int u), some (.int 1)] [.int (144 * x + 9 * y + z), .ref 305] ty h r g Q
        refine pv_iload dX12_drain_53 rfl ?_
        refine pv_iconst (v := 1) (by decide) dX12_drain_55 ?_
        refine pv_icmp_ne (tgt := 63) dX12_drain_56 (by decide) (fun c5 => ?_) (fun c5 => ?_)
        · have F := F.1 c5
          refine pv_iconst (v := 0) (by decide) dX12_drain_63 ?_
          obtain ⟨q5, F⟩ := F
          obtain ⟨h3, eh3⟩ : ∃ h3 : pv_H, h3 = pv_up h 305 (Int32.toNatClampNeg (144 * x + 9 * y + z)) (0 &&& 1) := ⟨_, rfl⟩
          have F := F h3 eh3
          refine pv_zast dX12_drain_64 (lt_305 hL) (by decide) q5 ?_
          refine pv_hE eh3 ?_
          refine pv_iload dX12_drain_65 rfl ?_
          exact pv_ireturn dX12_drain_67 rfl rfl F
        · have F := F.2 c5
          refine pv_iconst (v := 1) (by decide) dX12_drain_59 ?_
          refine pv_goto (tgt := 64) dX12_drain_60 (by decide) ?_
          obtain ⟨q6, F⟩ := F
          obtain ⟨h4, eh4⟩ : ∃ h4 : pv_H, h4 = pv_up h 305 (Int32.toNatClampNeg (144 * x + 9 * y + z)) (1 &&& 1) := ⟨_, rfl⟩
          have F := F h4 eh4
          refine pv_zast dX12_drain_64 (lt_305 hL) (by decide) q6 ?_
          refine pv_hE eh4 ?_
          refine pv_iload dX12_drain_65 rfl ?_
          exact pv_ireturn dX12_drain_67 rfl rfl F
    · have F := F.2 c2
      refine pv_iconst (v := (-1)) (by decide) dX12_drain_20 ?_
      exact pv_ireturn dX12_drain_21 rfl rfl F
section MO
variable {Γ : pv_C} {d : Nat} {ty : pv_T} {h : pv_H} {r : pv_R} {g : pv_G} {s R C : Nat}
theorem nar_z {x : Int32} (h : x = 0 ∨ x = 1) : narrow .boolean (.int x) = .int x := by rcases h with rfl | rfl <;> rfl
theorem ct_X12_isDrain (hd : 1 ≤ d) (hL : pv_Lay ty r) (hS : mStr h s R C) {p : Nat × Nat} (hp : wt_on R C p) : pv_CT Γ d 0 0 mX12_isDrain [.ref 200, .int (nI s), .int (cd p)] ty h r g (pv_is (.int (mD h s p.1 p.2)) ty h r g) := by
  refine pv_fn 0 pn_X12 rfl (Nat.le_of_ble_eq_true rfl) (sg_X12_isDrain_0 _ _ hd hL ?_)
  obtain ⟨e1, e2⟩ := cd_div hS.2.2.2.1.2 hS.2.2.2.2.1.2 hp
  have hR := hS.2.2.2.1
  have hC := hS.2.2.2.2.1
  have h1 := hp.1
  have h2 := hp.2
  rw [e2, e1, ni_plc hS.1 (by omega) (by omega)]
  exact ⟨ni_pli hS.1 (by omega) (by omega), nar_z (hS.2.2.2.2.2.2 _ _ hp.1 hp.2), pv_is_refl _ _ _ _ _⟩
/-- what water() answers -/
def fn_water (h : pv_H) (x y z : Int32) : Int32 := if pf_sq h x y z then (fun e : Nat × Nat => if mD h x.toNatClampNeg e.1 e.2 = 0 then cd e else cd e + 1000) (mEnd h x.toNatClampNeg (mR h x.toNatClampNeg) (mC h x.toNatClampNeg) (y.toNatClampNeg, z.toNatClampNeg)) else -1
theorem ct_X12_water {ns : Nat} (hd : 4 ≤ d) (hL : pv_Lay ty r) (hM : mStreets h ns) {x y z : Int32} : pv_CT Γ d 0 0 mX12_water [.ref 200, .int x, .int y, .int z] ty h r g (pv_is (.int (fn_water h x y z)) ty h r g) := by
  refine pv_fn 1 pn_X12 rfl (Nat.le_of_ble_eq_true rfl) (sg_X12_water_0 _ _ _ (by omega) hL ⟨ni_b8 hM.2.1 hM.1, ?_⟩)
  rw [pf_b_0, Classical.not_not]
  refine ⟨fun c1 => ?_, fun c1 => ?_⟩
  · have c0 := c1
    obtain ⟨s, a, c, h1, ha, hc, rfl, rfl, rfl⟩ := (mSq hM).mp c1
    have hS := hM.2.2 s h1
    have h8 := hM.1
    have hp : wt_on (mR h s) (mC h s) (a, c) := ⟨ha, hc⟩
    refine pv_CT.use (ct_X12_comesTo (by omega) hL hS hp) ⟨_, rfl, hL, ?_⟩
    refine pv_CT.use (ct_X12_isDrain (by omega) hL hS (wt_end_on hp)) ⟨_, rfl, hL, ?_⟩
    have hRC := hS.2.2.2
    unfold fn_water
    rw [if_pos c0, nI_clamp (by omega), nI_clamp (by omega), nI_clamp (by omega)]
    dsimp only
    refine ⟨fun c2 => ?_, fun c2 => ?_⟩
    · rw [if_pos c2, Int32.add_zero]; exact pv_is_refl _ _ _ _ _
    · rw [if_neg c2]; exact pv_is_refl _ _ _ _ _
  · unfold fn_water
    rw [if_neg c1]; exact pv_is_refl _ _ _ _ _
def fn_read (h : pv_H) (x y z : Int32) : Int32 := if pf_sq h x y z then h 304 (144 * x + 9 * y + z).toNatClampNeg else -1
theorem mSq_in {ns : Nat} (hM : mStreets h ns) {x y z : Int32} (hq : pf_sq h x y z) : vp_in (144 * x + 9 * y + z) 1152 := by
  obtain ⟨s, a, c, h1, ha, hc, rfl, rfl, rfl⟩ := (mSq hM).mp hq
  have hS := hM.2.2 s h1
  exact ni_pli hS.1 (by have := hS.2.2.2.1; omega) (by have := hS.2.2.2.2.1; omega)
theorem ct_X12_read {ns : Nat} (hd : 3 ≤ d) (hL : pv_Lay ty r) (hM : mStreets h ns) {x y z : Int32} : pv_CT Γ d 0 0 mX12_read [.ref 200, .int x, .int y, .int z] ty h r g (pv_is (.int (fn_read h x y z)) ty h r g) := by
  refine pv_fn 0 pn_X12 rfl (Nat.le_of_ble_eq_true rfl) (sg_X12_read_0 _ _ _ (by omega) hL ⟨ni_b8 hM.2.1 hM.1, ?_⟩)
  rw [pf_b_0, Classical.not_not]
  unfold fn_read
  refine ⟨fun c1 => ?_, fun c1 => ⟨mSq_in hM c1, ?_⟩⟩
  · rw [if_neg c1]; exact pv_is_refl _ _ _ _ _
  · rw [if_pos c1]; exact pv_is_refl _ _ _ _ _
/-- height() and drain(): the answer, and what is written -/
def fo_set (h : pv_H) (x y z u : Int32) (m : Int32) : Prop := pf_sq h x y z ∧ 0 ≤ u ∧ u ≤ m
def fn_height (h : pv_H) (x y z u : Int32) : Int32 := if pf_sq h x y z ∧ (0 ≤ u ∧ u ≤ 99) then h 304 (144 * x + 9 * y + z).toNatClampNeg else -1
def fp_height (h : pv_H) (x y z u : Int32) : pv_H := if pf_sq h x y z ∧ (0 ≤ u ∧ u ≤ 99) then pv_up h 304 (144 * x + 9 * y + z).toNatClampNeg u else h
theorem ct_X12_height {ns : Nat} (hd : 3 ≤ d) (hL : pv_Lay ty r) (hM : mStreets h ns) {x y z u : Int32} : pv_CJ Γ d mX12_height [.ref 200, .int x, .int y, .int z, .int u] ty h r g (fun w h' => w = fn_height h x y z u ∧ h' = fp_height h x y z u) := by
  refine pv_fn 1 pn_X12 rfl (Nat.le_of_ble_eq_true rfl) (sg_X12_height_0 _ _ _ _ (by omega) hL ⟨ni_b8 hM.2.1 hM.1, ?_⟩)
  simp only [pf_b_0, Classical.not_not]
  unfold fn_height fp_height
  refine ⟨fun c1 => ?_, fun c1 => ⟨fun c2 => ⟨mSq_in hM c1, mSq_in hM c1, fun h1 e1 => ?_⟩, fun c2 => ?_⟩⟩
  · rw [if_neg (fun q => c1 q.1), if_neg (fun q => c1 q.1)]; exact pv_jqi ⟨rfl, rfl⟩
  · rw [if_pos ⟨c1, c2⟩, if_pos ⟨c1, c2⟩]; exact pv_jqi ⟨rfl, e1⟩
  · rw [if_neg (fun q => c2 q.2), if_neg (fun q => c2 q.2)]; exact pv_jqi ⟨rfl, rfl⟩
def fn_drain (h : pv_H) (x y z u : Int32) : Int32 := if pf_sq h x y z ∧ (0 ≤ u ∧ u ≤ 1) then h 305 (144 * x + 9 * y + z).toNatClampNeg else -1
def fp_drain (h : pv_H) (x y z u : Int32) : pv_H := if pf_sq h x y z ∧ (0 ≤ u ∧ u ≤ 1) then pv_up h 305 (144 * x + 9 * y + z).toNatClampNeg u else h
theorem mSq_d {ns : Nat} (hM : mStreets h ns) {x y z : Int32} (hq : pf_sq h x y z) : h 305 (144 * x + 9 * y + z).toNatClampNeg = 0 ∨ h 305 (144 * x + 9 * y + z).toNatClampNeg = 1 := by
  obtain ⟨s, a, c, h1, ha, hc, rfl, rfl, rfl⟩ := (mSq hM).mp hq
  have hS := hM.2.2 s h1
  rw [ni_plc hS.1 (by have := hS.2.2.2.1; omega) (by have := hS.2.2.2.2.1; omega)]
  exact hS.2.2.2.2.2.2 a c ha hc
theorem ct_X12_drain {ns : Nat} (hd : 3 ≤ d) (hL : pv_Lay ty r) (hM : mStreets h ns) {x y z u : Int32} : pv_CJ Γ d mX12_drain [.ref 200, .int x, .int y, .int z, .int u] ty h r g (fun w h' => w = fn_drain h x y z u ∧ h' = fp_drain h x y z u) := by
  refine pv_fn 1 pn_X12 rfl (Nat.le_of_ble_eq_true rfl) (sg_X12_drain_0 _ _ _ _ (by omega) hL ⟨ni_b8 hM.2.1 hM.1, ?_⟩)
  simp only [pf_b_0, Classical.not_not]
  unfold fn_drain fp_drain
  have hu : ∀ {u : Int32}, 0 ≤ u ∧ u ≤ 1 → ¬ u = 1 → u = 0 := by intro u q q2; grind
  refine ⟨fun c1 => ?_, fun c1 => ⟨fun c2 => ?_, fun c2 => ?_⟩⟩
  · rw [if_neg (fun q => c1 q.1), if_neg (fun q => c1 q.1)]; exact pv_jqi ⟨rfl, rfl⟩
  · rw [if_pos ⟨c1, c2⟩, if_pos ⟨c1, c2⟩]
    have hi := mSq_in hM c1
    refine ⟨hi, fun c3 => ⟨fun c4 => ⟨hi, fun h1 e1 => ?_⟩, fun c4 => ⟨hi, fun h1 e1 => ?_⟩⟩, fun c3 => ⟨fun c4 => ⟨hi, fun h1 e1 => ?_⟩, fun c4 => ⟨hi, fun h1 e1 => ?_⟩⟩⟩
    · exact pv_jqi ⟨c3.symm, by rw [e1, hu c2 c4]; rfl⟩
    · exact pv_jqi ⟨c3.symm, by rw [e1, c4]; rfl⟩
    · exact pv_jqi ⟨((mSq_d hM c1).resolve_left c3).symm, by rw [e1, hu c2 c4]; rfl⟩
    · exact pv_jqi ⟨((mSq_d hM c1).resolve_left c3).symm, by rw [e1, c4]; rfl⟩
  · rw [if_neg (fun q => c2 q.2), if_neg (fun q => c2 q.2)]; exact pv_jqi ⟨rfl, rfl⟩
end MO
