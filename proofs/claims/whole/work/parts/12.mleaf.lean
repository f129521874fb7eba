/-! the reference's leaves: tests of numbers and places -/
set_option maxRecDepth 20000 in
set_option maxHeartbeats 4000000 in
theorem sg_X12_in_0 {Γ : pv_C} {d kc ks : Nat} {ty : pv_T} {h : pv_H} {r : pv_R} {g : pv_G} {Q : pv_Q} (x : Int32) (y : Int32) (z : Int32) (F : ((x < y → Q (some (.int 0)) ty h r g) ∧ (¬ x < y → ((z < x → Q (some (.int 0)) ty h r g) ∧ (¬ z < x → Q (some (.int 1)) ty h r g))))) : pv_E Γ d kc ks mX12_in 0 [some (.int x), some (.int y), some (.int z)] [] ty h r g Q := by
  refine pv_iload_n dX12_in_0 rfl ?_
  refine pv_iload_n dX12_in_1 rfl ?_
  refine pv_icmp_lt (tgt := 14) dX12_in_2 (by decide) (fun c1 => ?_) (fun c1 => ?_)
  · have F := F.1 c1
    refine pv_iconst (v := 0) (by decide) dX12_in_14 ?_
    exact pv_ireturn dX12_in_15 rfl (by decide) F
  · have F := F.2 c1
    refine pv_iload_n dX12_in_5 rfl ?_
    refine pv_iload_n dX12_in_6 rfl ?_
    refine pv_icmp_gt (tgt := 14) dX12_in_7 (by decide) (fun c2 => ?_) (fun c2 => ?_)
    · have F := F.1 c2
      refine pv_iconst (v := 0) (by decide) dX12_in_14 ?_
      exact pv_ireturn dX12_in_15 rfl (by decide) F
    · have F := F.2 c2
      refine pv_iconst (v := 1) (by decide) dX12_in_10 ?_
      refine pv_goto (tgt := 15) dX12_in_11 (by decide) ?_
      exact pv_ireturn dX12_in_15 rfl (by decide) F
theorem ct_X12_in {Γ : pv_C} {d : Nat} {ty : pv_T} {h : pv_H} {r : pv_R} {g : pv_G} {x y z : Int32} (_ : 0 ≤ d) : pv_CT Γ d 0 0 mX12_in [.int x, .int y, .int z] ty h r g (pv_is (.int (pf_b (y ≤ x ∧ x ≤ z))) ty h r g) := by
  refine pv_fn 0 pn_X12 rfl (Nat.le_of_ble_eq_true rfl) (sg_X12_in_0 x y z ?_)
  refine ⟨fun c1 => ?_, fun c1 => ⟨fun c2 => ?_, fun c2 => ?_⟩⟩
  · rw [pf_b_f (fun q => Int32.not_lt.mpr q.1 c1)]; exact pv_is_refl _ _ _ _ _
  · rw [pf_b_f (fun q => Int32.not_lt.mpr q.2 c2)]; exact pv_is_refl _ _ _ _ _
  · rw [pf_b_t ⟨Int32.not_lt.mp c1, Int32.not_lt.mp c2⟩]; exact pv_is_refl _ _ _ _ _
set_option maxRecDepth 20000 in
set_option maxHeartbeats 4000000 in
theorem sg_X12_size_0 {Γ : pv_C} {d kc ks : Nat} {ty : pv_T} {h : pv_H} {r : pv_R} {g : pv_G} {Q : pv_Q} (x : Int32) (F : ((0 ≤ x → Q (some (.int x)) ty h r g) ∧ (¬ 0 ≤ x → Q (some (.int (-x))) ty h r g))) : pv_E Γ d kc ks mX12_size 0 [some (.int x)] [] ty h r g Q := by
  refine pv_iload_n dX12_size_0 rfl ?_
  refine pv_if_ge (tgt := 9) dX12_size_1 (by decide) (fun c1 => ?_) (fun c1 => ?_)
  · have F := F.1 c1
    refine pv_iload_n dX12_size_9 rfl ?_
    exact pv_ireturn dX12_size_10 rfl rfl F
  · have F := F.2 c1
    refine pv_iload_n dX12_size_4 rfl ?_
    refine pv_ineg dX12_size_5 ?_
    refine pv_goto (tgt := 10) dX12_size_6 (by decide) ?_
    exact pv_ireturn dX12_size_10 rfl rfl F
def pf_abs (x : Int32) : Int32 := if 0 ≤ x then x else -x
theorem ct_X12_size {Γ : pv_C} {d : Nat} {ty : pv_T} {h : pv_H} {r : pv_R} {g : pv_G} {x : Int32} (_ : 0 ≤ d) : pv_CT Γ d 0 0 mX12_size [.int x] ty h r g (pv_is (.int (pf_abs x)) ty h r g) := by
  refine pv_fn 0 pn_X12 rfl (Nat.le_of_ble_eq_true rfl) (sg_X12_size_0 x ?_)
  unfold pf_abs
  refine ⟨fun c1 => ?_, fun c1 => ?_⟩
  · rw [if_pos c1]; exact pv_is_refl _ _ _ _ _
  · rw [if_neg c1]; exact pv_is_refl _ _ _ _ _
set_option maxRecDepth 20000 in
set_option maxHeartbeats 4000000 in
theorem sg_X12_place_0 {Γ : pv_C} {d kc ks : Nat} {ty : pv_T} {h : pv_H} {r : pv_R} {g : pv_G} {Q : pv_Q} (x : Int32) (y : Int32) (z : Int32) (F : Q (some (.int (((144 * x) + (9 * y)) + z))) ty h r g) : pv_E Γ d kc ks mX12_place 0 [some (.int x), some (.int y), some (.int z)] [] ty h r g Q := by
  refine pv_sipush (v := 144) (by decide) dX12_place_0 ?_
  refine pv_iload_n dX12_place_3 rfl ?_
  refine pv_imul dX12_place_4 ?_
  refine pv_bipush (v := 9) (by decide) dX12_place_5 ?_
  refine pv_iload_n dX12_place_7 rfl ?_
  refine pv_imul dX12_place_8 ?_
  refine pv_pc (pc' := 9) rfl ?_
  refine pv_iadd dX12_place_9 ?_
  refine pv_iload_n dX12_place_10 rfl ?_
  refine pv_iadd dX12_place_11 ?_
  exact pv_ireturn dX12_place_12 rfl rfl F
theorem ct_X12_place {Γ : pv_C} {d : Nat} {ty : pv_T} {h : pv_H} {r : pv_R} {g : pv_G} {x y z : Int32} (_ : 0 ≤ d) : pv_CT Γ d 0 0 mX12_place [.int x, .int y, .int z] ty h r g (pv_is (.int (144 * x + 9 * y + z)) ty h r g) := by
  refine pv_fn 0 pn_X12 rfl (Nat.le_of_ble_eq_true rfl) (sg_X12_place_0 x y z ?_)
  exact ⟨rfl, rfl, rfl, rfl, rfl⟩
set_option maxRecDepth 20000 in
set_option maxHeartbeats 4000000 in
theorem sg_X12_isStreet_0 {Γ : pv_C} {d kc ks : Nat} {ty : pv_T} {h : pv_H} {r : pv_R} {g : pv_G} {Q : pv_Q} (x : Int32) (hd : 1 ≤ d) (hL : pv_Lay ty r) (F : (narrow .boolean (.int (pf_b (0 ≤ x ∧ x ≤ ((h 200 1) - 1)))) = .int (pf_b (0 ≤ x ∧ x ≤ ((h 200 1) - 1))) ∧ Q (some (.int (pf_b (0 ≤ x ∧ x ≤ ((h 200 1) - 1))))) ty h r g)) : pv_E Γ d kc ks mX12_isStreet 0 [some (.ref 200), some (.int x)] [] ty h r g Q := by
  refine pv_iload_n dX12_isStreet_0 rfl ?_
  refine pv_iconst (v := 0) (by decide) dX12_isStreet_1 ?_
  refine pv_aload_n dX12_isStreet_2 rfl ?_
  refine pv_getI 12 1 dX12_isStreet_3 fl_X12_161 rfl (lt_200 hL) ?_
  refine pv_iconst (v := 1) (by decide) dX12_isStreet_6 ?_
  refine pv_isub dX12_isStreet_7 ?_
  refine pv_pc (pc' := 8) rfl ?_
  refine pv_invS (As := [.int x, .int 0, .int ((h 200 1) - 1)]) (d' := d - 1) dX12_isStreet_8 moX12_in ml_X12_164 (Nat.le_of_ble_eq_true rfl) (by omega) (Nat.zero_le _) (Nat.zero_le _) (ct_X12_in (by omega)) (fun v ty' h' r' g' hq => ?_) rfl
  obtain ⟨e1, e2, e3, e4, e5⟩ := hq
  rw [e1, e2, e3, e4, e5]
  refine pv_pc (pc' := 11) rfl ?_
  show pv_E Γ d kc ks mX12_isStreet 11 [some (.ref 200), some (.int x)] [.int (pf_b (0 ≤ x ∧ x ≤ ((h 200 1) - 1)))] ty h r g Q
  exact pv_ireturn dX12_isStreet_11 rfl F.1 F.2
theorem ct_X12_isStreet {Γ : pv_C} {d : Nat} {ty : pv_T} {h : pv_H} {r : pv_R} {g : pv_G} {x : Int32} (hd : 1 ≤ d) (hL : pv_Lay ty r) : pv_CT Γ d 0 0 mX12_isStreet [.ref 200, .int x] ty h r g (pv_is (.int (pf_b (0 ≤ x ∧ x ≤ h 200 1 - 1))) ty h r g) := by
  refine pv_fn 0 pn_X12 rfl (Nat.le_of_ble_eq_true rfl) (sg_X12_isStreet_0 x hd hL ?_)
  exact ⟨pf_b_n, pv_is_refl _ _ _ _ _⟩
set_option maxRecDepth 20000 in
set_option maxHeartbeats 4000000 in
theorem sg_X12_isSquare_0 {Γ : pv_C} {d kc ks : Nat} {ty : pv_T} {h : pv_H} {r : pv_R} {g : pv_G} {Q : pv_Q} (x : Int32) (y : Int32) (z : Int32) (hd : 2 ≤ d) (hL : pv_Lay ty r) (F : (((pf_b (0 ≤ x ∧ x ≤ h 200 1 - 1)) = 0 → Q (some (.int 0)) ty h r g) ∧ (¬ (pf_b (0 ≤ x ∧ x ≤ h 200 1 - 1)) = 0 → vp_in x 8 ∧ (((pf_b (0 ≤ y ∧ y ≤ ((h 302 (Int32.toNatClampNeg x)) - 1))) = 0 → Q (some (.int 0)) ty h r g) ∧ (¬ (pf_b (0 ≤ y ∧ y ≤ ((h 302 (Int32.toNatClampNeg x)) - 1))) = 0 → vp_in x 8 ∧ (((pf_b (0 ≤ z ∧ z ≤ ((h 303 (Int32.toNatClampNeg x)) - 1))) = 0 → Q (some (.int 0)) ty h r g) ∧ (¬ (pf_b (0 ≤ z ∧ z ≤ ((h 303 (Int32.toNatClampNeg x)) - 1))) = 0 → Q (some (.int 1)) ty h r g))))))) : pv_E Γ d kc ks mX12_isSquare 0 [some (.ref 200), some (.int x), some (.int y), some (.int z)] [] ty h r g Q := by
  refine pv_aload_n dX12_isSquare_0 rfl ?_
  refine pv_iload_n dX12_isSquare_1 rfl ?_
  refine pv_invV (As := [.int x]) (d' := d - 1) dX12_isSquare_2 moX12_isStreet ml_X12_168 (lt_200 hL) (Or.inl ⟨_, rfl, rfl⟩) (Nat.le_of_ble_eq_true rfl) (by omega) (Nat.zero_le _) (Nat.zero_le _) (ct_X12_isStreet (by omega) hL) (fun v ty' h' r' g' hq => ?_) rfl
  obtain ⟨e1, e2, e3, e4, e5⟩ := hq
  rw [e1, e2, e3, e4, e5]
  refine pv_pc (pc' := 5) rfl ?_
  show pv_E Γ d kc ks mX12_isSquare 5 [some (.ref 200), some (.int x), some (.int y), some (.int z)] [.int (pf_b (0 ≤ x ∧ x ≤ h 200 1 - 1))] ty h r g Q
  refine pv_if_eq (tgt := 44) dX12_isSquare_5 (by decide) (fun c1 => ?_) (fun c1 => ?_)
  · have F := F.1 c1
    refine pv_iconst (v := 0) (by decide) dX12_isSquare_44 ?_
    exact pv_ireturn dX12_isSquare_45 rfl (by decide) F
  · have F := F.2 c1
    refine pv_iload_n dX12_isSquare_8 rfl ?_
    refine pv_iconst (v := 0) (by decide) dX12_isSquare_9 ?_
    refine pv_aload_n dX12_isSquare_10 rfl ?_
    refine pv_getRk 12 2 dX12_isSquare_11 fl_X12_7 rfl (lt_200 hL) (lr_200_2 hL) ?_
    refine pv_iload_n dX12_isSquare_14 rfl ?_
    obtain ⟨q1, F⟩ := F
    refine pv_iald dX12_isSquare_15 (lt_302 hL) q1 ?_
    refine pv_iconst (v := 1) (by decide) dX12_isSquare_16 ?_
    refine pv_isub dX12_isSquare_17 ?_
    refine pv_invS (As := [.int y, .int 0, .int ((h 302 (Int32.toNatClampNeg x)) - 1)]) (d' := d - 1) dX12_isSquare_18 moX12_in ml_X12_164 (Nat.le_of_ble_eq_true rfl) (by omega) (Nat.zero_le _) (Nat.zero_le _) (ct_X12_in (by omega)) (fun v ty' h' r' g' hq => ?_) rfl
    obtain ⟨e1, e2, e3, e4, e5⟩ := hq
    rw [e1, e2, e3, e4, e5]
    refine pv_pc (pc' := 21) rfl ?_
    show pv_E Γ d kc ks mX12_isSquare 21 [some (.ref 200), some (.int x), some (.int y), some (.int z)] [.int (pf_b (0 ≤ y ∧ y ≤ ((h 302 (Int32.toNatClampNeg x)) - 1)))] ty h r g Q
    refine pv_if_eq (tgt := 44) dX12_isSquare_21 (by decide) (fun c2 => ?_) (fun c2 => ?_)
    · have F := F.1 c2
      refine pv_iconst (v := 0) (by decide) dX12_isSquare_44 ?_
      exact pv_ireturn dX12_isSquare_45 rfl (by decide) F
    · have F := F.2 c2
      refine pv_iload_n dX12_isSquare_24 rfl ?_
      refine pv_iconst (v := 0) (by decide) dX12_isSquare_25 ?_
      refine pv_aload_n dX12_isSquare_26 rfl ?_
      refine pv_getRk 12 3 dX12_isSquare_27 fl_X12_13 rfl (lt_200 hL) (lr_200_3 hL) ?_
      refine pv_iload_n dX12_isSquare_30 rfl ?_
      obtain ⟨q2, F⟩ := F
      refine pv_iald dX12_isSquare_31 (lt_303 hL) q2 ?_
      refine pv_iconst (v := 1) (by decide) dX12_isSquare_32 ?_
      refine pv_isub dX12_isSquare_33 ?_
      refine pv_invS (As := [.int z, .int 0, .int ((h 303 (Int32.toNatClampNeg x)) - 1)]) (d' := d - 1) dX12_isSquare_34 moX12_in ml_X12_164 (Nat.le_of_ble_eq_true rfl) (by omega) (Nat.zero_le _) (Nat.zero_le _) (ct_X12_in (by omega)) (fun v ty' h' r' g' hq => ?_) rfl
      obtain ⟨e1, e2, e3, e4, e5⟩ := hq
      rw [e1, e2, e3, e4, e5]
      refine pv_pc (pc' := 37) rfl ?_
      show pv_E Γ d kc ks mX12_isSquare 37 [some (.ref 200), some (.int x), some (.int y), some (.int z)] [.int (pf_b (0 ≤ z ∧ z ≤ ((h 303 (Int32.toNatClampNeg x)) - 1)))] ty h r g Q
      refine pv_if_eq (tgt := 44) dX12_isSquare_37 (by decide) (fun c3 => ?_) (fun c3 => ?_)
      · have F := F.1 c3
        refine pv_iconst (v := 0) (by decide) dX12_isSquare_44 ?_
        exact pv_ireturn dX12_isSquare_45 rfl (by decide) F
      · have F := F.2 c3
        refine pv_iconst (v := 1) (by decide) dX12_isSquare_40 ?_
        refine pv_goto (tgt := 45) dX12_isSquare_41 (by decide) ?_
        exact pv_ireturn dX12_isSquare_45 rfl (by decide) F
/-- is there such a square, by the reference's cells -/
abbrev pf_sq (h : pv_H) (x y z : Int32) : Prop := (0 ≤ x ∧ x ≤ h 200 1 - 1) ∧ (0 ≤ y ∧ y ≤ h 302 x.toNatClampNeg - 1) ∧ (0 ≤ z ∧ z ≤ h 303 x.toNatClampNeg - 1)
theorem pv_in_of {x : Int32} {n : Nat} {m : Int32} (h0 : 0 ≤ x) (h1 : x < m) (hm : m = Int32.ofNat n) (hn : n < 2 ^ 31) : vp_in x n := by
  refine vp_in_iff.mpr ?_
  have a1 := Int32.le_iff_toInt_le.mp h0
  have a2 := Int32.lt_iff_toInt_lt.mp h1
  rw [hm] at a2
  have a3 : (Int32.ofNat n).toInt = n := nI_toInt hn
  rw [a3] at a2
  simp at a1
  exact ⟨a1, a2⟩
theorem pf_in8 {x n : Int32} (hn : 0 ≤ n ∧ n ≤ 8) (q : 0 ≤ x ∧ x ≤ n - 1) : vp_in x 8 := pv_in_of (m := 8) q.1 (by grind) rfl (by decide)
theorem ct_X12_isSquare {Γ : pv_C} {d : Nat} {ty : pv_T} {h : pv_H} {r : pv_R} {g : pv_G} {x y z : Int32} (hd : 2 ≤ d) (hL : pv_Lay ty r) (hn : 0 ≤ h 200 1 ∧ h 200 1 ≤ 8) : pv_CT Γ d 0 0 mX12_isSquare [.ref 200, .int x, .int y, .int z] ty h r g (pv_is (.int (pf_b (pf_sq h x y z))) ty h r g) := by
  refine pv_fn 0 pn_X12 rfl (Nat.le_of_ble_eq_true rfl) (sg_X12_isSquare_0 x y z hd hL ?_)
  simp only [pf_b_0, Classical.not_not]
  refine ⟨fun c1 => ?_, fun c1 => ⟨pf_in8 hn c1, fun c2 => ?_, fun c2 => ⟨pf_in8 hn c1, fun c3 => ?_, fun c3 => ?_⟩⟩⟩
  · rw [pf_b_f (fun q => c1 q.1)]; exact pv_is_refl _ _ _ _ _
  · rw [pf_b_f (fun q => c2 q.2.1)]; exact pv_is_refl _ _ _ _ _
  · rw [pf_b_f (fun q => c3 q.2.2)]; exact pv_is_refl _ _ _ _ _
  · rw [pf_b_t ⟨c1, c2, c3⟩]; exact pv_is_refl _ _ _ _ _
