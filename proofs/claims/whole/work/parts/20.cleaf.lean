/-! the class: tests of numbers, streets -/
set_option maxRecDepth 20000 in
set_option maxHeartbeats 4000000 in
theorem sg_X11_within_0 {Γ : pv_C} {d kc ks : Nat} {ty : pv_T} {h : pv_H} {r : pv_R} {g : pv_G} {Q : pv_Q} (x : Int32) (y : Int32) (z : Int32) (F : ((x < y → Q (some (.int 0)) ty h r g) ∧ (¬ x < y → ((z < x → Q (some (.int 0)) ty h r g) ∧ (¬ z < x → Q (some (.int 1)) ty h r g))))) : pv_E Γ d kc ks mX11_within 0 [some (.int x), some (.int y), some (.int z)] [] ty h r g Q := by
  refine pv_iload_n dX11_within_0 rfl ?_
  refine pv_iload_n dX11_within_1 rfl ?_
  refine pv_icmp_lt (tgt := 14) dX11_within_2 (by decide) (fun c1 => ?_) (fun c1 => ?_)
  · have F := F.1 c1
    refine pv_iconst (v := 0) (by decide) dX11_within_14 ?_
    exact pv_ireturn dX11_within_15 rfl (by decide) F
  · have F := F.2 c1
    refine pv_iload_n dX11_within_5 rfl ?_
    refine pv_iload_n dX11_within_6 rfl ?_
    refine pv_icmp_gt (tgt := 14) dX11_within_7 (by decide) (fun c2 => ?_) (fun c2 => ?_)
    · have F := F.1 c2
      refine pv_iconst (v := 0) (by decide) dX11_within_14 ?_
      exact pv_ireturn dX11_within_15 rfl (by decide) F
    · have F := F.2 c2
      refine pv_iconst (v := 1) (by decide) dX11_within_10 ?_
      refine pv_goto (tgt := 15) dX11_within_11 (by decide) ?_
      exact pv_ireturn dX11_within_15 rfl (by decide) F
theorem ct_X11_within {Γ : pv_C} {d : Nat} {ty : pv_T} {h : pv_H} {r : pv_R} {g : pv_G} {x y z : Int32} (_ : 0 ≤ d) : pv_CT Γ d 0 0 mX11_within [.int x, .int y, .int z] ty h r g (pv_is (.int (pf_b (y ≤ x ∧ x ≤ z))) ty h r g) := by
  refine pv_fn 0 pn_X11 rfl (Nat.le_of_ble_eq_true rfl) (sg_X11_within_0 x y z ?_)
  refine ⟨fun c1 => ?_, fun c1 => ⟨fun c2 => ?_, fun c2 => ?_⟩⟩
  · rw [pf_b_f (fun q => Int32.not_lt.mpr q.1 c1)]; exact pv_is_refl _ _ _ _ _
  · rw [pf_b_f (fun q => Int32.not_lt.mpr q.2 c2)]; exact pv_is_refl _ _ _ _ _
  · rw [pf_b_t ⟨Int32.not_lt.mp c1, Int32.not_lt.mp c2⟩]; exact pv_is_refl _ _ _ _ _
set_option maxRecDepth 20000 in
set_option maxHeartbeats 4000000 in
theorem sg_X8_has_0 {Γ : pv_C} {d kc ks : Nat} {ty : pv_T} {h : pv_H} {r : pv_R} {g : pv_G} {Q : pv_Q} (a : Nat) (x : Int32) (y : Int32) (F : ((x < 0 → Q (some (.int 0)) ty h r g) ∧ (¬ x < 0 → ty a = some (8, 0) ∧ (((h a 0) ≤ x → Q (some (.int 0)) ty h r g) ∧ (¬ (h a 0) ≤ x → ((y < 0 → Q (some (.int 0)) ty h r g) ∧ (¬ y < 0 → ty a = some (8, 0) ∧ (((h a 1) ≤ y → Q (some (.int 0)) ty h r g) ∧ (¬ (h a 1) ≤ y → Q (some (.int 1)) ty h r g))))))))) : pv_E Γ d kc ks mX8_has 0 [some (.ref a), some (.int x), some (.int y)] [] ty h r g Q := by
  refine pv_iload_n dX8_has_0 rfl ?_
  refine pv_if_lt (tgt := 28) dX8_has_1 (by decide) (fun c1 => ?_) (fun c1 => ?_)
  · have F := F.1 c1
    refine pv_iconst (v := 0) (by decide) dX8_has_28 ?_
    exact pv_ireturn dX8_has_29 rfl (by decide) F
  · have F := F.2 c1
    refine pv_iload_n dX8_has_4 rfl ?_
    refine pv_aload_n dX8_has_5 rfl ?_
    obtain ⟨q1, F⟩ := F
    refine pv_getI 8 0 dX8_has_6 fl_X8_9 rfl q1 ?_
    refine pv_icmp_ge (tgt := 28) dX8_has_9 (by decide) (fun c2 => ?_) (fun c2 => ?_)
    · have F := F.1 c2
      refine pv_iconst (v := 0) (by decide) dX8_has_28 ?_
      exact pv_ireturn dX8_has_29 rfl (by decide) F
    · have F := F.2 c2
      refine pv_iload_n dX8_has_12 rfl ?_
      refine pv_if_lt (tgt := 28) dX8_has_13 (by decide) (fun c3 => ?_) (fun c3 => ?_)
      · have F := F.1 c3
        refine pv_iconst (v := 0) (by decide) dX8_has_28 ?_
        exact pv_ireturn dX8_has_29 rfl (by decide) F
      · have F := F.2 c3
        refine pv_iload_n dX8_has_16 rfl ?_
        refine pv_aload_n dX8_has_17 rfl ?_
        obtain ⟨q2, F⟩ := F
        refine pv_getI 8 1 dX8_has_18 fl_X8_15 rfl q2 ?_
        refine pv_icmp_ge (tgt := 28) dX8_has_21 (by decide) (fun c4 => ?_) (fun c4 => ?_)
        · have F := F.1 c4
          refine pv_iconst (v := 0) (by decide) dX8_has_28 ?_
          exact pv_ireturn dX8_has_29 rfl (by decide) F
        · have F := F.2 c4
          refine pv_iconst (v := 1) (by decide) dX8_has_24 ?_
          refine pv_goto (tgt := 29) dX8_has_25 (by decide) ?_
          exact pv_ireturn dX8_has_29 rfl (by decide) F
theorem ct_X8_has {Γ : pv_C} {d : Nat} {ty : pv_T} {h : pv_H} {r : pv_R} {g : pv_G} {a : Nat} {x y : Int32} (_ : 0 ≤ d) (ha : ty a = some (8, 0)) : pv_CT Γ d 0 0 mX8_has [.ref a, .int x, .int y] ty h r g (pv_is (.int (pf_b ((0 ≤ x ∧ x < h a 0) ∧ (0 ≤ y ∧ y < h a 1)))) ty h r g) := by
  refine pv_fn 0 pn_X8 rfl (Nat.le_of_ble_eq_true rfl) (sg_X8_has_0 a x y ?_)
  refine ⟨fun c1 => ?_, fun c1 => ⟨ha, fun c2 => ?_, fun c2 => ⟨fun c3 => ?_, fun c3 => ⟨ha, fun c4 => ?_, fun c4 => ?_⟩⟩⟩⟩
  · rw [pf_b_f (fun q => Int32.not_lt.mpr q.1.1 c1)]; exact pv_is_refl _ _ _ _ _
  · rw [pf_b_f (fun q => Int32.not_le.mpr q.1.2 c2)]; exact pv_is_refl _ _ _ _ _
  · rw [pf_b_f (fun q => Int32.not_lt.mpr q.2.1 c3)]; exact pv_is_refl _ _ _ _ _
  · rw [pf_b_f (fun q => Int32.not_le.mpr q.2.2 c4)]; exact pv_is_refl _ _ _ _ _
  · rw [pf_b_t ⟨⟨Int32.not_lt.mp c1, Int32.not_le.mp c2⟩, Int32.not_lt.mp c3, Int32.not_le.mp c4⟩]; exact pv_is_refl _ _ _ _ _
set_option maxRecDepth 20000 in
set_option maxHeartbeats 4000000 in
theorem sg_X8_placeOf_0 {Γ : pv_C} {d kc ks : Nat} {ty : pv_T} {h : pv_H} {r : pv_R} {g : pv_G} {Q : pv_Q} (a : Nat) (x : Int32) (y : Int32) (F : ty a = some (8, 0) ∧ Q (some (.int ((x * (h a 1)) + y))) ty h r g) : pv_E Γ d kc ks mX8_placeOf 0 [some (.ref a), some (.int x), some (.int y)] [] ty h r g Q := by
  refine pv_iload_n dX8_placeOf_0 rfl ?_
  refine pv_aload_n dX8_placeOf_1 rfl ?_
  obtain ⟨q1, F⟩ := F
  refine pv_getI 8 1 dX8_placeOf_2 fl_X8_15 rfl q1 ?_
  refine pv_imul dX8_placeOf_5 ?_
  refine pv_iload_n dX8_placeOf_6 rfl ?_
  refine pv_iadd dX8_placeOf_7 ?_
  exact pv_ireturn dX8_placeOf_8 rfl rfl F
theorem ct_X8_placeOf {Γ : pv_C} {d : Nat} {ty : pv_T} {h : pv_H} {r : pv_R} {g : pv_G} {a : Nat} {x y : Int32} (_ : 0 ≤ d) (ha : ty a = some (8, 0)) : pv_CT Γ d 0 0 mX8_placeOf [.ref a, .int x, .int y] ty h r g (pv_is (.int (x * h a 1 + y)) ty h r g) :=
  pv_fn 0 pn_X8 rfl (Nat.le_of_ble_eq_true rfl) (sg_X8_placeOf_0 a x y ⟨ha, pv_is_refl _ _ _ _ _⟩)
set_option maxRecDepth 20000 in
set_option maxHeartbeats 4000000 in
theorem sg_X8_rowOf_0 {Γ : pv_C} {d kc ks : Nat} {ty : pv_T} {h : pv_H} {r : pv_R} {g : pv_G} {Q : pv_Q} (a : Nat) (x : Int32) (F : ty a = some (8, 0) ∧ ((¬ (h a 1) = 0 → ty a = some (8, 0) ∧ ¬ (h a 1) = 0 ∧ Q (some (.int (x / (h a 1)))) ty h r g) ∧ ((h a 1) = 0 → Q (some (.int 0)) ty h r g))) : pv_E Γ d kc ks mX8_rowOf 0 [some (.ref a), some (.int x)] [] ty h r g Q := by
  refine pv_aload_n dX8_rowOf_0 rfl ?_
  obtain ⟨q1, F⟩ := F
  refine pv_getI 8 1 dX8_rowOf_1 fl_X8_15 rfl q1 ?_
  refine pv_if_ne (tgt := 11) dX8_rowOf_4 (by decide) (fun c1 => ?_) (fun c1 => ?_)
  · have F := F.1 c1
    refine pv_iload_n dX8_rowOf_11 rfl ?_
    refine pv_aload_n dX8_rowOf_12 rfl ?_
    obtain ⟨q2, F⟩ := F
    refine pv_getI 8 1 dX8_rowOf_13 fl_X8_15 rfl q2 ?_
    obtain ⟨q3, F⟩ := F
    refine pv_idiv q3 dX8_rowOf_16 ?_
    exact pv_ireturn dX8_rowOf_17 rfl rfl F
  · have F := F.2 c1
    refine pv_iconst (v := 0) (by decide) dX8_rowOf_7 ?_
    refine pv_goto (tgt := 17) dX8_rowOf_8 (by decide) ?_
    exact pv_ireturn dX8_rowOf_17 rfl rfl F
theorem ct_X8_rowOf {Γ : pv_C} {d : Nat} {ty : pv_T} {h : pv_H} {r : pv_R} {g : pv_G} {a : Nat} {x : Int32} (_ : 0 ≤ d) (ha : ty a = some (8, 0)) (hc : ¬ h a 1 = 0) : pv_CT Γ d 0 0 mX8_rowOf [.ref a, .int x] ty h r g (pv_is (.int (x / h a 1)) ty h r g) :=
  pv_fn 0 pn_X8 rfl (Nat.le_of_ble_eq_true rfl) (sg_X8_rowOf_0 a x ⟨ha, fun _ => ⟨ha, hc, pv_is_refl _ _ _ _ _⟩, fun q => absurd q hc⟩)
set_option maxRecDepth 20000 in
set_option maxHeartbeats 4000000 in
theorem sg_X8_columnOf_0 {Γ : pv_C} {d kc ks : Nat} {ty : pv_T} {h : pv_H} {r : pv_R} {g : pv_G} {Q : pv_Q} (a : Nat) (x : Int32) (F : ty a = some (8, 0) ∧ ((¬ (h a 1) = 0 → ty a = some (8, 0) ∧ ¬ (h a 1) = 0 ∧ Q (some (.int (x - x / (h a 1) * (h a 1)))) ty h r g) ∧ ((h a 1) = 0 → Q (some (.int 0)) ty h r g))) : pv_E Γ d kc ks mX8_columnOf 0 [some (.ref a), some (.int x)] [] ty h r g Q := by
  refine pv_aload_n dX8_columnOf_0 rfl ?_
  obtain ⟨q1, F⟩ := F
  refine pv_getI 8 1 dX8_columnOf_1 fl_X8_15 rfl q1 ?_
  refine pv_if_ne (tgt := 11) dX8_columnOf_4 (by decide) (fun c1 => ?_) (fun c1 => ?_)
  · have F := F.1 c1
    refine pv_iload_n dX8_columnOf_11 rfl ?_
    refine pv_aload_n dX8_columnOf_12 rfl ?_
    obtain ⟨q2, F⟩ := F
    refine pv_getI 8 1 dX8_columnOf_13 fl_X8_15 rfl q2 ?_
    obtain ⟨q3, F⟩ := F
    refine pv_irem q3 dX8_columnOf_16 ?_
    exact pv_ireturn dX8_columnOf_17 rfl rfl F
  · have F := F.2 c1
    refine pv_iconst (v := 0) (by decide) dX8_columnOf_7 ?_
    refine pv_goto (tgt := 17) dX8_columnOf_8 (by decide) ?_
    exact pv_ireturn dX8_columnOf_17 rfl rfl F
theorem ct_X8_columnOf {Γ : pv_C} {d : Nat} {ty : pv_T} {h : pv_H} {r : pv_R} {g : pv_G} {a : Nat} {x : Int32} (_ : 0 ≤ d) (ha : ty a = some (8, 0)) (hc : ¬ h a 1 = 0) : pv_CT Γ d 0 0 mX8_columnOf [.ref a, .int x] ty h r g (pv_is (.int (x - x / h a 1 * h a 1)) ty h r g) :=
  pv_fn 0 pn_X8 rfl (Nat.le_of_ble_eq_true rfl) (sg_X8_columnOf_0 a x ⟨ha, fun _ => ⟨ha, hc, pv_is_refl _ _ _ _ _⟩, fun q => absurd q hc⟩)
set_option maxRecDepth 20000 in
set_option maxHeartbeats 4000000 in
theorem sg_X8_lowerOf_0 {Γ : pv_C} {d kc ks : Nat} {ty : pv_T} {h : pv_H} {r : pv_R} {g : pv_G} {Q : pv_Q} (a : Nat) (x : Int32) (y : Int32) (z : Int32) (hd : 1 ≤ d) (F : ty a = some (8, 0) ∧ (ty a = some (8, 0)) ∧ ((¬ (pf_b ((0 ≤ y ∧ y < h a 0) ∧ (0 ≤ z ∧ z < h a 1))) = 0 → ty a = some (8, 0) ∧ (ty a = some (8, 0)) ∧ ty a = some (8, 0) ∧ pv_inb ty (r a 2) 20 (y * h a 1 + z) ∧ ty a = some (8, 0) ∧ pv_inb ty (r a 2) 20 x ∧ (((h (r a 2) (Int32.toNatClampNeg x)) ≤ (h (r a 2) (Int32.toNatClampNeg (y * h a 1 + z))) → Q (some (.int x)) ty h r g) ∧ (¬ (h (r a 2) (Int32.toNatClampNeg x)) ≤ (h (r a 2) (Int32.toNatClampNeg (y * h a 1 + z))) → Q (some (.int (y * h a 1 + z))) ty h r g))) ∧ ((pf_b ((0 ≤ y ∧ y < h a 0) ∧ (0 ≤ z ∧ z < h a 1))) = 0 → Q (some (.int x)) ty h r g))) : pv_E Γ d kc ks mX8_lowerOf 0 [some (.ref a), some (.int x), some (.int y), some (.int z), none] [] ty h r g Q := by
  refine pv_aload_n dX8_lowerOf_0 rfl ?_
  refine pv_iload_n dX8_lowerOf_1 rfl ?_
  refine pv_iload_n dX8_lowerOf_2 rfl ?_
  obtain ⟨q1, F⟩ := F
  obtain ⟨q2, F⟩ := F
  refine pv_invV (As := [.int y, .int z]) (d' := d - 1) dX8_lowerOf_3 moX8_has ml_X8_45 q1 (Or.inl ⟨_, rfl, rfl⟩) (Nat.le_of_ble_eq_true rfl) (by omega) (Nat.zero_le _) (Nat.zero_le _) (ct_X8_has (by omega) q2) (fun v ty' h' r' g' hq => ?_) rfl
  obtain ⟨e1, e2, e3, e4, e5⟩ := hq
  rw [e1, e2, e3, e4, e5]
  refine pv_pc (pc' := 6) rfl ?_
  show pv_E Γ d kc ks mX8_lowerOf 6 [some (.ref a), some (.int x), some (.int y), some (.int z), none] [.int (pf_b ((0 ≤ y ∧ y < h a 0) ∧ (0 ≤ z ∧ z < h a 1)))] ty h r g Q
  refine pv_if_ne (tgt := 11) dX8_lowerOf_6 (by decide) (fun c1 => ?_) (fun c1 => ?_)
  · have F := F.1 c1
    refine pv_aload_n dX8_lowerOf_11 rfl ?_
    refine pv_iload_n dX8_lowerOf_12 rfl ?_
    refine pv_iload_n dX8_lowerOf_13 rfl ?_
    obtain ⟨q3, F⟩ := F
    obtain ⟨q4, F⟩ := F
    refine pv_invV (As := [.int y, .int z]) (d' := d - 1) dX8_lowerOf_14 moX8_placeOf ml_X8_49 q3 (Or.inl ⟨_, rfl, rfl⟩) (Nat.le_of_ble_eq_true rfl) (by omega) (Nat.zero_le _) (Nat.zero_le _) (ct_X8_placeOf (by omega) q4) (fun v ty' h' r' g' hq => ?_) rfl
    obtain ⟨e1, e2, e3, e4, e5⟩ := hq
    rw [e1, e2, e3, e4, e5]
    refine pv_pc (pc' := 17) rfl ?_
    show pv_E Γ d kc ks mX8_lowerOf 17 [some (.ref a), some (.int x), some (.int y), some (.int z), none] [.int (y * h a 1 + z)] ty h r g Q
    refine pv_istore (ls' := [some (.ref a), some (.int x), some (.int y), some (.int z), some (.int (y * h a 1 + z))]) dX8_lowerOf_17 (by decide) rfl rfl ?_
    refine pv_aload_n dX8_lowerOf_19 rfl ?_
    obtain ⟨q5, F⟩ := F
    refine pv_getR 8 2 dX8_lowerOf_20 fl_X8_18 rfl q5 ?_
    refine pv_iload dX8_lowerOf_23 rfl ?_
    obtain ⟨q6, F⟩ := F
    obtain ⟨q6n, q6t, q6i⟩ := q6
    refine pv_iald dX8_lowerOf_25 q6t q6i ?_
    refine pv_aload_n dX8_lowerOf_26 rfl ?_
    obtain ⟨q7, F⟩ := F
    refine pv_getR 8 2 dX8_lowerOf_27 fl_X8_18 rfl q7 ?_
    refine pv_iload_n dX8_lowerOf_30 rfl ?_
    obtain ⟨q8, F⟩ := F
    obtain ⟨q8n, q8t, q8i⟩ := q8
    refine pv_iald dX8_lowerOf_31 q8t q8i ?_
    refine pv_icmp_ge (tgt := 40) dX8_lowerOf_32 (by decide) (fun c2 => ?_) (fun c2 => ?_)
    · have F := F.1 c2
      refine pv_iload_n dX8_lowerOf_40 rfl ?_
      exact pv_ireturn dX8_lowerOf_41 rfl rfl F
    · have F := F.2 c2
      refine pv_iload dX8_lowerOf_35 rfl ?_
      refine pv_goto (tgt := 41) dX8_lowerOf_37 (by decide) ?_
      exact pv_ireturn dX8_lowerOf_41 rfl rfl F
  · have F := F.2 c1
    refine pv_iload_n dX8_lowerOf_9 rfl ?_
    exact pv_ireturn dX8_lowerOf_10 rfl rfl F
set_option maxRecDepth 20000 in
set_option maxHeartbeats 4000000 in
theorem sg_X8_nextOfWater_0 {Γ : pv_C} {d kc ks : Nat} {ty : pv_T} {h : pv_H} {r : pv_R} {g : pv_G} {Q : pv_Q} (a : Nat) (x : Int32) (hd : 1 ≤ d) (F : ty a = some (8, 0) ∧ pv_inb ty (r a 3) 20 x ∧ ((¬ (h (r a 3) (Int32.toNatClampNeg x)) = 1 → ty a = some (8, 0) ∧ (ty a = some (8, 0)) ∧ (¬ h a 1 = 0) ∧ ty a = some (8, 0) ∧ (ty a = some (8, 0)) ∧ (¬ h a 1 = 0) ∧ ty a = some (8, 0) ∧ pv_CT Γ (d - 1) 0 0 mX8_lowerOf [.ref a, .int x, .int ((x / h a 1) - 1), .int (x - x / h a 1 * h a 1)] ty h r g (fun (v1 : Option Value) (ty1 : pv_T) (h1 : pv_H) (r1 : pv_R) (g1 : pv_G) => ∃ w1 : Int32, v1 = some (.int w1) ∧ ty1 a = some (8, 0) ∧ pv_CT Γ (d - 1) 0 0 mX8_lowerOf [.ref a, .int w1, .int (x / h a 1), .int ((x - x / h a 1 * h a 1) - 1)] ty1 h1 r1 g1 (fun (v2 : Option Value) (ty2 : pv_T) (h2 : pv_H) (r2 : pv_R) (g2 : pv_G) => ∃ w2 : Int32, v2 = some (.int w2) ∧ ty2 a = some (8, 0) ∧ pv_CT Γ (d - 1) 0 0 mX8_lowerOf [.ref a, .int w2, .int (x / h a 1), .int ((x - x / h a 1 * h a 1) + 1)] ty2 h2 r2 g2 (fun (v3 : Option Value) (ty3 : pv_T) (h3 : pv_H) (r3 : pv_R) (g3 : pv_G) => ∃ w3 : Int32, v3 = some (.int w3) ∧ ty3 a = some (8, 0) ∧ pv_CT Γ (d - 1) 0 0 mX8_lowerOf [.ref a, .int w3, .int ((x / h a 1) + 1), .int (x - x / h a 1 * h a 1)] ty3 h3 r3 g3 (fun (v4 : Option Value) (ty4 : pv_T) (h4 : pv_H) (r4 : pv_R) (g4 : pv_G) => ∃ w4 : Int32, v4 = some (.int w4) ∧ Q (some (.int w4)) ty4 h4 r4 g4))))) ∧ ((h (r a 3) (Int32.toNatClampNeg x)) = 1 → Q (some (.int x)) ty h r g))) : pv_E Γ d kc ks mX8_nextOfWater 0 [some (.ref a), some (.int x), none, none, none] [] ty h r g Q := by
  refine pv_aload_n dX8_nextOfWater_0 rfl ?_
  obtain ⟨q1, F⟩ := F
  refine pv_getR 8 3 dX8_nextOfWater_1 fl_X8_28 rfl q1 ?_
  refine pv_iload_n dX8_nextOfWater_4 rfl ?_
  obtain ⟨q2, F⟩ := F
  obtain ⟨q2n, q2t, q2i⟩ := q2
  refine pv_iald dX8_nextOfWater_5 q2t q2i ?_
  refine pv_iconst (v := 1) (by decide) dX8_nextOfWater_6 ?_
  refine pv_icmp_ne (tgt := 12) dX8_nextOfWater_7 (by decide) (fun c1 => ?_) (fun c1 => ?_)
  · have F := F.1 c1
    refine pv_aload_n dX8_nextOfWater_12 rfl ?_
    refine pv_iload_n dX8_nextOfWater_13 rfl ?_
    obtain ⟨q3, F⟩ := F
    obtain ⟨q4, F⟩ := F
    obtain ⟨q5, F⟩ := F
    refine pv_invV (As := [.int x]) (d' := d - 1) dX8_nextOfWater_14 moX8_rowOf ml_X8_34 q3 (Or.inl ⟨_, rfl, rfl⟩) (Nat.le_of_ble_eq_true rfl) (by omega) (Nat.zero_le _) (Nat.zero_le _) (ct_X8_rowOf (by omega) q4 q5) (fun v ty' h' r' g' hq => ?_) rfl
    obtain ⟨e1, e2, e3, e4, e5⟩ := hq
    rw [e1, e2, e3, e4, e5]
    refine pv_pc (pc' := 17) rfl ?_
    show pv_E Γ d kc ks mX8_nextOfWater 17 [some (.ref a), some (.int x), none, none, none] [.int (x / h a 1)] ty h r g Q
    refine pv_istore_n (ls' := [some (.ref a), some (.int x), some (.int (x / h a 1)), none, none]) dX8_nextOfWater_17 (by decide) rfl rfl ?_
    refine pv_aload_n dX8_nextOfWater_18 rfl ?_
    refine pv_iload_n dX8_nextOfWater_19 rfl ?_
    obtain ⟨q6, F⟩ := F
    obtain ⟨q7, F⟩ := F
    obtain ⟨q8, F⟩ := F
    refine pv_invV (As := [.int x]) (d' := d - 1) dX8_nextOfWater_20 moX8_columnOf ml_X8_38 q6 (Or.inl ⟨_, rfl, rfl⟩) (Nat.le_of_ble_eq_true rfl) (by omega) (Nat.zero_le _) (Nat.zero_le _) (ct_X8_columnOf (by omega) q7 q8) (fun v ty' h' r' g' hq => ?_) rfl
    obtain ⟨e1, e2, e3, e4, e5⟩ := hq
    rw [e1, e2, e3, e4, e5]
    refine pv_pc (pc' := 23) rfl ?_
    show pv_E Γ d kc ks mX8_nextOfWater 23 [some (.ref a), some (.int x), some (.int (x / h a 1)), none, none] [.int (x - x / h a 1 * h a 1)] ty h r g Q
    refine pv_istore_n (ls' := [some (.ref a), some (.int x), some (.int (x / h a 1)), some (.int (x - x / h a 1 * h a 1)), none]) dX8_nextOfWater_23 (by decide) rfl rfl ?_
    refine pv_aload_n dX8_nextOfWater_24 rfl ?_
    refine pv_iload_n dX8_nextOfWater_25 rfl ?_
    refine pv_iload_n dX8_nextOfWater_26 rfl ?_
    refine pv_iconst (v := 1) (by decide) dX8_nextOfWater_27 ?_
    refine pv_isub dX8_nextOfWater_28 ?_
    refine pv_pc (pc' := 29) rfl ?_
    refine pv_iload_n dX8_nextOfWater_29 rfl ?_
    obtain ⟨q9, F⟩ := F
    refine pv_invV (As := [.int x, .int ((x / h a 1) - 1), .int (x - x / h a 1 * h a 1)]) (d' := d - 1) dX8_nextOfWater_30 moX8_lowerOf ml_X8_41 q9 (Or.inl ⟨_, rfl, rfl⟩) (Nat.le_of_ble_eq_true rfl) (by omega) (Nat.zero_le _) (Nat.zero_le _) F (fun v1 ty1 h1 r1 g1 F => ?_) rfl
    obtain ⟨w1, rfl, F⟩ := F
    refine pv_pc (pc' := 33) rfl ?_
    show pv_E Γ d kc ks mX8_nextOfWater 33 [some (.ref a), some (.int x), some (.int (x / h a 1)), some (.int (x - x / h a 1 * h a 1)), none] [.int w1] ty1 h1 r1 g1 Q
    refine pv_istore (ls' := [some (.ref a), some (.int x), some (.int (x / h a 1)), some (.int (x - x / h a 1 * h a 1)), some (.int w1)]) dX8_nextOfWater_33 (by decide) rfl rfl ?_
    refine pv_aload_n dX8_nextOfWater_35 rfl ?_
    refine pv_iload dX8_nextOfWater_36 rfl ?_
    refine pv_iload_n dX8_nextOfWater_38 rfl ?_
    refine pv_iload_n dX8_nextOfWater_39 rfl ?_
    refine pv_iconst (v := 1) (by decide) dX8_nextOfWater_40 ?_
    refine pv_pc (pc' := 41) rfl ?_
    refine pv_isub dX8_nextOfWater_41 ?_
    obtain ⟨q10, F⟩ := F
    refine pv_invV (As := [.int w1, .int (x / h a 1), .int ((x - x / h a 1 * h a 1) - 1)]) (d' := d - 1) dX8_nextOfWater_42 moX8_lowerOf ml_X8_41 q10 (Or.inl ⟨_, rfl, rfl⟩) (Nat.le_of_ble_eq_true rfl) (by omega) (Nat.zero_le _) (Nat.zero_le _) F (fun v2 ty2 h2 r2 g2 F => ?_) rfl
    obtain ⟨w2, rfl, F⟩ := F
    refine pv_pc (pc' := 45) rfl ?_
    show pv_E Γ d kc ks mX8_nextOfWater 45 [some (.ref a), some (.int x), some (.int (x / h a 1)), some (.int (x - x / h a 1 * h a 1)), some (.int w1)] [.int w2] ty2 h2 r2 g2 Q
    refine pv_istore (ls' := [some (.ref a), some (.int x), some (.int (x / h a 1)), some (.int (x - x / h a 1 * h a 1)), some (.int w2)]) dX8_nextOfWater_45 (by decide) rfl rfl ?_
    refine pv_aload_n dX8_nextOfWater_47 rfl ?_
    refine pv_iload dX8_nextOfWater_48 rfl ?_
    refine pv_iload_n dX8_nextOfWater_50 rfl ?_
    refine pv_iload_n dX8_nextOfWater_51 rfl ?_
    refine pv_iconst (v := 1) (by decide) dX8_nextOfWater_52 ?_
    refine pv_pc (pc' := 53) rfl ?_
    refine pv_iadd dX8_nextOfWater_53 ?_
    obtain ⟨q11, F⟩ := F
    refine pv_invV (As := [.int w2, .int (x / h a 1), .int ((x - x / h a 1 * h a 1) + 1)]) (d' := d - 1) dX8_nextOfWater_54 moX8_lowerOf ml_X8_41 q11 (Or.inl ⟨_, rfl, rfl⟩) (Nat.le_of_ble_eq_true rfl) (by omega) (Nat.zero_le _) (Nat.zero_le _) F (fun v3 ty3 h3 r3 g3 F => ?_) rfl
    obtain ⟨w3, rfl, F⟩ := F
    refine pv_pc (pc' := 57) rfl ?_
    show pv_E Γ d kc ks mX8_nextOfWater 57 [some (.ref a), some (.int x), some (.int (x / h a 1)), some (.int (x - x / h a 1 * h a 1)), some (.int w2)] [.int w3] ty3 h3 r3 g3 Q
    refine pv_istore (ls' := [some (.ref a), some (.int x), some (.int (x / h a 1)), some (.int (x - x / h a 1 * h a 1)), some (.int w3)]) dX8_nextOfWater_57 (by decide) rfl rfl ?_
    refine pv_aload_n dX8_nextOfWater_59 rfl ?_
    refine pv_iload dX8_nextOfWater_60 rfl ?_
    refine pv_iload_n dX8_nextOfWater_62 rfl ?_
    refine pv_iconst (v := 1) (by decide) dX8_nextOfWater_63 ?_
    refine pv_iadd dX8_nextOfWater_64 ?_
    refine pv_pc (pc' := 65) rfl ?_
    refine pv_iload_n dX8_nextOfWater_65 rfl ?_
    obtain ⟨q12, F⟩ := F
    refine pv_invV (As := [.int w3, .int ((x / h a 1) + 1), .int (x - x / h a 1 * h a 1)]) (d' := d - 1) dX8_nextOfWater_66 moX8_lowerOf ml_X8_41 q12 (Or.inl ⟨_, rfl, rfl⟩) (Nat.le_of_ble_eq_true rfl) (by omega) (Nat.zero_le _) (Nat.zero_le _) F (fun v4 ty4 h4 r4 g4 F => ?_) rfl
    obtain ⟨w4, rfl, F⟩ := F
    refine pv_pc (pc' := 69) rfl ?_
    show pv_E Γ d kc ks mX8_nextOfWater 69 [some (.ref a), some (.int x), some (.int (x / h a 1)), some (.int (x - x / h a 1 * h a 1)), some (.int w3)] [.int w4] ty4 h4 r4 g4 Q
    exact pv_ireturn dX8_nextOfWater_69 rfl rfl F
  · have F := F.2 c1
    refine pv_iload_n dX8_nextOfWater_10 rfl ?_
    exact pv_ireturn dX8_nextOfWater_11 rfl rfl F
set_option maxRecDepth 20000 in
set_option maxHeartbeats 4000000 in
theorem sg_X8_endOfWater_0 {Γ : pv_C} {d kc ks : Nat} {ty : pv_T} {h : pv_H} {r : pv_R} {g : pv_G} {Q : pv_Q} (a : Nat) (x : Int32) (F : pv_E Γ d kc ks mX8_endOfWater 4 [some (.ref a), none, some (.int x), some (.int 0), none] [] ty h r g Q) : pv_E Γ d kc ks mX8_endOfWater 0 [some (.ref a), some (.int x), none, none, none] [] ty h r g Q := by
  refine pv_iload_n dX8_endOfWater_0 rfl ?_
  refine pv_istore_n (ls' := [some (.ref a), some (.int x), some (.int x), none, none]) dX8_endOfWater_1 (by decide) rfl rfl ?_
  refine pv_iconst (v := 0) (by decide) dX8_endOfWater_2 ?_
  refine pv_istore_n (ls' := [some (.ref a), some (.int x), some (.int x), some (.int 0), none]) dX8_endOfWater_3 (by decide) rfl rfl ?_
  refine pv_forgetL (ls' := [some (.ref a), none, some (.int x), some (.int 0), none]) (pv_subL_ok ⟨rfl, ⟨rfl, ⟨rfl, trivial⟩⟩⟩) ?_
  exact F
set_option maxRecDepth 20000 in
set_option maxHeartbeats 4000000 in
theorem sg_X8_endOfWater_4 {Γ : pv_C} {d kc ks : Nat} {ty : pv_T} {h : pv_H} {r : pv_R} {g : pv_G} {Q : pv_Q} (a0 : Nat) (x2 : Int32) (x3 : Int32) (hd : 1 ≤ d) (F : ((144 ≤ x3 → Q (some (.int x2)) ty h r g) ∧ (¬ 144 ≤ x3 → ty a0 = some (8, 0) ∧ pv_CT Γ (d - 1) 0 0 mX8_nextOfWater [.ref a0, .int x2] ty h r g (fun (v1 : Option Value) (ty1 : pv_T) (h1 : pv_H) (r1 : pv_R) (g1 : pv_G) => ∃ w1 : Int32, v1 = some (.int w1) ∧ ((¬ w1 = x2 → pv_E Γ d kc ks mX8_endOfWater 4 [some (.ref a0), none, some (.int w1), some (.int (x3 + 1)), none] [] ty1 h1 r1 g1 Q) ∧ (w1 = x2 → Q (some (.int x2)) ty1 h1 r1 g1)))))) : pv_E Γ d kc ks mX8_endOfWater 4 [some (.ref a0), none, some (.int x2), some (.int x3), none] [] ty h r g Q := by
  refine pv_iload_n dX8_endOfWater_4 rfl ?_
  refine pv_sipush (v := 144) (by decide) dX8_endOfWater_5 ?_
  refine pv_icmp_ge (tgt := 35) dX8_endOfWater_8 (by decide) (fun c1 => ?_) (fun c1 => ?_)
  · have F := F.1 c1
    refine pv_iload_n dX8_endOfWater_35 rfl ?_
    exact pv_ireturn dX8_endOfWater_36 rfl rfl F
  · have F := F.2 c1
    refine pv_aload_n dX8_endOfWater_11 rfl ?_
    refine pv_iload_n dX8_endOfWater_12 rfl ?_
    obtain ⟨q1, F⟩ := F
    refine pv_invV (As := [.int x2]) (d' := d - 1) dX8_endOfWater_13 moX8_nextOfWater ml_X8_53 q1 (Or.inl ⟨_, rfl, rfl⟩) (Nat.le_of_ble_eq_true rfl) (by omega) (Nat.zero_le _) (Nat.zero_le _) F (fun v1 ty1 h1 r1 g1 F => ?_) rfl
    obtain ⟨w1, rfl, F⟩ := F
    refine pv_pc (pc' := 16) rfl ?_
    show pv_E Γ d kc ks mX8_endOfWater 16 [some (.ref a0), none, some (.int x2), some (.int x3), none] [.int w1] ty1 h1 r1 g1 Q
    refine pv_istore (ls' := [some (.ref a0), none, some (.int x2), some (.int x3), some (.int w1)]) dX8_endOfWater_16 (by decide) rfl rfl ?_
    refine pv_iload dX8_endOfWater_18 rfl ?_
    refine pv_iload_n dX8_endOfWater_20 rfl ?_
    refine pv_icmp_ne (tgt := 26) dX8_endOfWater_21 (by decide) (fun c2 => ?_) (fun c2 => ?_)
    · have F := F.1 c2
      refine pv_iload dX8_endOfWater_26 rfl ?_
      refine pv_istore_n (ls' := [some (.ref a0), none, some (.int w1), some (.int x3), some (.int w1)]) dX8_endOfWater_28 (by decide) rfl rfl ?_
      refine pv_iinc (v := x3 + 1) (ls' := [some (.ref a0), none, some (.int w1), some (.int (x3 + 1)), some (.int w1)]) dX8_endOfWater_29 rfl (by rfl) rfl rfl ?_
      refine pv_goto (tgt := 4) dX8_endOfWater_32 (by decide) ?_
      refine pv_forgetL (ls' := [some (.ref a0), none, some (.int w1), some (.int (x3 + 1)), none]) (pv_subL_ok ⟨rfl, ⟨rfl, ⟨rfl, trivial⟩⟩⟩) ?_
      exact F
    · have F := F.2 c2
      refine pv_iload_n dX8_endOfWater_24 rfl ?_
      exact pv_ireturn dX8_endOfWater_25 rfl rfl F
