/-! String.indexOf on the two text constants -/
set_option maxRecDepth 20000 in
set_option maxHeartbeats 4000000 in
theorem sg_J0_isLatin1_aae02_0 {Γ : pv_C} {d kc ks : Nat} {ty : pv_T} {h : pv_H} {r : pv_R} {g : pv_G} {Q : pv_Q} (a : Nat) (F : ty a = some (30, 0) ∧ Q (some (.int 1)) ty h r g) : pv_E Γ d kc ks mJ0_isLatin1_aae02 0 [some (.ref a)] [] ty h r g Q := by
  refine pv_getCS dJ0_isLatin1_aae02_0 fl_J0_38 ?_
  refine pv_if_eq (tgt := 17) dJ0_isLatin1_aae02_3 (by decide) (fun c1 => absurd c1 (by decide)) (fun c1 => ?_)
  refine pv_aload_n dJ0_isLatin1_aae02_6 rfl ?_
  obtain ⟨q1, F⟩ := F
  refine pv_getSc dJ0_isLatin1_aae02_7 fl_J0_15 q1 ?_
  refine pv_if_ne (tgt := 17) dJ0_isLatin1_aae02_10 (by decide) (fun c2 => absurd c2 (by decide)) (fun c2 => ?_)
  refine pv_iconst (v := 1) (by decide) dJ0_isLatin1_aae02_13 ?_
  refine pv_goto (tgt := 18) dJ0_isLatin1_aae02_14 (by decide) ?_
  exact pv_ireturn dJ0_isLatin1_aae02_18 rfl (by decide) F
set_option maxRecDepth 20000 in
set_option maxHeartbeats 4000000 in
theorem sg_J0_coder_7d493_0 {Γ : pv_C} {d kc ks : Nat} {ty : pv_T} {h : pv_H} {r : pv_R} {g : pv_G} {Q : pv_Q} (a : Nat) (F : ty a = some (30, 0) ∧ Q (some (.int 0)) ty h r g) : pv_E Γ d kc ks mJ0_coder_7d493 0 [some (.ref a)] [] ty h r g Q := by
  refine pv_getCS dJ0_coder_7d493_0 fl_J0_38 ?_
  refine pv_if_eq (tgt := 13) dJ0_coder_7d493_3 (by decide) (fun c1 => absurd c1 (by decide)) (fun c1 => ?_)
  refine pv_aload_n dJ0_coder_7d493_6 rfl ?_
  obtain ⟨q1, F⟩ := F
  refine pv_getSc dJ0_coder_7d493_7 fl_J0_15 q1 ?_
  refine pv_goto (tgt := 14) dJ0_coder_7d493_10 (by decide) ?_
  exact pv_ireturn dJ0_coder_7d493_14 rfl (by decide) F
set_option maxRecDepth 20000 in
set_option maxHeartbeats 4000000 in
theorem sg_J1_canEncode_9a6ad_0 {Γ : pv_C} {d kc ks : Nat} {ty : pv_T} {h : pv_H} {r : pv_R} {g : pv_G} {Q : pv_Q} (x : Int32) (F : ((x < 0 → Q (some (.int 0)) ty h r g) ∧ (¬ x < 0 → ((255 < x → Q (some (.int 0)) ty h r g) ∧ (¬ 255 < x → Q (some (.int 1)) ty h r g))))) : pv_E Γ d kc ks mJ1_canEncode_9a6ad 0 [some (.int x)] [] ty h r g Q := by
  refine pv_iload_n dJ1_canEncode_9a6ad_0 rfl ?_
  refine pv_if_lt (tgt := 15) dJ1_canEncode_9a6ad_1 (by decide) (fun c1 => ?_) (fun c1 => ?_)
  · have F := F.1 c1
    refine pv_iconst (v := 0) (by decide) dJ1_canEncode_9a6ad_15 ?_
    exact pv_ireturn dJ1_canEncode_9a6ad_16 rfl (by decide) F
  · have F := F.2 c1
    refine pv_iload_n dJ1_canEncode_9a6ad_4 rfl ?_
    refine pv_sipush (v := 255) (by decide) dJ1_canEncode_9a6ad_5 ?_
    refine pv_icmp_gt (tgt := 15) dJ1_canEncode_9a6ad_8 (by decide) (fun c2 => ?_) (fun c2 => ?_)
    · have F := F.1 c2
      refine pv_iconst (v := 0) (by decide) dJ1_canEncode_9a6ad_15 ?_
      exact pv_ireturn dJ1_canEncode_9a6ad_16 rfl (by decide) F
    · have F := F.2 c2
      refine pv_iconst (v := 1) (by decide) dJ1_canEncode_9a6ad_11 ?_
      refine pv_goto (tgt := 16) dJ1_canEncode_9a6ad_12 (by decide) ?_
      exact pv_ireturn dJ1_canEncode_9a6ad_16 rfl (by decide) F
set_option maxRecDepth 20000 in
set_option maxHeartbeats 4000000 in
theorem sg_J1_indexOfChar_4cfef_0 {Γ : pv_C} {d kc ks : Nat} {ty : pv_T} {h : pv_H} {r : pv_R} {g : pv_G} {Q : pv_Q} (x : Nat) (y : Int32) (z : Int32) (u : Int32) (F : pv_E Γ d kc ks mJ1_indexOfChar_4cfef 7 [some (.ref x), none, none, some (.int u), some (.int (((y : Int32)).toInt8.toInt32)), some (.int z)] [] ty h r g Q) : pv_E Γ d kc ks mJ1_indexOfChar_4cfef 0 [some (.ref x), some (.int y), some (.int z), some (.int u), none, none] [] ty h r g Q := by
  refine pv_iload_n dJ1_indexOfChar_4cfef_0 rfl ?_
  refine pv_i2b dJ1_indexOfChar_4cfef_1 ?_
  refine pv_istore (ls' := [some (.ref x), some (.int y), some (.int z), some (.int u), some (.int (((y : Int32)).toInt8.toInt32)), none]) dJ1_indexOfChar_4cfef_2 (by decide) rfl rfl ?_
  refine pv_iload_n dJ1_indexOfChar_4cfef_4 rfl ?_
  refine pv_istore (ls' := [some (.ref x), some (.int y), some (.int z), some (.int u), some (.int (((y : Int32)).toInt8.toInt32)), some (.int z)]) dJ1_indexOfChar_4cfef_5 (by decide) rfl rfl ?_
  refine pv_forgetL (ls' := [some (.ref x), none, none, some (.int u), some (.int (((y : Int32)).toInt8.toInt32)), some (.int z)]) (pv_subL_ok ⟨rfl, ⟨rfl, ⟨rfl, ⟨rfl, trivial⟩⟩⟩⟩) ?_
  exact F
set_option maxRecDepth 20000 in
set_option maxHeartbeats 4000000 in
theorem sg_J1_indexOfChar_4cfef_7 {Γ : pv_C} {d kc ks : Nat} {ty : pv_T} {h : pv_H} {r : pv_R} {g : pv_G} {Q : pv_Q} (a0 : Nat) (x3 : Int32) (x4 : Int32) (x5 : Int32) (F : ((x3 ≤ x5 → Q (some (.int (-1))) ty h r g) ∧ (¬ x3 ≤ x5 → pv_inb ty a0 21 x5 ∧ ((¬ (h a0 (Int32.toNatClampNeg x5)) = x4 → pv_E Γ d kc ks mJ1_indexOfChar_4cfef 7 [some (.ref a0), none, none, some (.int x3), some (.int x4), some (.int (x5 + 1))] [] ty h r g Q) ∧ ((h a0 (Int32.toNatClampNeg x5)) = x4 → Q (some (.int x5)) ty h r g))))) : pv_E Γ d kc ks mJ1_indexOfChar_4cfef 7 [some (.ref a0), none, none, some (.int x3), some (.int x4), some (.int x5)] [] ty h r g Q := by
  refine pv_iload dJ1_indexOfChar_4cfef_7 rfl ?_
  refine pv_iload_n dJ1_indexOfChar_4cfef_9 rfl ?_
  refine pv_icmp_ge (tgt := 31) dJ1_indexOfChar_4cfef_10 (by decide) (fun c1 => ?_) (fun c1 => ?_)
  · have F := F.1 c1
    refine pv_iconst (v := (-1)) (by decide) dJ1_indexOfChar_4cfef_31 ?_
    exact pv_ireturn dJ1_indexOfChar_4cfef_32 rfl rfl F
  · have F := F.2 c1
    refine pv_aload_n dJ1_indexOfChar_4cfef_13 rfl ?_
    refine pv_iload dJ1_indexOfChar_4cfef_14 rfl ?_
    obtain ⟨q1, F⟩ := F
    obtain ⟨q1n, q1t, q1i⟩ := q1
    refine pv_bald dJ1_indexOfChar_4cfef_16 q1t q1i ?_
    refine pv_iload dJ1_indexOfChar_4cfef_17 rfl ?_
    refine pv_icmp_ne (tgt := 25) dJ1_indexOfChar_4cfef_19 (by decide) (fun c2 => ?_) (fun c2 => ?_)
    · have F := F.1 c2
      refine pv_iinc (v := x5 + 1) (ls' := [some (.ref a0), none, none, some (.int x3), some (.int x4), some (.int (x5 + 1))]) dJ1_indexOfChar_4cfef_25 rfl (by rfl) rfl rfl ?_
      refine pv_goto (tgt := 7) dJ1_indexOfChar_4cfef_28 (by decide) ?_
      exact F
    · have F := F.2 c2
      refine pv_iload dJ1_indexOfChar_4cfef_22 rfl ?_
      exact pv_ireturn dJ1_indexOfChar_4cfef_24 rfl rfl F
section IX
variable {Γ : pv_C} {d kc ks : Nat} {ty : pv_T} {h : pv_H} {r : pv_R} {g : pv_G} {Q : pv_Q} {i : Nat}
theorem ct_isLatin1 {a : Nat} (_ : 0 ≤ d) (ha : ty a = some (30, 0)) : pv_CT Γ d 0 0 mJ0_isLatin1_aae02 [.ref a] ty h r g (pv_is (.int 1) ty h r g) := pv_fn 0 pn_J0 rfl (Nat.le_of_ble_eq_true rfl) (sg_J0_isLatin1_aae02_0 a ⟨ha, pv_is_refl _ _ _ _ _⟩)
theorem ct_coder {a : Nat} (_ : 0 ≤ d) (ha : ty a = some (30, 0)) : pv_CT Γ d 0 0 mJ0_coder_7d493 [.ref a] ty h r g (pv_is (.int 0) ty h r g) := pv_fn 0 pn_J0 rfl (Nat.le_of_ble_eq_true rfl) (sg_J0_coder_7d493_0 a ⟨ha, pv_is_refl _ _ _ _ _⟩)
theorem ct_canEncode {x : Int32} (_ : 0 ≤ d) : pv_CT Γ d 0 0 mJ1_canEncode_9a6ad [.int x] ty h r g (pv_is (.int (pf_b (0 ≤ x ∧ x ≤ 255))) ty h r g) := by
  refine pv_fn 0 pn_J1 rfl (Nat.le_of_ble_eq_true rfl) (sg_J1_canEncode_9a6ad_0 x ⟨fun c1 => ?_, fun c1 => ⟨fun c2 => ?_, fun c2 => ?_⟩⟩)
  · rw [pf_b_f (fun q => Int32.not_lt.mpr q.1 c1)]; exact pv_is_refl _ _ _ _ _
  · rw [pf_b_f (fun q => Int32.not_lt.mpr q.2 c2)]; exact pv_is_refl _ _ _ _ _
  · rw [pf_b_t ⟨Int32.not_lt.mp c1, Int32.not_lt.mp c2⟩]; exact pv_is_refl _ _ _ _ _
end IX
set_option maxRecDepth 20000 in
set_option maxHeartbeats 4000000 in
theorem sg_J0_length_8abf5_0 {Γ : pv_C} {d kc ks : Nat} {ty : pv_T} {h : pv_H} {r : pv_R} {g : pv_G} {Q : pv_Q} (a : Nat) (hd : 1 ≤ d) (F : ty a = some (30, 0) ∧ (∃ k1 n1 : Nat, ty (r a 0) = some (k1, n1) ∧ (20 ≤ k1 ∧ k1 ≤ 27) ∧ ty a = some (30, 0) ∧ (ty a = some (30, 0)) ∧ Q (some (.int ((nI n1) >>> (0 &&& 31)))) ty h r g)) : pv_E Γ d kc ks mJ0_length_8abf5 0 [some (.ref a)] [] ty h r g Q := by
  refine pv_aload_n dJ0_length_8abf5_0 rfl ?_
  obtain ⟨q1, F⟩ := F
  refine pv_getSv dJ0_length_8abf5_1 fl_J0_9 q1 ?_
  obtain ⟨k1, n1, q2, q2k, F⟩ := F
  refine pv_alen dJ0_length_8abf5_4 q2 q2k ?_
  refine pv_aload_n dJ0_length_8abf5_5 rfl ?_
  obtain ⟨q3, F⟩ := F
  obtain ⟨q4, F⟩ := F
  refine pv_invV (As := []) (d' := d - 1) dJ0_length_8abf5_6 moJ0_coder_7d493 ml_J0_335 q3 (Or.inr ⟨rfl, rfl⟩) (Nat.le_of_ble_eq_true rfl) (by omega) (Nat.zero_le _) (Nat.zero_le _) (ct_coder (by omega) q4) (fun v ty' h' r' g' hq => ?_) rfl
  obtain ⟨e1, e2, e3, e4, e5⟩ := hq
  rw [e1, e2, e3, e4, e5]
  refine pv_pc (pc' := 9) rfl ?_
  show pv_E Γ d kc ks mJ0_length_8abf5 9 [some (.ref a)] [.int 0, .int (nI n1)] ty h r g Q
  refine pv_ishr dJ0_length_8abf5_9 ?_
  exact pv_ireturn dJ0_length_8abf5_10 rfl rfl F
set_option maxRecDepth 20000 in
set_option maxHeartbeats 4000000 in
theorem sg_J1_indexOf_4cfef_0 {Γ : pv_C} {d kc ks : Nat} {ty : pv_T} {h : pv_H} {r : pv_R} {g : pv_G} {Q : pv_Q} (x : Nat) (y : Int32) (z : Int32) (u : Int32) (hd : 1 ≤ d) (F : ((¬ (pf_b (0 ≤ y ∧ y ≤ 255)) = 0 → (∃ k1 n1 : Nat, ty x = some (k1, n1) ∧ (20 ≤ k1 ∧ k1 ≤ 27) ∧ (((if z < 0 then 0 else z) < (if (nI n1) < u then (nI n1) else u) → pv_CT Γ (d - 1) 0 0 mJ1_indexOfChar_4cfef [.ref x, .int y, .int (if z < 0 then 0 else z), .int (if (nI n1) < u then (nI n1) else u)] ty h r g (fun (v1 : Option Value) (ty1 : pv_T) (h1 : pv_H) (r1 : pv_R) (g1 : pv_G) => ∃ w1 : Int32, v1 = some (.int w1) ∧ Q (some (.int w1)) ty1 h1 r1 g1)) ∧ (¬ (if z < 0 then 0 else z) < (if (nI n1) < u then (nI n1) else u) → Q (some (.int (-1))) ty h r g)))) ∧ ((pf_b (0 ≤ y ∧ y ≤ 255)) = 0 → Q (some (.int (-1))) ty h r g))) : pv_E Γ d kc ks mJ1_indexOf_4cfef 0 [some (.ref x), some (.int y), some (.int z), some (.int u)] [] ty h r g Q := by
  refine pv_iload_n dJ1_indexOf_4cfef_0 rfl ?_
  refine pv_invS (As := [.int y]) (d' := d - 1) dJ1_indexOf_4cfef_1 moJ1_canEncode_9a6ad ml_J1_88 (Nat.le_of_ble_eq_true rfl) (by omega) (Nat.zero_le _) (Nat.zero_le _) (ct_canEncode (by omega)) (fun v ty' h' r' g' hq => ?_) rfl
  obtain ⟨e1, e2, e3, e4, e5⟩ := hq
  rw [e1, e2, e3, e4, e5]
  refine pv_pc (pc' := 4) rfl ?_
  show pv_E Γ d kc ks mJ1_indexOf_4cfef 4 [some (.ref x), some (.int y), some (.int z), some (.int u)] [.int (pf_b (0 ≤ y ∧ y ≤ 255))] ty h r g Q
  refine pv_if_ne (tgt := 9) dJ1_indexOf_4cfef_4 (by decide) (fun c1 => ?_) (fun c1 => ?_)
  · have F := F.1 c1
    refine pv_iload_n dJ1_indexOf_4cfef_9 rfl ?_
    refine pv_iconst (v := 0) (by decide) dJ1_indexOf_4cfef_10 ?_
    refine pv_mmax dJ1_indexOf_4cfef_11 ml_J1_92 (by omega) (Nat.le_of_ble_eq_true rfl) ?_
    refine pv_istore_n (ls' := [some (.ref x), some (.int y), some (.int (if z < 0 then 0 else z)), some (.int u)]) dJ1_indexOf_4cfef_14 (by decide) rfl rfl ?_
    refine pv_iload_n dJ1_indexOf_4cfef_15 rfl ?_
    refine pv_aload_n dJ1_indexOf_4cfef_16 rfl ?_
    refine pv_pc (pc' := 17) rfl ?_
    obtain ⟨k1, n1, q1, q1k, F⟩ := F
    refine pv_alen dJ1_indexOf_4cfef_17 q1 q1k ?_
    refine pv_mmin dJ1_indexOf_4cfef_18 ml_J1_38 (by omega) (Nat.le_of_ble_eq_true rfl) ?_
    refine pv_istore_n (ls' := [some (.ref x), some (.int y), some (.int (if z < 0 then 0 else z)), some (.int (if (nI n1) < u then (nI n1) else u))]) dJ1_indexOf_4cfef_21 (by decide) rfl rfl ?_
    refine pv_iload_n dJ1_indexOf_4cfef_22 rfl ?_
    refine pv_iload_n dJ1_indexOf_4cfef_23 rfl ?_
    refine pv_icmp_lt (tgt := 29) dJ1_indexOf_4cfef_24 (by decide) (fun c2 => ?_) (fun c2 => ?_)
    · have F := F.1 c2
      refine pv_aload_n dJ1_indexOf_4cfef_29 rfl ?_
      refine pv_iload_n dJ1_indexOf_4cfef_30 rfl ?_
      refine pv_iload_n dJ1_indexOf_4cfef_31 rfl ?_
      refine pv_iload_n dJ1_indexOf_4cfef_32 rfl ?_
      refine pv_invS (As := [.ref x, .int y, .int (if z < 0 then 0 else z), .int (if (nI n1) < u then (nI n1) else u)]) (d' := d - 1) dJ1_indexOf_4cfef_33 moJ1_indexOfChar_4cfef ml_J1_95 (Nat.le_of_ble_eq_true rfl) (by omega) (Nat.zero_le _) (Nat.zero_le _) F (fun v1 ty1 h1 r1 g1 F => ?_) rfl
      obtain ⟨w1, rfl, F⟩ := F
      refine pv_pc (pc' := 36) rfl ?_
      show pv_E Γ d kc ks mJ1_indexOf_4cfef 36 [some (.ref x), some (.int y), some (.int (if z < 0 then 0 else z)), some (.int (if (nI n1) < u then (nI n1) else u))] [.int w1] ty1 h1 r1 g1 Q
      exact pv_ireturn dJ1_indexOf_4cfef_36 rfl rfl F
    · have F := F.2 c2
      refine pv_iconst (v := (-1)) (by decide) dJ1_indexOf_4cfef_27 ?_
      exact pv_ireturn dJ1_indexOf_4cfef_28 rfl rfl F
  · have F := F.2 c1
    refine pv_iconst (v := (-1)) (by decide) dJ1_indexOf_4cfef_7 ?_
    exact pv_ireturn dJ1_indexOf_4cfef_8 rfl rfl F
set_option maxRecDepth 20000 in
set_option maxHeartbeats 4000000 in
theorem sg_J0_indexOf_7cf53_0 {Γ : pv_C} {d kc ks : Nat} {ty : pv_T} {h : pv_H} {r : pv_R} {g : pv_G} {Q : pv_Q} (a : Nat) (x : Int32) (y : Int32) (hd : 1 ≤ d) (F : ty a = some (30, 0) ∧ (ty a = some (30, 0)) ∧ ty a = some (30, 0) ∧ ty a = some (30, 0) ∧ pv_CT Γ (d - 1) 0 0 mJ0_length_8abf5 [.ref a] ty h r g (fun (v1 : Option Value) (ty1 : pv_T) (h1 : pv_H) (r1 : pv_R) (g1 : pv_G) => ∃ w1 : Int32, v1 = some (.int w1) ∧ pv_CT Γ (d - 1) 0 0 mJ1_indexOf_4cfef [.ref (r a 0), .int x, .int y, .int w1] ty1 h1 r1 g1 (fun (v2 : Option Value) (ty2 : pv_T) (h2 : pv_H) (r2 : pv_R) (g2 : pv_G) => ∃ w2 : Int32, v2 = some (.int w2) ∧ Q (some (.int w2)) ty2 h2 r2 g2))) : pv_E Γ d kc ks mJ0_indexOf_7cf53 0 [some (.ref a), some (.int x), some (.int y)] [] ty h r g Q := by
  refine pv_aload_n dJ0_indexOf_7cf53_0 rfl ?_
  obtain ⟨q1, F⟩ := F
  obtain ⟨q2, F⟩ := F
  refine pv_invV (As := []) (d' := d - 1) dJ0_indexOf_7cf53_1 moJ0_isLatin1_aae02 ml_J0_492 q1 (Or.inr ⟨rfl, rfl⟩) (Nat.le_of_ble_eq_true rfl) (by omega) (Nat.zero_le _) (Nat.zero_le _) (ct_isLatin1 (by omega) q2) (fun v ty' h' r' g' hq => ?_) rfl
  obtain ⟨e1, e2, e3, e4, e5⟩ := hq
  rw [e1, e2, e3, e4, e5]
  refine pv_pc (pc' := 4) rfl ?_
  show pv_E Γ d kc ks mJ0_indexOf_7cf53 4 [some (.ref a), some (.int x), some (.int y)] [.int 1] ty h r g Q
  refine pv_if_eq (tgt := 23) dJ0_indexOf_7cf53_4 (by decide) (fun c1 => absurd c1 (by decide)) (fun c1 => ?_)
  refine pv_aload_n dJ0_indexOf_7cf53_7 rfl ?_
  obtain ⟨q3, F⟩ := F
  refine pv_getSv dJ0_indexOf_7cf53_8 fl_J0_9 q3 ?_
  refine pv_iload_n dJ0_indexOf_7cf53_11 rfl ?_
  refine pv_iload_n dJ0_indexOf_7cf53_12 rfl ?_
  refine pv_aload_n dJ0_indexOf_7cf53_13 rfl ?_
  obtain ⟨q4, F⟩ := F
  refine pv_invV (As := []) (d' := d - 1) dJ0_indexOf_7cf53_14 moJ0_length_8abf5 ml_J0_505 q4 (Or.inr ⟨rfl, rfl⟩) (Nat.le_of_ble_eq_true rfl) (by omega) (Nat.zero_le _) (Nat.zero_le _) F (fun v1 ty1 h1 r1 g1 F => ?_) rfl
  obtain ⟨w1, rfl, F⟩ := F
  refine pv_pc (pc' := 17) rfl ?_
  show pv_E Γ d kc ks mJ0_indexOf_7cf53 17 [some (.ref a), some (.int x), some (.int y)] [.int w1, .int y, .int x, .ref (r a 0)] ty1 h1 r1 g1 Q
  refine pv_invS (As := [.ref (r a 0), .int x, .int y, .int w1]) (d' := d - 1) dJ0_indexOf_7cf53_17 moJ1_indexOf_4cfef ml_J0_637 (Nat.le_of_ble_eq_true rfl) (by omega) (Nat.zero_le _) (Nat.zero_le _) F (fun v2 ty2 h2 r2 g2 F => ?_) rfl
  obtain ⟨w2, rfl, F⟩ := F
  refine pv_pc (pc' := 20) rfl ?_
  show pv_E Γ d kc ks mJ0_indexOf_7cf53 20 [some (.ref a), some (.int x), some (.int y)] [.int w2] ty2 h2 r2 g2 Q
  refine pv_goto (tgt := 36) dJ0_indexOf_7cf53_20 (by decide) ?_
  exact pv_ireturn dJ0_indexOf_7cf53_36 rfl rfl F
set_option maxRecDepth 20000 in
set_option maxHeartbeats 4000000 in
theorem sg_J0_indexOf_0f7a4_0 {Γ : pv_C} {d kc ks : Nat} {ty : pv_T} {h : pv_H} {r : pv_R} {g : pv_G} {Q : pv_Q} (a : Nat) (x : Int32) (hd : 1 ≤ d) (F : ty a = some (30, 0) ∧ pv_CT Γ (d - 1) 0 0 mJ0_indexOf_7cf53 [.ref a, .int x, .int 0] ty h r g (fun (v1 : Option Value) (ty1 : pv_T) (h1 : pv_H) (r1 : pv_R) (g1 : pv_G) => ∃ w1 : Int32, v1 = some (.int w1) ∧ Q (some (.int w1)) ty1 h1 r1 g1)) : pv_E Γ d kc ks mJ0_indexOf_0f7a4 0 [some (.ref a), some (.int x)] [] ty h r g Q := by
  refine pv_aload_n dJ0_indexOf_0f7a4_0 rfl ?_
  refine pv_iload_n dJ0_indexOf_0f7a4_1 rfl ?_
  refine pv_iconst (v := 0) (by decide) dJ0_indexOf_0f7a4_2 ?_
  obtain ⟨q1, F⟩ := F
  refine pv_invV (As := [.int x, .int 0]) (d' := d - 1) dJ0_indexOf_0f7a4_3 moJ0_indexOf_7cf53 ml_J0_633 q1 (Or.inr ⟨rfl, rfl⟩) (Nat.le_of_ble_eq_true rfl) (by omega) (Nat.zero_le _) (Nat.zero_le _) F (fun v1 ty1 h1 r1 g1 F => ?_) rfl
  obtain ⟨w1, rfl, F⟩ := F
  refine pv_pc (pc' := 6) rfl ?_
  show pv_E Γ d kc ks mJ0_indexOf_0f7a4 6 [some (.ref a), some (.int x)] [.int w1] ty1 h1 r1 g1 Q
  exact pv_ireturn dJ0_indexOf_0f7a4_6 rfl rfl F
section IY
variable {Γ : pv_C} {d kc ks : Nat} {ty : pv_T} {h : pv_H} {r : pv_R} {g : pv_G} {Q : pv_Q} {i c : Nat}
def ix_ok (i c : Nat) (w : Int32) : Prop := (∃ j, j < (tx_nm i).length ∧ w = nI j ∧ (tx_nm i).getD j 0 = c) ∨ (w = -1 ∧ c ∉ tx_nm i)
theorem ix_str (hi : i < 2) : (pv_str i).length = (tx_nm i).length ∧ (tx_nm i).length ≤ 6 ∧ ∀ j, j < (tx_nm i).length → (pv_str i).getD j 0 = nI ((tx_nm i).getD j 0) := by
  rcases (show i = 0 ∨ i = 1 by omega) with rfl | rfl
  · refine ⟨rfl, by decide, ?_⟩
    show ∀ j, j < 6 → _
    decide +kernel
  · refine ⟨rfl, by decide, ?_⟩
    show ∀ j, j < 5 → _
    decide +kernel
theorem ix_b0 : ∀ c, c < 256 → ∀ j, j < 6 → ((nI ((tx_nm 0).getD j 0) = (nI c).toInt8.toInt32) ↔ (tx_nm 0).getD j 0 = c) := by decide +kernel
theorem ix_b1 : ∀ c, c < 256 → ∀ j, j < 5 → ((nI ((tx_nm 1).getD j 0) = (nI c).toInt8.toInt32) ↔ (tx_nm 1).getD j 0 = c) := by decide +kernel
theorem ix_b (hi : i < 2) (hc : c < 256) {j : Nat} (hj : j < (tx_nm i).length) : (nI ((tx_nm i).getD j 0) = (nI c).toInt8.toInt32) ↔ (tx_nm i).getD j 0 = c := by
  rcases (show i = 0 ∨ i = 1 by omega) with rfl | rfl
  · exact ix_b0 c hc j hj
  · exact ix_b1 c hc j hj
theorem ix_7 (hi : i < 2) (hc : c < 256) (h1 : ty (4 + i) = some (21, (pv_str i).length)) (h2 : ∀ j, j < (pv_str i).length → h (4 + i) j = (pv_str i).getD j 0) (hQ : ∀ w, ix_ok i c w → Q (some (.int w)) ty h r g) : ∀ (m k : Nat), k + m = (tx_nm i).length → (∀ j, j < k → (tx_nm i).getD j 0 ≠ c) → pv_E Γ d kc ks mJ1_indexOfChar_4cfef 7 [some (.ref (4 + i)), none, none, some (.int (nI (tx_nm i).length)), some (.int ((nI c).toInt8.toInt32)), some (.int (nI k))] [] ty h r g Q := by
  obtain ⟨e1, e2, e3⟩ := ix_str hi
  intro m
  induction m with
  | zero =>
    intro k hk hn
    refine sg_J1_indexOfChar_4cfef_7 _ _ _ _ (pk_le (tx_nm i).length k (fun _ => hQ _ (Or.inr ⟨rfl, fun q => ?_⟩)) (fun c1 => absurd c1 (by omega)))
    obtain ⟨j, hj, e⟩ := List.getElem_of_mem q
    refine hn j (by omega) ?_
    rw [← e]
    simp [List.getD, hj]
  | succ m ih =>
    intro k hk hn
    have hin : pv_inb ty (4 + i) 21 (nI k) := ⟨_, h1, by rw [e1]; exact vp_in_nI (by omega) (by omega)⟩
    refine sg_J1_indexOfChar_4cfef_7 _ _ _ _ (pk_le (tx_nm i).length k (fun c1 => absurd c1 (by omega)) (fun _ => ⟨hin, ?_⟩))
    rw [nI_clamp (by omega), h2 k (by omega), e3 k (by omega), ix_b hi hc (by omega), nI_1]
    refine ⟨fun q => ih (k + 1) (by omega) (fun j hj => ?_), fun q => hQ _ (Or.inl ⟨k, by omega, rfl, q⟩)⟩
    by_cases e : j = k
    · rw [e]; exact q
    · exact hn j (by omega)
theorem ct_indexOf (hd : 3 ≤ d) (hi : i < 2) (hta : ty (2 + i) = some (30, 0)) (hc : c < 256) {K : pv_Q} (hK : ∀ w, ix_ok i c w → K (some (.int w)) ty h r g) : pv_CT Γ d 0 0 mJ0_indexOf_0f7a4 [.ref (2 + i), .int (nI c)] ty h r g K := by
  obtain ⟨e1, e2, e3⟩ := ix_str hi
  refine pv_fn 0 pn_J0 rfl (Nat.le_of_ble_eq_true rfl) (sg_J0_indexOf_0f7a4_0 (2 + i) _ (by omega) ⟨hta, ?_⟩)
  refine pv_fn 0 pn_J0 rfl (Nat.le_of_ble_eq_true rfl) (pv_Sof hi hta (fun z1 z2 z3 => sg_J0_indexOf_7cf53_0 (2 + i) _ _ (by omega) ⟨hta, hta, hta, hta, ?_⟩))
  refine pv_fn 0 pn_J0 rfl (Nat.le_of_ble_eq_true rfl) (sg_J0_length_8abf5_0 (2 + i) (by omega) ⟨hta, 21, (pv_str i).length, by rw [z1]; exact z2, by decide, hta, hta, _, rfl, ?_⟩)
  rw [z1, e1, show nI (tx_nm i).length >>> ((0 : Int32) &&& 31) = nI (tx_nm i).length by rcases (show i = 0 ∨ i = 1 by omega) with rfl | rfl <;> decide +kernel]
  refine pv_fn 0 pn_J1 rfl (Nat.le_of_ble_eq_true rfl) (sg_J1_indexOf_4cfef_0 (4 + i) _ _ _ (by omega) (pj_b (fun c1 => ⟨21, _, z2, by decide, ?_⟩) (fun c1 => absurd ?_ c1)))
  · rw [e1, if_neg (by decide : ¬ (0 : Int32) < 0), if_neg Int32.lt_irrefl]
    refine pk_lt 0 (tx_nm i).length (fun _ => ?_) (fun c2 => absurd c2 (by rcases (show i = 0 ∨ i = 1 by omega) with rfl | rfl <;> decide))
    exact pv_fn 2 pn_J1 rfl (Nat.le_of_ble_eq_true rfl) (sg_J1_indexOfChar_4cfef_0 (4 + i) _ _ _ (ix_7 hi hc z2 z3 (fun w hw => ⟨_, rfl, _, rfl, _, rfl, hK w hw⟩) _ 0 (Nat.zero_add _) (fun j hj => absurd hj (by omega))))
  · exact ⟨nI_pos' (by omega), (nI_leI (b := 255) (by omega) (by decide)).mpr (by omega)⟩
end IY
