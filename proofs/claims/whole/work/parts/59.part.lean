/-! what an act gives: both sides -/
def pt_cl (x : Int32) : Int32 := if 0 ≤ x then (if x ≤ 1000000 then x else 1000000) else 0
def pt_do (h : pv_H) (a : Nat) (x : Int32) : Int32 := if h a 5 = -1 then x - h a 3 else (if h a 5 < x then h a 5 else x) - h a 3
set_option maxRecDepth 20000 in
set_option maxHeartbeats 4000000 in
theorem sg_X3_isCorner_0 {Γ : pv_C} {d kc ks : Nat} {ty : pv_T} {h : pv_H} {r : pv_R} {g : pv_G} {Q : pv_Q} (a : Nat) (F : ty a = some (3, 0) ∧ (((h a 2) = (-1) → Q (some (.int 0)) ty h r g) ∧ (¬ (h a 2) = (-1) → Q (some (.int 1)) ty h r g))) : pv_E Γ d kc ks mX3_isCorner 0 [some (.ref a)] [] ty h r g Q := by
  refine pv_aload_n dX3_isCorner_0 rfl ?_
  obtain ⟨q1, F⟩ := F
  refine pv_getI 3 2 dX3_isCorner_1 fl_X3_18 rfl q1 ?_
  refine pv_iconst (v := (-1)) (by decide) dX3_isCorner_4 ?_
  refine pv_icmp_eq (tgt := 12) dX3_isCorner_5 (by decide) (fun c1 => ?_) (fun c1 => ?_)
  · have F := F.1 c1
    refine pv_iconst (v := 0) (by decide) dX3_isCorner_12 ?_
    exact pv_ireturn dX3_isCorner_13 rfl (by decide) F
  · have F := F.2 c1
    refine pv_iconst (v := 1) (by decide) dX3_isCorner_8 ?_
    refine pv_goto (tgt := 13) dX3_isCorner_9 (by decide) ?_
    exact pv_ireturn dX3_isCorner_13 rfl (by decide) F
set_option maxRecDepth 20000 in
set_option maxHeartbeats 4000000 in
theorem sg_X3_hasPartIn_0 {Γ : pv_C} {d kc ks : Nat} {ty : pv_T} {h : pv_H} {r : pv_R} {g : pv_G} {Q : pv_Q} (a : Nat) (x : Int32) (F : ty a = some (3, 0) ∧ (((h a 0) = x → Q (some (.int 1)) ty h r g) ∧ (¬ (h a 0) = x → ty a = some (3, 0) ∧ ((¬ (h a 2) = x → Q (some (.int 0)) ty h r g) ∧ ((h a 2) = x → Q (some (.int 1)) ty h r g))))) : pv_E Γ d kc ks mX3_hasPartIn 0 [some (.ref a), some (.int x)] [] ty h r g Q := by
  refine pv_aload_n dX3_hasPartIn_0 rfl ?_
  obtain ⟨q1, F⟩ := F
  refine pv_getI 3 0 dX3_hasPartIn_1 fl_X3_9 rfl q1 ?_
  refine pv_iload_n dX3_hasPartIn_4 rfl ?_
  refine pv_icmp_eq (tgt := 16) dX3_hasPartIn_5 (by decide) (fun c1 => ?_) (fun c1 => ?_)
  · have F := F.1 c1
    refine pv_iconst (v := 1) (by decide) dX3_hasPartIn_16 ?_
    refine pv_goto (tgt := 21) dX3_hasPartIn_17 (by decide) ?_
    exact pv_ireturn dX3_hasPartIn_21 rfl (by decide) F
  · have F := F.2 c1
    refine pv_aload_n dX3_hasPartIn_8 rfl ?_
    obtain ⟨q2, F⟩ := F
    refine pv_getI 3 2 dX3_hasPartIn_9 fl_X3_18 rfl q2 ?_
    refine pv_iload_n dX3_hasPartIn_12 rfl ?_
    refine pv_icmp_ne (tgt := 20) dX3_hasPartIn_13 (by decide) (fun c2 => ?_) (fun c2 => ?_)
    · have F := F.1 c2
      refine pv_iconst (v := 0) (by decide) dX3_hasPartIn_20 ?_
      exact pv_ireturn dX3_hasPartIn_21 rfl (by decide) F
    · have F := F.2 c2
      refine pv_iconst (v := 1) (by decide) dX3_hasPartIn_16 ?_
      refine pv_goto (tgt := 21) dX3_hasPartIn_17 (by decide) ?_
      exact pv_ireturn dX3_hasPartIn_21 rfl (by decide) F
set_option maxRecDepth 20000 in
set_option maxHeartbeats 4000000 in
theorem sg_X1_keepWithin_0 {Γ : pv_C} {d kc ks : Nat} {ty : pv_T} {h : pv_H} {r : pv_R} {g : pv_G} {Q : pv_Q} (x : Int32) (hd : 1 ≤ d) (F : Q (some (.int (if 0 < (if x < 1000000 then x else 1000000) then (if x < 1000000 then x else 1000000) else 0))) ty h r g) : pv_E Γ d kc ks mX1_keepWithin 0 [some (.int x)] [] ty h r g Q := by
  refine pv_iconst (v := 0) (by decide) dX1_keepWithin_0 ?_
  refine pv_ldc (v := 1000000) dX1_keepWithin_1 kc_X1_116 ?_
  refine pv_iload_n dX1_keepWithin_3 rfl ?_
  refine pv_mmin dX1_keepWithin_4 ml_X1_117 (by omega) (Nat.le_of_ble_eq_true rfl) ?_
  refine pv_mmax dX1_keepWithin_7 ml_X1_104 (by omega) (Nat.le_of_ble_eq_true rfl) ?_
  exact pv_ireturn dX1_keepWithin_10 rfl rfl F
set_option maxRecDepth 20000 in
set_option maxHeartbeats 4000000 in
theorem sg_X12_clamp_0 {Γ : pv_C} {d kc ks : Nat} {ty : pv_T} {h : pv_H} {r : pv_R} {g : pv_G} {Q : pv_Q} (x : Int32) (F : ((0 ≤ x → ((x ≤ 1000000 → Q (some (.int x)) ty h r g) ∧ (¬ x ≤ 1000000 → Q (some (.int 1000000)) ty h r g))) ∧ (¬ 0 ≤ x → Q (some (.int 0)) ty h r g))) : pv_E Γ d kc ks mX12_clamp 0 [some (.int x)] [] ty h r g Q := by
  refine pv_iload_n dX12_clamp_0 rfl ?_
  refine pv_if_ge (tgt := 8) dX12_clamp_1 (by decide) (fun c1 => ?_) (fun c1 => ?_)
  · have F := F.1 c1
    refine pv_iload_n dX12_clamp_8 rfl ?_
    refine pv_ldc (v := 1000000) dX12_clamp_9 kc_X12_189 ?_
    refine pv_icmp_le (tgt := 19) dX12_clamp_11 (by decide) (fun c2 => ?_) (fun c2 => ?_)
    · have F := F.1 c2
      refine pv_iload_n dX12_clamp_19 rfl ?_
      exact pv_ireturn dX12_clamp_20 rfl rfl F
    · have F := F.2 c2
      refine pv_ldc (v := 1000000) dX12_clamp_14 kc_X12_189 ?_
      refine pv_goto (tgt := 20) dX12_clamp_16 (by decide) ?_
      exact pv_ireturn dX12_clamp_20 rfl rfl F
  · have F := F.2 c1
    refine pv_iconst (v := 0) (by decide) dX12_clamp_4 ?_
    refine pv_goto (tgt := 20) dX12_clamp_5 (by decide) ?_
    exact pv_ireturn dX12_clamp_20 rfl rfl F
set_option maxRecDepth 20000 in
set_option maxHeartbeats 4000000 in
theorem sg_X6_daysOpenOn_0 {Γ : pv_C} {d kc ks : Nat} {ty : pv_T} {h : pv_H} {r : pv_R} {g : pv_G} {Q : pv_Q} (a : Nat) (x : Int32) (hd : 1 ≤ d) (F : ty a = some (6, 0) ∧ (ty a = some (6, 0)) ∧ (((pf_b (h a 5 = -1)) = 0 → ty a = some (6, 0) ∧ ty a = some (6, 0) ∧ Q (some (.int ((if (h a 5) < x then (h a 5) else x) - (h a 3)))) ty h r g) ∧ (¬ (pf_b (h a 5 = -1)) = 0 → ty a = some (6, 0) ∧ Q (some (.int (x - (h a 3)))) ty h r g))) : pv_E Γ d kc ks mX6_daysOpenOn 0 [some (.ref a), some (.int x), none] [] ty h r g Q := by
  refine pv_aload_n dX6_daysOpenOn_0 rfl ?_
  obtain ⟨q1, F⟩ := F
  obtain ⟨q2, F⟩ := F
  refine pv_invV (As := []) (d' := d - 1) dX6_daysOpenOn_1 moX6_isOpen ml_X6_30 q1 (Or.inl ⟨_, rfl, rfl⟩) (Nat.le_of_ble_eq_true rfl) (by omega) (Nat.zero_le _) (Nat.zero_le _) (ct_X6_isOpen (by omega) q2) (fun v ty' h' r' g' hq => ?_) rfl
  obtain ⟨e1, e2, e3, e4, e5⟩ := hq
  rw [e1, e2, e3, e4, e5]
  refine pv_pc (pc' := 4) rfl ?_
  show pv_E Γ d kc ks mX6_daysOpenOn 4 [some (.ref a), some (.int x), none] [.int (pf_b (h a 5 = -1))] ty h r g Q
  refine pv_if_eq (tgt := 11) dX6_daysOpenOn_4 (by decide) (fun c1 => ?_) (fun c1 => ?_)
  · have F := F.1 c1
    refine pv_iload_n dX6_daysOpenOn_11 rfl ?_
    refine pv_aload_n dX6_daysOpenOn_12 rfl ?_
    obtain ⟨q3, F⟩ := F
    refine pv_getI 6 5 dX6_daysOpenOn_13 fl_X6_27 rfl q3 ?_
    refine pv_mmin dX6_daysOpenOn_16 ml_X6_34 (by omega) (Nat.le_of_ble_eq_true rfl) ?_
    refine pv_istore_n (ls' := [some (.ref a), some (.int x), some (.int (if (h a 5) < x then (h a 5) else x))]) dX6_daysOpenOn_19 (by decide) rfl rfl ?_
    refine pv_iload_n dX6_daysOpenOn_20 rfl ?_
    refine pv_aload_n dX6_daysOpenOn_21 rfl ?_
    obtain ⟨q4, F⟩ := F
    refine pv_getI 6 3 dX6_daysOpenOn_22 fl_X6_21 rfl q4 ?_
    refine pv_isub dX6_daysOpenOn_25 ?_
    exact pv_ireturn dX6_daysOpenOn_26 rfl rfl F
  · have F := F.2 c1
    refine pv_iload_n dX6_daysOpenOn_7 rfl ?_
    refine pv_goto (tgt := 19) dX6_daysOpenOn_8 (by decide) ?_
    refine pv_istore_n (ls' := [some (.ref a), some (.int x), some (.int x)]) dX6_daysOpenOn_19 (by decide) rfl rfl ?_
    refine pv_iload_n dX6_daysOpenOn_20 rfl ?_
    refine pv_aload_n dX6_daysOpenOn_21 rfl ?_
    obtain ⟨q5, F⟩ := F
    refine pv_getI 6 3 dX6_daysOpenOn_22 fl_X6_21 rfl q5 ?_
    refine pv_isub dX6_daysOpenOn_25 ?_
    exact pv_ireturn dX6_daysOpenOn_26 rfl rfl F
section PA
variable {Γ : pv_C} {d : Nat} {ty : pv_T} {h : pv_H} {r : pv_R} {g : pv_G} {a : Nat} {x : Int32}
theorem ct_X3_isCorner (_ : 0 ≤ d) (ha : ty a = some (3, 0)) : pv_CT Γ d 0 0 mX3_isCorner [.ref a] ty h r g (pv_is (.int (pf_b (¬ h a 2 = -1))) ty h r g) := by
  refine pv_fn 0 pn_X3 rfl (Nat.le_of_ble_eq_true rfl) (sg_X3_isCorner_0 a ⟨ha, fun c => ?_, fun c => ?_⟩)
  · rw [pf_b_f (fun q => q c)]; exact pv_is_refl _ _ _ _ _
  · rw [pf_b_t c]; exact pv_is_refl _ _ _ _ _
theorem ct_X3_hasPartIn (_ : 0 ≤ d) (ha : ty a = some (3, 0)) : pv_CT Γ d 0 0 mX3_hasPartIn [.ref a, .int x] ty h r g (pv_is (.int (pf_b (h a 0 = x ∨ h a 2 = x))) ty h r g) := by
  refine pv_fn 0 pn_X3 rfl (Nat.le_of_ble_eq_true rfl) (sg_X3_hasPartIn_0 a x ⟨ha, fun c => ?_, fun c => ⟨ha, fun c2 => ?_, fun c2 => ?_⟩⟩)
  · rw [pf_b_t (Or.inl c)]; exact pv_is_refl _ _ _ _ _
  · rw [pf_b_f (fun q => q.elim c c2)]; exact pv_is_refl _ _ _ _ _
  · rw [pf_b_t (Or.inr c2)]; exact pv_is_refl _ _ _ _ _
theorem ct_X12_clamp (_ : 0 ≤ d) : pv_CT Γ d 0 0 mX12_clamp [.int x] ty h r g (pv_is (.int (pt_cl x)) ty h r g) := by
  unfold pt_cl
  refine pv_fn 0 pn_X12 rfl (Nat.le_of_ble_eq_true rfl) (sg_X12_clamp_0 x ⟨fun c => ⟨fun c2 => ?_, fun c2 => ?_⟩, fun c => ?_⟩)
  · rw [if_pos c, if_pos c2]; exact pv_is_refl _ _ _ _ _
  · rw [if_pos c, if_neg c2]; exact pv_is_refl _ _ _ _ _
  · rw [if_neg c]; exact pv_is_refl _ _ _ _ _
theorem pt_keep : (if 0 < (if x < 1000000 then x else 1000000) then (if x < 1000000 then x else 1000000) else 0) = pt_cl x := by
  unfold pt_cl
  by_cases c1 : x < 1000000
  · rw [if_pos c1]
    by_cases c2 : 0 < x
    · rw [if_pos c2, if_pos (by grind), if_pos (by grind)]
    · rw [if_neg c2]
      by_cases c3 : 0 ≤ x
      · rw [if_pos c3, if_pos (by grind)]; grind
      · rw [if_neg c3]
  · rw [if_neg c1, if_pos (by decide), if_pos (by grind)]
    by_cases c2 : x ≤ 1000000
    · rw [if_pos c2]; grind
    · rw [if_neg c2]
theorem ct_X1_keep (hd : 1 ≤ d) : pv_CT Γ d 0 0 mX1_keepWithin [.int x] ty h r g (pv_is (.int (pt_cl x)) ty h r g) := by
  refine pv_fn 0 pn_X1 rfl (Nat.le_of_ble_eq_true rfl) (sg_X1_keepWithin_0 x hd ?_)
  rw [pt_keep]
  exact pv_is_refl _ _ _ _ _
theorem ct_X6_days (hd : 1 ≤ d) (ha : ty a = some (6, 0)) : pv_CT Γ d 0 0 mX6_daysOpenOn [.ref a, .int x] ty h r g (pv_is (.int (pt_do h a x)) ty h r g) := by
  unfold pt_do
  refine pv_fn 1 pn_X6 rfl (Nat.le_of_ble_eq_true rfl) (sg_X6_daysOpenOn_0 a x hd ⟨ha, ha, pk_b (fun c => ⟨ha, ?_⟩) (fun c => ⟨ha, ha, ?_⟩)⟩)
  · rw [if_pos c]; exact pv_is_refl _ _ _ _ _
  · rw [if_neg c]; exact pv_is_refl _ _ _ _ _
end PA
set_option maxRecDepth 20000 in
set_option maxHeartbeats 4000000 in
theorem sg_X1_givePart_0 {Γ : pv_C} {d kc ks : Nat} {ty : pv_T} {h : pv_H} {r : pv_R} {g : pv_G} {Q : pv_Q} (x : Nat) (y : Nat) (z : Int32) (u : Int32) (hL : pv_Lay ty r) (F : ((¬ x = 0 → ((z = 0 → ty y = some (3, 0) ∧ vp_in 0 6 ∧ (∀ h1 : pv_H, h1 = pv_up h 81 (Int32.toNatClampNeg 0) (h y 1) → pv_E Γ d kc ks mX1_givePart 34 [some (.ref 70), some (.ref x), some (.ref y), some (.int z), some (.int u), some (.ref 81)] [] ty h1 r g Q)) ∧ (¬ z = 0 → ty y = some (3, 0) ∧ vp_in 0 6 ∧ (∀ h2 : pv_H, h2 = pv_up h 81 (Int32.toNatClampNeg 0) (h y 3) → pv_E Γ d kc ks mX1_givePart 34 [some (.ref 70), some (.ref x), some (.ref y), some (.int z), some (.int u), some (.ref 81)] [] ty h2 r g Q)))) ∧ (x = 0 → Q (some (.int 0)) ty h r g))) : pv_E Γ d kc ks mX1_givePart 0 [some (.ref 70), some (.ref x), some (.ref y), some (.int z), some (.int u), none] [] ty h r g Q := by
  refine pv_aload_n dX1_givePart_0 rfl ?_
  refine pv_ifnonnull (tgt := 6) dX1_givePart_1 (by decide) (fun c1 => ?_) (fun c1 => ?_)
  · have F := F.1 c1
    refine pv_aload_n dX1_givePart_6 rfl ?_
    refine pv_getRk 1 2 dX1_givePart_7 fl_X1_24 rfl (lt_70 hL) (lr_70_2 hL) ?_
    refine pv_getRk 9 0 dX1_givePart_10 fl_X1_64 rfl (lt_80 hL) (lr_80_0 hL) ?_
    refine pv_astore (ls' := [some (.ref 70), some (.ref x), some (.ref y), some (.int z), some (.int u), some (.ref 81)]) dX1_givePart_13 (by decide) rfl rfl ?_
    refine pv_aload dX1_givePart_15 rfl ?_
    refine pv_iconst (v := 0) (by decide) dX1_givePart_17 ?_
    refine pv_pc (pc' := 18) rfl ?_
    refine pv_iload_n dX1_givePart_18 rfl ?_
    refine pv_if_eq (tgt := 29) dX1_givePart_19 (by decide) (fun c2 => ?_) (fun c2 => ?_)
    · have F := F.1 c2
      refine pv_aload_n dX1_givePart_29 rfl ?_
      obtain ⟨q1, F⟩ := F
      refine pv_getI 3 1 dX1_givePart_30 fl_X1_73 rfl q1 ?_
      obtain ⟨q2, F⟩ := F
      obtain ⟨h1, eh1⟩ : ∃ h1 : pv_H, h1 = pv_up h 81 (Int32.toNatClampNeg 0) (h y 1) := ⟨_, rfl⟩
      have F := F h1 eh1
      refine pv_iast dX1_givePart_33 (lt_81 hL) (by decide) q2 ?_
      refine pv_hE eh1 ?_
      exact F
    · have F := F.2 c2
      refine pv_aload_n dX1_givePart_22 rfl ?_
      obtain ⟨q3, F⟩ := F
      refine pv_getI 3 3 dX1_givePart_23 fl_X1_68 rfl q3 ?_
      refine pv_goto (tgt := 33) dX1_givePart_26 (by decide) ?_
      obtain ⟨q4, F⟩ := F
      obtain ⟨h2, eh2⟩ : ∃ h2 : pv_H, h2 = pv_up h 81 (Int32.toNatClampNeg 0) (h y 3) := ⟨_, rfl⟩
      have F := F h2 eh2
      refine pv_iast dX1_givePart_33 (lt_81 hL) (by decide) q4 ?_
      refine pv_hE eh2 ?_
      exact F
  · have F := F.2 c1
    refine pv_iconst (v := 0) (by decide) dX1_givePart_4 ?_
    exact pv_ireturn dX1_givePart_5 rfl rfl F
set_option maxRecDepth 20000 in
set_option maxHeartbeats 4000000 in
theorem sg_X1_givePart_34 {Γ : pv_C} {d kc ks : Nat} {ty : pv_T} {h : pv_H} {r : pv_R} {g : pv_G} {Q : pv_Q} (a1 : Nat) (a2 : Nat) (x3 : Int32) (x4 : Int32) (hL : pv_Lay ty r) (F : ((x3 = 0 → ty a2 = some (3, 0) ∧ vp_in 1 6 ∧ (∀ h1 : pv_H, h1 = pv_up h 81 (Int32.toNatClampNeg 1) (h a2 3) → pv_E Γ d kc ks mX1_givePart 53 [some (.ref 70), some (.ref a1), some (.ref a2), some (.int x3), some (.int x4), some (.ref 81)] [] ty h1 r g Q)) ∧ (¬ x3 = 0 → ty a2 = some (3, 0) ∧ vp_in 1 6 ∧ (∀ h2 : pv_H, h2 = pv_up h 81 (Int32.toNatClampNeg 1) (h a2 1) → pv_E Γ d kc ks mX1_givePart 53 [some (.ref 70), some (.ref a1), some (.ref a2), some (.int x3), some (.int x4), some (.ref 81)] [] ty h2 r g Q)))) : pv_E Γ d kc ks mX1_givePart 34 [some (.ref 70), some (.ref a1), some (.ref a2), some (.int x3), some (.int x4), some (.ref 81)] [] ty h r g Q := by
  refine pv_aload dX1_givePart_34 rfl ?_
  refine pv_iconst (v := 1) (by decide) dX1_givePart_36 ?_
  refine pv_iload_n dX1_givePart_37 rfl ?_
  refine pv_if_eq (tgt := 48) dX1_givePart_38 (by decide) (fun c1 => ?_) (fun c1 => ?_)
  · have F := F.1 c1
    refine pv_aload_n dX1_givePart_48 rfl ?_
    obtain ⟨q1, F⟩ := F
    refine pv_getI 3 3 dX1_givePart_49 fl_X1_68 rfl q1 ?_
    obtain ⟨q2, F⟩ := F
    obtain ⟨h1, eh1⟩ : ∃ h1 : pv_H, h1 = pv_up h 81 (Int32.toNatClampNeg 1) (h a2 3) := ⟨_, rfl⟩
    have F := F h1 eh1
    refine pv_iast dX1_givePart_52 (lt_81 hL) (by decide) q2 ?_
    refine pv_hE eh1 ?_
    exact F
  · have F := F.2 c1
    refine pv_aload_n dX1_givePart_41 rfl ?_
    obtain ⟨q3, F⟩ := F
    refine pv_getI 3 1 dX1_givePart_42 fl_X1_73 rfl q3 ?_
    refine pv_goto (tgt := 52) dX1_givePart_45 (by decide) ?_
    obtain ⟨q4, F⟩ := F
    obtain ⟨h2, eh2⟩ : ∃ h2 : pv_H, h2 = pv_up h 81 (Int32.toNatClampNeg 1) (h a2 1) := ⟨_, rfl⟩
    have F := F h2 eh2
    refine pv_iast dX1_givePart_52 (lt_81 hL) (by decide) q4 ?_
    refine pv_hE eh2 ?_
    exact F
set_option maxRecDepth 20000 in
set_option maxHeartbeats 4000000 in
theorem sg_X1_givePart_53 {Γ : pv_C} {d kc ks : Nat} {ty : pv_T} {h : pv_H} {r : pv_R} {g : pv_G} {Q : pv_Q} (a1 : Nat) (a2 : Nat) (x3 : Int32) (x4 : Int32) (hL : pv_Lay ty r) (F : ty a2 = some (3, 0) ∧ vp_in 2 6 ∧ (∀ h1 : pv_H, h1 = pv_up h 81 (Int32.toNatClampNeg 2) (h a2 4) → ((x3 = 0 → ty a2 = some (3, 0) ∧ vp_in 3 6 ∧ (∀ h2 : pv_H, h2 = pv_up h1 81 (Int32.toNatClampNeg 3) (h1 a2 0) → pv_E Γ d kc ks mX1_givePart 80 [some (.ref 70), some (.ref a1), some (.ref a2), none, some (.int x4), some (.ref 81)] [] ty h2 r g Q)) ∧ (¬ x3 = 0 → ty a2 = some (3, 0) ∧ vp_in 3 6 ∧ (∀ h3 : pv_H, h3 = pv_up h1 81 (Int32.toNatClampNeg 3) (h1 a2 2) → pv_E Γ d kc ks mX1_givePart 80 [some (.ref 70), some (.ref a1), some (.ref a2), none, some (.int x4), some (.ref 81)] [] ty h3 r g Q))))) : pv_E Γ d kc ks mX1_givePart 53 [some (.ref 70), some (.ref a1), some (.ref a2), some (.int x3), some (.int x4), some (.ref 81)] [] ty h r g Q := by
  refine pv_aload dX1_givePart_53 rfl ?_
  refine pv_iconst (v := 2) (by decide) dX1_givePart_55 ?_
  refine pv_aload_n dX1_givePart_56 rfl ?_
  obtain ⟨q1, F⟩ := F
  refine pv_getI 3 4 dX1_givePart_57 fl_X1_76 rfl q1 ?_
  obtain ⟨q2, F⟩ := F
  obtain ⟨h1, eh1⟩ : ∃ h1 : pv_H, h1 = pv_up h 81 (Int32.toNatClampNeg 2) (h a2 4) := ⟨_, rfl⟩
  have F := F h1 eh1
  refine pv_iast dX1_givePart_60 (lt_81 hL) (by decide) q2 ?_
  refine pv_hE eh1 ?_
  refine pv_aload dX1_givePart_61 rfl ?_
  refine pv_iconst (v := 3) (by decide) dX1_givePart_63 ?_
  refine pv_iload_n dX1_givePart_64 rfl ?_
  refine pv_if_eq (tgt := 75) dX1_givePart_65 (by decide) (fun c1 => ?_) (fun c1 => ?_)
  · have F := F.1 c1
    refine pv_aload_n dX1_givePart_75 rfl ?_
    obtain ⟨q3, F⟩ := F
    refine pv_getI 3 0 dX1_givePart_76 fl_X1_82 rfl q3 ?_
    obtain ⟨q4, F⟩ := F
    obtain ⟨h2, eh2⟩ : ∃ h2 : pv_H, h2 = pv_up h1 81 (Int32.toNatClampNeg 3) (h1 a2 0) := ⟨_, rfl⟩
    have F := F h2 eh2
    refine pv_iast dX1_givePart_79 (lt_81 hL) (by decide) q4 ?_
    refine pv_hE eh2 ?_
    refine pv_forgetL (ls' := [some (.ref 70), some (.ref a1), some (.ref a2), none, some (.int x4), some (.ref 81)]) (pv_subL_ok ⟨rfl, ⟨rfl, ⟨rfl, ⟨rfl, ⟨rfl, trivial⟩⟩⟩⟩⟩) ?_
    exact F
  · have F := F.2 c1
    refine pv_aload_n dX1_givePart_68 rfl ?_
    obtain ⟨q5, F⟩ := F
    refine pv_getI 3 2 dX1_givePart_69 fl_X1_79 rfl q5 ?_
    refine pv_goto (tgt := 79) dX1_givePart_72 (by decide) ?_
    obtain ⟨q6, F⟩ := F
    obtain ⟨h3, eh3⟩ : ∃ h3 : pv_H, h3 = pv_up h1 81 (Int32.toNatClampNeg 3) (h1 a2 2) := ⟨_, rfl⟩
    have F := F h3 eh3
    refine pv_iast dX1_givePart_79 (lt_81 hL) (by decide) q6 ?_
    refine pv_hE eh3 ?_
    refine pv_forgetL (ls' := [some (.ref 70), some (.ref a1), some (.ref a2), none, some (.int x4), some (.ref 81)]) (pv_subL_ok ⟨rfl, ⟨rfl, ⟨rfl, ⟨rfl, ⟨rfl, trivial⟩⟩⟩⟩⟩) ?_
    exact F
set_option maxRecDepth 20000 in
set_option maxHeartbeats 4000000 in
theorem sg_X1_givePart_80 {Γ : pv_C} {d kc ks : Nat} {ty : pv_T} {h : pv_H} {r : pv_R} {g : pv_G} {Q : pv_Q} (a1 : Nat) (a2 : Nat) (x4 : Int32) (hd : 1 ≤ d) (hL : pv_Lay ty r) (F : ty a2 = some (3, 0) ∧ (ty a2 = some (3, 0)) ∧ (((pf_b (¬ h a2 2 = -1)) = 0 → vp_in 4 6 ∧ (∀ h1 : pv_H, h1 = pv_up h 81 (Int32.toNatClampNeg 4) 0 → pv_E Γ d kc ks mX1_givePart 96 [some (.ref 70), some (.ref a1), none, none, some (.int x4), some (.ref 81)] [] ty h1 r g Q)) ∧ (¬ (pf_b (¬ h a2 2 = -1)) = 0 → vp_in 4 6 ∧ (∀ h2 : pv_H, h2 = pv_up h 81 (Int32.toNatClampNeg 4) 1 → pv_E Γ d kc ks mX1_givePart 96 [some (.ref 70), some (.ref a1), none, none, some (.int x4), some (.ref 81)] [] ty h2 r g Q)))) : pv_E Γ d kc ks mX1_givePart 80 [some (.ref 70), some (.ref a1), some (.ref a2), none, some (.int x4), some (.ref 81)] [] ty h r g Q := by
  refine pv_aload dX1_givePart_80 rfl ?_
  refine pv_iconst (v := 4) (by decide) dX1_givePart_82 ?_
  refine pv_aload_n dX1_givePart_83 rfl ?_
  obtain ⟨q1, F⟩ := F
  obtain ⟨q2, F⟩ := F
  refine pv_invV (As := []) (d' := d - 1) dX1_givePart_84 moX3_isCorner ml_X1_85 q1 (Or.inl ⟨_, rfl, rfl⟩) (Nat.le_of_ble_eq_true rfl) (by omega) (Nat.zero_le _) (Nat.zero_le _) (ct_X3_isCorner (by omega) q2) (fun v ty' h' r' g' hq => ?_) rfl
  obtain ⟨e1, e2, e3, e4, e5⟩ := hq
  rw [e1, e2, e3, e4, e5]
  refine pv_pc (pc' := 87) rfl ?_
  show pv_E Γ d kc ks mX1_givePart 87 [some (.ref 70), some (.ref a1), some (.ref a2), none, some (.int x4), some (.ref 81)] [.int (pf_b (¬ h a2 2 = -1)), .int 4, .ref 81] ty h r g Q
  refine pv_if_eq (tgt := 94) dX1_givePart_87 (by decide) (fun c1 => ?_) (fun c1 => ?_)
  · have F := F.1 c1
    refine pv_iconst (v := 0) (by decide) dX1_givePart_94 ?_
    obtain ⟨q3, F⟩ := F
    obtain ⟨h1, eh1⟩ : ∃ h1 : pv_H, h1 = pv_up h 81 (Int32.toNatClampNeg 4) 0 := ⟨_, rfl⟩
    have F := F h1 eh1
    refine pv_iast dX1_givePart_95 (lt_81 hL) (by decide) q3 ?_
    refine pv_hE eh1 ?_
    refine pv_forgetL (ls' := [some (.ref 70), some (.ref a1), none, none, some (.int x4), some (.ref 81)]) (pv_subL_ok ⟨rfl, ⟨rfl, ⟨rfl, ⟨rfl, trivial⟩⟩⟩⟩) ?_
    exact F
  · have F := F.2 c1
    refine pv_iconst (v := 1) (by decide) dX1_givePart_90 ?_
    refine pv_goto (tgt := 95) dX1_givePart_91 (by decide) ?_
    obtain ⟨q4, F⟩ := F
    obtain ⟨h2, eh2⟩ : ∃ h2 : pv_H, h2 = pv_up h 81 (Int32.toNatClampNeg 4) 1 := ⟨_, rfl⟩
    have F := F h2 eh2
    refine pv_iast dX1_givePart_95 (lt_81 hL) (by decide) q4 ?_
    refine pv_hE eh2 ?_
    refine pv_forgetL (ls' := [some (.ref 70), some (.ref a1), none, none, some (.int x4), some (.ref 81)]) (pv_subL_ok ⟨rfl, ⟨rfl, ⟨rfl, ⟨rfl, trivial⟩⟩⟩⟩) ?_
    exact F
set_option maxRecDepth 20000 in
set_option maxHeartbeats 4000000 in
theorem sg_X1_givePart_96 {Γ : pv_C} {d kc ks : Nat} {ty : pv_T} {h : pv_H} {r : pv_R} {g : pv_G} {Q : pv_Q} (a1 : Nat) (x4 : Int32) (hd : 2 ≤ d) (hL : pv_Lay ty r) (F : vp_in 5 6 ∧ (∀ h1 : pv_H, h1 = pv_up h 81 (Int32.toNatClampNeg 5) (x4 / 365) → ty a1 = some (0, 0) ∧ ty a1 = some (0, 0) ∧ (∃ k1 n1 : Nat, ty (r a1 3) = some (k1, n1) ∧ (20 ≤ k1 ∧ k1 ≤ 27) ∧ pv_CT Γ (d - 1) 0 0 mX9_readText [.ref 80, .ref (r a1 3), .int (nI n1), .int 0] ty h1 r g (fun (v1 : Option Value) (ty1 : pv_T) (h2 : pv_H) (r1 : pv_R) (g1 : pv_G) => ∃ w1 : Int32, v1 = some (.int w1) ∧ pv_Lay ty1 r1 ∧ Q (some (.int (pt_cl w1))) ty1 h2 r1 g1)))) : pv_E Γ d kc ks mX1_givePart 96 [some (.ref 70), some (.ref a1), none, none, some (.int x4), some (.ref 81)] [] ty h r g Q := by
  refine pv_aload dX1_givePart_96 rfl ?_
  refine pv_iconst (v := 5) (by decide) dX1_givePart_98 ?_
  refine pv_iload dX1_givePart_99 rfl ?_
  refine pv_sipush (v := 365) (by decide) dX1_givePart_101 ?_
  refine pv_idiv (by decide) dX1_givePart_104 ?_
  obtain ⟨q1, F⟩ := F
  obtain ⟨h1, eh1⟩ : ∃ h1 : pv_H, h1 = pv_up h 81 (Int32.toNatClampNeg 5) (x4 / 365) := ⟨_, rfl⟩
  have F := F h1 eh1
  refine pv_iast dX1_givePart_105 (lt_81 hL) (by decide) q1 ?_
  refine pv_hE eh1 ?_
  refine pv_aload_n dX1_givePart_106 rfl ?_
  refine pv_getRk 1 2 dX1_givePart_107 fl_X1_24 rfl (lt_70 hL) (lr_70_2 hL) ?_
  refine pv_aload_n dX1_givePart_110 rfl ?_
  obtain ⟨q2, F⟩ := F
  refine pv_getR 0 3 dX1_givePart_111 fl_X1_89 rfl q2 ?_
  refine pv_aload_n dX1_givePart_114 rfl ?_
  obtain ⟨q3, F⟩ := F
  refine pv_getR 0 3 dX1_givePart_115 fl_X1_89 rfl q3 ?_
  obtain ⟨k1, n1, q4, q4k, F⟩ := F
  refine pv_alen dX1_givePart_118 q4 q4k ?_
  refine pv_iconst (v := 0) (by decide) dX1_givePart_119 ?_
  refine pv_invV (As := [.ref (r a1 3), .int (nI n1), .int 0]) (d' := d - 1) dX1_givePart_120 moX9_readText ml_X1_35 (lt_80 hL) (Or.inl ⟨_, rfl, rfl⟩) (Nat.le_of_ble_eq_true rfl) (by omega) (Nat.zero_le _) (Nat.zero_le _) F (fun v1 ty1 h2 r1 g1 F => ?_) rfl
  obtain ⟨w1, rfl, F⟩ := F
  obtain ⟨hL1, F⟩ := F
  refine pv_pc (pc' := 123) rfl ?_
  show pv_E Γ d kc ks mX1_givePart 123 [some (.ref 70), some (.ref a1), none, none, some (.int x4), some (.ref 81)] [.int w1] ty1 h2 r1 g1 Q
  refine pv_invS (As := [.int w1]) (d' := d - 1) dX1_givePart_123 moX1_keepWithin ml_X1_92 (Nat.le_of_ble_eq_true rfl) (by omega) (Nat.zero_le _) (Nat.zero_le _) (ct_X1_keep (by omega)) (fun v ty' h' r' g' hq => ?_) rfl
  obtain ⟨e1, e2, e3, e4, e5⟩ := hq
  rw [e1, e2, e3, e4, e5]
  refine pv_pc (pc' := 126) rfl ?_
  show pv_E Γ d kc ks mX1_givePart 126 [some (.ref 70), some (.ref a1), none, none, some (.int x4), some (.ref 81)] [.int (pt_cl w1)] ty1 h2 r1 g1 Q
  exact pv_ireturn dX1_givePart_126 rfl rfl F
set_option maxRecDepth 20000 in
set_option maxHeartbeats 4000000 in
theorem sg_X12_part_0 {Γ : pv_C} {d kc ks : Nat} {ty : pv_T} {h : pv_H} {r : pv_R} {g : pv_G} {Q : pv_Q} (x : Int32) (y : Int32) (z : Int32) (u : Int32) (hL : pv_Lay ty r) (F : ((z = 0 → vp_in y 60 ∧ vp_in 102 128 ∧ (∀ h1 : pv_H, h1 = pv_up h 352 (Int32.toNatClampNeg 102) (h 337 (Int32.toNatClampNeg y)) → pv_E Γ d kc ks mX12_part 26 [some (.ref 200), some (.int x), some (.int y), some (.int z), some (.int u)] [] ty h1 r g Q)) ∧ (¬ z = 0 → vp_in y 60 ∧ vp_in 102 128 ∧ (∀ h2 : pv_H, h2 = pv_up h 352 (Int32.toNatClampNeg 102) (h 335 (Int32.toNatClampNeg y)) → pv_E Γ d kc ks mX12_part 26 [some (.ref 200), some (.int x), some (.int y), some (.int z), some (.int u)] [] ty h2 r g Q)))) : pv_E Γ d kc ks mX12_part 0 [some (.ref 200), some (.int x), some (.int y), some (.int z), some (.int u)] [] ty h r g Q := by
  refine pv_aload_n dX12_part_0 rfl ?_
  refine pv_getRk 12 52 dX12_part_1 fl_X12_124 rfl (lt_200 hL) (lr_200_52 hL) ?_
  refine pv_bipush (v := 102) (by decide) dX12_part_4 ?_
  refine pv_iload_n dX12_part_6 rfl ?_
  refine pv_if_eq (tgt := 19) dX12_part_7 (by decide) (fun c1 => ?_) (fun c1 => ?_)
  · have F := F.1 c1
    refine pv_aload_n dX12_part_19 rfl ?_
    refine pv_getRk 12 37 dX12_part_20 fl_X12_93 rfl (lt_200 hL) (lr_200_37 hL) ?_
    refine pv_iload_n dX12_part_23 rfl ?_
    obtain ⟨q1, F⟩ := F
    refine pv_iald dX12_part_24 (lt_337 hL) q1 ?_
    obtain ⟨q2, F⟩ := F
    obtain ⟨h1, eh1⟩ : ∃ h1 : pv_H, h1 = pv_up h 352 (Int32.toNatClampNeg 102) (h 337 (Int32.toNatClampNeg y)) := ⟨_, rfl⟩
    have F := F h1 eh1
    refine pv_iast dX12_part_25 (lt_352 hL) (by decide) q2 ?_
    refine pv_hE eh1 ?_
    exact F
  · have F := F.2 c1
    refine pv_aload_n dX12_part_10 rfl ?_
    refine pv_getRk 12 35 dX12_part_11 fl_X12_87 rfl (lt_200 hL) (lr_200_35 hL) ?_
    refine pv_iload_n dX12_part_14 rfl ?_
    obtain ⟨q3, F⟩ := F
    refine pv_iald dX12_part_15 (lt_335 hL) q3 ?_
    refine pv_goto (tgt := 25) dX12_part_16 (by decide) ?_
    obtain ⟨q4, F⟩ := F
    obtain ⟨h2, eh2⟩ : ∃ h2 : pv_H, h2 = pv_up h 352 (Int32.toNatClampNeg 102) (h 335 (Int32.toNatClampNeg y)) := ⟨_, rfl⟩
    have F := F h2 eh2
    refine pv_iast dX12_part_25 (lt_352 hL) (by decide) q4 ?_
    refine pv_hE eh2 ?_
    exact F
set_option maxRecDepth 20000 in
set_option maxHeartbeats 4000000 in
theorem sg_X12_part_26 {Γ : pv_C} {d kc ks : Nat} {ty : pv_T} {h : pv_H} {r : pv_R} {g : pv_G} {Q : pv_Q} (x1 : Int32) (x2 : Int32) (x3 : Int32) (x4 : Int32) (hL : pv_Lay ty r) (F : ((x3 = 0 → vp_in x2 60 ∧ vp_in 103 128 ∧ (∀ h1 : pv_H, h1 = pv_up h 352 (Int32.toNatClampNeg 103) (h 335 (Int32.toNatClampNeg x2)) → pv_E Γ d kc ks mX12_part 52 [some (.ref 200), some (.int x1), some (.int x2), some (.int x3), some (.int x4)] [] ty h1 r g Q)) ∧ (¬ x3 = 0 → vp_in x2 60 ∧ vp_in 103 128 ∧ (∀ h2 : pv_H, h2 = pv_up h 352 (Int32.toNatClampNeg 103) (h 337 (Int32.toNatClampNeg x2)) → pv_E Γ d kc ks mX12_part 52 [some (.ref 200), some (.int x1), some (.int x2), some (.int x3), some (.int x4)] [] ty h2 r g Q)))) : pv_E Γ d kc ks mX12_part 26 [some (.ref 200), some (.int x1), some (.int x2), some (.int x3), some (.int x4)] [] ty h r g Q := by
  refine pv_aload_n dX12_part_26 rfl ?_
  refine pv_getRk 12 52 dX12_part_27 fl_X12_124 rfl (lt_200 hL) (lr_200_52 hL) ?_
  refine pv_bipush (v := 103) (by decide) dX12_part_30 ?_
  refine pv_iload_n dX12_part_32 rfl ?_
  refine pv_if_eq (tgt := 45) dX12_part_33 (by decide) (fun c1 => ?_) (fun c1 => ?_)
  · have F := F.1 c1
    refine pv_aload_n dX12_part_45 rfl ?_
    refine pv_getRk 12 35 dX12_part_46 fl_X12_87 rfl (lt_200 hL) (lr_200_35 hL) ?_
    refine pv_iload_n dX12_part_49 rfl ?_
    obtain ⟨q1, F⟩ := F
    refine pv_iald dX12_part_50 (lt_335 hL) q1 ?_
    obtain ⟨q2, F⟩ := F
    obtain ⟨h1, eh1⟩ : ∃ h1 : pv_H, h1 = pv_up h 352 (Int32.toNatClampNeg 103) (h 335 (Int32.toNatClampNeg x2)) := ⟨_, rfl⟩
    have F := F h1 eh1
    refine pv_iast dX12_part_51 (lt_352 hL) (by decide) q2 ?_
    refine pv_hE eh1 ?_
    exact F
  · have F := F.2 c1
    refine pv_aload_n dX12_part_36 rfl ?_
    refine pv_getRk 12 37 dX12_part_37 fl_X12_93 rfl (lt_200 hL) (lr_200_37 hL) ?_
    refine pv_iload_n dX12_part_40 rfl ?_
    obtain ⟨q3, F⟩ := F
    refine pv_iald dX12_part_41 (lt_337 hL) q3 ?_
    refine pv_goto (tgt := 51) dX12_part_42 (by decide) ?_
    obtain ⟨q4, F⟩ := F
    obtain ⟨h2, eh2⟩ : ∃ h2 : pv_H, h2 = pv_up h 352 (Int32.toNatClampNeg 103) (h 337 (Int32.toNatClampNeg x2)) := ⟨_, rfl⟩
    have F := F h2 eh2
    refine pv_iast dX12_part_51 (lt_352 hL) (by decide) q4 ?_
    refine pv_hE eh2 ?_
    exact F
set_option maxRecDepth 20000 in
set_option maxHeartbeats 4000000 in
theorem sg_X12_part_52 {Γ : pv_C} {d kc ks : Nat} {ty : pv_T} {h : pv_H} {r : pv_R} {g : pv_G} {Q : pv_Q} (x1 : Int32) (x2 : Int32) (x3 : Int32) (x4 : Int32) (hL : pv_Lay ty r) (F : vp_in x2 60 ∧ vp_in 118 128 ∧ (∀ h1 : pv_H, h1 = pv_up h 352 (Int32.toNatClampNeg 118) (h 338 (Int32.toNatClampNeg x2)) → ((x3 = 0 → vp_in x2 60 ∧ vp_in 115 128 ∧ (∀ h2 : pv_H, h2 = pv_up h1 352 (Int32.toNatClampNeg 115) (h1 336 (Int32.toNatClampNeg x2)) → pv_E Γ d kc ks mX12_part 91 [some (.ref 200), some (.int x1), some (.int x2), none, some (.int x4)] [] ty h2 r g Q)) ∧ (¬ x3 = 0 → vp_in x2 60 ∧ vp_in 115 128 ∧ (∀ h3 : pv_H, h3 = pv_up h1 352 (Int32.toNatClampNeg 115) (h1 334 (Int32.toNatClampNeg x2)) → pv_E Γ d kc ks mX12_part 91 [some (.ref 200), some (.int x1), some (.int x2), none, some (.int x4)] [] ty h3 r g Q))))) : pv_E Γ d kc ks mX12_part 52 [some (.ref 200), some (.int x1), some (.int x2), some (.int x3), some (.int x4)] [] ty h r g Q := by
  refine pv_aload_n dX12_part_52 rfl ?_
  refine pv_getRk 12 52 dX12_part_53 fl_X12_124 rfl (lt_200 hL) (lr_200_52 hL) ?_
  refine pv_bipush (v := 118) (by decide) dX12_part_56 ?_
  refine pv_aload_n dX12_part_58 rfl ?_
  refine pv_getRk 12 38 dX12_part_59 fl_X12_96 rfl (lt_200 hL) (lr_200_38 hL) ?_
  refine pv_iload_n dX12_part_62 rfl ?_
  refine pv_pc (pc' := 63) rfl ?_
  obtain ⟨q1, F⟩ := F
  refine pv_iald dX12_part_63 (lt_338 hL) q1 ?_
  obtain ⟨q2, F⟩ := F
  obtain ⟨h1, eh1⟩ : ∃ h1 : pv_H, h1 = pv_up h 352 (Int32.toNatClampNeg 118) (h 338 (Int32.toNatClampNeg x2)) := ⟨_, rfl⟩
  have F := F h1 eh1
  refine pv_iast dX12_part_64 (lt_352 hL) (by decide) q2 ?_
  refine pv_hE eh1 ?_
  refine pv_aload_n dX12_part_65 rfl ?_
  refine pv_getRk 12 52 dX12_part_66 fl_X12_124 rfl (lt_200 hL) (lr_200_52 hL) ?_
  refine pv_bipush (v := 115) (by decide) dX12_part_69 ?_
  refine pv_iload_n dX12_part_71 rfl ?_
  refine pv_if_eq (tgt := 84) dX12_part_72 (by decide) (fun c1 => ?_) (fun c1 => ?_)
  · have F := F.1 c1
    refine pv_aload_n dX12_part_84 rfl ?_
    refine pv_getRk 12 36 dX12_part_85 fl_X12_90 rfl (lt_200 hL) (lr_200_36 hL) ?_
    refine pv_iload_n dX12_part_88 rfl ?_
    obtain ⟨q3, F⟩ := F
    refine pv_iald dX12_part_89 (lt_336 hL) q3 ?_
    obtain ⟨q4, F⟩ := F
    obtain ⟨h2, eh2⟩ : ∃ h2 : pv_H, h2 = pv_up h1 352 (Int32.toNatClampNeg 115) (h1 336 (Int32.toNatClampNeg x2)) := ⟨_, rfl⟩
    have F := F h2 eh2
    refine pv_iast dX12_part_90 (lt_352 hL) (by decide) q4 ?_
    refine pv_hE eh2 ?_
    refine pv_forgetL (ls' := [some (.ref 200), some (.int x1), some (.int x2), none, some (.int x4)]) (pv_subL_ok ⟨rfl, ⟨rfl, ⟨rfl, ⟨rfl, trivial⟩⟩⟩⟩) ?_
    exact F
  · have F := F.2 c1
    refine pv_aload_n dX12_part_75 rfl ?_
    refine pv_getRk 12 34 dX12_part_76 fl_X12_84 rfl (lt_200 hL) (lr_200_34 hL) ?_
    refine pv_iload_n dX12_part_79 rfl ?_
    obtain ⟨q5, F⟩ := F
    refine pv_iald dX12_part_80 (lt_334 hL) q5 ?_
    refine pv_goto (tgt := 90) dX12_part_81 (by decide) ?_
    obtain ⟨q6, F⟩ := F
    obtain ⟨h3, eh3⟩ : ∃ h3 : pv_H, h3 = pv_up h1 352 (Int32.toNatClampNeg 115) (h1 334 (Int32.toNatClampNeg x2)) := ⟨_, rfl⟩
    have F := F h3 eh3
    refine pv_iast dX12_part_90 (lt_352 hL) (by decide) q6 ?_
    refine pv_hE eh3 ?_
    refine pv_forgetL (ls' := [some (.ref 200), some (.int x1), some (.int x2), none, some (.int x4)]) (pv_subL_ok ⟨rfl, ⟨rfl, ⟨rfl, ⟨rfl, trivial⟩⟩⟩⟩) ?_
    exact F
set_option maxRecDepth 20000 in
set_option maxHeartbeats 4000000 in
theorem sg_X12_part_91 {Γ : pv_C} {d kc ks : Nat} {ty : pv_T} {h : pv_H} {r : pv_R} {g : pv_G} {Q : pv_Q} (x1 : Int32) (x2 : Int32) (x4 : Int32) (hL : pv_Lay ty r) (F : vp_in x2 60 ∧ ((0 ≤ (h 336 (Int32.toNatClampNeg x2)) → vp_in 99 128 ∧ (∀ h1 : pv_H, h1 = pv_up h 352 (Int32.toNatClampNeg 99) 1 → pv_E Γ d kc ks mX12_part 112 [some (.ref 200), some (.int x1), none, none, some (.int x4)] [] ty h1 r g Q)) ∧ (¬ 0 ≤ (h 336 (Int32.toNatClampNeg x2)) → vp_in 99 128 ∧ (∀ h2 : pv_H, h2 = pv_up h 352 (Int32.toNatClampNeg 99) 0 → pv_E Γ d kc ks mX12_part 112 [some (.ref 200), some (.int x1), none, none, some (.int x4)] [] ty h2 r g Q)))) : pv_E Γ d kc ks mX12_part 91 [some (.ref 200), some (.int x1), some (.int x2), none, some (.int x4)] [] ty h r g Q := by
  refine pv_aload_n dX12_part_91 rfl ?_
  refine pv_getRk 12 52 dX12_part_92 fl_X12_124 rfl (lt_200 hL) (lr_200_52 hL) ?_
  refine pv_bipush (v := 99) (by decide) dX12_part_95 ?_
  refine pv_aload_n dX12_part_97 rfl ?_
  refine pv_getRk 12 36 dX12_part_98 fl_X12_90 rfl (lt_200 hL) (lr_200_36 hL) ?_
  refine pv_iload_n dX12_part_101 rfl ?_
  refine pv_pc (pc' := 102) rfl ?_
  obtain ⟨q1, F⟩ := F
  refine pv_iald dX12_part_102 (lt_336 hL) q1 ?_
  refine pv_if_ge (tgt := 110) dX12_part_103 (by decide) (fun c1 => ?_) (fun c1 => ?_)
  · have F := F.1 c1
    refine pv_iconst (v := 1) (by decide) dX12_part_110 ?_
    obtain ⟨q2, F⟩ := F
    obtain ⟨h1, eh1⟩ : ∃ h1 : pv_H, h1 = pv_up h 352 (Int32.toNatClampNeg 99) 1 := ⟨_, rfl⟩
    have F := F h1 eh1
    refine pv_iast dX12_part_111 (lt_352 hL) (by decide) q2 ?_
    refine pv_hE eh1 ?_
    refine pv_forgetL (ls' := [some (.ref 200), some (.int x1), none, none, some (.int x4)]) (pv_subL_ok ⟨rfl, ⟨rfl, ⟨rfl, trivial⟩⟩⟩) ?_
    exact F
  · have F := F.2 c1
    refine pv_iconst (v := 0) (by decide) dX12_part_106 ?_
    refine pv_goto (tgt := 111) dX12_part_107 (by decide) ?_
    obtain ⟨q3, F⟩ := F
    obtain ⟨h2, eh2⟩ : ∃ h2 : pv_H, h2 = pv_up h 352 (Int32.toNatClampNeg 99) 0 := ⟨_, rfl⟩
    have F := F h2 eh2
    refine pv_iast dX12_part_111 (lt_352 hL) (by decide) q3 ?_
    refine pv_hE eh2 ?_
    refine pv_forgetL (ls' := [some (.ref 200), some (.int x1), none, none, some (.int x4)]) (pv_subL_ok ⟨rfl, ⟨rfl, ⟨rfl, trivial⟩⟩⟩) ?_
    exact F
set_option maxRecDepth 20000 in
set_option maxHeartbeats 4000000 in
theorem sg_X12_part_112 {Γ : pv_C} {d kc ks : Nat} {ty : pv_T} {h : pv_H} {r : pv_R} {g : pv_G} {Q : pv_Q} (x1 : Int32) (x4 : Int32) (hd : 1 ≤ d) (hL : pv_Lay ty r) (F : vp_in 121 128 ∧ (∀ h1 : pv_H, h1 = pv_up h 352 (Int32.toNatClampNeg 121) (x4 / 365) → pv_CJ Γ (d - 1) mX12_says [.ref 200, .int x1] ty h1 r g (fun (w1 : Int32) (h2 : pv_H) => Q (some (.int (pt_cl w1))) ty h2 r g))) : pv_E Γ d kc ks mX12_part 112 [some (.ref 200), some (.int x1), none, none, some (.int x4)] [] ty h r g Q := by
  refine pv_aload_n dX12_part_112 rfl ?_
  refine pv_getRk 12 52 dX12_part_113 fl_X12_124 rfl (lt_200 hL) (lr_200_52 hL) ?_
  refine pv_bipush (v := 121) (by decide) dX12_part_116 ?_
  refine pv_iload dX12_part_118 rfl ?_
  refine pv_sipush (v := 365) (by decide) dX12_part_120 ?_
  refine pv_idiv (by decide) dX12_part_123 ?_
  refine pv_pc (pc' := 124) rfl ?_
  obtain ⟨q1, F⟩ := F
  obtain ⟨h1, eh1⟩ : ∃ h1 : pv_H, h1 = pv_up h 352 (Int32.toNatClampNeg 121) (x4 / 365) := ⟨_, rfl⟩
  have F := F h1 eh1
  refine pv_iast dX12_part_124 (lt_352 hL) (by decide) q1 ?_
  refine pv_hE eh1 ?_
  refine pv_aload_n dX12_part_125 rfl ?_
  refine pv_iload_n dX12_part_126 rfl ?_
  refine pv_invV (As := [.int x1]) (d' := d - 1) dX12_part_127 moX12_says ml_X12_297 (lt_200 hL) (Or.inl ⟨_, rfl, rfl⟩) (Nat.le_of_ble_eq_true rfl) (by omega) (Nat.zero_le _) (Nat.zero_le _) F (fun v ty' h2 r' g' hq => ?_) rfl
  obtain ⟨e2, e4, e5, w1, e1, F⟩ := hq
  rw [e1, e2, e4, e5]
  refine pv_pc (pc' := 130) rfl ?_
  show pv_E Γ d kc ks mX12_part 130 [some (.ref 200), some (.int x1), none, none, some (.int x4)] [.int w1] ty h2 r g Q
  refine pv_invS (As := [.int w1]) (d' := d - 1) dX12_part_130 moX12_clamp ml_X12_300 (Nat.le_of_ble_eq_true rfl) (by omega) (Nat.zero_le _) (Nat.zero_le _) (ct_X12_clamp (by omega)) (fun v ty' h' r' g' hq => ?_) rfl
  obtain ⟨e1, e2, e3, e4, e5⟩ := hq
  rw [e1, e2, e3, e4, e5]
  refine pv_pc (pc' := 133) rfl ?_
  show pv_E Γ d kc ks mX12_part 133 [some (.ref 200), some (.int x1), none, none, some (.int x4)] [.int (pt_cl w1)] ty h2 r g Q
  exact pv_ireturn dX12_part_133 rfl rfl F
/-- the names' values for a part of house i (its second part, if sec) on day u -/
def pt_V (h : pv_H) (i : Nat) (sec : Bool) (u : Int32) (c : Nat) : Int32 := if c = 102 then (if sec = true then h 337 i else h 335 i) else if c = 103 then (if sec = true then h 335 i else h 337 i) else if c = 118 then h 338 i else if c = 115 then (if sec = true then h 336 i else h 334 i) else if c = 99 then (if h 336 i = -1 then 0 else 1) else if c = 121 then u / 365 else 0
theorem tx_val_c {K : Nat} {V V' : Nat → Int32} (h : ∀ c ∈ tx_nm K, V c = V' c) : ∀ {cs : List tx_C} (i : Nat), (∀ c ∈ cs, tx_wfC K c) → tx_val V cs i = tx_val V' cs i
  | [], _, _ => rfl
  | (c, v) :: t, i, hw => by
    obtain ⟨w1, w2⟩ := hw (c, v) (List.mem_cons_self ..)
    have e1 : tx_gv V c = tx_gv V' c := by
      cases c with
      | none => rfl
      | some a => exact tx_ev_c h (w1 a rfl)
    show (if tx_gv V c = 0 then tx_val V t (i + 1) else (tx_ev V v, nI i)) = (if tx_gv V' c = 0 then tx_val V' t (i + 1) else (tx_ev V' v, nI i))
    rw [e1, tx_val_c h (i + 1) (fun c hc => hw c (List.mem_cons_of_mem _ hc)), tx_ev_c h w2]
theorem tx_val_2 (V : Nat → Int32) : ∀ (cs : List tx_C) (i : Nat), (tx_val V cs i).2 = -1 ∨ ∃ j, j < i + cs.length ∧ (tx_val V cs i).2 = nI j
  | [], i => Or.inl rfl
  | (c, v) :: t, i => by
    have hu : tx_val V ((c, v) :: t) i = if tx_gv V c = 0 then tx_val V t (i + 1) else (tx_ev V v, nI i) := rfl
    rw [hu]
    by_cases q : tx_gv V c = 0
    · rw [if_pos q]
      rcases tx_val_2 V t (i + 1) with e | ⟨j, h1, h2⟩
      · exact Or.inl e
      · exact Or.inr ⟨j, by simp; omega, h2⟩
    · rw [if_neg q]
      exact Or.inr ⟨i, by simp, rfl⟩
theorem tx_rt_len : ∀ cs : List tx_C, cs.length ≤ (tx_rt cs).length
  | [] => Nat.le_refl _
  | (c, v) :: t => by
    have := tx_rt_len t
    show t.length + 1 ≤ (tx_rt t ++ tx_rc (c, v)).length
    rw [List.length_append]
    have : 1 ≤ (tx_rc (c, v)).length := by cases c <;> (show 1 ≤ (_ :: _).length) <;> simp
    omega
/-- act o of both sides reads as the clauses cs -/
def pt_C (K : Nat) (cs : List tx_C) (ty : pv_T) (h : pv_H) (r : pv_R) (o : Nat) : Prop := (∀ i, i < 2 → ty (2 + i) = some (30, 0)) ∧ ty (aA o) = some (0, 0) ∧ r (aA o) 3 = aA o + 1 ∧ ∃ n q, ty (aA o + 1) = some (21, n) ∧ n ≤ 160 ∧ tx_rd K n (tx_b (h (aA o + 1))) = .ok (cs, q)
def pt_M (K : Nat) (cs : List tx_C) (h : pv_H) (o : Nat) : Prop := o < 20 ∧ sy_S o (tx_rt cs) h ∧ (tx_rt cs).length ≤ 161 ∧ ∀ c ∈ cs, tx_wfC K c
theorem pt_of {ty : pv_T} {h : pv_H} {r : pv_R} {na tl o K : Nat} (hA : cpA ty h r na tl) (ho : o < na) (hK : h 342 o = nI K) (hK2 : K < 2) : ∃ cs, pt_C K cs ty h r o ∧ pt_M K cs h o := by
  obtain ⟨-, a2, -, -, -, a6, K', n, cs, q, b1, b2, b3, b4, b5, b6, b7, b8⟩ := hA.2.2.2 o ho
  have e := (nI_eq (by omega) (by omega)).mp (hK.symm.trans b2)
  subst e
  exact ⟨cs, ⟨hA.2.2.1, a2, a6, n, q, b3, b4, b5⟩, ⟨by have := hA.2.1.1; omega, b6, b7, b8⟩⟩
abbrev gpA : Nat → Nat → Prop := fun a j => a = 81 ∨ (a = 80 ∧ (j = 2 ∨ j = 3 ∨ j = 5 ∨ j = 6))
abbrev gmA : Nat → Nat → Prop := fun a j => a = 352 ∨ a = 353 ∨ (a = 200 ∧ j = 54)
abbrev gpR : Nat → Nat → Prop := fun a j => a = 80 ∧ (j = 1 ∨ j = 4)
section PB
variable {Γ : pv_C} {d kc ks : Nat} {ty : pv_T} {h : pv_H} {r : pv_R} {g : pv_G} {Q : pv_Q} {o i : Nat} {u : Int32} {cs : List tx_C}
theorem in_lit {n N : Nat} (h : n < N) (hN : N < 2 ^ 31) : vp_in (nI n) N := vp_in_nI h hN
/-- the last step: the text is read -/
theorem gp_96 (hd : 66 ≤ d) (hL : pv_Lay ty r) {h0 h : pv_H} (hf : pv_fr gpA h0 h) (hC : pt_C 0 cs ty h0 r o) (hw : ∀ c ∈ cs, tx_wfC 0 c) {V : Nat → Int32} (hV : ∀ c ∈ tx_nm 0, rd_V (pv_up h 81 5 (u / 365)) 0 c = V c) (hQ : ∀ h' r', pv_fr gpA h0 h' → pv_frG gpR r r' → pv_Lay ty r' → h' 80 6 = (tx_val V cs 0).2 → Q (some (.int (pt_cl (tx_val V cs 0).1))) ty h' r' g) : pv_E Γ d kc ks mX1_givePart 96 [some (.ref 70), some (.ref (aA o)), none, none, some (.int u), some (.ref 81)] [] ty h r g Q := by
  obtain ⟨c1, c2, c3, n, q, c4, c5, c6⟩ := hC
  refine sg_X1_givePart_96 _ _ (by omega) hL ⟨in_lit (n := 5) (by decide) (by decide), fun h1 e1 => ?_⟩
  rw [show Int32.toNatClampNeg 5 = 5 from rfl] at e1
  rw [c3]
  refine ⟨c2, c2, 21, n, c4, by decide, ct_readText (K := 0) (by omega) hL (by decide) c1 c4 c5 (Nat.le_refl _) (fun x h2 f2 g1 g2 hL2 => ⟨x, rfl, hL2, ?_⟩)⟩
  have e2 : h1 (aA o + 1) = h0 (aA o + 1) := by
    funext j
    rw [e1, pv_up_a (by unfold aA; omega)]
    exact hf _ _ (by unfold gpA aA; omega)
  rw [e2] at g1
  obtain ⟨-, g3⟩ := g1 cs q c6
  rw [e1, tx_val_c hV 0 hw] at g3
  have k1 : x = (tx_val V cs 0).1 := congrArg Prod.fst g3
  have k2 : h2 80 6 = (tx_val V cs 0).2 := congrArg Prod.snd g3
  rw [k1]
  refine hQ h2 _ (pv_fr_tr (pv_fr_up (x := u / 365) hf (Or.inl rfl)) (e1 ▸ pv_fr_mono (fun a j z => Or.inr z) f2)) (pv_frG_up (pv_frG_up (pv_frG_refl _ _) ⟨rfl, Or.inl rfl⟩) ⟨rfl, Or.inr rfl⟩) hL2 k2
theorem pt_Vc {f : Nat → Int32} {V : Nat → Int32} (h0 : f 0 = V 102) (h1 : f 1 = V 103) (h2 : f 2 = V 118) (h3 : f 3 = V 115) (h4 : f 4 = V 99) (h5 : f 5 = V 121) : ∀ c ∈ tx_nm 0, f ((tx_nm 0).idxOf c) = V c := by
  intro c hc
  have e : tx_nm 0 = [102, 103, 118, 115, 99, 121] := rfl
  rw [e] at hc
  simp only [List.mem_cons, List.not_mem_nil, or_false] at hc
  rcases hc with rfl | rfl | rfl | rfl | rfl | rfl
  · exact h0
  · exact h1
  · exact h2
  · exact h3
  · exact h4
  · exact h5
theorem ct_givePart (hd : 66 ≤ d) (hL : pv_Lay ty r) (hC : pt_C 0 cs ty h r o) (hw : ∀ c ∈ cs, tx_wfC 0 c) (ht : ty (hA i) = some (3, 0)) (hi : i < 60) (hh : ∀ j, j < 5 → h (hA i) j = h (334 + j) i) {sec : Bool} {k : pv_Q} (hk : ∀ h' r', pv_fr gpA h h' → pv_frG gpR r r' → pv_Lay ty r' → h' 80 6 = (tx_val (pt_V h i sec u) cs 0).2 → k (some (.int (pt_cl (tx_val (pt_V h i sec u) cs 0).1))) ty h' r' g) : pv_CT Γ d 0 0 mX1_givePart [.ref 70, .ref (aA o), .ref (hA i), .int (pb sec), .int u] ty h r g k := by
  have hne : ∀ a : pv_H, ∀ x : Int32, ∀ j m, (pv_up a 81 j x) (hA i) m = a (hA i) m := fun a x j m => pv_up_a (by unfold hA; omega)
  have l0 := in_lit (n := 0) (N := 6) (by decide) (by decide)
  have l1 := in_lit (n := 1) (N := 6) (by decide) (by decide)
  have l2 := in_lit (n := 2) (N := 6) (by decide) (by decide)
  have l3 := in_lit (n := 3) (N := 6) (by decide) (by decide)
  have l4 := in_lit (n := 4) (N := 6) (by decide) (by decide)
  have main : ∀ v0 v1 v3 : Int32, v0 = pt_V h i sec u 102 → v1 = pt_V h i sec u 103 → v3 = pt_V h i sec u 115 → pv_E Γ d 0 0 mX1_givePart 80 [some (.ref 70), some (.ref (aA o)), some (.ref (hA i)), none, some (.int u), some (.ref 81)] [] ty (pv_up (pv_up (pv_up (pv_up h 81 0 v0) 81 1 v1) 81 2 (h (hA i) 4)) 81 3 v3) r g k := fun v0 v1 v3 e0 e1 e3 => by
    have hf : pv_fr gpA h (pv_up (pv_up (pv_up (pv_up h 81 0 v0) 81 1 v1) 81 2 (h (hA i) 4)) 81 3 v3) := pv_fr_up (pv_fr_up (pv_fr_up (pv_fr_up (pv_fr_refl _ _) (Or.inl rfl)) (Or.inl rfl)) (Or.inl rfl)) (Or.inl rfl)
    have fin : ∀ v4 : Int32, v4 = pt_V h i sec u 99 → pv_E Γ d 0 0 mX1_givePart 96 [some (.ref 70), some (.ref (aA o)), none, none, some (.int u), some (.ref 81)] [] ty (pv_up (pv_up (pv_up (pv_up (pv_up h 81 0 v0) 81 1 v1) 81 2 (h (hA i) 4)) 81 3 v3) 81 4 v4) r g k := fun v4 e4 => by
      refine gp_96 hd hL (h0 := h) (pv_fr_up hf (Or.inl rfl)) hC hw (V := pt_V h i sec u) (pt_Vc (f := (pv_up (pv_up (pv_up (pv_up (pv_up (pv_up h 81 0 v0) 81 1 v1) 81 2 (h (hA i) 4)) 81 3 v3) 81 4 v4) 81 5 (u / 365)) 81) ?_ ?_ ?_ ?_ ?_ ?_) hk
      · rw [pv_up_j (by decide), pv_up_j (by decide), pv_up_j (by decide), pv_up_j (by decide), pv_up_j (by decide), pv_up_same]; exact e0
      · rw [pv_up_j (by decide), pv_up_j (by decide), pv_up_j (by decide), pv_up_j (by decide), pv_up_same]; exact e1
      · rw [pv_up_j (by decide), pv_up_j (by decide), pv_up_j (by decide), pv_up_same]; exact hh 4 (by decide)
      · rw [pv_up_j (by decide), pv_up_j (by decide), pv_up_same]; exact e3
      · rw [pv_up_j (by decide), pv_up_same]; exact e4
      · rw [pv_up_same]; rfl
    refine sg_X1_givePart_80 _ _ _ (by omega) hL ⟨ht, ht, ?_⟩
    rw [hne, hne, hne, hne, hh 2 (by decide)]
    refine pk_b (fun c => ⟨l4, fun h2 e2 => ?_⟩) (fun c => ⟨l4, fun h1 e1 => ?_⟩)
    · rw [e2]
      exact fin 1 (by show (1 : Int32) = (if h 336 i = -1 then 0 else 1); rw [if_neg c])
    · rw [e1]
      exact fin 0 (by show (0 : Int32) = (if h 336 i = -1 then 0 else 1); rw [if_pos (Classical.not_not.mp c)])
  have hA0 : ¬ aA o = 0 := aA_ne o
  cases sec with
  | false =>
    refine pv_fn 1 pn_X1 rfl (Nat.le_of_ble_eq_true rfl) (sg_X1_givePart_0 (aA o) (hA i) _ _ hL ⟨fun _ => ⟨fun _ => ⟨ht, l0, fun h1 e1 => ?_⟩, fun q => absurd rfl q⟩, fun q => absurd q hA0⟩)
    refine sg_X1_givePart_34 _ _ _ _ hL ⟨fun _ => ⟨ht, l1, fun h2 e2 => ?_⟩, fun q => absurd rfl q⟩
    refine sg_X1_givePart_53 _ _ _ _ hL ⟨ht, l2, fun h3 e3 => ⟨fun _ => ⟨ht, l3, fun h4 e4 => ?_⟩, fun q => absurd rfl q⟩⟩
    rw [e4, e3, hne, e2, hne, hne, e1, hne, hne, hne]
    exact main _ _ _ (hh 1 (by decide)) (hh 3 (by decide)) (hh 0 (by decide))
  | true =>
    refine pv_fn 1 pn_X1 rfl (Nat.le_of_ble_eq_true rfl) (sg_X1_givePart_0 (aA o) (hA i) _ _ hL ⟨fun _ => ⟨fun q => absurd q (by decide), fun _ => ⟨ht, l0, fun h1 e1 => ?_⟩⟩, fun q => absurd q hA0⟩)
    refine sg_X1_givePart_34 _ _ _ _ hL ⟨fun q => absurd q (by decide), fun _ => ⟨ht, l1, fun h2 e2 => ?_⟩⟩
    refine sg_X1_givePart_53 _ _ _ _ hL ⟨ht, l2, fun h3 e3 => ⟨fun q => absurd q (by decide), fun _ => ⟨ht, l3, fun h4 e4 => ?_⟩⟩⟩
    rw [e4, e3, hne, e2, hne, hne, e1, hne, hne, hne]
    exact main _ _ _ (hh 3 (by decide)) (hh 1 (by decide)) (hh 2 (by decide))
theorem ct_givePart0 (hL : pv_Lay ty r) {a : Nat} {z : Int32} {k : pv_Q} (hk : k (some (.int 0)) ty h r g) : pv_CT Γ d 0 0 mX1_givePart [.ref 70, .ref 0, .ref a, .int z, .int u] ty h r g k :=
  pv_fn 1 pn_X1 rfl (Nat.le_of_ble_eq_true rfl) (sg_X1_givePart_0 0 a _ _ hL ⟨fun q => absurd rfl q, fun _ => hk⟩)
end PB
