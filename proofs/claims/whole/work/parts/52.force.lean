/-! the acts of both sides; the tape; which act is in force -/
abbrev aA (i : Nat) : Nat := 3000 + 2 * i
def cpAi (ty : pv_T) (h : pv_H) (r : pv_R) (i : Nat) : Prop := r 72 i = aA i ∧ ty (aA i) = some (0, 0) ∧ h (aA i) 0 = h 342 i ∧ h (aA i) 1 = h 343 i ∧ h (aA i) 2 = h 344 i ∧ r (aA i) 3 = aA i + 1 ∧ ∃ K n cs q, K < 2 ∧ h 342 i = nI K ∧ ty (aA i + 1) = some (21, n) ∧ n ≤ 160 ∧ tx_rd K n (tx_b (h (aA i + 1))) = .ok (cs, q) ∧ sy_S i (tx_rt cs) h ∧ (tx_rt cs).length ≤ 161 ∧ ∀ c ∈ cs, tx_wfC K c
/-- THE ACTS of both sides: na acts, tl bytes on the tape; act i of the class lies at 3000 + 2 i, its text behind it -/
def cpA (ty : pv_T) (h : pv_H) (r : pv_R) (na tl : Nat) : Prop := (tl ≤ 160 ∧ h 70 3 = nI tl ∧ h 200 40 = nI tl ∧ ∀ j, j < tl → h 71 j = h 339 j) ∧ (na ≤ 20 ∧ h 70 4 = nI na ∧ h 200 41 = nI na) ∧ (∀ i, i < 2 → ty (2 + i) = some (30, 0)) ∧ ∀ i, i < na → cpAi ty h r i
set_option maxRecDepth 20000 in
set_option maxHeartbeats 4000000 in
theorem sg_X12_isDay_0 {Γ : pv_C} {d kc ks : Nat} {ty : pv_T} {h : pv_H} {r : pv_R} {g : pv_G} {Q : pv_Q} (x : Int32) (hd : 1 ≤ d) (F : (narrow .boolean (.int (pf_b (0 ≤ x ∧ x ≤ 9999))) = .int (pf_b (0 ≤ x ∧ x ≤ 9999)) ∧ Q (some (.int (pf_b (0 ≤ x ∧ x ≤ 9999)))) ty h r g)) : pv_E Γ d kc ks mX12_isDay 0 [some (.int x)] [] ty h r g Q := by
  refine pv_iload_n dX12_isDay_0 rfl ?_
  refine pv_iconst (v := 0) (by decide) dX12_isDay_1 ?_
  refine pv_sipush (v := 9999) (by decide) dX12_isDay_2 ?_
  refine pv_invS (As := [.int x, .int 0, .int 9999]) (d' := d - 1) dX12_isDay_5 moX12_in ml_X12_164 (Nat.le_of_ble_eq_true rfl) (by omega) (Nat.zero_le _) (Nat.zero_le _) (ct_X12_in (by omega)) (fun v ty' h' r' g' hq => ?_) rfl
  obtain ⟨e1, e2, e3, e4, e5⟩ := hq
  rw [e1, e2, e3, e4, e5]
  refine pv_pc (pc' := 8) rfl ?_
  show pv_E Γ d kc ks mX12_isDay 8 [some (.int x)] [.int (pf_b (0 ≤ x ∧ x ≤ 9999))] ty h r g Q
  exact pv_ireturn dX12_isDay_8 rfl F.1 F.2
set_option maxRecDepth 20000 in
set_option maxHeartbeats 4000000 in
theorem sg_X11_isDay_0 {Γ : pv_C} {d kc ks : Nat} {ty : pv_T} {h : pv_H} {r : pv_R} {g : pv_G} {Q : pv_Q} (x : Int32) (hd : 1 ≤ d) (F : (narrow .boolean (.int (pf_b (0 ≤ x ∧ x ≤ 9999))) = .int (pf_b (0 ≤ x ∧ x ≤ 9999)) ∧ Q (some (.int (pf_b (0 ≤ x ∧ x ≤ 9999)))) ty h r g)) : pv_E Γ d kc ks mX11_isDay 0 [some (.int x)] [] ty h r g Q := by
  refine pv_iload_n dX11_isDay_0 rfl ?_
  refine pv_iconst (v := 0) (by decide) dX11_isDay_1 ?_
  refine pv_sipush (v := 9999) (by decide) dX11_isDay_2 ?_
  refine pv_invS (As := [.int x, .int 0, .int 9999]) (d' := d - 1) dX11_isDay_5 moX11_within ml_X11_69 (Nat.le_of_ble_eq_true rfl) (by omega) (Nat.zero_le _) (Nat.zero_le _) (ct_X11_within (by omega)) (fun v ty' h' r' g' hq => ?_) rfl
  obtain ⟨e1, e2, e3, e4, e5⟩ := hq
  rw [e1, e2, e3, e4, e5]
  refine pv_pc (pc' := 8) rfl ?_
  show pv_E Γ d kc ks mX11_isDay 8 [some (.int x)] [.int (pf_b (0 ≤ x ∧ x ≤ 9999))] ty h r g Q
  exact pv_ireturn dX11_isDay_8 rfl F.1 F.2
set_option maxRecDepth 20000 in
set_option maxHeartbeats 4000000 in
theorem sg_X11_isKind_0 {Γ : pv_C} {d kc ks : Nat} {ty : pv_T} {h : pv_H} {r : pv_R} {g : pv_G} {Q : pv_Q} (x : Int32) (F : ((x = 0 → Q (some (.int 1)) ty h r g) ∧ (¬ x = 0 → ((¬ x = 1 → Q (some (.int 0)) ty h r g) ∧ (x = 1 → Q (some (.int 1)) ty h r g))))) : pv_E Γ d kc ks mX11_isKind 0 [some (.int x)] [] ty h r g Q := by
  refine pv_iload_n dX11_isKind_0 rfl ?_
  refine pv_if_eq (tgt := 9) dX11_isKind_1 (by decide) (fun c1 => ?_) (fun c1 => ?_)
  · have F := F.1 c1
    refine pv_iconst (v := 1) (by decide) dX11_isKind_9 ?_
    refine pv_goto (tgt := 14) dX11_isKind_10 (by decide) ?_
    exact pv_ireturn dX11_isKind_14 rfl (by decide) F
  · have F := F.2 c1
    refine pv_iload_n dX11_isKind_4 rfl ?_
    refine pv_iconst (v := 1) (by decide) dX11_isKind_5 ?_
    refine pv_icmp_ne (tgt := 13) dX11_isKind_6 (by decide) (fun c2 => ?_) (fun c2 => ?_)
    · have F := F.1 c2
      refine pv_iconst (v := 0) (by decide) dX11_isKind_13 ?_
      exact pv_ireturn dX11_isKind_14 rfl (by decide) F
    · have F := F.2 c2
      refine pv_iconst (v := 1) (by decide) dX11_isKind_9 ?_
      refine pv_goto (tgt := 14) dX11_isKind_10 (by decide) ?_
      exact pv_ireturn dX11_isKind_14 rfl (by decide) F
section FA
variable {Γ : pv_C} {d : Nat} {ty : pv_T} {h : pv_H} {r : pv_R} {g : pv_G}
theorem ct_X12_isDay {x : Int32} (hd : 1 ≤ d) : pv_CT Γ d 0 0 mX12_isDay [.int x] ty h r g (pv_is (.int (pf_b (0 ≤ x ∧ x ≤ 9999))) ty h r g) := pv_fn 0 pn_X12 rfl (Nat.le_of_ble_eq_true rfl) (sg_X12_isDay_0 x hd ⟨pf_b_n, pv_is_refl _ _ _ _ _⟩)
theorem ct_X11_isDay {x : Int32} (hd : 1 ≤ d) : pv_CT Γ d 0 0 mX11_isDay [.int x] ty h r g (pv_is (.int (pf_b (0 ≤ x ∧ x ≤ 9999))) ty h r g) := pv_fn 0 pn_X11 rfl (Nat.le_of_ble_eq_true rfl) (sg_X11_isDay_0 x hd ⟨pf_b_n, pv_is_refl _ _ _ _ _⟩)
theorem ct_X11_isKind {x : Int32} (_ : 0 ≤ d) : pv_CT Γ d 0 0 mX11_isKind [.int x] ty h r g (pv_is (.int (pf_b (0 ≤ x ∧ x ≤ 1))) ty h r g) := by
  refine pv_fn 0 pn_X11 rfl (Nat.le_of_ble_eq_true rfl) (sg_X11_isKind_0 x ⟨fun c1 => ?_, fun c1 => ⟨fun c2 => ?_, fun c2 => ?_⟩⟩)
  · rw [pf_b_t (by rw [c1]; decide)]; exact pv_is_refl _ _ _ _ _
  · rw [pf_b_f (by grind)]; exact pv_is_refl _ _ _ _ _
  · rw [pf_b_t (by rw [c2]; decide)]; exact pv_is_refl _ _ _ _ _
end FA
set_option maxRecDepth 20000 in
set_option maxHeartbeats 4000000 in
theorem sg_X1_writeTape_0 {Γ : pv_C} {d kc ks : Nat} {ty : pv_T} {h : pv_H} {r : pv_R} {g : pv_G} {Q : pv_Q} (x : Int32) (y : Int32) (hL : pv_Lay ty r) (F : ((((h 70 3) + x) ≤ 160 → pv_E Γ d kc ks mX1_writeTape 17 [some (.ref 70), some (.int x), some (.int y), some (.int 0)] [] ty h r g Q) ∧ (¬ ((h 70 3) + x) ≤ 160 → Q (some (.int (-3))) ty h r g))) : pv_E Γ d kc ks mX1_writeTape 0 [some (.ref 70), some (.int x), some (.int y), none] [] ty h r g Q := by
  refine pv_aload_n dX1_writeTape_0 rfl ?_
  refine pv_getI 1 3 dX1_writeTape_1 fl_X1_28 rfl (lt_70 hL) ?_
  refine pv_iload_n dX1_writeTape_4 rfl ?_
  refine pv_iadd dX1_writeTape_5 ?_
  refine pv_sipush (v := 160) (by decide) dX1_writeTape_6 ?_
  refine pv_icmp_le (tgt := 15) dX1_writeTape_9 (by decide) (fun c1 => ?_) (fun c1 => ?_)
  · have F := F.1 c1
    refine pv_iconst (v := 0) (by decide) dX1_writeTape_15 ?_
    refine pv_istore_n (ls' := [some (.ref 70), some (.int x), some (.int y), some (.int 0)]) dX1_writeTape_16 (by decide) rfl rfl ?_
    exact F
  · have F := F.2 c1
    refine pv_bipush (v := (-3)) (by decide) dX1_writeTape_12 ?_
    exact pv_ireturn dX1_writeTape_14 rfl rfl F
set_option maxRecDepth 20000 in
set_option maxHeartbeats 4000000 in
theorem sg_X1_writeTape_17 {Γ : pv_C} {d kc ks : Nat} {ty : pv_T} {h : pv_H} {r : pv_R} {g : pv_G} {Q : pv_Q} (x1 : Int32) (x2 : Int32) (x3 : Int32) (hL : pv_Lay ty r) (F : ((x1 ≤ x3 → Q (some (.int (h 70 3))) ty h r g) ∧ (¬ x1 ≤ x3 → vp_in (h 70 3) 160 ∧ (∀ h1 : pv_H, h1 = pv_up h 71 (Int32.toNatClampNeg (h 70 3)) ((((((x2.toUInt32 >>> (((8 * x3 : Int32)).toUInt32 &&& Int32.toUInt32 31)).toInt32 : Int32)).toInt8.toInt32 : Int32)).toInt8.toInt32) → (∀ h2 : pv_H, h2 = pv_up h1 70 3 ((h1 70 3) + 1) → pv_E Γ d kc ks mX1_writeTape 17 [some (.ref 70), some (.int x1), some (.int x2), some (.int (x3 + 1))] [] ty h2 r g Q))))) : pv_E Γ d kc ks mX1_writeTape 17 [some (.ref 70), some (.int x1), some (.int x2), some (.int x3)] [] ty h r g Q := by
  refine pv_iload_n dX1_writeTape_17 rfl ?_
  refine pv_iload_n dX1_writeTape_18 rfl ?_
  refine pv_icmp_ge (tgt := 54) dX1_writeTape_19 (by decide) (fun c1 => ?_) (fun c1 => ?_)
  · have F := F.1 c1
    refine pv_aload_n dX1_writeTape_54 rfl ?_
    refine pv_getI 1 3 dX1_writeTape_55 fl_X1_28 rfl (lt_70 hL) ?_
    exact pv_ireturn dX1_writeTape_58 rfl rfl F
  · have F := F.2 c1
    refine pv_aload_n dX1_writeTape_22 rfl ?_
    refine pv_getRk 1 0 dX1_writeTape_23 fl_X1_9 rfl (lt_70 hL) (lr_70_0 hL) ?_
    refine pv_aload_n dX1_writeTape_26 rfl ?_
    refine pv_getI 1 3 dX1_writeTape_27 fl_X1_28 rfl (lt_70 hL) ?_
    refine pv_iload_n dX1_writeTape_30 rfl ?_
    refine pv_bipush (v := 8) (by decide) dX1_writeTape_31 ?_
    refine pv_pc (pc' := 33) rfl ?_
    refine pv_iload_n dX1_writeTape_33 rfl ?_
    refine pv_imul dX1_writeTape_34 ?_
    refine pv_iushr dX1_writeTape_35 ?_
    refine pv_i2b dX1_writeTape_36 ?_
    obtain ⟨q1, F⟩ := F
    obtain ⟨h1, eh1⟩ : ∃ h1 : pv_H, h1 = pv_up h 71 (Int32.toNatClampNeg (h 70 3)) ((((((x2.toUInt32 >>> (((8 * x3 : Int32)).toUInt32 &&& Int32.toUInt32 31)).toInt32 : Int32)).toInt8.toInt32 : Int32)).toInt8.toInt32) := ⟨_, rfl⟩
    have F := F h1 eh1
    refine pv_bast dX1_writeTape_37 (lt_71 hL) (by decide) q1 ?_
    refine pv_hE eh1 ?_
    refine pv_aload_n dX1_writeTape_38 rfl ?_
    refine pv_dup rfl dX1_writeTape_39 ?_
    refine pv_getI 1 3 dX1_writeTape_40 fl_X1_28 rfl (lt_70 hL) ?_
    refine pv_iconst (v := 1) (by decide) dX1_writeTape_43 ?_
    refine pv_iadd dX1_writeTape_44 ?_
    obtain ⟨h2, eh2⟩ : ∃ h2 : pv_H, h2 = pv_up h1 70 3 ((h1 70 3) + 1) := ⟨_, rfl⟩
    have F := F h2 eh2
    refine pv_putI 1 3 dX1_writeTape_45 fl_X1_28 ⟨_, rfl, Or.inl rfl⟩ (Or.inl rfl) (lt_70 hL) ?_
    refine pv_hE eh2 ?_
    refine pv_iinc (v := x3 + 1) (ls' := [some (.ref 70), some (.int x1), some (.int x2), some (.int (x3 + 1))]) dX1_writeTape_48 rfl (by rfl) rfl rfl ?_
    refine pv_goto (tgt := 17) dX1_writeTape_51 (by decide) ?_
    exact F
set_option maxRecDepth 20000 in
set_option maxHeartbeats 4000000 in
theorem sg_X12_feed_0 {Γ : pv_C} {d kc ks : Nat} {ty : pv_T} {h : pv_H} {r : pv_R} {g : pv_G} {Q : pv_Q} (x : Int32) (y : Int32) (hd : 1 ≤ d) (hL : pv_Lay ty r) (F : ((¬ (pf_b (1 ≤ x ∧ x ≤ 4)) = 0 → ((((h 200 40) + x) ≤ 160 → pv_E Γ d kc ks mX12_feed 28 [some (.ref 200), some (.int x), some (.int y), some (.int 0)] [] ty h r g Q) ∧ (¬ ((h 200 40) + x) ≤ 160 → Q (some (.int (-3))) ty h r g))) ∧ ((pf_b (1 ≤ x ∧ x ≤ 4)) = 0 → Q (some (.int (-1))) ty h r g))) : pv_E Γ d kc ks mX12_feed 0 [some (.ref 200), some (.int x), some (.int y), none] [] ty h r g Q := by
  refine pv_iload_n dX12_feed_0 rfl ?_
  refine pv_iconst (v := 1) (by decide) dX12_feed_1 ?_
  refine pv_iconst (v := 4) (by decide) dX12_feed_2 ?_
  refine pv_invS (As := [.int x, .int 1, .int 4]) (d' := d - 1) dX12_feed_3 moX12_in ml_X12_164 (Nat.le_of_ble_eq_true rfl) (by omega) (Nat.zero_le _) (Nat.zero_le _) (ct_X12_in (by omega)) (fun v ty' h' r' g' hq => ?_) rfl
  obtain ⟨e1, e2, e3, e4, e5⟩ := hq
  rw [e1, e2, e3, e4, e5]
  refine pv_pc (pc' := 6) rfl ?_
  show pv_E Γ d kc ks mX12_feed 6 [some (.ref 200), some (.int x), some (.int y), none] [.int (pf_b (1 ≤ x ∧ x ≤ 4))] ty h r g Q
  refine pv_if_ne (tgt := 11) dX12_feed_6 (by decide) (fun c1 => ?_) (fun c1 => ?_)
  · have F := F.1 c1
    refine pv_aload_n dX12_feed_11 rfl ?_
    refine pv_getI 12 40 dX12_feed_12 fl_X12_240 rfl (lt_200 hL) ?_
    refine pv_iload_n dX12_feed_15 rfl ?_
    refine pv_iadd dX12_feed_16 ?_
    refine pv_sipush (v := 160) (by decide) dX12_feed_17 ?_
    refine pv_icmp_le (tgt := 26) dX12_feed_20 (by decide) (fun c2 => ?_) (fun c2 => ?_)
    · have F := F.1 c2
      refine pv_iconst (v := 0) (by decide) dX12_feed_26 ?_
      refine pv_istore_n (ls' := [some (.ref 200), some (.int x), some (.int y), some (.int 0)]) dX12_feed_27 (by decide) rfl rfl ?_
      exact F
    · have F := F.2 c2
      refine pv_bipush (v := (-3)) (by decide) dX12_feed_23 ?_
      exact pv_ireturn dX12_feed_25 rfl rfl F
  · have F := F.2 c1
    refine pv_iconst (v := (-1)) (by decide) dX12_feed_9 ?_
    exact pv_ireturn dX12_feed_10 rfl rfl F
set_option maxRecDepth 20000 in
set_option maxHeartbeats 4000000 in
theorem sg_X12_feed_28 {Γ : pv_C} {d kc ks : Nat} {ty : pv_T} {h : pv_H} {r : pv_R} {g : pv_G} {Q : pv_Q} (x1 : Int32) (x2 : Int32) (x3 : Int32) (hL : pv_Lay ty r) (F : ((x1 ≤ x3 → Q (some (.int (h 200 40))) ty h r g) ∧ (¬ x1 ≤ x3 → vp_in (h 200 40) 160 ∧ (∀ h1 : pv_H, h1 = pv_up h 339 (Int32.toNatClampNeg (h 200 40)) (((((x2 >>> ((8 * x3) &&& 31) : Int32)).toInt8.toInt32 : Int32)).toInt8.toInt32) → (∀ h2 : pv_H, h2 = pv_up h1 200 40 ((h1 200 40) + 1) → pv_E Γ d kc ks mX12_feed 28 [some (.ref 200), some (.int x1), some (.int x2), some (.int (x3 + 1))] [] ty h2 r g Q))))) : pv_E Γ d kc ks mX12_feed 28 [some (.ref 200), some (.int x1), some (.int x2), some (.int x3)] [] ty h r g Q := by
  refine pv_iload_n dX12_feed_28 rfl ?_
  refine pv_iload_n dX12_feed_29 rfl ?_
  refine pv_icmp_ge (tgt := 65) dX12_feed_30 (by decide) (fun c1 => ?_) (fun c1 => ?_)
  · have F := F.1 c1
    refine pv_aload_n dX12_feed_65 rfl ?_
    refine pv_getI 12 40 dX12_feed_66 fl_X12_240 rfl (lt_200 hL) ?_
    exact pv_ireturn dX12_feed_69 rfl rfl F
  · have F := F.2 c1
    refine pv_aload_n dX12_feed_33 rfl ?_
    refine pv_getRk 12 39 dX12_feed_34 fl_X12_99 rfl (lt_200 hL) (lr_200_39 hL) ?_
    refine pv_aload_n dX12_feed_37 rfl ?_
    refine pv_getI 12 40 dX12_feed_38 fl_X12_240 rfl (lt_200 hL) ?_
    refine pv_iload_n dX12_feed_41 rfl ?_
    refine pv_bipush (v := 8) (by decide) dX12_feed_42 ?_
    refine pv_pc (pc' := 44) rfl ?_
    refine pv_iload_n dX12_feed_44 rfl ?_
    refine pv_imul dX12_feed_45 ?_
    refine pv_ishr dX12_feed_46 ?_
    refine pv_i2b dX12_feed_47 ?_
    obtain ⟨q1, F⟩ := F
    obtain ⟨h1, eh1⟩ : ∃ h1 : pv_H, h1 = pv_up h 339 (Int32.toNatClampNeg (h 200 40)) (((((x2 >>> ((8 * x3) &&& 31) : Int32)).toInt8.toInt32 : Int32)).toInt8.toInt32) := ⟨_, rfl⟩
    have F := F h1 eh1
    refine pv_bast dX12_feed_48 (lt_339 hL) (by decide) q1 ?_
    refine pv_hE eh1 ?_
    refine pv_aload_n dX12_feed_49 rfl ?_
    refine pv_dup rfl dX12_feed_50 ?_
    refine pv_getI 12 40 dX12_feed_51 fl_X12_240 rfl (lt_200 hL) ?_
    refine pv_iconst (v := 1) (by decide) dX12_feed_54 ?_
    refine pv_iadd dX12_feed_55 ?_
    obtain ⟨h2, eh2⟩ : ∃ h2 : pv_H, h2 = pv_up h1 200 40 ((h1 200 40) + 1) := ⟨_, rfl⟩
    have F := F h2 eh2
    refine pv_putI 12 40 dX12_feed_56 fl_X12_240 ⟨_, rfl, Or.inl rfl⟩ (Or.inl rfl) (lt_200 hL) ?_
    refine pv_hE eh2 ?_
    refine pv_iinc (v := x3 + 1) (ls' := [some (.ref 200), some (.int x1), some (.int x2), some (.int (x3 + 1))]) dX12_feed_59 rfl (by rfl) rfl rfl ?_
    refine pv_goto (tgt := 28) dX12_feed_62 (by decide) ?_
    exact F
set_option maxRecDepth 20000 in
set_option maxHeartbeats 4000000 in
theorem sg_X11_feed_0 {Γ : pv_C} {d kc ks : Nat} {ty : pv_T} {h : pv_H} {r : pv_R} {g : pv_G} {Q : pv_Q} (x : Int32) (y : Int32) (hd : 1 ≤ d) (hL : pv_Lay ty r) (F : (((pf_b (1 ≤ x ∧ x ≤ 4)) = 0 → Q (some (.int (-1))) ty h r g) ∧ (¬ (pf_b (1 ≤ x ∧ x ≤ 4)) = 0 → pv_CJ Γ (d - 1) mX1_writeTape [.ref 70, .int x, .int y] ty h r g (fun (w1 : Int32) (h1 : pv_H) => Q (some (.int w1)) ty h1 r g)))) : pv_E Γ d kc ks mX11_feed 0 [some (.ref 100), some (.int x), some (.int y)] [] ty h r g Q := by
  refine pv_iload_n dX11_feed_0 rfl ?_
  refine pv_iconst (v := 1) (by decide) dX11_feed_1 ?_
  refine pv_iconst (v := 4) (by decide) dX11_feed_2 ?_
  refine pv_invS (As := [.int x, .int 1, .int 4]) (d' := d - 1) dX11_feed_3 moX11_within ml_X11_69 (Nat.le_of_ble_eq_true rfl) (by omega) (Nat.zero_le _) (Nat.zero_le _) (ct_X11_within (by omega)) (fun v ty' h' r' g' hq => ?_) rfl
  obtain ⟨e1, e2, e3, e4, e5⟩ := hq
  rw [e1, e2, e3, e4, e5]
  refine pv_pc (pc' := 6) rfl ?_
  show pv_E Γ d kc ks mX11_feed 6 [some (.ref 100), some (.int x), some (.int y)] [.int (pf_b (1 ≤ x ∧ x ≤ 4))] ty h r g Q
  refine pv_if_eq (tgt := 21) dX11_feed_6 (by decide) (fun c1 => ?_) (fun c1 => ?_)
  · have F := F.1 c1
    refine pv_iconst (v := (-1)) (by decide) dX11_feed_21 ?_
    exact pv_ireturn dX11_feed_22 rfl rfl F
  · have F := F.2 c1
    refine pv_aload_n dX11_feed_9 rfl ?_
    refine pv_getRk 11 10 dX11_feed_10 fl_X11_52 rfl (lt_100 hL) (lr_100_10 hL) ?_
    refine pv_iload_n dX11_feed_13 rfl ?_
    refine pv_iload_n dX11_feed_14 rfl ?_
    refine pv_invV (As := [.int x, .int y]) (d' := d - 1) dX11_feed_15 moX1_writeTape ml_X11_189 (lt_70 hL) (Or.inl ⟨_, rfl, rfl⟩) (Nat.le_of_ble_eq_true rfl) (by omega) (Nat.zero_le _) (Nat.zero_le _) F (fun v ty' h1 r' g' hq => ?_) rfl
    obtain ⟨e2, e4, e5, w1, e1, F⟩ := hq
    rw [e1, e2, e4, e5]
    refine pv_pc (pc' := 18) rfl ?_
    show pv_E Γ d kc ks mX11_feed 18 [some (.ref 100), some (.int x), some (.int y)] [.int w1] ty h1 r g Q
    refine pv_goto (tgt := 22) dX11_feed_18 (by decide) ?_
    exact pv_ireturn dX11_feed_22 rfl rfl F
set_option maxRecDepth 20000 in
set_option maxHeartbeats 4000000 in
theorem sg_X12_forceOn_0 {Γ : pv_C} {d kc ks : Nat} {ty : pv_T} {h : pv_H} {r : pv_R} {g : pv_G} {Q : pv_Q} (x : Int32) (y : Int32) (z : Int32) (hL : pv_Lay ty r) (F : pv_E Γ d kc ks mX12_forceOn 8 [some (.ref 200), some (.int x), some (.int y), some (.int z), some (.int ((h 200 41) - 1))] [] ty h r g Q) : pv_E Γ d kc ks mX12_forceOn 0 [some (.ref 200), some (.int x), some (.int y), some (.int z), none] [] ty h r g Q := by
  refine pv_aload_n dX12_forceOn_0 rfl ?_
  refine pv_getI 12 41 dX12_forceOn_1 fl_X12_279 rfl (lt_200 hL) ?_
  refine pv_iconst (v := 1) (by decide) dX12_forceOn_4 ?_
  refine pv_isub dX12_forceOn_5 ?_
  refine pv_istore (ls' := [some (.ref 200), some (.int x), some (.int y), some (.int z), some (.int ((h 200 41) - 1))]) dX12_forceOn_6 (by decide) rfl rfl ?_
  exact F
set_option maxRecDepth 20000 in
set_option maxHeartbeats 4000000 in
theorem sg_X12_forceOn_8 {Γ : pv_C} {d kc ks : Nat} {ty : pv_T} {h : pv_H} {r : pv_R} {g : pv_G} {Q : pv_Q} (x1 : Int32) (x2 : Int32) (x3 : Int32) (x4 : Int32) (hL : pv_Lay ty r) (F : ((x4 < 0 → Q (some (.int (-2))) ty h r g) ∧ (¬ x4 < 0 → vp_in x4 20 ∧ ((¬ (h 342 (Int32.toNatClampNeg x4)) = x1 → pv_E Γ d kc ks mX12_forceOn 8 [some (.ref 200), some (.int x1), some (.int x2), some (.int x3), some (.int (x4 + (-1)))] [] ty h r g Q) ∧ ((h 342 (Int32.toNatClampNeg x4)) = x1 → vp_in x4 20 ∧ ((x3 < (h 343 (Int32.toNatClampNeg x4)) → pv_E Γ d kc ks mX12_forceOn 8 [some (.ref 200), some (.int x1), some (.int x2), some (.int x3), some (.int (x4 + (-1)))] [] ty h r g Q) ∧ (¬ x3 < (h 343 (Int32.toNatClampNeg x4)) → vp_in x4 20 ∧ ((x2 < (h 344 (Int32.toNatClampNeg x4)) → pv_E Γ d kc ks mX12_forceOn 8 [some (.ref 200), some (.int x1), some (.int x2), some (.int x3), some (.int (x4 + (-1)))] [] ty h r g Q) ∧ (¬ x2 < (h 344 (Int32.toNatClampNeg x4)) → Q (some (.int x4)) ty h r g))))))))) : pv_E Γ d kc ks mX12_forceOn 8 [some (.ref 200), some (.int x1), some (.int x2), some (.int x3), some (.int x4)] [] ty h r g Q := by
  refine pv_iload dX12_forceOn_8 rfl ?_
  refine pv_if_lt (tgt := 55) dX12_forceOn_10 (by decide) (fun c1 => ?_) (fun c1 => ?_)
  · have F := F.1 c1
    refine pv_bipush (v := (-2)) (by decide) dX12_forceOn_55 ?_
    exact pv_ireturn dX12_forceOn_57 rfl rfl F
  · have F := F.2 c1
    refine pv_aload_n dX12_forceOn_13 rfl ?_
    refine pv_getRk 12 42 dX12_forceOn_14 fl_X12_103 rfl (lt_200 hL) (lr_200_42 hL) ?_
    refine pv_iload dX12_forceOn_17 rfl ?_
    obtain ⟨q1, F⟩ := F
    refine pv_iald dX12_forceOn_19 (lt_342 hL) q1 ?_
    refine pv_iload_n dX12_forceOn_20 rfl ?_
    refine pv_icmp_ne (tgt := 49) dX12_forceOn_21 (by decide) (fun c2 => ?_) (fun c2 => ?_)
    · have F := F.1 c2
      refine pv_iinc (v := x4 + (-1)) (ls' := [some (.ref 200), some (.int x1), some (.int x2), some (.int x3), some (.int (x4 + (-1)))]) dX12_forceOn_49 rfl (by rfl) rfl rfl ?_
      refine pv_goto (tgt := 8) dX12_forceOn_52 (by decide) ?_
      exact F
    · have F := F.2 c2
      refine pv_aload_n dX12_forceOn_24 rfl ?_
      refine pv_getRk 12 43 dX12_forceOn_25 fl_X12_106 rfl (lt_200 hL) (lr_200_43 hL) ?_
      refine pv_iload dX12_forceOn_28 rfl ?_
      obtain ⟨q2, F⟩ := F
      refine pv_iald dX12_forceOn_30 (lt_343 hL) q2 ?_
      refine pv_iload_n dX12_forceOn_31 rfl ?_
      refine pv_icmp_gt (tgt := 49) dX12_forceOn_32 (by decide) (fun c3 => ?_) (fun c3 => ?_)
      · have F := F.1 c3
        refine pv_iinc (v := x4 + (-1)) (ls' := [some (.ref 200), some (.int x1), some (.int x2), some (.int x3), some (.int (x4 + (-1)))]) dX12_forceOn_49 rfl (by rfl) rfl rfl ?_
        refine pv_goto (tgt := 8) dX12_forceOn_52 (by decide) ?_
        exact F
      · have F := F.2 c3
        refine pv_aload_n dX12_forceOn_35 rfl ?_
        refine pv_getRk 12 44 dX12_forceOn_36 fl_X12_109 rfl (lt_200 hL) (lr_200_44 hL) ?_
        refine pv_iload dX12_forceOn_39 rfl ?_
        obtain ⟨q3, F⟩ := F
        refine pv_iald dX12_forceOn_41 (lt_344 hL) q3 ?_
        refine pv_iload_n dX12_forceOn_42 rfl ?_
        refine pv_icmp_gt (tgt := 49) dX12_forceOn_43 (by decide) (fun c4 => ?_) (fun c4 => ?_)
        · have F := F.1 c4
          refine pv_iinc (v := x4 + (-1)) (ls' := [some (.ref 200), some (.int x1), some (.int x2), some (.int x3), some (.int (x4 + (-1)))]) dX12_forceOn_49 rfl (by rfl) rfl rfl ?_
          refine pv_goto (tgt := 8) dX12_forceOn_52 (by decide) ?_
          exact F
        · have F := F.2 c4
          refine pv_iload dX12_forceOn_46 rfl ?_
          exact pv_ireturn dX12_forceOn_48 rfl rfl F
set_option maxRecDepth 20000 in
set_option maxHeartbeats 4000000 in
theorem sg_X1_numberInForce_0 {Γ : pv_C} {d kc ks : Nat} {ty : pv_T} {h : pv_H} {r : pv_R} {g : pv_G} {Q : pv_Q} (x : Int32) (y : Int32) (z : Int32) (hL : pv_Lay ty r) (F : pv_E Γ d kc ks mX1_numberInForce 8 [some (.ref 70), some (.int x), some (.int y), some (.int z), some (.int ((h 70 4) - 1)), none] [] ty h r g Q) : pv_E Γ d kc ks mX1_numberInForce 0 [some (.ref 70), some (.int x), some (.int y), some (.int z), none, none] [] ty h r g Q := by
  refine pv_aload_n dX1_numberInForce_0 rfl ?_
  refine pv_getI 1 4 dX1_numberInForce_1 fl_X1_32 rfl (lt_70 hL) ?_
  refine pv_iconst (v := 1) (by decide) dX1_numberInForce_4 ?_
  refine pv_isub dX1_numberInForce_5 ?_
  refine pv_istore (ls' := [some (.ref 70), some (.int x), some (.int y), some (.int z), some (.int ((h 70 4) - 1)), none]) dX1_numberInForce_6 (by decide) rfl rfl ?_
  exact F
set_option maxRecDepth 20000 in
set_option maxHeartbeats 4000000 in
theorem sg_X1_numberInForce_8 {Γ : pv_C} {d kc ks : Nat} {ty : pv_T} {h : pv_H} {r : pv_R} {g : pv_G} {Q : pv_Q} (x1 : Int32) (x2 : Int32) (x3 : Int32) (x4 : Int32) (hL : pv_Lay ty r) (F : ((x4 < 0 → Q (some (.int (-1))) ty h r g) ∧ (¬ x4 < 0 → vp_in x4 20 ∧ (((r 72 (Int32.toNatClampNeg x4)) = 0 → pv_E Γ d kc ks mX1_numberInForce 8 [some (.ref 70), some (.int x1), some (.int x2), some (.int x3), some (.int (x4 + (-1))), none] [] ty h r g Q) ∧ (¬ (r 72 (Int32.toNatClampNeg x4)) = 0 → ty (r 72 (Int32.toNatClampNeg x4)) = some (0, 0) ∧ ((¬ (h (r 72 (Int32.toNatClampNeg x4)) 0) = x1 → pv_E Γ d kc ks mX1_numberInForce 8 [some (.ref 70), some (.int x1), some (.int x2), some (.int x3), some (.int (x4 + (-1))), none] [] ty h r g Q) ∧ ((h (r 72 (Int32.toNatClampNeg x4)) 0) = x1 → ty (r 72 (Int32.toNatClampNeg x4)) = some (0, 0) ∧ ((x3 < (h (r 72 (Int32.toNatClampNeg x4)) 1) → pv_E Γ d kc ks mX1_numberInForce 8 [some (.ref 70), some (.int x1), some (.int x2), some (.int x3), some (.int (x4 + (-1))), none] [] ty h r g Q) ∧ (¬ x3 < (h (r 72 (Int32.toNatClampNeg x4)) 1) → ty (r 72 (Int32.toNatClampNeg x4)) = some (0, 0) ∧ ((x2 < (h (r 72 (Int32.toNatClampNeg x4)) 2) → pv_E Γ d kc ks mX1_numberInForce 8 [some (.ref 70), some (.int x1), some (.int x2), some (.int x3), some (.int (x4 + (-1))), none] [] ty h r g Q) ∧ (¬ x2 < (h (r 72 (Int32.toNatClampNeg x4)) 2) → Q (some (.int x4)) ty h r g))))))))))) : pv_E Γ d kc ks mX1_numberInForce 8 [some (.ref 70), some (.int x1), some (.int x2), some (.int x3), some (.int x4), none] [] ty h r g Q := by
  refine pv_iload dX1_numberInForce_8 rfl ?_
  refine pv_if_lt (tgt := 63) dX1_numberInForce_10 (by decide) (fun c1 => ?_) (fun c1 => ?_)
  · have F := F.1 c1
    refine pv_iconst (v := (-1)) (by decide) dX1_numberInForce_63 ?_
    exact pv_ireturn dX1_numberInForce_64 rfl rfl F
  · have F := F.2 c1
    refine pv_aload_n dX1_numberInForce_13 rfl ?_
    refine pv_getRk 1 1 dX1_numberInForce_14 fl_X1_17 rfl (lt_70 hL) (lr_70_1 hL) ?_
    refine pv_iload dX1_numberInForce_17 rfl ?_
    obtain ⟨q1, F⟩ := F
    refine pv_aald dX1_numberInForce_19 (lt_72 hL) (by decide) q1 ?_
    refine pv_astore (ls' := [some (.ref 70), some (.int x1), some (.int x2), some (.int x3), some (.int x4), some (.ref (r 72 (Int32.toNatClampNeg x4)))]) dX1_numberInForce_20 (by decide) rfl rfl ?_
    refine pv_aload dX1_numberInForce_22 rfl ?_
    refine pv_ifnull (tgt := 57) dX1_numberInForce_24 (by decide) (fun c2 => ?_) (fun c2 => ?_)
    · have F := F.1 c2
      refine pv_iinc (v := x4 + (-1)) (ls' := [some (.ref 70), some (.int x1), some (.int x2), some (.int x3), some (.int (x4 + (-1))), some (.ref (r 72 (Int32.toNatClampNeg x4)))]) dX1_numberInForce_57 rfl (by rfl) rfl rfl ?_
      refine pv_goto (tgt := 8) dX1_numberInForce_60 (by decide) ?_
      refine pv_forgetL (ls' := [some (.ref 70), some (.int x1), some (.int x2), some (.int x3), some (.int (x4 + (-1))), none]) (pv_subL_ok ⟨rfl, ⟨rfl, ⟨rfl, ⟨rfl, ⟨rfl, trivial⟩⟩⟩⟩⟩) ?_
      exact F
    · have F := F.2 c2
      refine pv_aload dX1_numberInForce_27 rfl ?_
      obtain ⟨q2, F⟩ := F
      refine pv_getI 0 0 dX1_numberInForce_29 fl_X1_51 rfl q2 ?_
      refine pv_iload_n dX1_numberInForce_32 rfl ?_
      refine pv_icmp_ne (tgt := 57) dX1_numberInForce_33 (by decide) (fun c3 => ?_) (fun c3 => ?_)
      · have F := F.1 c3
        refine pv_iinc (v := x4 + (-1)) (ls' := [some (.ref 70), some (.int x1), some (.int x2), some (.int x3), some (.int (x4 + (-1))), some (.ref (r 72 (Int32.toNatClampNeg x4)))]) dX1_numberInForce_57 rfl (by rfl) rfl rfl ?_
        refine pv_goto (tgt := 8) dX1_numberInForce_60 (by decide) ?_
        refine pv_forgetL (ls' := [some (.ref 70), some (.int x1), some (.int x2), some (.int x3), some (.int (x4 + (-1))), none]) (pv_subL_ok ⟨rfl, ⟨rfl, ⟨rfl, ⟨rfl, ⟨rfl, trivial⟩⟩⟩⟩⟩) ?_
        exact F
      · have F := F.2 c3
        refine pv_aload dX1_numberInForce_36 rfl ?_
        obtain ⟨q3, F⟩ := F
        refine pv_getI 0 1 dX1_numberInForce_38 fl_X1_54 rfl q3 ?_
        refine pv_iload_n dX1_numberInForce_41 rfl ?_
        refine pv_icmp_gt (tgt := 57) dX1_numberInForce_42 (by decide) (fun c4 => ?_) (fun c4 => ?_)
        · have F := F.1 c4
          refine pv_iinc (v := x4 + (-1)) (ls' := [some (.ref 70), some (.int x1), some (.int x2), some (.int x3), some (.int (x4 + (-1))), some (.ref (r 72 (Int32.toNatClampNeg x4)))]) dX1_numberInForce_57 rfl (by rfl) rfl rfl ?_
          refine pv_goto (tgt := 8) dX1_numberInForce_60 (by decide) ?_
          refine pv_forgetL (ls' := [some (.ref 70), some (.int x1), some (.int x2), some (.int x3), some (.int (x4 + (-1))), none]) (pv_subL_ok ⟨rfl, ⟨rfl, ⟨rfl, ⟨rfl, ⟨rfl, trivial⟩⟩⟩⟩⟩) ?_
          exact F
        · have F := F.2 c4
          refine pv_aload dX1_numberInForce_45 rfl ?_
          obtain ⟨q4, F⟩ := F
          refine pv_getI 0 2 dX1_numberInForce_47 fl_X1_57 rfl q4 ?_
          refine pv_iload_n dX1_numberInForce_50 rfl ?_
          refine pv_icmp_gt (tgt := 57) dX1_numberInForce_51 (by decide) (fun c5 => ?_) (fun c5 => ?_)
          · have F := F.1 c5
            refine pv_iinc (v := x4 + (-1)) (ls' := [some (.ref 70), some (.int x1), some (.int x2), some (.int x3), some (.int (x4 + (-1))), some (.ref (r 72 (Int32.toNatClampNeg x4)))]) dX1_numberInForce_57 rfl (by rfl) rfl rfl ?_
            refine pv_goto (tgt := 8) dX1_numberInForce_60 (by decide) ?_
            refine pv_forgetL (ls' := [some (.ref 70), some (.int x1), some (.int x2), some (.int x3), some (.int (x4 + (-1))), none]) (pv_subL_ok ⟨rfl, ⟨rfl, ⟨rfl, ⟨rfl, ⟨rfl, trivial⟩⟩⟩⟩⟩) ?_
            exact F
          · have F := F.2 c5
            refine pv_iload dX1_numberInForce_54 rfl ?_
            exact pv_ireturn dX1_numberInForce_56 rfl rfl F
set_option maxRecDepth 20000 in
set_option maxHeartbeats 4000000 in
theorem sg_X1_findInForce_0 {Γ : pv_C} {d kc ks : Nat} {ty : pv_T} {h : pv_H} {r : pv_R} {g : pv_G} {Q : pv_Q} (x : Int32) (y : Int32) (z : Int32) (hd : 1 ≤ d) (hL : pv_Lay ty r) (F : pv_CJ Γ (d - 1) mX1_numberInForce [.ref 70, .int x, .int y, .int z] ty h r g (fun (w1 : Int32) (h1 : pv_H) => ((¬ w1 = (-1) → vp_in w1 20 ∧ Q (some (.ref (r 72 (Int32.toNatClampNeg w1)))) ty h1 r g) ∧ (w1 = (-1) → Q (some (.ref 0)) ty h1 r g)))) : pv_E Γ d kc ks mX1_findInForce 0 [some (.ref 70), some (.int x), some (.int y), some (.int z), none] [] ty h r g Q := by
  refine pv_aload_n dX1_findInForce_0 rfl ?_
  refine pv_iload_n dX1_findInForce_1 rfl ?_
  refine pv_iload_n dX1_findInForce_2 rfl ?_
  refine pv_iload_n dX1_findInForce_3 rfl ?_
  refine pv_invV (As := [.int x, .int y, .int z]) (d' := d - 1) dX1_findInForce_4 moX1_numberInForce ml_X1_60 (lt_70 hL) (Or.inl ⟨_, rfl, rfl⟩) (Nat.le_of_ble_eq_true rfl) (by omega) (Nat.zero_le _) (Nat.zero_le _) F (fun v ty' h1 r' g' hq => ?_) rfl
  obtain ⟨e2, e4, e5, w1, e1, F⟩ := hq
  rw [e1, e2, e4, e5]
  refine pv_pc (pc' := 7) rfl ?_
  show pv_E Γ d kc ks mX1_findInForce 7 [some (.ref 70), some (.int x), some (.int y), some (.int z), none] [.int w1] ty h1 r g Q
  refine pv_istore (ls' := [some (.ref 70), some (.int x), some (.int y), some (.int z), some (.int w1)]) dX1_findInForce_7 (by decide) rfl rfl ?_
  refine pv_iload dX1_findInForce_9 rfl ?_
  refine pv_iconst (v := (-1)) (by decide) dX1_findInForce_11 ?_
  refine pv_icmp_ne (tgt := 19) dX1_findInForce_12 (by decide) (fun c1 => ?_) (fun c1 => ?_)
  · have F := F.1 c1
    refine pv_aload_n dX1_findInForce_19 rfl ?_
    refine pv_getRk 1 1 dX1_findInForce_20 fl_X1_17 rfl (lt_70 hL) (lr_70_1 hL) ?_
    refine pv_iload dX1_findInForce_23 rfl ?_
    obtain ⟨q1, F⟩ := F
    refine pv_aald dX1_findInForce_25 (lt_72 hL) (by decide) q1 ?_
    exact pv_areturn dX1_findInForce_26 rfl (by first | exact Or.inl ⟨_, rfl⟩ | exact Or.inr ⟨_, rfl⟩) F
  · have F := F.2 c1
    refine pv_null dX1_findInForce_15 ?_
    refine pv_goto (tgt := 26) dX1_findInForce_16 (by decide) ?_
    exact pv_areturn dX1_findInForce_26 rfl (by first | exact Or.inl ⟨_, rfl⟩ | exact Or.inr ⟨_, rfl⟩) F
set_option maxRecDepth 20000 in
set_option maxHeartbeats 4000000 in
theorem sg_X12_inForce_0 {Γ : pv_C} {d kc ks : Nat} {ty : pv_T} {h : pv_H} {r : pv_R} {g : pv_G} {Q : pv_Q} (x : Int32) (y : Int32) (z : Int32) (hd : 2 ≤ d) (hL : pv_Lay ty r) (F : (((pf_b (0 ≤ x ∧ x ≤ 1)) = 0 → Q (some (.int (-1))) ty h r g) ∧ (¬ (pf_b (0 ≤ x ∧ x ≤ 1)) = 0 → (((pf_b (0 ≤ y ∧ y ≤ 9999)) = 0 → Q (some (.int (-1))) ty h r g) ∧ (¬ (pf_b (0 ≤ y ∧ y ≤ 9999)) = 0 → (((pf_b (0 ≤ z ∧ z ≤ 9999)) = 0 → Q (some (.int (-1))) ty h r g) ∧ (¬ (pf_b (0 ≤ z ∧ z ≤ 9999)) = 0 → pv_CJ Γ (d - 1) mX12_forceOn [.ref 200, .int x, .int y, .int z] ty h r g (fun (w1 : Int32) (h1 : pv_H) => Q (some (.int w1)) ty h1 r g)))))))) : pv_E Γ d kc ks mX12_inForce 0 [some (.ref 200), some (.int x), some (.int y), some (.int z)] [] ty h r g Q := by
  refine pv_iload_n dX12_inForce_0 rfl ?_
  refine pv_iconst (v := 0) (by decide) dX12_inForce_1 ?_
  refine pv_iconst (v := 1) (by decide) dX12_inForce_2 ?_
  refine pv_invS (As := [.int x, .int 0, .int 1]) (d' := d - 1) dX12_inForce_3 moX12_in ml_X12_164 (Nat.le_of_ble_eq_true rfl) (by omega) (Nat.zero_le _) (Nat.zero_le _) (ct_X12_in (by omega)) (fun v ty' h' r' g' hq => ?_) rfl
  obtain ⟨e1, e2, e3, e4, e5⟩ := hq
  rw [e1, e2, e3, e4, e5]
  refine pv_pc (pc' := 6) rfl ?_
  show pv_E Γ d kc ks mX12_inForce 6 [some (.ref 200), some (.int x), some (.int y), some (.int z)] [.int (pf_b (0 ≤ x ∧ x ≤ 1))] ty h r g Q
  refine pv_if_eq (tgt := 33) dX12_inForce_6 (by decide) (fun c1 => ?_) (fun c1 => ?_)
  · have F := F.1 c1
    refine pv_iconst (v := (-1)) (by decide) dX12_inForce_33 ?_
    exact pv_ireturn dX12_inForce_34 rfl rfl F
  · have F := F.2 c1
    refine pv_iload_n dX12_inForce_9 rfl ?_
    refine pv_invS (As := [.int y]) (d' := d - 1) dX12_inForce_10 moX12_isDay ml_X12_285 (Nat.le_of_ble_eq_true rfl) (by omega) (Nat.zero_le _) (Nat.zero_le _) (ct_X12_isDay (by omega)) (fun v ty' h' r' g' hq => ?_) rfl
    obtain ⟨e1, e2, e3, e4, e5⟩ := hq
    rw [e1, e2, e3, e4, e5]
    refine pv_pc (pc' := 13) rfl ?_
    show pv_E Γ d kc ks mX12_inForce 13 [some (.ref 200), some (.int x), some (.int y), some (.int z)] [.int (pf_b (0 ≤ y ∧ y ≤ 9999))] ty h r g Q
    refine pv_if_eq (tgt := 33) dX12_inForce_13 (by decide) (fun c2 => ?_) (fun c2 => ?_)
    · have F := F.1 c2
      refine pv_iconst (v := (-1)) (by decide) dX12_inForce_33 ?_
      exact pv_ireturn dX12_inForce_34 rfl rfl F
    · have F := F.2 c2
      refine pv_iload_n dX12_inForce_16 rfl ?_
      refine pv_invS (As := [.int z]) (d' := d - 1) dX12_inForce_17 moX12_isDay ml_X12_285 (Nat.le_of_ble_eq_true rfl) (by omega) (Nat.zero_le _) (Nat.zero_le _) (ct_X12_isDay (by omega)) (fun v ty' h' r' g' hq => ?_) rfl
      obtain ⟨e1, e2, e3, e4, e5⟩ := hq
      rw [e1, e2, e3, e4, e5]
      refine pv_pc (pc' := 20) rfl ?_
      show pv_E Γ d kc ks mX12_inForce 20 [some (.ref 200), some (.int x), some (.int y), some (.int z)] [.int (pf_b (0 ≤ z ∧ z ≤ 9999))] ty h r g Q
      refine pv_if_eq (tgt := 33) dX12_inForce_20 (by decide) (fun c3 => ?_) (fun c3 => ?_)
      · have F := F.1 c3
        refine pv_iconst (v := (-1)) (by decide) dX12_inForce_33 ?_
        exact pv_ireturn dX12_inForce_34 rfl rfl F
      · have F := F.2 c3
        refine pv_aload_n dX12_inForce_23 rfl ?_
        refine pv_iload_n dX12_inForce_24 rfl ?_
        refine pv_iload_n dX12_inForce_25 rfl ?_
        refine pv_iload_n dX12_inForce_26 rfl ?_
        refine pv_invV (As := [.int x, .int y, .int z]) (d' := d - 1) dX12_inForce_27 moX12_forceOn ml_X12_288 (lt_200 hL) (Or.inl ⟨_, rfl, rfl⟩) (Nat.le_of_ble_eq_true rfl) (by omega) (Nat.zero_le _) (Nat.zero_le _) F (fun v ty' h1 r' g' hq => ?_) rfl
        obtain ⟨e2, e4, e5, w1, e1, F⟩ := hq
        rw [e1, e2, e4, e5]
        refine pv_pc (pc' := 30) rfl ?_
        show pv_E Γ d kc ks mX12_inForce 30 [some (.ref 200), some (.int x), some (.int y), some (.int z)] [.int w1] ty h1 r g Q
        refine pv_goto (tgt := 34) dX12_inForce_30 (by decide) ?_
        exact pv_ireturn dX12_inForce_34 rfl rfl F
set_option maxRecDepth 20000 in
set_option maxHeartbeats 4000000 in
theorem sg_X11_inForce_0 {Γ : pv_C} {d kc ks : Nat} {ty : pv_T} {h : pv_H} {r : pv_R} {g : pv_G} {Q : pv_Q} (x : Int32) (y : Int32) (z : Int32) (hd : 2 ≤ d) (hL : pv_Lay ty r) (F : (((pf_b (0 ≤ x ∧ x ≤ 1)) = 0 → Q (some (.int (-1))) ty h r g) ∧ (¬ (pf_b (0 ≤ x ∧ x ≤ 1)) = 0 → (((pf_b (0 ≤ y ∧ y ≤ 9999)) = 0 → Q (some (.int (-1))) ty h r g) ∧ (¬ (pf_b (0 ≤ y ∧ y ≤ 9999)) = 0 → ((¬ (pf_b (0 ≤ z ∧ z ≤ 9999)) = 0 → pv_CJ Γ (d - 1) mX1_numberInForce [.ref 70, .int x, .int y, .int z] ty h r g (fun (w1 : Int32) (h1 : pv_H) => ((¬ w1 = (-1) → Q (some (.int w1)) ty h1 r g) ∧ (w1 = (-1) → Q (some (.int (-2))) ty h1 r g)))) ∧ ((pf_b (0 ≤ z ∧ z ≤ 9999)) = 0 → Q (some (.int (-1))) ty h r g))))))) : pv_E Γ d kc ks mX11_inForce 0 [some (.ref 100), some (.int x), some (.int y), some (.int z), none] [] ty h r g Q := by
  refine pv_iload_n dX11_inForce_0 rfl ?_
  refine pv_invS (As := [.int x]) (d' := d - 1) dX11_inForce_1 moX11_isKind ml_X11_192 (Nat.le_of_ble_eq_true rfl) (by omega) (Nat.zero_le _) (Nat.zero_le _) (ct_X11_isKind (by omega)) (fun v ty' h' r' g' hq => ?_) rfl
  obtain ⟨e1, e2, e3, e4, e5⟩ := hq
  rw [e1, e2, e3, e4, e5]
  refine pv_pc (pc' := 4) rfl ?_
  show pv_E Γ d kc ks mX11_inForce 4 [some (.ref 100), some (.int x), some (.int y), some (.int z), none] [.int (pf_b (0 ≤ x ∧ x ≤ 1))] ty h r g Q
  refine pv_if_eq (tgt := 21) dX11_inForce_4 (by decide) (fun c1 => ?_) (fun c1 => ?_)
  · have F := F.1 c1
    refine pv_iconst (v := (-1)) (by decide) dX11_inForce_21 ?_
    exact pv_ireturn dX11_inForce_22 rfl rfl F
  · have F := F.2 c1
    refine pv_iload_n dX11_inForce_7 rfl ?_
    refine pv_invS (As := [.int y]) (d' := d - 1) dX11_inForce_8 moX11_isDay ml_X11_195 (Nat.le_of_ble_eq_true rfl) (by omega) (Nat.zero_le _) (Nat.zero_le _) (ct_X11_isDay (by omega)) (fun v ty' h' r' g' hq => ?_) rfl
    obtain ⟨e1, e2, e3, e4, e5⟩ := hq
    rw [e1, e2, e3, e4, e5]
    refine pv_pc (pc' := 11) rfl ?_
    show pv_E Γ d kc ks mX11_inForce 11 [some (.ref 100), some (.int x), some (.int y), some (.int z), none] [.int (pf_b (0 ≤ y ∧ y ≤ 9999))] ty h r g Q
    refine pv_if_eq (tgt := 21) dX11_inForce_11 (by decide) (fun c2 => ?_) (fun c2 => ?_)
    · have F := F.1 c2
      refine pv_iconst (v := (-1)) (by decide) dX11_inForce_21 ?_
      exact pv_ireturn dX11_inForce_22 rfl rfl F
    · have F := F.2 c2
      refine pv_iload_n dX11_inForce_14 rfl ?_
      refine pv_invS (As := [.int z]) (d' := d - 1) dX11_inForce_15 moX11_isDay ml_X11_195 (Nat.le_of_ble_eq_true rfl) (by omega) (Nat.zero_le _) (Nat.zero_le _) (ct_X11_isDay (by omega)) (fun v ty' h' r' g' hq => ?_) rfl
      obtain ⟨e1, e2, e3, e4, e5⟩ := hq
      rw [e1, e2, e3, e4, e5]
      refine pv_pc (pc' := 18) rfl ?_
      show pv_E Γ d kc ks mX11_inForce 18 [some (.ref 100), some (.int x), some (.int y), some (.int z), none] [.int (pf_b (0 ≤ z ∧ z ≤ 9999))] ty h r g Q
      refine pv_if_ne (tgt := 23) dX11_inForce_18 (by decide) (fun c3 => ?_) (fun c3 => ?_)
      · have F := F.1 c3
        refine pv_aload_n dX11_inForce_23 rfl ?_
        refine pv_getRk 11 10 dX11_inForce_24 fl_X11_52 rfl (lt_100 hL) (lr_100_10 hL) ?_
        refine pv_iload_n dX11_inForce_27 rfl ?_
        refine pv_iload_n dX11_inForce_28 rfl ?_
        refine pv_iload_n dX11_inForce_29 rfl ?_
        refine pv_invV (As := [.int x, .int y, .int z]) (d' := d - 1) dX11_inForce_30 moX1_numberInForce ml_X11_202 (lt_70 hL) (Or.inl ⟨_, rfl, rfl⟩) (Nat.le_of_ble_eq_true rfl) (by omega) (Nat.zero_le _) (Nat.zero_le _) F (fun v ty' h1 r' g' hq => ?_) rfl
        obtain ⟨e2, e4, e5, w1, e1, F⟩ := hq
        rw [e1, e2, e4, e5]
        refine pv_pc (pc' := 33) rfl ?_
        show pv_E Γ d kc ks mX11_inForce 33 [some (.ref 100), some (.int x), some (.int y), some (.int z), none] [.int w1] ty h1 r g Q
        refine pv_istore (ls' := [some (.ref 100), some (.int x), some (.int y), some (.int z), some (.int w1)]) dX11_inForce_33 (by decide) rfl rfl ?_
        refine pv_iload dX11_inForce_35 rfl ?_
        refine pv_iconst (v := (-1)) (by decide) dX11_inForce_37 ?_
        refine pv_icmp_ne (tgt := 46) dX11_inForce_38 (by decide) (fun c4 => ?_) (fun c4 => ?_)
        · have F := F.1 c4
          refine pv_iload dX11_inForce_46 rfl ?_
          exact pv_ireturn dX11_inForce_48 rfl rfl F
        · have F := F.2 c4
          refine pv_bipush (v := (-2)) (by decide) dX11_inForce_41 ?_
          refine pv_goto (tgt := 48) dX11_inForce_43 (by decide) ?_
          exact pv_ireturn dX11_inForce_48 rfl rfl F
      · have F := F.2 c3
        refine pv_iconst (v := (-1)) (by decide) dX11_inForce_21 ?_
        exact pv_ireturn dX11_inForce_22 rfl rfl F
/-- the last act that is in force -/
abbrev fo_P (h : pv_H) (x y z : Int32) (i : Nat) : Prop := h 342 i = x ∧ ¬ z < h 343 i ∧ ¬ y < h 344 i
def fo_l (h : pv_H) (x y z : Int32) : Nat → Option Nat
  | 0 => none
  | n + 1 => if fo_P h x y z n then some n else fo_l h x y z n
def fo_i (e : Int32) : Option Nat → Int32
  | none => e
  | some i => nI i
theorem fo_l_lt {h : pv_H} {x y z : Int32} : ∀ {n i : Nat}, fo_l h x y z n = some i → i < n ∧ fo_P h x y z i
  | 0, _, e => by cases e
  | n + 1, i, e => by
    unfold fo_l at e
    by_cases q : fo_P h x y z n
    · rw [if_pos q] at e; cases e; exact ⟨Nat.lt_succ_self _, q⟩
    · rw [if_neg q] at e; exact ⟨Nat.lt_succ_of_lt (fo_l_lt e).1, (fo_l_lt e).2⟩
section FB
variable {Γ : pv_C} {d kc ks : Nat} {ty : pv_T} {h : pv_H} {r : pv_R} {g : pv_G} {Q : pv_Q} {na tl : Nat} {x y z : Int32}
theorem fo_m8 (hL : pv_Lay ty r) : ∀ (n : Nat), n ≤ 20 → Q (some (.int (fo_i (-2) (fo_l h x y z n)))) ty h r g → pv_E Γ d kc ks mX12_forceOn 8 [some (.ref 200), some (.int x), some (.int y), some (.int z), some (.int (nI n - 1))] [] ty h r g Q
  | 0, _, hQ => sg_X12_forceOn_8 _ _ _ _ hL ⟨fun _ => hQ, fun q => absurd (by decide) q⟩
  | n + 1, hn, hQ => by
    have hu : fo_l h x y z (n + 1) = if fo_P h x y z n then some n else fo_l h x y z n := rfl
    rw [hu] at hQ
    have hi : vp_in (nI n) 20 := vp_in_nI (by omega) (by decide)
    have nx : ¬ fo_P h x y z n → pv_E Γ d kc ks mX12_forceOn 8 [some (.ref 200), some (.int x), some (.int y), some (.int z), some (.int (nI n + (-1)))] [] ty h r g Q := fun q => by
      rw [if_neg q] at hQ
      rw [← Int32.sub_eq_add_neg]
      exact fo_m8 hL n (by omega) hQ
    rw [nI_pred]
    refine sg_X12_forceOn_8 _ _ _ _ hL ⟨fun q => absurd q (nI_pos (by omega)), fun _ => ⟨hi, ?_⟩⟩
    rw [nI_clamp (by omega)]
    refine ⟨fun c1 => nx (fun q => c1 q.1), fun c1 => ⟨hi, fun c2 => nx (fun q => q.2.1 c2), fun c2 => ⟨hi, fun c3 => nx (fun q => q.2.2 c3), fun c3 => ?_⟩⟩⟩
    rw [if_pos ⟨c1, c2, c3⟩] at hQ
    exact hQ
theorem ct_X12_forceOn (hL : pv_Lay ty r) (hA : cpA ty h r na tl) : pv_CJ Γ d mX12_forceOn [.ref 200, .int x, .int y, .int z] ty h r g (fun w h' => w = fo_i (-2) (fo_l h x y z na) ∧ h' = h) := by
  refine pv_fn 1 pn_X12 rfl (Nat.le_of_ble_eq_true rfl) (sg_X12_forceOn_0 _ _ _ hL ?_)
  rw [hA.2.1.2.2]
  exact fo_m8 hL na hA.2.1.1 (pv_jqi ⟨rfl, rfl⟩)
theorem aA_ne (i : Nat) : ¬ aA i = 0 := by unfold aA; omega
theorem fo_c8 (hL : pv_Lay ty r) : ∀ (n : Nat), n ≤ 20 → (∀ i, i < n → cpAi ty h r i) → Q (some (.int (fo_i (-1) (fo_l h x y z n)))) ty h r g → pv_E Γ d kc ks mX1_numberInForce 8 [some (.ref 70), some (.int x), some (.int y), some (.int z), some (.int (nI n - 1)), none] [] ty h r g Q
  | 0, _, _, hQ => sg_X1_numberInForce_8 _ _ _ _ hL ⟨fun _ => hQ, fun q => absurd (by decide) q⟩
  | n + 1, hn, hc, hQ => by
    have hu : fo_l h x y z (n + 1) = if fo_P h x y z n then some n else fo_l h x y z n := rfl
    rw [hu] at hQ
    obtain ⟨a1, a2, a3, a4, a5, -⟩ := hc n (by omega)
    have hi : vp_in (nI n) 20 := vp_in_nI (by omega) (by decide)
    have nx : ¬ fo_P h x y z n → pv_E Γ d kc ks mX1_numberInForce 8 [some (.ref 70), some (.int x), some (.int y), some (.int z), some (.int (nI n + (-1))), none] [] ty h r g Q := fun q => by
      rw [if_neg q] at hQ
      rw [← Int32.sub_eq_add_neg]
      exact fo_c8 hL n (by omega) (fun i hi => hc i (by omega)) hQ
    rw [nI_pred]
    refine sg_X1_numberInForce_8 _ _ _ _ hL ⟨fun q => absurd q (nI_pos (by omega)), fun _ => ⟨hi, ?_⟩⟩
    rw [nI_clamp (by omega), a1, a3, a4, a5]
    refine ⟨fun q => absurd q (aA_ne n), fun _ => ⟨a2, fun c1 => nx (fun q => c1 q.1), fun c1 => ⟨a2, fun c2 => nx (fun q => q.2.1 c2), fun c2 => ⟨a2, fun c3 => nx (fun q => q.2.2 c3), fun c3 => ?_⟩⟩⟩⟩
    rw [if_pos ⟨c1, c2, c3⟩] at hQ
    exact hQ
theorem ct_X1_number (hL : pv_Lay ty r) (hA : cpA ty h r na tl) : pv_CJ Γ d mX1_numberInForce [.ref 70, .int x, .int y, .int z] ty h r g (fun w h' => w = fo_i (-1) (fo_l h x y z na) ∧ h' = h) := by
  refine pv_fn 2 pn_X1 rfl (Nat.le_of_ble_eq_true rfl) (sg_X1_numberInForce_0 _ _ _ hL ?_)
  rw [hA.2.1.2.1]
  exact fo_c8 hL na hA.2.1.1 hA.2.2.2 (pv_jqi ⟨rfl, rfl⟩)
/-- the act itself: null, or act i -/
theorem ct_X1_find (hd : 1 ≤ d) (hL : pv_Lay ty r) (hA : cpA ty h r na tl) {k : pv_Q} (h1 : fo_l h x y z na = none → k (some (.ref 0)) ty h r g) (h2 : ∀ i, fo_l h x y z na = some i → k (some (.ref (aA i))) ty h r g) : pv_CT Γ d 0 0 mX1_findInForce [.ref 70, .int x, .int y, .int z] ty h r g k := by
  refine pv_fn 1 pn_X1 rfl (Nat.le_of_ble_eq_true rfl) (sg_X1_findInForce_0 _ _ _ hd hL (pv_CJ.mono (ct_X1_number hL hA) (fun w h' q => ?_)))
  obtain ⟨rfl, rfl⟩ := q
  cases hf : fo_l h' x y z na with
  | none => exact ⟨fun q => absurd rfl q, fun _ => h1 hf⟩
  | some i =>
    have hi := (fo_l_lt hf).1
    have hn := hA.2.1.1
    refine ⟨fun _ => ⟨vp_in_nI (by omega) (by decide), ?_⟩, fun q => absurd q (ni_n1 (by omega))⟩
    show k (some (.ref (r 72 (nI i).toNatClampNeg))) ty h' r g
    rw [nI_clamp (by omega), (hA.2.2.2 i hi).1]
    exact h2 i hf
def fn_inForce (h : pv_H) (na : Nat) (x y z : Int32) : Int32 := if (0 ≤ x ∧ x ≤ 1) ∧ (0 ≤ y ∧ y ≤ 9999) ∧ (0 ≤ z ∧ z ≤ 9999) then fo_i (-2) (fo_l h x y z na) else -1
theorem ct_X12_inForce (hd : 2 ≤ d) (hL : pv_Lay ty r) (hA : cpA ty h r na tl) : pv_CJ Γ d mX12_inForce [.ref 200, .int x, .int y, .int z] ty h r g (fun w h' => w = fn_inForce h na x y z ∧ h' = h) := by
  unfold fn_inForce
  refine pv_fn 0 pn_X12 rfl (Nat.le_of_ble_eq_true rfl) (sg_X12_inForce_0 _ _ _ (by omega) hL (pk_b (fun c1 => pk_b (fun c2 => pk_b (fun c3 => pv_CJ.mono (ct_X12_forceOn hL hA) (fun w h' q => pv_jqi ?_)) (fun c3 => pv_jqi ?_)) (fun c2 => pv_jqi ?_)) (fun c1 => pv_jqi ?_)))
  · rw [if_pos ⟨c1, c2, c3⟩]; exact q
  · rw [if_neg (fun q => c3 q.2.2)]; exact ⟨rfl, rfl⟩
  · rw [if_neg (fun q => c2 q.2.1)]; exact ⟨rfl, rfl⟩
  · rw [if_neg (fun q => c1 q.1)]; exact ⟨rfl, rfl⟩
theorem ct_X11_inForce (hd : 2 ≤ d) (hL : pv_Lay ty r) (hA : cpA ty h r na tl) : pv_CJ Γ d mX11_inForce [.ref 100, .int x, .int y, .int z] ty h r g (fun w h' => w = fn_inForce h na x y z ∧ h' = h) := by
  unfold fn_inForce
  refine pv_fn 1 pn_X11 rfl (Nat.le_of_ble_eq_true rfl) (sg_X11_inForce_0 _ _ _ (by omega) hL (pk_b (fun c1 => pk_b (fun c2 => pj_b (fun c3 => pv_CJ.mono (ct_X1_number hL hA) (fun w h' q => ?_)) (fun c3 => pv_jqi ?_)) (fun c2 => pv_jqi ?_)) (fun c1 => pv_jqi ?_)))
  · obtain ⟨rfl, rfl⟩ := q
    rw [if_pos ⟨c1, c2, c3⟩]
    cases hf : fo_l h' x y z na with
    | none => exact ⟨fun q => absurd rfl q, fun _ => pv_jqi ⟨rfl, rfl⟩⟩
    | some i =>
      have hi := (fo_l_lt hf).1
      have hn := hA.2.1.1
      exact ⟨fun _ => pv_jqi ⟨rfl, rfl⟩, fun q => absurd q (ni_n1 (by omega))⟩
  · rw [if_neg (fun q => c3 q.2.2)]; exact ⟨rfl, rfl⟩
  · rw [if_neg (fun q => c2 q.2.1)]; exact ⟨rfl, rfl⟩
  · rw [if_neg (fun q => c1 q.1)]; exact ⟨rfl, rfl⟩
end FB
/-- a byte of v -/
def fd_b (v : Int32) (i : Nat) : Int32 := ((v >>> ((8 * nI i) &&& 31)).toInt8.toInt32).toInt8.toInt32
theorem fd_bv (x : BitVec 32) {s : Nat} (hs : s ≤ 24) : BitVec.signExtend 8 (x >>> s) = BitVec.signExtend 8 (x.sshiftRight s) := by
  rw [BitVec.signExtend_eq_setWidth_of_le _ (by decide), BitVec.signExtend_eq_setWidth_of_le _ (by decide)]
  apply BitVec.eq_of_getLsbD_eq
  intro j hj
  rw [BitVec.getLsbD_setWidth, BitVec.getLsbD_setWidth, BitVec.getLsbD_ushiftRight, BitVec.getLsbD_sshiftRight]
  have h1 : decide (32 ≤ j) = false := by simp; omega
  have h2 : s + j < 32 := by omega
  simp [h2, h1]
theorem fd_s (v : Int32) {i : Nat} (hi : i < 4) : (v.toUInt32 >>> ((8 * nI i : Int32).toUInt32 &&& Int32.toUInt32 31)).toInt32.toInt8 = (v >>> ((8 * nI i) &&& 31)).toInt8 := by
  apply Int8.toBitVec_inj.mp
  rcases (show i = 0 ∨ i = 1 ∨ i = 2 ∨ i = 3 by omega) with rfl | rfl | rfl | rfl
  · exact fd_bv v.toBitVec (s := 0) (by decide)
  · exact fd_bv v.toBitVec (s := 8) (by decide)
  · exact fd_bv v.toBitVec (s := 16) (by decide)
  · exact fd_bv v.toBitVec (s := 24) (by decide)
def fq_feed (h : pv_H) (a c j0 tl : Nat) (x v w : Int32) (h' : pv_H) : Prop := (¬ (1 ≤ x ∧ x ≤ 4) → w = -1 ∧ h' = h) ∧ ∀ n, 1 ≤ n → n ≤ 4 → x = nI n → (tl + n ≤ 160 → w = nI (tl + n) ∧ h' c j0 = nI (tl + n) ∧ (∀ j, j < tl → h' a j = h a j) ∧ ∀ j, j < n → h' a (tl + j) = fd_b v j) ∧ (¬ tl + n ≤ 160 → w = -3 ∧ h' = h)
abbrev feA (a c j0 : Nat) : Nat → Nat → Prop := fun b j => b = a ∨ (b = c ∧ j = j0)
section FC
variable {Γ : pv_C} {d kc ks : Nat} {ty : pv_T} {h h0 : pv_H} {r : pv_R} {g : pv_G} {Q : pv_Q} {tl n : Nat} {x v : Int32}
theorem fe_x (q : 1 ≤ x ∧ x ≤ 4) : ∃ n, 1 ≤ n ∧ n ≤ 4 ∧ x = nI n := by
  obtain ⟨n, h1, rfl⟩ := nI_of (x := x) (by grind)
  exact ⟨n, (nI_leI (a := 1) (by decide) h1).mp q.1, (nI_leI (b := 4) h1 (by decide)).mp q.2, rfl⟩
theorem fe_c17 (hL : pv_Lay ty r) (hn : n ≤ 4) (htl : tl + n ≤ 160) (hQ : ∀ h', pv_fr (feA 71 70 3) h0 h' → h' 70 3 = nI (tl + n) → (∀ j, j < tl → h' 71 j = h0 71 j) → (∀ j, j < n → h' 71 (tl + j) = fd_b v j) → Q (some (.int (nI (tl + n)))) ty h' r g) : ∀ (m k : Nat) (h : pv_H), k + m = n → pv_fr (feA 71 70 3) h0 h → h 70 3 = nI (tl + k) → (∀ j, j < tl → h 71 j = h0 71 j) → (∀ j, j < k → h 71 (tl + j) = fd_b v j) → pv_E Γ d kc ks mX1_writeTape 17 [some (.ref 70), some (.int (nI n)), some (.int v), some (.int (nI k))] [] ty h r g Q := by
  intro m
  induction m with
  | zero =>
    intro k h hk hf h3 t1 t2
    have hk' : k = n := by omega
    subst hk'
    refine sg_X1_writeTape_17 _ _ _ hL (pk_le k k (fun _ => ?_) (fun c => absurd c (by omega)))
    rw [h3]
    exact hQ h hf h3 t1 t2
  | succ m ih =>
    intro k h hk hf h3 t1 t2
    refine sg_X1_writeTape_17 _ _ _ hL (pk_le n k (fun c => absurd c (by omega)) (fun _ => ⟨by rw [h3]; exact vp_in_nI (by omega) (by decide), fun h1 e1 h2 e2 => ?_⟩))
    rw [h3, nI_clamp (by omega), fd_s v (by omega)] at e1
    have e3 : h1 70 3 = nI (tl + k) := by rw [e1, pv_up_a (by decide)]; exact h3
    rw [e3, nI_1] at e2
    rw [nI_1]
    refine ih (k + 1) h2 (by omega) ?_ (by rw [e2, pv_up_same]; rfl) (fun j hj => ?_) (fun j hj => ?_)
    · rw [e2, e1]; exact pv_fr_up (pv_fr_up hf (Or.inl rfl)) (Or.inr ⟨rfl, rfl⟩)
    · rw [e2, pv_up_a (by decide), e1, pv_up_j (by omega)]; exact t1 j hj
    · rw [e2, pv_up_a (by decide), e1]
      by_cases q : j = k
      · rw [q, pv_up_same]; rfl
      · rw [pv_up_j (by omega)]; exact t2 j (by omega)
theorem fe_m28 (hL : pv_Lay ty r) (hn : n ≤ 4) (htl : tl + n ≤ 160) (hQ : ∀ h', pv_fr (feA 339 200 40) h0 h' → h' 200 40 = nI (tl + n) → (∀ j, j < tl → h' 339 j = h0 339 j) → (∀ j, j < n → h' 339 (tl + j) = fd_b v j) → Q (some (.int (nI (tl + n)))) ty h' r g) : ∀ (m k : Nat) (h : pv_H), k + m = n → pv_fr (feA 339 200 40) h0 h → h 200 40 = nI (tl + k) → (∀ j, j < tl → h 339 j = h0 339 j) → (∀ j, j < k → h 339 (tl + j) = fd_b v j) → pv_E Γ d kc ks mX12_feed 28 [some (.ref 200), some (.int (nI n)), some (.int v), some (.int (nI k))] [] ty h r g Q := by
  intro m
  induction m with
  | zero =>
    intro k h hk hf h3 t1 t2
    have hk' : k = n := by omega
    subst hk'
    refine sg_X12_feed_28 _ _ _ hL (pk_le k k (fun _ => ?_) (fun c => absurd c (by omega)))
    rw [h3]
    exact hQ h hf h3 t1 t2
  | succ m ih =>
    intro k h hk hf h3 t1 t2
    refine sg_X12_feed_28 _ _ _ hL (pk_le n k (fun c => absurd c (by omega)) (fun _ => ⟨by rw [h3]; exact vp_in_nI (by omega) (by decide), fun h1 e1 h2 e2 => ?_⟩))
    rw [h3, nI_clamp (by omega)] at e1
    have e3 : h1 200 40 = nI (tl + k) := by rw [e1, pv_up_a (by decide)]; exact h3
    rw [e3, nI_1] at e2
    rw [nI_1]
    refine ih (k + 1) h2 (by omega) ?_ (by rw [e2, pv_up_same]; rfl) (fun j hj => ?_) (fun j hj => ?_)
    · rw [e2, e1]; exact pv_fr_up (pv_fr_up hf (Or.inl rfl)) (Or.inr ⟨rfl, rfl⟩)
    · rw [e2, pv_up_a (by decide), e1, pv_up_j (by omega)]; exact t1 j hj
    · rw [e2, pv_up_a (by decide), e1]
      by_cases q : j = k
      · rw [q, pv_up_same]; rfl
      · rw [pv_up_j (by omega)]; exact t2 j (by omega)
theorem fe_one {n m : Nat} (h : n ≤ 4) (h2 : m ≤ 4) (e : nI n = nI m) : m = n := ((nI_eq (by omega) (by omega)).mp e).symm
theorem ct_X11_feed (hd : 2 ≤ d) (hL : pv_Lay ty r) (htl : tl ≤ 160) (h3 : h 70 3 = nI tl) : pv_CJ Γ d mX11_feed [.ref 100, .int x, .int v] ty h r g (fun w h' => pv_fr (feA 71 70 3) h h' ∧ fq_feed h 71 70 3 tl x v w h') := by
  refine pv_fn 0 pn_X11 rfl (Nat.le_of_ble_eq_true rfl) (sg_X11_feed_0 _ _ (by omega) hL (pk_b (fun c1 => ?_) (fun c1 => pv_jqi ⟨pv_fr_refl _ _, fun _ => ⟨rfl, rfl⟩, fun n h1 h2 e => absurd ?_ c1⟩)))
  · obtain ⟨n, n1, n2, rfl⟩ := fe_x c1
    refine pv_fn 1 pn_X1 rfl (Nat.le_of_ble_eq_true rfl) (sg_X1_writeTape_0 _ _ hL (pk_le (tl + n) 160 (fun c2 => ?_) (fun c2 => pv_jqi (pv_jqi ⟨pv_fr_refl _ _, fun q => absurd c1 q, fun m h1 h2 e => ?_⟩)) (by rw [h3, nI_add])))
    · refine fe_c17 hL n2 c2 (fun h' a1 a2 a3 a4 => pv_jqi (pv_jqi ⟨a1, fun q => absurd c1 q, fun m h1 h2 e => ?_⟩)) n 0 h (Nat.zero_add _) (pv_fr_refl _ _) h3 (fun _ _ => rfl) (fun j hj => absurd hj (by omega))
      have e' := fe_one n2 h2 e
      subst e'
      exact ⟨fun _ => ⟨rfl, a2, a3, a4⟩, fun q => absurd c2 q⟩
    · have e' := fe_one n2 h2 e
      subst e'
      exact ⟨fun q => absurd q (by omega), fun _ => ⟨rfl, rfl⟩⟩
  · rw [e]
    exact ⟨(nI_leI (a := 1) (by decide) (by omega)).mpr h1, (nI_leI (b := 4) (by omega) (by decide)).mpr h2⟩
theorem ct_X12_feed (hd : 1 ≤ d) (hL : pv_Lay ty r) (htl : tl ≤ 160) (h3 : h 200 40 = nI tl) : pv_CJ Γ d mX12_feed [.ref 200, .int x, .int v] ty h r g (fun w h' => pv_fr (feA 339 200 40) h h' ∧ fq_feed h 339 200 40 tl x v w h') := by
  refine pv_fn 1 pn_X12 rfl (Nat.le_of_ble_eq_true rfl) (sg_X12_feed_0 _ _ (by omega) hL (pj_b (fun c1 => ?_) (fun c1 => pv_jqi ⟨pv_fr_refl _ _, fun _ => ⟨rfl, rfl⟩, fun n h1 h2 e => absurd ?_ c1⟩)))
  · obtain ⟨n, n1, n2, rfl⟩ := fe_x c1
    refine pk_le (tl + n) 160 (fun c2 => ?_) (fun c2 => pv_jqi ⟨pv_fr_refl _ _, fun q => absurd c1 q, fun m h1 h2 e => ?_⟩) (by rw [h3, nI_add])
    · refine fe_m28 hL n2 c2 (fun h' a1 a2 a3 a4 => pv_jqi ⟨a1, fun q => absurd c1 q, fun m h1 h2 e => ?_⟩) n 0 h (Nat.zero_add _) (pv_fr_refl _ _) h3 (fun _ _ => rfl) (fun j hj => absurd hj (by omega))
      have e' := fe_one n2 h2 e
      subst e'
      exact ⟨fun _ => ⟨rfl, a2, a3, a4⟩, fun q => absurd c2 q⟩
    · have e' := fe_one n2 h2 e
      subst e'
      exact ⟨fun q => absurd q (by omega), fun _ => ⟨rfl, rfl⟩⟩
  · rw [e]
    exact ⟨(nI_leI (a := 1) (by decide) (by omega)).mpr h1, (nI_leI (b := 4) (by omega) (by decide)).mpr h2⟩
end FC
