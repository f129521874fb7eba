/-! openings: both sides -/
abbrev oA (i : Nat) : Nat := 4000 + i
def op_ok (h : pv_H) (i : Nat) : Prop := (0 ≤ h 356 i ∧ h 356 i ≤ 3) ∧ (0 ≤ h 359 i ∧ h 359 i ≤ 9999) ∧ (1 ≤ h 360 i ∧ h 360 i ≤ 99) ∧ (h 361 i = -1 ∨ (0 ≤ h 361 i ∧ h 361 i ≤ 9999))
/-- THE OPENINGS of both sides -/
def cpO (ty : pv_T) (h : pv_H) (r : pv_R) (no : Nat) : Prop := (no ≤ 200 ∧ h 200 55 = nI no ∧ h 100 12 = nI no) ∧ ∀ i, i < no → r 121 i = oA i ∧ ty (oA i) = some (6, 0) ∧ (∀ j, j < 6 → h (oA i) j = h (356 + j) i) ∧ op_ok h i
set_option maxRecDepth 20000 in
set_option maxHeartbeats 4000000 in
theorem sg_X6_isOpen_0 {Γ : pv_C} {d kc ks : Nat} {ty : pv_T} {h : pv_H} {r : pv_R} {g : pv_G} {Q : pv_Q} (a : Nat) (F : ty a = some (6, 0) ∧ ((¬ (h a 5) = (-1) → Q (some (.int 0)) ty h r g) ∧ ((h a 5) = (-1) → Q (some (.int 1)) ty h r g))) : pv_E Γ d kc ks mX6_isOpen 0 [some (.ref a)] [] ty h r g Q := by
  refine pv_aload_n dX6_isOpen_0 rfl ?_
  obtain ⟨q1, F⟩ := F
  refine pv_getI 6 5 dX6_isOpen_1 fl_X6_27 rfl q1 ?_
  refine pv_iconst (v := (-1)) (by decide) dX6_isOpen_4 ?_
  refine pv_icmp_ne (tgt := 12) dX6_isOpen_5 (by decide) (fun c1 => ?_) (fun c1 => ?_)
  · have F := F.1 c1
    refine pv_iconst (v := 0) (by decide) dX6_isOpen_12 ?_
    exact pv_ireturn dX6_isOpen_13 rfl (by decide) F
  · have F := F.2 c1
    refine pv_iconst (v := 1) (by decide) dX6_isOpen_8 ?_
    refine pv_goto (tgt := 13) dX6_isOpen_9 (by decide) ?_
    exact pv_ireturn dX6_isOpen_13 rfl (by decide) F
set_option maxRecDepth 20000 in
set_option maxHeartbeats 4000000 in
theorem sg_X6_isAt_0 {Γ : pv_C} {d kc ks : Nat} {ty : pv_T} {h : pv_H} {r : pv_R} {g : pv_G} {Q : pv_Q} (a : Nat) (x : Int32) (y : Int32) (F : ty a = some (6, 0) ∧ ((¬ (h a 1) = x → Q (some (.int 0)) ty h r g) ∧ ((h a 1) = x → ty a = some (6, 0) ∧ ((¬ (h a 2) = y → Q (some (.int 0)) ty h r g) ∧ ((h a 2) = y → Q (some (.int 1)) ty h r g))))) : pv_E Γ d kc ks mX6_isAt 0 [some (.ref a), some (.int x), some (.int y)] [] ty h r g Q := by
  refine pv_aload_n dX6_isAt_0 rfl ?_
  obtain ⟨q1, F⟩ := F
  refine pv_getI 6 1 dX6_isAt_1 fl_X6_15 rfl q1 ?_
  refine pv_iload_n dX6_isAt_4 rfl ?_
  refine pv_icmp_ne (tgt := 20) dX6_isAt_5 (by decide) (fun c1 => ?_) (fun c1 => ?_)
  · have F := F.1 c1
    refine pv_iconst (v := 0) (by decide) dX6_isAt_20 ?_
    exact pv_ireturn dX6_isAt_21 rfl (by decide) F
  · have F := F.2 c1
    refine pv_aload_n dX6_isAt_8 rfl ?_
    obtain ⟨q2, F⟩ := F
    refine pv_getI 6 2 dX6_isAt_9 fl_X6_18 rfl q2 ?_
    refine pv_iload_n dX6_isAt_12 rfl ?_
    refine pv_icmp_ne (tgt := 20) dX6_isAt_13 (by decide) (fun c2 => ?_) (fun c2 => ?_)
    · have F := F.1 c2
      refine pv_iconst (v := 0) (by decide) dX6_isAt_20 ?_
      exact pv_ireturn dX6_isAt_21 rfl (by decide) F
    · have F := F.2 c2
      refine pv_iconst (v := 1) (by decide) dX6_isAt_16 ?_
      refine pv_goto (tgt := 21) dX6_isAt_17 (by decide) ?_
      exact pv_ireturn dX6_isAt_21 rfl (by decide) F
set_option maxRecDepth 20000 in
set_option maxHeartbeats 4000000 in
theorem sg_X12_isOpening_0 {Γ : pv_C} {d kc ks : Nat} {ty : pv_T} {h : pv_H} {r : pv_R} {g : pv_G} {Q : pv_Q} (x : Int32) (hd : 1 ≤ d) (hL : pv_Lay ty r) (F : (narrow .boolean (.int (pf_b (0 ≤ x ∧ x ≤ ((h 200 55) - 1)))) = .int (pf_b (0 ≤ x ∧ x ≤ ((h 200 55) - 1))) ∧ Q (some (.int (pf_b (0 ≤ x ∧ x ≤ ((h 200 55) - 1))))) ty h r g)) : pv_E Γ d kc ks mX12_isOpening 0 [some (.ref 200), some (.int x)] [] ty h r g Q := by
  refine pv_iload_n dX12_isOpening_0 rfl ?_
  refine pv_iconst (v := 0) (by decide) dX12_isOpening_1 ?_
  refine pv_aload_n dX12_isOpening_2 rfl ?_
  refine pv_getI 12 55 dX12_isOpening_3 fl_X12_311 rfl (lt_200 hL) ?_
  refine pv_iconst (v := 1) (by decide) dX12_isOpening_6 ?_
  refine pv_isub dX12_isOpening_7 ?_
  refine pv_pc (pc' := 8) rfl ?_
  refine pv_invS (As := [.int x, .int 0, .int ((h 200 55) - 1)]) (d' := d - 1) dX12_isOpening_8 moX12_in ml_X12_164 (Nat.le_of_ble_eq_true rfl) (by omega) (Nat.zero_le _) (Nat.zero_le _) (ct_X12_in (by omega)) (fun v ty' h' r' g' hq => ?_) rfl
  obtain ⟨e1, e2, e3, e4, e5⟩ := hq
  rw [e1, e2, e3, e4, e5]
  refine pv_pc (pc' := 11) rfl ?_
  show pv_E Γ d kc ks mX12_isOpening 11 [some (.ref 200), some (.int x)] [.int (pf_b (0 ≤ x ∧ x ≤ ((h 200 55) - 1)))] ty h r g Q
  exact pv_ireturn dX12_isOpening_11 rfl F.1 F.2
set_option maxRecDepth 20000 in
set_option maxHeartbeats 4000000 in
theorem sg_X12_isAt_0 {Γ : pv_C} {d kc ks : Nat} {ty : pv_T} {h : pv_H} {r : pv_R} {g : pv_G} {Q : pv_Q} (x : Int32) (y : Int32) (hd : 3 ≤ d) (hL : pv_Lay ty r) (F : ((y < 0 → Q (some (.int 0)) ty h r g) ∧ (¬ y < 0 → (0 ≤ h 200 1 ∧ h 200 1 ≤ 8) ∧ (((pf_b (pf_sq h x (y / 16) (y - y / 16 * 16))) = 0 → Q (some (.int 0)) ty h r g) ∧ (¬ (pf_b (pf_sq h x (y / 16) (y - y / 16 * 16))) = 0 → Q (some (.int 1)) ty h r g))))) : pv_E Γ d kc ks mX12_isAt 0 [some (.ref 200), some (.int x), some (.int y)] [] ty h r g Q := by
  refine pv_iload_n dX12_isAt_0 rfl ?_
  refine pv_if_lt (tgt := 24) dX12_isAt_1 (by decide) (fun c1 => ?_) (fun c1 => ?_)
  · have F := F.1 c1
    refine pv_iconst (v := 0) (by decide) dX12_isAt_24 ?_
    exact pv_ireturn dX12_isAt_25 rfl (by decide) F
  · have F := F.2 c1
    refine pv_aload_n dX12_isAt_4 rfl ?_
    refine pv_iload_n dX12_isAt_5 rfl ?_
    refine pv_iload_n dX12_isAt_6 rfl ?_
    refine pv_bipush (v := 16) (by decide) dX12_isAt_7 ?_
    refine pv_idiv (by decide) dX12_isAt_9 ?_
    refine pv_iload_n dX12_isAt_10 rfl ?_
    refine pv_pc (pc' := 11) rfl ?_
    refine pv_bipush (v := 16) (by decide) dX12_isAt_11 ?_
    refine pv_irem (by decide) dX12_isAt_13 ?_
    obtain ⟨q1, F⟩ := F
    refine pv_invV (As := [.int x, .int (y / 16), .int (y - y / 16 * 16)]) (d' := d - 1) dX12_isAt_14 moX12_isSquare ml_X12_172 (lt_200 hL) (Or.inl ⟨_, rfl, rfl⟩) (Nat.le_of_ble_eq_true rfl) (by omega) (Nat.zero_le _) (Nat.zero_le _) (ct_X12_isSquare (by omega) hL q1) (fun v ty' h' r' g' hq => ?_) rfl
    obtain ⟨e1, e2, e3, e4, e5⟩ := hq
    rw [e1, e2, e3, e4, e5]
    refine pv_pc (pc' := 17) rfl ?_
    show pv_E Γ d kc ks mX12_isAt 17 [some (.ref 200), some (.int x), some (.int y)] [.int (pf_b (pf_sq h x (y / 16) (y - y / 16 * 16)))] ty h r g Q
    refine pv_if_eq (tgt := 24) dX12_isAt_17 (by decide) (fun c2 => ?_) (fun c2 => ?_)
    · have F := F.1 c2
      refine pv_iconst (v := 0) (by decide) dX12_isAt_24 ?_
      exact pv_ireturn dX12_isAt_25 rfl (by decide) F
    · have F := F.2 c2
      refine pv_iconst (v := 1) (by decide) dX12_isAt_20 ?_
      refine pv_goto (tgt := 25) dX12_isAt_21 (by decide) ?_
      exact pv_ireturn dX12_isAt_25 rfl (by decide) F
set_option maxRecDepth 20000 in
set_option maxHeartbeats 4000000 in
theorem sg_X11_isSquare_0 {Γ : pv_C} {d kc ks : Nat} {ty : pv_T} {h : pv_H} {r : pv_R} {g : pv_G} {Q : pv_Q} (x : Int32) (y : Int32) (hd : 1 ≤ d) (hL : pv_Lay ty r) (F : pv_CT Γ (d - 1) 0 0 mX11_findStreet [.ref 100, .int x] ty h r g (fun (v1 : Option Value) (ty1 : pv_T) (h1 : pv_H) (r1 : pv_R) (g1 : pv_G) => ∃ w1 : Nat, v1 = some (.ref w1) ∧ pv_Lay ty1 r1 ∧ ((w1 = 0 → Q (some (.int 0)) ty1 h1 r1 g1) ∧ (¬ w1 = 0 → ((y < 0 → Q (some (.int 0)) ty1 h1 r1 g1) ∧ (¬ y < 0 → ty1 w1 = some (8, 0) ∧ (ty1 w1 = some (8, 0)) ∧ (((pf_b ((0 ≤ (y / 16) ∧ (y / 16) < h1 w1 0) ∧ (0 ≤ (y - y / 16 * 16) ∧ (y - y / 16 * 16) < h1 w1 1))) = 0 → Q (some (.int 0)) ty1 h1 r1 g1) ∧ (¬ (pf_b ((0 ≤ (y / 16) ∧ (y / 16) < h1 w1 0) ∧ (0 ≤ (y - y / 16 * 16) ∧ (y - y / 16 * 16) < h1 w1 1))) = 0 → Q (some (.int 1)) ty1 h1 r1 g1)))))))) : pv_E Γ d kc ks mX11_isSquare 0 [some (.ref 100), some (.int x), some (.int y), none] [] ty h r g Q := by
  refine pv_aload_n dX11_isSquare_0 rfl ?_
  refine pv_iload_n dX11_isSquare_1 rfl ?_
  refine pv_invV (As := [.int x]) (d' := d - 1) dX11_isSquare_2 moX11_findStreet ml_X11_80 (lt_100 hL) (Or.inl ⟨_, rfl, rfl⟩) (Nat.le_of_ble_eq_true rfl) (by omega) (Nat.zero_le _) (Nat.zero_le _) F (fun v1 ty1 h1 r1 g1 F => ?_) rfl
  obtain ⟨w1, rfl, F⟩ := F
  obtain ⟨hL1, F⟩ := F
  refine pv_pc (pc' := 5) rfl ?_
  show pv_E Γ d kc ks mX11_isSquare 5 [some (.ref 100), some (.int x), some (.int y), none] [.ref w1] ty1 h1 r1 g1 Q
  refine pv_astore_n (ls' := [some (.ref 100), some (.int x), some (.int y), some (.ref w1)]) dX11_isSquare_5 (by decide) rfl rfl ?_
  refine pv_aload_n dX11_isSquare_6 rfl ?_
  refine pv_ifnull (tgt := 33) dX11_isSquare_7 (by decide) (fun c1 => ?_) (fun c1 => ?_)
  · have F := F.1 c1
    refine pv_iconst (v := 0) (by decide) dX11_isSquare_33 ?_
    exact pv_ireturn dX11_isSquare_34 rfl (by decide) F
  · have F := F.2 c1
    refine pv_iload_n dX11_isSquare_10 rfl ?_
    refine pv_if_lt (tgt := 33) dX11_isSquare_11 (by decide) (fun c2 => ?_) (fun c2 => ?_)
    · have F := F.1 c2
      refine pv_iconst (v := 0) (by decide) dX11_isSquare_33 ?_
      exact pv_ireturn dX11_isSquare_34 rfl (by decide) F
    · have F := F.2 c2
      refine pv_aload_n dX11_isSquare_14 rfl ?_
      refine pv_iload_n dX11_isSquare_15 rfl ?_
      refine pv_bipush (v := 16) (by decide) dX11_isSquare_16 ?_
      refine pv_idiv (by decide) dX11_isSquare_18 ?_
      refine pv_iload_n dX11_isSquare_19 rfl ?_
      refine pv_bipush (v := 16) (by decide) dX11_isSquare_20 ?_
      refine pv_pc (pc' := 22) rfl ?_
      refine pv_irem (by decide) dX11_isSquare_22 ?_
      obtain ⟨q1, F⟩ := F
      obtain ⟨q2, F⟩ := F
      refine pv_invV (As := [.int (y / 16), .int (y - y / 16 * 16)]) (d' := d - 1) dX11_isSquare_23 moX8_has ml_X11_84 q1 (Or.inl ⟨_, rfl, rfl⟩) (Nat.le_of_ble_eq_true rfl) (by omega) (Nat.zero_le _) (Nat.zero_le _) (ct_X8_has (by omega) q2) (fun v ty' h' r' g' hq => ?_) rfl
      obtain ⟨e1, e2, e3, e4, e5⟩ := hq
      rw [e1, e2, e3, e4, e5]
      refine pv_pc (pc' := 26) rfl ?_
      show pv_E Γ d kc ks mX11_isSquare 26 [some (.ref 100), some (.int x), some (.int y), some (.ref w1)] [.int (pf_b ((0 ≤ (y / 16) ∧ (y / 16) < h1 w1 0) ∧ (0 ≤ (y - y / 16 * 16) ∧ (y - y / 16 * 16) < h1 w1 1)))] ty1 h1 r1 g1 Q
      refine pv_if_eq (tgt := 33) dX11_isSquare_26 (by decide) (fun c3 => ?_) (fun c3 => ?_)
      · have F := F.1 c3
        refine pv_iconst (v := 0) (by decide) dX11_isSquare_33 ?_
        exact pv_ireturn dX11_isSquare_34 rfl (by decide) F
      · have F := F.2 c3
        refine pv_iconst (v := 1) (by decide) dX11_isSquare_29 ?_
        refine pv_goto (tgt := 34) dX11_isSquare_30 (by decide) ?_
        exact pv_ireturn dX11_isSquare_34 rfl (by decide) F
section OA
variable {Γ : pv_C} {d : Nat} {ty : pv_T} {h : pv_H} {r : pv_R} {g : pv_G} {a : Nat} {x y : Int32}
theorem ct_X6_isOpen (_ : 0 ≤ d) (ha : ty a = some (6, 0)) : pv_CT Γ d 0 0 mX6_isOpen [.ref a] ty h r g (pv_is (.int (pf_b (h a 5 = -1))) ty h r g) := by
  refine pv_fn 0 pn_X6 rfl (Nat.le_of_ble_eq_true rfl) (sg_X6_isOpen_0 a ⟨ha, fun c => ?_, fun c => ?_⟩)
  · rw [pf_b_f c]; exact pv_is_refl _ _ _ _ _
  · rw [pf_b_t c]; exact pv_is_refl _ _ _ _ _
theorem ct_X6_isAt (_ : 0 ≤ d) (ha : ty a = some (6, 0)) : pv_CT Γ d 0 0 mX6_isAt [.ref a, .int x, .int y] ty h r g (pv_is (.int (pf_b (h a 1 = x ∧ h a 2 = y))) ty h r g) := by
  refine pv_fn 0 pn_X6 rfl (Nat.le_of_ble_eq_true rfl) (sg_X6_isAt_0 a x y ⟨ha, fun c => ?_, fun c => ⟨ha, fun c2 => ?_, fun c2 => ?_⟩⟩)
  · rw [pf_b_f (fun q => c q.1)]; exact pv_is_refl _ _ _ _ _
  · rw [pf_b_f (fun q => c2 q.2)]; exact pv_is_refl _ _ _ _ _
  · rw [pf_b_t ⟨c, c2⟩]; exact pv_is_refl _ _ _ _ _
theorem ct_X12_isOpening (hd : 1 ≤ d) (hL : pv_Lay ty r) : pv_CT Γ d 0 0 mX12_isOpening [.ref 200, .int x] ty h r g (pv_is (.int (pf_b (0 ≤ x ∧ x ≤ h 200 55 - 1))) ty h r g) := pv_fn 0 pn_X12 rfl (Nat.le_of_ble_eq_true rfl) (sg_X12_isOpening_0 x hd hL ⟨pf_b_n, pv_is_refl _ _ _ _ _⟩)
/-- the square of a number -/
abbrev fo_at (h : pv_H) (x y : Int32) : Prop := ¬ y < 0 ∧ pf_sq h x (y / 16) (y - y / 16 * 16)
theorem ct_X12_isAt (hd : 3 ≤ d) (hL : pv_Lay ty r) (hn : 0 ≤ h 200 1 ∧ h 200 1 ≤ 8) : pv_CT Γ d 0 0 mX12_isAt [.ref 200, .int x, .int y] ty h r g (pv_is (.int (pf_b (fo_at h x y))) ty h r g) := by
  refine pv_fn 0 pn_X12 rfl (Nat.le_of_ble_eq_true rfl) (sg_X12_isAt_0 x y (by omega) hL ⟨fun c => ?_, fun c => ⟨hn, pk_b (fun c2 => ?_) (fun c2 => ?_)⟩⟩)
  · rw [pf_b_f (fun q => q.1 c)]; exact pv_is_refl _ _ _ _ _
  · rw [pf_b_t ⟨c, c2⟩]; exact pv_is_refl _ _ _ _ _
  · rw [pf_b_f (fun q => c2 q.2)]; exact pv_is_refl _ _ _ _ _
theorem ct_X11_isSquare (hd : 2 ≤ d) (hL : pv_Lay ty r) (hS : ∃ ns, cpS ty h r ns) : pv_CT Γ d 0 0 mX11_isSquare [.ref 100, .int x, .int y] ty h r g (pv_is (.int (pf_b (fo_at h x y))) ty h r g) := by
  obtain ⟨ns, hI⟩ := hS
  refine pv_fn 1 pn_X11 rfl (Nat.le_of_ble_eq_true rfl) (sg_X11_isSquare_0 x y (by omega) hL (ct_find hL hI (fun hf => ⟨_, rfl, hL, fun _ => ?_, fun q => absurd rfl q⟩) (fun s hs e => ⟨_, rfl, hL, fun q => absurd q (cA_ne s), fun _ => ?_⟩)))
  · rw [pf_b_f (fun q => hf q.2.1)]; exact pv_is_refl _ _ _ _ _
  · subst e
    obtain ⟨-, hS', -⟩ := hI.2.2 s hs
    refine ⟨fun c => ?_, fun c => ⟨hS'.2.1, hS'.2.1, pk_b (fun c2 => ?_) (fun c2 => ?_)⟩⟩
    · rw [pf_b_f (fun q => q.1 c)]; exact pv_is_refl _ _ _ _ _
    · rw [pf_b_t ⟨c, (cs_sq hI hs).mp c2⟩]; exact pv_is_refl _ _ _ _ _
    · rw [pf_b_f (fun q => c2 ((cs_sq hI hs).mpr q.2))]; exact pv_is_refl _ _ _ _ _
end OA
set_option maxRecDepth 20000 in
set_option maxHeartbeats 4000000 in
theorem sg_X11_findOpening_0 {Γ : pv_C} {d kc ks : Nat} {ty : pv_T} {h : pv_H} {r : pv_R} {g : pv_G} {Q : pv_Q} (x : Int32) (hL : pv_Lay ty r) (F : ((x < 0 → Q (some (.ref 0)) ty h r g) ∧ (¬ x < 0 → (((h 100 12) ≤ x → Q (some (.ref 0)) ty h r g) ∧ (¬ (h 100 12) ≤ x → vp_in x 200 ∧ Q (some (.ref (r 121 (Int32.toNatClampNeg x)))) ty h r g))))) : pv_E Γ d kc ks mX11_findOpening 0 [some (.ref 100), some (.int x)] [] ty h r g Q := by
  refine pv_iload_n dX11_findOpening_0 rfl ?_
  refine pv_if_lt (tgt := 21) dX11_findOpening_1 (by decide) (fun c1 => ?_) (fun c1 => ?_)
  · have F := F.1 c1
    refine pv_null dX11_findOpening_21 ?_
    exact pv_areturn dX11_findOpening_22 rfl (by first | exact Or.inl ⟨_, rfl⟩ | exact Or.inr ⟨_, rfl⟩) F
  · have F := F.2 c1
    refine pv_iload_n dX11_findOpening_4 rfl ?_
    refine pv_aload_n dX11_findOpening_5 rfl ?_
    refine pv_getI 11 12 dX11_findOpening_6 fl_X11_243 rfl (lt_100 hL) ?_
    refine pv_icmp_ge (tgt := 21) dX11_findOpening_9 (by decide) (fun c2 => ?_) (fun c2 => ?_)
    · have F := F.1 c2
      refine pv_null dX11_findOpening_21 ?_
      exact pv_areturn dX11_findOpening_22 rfl (by first | exact Or.inl ⟨_, rfl⟩ | exact Or.inr ⟨_, rfl⟩) F
    · have F := F.2 c2
      refine pv_aload_n dX11_findOpening_12 rfl ?_
      refine pv_getRk 11 11 dX11_findOpening_13 fl_X11_58 rfl (lt_100 hL) (lr_100_11 hL) ?_
      refine pv_iload_n dX11_findOpening_16 rfl ?_
      obtain ⟨q1, F⟩ := F
      refine pv_aald dX11_findOpening_17 (lt_121 hL) (by decide) q1 ?_
      refine pv_goto (tgt := 22) dX11_findOpening_18 (by decide) ?_
      exact pv_areturn dX11_findOpening_22 rfl (by first | exact Or.inl ⟨_, rfl⟩ | exact Or.inr ⟨_, rfl⟩) F
set_option maxRecDepth 20000 in
set_option maxHeartbeats 4000000 in
theorem sg_X12_openNow_0 {Γ : pv_C} {d kc ks : Nat} {ty : pv_T} {h : pv_H} {r : pv_R} {g : pv_G} {Q : pv_Q} (x : Int32) (y : Int32) (F : pv_E Γ d kc ks mX12_openNow 2 [some (.ref 200), some (.int x), some (.int y), some (.int 0)] [] ty h r g Q) : pv_E Γ d kc ks mX12_openNow 0 [some (.ref 200), some (.int x), some (.int y), none] [] ty h r g Q := by
  refine pv_iconst (v := 0) (by decide) dX12_openNow_0 ?_
  refine pv_istore_n (ls' := [some (.ref 200), some (.int x), some (.int y), some (.int 0)]) dX12_openNow_1 (by decide) rfl rfl ?_
  exact F
set_option maxRecDepth 20000 in
set_option maxHeartbeats 4000000 in
theorem sg_X12_openNow_2 {Γ : pv_C} {d kc ks : Nat} {ty : pv_T} {h : pv_H} {r : pv_R} {g : pv_G} {Q : pv_Q} (x1 : Int32) (x2 : Int32) (x3 : Int32) (hL : pv_Lay ty r) (F : (((h 200 55) ≤ x3 → Q (some (.int (-2))) ty h r g) ∧ (¬ (h 200 55) ≤ x3 → vp_in x3 200 ∧ ((¬ (h 357 (Int32.toNatClampNeg x3)) = x1 → pv_E Γ d kc ks mX12_openNow 2 [some (.ref 200), some (.int x1), some (.int x2), some (.int (x3 + 1))] [] ty h r g Q) ∧ ((h 357 (Int32.toNatClampNeg x3)) = x1 → vp_in x3 200 ∧ ((¬ (h 358 (Int32.toNatClampNeg x3)) = x2 → pv_E Γ d kc ks mX12_openNow 2 [some (.ref 200), some (.int x1), some (.int x2), some (.int (x3 + 1))] [] ty h r g Q) ∧ ((h 358 (Int32.toNatClampNeg x3)) = x2 → vp_in x3 200 ∧ ((0 ≤ (h 361 (Int32.toNatClampNeg x3)) → pv_E Γ d kc ks mX12_openNow 2 [some (.ref 200), some (.int x1), some (.int x2), some (.int (x3 + 1))] [] ty h r g Q) ∧ (¬ 0 ≤ (h 361 (Int32.toNatClampNeg x3)) → Q (some (.int x3)) ty h r g))))))))) : pv_E Γ d kc ks mX12_openNow 2 [some (.ref 200), some (.int x1), some (.int x2), some (.int x3)] [] ty h r g Q := by
  refine pv_iload_n dX12_openNow_2 rfl ?_
  refine pv_aload_n dX12_openNow_3 rfl ?_
  refine pv_getI 12 55 dX12_openNow_4 fl_X12_311 rfl (lt_200 hL) ?_
  refine pv_icmp_ge (tgt := 47) dX12_openNow_7 (by decide) (fun c1 => ?_) (fun c1 => ?_)
  · have F := F.1 c1
    refine pv_bipush (v := (-2)) (by decide) dX12_openNow_47 ?_
    exact pv_ireturn dX12_openNow_49 rfl rfl F
  · have F := F.2 c1
    refine pv_aload_n dX12_openNow_10 rfl ?_
    refine pv_getRk 12 57 dX12_openNow_11 fl_X12_133 rfl (lt_200 hL) (lr_200_57 hL) ?_
    refine pv_iload_n dX12_openNow_14 rfl ?_
    obtain ⟨q1, F⟩ := F
    refine pv_iald dX12_openNow_15 (lt_357 hL) q1 ?_
    refine pv_iload_n dX12_openNow_16 rfl ?_
    refine pv_icmp_ne (tgt := 41) dX12_openNow_17 (by decide) (fun c2 => ?_) (fun c2 => ?_)
    · have F := F.1 c2
      refine pv_iinc (v := x3 + 1) (ls' := [some (.ref 200), some (.int x1), some (.int x2), some (.int (x3 + 1))]) dX12_openNow_41 rfl (by rfl) rfl rfl ?_
      refine pv_goto (tgt := 2) dX12_openNow_44 (by decide) ?_
      exact F
    · have F := F.2 c2
      refine pv_aload_n dX12_openNow_20 rfl ?_
      refine pv_getRk 12 58 dX12_openNow_21 fl_X12_136 rfl (lt_200 hL) (lr_200_58 hL) ?_
      refine pv_iload_n dX12_openNow_24 rfl ?_
      obtain ⟨q2, F⟩ := F
      refine pv_iald dX12_openNow_25 (lt_358 hL) q2 ?_
      refine pv_iload_n dX12_openNow_26 rfl ?_
      refine pv_icmp_ne (tgt := 41) dX12_openNow_27 (by decide) (fun c3 => ?_) (fun c3 => ?_)
      · have F := F.1 c3
        refine pv_iinc (v := x3 + 1) (ls' := [some (.ref 200), some (.int x1), some (.int x2), some (.int (x3 + 1))]) dX12_openNow_41 rfl (by rfl) rfl rfl ?_
        refine pv_goto (tgt := 2) dX12_openNow_44 (by decide) ?_
        exact F
      · have F := F.2 c3
        refine pv_aload_n dX12_openNow_30 rfl ?_
        refine pv_getRk 12 61 dX12_openNow_31 fl_X12_145 rfl (lt_200 hL) (lr_200_61 hL) ?_
        refine pv_iload_n dX12_openNow_34 rfl ?_
        obtain ⟨q3, F⟩ := F
        refine pv_iald dX12_openNow_35 (lt_361 hL) q3 ?_
        refine pv_if_ge (tgt := 41) dX12_openNow_36 (by decide) (fun c4 => ?_) (fun c4 => ?_)
        · have F := F.1 c4
          refine pv_iinc (v := x3 + 1) (ls' := [some (.ref 200), some (.int x1), some (.int x2), some (.int (x3 + 1))]) dX12_openNow_41 rfl (by rfl) rfl rfl ?_
          refine pv_goto (tgt := 2) dX12_openNow_44 (by decide) ?_
          exact F
        · have F := F.2 c4
          refine pv_iload_n dX12_openNow_39 rfl ?_
          exact pv_ireturn dX12_openNow_40 rfl rfl F
set_option maxRecDepth 20000 in
set_option maxHeartbeats 4000000 in
theorem sg_X11_openNowAt_0 {Γ : pv_C} {d kc ks : Nat} {ty : pv_T} {h : pv_H} {r : pv_R} {g : pv_G} {Q : pv_Q} (x : Int32) (y : Int32) (F : pv_E Γ d kc ks mX11_openNowAt 2 [some (.ref 100), some (.int x), some (.int y), some (.int 0), none] [] ty h r g Q) : pv_E Γ d kc ks mX11_openNowAt 0 [some (.ref 100), some (.int x), some (.int y), none, none] [] ty h r g Q := by
  refine pv_iconst (v := 0) (by decide) dX11_openNowAt_0 ?_
  refine pv_istore_n (ls' := [some (.ref 100), some (.int x), some (.int y), some (.int 0), none]) dX11_openNowAt_1 (by decide) rfl rfl ?_
  exact F
set_option maxRecDepth 20000 in
set_option maxHeartbeats 4000000 in
theorem sg_X11_openNowAt_2 {Γ : pv_C} {d kc ks : Nat} {ty : pv_T} {h : pv_H} {r : pv_R} {g : pv_G} {Q : pv_Q} (x1 : Int32) (x2 : Int32) (x3 : Int32) (hd : 1 ≤ d) (hL : pv_Lay ty r) (F : (((h 100 12) ≤ x3 → Q (some (.int (-1))) ty h r g) ∧ (¬ (h 100 12) ≤ x3 → vp_in x3 200 ∧ (((r 121 (Int32.toNatClampNeg x3)) = 0 → pv_E Γ d kc ks mX11_openNowAt 2 [some (.ref 100), some (.int x1), some (.int x2), some (.int (x3 + 1)), none] [] ty h r g Q) ∧ (¬ (r 121 (Int32.toNatClampNeg x3)) = 0 → ty (r 121 (Int32.toNatClampNeg x3)) = some (6, 0) ∧ (ty (r 121 (Int32.toNatClampNeg x3)) = some (6, 0)) ∧ (((pf_b (h (r 121 (Int32.toNatClampNeg x3)) 1 = x1 ∧ h (r 121 (Int32.toNatClampNeg x3)) 2 = x2)) = 0 → pv_E Γ d kc ks mX11_openNowAt 2 [some (.ref 100), some (.int x1), some (.int x2), some (.int (x3 + 1)), none] [] ty h r g Q) ∧ (¬ (pf_b (h (r 121 (Int32.toNatClampNeg x3)) 1 = x1 ∧ h (r 121 (Int32.toNatClampNeg x3)) 2 = x2)) = 0 → ty (r 121 (Int32.toNatClampNeg x3)) = some (6, 0) ∧ (ty (r 121 (Int32.toNatClampNeg x3)) = some (6, 0)) ∧ (((pf_b (h (r 121 (Int32.toNatClampNeg x3)) 5 = -1)) = 0 → pv_E Γ d kc ks mX11_openNowAt 2 [some (.ref 100), some (.int x1), some (.int x2), some (.int (x3 + 1)), none] [] ty h r g Q) ∧ (¬ (pf_b (h (r 121 (Int32.toNatClampNeg x3)) 5 = -1)) = 0 → Q (some (.int x3)) ty h r g))))))))) : pv_E Γ d kc ks mX11_openNowAt 2 [some (.ref 100), some (.int x1), some (.int x2), some (.int x3), none] [] ty h r g Q := by
  refine pv_iload_n dX11_openNowAt_2 rfl ?_
  refine pv_aload_n dX11_openNowAt_3 rfl ?_
  refine pv_getI 11 12 dX11_openNowAt_4 fl_X11_243 rfl (lt_100 hL) ?_
  refine pv_icmp_ge (tgt := 49) dX11_openNowAt_7 (by decide) (fun c1 => ?_) (fun c1 => ?_)
  · have F := F.1 c1
    refine pv_iconst (v := (-1)) (by decide) dX11_openNowAt_49 ?_
    exact pv_ireturn dX11_openNowAt_50 rfl rfl F
  · have F := F.2 c1
    refine pv_aload_n dX11_openNowAt_10 rfl ?_
    refine pv_getRk 11 11 dX11_openNowAt_11 fl_X11_58 rfl (lt_100 hL) (lr_100_11 hL) ?_
    refine pv_iload_n dX11_openNowAt_14 rfl ?_
    obtain ⟨q1, F⟩ := F
    refine pv_aald dX11_openNowAt_15 (lt_121 hL) (by decide) q1 ?_
    refine pv_astore (ls' := [some (.ref 100), some (.int x1), some (.int x2), some (.int x3), some (.ref (r 121 (Int32.toNatClampNeg x3)))]) dX11_openNowAt_16 (by decide) rfl rfl ?_
    refine pv_aload dX11_openNowAt_18 rfl ?_
    refine pv_ifnull (tgt := 43) dX11_openNowAt_20 (by decide) (fun c2 => ?_) (fun c2 => ?_)
    · have F := F.1 c2
      refine pv_iinc (v := x3 + 1) (ls' := [some (.ref 100), some (.int x1), some (.int x2), some (.int (x3 + 1)), some (.ref (r 121 (Int32.toNatClampNeg x3)))]) dX11_openNowAt_43 rfl (by rfl) rfl rfl ?_
      refine pv_goto (tgt := 2) dX11_openNowAt_46 (by decide) ?_
      refine pv_forgetL (ls' := [some (.ref 100), some (.int x1), some (.int x2), some (.int (x3 + 1)), none]) (pv_subL_ok ⟨rfl, ⟨rfl, ⟨rfl, ⟨rfl, trivial⟩⟩⟩⟩) ?_
      exact F
    · have F := F.2 c2
      refine pv_aload dX11_openNowAt_23 rfl ?_
      refine pv_iload_n dX11_openNowAt_25 rfl ?_
      refine pv_iload_n dX11_openNowAt_26 rfl ?_
      obtain ⟨q2, F⟩ := F
      obtain ⟨q3, F⟩ := F
      refine pv_invV (As := [.int x1, .int x2]) (d' := d - 1) dX11_openNowAt_27 moX6_isAt ml_X11_311 q2 (Or.inl ⟨_, rfl, rfl⟩) (Nat.le_of_ble_eq_true rfl) (by omega) (Nat.zero_le _) (Nat.zero_le _) (ct_X6_isAt (by omega) q3) (fun v ty' h' r' g' hq => ?_) rfl
      obtain ⟨e1, e2, e3, e4, e5⟩ := hq
      rw [e1, e2, e3, e4, e5]
      refine pv_pc (pc' := 30) rfl ?_
      show pv_E Γ d kc ks mX11_openNowAt 30 [some (.ref 100), some (.int x1), some (.int x2), some (.int x3), some (.ref (r 121 (Int32.toNatClampNeg x3)))] [.int (pf_b (h (r 121 (Int32.toNatClampNeg x3)) 1 = x1 ∧ h (r 121 (Int32.toNatClampNeg x3)) 2 = x2))] ty h r g Q
      refine pv_if_eq (tgt := 43) dX11_openNowAt_30 (by decide) (fun c3 => ?_) (fun c3 => ?_)
      · have F := F.1 c3
        refine pv_iinc (v := x3 + 1) (ls' := [some (.ref 100), some (.int x1), some (.int x2), some (.int (x3 + 1)), some (.ref (r 121 (Int32.toNatClampNeg x3)))]) dX11_openNowAt_43 rfl (by rfl) rfl rfl ?_
        refine pv_goto (tgt := 2) dX11_openNowAt_46 (by decide) ?_
        refine pv_forgetL (ls' := [some (.ref 100), some (.int x1), some (.int x2), some (.int (x3 + 1)), none]) (pv_subL_ok ⟨rfl, ⟨rfl, ⟨rfl, ⟨rfl, trivial⟩⟩⟩⟩) ?_
        exact F
      · have F := F.2 c3
        refine pv_aload dX11_openNowAt_33 rfl ?_
        obtain ⟨q4, F⟩ := F
        obtain ⟨q5, F⟩ := F
        refine pv_invV (As := []) (d' := d - 1) dX11_openNowAt_35 moX6_isOpen ml_X11_253 q4 (Or.inl ⟨_, rfl, rfl⟩) (Nat.le_of_ble_eq_true rfl) (by omega) (Nat.zero_le _) (Nat.zero_le _) (ct_X6_isOpen (by omega) q5) (fun v ty' h' r' g' hq => ?_) rfl
        obtain ⟨e1, e2, e3, e4, e5⟩ := hq
        rw [e1, e2, e3, e4, e5]
        refine pv_pc (pc' := 38) rfl ?_
        show pv_E Γ d kc ks mX11_openNowAt 38 [some (.ref 100), some (.int x1), some (.int x2), some (.int x3), some (.ref (r 121 (Int32.toNatClampNeg x3)))] [.int (pf_b (h (r 121 (Int32.toNatClampNeg x3)) 5 = -1))] ty h r g Q
        refine pv_if_eq (tgt := 43) dX11_openNowAt_38 (by decide) (fun c4 => ?_) (fun c4 => ?_)
        · have F := F.1 c4
          refine pv_iinc (v := x3 + 1) (ls' := [some (.ref 100), some (.int x1), some (.int x2), some (.int (x3 + 1)), some (.ref (r 121 (Int32.toNatClampNeg x3)))]) dX11_openNowAt_43 rfl (by rfl) rfl rfl ?_
          refine pv_goto (tgt := 2) dX11_openNowAt_46 (by decide) ?_
          refine pv_forgetL (ls' := [some (.ref 100), some (.int x1), some (.int x2), some (.int (x3 + 1)), none]) (pv_subL_ok ⟨rfl, ⟨rfl, ⟨rfl, ⟨rfl, trivial⟩⟩⟩⟩) ?_
          exact F
        · have F := F.2 c4
          refine pv_iload_n dX11_openNowAt_41 rfl ?_
          exact pv_ireturn dX11_openNowAt_42 rfl rfl F
set_option maxRecDepth 20000 in
set_option maxHeartbeats 4000000 in
theorem sg_X11_lastPutBackAt_0 {Γ : pv_C} {d kc ks : Nat} {ty : pv_T} {h : pv_H} {r : pv_R} {g : pv_G} {Q : pv_Q} (x : Int32) (y : Int32) (F : pv_E Γ d kc ks mX11_lastPutBackAt 8 [some (.ref 100), some (.int x), some (.int y), some (.int (-1)), some (.int (-1)), some (.int 0), none] [] ty h r g Q) : pv_E Γ d kc ks mX11_lastPutBackAt 0 [some (.ref 100), some (.int x), some (.int y), none, none, none, none] [] ty h r g Q := by
  refine pv_iconst (v := (-1)) (by decide) dX11_lastPutBackAt_0 ?_
  refine pv_istore_n (ls' := [some (.ref 100), some (.int x), some (.int y), some (.int (-1)), none, none, none]) dX11_lastPutBackAt_1 (by decide) rfl rfl ?_
  refine pv_iconst (v := (-1)) (by decide) dX11_lastPutBackAt_2 ?_
  refine pv_istore (ls' := [some (.ref 100), some (.int x), some (.int y), some (.int (-1)), some (.int (-1)), none, none]) dX11_lastPutBackAt_3 (by decide) rfl rfl ?_
  refine pv_iconst (v := 0) (by decide) dX11_lastPutBackAt_5 ?_
  refine pv_istore (ls' := [some (.ref 100), some (.int x), some (.int y), some (.int (-1)), some (.int (-1)), some (.int 0), none]) dX11_lastPutBackAt_6 (by decide) rfl rfl ?_
  exact F
set_option maxRecDepth 20000 in
set_option maxHeartbeats 4000000 in
theorem sg_X11_lastPutBackAt_8 {Γ : pv_C} {d kc ks : Nat} {ty : pv_T} {h : pv_H} {r : pv_R} {g : pv_G} {Q : pv_Q} (x1 : Int32) (x2 : Int32) (x3 : Int32) (x4 : Int32) (x5 : Int32) (hd : 1 ≤ d) (hL : pv_Lay ty r) (F : (((h 100 12) ≤ x5 → Q (some (.int x3)) ty h r g) ∧ (¬ (h 100 12) ≤ x5 → vp_in x5 200 ∧ (((r 121 (Int32.toNatClampNeg x5)) = 0 → pv_E Γ d kc ks mX11_lastPutBackAt 8 [some (.ref 100), some (.int x1), some (.int x2), some (.int x3), some (.int x4), some (.int (x5 + 1)), none] [] ty h r g Q) ∧ (¬ (r 121 (Int32.toNatClampNeg x5)) = 0 → ty (r 121 (Int32.toNatClampNeg x5)) = some (6, 0) ∧ (ty (r 121 (Int32.toNatClampNeg x5)) = some (6, 0)) ∧ (((pf_b (h (r 121 (Int32.toNatClampNeg x5)) 1 = x1 ∧ h (r 121 (Int32.toNatClampNeg x5)) 2 = x2)) = 0 → pv_E Γ d kc ks mX11_lastPutBackAt 8 [some (.ref 100), some (.int x1), some (.int x2), some (.int x3), some (.int x4), some (.int (x5 + 1)), none] [] ty h r g Q) ∧ (¬ (pf_b (h (r 121 (Int32.toNatClampNeg x5)) 1 = x1 ∧ h (r 121 (Int32.toNatClampNeg x5)) 2 = x2)) = 0 → ty (r 121 (Int32.toNatClampNeg x5)) = some (6, 0) ∧ (ty (r 121 (Int32.toNatClampNeg x5)) = some (6, 0)) ∧ ((¬ (pf_b (h (r 121 (Int32.toNatClampNeg x5)) 5 = -1)) = 0 → pv_E Γ d kc ks mX11_lastPutBackAt 8 [some (.ref 100), some (.int x1), some (.int x2), some (.int x3), some (.int x4), some (.int (x5 + 1)), none] [] ty h r g Q) ∧ ((pf_b (h (r 121 (Int32.toNatClampNeg x5)) 5 = -1)) = 0 → ty (r 121 (Int32.toNatClampNeg x5)) = some (6, 0) ∧ (((h (r 121 (Int32.toNatClampNeg x5)) 5) < x4 → pv_E Γ d kc ks mX11_lastPutBackAt 8 [some (.ref 100), some (.int x1), some (.int x2), some (.int x3), some (.int x4), some (.int (x5 + 1)), none] [] ty h r g Q) ∧ (¬ (h (r 121 (Int32.toNatClampNeg x5)) 5) < x4 → ty (r 121 (Int32.toNatClampNeg x5)) = some (6, 0) ∧ pv_E Γ d kc ks mX11_lastPutBackAt 8 [some (.ref 100), some (.int x1), some (.int x2), some (.int x5), some (.int (h (r 121 (Int32.toNatClampNeg x5)) 5)), some (.int (x5 + 1)), none] [] ty h r g Q))))))))))) : pv_E Γ d kc ks mX11_lastPutBackAt 8 [some (.ref 100), some (.int x1), some (.int x2), some (.int x3), some (.int x4), some (.int x5), none] [] ty h r g Q := by
  refine pv_iload dX11_lastPutBackAt_8 rfl ?_
  refine pv_aload_n dX11_lastPutBackAt_10 rfl ?_
  refine pv_getI 11 12 dX11_lastPutBackAt_11 fl_X11_243 rfl (lt_100 hL) ?_
  refine pv_icmp_ge (tgt := 75) dX11_lastPutBackAt_14 (by decide) (fun c1 => ?_) (fun c1 => ?_)
  · have F := F.1 c1
    refine pv_iload_n dX11_lastPutBackAt_75 rfl ?_
    exact pv_ireturn dX11_lastPutBackAt_76 rfl rfl F
  · have F := F.2 c1
    refine pv_aload_n dX11_lastPutBackAt_17 rfl ?_
    refine pv_getRk 11 11 dX11_lastPutBackAt_18 fl_X11_58 rfl (lt_100 hL) (lr_100_11 hL) ?_
    refine pv_iload dX11_lastPutBackAt_21 rfl ?_
    obtain ⟨q1, F⟩ := F
    refine pv_aald dX11_lastPutBackAt_23 (lt_121 hL) (by decide) q1 ?_
    refine pv_astore (ls' := [some (.ref 100), some (.int x1), some (.int x2), some (.int x3), some (.int x4), some (.int x5), some (.ref (r 121 (Int32.toNatClampNeg x5)))]) dX11_lastPutBackAt_24 (by decide) rfl rfl ?_
    refine pv_aload dX11_lastPutBackAt_26 rfl ?_
    refine pv_ifnull (tgt := 69) dX11_lastPutBackAt_28 (by decide) (fun c2 => ?_) (fun c2 => ?_)
    · have F := F.1 c2
      refine pv_iinc (v := x5 + 1) (ls' := [some (.ref 100), some (.int x1), some (.int x2), some (.int x3), some (.int x4), some (.int (x5 + 1)), some (.ref (r 121 (Int32.toNatClampNeg x5)))]) dX11_lastPutBackAt_69 rfl (by rfl) rfl rfl ?_
      refine pv_goto (tgt := 8) dX11_lastPutBackAt_72 (by decide) ?_
      refine pv_forgetL (ls' := [some (.ref 100), some (.int x1), some (.int x2), some (.int x3), some (.int x4), some (.int (x5 + 1)), none]) (pv_subL_ok ⟨rfl, ⟨rfl, ⟨rfl, ⟨rfl, ⟨rfl, ⟨rfl, trivial⟩⟩⟩⟩⟩⟩) ?_
      exact F
    · have F := F.2 c2
      refine pv_aload dX11_lastPutBackAt_31 rfl ?_
      refine pv_iload_n dX11_lastPutBackAt_33 rfl ?_
      refine pv_iload_n dX11_lastPutBackAt_34 rfl ?_
      obtain ⟨q2, F⟩ := F
      obtain ⟨q3, F⟩ := F
      refine pv_invV (As := [.int x1, .int x2]) (d' := d - 1) dX11_lastPutBackAt_35 moX6_isAt ml_X11_311 q2 (Or.inl ⟨_, rfl, rfl⟩) (Nat.le_of_ble_eq_true rfl) (by omega) (Nat.zero_le _) (Nat.zero_le _) (ct_X6_isAt (by omega) q3) (fun v ty' h' r' g' hq => ?_) rfl
      obtain ⟨e1, e2, e3, e4, e5⟩ := hq
      rw [e1, e2, e3, e4, e5]
      refine pv_pc (pc' := 38) rfl ?_
      show pv_E Γ d kc ks mX11_lastPutBackAt 38 [some (.ref 100), some (.int x1), some (.int x2), some (.int x3), some (.int x4), some (.int x5), some (.ref (r 121 (Int32.toNatClampNeg x5)))] [.int (pf_b (h (r 121 (Int32.toNatClampNeg x5)) 1 = x1 ∧ h (r 121 (Int32.toNatClampNeg x5)) 2 = x2))] ty h r g Q
      refine pv_if_eq (tgt := 69) dX11_lastPutBackAt_38 (by decide) (fun c3 => ?_) (fun c3 => ?_)
      · have F := F.1 c3
        refine pv_iinc (v := x5 + 1) (ls' := [some (.ref 100), some (.int x1), some (.int x2), some (.int x3), some (.int x4), some (.int (x5 + 1)), some (.ref (r 121 (Int32.toNatClampNeg x5)))]) dX11_lastPutBackAt_69 rfl (by rfl) rfl rfl ?_
        refine pv_goto (tgt := 8) dX11_lastPutBackAt_72 (by decide) ?_
        refine pv_forgetL (ls' := [some (.ref 100), some (.int x1), some (.int x2), some (.int x3), some (.int x4), some (.int (x5 + 1)), none]) (pv_subL_ok ⟨rfl, ⟨rfl, ⟨rfl, ⟨rfl, ⟨rfl, ⟨rfl, trivial⟩⟩⟩⟩⟩⟩) ?_
        exact F
      · have F := F.2 c3
        refine pv_aload dX11_lastPutBackAt_41 rfl ?_
        obtain ⟨q4, F⟩ := F
        obtain ⟨q5, F⟩ := F
        refine pv_invV (As := []) (d' := d - 1) dX11_lastPutBackAt_43 moX6_isOpen ml_X11_253 q4 (Or.inl ⟨_, rfl, rfl⟩) (Nat.le_of_ble_eq_true rfl) (by omega) (Nat.zero_le _) (Nat.zero_le _) (ct_X6_isOpen (by omega) q5) (fun v ty' h' r' g' hq => ?_) rfl
        obtain ⟨e1, e2, e3, e4, e5⟩ := hq
        rw [e1, e2, e3, e4, e5]
        refine pv_pc (pc' := 46) rfl ?_
        show pv_E Γ d kc ks mX11_lastPutBackAt 46 [some (.ref 100), some (.int x1), some (.int x2), some (.int x3), some (.int x4), some (.int x5), some (.ref (r 121 (Int32.toNatClampNeg x5)))] [.int (pf_b (h (r 121 (Int32.toNatClampNeg x5)) 5 = -1))] ty h r g Q
        refine pv_if_ne (tgt := 69) dX11_lastPutBackAt_46 (by decide) (fun c4 => ?_) (fun c4 => ?_)
        · have F := F.1 c4
          refine pv_iinc (v := x5 + 1) (ls' := [some (.ref 100), some (.int x1), some (.int x2), some (.int x3), some (.int x4), some (.int (x5 + 1)), some (.ref (r 121 (Int32.toNatClampNeg x5)))]) dX11_lastPutBackAt_69 rfl (by rfl) rfl rfl ?_
          refine pv_goto (tgt := 8) dX11_lastPutBackAt_72 (by decide) ?_
          refine pv_forgetL (ls' := [some (.ref 100), some (.int x1), some (.int x2), some (.int x3), some (.int x4), some (.int (x5 + 1)), none]) (pv_subL_ok ⟨rfl, ⟨rfl, ⟨rfl, ⟨rfl, ⟨rfl, ⟨rfl, trivial⟩⟩⟩⟩⟩⟩) ?_
          exact F
        · have F := F.2 c4
          refine pv_aload dX11_lastPutBackAt_49 rfl ?_
          obtain ⟨q6, F⟩ := F
          refine pv_getI 6 5 dX11_lastPutBackAt_51 fl_X11_256 rfl q6 ?_
          refine pv_iload dX11_lastPutBackAt_54 rfl ?_
          refine pv_icmp_lt (tgt := 69) dX11_lastPutBackAt_56 (by decide) (fun c5 => ?_) (fun c5 => ?_)
          · have F := F.1 c5
            refine pv_iinc (v := x5 + 1) (ls' := [some (.ref 100), some (.int x1), some (.int x2), some (.int x3), some (.int x4), some (.int (x5 + 1)), some (.ref (r 121 (Int32.toNatClampNeg x5)))]) dX11_lastPutBackAt_69 rfl (by rfl) rfl rfl ?_
            refine pv_goto (tgt := 8) dX11_lastPutBackAt_72 (by decide) ?_
            refine pv_forgetL (ls' := [some (.ref 100), some (.int x1), some (.int x2), some (.int x3), some (.int x4), some (.int (x5 + 1)), none]) (pv_subL_ok ⟨rfl, ⟨rfl, ⟨rfl, ⟨rfl, ⟨rfl, ⟨rfl, trivial⟩⟩⟩⟩⟩⟩) ?_
            exact F
          · have F := F.2 c5
            refine pv_iload dX11_lastPutBackAt_59 rfl ?_
            refine pv_istore_n (ls' := [some (.ref 100), some (.int x1), some (.int x2), some (.int x5), some (.int x4), some (.int x5), some (.ref (r 121 (Int32.toNatClampNeg x5)))]) dX11_lastPutBackAt_61 (by decide) rfl rfl ?_
            refine pv_aload dX11_lastPutBackAt_62 rfl ?_
            obtain ⟨q7, F⟩ := F
            refine pv_getI 6 5 dX11_lastPutBackAt_64 fl_X11_256 rfl q7 ?_
            refine pv_istore (ls' := [some (.ref 100), some (.int x1), some (.int x2), some (.int x5), some (.int (h (r 121 (Int32.toNatClampNeg x5)) 5)), some (.int x5), some (.ref (r 121 (Int32.toNatClampNeg x5)))]) dX11_lastPutBackAt_67 (by decide) rfl rfl ?_
            refine pv_iinc (v := x5 + 1) (ls' := [some (.ref 100), some (.int x1), some (.int x2), some (.int x5), some (.int (h (r 121 (Int32.toNatClampNeg x5)) 5)), some (.int (x5 + 1)), some (.ref (r 121 (Int32.toNatClampNeg x5)))]) dX11_lastPutBackAt_69 rfl (by rfl) rfl rfl ?_
            refine pv_goto (tgt := 8) dX11_lastPutBackAt_72 (by decide) ?_
            refine pv_forgetL (ls' := [some (.ref 100), some (.int x1), some (.int x2), some (.int x5), some (.int (h (r 121 (Int32.toNatClampNeg x5)) 5)), some (.int (x5 + 1)), none]) (pv_subL_ok ⟨rfl, ⟨rfl, ⟨rfl, ⟨rfl, ⟨rfl, ⟨rfl, trivial⟩⟩⟩⟩⟩⟩) ?_
            exact F
set_option maxRecDepth 20000 in
set_option maxHeartbeats 4000000 in
theorem sg_X12_sink_0 {Γ : pv_C} {d kc ks : Nat} {ty : pv_T} {h : pv_H} {r : pv_R} {g : pv_G} {Q : pv_Q} (x : Int32) (y : Int32) (hd : 4 ≤ d) (hL : pv_Lay ty r) (F : (0 ≤ h 200 1 ∧ h 200 1 ≤ 8) ∧ ((¬ (pf_b (fo_at h x y)) = 0 → pv_CJ Γ (d - 1) mX12_openNow [.ref 200, .int x, .int y] ty h r g (fun (w1 : Int32) (h1 : pv_H) => ((w1 < 0 → pv_E Γ d kc ks mX12_sink 27 [some (.ref 200), some (.int x), some (.int y), some (.int w1), some (.int 0)] [] ty h1 r g Q) ∧ (¬ w1 < 0 → Q (some (.int w1)) ty h1 r g)))) ∧ ((pf_b (fo_at h x y)) = 0 → Q (some (.int (-1))) ty h r g))) : pv_E Γ d kc ks mX12_sink 0 [some (.ref 200), some (.int x), some (.int y), none, none] [] ty h r g Q := by
  refine pv_aload_n dX12_sink_0 rfl ?_
  refine pv_iload_n dX12_sink_1 rfl ?_
  refine pv_iload_n dX12_sink_2 rfl ?_
  obtain ⟨q1, F⟩ := F
  refine pv_invV (As := [.int x, .int y]) (d' := d - 1) dX12_sink_3 moX12_isAt ml_X12_314 (lt_200 hL) (Or.inl ⟨_, rfl, rfl⟩) (Nat.le_of_ble_eq_true rfl) (by omega) (Nat.zero_le _) (Nat.zero_le _) (ct_X12_isAt (by omega) hL q1) (fun v ty' h' r' g' hq => ?_) rfl
  obtain ⟨e1, e2, e3, e4, e5⟩ := hq
  rw [e1, e2, e3, e4, e5]
  refine pv_pc (pc' := 6) rfl ?_
  show pv_E Γ d kc ks mX12_sink 6 [some (.ref 200), some (.int x), some (.int y), none, none] [.int (pf_b (fo_at h x y))] ty h r g Q
  refine pv_if_ne (tgt := 11) dX12_sink_6 (by decide) (fun c1 => ?_) (fun c1 => ?_)
  · have F := F.1 c1
    refine pv_aload_n dX12_sink_11 rfl ?_
    refine pv_iload_n dX12_sink_12 rfl ?_
    refine pv_iload_n dX12_sink_13 rfl ?_
    refine pv_invV (As := [.int x, .int y]) (d' := d - 1) dX12_sink_14 moX12_openNow ml_X12_317 (lt_200 hL) (Or.inl ⟨_, rfl, rfl⟩) (Nat.le_of_ble_eq_true rfl) (by omega) (Nat.zero_le _) (Nat.zero_le _) F (fun v ty' h1 r' g' hq => ?_) rfl
    obtain ⟨e2, e4, e5, w1, e1, F⟩ := hq
    rw [e1, e2, e4, e5]
    refine pv_pc (pc' := 17) rfl ?_
    show pv_E Γ d kc ks mX12_sink 17 [some (.ref 200), some (.int x), some (.int y), none, none] [.int w1] ty h1 r g Q
    refine pv_istore_n (ls' := [some (.ref 200), some (.int x), some (.int y), some (.int w1), none]) dX12_sink_17 (by decide) rfl rfl ?_
    refine pv_iload_n dX12_sink_18 rfl ?_
    refine pv_if_lt (tgt := 24) dX12_sink_19 (by decide) (fun c2 => ?_) (fun c2 => ?_)
    · have F := F.1 c2
      refine pv_iconst (v := 0) (by decide) dX12_sink_24 ?_
      refine pv_istore (ls' := [some (.ref 200), some (.int x), some (.int y), some (.int w1), some (.int 0)]) dX12_sink_25 (by decide) rfl rfl ?_
      exact F
    · have F := F.2 c2
      refine pv_iload_n dX12_sink_22 rfl ?_
      exact pv_ireturn dX12_sink_23 rfl rfl F
  · have F := F.2 c1
    refine pv_iconst (v := (-1)) (by decide) dX12_sink_9 ?_
    exact pv_ireturn dX12_sink_10 rfl rfl F
set_option maxRecDepth 20000 in
set_option maxHeartbeats 4000000 in
theorem sg_X12_sink_27 {Γ : pv_C} {d kc ks : Nat} {ty : pv_T} {h : pv_H} {r : pv_R} {g : pv_G} {Q : pv_Q} (x1 : Int32) (x2 : Int32) (x3 : Int32) (x4 : Int32) (hL : pv_Lay ty r) (F : (((h 200 55) ≤ x4 → Q (some (.int x3)) ty h r g) ∧ (¬ (h 200 55) ≤ x4 → vp_in x4 200 ∧ ((¬ (h 357 (Int32.toNatClampNeg x4)) = x1 → pv_E Γ d kc ks mX12_sink 27 [some (.ref 200), some (.int x1), some (.int x2), some (.int x3), some (.int (x4 + 1))] [] ty h r g Q) ∧ ((h 357 (Int32.toNatClampNeg x4)) = x1 → vp_in x4 200 ∧ ((¬ (h 358 (Int32.toNatClampNeg x4)) = x2 → pv_E Γ d kc ks mX12_sink 27 [some (.ref 200), some (.int x1), some (.int x2), some (.int x3), some (.int (x4 + 1))] [] ty h r g Q) ∧ ((h 358 (Int32.toNatClampNeg x4)) = x2 → ((x3 < 0 → pv_E Γ d kc ks mX12_sink 27 [some (.ref 200), some (.int x1), some (.int x2), some (.int x4), some (.int (x4 + 1))] [] ty h r g Q) ∧ (¬ x3 < 0 → vp_in x4 200 ∧ vp_in x3 200 ∧ (((h 361 (Int32.toNatClampNeg x4)) < (h 361 (Int32.toNatClampNeg x3)) → pv_E Γ d kc ks mX12_sink 27 [some (.ref 200), some (.int x1), some (.int x2), some (.int x3), some (.int (x4 + 1))] [] ty h r g Q) ∧ (¬ (h 361 (Int32.toNatClampNeg x4)) < (h 361 (Int32.toNatClampNeg x3)) → pv_E Γ d kc ks mX12_sink 27 [some (.ref 200), some (.int x1), some (.int x2), some (.int x4), some (.int (x4 + 1))] [] ty h r g Q))))))))))) : pv_E Γ d kc ks mX12_sink 27 [some (.ref 200), some (.int x1), some (.int x2), some (.int x3), some (.int x4)] [] ty h r g Q := by
  refine pv_iload dX12_sink_27 rfl ?_
  refine pv_aload_n dX12_sink_29 rfl ?_
  refine pv_getI 12 55 dX12_sink_30 fl_X12_311 rfl (lt_200 hL) ?_
  refine pv_icmp_ge (tgt := 87) dX12_sink_33 (by decide) (fun c1 => ?_) (fun c1 => ?_)
  · have F := F.1 c1
    refine pv_iload_n dX12_sink_87 rfl ?_
    exact pv_ireturn dX12_sink_88 rfl rfl F
  · have F := F.2 c1
    refine pv_aload_n dX12_sink_36 rfl ?_
    refine pv_getRk 12 57 dX12_sink_37 fl_X12_133 rfl (lt_200 hL) (lr_200_57 hL) ?_
    refine pv_iload dX12_sink_40 rfl ?_
    obtain ⟨q1, F⟩ := F
    refine pv_iald dX12_sink_42 (lt_357 hL) q1 ?_
    refine pv_iload_n dX12_sink_43 rfl ?_
    refine pv_icmp_ne (tgt := 81) dX12_sink_44 (by decide) (fun c2 => ?_) (fun c2 => ?_)
    · have F := F.1 c2
      refine pv_iinc (v := x4 + 1) (ls' := [some (.ref 200), some (.int x1), some (.int x2), some (.int x3), some (.int (x4 + 1))]) dX12_sink_81 rfl (by rfl) rfl rfl ?_
      refine pv_goto (tgt := 27) dX12_sink_84 (by decide) ?_
      exact F
    · have F := F.2 c2
      refine pv_aload_n dX12_sink_47 rfl ?_
      refine pv_getRk 12 58 dX12_sink_48 fl_X12_136 rfl (lt_200 hL) (lr_200_58 hL) ?_
      refine pv_iload dX12_sink_51 rfl ?_
      obtain ⟨q2, F⟩ := F
      refine pv_iald dX12_sink_53 (lt_358 hL) q2 ?_
      refine pv_iload_n dX12_sink_54 rfl ?_
      refine pv_icmp_ne (tgt := 81) dX12_sink_55 (by decide) (fun c3 => ?_) (fun c3 => ?_)
      · have F := F.1 c3
        refine pv_iinc (v := x4 + 1) (ls' := [some (.ref 200), some (.int x1), some (.int x2), some (.int x3), some (.int (x4 + 1))]) dX12_sink_81 rfl (by rfl) rfl rfl ?_
        refine pv_goto (tgt := 27) dX12_sink_84 (by decide) ?_
        exact F
      · have F := F.2 c3
        refine pv_iload_n dX12_sink_58 rfl ?_
        refine pv_if_lt (tgt := 78) dX12_sink_59 (by decide) (fun c4 => ?_) (fun c4 => ?_)
        · have F := F.1 c4
          refine pv_iload dX12_sink_78 rfl ?_
          refine pv_istore_n (ls' := [some (.ref 200), some (.int x1), some (.int x2), some (.int x4), some (.int x4)]) dX12_sink_80 (by decide) rfl rfl ?_
          refine pv_iinc (v := x4 + 1) (ls' := [some (.ref 200), some (.int x1), some (.int x2), some (.int x4), some (.int (x4 + 1))]) dX12_sink_81 rfl (by rfl) rfl rfl ?_
          refine pv_goto (tgt := 27) dX12_sink_84 (by decide) ?_
          exact F
        · have F := F.2 c4
          refine pv_aload_n dX12_sink_62 rfl ?_
          refine pv_getRk 12 61 dX12_sink_63 fl_X12_145 rfl (lt_200 hL) (lr_200_61 hL) ?_
          refine pv_iload dX12_sink_66 rfl ?_
          obtain ⟨q3, F⟩ := F
          refine pv_iald dX12_sink_68 (lt_361 hL) q3 ?_
          refine pv_aload_n dX12_sink_69 rfl ?_
          refine pv_getRk 12 61 dX12_sink_70 fl_X12_145 rfl (lt_200 hL) (lr_200_61 hL) ?_
          refine pv_iload_n dX12_sink_73 rfl ?_
          obtain ⟨q4, F⟩ := F
          refine pv_iald dX12_sink_74 (lt_361 hL) q4 ?_
          refine pv_icmp_lt (tgt := 81) dX12_sink_75 (by decide) (fun c5 => ?_) (fun c5 => ?_)
          · have F := F.1 c5
            refine pv_iinc (v := x4 + 1) (ls' := [some (.ref 200), some (.int x1), some (.int x2), some (.int x3), some (.int (x4 + 1))]) dX12_sink_81 rfl (by rfl) rfl rfl ?_
            refine pv_goto (tgt := 27) dX12_sink_84 (by decide) ?_
            exact F
          · have F := F.2 c5
            refine pv_iload dX12_sink_78 rfl ?_
            refine pv_istore_n (ls' := [some (.ref 200), some (.int x1), some (.int x2), some (.int x4), some (.int x4)]) dX12_sink_80 (by decide) rfl rfl ?_
            refine pv_iinc (v := x4 + 1) (ls' := [some (.ref 200), some (.int x1), some (.int x2), some (.int x4), some (.int (x4 + 1))]) dX12_sink_81 rfl (by rfl) rfl rfl ?_
            refine pv_goto (tgt := 27) dX12_sink_84 (by decide) ?_
            exact F
set_option maxRecDepth 20000 in
set_option maxHeartbeats 4000000 in
theorem sg_X11_sink_0 {Γ : pv_C} {d kc ks : Nat} {ty : pv_T} {h : pv_H} {r : pv_R} {g : pv_G} {Q : pv_Q} (x : Int32) (y : Int32) (hd : 3 ≤ d) (hL : pv_Lay ty r) (F : (∃ ns, cpS ty h r ns) ∧ ((¬ (pf_b (fo_at h x y)) = 0 → pv_CJ Γ (d - 1) mX11_openNowAt [.ref 100, .int x, .int y] ty h r g (fun (w1 : Int32) (h1 : pv_H) => ((w1 = (-1) → pv_CJ Γ (d - 1) mX11_lastPutBackAt [.ref 100, .int x, .int y] ty h1 r g (fun (w2 : Int32) (h2 : pv_H) => ((¬ w2 = (-1) → Q (some (.int w2)) ty h2 r g) ∧ (w2 = (-1) → Q (some (.int (-2))) ty h2 r g)))) ∧ (¬ w1 = (-1) → ((¬ w1 = (-1) → Q (some (.int w1)) ty h1 r g) ∧ (w1 = (-1) → Q (some (.int (-2))) ty h1 r g)))))) ∧ ((pf_b (fo_at h x y)) = 0 → Q (some (.int (-1))) ty h r g))) : pv_E Γ d kc ks mX11_sink 0 [some (.ref 100), some (.int x), some (.int y), none, none] [] ty h r g Q := by
  refine pv_aload_n dX11_sink_0 rfl ?_
  refine pv_iload_n dX11_sink_1 rfl ?_
  refine pv_iload_n dX11_sink_2 rfl ?_
  obtain ⟨q1, F⟩ := F
  refine pv_invV (As := [.int x, .int y]) (d' := d - 1) dX11_sink_3 moX11_isSquare ml_X11_237 (lt_100 hL) (Or.inl ⟨_, rfl, rfl⟩) (Nat.le_of_ble_eq_true rfl) (by omega) (Nat.zero_le _) (Nat.zero_le _) (ct_X11_isSquare (by omega) hL q1) (fun v ty' h' r' g' hq => ?_) rfl
  obtain ⟨e1, e2, e3, e4, e5⟩ := hq
  rw [e1, e2, e3, e4, e5]
  refine pv_pc (pc' := 6) rfl ?_
  show pv_E Γ d kc ks mX11_sink 6 [some (.ref 100), some (.int x), some (.int y), none, none] [.int (pf_b (fo_at h x y))] ty h r g Q
  refine pv_if_ne (tgt := 11) dX11_sink_6 (by decide) (fun c1 => ?_) (fun c1 => ?_)
  · have F := F.1 c1
    refine pv_aload_n dX11_sink_11 rfl ?_
    refine pv_iload_n dX11_sink_12 rfl ?_
    refine pv_iload_n dX11_sink_13 rfl ?_
    refine pv_invV (As := [.int x, .int y]) (d' := d - 1) dX11_sink_14 moX11_openNowAt ml_X11_240 (lt_100 hL) (Or.inl ⟨_, rfl, rfl⟩) (Nat.le_of_ble_eq_true rfl) (by omega) (Nat.zero_le _) (Nat.zero_le _) F (fun v ty' h1 r' g' hq => ?_) rfl
    obtain ⟨e2, e4, e5, w1, e1, F⟩ := hq
    rw [e1, e2, e4, e5]
    refine pv_pc (pc' := 17) rfl ?_
    show pv_E Γ d kc ks mX11_sink 17 [some (.ref 100), some (.int x), some (.int y), none, none] [.int w1] ty h1 r g Q
    refine pv_istore_n (ls' := [some (.ref 100), some (.int x), some (.int y), some (.int w1), none]) dX11_sink_17 (by decide) rfl rfl ?_
    refine pv_iload_n dX11_sink_18 rfl ?_
    refine pv_iconst (v := (-1)) (by decide) dX11_sink_19 ?_
    refine pv_icmp_eq (tgt := 27) dX11_sink_20 (by decide) (fun c2 => ?_) (fun c2 => ?_)
    · have F := F.1 c2
      refine pv_aload_n dX11_sink_27 rfl ?_
      refine pv_iload_n dX11_sink_28 rfl ?_
      refine pv_iload_n dX11_sink_29 rfl ?_
      refine pv_invV (As := [.int x, .int y]) (d' := d - 1) dX11_sink_30 moX11_lastPutBackAt ml_X11_272 (lt_100 hL) (Or.inl ⟨_, rfl, rfl⟩) (Nat.le_of_ble_eq_true rfl) (by omega) (Nat.zero_le _) (Nat.zero_le _) F (fun v ty' h2 r' g' hq => ?_) rfl
      obtain ⟨e2, e4, e5, w2, e1, F⟩ := hq
      rw [e1, e2, e4, e5]
      refine pv_pc (pc' := 33) rfl ?_
      show pv_E Γ d kc ks mX11_sink 33 [some (.ref 100), some (.int x), some (.int y), some (.int w1), none] [.int w2] ty h2 r g Q
      refine pv_istore (ls' := [some (.ref 100), some (.int x), some (.int y), some (.int w1), some (.int w2)]) dX11_sink_33 (by decide) rfl rfl ?_
      refine pv_iload dX11_sink_35 rfl ?_
      refine pv_iconst (v := (-1)) (by decide) dX11_sink_37 ?_
      refine pv_icmp_ne (tgt := 46) dX11_sink_38 (by decide) (fun c3 => ?_) (fun c3 => ?_)
      · have F := F.1 c3
        refine pv_iload dX11_sink_46 rfl ?_
        exact pv_ireturn dX11_sink_48 rfl rfl F
      · have F := F.2 c3
        refine pv_bipush (v := (-2)) (by decide) dX11_sink_41 ?_
        refine pv_goto (tgt := 48) dX11_sink_43 (by decide) ?_
        exact pv_ireturn dX11_sink_48 rfl rfl F
    · have F := F.2 c2
      refine pv_iload_n dX11_sink_23 rfl ?_
      refine pv_goto (tgt := 33) dX11_sink_24 (by decide) ?_
      refine pv_istore (ls' := [some (.ref 100), some (.int x), some (.int y), some (.int w1), some (.int w1)]) dX11_sink_33 (by decide) rfl rfl ?_
      refine pv_iload dX11_sink_35 rfl ?_
      refine pv_iconst (v := (-1)) (by decide) dX11_sink_37 ?_
      refine pv_icmp_ne (tgt := 46) dX11_sink_38 (by decide) (fun c4 => ?_) (fun c4 => ?_)
      · have F := F.1 c4
        refine pv_iload dX11_sink_46 rfl ?_
        exact pv_ireturn dX11_sink_48 rfl rfl F
      · have F := F.2 c4
        refine pv_bipush (v := (-2)) (by decide) dX11_sink_41 ?_
        refine pv_goto (tgt := 48) dX11_sink_43 (by decide) ?_
        exact pv_ireturn dX11_sink_48 rfl rfl F
  · have F := F.2 c1
    refine pv_iconst (v := (-1)) (by decide) dX11_sink_9 ?_
    exact pv_ireturn dX11_sink_10 rfl rfl F
set_option maxRecDepth 20000 in
set_option maxHeartbeats 4000000 in
theorem sg_X12_back_0 {Γ : pv_C} {d kc ks : Nat} {ty : pv_T} {h : pv_H} {r : pv_R} {g : pv_G} {Q : pv_Q} (x : Int32) (hd : 2 ≤ d) (hL : pv_Lay ty r) (F : ((¬ (pf_b (0 ≤ x ∧ x ≤ h 200 55 - 1)) = 0 → vp_in x 200 ∧ (((h 361 (Int32.toNatClampNeg x)) < 0 → vp_in x 200 ∧ (∀ h1 : pv_H, h1 = pv_up h 361 (Int32.toNatClampNeg x) (h 200 32) → vp_in x 200 ∧ Q (some (.int ((h1 200 32) - (h1 359 (Int32.toNatClampNeg x))))) ty h1 r g)) ∧ (¬ (h 361 (Int32.toNatClampNeg x)) < 0 → Q (some (.int (-2))) ty h r g))) ∧ ((pf_b (0 ≤ x ∧ x ≤ h 200 55 - 1)) = 0 → Q (some (.int (-1))) ty h r g))) : pv_E Γ d kc ks mX12_back 0 [some (.ref 200), some (.int x)] [] ty h r g Q := by
  refine pv_aload_n dX12_back_0 rfl ?_
  refine pv_iload_n dX12_back_1 rfl ?_
  refine pv_invV (As := [.int x]) (d' := d - 1) dX12_back_2 moX12_isOpening ml_X12_320 (lt_200 hL) (Or.inl ⟨_, rfl, rfl⟩) (Nat.le_of_ble_eq_true rfl) (by omega) (Nat.zero_le _) (Nat.zero_le _) (ct_X12_isOpening (by omega) hL) (fun v ty' h' r' g' hq => ?_) rfl
  obtain ⟨e1, e2, e3, e4, e5⟩ := hq
  rw [e1, e2, e3, e4, e5]
  refine pv_pc (pc' := 5) rfl ?_
  show pv_E Γ d kc ks mX12_back 5 [some (.ref 200), some (.int x)] [.int (pf_b (0 ≤ x ∧ x ≤ h 200 55 - 1))] ty h r g Q
  refine pv_if_ne (tgt := 10) dX12_back_5 (by decide) (fun c1 => ?_) (fun c1 => ?_)
  · have F := F.1 c1
    refine pv_aload_n dX12_back_10 rfl ?_
    refine pv_getRk 12 61 dX12_back_11 fl_X12_145 rfl (lt_200 hL) (lr_200_61 hL) ?_
    refine pv_iload_n dX12_back_14 rfl ?_
    obtain ⟨q1, F⟩ := F
    refine pv_iald dX12_back_15 (lt_361 hL) q1 ?_
    refine pv_if_lt (tgt := 22) dX12_back_16 (by decide) (fun c2 => ?_) (fun c2 => ?_)
    · have F := F.1 c2
      refine pv_aload_n dX12_back_22 rfl ?_
      refine pv_getRk 12 61 dX12_back_23 fl_X12_145 rfl (lt_200 hL) (lr_200_61 hL) ?_
      refine pv_iload_n dX12_back_26 rfl ?_
      refine pv_aload_n dX12_back_27 rfl ?_
      refine pv_getI 12 32 dX12_back_28 fl_X12_237 rfl (lt_200 hL) ?_
      obtain ⟨q2, F⟩ := F
      obtain ⟨h1, eh1⟩ : ∃ h1 : pv_H, h1 = pv_up h 361 (Int32.toNatClampNeg x) (h 200 32) := ⟨_, rfl⟩
      have F := F h1 eh1
      refine pv_iast dX12_back_31 (lt_361 hL) (by decide) q2 ?_
      refine pv_hE eh1 ?_
      refine pv_aload_n dX12_back_32 rfl ?_
      refine pv_getI 12 32 dX12_back_33 fl_X12_237 rfl (lt_200 hL) ?_
      refine pv_aload_n dX12_back_36 rfl ?_
      refine pv_getRk 12 59 dX12_back_37 fl_X12_139 rfl (lt_200 hL) (lr_200_59 hL) ?_
      refine pv_iload_n dX12_back_40 rfl ?_
      obtain ⟨q3, F⟩ := F
      refine pv_iald dX12_back_41 (lt_359 hL) q3 ?_
      refine pv_isub dX12_back_42 ?_
      exact pv_ireturn dX12_back_43 rfl rfl F
    · have F := F.2 c2
      refine pv_bipush (v := (-2)) (by decide) dX12_back_19 ?_
      exact pv_ireturn dX12_back_21 rfl rfl F
  · have F := F.2 c1
    refine pv_iconst (v := (-1)) (by decide) dX12_back_8 ?_
    exact pv_ireturn dX12_back_9 rfl rfl F
set_option maxRecDepth 20000 in
set_option maxHeartbeats 4000000 in
theorem sg_X11_back_0 {Γ : pv_C} {d kc ks : Nat} {ty : pv_T} {h : pv_H} {r : pv_R} {g : pv_G} {Q : pv_Q} (x : Int32) (hd : 1 ≤ d) (hL : pv_Lay ty r) (F : pv_CT Γ (d - 1) 0 0 mX11_findOpening [.ref 100, .int x] ty h r g (fun (v1 : Option Value) (ty1 : pv_T) (h1 : pv_H) (r1 : pv_R) (g1 : pv_G) => ∃ w1 : Nat, v1 = some (.ref w1) ∧ pv_Lay ty1 r1 ∧ ((¬ w1 = 0 → ty1 w1 = some (6, 0) ∧ (ty1 w1 = some (6, 0)) ∧ ((¬ (pf_b (h1 w1 5 = -1)) = 0 → ty1 w1 = some (6, 0) ∧ (∀ h2 : pv_H, h2 = pv_up h1 w1 5 (h1 100 9) → ty1 w1 = some (6, 0) ∧ Q (some (.int ((h2 100 9) - (h2 w1 3)))) ty1 h2 r1 g1)) ∧ ((pf_b (h1 w1 5 = -1)) = 0 → Q (some (.int (-2))) ty1 h1 r1 g1))) ∧ (w1 = 0 → Q (some (.int (-1))) ty1 h1 r1 g1)))) : pv_E Γ d kc ks mX11_back 0 [some (.ref 100), some (.int x), none] [] ty h r g Q := by
  refine pv_aload_n dX11_back_0 rfl ?_
  refine pv_iload_n dX11_back_1 rfl ?_
  refine pv_invV (As := [.int x]) (d' := d - 1) dX11_back_2 moX11_findOpening ml_X11_249 (lt_100 hL) (Or.inl ⟨_, rfl, rfl⟩) (Nat.le_of_ble_eq_true rfl) (by omega) (Nat.zero_le _) (Nat.zero_le _) F (fun v1 ty1 h1 r1 g1 F => ?_) rfl
  obtain ⟨w1, rfl, F⟩ := F
  obtain ⟨hL1, F⟩ := F
  refine pv_pc (pc' := 5) rfl ?_
  show pv_E Γ d kc ks mX11_back 5 [some (.ref 100), some (.int x), none] [.ref w1] ty1 h1 r1 g1 Q
  refine pv_astore_n (ls' := [some (.ref 100), some (.int x), some (.ref w1)]) dX11_back_5 (by decide) rfl rfl ?_
  refine pv_aload_n dX11_back_6 rfl ?_
  refine pv_ifnonnull (tgt := 12) dX11_back_7 (by decide) (fun c1 => ?_) (fun c1 => ?_)
  · have F := F.1 c1
    refine pv_aload_n dX11_back_12 rfl ?_
    obtain ⟨q1, F⟩ := F
    obtain ⟨q2, F⟩ := F
    refine pv_invV (As := []) (d' := d - 1) dX11_back_13 moX6_isOpen ml_X11_253 q1 (Or.inl ⟨_, rfl, rfl⟩) (Nat.le_of_ble_eq_true rfl) (by omega) (Nat.zero_le _) (Nat.zero_le _) (ct_X6_isOpen (by omega) q2) (fun v ty' h' r' g' hq => ?_) rfl
    obtain ⟨e1, e2, e3, e4, e5⟩ := hq
    rw [e1, e2, e3, e4, e5]
    refine pv_pc (pc' := 16) rfl ?_
    show pv_E Γ d kc ks mX11_back 16 [some (.ref 100), some (.int x), some (.ref w1)] [.int (pf_b (h1 w1 5 = -1))] ty1 h1 r1 g1 Q
    refine pv_if_ne (tgt := 22) dX11_back_16 (by decide) (fun c2 => ?_) (fun c2 => ?_)
    · have F := F.1 c2
      refine pv_aload_n dX11_back_22 rfl ?_
      refine pv_aload_n dX11_back_23 rfl ?_
      refine pv_getI 11 9 dX11_back_24 fl_X11_186 rfl (lt_100 hL1) ?_
      obtain ⟨q3, F⟩ := F
      obtain ⟨h2, eh2⟩ : ∃ h2 : pv_H, h2 = pv_up h1 w1 5 (h1 100 9) := ⟨_, rfl⟩
      have F := F h2 eh2
      refine pv_putI 6 5 dX11_back_27 fl_X11_256 ⟨_, rfl, Or.inl rfl⟩ (Or.inl rfl) q3 ?_
      refine pv_hE eh2 ?_
      refine pv_aload_n dX11_back_30 rfl ?_
      refine pv_getI 11 9 dX11_back_31 fl_X11_186 rfl (lt_100 hL1) ?_
      refine pv_aload_n dX11_back_34 rfl ?_
      obtain ⟨q4, F⟩ := F
      refine pv_getI 6 3 dX11_back_35 fl_X11_259 rfl q4 ?_
      refine pv_isub dX11_back_38 ?_
      exact pv_ireturn dX11_back_39 rfl rfl F
    · have F := F.2 c2
      refine pv_bipush (v := (-2)) (by decide) dX11_back_19 ?_
      exact pv_ireturn dX11_back_21 rfl rfl F
  · have F := F.2 c1
    refine pv_iconst (v := (-1)) (by decide) dX11_back_10 ?_
    exact pv_ireturn dX11_back_11 rfl rfl F
set_option maxRecDepth 20000 in
set_option maxHeartbeats 4000000 in
theorem sg_X12_opening_0 {Γ : pv_C} {d kc ks : Nat} {ty : pv_T} {h : pv_H} {r : pv_R} {g : pv_G} {Q : pv_Q} (x : Int32) (y : Int32) (hd : 2 ≤ d) (hL : pv_Lay ty r) (F : ((¬ (pf_b (0 ≤ x ∧ x ≤ h 200 55 - 1)) = 0 → ((y = 0 → vp_in x 200 ∧ Q (some (.int (h 356 (Int32.toNatClampNeg x)))) ty h r g) ∧ (y = 1 → vp_in x 200 ∧ Q (some (.int (h 357 (Int32.toNatClampNeg x)))) ty h r g) ∧ (y = 2 → vp_in x 200 ∧ Q (some (.int (h 358 (Int32.toNatClampNeg x)))) ty h r g) ∧ (y = 3 → vp_in x 200 ∧ Q (some (.int (h 359 (Int32.toNatClampNeg x)))) ty h r g) ∧ (y = 4 → vp_in x 200 ∧ Q (some (.int (h 360 (Int32.toNatClampNeg x)))) ty h r g) ∧ (y = 5 → vp_in x 200 ∧ Q (some (.int (h 361 (Int32.toNatClampNeg x)))) ty h r g) ∧ (¬ y = 0 → ¬ y = 1 → ¬ y = 2 → ¬ y = 3 → ¬ y = 4 → ¬ y = 5 → Q (some (.int (-2))) ty h r g))) ∧ ((pf_b (0 ≤ x ∧ x ≤ h 200 55 - 1)) = 0 → Q (some (.int (-2))) ty h r g))) : pv_E Γ d kc ks mX12_opening 0 [some (.ref 200), some (.int x), some (.int y)] [] ty h r g Q := by
  refine pv_aload_n dX12_opening_0 rfl ?_
  refine pv_iload_n dX12_opening_1 rfl ?_
  refine pv_invV (As := [.int x]) (d' := d - 1) dX12_opening_2 moX12_isOpening ml_X12_320 (lt_200 hL) (Or.inl ⟨_, rfl, rfl⟩) (Nat.le_of_ble_eq_true rfl) (by omega) (Nat.zero_le _) (Nat.zero_le _) (ct_X12_isOpening (by omega) hL) (fun v ty' h' r' g' hq => ?_) rfl
  obtain ⟨e1, e2, e3, e4, e5⟩ := hq
  rw [e1, e2, e3, e4, e5]
  refine pv_pc (pc' := 5) rfl ?_
  show pv_E Γ d kc ks mX12_opening 5 [some (.ref 200), some (.int x), some (.int y)] [.int (pf_b (0 ≤ x ∧ x ≤ h 200 55 - 1))] ty h r g Q
  refine pv_if_ne (tgt := 11) dX12_opening_5 (by decide) (fun c1 => ?_) (fun c1 => ?_)
  · have F := F.1 c1
    refine pv_iload_n dX12_opening_11 rfl ?_
    by_cases c2_0 : y = 0
    · refine pv_tableIn (tgt := 52) dX12_opening_12 (by rw [c2_0]; decide) (by rw [c2_0]; decide) (by rw [c2_0]; rfl) (by decide) ?_
      have F := F.1 c2_0
      refine pv_aload_n dX12_opening_52 rfl ?_
      refine pv_getRk 12 56 dX12_opening_53 fl_X12_130 rfl (lt_200 hL) (lr_200_56 hL) ?_
      refine pv_iload_n dX12_opening_56 rfl ?_
      obtain ⟨q1, F⟩ := F
      refine pv_iald dX12_opening_57 (lt_356 hL) q1 ?_
      exact pv_ireturn dX12_opening_58 rfl rfl F
    · skip
      by_cases c2_1 : y = 1
      · refine pv_tableIn (tgt := 59) dX12_opening_12 (by rw [c2_1]; decide) (by rw [c2_1]; decide) (by rw [c2_1]; rfl) (by decide) ?_
        have F := F.2.1 c2_1
        refine pv_aload_n dX12_opening_59 rfl ?_
        refine pv_getRk 12 57 dX12_opening_60 fl_X12_133 rfl (lt_200 hL) (lr_200_57 hL) ?_
        refine pv_iload_n dX12_opening_63 rfl ?_
        obtain ⟨q2, F⟩ := F
        refine pv_iald dX12_opening_64 (lt_357 hL) q2 ?_
        exact pv_ireturn dX12_opening_65 rfl rfl F
      · skip
        by_cases c2_2 : y = 2
        · refine pv_tableIn (tgt := 66) dX12_opening_12 (by rw [c2_2]; decide) (by rw [c2_2]; decide) (by rw [c2_2]; rfl) (by decide) ?_
          have F := F.2.2.1 c2_2
          refine pv_aload_n dX12_opening_66 rfl ?_
          refine pv_getRk 12 58 dX12_opening_67 fl_X12_136 rfl (lt_200 hL) (lr_200_58 hL) ?_
          refine pv_iload_n dX12_opening_70 rfl ?_
          obtain ⟨q3, F⟩ := F
          refine pv_iald dX12_opening_71 (lt_358 hL) q3 ?_
          exact pv_ireturn dX12_opening_72 rfl rfl F
        · skip
          by_cases c2_3 : y = 3
          · refine pv_tableIn (tgt := 73) dX12_opening_12 (by rw [c2_3]; decide) (by rw [c2_3]; decide) (by rw [c2_3]; rfl) (by decide) ?_
            have F := F.2.2.2.1 c2_3
            refine pv_aload_n dX12_opening_73 rfl ?_
            refine pv_getRk 12 59 dX12_opening_74 fl_X12_139 rfl (lt_200 hL) (lr_200_59 hL) ?_
            refine pv_iload_n dX12_opening_77 rfl ?_
            obtain ⟨q4, F⟩ := F
            refine pv_iald dX12_opening_78 (lt_359 hL) q4 ?_
            exact pv_ireturn dX12_opening_79 rfl rfl F
          · skip
            by_cases c2_4 : y = 4
            · refine pv_tableIn (tgt := 80) dX12_opening_12 (by rw [c2_4]; decide) (by rw [c2_4]; decide) (by rw [c2_4]; rfl) (by decide) ?_
              have F := F.2.2.2.2.1 c2_4
              refine pv_aload_n dX12_opening_80 rfl ?_
              refine pv_getRk 12 60 dX12_opening_81 fl_X12_142 rfl (lt_200 hL) (lr_200_60 hL) ?_
              refine pv_iload_n dX12_opening_84 rfl ?_
              obtain ⟨q5, F⟩ := F
              refine pv_iald dX12_opening_85 (lt_360 hL) q5 ?_
              exact pv_ireturn dX12_opening_86 rfl rfl F
            · skip
              by_cases c2_5 : y = 5
              · refine pv_tableIn (tgt := 87) dX12_opening_12 (by rw [c2_5]; decide) (by rw [c2_5]; decide) (by rw [c2_5]; rfl) (by decide) ?_
                have F := F.2.2.2.2.2.1 c2_5
                refine pv_aload_n dX12_opening_87 rfl ?_
                refine pv_getRk 12 61 dX12_opening_88 fl_X12_145 rfl (lt_200 hL) (lr_200_61 hL) ?_
                refine pv_iload_n dX12_opening_91 rfl ?_
                obtain ⟨q6, F⟩ := F
                refine pv_iald dX12_opening_92 (lt_361 hL) q6 ?_
                exact pv_ireturn dX12_opening_93 rfl rfl F
              · skip
                refine pv_tableOut (tgt := 94) dX12_opening_12 (by have z0 := pv_ne c2_0 (n := 0) (by decide); have z1 := pv_ne c2_1 (n := 1) (by decide); have z2 := pv_ne c2_2 (n := 2) (by decide); have z3 := pv_ne c2_3 (n := 3) (by decide); have z4 := pv_ne c2_4 (n := 4) (by decide); have z5 := pv_ne c2_5 (n := 5) (by decide); omega) (by decide) ?_
                have F := F.2.2.2.2.2.2 c2_0 c2_1 c2_2 c2_3 c2_4 c2_5
                refine pv_bipush (v := (-2)) (by decide) dX12_opening_94 ?_
                exact pv_ireturn dX12_opening_96 rfl rfl F
  · have F := F.2 c1
    refine pv_bipush (v := (-2)) (by decide) dX12_opening_8 ?_
    exact pv_ireturn dX12_opening_10 rfl rfl F
set_option maxRecDepth 20000 in
set_option maxHeartbeats 4000000 in
theorem sg_X11_opening_0 {Γ : pv_C} {d kc ks : Nat} {ty : pv_T} {h : pv_H} {r : pv_R} {g : pv_G} {Q : pv_Q} (x : Int32) (y : Int32) (hd : 1 ≤ d) (hL : pv_Lay ty r) (F : pv_CT Γ (d - 1) 0 0 mX11_findOpening [.ref 100, .int x] ty h r g (fun (v1 : Option Value) (ty1 : pv_T) (h1 : pv_H) (r1 : pv_R) (g1 : pv_G) => ∃ w1 : Nat, v1 = some (.ref w1) ∧ pv_Lay ty1 r1 ∧ ((¬ w1 = 0 → ((y = 0 → ty1 w1 = some (6, 0) ∧ Q (some (.int (h1 w1 0))) ty1 h1 r1 g1) ∧ (y = 1 → ty1 w1 = some (6, 0) ∧ Q (some (.int (h1 w1 1))) ty1 h1 r1 g1) ∧ (y = 2 → ty1 w1 = some (6, 0) ∧ Q (some (.int (h1 w1 2))) ty1 h1 r1 g1) ∧ (y = 3 → ty1 w1 = some (6, 0) ∧ Q (some (.int (h1 w1 3))) ty1 h1 r1 g1) ∧ (y = 4 → ty1 w1 = some (6, 0) ∧ Q (some (.int (h1 w1 4))) ty1 h1 r1 g1) ∧ (y = 5 → ty1 w1 = some (6, 0) ∧ Q (some (.int (h1 w1 5))) ty1 h1 r1 g1) ∧ (¬ y = 0 → ¬ y = 1 → ¬ y = 2 → ¬ y = 3 → ¬ y = 4 → ¬ y = 5 → Q (some (.int (-2))) ty1 h1 r1 g1))) ∧ (w1 = 0 → Q (some (.int (-2))) ty1 h1 r1 g1)))) : pv_E Γ d kc ks mX11_opening 0 [some (.ref 100), some (.int x), some (.int y), none] [] ty h r g Q := by
  refine pv_aload_n dX11_opening_0 rfl ?_
  refine pv_iload_n dX11_opening_1 rfl ?_
  refine pv_invV (As := [.int x]) (d' := d - 1) dX11_opening_2 moX11_findOpening ml_X11_249 (lt_100 hL) (Or.inl ⟨_, rfl, rfl⟩) (Nat.le_of_ble_eq_true rfl) (by omega) (Nat.zero_le _) (Nat.zero_le _) F (fun v1 ty1 h1 r1 g1 F => ?_) rfl
  obtain ⟨w1, rfl, F⟩ := F
  obtain ⟨hL1, F⟩ := F
  refine pv_pc (pc' := 5) rfl ?_
  show pv_E Γ d kc ks mX11_opening 5 [some (.ref 100), some (.int x), some (.int y), none] [.ref w1] ty1 h1 r1 g1 Q
  refine pv_astore_n (ls' := [some (.ref 100), some (.int x), some (.int y), some (.ref w1)]) dX11_opening_5 (by decide) rfl rfl ?_
  refine pv_aload_n dX11_opening_6 rfl ?_
  refine pv_ifnonnull (tgt := 13) dX11_opening_7 (by decide) (fun c1 => ?_) (fun c1 => ?_)
  · have F := F.1 c1
    refine pv_iload_n dX11_opening_13 rfl ?_
    by_cases c2_0 : y = 0
    · refine pv_tableIn (tgt := 52) dX11_opening_14 (by rw [c2_0]; decide) (by rw [c2_0]; decide) (by rw [c2_0]; rfl) (by decide) ?_
      have F := F.1 c2_0
      refine pv_aload_n dX11_opening_52 rfl ?_
      obtain ⟨q1, F⟩ := F
      refine pv_getI 6 0 dX11_opening_53 fl_X11_262 rfl q1 ?_
      exact pv_ireturn dX11_opening_56 rfl rfl F
    · skip
      by_cases c2_1 : y = 1
      · refine pv_tableIn (tgt := 57) dX11_opening_14 (by rw [c2_1]; decide) (by rw [c2_1]; decide) (by rw [c2_1]; rfl) (by decide) ?_
        have F := F.2.1 c2_1
        refine pv_aload_n dX11_opening_57 rfl ?_
        obtain ⟨q2, F⟩ := F
        refine pv_getI 6 1 dX11_opening_58 fl_X11_275 rfl q2 ?_
        exact pv_ireturn dX11_opening_61 rfl rfl F
      · skip
        by_cases c2_2 : y = 2
        · refine pv_tableIn (tgt := 62) dX11_opening_14 (by rw [c2_2]; decide) (by rw [c2_2]; decide) (by rw [c2_2]; rfl) (by decide) ?_
          have F := F.2.2.1 c2_2
          refine pv_aload_n dX11_opening_62 rfl ?_
          obtain ⟨q3, F⟩ := F
          refine pv_getI 6 2 dX11_opening_63 fl_X11_278 rfl q3 ?_
          exact pv_ireturn dX11_opening_66 rfl rfl F
        · skip
          by_cases c2_3 : y = 3
          · refine pv_tableIn (tgt := 67) dX11_opening_14 (by rw [c2_3]; decide) (by rw [c2_3]; decide) (by rw [c2_3]; rfl) (by decide) ?_
            have F := F.2.2.2.1 c2_3
            refine pv_aload_n dX11_opening_67 rfl ?_
            obtain ⟨q4, F⟩ := F
            refine pv_getI 6 3 dX11_opening_68 fl_X11_259 rfl q4 ?_
            exact pv_ireturn dX11_opening_71 rfl rfl F
          · skip
            by_cases c2_4 : y = 4
            · refine pv_tableIn (tgt := 72) dX11_opening_14 (by rw [c2_4]; decide) (by rw [c2_4]; decide) (by rw [c2_4]; rfl) (by decide) ?_
              have F := F.2.2.2.2.1 c2_4
              refine pv_aload_n dX11_opening_72 rfl ?_
              obtain ⟨q5, F⟩ := F
              refine pv_getI 6 4 dX11_opening_73 fl_X11_281 rfl q5 ?_
              exact pv_ireturn dX11_opening_76 rfl rfl F
            · skip
              by_cases c2_5 : y = 5
              · refine pv_tableIn (tgt := 77) dX11_opening_14 (by rw [c2_5]; decide) (by rw [c2_5]; decide) (by rw [c2_5]; rfl) (by decide) ?_
                have F := F.2.2.2.2.2.1 c2_5
                refine pv_aload_n dX11_opening_77 rfl ?_
                obtain ⟨q6, F⟩ := F
                refine pv_getI 6 5 dX11_opening_78 fl_X11_256 rfl q6 ?_
                exact pv_ireturn dX11_opening_81 rfl rfl F
              · skip
                refine pv_tableOut (tgt := 82) dX11_opening_14 (by have z0 := pv_ne c2_0 (n := 0) (by decide); have z1 := pv_ne c2_1 (n := 1) (by decide); have z2 := pv_ne c2_2 (n := 2) (by decide); have z3 := pv_ne c2_3 (n := 3) (by decide); have z4 := pv_ne c2_4 (n := 4) (by decide); have z5 := pv_ne c2_5 (n := 5) (by decide); omega) (by decide) ?_
                have F := F.2.2.2.2.2.2 c2_0 c2_1 c2_2 c2_3 c2_4 c2_5
                refine pv_bipush (v := (-2)) (by decide) dX11_opening_82 ?_
                exact pv_ireturn dX11_opening_84 rfl rfl F
  · have F := F.2 c1
    refine pv_bipush (v := (-2)) (by decide) dX11_opening_10 ?_
    exact pv_ireturn dX11_opening_12 rfl rfl F
/-- the first opening that is open at a square, from k on -/
abbrev on_P (h : pv_H) (x y : Int32) (i : Nat) : Prop := h 357 i = x ∧ h 358 i = y ∧ h 361 i = -1
def on_f (h : pv_H) (x y : Int32) : Nat → Nat → Option Nat
  | 0, _ => none
  | m + 1, k => if on_P h x y k then some k else on_f h x y m (k + 1)
theorem on_f_s {h : pv_H} {x y : Int32} : ∀ {m k i : Nat}, on_f h x y m k = some i → k ≤ i ∧ i < k + m ∧ on_P h x y i
  | 0, _, _, e => by cases e
  | m + 1, k, i, e => by
    unfold on_f at e
    by_cases q : on_P h x y k
    · rw [if_pos q] at e; cases e; exact ⟨Nat.le_refl _, by omega, q⟩
    · rw [if_neg q] at e
      obtain ⟨a1, a2, a3⟩ := on_f_s e
      exact ⟨by omega, by omega, a3⟩
theorem on_f_n {h : pv_H} {x y : Int32} : ∀ {m k : Nat}, on_f h x y m k = none → ∀ i, k ≤ i → i < k + m → ¬ on_P h x y i
  | 0, k, _, i, h1, h2 => absurd h2 (by omega)
  | m + 1, k, e, i, h1, h2 => by
    unfold on_f at e
    by_cases q : on_P h x y k
    · rw [if_pos q] at e; cases e
    · rw [if_neg q] at e
      by_cases z : i = k
      · rw [z]; exact q
      · exact on_f_n e i (by omega) (by omega)
/-- the last that was put back there -/
def lb_v (h : pv_H) : Option Nat → Int32
  | none => -1
  | some b => h 361 b
def lb_f (h : pv_H) (x y : Int32) : Nat → Option Nat
  | 0 => none
  | n + 1 => if (h 357 n = x ∧ h 358 n = y) ∧ ¬ h 361 n = -1 ∧ ¬ h 361 n < lb_v h (lb_f h x y n) then some n else lb_f h x y n
theorem lb_lt {h : pv_H} {x y : Int32} : ∀ {n i : Nat}, lb_f h x y n = some i → i < n
  | 0, _, e => by cases e
  | n + 1, i, e => by
    unfold lb_f at e
    split at e
    · cases e; exact Nat.lt_succ_self _
    · exact Nat.lt_succ_of_lt (lb_lt e)
section OB
variable {Γ : pv_C} {d kc ks : Nat} {ty : pv_T} {h : pv_H} {r : pv_R} {g : pv_G} {Q : pv_Q} {no ns : Nat} {x y : Int32}
theorem ct_findO (hL : pv_Lay ty r) (hO : cpO ty h r no) {K : pv_Q} (hf : ¬ (0 ≤ x ∧ x ≤ h 200 55 - 1) → K (some (.ref 0)) ty h r g) (ht : ∀ i, i < no → x = nI i → K (some (.ref (oA i))) ty h r g) : pv_CT Γ d 0 0 mX11_findOpening [.ref 100, .int x] ty h r g K := by
  obtain ⟨⟨h2, h3, h4⟩, hc⟩ := hO
  rw [h3, ni_valid (by omega)] at hf
  refine pv_fn 0 pn_X11 rfl (Nat.le_of_ble_eq_true rfl) (sg_X11_findOpening_0 x hL ⟨fun c => hf (fun ⟨s, _, e⟩ => ?_), fun c => ?_⟩)
  · rw [e] at c; exact absurd c (nI_pos (by omega))
  · obtain ⟨i, hi, rfl⟩ := nI_of c
    refine pk_le no i (fun c2 => hf (fun ⟨s, hs, e⟩ => ?_)) (fun c2 => ?_) h4
    · have := (nI_eq (by omega) (by omega)).mp e
      omega
    · rw [nI_clamp (by omega), (hc i c2).1]
      exact ⟨vp_in_nI (by omega) (by decide), ht i c2 rfl⟩
theorem oA_ne (i : Nat) : ¬ oA i = 0 := by unfold oA; omega
theorem op_b {i : Nat} (hc : op_ok h i) : 0 ≤ h 361 i ↔ ¬ h 361 i = -1 := by
  rcases hc.2.2.2 with e | e
  · rw [e]; decide
  · exact ⟨fun _ q => by rw [q] at e; exact absurd e.1 (by decide), fun _ => e.1⟩
theorem on_m2 (hL : pv_Lay ty r) (h55 : h 200 55 = nI no) (hn : no ≤ 200) (hc : ∀ i, i < no → op_ok h i) (hQ : Q (some (.int (fo_i (-2) (on_f h x y no 0)))) ty h r g) : ∀ (m k : Nat), k + m = no → on_f h x y m k = on_f h x y no 0 → pv_E Γ d kc ks mX12_openNow 2 [some (.ref 200), some (.int x), some (.int y), some (.int (nI k))] [] ty h r g Q := by
  intro m
  induction m with
  | zero =>
    intro k hk e
    rw [← e] at hQ
    exact sg_X12_openNow_2 _ _ _ hL (pk_le no k (fun _ => hQ) (fun c => absurd c (by omega)) h55)
  | succ m ih =>
    intro k hk e
    have hu : on_f h x y (m + 1) k = if on_P h x y k then some k else on_f h x y m (k + 1) := rfl
    rw [hu] at e
    have hi : vp_in (nI k) 200 := vp_in_nI (by omega) (by decide)
    have nx : ¬ on_P h x y k → pv_E Γ d kc ks mX12_openNow 2 [some (.ref 200), some (.int x), some (.int y), some (.int (nI k + 1))] [] ty h r g Q := fun q => by
      rw [if_neg q] at e
      rw [nI_1]
      exact ih (k + 1) (by omega) e
    refine sg_X12_openNow_2 _ _ _ hL (pk_le no k (fun c => absurd c (by omega)) (fun _ => ⟨hi, ?_⟩) h55)
    rw [nI_clamp (by omega)]
    refine ⟨fun c1 => nx (fun q => c1 q.1), fun c1 => ⟨hi, fun c2 => nx (fun q => c2 q.2.1), fun c2 => ⟨hi, fun c3 => nx (fun q => (op_b (hc k (by omega))).mp c3 q.2.2), fun c3 => ?_⟩⟩⟩
    have c4 : h 361 k = -1 := Classical.not_not.mp (fun q => c3 ((op_b (hc k (by omega))).mpr q))
    rw [if_pos ⟨c1, c2, c4⟩] at e
    rw [← e] at hQ
    exact hQ
theorem ct_X12_openNow (hL : pv_Lay ty r) (hO : cpO ty h r no) : pv_CJ Γ d mX12_openNow [.ref 200, .int x, .int y] ty h r g (fun w h' => w = fo_i (-2) (on_f h x y no 0) ∧ h' = h) :=
  pv_fn 1 pn_X12 rfl (Nat.le_of_ble_eq_true rfl) (sg_X12_openNow_0 _ _ (on_m2 hL hO.1.2.1 hO.1.1 (fun i hi => (hO.2 i hi).2.2.2) (pv_jqi ⟨rfl, rfl⟩) no 0 (Nat.zero_add _) rfl))
theorem on_c2 (hd : 1 ≤ d) (hL : pv_Lay ty r) (hO : cpO ty h r no) (hQ : Q (some (.int (fo_i (-1) (on_f h x y no 0)))) ty h r g) : ∀ (m k : Nat), k + m = no → on_f h x y m k = on_f h x y no 0 → pv_E Γ d kc ks mX11_openNowAt 2 [some (.ref 100), some (.int x), some (.int y), some (.int (nI k)), none] [] ty h r g Q := by
  have hn := hO.1.1
  intro m
  induction m with
  | zero =>
    intro k hk e
    rw [← e] at hQ
    exact sg_X11_openNowAt_2 _ _ _ hd hL (pk_le no k (fun _ => hQ) (fun c => absurd c (by omega)) hO.1.2.2)
  | succ m ih =>
    intro k hk e
    have hu : on_f h x y (m + 1) k = if on_P h x y k then some k else on_f h x y m (k + 1) := rfl
    rw [hu] at e
    obtain ⟨a1, a2, a3, -⟩ := hO.2 k (by omega)
    have nx : ¬ on_P h x y k → pv_E Γ d kc ks mX11_openNowAt 2 [some (.ref 100), some (.int x), some (.int y), some (.int (nI k + 1)), none] [] ty h r g Q := fun q => by
      rw [if_neg q] at e
      rw [nI_1]
      exact ih (k + 1) (by omega) e
    refine sg_X11_openNowAt_2 _ _ _ hd hL (pk_le no k (fun c => absurd c (by omega)) (fun _ => ⟨vp_in_nI (by omega) (by decide), ?_⟩) hO.1.2.2)
    rw [nI_clamp (by omega), a1, a3 1 (by decide), a3 2 (by decide), a3 5 (by decide)]
    refine ⟨fun q => absurd q (oA_ne k), fun _ => ⟨a2, a2, pk_b (fun c1 => ⟨a2, a2, pk_b (fun c2 => ?_) (fun c2 => nx (fun q => c2 q.2.2))⟩) (fun c1 => nx (fun q => c1 ⟨q.1, q.2.1⟩))⟩⟩
    rw [if_pos ⟨c1.1, c1.2, c2⟩] at e
    rw [← e] at hQ
    exact hQ
theorem ct_X11_openNow (hd : 1 ≤ d) (hL : pv_Lay ty r) (hO : cpO ty h r no) : pv_CJ Γ d mX11_openNowAt [.ref 100, .int x, .int y] ty h r g (fun w h' => w = fo_i (-1) (on_f h x y no 0) ∧ h' = h) :=
  pv_fn 2 pn_X11 rfl (Nat.le_of_ble_eq_true rfl) (sg_X11_openNowAt_0 _ _ (on_c2 hd hL hO (pv_jqi ⟨rfl, rfl⟩) no 0 (Nat.zero_add _) rfl))
theorem lb_c8 (hd : 1 ≤ d) (hL : pv_Lay ty r) (hO : cpO ty h r no) (hQ : Q (some (.int (fo_i (-1) (lb_f h x y no)))) ty h r g) : ∀ (m k : Nat), k + m = no → pv_E Γ d kc ks mX11_lastPutBackAt 8 [some (.ref 100), some (.int x), some (.int y), some (.int (fo_i (-1) (lb_f h x y k))), some (.int (lb_v h (lb_f h x y k))), some (.int (nI k)), none] [] ty h r g Q := by
  have hn := hO.1.1
  intro m
  induction m with
  | zero =>
    intro k hk
    rw [show k = no by omega]
    exact sg_X11_lastPutBackAt_8 _ _ _ _ _ hd hL (pk_le no no (fun _ => hQ) (fun c => absurd c (by omega)) hO.1.2.2)
  | succ m ih =>
    intro k hk
    have hi' := ih (k + 1) (by omega)
    have hu : lb_f h x y (k + 1) = if (h 357 k = x ∧ h 358 k = y) ∧ ¬ h 361 k = -1 ∧ ¬ h 361 k < lb_v h (lb_f h x y k) then some k else lb_f h x y k := rfl
    rw [hu] at hi'
    obtain ⟨a1, a2, a3, -⟩ := hO.2 k (by omega)
    refine sg_X11_lastPutBackAt_8 _ _ _ _ _ hd hL (pk_le no k (fun c => absurd c (by omega)) (fun _ => ⟨vp_in_nI (by omega) (by decide), ?_⟩) hO.1.2.2)
    rw [nI_clamp (by omega), a1, a3 1 (by decide), a3 2 (by decide), a3 5 (by decide), nI_1]
    refine ⟨fun q => absurd q (oA_ne k), fun _ => ⟨a2, a2, pk_b (fun c1 => ⟨a2, a2, pj_b (fun c2 => ?_) (fun c2 => ⟨a2, fun c3 => ?_, fun c3 => ⟨a2, ?_⟩⟩)⟩) (fun c1 => ?_)⟩⟩
    · rw [if_neg (fun q => q.2.1 c2)] at hi'; exact hi'
    · rw [if_neg (fun q => q.2.2 c3)] at hi'; exact hi'
    · rw [if_pos ⟨c1, c2, c3⟩] at hi'; exact hi'
    · rw [if_neg (fun q => c1 q.1)] at hi'; exact hi'
theorem ct_X11_last (hd : 1 ≤ d) (hL : pv_Lay ty r) (hO : cpO ty h r no) : pv_CJ Γ d mX11_lastPutBackAt [.ref 100, .int x, .int y] ty h r g (fun w h' => w = fo_i (-1) (lb_f h x y no) ∧ h' = h) :=
  pv_fn 4 pn_X11 rfl (Nat.le_of_ble_eq_true rfl) (sg_X11_lastPutBackAt_0 _ _ (lb_c8 hd hL hO (pv_jqi ⟨rfl, rfl⟩) no 0 (Nat.zero_add _)))
def fn_sink (h : pv_H) (no : Nat) (x y : Int32) : Int32 := if fo_at h x y then (match on_f h x y no 0 with | some i => nI i | none => fo_i (-2) (lb_f h x y no)) else -1
theorem ct_X11_sink (hd : 3 ≤ d) (hL : pv_Lay ty r) (hS : cpS ty h r ns) (hO : cpO ty h r no) : pv_CJ Γ d mX11_sink [.ref 100, .int x, .int y] ty h r g (fun w h' => w = fn_sink h no x y ∧ h' = h) := by
  have hn := hO.1.1
  refine pv_fn 2 pn_X11 rfl (Nat.le_of_ble_eq_true rfl) (sg_X11_sink_0 _ _ (by omega) hL ⟨⟨ns, hS⟩, pj_b (fun c1 => pv_CJ.mono (ct_X11_openNow (by omega) hL hO) (fun w h1 q => ?_)) (fun c1 => pv_jqi ⟨?_, rfl⟩)⟩)
  · obtain ⟨rfl, rfl⟩ := q
    unfold fn_sink
    rw [if_pos c1]
    cases hf : on_f h1 x y no 0 with
    | some i =>
      have hi := (on_f_s hf).2.1
      exact ⟨fun q => absurd q (ni_n1 (by omega)), fun z => ⟨fun _ => pv_jqi ⟨rfl, rfl⟩, fun q => absurd q z⟩⟩
    | none =>
      refine ⟨fun _ => pv_CJ.mono (ct_X11_last (by omega) hL hO) (fun w h2 q => ?_), fun q => absurd rfl q⟩
      obtain ⟨rfl, rfl⟩ := q
      cases hb : lb_f h2 x y no with
      | none => exact ⟨fun q => absurd rfl q, fun _ => pv_jqi ⟨rfl, rfl⟩⟩
      | some i =>
        have hi := lb_lt hb
        exact ⟨fun _ => pv_jqi ⟨rfl, rfl⟩, fun q => absurd q (ni_n1 (by omega))⟩
  · unfold fn_sink
    rw [if_neg c1]
theorem lb_m27 (hL : pv_Lay ty r) (hO : cpO ty h r no) (hno : ∀ i, i < no → ¬ on_P h x y i) (hQ : Q (some (.int (fo_i (-2) (lb_f h x y no)))) ty h r g) : ∀ (m k : Nat), k + m = no → pv_E Γ d kc ks mX12_sink 27 [some (.ref 200), some (.int x), some (.int y), some (.int (fo_i (-2) (lb_f h x y k))), some (.int (nI k))] [] ty h r g Q := by
  have hn := hO.1.1
  intro m
  induction m with
  | zero =>
    intro k hk
    rw [show k = no by omega]
    exact sg_X12_sink_27 _ _ _ _ hL (pk_le no no (fun _ => hQ) (fun c => absurd c (by omega)) hO.1.2.1)
  | succ m ih =>
    intro k hk
    have hi' := ih (k + 1) (by omega)
    have hu : lb_f h x y (k + 1) = if (h 357 k = x ∧ h 358 k = y) ∧ ¬ h 361 k = -1 ∧ ¬ h 361 k < lb_v h (lb_f h x y k) then some k else lb_f h x y k := rfl
    rw [hu] at hi'
    have hi : vp_in (nI k) 200 := vp_in_nI (by omega) (by decide)
    have hok := (hO.2 k (by omega)).2.2.2
    refine sg_X12_sink_27 _ _ _ _ hL (pk_le no k (fun c => absurd c (by omega)) (fun _ => ⟨hi, ?_⟩) hO.1.2.1)
    rw [nI_clamp (by omega), nI_1]
    refine ⟨fun c1 => ?_, fun c1 => ⟨hi, fun c2 => ?_, fun c2 => ?_⟩⟩
    · rw [if_neg (fun q => c1 q.1.1)] at hi'; exact hi'
    · rw [if_neg (fun q => c2 q.1.2)] at hi'; exact hi'
    · have c3 : ¬ h 361 k = -1 := fun q => hno k (by omega) ⟨c1, c2, q⟩
      have c4 : 0 ≤ h 361 k := (op_b hok).mpr c3
      cases hb : lb_f h x y k with
      | none =>
        rw [hb] at hi'
        refine ⟨fun _ => ?_, fun q => absurd (by decide) q⟩
        rw [if_pos ⟨⟨c1, c2⟩, c3, by show ¬ h 361 k < -1; grind⟩] at hi'
        exact hi'
      | some b =>
        rw [hb] at hi'
        have hlt := lb_lt hb
        refine ⟨fun q => absurd q (nI_pos (by omega)), fun _ => ⟨hi, vp_in_nI (by omega) (by decide), ?_⟩⟩
        show ((h 361 k < h 361 (nI b).toNatClampNeg → _) ∧ (¬ h 361 k < h 361 (nI b).toNatClampNeg → _))
        rw [nI_clamp (by omega)]
        refine ⟨fun q => ?_, fun q => ?_⟩
        · rw [if_neg (fun z => z.2.2 q)] at hi'; exact hi'
        · rw [if_pos ⟨⟨c1, c2⟩, c3, q⟩] at hi'; exact hi'
theorem ct_X12_sink (hd : 4 ≤ d) (hL : pv_Lay ty r) (hS : mStreets h ns) (hO : cpO ty h r no) : pv_CJ Γ d mX12_sink [.ref 200, .int x, .int y] ty h r g (fun w h' => w = fn_sink h no x y ∧ h' = h) := by
  have hn := hO.1.1
  refine pv_fn 2 pn_X12 rfl (Nat.le_of_ble_eq_true rfl) (sg_X12_sink_0 _ _ (by omega) hL ⟨ni_b8 hS.2.1 hS.1, pj_b (fun c1 => pv_CJ.mono (ct_X12_openNow hL hO) (fun w h1 q => ?_)) (fun c1 => pv_jqi ⟨?_, rfl⟩)⟩)
  · obtain ⟨rfl, rfl⟩ := q
    unfold fn_sink
    rw [if_pos c1]
    cases hf : on_f h1 x y no 0 with
    | some i =>
      have hi := (on_f_s hf).2.1
      exact ⟨fun q => absurd q (nI_pos (by omega)), fun _ => pv_jqi ⟨rfl, rfl⟩⟩
    | none =>
      exact ⟨fun _ => lb_m27 hL hO (fun i hi => on_f_n hf i (Nat.zero_le _) (by omega)) (pv_jqi ⟨rfl, rfl⟩) no 0 (Nat.zero_add _), fun q => absurd (by decide) q⟩
  · unfold fn_sink
    rw [if_neg c1]
/-- back() -/
def fo_op (h : pv_H) (x : Int32) : Prop := 0 ≤ x ∧ x ≤ h 200 55 - 1
theorem ct_X12_back (hd : 2 ≤ d) (hL : pv_Lay ty r) (hO : cpO ty h r no) : pv_CJ Γ d mX12_back [.ref 200, .int x] ty h r g (fun w h' => (¬ fo_op h x → w = -1 ∧ h' = h) ∧ ∀ i, i < no → x = nI i → (h 361 i = -1 → w = h 200 32 - h 359 i ∧ h' = pv_up h 361 i (h 200 32)) ∧ (¬ h 361 i = -1 → w = -2 ∧ h' = h)) := by
  have hn := hO.1.1
  refine pv_fn 0 pn_X12 rfl (Nat.le_of_ble_eq_true rfl) (sg_X12_back_0 _ (by omega) hL (pj_b (fun c1 => ?_) (fun c1 => pv_jqi ⟨fun _ => ⟨rfl, rfl⟩, fun i hi e => absurd ?_ c1⟩)))
  · have c0 := c1
    rw [hO.1.2.1, ni_valid (by omega)] at c1
    obtain ⟨i, hi, rfl⟩ := c1
    have hb := op_b (hO.2 i hi).2.2.2
    have hin : vp_in (nI i) 200 := vp_in_nI (by omega) (by decide)
    rw [nI_clamp (by omega)]
    refine ⟨hin, fun c2 => ⟨hin, fun h2 e2 => ⟨hin, ?_⟩⟩, fun c2 => pv_jqi ⟨fun q => absurd c0 q, fun j hj e => ?_⟩⟩
    · have c3 : h 361 i = -1 := Classical.not_not.mp (fun q => absurd (hb.mpr q) (by grind))
      rw [e2, pv_up_a (by decide), pv_up_a (by decide)]
      refine pv_jqi ⟨fun q => absurd c0 q, fun j hj e => ?_⟩
      have e' := (nI_eq (by omega) (by omega)).mp e
      subst e'
      exact ⟨fun _ => ⟨rfl, rfl⟩, fun q => absurd c3 q⟩
    · have e' := (nI_eq (by omega) (by omega)).mp e
      subst e'
      exact ⟨fun q => absurd (by rw [q]; decide) c2, fun _ => ⟨rfl, rfl⟩⟩
  · rw [hO.1.2.1, ni_valid (by omega)]
    exact ⟨i, hi, e⟩
theorem ct_X11_back (hd : 1 ≤ d) (hL : pv_Lay ty r) (hO : cpO ty h r no) : pv_CJ Γ d mX11_back [.ref 100, .int x] ty h r g (fun w h' => (¬ fo_op h x → w = -1 ∧ h' = h) ∧ ∀ i, i < no → x = nI i → (h 361 i = -1 → w = h 100 9 - h 359 i ∧ h' = pv_up h (oA i) 5 (h 100 9)) ∧ (¬ h 361 i = -1 → w = -2 ∧ h' = h)) := by
  have hn := hO.1.1
  refine pv_fn 1 pn_X11 rfl (Nat.le_of_ble_eq_true rfl) (sg_X11_back_0 _ (by omega) hL (ct_findO hL hO (fun hf => ⟨_, rfl, hL, fun q => absurd rfl q, fun _ => pv_jqi ⟨fun _ => ⟨rfl, rfl⟩, fun i hi e => absurd ?_ hf⟩⟩) (fun i hi e => ⟨_, rfl, hL, fun _ => ?_, fun q => absurd q (oA_ne i)⟩)))
  · rw [hO.1.2.1, ni_valid (by omega)]
    exact ⟨i, hi, e⟩
  · subst e
    obtain ⟨a1, a2, a3, -⟩ := hO.2 i hi
    have hv : fo_op h (nI i) := by unfold fo_op; rw [hO.1.2.1, ni_valid (by omega)]; exact ⟨i, hi, rfl⟩
    rw [a3 5 (by decide)]
    refine ⟨a2, a2, pj_b (fun c1 => ⟨a2, fun h3 e3 => ⟨a2, ?_⟩⟩) (fun c1 => pv_jqi ⟨fun q => absurd hv q, fun j hj e => ?_⟩)⟩
    · have e9 : h3 100 9 = h 100 9 := by rw [e3, pv_up_a (by unfold oA; omega)]
      have e10 : h3 (oA i) 3 = h 359 i := by rw [e3, pv_up_j (by decide)]; exact a3 3 (by decide)
      rw [e9, e10]
      refine pv_jqi ⟨fun q => absurd hv q, fun j hj e => ?_⟩
      have e' := (nI_eq (by omega) (by omega)).mp e
      subst e'
      exact ⟨fun _ => ⟨rfl, e3⟩, fun q => absurd c1 q⟩
    · have e' := (nI_eq (by omega) (by omega)).mp e
      subst e'
      exact ⟨fun q => absurd q c1, fun _ => ⟨rfl, rfl⟩⟩
/-- opening() -/
def fn_opening (h : pv_H) (x y : Int32) : Int32 := if 0 ≤ x ∧ x ≤ h 200 55 - 1 then (if y = 0 then h 356 x.toNatClampNeg else if y = 1 then h 357 x.toNatClampNeg else if y = 2 then h 358 x.toNatClampNeg else if y = 3 then h 359 x.toNatClampNeg else if y = 4 then h 360 x.toNatClampNeg else if y = 5 then h 361 x.toNatClampNeg else -2) else -2
theorem ct_X12_opening (hd : 2 ≤ d) (hL : pv_Lay ty r) (hO : cpO ty h r no) : pv_CJ Γ d mX12_opening [.ref 200, .int x, .int y] ty h r g (fun w h' => w = fn_opening h x y ∧ h' = h) := by
  have hn := hO.1.1
  unfold fn_opening
  refine pv_fn 0 pn_X12 rfl (Nat.le_of_ble_eq_true rfl) (sg_X12_opening_0 _ _ (by omega) hL (pj_b (fun c1 => ?_) (fun c1 => pv_jqi ⟨by rw [if_neg c1], rfl⟩)))
  rw [if_pos c1]
  rw [hO.1.2.1, ni_valid (by omega)] at c1
  obtain ⟨i, hi, rfl⟩ := c1
  have hin : vp_in (nI i) 200 := vp_in_nI (by omega) (by decide)
  refine ⟨fun c => ⟨hin, pv_jqi ⟨?_, rfl⟩⟩, fun c => ⟨hin, pv_jqi ⟨?_, rfl⟩⟩, fun c => ⟨hin, pv_jqi ⟨?_, rfl⟩⟩, fun c => ⟨hin, pv_jqi ⟨?_, rfl⟩⟩, fun c => ⟨hin, pv_jqi ⟨?_, rfl⟩⟩, fun c => ⟨hin, pv_jqi ⟨?_, rfl⟩⟩, fun b0 b1 b2 b3 b4 b5 => pv_jqi ⟨?_, rfl⟩⟩
  · rw [c]; rfl
  · rw [c]; rfl
  · rw [c]; rfl
  · rw [c]; rfl
  · rw [c]; rfl
  · rw [c]; rfl
  · rw [if_neg b0, if_neg b1, if_neg b2, if_neg b3, if_neg b4, if_neg b5]
theorem ct_X11_opening (hd : 1 ≤ d) (hL : pv_Lay ty r) (hO : cpO ty h r no) : pv_CJ Γ d mX11_opening [.ref 100, .int x, .int y] ty h r g (fun w h' => w = fn_opening h x y ∧ h' = h) := by
  have hn := hO.1.1
  unfold fn_opening
  refine pv_fn 1 pn_X11 rfl (Nat.le_of_ble_eq_true rfl) (sg_X11_opening_0 _ _ (by omega) hL (ct_findO hL hO (fun hf => ⟨_, rfl, hL, fun q => absurd rfl q, fun _ => pv_jqi ⟨by rw [if_neg hf], rfl⟩⟩) (fun i hi e => ⟨_, rfl, hL, fun _ => ?_, fun q => absurd q (oA_ne i)⟩)))
  subst e
  obtain ⟨a1, a2, a3, -⟩ := hO.2 i hi
  have hv : 0 ≤ nI i ∧ nI i ≤ h 200 55 - 1 := by rw [hO.1.2.1, ni_valid (by omega)]; exact ⟨i, hi, rfl⟩
  rw [if_pos hv, nI_clamp (by omega), a3 0 (by decide), a3 1 (by decide), a3 2 (by decide), a3 3 (by decide), a3 4 (by decide), a3 5 (by decide)]
  refine ⟨fun c => ⟨a2, pv_jqi ⟨?_, rfl⟩⟩, fun c => ⟨a2, pv_jqi ⟨?_, rfl⟩⟩, fun c => ⟨a2, pv_jqi ⟨?_, rfl⟩⟩, fun c => ⟨a2, pv_jqi ⟨?_, rfl⟩⟩, fun c => ⟨a2, pv_jqi ⟨?_, rfl⟩⟩, fun c => ⟨a2, pv_jqi ⟨?_, rfl⟩⟩, fun b0 b1 b2 b3 b4 b5 => pv_jqi ⟨?_, rfl⟩⟩
  · rw [c]; rfl
  · rw [c]; rfl
  · rw [c]; rfl
  · rw [c]; rfl
  · rw [c]; rfl
  · rw [c]; rfl
  · rw [if_neg b0, if_neg b1, if_neg b2, if_neg b3, if_neg b4, if_neg b5]
end OB
