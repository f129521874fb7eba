/-! openings: both sides -/
abbrev oA (i : Nat) : Nat := 4000 + i
def op_ok (h : pv_H) (i : Nat) : Prop := (0 ≤ h 356 i ∧ h 356 i ≤ 3) ∧ (0 ≤ h 359 i ∧ h 359 i ≤ 9999) ∧ (1 ≤ h 360 i ∧ h 360 i ≤ 99) ∧ (h 361 i = -1 ∨ (0 ≤ h 361 i ∧ h 361 i ≤ 9999))
/-- THE OPENINGS of both sides -/
def cpO (ty : pv_T) (h : pv_H) (r : pv_R) (no : Nat) : Prop := (no ≤ 200 ∧ h 200 55 = nI no ∧ h 100 12 = nI no) ∧ ∀ i, i < no → r 121 i = oA i ∧ ty (oA i) = some (6, 0) ∧ (∀ j, j < 6 → h (oA i) j = h (356 + j) i) ∧ op_ok h i
set_option maxRecDepth 20000 in
set_option maxHeartbeats 4000000 in
theorem sg_X6_isOpen_0 {Γ : pv_C} {d kc ks : Nat} {ty : pv_T} {h : pv_H} {r : pv_R} {g : pv_G} {Q : pv_Q} (a : Nat) (F : ty a = some (6, 0) ∧ ((¬ (h a 5) = (-1) → Q (some (.int 0)) ty h r g) ∧ ((h a 5) = (-1) → Q (some (.int 1)) ty h r g))) : pv_E Γ d kc ks mX6_isOpen 0 [some (.ref a)] [] ty h r g Q := by
  refine pv_aload_n dX6_isOpen_0 rfl ?_
  obtain ⟨q1, F⟩ := F
  refine pv_getI 6 5 dX6_isOpen_1 fl_X6_27 rfl q1 ?_
  refine pv_iconst (v := (-1)) (by decide) dX6_isOpen_4 ?_
  refine pv_icmp_ne (tgt := 12) dX6_isOpen_5 (by decide) (fun c1 => ?_) (fun c1 => ?_)
  · have F := F.1 c1
    refine pv_iconst (v := 0) (by decide) dX6_isOpen_12 ?_
    exact pv_ireturn dX6_isOpen_13 rfl (by decide) F
  · have F := F.2 c1
    refine pv_iconst (v := 1) (by decide) dX6_isOpen_8 ?_
    refine pv_goto (tgt := 13) dX6_isOpen_9 (by decide) ?_
    exact pv_ireturn dX6_isOpen_13 rfl (by decide) F
set_option maxRecDepth 20000 in
set_option maxHeartbeats 4000000 in
theorem sg_X6_isAt_0 {Γ : pv_C} {d kc ks : Nat} {ty : pv_T} {h : pv_H} {r : pv_R} {g : pv_G} {Q : pv_Q} (a : Nat) (x : Int32) (y : Int32) (F : ty a = some (6, 0) ∧ ((¬ (h a 1) = x → Q (some (.int 0)) ty h r g) ∧ ((h a 1) = x → ty a = some (6, 0) ∧ ((¬ (h a 2) = y → Q (some (.int 0)) ty h r g) ∧ ((h a 2) = y → Q (some (.int 1)) ty h r g))))) : pv_E Γ d kc ks mX6_isAt 0 [some (.ref a), some (.int x), some (.int y)] [] ty h r g Q := by
  refine pv_aload_n dX6_isAt_0 rfl ?_
  obtain ⟨q1, F⟩ := F
  refine pv_getI 6 1 dX6_isAt_1 fl_X6_15 rfl q1 ?_
  refine pv_iload_n dX6_isAt_4 rfl ?_
  refine pv_icmp_ne (tgt := 20) dX6_isAt_5 (by decide) (fun c1 => ?_) (fun c1 => ?_)
  · have F := F.1 c1
    refine pv_iconst (v := 0) (by decide) dX6_isAt_20 ?_
    exact pv_ireturn dX6_isAt_21 rfl (by decide) F
  · have F := F.2 c1
    refine pv_aload_n dX6_isAt_8 rfl ?_
    obtain ⟨q2, F⟩ := F
    refine pv_getI 6 2 dX6_isAt_9 fl_X6_18 rfl q2 ?_
    refine pv_iload_n dX6_isAt_12 rfl ?_
    refine pv_icmp_ne (tgt := 20) dX6_isAt_13 (by decide) (fun c2 => ?_) (fun c2 => ?_)
    · have F := F.1 c2
      refine pv_iconst (v := 0) (by decide) dX6_isAt_20 ?_
      exact pv_ireturn dX6_isAt_21 rfl (by decide) F
    · have F := F.2 c2
      refine pv_iconst (v := 1) (by decide) dX6_isAt_16 ?_
      refine pv_goto (tgt := 21) dX6_isAt_17 (by decide) ?_
      exact pv_ireturn dX6_isAt_21 rfl (by decide) F
set_option maxRecDepth 20000 in
set_option maxHeartbeats 4000000 in
theorem sg_X12_isOpening_0 {Γ : pv_C} {d kc ks : Nat} {ty : pv_T} {h : pv_H} {r : pv_R} {g : pv_G} {Q : pv_Q} (x : Int32) (hd : 1 ≤ d) (hL : pv_Lay ty r) (F : (narrow .boolean (.int (pf_b (0 ≤ x ∧ x ≤ ((h 200 55) - 1)))) = .int (pf_b (0 ≤ x ∧ x ≤ ((h 200 55) - 1))) ∧ Q (some (.int (pf_b (0 ≤ x ∧ x ≤ ((h 200 55) - 1))))) ty h r g)) : pv_E Γ d kc ks mX12_isOpening 0 [some (.ref 200), some (.int x)] [] ty h r g Q := by
  refine pv_iload_n dX12_isOpening_0 rfl ?_
  refine pv_iconst (v := 0) (by decide) dX12_isOpening_1 ?_
  refine pv_aload_n dX12_isOpening_2 rfl ?_
  refine pv_getI 12 55 dX12_isOpening_3 fl_X12_311 rfl (lt_200 hL) ?_
  refine pv_iconst (v := 1) (by decide) dX12_isOpening_6 ?_
  refine pv_isub dX12_isOpening_7 ?_
  refine pv_pc (pc' := 8) rfl ?_
  refine pv_invS (As := [.int x, .int 0, .int ((h 200 55) - 1)]) (d' := d - 1) dX12_isOpening_8 moX12_in ml_X12_164 (Nat.le_of_ble_eq_true rfl) (by omega) (Nat.zero_le _) (Nat.zero_le _) (ct_X12_in (by omega)) (fun v ty' h' r' g' hq => ?_) rfl
  obtain ⟨e1, e2, e3, e4, e5⟩ := hq
  rw [e1, e2, e3, e4, e5]
  refine pv_pc (pc' := 11) rfl ?_
  show pv_E Γ d kc ks mX12_isOpening 11 [some (.ref 200), some (.int x)] [.int (pf_b (0 ≤ x ∧ x ≤ ((h 200 55) - 1)))] ty h r g Q
  exact pv_ireturn dX12_isOpening_11 rfl F.1 F.2
set_option maxRecDepth 20000 in
set_option maxHeartbeats 4000000 in
theorem sg_X12_isAt_0 {Γ : pv_C} {d kc ks : Nat} {ty : pv_T} {h : pv_H} {r : pv_R} {g : pv_G} {Q : pv_Q} (x : Int32) (y : Int32) (hd : 3 ≤ d) (hL : pv_Lay ty r) (F : ((y < 0 → Q (some (.int 0)) ty h r g) ∧ (¬ y < 0 → (0 ≤ h 200 1 ∧ h 200 1 ≤ 8) ∧ (((pf_b (pf_sq h x (y / 16) (y - y / 16 * 16))) = 0 → Q (some (.int 0)) ty h r g) ∧ (¬ (pf_b (pf_sq h x (y / 16) (y - y / 16 * 16))) = 0 → Q (some (.int 1)) ty h r g))))) : pv_E Γ d kc ks mX12_isAt 0 [some (.ref 200), some (.int x), some (.int y)] [] ty h r g Q := by
  refine pv_iload_n dX12_isAt_0 rfl ?_
  refine pv_if_lt (tgt := 24) dX12_isAt_1 (by decide) (fun c1 => ?_) (fun c1 => ?_)
  · have F := F.1 c1
    refine pv_iconst (v := 0) (by decide) dX12_isAt_24 ?_
    exact pv_ireturn dX12_isAt_25 rfl (by decide) F
  · have F := F.2 c1
    refine pv_aload_n dX12_isAt_4 rfl ?_
    refine pv_iload_n dX12_isAt_5 rfl ?_
    refine pv_iload_n dX12_isAt_6 rfl ?_
    refine pv_bipush (v := 16) (by decide) dX12_isAt_7 ?_
    refine pv_idiv (by decide) dX12_isAt_9 ?_
    refine pv_iload_n dX12_isAt_10 rfl ?_
    refine pv_pc (pc' := 11) rfl ?_
    refine pv_bipush (v := 16) (by decide) dX12_isAt_11 ?_
    refine pv_irem (by decide) dX12_isAt_13 ?_
    obtain ⟨q1, F⟩ := F
    refine pv_invV (As := [.int x, .int (y / 16), .int (y - y / 16 * 16)]) (d' := d - 1) dX12_isAt_14 moX12_isSquare ml_X12_172 (lt_200 hL) (Or.inl ⟨_, rfl, rfl⟩) (Nat.le_of_ble_eq_true rfl) (by omega) (Nat.zero_le _) (Nat.zero_le _) (ct_X12_isSquare (by omega) hL q1) (fun v ty' h' r' g' hq => ?_) rfl
    obtain ⟨e1, e2, e3, e4, e5⟩ := hq
    rw [e1, e2, e3, e4, e5]
    refine pv_pc (pc' := 17) rfl ?_
    show pv_E Γ d kc ks mX12_isAt 17 [some (.ref 200), some (.int x), some (.int y)] [.int (pf_b (pf_sq h x (y / 16) (y - y / 16 * 16)))] ty h r g Q
    refine pv_if_eq (tgt := 24) dX12_isAt_17 (by decide) (fun c2 => ?_) (fun c2 => ?_)
    · have F := F.1 c2
      refine pv_iconst (v := 0) (by decide) dX12_isAt_24 ?_
      exact pv_ireturn dX12_isAt_25 rfl (by decide) F
    · have F := F.2 c2
      refine pv_iconst (v := 1) (by decide) dX12_isAt_20 ?_
      refine pv_goto (tgt := 25) dX12_isAt_21 (by decide) ?_
      exact pv_ireturn dX12_isAt_25 rfl (by decide) F
set_option maxRecDepth 20000 in
set_option maxHeartbeats 4000000 in
theorem sg_X11_isSquare_0 {Γ : pv_C} {d kc ks : Nat} {ty : pv_T} {h : pv_H} {r : pv_R} {g : pv_G} {Q : pv_Q} (x : Int32) (y : Int32) (hd : 1 ≤ d) (hL : pv_Lay ty r) (F : pv_CT Γ (d - 1) 0 0 mX11_findStreet [.ref 100, .int x] ty h r g (fun (v1 : Option Value) (ty1 : pv_T) (h1 : pv_H) (r1 : pv_R) (g1 : pv_G) => ∃ w1 : Nat, v1 = some (.ref w1) ∧ pv_Lay ty1 r1 ∧ ((w1 = 0 → Q (some (.int 0)) ty1 h1 r1 g1) ∧ (¬ w1 = 0 → ((y < 0 → Q (some (.int 0)) ty1 h1 r1 g1) ∧ (¬ y < 0 → ty1 w1 = some (8, 0) ∧ (ty1 w1 = some (8, 0)) ∧ (((pf_b ((0 ≤ (y / 16) ∧ (y / 16) < h1 w1 0) ∧ (0 ≤ (y - y / 16 * 16) ∧ (y - y / 16 * 16) < h1 w1 1))) = 0 → Q (some (.int 0)) ty1 h1 r1 g1) ∧ (¬ (pf_b ((0 ≤ (y / 16) ∧ (y / 16) < h1 w1 0) ∧ (0 ≤ (y - y / 16 * 16) ∧ (y - y / 16 * 16) < h1 w1 1))) = 0 → Q (some (.int 1)) ty1 h1 r1 g1)))))))) : pv_E Γ d kc ks mX11_isSquare 0 [some (.ref 100), some (.int x), some (.int y), none] [] ty h r g Q := by
  refine pv_aload_n dX11_isSquare_0 rfl ?_
  refine pv_iload_n dX11_isSquare_1 rfl ?_
  refine pv_invV (As := [.int x]) (d' := d - 1) dX11_isSquare_2 moX11_findStreet ml_X11_80 (lt_100 hL) (Or.inl ⟨_, rfl, rfl⟩) (Nat.le_of_ble_eq_true rfl) (by omega) (Nat.zero_le _) (Nat.zero_le _) F (fun v1 ty1 h1 r1 g1 F => ?_) rfl
  obtain ⟨w1, rfl, F⟩ := F
  obtain ⟨hL1, F⟩ := F
  refine pv_pc (pc' := 5) rfl ?_
  show pv_E Γ d kc ks mX11_isSquare 5 [some (.ref 100), some (.int x), some (.int y), none] [.ref w1] ty1 h1 r1 g1 Q
  refine pv_astore_n (ls' := [some (.ref 100), some (.int x), some (.int y), some (.ref w1)]) dX11_isSquare_5 (by decide) rfl rfl ?_
  refine pv_aload_n dX11_isSquare_6 rfl ?_
  refine pv_ifnull (tgt := 33) dX11_isSquare_7 (by decide) (fun c1 => ?_) (fun c1 => ?_)
  · have F := F.1 c1
    refine pv_iconst (v := 0) (by decide) dX11_isSquare_33 ?_
    exact pv_ireturn dX11_isSquare_34 rfl (by decide) F
  · have F := F.2 c1
    refine pv_iload_n dX11_isSquare_10 rfl ?_
    refine pv_if_lt (tgt := 33) dX11_isSquare_11 (by decide) (fun c2 => ?_) (fun c2 => ?_)
    · have F := F.1 c2
      refine pv_iconst (v := 0) (by decide) dX11_isSquare_33 ?_
      exact pv_ireturn dX11_isSquare_34 rfl (by decide) F
    · have F := F.2 c2
      refine pv_aload_n dX11_isSquare_14 rfl ?_
      refine pv_iload_n dX11_isSquare_15 rfl ?_
      refine pv_bipush (v := 16) (by decide) dX11_isSquare_16 ?_
      refine pv_idiv (by decide) dX11_isSquare_18 ?_
      refine pv_iload_n dX11_isSquare_19 rfl ?_
      refine pv_bipush (v := 16) (by decide) dX11_isSquare_20 ?_
      refine pv_pc (pc' := 22) rfl ?_
      refine pv_irem (by decide) dX11_isSquare_22 ?_
      obtain ⟨q1, F⟩ := F
      obtain ⟨q2, F⟩ := F
      refine pv_invV (As := [.int (y / 16), .int (y - y / 16 * 16)]) (d' := d - 1) dX11_isSquare_23 moX8_has ml_X11_84 q1 (Or.inl ⟨_, rfl, rfl⟩) (Nat.le_of_ble_eq_true rfl) (by omega) (Nat.zero_le _) (Nat.zero_le _) (ct_X8_has (by omega) q2) (fun v ty' h' r' g' hq => ?_) rfl
      obtain ⟨e1, e2, e3, e4, e5⟩ := hq
      rw [e1, e2, e3, e4, e5]
      refine pv_pc (pc' := 26) rfl ?_
      show pv_E Γ d kc ks mX11_isSquare 26 [some (.ref 100), some (.int x), some (.int y), some (.ref w1)] [.int (pf_b ((0 ≤ (y / 16) ∧ (y / 16) < h1 w1 0) ∧ (0 ≤ (y - y / 16 * 16) ∧ (y - y / 16 * 16) < h1 w1 1)))] ty1 h1 r1 g1 Q
      refine pv_if_eq (tgt := 33) dX11_isSquare_26 (by decide) (fun c3 => ?_) (fun c3 => ?_)
      · have F := F.1 c3
        refine pv_iconst (v := 0) (by decide) dX11_isSquare_33 ?_
        exact pv_ireturn dX11_isSquare_34 rfl (by decide) F
      · have F := F.2 c3
        refine pv_iconst (v := 1) (by decide) dX11_isSquare_29 ?_
        refine pv_goto (tgt := 34) dX11_isSquare_30 (by decide) ?_
        exact pv_ireturn dX11_isSquare_34 rfl (by decide) F
section OA
variable {Γ : pv_C} {d : Nat} {ty : pv_T} {h : pv_H} {r : pv_R} {g : pv_G} {a : Nat} {x y : Int32}
theorem ct_X6_isOpen (_ : 0 ≤ d) (ha : ty a = some (6, 0)) : pv_CT Γ d 0 0 mX6_isOpen [.ref a] ty h r g (pv_is (.int (pf_b (h a 5 = -1))) ty h r g) := by
  refine pv_fn 0 pn_X6 rfl (Nat.le_of_ble_eq_true rfl) (sg_X6_isOpen_0 a ⟨ha, fun c => ?_, fun c => ?_⟩)
  · rw [pf_b_f c]; exact pv_is_refl _ _ _ _ _
  · rw [pf_b_t c]; exact pv_is_refl _ _ _ _ _
theorem ct_X6_isAt (_ : 0 ≤ d) (ha : ty a = some (6, 0)) : pv_CT Γ d 0 0 mX6_isAt [.ref a, .int x, .int y] ty h r g (pv_is (.int (pf_b (h a 1 = x ∧ h a 2 = y))) ty h r g) := by
  refine pv_fn 0 pn_X6 rfl (Nat.le_of_ble_eq_true rfl) (sg_X6_isAt_0 a x y ⟨ha, fun c => ?_, fun c => ⟨ha, fun c2 => ?_, fun c2 => ?_⟩⟩)
  · rw [pf_b_f (fun q => c q.1)]; exact pv_is_refl _ _ _ _ _
  · rw [pf_b_f (fun q => c2 q.2)]; exact pv_is_refl _ _ _ _ _
  · rw [pf_b_t ⟨c, c2⟩]; exact pv_is_refl _ _ _ _ _
theorem ct_X12_isOpening (hd : 1 ≤ d) (hL : pv_Lay ty r) : pv_CT Γ d 0 0 mX12_isOpening [.ref 200, .int x] ty h r g (pv_is (.int (pf_b (0 ≤ x ∧ x ≤ h 200 55 - 1))) ty h r g) := pv_fn 0 pn_X12 rfl (Nat.le_of_ble_eq_true rfl) (sg_X12_isOpening_0 x hd hL ⟨pf_b_n, pv_is_refl _ _ _ _ _⟩)
/-- the square of a number -/
def fo_at (h : pv_H) (x y : Int32) : Prop := ¬ y < 0 ∧ pf_sq h x (y / 16) (y - y / 16 * 16)
instance
