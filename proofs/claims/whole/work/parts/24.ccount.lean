/-! Arrays.fill; Flow.countStanding, countMost -/
set_option maxRecDepth 20000 in
set_option maxHeartbeats 4000000 in
theorem sg_J7_fill_53178_0 {Γ : pv_C} {d kc ks : Nat} {ty : pv_T} {h : pv_H} {r : pv_R} {g : pv_G} {Q : pv_Q} (x : Nat) (y : Int32) (F : (∃ k1 n1 : Nat, ty x = some (k1, n1) ∧ (20 ≤ k1 ∧ k1 ≤ 27) ∧ pv_E Γ d kc ks mJ7_fill_53178 5 [some (.ref x), some (.int y), some (.int 0), some (.int (nI n1))] [] ty h r g Q)) : pv_E Γ d kc ks mJ7_fill_53178 0 [some (.ref x), some (.int y), none, none] [] ty h r g Q := by
  refine pv_iconst (v := 0) (by decide) dJ7_fill_53178_0 ?_
  refine pv_istore_n (ls' := [some (.ref x), some (.int y), some (.int 0), none]) dJ7_fill_53178_1 (by decide) rfl rfl ?_
  refine pv_aload_n dJ7_fill_53178_2 rfl ?_
  obtain ⟨k1, n1, q1, q1k, F⟩ := F
  refine pv_alen dJ7_fill_53178_3 q1 q1k ?_
  refine pv_istore_n (ls' := [some (.ref x), some (.int y), some (.int 0), some (.int (nI n1))]) dJ7_fill_53178_4 (by decide) rfl rfl ?_
  exact F
set_option maxRecDepth 20000 in
set_option maxHeartbeats 4000000 in
theorem sg_J7_fill_53178_5 {Γ : pv_C} {d kc ks : Nat} {ty : pv_T} {h : pv_H} {r : pv_R} {g : pv_G} {Q : pv_Q} (a0 : Nat) (x1 : Int32) (x2 : Int32) (x3 : Int32) (F : ((x3 ≤ x2 → Q none ty h r g) ∧ (¬ x3 ≤ x2 → pv_inb ty a0 20 x2 ∧ 10 ≤ a0 ∧ (∀ h1 : pv_H, h1 = pv_up h a0 (Int32.toNatClampNeg x2) x1 → pv_E Γ d kc ks mJ7_fill_53178 5 [some (.ref a0), some (.int x1), some (.int (x2 + 1)), some (.int x3)] [] ty h1 r g Q)))) : pv_E Γ d kc ks mJ7_fill_53178 5 [some (.ref a0), some (.int x1), some (.int x2), some (.int x3)] [] ty h r g Q := by
  refine pv_iload_n dJ7_fill_53178_5 rfl ?_
  refine pv_iload_n dJ7_fill_53178_6 rfl ?_
  refine pv_icmp_ge (tgt := 20) dJ7_fill_53178_7 (by decide) (fun c1 => ?_) (fun c1 => ?_)
  · have F := F.1 c1
    exact pv_return dJ7_fill_53178_20 rfl F
  · have F := F.2 c1
    refine pv_aload_n dJ7_fill_53178_10 rfl ?_
    refine pv_iload_n dJ7_fill_53178_11 rfl ?_
    refine pv_iload_n dJ7_fill_53178_12 rfl ?_
    obtain ⟨q1, F⟩ := F
    obtain ⟨q1n, q1t, q1i⟩ := q1
    obtain ⟨q1w, F⟩ := F
    obtain ⟨h1, eh1⟩ : ∃ h1 : pv_H, h1 = pv_up h a0 (Int32.toNatClampNeg x2) x1 := ⟨_, rfl⟩
    have F := F h1 eh1
    refine pv_iast dJ7_fill_53178_13 q1t q1w q1i ?_
    refine pv_hE eh1 ?_
    refine pv_iinc (v := x2 + 1) (ls' := [some (.ref a0), some (.int x1), some (.int (x2 + 1)), some (.int x3)]) dJ7_fill_53178_14 rfl (by rfl) rfl rfl ?_
    refine pv_goto (tgt := 5) dJ7_fill_53178_17 (by decide) ?_
    exact F
section CN
variable {Γ : pv_C} {d kc ks : Nat} {ty : pv_T} {h : pv_H} {r : pv_R} {g : pv_G} {Q : pv_Q} {a R C : Nat}
theorem fl_5 {n : Nat} {v : Int32} (hn : n < 2 ^ 30) (ht : ty a = some (20, n)) (ha : 10 ≤ a) (hQ : Q none ty (pv_row h a (fun j => if j < n then v else h a j)) r g) : ∀ (m i : Nat), i + m = n → pv_E Γ d kc ks mJ7_fill_53178 5 [some (.ref a), some (.int v), some (.int (nI i)), some (.int (nI n))] [] ty (pv_row h a (fun j => if j < i then v else h a j)) r g Q := by
  intro m
  induction m with
  | zero =>
    intro i hi
    refine sg_J7_fill_53178_5 a _ _ _ ?_
    rw [nI_leI (by omega) (by omega)]
    refine ⟨fun _ => ?_, fun c1 => absurd (by omega) c1⟩
    rw [show i = n by omega]; exact hQ
  | succ m ih =>
    intro i hi
    refine sg_J7_fill_53178_5 a _ _ _ ?_
    rw [nI_leI (by omega) (by omega)]
    refine ⟨fun c1 => absurd c1 (by omega), fun _ => ⟨⟨n, ht, vp_in_nI (by omega) (by omega)⟩, ha, fun h1 e1 => ?_⟩⟩
    rw [e1, pv_row_up, nI_clamp (by omega), nI_1]
    have e2 : (fun k => if k = i then v else if k < i then v else h a k) = fun j => if j < i + 1 then v else h a j := by
      funext j
      by_cases q : j = i
      · rw [if_pos q, if_pos (by omega)]
      · rw [if_neg q]
        by_cases q2 : j < i
        · rw [if_pos q2, if_pos (by omega)]
        · rw [if_neg q2, if_neg (by omega)]
    rw [e2]
    exact ih (i + 1) (by omega)
theorem ct_fill {n : Nat} {v : Int32} (hn : n < 2 ^ 30) (ht : ty a = some (20, n)) (ha : 10 ≤ a) : pv_CW Γ d mJ7_fill_53178 [.ref a, .int v] ty h r g (fun h' => h' = pv_row h a (fun j => if j < n then v else h a j)) := by
  refine pv_fn 2 pn_J7 rfl (Nat.le_of_ble_eq_true rfl) (sg_J7_fill_53178_0 a v ⟨20, n, ht, by decide, ?_⟩)
  have k1 := fl_5 (Γ := Γ) (d := d) (kc := 0) (ks := 0) (r := r) (g := g) (h := h) (v := v) (Q := pv_wq ty r g (fun h' => h' = pv_row h a (fun j => if j < n then v else h a j))) hn ht ha (pv_wqi rfl) n 0 (by omega)
  have e1 : pv_row h a (fun j => if j < 0 then v else h a j) = h := by
    rw [show (fun j => if j < 0 then v else h a j) = h a from by funext j; rw [if_neg (by omega)]]
    exact pv_row_self h a
  rw [e1] at k1
  exact k1
end CN
set_option maxRecDepth 20000 in
set_option maxHeartbeats 4000000 in
theorem sg_X2_countStanding_0 {Γ : pv_C} {d kc ks : Nat} {ty : pv_T} {h : pv_H} {r : pv_R} {g : pv_G} {Q : pv_Q} (x : Nat) (hd : 1 ≤ d) (hL : pv_Lay ty r) (F : pv_CW Γ (d - 1) mX2_findEnds [.ref 30, .ref x] ty h r g (fun (h1 : pv_H) => pv_E Γ d kc ks mX2_countStanding 9 [some (.ref 30), some (.ref x), some (.int 0), some (.int 0)] [] ty h1 r g Q)) : pv_E Γ d kc ks mX2_countStanding 0 [some (.ref 30), some (.ref x), none, none] [] ty h r g Q := by
  refine pv_aload_n dX2_countStanding_0 rfl ?_
  refine pv_aload_n dX2_countStanding_1 rfl ?_
  refine pv_invV (As := [.ref x]) (d' := d - 1) dX2_countStanding_2 moX2_findEnds ml_X2_18 (lt_30 hL) (Or.inl ⟨_, rfl, rfl⟩) (Nat.le_of_ble_eq_true rfl) (by omega) (Nat.zero_le _) (Nat.zero_le _) F (fun v ty' h1 r' g' hq => ?_) rfl
  obtain ⟨e2, e4, e5, e1, F⟩ := hq
  rw [e1, e2, e4, e5]
  refine pv_pc (pc' := 5) rfl ?_
  show pv_E Γ d kc ks mX2_countStanding 5 [some (.ref 30), some (.ref x), none, none] [] ty h1 r g Q
  refine pv_iconst (v := 0) (by decide) dX2_countStanding_5 ?_
  refine pv_istore_n (ls' := [some (.ref 30), some (.ref x), some (.int 0), none]) dX2_countStanding_6 (by decide) rfl rfl ?_
  refine pv_iconst (v := 0) (by decide) dX2_countStanding_7 ?_
  refine pv_istore_n (ls' := [some (.ref 30), some (.ref x), some (.int 0), some (.int 0)]) dX2_countStanding_8 (by decide) rfl rfl ?_
  exact F
set_option maxRecDepth 20000 in
set_option maxHeartbeats 4000000 in
theorem sg_X2_countStanding_9 {Γ : pv_C} {d kc ks : Nat} {ty : pv_T} {h : pv_H} {r : pv_R} {g : pv_G} {Q : pv_Q} (a1 : Nat) (x2 : Int32) (x3 : Int32) (hL : pv_Lay ty r) (F : ty a1 = some (8, 0) ∧ (∃ k1 n1 : Nat, ty (r a1 2) = some (k1, n1) ∧ (20 ≤ k1 ∧ k1 ≤ 27) ∧ (((nI n1) ≤ x3 → Q (some (.int x2)) ty h r g) ∧ (¬ (nI n1) ≤ x3 → ty a1 = some (8, 0) ∧ vp_in x3 144 ∧ pv_inb ty (r a1 3) 20 (h 31 (Int32.toNatClampNeg x3)) ∧ ((¬ (h (r a1 3) (Int32.toNatClampNeg (h 31 (Int32.toNatClampNeg x3)))) = 0 → pv_E Γ d kc ks mX2_countStanding 9 [some (.ref 30), some (.ref a1), some (.int x2), some (.int (x3 + 1))] [] ty h r g Q) ∧ ((h (r a1 3) (Int32.toNatClampNeg (h 31 (Int32.toNatClampNeg x3)))) = 0 → pv_E Γ d kc ks mX2_countStanding 9 [some (.ref 30), some (.ref a1), some (.int (x2 + 1)), some (.int (x3 + 1))] [] ty h r g Q)))))) : pv_E Γ d kc ks mX2_countStanding 9 [some (.ref 30), some (.ref a1), some (.int x2), some (.int x3)] [] ty h r g Q := by
  refine pv_iload_n dX2_countStanding_9 rfl ?_
  refine pv_aload_n dX2_countStanding_10 rfl ?_
  obtain ⟨q1, F⟩ := F
  refine pv_getR 8 2 dX2_countStanding_11 fl_X2_22 rfl q1 ?_
  obtain ⟨k1, n1, q2, q2k, F⟩ := F
  refine pv_alen dX2_countStanding_14 q2 q2k ?_
  refine pv_icmp_ge (tgt := 41) dX2_countStanding_15 (by decide) (fun c1 => ?_) (fun c1 => ?_)
  · have F := F.1 c1
    refine pv_iload_n dX2_countStanding_41 rfl ?_
    exact pv_ireturn dX2_countStanding_42 rfl rfl F
  · have F := F.2 c1
    refine pv_aload_n dX2_countStanding_18 rfl ?_
    obtain ⟨q3, F⟩ := F
    refine pv_getR 8 3 dX2_countStanding_19 fl_X2_27 rfl q3 ?_
    refine pv_aload_n dX2_countStanding_22 rfl ?_
    refine pv_getRk 2 0 dX2_countStanding_23 fl_X2_9 rfl (lt_30 hL) (lr_30_0 hL) ?_
    refine pv_iload_n dX2_countStanding_26 rfl ?_
    obtain ⟨q4, F⟩ := F
    refine pv_iald dX2_countStanding_27 (lt_31 hL) q4 ?_
    obtain ⟨q5, F⟩ := F
    obtain ⟨q5n, q5t, q5i⟩ := q5
    refine pv_iald dX2_countStanding_28 q5t q5i ?_
    refine pv_if_ne (tgt := 35) dX2_countStanding_29 (by decide) (fun c2 => ?_) (fun c2 => ?_)
    · have F := F.1 c2
      refine pv_iinc (v := x3 + 1) (ls' := [some (.ref 30), some (.ref a1), some (.int x2), some (.int (x3 + 1))]) dX2_countStanding_35 rfl (by rfl) rfl rfl ?_
      refine pv_goto (tgt := 9) dX2_countStanding_38 (by decide) ?_
      exact F
    · have F := F.2 c2
      refine pv_iinc (v := x2 + 1) (ls' := [some (.ref 30), some (.ref a1), some (.int (x2 + 1)), some (.int x3)]) dX2_countStanding_32 rfl (by rfl) rfl rfl ?_
      refine pv_iinc (v := x3 + 1) (ls' := [some (.ref 30), some (.ref a1), some (.int (x2 + 1)), some (.int (x3 + 1))]) dX2_countStanding_35 rfl (by rfl) rfl rfl ?_
      refine pv_goto (tgt := 9) dX2_countStanding_38 (by decide) ?_
      exact F
set_option maxRecDepth 20000 in
set_option maxHeartbeats 4000000 in
theorem sg_X2_countMost_0 {Γ : pv_C} {d kc ks : Nat} {ty : pv_T} {h : pv_H} {r : pv_R} {g : pv_G} {Q : pv_Q} (x : Nat) (hd : 1 ≤ d) (hL : pv_Lay ty r) (F : pv_CW Γ (d - 1) mX2_findEnds [.ref 30, .ref x] ty h r g (fun (h1 : pv_H) => pv_CW Γ (d - 1) mJ7_fill_53178 [.ref 32, .int 0] ty h1 r g (fun (h2 : pv_H) => pv_E Γ d kc ks mX2_countMost 17 [some (.ref 30), some (.ref x), some (.int 0), some (.int 0)] [] ty h2 r g Q))) : pv_E Γ d kc ks mX2_countMost 0 [some (.ref 30), some (.ref x), none, none] [] ty h r g Q := by
  refine pv_aload_n dX2_countMost_0 rfl ?_
  refine pv_aload_n dX2_countMost_1 rfl ?_
  refine pv_invV (As := [.ref x]) (d' := d - 1) dX2_countMost_2 moX2_findEnds ml_X2_18 (lt_30 hL) (Or.inl ⟨_, rfl, rfl⟩) (Nat.le_of_ble_eq_true rfl) (by omega) (Nat.zero_le _) (Nat.zero_le _) F (fun v ty' h1 r' g' hq => ?_) rfl
  obtain ⟨e2, e4, e5, e1, F⟩ := hq
  rw [e1, e2, e4, e5]
  refine pv_pc (pc' := 5) rfl ?_
  show pv_E Γ d kc ks mX2_countMost 5 [some (.ref 30), some (.ref x), none, none] [] ty h1 r g Q
  refine pv_aload_n dX2_countMost_5 rfl ?_
  refine pv_getRk 2 1 dX2_countMost_6 fl_X2_15 rfl (lt_30 hL) (lr_30_1 hL) ?_
  refine pv_iconst (v := 0) (by decide) dX2_countMost_9 ?_
  refine pv_invS (As := [.ref 32, .int 0]) (d' := d - 1) dX2_countMost_10 moJ7_fill_53178 ml_X2_30 (Nat.le_of_ble_eq_true rfl) (by omega) (Nat.zero_le _) (Nat.zero_le _) F (fun v ty' h2 r' g' hq => ?_) rfl
  obtain ⟨e2, e4, e5, e1, F⟩ := hq
  rw [e1, e2, e4, e5]
  refine pv_pc (pc' := 13) rfl ?_
  show pv_E Γ d kc ks mX2_countMost 13 [some (.ref 30), some (.ref x), none, none] [] ty h2 r g Q
  refine pv_iconst (v := 0) (by decide) dX2_countMost_13 ?_
  refine pv_istore_n (ls' := [some (.ref 30), some (.ref x), some (.int 0), none]) dX2_countMost_14 (by decide) rfl rfl ?_
  refine pv_iconst (v := 0) (by decide) dX2_countMost_15 ?_
  refine pv_istore_n (ls' := [some (.ref 30), some (.ref x), some (.int 0), some (.int 0)]) dX2_countMost_16 (by decide) rfl rfl ?_
  exact F
set_option maxRecDepth 20000 in
set_option maxHeartbeats 4000000 in
theorem sg_X2_countMost_17 {Γ : pv_C} {d kc ks : Nat} {ty : pv_T} {h : pv_H} {r : pv_R} {g : pv_G} {Q : pv_Q} (a1 : Nat) (x2 : Int32) (x3 : Int32) (hd : 1 ≤ d) (hL : pv_Lay ty r) (F : ty a1 = some (8, 0) ∧ (∃ k1 n1 : Nat, ty (r a1 2) = some (k1, n1) ∧ (20 ≤ k1 ∧ k1 ≤ 27) ∧ (((nI n1) ≤ x3 → Q (some (.int x2)) ty h r g) ∧ (¬ (nI n1) ≤ x3 → vp_in x3 144 ∧ vp_in (h 31 (Int32.toNatClampNeg x3)) 144 ∧ vp_in (h 31 (Int32.toNatClampNeg x3)) 144 ∧ (∀ h1 : pv_H, h1 = pv_up h 32 (Int32.toNatClampNeg (h 31 (Int32.toNatClampNeg x3))) ((h 32 (Int32.toNatClampNeg (h 31 (Int32.toNatClampNeg x3)))) + 1) → vp_in x3 144 ∧ vp_in (h1 31 (Int32.toNatClampNeg x3)) 144 ∧ pv_E Γ d kc ks mX2_countMost 17 [some (.ref 30), some (.ref a1), some (.int (if x2 < (h1 32 (Int32.toNatClampNeg (h1 31 (Int32.toNatClampNeg x3)))) then (h1 32 (Int32.toNatClampNeg (h1 31 (Int32.toNatClampNeg x3)))) else x2)), some (.int (x3 + 1))] [] ty h1 r g Q))))) : pv_E Γ d kc ks mX2_countMost 17 [some (.ref 30), some (.ref a1), some (.int x2), some (.int x3)] [] ty h r g Q := by
  refine pv_iload_n dX2_countMost_17 rfl ?_
  refine pv_aload_n dX2_countMost_18 rfl ?_
  obtain ⟨q1, F⟩ := F
  refine pv_getR 8 2 dX2_countMost_19 fl_X2_22 rfl q1 ?_
  obtain ⟨k1, n1, q2, q2k, F⟩ := F
  refine pv_alen dX2_countMost_22 q2 q2k ?_
  refine pv_icmp_ge (tgt := 63) dX2_countMost_23 (by decide) (fun c1 => ?_) (fun c1 => ?_)
  · have F := F.1 c1
    refine pv_iload_n dX2_countMost_63 rfl ?_
    exact pv_ireturn dX2_countMost_64 rfl rfl F
  · have F := F.2 c1
    refine pv_aload_n dX2_countMost_26 rfl ?_
    refine pv_getRk 2 1 dX2_countMost_27 fl_X2_15 rfl (lt_30 hL) (lr_30_1 hL) ?_
    refine pv_aload_n dX2_countMost_30 rfl ?_
    refine pv_getRk 2 0 dX2_countMost_31 fl_X2_9 rfl (lt_30 hL) (lr_30_0 hL) ?_
    refine pv_iload_n dX2_countMost_34 rfl ?_
    obtain ⟨q3, F⟩ := F
    refine pv_iald dX2_countMost_35 (lt_31 hL) q3 ?_
    refine pv_dup2 rfl rfl dX2_countMost_36 ?_
    obtain ⟨q4, F⟩ := F
    refine pv_iald dX2_countMost_37 (lt_32 hL) q4 ?_
    refine pv_iconst (v := 1) (by decide) dX2_countMost_38 ?_
    refine pv_iadd dX2_countMost_39 ?_
    obtain ⟨q5, F⟩ := F
    obtain ⟨h1, eh1⟩ : ∃ h1 : pv_H, h1 = pv_up h 32 (Int32.toNatClampNeg (h 31 (Int32.toNatClampNeg x3))) ((h 32 (Int32.toNatClampNeg (h 31 (Int32.toNatClampNeg x3)))) + 1) := ⟨_, rfl⟩
    have F := F h1 eh1
    refine pv_iast dX2_countMost_40 (lt_32 hL) (by decide) q5 ?_
    refine pv_hE eh1 ?_
    refine pv_iload_n dX2_countMost_41 rfl ?_
    refine pv_aload_n dX2_countMost_42 rfl ?_
    refine pv_getRk 2 1 dX2_countMost_43 fl_X2_15 rfl (lt_30 hL) (lr_30_1 hL) ?_
    refine pv_aload_n dX2_countMost_46 rfl ?_
    refine pv_getRk 2 0 dX2_countMost_47 fl_X2_9 rfl (lt_30 hL) (lr_30_0 hL) ?_
    refine pv_iload_n dX2_countMost_50 rfl ?_
    refine pv_pc (pc' := 51) rfl ?_
    obtain ⟨q6, F⟩ := F
    refine pv_iald dX2_countMost_51 (lt_31 hL) q6 ?_
    obtain ⟨q7, F⟩ := F
    refine pv_iald dX2_countMost_52 (lt_32 hL) q7 ?_
    refine pv_mmax dX2_countMost_53 ml_X2_36 (by omega) (Nat.le_of_ble_eq_true rfl) ?_
    refine pv_istore_n (ls' := [some (.ref 30), some (.ref a1), some (.int (if x2 < (h1 32 (Int32.toNatClampNeg (h1 31 (Int32.toNatClampNeg x3)))) then (h1 32 (Int32.toNatClampNeg (h1 31 (Int32.toNatClampNeg x3)))) else x2)), some (.int x3)]) dX2_countMost_56 (by decide) rfl rfl ?_
    refine pv_iinc (v := x3 + 1) (ls' := [some (.ref 30), some (.ref a1), some (.int (if x2 < (h1 32 (Int32.toNatClampNeg (h1 31 (Int32.toNatClampNeg x3)))) then (h1 32 (Int32.toNatClampNeg (h1 31 (Int32.toNatClampNeg x3)))) else x2)), some (.int (x3 + 1))]) dX2_countMost_57 rfl (by rfl) rfl rfl ?_
    refine pv_goto (tgt := 17) dX2_countMost_60 (by decide) ?_
    exact F
section CO
variable {Γ : pv_C} {d kc ks : Nat} {ty : pv_T} {h : pv_H} {r : pv_R} {g : pv_G} {Q : pv_Q} {a R C : Nat}
abbrev cStays (h : pv_H) (a R C : Nat) (p : Nat × Nat) : Bool := decide (cD h a C (cEnd h a R C p).1 (cEnd h a R C p).2 = 0)
theorem co_9 (hL : pv_Lay ty r) (hS : cStr ty h r a R C) {f : Nat → Int32} (hf : feR h a R C f) (hQ : Q (some (.int (nI (st_cnt C (cStays h a R C) (R * C))))) ty (pv_row h 31 f) r g) : ∀ (m i : Nat), i + m = R * C → pv_E Γ d kc ks mX2_countStanding 9 [some (.ref 30), some (.ref a), some (.int (nI (st_cnt C (cStays h a R C) i))), some (.int (nI i))] [] ty (pv_row h 31 f) r g Q := by
  intro m
  have hRb := hS.2.2.2.2.1
  have hCb := hS.2.2.2.2.2.1
  have hRC := pl_b hRb.2 hCb.2
  have e2 := hS.2.2.2.2.2.2.1
  have t1 := hS.2.2.2.2.2.2.2.1
  induction m with
  | zero =>
    intro i hi
    refine sg_X2_countStanding_9 a _ _ hL ⟨hS.2.1, 20, R * C, by rw [e2.1]; exact t1.1, by decide, ?_⟩
    rw [nI_leI (by omega) (by omega)]
    refine ⟨fun _ => ?_, fun c1 => absurd (by omega) c1⟩
    rw [show i = R * C by omega]; exact hQ
  | succ m ih =>
    intro i hi
    refine sg_X2_countStanding_9 a _ _ hL ⟨hS.2.1, 20, R * C, by rw [e2.1]; exact t1.1, by decide, ?_⟩
    have hon : wt_on R C (cEnd h a R C (ps C i)) := wt_end_on (ps_on hCb.1 (by omega))
    have hz : pv_row h 31 f (a + 2) = h (a + 2) := pv_row_ne (by have := hS.1; omega)
    rw [nI_leI (by omega) (by omega), nI_clamp (by omega), pv_row_at, hf i (by omega), e2.2.1, pl_cl hRb.2 hCb.2 hon, hz]
    refine ⟨fun c1 => absurd c1 (by omega), fun _ => ⟨hS.2.1, vp_in_nI (by omega) (by decide), ⟨_, t1.2.1, pl_in hRb.2 hCb.2 hon⟩, ?_⟩⟩
    have hi' := ih (i + 1) (by omega)
    have e5 : st_cnt C (cStays h a R C) (i + 1) = st_cnt C (cStays h a R C) i + if cStays h a R C (ps C i) = true then 1 else 0 := rfl
    rw [e5] at hi'
    rw [nI_1 i]
    refine ⟨fun c1 => ?_, fun c1 => ?_⟩
    · rw [if_neg (by simpa using c1)] at hi'; exact hi'
    · rw [if_pos (decide_eq_true c1)] at hi'; rw [nI_1]; exact hi'
theorem ct_X2_countStanding (hd : 6 ≤ d) (hL : pv_Lay ty r) (hS : cStr ty h r a R C) : pv_CJ Γ d mX2_countStanding [.ref 30, .ref a] ty h r g (fun w h' => w = nI (st_cnt C (cStays h a R C) (R * C)) ∧ ∃ f, h' = pv_row h 31 f) := by
  refine pv_fn 2 pn_X2 rfl (Nat.le_of_ble_eq_true rfl) (sg_X2_countStanding_0 a (by omega) hL (pv_CW.mono (ct_X2_findEnds (by omega) hL hS) (fun h1 q => ?_)))
  obtain ⟨f, rfl, hf⟩ := q
  exact co_9 hL hS hf (pv_jqi ⟨rfl, f, rfl⟩) (R * C) 0 (by omega)
end CO
