/-! levelled, move: the class; the coupling of the levels -/
def cpL (h : pv_H) (r : pv_R) (ns : Nat) : Prop := (h 200 9 = 0 ∧ r 40 3 = 0) ∨ (h 200 9 = 1 ∧ ∃ s i, s < ns ∧ i < mR h s ∧ h 200 7 = nI s ∧ h 200 8 = nI i ∧ r 40 3 = cA s ∧ h 40 4 = nI i ∧ h 40 5 = h 200 10 ∧ ∀ c, c < mC h s → h 42 c = h 312 c ∧ h 43 c = h 311 c ∧ 0 ≤ h 311 c ∧ h 311 c ≤ 99)
def fn_levelled (h : pv_H) (x : Int32) : Int32 := if h 200 9 = 0 then -1 else if 0 ≤ x ∧ x ≤ h 303 (h 200 7).toNatClampNeg - 1 then h 311 x.toNatClampNeg else -1
section LF
variable {Γ : pv_C} {d kc ks : Nat} {ty : pv_T} {h h0 : pv_H} {r : pv_R} {g : pv_G} {Q : pv_Q} {C k f e a R i ns s : Nat}
theorem ct_X11_levelled (hd : 1 ≤ d) (hL : pv_Lay ty r) (hI : cpS ty h r ns) (hV : cpL h r ns) {x : Int32} : pv_CT Γ d 0 0 mX11_levelled [.ref 100, .int x] ty h r g (pv_is (.int (fn_levelled h x)) ty h r g) := by
  have h8 := hI.1.1
  refine pv_fn 0 pn_X11 rfl (Nat.le_of_ble_eq_true rfl) (sg_X11_levelled_0 x (by omega) hL (pv_fn 1 pn_X4 rfl (Nat.le_of_ble_eq_true rfl) (sg_X4_newHeight_0 x hL ?_)))
  unfold fn_levelled
  rcases hV with ⟨v1, v2⟩ | ⟨v1, s, i, hs, hi, v2, v3, v4, v5, v6, v7⟩
  · refine ⟨fun _ => ⟨_, rfl, hL, ?_⟩, fun q => absurd v2 q⟩
    rw [if_pos v1]
    exact pv_is_refl _ _ _ _ _
  · obtain ⟨-, hS, -⟩ := hI.2.2 s hs
    have hC := hS.2.2.2.2.2.1
    have hc3 : h 303 s = nI (mC h s) := (hI.1.2.2 s hs).2.2.1
    rw [v4, if_neg (by rw [v1]; decide), v2, nI_clamp (by omega), hS.2.2.2.1, hc3]
    refine ⟨fun q => absurd q (cA_ne s), fun _ => ⟨fun c1 => ⟨_, rfl, hL, ?_⟩, fun c1 => ⟨hS.2.1, ?_⟩⟩⟩
    · rw [if_neg (fun q => Int32.not_lt.mpr q.1 c1)]; exact pv_is_refl _ _ _ _ _
    · obtain ⟨c, hc, rfl⟩ := nI_of c1
      rw [nI_clamp hc]
      refine pk_lt c (mC h s) (fun c2 => ⟨vp_in_nI (by omega) (by decide), _, rfl, hL, ?_⟩) (fun c2 => ⟨_, rfl, hL, ?_⟩)
      · rw [if_pos ((ni_valid (by omega)).mpr ⟨c, c2, rfl⟩), ← (v7 c c2).2.1]; exact pv_is_refl _ _ _ _ _
      · rw [if_neg]; exact pv_is_refl _ _ _ _ _
        intro q
        obtain ⟨c', h1, h2⟩ := (ni_valid (by omega)).mp q
        have := (nI_eq hc (by omega)).mp h2
        omega
/-- is the row as it was? -/
def mv_s (h : pv_H) (A B a C i : Nat) : Prop := ∀ c, c < C → h A (a + i * C + c) = h B c
theorem mv_2 (hd : 1 ≤ d) (hL : pv_Lay ty r) (hS : cStr ty h r a R C) (hi : i < R) (h4 : h 40 4 = nI i) (hQ1 : (∀ c, c < C → lvO h a C i c = h 42 c) → Q (some (.int 1)) ty h r g) (hQ2 : ¬ (∀ c, c < C → lvO h a C i c = h 42 c) → Q (some (.int 0)) ty h r g) : ∀ (m c : Nat), c + m = C → (∀ c', c' < c → lvO h a C i c' = h 42 c') → pv_E Γ d kc ks mX4_isRowAsBefore 2 [some (.ref 40), some (.ref a), some (.int (nI c))] [] ty h r g Q := by
  obtain ⟨ha, hta, hR0, hC, hR, h9, ⟨r2, -⟩, ⟨t1, -⟩, -⟩ := hS
  intro m
  induction m with
  | zero =>
    intro c hc t
    rw [show c = C by omega] at t ⊢
    refine sg_X4_isRowAsBefore_2 _ _ hd hL ⟨hta, ?_⟩
    rw [hC]
    exact pk_le C C (fun _ => hQ1 t) (fun c => absurd c (by omega))
  | succ m ih =>
    intro c hc t
    have hon : wt_on R C (i, c) := ⟨hi, by show c < C; omega⟩
    have hin : pv_inb ty (a + 1) 20 (pl C (i, c)) := ⟨_, t1, pl_in hR.2 h9.2 hon⟩
    refine sg_X4_isRowAsBefore_2 _ _ hd hL ⟨hta, ?_⟩
    rw [hC, h4, pl_mk, r2, pl_cl hR.2 h9.2 hon, nI_clamp (by omega), nI_1]
    refine pk_le C c (fun c1 => absurd c1 (by omega)) (fun c1 => ⟨hta, hta, hta, hin, vp_in_nI (by omega) (by decide), fun c2 => ih (c + 1) (by omega) (fun c' hc' => ?_), fun c2 => hQ2 (fun q => c2 (q c (by omega)))⟩)
    by_cases q : c' = c
    · rw [q]; exact c2
    · exact t c' (by omega)
theorem ct_X4_isRow (hd : 1 ≤ d) (hL : pv_Lay ty r) (hS : cStr ty h r a R C) (hi : i < R) (h4 : h 40 4 = nI i) : pv_CJ Γ d mX4_isRowAsBefore [.ref 40, .ref a] ty h r g (fun w h' => h' = h ∧ (((∀ c, c < C → lvO h a C i c = h 42 c) ∧ w = 1) ∨ (¬ (∀ c, c < C → lvO h a C i c = h 42 c) ∧ w = 0))) :=
  pv_fn 1 pn_X4 rfl (Nat.le_of_ble_eq_true rfl) (sg_X4_isRowAsBefore_0 _ (mv_2 hd hL hS hi h4 (fun q => pv_jqi ⟨rfl, Or.inl ⟨q, rfl⟩⟩) (fun q => pv_jqi ⟨rfl, Or.inr ⟨q, rfl⟩⟩) C 0 (Nat.zero_add _) (fun _ q => absurd q (by omega))))
/-- row i of the heights at the name A is given new, below column n -/
def mv_r (h h' : pv_H) (A o n : Nat) (X : Nat → Int32) : Prop := pv_fr (aR A) h h' ∧ (∀ c, c < n → h' A (o + c) = X c) ∧ ∀ j, ¬ (o ≤ j ∧ j < o + n) → h' A j = h A j
theorem mv_r_up {h h' : pv_H} {A o n : Nat} {X : Nat → Int32} (t : mv_r h h' A o n X) : mv_r h (pv_up h' A (o + n) (X n)) A o (n + 1) X := by
  refine ⟨pv_fr_up t.1 rfl, fun c hc => ?_, fun j hj => ?_⟩
  · by_cases q : c = n
    · rw [q, pv_up_same]
    · rw [pv_up_j (by omega)]; exact t.2.1 c (by omega)
  · rw [pv_up_j (by omega)]; exact t.2.2 j (by omega)
theorem mv_22 (hd : 1 ≤ d) (hL : pv_Lay ty r) (hS : cStr ty h0 r a R C) (hi : i < R) (h4 : h0 40 4 = nI i) (hQ : ∀ h', mv_r h0 h' (a + 1) (i * C) C (h0 43) → Q (some (.int (h0 40 5))) ty h' (pv_up r 40 3 0) g) : ∀ (m c : Nat) (h : pv_H), c + m = C → mv_r h0 h (a + 1) (i * C) c (h0 43) → pv_E Γ d kc ks mX4_carryOut 22 [some (.ref 40), some (.ref a), some (.int (nI c))] [] ty h r g Q := by
  obtain ⟨ha, hta, hR0, hC, hR, h9, ⟨r2, -⟩, ⟨t1, -⟩, -⟩ := hS
  intro m
  induction m with
  | zero =>
    intro c h hc t
    rw [show c = C by omega] at t ⊢
    refine sg_X4_carryOut_22 _ _ hd hL ⟨hta, ?_⟩
    rw [(t.1 a 1 (show ¬ a = a + 1 by omega)).trans hC, t.1 40 5 (show ¬ 40 = a + 1 by omega)]
    exact pk_le C C (fun _ r1 e1 => ⟨by rw [e1]; exact lv_Lay hL 0, by rw [e1]; exact hQ h t⟩) (fun c => absurd c (by omega))
  | succ m ih =>
    intro c h hc t
    have hon : wt_on R C (i, c) := ⟨hi, by show c < C; omega⟩
    have hin : pv_inb ty (a + 1) 20 (pl C (i, c)) := ⟨_, t1, pl_in hR.2 h9.2 hon⟩
    refine sg_X4_carryOut_22 _ _ hd hL ⟨hta, ?_⟩
    rw [(t.1 a 1 (show ¬ a = a + 1 by omega)).trans hC, (t.1 40 4 (show ¬ 40 = a + 1 by omega)).trans h4, pl_mk, r2, pl_cl hR.2 h9.2 hon, nI_clamp (by omega), nI_1, t.1 43 c (show ¬ 43 = a + 1 by omega)]
    exact pk_le C c (fun c1 => absurd c1 (by omega)) (fun c1 => ⟨hta, hta, hta, vp_in_nI (by omega) (by decide), hin, by omega, fun h1 e1 => by rw [e1]; exact ih (c + 1) _ (by omega) (mv_r_up t)⟩)
theorem ct_X11_move (hd : 3 ≤ d) (hL : pv_Lay ty r) {K : pv_Q} (h1 : r 40 3 = 0 → K (some (.int (-2))) ty h r g) (h2 : r 40 3 ≠ 0 → ∃ R C i, cStr ty h r (r 40 3) R C ∧ i < R ∧ h 40 4 = nI i ∧ (¬ (∀ c, c < C → lvO h (r 40 3) C i c = h 42 c) → K (some (.int (-2))) ty h r g) ∧ ((∀ c, c < C → lvO h (r 40 3) C i c = h 42 c) → ∀ h', mv_r h h' (r 40 3 + 1) (i * C) C (h 43) → K (some (.int (h 40 5))) ty h' (pv_up r 40 3 0) g)) : pv_CT Γ d 0 0 mX11_move [.ref 100] ty h r g K := by
  refine pv_fn 0 pn_X11 rfl (Nat.le_of_ble_eq_true rfl) (sg_X11_move_0 (by omega) hL (pv_fn 2 pn_X4 rfl (Nat.le_of_ble_eq_true rfl) (sg_X4_carryOut_0 (by omega) hL ⟨fun c => ⟨_, rfl, hL, h1 c⟩, fun c => ?_⟩)))
  obtain ⟨R, C, i, hS, hi, h4, k1, k2⟩ := h2 c
  refine pv_CJ.mono (ct_X4_isRow (by omega) hL hS hi h4) (fun w h' q => ?_)
  obtain ⟨rfl, ⟨q, rfl⟩ | ⟨q, rfl⟩⟩ := q
  · refine ⟨fun _ => ?_, fun z => absurd z (by decide)⟩
    exact mv_22 (by omega) hL hS hi h4 (fun h' t => ⟨_, rfl, lv_Lay hL 0, k2 q h' t⟩) C 0 h' (Nat.zero_add _) ⟨pv_fr_refl _ _, fun _ z => absurd z (by omega), fun _ _ => rfl⟩
  · exact ⟨fun z => absurd rfl z, fun _ => ⟨_, rfl, hL, k1 q⟩⟩
end LF
