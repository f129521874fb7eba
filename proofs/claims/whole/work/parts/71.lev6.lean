/-! levelled, move: the reference; both sides -/
section LN
variable {Γ : pv_C} {d kc ks : Nat} {ty : pv_T} {h h0 : pv_H} {r : pv_R} {g : pv_G} {Q : pv_Q} {C s i ns : Nat}
theorem ct_X12_levelled (hd : 1 ≤ d) (hL : pv_Lay ty r) (hI : cpS ty h r ns) (hV : cpL h r ns) {x : Int32} : pv_CT Γ d 0 0 mX12_levelled [.ref 200, .int x] ty h r g (pv_is (.int (fn_levelled h x)) ty h r g) := by
  have h8 := hI.1.1
  refine pv_fn 0 pn_X12 rfl (Nat.le_of_ble_eq_true rfl) (sg_X12_levelled_0 x (by omega) hL ?_)
  unfold fn_levelled
  rcases hV with ⟨v1, v2⟩ | ⟨v1, s, i, hs, hi, v2, v3, v4, v5, v6, v7⟩
  · refine ⟨fun _ => ?_, fun q => absurd v1 q⟩
    rw [if_pos v1]; exact pv_is_refl _ _ _ _ _
  · have hc3 : h 303 s = nI (mC h s) := (hI.1.2.2 s hs).2.2.1
    have hC := (hI.1.2.2 s hs).2.2.2.2.1
    have n9 : ¬ h 200 9 = 0 := by rw [v1]; decide
    rw [v2, nI_clamp (by omega), hc3, if_neg n9]
    refine ⟨fun q => absurd q n9, fun _ => ⟨vp_in_nI (by omega) (by decide), pk_b (fun c1 => ?_) (fun c1 => ?_)⟩⟩
    · rw [if_pos c1]
      obtain ⟨c, h1, rfl⟩ := (ni_valid (by omega)).mp c1
      exact ⟨vp_in_nI (by omega) (by decide), pv_is_refl _ _ _ _ _⟩
    · rw [if_neg c1]; exact pv_is_refl _ _ _ _ _
theorem mn_12 (hL : pv_Lay ty r) (hs : s < 8) (hi : i < 16) (hC : C ≤ 9) (v2 : h 200 7 = nI s) (v3 : h 200 8 = nI i) (hc3 : h 303 s = nI C) (hQ1 : (∀ c, c < C → mH h s i c = h 312 c) → pv_E Γ d kc ks mX12_move 62 [some (.ref 200), some (.int (nI 0))] [] ty h r g Q) (hQ2 : ¬ (∀ c, c < C → mH h s i c = h 312 c) → Q (some (.int (-2))) ty h r g) (hd : 1 ≤ d) : ∀ (m c : Nat), c + m = C → (∀ c', c' < c → mH h s i c' = h 312 c') → pv_E Γ d kc ks mX12_move 12 [some (.ref 200), some (.int (nI c))] [] ty h r g Q := by
  intro m
  induction m with
  | zero =>
    intro c hc t
    rw [show c = C by omega] at t ⊢
    refine sg_X12_move_12 _ hd hL ?_
    rw [v2, nI_clamp (by omega), hc3]
    exact ⟨vp_in_nI hs (by decide), pk_le C C (fun _ => hQ1 t) (fun c => absurd c (by omega))⟩
  | succ m ih =>
    intro c hc t
    refine sg_X12_move_12 _ hd hL ?_
    rw [v3, v2, nI_clamp (show s < 2 ^ 31 by omega), hc3, ni_plc hs hi (by omega), nI_clamp (show c < 2 ^ 31 by omega), nI_1]
    refine ⟨vp_in_nI hs (by decide), pk_le C c (fun q => absurd q (by omega)) (fun _ => ⟨ni_pli hs hi (by omega), vp_in_nI (by omega) (by decide), fun c2 => ih (c + 1) (by omega) (fun c' hc' => ?_), fun c2 => hQ2 (fun q => c2 (q c (by omega)))⟩)⟩
    by_cases q : c' = c
    · rw [q]; exact c2
    · exact t c' (by omega)
theorem mn_62 (hd : 1 ≤ d) (hL : pv_Lay ty r) (hs : s < 8) (hi : i < 16) (hC : C ≤ 9) (v2 : h0 200 7 = nI s) (v3 : h0 200 8 = nI i) (hc3 : h0 303 s = nI C) (hQ : ∀ h', mv_r h0 h' 304 (144 * s + 9 * i) C (h0 311) → Q (some (.int (h0 200 10))) ty (pv_up h' 200 9 0) r g) : ∀ (m c : Nat) (h : pv_H), c + m = C → mv_r h0 h 304 (144 * s + 9 * i) c (h0 311) → pv_E Γ d kc ks mX12_move 62 [some (.ref 200), some (.int (nI c))] [] ty h r g Q := by
  intro m
  induction m with
  | zero =>
    intro c h hc t
    rw [show c = C by omega] at t ⊢
    refine sg_X12_move_62 _ hd hL ?_
    rw [(t.1 200 7 (show ¬ 200 = 304 by decide)).trans v2, nI_clamp (by omega), (t.1 303 s (show ¬ 303 = 304 by decide)).trans hc3]
    refine ⟨vp_in_nI hs (by decide), pk_le C C (fun _ h1 e1 => ?_) (fun c => absurd c (by omega))⟩
    rw [e1, pv_up_j (by decide), t.1 200 10 (show ¬ 200 = 304 by decide)]
    exact hQ h t
  | succ m ih =>
    intro c h hc t
    refine sg_X12_move_62 _ hd hL ?_
    rw [(t.1 200 7 (show ¬ 200 = 304 by decide)).trans v2, (t.1 200 8 (show ¬ 200 = 304 by decide)).trans v3, nI_clamp (show s < 2 ^ 31 by omega), (t.1 303 s (show ¬ 303 = 304 by decide)).trans hc3, ni_plc hs hi (by omega), nI_clamp (show c < 2 ^ 31 by omega), nI_1, t.1 311 c (show ¬ 311 = 304 by decide)]
    exact ⟨vp_in_nI hs (by decide), pk_le C c (fun q => absurd q (by omega)) (fun _ => ⟨vp_in_nI (by omega) (by decide), ni_pli hs hi (by omega), fun h1 e1 => by rw [e1]; exact ih (c + 1) _ (by omega) (mv_r_up t)⟩)⟩
theorem ct_X12_move (hd : 1 ≤ d) (hL : pv_Lay ty r) (hM : mStreets h ns) {K : pv_Q} (h1 : h 200 9 = 0 → K (some (.int (-2))) ty h r g) (h2 : ¬ h 200 9 = 0 → ∃ s i, s < ns ∧ i < mR h s ∧ h 200 7 = nI s ∧ h 200 8 = nI i ∧ (¬ (∀ c, c < mC h s → mH h s i c = h 312 c) → K (some (.int (-2))) ty h r g) ∧ ((∀ c, c < mC h s → mH h s i c = h 312 c) → ∀ h', mv_r h h' 304 (144 * s + 9 * i) (mC h s) (h 311) → K (some (.int (h 200 10))) ty (pv_up h' 200 9 0) r g)) : pv_CT Γ d 0 0 mX12_move [.ref 200] ty h r g K := by
  refine pv_fn 1 pn_X12 rfl (Nat.le_of_ble_eq_true rfl) (sg_X12_move_0 hL ⟨fun c => ?_, fun c => h1 c⟩)
  obtain ⟨s, i, hs, hi, v2, v3, k1, k2⟩ := h2 c
  obtain ⟨m1, m2, m3, m4, m5, m6⟩ := hM.2.2 s hs
  exact mn_12 hL m1 (by omega) m5.2 v2 v3 m3 (fun q => mn_62 hd hL m1 (by omega) m5.2 v2 v3 m3 (fun h' t => k2 q h' t) (mC h s) 0 h (Nat.zero_add _) ⟨pv_fr_refl _ _, fun _ z => absurd z (by omega), fun _ _ => rfl⟩) k1 hd (mC h s) 0 (Nat.zero_add _) (fun _ q => absurd q (by omega))
end LN
