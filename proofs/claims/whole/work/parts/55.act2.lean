/-! act, both sides; the acts' coupling is kept -/
section AD
variable {Γ : pv_C} {d : Nat} {ty : pv_T} {h : pv_H} {r : pv_R} {g : pv_G} {na tl : Nat} {x y : Int32}
def fo_act (x y : Int32) : Prop := (0 ≤ x ∧ x ≤ 1) ∧ (0 ≤ y ∧ y ≤ 9999)
theorem kd_x (q : 0 ≤ x ∧ x ≤ 1) : ∃ K, K < 2 ∧ x = nI K := by
  obtain ⟨K, h1, rfl⟩ := nI_of (x := x) (Int32.not_lt.mpr q.1)
  have := (nI_leI (b := 1) h1 (by decide)).mp q.2
  exact ⟨K, by omega, rfl⟩
theorem ct_X11_act (hd : 67 ≤ d) (hL : pv_Lay ty r) (hA : cpA ty h r na tl) (hf : na < 20 → ty (aA na) = none ∧ ty (aA na + 1) = none) {k : pv_Q} (hbad : ¬ fo_act x y → k (some (.int (-1))) ty h r g) (hfull : fo_act x y → na = 20 → k (some (.int (-3))) ty h r g) (hok : fo_act x y → ∀ K, K < 2 → x = nI K → na < 20 → ∀ w ty' h' r' g', ac_c K na tl y (h 100 9) ty h r g w ty' h' r' g' → k (some (.int w)) ty' h' r' g') : pv_CT Γ d 2 164 mX11_act [.ref 100, .int x, .int y] ty h r g k := by
  refine pv_fn 0 pn_X11 rfl (Nat.le_of_ble_eq_true rfl) (sg_X11_act_0 _ _ (by omega) hL (pk_b (fun c1 => pj_b (fun c2 => ⟨by decide, by decide, ?_⟩) (fun c2 => hbad (fun q => c2 q.2))) (fun c1 => hbad (fun q => c1 q.1))))
  have hn := hA.2.1.1
  by_cases c3 : na < 20
  · obtain ⟨K, hK, rfl⟩ := kd_x c1
    exact ct_pass (by omega) hL hK c3 hA.1.1 hA.1.2.1 hA.2.1.2.1 hA.2.2.1 (hf c3).1 (hf c3).2 (fun w ty' h' r' g' q => ⟨w, rfl, q.1, hok ⟨c1, c2⟩ K hK rfl c3 w ty' h' r' g' q⟩)
  · have e : na = 20 := by omega
    refine pv_fn 1 pn_X1 rfl (Nat.le_of_ble_eq_true rfl) (sg_X1_pass_0 _ _ _ (by omega) hL (pk_lt na 20 (fun c => absurd c c3) (fun _ => ⟨_, rfl, hL, hfull ⟨c1, c2⟩ e⟩) hA.2.1.2.1))
abbrev amA (na : Nat) : Nat → Nat → Prop := fun a j => pA na a j ∨ (a = 200 ∧ (j = 40 ∨ j = 41)) ∨ ((a = 342 ∨ a = 343 ∨ a = 344 ∨ a = 345) ∧ j = na)
def ac_m (K na tl : Nat) (y : Int32) (h : pv_H) (w : Int32) (h' : pv_H) : Prop := pv_fr (amA na) h h' ∧ h' 200 40 = nI 0 ∧
  (∀ q, tx_rd K tl (tx_b (h 339)) = .error q → w = -100 - nI q ∧ h' 200 41 = nI na) ∧
  (∀ cs q, tx_rd K tl (tx_b (h 339)) = .ok (cs, q) → w = nI na ∧ h' 200 41 = nI (na + 1) ∧ h' 342 na = nI K ∧ h' 343 na = h 200 32 ∧ h' 344 na = y ∧ sy_S na (tx_rt cs) h' ∧ (tx_rt cs).length ≤ 161 ∧ ∀ c ∈ cs, tx_wfC K c)
theorem ct_X12_act (hd : 4 ≤ d) (hL : pv_Lay ty r) (htl : tl ≤ 160) (h40 : h 200 40 = nI tl) (hn : na ≤ 20) (h41 : h 200 41 = nI na) : pv_CJ Γ d mX12_act [.ref 200, .int x, .int y] ty h r g (fun w h' => (¬ fo_act x y → w = -1 ∧ h' = h) ∧ (fo_act x y → (na = 20 → w = -3 ∧ h' = h) ∧ ∀ K, K < 2 → x = nI K → na < 20 → ac_m K na tl y h w h')) := by
  refine pv_fn 1 pn_X12 rfl (Nat.le_of_ble_eq_true rfl) (sg_X12_act_0 _ _ (by omega) hL (pk_b (fun c1 => pj_b (fun c2 => pj_eq na 20 (fun c3 => pv_jqi ⟨fun q => absurd ⟨c1, c2⟩ q, fun _ => ⟨fun _ => ⟨rfl, rfl⟩, fun K _ _ q => absurd c3 (by omega)⟩⟩) (fun c3 => ?_) h41) (fun c2 => pv_jqi ⟨fun _ => ⟨rfl, rfl⟩, fun q => absurd q.2 c2⟩)) (fun c1 => pv_jqi ⟨fun _ => ⟨rfl, rfl⟩, fun q => absurd q.1 c1⟩)))
  obtain ⟨K, hK, rfl⟩ := kd_x c1
  rw [h41]
  refine pv_CJ.mono (ct_X12_parse (by omega) hL hK (by omega) htl h40) (fun w h1 q h2 e2 => ?_)
  obtain ⟨f1, q1, q2⟩ := q
  have fr1 : pv_fr (amA na) h h2 := by rw [e2]; exact pv_fr_up (pv_fr_mono (fun a j z => Or.inl z) f1) (Or.inr (Or.inl ⟨rfl, Or.inl rfl⟩))
  have u41 : h2 200 41 = nI na := by rw [e2, pv_up_j (by decide), f1 200 41 (by rintro (z | z | z) <;> omega)]; exact h41
  have u32 : h2 200 32 = h 200 32 := by rw [e2, pv_up_j (by decide), f1 200 32 (by rintro (z | z | z) <;> omega)]
  have u40 : h2 200 40 = nI 0 := by rw [e2, pv_up_same]; rfl
  have one : ∀ K', nI K = nI K' → K' < 2 → K' = K := fun K' e h' => ((nI_eq (by omega) (by omega)).mp e).symm
  cases hr : tx_rd K tl (tx_b (h 339)) with
  | error q0 =>
    obtain ⟨rfl, hq0⟩ := q1 q0 hr
    refine ⟨fun q => absurd q (nI_pos (by omega)), fun _ => pv_jqi ⟨fun q => absurd ⟨c1, c2⟩ q, fun _ => ⟨fun q => absurd q c3, fun K' hK' e _ => ?_⟩⟩⟩
    have e' := one K' e hK'
    subst e'
    refine ⟨fr1, u40, fun q e => ?_, fun cs q e => (by rw [hr] at e; cases e)⟩
    rw [hr] at e
    cases e
    exact ⟨rfl, u41⟩
  | ok z0 =>
    obtain ⟨cs, q0⟩ := z0
    obtain ⟨rfl, s1, s2, s3, s4⟩ := q2 cs q0 hr
    refine ⟨fun _ => ?_, fun q => absurd (by decide) q⟩
    rw [u41, nI_clamp (by omega)]
    have hi : vp_in (nI na) 20 := vp_in_nI (by omega) (by decide)
    refine ⟨hi, fun h3 e3 => ?_⟩
    have a41 : h3 200 41 = nI na := by rw [e3, pv_up_a (by decide)]; exact u41
    rw [a41, nI_clamp (by omega)]
    refine ⟨hi, fun h4 e4 => ?_⟩
    have b41 : h4 200 41 = nI na := by rw [e4, pv_up_a (by decide)]; exact a41
    rw [b41, nI_clamp (by omega)]
    refine ⟨hi, fun h5 e5 => ?_⟩
    have c41 : h5 200 41 = nI na := by rw [e5, pv_up_a (by decide)]; exact b41
    rw [c41, nI_clamp (by omega)]
    refine ⟨hi, fun h6 e6 h7 e7 => ?_⟩
    have d41 : h6 200 41 = nI na := by rw [e6, pv_up_a (by decide)]; exact c41
    rw [d41, nI_1] at e7
    have w41 : h7 200 41 = nI (na + 1) := by rw [e7, pv_up_same]
    have u50 : h5 200 50 = nI (tx_rt cs).length := by rw [e5, pv_up_a (by decide), e4, pv_up_a (by decide), e3, pv_up_a (by decide), e2, pv_up_j (by decide)]; exact s2
    have u3 : h3 200 32 = h 200 32 := by rw [e3, pv_up_a (by decide)]; exact u32
    rw [u3] at e4
    rw [u50] at e6
    rw [w41, nI_pred]
    refine pv_jqi ⟨fun q => absurd ⟨c1, c2⟩ q, fun _ => ⟨fun q => absurd q c3, fun K' hK' e _ => ?_⟩⟩
    have e' := one K' e hK'
    subst e'
    refine ⟨?_, ?_, fun q e => (by rw [hr] at e; cases e), fun cs' q e => ?_⟩
    · rw [e7, e6, e5, e4, e3]
      exact pv_fr_up (pv_fr_up (pv_fr_up (pv_fr_up (pv_fr_up fr1 (Or.inr (Or.inr ⟨Or.inl rfl, rfl⟩))) (Or.inr (Or.inr ⟨Or.inr (Or.inl rfl), rfl⟩))) (Or.inr (Or.inr ⟨Or.inr (Or.inr (Or.inl rfl)), rfl⟩))) (Or.inr (Or.inr ⟨Or.inr (Or.inr (Or.inr rfl)), rfl⟩))) (Or.inr (Or.inl ⟨rfl, Or.inr rfl⟩))
    · rw [e7, pv_up_j (by decide), e6, pv_up_a (by decide), e5, pv_up_a (by decide), e4, pv_up_a (by decide), e3, pv_up_a (by decide)]; exact u40
    · rw [hr] at e
      cases e
      refine ⟨rfl, w41, ?_, ?_, ?_, ⟨?_, ?_⟩, s3, s4⟩
      · rw [e7, pv_up_a (by decide), e6, pv_up_a (by decide), e5, pv_up_a (by decide), e4, pv_up_a (by decide), e3, pv_up_same]
      · rw [e7, pv_up_a (by decide), e6, pv_up_a (by decide), e5, pv_up_a (by decide), e4, pv_up_same]
      · rw [e7, pv_up_a (by decide), e6, pv_up_a (by decide), e5, pv_up_same]
      · rw [e7, pv_up_a (by decide), e6, pv_up_same]
      · refine ps_s_c (h := h1) (fun j _ => ?_) s1
        rw [e7, pv_up_a (by decide), pv_up_a (by decide), e6, pv_up_a (by decide), pv_up_a (by decide), e5, pv_up_a (by decide), pv_up_a (by decide), e4, pv_up_a (by decide), pv_up_a (by decide), e3, pv_up_a (by decide), pv_up_a (by decide), e2, pv_up_a (by decide), pv_up_a (by decide)]
        exact ⟨rfl, rfl⟩
end AD
theorem tx_pk_c {len : Nat} {b b' : Nat → Nat} (h : ∀ p, p < len → b p = b' p) : tx_pk len b = tx_pk len b' := by
  funext p
  unfold tx_pk
  by_cases q : p < len
  · rw [if_pos q, if_pos q, h p q]
  · rw [if_neg q, if_neg q]
theorem tx_rd_c {K len : Nat} {f f' : Nat → Int32} (h : ∀ p, p < len → f p = f' p) : tx_rd K len (tx_b f) = tx_rd K len (tx_b f') := by
  unfold tx_rd
  rw [tx_pk_c (fun p hp => show tx_b f p = tx_b f' p by unfold tx_b; rw [h p hp])]
/-- the acts' coupling speaks of these cells -/
abbrev cA_h (a j : Nat) : Prop := (a = 70 ∧ (j = 3 ∨ j = 4)) ∨ (a = 200 ∧ (j = 40 ∨ j = 41)) ∨ a = 71 ∨ a = 339 ∨ (342 ≤ a ∧ a ≤ 347) ∨ (3000 ≤ a ∧ a < 3040)
theorem cpAi_c {ty ty' : pv_T} {h h' : pv_H} {r r' : pv_R} {i : Nat} (hr : r' 72 i = r 72 i ∧ r' (aA i) 3 = r (aA i) 3) (ht : ty' (aA i) = ty (aA i) ∧ ty' (aA i + 1) = ty (aA i + 1)) (h1 : ∀ j, j < 3 → h' (aA i) j = h (aA i) j) (h2 : ∀ j, h' (aA i + 1) j = h (aA i + 1) j) (h3 : h' 342 i = h 342 i ∧ h' 343 i = h 343 i ∧ h' 344 i = h 344 i ∧ h' 345 i = h 345 i) (h4 : ∀ j, j < 170 → h' 346 (170 * i + j) = h 346 (170 * i + j) ∧ h' 347 (170 * i + j) = h 347 (170 * i + j)) (x : cpAi ty h r i) : cpAi ty' h' r' i := by
  obtain ⟨a1, a2, a3, a4, a5, a6, K, n, cs, q, b1, b2, b3, b4, b5, b6, b7, b8⟩ := x
  refine ⟨hr.1.trans a1, ht.1.trans a2, by rw [h1 0 (by decide), h3.1]; exact a3, by rw [h1 1 (by decide), h3.2.1]; exact a4, by rw [h1 2 (by decide), h3.2.2.1]; exact a5, hr.2.trans a6, K, n, cs, q, b1, h3.1.trans b2, ht.2.trans b3, b4, ?_, ⟨h3.2.2.2.trans b6.1, ps_s_c (fun j hj => h4 j (by omega)) b6.2⟩, b7, b8⟩
  rw [tx_rd_c (f' := h (aA i + 1)) (fun p _ => h2 p)]
  exact b5
theorem cpA_c {ty ty' : pv_T} {h h' : pv_H} {r r' : pv_R} {na tl : Nat} (hh : ∀ a j, cA_h a j → h' a j = h a j) (hr : ∀ a j, (a = 72 ∨ (3000 ≤ a ∧ a < 3040)) → r' a j = r a j) (ht : ∀ a, (a < 10 ∨ (3000 ≤ a ∧ a < 3040)) → ty' a = ty a ∨ ty a = none) (x : cpA ty h r na tl) : cpA ty' h' r' na tl := by
  obtain ⟨⟨a1, a2, a3, a4⟩, ⟨b1, b2, b3⟩, c1, c2⟩ := x
  have tt : ∀ a, (a < 10 ∨ (3000 ≤ a ∧ a < 3040)) → ∀ v, ty a = some v → ty' a = some v := fun a ha v e => by
    rcases ht a ha with z | z
    · rw [z]; exact e
    · rw [z] at e; cases e
  refine ⟨⟨a1, (hh 70 3 (Or.inl ⟨rfl, Or.inl rfl⟩)).trans a2, (hh 200 40 (Or.inr (Or.inl ⟨rfl, Or.inl rfl⟩))).trans a3, fun j hj => ?_⟩, ⟨b1, (hh 70 4 (Or.inl ⟨rfl, Or.inr rfl⟩)).trans b2, (hh 200 41 (Or.inr (Or.inl ⟨rfl, Or.inr rfl⟩))).trans b3⟩, fun i hi => tt (2 + i) (Or.inl (by omega)) _ (c1 i hi), fun i hi => ?_⟩
  · rw [hh 71 j (Or.inr (Or.inr (Or.inl rfl))), hh 339 j (Or.inr (Or.inr (Or.inr (Or.inl rfl))))]; exact a4 j hj
  · have hx := c2 i hi
    have hra : ∀ a, 342 ≤ a → a ≤ 347 → ∀ j, h' a j = h a j := fun a h1 h2 j => hh a j (Or.inr (Or.inr (Or.inr (Or.inr (Or.inl ⟨h1, h2⟩)))))
    have hda : ∀ a, 3000 ≤ a → a < 3040 → ∀ j, h' a j = h a j := fun a h1 h2 j => hh a j (Or.inr (Or.inr (Or.inr (Or.inr (Or.inr ⟨h1, h2⟩)))))
    have hb : 3000 ≤ aA i ∧ aA i + 1 < 3040 := by unfold aA; omega
    obtain ⟨z1, z2, -, -, -, -, K, n, cs, q, -, -, z3, -⟩ := id hx
    refine cpAi_c ⟨hr 72 i (Or.inl rfl), hr (aA i) 3 (Or.inr ⟨hb.1, by omega⟩)⟩ ⟨?_, ?_⟩ (fun j _ => hda _ hb.1 (by omega) j) (fun j => hda _ (by omega) hb.2 j) ⟨hra 342 (by decide) (by decide) i, hra 343 (by decide) (by decide) i, hra 344 (by decide) (by decide) i, hra 345 (by decide) (by decide) i⟩ (fun j _ => ⟨hra 346 (by decide) (by decide) _, hra 347 (by decide) (by decide) _⟩) hx
    · rw [tt (aA i) (Or.inr ⟨hb.1, by omega⟩) _ z2, z2]
    · rw [tt (aA i + 1) (Or.inr ⟨by omega, hb.2⟩) _ z3, z3]
/-- both acts are done: the coupling stands, with one act more or as many as before -/
theorem cpA_act {ty ty1 : pv_T} {h h1 h2 : pv_H} {r r1 : pv_R} {g g1 : pv_G} {na tl K : Nat} {y z w w2 : Int32} (hK : K < 2) (hn : na < 20) (hA : cpA ty h r na tl) (hz : h1 200 32 = z) (c1 : ac_c K na tl y z ty h r g w ty1 h1 r1 g1) (c2 : ac_m K na tl y h1 w2 h2) : w = w2 ∧ ∃ na', cpA ty1 h2 r1 na' 0 ∧ ((na' = na ∧ ty1 (aA na) = none ∧ ty1 (aA na + 1) = none) ∨ na' = na + 1) := by
  obtain ⟨⟨a1, a2, a3, a4⟩, ⟨b1, b2, b3⟩, s1, s2⟩ := hA
  obtain ⟨d0, d1, d2, d3, d4, d5, d6, d7⟩ := c1
  obtain ⟨e1, e2, e3, e4⟩ := c2
  have hne : ∀ a, 3000 ≤ a → ∀ j, h2 a j = h1 a j := fun a ha j => e1 a j (by rintro ((q | q | q) | q | q) <;> omega)
  have h339 : ∀ j, h1 339 j = h 339 j := fun j => d1 339 j (by unfold acA aA; omega)
  have erd : tx_rd K tl (tx_b (h1 339)) = tx_rd K tl (tx_b (h 71)) := tx_rd_c (fun p hp => by rw [h339, a4 p hp])
  rw [erd] at e3 e4
  have hold : ∀ i, i < na → cpAi ty1 h2 r1 i := fun i hi => by
    have hx := s2 i hi
    have h1e : ∀ a j, 342 ≤ a → a ≤ 347 → h1 a j = h a j := fun a j q1 q2 => d1 a j (by unfold acA aA; omega)
    refine cpAi_c ⟨d2 72 i (by unfold acR aA; omega), d2 (aA i) 3 (by unfold acR aA; omega)⟩ ⟨d3 _ (by unfold aA; omega) (by unfold aA; omega), d3 _ (by unfold aA; omega) (by unfold aA; omega)⟩ (fun j _ => ?_) (fun j => ?_) ⟨?_, ?_, ?_, ?_⟩ (fun j hj => ⟨?_, ?_⟩) hx
    · rw [hne _ (by unfold aA; omega), d1 _ _ (by unfold acA aA; omega)]
    · rw [hne _ (by unfold aA; omega), d1 _ _ (by unfold acA aA; omega)]
    · rw [e1 342 i (by rintro ((q | q | q) | q | q) <;> omega), h1e 342 i (by decide) (by decide)]
    · rw [e1 343 i (by rintro ((q | q | q) | q | q) <;> omega), h1e 343 i (by decide) (by decide)]
    · rw [e1 344 i (by rintro ((q | q | q) | q | q) <;> omega), h1e 344 i (by decide) (by decide)]
    · rw [e1 345 i (by rintro ((q | q | q) | q | q) <;> omega), h1e 345 i (by decide) (by decide)]
    · rw [e1 346 _ (by rintro ((q | q | q) | q | q) <;> omega), h1e 346 _ (by decide) (by decide)]
    · rw [e1 347 _ (by rintro ((q | q | q) | q | q) <;> omega), h1e 347 _ (by decide) (by decide)]
  have k70 : ∀ j, h2 70 j = h1 70 j := fun j => e1 70 j (by rintro ((q | q | q) | q | q) <;> omega)
  have sts : ∀ i, i < 2 → ty1 (2 + i) = some (30, 0) := fun i hi => by rw [d3 _ (by unfold aA; omega) (by unfold aA; omega)]; exact s1 i hi
  cases hr : tx_rd K tl (tx_b (h 71)) with
  | error q0 =>
    obtain ⟨u1, u2, u3, u4⟩ := d6 q0 hr
    obtain ⟨v1, v2⟩ := e3 q0 hr
    exact ⟨u1.trans v1.symm, na, ⟨⟨by omega, (k70 3).trans d5, e2, fun j hj => absurd hj (by omega)⟩, ⟨b1, (k70 4).trans u2, v2⟩, sts, hold⟩, Or.inl ⟨rfl, u3, u4⟩⟩
  | ok z0 =>
    obtain ⟨cs, q0⟩ := z0
    obtain ⟨u1, u2, u3, u4, u5, u6, u7, u8, u9, u10⟩ := d7 cs q0 hr
    obtain ⟨v1, v2, v3, v4, v5, v6, v7, v8⟩ := e4 cs q0 hr
    refine ⟨u1.trans v1.symm, na + 1, ⟨⟨by omega, (k70 3).trans d5, e2, fun j hj => absurd hj (by omega)⟩, ⟨by omega, (k70 4).trans u2, v2⟩, sts, fun i hi => ?_⟩, Or.inr rfl⟩
    by_cases q : i = na
    · subst q
      refine ⟨u5, u3, ?_, ?_, ?_, u6, K, tl, cs, q0, hK, v3, u4, a1, ?_, v6, v7, v8⟩
      · rw [hne _ (by unfold aA; omega), u7, v3]
      · rw [hne _ (by unfold aA; omega), u8, v4, hz]
      · rw [hne _ (by unfold aA; omega), u9, v5]
      · rw [tx_rd_c (f' := h 71) (fun p hp => by rw [hne _ (by unfold aA; omega)]; exact u10 p hp)]
        exact hr
    · exact hold i (by omega)
