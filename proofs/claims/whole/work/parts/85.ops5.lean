/-! height drain street level move keep the invariant -/
/-- one street of both sides -/
def cpS1 (ty : pv_T) (h : pv_H) (r : pv_R) (s : Nat) : Prop := mStr h s (mR h s) (mC h s) ∧ r 110 s = cA s ∧ cStr ty h r (cA s) (mR h s) (mC h s) ∧ ∀ q : Nat × Nat, wt_on (mR h s) (mC h s) q → cH h (cA s) (mC h s) q.1 q.2 = mH h s q.1 q.2 ∧ cD h (cA s) (mC h s) q.1 q.2 = mD h s q.1 q.2
theorem cpS_1 {ty : pv_T} {h : pv_H} {r : pv_R} {ns s : Nat} (x : cpS ty h r ns) (hs : s < ns) : cpS1 ty h r s := ⟨x.1.2.2 s hs, x.2.2 s hs⟩
theorem cpS_of {ty : pv_T} {h : pv_H} {r : pv_R} {ns : Nat} (h8 : ns ≤ 8) (e1 : h 200 1 = nI ns) (e2 : h 100 1 = nI ns) (x : ∀ s, s < ns → cpS1 ty h r s) : cpS ty h r ns := ⟨⟨h8, e1, fun s hs => (x s hs).1⟩, e2, fun s hs => (x s hs).2⟩
section S1
variable {ty ty' : pv_T} {h h' : pv_H} {r r' : pv_R} {ns s T : Nat}
theorem cpS1_c (hs : s < 8) (hh : ∀ a j, ((302 ≤ a ∧ a ≤ 303 ∧ j = s) ∨ ((a = 304 ∨ a = 305) ∧ 144 * s ≤ j ∧ j < 144 * s + 144) ∨ (a = 1000 + 4 * s ∧ j ≤ 1) ∨ (1000 + 4 * s + 1 ≤ a ∧ a ≤ 1000 + 4 * s + 2)) → h' a j = h a j) (hr : ∀ a j, ((a = 110 ∧ j = s) ∨ a = 1000 + 4 * s) → r' a j = r a j) (ht : ∀ a, (1000 + 4 * s ≤ a ∧ a ≤ 1000 + 4 * s + 3) → ty' a = ty a) (x : cpS1 ty h r s) : cpS1 ty' h' r' s := by
  have f1 : mR h' s = mR h s := by show (h' 302 s).toNatClampNeg = _; rw [hh 302 s (by omega)]
  have f2 : mC h' s = mC h s := by show (h' 303 s).toNatClampNeg = _; rw [hh 303 s (by omega)]
  obtain ⟨⟨m1, m2, m3, m4, m5, m6, m7⟩, b1, ⟨a1, a2, a3, a4, a5, a6, ⟨d1, d2, d3⟩, ⟨e1, e2, e3⟩, a9⟩, b3⟩ := x
  have g3 : ∀ i c, i < mR h s → c < mC h s → mH h' s i c = mH h s i c := fun i c hi hc => hh 304 _ (by omega)
  have g4 : ∀ i c, i < mR h s → c < mC h s → mD h' s i c = mD h s i c := fun i c hi hc => hh 305 _ (by omega)
  unfold cpS1
  rw [f1, f2]
  refine ⟨⟨m1, (hh 302 s (by omega)).trans m2, (hh 303 s (by omega)).trans m3, m4, m5, fun p hp => ?_, fun i c hi hc => ?_⟩, (hr 110 s (by omega)).trans b1, ⟨a1, (ht _ (by unfold cA; omega)).trans a2, (hh _ 0 (by unfold cA; omega)).trans a3, (hh _ 1 (by unfold cA; omega)).trans a4, a5, a6, ⟨(hr _ _ (by unfold cA; omega)).trans d1, (hr _ _ (by unfold cA; omega)).trans d2, (hr _ _ (by unfold cA; omega)).trans d3⟩, ⟨(ht _ (by unfold cA; omega)).trans e1, (ht _ (by unfold cA; omega)).trans e2, (ht _ (by unfold cA; omega)).trans e3⟩, fun p hp => ?_⟩, fun q hq => ?_⟩
  · rw [g3 p.1 p.2 hp.1 hp.2]; exact m6 p hp
  · rw [g4 i c hi hc]; exact m7 i c hi hc
  · rw [show cH h' (cA s) (mC h s) p.1 p.2 = cH h (cA s) (mC h s) p.1 p.2 from hh _ _ (by unfold cA; omega)]; exact a9 p hp
  · rw [g3 q.1 q.2 hq.1 hq.2, g4 q.1 q.2 hq.1 hq.2, show cH h' (cA s) (mC h s) q.1 q.2 = cH h (cA s) (mC h s) q.1 q.2 from hh _ _ (by unfold cA; omega), show cD h' (cA s) (mC h s) q.1 q.2 = cD h (cA s) (mC h s) q.1 q.2 from hh _ _ (by unfold cA; omega)]; exact b3 q hq
/-- new squares of one street, the same on both sides -/
theorem ivS_set (x : ivS ty h r ns T) (hs : s < ns) (f : ∀ a j, ¬ (((a = 304 ∨ a = 305) ∧ 144 * s ≤ j ∧ j < 144 * s + 144) ∨ a = 1000 + 4 * s + 1 ∨ a = 1000 + 4 * s + 2 ∨ (a = 200 ∧ j = 9)) → h' a j = h a j) (hr : ∀ a j, ¬ (a = 40 ∧ j = 3) → r' a j = r a j) (hH : ∀ i c, i < mR h s → c < mC h s → cH h' (cA s) (mC h s) i c = mH h' s i c ∧ 0 ≤ mH h' s i c ∧ mH h' s i c ≤ 99) (hD : ∀ i c, i < mR h s → c < mC h s → cD h' (cA s) (mC h s) i c = mD h' s i c ∧ (mD h' s i c = 0 ∨ mD h' s i c = 1)) (hl : cpL h' r' ns) : ivS ty h' r' ns T := by
  obtain ⟨iS, iYr, iC, iLv, iF⟩ := x
  have h8 := iS.1.1
  refine ⟨cpS_of h8 (by rw [f 200 1 (by omega)]; exact iS.1.2.1) (by rw [f 100 1 (by omega)]; exact iS.2.1) (fun s1 hs1 => ?_), cpY_frame iYr (f 200 19 (by omega)) (f 100 5 (by omega)) (fun a a1 a2 => funext fun j => f a j (by omega)) (fun s1 hs1 => ⟨funext fun j => f _ j (by unfold cA; omega), funext fun j => f _ j (by unfold cA; omega)⟩), cpC_c (fun a a1 a2 => funext fun j => f a j (by omega)) iC, hl, fun s1 h1 h2 => ?_⟩
  · by_cases e : s1 = s
    · subst e
      have f1 : mR h' s1 = mR h s1 := by show (h' 302 s1).toNatClampNeg = _; rw [f 302 s1 (by omega)]
      have f2 : mC h' s1 = mC h s1 := by show (h' 303 s1).toNatClampNeg = _; rw [f 303 s1 (by omega)]
      obtain ⟨⟨m1, m2, m3, m4, m5, m6, m7⟩, b1, ⟨a1, a2, a3, a4, a5, a6, ⟨d1, d2, d3⟩, a8, a9⟩, b3⟩ := cpS_1 iS hs
      unfold cpS1
      rw [f1, f2]
      refine ⟨⟨m1, (f 302 s1 (by omega)).trans m2, (f 303 s1 (by omega)).trans m3, m4, m5, fun p hp => (hH p.1 p.2 hp.1 hp.2).2, fun i c hi hc => (hD i c hi hc).2⟩, (hr 110 s1 (by omega)).trans b1, ⟨a1, a2, (f _ 0 (by unfold cA; omega)).trans a3, (f _ 1 (by unfold cA; omega)).trans a4, a5, a6, ⟨(hr _ _ (by omega)).trans d1, (hr _ _ (by omega)).trans d2, (hr _ _ (by omega)).trans d3⟩, a8, fun p hp => ?_⟩, fun q hq => ⟨(hH q.1 q.2 hq.1 hq.2).1, (hD q.1 q.2 hq.1 hq.2).1⟩⟩
      rw [(hH p.1 p.2 hp.1 hp.2).1]
      exact (hH p.1 p.2 hp.1 hp.2).2
    · exact cpS1_c (by omega) (fun a j q => f a j (by omega)) (fun a j q => hr a j (by omega)) (fun _ _ => rfl) (cpS_1 iS hs1)
  · obtain ⟨x1, x2, x3, x4, x5, x6⟩ := iF s1 h1 h2
    exact ⟨fun y hy => by rw [f 320 _ (by omega)]; exact x1 y hy, by rw [f 322 _ (by omega)]; exact x2, by rw [f 323 _ (by omega)]; exact x3, by rw [f 324 _ (by omega)]; exact x4, by rw [f 325 _ (by omega)]; exact x5, fun k hk => by rw [f 305 _ (by omega)]; exact x6 k hk⟩
theorem ix_inj {C i i' c c' : Nat} (hc : c < C) (hc' : c' < C) (e : i * C + c = i' * C + c') : i = i' ∧ c = c' := by
  rcases Nat.lt_trichotomy i i' with q | q | q
  · have := Nat.mul_le_mul_right C (show i + 1 ≤ i' from q)
    rw [Nat.add_mul, Nat.one_mul] at this
    omega
  · subst q; exact ⟨rfl, by omega⟩
  · have := Nat.mul_le_mul_right C (show i' + 1 ≤ i from q)
    rw [Nat.add_mul, Nat.one_mul] at this
    omega
end S1
section OF
variable {Γ : pv_C} {d L : Nat} {ty : pv_T} {h : pv_H} {r : pv_R} {g : pv_G}
theorem iv_height (hd : 75 ≤ d) (I : Inv L ty h r g) {x y z u : Int32} : iv_ok Γ d 0 0 mX11_height mX12_height [.int x, .int y, .int z, .int u] L ty h r g := by
  obtain ⟨ns, T, nh, na, tl, no, nd, st, hL, iT, iSS, iP, iY, iH, iA, iO, iD, iLt⟩ := id I
  obtain ⟨iS, iYr, iC, iLv, iF⟩ := id iSS
  have n8 := iS.1.1
  refine iv_JJ I (ct_X11_height (by omega) hL iS) (fun w h1 q1 => ?_)
  by_cases q : pf_sq h x y z ∧ (0 ≤ u ∧ u ≤ 99)
  · obtain ⟨qs, qu⟩ := q
    obtain ⟨s, i, k, hs, hi, hk, rfl, rfl, rfl⟩ := (mSq iS.1).mp qs
    have hR := (iS.1.2.2 s hs).2.2.2.1.2
    have hC := (iS.1.2.2 s hs).2.2.2.2.1.2
    obtain ⟨p1, p2⟩ := q1.2 qu s i k hs hi hk rfl rfl rfl
    have f1 : ∀ a j, a < 1000 → h1 a j = h a j := fun a j z => by rw [p2, pv_up_a (by unfold cA; omega)]
    refine pv_CJ.mono (ct_X12_height (by omega) hL (mS_c (fun a j q => f1 a j (by omega)) iS)) (fun w2 h2 q2 => ?_)
    obtain ⟨p3, p4⟩ := q2
    have qs' : pf_sq h1 (nI s) (nI i) (nI k) ∧ (0 ≤ u ∧ u ≤ 99) := ⟨by unfold pf_sq; rw [f1 200 1 (by decide), f1 302 _ (by decide), f1 303 _ (by decide)]; exact qs, qu⟩
    unfold fn_height at p3
    unfold fp_height at p4
    rw [if_pos qs', ni_plc (by omega) (by omega) (by omega)] at p3 p4
    refine ⟨by rw [p1, p3, f1 _ _ (by decide)], ?_⟩
    have f0 : ∀ a j, ¬ ((a = 304 ∧ j = 144 * s + 9 * i + k) ∨ (a = cA s + 1 ∧ j = i * mC h s + k)) → h2 a j = h a j := fun a j z => by rw [p4, pv_up, if_neg (by omega), p2, pv_up, if_neg (by omega)]
    have f : ∀ a j, ¬ (a = 304 ∨ (1000 ≤ a ∧ a < 1032)) → h2 a j = h a j := fun a j z => f0 a j (by unfold cA; omega)
    have v1 : h2 (cA s + 1) (i * mC h s + k) = u := by rw [p4, pv_up_a (by unfold cA; omega), p2, pv_up_same]
    have v2 : h2 304 (144 * s + 9 * i + k) = u := by rw [p4, pv_up_same]
    refine ⟨ns, T, nh, na, tl, no, nd, st, hL, iT, (ivS_set iSS hs (fun a j q => f0 a j (by unfold cA; omega)) (fun _ _ _ => rfl) (fun i1 c1 hi1 hc1 => ?_) (fun i1 c1 hi1 hc1 => ?_) (cpL_c (fun a j q => f a j (by omega)) rfl iLv)), (cpP_c (fun a j q => f a j (by omega)) iP), (ivY_c (fun a j q => f a j (by omega)) iY), (cpH_c (fun a j q => f a j (by omega)) (fun _ => rfl) (fun _ _ => Or.inl rfl) iH), (ivA_c (fun a j q => f a j (by omega)) (fun _ _ _ => rfl) (fun _ _ => Or.inl rfl) iA), (cpO_c (fun a j q => f a j (by omega)) (fun _ => rfl) (fun _ _ => Or.inl rfl) iO), (ivD_c (fun a j q => f a j (by omega)) iD), (ivL_c (fun a j q => f a j (by omega)) (fun _ => rfl) iLt)⟩
    · obtain ⟨z1, z2⟩ := (iS.2.2 s hs).2.2 (i1, c1) ⟨hi1, hc1⟩
      have zo := (iS.1.2.2 s hs).2.2.2.2.2.1 (i1, c1) ⟨hi1, hc1⟩
      by_cases e : i1 = i ∧ c1 = k
      · obtain ⟨rfl, rfl⟩ := e
        have v2' : mH h2 s i1 c1 = u := v2
        exact ⟨v1.trans v2.symm, by rw [v2']; exact qu.1, by rw [v2']; exact qu.2⟩
      · have n1 : ¬ i1 * mC h s + c1 = i * mC h s + k := fun w => e (ix_inj hc1 hk w)
        have n2 : ¬ 144 * s + 9 * i1 + c1 = 144 * s + 9 * i + k := by omega
        rw [show cH h2 (cA s) (mC h s) i1 c1 = cH h (cA s) (mC h s) i1 c1 from f0 _ _ (by unfold cA; omega), show mH h2 s i1 c1 = mH h s i1 c1 from f0 _ _ (by unfold cA; omega)]
        exact ⟨z1, zo⟩
    · obtain ⟨z1, z2⟩ := (iS.2.2 s hs).2.2 (i1, c1) ⟨hi1, hc1⟩
      rw [show cD h2 (cA s) (mC h s) i1 c1 = cD h (cA s) (mC h s) i1 c1 from f0 _ _ (by unfold cA; omega), show mD h2 s i1 c1 = mD h s i1 c1 from f0 _ _ (by unfold cA; omega)]
      exact ⟨z2, (iS.1.2.2 s hs).2.2.2.2.2.2 i1 c1 hi1 hc1⟩
  · obtain ⟨p1, p2⟩ := q1.1 q
    rw [p2]
    refine pv_CJ.mono (ct_X12_height (by omega) hL iS.1) (fun w2 h2 q2 => ?_)
    obtain ⟨p3, p4⟩ := q2
    unfold fn_height at p3
    unfold fp_height at p4
    rw [if_neg q] at p3 p4
    exact ⟨by rw [p1, p3], by rw [p4]; exact I⟩
theorem iv_drain (hd : 75 ≤ d) (I : Inv L ty h r g) {x y z u : Int32} : iv_ok Γ d 0 0 mX11_drain mX12_drain [.int x, .int y, .int z, .int u] L ty h r g := by
  obtain ⟨ns, T, nh, na, tl, no, nd, st, hL, iT, iSS, iP, iY, iH, iA, iO, iD, iLt⟩ := id I
  obtain ⟨iS, iYr, iC, iLv, iF⟩ := id iSS
  have n8 := iS.1.1
  refine iv_JJ I (ct_X11_drain (by omega) hL iS) (fun w h1 q1 => ?_)
  by_cases q : pf_sq h x y z ∧ (0 ≤ u ∧ u ≤ 1)
  · obtain ⟨qs, qu⟩ := q
    obtain ⟨s, i, k, hs, hi, hk, rfl, rfl, rfl⟩ := (mSq iS.1).mp qs
    have hR := (iS.1.2.2 s hs).2.2.2.1.2
    have hC := (iS.1.2.2 s hs).2.2.2.2.1.2
    obtain ⟨p1, p2⟩ := q1.2 qu s i k hs hi hk rfl rfl rfl
    have f1 : ∀ a j, a < 1000 → h1 a j = h a j := fun a j z => by rw [p2, pv_up_a (by unfold cA; omega)]
    refine pv_CJ.mono (ct_X12_drain (by omega) hL (mS_c (fun a j q => f1 a j (by omega)) iS)) (fun w2 h2 q2 => ?_)
    obtain ⟨p3, p4⟩ := q2
    have qs' : pf_sq h1 (nI s) (nI i) (nI k) ∧ (0 ≤ u ∧ u ≤ 1) := ⟨by unfold pf_sq; rw [f1 200 1 (by decide), f1 302 _ (by decide), f1 303 _ (by decide)]; exact qs, qu⟩
    unfold fn_drain at p3
    unfold fp_drain at p4
    rw [if_pos qs', ni_plc (by omega) (by omega) (by omega)] at p3 p4
    refine ⟨by rw [p1, p3, f1 _ _ (by decide)], ?_⟩
    have f0 : ∀ a j, ¬ ((a = 305 ∧ j = 144 * s + 9 * i + k) ∨ (a = cA s + 2 ∧ j = i * mC h s + k)) → h2 a j = h a j := fun a j z => by rw [p4, pv_up, if_neg (by omega), p2, pv_up, if_neg (by omega)]
    have f : ∀ a j, ¬ (a = 305 ∨ (1000 ≤ a ∧ a < 1032)) → h2 a j = h a j := fun a j z => f0 a j (by unfold cA; omega)
    have v1 : h2 (cA s + 2) (i * mC h s + k) = u := by rw [p4, pv_up_a (by unfold cA; omega), p2, pv_up_same]
    have v2 : h2 305 (144 * s + 9 * i + k) = u := by rw [p4, pv_up_same]
    have u01 : u = 0 ∨ u = 1 := by
      obtain ⟨n, hn, rfl⟩ := nI_of (x := u) (Int32.not_lt.mpr qu.1)
      have := (nI_leI (b := 1) hn (by decide)).mp qu.2
      have : n = 0 ∨ n = 1 := by omega
      rcases this with rfl | rfl
      · exact Or.inl rfl
      · exact Or.inr rfl
    refine ⟨ns, T, nh, na, tl, no, nd, st, hL, iT, (ivS_set iSS hs (fun a j q => f0 a j (by unfold cA; omega)) (fun _ _ _ => rfl) (fun i1 c1 hi1 hc1 => ?_) (fun i1 c1 hi1 hc1 => ?_) (cpL_c (fun a j q => f a j (by omega)) rfl iLv)), (cpP_c (fun a j q => f a j (by omega)) iP), (ivY_c (fun a j q => f a j (by omega)) iY), (cpH_c (fun a j q => f a j (by omega)) (fun _ => rfl) (fun _ _ => Or.inl rfl) iH), (ivA_c (fun a j q => f a j (by omega)) (fun _ _ _ => rfl) (fun _ _ => Or.inl rfl) iA), (cpO_c (fun a j q => f a j (by omega)) (fun _ => rfl) (fun _ _ => Or.inl rfl) iO), (ivD_c (fun a j q => f a j (by omega)) iD), (ivL_c (fun a j q => f a j (by omega)) (fun _ => rfl) iLt)⟩
    · obtain ⟨z1, z2⟩ := (iS.2.2 s hs).2.2 (i1, c1) ⟨hi1, hc1⟩
      rw [show cH h2 (cA s) (mC h s) i1 c1 = cH h (cA s) (mC h s) i1 c1 from f0 _ _ (by unfold cA; omega), show mH h2 s i1 c1 = mH h s i1 c1 from f0 _ _ (by unfold cA; omega)]
      exact ⟨z1, (iS.1.2.2 s hs).2.2.2.2.2.1 (i1, c1) ⟨hi1, hc1⟩⟩
    · obtain ⟨z1, z2⟩ := (iS.2.2 s hs).2.2 (i1, c1) ⟨hi1, hc1⟩
      by_cases e : i1 = i ∧ c1 = k
      · obtain ⟨rfl, rfl⟩ := e
        have v2' : mD h2 s i1 c1 = u := v2
        refine ⟨v1.trans v2.symm, ?_⟩
        rw [v2']
        exact u01
      · have n1 : ¬ i1 * mC h s + c1 = i * mC h s + k := fun w => e (ix_inj hc1 hk w)
        have n2 : ¬ 144 * s + 9 * i1 + c1 = 144 * s + 9 * i + k := by omega
        rw [show cD h2 (cA s) (mC h s) i1 c1 = cD h (cA s) (mC h s) i1 c1 from f0 _ _ (by unfold cA; omega), show mD h2 s i1 c1 = mD h s i1 c1 from f0 _ _ (by unfold cA; omega)]
        exact ⟨z2, (iS.1.2.2 s hs).2.2.2.2.2.2 i1 c1 hi1 hc1⟩
  · obtain ⟨p1, p2⟩ := q1.1 q
    rw [p2]
    refine pv_CJ.mono (ct_X12_drain (by omega) hL iS.1) (fun w2 h2 q2 => ?_)
    obtain ⟨p3, p4⟩ := q2
    unfold fn_drain at p3
    unfold fp_drain at p4
    rw [if_neg q] at p3 p4
    exact ⟨by rw [p1, p3], by rw [p4]; exact I⟩
theorem iv_move (hd : 75 ≤ d) (I : Inv L ty h r g) : iv_ok Γ d 0 0 mX11_move mX12_move [] L ty h r g := by
  obtain ⟨ns, T, nh, na, tl, no, nd, st, hL, iT, iSS, iP, iY, iH, iA, iO, iD, iLt⟩ := id I
  obtain ⟨iS, iYr, iC, iLv, iF⟩ := id iSS
  have n8 := iS.1.1
  rcases id iLv with ⟨l1, l2⟩ | ⟨l1, s, i, hs, hi, l2, l3, l4, l5, l6, l7⟩
  · refine ct_X11_move (by omega) hL (fun _ => ⟨_, rfl, hL, iT.1, ?_⟩) (fun q => absurd l2 q)
    exact ct_X12_move (by omega) hL iS.1 (fun _ => ⟨rfl, I⟩) (fun q => absurd l1 q)
  · obtain ⟨b1, b2, b3⟩ := iS.2.2 s hs
    have m9 : ¬ h 200 9 = 0 := by rw [l1]; decide
    have hR := (iS.1.2.2 s hs).2.2.2.1.2
    have hC := (iS.1.2.2 s hs).2.2.2.2.1.2
    have cond : (∀ c, c < mC h s → lvO h (cA s) (mC h s) i c = h 42 c) ↔ (∀ c, c < mC h s → mH h s i c = h 312 c) := by
      constructor
      · intro z c hc
        rw [← (b3 (i, c) ⟨hi, hc⟩).1, ← (l7 c hc).1]
        exact z c hc
      · intro z c hc
        show cH h (cA s) (mC h s) i c = h 42 c
        rw [(b3 (i, c) ⟨hi, hc⟩).1, (l7 c hc).1]
        exact z c hc
    refine ct_X11_move (by omega) hL (fun q => absurd (l4.symm.trans q) (by unfold cA; omega)) (fun _ => ⟨mR h s, mC h s, i, by rw [l4]; exact b2, hi, l5, fun q => ⟨_, rfl, hL, iT.1, ?_⟩, fun q h1 mv => ⟨_, rfl, pv_Lay_up hL (by decide +kernel), iT.1, ?_⟩⟩)
    · rw [l4] at q
      refine ct_X12_move (by omega) hL iS.1 (fun z => absurd z m9) (fun _ => ⟨s, i, hs, hi, l2, l3, fun _ => ⟨rfl, I⟩, fun z => absurd (cond.mpr z) q⟩)
    · rw [l4] at q mv
      obtain ⟨g1, g2, g3⟩ := mv
      have f1 : ∀ a j, a < 1000 → h1 a j = h a j := fun a j z => g1 a j (by unfold aR cA; omega)
      have hL1 : pv_Lay ty (pv_up r 40 3 0) := pv_Lay_up hL (by decide +kernel)
      have eR : mR h1 s = mR h s := by show (h1 302 s).toNatClampNeg = _; rw [f1 302 s (by decide)]
      have eC : mC h1 s = mC h s := by show (h1 303 s).toNatClampNeg = _; rw [f1 303 s (by decide)]
      refine ct_X12_move (by omega) hL1 (mS_c (fun a j q => f1 a j (by omega)) iS) (fun z => absurd z (by rw [f1 200 9 (by decide)]; exact m9)) (fun _ => ⟨s, i, hs, by rw [eR]; exact hi, by rw [f1 200 7 (by decide)]; exact l2, by rw [f1 200 8 (by decide)]; exact l3, fun z => absurd (fun c hc => ?_) z, fun _ h2 mv2 => ?_⟩)
      · rw [eC] at hc
        rw [show mH h1 s i c = mH h s i c from f1 304 _ (by decide), f1 312 c (by decide)]
        exact cond.mp q c hc
      · rw [eC] at mv2
        obtain ⟨k1, k2, k3⟩ := mv2
        refine ⟨by rw [f1 200 10 (by decide), l6], ?_⟩
        have fz : ∀ a j, ¬ (a = cA s + 1 ∨ a = 304) → h2 a j = h a j := fun a j z => by rw [k1 a j (by unfold aR; omega), g1 a j (by unfold aR; omega)]
        obtain ⟨h3, e3⟩ : ∃ h3, h3 = pv_up h2 200 9 0 := ⟨_, rfl⟩
        rw [← e3]
        have f0 : ∀ a j, ¬ (a = cA s + 1 ∨ a = 304 ∨ (a = 200 ∧ j = 9)) → h3 a j = h a j := fun a j z => by rw [e3, pv_up, if_neg (by omega)]; exact fz a j (by omega)
        have f : ∀ a j, ¬ (a = 304 ∨ (1000 ≤ a ∧ a < 1032) ∨ (a = 200 ∧ j = 9)) → h3 a j = h a j := fun a j z => f0 a j (by unfold cA; omega)
        have w1 : ∀ j, h3 (cA s + 1) j = h1 (cA s + 1) j := fun j => by rw [e3, pv_up_a (by unfold cA; omega)]; exact k1 _ j (by unfold aR cA; omega)
        have w2 : ∀ j, h3 304 j = h2 304 j := fun j => by rw [e3, pv_up_a (by decide)]
        have w3 : ∀ j, h1 304 j = h 304 j := fun j => f1 304 j (by decide)
        have fr : ∀ a j, ¬ (a = 40 ∧ j = 3) → (pv_up r 40 3 0) a j = r a j := fun a j z => by rw [pv_up, if_neg z]
        refine ⟨ns, T, nh, na, tl, no, nd, st, hL1, iT, (ivS_set iSS hs (fun a j q => ?_) fr (fun i1 c1 hi1 hc1 => ?_) (fun i1 c1 hi1 hc1 => ?_) (Or.inl ⟨by rw [e3, pv_up_same], pv_up_same _ _ _ _⟩)), (cpP_c (fun a j q => f a j (by omega)) iP), (ivY_c (fun a j q => f a j (by omega)) iY), (cpH_c (fun a j q => f a j (by omega)) (fun j => fr _ j (by omega)) (fun _ _ => Or.inl rfl) iH), (ivA_c (fun a j q => f a j (by omega)) (fun a j q => fr a j (by omega)) (fun _ _ => Or.inl rfl) iA), (cpO_c (fun a j q => f a j (by omega)) (fun j => fr _ j (by omega)) (fun _ _ => Or.inl rfl) iO), (ivD_c (fun a j q => f a j (by omega)) iD), (ivL_c (fun a j q => f a j (by omega)) (fun _ => rfl) iLt)⟩
        · by_cases e : a = 304
          · subst e
            rw [w2, k3 j (by omega)]; exact w3 j
          · exact f0 a j (by unfold cA; omega)
        · obtain ⟨z1, z2⟩ := b3 (i1, c1) ⟨hi1, hc1⟩
          have zo := (iS.1.2.2 s hs).2.2.2.2.2.1 (i1, c1) ⟨hi1, hc1⟩
          by_cases e : i1 = i
          · subst e
            obtain ⟨y1, y2, y3, y4⟩ := l7 c1 hc1
            have e1 : cH h3 (cA s) (mC h s) i1 c1 = h 311 c1 := by show h3 (cA s + 1) (i1 * mC h s + c1) = _; rw [w1, g2 c1 hc1]; exact y2
            have e2 : mH h3 s i1 c1 = h 311 c1 := by show h3 304 (144 * s + 9 * i1 + c1) = _; rw [w2, k2 c1 hc1]; exact f1 311 c1 (by decide)
            rw [e1, e2]
            exact ⟨rfl, y3, y4⟩
          · have n1 : ¬ (i * mC h s ≤ i1 * mC h s + c1 ∧ i1 * mC h s + c1 < i * mC h s + mC h s) := fun w => e (ix_inj (i := i1) (i' := i) (c := c1) (c' := i1 * mC h s + c1 - i * mC h s) hc1 (by omega) (by omega)).1
            have e1 : cH h3 (cA s) (mC h s) i1 c1 = cH h (cA s) (mC h s) i1 c1 := by show h3 (cA s + 1) (i1 * mC h s + c1) = _; rw [w1, g3 _ n1]
            have e2 : mH h3 s i1 c1 = mH h s i1 c1 := by show h3 304 (144 * s + 9 * i1 + c1) = _; rw [w2, k3 _ (by omega)]; exact w3 _
            rw [e1, e2]
            exact ⟨z1, zo⟩
        · obtain ⟨z1, z2⟩ := b3 (i1, c1) ⟨hi1, hc1⟩
          rw [show cD h3 (cA s) (mC h s) i1 c1 = cD h (cA s) (mC h s) i1 c1 from f0 _ _ (by unfold cA; omega), show mD h3 s i1 c1 = mD h s i1 c1 from f0 _ _ (by unfold cA; omega)]
          exact ⟨z2, (iS.1.2.2 s hs).2.2.2.2.2.2 i1 c1 hi1 hc1⟩
theorem iv_level (hd : 75 ≤ d) (I : Inv L ty h r g) {x y z u : Int32} : iv_ok Γ d 0 0 mX11_level mX12_level [.int x, .int y, .int z, .int u] L ty h r g := by
  obtain ⟨ns, T, nh, na, tl, no, nd, st, hL, iT, iSS, iP, iY, iH, iA, iO, iD, iLt⟩ := id I
  obtain ⟨iS, iYr, iC, iLv, iF⟩ := id iSS
  have n8 := iS.1.1
  have inj : ∀ s i k f e s' i' k' f' e', s < ns → i < mR h s → k < mC h s → f < 10 → e < 10 → s' < ns → i' < mR h s' → k' < mC h s' → f' < 10 → e' < 10 → nI s = nI s' → nI i = nI i' → nI k = nI k' → nI (10 * f + e) = nI (10 * f' + e') → s' = s ∧ i' = i ∧ k' = k ∧ f' = f ∧ e' = e := fun s i k f e s' i' k' f' e' a1 a2 a3 a4 a5 b1 b2 b3 b4 b5 c1 c2 c3 c4 => by
    have r1 := (iS.1.2.2 s a1).2.2.2
    have r2 := (iS.1.2.2 s' b1).2.2.2
    have d1 := (nI_eq (by omega) (by omega)).mp c1
    have d2 := (nI_eq (by omega) (by omega)).mp c2
    have d3 := (nI_eq (by omega) (by omega)).mp c3
    have d4 := (nI_eq (by omega) (by omega)).mp c4
    omega
  have mM : ∀ s i k f e, s < ns → i < mR h s → lv_M (lvO h (cA s) (mC h s) i) (mC h s) k f e = lv_M (mH h s i) (mC h s) k f e := fun s i k f e hs hi => by
    unfold lv_M
    rw [lv_G_c (O' := mH h s i) (by have := (iS.1.2.2 s hs).2.2.2.2.1.1; omega) (fun c hc => ((iS.2.2 s hs).2.2 (i, c) ⟨hi, hc⟩).1)]
  refine ct_X11_level (by omega) hL iS (fun q => ⟨_, rfl, hL, iT.1, ct_X12_level (by omega) hL iS.1 (fun _ => ⟨rfl, I⟩) (fun s i k f e hs hi hk hf he hfe ex ey ez eu => absurd ?_ q)⟩) (fun s i k f e hs hi hk hf he hfe ex ey ez eu => ⟨fun h1 f1 hM => ⟨_, rfl, hL, iT.1, ?_⟩, fun h1 f1 hM e4 e5 rows => ⟨_, rfl, pv_Lay_up hL (by decide +kernel), iT.1, ?_⟩⟩)
  · subst ex ey ez eu
    have r1 := (iS.1.2.2 s hs).2.2.2
    refine ⟨(mSq iS.1).mpr ⟨s, i, k, hs, hi, hk, rfl, rfl, rfl⟩, ⟨nI_pos' (by omega), (nI_leI (b := 99) (by omega) (by decide)).mpr (by omega)⟩, ?_⟩
    rw [show (10 : Int32) = nI 10 from rfl, pk_div (by omega) (by decide) (by decide), pk_mul, pk_sub (by omega), nI_leI (by omega) (by omega)]
    omega
  · have g1 : ∀ a j, ¬ (a = 41 ∨ (a = 40 ∧ 6 ≤ j)) → h1 a j = h a j := fun a j z => f1 a j (by unfold lvA; omega)
    have eR : ∀ s, mR h1 s = mR h s := fun s => by show (h1 302 s).toNatClampNeg = _; rw [g1 302 s (by omega)]
    have eC : ∀ s, mC h1 s = mC h s := fun s => by show (h1 303 s).toNatClampNeg = _; rw [g1 303 s (by omega)]
    have eH : ∀ s i, mH h1 s i = mH h s i := fun s i => funext fun c => g1 304 _ (by omega)
    have ev : lv_v h1 x y z u ↔ lv_v h x y z u := by unfold lv_v pf_sq; rw [g1 200 1 (by omega), g1 302 _ (by omega), g1 303 _ (by omega)]
    rw [mM s i k f e hs hi] at hM
    refine ct_X12_level (by omega) hL (mS_c (fun a j q => g1 a j (by omega)) iS) (fun z => absurd ?_ z) (fun s' i' k' f' e' hs' hi' hk' hf' he' hfe' ex' ey' ez' eu' => ⟨fun h2 f2 hM2 => ⟨rfl, ?_⟩, fun h2 f2 hM2 _ _ => ?_⟩)
    · rw [ev]
      subst ex ey ez eu
      have r1 := (iS.1.2.2 s hs).2.2.2
      refine ⟨(mSq iS.1).mpr ⟨s, i, k, hs, hi, hk, rfl, rfl, rfl⟩, ⟨nI_pos' (by omega), (nI_leI (b := 99) (by omega) (by decide)).mpr (by omega)⟩, ?_⟩
      rw [show (10 : Int32) = nI 10 from rfl, pk_div (by omega) (by decide) (by decide), pk_mul, pk_sub (by omega), nI_leI (by omega) (by omega)]
      omega
    · exact Inv_c (P := fun a j => a = 41 ∨ (a = 40 ∧ 6 ≤ j) ∨ a = 313) (fun a j q => by rw [f2 a j (by unfold aR; omega), g1 a j (by omega)]) (fun a j q => by omega) (fun a j q => by omega) (fun a j q => by omega) (fun a j q => by omega) (fun a j q => by omega) (fun a j q => by omega) (fun a j q => by omega) (fun a j q => by omega) (fun _ _ _ => rfl) hL (fun _ => rfl) I
    · rw [eR, eC] at *
      obtain ⟨rfl, rfl, rfl, rfl, rfl⟩ := inj s i k f e s' i' k' f' e' hs hi hk hf he hs' hi' hk' hf' he' (ex.symm.trans ex') (ey.symm.trans ey') (ez.symm.trans ez') (eu.symm.trans eu')
      rw [eH, hM] at hM2
      exact absurd hM2 Int32.lt_irrefl
  · have g1 : ∀ a j, ¬ (a = 41 ∨ a = 42 ∨ a = 43 ∨ (a = 40 ∧ 4 ≤ j)) → h1 a j = h a j := fun a j z => f1 a j (by unfold lvB; omega)
    have hL1 : pv_Lay ty (pv_up r 40 3 (cA s)) := pv_Lay_up hL (by decide +kernel)
    have eR : ∀ s, mR h1 s = mR h s := fun s => by show (h1 302 s).toNatClampNeg = _; rw [g1 302 s (by omega)]
    have eC : ∀ s, mC h1 s = mC h s := fun s => by show (h1 303 s).toNatClampNeg = _; rw [g1 303 s (by omega)]
    have eH : ∀ s i, mH h1 s i = mH h s i := fun s i => funext fun c => g1 304 _ (by omega)
    have ev : lv_v h1 x y z u ↔ lv_v h x y z u := by unfold lv_v pf_sq; rw [g1 200 1 (by omega), g1 302 _ (by omega), g1 303 _ (by omega)]
    have eO : ∀ c, c < mC h s → lvO h (cA s) (mC h s) i c = mH h s i c := fun c hc => ((iS.2.2 s hs).2.2 (i, c) ⟨hi, hc⟩).1
    have C0 : 0 < mC h s := by have := (iS.1.2.2 s hs).2.2.2.2.1.1; omega
    have hMe := mM s i k f e hs hi
    rw [hMe] at hM e5 ⊢
    refine ct_X12_level (by omega) hL1 (mS_c (fun a j q => g1 a j (by omega)) iS) (fun z => absurd ?_ z) (fun s' i' k' f' e' hs' hi' hk' hf' he' hfe' ex' ey' ez' eu' => ⟨fun h2 f2 hM2 => ?_, fun h2 f2 hM2 ls rows2 => ?_⟩)
    · rw [ev]
      subst ex ey ez eu
      have r1 := (iS.1.2.2 s hs).2.2.2
      refine ⟨(mSq iS.1).mpr ⟨s, i, k, hs, hi, hk, rfl, rfl, rfl⟩, ⟨nI_pos' (by omega), (nI_leI (b := 99) (by omega) (by decide)).mpr (by omega)⟩, ?_⟩
      rw [show (10 : Int32) = nI 10 from rfl, pk_div (by omega) (by decide) (by decide), pk_mul, pk_sub (by omega), nI_leI (by omega) (by omega)]
      omega
    · rw [eR] at hi'
      rw [eC] at hk'
      obtain ⟨rfl, rfl, rfl, rfl, rfl⟩ := inj s i k f e s' i' k' f' e' hs hi hk hf he hs' hi' hk' hf' he' (ex.symm.trans ex') (ey.symm.trans ey') (ez.symm.trans ez') (eu.symm.trans eu')
      rw [eC, eH] at hM2
      rw [hM2] at hM
      exact absurd hM Int32.lt_irrefl
    · rw [eR] at hi'
      rw [eC] at hk'
      obtain ⟨rfl, rfl, rfl, rfl, rfl⟩ := inj s i k f e s' i' k' f' e' hs hi hk hf he hs' hi' hk' hf' he' (ex.symm.trans ex') (ey.symm.trans ey') (ez.symm.trans ez') (eu.symm.trans eu')
      rw [eC, eH] at hM2 ls rows2 ⊢
      refine ⟨rfl, ?_⟩
      have f : ∀ a j, ¬ (a = 41 ∨ a = 42 ∨ a = 43 ∨ (a = 40 ∧ 4 ≤ j) ∨ a = 311 ∨ a = 312 ∨ a = 313 ∨ (a = 200 ∧ 7 ≤ j ∧ j ≤ 10)) → h2 a j = h a j := fun a j z => by rw [f2 a j (by unfold lvM; omega), g1 a j (by omega)]
      have k4 : ∀ a j, 40 ≤ a → a ≤ 43 → h2 a j = h1 a j := fun a j _ _ => f2 a j (by unfold lvM; omega)
      have fr : ∀ a j, ¬ (a = 40 ∧ j = 3) → (pv_up r 40 3 (cA s')) a j = r a j := fun a j z => by rw [pv_up, if_neg z]
      obtain ⟨u7, u8, u9, u10⟩ := ls
      refine ⟨ns, T, nh, na, tl, no, nd, st, hL1, iT, ⟨cpS_c (fun a j q => f a j (by omega)) (fun a j q => fr a j (by omega)) (fun _ _ => Or.inl rfl) iS, cpY_c n8 (fun a j q => f a j (by omega)) iYr, cpC_c (fun a a1 a2 => funext fun j => f a j (by omega)) iC, Or.inr ⟨u9, s', i', hs, ?_, u7, u8, pv_up_same _ _ _ _, by rw [k4 40 4 (by decide) (by decide)]; exact e4, by rw [k4 40 5 (by decide) (by decide), e5, u10], fun c hc => ?_⟩, mFr_c (fun a j q => f a j (by omega)) iF⟩, (cpP_c (fun a j q => f a j (by omega)) iP), (ivY_c (fun a j q => f a j (by omega)) iY), (cpH_c (fun a j q => f a j (by omega)) (fun j => fr _ j (by omega)) (fun _ _ => Or.inl rfl) iH), (ivA_c (fun a j q => f a j (by omega)) (fun a j q => fr a j (by omega)) (fun _ _ => Or.inl rfl) iA), (cpO_c (fun a j q => f a j (by omega)) (fun j => fr _ j (by omega)) (fun _ _ => Or.inl rfl) iO), (ivD_c (fun a j q => f a j (by omega)) iD), (ivL_c (fun a j q => f a j (by omega)) (fun _ => rfl) iLt)⟩
      · show i' < (h2 302 s').toNatClampNeg
        rw [f 302 s' (by omega)]; exact hi
      · have hc' : c < mC h s' := by rw [show mC h2 s' = mC h s' by show (h2 303 s').toNatClampNeg = _; rw [f 303 s' (by omega)]] at hc; exact hc
        obtain ⟨y1, y2⟩ := rows c hc'
        obtain ⟨y3, y4⟩ := rows2 c hc'
        have hp := (lv_p_c hM c hc').1
        rw [k4 42 c (by decide) (by decide), k4 43 c (by decide) (by decide), y1, y2, y3, y4, lv_p_o C0 eO c]
        exact ⟨eO c hc', rfl, nI_pos' (by omega), (nI_leI (b := 99) (by omega) (by decide)).mpr (by omega)⟩
theorem iv_street (hd : 75 ≤ d) (I : Inv L ty h r g) {x y z : Int32} : iv_ok Γ d 4 328 mX11_street mX12_street [.int x, .int y, .int z] L ty h r g := by
  obtain ⟨ns, T, nh, na, tl, no, nd, st, hL, iT, iSS, iP, iY, iH, iA, iO, iD, iLt⟩ := id I
  obtain ⟨iS, iYr, iC, iLv, iF⟩ := id iSS
  have n8 := iS.1.1
  refine ct_X11_street (by omega) hL n8 iS.2.1 (fun q => iT.2.1 ns (Nat.le_refl _) q) (fun q => ⟨_, rfl, hL, iT.1, ?_⟩) (fun q e => ⟨_, rfl, hL, iT.1, ?_⟩) (fun q lt R C R1 R2 C1 C2 ex ey ty1 h1 r1 g1 c => ?_)
  · refine pv_CT.mono (ct_X12_street (by omega) hL n8 iS.1.2.1) (fun v ty2 h2 r2 g2 p => ?_)
    obtain ⟨rfl, rfl, rfl, w2, rfl, p1, -⟩ := p
    obtain ⟨e1, e2⟩ := p1 q
    exact ⟨by rw [e1], by rw [e2]; exact I⟩
  · refine pv_CT.mono (ct_X12_street (by omega) hL n8 iS.1.2.1) (fun v ty2 h2 r2 g2 p => ?_)
    obtain ⟨rfl, rfl, rfl, w2, rfl, -, p2⟩ := p
    obtain ⟨e1, e2⟩ := (p2 q).1 e
    exact ⟨by rw [e1], by rw [e2]; exact I⟩
  · obtain ⟨hL1, ⟨c1, c2, c3, c4, c5⟩, ⟨c6, c7, c8, c9, c10⟩, c11, c12, c13, c14, c15, c16, c17, c18, c19⟩ := c
    obtain ⟨b, hb⟩ : ∃ b, b = cA ns := ⟨_, rfl⟩
    have hb2 : b = 1000 + 4 * ns := hb
    have ft : ∀ a, ¬ (b ≤ a ∧ a ≤ b + 3) → ty1 a = ty a := fun a z => c1 a (by omega) (by omega) (by omega) (by omega)
    have fr : ∀ a j, ¬ ((b ≤ a ∧ a ≤ b + 3) ∨ (a = 110 ∧ j = ns)) → r1 a j = r a j := fun a j z => c6 a j (by omega) (by omega) (by omega) (by omega) (by omega)
    have fg : ∀ a j, ¬ (b ≤ a ∧ a ≤ b + 3) → g1 a j = g a j := fun a j z => c11 a j (by omega) (by omega) (by omega) (by omega)
    have f1 : ∀ a j, ¬ ((b ≤ a ∧ a ≤ b + 3) ∨ (a = 100 ∧ j = 1)) → h1 a j = h a j := fun a j z => c12 a j (by omega) (by omega) (by omega) (by omega) (by omega)
    refine ⟨_, rfl, hL1, by rw [ft 1 (by omega)]; exact iT.1, ?_⟩
    refine pv_CT.mono (ct_X12_street (by omega) hL1 n8 (by rw [f1 200 1 (by omega)]; exact iS.1.2.1)) (fun v ty2 h2 r2 g2 p => ?_)
    obtain ⟨rfl, rfl, rfl, w2, rfl, -, p2⟩ := p
    obtain ⟨e1, e2⟩ := (p2 q).2 lt
    refine ⟨by rw [e1], ?_⟩
    unfold fp_street at e2
    have k0 : ∀ a j, ¬ ((a = 302 ∧ j = ns) ∨ (a = 303 ∧ j = ns) ∨ (a = 304 ∧ 144 * ns ≤ j ∧ j < 144 * ns + 144) ∨ (a = 200 ∧ j = 1)) → h2 a j = h1 a j := fun a j z => by rw [e2, pv_up, if_neg (by omega), pf_fill, if_neg (by omega), pv_up, if_neg (by omega), pv_up, if_neg (by omega)]
    have f : ∀ a j, ¬ ((b ≤ a ∧ a ≤ b + 3) ∨ (a = 100 ∧ j = 1) ∨ (a = 302 ∧ j = ns) ∨ (a = 303 ∧ j = ns) ∨ (a = 304 ∧ 144 * ns ≤ j ∧ j < 144 * ns + 144) ∨ (a = 200 ∧ j = 1)) → h2 a j = h a j := fun a j z => by rw [k0 a j (by omega), f1 a j (by omega)]
    have v1 : h2 200 1 = nI (ns + 1) := by rw [e2, pv_up_same]
    have v2 : h2 302 ns = nI R := by rw [e2, pv_up_a (by decide), pf_fill, if_neg (by omega), pv_up_a (by decide), pv_up_same]; exact ex
    have v3 : h2 303 ns = nI C := by rw [e2, pv_up_a (by decide), pf_fill, if_neg (by omega), pv_up_same]; exact ey
    have v4 : ∀ j, 144 * ns ≤ j → j < 144 * ns + 144 → h2 304 j = z := fun j j1 j2 => by rw [e2, pv_up_a (by decide), pf_fill, if_pos ⟨rfl, j1, j2⟩]
    obtain ⟨x1, x2, x3, x4, x5, x6⟩ := iF ns (Nat.le_refl _) lt
    have v5 : ∀ k, k < 144 → h2 305 (144 * ns + k) = 0 := fun k hk => by rw [f 305 _ (by omega)]; exact x6 k hk
    have kb : ∀ a j, b ≤ a → a ≤ b + 3 → h2 a j = h1 a j := fun a j _ _ => k0 a j (by omega)
    have mRn : mR h2 ns = R := by show (h2 302 ns).toNatClampNeg = R; rw [v2, nI_clamp (by omega)]
    have mCn : mC h2 ns = C := by show (h2 303 ns).toNatClampNeg = C; rw [v3, nI_clamp (by omega)]
    have hz : 0 ≤ z ∧ z ≤ 99 := q.2.2
    have hix : ∀ i c, i < R → c < C → i * C + c < R * C := fun i c hi hc => by
      have := Nat.mul_le_mul_right C (show i + 1 ≤ R from hi)
      rw [Nat.add_mul, Nat.one_mul] at this
      omega
    rw [← hb] at c2 c3 c4 c5 c7 c8 c9 c10 c14 c15 c16 c17 c18 c19
    have new1 : cpS1 ty2 h2 r2 ns := by
      unfold cpS1
      rw [mRn, mCn, ← hb]
      refine ⟨⟨lt, v2, v3, ⟨R1, R2⟩, ⟨C1, C2⟩, fun p hp => ?_, fun i c hi hc => ?_⟩, c7, ⟨by omega, c2, by rw [kb b 0 (by omega) (by omega)]; exact c14, by rw [kb b 1 (by omega) (by omega)]; exact c15, ⟨R1, R2⟩, ⟨C1, C2⟩, ⟨c8, c9, c10⟩, ⟨c3, c4, c5⟩, fun p hp => ?_⟩, fun p hp => ⟨?_, ?_⟩⟩
      · obtain ⟨p1, p3⟩ := hp
        rw [show mH h2 ns p.1 p.2 = z from v4 _ (by omega) (by omega)]; exact hz
      · exact Or.inl ((by rw [show mD h2 ns i c = h2 305 (144 * ns + (9 * i + c)) from by rw [← Nat.add_assoc]]; exact v5 _ (by omega)) : mD h2 ns i c = 0)
      · rw [show cH h2 b C p.1 p.2 = z from (kb (b + 1) _ (by omega) (by omega)).trans (c17 _ (hix _ _ hp.1 hp.2))]; exact hz
      · obtain ⟨p1, p3⟩ := id hp
        rw [show cH h2 b C p.1 p.2 = z from (kb (b + 1) _ (by omega) (by omega)).trans (c17 _ (hix _ _ hp.1 hp.2)), show mH h2 ns p.1 p.2 = z from v4 _ (by omega) (by omega)]
      · obtain ⟨p1, p3⟩ := id hp
        rw [show cD h2 b C p.1 p.2 = 0 from (kb (b + 2) _ (by omega) (by omega)).trans (c18 _), show mD h2 ns p.1 p.2 = h2 305 (144 * ns + (9 * p.1 + p.2)) from by rw [← Nat.add_assoc]]
        exact (v5 _ (by omega)).symm
    refine ⟨ns + 1, T, nh, na, tl, no, nd, st, hL1, ⟨by rw [ft 1 (by omega)]; exact iT.1, fun s s1 s2 t t1 => by rw [ft _ (by unfold cA; omega)]; exact iT.2.1 s (by omega) s2 t t1, fun i i1 i2 => by rw [ft _ (by unfold hA; omega)]; exact iT.2.2.1 i i1 i2, fun i i1 i2 => by rw [ft _ (by unfold aA; omega), ft _ (by unfold aA; omega)]; exact iT.2.2.2.1 i i1 i2, fun i i1 i2 => by rw [ft _ (by unfold oA; omega)]; exact iT.2.2.2.2 i i1 i2⟩, ⟨cpS_of (by omega) v1 (by rw [k0 100 1 (by omega)]; exact c13) (fun s hs => ?_), ⟨mYr_c (f 200 19 (by omega)) (fun a a1 a2 => funext fun j => f a j (by omega)) iYr.1, by rw [f 100 5 (by omega)]; exact iYr.2.1, fun s hs => ?_⟩, cpC_c (fun a a1 a2 => funext fun j => f a j (by omega)) iC, ?_, fun s s1 s2 => ?_⟩, (cpP_c (fun a j q => f a j (by omega)) iP), (ivY_c (fun a j q => f a j (by omega)) iY), (cpH_c (fun a j q => f a j (by omega)) (fun j => fr _ j (by omega)) (fun a q => Or.inl (ft a (by omega))) iH), (ivA_c (fun a j q => f a j (by omega)) (fun a j q => fr a j (by omega)) (fun a q => Or.inl (ft a (by omega))) iA), (cpO_c (fun a j q => f a j (by omega)) (fun j => fr _ j (by omega)) (fun a q => Or.inl (ft a (by omega))) iO), (ivD_c (fun a j q => f a j (by omega)) iD), (ivL_c (fun a j q => f a j (by omega)) (fun j => fg 91 j (by omega)) iLt)⟩
    · by_cases e : s = ns
      · rw [e]; exact new1
      · exact cpS1_c (by omega) (fun a j q => f a j (by omega)) (fun a j q => fr a j (by omega)) (fun a q => ft a (by omega)) (cpS_1 iS (by omega))
    · by_cases e : s = ns
      · subst e
        rw [← hb]
        refine ⟨fun y hy => ?_, ?_, ?_, ?_, ?_⟩
        · unfold wT
          rw [kb (b + 3) y (by omega) (by omega), c19 y hy, f 320 _ (by omega), x1 y hy, if_pos rfl]
        · rw [kb b 5 (by omega) (by omega), c16 5 (by decide), f 322 s (by omega), x2]
        · rw [kb b 6 (by omega) (by omega), c16 6 (by decide), f 323 s (by omega), x3]
        · rw [kb b 7 (by omega) (by omega), c16 7 (by decide), f 324 s (by omega), x4]
        · rw [kb b 8 (by omega) (by omega), c16 8 (by decide), f 325 s (by omega), x5]
      · obtain ⟨y1, y2, y3, y4, y5⟩ := iYr.2.2 s (by omega)
        refine ⟨fun y hy => ?_, ?_, ?_, ?_, ?_⟩
        · unfold wT
          rw [f _ y (by unfold cA; omega), f 320 _ (by omega), f 321 _ (by omega)]; exact y1 y hy
        · rw [f _ 5 (by unfold cA; omega), f 322 s (by omega)]; exact y2
        · rw [f _ 6 (by unfold cA; omega), f 323 s (by omega)]; exact y3
        · rw [f _ 7 (by unfold cA; omega), f 324 s (by omega)]; exact y4
        · rw [f _ 8 (by unfold cA; omega), f 325 s (by omega)]; exact y5
    · rcases id iLv with ⟨l1, l2⟩ | ⟨l1, s, i, hs, hi, l2, l3, l4, l5, l6, l7⟩
      · exact Or.inl ⟨(f 200 9 (by omega)).trans l1, (fr 40 3 (by omega)).trans l2⟩
      · refine Or.inr ⟨(f 200 9 (by omega)).trans l1, s, i, by omega, ?_, (f 200 7 (by omega)).trans l2, (f 200 8 (by omega)).trans l3, (fr 40 3 (by omega)).trans l4, (f 40 4 (by omega)).trans l5, ?_, fun c hc => ?_⟩
        · show i < (h2 302 s).toNatClampNeg
          rw [f 302 s (by omega)]; exact hi
        · rw [f 40 5 (by omega), f 200 10 (by omega)]; exact l6
        · have hc' : c < mC h s := by rw [show mC h2 s = mC h s by show (h2 303 s).toNatClampNeg = _; rw [f 303 s (by omega)]] at hc; exact hc
          rw [f 42 c (by omega), f 43 c (by omega), f 311 c (by omega), f 312 c (by omega)]
          exact l7 c hc'
    · obtain ⟨y1, y2, y3, y4, y5, y6⟩ := iF s (by omega) s2
      exact ⟨fun y hy => by rw [f 320 _ (by omega)]; exact y1 y hy, by rw [f 322 _ (by omega)]; exact y2, by rw [f 323 _ (by omega)]; exact y3, by rw [f 324 _ (by omega)]; exact y4, by rw [f 325 _ (by omega)]; exact y5, fun k hk => by rw [f 305 _ (by omega)]; exact y6 k hk⟩
end OF
