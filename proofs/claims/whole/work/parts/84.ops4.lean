/-! wheels pave cost plan keep the invariant -/
theorem cpS_fr2 {ty : pv_T} {h h' : pv_H} {r : pv_R} {ns : Nat} (hI : cpS ty h r ns) (e1 : h' 100 1 = h 100 1) (e2 : h' 200 1 = h 200 1) (e3 : h' 302 = h 302) (e4 : h' 303 = h 303) (e5 : h' 304 = h 304) (e6 : h' 305 = h 305) (e0 : ∀ s, s < ns → h' (cA s) 0 = h (cA s) 0 ∧ h' (cA s) 1 = h (cA s) 1) (e7 : ∀ s, s < ns → ∀ t, 1 ≤ t → t < 3 → h' (cA s + t) = h (cA s + t)) : cpS ty h' r ns := by
  obtain ⟨⟨h8, hn, hs⟩, hc, hq⟩ := hI
  have f1 : ∀ s, mR h' s = mR h s := fun s => by show (h' 302 s).toNatClampNeg = _; rw [e3]
  have f2 : ∀ s, mC h' s = mC h s := fun s => by show (h' 303 s).toNatClampNeg = _; rw [e4]
  have f3 : ∀ s, mH h' s = mH h s := fun s => by funext i j; show h' 304 _ = _; rw [e5]
  have f4 : ∀ s, mD h' s = mD h s := fun s => by funext i j; show h' 305 _ = _; rw [e6]
  refine ⟨⟨h8, e2.trans hn, fun s hs' => ?_⟩, e1.trans hc, fun s hs' => ?_⟩
  · obtain ⟨a1, a2, a3, a4, a5, a6, a7⟩ := hs s hs'
    rw [f1, f2]
    refine ⟨a1, by rw [e3]; exact a2, by rw [e4]; exact a3, a4, a5, by rw [f3]; exact a6, fun i j hi hj => ?_⟩
    rw [show mD h' s i j = mD h s i j from congrFun (congrFun (f4 s) i) j]
    exact a7 i j hi hj
  · obtain ⟨b1, b2, b3⟩ := hq s hs'
    obtain ⟨a1, a2, a3, a4, a5, a6, a7, a8, a9⟩ := b2
    have g1 := e7 s hs' 1 (by decide) (by decide)
    have g2 := e7 s hs' 2 (by decide) (by decide)
    rw [f1, f2]
    have f5 : cH h' (cA s) (mC h s) = cH h (cA s) (mC h s) := by funext i j; show h' (cA s + 1) _ = _; rw [g1]
    have f6 : cD h' (cA s) (mC h s) = cD h (cA s) (mC h s) := by funext i j; show h' (cA s + 2) _ = _; rw [g2]
    refine ⟨b1, ⟨a1, a2, (e0 s hs').1.trans a3, (e0 s hs').2.trans a4, a5, a6, a7, a8, by rw [f5]; exact a9⟩, fun q hq' => ?_⟩
    rw [show cH h' (cA s) (mC h s) q.1 q.2 = cH h (cA s) (mC h s) q.1 q.2 from congrFun (congrFun f5 q.1) q.2, show cD h' (cA s) (mC h s) q.1 q.2 = cD h (cA s) (mC h s) q.1 q.2 from congrFun (congrFun f6 q.1) q.2, show mH h' s q.1 q.2 = mH h s q.1 q.2 from congrFun (congrFun (f3 s) q.1) q.2, show mD h' s q.1 q.2 = mD h s q.1 q.2 from congrFun (congrFun (f4 s) q.1) q.2]
    exact b3 q hq'
section OE
variable {Γ : pv_C} {d L : Nat} {ty : pv_T} {h : pv_H} {r : pv_R} {g : pv_G}
theorem st_x {ns : Nat} {x : Int32} (hS : mStreets h ns) (q : 0 ≤ x ∧ x ≤ h 200 1 - 1) : ∃ s, s < ns ∧ x = nI s := by
  rw [hS.2.1] at q
  exact (ni_valid (by have := hS.1; omega)).mp q
theorem mS_c {h' : pv_H} {ns : Nat} (f : ∀ a j, ((a = 200 ∧ j = 1) ∨ (302 ≤ a ∧ a ≤ 305)) → h' a j = h a j) (x : cpS ty h r ns) : mStreets h' ns := by
  have y : cpS ty (fun a j => if a = 100 ∨ 1000 ≤ a then h a j else h' a j) r ns := cpS_c (fun a j q => by
    show (if _ then _ else _) = _
    split
    · rfl
    · exact f a j (by omega)) (fun _ _ _ => rfl) (fun _ _ => Or.inl rfl) x
  exact y.1
theorem iv_wheels (hd : 75 ≤ d) (I : Inv L ty h r g) {x y z : Int32} : iv_ok Γ d 0 0 mX11_wheels mX12_wheels [.int x, .int y, .int z] L ty h r g := by
  obtain ⟨ns, T, nh, na, tl, no, nd, st, hL, iT, iSS, iP, iY, iH, iA, iO, iD, iLt⟩ := id I
  obtain ⟨iS, iYr, iC, iLv, iF⟩ := id iSS
  have n8 := iS.1.1
  refine iv_JJ I (ct_X11_wheels (by omega) hL iS iYr) (fun w h1 q1 => ?_)
  by_cases q : fo_wheels h T x y z
  · obtain ⟨s, hs, rfl⟩ := st_x iS.1 q.1
    obtain ⟨Y, hY0, rfl⟩ := nI_of (x := y) (Int32.not_lt.mpr q.2.1.1)
    obtain ⟨⟨t1, t2, t3⟩, t4, t5⟩ := id iYr
    have hY : Y ≤ T := (nI_leI hY0 (by omega)).mp q.2.1.2
    obtain ⟨p1, p2⟩ := q1.2 q
    have p2 := p2 s Y hs hY rfl rfl
    have hb : 1000 ≤ cA s ∧ cA s + 3 < 1032 := by unfold cA; omega
    have f1 : ∀ a j, a ≠ cA s + 3 → h1 a j = h a j := fun a j z => by rw [p2, pv_up_a z]
    have M1 : mYr h1 T := mYr_c (f1 200 19 (by omega)) (fun a a1 a2 => funext fun j => f1 a j (by omega)) iYr.1
    refine pv_CJ.mono (ct_X12_wheels (by omega) hL (mS_c (fun a j q => f1 a j (by omega)) iS) M1) (fun w2 h2 q2 => ?_)
    obtain ⟨p3, p4⟩ := q2.2 (by unfold fo_wheels; rw [f1 200 1 (by omega)]; exact q)
    have p4 := p4 s Y hs hY rfl rfl
    refine ⟨by rw [p1, p3], ?_⟩
    have f : ∀ a j, ¬ ((a = cA s + 3 ∧ j = Y) ∨ ((a = 320 ∨ a = 321) ∧ j = 31 * s + Y)) → h2 a j = h a j := fun a j z => by rw [p4, pv_up, if_neg (by omega), pv_up, if_neg (by omega), p2, pv_up, if_neg (by omega)]
    have c0 : h2 320 (31 * s + Y) = if z < 0 then 0 else 1 := by rw [p4, pv_up_a (by decide), pv_up_same]
    have c1 : h2 321 (31 * s + Y) = z := by rw [p4, pv_up_same]
    have c3 : h2 (cA s + 3) Y = z := by rw [p4, pv_up_a (by omega), pv_up_a (by omega), p2, pv_up_same]
    have zn : z < 0 → z = -1 := fun z0 => by
      have a := Int32.lt_iff_toInt_lt.mp z0
      have b := Int32.le_iff_toInt_le.mp q.2.2.1
      rw [show (0 : Int32).toInt = 0 from rfl] at a
      rw [show (-1 : Int32).toInt = -1 from rfl] at b
      exact Int32.toInt_inj.mp (show z.toInt = (-1 : Int32).toInt from (by omega : z.toInt = -1).trans rfl)
    refine ⟨ns, T, nh, na, tl, no, nd, st, hL, iT, ⟨cpS_fr2 iS (f 100 1 (by omega)) (f 200 1 (by omega)) (funext fun j => f 302 j (by omega)) (funext fun j => f 303 j (by omega)) (funext fun j => f 304 j (by omega)) (funext fun j => f 305 j (by omega)) (fun s h => ⟨f _ 0 (by unfold cA; omega), f _ 1 (by unfold cA; omega)⟩) (fun s h t t1 t2 => funext fun j => f _ j (by unfold cA; omega)), ⟨⟨t1, by rw [f 200 19 (by omega)]; exact t2, fun s1 hs1 => ?_⟩, by rw [f 100 5 (by omega)]; exact t4, fun s1 hs1 => ?_⟩, fun s1 h1 => by rw [f 323 s1 (by omega), f 324 s1 (by omega)]; exact iC s1 h1, cpL_c (fun a j q => f a j (by omega)) rfl iLv, fun s1 h1 h2 => ?_⟩, (cpP_c (fun a j q => f a j (by omega)) iP), (ivY_c (fun a j q => f a j (by omega)) iY), (cpH_c (fun a j q => f a j (by omega)) (fun _ => rfl) (fun _ _ => Or.inl rfl) iH), (ivA_c (fun a j q => f a j (by omega)) (fun _ _ _ => rfl) (fun _ _ => Or.inl rfl) iA), (cpO_c (fun a j q => f a j (by omega)) (fun _ => rfl) (fun _ _ => Or.inl rfl) iO), (ivD_c (fun a j q => f a j (by omega)) iD), (ivL_c (fun a j q => f a j (by omega)) (fun _ => rfl) iLt)⟩
    · obtain ⟨x1, p, x2, x3⟩ := t3 s1 hs1
      refine ⟨fun y hy => ?_, p, x2, by rw [f 322 s1 (by omega)]; exact x3⟩
      by_cases e : 31 * s1 + y = 31 * s + Y
      · rw [e, c0, c1]
        by_cases z0 : z < 0
        · rw [if_pos z0]; exact ⟨Or.inl rfl, fun w => absurd rfl w⟩
        · rw [if_neg z0]; exact ⟨Or.inr rfl, fun _ w => z0 (by rw [w]; decide)⟩
      · rw [f 320 _ (by omega), f 321 _ (by omega)]; exact x1 y hy
    · obtain ⟨y1, y2, y3, y4, y5⟩ := t5 s1 hs1
      refine ⟨fun y hy => ?_, ?_, ?_, ?_, ?_⟩
      · by_cases e : 31 * s1 + y = 31 * s + Y
        · have e1 : s1 = s := by omega
          have e2 : y = Y := by omega
          subst e1 e2
          unfold wT
          rw [c3, c0, c1]
          by_cases z0 : z < 0
          · rw [if_pos z0, if_pos rfl]; exact zn z0
          · rw [if_neg z0, if_neg (by decide)]
        · unfold wT
          rw [f 320 _ (by omega), f 321 _ (by omega), f _ y (by unfold cA; omega)]; exact y1 y hy
      · rw [f _ 5 (by unfold cA; omega), f 322 s1 (by omega)]; exact y2
      · rw [f _ 6 (by unfold cA; omega), f 323 s1 (by omega)]; exact y3
      · rw [f _ 7 (by unfold cA; omega), f 324 s1 (by omega)]; exact y4
      · rw [f _ 8 (by unfold cA; omega), f 325 s1 (by omega)]; exact y5
    · obtain ⟨x1, x2, x3, x4, x5, x6⟩ := iF s1 h1 h2
      exact ⟨fun y hy => by rw [f 320 _ (by omega)]; exact x1 y hy, by rw [f 322 _ (by omega)]; exact x2, by rw [f 323 _ (by omega)]; exact x3, by rw [f 324 _ (by omega)]; exact x4, by rw [f 325 _ (by omega)]; exact x5, fun k hk => by rw [f 305 _ (by omega)]; exact x6 k hk⟩
  · obtain ⟨p1, p2⟩ := q1.1 q
    rw [p2]
    refine pv_CJ.mono (ct_X12_wheels (by omega) hL iS.1 iYr.1) (fun w2 h2 q2 => ?_)
    obtain ⟨p3, p4⟩ := q2.1 q
    exact ⟨by rw [p1, p3], by rw [p4]; exact I⟩
theorem iv_pave (hd : 75 ≤ d) (I : Inv L ty h r g) {x : Int32} : iv_ok Γ d 0 0 mX11_pave mX12_pave [.int x] L ty h r g := by
  obtain ⟨ns, T, nh, na, tl, no, nd, st, hL, iT, iSS, iP, iY, iH, iA, iO, iD, iLt⟩ := id I
  obtain ⟨iS, iYr, iC, iLv, iF⟩ := id iSS
  have n8 := iS.1.1
  refine iv_JJ I (ct_X11_pave (by omega) hL iS iYr) (fun w h1 q1 => ?_)
  by_cases q : 0 ≤ x ∧ x ≤ h 200 1 - 1
  · have q0 := q
    obtain ⟨s, hs, rfl⟩ := st_x iS.1 q
    obtain ⟨⟨t1, t2, t3⟩, t4, t5⟩ := id iYr
    obtain ⟨p1, -, p2⟩ := q1
    have p2 := p2 s hs rfl
    have hb : 1000 ≤ cA s ∧ cA s + 3 < 1032 := by unfold cA; omega
    have f1 : ∀ a j, a ≠ cA s → h1 a j = h a j := fun a j z => by rw [p2, pv_up_a z]
    have e32 : ∀ a, 320 ≤ a → a ≤ 325 → h1 a = h a := fun a a1 a2 => funext fun j => f1 a j (by omega)
    have M1 : mYr h1 T := mYr_c (f1 200 19 (by omega)) e32 iYr.1
    refine pv_CJ.mono (ct_X12_pave (by omega) hL (mS_c (fun a j q => f1 a j (by omega)) iS) M1) (fun w2 h2 q2 => ?_)
    obtain ⟨p3, -, p4⟩ := q2
    have p4 := p4 s hs rfl
    refine ⟨?_, ?_⟩
    · rw [p1, p3]
      unfold fn_pave
      rw [f1 200 1 (by omega), f1 200 19 (by omega), if_pos q0, if_pos q0]
      exact mWear_c (f1 200 19 (by omega)) e32 _ _
    have f : ∀ a j, ¬ ((a = cA s ∧ j = 5) ∨ (a = 322 ∧ j = s)) → h2 a j = h a j := fun a j z => by rw [p4, pv_up, if_neg (by omega), p2, pv_up, if_neg (by omega)]
    have c0 : h2 322 s = nI T := by rw [p4, pv_up_same]
    have c1 : h2 (cA s) 5 = nI T := by rw [p4, pv_up_a (by omega), p2, pv_up_same]
    refine ⟨ns, T, nh, na, tl, no, nd, st, hL, iT, ⟨cpS_fr2 iS (f 100 1 (by omega)) (f 200 1 (by omega)) (funext fun j => f 302 j (by omega)) (funext fun j => f 303 j (by omega)) (funext fun j => f 304 j (by omega)) (funext fun j => f 305 j (by omega)) (fun s h => ⟨f _ 0 (by unfold cA; omega), f _ 1 (by unfold cA; omega)⟩) (fun s h t t1 t2 => funext fun j => f _ j (by unfold cA; omega)), ⟨⟨t1, by rw [f 200 19 (by omega)]; exact t2, fun s1 hs1 => ?_⟩, by rw [f 100 5 (by omega)]; exact t4, fun s1 hs1 => ?_⟩, fun s1 h1 => by rw [f 323 s1 (by omega), f 324 s1 (by omega)]; exact iC s1 h1, cpL_c (fun a j q => f a j (by omega)) rfl iLv, fun s1 h1 h2 => ?_⟩, (cpP_c (fun a j q => f a j (by omega)) iP), (ivY_c (fun a j q => f a j (by omega)) iY), (cpH_c (fun a j q => f a j (by omega)) (fun _ => rfl) (fun _ _ => Or.inl rfl) iH), (ivA_c (fun a j q => f a j (by omega)) (fun _ _ _ => rfl) (fun _ _ => Or.inl rfl) iA), (cpO_c (fun a j q => f a j (by omega)) (fun _ => rfl) (fun _ _ => Or.inl rfl) iO), (ivD_c (fun a j q => f a j (by omega)) iD), (ivL_c (fun a j q => f a j (by omega)) (fun _ => rfl) iLt)⟩
    · obtain ⟨x1, p, x2, x3⟩ := t3 s1 hs1
      rw [show h2 320 = h 320 from funext fun j => f 320 j (by omega), show h2 321 = h 321 from funext fun j => f 321 j (by omega)]
      refine ⟨x1, ?_⟩
      by_cases e : s1 = s
      · exact ⟨T, Nat.le_refl _, by rw [e]; exact c0⟩
      · exact ⟨p, x2, by rw [f 322 s1 (by omega)]; exact x3⟩
    · obtain ⟨y1, y2, y3, y4, y5⟩ := t5 s1 hs1
      refine ⟨fun y hy => ?_, ?_, ?_, ?_, ?_⟩
      · unfold wT
        rw [f 320 _ (by omega), f 321 _ (by omega), f _ y (by unfold cA; omega)]; exact y1 y hy
      · by_cases e : s1 = s
        · rw [e, c0, c1]
        · rw [f _ 5 (by unfold cA; omega), f 322 s1 (by omega)]; exact y2
      · rw [f _ 6 (by unfold cA; omega), f 323 s1 (by omega)]; exact y3
      · rw [f _ 7 (by unfold cA; omega), f 324 s1 (by omega)]; exact y4
      · rw [f _ 8 (by unfold cA; omega), f 325 s1 (by omega)]; exact y5
    · obtain ⟨x1, x2, x3, x4, x5, x6⟩ := iF s1 h1 h2
      exact ⟨fun y hy => by rw [f 320 _ (by omega)]; exact x1 y hy, by rw [f 322 _ (by omega)]; exact x2, by rw [f 323 _ (by omega)]; exact x3, by rw [f 324 _ (by omega)]; exact x4, by rw [f 325 _ (by omega)]; exact x5, fun k hk => by rw [f 305 _ (by omega)]; exact x6 k hk⟩
  · obtain ⟨p1, p2, -⟩ := q1
    rw [p2 q]
    refine pv_CJ.mono (ct_X12_pave (by omega) hL iS.1 iYr.1) (fun w2 h2 q2 => ?_)
    obtain ⟨p3, p4, -⟩ := q2
    exact ⟨by rw [p1, p3], by rw [p4 q]; exact I⟩
theorem iv_cost (hd : 75 ≤ d) (I : Inv L ty h r g) {x y z u : Int32} : iv_ok Γ d 0 0 mX11_cost mX12_cost [.int x, .int y, .int z, .int u] L ty h r g := by
  obtain ⟨ns, T, nh, na, tl, no, nd, st, hL, iT, iSS, iP, iY, iH, iA, iO, iD, iLt⟩ := id I
  obtain ⟨iS, iYr, iC, iLv, iF⟩ := id iSS
  have n8 := iS.1.1
  refine iv_JJ I (ct_X11_cost (by omega) hL iS) (fun w h1 q1 => ?_)
  by_cases q : fo_cost h x y z u
  · obtain ⟨s, hs, rfl⟩ := st_x iS.1 q.1
    obtain ⟨⟨t1, t2, t3⟩, t4, t5⟩ := id iYr
    obtain ⟨p1, p2⟩ := q1.2 q
    have p2 := p2 s hs rfl
    have hb : 1000 ≤ cA s ∧ cA s + 3 < 1032 := by unfold cA; omega
    have f1 : ∀ a j, a ≠ cA s → h1 a j = h a j := fun a j z => by rw [p2, pv_up_a z, pv_up_a z, pv_up_a z]
    refine pv_CJ.mono (ct_X12_cost (by omega) hL (mS_c (fun a j q => f1 a j (by omega)) iS)) (fun w2 h2 q2 => ?_)
    obtain ⟨p3, p4⟩ := q2.2 (by unfold fo_cost; rw [f1 200 1 (by omega)]; exact q)
    have p4 := p4 s hs rfl
    refine ⟨by rw [p1, p3], ?_⟩
    have f : ∀ a j, ¬ ((a = cA s ∧ 6 ≤ j ∧ j ≤ 8) ∨ (323 ≤ a ∧ a ≤ 325 ∧ j = s)) → h2 a j = h a j := fun a j z => by rw [p4, pv_up, if_neg (by omega), pv_up, if_neg (by omega), pv_up, if_neg (by omega), p2, pv_up, if_neg (by omega), pv_up, if_neg (by omega), pv_up, if_neg (by omega)]
    have c3 : h2 323 s = y := by rw [p4, pv_up_a (by decide), pv_up_a (by decide), pv_up_same]
    have c4 : h2 324 s = z := by rw [p4, pv_up_a (by decide), pv_up_same]
    have c5 : h2 325 s = u := by rw [p4, pv_up_same]
    have d3 : h2 (cA s) 6 = y := by rw [p4, pv_up_a (by omega), pv_up_a (by omega), pv_up_a (by omega), p2, pv_up_j (by decide), pv_up_j (by decide), pv_up_same]
    have d4 : h2 (cA s) 7 = z := by rw [p4, pv_up_a (by omega), pv_up_a (by omega), pv_up_a (by omega), p2, pv_up_j (by decide), pv_up_same]
    have d5 : h2 (cA s) 8 = u := by rw [p4, pv_up_a (by omega), pv_up_a (by omega), pv_up_a (by omega), p2, pv_up_same]
    refine ⟨ns, T, nh, na, tl, no, nd, st, hL, iT, ⟨cpS_fr2 iS (f 100 1 (by omega)) (f 200 1 (by omega)) (funext fun j => f 302 j (by omega)) (funext fun j => f 303 j (by omega)) (funext fun j => f 304 j (by omega)) (funext fun j => f 305 j (by omega)) (fun s h => ⟨f _ 0 (by unfold cA; omega), f _ 1 (by unfold cA; omega)⟩) (fun s h t t1 t2 => funext fun j => f _ j (by unfold cA; omega)), ⟨⟨t1, by rw [f 200 19 (by omega)]; exact t2, fun s1 hs1 => ?_⟩, by rw [f 100 5 (by omega)]; exact t4, fun s1 hs1 => ?_⟩, fun s1 hs1 => ?_, cpL_c (fun a j q => f a j (by omega)) rfl iLv, fun s1 h1 h2 => ?_⟩, (cpP_c (fun a j q => f a j (by omega)) iP), (ivY_c (fun a j q => f a j (by omega)) iY), (cpH_c (fun a j q => f a j (by omega)) (fun _ => rfl) (fun _ _ => Or.inl rfl) iH), (ivA_c (fun a j q => f a j (by omega)) (fun _ _ _ => rfl) (fun _ _ => Or.inl rfl) iA), (cpO_c (fun a j q => f a j (by omega)) (fun _ => rfl) (fun _ _ => Or.inl rfl) iO), (ivD_c (fun a j q => f a j (by omega)) iD), (ivL_c (fun a j q => f a j (by omega)) (fun _ => rfl) iLt)⟩
    · rw [show h2 320 = h 320 from funext fun j => f 320 j (by omega), show h2 321 = h 321 from funext fun j => f 321 j (by omega), f 322 s1 (by omega)]
      exact t3 s1 hs1
    · obtain ⟨y1, y2, y3, y4, y5⟩ := t5 s1 hs1
      refine ⟨fun y hy => ?_, ?_, ?_⟩
      · unfold wT
        rw [f 320 _ (by omega), f 321 _ (by omega), f _ y (by unfold cA; omega)]; exact y1 y hy
      · rw [f _ 5 (by unfold cA; omega), f 322 s1 (by omega)]; exact y2
      · by_cases e : s1 = s
        · rw [e, c3, c4, c5, d3, d4, d5]; exact ⟨rfl, rfl, rfl⟩
        · rw [f _ 6 (by unfold cA; omega), f 323 s1 (by omega), f _ 7 (by unfold cA; omega), f 324 s1 (by omega), f _ 8 (by unfold cA; omega), f 325 s1 (by omega)]; exact ⟨y3, y4, y5⟩
    · by_cases e : s1 = s
      · obtain ⟨a, ha, rfl⟩ := nI_of (x := y) (Int32.not_lt.mpr (Int32.le_trans (by decide) q.2.1.1))
        obtain ⟨b, hb', rfl⟩ := nI_of (x := z) (Int32.not_lt.mpr q.2.2.1.1)
        exact ⟨a, b, (nI_leI hb' ha).mp q.2.2.1.2, (nI_leI (b := 9999) ha (by decide)).mp q.2.1.2, by rw [e]; exact c3, by rw [e]; exact c4⟩
      · rw [f 323 s1 (by omega), f 324 s1 (by omega)]; exact iC s1 hs1
    · obtain ⟨x1, x2, x3, x4, x5, x6⟩ := iF s1 h1 h2
      exact ⟨fun y hy => by rw [f 320 _ (by omega)]; exact x1 y hy, by rw [f 322 _ (by omega)]; exact x2, by rw [f 323 _ (by omega)]; exact x3, by rw [f 324 _ (by omega)]; exact x4, by rw [f 325 _ (by omega)]; exact x5, fun k hk => by rw [f 305 _ (by omega)]; exact x6 k hk⟩
  · obtain ⟨p1, p2⟩ := q1.1 q
    rw [p2]
    refine pv_CJ.mono (ct_X12_cost (by omega) hL iS.1) (fun w2 h2 q2 => ?_)
    obtain ⟨p3, p4⟩ := q2.1 q
    exact ⟨by rw [p1, p3], by rw [p4]; exact I⟩
theorem iv_plan (hd : 75 ≤ d) (I : Inv L ty h r g) {x y z u v : Int32} : iv_ok Γ d 0 0 mX11_plan mX12_plan [.int x, .int y, .int z, .int u, .int v] L ty h r g := by
  obtain ⟨ns, T, nh, na, tl, no, nd, st, hL, iT, iSS, iP, iY, iH, iA, iO, iD, iLt⟩ := id I
  obtain ⟨iS, iYr, iC, iLv, iF⟩ := id iSS
  refine ct_X11_plan (by omega) hL iS iYr iC (fun q => ⟨_, rfl, hL, iT.1, ct_X12_plan (by omega) hL iS.1 iYr.1 iC (fun _ => ⟨rfl, I⟩) (fun z => absurd z q)⟩) (fun q N n ex hN ey n1 n3 h1 f1 t1 => ⟨_, rfl, hL, iT.1, ?_⟩)
  have e3 := qpA_e f1
  have e19 : h1 200 19 = h 200 19 := f1 200 19 (by unfold qpA; omega)
  have hok : ∀ N, qp_ok h1 ns N ↔ qp_ok h ns N := fun N => by unfold qp_ok; rw [e3 323 (by decide) (by decide)]
  have q' : fo_plan h1 ns x y z u v := ⟨⟨N, ex, (hok N).mpr hN⟩, q.2⟩
  have eW : qp_W h1 T = qp_W h T := by funext i y; exact mWear_c e19 e3 i _
  have eP : qp_P h1 T = qp_P h T := by funext i y; show Int32.toNatClampNeg _ = _; rw [mCost_c e3]
  have eB : ∀ N n, qp_B h1 T N n z u v = qp_B h T N n z u v := fun N n => by unfold qp_B; rw [eW, eP]
  refine ct_X12_plan (by omega) hL (mS_c (fun a j q => f1 a j (by unfold qpA; omega)) iS) (mYr_c e19 e3 iYr.1) (cpC_c e3 iC) (fun z => absurd q' z) (fun _ N2 n2 ex2 hN2 ey2 _ n23 h2 f2 p26 p27 t2 => ?_)
  have eN : N = N2 := (nI_eq (by have := hN.1; omega) (by have := hN2.1; omega)).mp (ex.symm.trans ex2)
  have en : n = n2 := (nI_eq (by omega) (by omega)).mp (ey.symm.trans ey2)
  subst eN en
  rw [eB] at t2 ⊢
  refine ⟨rfl, ?_⟩
  have f : ∀ a j, ¬ ((60 ≤ a ∧ a ≤ 67) ∨ (328 ≤ a ∧ a ≤ 331) ∨ (a = 200 ∧ (j = 26 ∨ j = 27))) → h2 a j = h a j := fun a j z => by rw [f2 a j (by unfold qpZ; omega), f1 a j (by unfold qpA; omega)]
  exact ⟨ns, T, nh, na, tl, no, nd, st, hL, iT, (ivS_c (fun a j q => f a j (by omega)) (fun _ _ _ => rfl) (fun _ _ => Or.inl rfl) iSS), (cpP_made (T := T) (n := n) hN.1 p26 p27 (fun i hi => (f2 67 i (by unfold qpZ; omega)).trans (t1 i hi)) t2), (ivY_c (fun a j q => f a j (by omega)) iY), (cpH_c (fun a j q => f a j (by omega)) (fun _ => rfl) (fun _ _ => Or.inl rfl) iH), (ivA_c (fun a j q => f a j (by omega)) (fun _ _ _ => rfl) (fun _ _ => Or.inl rfl) iA), (cpO_c (fun a j q => f a j (by omega)) (fun _ => rfl) (fun _ _ => Or.inl rfl) iO), (ivD_c (fun a j q => f a j (by omega)) iD), (ivL_c (fun a j q => f a j (by omega)) (fun _ => rfl) iLt)⟩
end OE
