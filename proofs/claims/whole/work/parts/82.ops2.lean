/-! the calls that change one part of the state: stones course lay year days feed draw -/
section OB
variable {Γ : pv_C} {d L : Nat} {ty : pv_T} {h : pv_H} {r : pv_R} {g : pv_G}
theorem iv_stones (hd : 75 ≤ d) (I : Inv L ty h r g) {x y : Int32} : iv_ok Γ d 0 0 mX11_stones mX12_stones [.int x, .int y] L ty h r g := by
  obtain ⟨ns, T, nh, na, tl, no, nd, st, hL, iT, iSS, iP, iY, iH, iA, iO, iD, iLt⟩ := id I
  obtain ⟨iS, iYr, iC, iLv, iF⟩ := id iSS
  refine iv_JJ I (ct_X11_stones (by omega) hL) (fun w h1 q1 => pv_CJ.mono (ct_X12_stones (by omega) hL) (fun w2 h2 q2 => ?_))
  by_cases q : fo_stones x y
  · obtain ⟨s, hs, rfl⟩ := nI_of (x := x) (Int32.not_lt.mpr (Int32.le_trans (by decide) q.1.1))
    obtain ⟨n, hn, rfl⟩ := nI_of (x := y) (Int32.not_lt.mpr (Int32.le_trans (by decide) q.2.1))
    have s1 : 1 ≤ s := (nI_leI (a := 1) (by decide) hs).mp q.1.1
    have s2 : s ≤ 9 := (nI_leI (b := 9) hs (by decide)).mp q.1.2
    have n2 : n ≤ 99 := (nI_leI (b := 99) hn (by decide)).mp q.2.2
    obtain ⟨b1, e1⟩ := iY.1 s (by omega)
    obtain ⟨-, e2⟩ := iY.2.1 s (by omega)
    have q1 := q1.2 q
    have q2 := q2.2 q
    rw [nI_clamp hs, e1, nI_add, show (999 : Int32) = nI 999 from rfl, nI_leI (by omega) (by decide)] at q1
    by_cases le : st s + n ≤ 999
    · obtain ⟨p1, p2⟩ := q1.1 le
      rw [nI_clamp hs, p2, pv_up_a (by decide), e2, nI_add, show (999 : Int32) = nI 999 from rfl, nI_leI (by omega) (by decide)] at q2
      obtain ⟨p3, p4⟩ := q2.1 le
      refine ⟨by rw [p1, p3], ?_⟩
      have f : ∀ a j, ¬ (a = 51 ∨ a = 314) → h2 a j = h a j := fun a j z => by rw [p4, pv_up_a (by omega), pv_up_a (by omega)]
      have up : ∀ i, i < 10 → (if i = s then st s + n else st i) ≤ 999 := fun i hi => by
        split
        · exact le
        · exact (iY.1 i hi).1
      have sa : ∀ i, i < 10 → h2 51 i = nI (if i = s then st s + n else st i) := fun i hi => by
        rw [p4, pv_up_a (by decide)]
        by_cases e : i = s
        · rw [if_pos e, e, pv_up_same]
        · rw [if_neg e, pv_up_j e]; exact (iY.1 i hi).2
      have sb : ∀ i, i < 10 → h2 314 i = nI (if i = s then st s + n else st i) := fun i hi => by
        rw [p4]
        by_cases e : i = s
        · rw [if_pos e, e, pv_up_same]
        · rw [if_neg e, pv_up_j e, pv_up_a (by decide)]; exact (iY.2.1 i hi).2
      exact ⟨ns, T, nh, na, tl, no, nd, (fun i => if i = s then st s + n else st i), hL, iT, (ivS_c (fun a j q => f a j (by omega)) (fun _ _ _ => rfl) (fun _ _ => Or.inl rfl) iSS), (cpP_c (fun a j q => f a j (by omega)) iP), ⟨fun i hi => ⟨up i hi, sa i hi⟩, fun i hi => ⟨up i hi, sb i hi⟩, by rw [f 50 4 (by omega), f 200 16 (by omega)]; exact iY.2.2.1, fun z i i1 i2 => by rw [f 54 i (by omega), f 317 i (by omega)]; exact iY.2.2.2 (by rw [← f 200 16 (by omega)]; exact z) i i1 i2⟩, (cpH_c (fun a j q => f a j (by omega)) (fun _ => rfl) (fun _ _ => Or.inl rfl) iH), (ivA_c (fun a j q => f a j (by omega)) (fun _ _ _ => rfl) (fun _ _ => Or.inl rfl) iA), (cpO_c (fun a j q => f a j (by omega)) (fun _ => rfl) (fun _ _ => Or.inl rfl) iO), (ivD_c (fun a j q => f a j (by omega)) iD), (ivL_c (fun a j q => f a j (by omega)) (fun _ => rfl) iLt)⟩
    · obtain ⟨p1, p2⟩ := q1.2 le
      rw [nI_clamp hs, p2, e2, nI_add, show (999 : Int32) = nI 999 from rfl, nI_leI (by omega) (by decide)] at q2
      obtain ⟨p3, p4⟩ := q2.2 le
      exact ⟨by rw [p1, p3], by rw [p4]; exact I⟩
  · obtain ⟨p1, p2⟩ := q1.1 q
    obtain ⟨p3, p4⟩ := q2.1 q
    exact ⟨by rw [p1, p3], by rw [p4, p2]; exact I⟩
theorem iv_course (hd : 75 ≤ d) (I : Inv L ty h r g) {x : Int32} : iv_ok Γ d 0 0 mX11_course mX12_course [.int x] L ty h r g := by
  obtain ⟨ns, T, nh, na, tl, no, nd, st, hL, iT, iSS, iP, iY, iH, iA, iO, iD, iLt⟩ := id I
  obtain ⟨iS, iYr, iC, iLv, iF⟩ := id iSS
  refine iv_JJ I (ct_X11_course (st := st) (by omega) hL iY.1) (fun w h1 q1 => ?_)
  obtain ⟨f1, q1⟩ := q1
  have st1 : yd_st st h1 314 := fun i hi => by rw [f1 314 i (by unfold yK; omega)]; exact iY.2.1 i hi
  refine pv_CJ.mono (ct_X12_course (st := st) (by omega) hL st1) (fun w2 h2 q2 => ?_)
  obtain ⟨f2, q2⟩ := q2
  by_cases q : 1 ≤ x ∧ x ≤ 60
  · obtain ⟨v, hv, rfl⟩ := nI_of (x := x) (Int32.not_lt.mpr (Int32.le_trans (by decide) q.1))
    have v1 : 1 ≤ v := (nI_leI (a := 1) (by decide) hv).mp q.1
    have v2 : v ≤ 60 := (nI_leI (b := 60) hv (by decide)).mp q.2
    have q1 := q1.2 v v2 v1 rfl
    have q2 := q2.2 v v2 v1 rfl
    have f : ∀ a j, ¬ (a = 52 ∨ a = 53 ∨ a = 54 ∨ (a = 50 ∧ j = 4) ∨ a = 318 ∨ a = 315 ∨ a = 317 ∨ (a = 200 ∧ j = 16)) → h2 a j = h a j := fun a j z => by rw [f2 a j (by unfold yM; omega), f1 a j (by unfold yK; omega)]
    have sa : yd_st st h2 51 := fun i hi => by rw [f 51 i (by omega)]; exact iY.1 i hi
    have sb : yd_st st h2 314 := fun i hi => by rw [f 314 i (by omega)]; exact iY.2.1 i hi
    have a1 : h2 50 4 = h1 50 4 := f2 50 4 (by unfold yM; omega)
    have a2 : ∀ i, h2 54 i = h1 54 i := fun i => f2 54 i (by unfold yM; omega)
    by_cases lt : yd_F st 9 v < 1000000
    · obtain ⟨p1, p2, p3⟩ := q1.1 lt
      obtain ⟨p4, p5, p6⟩ := q2.1 lt
      exact ⟨by rw [p1, p4], ⟨ns, T, nh, na, tl, no, nd, st, hL, iT, (ivS_c (fun a j q => f a j (by omega)) (fun _ _ _ => rfl) (fun _ _ => Or.inl rfl) iSS), (cpP_c (fun a j q => f a j (by omega)) iP), ⟨sa, sb, by rw [a1, p2, p5], fun _ i i1 i2 => by rw [a2, p3 i i1 (by omega), p6 i i1 (by omega)]⟩, (cpH_c (fun a j q => f a j (by omega)) (fun _ => rfl) (fun _ _ => Or.inl rfl) iH), (ivA_c (fun a j q => f a j (by omega)) (fun _ _ _ => rfl) (fun _ _ => Or.inl rfl) iA), (cpO_c (fun a j q => f a j (by omega)) (fun _ => rfl) (fun _ _ => Or.inl rfl) iO), (ivD_c (fun a j q => f a j (by omega)) iD), (ivL_c (fun a j q => f a j (by omega)) (fun _ => rfl) iLt)⟩⟩
    · obtain ⟨p1, p2, p3⟩ := q1.2 lt
      obtain ⟨p4, p5, p6⟩ := q2.2 lt
      have b1 : h1 200 16 = h 200 16 := f1 200 16 (by unfold yK; omega)
      have b2 : ∀ i, h1 317 i = h 317 i := fun i => f1 317 i (by unfold yK; omega)
      exact ⟨by rw [p1, p4], ⟨ns, T, nh, na, tl, no, nd, st, hL, iT, (ivS_c (fun a j q => f a j (by omega)) (fun _ _ _ => rfl) (fun _ _ => Or.inl rfl) iSS), (cpP_c (fun a j q => f a j (by omega)) iP), ⟨sa, sb, by rw [a1, p2, p5, b1]; exact iY.2.2.1, fun z i i1 i2 => by rw [a2, p3, p6, b2]; rw [p5, b1] at z; exact iY.2.2.2 z i i1 i2⟩, (cpH_c (fun a j q => f a j (by omega)) (fun _ => rfl) (fun _ _ => Or.inl rfl) iH), (ivA_c (fun a j q => f a j (by omega)) (fun _ _ _ => rfl) (fun _ _ => Or.inl rfl) iA), (cpO_c (fun a j q => f a j (by omega)) (fun _ => rfl) (fun _ _ => Or.inl rfl) iO), (ivD_c (fun a j q => f a j (by omega)) iD), (ivL_c (fun a j q => f a j (by omega)) (fun _ => rfl) iLt)⟩⟩
  · obtain ⟨p1, p2⟩ := q1.1 q
    obtain ⟨p3, p4⟩ := q2.1 q
    exact ⟨by rw [p1, p3], by rw [p4, p2]; exact I⟩
theorem iv_lay (hd : 75 ≤ d) (I : Inv L ty h r g) {x : Int32} : iv_ok Γ d 0 0 mX11_lay mX12_lay [.int x] L ty h r g := by
  obtain ⟨ns, T, nh, na, tl, no, nd, st, hL, iT, iSS, iP, iY, iH, iA, iO, iD, iLt⟩ := id I
  obtain ⟨iS, iYr, iC, iLv, iF⟩ := id iSS
  refine iv_JJ I (ct_X11_lay (st := st) (by omega) hL iY.1) (fun w h1 q1 => ?_)
  obtain ⟨f1, q1⟩ := q1
  have st1 : yd_st st h1 314 := fun i hi => by rw [f1 314 i (by unfold yL; omega)]; exact iY.2.1 i hi
  refine pv_CJ.mono (ct_X12_lay (st := st) (by omega) hL st1) (fun w2 h2 q2 => ?_)
  obtain ⟨f2, q2⟩ := q2
  by_cases q : 1 ≤ x ∧ x ≤ 60
  · obtain ⟨v, hv, rfl⟩ := nI_of (x := x) (Int32.not_lt.mpr (Int32.le_trans (by decide) q.1))
    have v1 : 1 ≤ v := (nI_leI (a := 1) (by decide) hv).mp q.1
    have v2 : v ≤ 60 := (nI_leI (b := 60) hv (by decide)).mp q.2
    have q1 := q1.2 v v2 v1 rfl
    have q2 := q2.2 v v2 v1 rfl
    have f : ∀ a j, ¬ (a = 51 ∨ a = 52 ∨ a = 53 ∨ a = 318 ∨ a = 315 ∨ a = 314) → h2 a j = h a j := fun a j z => by rw [f2 a j (by unfold yN; omega), f1 a j (by unfold yL; omega)]
    have a1 : ∀ i, h2 51 i = h1 51 i := fun i => f2 51 i (by unfold yN; omega)
    have a2 : h1 314 0 = h 314 0 := f1 314 0 (by unfold yL; omega)
    have c1 : h2 50 4 = h2 200 16 := by rw [f 50 4 (by omega), f 200 16 (by omega)]; exact iY.2.2.1
    have c2 : ¬ h2 200 16 = 0 → ∀ i, 1 ≤ i → i ≤ 9 → h2 54 i = h2 317 i := fun z i i1 i2 => by rw [f 54 i (by omega), f 317 i (by omega)]; exact iY.2.2.2 (by rw [← f 200 16 (by omega)]; exact z) i i1 i2
    by_cases lt : yd_F st 9 v < 1000000
    · obtain ⟨p1, p2, p3⟩ := q1.1 lt
      obtain ⟨p4, p5, p6⟩ := q2.1 lt
      have up : ∀ i, i < 10 → (if i = 0 then st 0 else st i - yd_S st v i) ≤ 999 := fun i hi => by
        have := (iY.1 i hi).1
        split
        · exact (iY.1 0 (by decide)).1
        · omega
      have sa : ∀ i, i < 10 → h2 51 i = nI (if i = 0 then st 0 else st i - yd_S st v i) := fun i hi => by
        by_cases e : i = 0
        · rw [if_pos e, e, a1, p2]; exact (iY.1 0 (by decide)).2
        · rw [if_neg e, a1, p3 i (by omega) hi]
      have sb : ∀ i, i < 10 → h2 314 i = nI (if i = 0 then st 0 else st i - yd_S st v i) := fun i hi => by
        by_cases e : i = 0
        · rw [if_pos e, e, p5, a2]; exact (iY.2.1 0 (by decide)).2
        · rw [if_neg e, p6 i (by omega) hi]
      exact ⟨by rw [p1, p4], ⟨ns, T, nh, na, tl, no, nd, (fun i => if i = 0 then st 0 else st i - yd_S st v i), hL, iT, (ivS_c (fun a j q => f a j (by omega)) (fun _ _ _ => rfl) (fun _ _ => Or.inl rfl) iSS), (cpP_c (fun a j q => f a j (by omega)) iP), ⟨fun i hi => ⟨up i hi, sa i hi⟩, fun i hi => ⟨up i hi, sb i hi⟩, c1, c2⟩, (cpH_c (fun a j q => f a j (by omega)) (fun _ => rfl) (fun _ _ => Or.inl rfl) iH), (ivA_c (fun a j q => f a j (by omega)) (fun _ _ _ => rfl) (fun _ _ => Or.inl rfl) iA), (cpO_c (fun a j q => f a j (by omega)) (fun _ => rfl) (fun _ _ => Or.inl rfl) iO), (ivD_c (fun a j q => f a j (by omega)) iD), (ivL_c (fun a j q => f a j (by omega)) (fun _ => rfl) iLt)⟩⟩
    · obtain ⟨p1, p2⟩ := q1.2 lt
      obtain ⟨p4, p5⟩ := q2.2 lt
      exact ⟨by rw [p1, p4], ⟨ns, T, nh, na, tl, no, nd, st, hL, iT, (ivS_c (fun a j q => f a j (by omega)) (fun _ _ _ => rfl) (fun _ _ => Or.inl rfl) iSS), (cpP_c (fun a j q => f a j (by omega)) iP), ⟨fun i hi => by rw [a1, p2]; exact iY.1 i hi, fun i hi => by rw [p5]; exact st1 i hi, c1, c2⟩, (cpH_c (fun a j q => f a j (by omega)) (fun _ => rfl) (fun _ _ => Or.inl rfl) iH), (ivA_c (fun a j q => f a j (by omega)) (fun _ _ _ => rfl) (fun _ _ => Or.inl rfl) iA), (cpO_c (fun a j q => f a j (by omega)) (fun _ => rfl) (fun _ _ => Or.inl rfl) iO), (ivD_c (fun a j q => f a j (by omega)) iD), (ivL_c (fun a j q => f a j (by omega)) (fun _ => rfl) iLt)⟩⟩
  · obtain ⟨p1, p2⟩ := q1.1 q
    obtain ⟨p3, p4⟩ := q2.1 q
    exact ⟨by rw [p1, p3], by rw [p4, p2]; exact I⟩
theorem iv_year (hd : 75 ≤ d) (I : Inv L ty h r g) : iv_ok Γ d 0 0 mX11_year mX12_year [] L ty h r g := by
  obtain ⟨ns, T, nh, na, tl, no, nd, st, hL, iT, iSS, iP, iY, iH, iA, iO, iD, iLt⟩ := id I
  obtain ⟨iS, iYr, iC, iLv, iF⟩ := id iSS
  obtain ⟨⟨t1, t2, t3⟩, t4, t5⟩ := id iYr
  refine iv_JJ I (ct_X11_year hL (by rw [t4]; exact (nI_leI (b := 30) (by omega) (by decide)).mpr t1)) (fun w h1 q1 => pv_CJ.mono (ct_X12_year hL) (fun w2 h2 q2 => ?_))
  obtain ⟨p1, p2⟩ := q1
  obtain ⟨p3, p4⟩ := q2
  unfold fn_year at p1 p3
  unfold fp_year at p2 p4
  by_cases e : nI T = 30
  · rw [t4, if_pos e] at p1 p2
    rw [p2, t2, if_pos e] at p3 p4
    exact ⟨by rw [p1, p3], by rw [p4]; exact I⟩
  · rw [t4, if_neg e, nI_1] at p1 p2
    have u2 : h1 200 19 = nI T := by rw [p2, pv_up_a (by decide)]; exact t2
    rw [u2, if_neg e, nI_1] at p3 p4
    have hT : T ≠ 30 := fun z => e (by rw [z]; rfl)
    have f : ∀ a j, ¬ ((a = 100 ∧ j = 5) ∨ (a = 200 ∧ j = 19)) → h2 a j = h a j := fun a j z => by rw [p4, pv_up, if_neg (by omega), p2, pv_up, if_neg (by omega)]
    refine ⟨by rw [p1, p3], ⟨ns, T + 1, nh, na, tl, no, nd, st, hL, iT, ⟨cpS_c (fun a j q => f a j (by omega)) (fun _ _ _ => rfl) (fun _ _ => Or.inl rfl) iS, ⟨⟨by omega, by rw [p4, pv_up_same], fun s hs => ?_⟩, by rw [p4, pv_up_a (by decide), p2, pv_up_same], fun s hs => ?_⟩, cpC_c (fun a h1 h2 => funext fun j => f a j (by omega)) iC, cpL_c (fun a j q => f a j (by omega)) rfl iLv, mFr_c (fun a j q => f a j (by omega)) iF⟩, (cpP_c (fun a j q => f a j (by omega)) iP), (ivY_c (fun a j q => f a j (by omega)) iY), (cpH_c (fun a j q => f a j (by omega)) (fun _ => rfl) (fun _ _ => Or.inl rfl) iH), (ivA_c (fun a j q => f a j (by omega)) (fun _ _ _ => rfl) (fun _ _ => Or.inl rfl) iA), (cpO_c (fun a j q => f a j (by omega)) (fun _ => rfl) (fun _ _ => Or.inl rfl) iO), (ivD_c (fun a j q => f a j (by omega)) iD), (ivL_c (fun a j q => f a j (by omega)) (fun _ => rfl) iLt)⟩⟩
    · rw [show h2 320 = h 320 from funext fun j => f 320 j (by omega), show h2 321 = h 321 from funext fun j => f 321 j (by omega), f 322 s (by omega)]
      obtain ⟨x1, p, x2, x3⟩ := t3 s hs
      exact ⟨x1, p, by omega, x3⟩
    · obtain ⟨y1, y2, y3, y4, y5⟩ := t5 s hs
      have n8 := iS.1.1
      refine ⟨fun y hy => ?_, ?_, ?_, ?_, ?_⟩
      · unfold wT
        rw [f _ y (by unfold cA; omega), f 320 _ (by omega), f 321 _ (by omega)]; exact y1 y hy
      · rw [f _ 5 (by unfold cA; omega), f 322 s (by omega)]; exact y2
      · rw [f _ 6 (by unfold cA; omega), f 323 s (by omega)]; exact y3
      · rw [f _ 7 (by unfold cA; omega), f 324 s (by omega)]; exact y4
      · rw [f _ 8 (by unfold cA; omega), f 325 s (by omega)]; exact y5
theorem iv_days (hd : 75 ≤ d) (I : Inv L ty h r g) {x : Int32} : iv_ok Γ d 0 0 mX11_days mX12_days [.int x] L ty h r g := by
  obtain ⟨ns, T, nh, na, tl, no, nd, st, hL, iT, iSS, iP, iY, iH, iA, iO, iD, iLt⟩ := id I
  obtain ⟨iS, iYr, iC, iLv, iF⟩ := id iSS
  refine iv_JJ I (ct_X11_days (by omega) hL) (fun w h1 q1 => pv_CJ.mono (ct_X12_days (by omega) hL) (fun w2 h2 q2 => ?_))
  rw [iD.1] at q1
  by_cases q : fo_days x (h 200 32)
  · obtain ⟨p1, p2⟩ := q1.2 q
    have u : h1 200 32 = h 200 32 := by rw [p2, pv_up_a (by decide)]
    rw [u] at q2
    obtain ⟨p3, p4⟩ := q2.2 q
    have f : ∀ a j, ¬ ((a = 100 ∧ j = 9) ∨ (a = 200 ∧ j = 32)) → h2 a j = h a j := fun a j z => by rw [p4, pv_up, if_neg (by omega), p2, pv_up, if_neg (by omega)]
    have v1 : h2 200 32 = h 200 32 + x := by rw [p4, pv_up_same]
    have v2 : h2 100 9 = h 200 32 + x := by rw [p4, pv_up_a (by decide), p2, pv_up_same]
    refine ⟨by rw [p1, p3], ⟨ns, T, nh, na, tl, no, nd, st, hL, iT, (ivS_c (fun a j q => f a j (by omega)) (fun _ _ _ => rfl) (fun _ _ => Or.inl rfl) iSS), (cpP_c (fun a j q => f a j (by omega)) iP), (ivY_c (fun a j q => f a j (by omega)) iY), (cpH_c (fun a j q => f a j (by omega)) (fun _ => rfl) (fun _ _ => Or.inl rfl) iH), (ivA_c (fun a j q => f a j (by omega)) (fun _ _ _ => rfl) (fun _ _ => Or.inl rfl) iA), (cpO_c (fun a j q => f a j (by omega)) (fun _ => rfl) (fun _ _ => Or.inl rfl) iO), ⟨by rw [v1, v2], ?_, by rw [v1]; exact q.2⟩, (ivL_c (fun a j q => f a j (by omega)) (fun _ => rfl) iLt)⟩⟩
    rw [v1]
    obtain ⟨t, ht, et⟩ := nI_of (x := h 200 32) (Int32.not_lt.mpr iD.2.1)
    obtain ⟨n, hn, rfl⟩ := nI_of (x := x) (Int32.not_lt.mpr (Int32.le_trans (by decide) q.1.1))
    have n2 : n ≤ 100 := (nI_leI (b := 100) hn (by decide)).mp q.1.2
    have t2 : t ≤ 9999 := (nI_leI (b := 9999) ht (by decide)).mp (by rw [← et]; exact iD.2.2)
    rw [et, nI_add]
    exact nI_pos' (by omega)
  · obtain ⟨p1, p2⟩ := q1.1 q
    rw [p2] at q2
    obtain ⟨p3, p4⟩ := q2.1 q
    exact ⟨by rw [p1, p3], by rw [p4]; exact I⟩
theorem iv_feed (hd : 75 ≤ d) (I : Inv L ty h r g) {x v : Int32} : iv_ok Γ d 0 0 mX11_feed mX12_feed [.int x, .int v] L ty h r g := by
  obtain ⟨ns, T, nh, na, tl, no, nd, st, hL, iT, iSS, iP, iY, iH, iA, iO, iD, iLt⟩ := id I
  obtain ⟨iS, iYr, iC, iLv, iF⟩ := id iSS
  refine iv_JJ I (ct_X11_feed (by omega) hL iA.1.1 iA.1.2.1) (fun w h1 q1 => ?_)
  obtain ⟨f1, q1⟩ := q1
  have u3 : h1 200 40 = nI tl := by rw [f1 200 40 (by unfold feA; omega)]; exact iA.1.2.2.1
  refine pv_CJ.mono (ct_X12_feed (by omega) hL iA.1.1 u3) (fun w2 h2 q2 => ?_)
  obtain ⟨f2, q2⟩ := q2
  have f : ∀ a j, ¬ (a = 71 ∨ (a = 70 ∧ j = 3) ∨ a = 339 ∨ (a = 200 ∧ j = 40)) → h2 a j = h a j := fun a j z => by rw [f2 a j (by unfold feA; omega), f1 a j (by unfold feA; omega)]
  by_cases q : 1 ≤ x ∧ x ≤ 4
  · obtain ⟨n, hn, rfl⟩ := nI_of (x := x) (Int32.not_lt.mpr (Int32.le_trans (by decide) q.1))
    have n1 : 1 ≤ n := (nI_leI (a := 1) (by decide) hn).mp q.1
    have n2 : n ≤ 4 := (nI_leI (b := 4) hn (by decide)).mp q.2
    have q1 := q1.2 n n1 n2 rfl
    have q2 := q2.2 n n1 n2 rfl
    by_cases le : tl + n ≤ 160
    · obtain ⟨p1, p2, p3, p4⟩ := q1.1 le
      obtain ⟨p5, p6, p7, p8⟩ := q2.1 le
      have a1 : ∀ j, h2 71 j = h1 71 j := fun j => f2 71 j (by unfold feA; omega)
      have a2 : ∀ j, h1 339 j = h 339 j := fun j => f1 339 j (by unfold feA; omega)
      have a3 : h2 70 3 = h1 70 3 := f2 70 3 (by unfold feA; omega)
      obtain ⟨⟨b1, b2, b3, b4⟩, ⟨c1, c2, c3⟩, s1, s2⟩ := id iA
      refine ⟨by rw [p1, p5], ⟨ns, T, nh, na, tl + n, no, nd, st, hL, iT, (ivS_c (fun a j q => f a j (by omega)) (fun _ _ _ => rfl) (fun _ _ => Or.inl rfl) iSS), (cpP_c (fun a j q => f a j (by omega)) iP), (ivY_c (fun a j q => f a j (by omega)) iY), (cpH_c (fun a j q => f a j (by omega)) (fun _ => rfl) (fun _ _ => Or.inl rfl) iH), ⟨⟨le, by rw [a3, p2], p6, fun j hj => ?_⟩, ⟨c1, (f 70 4 (by omega)).trans c2, (f 200 41 (by omega)).trans c3⟩, s1, fun i hi => ?_⟩, (cpO_c (fun a j q => f a j (by omega)) (fun _ => rfl) (fun _ _ => Or.inl rfl) iO), (ivD_c (fun a j q => f a j (by omega)) iD), (ivL_c (fun a j q => f a j (by omega)) (fun _ => rfl) iLt)⟩⟩
      · by_cases e : j < tl
        · rw [a1, p3 j e, p7 j e, a2]; exact b4 j e
        · obtain ⟨k, rfl⟩ : ∃ k, j = tl + k := ⟨j - tl, by omega⟩
          rw [a1, p4 k (by omega), p8 k (by omega)]
      · exact cpAi_c ⟨rfl, rfl⟩ ⟨rfl, rfl⟩ (fun j _ => f _ j (by unfold aA; omega)) (fun j => f _ j (by unfold aA; omega)) ⟨f 342 i (by omega), f 343 i (by omega), f 344 i (by omega), f 345 i (by omega)⟩ (fun j _ => ⟨f 346 _ (by omega), f 347 _ (by omega)⟩) (s2 i hi)
    · obtain ⟨p1, p2⟩ := q1.2 le
      obtain ⟨p5, p6⟩ := q2.2 le
      exact ⟨by rw [p1, p5], by rw [p6, p2]; exact I⟩
  · obtain ⟨p1, p2⟩ := q1.1 q
    obtain ⟨p3, p4⟩ := q2.1 q
    exact ⟨by rw [p1, p3], by rw [p4, p2]; exact I⟩
theorem iv_draw (hd : 75 ≤ d) (I : Inv L ty h r g) {x y z : Int32} : iv_ok Γ d 0 0 mX11_draw mX12_draw [.int x, .int y, .int z] L ty h r g := by
  obtain ⟨ns, T, nh, na, tl, no, nd, st, hL, iT, iSS, iP, iY, iH, iA, iO, iD, iLt⟩ := id I
  obtain ⟨iS, iYr, iC, iLv, iF⟩ := id iSS
  refine iv_JJ I (ct_X11_draw (by omega) hL) (fun w h1 q1 => pv_CJ.mono (ct_X12_draw (by omega) hL) (fun w2 h2 q2 => ?_))
  obtain ⟨f1, q1⟩ := q1
  obtain ⟨f2, q2⟩ := q2
  by_cases q : fo_draw x y
  · obtain ⟨N, hN, rfl⟩ := nI_of (x := x) (Int32.not_lt.mpr (Int32.le_trans (by decide) q.1.1))
    obtain ⟨n, hn, rfl⟩ := nI_of (x := y) (Int32.not_lt.mpr (Int32.le_trans (by decide) q.2.1))
    have N2 : N ≤ 40 := (nI_leI (b := 40) hN (by decide)).mp q.1.2
    have n2 : n ≤ N := (nI_leI hn hN).mp q.2.2
    obtain ⟨p1, p2, p3⟩ := q1.2 N n N2 n2 rfl rfl q
    obtain ⟨p4, p5, p6⟩ := q2.2 N n N2 n2 rfl rfl q
    have f : ∀ a j, ¬ (a = 92 ∨ a = 93 ∨ (a = 90 ∧ j = 3) ∨ a = 364 ∨ a = 363 ∨ (a = 200 ∧ j = 62)) → h2 a j = h a j := fun a j z => by rw [f2 a j (by unfold lmA; omega), f1 a j (by unfold lcA; omega)]
    exact ⟨by rw [p1, p4], ⟨ns, T, nh, na, tl, no, n, st, hL, iT, (ivS_c (fun a j q => f a j (by omega)) (fun _ _ _ => rfl) (fun _ _ => Or.inl rfl) iSS), (cpP_c (fun a j q => f a j (by omega)) iP), (ivY_c (fun a j q => f a j (by omega)) iY), (cpH_c (fun a j q => f a j (by omega)) (fun _ => rfl) (fun _ _ => Or.inl rfl) iH), (ivA_c (fun a j q => f a j (by omega)) (fun _ _ _ => rfl) (fun _ _ => Or.inl rfl) iA), (cpO_c (fun a j q => f a j (by omega)) (fun _ => rfl) (fun _ _ => Or.inl rfl) iO), (ivD_c (fun a j q => f a j (by omega)) iD), ⟨by omega, p5, by rw [f2 90 3 (by unfold lmA; omega)]; exact p2, fun j hj => by rw [f2 93 j (by unfold lmA; omega), p3 j hj, p6 j hj], iLt.2.2.2.2⟩⟩⟩
  · obtain ⟨p1, p2⟩ := q1.1 q
    obtain ⟨p3, p4⟩ := q2.1 q
    exact ⟨by rw [p1, p3], by rw [p4, p2]; exact I⟩
end OB
