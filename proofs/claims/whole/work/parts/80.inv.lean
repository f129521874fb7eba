/-! THE INVARIANT of both sides, and its frames -/
/-- the streets not yet made: the reference's rows are still nought -/
def mFr (h : pv_H) (ns : Nat) : Prop := ∀ s, ns ≤ s → s < 8 → (∀ y, y < 31 → h 320 (31 * s + y) = 0) ∧ h 322 s = 0 ∧ h 323 s = 0 ∧ h 324 s = 0 ∧ h 325 s = 0 ∧ ∀ k, k < 144 → h 305 (144 * s + k) = 0
def ivS (ty : pv_T) (h : pv_H) (r : pv_R) (ns T : Nat) : Prop := cpS ty h r ns ∧ cpY h ns T ∧ cpC h ∧ cpL h r ns ∧ mFr h ns
def ivY (h : pv_H) (st : Nat → Nat) : Prop := yd_st st h 51 ∧ yd_st st h 314 ∧ h 50 4 = h 200 16 ∧ (¬ h 200 16 = 0 → ∀ i, 1 ≤ i → i ≤ 9 → h 54 i = h 317 i)
def ivD (h : pv_H) : Prop := h 100 9 = h 200 32 ∧ 0 ≤ h 200 32 ∧ h 200 32 ≤ 9999
def ivL (h : pv_H) (g : pv_G) (nd : Nat) : Prop := nd ≤ 40 ∧ h 200 62 = nI nd ∧ h 90 3 = nI nd ∧ (∀ j, j < nd → h 93 j = h 363 j) ∧ wy_ok g
def ivT (L : Nat) (ty : pv_T) (ns nh na no : Nat) : Prop := ty 1 = some (20, L) ∧ (∀ s, ns ≤ s → s < 8 → ∀ t, t < 4 → ty (cA s + t) = none) ∧ (∀ i, nh ≤ i → i < 60 → ty (hA i) = none) ∧ (∀ i, na ≤ i → i < 20 → ty (aA i) = none ∧ ty (aA i + 1) = none) ∧ ∀ i, no ≤ i → i < 200 → ty (oA i) = none
def Inv (L : Nat) (ty : pv_T) (h : pv_H) (r : pv_R) (g : pv_G) : Prop := ∃ (ns T nh na tl no nd : Nat) (st : Nat → Nat), pv_Lay ty r ∧ ivT L ty ns nh na no ∧ ivS ty h r ns T ∧ cpP h ∧ ivY h st ∧ cpH ty h r nh ∧ cpA ty h r na tl ∧ cpO ty h r no ∧ ivD h ∧ ivL h g nd
section IV
variable {L : Nat} {ty ty' : pv_T} {h h' : pv_H} {r r' : pv_R} {g g' : pv_G} {ns T nh na tl no nd : Nat} {st : Nat → Nat}
theorem tt_c {P : Nat → Prop} (ht : ∀ a, P a → ty' a = ty a ∨ ty a = none) {a : Nat} (ha : P a) {v : Nat × Nat} (e : ty a = some v) : ty' a = some v := by
  rcases ht a ha with z | z
  · rw [z]; exact e
  · rw [z] at e; cases e
theorem cpS_c (hh : ∀ a j, ((a = 100 ∧ j = 1) ∨ (a = 200 ∧ j = 1) ∨ (302 ≤ a ∧ a ≤ 305) ∨ (1000 ≤ a ∧ a < 1032)) → h' a j = h a j) (hr : ∀ a j, (a = 110 ∨ (1000 ≤ a ∧ a < 1032)) → r' a j = r a j) (ht : ∀ a, (1000 ≤ a ∧ a < 1032) → ty' a = ty a ∨ ty a = none) (x : cpS ty h r ns) : cpS ty' h' r' ns := by
  have x1 : cpS ty h' r ns := cpS_frame x (hh 100 1 (by omega)) (hh 200 1 (by omega)) (funext fun j => hh 302 j (by omega)) (funext fun j => hh 303 j (by omega)) (funext fun j => hh 304 j (by omega)) (funext fun j => hh 305 j (by omega)) (fun s hs t ht => funext fun j => hh (cA s + t) j (by have := x.1.1; unfold cA; omega))
  obtain ⟨a1, a2, a3⟩ := x1
  refine ⟨a1, a2, fun s hs => ?_⟩
  obtain ⟨b1, ⟨c1, c2, c3, c4, c5, c6, ⟨d1, d2, d3⟩, ⟨e1, e2, e3⟩, c9⟩, b3⟩ := a3 s hs
  have h8 := a1.1
  have hb : 1000 ≤ cA s ∧ cA s + 3 < 1032 := by unfold cA; omega
  exact ⟨(hr 110 s (Or.inl rfl)).trans b1, ⟨c1, tt_c ht (a := cA s) (by omega) c2, c3, c4, c5, c6, ⟨(hr _ _ (by omega)).trans d1, (hr _ _ (by omega)).trans d2, (hr _ _ (by omega)).trans d3⟩, ⟨tt_c ht (a := cA s + 1) (by omega) e1, tt_c ht (a := cA s + 2) (by omega) e2, tt_c ht (a := cA s + 3) (by omega) e3⟩, c9⟩, b3⟩
theorem cpL_c (hh : ∀ a j, ((a = 200 ∧ 7 ≤ j ∧ j ≤ 10) ∨ (302 ≤ a ∧ a ≤ 303) ∨ a = 311 ∨ a = 312 ∨ (a = 40 ∧ (j = 4 ∨ j = 5)) ∨ a = 42 ∨ a = 43) → h' a j = h a j) (hr : r' 40 3 = r 40 3) (x : cpL h r ns) : cpL h' r' ns := by
  unfold cpL
  rw [hh 200 9 (by omega), hr, hh 200 7 (by omega), hh 200 8 (by omega), hh 200 10 (by omega), hh 40 4 (by omega), hh 40 5 (by omega)]
  rcases x with x | ⟨x1, s, i, y1, y2, y3, y4, y5, y6, y7, y8⟩
  · exact Or.inl x
  · refine Or.inr ⟨x1, s, i, y1, by show i < (h' 302 s).toNatClampNeg; rw [hh 302 s (by omega)]; exact y2, y3, y4, y5, y6, y7, fun c hc => ?_⟩
    have hc' : c < mC h s := by show c < (h 303 s).toNatClampNeg; rw [← hh 303 s (by omega)]; exact hc
    rw [hh 42 c (by omega), hh 43 c (by omega), hh 311 c (by omega), hh 312 c (by omega)]
    exact y8 c hc'
theorem mFr_c (hh : ∀ a j, (a = 305 ∨ (320 ≤ a ∧ a ≤ 325)) → h' a j = h a j) (x : mFr h ns) : mFr h' ns := fun s s1 s2 => by
  obtain ⟨x1, x2, x3, x4, x5, x6⟩ := x s s1 s2
  exact ⟨fun y hy => (hh 320 _ (by omega)).trans (x1 y hy), (hh 322 s (by omega)).trans x2, (hh 323 s (by omega)).trans x3, (hh 324 s (by omega)).trans x4, (hh 325 s (by omega)).trans x5, fun k hk => (hh 305 _ (by omega)).trans (x6 k hk)⟩
theorem cpY_c (hn : ns ≤ 8) (hh : ∀ a j, ((a = 100 ∧ j = 5) ∨ (a = 200 ∧ j = 19) ∨ (320 ≤ a ∧ a ≤ 325) ∨ (1000 ≤ a ∧ a < 1032)) → h' a j = h a j) (x : cpY h ns T) : cpY h' ns T := cpY_frame x (hh 200 19 (by omega)) (hh 100 5 (by omega)) (fun a h1 h2 => funext fun j => hh a j (by omega)) (fun s hs => ⟨funext fun j => hh _ j (by unfold cA; omega), funext fun j => hh _ j (by unfold cA; omega)⟩)
theorem ivS_c (hh : ∀ a j, ((a = 100 ∧ (j = 1 ∨ j = 5)) ∨ (a = 200 ∧ (j = 1 ∨ (7 ≤ j ∧ j ≤ 10) ∨ j = 19)) ∨ (302 ≤ a ∧ a ≤ 305) ∨ a = 311 ∨ a = 312 ∨ (320 ≤ a ∧ a ≤ 325) ∨ (a = 40 ∧ (j = 4 ∨ j = 5)) ∨ a = 42 ∨ a = 43 ∨ (1000 ≤ a ∧ a < 1032)) → h' a j = h a j) (hr : ∀ a j, (a = 110 ∨ (a = 40 ∧ j = 3) ∨ (1000 ≤ a ∧ a < 1032)) → r' a j = r a j) (ht : ∀ a, (1000 ≤ a ∧ a < 1032) → ty' a = ty a ∨ ty a = none) (x : ivS ty h r ns T) : ivS ty' h' r' ns T :=
  ⟨cpS_c (fun a j q => hh a j (by omega)) (fun a j q => hr a j (by omega)) ht x.1, cpY_c x.1.1.1 (fun a j q => hh a j (by omega)) x.2.1, cpC_c (fun a h1 h2 => funext fun j => hh a j (by omega)) x.2.2.1, cpL_c (fun a j q => hh a j (by omega)) (hr 40 3 (by omega)) x.2.2.2.1, mFr_c (fun a j q => hh a j (by omega)) x.2.2.2.2⟩
theorem cpP_c (hh : ∀ a j, (a = 67 ∨ a = 328 ∨ (a = 200 ∧ (j = 26 ∨ j = 27))) → h' a j = h a j) (x : cpP h) : cpP h' := by
  unfold cpP
  rw [hh 200 26 (by omega), hh 200 27 (by omega), show h' 67 = h 67 from funext fun j => hh 67 j (by omega), show h' 328 = h 328 from funext fun j => hh 328 j (by omega)]
  exact x
theorem ivY_c (hh : ∀ a j, (a = 51 ∨ a = 54 ∨ a = 314 ∨ a = 317 ∨ (a = 50 ∧ j = 4) ∨ (a = 200 ∧ j = 16)) → h' a j = h a j) (x : ivY h st) : ivY h' st := by
  unfold ivY yd_st
  rw [hh 50 4 (by omega), hh 200 16 (by omega), show h' 51 = h 51 from funext fun j => hh 51 j (by omega), show h' 54 = h 54 from funext fun j => hh 54 j (by omega), show h' 314 = h 314 from funext fun j => hh 314 j (by omega), show h' 317 = h 317 from funext fun j => hh 317 j (by omega)]
  exact x
theorem cpH_c (hh : ∀ a j, ((a = 200 ∧ j = 33) ∨ (a = 100 ∧ j = 8) ∨ (334 ≤ a ∧ a ≤ 338) ∨ (2000 ≤ a ∧ a < 2060)) → h' a j = h a j) (hr : ∀ j, r' 117 j = r 117 j) (ht : ∀ a, (2000 ≤ a ∧ a < 2060) → ty' a = ty a ∨ ty a = none) (x : cpH ty h r nh) : cpH ty' h' r' nh := by
  obtain ⟨⟨a1, a2, a3⟩, b⟩ := x
  refine ⟨⟨a1, (hh 200 33 (by omega)).trans a2, (hh 100 8 (by omega)).trans a3⟩, fun i hi => ?_⟩
  obtain ⟨b1, b2, b3, b4⟩ := b i hi
  have hb : 2000 ≤ hA i ∧ hA i < 2060 := by unfold hA; omega
  refine ⟨(hr i).trans b1, tt_c ht hb b2, fun j hj => ?_, ?_⟩
  · rw [hh (hA i) j (by omega), hh (334 + j) i (by omega)]; exact b3 j hj
  · unfold hs_ok
    rw [hh 334 i (by omega), hh 336 i (by omega)]
    exact b4
theorem cpO_c (hh : ∀ a j, ((a = 200 ∧ j = 55) ∨ (a = 100 ∧ j = 12) ∨ (356 ≤ a ∧ a ≤ 361) ∨ (4000 ≤ a ∧ a < 4200)) → h' a j = h a j) (hr : ∀ j, r' 121 j = r 121 j) (ht : ∀ a, (4000 ≤ a ∧ a < 4200) → ty' a = ty a ∨ ty a = none) (x : cpO ty h r no) : cpO ty' h' r' no := by
  obtain ⟨⟨a1, a2, a3⟩, b⟩ := x
  refine ⟨⟨a1, (hh 200 55 (by omega)).trans a2, (hh 100 12 (by omega)).trans a3⟩, fun i hi => ?_⟩
  obtain ⟨b1, b2, b3, b4⟩ := b i hi
  have hb : 4000 ≤ oA i ∧ oA i < 4200 := by unfold oA; omega
  refine ⟨(hr i).trans b1, tt_c ht hb b2, fun j hj => ?_, ?_⟩
  · rw [hh (oA i) j (by omega), hh (356 + j) i (by omega)]; exact b3 j hj
  · unfold op_ok
    rw [hh 356 i (by omega), hh 359 i (by omega), hh 360 i (by omega), hh 361 i (by omega)]
    exact b4
theorem ivA_c (hh : ∀ a j, ((a = 70 ∧ (j = 3 ∨ j = 4)) ∨ (a = 200 ∧ (j = 40 ∨ j = 41)) ∨ a = 71 ∨ a = 339 ∨ (342 ≤ a ∧ a ≤ 347) ∨ (3000 ≤ a ∧ a < 3040)) → h' a j = h a j) (hr : ∀ a j, (a = 72 ∨ (3000 ≤ a ∧ a < 3040)) → r' a j = r a j) (ht : ∀ a, (a < 10 ∨ (3000 ≤ a ∧ a < 3040)) → ty' a = ty a ∨ ty a = none) (x : cpA ty h r na tl) : cpA ty' h' r' na tl := cpA_c hh hr ht x
theorem ivD_c (hh : ∀ a j, ((a = 100 ∧ j = 9) ∨ (a = 200 ∧ j = 32)) → h' a j = h a j) (x : ivD h) : ivD h' := by
  unfold ivD
  rw [hh 100 9 (by omega), hh 200 32 (by omega)]
  exact x
theorem ivL_c (hh : ∀ a j, ((a = 200 ∧ j = 62) ∨ (a = 90 ∧ j = 3) ∨ a = 93 ∨ a = 363) → h' a j = h a j) (hg : ∀ j, g' 91 j = g 91 j) (x : ivL h g nd) : ivL h' g' nd := by
  unfold ivL wy_ok
  rw [hh 200 62 (by omega), hh 90 3 (by omega), show h' 93 = h 93 from funext fun j => hh 93 j (by omega), show h' 363 = h 363 from funext fun j => hh 363 j (by omega), show g' 91 = g 91 from funext hg]
  exact x
/-- nothing that the invariant speaks of has changed -/
theorem Inv_c {P : Nat → Nat → Prop} (f : ∀ a j, ¬ P a j → h' a j = h a j) (q1 : ∀ a j, ((a = 100 ∧ (j = 1 ∨ j = 5)) ∨ (a = 200 ∧ (j = 1 ∨ (7 ≤ j ∧ j ≤ 10) ∨ j = 19)) ∨ (302 ≤ a ∧ a ≤ 305) ∨ a = 311 ∨ a = 312 ∨ (320 ≤ a ∧ a ≤ 325) ∨ (a = 40 ∧ (j = 4 ∨ j = 5)) ∨ a = 42 ∨ a = 43 ∨ (1000 ≤ a ∧ a < 1032)) → ¬ P a j) (q2 : ∀ a j, (a = 67 ∨ a = 328 ∨ (a = 200 ∧ (j = 26 ∨ j = 27))) → ¬ P a j) (q3 : ∀ a j, (a = 51 ∨ a = 54 ∨ a = 314 ∨ a = 317 ∨ (a = 50 ∧ j = 4) ∨ (a = 200 ∧ j = 16)) → ¬ P a j) (q4 : ∀ a j, ((a = 200 ∧ j = 33) ∨ (a = 100 ∧ j = 8) ∨ (334 ≤ a ∧ a ≤ 338) ∨ (2000 ≤ a ∧ a < 2060)) → ¬ P a j) (q5 : ∀ a j, ((a = 70 ∧ (j = 3 ∨ j = 4)) ∨ (a = 200 ∧ (j = 40 ∨ j = 41)) ∨ a = 71 ∨ a = 339 ∨ (342 ≤ a ∧ a ≤ 347) ∨ (3000 ≤ a ∧ a < 3040)) → ¬ P a j) (q6 : ∀ a j, ((a = 200 ∧ j = 55) ∨ (a = 100 ∧ j = 12) ∨ (356 ≤ a ∧ a ≤ 361) ∨ (4000 ≤ a ∧ a < 4200)) → ¬ P a j) (q7 : ∀ a j, ((a = 100 ∧ j = 9) ∨ (a = 200 ∧ j = 32)) → ¬ P a j) (q8 : ∀ a j, ((a = 200 ∧ j = 62) ∨ (a = 90 ∧ j = 3) ∨ a = 93 ∨ a = 363) → ¬ P a j) (hr : ∀ a j, ¬ a = 80 → r' a j = r a j) (hL : pv_Lay ty r') (hg : ∀ j, g' 91 j = g 91 j) (x : Inv L ty h r g) : Inv L ty h' r' g' := by
  obtain ⟨ns, T, nh, na, tl, no, nd, st, -, iT, iS, iP, iY, iH, iA, iO, iD, iL⟩ := x
  exact ⟨ns, T, nh, na, tl, no, nd, st, hL, iT, ivS_c (fun a j q => f a j (q1 a j q)) (fun a j q => hr a j (by omega)) (fun _ _ => Or.inl rfl) iS, cpP_c (fun a j q => f a j (q2 a j q)) iP, ivY_c (fun a j q => f a j (q3 a j q)) iY, cpH_c (fun a j q => f a j (q4 a j q)) (fun j => hr _ _ (by omega)) (fun _ _ => Or.inl rfl) iH, ivA_c (fun a j q => f a j (q5 a j q)) (fun a j q => hr a j (by omega)) (fun _ _ => Or.inl rfl) iA, cpO_c (fun a j q => f a j (q6 a j q)) (fun j => hr _ _ (by omega)) (fun _ _ => Or.inl rfl) iO, ivD_c (fun a j q => f a j (q7 a j q)) iD, ivL_c (fun a j q => f a j (q8 a j q)) hg iL⟩
end IV
/-- both calls give one answer, and the invariant is kept -/
def iv_ok (Γ : pv_C) (d kc ks : Nat) (M1 M2 : pv_M) (As : List Value) (L : Nat) (ty : pv_T) (h : pv_H) (r : pv_R) (g : pv_G) : Prop := pv_CT Γ d kc ks M1 (.ref 100 :: As) ty h r g (fun v1 ty1 h1 r1 g1 => ∃ w : Int32, v1 = some (.int w) ∧ pv_Lay ty1 r1 ∧ ty1 1 = some (20, L) ∧ pv_CT Γ d 0 0 M2 (.ref 200 :: As) ty1 h1 r1 g1 (fun v2 ty2 h2 r2 g2 => v2 = some (.int w) ∧ Inv L ty2 h2 r2 g2))
section IO
variable {Γ : pv_C} {d : Nat} {M1 M2 : pv_M} {As : List Value} {L : Nat} {ty : pv_T} {h : pv_H} {r : pv_R} {g : pv_G}
theorem iv_JJ {K1 : Int32 → pv_H → Prop} (I : Inv L ty h r g) (c1 : pv_CJ Γ d M1 (.ref 100 :: As) ty h r g K1) (c2 : ∀ w h1, K1 w h1 → pv_CJ Γ d M2 (.ref 200 :: As) ty h1 r g (fun w2 h2 => w2 = w ∧ Inv L ty h2 r g)) : iv_ok Γ d 0 0 M1 M2 As L ty h r g := by
  obtain ⟨ns, T, nh, na, tl, no, nd, st, hL, iT, -⟩ := I
  refine pv_CT.mono c1 (fun v ty1 h1 r1 g1 q => ?_)
  obtain ⟨rfl, rfl, rfl, w, rfl, q⟩ := q
  refine ⟨w, rfl, hL, iT.1, pv_CT.mono (c2 w h1 q) (fun v ty2 h2 r2 g2 q => ?_)⟩
  obtain ⟨rfl, rfl, rfl, w2, rfl, q1, q2⟩ := q
  exact ⟨by rw [q1], q2⟩
theorem iv_IJ {w : Int32} (I : Inv L ty h r g) (c1 : pv_CT Γ d 0 0 M1 (.ref 100 :: As) ty h r g (pv_is (.int w) ty h r g)) (c2 : pv_CJ Γ d M2 (.ref 200 :: As) ty h r g (fun w2 h2 => w2 = w ∧ Inv L ty h2 r g)) : iv_ok Γ d 0 0 M1 M2 As L ty h r g := by
  obtain ⟨ns, T, nh, na, tl, no, nd, st, hL, iT, -⟩ := I
  refine pv_CT.mono c1 (fun v ty1 h1 r1 g1 q => ?_)
  obtain ⟨rfl, rfl, rfl, rfl, rfl⟩ := q
  refine ⟨w, rfl, hL, iT.1, pv_CT.mono c2 (fun v ty2 h2 r2 g2 q => ?_)⟩
  obtain ⟨rfl, rfl, rfl, w2, rfl, q1, q2⟩ := q
  exact ⟨by rw [q1], q2⟩
theorem iv_isJ {w : Int32} {M : pv_M} {As : List Value} {h1 : pv_H} (c : pv_CT Γ d 0 0 M As ty h r g (pv_is (.int w) ty h r g)) : pv_CJ Γ d M As ty h r g (fun w2 h2 => w2 = w ∧ h2 = h) := pv_CT.mono c (fun v ty1 h1 r1 g1 q => by
  obtain ⟨rfl, rfl, rfl, rfl, rfl⟩ := q
  exact ⟨rfl, rfl, rfl, w, rfl, rfl, rfl⟩)
/-- calls that change nothing -/
theorem iv_II {w : Int32} (I : Inv L ty h r g) (c1 : pv_CT Γ d 0 0 M1 (.ref 100 :: As) ty h r g (pv_is (.int w) ty h r g)) (c2 : pv_CT Γ d 0 0 M2 (.ref 200 :: As) ty h r g (pv_is (.int w) ty h r g)) : iv_ok Γ d 0 0 M1 M2 As L ty h r g :=
  iv_IJ I c1 (pv_CJ.mono (iv_isJ (h1 := h) c2) (fun x h' q => ⟨q.1, by rw [q.2]; exact I⟩))
theorem iv_KK {w : Int32} (I : Inv L ty h r g) (c1 : pv_CJ Γ d M1 (.ref 100 :: As) ty h r g (fun w' h' => w' = w ∧ h' = h)) (c2 : pv_CJ Γ d M2 (.ref 200 :: As) ty h r g (fun w' h' => w' = w ∧ h' = h)) : iv_ok Γ d 0 0 M1 M2 As L ty h r g :=
  iv_JJ I c1 (fun w1 h1 q => by obtain ⟨rfl, rfl⟩ := q; exact pv_CJ.mono c2 (fun x h' q => ⟨q.1, by rw [q.2]; exact I⟩))
theorem iv_KI {w : Int32} (I : Inv L ty h r g) (c1 : pv_CJ Γ d M1 (.ref 100 :: As) ty h r g (fun w' h' => w' = w ∧ h' = h)) (c2 : pv_CT Γ d 0 0 M2 (.ref 200 :: As) ty h r g (pv_is (.int w) ty h r g)) : iv_ok Γ d 0 0 M1 M2 As L ty h r g :=
  iv_KK I c1 (iv_isJ (h1 := h) c2)
end IO
