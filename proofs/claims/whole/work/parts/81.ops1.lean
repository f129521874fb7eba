/-! the calls that change nothing that the invariant speaks of -/
section OA
variable {Γ : pv_C} {d L : Nat} {ty : pv_T} {h : pv_H} {r : pv_R} {g : pv_G}
theorem iv_read (hd : 75 ≤ d) (I : Inv L ty h r g) {x y z : Int32} : iv_ok Γ d 0 0 mX11_read mX12_read [.int x, .int y, .int z] L ty h r g := by
  obtain ⟨ns, T, nh, na, tl, no, nd, st, hL, iT, ⟨iS, iYr, iC, iLv, iF⟩, iP, iY, iH, iA, iO, iD, iLt⟩ := id I
  exact iv_II I (ct_X11_read (by omega) hL iS) (ct_X12_read (by omega) hL iS.1)
theorem iv_water (hd : 75 ≤ d) (I : Inv L ty h r g) {x y z : Int32} : iv_ok Γ d 0 0 mX11_water mX12_water [.int x, .int y, .int z] L ty h r g := by
  obtain ⟨ns, T, nh, na, tl, no, nd, st, hL, iT, ⟨iS, iYr, iC, iLv, iF⟩, iP, iY, iH, iA, iO, iD, iLt⟩ := id I
  exact iv_II I (ct_X11_water (by omega) hL iS) (ct_X12_water (by omega) hL iS.1)
theorem iv_wear (hd : 75 ≤ d) (I : Inv L ty h r g) {x y : Int32} : iv_ok Γ d 0 0 mX11_wear mX12_wear [.int x, .int y] L ty h r g := by
  obtain ⟨ns, T, nh, na, tl, no, nd, st, hL, iT, ⟨iS, iYr, iC, iLv, iF⟩, iP, iY, iH, iA, iO, iD, iLt⟩ := id I
  exact iv_II I (ct_X11_wear (by omega) hL iS iYr) (ct_X12_wear (by omega) hL iS.1 iYr.1)
theorem iv_levelled (hd : 75 ≤ d) (I : Inv L ty h r g) {x : Int32} : iv_ok Γ d 0 0 mX11_levelled mX12_levelled [.int x] L ty h r g := by
  obtain ⟨ns, T, nh, na, tl, no, nd, st, hL, iT, ⟨iS, iYr, iC, iLv, iF⟩, iP, iY, iH, iA, iO, iD, iLt⟩ := id I
  exact iv_II I (ct_X11_levelled (by omega) hL iS iLv) (ct_X12_levelled (by omega) hL iS iLv)
theorem iv_planned (hd : 75 ≤ d) (I : Inv L ty h r g) {x : Int32} : iv_ok Γ d 0 0 mX11_planned mX12_planned [.int x] L ty h r g := by
  obtain ⟨ns, T, nh, na, tl, no, nd, st, hL, iT, ⟨iS, iYr, iC, iLv, iF⟩, iP, iY, iH, iA, iO, iD, iLt⟩ := id I
  exact iv_II I (ct_X11_planned (by omega) hL) (ct_X12_planned (by omega) hL iP)
theorem iv_inForce (hd : 75 ≤ d) (I : Inv L ty h r g) {x y z : Int32} : iv_ok Γ d 0 0 mX11_inForce mX12_inForce [.int x, .int y, .int z] L ty h r g := by
  obtain ⟨ns, T, nh, na, tl, no, nd, st, hL, iT, ⟨iS, iYr, iC, iLv, iF⟩, iP, iY, iH, iA, iO, iD, iLt⟩ := id I
  exact iv_KK I (ct_X11_inForce (by omega) hL iA) (ct_X12_inForce (by omega) hL iA)
theorem iv_sink (hd : 75 ≤ d) (I : Inv L ty h r g) {x y : Int32} : iv_ok Γ d 0 0 mX11_sink mX12_sink [.int x, .int y] L ty h r g := by
  obtain ⟨ns, T, nh, na, tl, no, nd, st, hL, iT, ⟨iS, iYr, iC, iLv, iF⟩, iP, iY, iH, iA, iO, iD, iLt⟩ := id I
  exact iv_KK I (ct_X11_sink (by omega) hL iS iO) (ct_X12_sink (by omega) hL iS.1 iO)
theorem iv_opening (hd : 75 ≤ d) (I : Inv L ty h r g) {x y : Int32} : iv_ok Γ d 0 0 mX11_opening mX12_opening [.int x, .int y] L ty h r g := by
  obtain ⟨ns, T, nh, na, tl, no, nd, st, hL, iT, ⟨iS, iYr, iC, iLv, iF⟩, iP, iY, iH, iA, iO, iD, iLt⟩ := id I
  exact iv_KK I (ct_X11_opening (by omega) hL iO) (ct_X12_opening (by omega) hL iO)
theorem iv_drawn (hd : 75 ≤ d) (I : Inv L ty h r g) {x : Int32} : iv_ok Γ d 0 0 mX11_drawn mX12_drawn [.int x] L ty h r g := by
  obtain ⟨ns, T, nh, na, tl, no, nd, st, hL, iT, ⟨iS, iYr, iC, iLv, iF⟩, iP, iY, iH, iA, iO, iD, iLt⟩ := id I
  exact iv_KK I (ct_X11_drawn (by omega) hL iLt.1 iLt.2.1 iLt.2.2.1 iLt.2.2.2.1) (ct_X12_drawn (by omega) hL iLt.1 iLt.2.1)
theorem iv_count (hd : 75 ≤ d) (I : Inv L ty h r g) {x : Int32} : iv_ok Γ d 0 0 mX11_count mX12_count [.int x] L ty h r g := by
  obtain ⟨ns, T, nh, na, tl, no, nd, st, hL, iT, ⟨iS, iYr, iC, iLv, iF⟩, iP, iY, iH, iA, iO, iD, iLt⟩ := id I
  exact iv_KK I (ct_X11_count (by omega) hL iO (iS.2.1.trans iS.1.2.1.symm) (iH.1.2.2.trans iH.1.2.1.symm) (iA.2.1.2.1.trans iA.2.1.2.2.symm) iD.1 (iYr.2.1.trans iYr.1.2.1.symm) (iA.1.2.1.trans iA.1.2.2.1.symm) (fun i h1 h2 => (iY.1 i (by omega)).2.trans (iY.2.1 i (by omega)).2.symm)) (ct_X12_count hL iO)
theorem iv_of (hd : 75 ≤ d) (I : Inv L ty h r g) {x : Int32} : iv_ok Γ d 0 0 mX11_of mX12_of [.int x] L ty h r g := by
  obtain ⟨ns, T, nh, na, tl, no, nd, st, hL, iT, ⟨iS, iYr, iC, iLv, iF⟩, iP, iY, iH, iA, iO, iD, iLt⟩ := id I
  refine iv_KI I (w := fn_of h (h 200 16) 317 x) (pv_CJ.mono (ct_X11_of (by omega) hL) (fun w h' q => ⟨q.1.trans ?_, q.2⟩)) (ct_X12_of (by omega) hL)
  unfold fn_of
  rw [iY.2.2.1]
  by_cases q : ¬ h 200 16 = 0 ∧ (1 ≤ x ∧ x ≤ 9)
  · rw [if_pos q, if_pos q]
    obtain ⟨n, hn, rfl⟩ := nI_of (x := x) (Int32.not_lt.mpr (Int32.le_trans (by decide) q.2.1))
    have h1 : 1 ≤ n := (nI_leI (a := 1) (by decide) hn).mp q.2.1
    have h2 : n ≤ 9 := (nI_leI (b := 9) hn (by decide)).mp q.2.2
    rw [nI_clamp hn]
    exact iY.2.2.2 q.1 n h1 h2
  · rw [if_neg q, if_neg q]
theorem iv_bad (hd : 75 ≤ d) (I : Inv L ty h r g) {x y z u : Int32} : iv_ok Γ d 0 0 mX11_bad mX12_bad [.int x, .int y, .int z, .int u] L ty h r g := by
  obtain ⟨ns, T, nh, na, tl, no, nd, st, hL, iT, ⟨iS, iYr, iC, iLv, iF⟩, iP, iY, iH, iA, iO, iD, iLt⟩ := id I
  refine ct_X11_bad (by omega) hL iLt.2.2.2.2 (fun q => ⟨_, rfl, hL, iT.1, ct_X12_bad (by omega) hL (fun _ => ⟨rfl, I⟩) (fun z => absurd z q)⟩) (fun q => ⟨_, rfl, hL, iT.1, ct_X12_bad (by omega) hL (fun z => absurd q z) (fun _ g' o => ⟨rfl, ?_⟩)⟩)
  exact Inv_c (P := fun _ _ => False) (fun _ _ _ => rfl) (fun _ _ _ => id) (fun _ _ _ => id) (fun _ _ _ => id) (fun _ _ _ => id) (fun _ _ _ => id) (fun _ _ _ => id) (fun _ _ _ => id) (fun _ _ _ => id) (fun _ _ _ => rfl) hL (fun j => congrFun (o 91 (by decide)) j) I
theorem Inv_31 {f k : Nat → Int32} (I : Inv L ty h r g) : Inv L ty (pv_row (pv_row h 31 f) 32 k) r g := by
  obtain ⟨ns, T, nh, na, tl, no, nd, st, hL, -⟩ := id I
  exact Inv_c (P := fun a _ => a = 31 ∨ a = 32) (fun a j q => by rw [pv_row_ne (fun z => q (Or.inr z)), pv_row_ne (fun z => q (Or.inl z))]) (fun a j q => by omega) (fun a j q => by omega) (fun a j q => by omega) (fun a j q => by omega) (fun a j q => by omega) (fun a j q => by omega) (fun a j q => by omega) (fun a j q => by omega) (fun _ _ _ => rfl) hL (fun _ => rfl) I
theorem fn_standing_c {h' : pv_H} (e1 : h' 200 1 = h 200 1) (e2 : h' 302 = h 302) (e3 : h' 303 = h 303) (e4 : h' 304 = h 304) (e5 : h' 305 = h 305) (x : Int32) : fn_standing h' x = fn_standing h x := by
  unfold fn_standing mStays mEnd mC mR mH mD
  rw [e1, e2, e3, e4, e5]
theorem fn_most_c {h' : pv_H} (e1 : h' 200 1 = h 200 1) (e2 : h' 302 = h 302) (e3 : h' 303 = h 303) (e4 : h' 304 = h 304) (e5 : h' 305 = h 305) (x : Int32) : fn_most h' x = fn_most h x := by
  unfold fn_most mEnd mC mR mH mD
  rw [e1, e2, e3, e4, e5]
theorem iv_standing (hd : 75 ≤ d) (I : Inv L ty h r g) {x : Int32} : iv_ok Γ d 0 0 mX11_standing mX12_standing [.int x] L ty h r g := by
  obtain ⟨ns, T, nh, na, tl, no, nd, st, hL, iT, ⟨iS, iYr, iC, iLv, iF⟩, iP, iY, iH, iA, iO, iD, iLt⟩ := id I
  refine iv_JJ I (ct_X11_standing (by omega) hL iS) (fun w h1 q => ?_)
  obtain ⟨rfl, f, rfl⟩ := q
  have I1 : Inv L ty (pv_row h 31 f) r g := by
    have := Inv_31 (f := f) (k := pv_row h 31 f 32) I
    rw [pv_row_self] at this
    exact this
  have S1 : mStreets (pv_row h 31 f) ns := (cpS_c (ty' := ty) (r' := r) (fun a j q => by rw [pv_row_ne (by omega)]) (fun _ _ _ => rfl) (fun _ _ => Or.inl rfl) iS).1
  refine pv_CJ.mono (iv_isJ (h1 := h) (ct_X12_standing (by omega) hL S1)) (fun w2 h2 q => ⟨q.1.trans (fn_standing_c (by rw [pv_row_ne (by decide)]) (pv_row_ne (by decide)) (pv_row_ne (by decide)) (pv_row_ne (by decide)) (pv_row_ne (by decide)) x), by rw [q.2]; exact I1⟩)
theorem iv_most (hd : 75 ≤ d) (I : Inv L ty h r g) {x : Int32} : iv_ok Γ d 0 0 mX11_most mX12_most [.int x] L ty h r g := by
  obtain ⟨ns, T, nh, na, tl, no, nd, st, hL, iT, ⟨iS, iYr, iC, iLv, iF⟩, iP, iY, iH, iA, iO, iD, iLt⟩ := id I
  refine iv_JJ I (ct_X11_most (by omega) hL iS) (fun w h1 q => ?_)
  obtain ⟨rfl, f, k, rfl⟩ := q
  obtain ⟨h1, e1⟩ : ∃ h1, h1 = pv_row (pv_row h 31 f) 32 k := ⟨_, rfl⟩
  have I1 : Inv L ty h1 r g := by rw [e1]; exact Inv_31 I
  have ff : ∀ a, a ≠ 31 → a ≠ 32 → h1 a = h a := fun a q1 q2 => by rw [e1, pv_row_ne q2, pv_row_ne q1]
  rw [← e1]
  have S1 : mStreets h1 ns := (cpS_c (ty' := ty) (r' := r) (fun a j q => by rw [ff a (by omega) (by omega)]) (fun _ _ _ => rfl) (fun _ _ => Or.inl rfl) iS).1
  refine pv_CJ.mono (ct_X12_most (by omega) hL S1) (fun w2 h2 q => ⟨q.1.trans (fn_most_c (by rw [ff 200 (by decide) (by decide)]) (ff 302 (by decide) (by decide)) (ff 303 (by decide) (by decide)) (ff 304 (by decide) (by decide)) (ff 305 (by decide) (by decide)) x), ?_⟩)
  obtain ⟨-, f2, e2⟩ := q
  exact Inv_c (P := fun a _ => a = 306) (fun a j q => by rw [e2, pv_row_ne q]) (fun a j q => by omega) (fun a j q => by omega) (fun a j q => by omega) (fun a j q => by omega) (fun a j q => by omega) (fun a j q => by omega) (fun a j q => by omega) (fun a j q => by omega) (fun _ _ _ => rfl) hL (fun _ => rfl) I1
theorem Inv_gp {h' : pv_H} {r' : pv_R} (f : pv_fr gpA h h') (fr : pv_frG gpR r r') (hL' : pv_Lay ty r') (I : Inv L ty h r g) : Inv L ty h' r' g :=
  Inv_c (P := fun a _ => a = 81 ∨ a = 80) (fun a j q => f a j (by unfold gpA; omega)) (fun a j q => by omega) (fun a j q => by omega) (fun a j q => by omega) (fun a j q => by omega) (fun a j q => by omega) (fun a j q => by omega) (fun a j q => by omega) (fun a j q => by omega) (fun a j q => fr a j (by unfold gpR; omega)) hL' (fun _ => rfl) I
theorem Inv_gm {h' : pv_H} (f : pv_fr gmA h h') (I : Inv L ty h r g) : Inv L ty h' r g := by
  obtain ⟨ns, T, nh, na, tl, no, nd, st, hL, -⟩ := id I
  exact Inv_c (P := fun a j => a = 352 ∨ a = 353 ∨ (a = 200 ∧ j = 54)) (fun a j q => f a j (by unfold gmA; omega)) (fun a j q => by omega) (fun a j q => by omega) (fun a j q => by omega) (fun a j q => by omega) (fun a j q => by omega) (fun a j q => by omega) (fun a j q => by omega) (fun a j q => by omega) (fun _ _ _ => rfl) hL (fun _ => rfl) I
theorem cs_ok_g {h' : pv_H} {r' : pv_R} {K : Nat} {cs : List tx_C} {o : Option Nat} (f : pv_fr gpA h h') (fr : pv_frG gpR r r') (x : cs_ok K cs ty h r o) : cs_ok K cs ty h' r' o := fun i e => by
  obtain ⟨c1, c2⟩ := x i e
  exact ⟨pt_C_fr c2.1 f fr c1, c2.1, ⟨(f 345 i (by unfold gpA; omega)).trans c2.2.1.1, ps_s_c (fun j _ => ⟨f 346 _ (by unfold gpA; omega), f 347 _ (by unfold gpA; omega)⟩) c2.2.1.2⟩, c2.2.2⟩
theorem gp_A {h' : pv_H} {r' : pv_R} {na tl : Nat} (f : pv_fr gpA h h') (fr : pv_frG gpR r r') (x : cpA ty h r na tl) : cpA ty h' r' na tl := ivA_c (fun a j q => f a j (by unfold gpA; omega)) (fun a j q => fr a j (by unfold gpR; omega)) (fun _ _ => Or.inl rfl) x
theorem gp_H {h' : pv_H} {r' : pv_R} {nh : Nat} (f : pv_fr gpA h h') (fr : pv_frG gpR r r') (x : cpH ty h r nh) : cpH ty h' r' nh := cpH_c (fun a j q => f a j (by unfold gpA; omega)) (fun j => fr _ _ (by unfold gpR; omega)) (fun _ _ => Or.inl rfl) x
theorem gp_O {h' : pv_H} {r' : pv_R} {no : Nat} (f : pv_fr gpA h h') (fr : pv_frG gpR r r') (x : cpO ty h r no) : cpO ty h' r' no := cpO_c (fun a j q => f a j (by unfold gpA; omega)) (fun j => fr _ _ (by unfold gpR; omega)) (fun _ _ => Or.inl rfl) x
theorem gp_33 {h' : pv_H} (f : pv_fr gpA h h') : (∀ a j, 334 ≤ a → a ≤ 338 → h' a j = h a j) ∧ (∀ a j, 342 ≤ a → a ≤ 344 → h' a j = h a j) ∧ (∀ a j, 356 ≤ a → a ≤ 361 → h' a j = h a j) ∧ ∀ j, j ≠ 54 → h' 200 j = h 200 j := ⟨fun a j _ _ => f a j (by unfold gpA; omega), fun a j _ _ => f a j (by unfold gpA; omega), fun a j _ _ => f a j (by unfold gpA; omega), fun j _ => f 200 j (by unfold gpA; omega)⟩
theorem iv_rate (hd : 75 ≤ d) (I : Inv L ty h r g) {x y z : Int32} : iv_ok Γ d 0 0 mX11_rate mX12_rate [.int x, .int y, .int z] L ty h r g := by
  obtain ⟨ns, T, nh, na, tl, no, nd, st, hL, iT, ⟨iS, iYr, iC, iLv, iF⟩, iP, iY, iH, iA, iO, iD, iLt⟩ := id I
  obtain ⟨cs, hcs⟩ := cs_of (K := 0) (y := y) (z := z) (by decide) iA
  refine ct_X11_rate (by omega) hL iA iH hcs (fun h1 r1 f1 fr1 hL1 => ⟨_, rfl, hL1, iT.1, ?_⟩)
  obtain ⟨e1, e2, -, e3⟩ := gp_33 f1
  have fo := fo_l_c (x := 0) (y := y) (z := z) e2 na
  refine pv_CT.mono (ct_X12_rate (cs := cs) (by omega) hL1 (gp_A f1 fr1 iA) (gp_H f1 fr1 iH) (by rw [fo]; exact cs_ok_g f1 fr1 hcs)) (fun v ty2 h2 r2 g2 q => ?_)
  obtain ⟨rfl, rfl, rfl, w2, rfl, q1, q2⟩ := q
  refine ⟨?_, Inv_gm q1 (Inv_gp f1 fr1 hL1 I)⟩
  rw [q2]
  unfold fn_rate
  rw [e3 33 (by decide), fo, rt_1_c e1]
theorem iv_rates (hd : 75 ≤ d) (I : Inv L ty h r g) {x y : Int32} : iv_ok Γ d 0 0 mX11_rates mX12_rates [.int x, .int y] L ty h r g := by
  obtain ⟨ns, T, nh, na, tl, no, nd, st, hL, iT, ⟨iS, iYr, iC, iLv, iF⟩, iP, iY, iH, iA, iO, iD, iLt⟩ := id I
  obtain ⟨cs, hcs⟩ := cs_of (K := 0) (y := y) (z := y) (by decide) iA
  refine ct_X11_rates (by omega) hL iS iA iH hcs (fun h1 r1 f1 fr1 hL1 => ⟨_, rfl, hL1, iT.1, ?_⟩)
  obtain ⟨e1, e2, -, e3⟩ := gp_33 f1
  have fo := fo_l_c (x := 0) (y := y) (z := y) e2 na
  refine pv_CT.mono (ct_X12_rates (cs := cs) (by omega) hL1 (gp_A f1 fr1 iA) (gp_H f1 fr1 iH) (by rw [fo]; exact cs_ok_g f1 fr1 hcs)) (fun v ty2 h2 r2 g2 q => ?_)
  obtain ⟨rfl, rfl, rfl, w2, rfl, q1, q2⟩ := q
  refine ⟨?_, Inv_gm q1 (Inv_gp f1 fr1 hL1 I)⟩
  rw [q2]
  unfold fn_rates
  rw [e3 1 (by decide), fo, rt_s_c e1]
theorem iv_clause (hd : 75 ≤ d) (I : Inv L ty h r g) {x y : Int32} : iv_ok Γ d 0 0 mX11_clause mX12_clause [.int x, .int y] L ty h r g := by
  obtain ⟨ns, T, nh, na, tl, no, nd, st, hL, iT, ⟨iS, iYr, iC, iLv, iF⟩, iP, iY, iH, iA, iO, iD, iLt⟩ := id I
  obtain ⟨cs, hcs⟩ := cs_of (K := 0) (y := y) (z := y) (by decide) iA
  refine ct_X11_clause (by omega) hL iA iH hcs (fun h1 r1 f1 fr1 hL1 => ⟨_, rfl, hL1, iT.1, ?_⟩)
  obtain ⟨e1, e2, -, e3⟩ := gp_33 f1
  have fo := fo_l_c (x := 0) (y := y) (z := y) e2 na
  refine pv_CT.mono (ct_X12_clause (cs := cs) (by omega) hL1 (gp_A f1 fr1 iA) (gp_H f1 fr1 iH) (by rw [fo]; exact cs_ok_g f1 fr1 hcs)) (fun v ty2 h2 r2 g2 q => ?_)
  obtain ⟨rfl, rfl, rfl, w2, rfl, q1, q2⟩ := q
  refine ⟨?_, Inv_gm q1 (Inv_gp f1 fr1 hL1 I)⟩
  rw [q2]
  unfold fn_clause
  rw [e3 33 (by decide), fo, pt_V_c e1]
theorem co_n_c {h' : pv_H} {x : Int32} (hh : ∀ a j, 356 ≤ a → a ≤ 361 → h' a j = h a j) : ∀ n, co_n h' x n = co_n h x n
  | 0 => rfl
  | n + 1 => by
    show co_n h' x n + (if h' 356 n = x ∧ h' 361 n = -1 then 1 else 0) = co_n h x n + (if h 356 n = x ∧ h 361 n = -1 then 1 else 0)
    rw [co_n_c hh n, hh 356 n (by decide) (by decide), hh 361 n (by decide) (by decide)]
theorem pe_V_c {h' : pv_H} {i no : Nat} {y : Int32} (hh : ∀ a j, 356 ≤ a → a ≤ 361 → h' a j = h a j) : pe_V h' i no y = pe_V h i no y := by
  funext c
  unfold pe_V pe_d
  rw [hh 361 i (by decide) (by decide), hh 359 i (by decide) (by decide), hh 360 i (by decide) (by decide), hh 356 i (by decide) (by decide), hh 357 i (by decide) (by decide), co_n_c hh]
theorem iv_penalty (hd : 75 ≤ d) (I : Inv L ty h r g) {x y z : Int32} : iv_ok Γ d 0 0 mX11_penalty mX12_penalty [.int x, .int y, .int z] L ty h r g := by
  obtain ⟨ns, T, nh, na, tl, no, nd, st, hL, iT, ⟨iS, iYr, iC, iLv, iF⟩, iP, iY, iH, iA, iO, iD, iLt⟩ := id I
  obtain ⟨cs, hcs⟩ := cs_of (K := 1) (y := y) (z := z) (by decide) iA
  refine ct_X11_pen (by omega) hL iA iO ⟨iD.1, iD.2.2⟩ hcs (fun h1 r1 f1 fr1 hL1 => ⟨_, rfl, hL1, iT.1, ?_⟩)
  obtain ⟨-, e2, e4, e3⟩ := gp_33 f1
  have fo := fo_l_c (x := 1) (y := y) (z := z) e2 na
  refine pv_CT.mono (ct_X12_pen (cs := cs) (by omega) hL1 (gp_A f1 fr1 iA) (gp_O f1 fr1 iO) (by rw [fo]; exact cs_ok_g f1 fr1 hcs)) (fun v ty2 h2 r2 g2 q => ?_)
  obtain ⟨rfl, rfl, rfl, w2, rfl, q1, q2⟩ := q
  refine ⟨?_, Inv_gm q1 (Inv_gp f1 fr1 hL1 I)⟩
  rw [q2]
  unfold fn_pen
  rw [e3 55 (by decide), e3 32 (by decide), fo, pe_V_c e4, e4 359 _ (by decide) (by decide)]
end OA
