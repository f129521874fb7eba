/-! the calls that make or end something: house act open back -/
/-- the reference's openings alone -/
def mO (h : pv_H) (no : Nat) : Prop := (no ≤ 200 ∧ h 200 55 = nI no) ∧ ∀ i, i < no → op_ok h i
section OM
variable {Γ : pv_C} {d kc ks : Nat} {ty : pv_T} {h : pv_H} {r : pv_R} {g : pv_G} {Q : pv_Q} {no ns : Nat} {x y z u : Int32}
theorem mo_openNow (hL : pv_Lay ty r) (hO : mO h no) : pv_CJ Γ d mX12_openNow [.ref 200, .int x, .int y] ty h r g (fun w h' => w = fo_i (-2) (on_f h x y no 0) ∧ h' = h) :=
  pv_fn 1 pn_X12 rfl (Nat.le_of_ble_eq_true rfl) (sg_X12_openNow_0 _ _ (on_m2 hL hO.1.2 hO.1.1 hO.2 (pv_jqi ⟨rfl, rfl⟩) no 0 (Nat.zero_add _) rfl))
theorem mo_open (hd : 4 ≤ d) (hL : pv_Lay ty r) (hS : mStreets h ns) (hO : mO h no) : pv_CJ Γ d mX12_open [.ref 200, .int x, .int y, .int z, .int u] ty h r g (fun w h' => (¬ fo_open h x y z u → w = -1 ∧ h' = h) ∧ (fo_open h x y z u → (¬ on_f h y z no 0 = none → w = -2 ∧ h' = h) ∧ (on_f h y z no 0 = none → (no = 200 → w = -3 ∧ h' = h) ∧ (no < 200 → w = nI no ∧ h' = pv_up (pv_up (pv_up (pv_up (pv_up (pv_up (pv_up h 356 no x) 357 no y) 358 no z) 359 no (h 200 32)) 360 no u) 361 no (-1)) 200 55 (nI (no + 1)))))) := by
  have hn := hO.1.1
  refine pv_fn 1 pn_X12 rfl (Nat.le_of_ble_eq_true rfl) (sg_X12_open_0 _ _ _ _ (by omega) hL (pk_b (fun c1 => ⟨ni_b8 hS.2.1 hS.1, pk_b (fun c2 => pj_b (fun c3 => pv_CJ.mono (mo_openNow hL hO) (fun w h1 q => ?_)) (fun c3 => pv_jqi ⟨fun _ => ⟨rfl, rfl⟩, fun q => absurd q.2.2 c3⟩)) (fun c2 => pv_jqi ⟨fun _ => ⟨rfl, rfl⟩, fun q => absurd q.2.1 c2⟩)⟩) (fun c1 => pv_jqi ⟨fun _ => ⟨rfl, rfl⟩, fun q => absurd q.1 c1⟩)))
  obtain ⟨rfl, rfl⟩ := q
  have hok : fo_open h1 x y z u := ⟨c1, c2, c3⟩
  cases hf : on_f h1 y z no 0 with
  | some i =>
    have hi := (on_f_s hf).2.1
    exact ⟨fun q => absurd q (nI_pos (by omega)), fun _ => pv_jqi ⟨fun q => absurd hok q, fun _ => ⟨fun _ => ⟨rfl, rfl⟩, fun q => by cases q⟩⟩⟩
  | none =>
    refine ⟨fun _ => pj_eq no 200 (fun c4 => pv_jqi ⟨fun q => absurd hok q, fun _ => ⟨fun q => absurd rfl q, fun _ => ⟨fun _ => ⟨rfl, rfl⟩, fun q => absurd q (by omega)⟩⟩⟩) (fun c4 => ?_) hO.1.2, fun q => absurd (by decide) q⟩
    rw [hO.1.2, nI_clamp (by omega)]
    have hi : vp_in (nI no) 200 := vp_in_nI (by omega) (by decide)
    refine ⟨hi, fun h2 e2 => ⟨hi, fun h3 e3 => ⟨hi, fun h4 e4 => ⟨hi, fun h5 e5 => ⟨hi, fun h6 e6 => ⟨hi, fun h7 e7 h8 e8 => ?_⟩⟩⟩⟩⟩⟩
    have a1 : h4 200 32 = h1 200 32 := by rw [e4, pv_up_a (by decide), e3, pv_up_a (by decide), e2, pv_up_a (by decide)]
    have a2 : h7 200 55 = nI no := by rw [e7, pv_up_a (by decide), e6, pv_up_a (by decide), e5, pv_up_a (by decide), e4, pv_up_a (by decide), e3, pv_up_a (by decide), e2, pv_up_a (by decide)]; exact hO.1.2
    rw [a2, nI_1] at e8
    rw [a1] at e5
    refine pv_jqi ⟨fun q => absurd hok q, fun _ => ⟨fun q => absurd rfl q, fun _ => ⟨fun q => absurd q c4, fun _ => ⟨rfl, ?_⟩⟩⟩⟩
    rw [e8, e7, e6, e5, e4, e3, e2]
theorem mo_back (hd : 2 ≤ d) (hL : pv_Lay ty r) (hO : mO h no) : pv_CJ Γ d mX12_back [.ref 200, .int x] ty h r g (fun w h' => (¬ fo_op h x → w = -1 ∧ h' = h) ∧ ∀ i, i < no → x = nI i → (h 361 i = -1 → w = h 200 32 - h 359 i ∧ h' = pv_up h 361 i (h 200 32)) ∧ (¬ h 361 i = -1 → w = -2 ∧ h' = h)) := by
  have hn := hO.1.1
  refine pv_fn 0 pn_X12 rfl (Nat.le_of_ble_eq_true rfl) (sg_X12_back_0 _ (by omega) hL (pj_b (fun c1 => ?_) (fun c1 => pv_jqi ⟨fun _ => ⟨rfl, rfl⟩, fun i hi e => absurd ?_ c1⟩)))
  · have c0 := c1
    rw [hO.1.2, ni_valid (by omega)] at c1
    obtain ⟨i, hi, rfl⟩ := c1
    have hb := op_b (hO.2 i hi)
    have hin : vp_in (nI i) 200 := vp_in_nI (by omega) (by decide)
    rw [nI_clamp (by omega)]
    refine ⟨hin, fun c2 => ⟨hin, fun h2 e2 => ⟨hin, ?_⟩⟩, fun c2 => pv_jqi ⟨fun q => absurd c0 q, fun j hj e => ?_⟩⟩
    · have c3 : h 361 i = -1 := Classical.not_not.mp (fun q => absurd (hb.mpr q) (by grind))
      rw [e2, pv_up_a (by decide), pv_up_a (by decide)]
      refine pv_jqi ⟨fun q => absurd c0 q, fun j hj e => ?_⟩
      have e' := (nI_eq (by omega) (by omega)).mp e
      subst e'
      exact ⟨fun _ => ⟨rfl, rfl⟩, fun q => absurd c3 q⟩
    · have e' := (nI_eq (by omega) (by omega)).mp e
      subst e'
      exact ⟨fun q => absurd (by rw [q]; decide) c2, fun _ => ⟨rfl, rfl⟩⟩
  · rw [hO.1.2, ni_valid (by omega)]
    exact ⟨i, hi, e⟩
end OM
section OD
variable {Γ : pv_C} {d L : Nat} {ty : pv_T} {h : pv_H} {r : pv_R} {g : pv_G}
theorem on_P_c {h' : pv_H} {x y : Int32} (hh : ∀ a j, 356 ≤ a → a ≤ 361 → h' a j = h a j) : ∀ m k, on_f h' x y m k = on_f h x y m k
  | 0, _ => rfl
  | m + 1, k => by
    show (if on_P h' x y k then some k else on_f h' x y m (k + 1)) = (if on_P h x y k then some k else on_f h x y m (k + 1))
    have e : on_P h' x y k ↔ on_P h x y k := by
      unfold on_P
      rw [hh 357 k (by decide) (by decide), hh 358 k (by decide) (by decide), hh 361 k (by decide) (by decide)]
    rw [on_P_c hh m (k + 1)]
    by_cases q : on_P h x y k
    · rw [if_pos q, if_pos (e.mpr q)]
    · rw [if_neg q, if_neg (fun z => q (e.mp z))]
theorem iv_house (hd : 75 ≤ d) (I : Inv L ty h r g) {x y z : Int32} : iv_ok Γ d 1 5 mX11_house mX12_house [.int x, .int y, .int z] L ty h r g := by
  obtain ⟨ns, T, nh, na, tl, no, nd, st, hL, iT, iSS, iP, iY, iH, iA, iO, iD, iLt⟩ := id I
  obtain ⟨iS, iYr, iC, iLv, iF⟩ := id iSS
  refine ct_X11_house (by omega) hL iS iH (fun q => iT.2.2.1 nh (Nat.le_refl _) q) (fun q => ⟨_, rfl, hL, iT.1, ?_⟩) (fun q e => ⟨_, rfl, hL, iT.1, ?_⟩) (fun q lt ty1 h1 r1 g1 c => ?_)
  · refine pv_CT.mono (ct_X12_house (by omega) hL iH.1.1 iH.1.2.1) (fun v ty2 h2 r2 g2 p => ?_)
    obtain ⟨rfl, rfl, rfl, w2, rfl, p1, -⟩ := p
    obtain ⟨e1, e2⟩ := p1 q
    exact ⟨by rw [e1], by rw [e2]; exact I⟩
  · refine pv_CT.mono (ct_X12_house (by omega) hL iH.1.1 iH.1.2.1) (fun v ty2 h2 r2 g2 p => ?_)
    obtain ⟨rfl, rfl, rfl, w2, rfl, -, p2⟩ := p
    obtain ⟨e1, e2⟩ := (p2 q).1 e
    exact ⟨by rw [e1], by rw [e2]; exact I⟩
  · obtain ⟨hL1, et, er, eg, f1, u1, u2, u3, u4, u5, u6⟩ := c
    obtain ⟨b, hb⟩ : ∃ b, b = hA nh := ⟨_, rfl⟩
    have hb2 : b = 2000 + nh := hb
    rw [← hb] at et er eg f1 u2 u3 u4 u5 u6
    have ft : ∀ a, ¬ a = b → ty1 a = ty a := fun a q => by rw [et, pv_newT, if_neg q]
    have fr : ∀ a j, ¬ (a = b ∨ (a = 117 ∧ j = nh)) → r1 a j = r a j := fun a j q => by rw [er, pv_up, if_neg (by omega), pv_new, if_neg (by omega)]
    have fg : ∀ a j, ¬ a = b → g1 a j = g a j := fun a j q => by rw [eg, pv_new, if_neg q]
    refine ⟨_, rfl, hL1, by rw [ft 1 (by omega)]; exact iT.1, ?_⟩
    have k1 : h1 200 1 = h 200 1 := f1 200 1 (by omega) (by omega)
    have q' : fo_house h1 x y z := by unfold fo_house fo_pl; rw [k1]; exact q
    refine pv_CT.mono (ct_X12_house (by omega) hL1 iH.1.1 (by rw [f1 200 33 (by omega) (by omega)]; exact iH.1.2.1)) (fun v ty2 h2 r2 g2 p => ?_)
    obtain ⟨rfl, rfl, rfl, w2, rfl, -, p2⟩ := p
    obtain ⟨e1, e2⟩ := (p2 q').2 lt
    refine ⟨by rw [e1], ?_⟩
    have f : ∀ a j, ¬ (a = b ∨ (a = 100 ∧ j = 8) ∨ (334 ≤ a ∧ a ≤ 338 ∧ j = nh) ∨ (a = 200 ∧ j = 33)) → h2 a j = h a j := fun a j q => by
      rw [e2, pv_up, if_neg (by omega), pv_up, if_neg (by omega), pv_up, if_neg (by omega), pv_up, if_neg (by omega), pv_up, if_neg (by omega), pv_up, if_neg (by omega)]
      exact f1 a j (by omega) (by omega)
    have hbb : ∀ j, h2 b j = h1 b j := fun j => by rw [e2, pv_up_a (by omega), pv_up_a (by omega), pv_up_a (by omega), pv_up_a (by omega), pv_up_a (by omega), pv_up_a (by omega)]
    have v4 : h2 334 nh = x / 100 := by rw [e2, pv_up_a (by decide), pv_up_a (by decide), pv_up_a (by decide), pv_up_a (by decide), pv_up_a (by decide), pv_up_same]
    have v5 : h2 335 nh = x - x / 100 * 100 := by rw [e2, pv_up_a (by decide), pv_up_a (by decide), pv_up_a (by decide), pv_up_a (by decide), pv_up_same]
    have v6 : h2 336 nh = hcS y := by rw [e2, pv_up_a (by decide), pv_up_a (by decide), pv_up_a (by decide), pv_up_same]
    have v7 : h2 337 nh = hcF y := by rw [e2, pv_up_a (by decide), pv_up_a (by decide), pv_up_same]
    have v8 : h2 338 nh = z := by rw [e2, pv_up_a (by decide), pv_up_same]
    refine ⟨ns, T, nh + 1, na, tl, no, nd, st, hL1, ⟨by rw [ft 1 (by omega)]; exact iT.1, fun s s1 s2 t t1 => by rw [ft _ (by unfold cA; omega)]; exact iT.2.1 s s1 s2 t t1, fun i i1 i2 => by rw [ft _ (by unfold hA; omega)]; exact iT.2.2.1 i (by omega) i2, fun i i1 i2 => by rw [ft _ (by unfold aA; omega), ft _ (by unfold aA; omega)]; exact iT.2.2.2.1 i i1 i2, fun i i1 i2 => by rw [ft _ (by unfold oA; omega)]; exact iT.2.2.2.2 i i1 i2⟩, (ivS_c (fun a j q => f a j (by omega)) (fun a j q => fr a j (by omega)) (fun a q => Or.inl (ft a (by omega))) iSS), (cpP_c (fun a j q => f a j (by omega)) iP), (ivY_c (fun a j q => f a j (by omega)) iY), ⟨⟨by omega, by rw [e2, pv_up_same], by rw [e2, pv_up_a (by decide), pv_up_a (by decide), pv_up_a (by decide), pv_up_a (by decide), pv_up_a (by decide), pv_up_a (by decide)]; exact u1⟩, fun i hi => ?_⟩, (ivA_c (fun a j q => f a j (by omega)) (fun a j q => fr a j (by omega)) (fun a q => Or.inl (ft a (by omega))) iA), (cpO_c (fun a j q => f a j (by omega)) (fun j => fr _ j (by omega)) (fun a q => Or.inl (ft a (by omega))) iO), (ivD_c (fun a j q => f a j (by omega)) iD), (ivL_c (fun a j q => f a j (by omega)) (fun j => fg 91 j (by omega)) iLt)⟩
    by_cases e : i = nh
    · subst e
      refine ⟨by rw [er, pv_up_same, hb], by rw [← hb, et, pv_newT, if_pos rfl], fun j hj => ?_, ?_⟩
      · rw [← hb, hbb]
        have : j = 0 ∨ j = 1 ∨ j = 2 ∨ j = 3 ∨ j = 4 := by omega
        rcases this with rfl | rfl | rfl | rfl | rfl
        · rw [u2]; exact v4.symm
        · rw [u3]; exact v5.symm
        · rw [u4]; exact v6.symm
        · rw [u5]; exact v7.symm
        · rw [u6]; exact v8.symm
      · unfold hs_ok
        rw [v4, v6]
        unfold hcS
        have x0 : 0 ≤ x / 100 := q.1.2.1.1
        by_cases ey : y = -1
        · rw [if_pos ey]; exact ⟨x0, Or.inl rfl, fun w => by rw [w] at x0; exact absurd x0 (by decide)⟩
        · rw [if_neg ey]
          rcases q.2.1 with w | w
          · exact absurd w ey
          · exact ⟨x0, Or.inr w.1.2.1.1, fun v => w.2 v.symm⟩
    · obtain ⟨a1, a2, a3, a4⟩ := iH.2 i (by omega)
      refine ⟨by rw [fr 117 i (by omega)]; exact a1, by rw [ft _ (by unfold hA; omega)]; exact a2, fun j hj => ?_, ?_⟩
      · rw [f (hA i) j (by unfold hA; omega), f (334 + j) i (by omega)]; exact a3 j hj
      · unfold hs_ok
        rw [f 334 i (by omega), f 336 i (by omega)]
        exact a4
theorem iv_open (hd : 75 ≤ d) (I : Inv L ty h r g) {x y z u : Int32} : iv_ok Γ d 1 6 mX11_open mX12_open [.int x, .int y, .int z, .int u] L ty h r g := by
  obtain ⟨ns, T, nh, na, tl, no, nd, st, hL, iT, iSS, iP, iY, iH, iA, iO, iD, iLt⟩ := id I
  obtain ⟨iS, iYr, iC, iLv, iF⟩ := id iSS
  have m0 : mO h no := ⟨⟨iO.1.1, iO.1.2.1⟩, fun i hi => (iO.2 i hi).2.2.2⟩
  refine ct_X11_open (by omega) hL iS iO (fun q => iT.2.2.2.2 no (Nat.le_refl _) q) (fun q => ⟨_, rfl, hL, iT.1, ?_⟩) (fun q e => ⟨_, rfl, hL, iT.1, ?_⟩) (fun q e e' => ⟨_, rfl, hL, iT.1, ?_⟩) (fun q e lt ty1 h1 r1 g1 c => ?_)
  · refine pv_CT.mono (mo_open (by omega) hL iS.1 m0) (fun v ty2 h2 r2 g2 p => ?_)
    obtain ⟨rfl, rfl, rfl, w2, rfl, p1, -⟩ := p
    obtain ⟨e1, e2⟩ := p1 q
    exact ⟨by rw [e1], by rw [e2]; exact I⟩
  · refine pv_CT.mono (mo_open (by omega) hL iS.1 m0) (fun v ty2 h2 r2 g2 p => ?_)
    obtain ⟨rfl, rfl, rfl, w2, rfl, -, p2⟩ := p
    obtain ⟨e1, e2⟩ := (p2 q).1 e
    exact ⟨by rw [e1], by rw [e2]; exact I⟩
  · refine pv_CT.mono (mo_open (by omega) hL iS.1 m0) (fun v ty2 h2 r2 g2 p => ?_)
    obtain ⟨rfl, rfl, rfl, w2, rfl, -, p2⟩ := p
    obtain ⟨e1, e2⟩ := ((p2 q).2 e).1 e'
    exact ⟨by rw [e1], by rw [e2]; exact I⟩
  · obtain ⟨hL1, et, er, eg, f1, u1, u2, u3, u4, u5, u6, u7⟩ := c
    obtain ⟨b, hb⟩ : ∃ b, b = oA no := ⟨_, rfl⟩
    have hb2 : b = 4000 + no := hb
    rw [← hb] at et er eg f1 u2 u3 u4 u5 u6 u7
    have ft : ∀ a, ¬ a = b → ty1 a = ty a := fun a q => by rw [et, pv_newT, if_neg q]
    have fr : ∀ a j, ¬ (a = b ∨ (a = 121 ∧ j = no)) → r1 a j = r a j := fun a j q => by rw [er, pv_up, if_neg (by omega), pv_new, if_neg (by omega)]
    have fg : ∀ a j, ¬ a = b → g1 a j = g a j := fun a j q => by rw [eg, pv_new, if_neg q]
    refine ⟨_, rfl, hL1, by rw [ft 1 (by omega)]; exact iT.1, ?_⟩
    have hh : ∀ a j, 356 ≤ a → a ≤ 361 → h1 a j = h a j := fun a j _ _ => f1 a j (by omega) (by omega)
    have m1 : mO h1 no := ⟨⟨iO.1.1, by rw [f1 200 55 (by omega) (by omega)]; exact iO.1.2.1⟩, fun i hi => by
      have := (iO.2 i hi).2.2.2
      unfold op_ok at this ⊢
      rw [hh 356 i (by decide) (by decide), hh 359 i (by decide) (by decide), hh 360 i (by decide) (by decide), hh 361 i (by decide) (by decide)]
      exact this⟩
    have S1 : mStreets h1 ns := (cpS_c (ty' := ty) (r' := r) (fun a j q => f1 a j (by omega) (by omega)) (fun _ _ _ => rfl) (fun _ _ => Or.inl rfl) iS).1
    have q' : fo_open h1 x y z u := by
      unfold fo_open fo_at pf_sq
      rw [f1 200 1 (by omega) (by omega), f1 302 _ (by omega) (by omega), f1 303 _ (by omega) (by omega)]
      exact q
    refine pv_CT.mono (mo_open (by omega) hL1 S1 m1) (fun v ty2 h2 r2 g2 p => ?_)
    obtain ⟨rfl, rfl, rfl, w2, rfl, -, p2⟩ := p
    obtain ⟨e1, e2⟩ := ((p2 q').2 (by rw [on_P_c hh]; exact e)).2 lt
    refine ⟨by rw [e1], ?_⟩
    have k32 : h1 200 32 = h 200 32 := f1 200 32 (by omega) (by omega)
    have f : ∀ a j, ¬ (a = b ∨ (a = 100 ∧ j = 12) ∨ (356 ≤ a ∧ a ≤ 361 ∧ j = no) ∨ (a = 200 ∧ j = 55)) → h2 a j = h a j := fun a j q => by
      rw [e2, pv_up, if_neg (by omega), pv_up, if_neg (by omega), pv_up, if_neg (by omega), pv_up, if_neg (by omega), pv_up, if_neg (by omega), pv_up, if_neg (by omega), pv_up, if_neg (by omega)]
      exact f1 a j (by omega) (by omega)
    have hbb : ∀ j, h2 b j = h1 b j := fun j => by rw [e2, pv_up_a (by omega), pv_up_a (by omega), pv_up_a (by omega), pv_up_a (by omega), pv_up_a (by omega), pv_up_a (by omega), pv_up_a (by omega)]
    have v0 : h2 356 no = x := by rw [e2, pv_up_a (by decide), pv_up_a (by decide), pv_up_a (by decide), pv_up_a (by decide), pv_up_a (by decide), pv_up_a (by decide), pv_up_same]
    have v1 : h2 357 no = y := by rw [e2, pv_up_a (by decide), pv_up_a (by decide), pv_up_a (by decide), pv_up_a (by decide), pv_up_a (by decide), pv_up_same]
    have v2 : h2 358 no = z := by rw [e2, pv_up_a (by decide), pv_up_a (by decide), pv_up_a (by decide), pv_up_a (by decide), pv_up_same]
    have v3 : h2 359 no = h 200 32 := by rw [e2, pv_up_a (by decide), pv_up_a (by decide), pv_up_a (by decide), pv_up_same]; exact k32
    have v4 : h2 360 no = u := by rw [e2, pv_up_a (by decide), pv_up_a (by decide), pv_up_same]
    have v5 : h2 361 no = -1 := by rw [e2, pv_up_a (by decide), pv_up_same]
    refine ⟨ns, T, nh, na, tl, no + 1, nd, st, hL1, ⟨by rw [ft 1 (by omega)]; exact iT.1, fun s s1 s2 t t1 => by rw [ft _ (by unfold cA; omega)]; exact iT.2.1 s s1 s2 t t1, fun i i1 i2 => by rw [ft _ (by unfold hA; omega)]; exact iT.2.2.1 i i1 i2, fun i i1 i2 => by rw [ft _ (by unfold aA; omega), ft _ (by unfold aA; omega)]; exact iT.2.2.2.1 i i1 i2, fun i i1 i2 => by rw [ft _ (by unfold oA; omega)]; exact iT.2.2.2.2 i (by omega) i2⟩, (ivS_c (fun a j q => f a j (by omega)) (fun a j q => fr a j (by omega)) (fun a q => Or.inl (ft a (by omega))) iSS), (cpP_c (fun a j q => f a j (by omega)) iP), (ivY_c (fun a j q => f a j (by omega)) iY), (cpH_c (fun a j q => f a j (by omega)) (fun j => fr _ j (by omega)) (fun a q => Or.inl (ft a (by omega))) iH), (ivA_c (fun a j q => f a j (by omega)) (fun a j q => fr a j (by omega)) (fun a q => Or.inl (ft a (by omega))) iA), ⟨⟨by omega, by rw [e2, pv_up_same], by rw [e2, pv_up_a (by decide), pv_up_a (by decide), pv_up_a (by decide), pv_up_a (by decide), pv_up_a (by decide), pv_up_a (by decide), pv_up_a (by decide)]; exact u1⟩, fun i hi => ?_⟩, (ivD_c (fun a j q => f a j (by omega)) iD), (ivL_c (fun a j q => f a j (by omega)) (fun j => fg 91 j (by omega)) iLt)⟩
    by_cases e : i = no
    · subst e
      refine ⟨by rw [er, pv_up_same, hb], by rw [← hb, et, pv_newT, if_pos rfl], fun j hj => ?_, ?_⟩
      · rw [← hb, hbb]
        have : j = 0 ∨ j = 1 ∨ j = 2 ∨ j = 3 ∨ j = 4 ∨ j = 5 := by omega
        rcases this with rfl | rfl | rfl | rfl | rfl | rfl
        · rw [u2]; exact v0.symm
        · rw [u3]; exact v1.symm
        · rw [u4]; exact v2.symm
        · rw [u5, iD.1]; exact v3.symm
        · rw [u6]; exact v4.symm
        · rw [u7]; exact v5.symm
      · unfold op_ok
        rw [v0, v3, v4, v5]
        exact ⟨q.1, iD.2, q.2.2, Or.inl rfl⟩
    · obtain ⟨a1, a2, a3, a4⟩ := iO.2 i (by omega)
      refine ⟨by rw [fr 121 i (by omega)]; exact a1, by rw [ft _ (by unfold oA; omega)]; exact a2, fun j hj => ?_, ?_⟩
      · rw [f (oA i) j (by unfold oA; omega), f (356 + j) i (by omega)]; exact a3 j hj
      · unfold op_ok
        rw [f 356 i (by omega), f 359 i (by omega), f 360 i (by omega), f 361 i (by omega)]
        exact a4
theorem iv_back (hd : 75 ≤ d) (I : Inv L ty h r g) {x : Int32} : iv_ok Γ d 0 0 mX11_back mX12_back [.int x] L ty h r g := by
  obtain ⟨ns, T, nh, na, tl, no, nd, st, hL, iT, iSS, iP, iY, iH, iA, iO, iD, iLt⟩ := id I
  obtain ⟨iS, iYr, iC, iLv, iF⟩ := id iSS
  have m0 : mO h no := ⟨⟨iO.1.1, iO.1.2.1⟩, fun i hi => (iO.2 i hi).2.2.2⟩
  have hn := iO.1.1
  refine iv_JJ I (ct_X11_back (by omega) hL iO) (fun w h1 q1 => ?_)
  by_cases q : fo_op h x
  · have q0 := q
    unfold fo_op at q
    rw [iO.1.2.1, ni_valid (by omega)] at q
    obtain ⟨i, hi, rfl⟩ := q
    obtain ⟨qa, qb⟩ := q1.2 i hi rfl
    by_cases e : h 361 i = -1
    · obtain ⟨p1, p2⟩ := qa e
      have hb : 4000 ≤ oA i ∧ oA i < 4200 := by unfold oA; omega
      have f1 : ∀ a j, a ≠ oA i → h1 a j = h a j := fun a j z => by rw [p2, pv_up_a z]
      have m1 : mO h1 no := ⟨⟨hn, by rw [f1 200 55 (by omega)]; exact iO.1.2.1⟩, fun k hk => by
        have := (iO.2 k hk).2.2.2
        unfold op_ok at this ⊢
        rw [f1 356 k (by omega), f1 359 k (by omega), f1 360 k (by omega), f1 361 k (by omega)]
        exact this⟩
      refine pv_CJ.mono (mo_back (by omega) hL m1) (fun w2 h2 q2 => ?_)
      obtain ⟨p3, p4⟩ := (q2.2 i hi rfl).1 (by rw [f1 361 i (by omega)]; exact e)
      rw [f1 200 32 (by omega)] at p3 p4
      refine ⟨by rw [p1, p3, f1 359 i (by omega), iD.1], ?_⟩
      have f : ∀ a j, ¬ ((a = oA i ∧ j = 5) ∨ (a = 361 ∧ j = i)) → h2 a j = h a j := fun a j z => by rw [p4, pv_up, if_neg (by omega), p2, pv_up, if_neg (by omega)]
      refine ⟨ns, T, nh, na, tl, no, nd, st, hL, iT, (ivS_c (fun a j q => f a j (by omega)) (fun _ _ _ => rfl) (fun _ _ => Or.inl rfl) iSS), (cpP_c (fun a j q => f a j (by omega)) iP), (ivY_c (fun a j q => f a j (by omega)) iY), (cpH_c (fun a j q => f a j (by omega)) (fun _ => rfl) (fun _ _ => Or.inl rfl) iH), (ivA_c (fun a j q => f a j (by omega)) (fun _ _ _ => rfl) (fun _ _ => Or.inl rfl) iA), ⟨⟨hn, by rw [f 200 55 (by omega)]; exact iO.1.2.1, by rw [f 100 12 (by omega)]; exact iO.1.2.2⟩, fun k hk => ?_⟩, (ivD_c (fun a j q => f a j (by omega)) iD), (ivL_c (fun a j q => f a j (by omega)) (fun _ => rfl) iLt)⟩
      obtain ⟨a1, a2, a3, a4⟩ := iO.2 k hk
      by_cases ek : k = i
      · subst ek
        have w5 : h2 361 k = h 200 32 := by rw [p4, pv_up_same]
        refine ⟨a1, a2, fun j hj => ?_, ?_⟩
        · by_cases ej : j = 5
          · subst ej
            rw [p4, pv_up_a (by omega), p2, pv_up_same]
            exact iD.1.trans (pv_up_same _ _ _ _).symm
          · rw [f (oA k) j (by omega), f (356 + j) k (by omega)]; exact a3 j hj
        · unfold op_ok at a4 ⊢
          rw [f 356 k (by omega), f 359 k (by omega), f 360 k (by omega), w5]
          exact ⟨a4.1, a4.2.1, a4.2.2.1, Or.inr iD.2⟩
      · have : oA k ≠ oA i := by unfold oA; omega
        refine ⟨a1, a2, fun j hj => ?_, ?_⟩
        · rw [f (oA k) j (by unfold oA; omega), f (356 + j) k (by omega)]; exact a3 j hj
        · unfold op_ok at a4 ⊢
          rw [f 356 k (by omega), f 359 k (by omega), f 360 k (by omega), f 361 k (by omega)]
          exact a4
    · obtain ⟨p1, p2⟩ := qb e
      rw [p2]
      refine pv_CJ.mono (mo_back (by omega) hL m0) (fun w2 h2 q2 => ?_)
      obtain ⟨p3, p4⟩ := (q2.2 i hi rfl).2 e
      exact ⟨by rw [p1, p3], by rw [p4]; exact I⟩
  · obtain ⟨p1, p2⟩ := q1.1 q
    rw [p2]
    refine pv_CJ.mono (mo_back (by omega) hL m0) (fun w2 h2 q2 => ?_)
    obtain ⟨p3, p4⟩ := q2.1 q
    exact ⟨by rw [p1, p3], by rw [p4]; exact I⟩
theorem iv_act (hd : 75 ≤ d) (I : Inv L ty h r g) {x y : Int32} : iv_ok Γ d 2 164 mX11_act mX12_act [.int x, .int y] L ty h r g := by
  obtain ⟨ns, T, nh, na, tl, no, nd, st, hL, iT, iSS, iP, iY, iH, iA, iO, iD, iLt⟩ := id I
  obtain ⟨iS, iYr, iC, iLv, iF⟩ := id iSS
  refine ct_X11_act (by omega) hL iA (fun q => iT.2.2.2.1 na (Nat.le_refl _) q) (fun q => ⟨_, rfl, hL, iT.1, ?_⟩) (fun q e => ⟨_, rfl, hL, iT.1, ?_⟩) (fun q K hK ex lt w ty1 h1 r1 g1 c => ?_)
  · refine pv_CT.mono (ct_X12_act (by omega) hL iA.1.1 iA.1.2.2.1 iA.2.1.1 iA.2.1.2.2) (fun v ty2 h2 r2 g2 p => ?_)
    obtain ⟨rfl, rfl, rfl, w2, rfl, p1, -⟩ := p
    obtain ⟨e1, e2⟩ := p1 q
    exact ⟨by rw [e1], by rw [e2]; exact I⟩
  · refine pv_CT.mono (ct_X12_act (by omega) hL iA.1.1 iA.1.2.2.1 iA.2.1.1 iA.2.1.2.2) (fun v ty2 h2 r2 g2 p => ?_)
    obtain ⟨rfl, rfl, rfl, w2, rfl, -, p2⟩ := p
    obtain ⟨e1, e2⟩ := (p2 q).1 e
    exact ⟨by rw [e1], by rw [e2]; exact I⟩
  · obtain ⟨hL1, f1, fr1, ft1, fg1, -⟩ := id c
    obtain ⟨b, hb⟩ : ∃ b, b = aA na := ⟨_, rfl⟩
    have hb2 : b = 3000 + 2 * na := hb
    have ft : ∀ a, ¬ (a = b ∨ a = b + 1) → ty1 a = ty a := fun a q => ft1 a (by omega) (by omega)
    have fr : ∀ a j, ¬ (a = b ∨ a = b + 1 ∨ a = 80 ∨ (a = 72 ∧ j = na)) → r1 a j = r a j := fun a j q => fr1 a j (by unfold acR; omega)
    have fg : ∀ a j, ¬ (a = b ∨ a = b + 1) → g1 a j = g a j := fun a j q => fg1 a j (by omega) (by omega)
    refine ⟨_, rfl, hL1, by rw [ft 1 (by omega)]; exact iT.1, ?_⟩
    have k : ∀ j, h1 200 j = h 200 j := fun j => f1 200 j (by unfold acA; omega)
    refine pv_CT.mono (ct_X12_act (tl := tl) (na := na) (by omega) hL1 iA.1.1 (by rw [k]; exact iA.1.2.2.1) iA.2.1.1 (by rw [k]; exact iA.2.1.2.2)) (fun v ty2 h2 r2 g2 p => ?_)
    obtain ⟨rfl, rfl, rfl, w2, rfl, -, p2⟩ := p
    have c2 := (p2 q).2 K hK ex lt
    obtain ⟨ew, na', A', hna⟩ := cpA_act hK lt iA (by rw [k]; exact iD.1.symm) c c2
    refine ⟨by rw [ew], ?_⟩
    have f : ∀ a j, ¬ ((a = 70 ∧ (j = 3 ∨ j = 4)) ∨ a = 80 ∨ a = b ∨ a = b + 1 ∨ (a = 200 ∧ (j = 40 ∨ j = 41 ∨ (49 ≤ j ∧ j ≤ 51))) ∨ (342 ≤ a ∧ a ≤ 348)) → h2 a j = h a j := fun a j q => by
      rw [c2.1 a j (by unfold amA pA; omega), f1 a j (by unfold acA; omega)]
    have hfr : ∀ i, na' ≤ i → i < 20 → ty2 (aA i) = none ∧ ty2 (aA i + 1) = none := fun i i1 i2 => by
      rcases hna with ⟨n1, n2, n3⟩ | n1
      · by_cases e : i = na
        · rw [e]; exact ⟨n2, n3⟩
        · rw [ft _ (by unfold aA; omega), ft _ (by unfold aA; omega)]; exact iT.2.2.2.1 i (by omega) i2
      · rw [ft _ (by unfold aA; omega), ft _ (by unfold aA; omega)]; exact iT.2.2.2.1 i (by omega) i2
    exact ⟨ns, T, nh, na', 0, no, nd, st, hL1, ⟨by rw [ft 1 (by omega)]; exact iT.1, fun s s1 s2 t t1 => by rw [ft _ (by unfold cA; omega)]; exact iT.2.1 s s1 s2 t t1, fun i i1 i2 => by rw [ft _ (by unfold hA; omega)]; exact iT.2.2.1 i i1 i2, hfr, fun i i1 i2 => by rw [ft _ (by unfold oA; omega)]; exact iT.2.2.2.2 i i1 i2⟩, (ivS_c (fun a j q => f a j (by omega)) (fun a j q => fr a j (by omega)) (fun a q => Or.inl (ft a (by omega))) iSS), (cpP_c (fun a j q => f a j (by omega)) iP), (ivY_c (fun a j q => f a j (by omega)) iY), (cpH_c (fun a j q => f a j (by omega)) (fun j => fr _ j (by omega)) (fun a q => Or.inl (ft a (by omega))) iH), A', (cpO_c (fun a j q => f a j (by omega)) (fun j => fr _ j (by omega)) (fun a q => Or.inl (ft a (by omega))) iO), (ivD_c (fun a j q => f a j (by omega)) iD), (ivL_c (fun a j q => f a j (by omega)) (fun j => fg 91 j (by omega)) iLt)⟩
end OD
