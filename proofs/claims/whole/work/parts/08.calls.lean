theorem pv_eV_upI {ρ : Nat → Nat} {h : pv_H} {r : pv_R} {g : pv_G} {a k i : Nat} {x : Int32} (hk : k < 23) : (fun j => pv_eV ρ (pv_up h a i x) r g a k j) = updV (fun j => pv_eV ρ h r g a k j) i (.int x) := by
  funext j
  simp only [updV, pv_eV, if_pos hk]
  by_cases e : j = i
  · rw [if_pos e, e, pv_up_same]
  · rw [if_neg e, pv_up_j e]
theorem pv_eV_upL {ρ : Nat → Nat} {h : pv_H} {r : pv_R} {g : pv_G} {a i : Nat} {x : Int64} : (fun j => pv_eV ρ h r (pv_up g a i x) a 23 j) = updV (fun j => pv_eV ρ h r g a 23 j) i (.long x) := by
  funext j
  unfold updV pv_eV
  by_cases e : j = i
  · rw [if_pos e, e, pv_up_same]; rfl
  · rw [if_neg e, pv_up_j e]
theorem pv_eV_upR {ρ : Nat → Nat} {h : pv_H} {r : pv_R} {g : pv_G} {a k i b : Nat} (hk : 23 < k) : (fun j => pv_eV ρ h (pv_up r a i b) g a k j) = updV (fun j => pv_eV ρ h r g a k j) i (pv_cv ρ (.ref b)) := by
  funext j
  have k1 : ¬ k < 23 := by omega
  have k2 : ¬ k = 23 := by omega
  simp only [updV, pv_eV, if_neg k1, if_neg k2]
  by_cases e : j = i
  · rw [if_pos e, e, pv_up_same]
  · rw [if_neg e, pv_up_j e]
theorem pv_fits_z (x : Int32) : fits .boolean (.int (x &&& 1)) = true := by
  have h : x &&& 1 = 0 ∨ x &&& 1 = 1 := by
    have h1 := pk_and x (m := 1) 1 (by decide)
    have h2 : x.toBitVec.toNat % 2 ^ 1 = 0 ∨ x.toBitVec.toNat % 2 ^ 1 = 1 := by omega
    rcases h2 with h2 | h2 <;> rw [h1, h2]
    · exact Or.inl rfl
    · exact Or.inr rfl
  rcases h with h | h <;> rw [h] <;> rfl
section PVS
variable {Γ : pv_C} {d kc ks : Nat} {M : pv_M} {pc : Nat} {ls : List (Option Value)} {st : List Value} {ty : pv_T} {h : pv_H} {r : pv_R} {g : pv_G} {Q : pv_Q}
theorem pv_locs1 {Γ : pv_C} {locs : List Loc} {a i : Nat} (h1 : ∀ q ∈ locs, (pv_h0 Γ).size ≤ q.base) (h2 : (pv_h0 Γ).size ≤ a) : ∀ q ∈ locs ++ [(⟨a, i⟩ : Loc)], (pv_h0 Γ).size ≤ q.base := by
  intro x hx
  rcases List.mem_append.mp hx with h0 | h0
  · exact h1 x h0
  · rw [List.mem_singleton.mp h0]
    exact h2
theorem pv_iast {a n : Nat} {i x : Int32} (hdg : decode M.2.1 pc = .ok (.iastore, 1)) (hta : ty a = some (20, n)) (ha : 10 ≤ a) (hin : vp_in i n) (k : pv_E Γ d kc ks M (pc + 1) ls st ty (pv_up h a i.toNatClampNeg x) r g Q) : pv_E Γ d kc ks M pc ls (.int x :: .int i :: .ref a :: st) ty h r g Q := by
  intro p e R s m args below meth c' H locs cells slots ρ lz Z hK
  obtain ⟨y0, -, cA, y1, y2, y3, y4⟩ := pv_arrW hK.2.2.1 hta (by decide) ha
  obtain ⟨a', rfl⟩ := pv_nz hK.2.2.1 hta
  refine W.iast hK.1.1 hK.1.2.1 y1 (y2 n _) (fun q => by cases q) (by rw [arrV_size]; exact hin) rfl rfl hdg fun H1 e1 z1 oq => ?_
  refine k _ _ _ _ _ _ _ _ _ _ _ _ _ ρ _ _ ⟨hK.1, hK.2.1, hK.2.2.1.upd ha hta z1 oq (fun b hb j => pv_up_a hb) (fun _ _ _ => rfl) (fun _ _ _ => rfl) (Or.inr ⟨by decide, by decide, cA, ?_, y2, y3, fun j _ => rfl⟩) (fun j hj => hK.2.2.1.2.2.2.2.1 _ j (by rw [hta]; exact Option.some_ne_none _) hj), hK.2.2.2.1, (pv_wst_c.mp (pv_wst_c.mp (pv_wst_c.mp hK.2.2.2.2.1).2).2).2, hK.2.2.2.2.2.1, pv_locs1 hK.2.2.2.2.2.2.1 y0, hK.2.2.2.2.2.2.2⟩
  rw [e1, arrV_store, pv_eV_upI (by decide)]
theorem pv_bast {a n : Nat} {i x : Int32} (hdg : decode M.2.1 pc = .ok (.bastore, 1)) (hta : ty a = some (21, n)) (ha : 10 ≤ a) (hin : vp_in i n) (k : pv_E Γ d kc ks M (pc + 1) ls st ty (pv_up h a i.toNatClampNeg x.toInt8.toInt32) r g Q) : pv_E Γ d kc ks M pc ls (.int x :: .int i :: .ref a :: st) ty h r g Q := by
  intro p e R s m args below meth c' H locs cells slots ρ lz Z hK
  obtain ⟨y0, -, cA, y1, y2, y3, y4⟩ := pv_arrW hK.2.2.1 hta (by decide) ha
  obtain ⟨a', rfl⟩ := pv_nz hK.2.2.1 hta
  refine W.bast hK.1.1 hK.1.2.1 y1 (y2 n _) (fun q => by cases q) (by rw [arrV_size]; exact hin) rfl rfl hdg fun H1 e1 z1 oq => ?_
  refine k _ _ _ _ _ _ _ _ _ _ _ _ _ ρ _ _ ⟨hK.1, hK.2.1, hK.2.2.1.upd ha hta z1 oq (fun b hb j => pv_up_a hb) (fun _ _ _ => rfl) (fun _ _ _ => rfl) (Or.inr ⟨by decide, by decide, cA, ?_, y2, y3, fun j hj => ?_⟩) (fun j hj => hK.2.2.1.2.2.2.2.1 _ j (by rw [hta]; exact Option.some_ne_none _) hj), hK.2.2.2.1, (pv_wst_c.mp (pv_wst_c.mp (pv_wst_c.mp hK.2.2.2.2.1).2).2).2, hK.2.2.2.2.2.1, pv_locs1 hK.2.2.2.2.2.2.1 y0, hK.2.2.2.2.2.2.2⟩
  · rw [e1, arrV_store, pv_eV_upI (by decide)]
    rfl
  · have e2 := congrFun (pv_eV_upI (ρ := ρ) (h := h) (r := r) (g := g) (a := a' + 1) (k := 21) (i := i.toNatClampNeg) (x := x.toInt8.toInt32) (by decide)) j
    rw [e2]
    unfold updV
    split
    · exact pk_fb x
    · exact y4 j hj
theorem pv_zast {a n : Nat} {i x : Int32} (hdg : decode M.2.1 pc = .ok (.bastore, 1)) (hta : ty a = some (22, n)) (ha : 10 ≤ a) (hin : vp_in i n) (k : pv_E Γ d kc ks M (pc + 1) ls st ty (pv_up h a i.toNatClampNeg (x &&& 1)) r g Q) : pv_E Γ d kc ks M pc ls (.int x :: .int i :: .ref a :: st) ty h r g Q := by
  intro p e R s m args below meth c' H locs cells slots ρ lz Z hK
  obtain ⟨y0, -, cA, y1, y2, y3, y4⟩ := pv_arrW hK.2.2.1 hta (by decide) ha
  obtain ⟨a', rfl⟩ := pv_nz hK.2.2.1 hta
  refine W.zast hK.1.1 hK.1.2.1 y1 (y2 n _) (fun q => by cases q) (by rw [arrV_size]; exact hin) rfl rfl hdg fun H1 e1 z1 oq => ?_
  refine k _ _ _ _ _ _ _ _ _ _ _ _ _ ρ _ _ ⟨hK.1, hK.2.1, hK.2.2.1.upd ha hta z1 oq (fun b hb j => pv_up_a hb) (fun _ _ _ => rfl) (fun _ _ _ => rfl) (Or.inr ⟨by decide, by decide, cA, ?_, y2, y3, fun j hj => ?_⟩) (fun j hj => hK.2.2.1.2.2.2.2.1 _ j (by rw [hta]; exact Option.some_ne_none _) hj), hK.2.2.2.1, (pv_wst_c.mp (pv_wst_c.mp (pv_wst_c.mp hK.2.2.2.2.1).2).2).2, hK.2.2.2.2.2.1, pv_locs1 hK.2.2.2.2.2.2.1 y0, hK.2.2.2.2.2.2.2⟩
  · rw [e1, arrV_store, pv_eV_upI (by decide)]
    rfl
  · have e2 := congrFun (pv_eV_upI (ρ := ρ) (h := h) (r := r) (g := g) (a := a' + 1) (k := 22) (i := i.toNatClampNeg) (x := x &&& 1) (by decide)) j
    rw [e2]
    unfold updV
    split
    · exact pv_fits_z x
    · exact y4 j hj
theorem pv_last {a n : Nat} {i : Int32} {x : Int64} (hdg : decode M.2.1 pc = .ok (.lastore, 1)) (hta : ty a = some (23, n)) (ha : 10 ≤ a) (hin : vp_in i n) (k : pv_E Γ d kc ks M (pc + 1) ls st ty h r (pv_up g a i.toNatClampNeg x) Q) : pv_E Γ d kc ks M pc ls (.long x :: .int i :: .ref a :: st) ty h r g Q := by
  intro p e R s m args below meth c' H locs cells slots ρ lz Z hK
  obtain ⟨y0, -, cA, y1, y2, y3, y4⟩ := pv_arrW hK.2.2.1 hta (by decide) ha
  obtain ⟨a', rfl⟩ := pv_nz hK.2.2.1 hta
  refine W.last hK.1.1 hK.1.2.1 y1 (y2 n _) (fun q => by cases q) (by rw [arrV_size]; exact hin) rfl rfl hdg fun H1 e1 z1 oq => ?_
  refine k _ _ _ _ _ _ _ _ _ _ _ _ _ ρ _ _ ⟨hK.1, hK.2.1, hK.2.2.1.upd ha hta z1 oq (fun _ _ _ => rfl) (fun _ _ _ => rfl) (fun b hb j => pv_up_a hb) (Or.inr ⟨by decide, by decide, cA, ?_, y2, y3, fun j _ => rfl⟩) (fun j hj => hK.2.2.1.2.2.2.2.1 _ j (by rw [hta]; exact Option.some_ne_none _) hj), hK.2.2.2.1, (pv_wst_c.mp (pv_wst_c.mp (pv_wst_c.mp hK.2.2.2.2.1).2).2).2, hK.2.2.2.2.2.1, pv_locs1 hK.2.2.2.2.2.2.1 y0, hK.2.2.2.2.2.2.2⟩
  rw [e1, arrV_store, pv_eV_upL]
theorem pv_aast {a n v k0 c nv : Nat} {i : Int32} (hdg : decode M.2.1 pc = .ok (.aastore, 1)) (hta : ty a = some (k0, n)) (hk : (k0 = 24 ∧ c = 8) ∨ (k0 = 25 ∧ c = 3) ∨ (k0 = 26 ∧ c = 0) ∨ (k0 = 27 ∧ c = 6)) (ha : 10 ≤ a) (hin : vp_in i n) (hv : ty v = some (c, nv)) (k : pv_E Γ d kc ks M (pc + 1) ls st ty h (pv_up r a i.toNatClampNeg v) g Q) : pv_E Γ d kc ks M pc ls (.ref v :: .int i :: .ref a :: st) ty h r g Q := by
  intro p e R s m args below meth c' H locs cells slots ρ lz Z hK
  obtain ⟨y0, -, cA, y1, y2, y3, y4⟩ := pv_arrW hK.2.2.1 hta (by omega) ha
  obtain ⟨a', rfl⟩ := pv_nz hK.2.2.1 hta
  obtain ⟨v', rfl⟩ := pv_nz hK.2.2.1 hv
  obtain ⟨-, q, hq, cellV, g1, g2, g3, -⟩ := pv_obj hK.2.2.1 hv (by omega)
  have hcls := (hK.1.2.2.2.2.2.2.2.2.1.1 c q hq).2
  have hlt : i.toNatClampNeg < n := pv_inlt hin
  have h0 : ¬ i < 0 := fun z => hin (Or.inl z)
  have hRA : ∃ (kA : Class) (comp : ClassId), s.vm.classes[cA]? = some kA ∧ kA.kind = .array comp (pv_eT k0) ∧ s.vm.findClass q.1 = some comp := by
    rcases hk with ⟨rfl, rfl⟩ | ⟨rfl, rfl⟩ | ⟨rfl, rfl⟩ | ⟨rfl, rfl⟩ <;> (cases hq; obtain ⟨kA, comp, k1, k2, k3, -⟩ := y3; exact ⟨kA, comp, k1, k2, k3⟩)
  obtain ⟨kA, comp, k1, k2, k3⟩ := hRA
  have hcomp : comp = (pv_D Γ).1 c := Option.some.inj (k3.symm.trans hcls.1)
  subst hcomp
  obtain ⟨kC, hkC, -⟩ := hcls.2
  refine W.aast hK.1.1 hK.1.2.1 y1 (fun q h => by cases h) (fun h => by cases h) k1 k2 (by rcases hk with ⟨rfl, rfl⟩ | ⟨rfl, rfl⟩ | ⟨rfl, rfl⟩ | ⟨rfl, rfl⟩ <;> rfl) hkC ⟨h0, by rw [arrV_size]; exact hlt⟩ g1 (fun q h => by rw [g3] at h; cases h) (by rw [g2]; exact hkC) (by rw [g2]; exact va_assign hcls) rfl rfl hdg fun H1 e1 z1 oq => ?_
  have hta' : ty (a' + 1) ≠ none := by rw [hta]; exact Option.some_ne_none _
  refine k _ _ _ _ _ _ _ _ _ _ _ _ _ ρ _ _ ⟨hK.1, hK.2.1, hK.2.2.1.upd ha hta z1 oq (fun _ _ _ => rfl) (fun b hb j => pv_up_a hb) (fun _ _ _ => rfl) (Or.inr ⟨by omega, by omega, cA, ?_, y2, y3, fun j hj => ?_⟩) (fun j hj => ?_), hK.2.2.2.1, (pv_wst_c.mp (pv_wst_c.mp (pv_wst_c.mp hK.2.2.2.2.1).2).2).2, hK.2.2.2.2.2.1, pv_locs1 hK.2.2.2.2.2.2.1 y0, hK.2.2.2.2.2.2.2⟩
  · rw [e1, arrV_store, pv_eV_upR (by omega)]
    rfl
  · have e2 := congrFun (pv_eV_upR (ρ := ρ) (h := h) (r := r) (g := g) (a := a' + 1) (k := k0) (i := i.toNatClampNeg) (b := v' + 1) (by omega)) j
    rw [e2]
    unfold updV
    split
    · rcases hk with ⟨rfl, rfl⟩ | ⟨rfl, rfl⟩ | ⟨rfl, rfl⟩ | ⟨rfl, rfl⟩ <;> rfl
    · exact y4 j hj
  · by_cases e : j = i.toNatClampNeg
    · subst e
      rw [pv_up_same, hv]
      exact Option.some_ne_none _
    · rw [pv_up_j e] at hj ⊢
      exact hK.2.2.1.2.2.2.2.1 _ j hta' hj
/-! making -/
theorem pv_fT_dv (c j : Nat) : defaultValue (pv_fT c j) = if pv_isR (pv_fT c j) = true then .null else .int 0 := by
  have hall : ∀ t : FieldType, (t = .int ∨ t = .boolean ∨ (∃ n, t = .object n) ∨ ∃ u, t = .array u) → defaultValue t = if pv_isR t = true then .null else .int 0 := by
    rintro t (rfl | rfl | ⟨n, rfl⟩ | ⟨u, rfl⟩) <;> rfl
  apply hall
  unfold pv_fT
  split
  · unfold tyX0; split <;> simp
  · unfold tyX1; split <;> simp
  · unfold tyX2; split <;> simp
  · unfold tyX3; split <;> simp
  · unfold tyX4; split <;> simp
  · unfold tyX5; split <;> simp
  · unfold tyX6; split <;> simp
  · unfold tyX7; split <;> simp
  · unfold tyX8; split <;> simp
  · unfold tyX9; split <;> simp
  · unfold tyX10; split <;> simp
  · unfold tyX11; split <;> simp
  · unfold tyX12; split <;> simp
  · simp
theorem pv_newO {idx : Nat} (nm c : Nat) {q : vw_C} (hdg : decode M.2.1 pc = .ok (.new idx, 3)) (hq : vwCl[c]? = some q) (hcl : Cond.classLink M.1.cls idx q.1 ∈ pv_gt) (hin : Cond.instantiable q.1 q.2.2 ∈ pv_gt) (hini : Cond.initialized q.1 ∈ pv_gt) (hnm : 10 ≤ nm) (hf : ty nm = none) (hkc : 1 ≤ kc) (hks : q.2.2 ≤ ks)
    (k : pv_E Γ d (kc - 1) (ks - q.2.2) M (pc + 3) ls (.ref nm :: st) (pv_newT ty nm c 0) (pv_new h nm 0) (pv_new r nm 0) (pv_new g nm 0) Q) : pv_E Γ d kc ks M pc ls st ty h r g Q := by
  intro p e R s m args below meth c' H locs cells slots ρ lz Z hK
  obtain ⟨hx, hb, hml, hown, hr, hlk, hnm', hts, henv, hdd⟩ := hK.1
  have hKn := henv.1 c _ hq
  have hR := hK.2.1
  refine W.newcK hx hb hown (hts _ hcl) (hts _ hin) (hts _ hini) rfl hdg (by omega) (by omega) hKn.2.1 rfl fun H1 kC hkC e1 z1 o1 => ?_
  have hx2 := pv_ext_new (ρ := ρ) (q := H.size) (k := c) (n := 0) hf
  have es : pv_newρ ρ nm H.size nm = H.size := by simp [pv_newρ]
  obtain ⟨nm', rfl⟩ : ∃ x, nm = x + 1 := ⟨nm - 1, by omega⟩
  have kk := k p e R s m args below meth c' H1 locs (cells + 1) (slots + q.2.2) (pv_newρ ρ (nm' + 1) H.size) lz Z ⟨hK.1, ⟨by omega, by omega⟩, hK.2.2.1.made hnm hf z1 o1 (Or.inl ⟨pv_c13 hq, q, hq, ?_⟩), hK.2.2.2.1.ext hx2 hK.2.2.2.2.2.1, pv_wst_c.mpr ⟨by show pv_newT ty (nm' + 1) c 0 (nm' + 1) ≠ none; simp [pv_newT], hK.2.2.2.2.1.ext hx2⟩, hK.2.2.2.2.2.1.ext hx2, hK.2.2.2.2.2.2.1, hK.2.2.2.2.2.2.2.ext hx2⟩
  · rw [List.map_cons, pv_map_ext hx2 hK.2.2.2.2.1] at kk
    have e3 : pv_cv (pv_newρ ρ (nm' + 1) H.size) (.ref (nm' + 1)) = .ref H.size := congrArg Value.ref es
    rw [e3] at kk
    exact kk
  · rw [es]
    refine (u_born (pv_fT c) hts (pv_cls hq).1 hKn hkC e1 (pv_cls hq).2.1).to (fun j _ => ?_)
    rw [pv_fT_dv]
    unfold pv_fV
    simp [pv_new, pv_cv]
theorem pv_newA {atype : ArrayType} {n : Int32} (nm k0 N : Nat) (hdg : decode M.2.1 pc = .ok (.newarray atype, 2)) (hk : newarray.typeOf atype = pv_eT k0) (hk2 : 20 ≤ k0 ∧ k0 ≤ 23) (harr : Cond.arrayClass (pv_eT k0) ∈ pv_gt) (hn : ¬ n < 0) (hN : n.toNatClampNeg = N) (hbd : N ≤ 1000000) (hnm : 10 ≤ nm) (hf : ty nm = none) (hkc : 1 ≤ kc) (hks : N ≤ ks)
    (k : pv_E Γ d (kc - 1) (ks - N) M (pc + 2) ls (.ref nm :: st) (pv_newT ty nm k0 N) (pv_new h nm 0) (pv_new r nm 0) (pv_new g nm 0) Q) : pv_E Γ d kc ks M pc ls (.int n :: st) ty h r g Q := by
  intro p e R s m args below meth c' H locs cells slots ρ lz Z hK
  obtain ⟨hx, hb, hml, hown, hr, hlk, hnm', hts, henv, hdd⟩ := hK.1
  have hR := hK.2.1
  have hdv : ∀ ρ' : Nat → Nat, ∀ j, defaultValue (pv_eT k0) = pv_eV ρ' (pv_new h nm 0) (pv_new r nm 0) (pv_new g nm 0) nm k0 j := by
    intro ρ' j
    rcases (show k0 = 20 ∨ k0 = 21 ∨ k0 = 22 ∨ k0 = 23 by omega) with rfl | rfl | rfl | rfl <;> simp [pv_eV, pv_new, pv_eT] <;> rfl
  have hcb : componentBytes (pv_eT k0) ≤ 8 := by
    rcases (show k0 = 20 ∨ k0 = 21 ∨ k0 = 22 ∨ k0 = 23 by omega) with rfl | rfl | rfl | rfl <;> decide
  refine va_newaK hx hb (by rw [hk]; exact hts _ harr) rfl hdg rfl hn hN (by rw [hk]; exact Nat.le_trans (Nat.mul_le_mul hbd hcb) (by decide)) (by omega) (by omega) rfl fun H1 cA e1 z1 o1 a1 f1 => ?_
  rw [hk] at e1 a1 f1
  have hx2 := pv_ext_new (ρ := ρ) (q := H.size) (k := k0) (n := N) hf
  have es : pv_newρ ρ nm H.size nm = H.size := by simp [pv_newρ]
  obtain ⟨nm', rfl⟩ : ∃ x, nm = x + 1 := ⟨nm - 1, by omega⟩
  have kk := k p e R s m args below meth c' H1 locs (cells + 1) (slots + N) (pv_newρ ρ (nm' + 1) H.size) lz Z ⟨hK.1, ⟨by omega, by omega⟩, hK.2.2.1.made hnm hf z1 o1 (Or.inr ⟨hk2.1, by omega, cA, ?_, a1, ?_, fun j hj => ?_⟩), hK.2.2.2.1.ext hx2 hK.2.2.2.2.2.1, pv_wst_c.mpr ⟨by show pv_newT ty (nm' + 1) k0 N (nm' + 1) ≠ none; simp [pv_newT], (pv_wst_c.mp hK.2.2.2.2.1).2.ext hx2⟩, hK.2.2.2.2.2.1.ext hx2, hK.2.2.2.2.2.2.1, hK.2.2.2.2.2.2.2.ext hx2⟩
  · rw [List.map_cons, pv_map_ext hx2 (pv_wst_c.mp hK.2.2.2.2.1).2] at kk
    have e3 : pv_cv (pv_newρ ρ (nm' + 1) H.size) (.ref (nm' + 1)) = .ref H.size := congrArg Value.ref es
    rw [e3] at kk
    exact kk
  · rw [es, e1]
    congr 2
    funext j
    exact hdv _ j
  · rcases (show k0 = 20 ∨ k0 = 21 ∨ k0 = 22 ∨ k0 = 23 by omega) with rfl | rfl | rfl | rfl <;> exact f1
  · rw [← hdv]
    rcases (show k0 = 20 ∨ k0 = 21 ∨ k0 = 22 ∨ k0 = 23 by omega) with rfl | rfl | rfl | rfl <;> rfl
theorem pv_newQ {n : Int32} {idx : Nat} (nm k0 N : Nat) (C : String) (hdg : decode M.2.1 pc = .ok (.anewarray idx, 3)) (hk : pv_eT k0 = .object C) (hk2 : 24 ≤ k0 ∧ k0 ≤ 27) (hcl : Cond.classLink M.1.cls idx C ∈ pv_gt) (hov : C = RX8 ∨ C = RX3 ∨ C = RX0 ∨ C = RX6) (hn : ¬ n < 0) (hN : n.toNatClampNeg = N) (hbd : N ≤ 1000000) (hnm : 10 ≤ nm) (hf : ty nm = none) (hkc : 1 ≤ kc) (hks : N ≤ ks)
    (k : pv_E Γ d (kc - 1) (ks - N) M (pc + 3) ls (.ref nm :: st) (pv_newT ty nm k0 N) (pv_new h nm 0) (pv_new r nm 0) (pv_new g nm 0) Q) : pv_E Γ d kc ks M pc ls (.int n :: st) ty h r g Q := by
  intro p e R s m args below meth c' H locs cells slots ρ lz Z hK
  obtain ⟨hx, hb, hml, hown, hr, hlk, hnm', hts, henv, hdd⟩ := hK.1
  have hR := hK.2.1
  have hdv : ∀ ρ' : Nat → Nat, ∀ j, Value.null = pv_eV ρ' (pv_new h nm 0) (pv_new r nm 0) (pv_new g nm 0) nm k0 j := by
    intro ρ' j
    unfold pv_eV
    rw [if_neg (by omega), if_neg (by omega)]
    simp [pv_new, pv_cv]
  subst hN
  have hao : va_AO C s := by
    rcases hov with rfl | rfl | rfl | rfl
    · exact henv.2.2.2.2.2.2.1.1
    · exact henv.2.2.2.2.2.2.1.2.1
    · exact henv.2.2.2.2.2.2.1.2.2.1
    · exact henv.2.2.2.2.2.2.1.2.2.2
  refine W.anew hx hb hown (hts _ hcl) (va_AO.use hao) rfl hdg rfl hn (by omega) (by omega) (by omega) fun cA kA comp f1 f2 f3 f4 => ?_
  generalize hH1 : H.push ({ cls := cA, slots := Array.replicate n.toNatClampNeg .null, vm := .none } : Cell) = H1
  have z1 : H1.size = H.size + 1 := by rw [← hH1, Array.size_push]
  have e1 : H1[H.size]? = some (arrV cA n.toNatClampNeg (fun _ => .null)) := by rw [← hH1, Array.getElem?_push_size, ← arrV_new]
  have o1 : ∀ q : Nat, q < H.size → H1[q]? = H[q]? := fun q hq => by rw [← hH1, Array.getElem?_push, if_neg (Nat.ne_of_lt hq)]
  have hAr : ArrOfT s cA (.object C) := fun N z => ⟨(fun k h => by cases h), kA, f2, comp, f3⟩
  have hx2 := pv_ext_new (ρ := ρ) (q := H.size) (k := k0) (n := n.toNatClampNeg) hf
  have es : pv_newρ ρ nm H.size nm = H.size := by simp [pv_newρ]
  obtain ⟨nm', rfl⟩ : ∃ x, nm = x + 1 := ⟨nm - 1, by omega⟩
  have kk := k p e R s m args below meth c' H1 locs (cells + 1) (slots + n.toNatClampNeg) (pv_newρ ρ (nm' + 1) H.size) lz Z ⟨hK.1, ⟨by omega, by omega⟩, hK.2.2.1.made hnm hf z1 o1 (Or.inr ⟨by omega, by omega, cA, ?_, by rw [hk]; exact hAr, by rw [hk]; exact ⟨kA, comp, f2, f3, f4, f1⟩, fun j hj => ?_⟩), hK.2.2.2.1.ext hx2 hK.2.2.2.2.2.1, pv_wst_c.mpr ⟨by show pv_newT ty (nm' + 1) k0 n.toNatClampNeg (nm' + 1) ≠ none; simp [pv_newT], (pv_wst_c.mp hK.2.2.2.2.1).2.ext hx2⟩, hK.2.2.2.2.2.1.ext hx2, hK.2.2.2.2.2.2.1, hK.2.2.2.2.2.2.2.ext hx2⟩
  · rw [List.map_cons, pv_map_ext hx2 (pv_wst_c.mp hK.2.2.2.2.1).2] at kk
    have e3 : pv_cv (pv_newρ ρ (nm' + 1) H.size) (.ref (nm' + 1)) = .ref H.size := congrArg Value.ref es
    rw [e3] at kk
    exact kk
  · rw [es, e1]
    congr 2
    funext j
    exact hdv _ j
  · rw [← hdv, hk]
    rfl
end PVS
