def pv_mok (N : pv_M) (n : Nat) : Prop := (N.1.cls ≠ "java/lang/invoke/MethodHandle" ∧ N.1.cls ≠ "java/lang/invoke/VarHandle") ∧ Cond.code N.1 N.2.1 N.2.2.1 N.2.2.2 ∈ pv_gt ∧ Cond.initialized N.1.cls ∈ pv_gt ∧ (parseMethodDescriptor N.1.desc).map (fun d => d.parameters.length) = some n ∧ N.2.2.1 ≤ 45
def pv_mokV (N : pv_M) (n : Nat) : Prop := pv_mok N n ∧ Cond.instanceMethod N.1 ∈ pv_gt ∧ Cond.selects N.1.cls N.1 N.1 ∈ pv_gt
def pv_mokS (N : pv_M) (n : Nat) : Prop := pv_mok N n ∧ Cond.static N.1 ∈ pv_gt
def pv_mokI (N : pv_M) (n : Nat) : Prop := pv_mok N n ∧ N.1.name = "<init>" ∧ N.2.2.2 = none ∧ Cond.instanceMethod N.1 ∈ pv_gt
theorem pv_pay {N : pv_M} {args : Array Value} {s : State} (hts : ∀ w ∈ pv_gt, w.before args s = true) (hc : Cond.code N.1 N.2.1 N.2.2.1 N.2.2.2 ∈ pv_gt) : ∀ w ∈ pv_ws N, ∀ (a' : Array Value) (U : State), s.WarmedH U.vm → w.before a' U = true :=
  pay_in hts (fun w hw => by
    rcases List.mem_cons.mp hw with rfl | hw
    · exact ⟨hc, pv_gt_good hc⟩
    · exact ⟨hw, pv_gt_good hw⟩)
theorem pv_callB {R : Room} {s : State} {args : Array Value} {own : String} {idx n d d' kc ks : Nat} {N : pv_M} (hts : ∀ w ∈ pv_gt, w.before args s = true) (hm : pv_mok N n) (hl : Cond.methodLink own idx N.1 ∈ pv_gt) (hd : d' + 1 ≤ d) (hf : d ≤ R.frames) (hlo : 64 * d ≤ R.locals) :
    CallB R s args own idx N.1 N.2.1 N.2.2.1 N.2.2.2 (pv_ws N) ({ frames := d', cells := kc, slots := ks, locals := 64 * d' } : Room) kc ks n := by
  obtain ⟨h1, h2, h3, h4, h5⟩ := hm
  refine ⟨rfl, rfl, by show d' + 1 ≤ _; omega, by show 8 + (_ + 11) + 64 * d' ≤ _; omega, pv_pay hts h2, List.mem_cons_self, hts _ h2, hts _ h3, h1, fun sig hs => ?_, hts _ hl⟩
  rw [hs] at h4
  exact (Option.some.inj h4).symm
theorem pv_blind {Γ : pv_C} {ρ : Nat → Nat} {As Bs : List Value} {ty : pv_T} {h : pv_H} {r : pv_R} {g : pv_G} : FrameBlind (va_Pc As (fun U => pv_Env Γ U ∧ pv_Rep Γ ρ U U.heap ty h r g ∧ pv_wst ty Bs)) :=
  fun a U gg mk hp => ⟨hp.1, hp.2.1.same (U := U.calling gg mk a) rfl, hp.2.2.1.moved (U := U.calling gg mk a) (Vm.Alike.refl U.vm), hp.2.2.2⟩
def pv_Qc (Γ : pv_C) (ρ : Nat → Nat) (ty : pv_T) (Q : pv_Q) : Array Value → State → Outcome → State → Prop := fun _ _ o t => ∃ (ρ' : Nat → Nat) (v : Option Value) (ty' : pv_T) (h' : pv_H) (r' : pv_R) (g' : pv_G), o = .returned (v.map (pv_cv ρ')) ∧ Q v ty' h' r' g' ∧ pv_Rep Γ ρ' t t.heap ty' h' r' g' ∧ pv_ext ρ ty ρ' ty' ∧ (∀ x, v = some x → pv_wv ty' x)
section PVI
variable {Γ : pv_C} {d kc ks : Nat} {M : pv_M} {pc : Nat} {ls : List (Option Value)} {st : List Value} {ty : pv_T} {h : pv_H} {r : pv_R} {g : pv_G} {Q : pv_Q}
/-- behind a call -/
theorem pv_back {p : Program} {e : Env} {R : Room} {s : State} {m : MethodId} {args : Array Value} {below : List Frame} {meth : Method} {c : Code} {H : Heap} {locs : List Loc} {cells slots kc' ks' : Nat} {ρ : Nat → Nat} {lz : Array Slot} {Z : State → Prop} {st0 : List Value} {a : Array Value} {Q' : pv_Q}
    (hr : va_Run p Γ.1 e R s m args below meth c H locs cells slots kc' ks' (F0 m pc lz st0) (st.map (pv_cv ρ)) (pv_Qc Γ ρ ty Q' a) (fun q => (pv_h0 Γ).size ≤ q))
    (hC : pv_Ctx Γ d M p R s m args meth c) (hkc : kc' ≤ kc) (hks : ks' ≤ ks) (hcs : cells + kc ≤ R.cells ∧ slots + ks ≤ R.slots) (hl : pv_lRel ρ lz M.2.2.1 ls) (hw : pv_wst ty st) (hwl : pv_wl ty ls) (hlo : ∀ q ∈ locs, (pv_h0 Γ).size ≤ q.base) (hZ : pv_Ret Γ M p e R s m args below meth c ρ ty Q Z)
    (k : ∀ v ty' h' r' g', Q' v ty' h' r' g' → pv_E Γ d (kc - kc') (ks - ks') M (pc + 3) ls (v.toList ++ st) ty' h' r' g' Q) : W p Γ.1 e R s m args below meth c H locs cells slots Z (F0 m pc lz st0) := by
  intro T hT X
  obtain ⟨v, st₀, t, T', L, h0, X', hL, e1, e2, ⟨ρ', v', ty', h', r', g', hv, hq, hrep, hx, hwv⟩, stp⟩ := hr T hT X
  cases hv
  have hal : s.vm.Alike t.vm := by rw [← e2]; exact X'.warmed.alike
  have hrep' := hrep.moved hal.symm
  have kk := k v' ty' h' r' g' hq p e R s m args below meth c T'.heap (locs ++ L) (cells + kc') (slots + ks') ρ' lz Z ⟨hC, ⟨by omega, by omega⟩, by rw [e1]; exact hrep', hl.ext hx hwl, ?_, hwl.ext hx, ?_, hZ.ext hx⟩
  · have e3 : (v'.toList ++ st).map (pv_cv ρ') = (v'.map (pv_cv ρ')).toList ++ st.map (pv_cv ρ) := by
      rw [List.map_append, pv_map_ext hx hw]
      cases v' <;> rfl
    rw [e3] at kk
    obtain ⟨t2, a1, b1⟩ := kk T' rfl X'
    exact ⟨t2, stp t2 a1, b1⟩
  · intro x hx'
    rcases List.mem_append.mp hx' with h1 | h1
    · cases v' with
      | none => cases h1
      | some y => rw [List.mem_singleton.mp h1]; exact hwv y rfl
    · exact (hw.ext hx) x h1
  · intro q hq'
    rcases List.mem_append.mp hq' with h1 | h1
    · exact hlo q h1
    · exact hL q h1
/-- the receiver's class -/
def pv_recvOK (c : Nat) (C : String) : Prop := (∃ q : vw_C, vwCl[c]? = some q ∧ q.1 = C) ∨ (c = 30 ∧ C = "java/lang/String")
theorem pv_recv {ρ : Nat → Nat} {U : State} {H : Heap} {a c n : Nat} {C : String} (x : pv_Rep Γ ρ U H ty h r g) (hE : pv_Env Γ U) (hta : ty a = some (c, n)) (hc : pv_recvOK c C) : ∃ cell : Cell, H[ρ a]? = some cell ∧ cell.vm.isStatics = false ∧ U.vm.findClass C = some cell.cls := by
  rcases hc with ⟨q, hq, rfl⟩ | ⟨rfl, rfl⟩
  · obtain ⟨-, q', hq', cell, q1, q2, q3, -⟩ := pv_obj x hta (pv_c13 hq)
    cases hq.symm.trans hq'
    exact ⟨cell, q1, by rw [q3]; rfl, by rw [q2]; exact (hE.1 c _ hq).2.1⟩
  · by_cases ha : 10 ≤ a
    · rcases (x.2.1 a 30 n hta ha).2 with ⟨y, -⟩ | ⟨-, y, -⟩ <;> omega
    · rcases x.2.2.1 a 30 n hta (by omega) with ⟨-, y, -⟩ | ⟨i, hi, rfl, -, y, -⟩ | ⟨i, -, -, y, -⟩
      · omega
      · obtain ⟨⟨cell, z1, z2, z3, z4⟩, -⟩ := hE.2.2.2.2.1.1 i hi
        refine ⟨cell, ?_, z2, z3⟩
        rw [y, x.1.2 _ (Nat.not_le.mp z4)]
        exact z1
      · omega
theorem pv_cat8 {ρ : Nat → Nat} {mm : MethodId} {zl : Array Slot} {zst : List Value} (hs : (st.map fun v => v.category).sum ≤ 8) : 2 * (F0 mm pc zl zst).monitorRoom + ((st.map (pv_cv ρ)).map fun v => v.category).sum ≤ 8 := by
  have e : ((st.map (pv_cv ρ)).map fun v => v.category) = st.map fun v => v.category := by
    rw [List.map_map]
    exact List.map_congr_left fun v _ => pv_cv_cat ρ v
  rw [e]
  show 2 * 0 + _ ≤ 8
  omega
theorem pv_invV {idx a n c d' kc' ks' : Nat} {N : pv_M} {As : List Value} {Q' : pv_Q} {stk : List Value} (hdg : decode M.2.1 pc = .ok (.invokevirtual idx, 3)) (hm : pv_mokV N As.length) (hl : Cond.methodLink M.1.cls idx N.1 ∈ pv_gt) (hta : ty a = some (c, n)) (hc : pv_recvOK c N.1.cls) (hs : (st.map fun v => v.category).sum ≤ 8) (hd : d' + 1 ≤ d) (hkc : kc' ≤ kc) (hks : ks' ≤ ks)
    (hct : pv_CT Γ d' kc' ks' N (.ref a :: As) ty h r g Q') (k : ∀ v ty' h' r' g', Q' v ty' h' r' g' → pv_E Γ d (kc - kc') (ks - ks') M (pc + 3) ls (v.toList ++ st) ty' h' r' g' Q) (hst : stk = As.reverse ++ .ref a :: st) : pv_E Γ d kc ks M pc ls stk ty h r g Q := by
  subst hst
  intro p e R s m args below meth c' H locs cells slots ρ lz Z hK
  obtain ⟨hx, hb, hml, hown, hr, hlk, hnm, hts, henv, hdd, hdl⟩ := id hK.1
  have hR := hK.2.1
  obtain ⟨a', rfl⟩ := pv_nz hK.2.2.1 hta
  have hw1 : pv_wst ty st ∧ pv_wst ty (.ref (a' + 1) :: As) := ⟨fun v hv => hK.2.2.2.2.1 v (List.mem_append_right _ (List.mem_cons_of_mem _ hv)), fun v hv => hK.2.2.2.2.1 v (by
    rcases List.mem_cons.mp hv with rfl | hv
    · exact List.mem_append_right _ List.mem_cons_self
    · exact List.mem_append_left _ (List.mem_reverse.mpr hv))⟩
  have e0 : (As.reverse ++ Value.ref (a' + 1) :: st).map (pv_cv ρ) = (As.map (pv_cv ρ)).reverse ++ .ref (ρ (a' + 1)) :: st.map (pv_cv ρ) := by
    rw [List.map_append, List.map_reverse]; rfl
  rw [e0]
  have hrun := va_runV (g := F0 m pc lz ((As.map (pv_cv ρ)).reverse ++ .ref (ρ (a' + 1)) :: st.map (pv_cv ρ))) (rest := st.map (pv_cv ρ)) (p := p) (e := e) (below := below) (meth := meth) (locs := locs) (H := H) (cells := cells) (slots := slots) (C := N.1.cls) (b := ρ (a' + 1)) (As := As.map (pv_cv ρ)) (n := As.length) ⟨hx, hb, hml, hown, hts⟩ (hct ρ) ⟨pv_callB hts hm.1 hl hd hdd hdl, hts _ hm.2.1, hts _ hm.2.2⟩
    ⟨pv_blind, pv_recv hK.2.2.1 henv hta hc, fun U hU hW => ⟨rfl, henv.warm hW, by rw [hU]; exact hK.2.2.1.moved hW.alike, hw1.2⟩⟩ rfl (by simp) hK.2.2.2.1.1 rfl (pv_cat8 hs) hdg ⟨by omega, by omega⟩
  exact pv_back (a := #[]) hrun hK.1 hkc hks hR hK.2.2.2.1 hw1.1 hK.2.2.2.2.2.1 hK.2.2.2.2.2.2.1 hK.2.2.2.2.2.2.2 k
theorem pv_invS {idx d' kc' ks' : Nat} {N : pv_M} {As : List Value} {Q' : pv_Q} {stk : List Value} (hdg : decode M.2.1 pc = .ok (.invokestatic idx, 3)) (hm : pv_mokS N As.length) (hl : Cond.methodLink M.1.cls idx N.1 ∈ pv_gt) (hs : (st.map fun v => v.category).sum ≤ 8) (hd : d' + 1 ≤ d) (hkc : kc' ≤ kc) (hks : ks' ≤ ks)
    (hct : pv_CT Γ d' kc' ks' N As ty h r g Q') (k : ∀ v ty' h' r' g', Q' v ty' h' r' g' → pv_E Γ d (kc - kc') (ks - ks') M (pc + 3) ls (v.toList ++ st) ty' h' r' g' Q) (hst : stk = As.reverse ++ st) : pv_E Γ d kc ks M pc ls stk ty h r g Q := by
  subst hst
  intro p e R s m args below meth c' H locs cells slots ρ lz Z hK
  obtain ⟨hx, hb, hml, hown, hr, hlk, hnm, hts, henv, hdd, hdl⟩ := id hK.1
  have hR := hK.2.1
  have hw1 : pv_wst ty st ∧ pv_wst ty As := ⟨fun v hv => hK.2.2.2.2.1 v (List.mem_append_right _ hv), fun v hv => hK.2.2.2.2.1 v (List.mem_append_left _ (List.mem_reverse.mpr hv))⟩
  have e0 : (As.reverse ++ st).map (pv_cv ρ) = (As.map (pv_cv ρ)).reverse ++ st.map (pv_cv ρ) := by
    rw [List.map_append, List.map_reverse]
  rw [e0]
  have hrun := va_runS (g := F0 m pc lz ((As.map (pv_cv ρ)).reverse ++ st.map (pv_cv ρ))) (rest := st.map (pv_cv ρ)) (p := p) (e := e) (below := below) (meth := meth) (locs := locs) (H := H) (cells := cells) (slots := slots) (As := As.map (pv_cv ρ)) (n := As.length) ⟨hx, hb, hml, hown, hts⟩ (hct ρ) ⟨pv_callB hts hm.1 hl hd hdd hdl, hts _ hm.2⟩
    ⟨pv_blind, fun U hU hW => ⟨rfl, henv.warm hW, by rw [hU]; exact hK.2.2.1.moved hW.alike, hw1.2⟩⟩ rfl (by simp) hK.2.2.2.1.1 rfl (pv_cat8 hs) hdg ⟨by omega, by omega⟩
  exact pv_back (a := #[]) hrun hK.1 hkc hks hR hK.2.2.2.1 hw1.1 hK.2.2.2.2.2.1 hK.2.2.2.2.2.2.1 hK.2.2.2.2.2.2.2 k
theorem pv_invI {idx a n c d' kc' ks' : Nat} {N : pv_M} {As : List Value} {Q' : pv_Q} {stk : List Value} (hdg : decode M.2.1 pc = .ok (.invokespecial idx, 3)) (hm : pv_mokI N As.length) (hl : Cond.methodLink M.1.cls idx N.1 ∈ pv_gt) (hta : ty a = some (c, n)) (hs : (st.map fun v => v.category).sum ≤ 8) (hd : d' + 1 ≤ d) (hkc : kc' ≤ kc) (hks : ks' ≤ ks)
    (hct : pv_CT Γ d' kc' ks' N (.ref a :: As) ty h r g Q') (k : ∀ v ty' h' r' g', Q' v ty' h' r' g' → pv_E Γ d (kc - kc') (ks - ks') M (pc + 3) ls (v.toList ++ st) ty' h' r' g' Q) (hst : stk = As.reverse ++ .ref a :: st) : pv_E Γ d kc ks M pc ls stk ty h r g Q := by
  subst hst
  intro p e R s m args below meth c' H locs cells slots ρ lz Z hK
  obtain ⟨hx, hb, hml, hown, hr, hlk, hnm, hts, henv, hdd, hdl⟩ := id hK.1
  have hR := hK.2.1
  obtain ⟨a', rfl⟩ := pv_nz hK.2.2.1 hta
  have hw1 : pv_wst ty st ∧ pv_wst ty (.ref (a' + 1) :: As) := ⟨fun v hv => hK.2.2.2.2.1 v (List.mem_append_right _ (List.mem_cons_of_mem _ hv)), fun v hv => hK.2.2.2.2.1 v (by
    rcases List.mem_cons.mp hv with rfl | hv
    · exact List.mem_append_right _ List.mem_cons_self
    · exact List.mem_append_left _ (List.mem_reverse.mpr hv))⟩
  have e0 : (As.reverse ++ Value.ref (a' + 1) :: st).map (pv_cv ρ) = (As.map (pv_cv ρ)).reverse ++ .ref (ρ (a' + 1)) :: st.map (pv_cv ρ) := by
    rw [List.map_append, List.map_reverse]; rfl
  rw [e0]
  have hcb := pv_callB (kc := kc') (ks := ks') hts hm.1 hl hd hdd hdl
  rw [hm.2.2.1] at hcb
  have hrun := va_runI (g := F0 m pc lz ((As.map (pv_cv ρ)).reverse ++ .ref (ρ (a' + 1)) :: st.map (pv_cv ρ))) (rest := st.map (pv_cv ρ)) (p := p) (e := e) (below := below) (meth := meth) (locs := locs) (H := H) (cells := cells) (slots := slots) (b := ρ (a' + 1)) (As := As.map (pv_cv ρ)) (n := As.length) ⟨hx, hb, hml, hown, hts⟩ (hct ρ) ⟨hcb, hm.2.1, hts _ hm.2.2.2⟩
    ⟨pv_blind, fun U hU hW => ⟨rfl, henv.warm hW, by rw [hU]; exact hK.2.2.1.moved hW.alike, hw1.2⟩⟩ rfl (by simp) hK.2.2.2.1.1 rfl (pv_cat8 hs) hdg ⟨by omega, by omega⟩
  exact pv_back (a := #[]) hrun hK.1 hkc hks hR hK.2.2.2.1 hw1.1 hK.2.2.2.2.2.1 hK.2.2.2.2.2.2.1 hK.2.2.2.2.2.2.2 k
/-- Object's own constructor -/
theorem pv_objI {idx a : Nat} (hdg : decode M.2.1 pc = .ok (.invokespecial idx, 3)) (hl : Cond.methodLink M.1.cls idx Lib.objectInit ∈ pv_gt) (hi : Cond.instanceMethod Lib.objectInit ∈ pv_gt) (hc : Cond.code Lib.objectInit ⟨#[0xb1]⟩ 1 none ∈ pv_gt) (ha : a ≠ 0) (hd : 1 ≤ d) (hs : (st.map fun v => v.category).sum ≤ 8) (k : pv_E Γ d kc ks M (pc + 3) ls st ty h r g Q) : pv_E Γ d kc ks M pc ls (.ref a :: st) ty h r g Q := by
  intro p e R s m args below meth c' H locs cells slots ρ lz Z hK
  obtain ⟨hx, hb, hml, hown, hr, hlk, hnm, hts, henv, hdd, hdl⟩ := id hK.1
  obtain ⟨a', rfl⟩ : ∃ x, a = x + 1 := ⟨a - 1, by omega⟩
  have h8 : 2 * (F0 m pc lz ((Value.ref (a' + 1) :: st).map (pv_cv ρ))).monitorRoom + ((st.map (pv_cv ρ)).map fun v => v.category).sum ≤ 8 := pv_cat8 hs
  exact W.objInit hx hb hown (hts _ hl) (hts _ hi) (hts _ hc) rfl (by rw [hml]; exact hK.2.2.2.1.1) rfl hdg (by omega) (by omega) (k _ _ _ _ _ _ _ _ _ _ _ _ _ ρ _ _ ⟨hK.1, hK.2.1, hK.2.2.1, hK.2.2.2.1, (pv_wst_c.mp hK.2.2.2.2.1).2, hK.2.2.2.2.2⟩)
/-- a contract out of its body -/
theorem pv_lvargs {vs : List Value} (hc : ∀ v ∈ vs, v.category = 1) : ∀ (k i : Nat) (v : Value), vs[i]? = some v → (k + i, v) ∈ lv_args k vs := by
  induction vs with
  | nil => intro k i v h; simp at h
  | cons x xs ih =>
    intro k i v h
    have hx := hc x List.mem_cons_self
    show (k + i, v) ∈ (k, x) :: lv_args (if x.category = 2 then k + 2 else k + 1) xs
    rw [if_neg (by omega)]
    cases i with
    | zero =>
      simp at h
      rw [h]
      exact List.mem_cons_self
    | succ i =>
      rw [List.getElem?_cons_succ] at h
      have := ih (fun v hv => hc v (List.mem_cons_of_mem _ hv)) (k + 1) i v h
      rw [show k + (i + 1) = k + 1 + i by omega]
      exact List.mem_cons_of_mem _ this
theorem pv_slen {vs : List Value} (hc : ∀ v ∈ vs, v.category = 1) : (lg_sl vs).length = vs.length := by
  induction vs with
  | nil => rfl
  | cons x xs ih =>
    have hx := hc x List.mem_cons_self
    have : lg_sl (x :: xs) = [.val x] ++ lg_sl xs := by
      show (if x.category = 2 then [Slot.val x, .second] else [.val x]) ++ lg_sl xs = _
      rw [if_neg (by omega)]
    rw [this, List.length_append, ih (fun v hv => hc v (List.mem_cons_of_mem _ hv))]
    simp; omega
theorem pv_ofE {As : List Value} (hy : plainName M.1.cls = true) (hcat : ∀ v ∈ As, v.category = 1) (hlen : As.length ≤ M.2.2.1) (hls : ∀ i v, pv_lAt ls i = some v → As[i]? = some v) (hE : pv_E Γ d kc ks M 0 ls [] ty h r g Q) : pv_CT Γ d kc ks M As ty h r g Q := by
  intro ρ
  refine Met.ofW (cc := M.2.1) (maxL := M.2.2.1) (ret := M.2.2.2) hy rfl ?_
  intro p e s m args below meth c s₁ B hml hv
  obtain ⟨rfl, henv, hrep, hwst⟩ := hv
  have hts := atoms_spec (ws := pv_ws M) B.pre
  have hcat' : ∀ v ∈ As.map (pv_cv ρ), v.category = 1 := by
    intro v hv
    obtain ⟨w, hw, rfl⟩ := List.mem_map.mp hv
    rw [pv_cv_cat]
    exact hcat w hw
  have hl := lv_entry (As.map (pv_cv ρ)) (n := M.2.2.1) (by rw [pv_slen hcat', List.length_map]; exact hlen)
  rw [lg_entry_eq]
  refine hE p e _ s m _ below meth c s.heap [] 0 0 ρ _ _ ⟨⟨B.exec, B.bytes, hml, findClass_of_methodNamed B.named, B.returns, B.notSynchronized, (name_of_methodNamed B.named B.method).1, fun w hw => hts w (List.mem_cons_of_mem _ hw), henv, Nat.le_refl d, Nat.le_refl _⟩, ⟨by show 0 + kc ≤ kc; omega, by show 0 + ks ≤ ks; omega⟩, hrep, ⟨hl.1, hl.2.1, fun i v hv => ?_⟩, (fun _ hv => absurd hv List.not_mem_nil), fun i v hv => hwst v (List.mem_of_getElem? (hls i v hv)), (fun _ hq => absurd hq List.not_mem_nil), ?_⟩
  · have h1 := hls i v hv
    have h2 := pv_lvargs hcat' 0 i (pv_cv ρ v) (by rw [List.getElem?_map, h1]; rfl)
    rw [Nat.zero_add] at h2
    exact hl.2.2 _ h2
  · intro H' locs' cells' slots' ρ' lz' pc' v ty' h' r' g' hQ hc1 hc2 hrep' hx hwv hlo hret
    have hq : ∀ t : State, t.heap = H' → s.WarmedH t.vm → pv_Qc Γ ρ ty Q (As.map (pv_cv ρ)).toArray s (.returned (v.map (pv_cv ρ'))) t := fun t ht hW => ⟨ρ', v, ty', h', r', g', rfl, hQ, by rw [ht]; exact hrep'.moved hW.alike, hx, hwv⟩
    have hlk := B.notSynchronized
    refine W.widen (k := kc) (n := ks) hc1 hc2 ?_
    cases v with
    | none => exact W.vret B.exec B.bytes (B.returns.trans hret.2) hq hlo hret.1 hlk
    | some v =>
      cases v with
      | int x =>
        obtain ⟨hd1, t, ht, hn⟩ := hret
        exact W.zret B.exec B.bytes (B.returns.trans ht) hn hq hlo hd1 hlk
      | long x => exact W.lret B.exec B.bytes (B.returns.trans hret.2) hq hlo hret.1 hlk
      | ref x =>
        obtain ⟨hd1, t, ht, hn⟩ := hret
        cases x with
        | zero => exact W.aret B.exec B.bytes (B.returns.trans ht) hn (Or.inl rfl) hq hlo hd1 hlk
        | succ n => exact W.aret B.exec B.bytes (B.returns.trans ht) hn (Or.inr ⟨_, rfl⟩) hq hlo hd1 hlk
      | _ => exact absurd hret id
end PVI
