/-! the claim out of the walk of the law -/
def R_law : String := "PavingTrustLaw"
def lw_P (b : Addr) (xs : List Int32) (args : Array Value) (s : State) : Prop := args = #[.ref b] ∧ s.IntsAt b xs ∧ xs.length ≤ 3072 ∧ (Jvm.Cond.and given_1 narrow_1).before args s = true
def lw_Q (_ : Array Value) (s : State) (o : Outcome) (t : State) : Prop := o = .returned (some (.int 1)) ∧ Framed s o t [] 600000 7302250
def lw_Z (below : List Frame) (a : Array Value) (s : State) : State → Prop := fun t => ∃ o, t.status = .running ∧ Ended t below o ∧ lw_Q a s o t
/-- the law's own end, with 1 on the stack, nothing written that was there before, its room as the claim has it -/
theorem lw_ret {p : Program} {l : Launch} {e : Env} {s : State} {m : MethodId} {below : List Frame} {meth : Method} {c : Code} {b : Nat} (hx : p.tables.exec = Jvm.exec) (hb : c.code = code) (hr : meth.sig.returnType = ret) (hlocks : meth.locks = false) {pc : Nat} {H : Heap} {ls : Array Slot} (hdg : decode code pc = .ok (.ireturn, 1)) : W p l e room_1 s m #[Value.ref b] below meth c H [] 600000 7302250 (lw_Z below #[Value.ref b] s) (F0 m pc ls [.int 1]) := by
  intro T hT X
  obtain ⟨fs, hret, hrun, hended, hW, hframe⟩ := X.leave (v := some (.int 1)) (hlocks := hlocks) (fun h => by rw [hr] at h; cases h)
  have hmeth' : T.vm.method? m = some meth := X.method'
  refine ⟨T.setFrames fs, ?_, .returned (some (.int 1)), hrun, hended, rfl, ⟨_, rfl⟩, hW, hframe⟩
  jvm_step X.here [X.here.top, hx, hb, hdg, hmeth', hr, ret, narrow_b1]
  (try refine ⟨rfl, ?_⟩); (try refine ⟨rfl, ?_⟩)
  first | (intro acts; rw [hret _ acts rfl rfl rfl]) | rw [hret _ _ rfl rfl rfl]
  exact Steps.refl _
/-- what holds at the law's entry: the machine, the code, the tables' words (any of lw_tbl by 'hts w (by decide +kernel)'), the script of L ints xs at the cell b, what the Statement gives of the start (any of its parts by flat_of_before) -/
def lw_At (p : Program) (s : State) (m : MethodId) (meth : Method) (c : Code) (b L : Nat) (xs : Nat → Int32) : Prop :=
  p.tables.exec = Jvm.exec ∧ c.code = code ∧ meth.sig.returnType = ret ∧ c.maxLocals = 4 ∧ s.vm.findClass R_law = some m.cls ∧ (∀ w ∈ lw_tbl, w.before #[Value.ref b] s = true) ∧ va_X b L xs s s.heap ∧ b < s.heap.size ∧ meth.locks = false ∧ (Jvm.Cond.and given_1 narrow_1).before #[Value.ref b] s = true ∧ meth.name = "law"
/-- the named state at the law's start -/
def st_h (xs : Nat → Int32) : pv_H := fun a j => if a = 1 then xs j else if a = 4 then (pv_str 0).getD j 0 else if a = 5 then (pv_str 1).getD j 0 else 0
def st_p (b : Nat) (aK aV : Nat → Nat) : Nat → Nat := fun a => if a = 1 then b else if a = 2 then aK 0 else if a = 3 then aK 1 else if a = 4 then aV 0 else aV 1
theorem st_env {s : State} {b L : Nat} {xs : Nat → Int32} (l : Launch) (hts : ∀ w ∈ lw_tbl, w.before #[Value.ref b] s = true) (hX : va_X b L xs s s.heap) (hbl : b < s.heap.size) (hgv : (Jvm.Cond.and given_1 narrow_1).before #[Value.ref b] s = true) : ∃ (D : va_G) (aK aV : Nat → Nat), pv_Env (l, s.heap, D, b, L, xs, aK, aV) s := by
  have hs := flat_of_before _ hgv
  have hA : ∀ a : Nat, a < s.heap.size → ¬ (fun q => s.heap.size ≤ q) a := fun a h1 h2 => absurd h2 (Nat.not_le.mpr h1)
  have hts' : ∀ w ∈ pv_gt, w.before #[Value.ref b] s = true := fun w hw => hts w (List.mem_filter.mp hw).1
  have hall : ∀ (c : Nat) (q : vw_C), vwCl[c]? = some q → ∃ z : ClassId × (Nat → Nat), u_Kn s q.1 q.2.1 q.2.2 z.1 z.2 := by
    intro c q hq
    match c, hq with
    | 0, hq => cases hq; obtain ⟨z1, z2, z3⟩ := u_known (n := 4) hts' (pv_cls (c := 0) rfl).1 (hts' _ ins_X0); exact ⟨(z1, z2), z3⟩
    | 1, hq => cases hq; obtain ⟨z1, z2, z3⟩ := u_known (n := 5) hts' (pv_cls (c := 1) rfl).1 (hts' _ ins_X1); exact ⟨(z1, z2), z3⟩
    | 2, hq => cases hq; obtain ⟨z1, z2, z3⟩ := u_known (n := 2) hts' (pv_cls (c := 2) rfl).1 (hts' _ ins_X2); exact ⟨(z1, z2), z3⟩
    | 3, hq => cases hq; obtain ⟨z1, z2, z3⟩ := u_known (n := 5) hts' (pv_cls (c := 3) rfl).1 (hts' _ ins_X3); exact ⟨(z1, z2), z3⟩
    | 4, hq => cases hq; obtain ⟨z1, z2, z3⟩ := u_known (n := 9) hts' (pv_cls (c := 4) rfl).1 (hts' _ ins_X4); exact ⟨(z1, z2), z3⟩
    | 5, hq => cases hq; obtain ⟨z1, z2, z3⟩ := u_known (n := 4) hts' (pv_cls (c := 5) rfl).1 (hts' _ ins_X5); exact ⟨(z1, z2), z3⟩
    | 6, hq => cases hq; obtain ⟨z1, z2, z3⟩ := u_known (n := 6) hts' (pv_cls (c := 6) rfl).1 (hts' _ ins_X6); exact ⟨(z1, z2), z3⟩
    | 7, hq => cases hq; obtain ⟨z1, z2, z3⟩ := u_known (n := 11) hts' (pv_cls (c := 7) rfl).1 (hts' _ ins_X7); exact ⟨(z1, z2), z3⟩
    | 8, hq => cases hq; obtain ⟨z1, z2, z3⟩ := u_known (n := 9) hts' (pv_cls (c := 8) rfl).1 (hts' _ ins_X8); exact ⟨(z1, z2), z3⟩
    | 9, hq => cases hq; obtain ⟨z1, z2, z3⟩ := u_known (n := 7) hts' (pv_cls (c := 9) rfl).1 (hts' _ ins_X9); exact ⟨(z1, z2), z3⟩
    | 10, hq => cases hq; obtain ⟨z1, z2, z3⟩ := u_known (n := 5) hts' (pv_cls (c := 10) rfl).1 (hts' _ ins_X10); exact ⟨(z1, z2), z3⟩
    | 11, hq => cases hq; obtain ⟨z1, z2, z3⟩ := u_known (n := 14) hts' (pv_cls (c := 11) rfl).1 (hts' _ ins_X11); exact ⟨(z1, z2), z3⟩
    | 12, hq => cases hq; obtain ⟨z1, z2, z3⟩ := u_known (n := 66) hts' (pv_cls (c := 12) rfl).1 (hts' _ ins_X12); exact ⟨(z1, z2), z3⟩
    | c + 13, hq => simp [vwCl] at hq
  obtain ⟨z0, -⟩ := hall 0 _ rfl
  have hc : ∀ c : Nat, ∃ z : ClassId × (Nat → Nat), ∀ q : vw_C, vwCl[c]? = some q → u_Kn s q.1 q.2.1 q.2.2 z.1 z.2 := fun c => by
    cases e : vwCl[c]? with
    | none => exact ⟨z0, fun q hq => by cases hq⟩
    | some q =>
      obtain ⟨z, hz⟩ := hall c q e
      exact ⟨z, fun q' hq => by cases hq; exact hz⟩
  obtain ⟨D, hD⟩ := Classical.axiomOfChoice hc
  obtain ⟨aK, aV, hS, hK⟩ := vk_Sof (args := #[Value.ref b]) (s := s) (N := 2) (tm := fun i => .string RX9 (if i = 0 then 19 else 38)) (len := [6, 5]) (byt := [pv_str 0, pv_str 1]) (A := fun q => s.heap.size ≤ q)
    (fun i hi => by
      have : i = 0 ∨ i = 1 := by omega
      rcases this with rfl | rfl <;> decide)
    (fun i hi => by
    have : i = 0 ∨ i = 1 := by omega
    rcases this with rfl | rfl
    · exact hs (.exactly (.string RX9 19) "java/lang/String") (by decide +kernel)
    · exact hs (.exactly (.string RX9 38) "java/lang/String") (by decide +kernel))
    (fun i hi => by
    have : i = 0 ∨ i = 1 := by omega
    rcases this with rfl | rfl
    · exact hs (.eq (.field (.string RX9 19) "java/lang/String" "coder" "B") (.int 0)) (by decide +kernel)
    · exact hs (.eq (.field (.string RX9 38) "java/lang/String" "coder" "B") (.int 0)) (by decide +kernel))
    (fun i hi => by
    have : i = 0 ∨ i = 1 := by omega
    rcases this with rfl | rfl
    · exact hs (.arrayOf (.field (.string RX9 19) "java/lang/String" "value" "[B") .byte) (by decide +kernel)
    · exact hs (.arrayOf (.field (.string RX9 38) "java/lang/String" "value" "[B") .byte) (by decide +kernel))
    (fun i hi => by
    have : i = 0 ∨ i = 1 := by omega
    rcases this with rfl | rfl
    · exact hs (.eq (.length (.field (.string RX9 19) "java/lang/String" "value" "[B")) (.int 6)) (by decide +kernel)
    · exact hs (.eq (.length (.field (.string RX9 38) "java/lang/String" "value" "[B")) (.int 5)) (by decide +kernel))
    (fun i hi => by
    have : i = 0 ∨ i = 1 := by omega
    rcases this with rfl | rfl
    · intro j hj
      match j, hj with
      | 0, _ => exact (hs (.eq (.elem (.field (.string RX9 19) "java/lang/String" "value" "[B") (.int 0)) (.int 102)) (by decide +kernel))
      | 1, _ => exact (hs (.eq (.elem (.field (.string RX9 19) "java/lang/String" "value" "[B") (.int 1)) (.int 103)) (by decide +kernel))
      | 2, _ => exact (hs (.eq (.elem (.field (.string RX9 19) "java/lang/String" "value" "[B") (.int 2)) (.int 118)) (by decide +kernel))
      | 3, _ => exact (hs (.eq (.elem (.field (.string RX9 19) "java/lang/String" "value" "[B") (.int 3)) (.int 115)) (by decide +kernel))
      | 4, _ => exact (hs (.eq (.elem (.field (.string RX9 19) "java/lang/String" "value" "[B") (.int 4)) (.int 99)) (by decide +kernel))
      | 5, _ => exact (hs (.eq (.elem (.field (.string RX9 19) "java/lang/String" "value" "[B") (.int 5)) (.int 121)) (by decide +kernel))
      | j + 6, hj => exact absurd hj (by show ¬ j + 6 < 6; omega)
    · intro j hj
      match j, hj with
      | 0, _ => exact (hs (.eq (.elem (.field (.string RX9 38) "java/lang/String" "value" "[B") (.int 0)) (.int 100)) (by decide +kernel))
      | 1, _ => exact (hs (.eq (.elem (.field (.string RX9 38) "java/lang/String" "value" "[B") (.int 1)) (.int 108)) (by decide +kernel))
      | 2, _ => exact (hs (.eq (.elem (.field (.string RX9 38) "java/lang/String" "value" "[B") (.int 2)) (.int 119)) (by decide +kernel))
      | 3, _ => exact (hs (.eq (.elem (.field (.string RX9 38) "java/lang/String" "value" "[B") (.int 3)) (.int 115)) (by decide +kernel))
      | 4, _ => exact (hs (.eq (.elem (.field (.string RX9 38) "java/lang/String" "value" "[B") (.int 4)) (.int 110)) (by decide +kernel))
      | j + 5, hj => exact absurd hj (by show ¬ j + 5 < 5; omega))
    (fun i j hi hj hij => by
    have h1 : i = 0 ∨ i = 1 := by omega
    have h2 : j = 0 ∨ j = 1 := by omega
    rcases h1 with rfl | rfl <;> rcases h2 with rfl | rfl
    · exact absurd rfl hij
    · exact Or.inl (hs (.not (.eq (.string RX9 19) (.string RX9 38))) (by decide +kernel))
    · exact Or.inr (hs (.not (.eq (.string RX9 19) (.string RX9 38))) (by decide +kernel))
    · exact absurd rfl hij) hA
  refine ⟨(fun c => (D c).1, fun c => (D c).2), aK, aV, fun c q hq => hD c q hq, hX, hbl, va_Zof (args := #[Value.ref b]) (hts (.laysStatic "java/lang/String" "COMPACT_STRINGS" "Z") (List.mem_of_getElem? (i := 754) (by decide +kernel))) (hts (.initialized "java/lang/String") (List.mem_of_getElem? (i := 72) (by decide +kernel))) (va_eqt (hs (.eq (.static "java/lang/String" "COMPACT_STRINGS" "Z") (.int 1)) (by decide +kernel))) hA, hS, fun i hi => ?_, ⟨va_AO.of (hts (.arrayOver (.object RX8)) (List.mem_of_getElem? (i := 88) (by decide +kernel))), va_AO.of (hts (.arrayOver (.object RX3)) (List.mem_of_getElem? (i := 203) (by decide +kernel))), va_AO.of (hts (.arrayOver (.object RX0)) (List.mem_of_getElem? (i := 211) (by decide +kernel))), va_AO.of (hts (.arrayOver (.object RX6)) (List.mem_of_getElem? (i := 265) (by decide +kernel)))⟩, va_Nw.of rfl (hts (.castable "[B" "java/lang/Cloneable") (List.mem_of_getElem? (i := 835) (by decide +kernel)))⟩
  have : i = 0 ∨ i = 1 := by omega
  rcases this with rfl | rfl
  · exact vk_R.of (hts (.stringRef RX9 19 "fgvscy") (List.mem_of_getElem? (i := 218) (by decide +kernel))) (hK 0 (by decide))
  · exact vk_R.of (hts (.stringRef RX9 38 "dlwsn") (List.mem_of_getElem? (i := 701) (by decide +kernel))) (hK 1 (by decide))
theorem st_rep {s : State} {b L : Nat} {xs : Nat → Int32} {l : Launch} {D : va_G} {aK aV : Nat → Nat} : pv_Rep (l, s.heap, D, b, L, xs, aK, aV) (st_p b aK aV) s s.heap (iT L) (st_h xs) iR (fun _ _ => 0) := by
  refine ⟨⟨Nat.le_refl _, fun _ _ => rfl⟩, fun a k n ht ha => ?_, fun a k n ht ha => ?_, fun a a' h1 _ h3 => absurd (iT_hi h1) h3, fun a j _ hr => ?_, rfl⟩
  · rw [iT_hi ha] at ht; cases ht
  · have : a = 0 ∨ a = 1 ∨ a = 2 ∨ a = 3 ∨ a = 4 ∨ a = 5 ∨ 6 ≤ a := by omega
    rcases this with rfl | rfl | rfl | rfl | rfl | rfl | h6
    · cases ht
    · cases ht; exact Or.inl ⟨rfl, rfl, rfl, rfl, fun j _ => rfl⟩
    · cases ht; exact Or.inr (Or.inl ⟨0, by decide, rfl, rfl, rfl, rfl⟩)
    · cases ht; exact Or.inr (Or.inl ⟨1, by decide, rfl, rfl, rfl, rfl⟩)
    · cases ht; exact Or.inr (Or.inr ⟨0, by decide, rfl, rfl, rfl, rfl, fun j _ => rfl⟩)
    · cases ht; exact Or.inr (Or.inr ⟨1, by decide, rfl, rfl, rfl, rfl, fun j _ => rfl⟩)
    · unfold iT at ht
      rw [if_neg (by omega), if_neg (by omega), if_neg (by omega), if_neg (by omega), if_neg (by omega)] at ht
      cases ht
  · by_cases e2 : a = 2
    · subst e2; exact Option.some_ne_none (21, 6)
    · by_cases e3 : a = 3
      · subst e3; exact Option.some_ne_none (21, 5)
      · unfold iR at hr
        rw [if_neg e2, if_neg e3] at hr
        exact absurd rfl hr
theorem st_z {xs : Nat → Int32} {a : Nat} (ha : 10 ≤ a) : iz (st_h xs) (fun _ _ => 0) a := ⟨fun j => by unfold st_h; rw [if_neg (by omega), if_neg (by omega), if_neg (by omega)], fun _ => rfl⟩
/-- from the entry, for every script of at most 3072 ints, the law comes to its end with true -/
theorem whole_start {p : Program} {e : Env} {s : State} {m : MethodId} {below : List Frame} {meth : Method} {c : Code} (l : Launch) {b L : Nat} {xs : Nat → Int32} (hL : L ≤ 3072) (C0 : lw_At p s m meth c b L xs) : W p l e room_1 s m #[Value.ref b] below meth c s.heap [] 0 0 (lw_Z below #[Value.ref b] s) (entryFrame m ([Value.ref b] : List Value).toArray 4) := by
  obtain ⟨hx, hb, hr, hml, hown, hts, hX, hbl, hlocks, hgv, hnm⟩ := C0
  obtain ⟨D, aK, aV, hEnv⟩ := st_env l hts hX hbl hgv
  have hl := lv_entry [Value.ref b] (n := 4) (Nat.le_of_ble_eq_true rfl)
  have hE := lw_0 (Γ := (l, s.heap, D, b, L, xs, aK, aV)) (d := 100) (kc := 3000) (ks := 300000) (L := L) (h := st_h xs) (g := fun _ _ => 0) (Q := fun v _ _ _ _ => v = some (.int 1)) (by decide) hL (by decide) (by decide) (fun _ _ _ _ => rfl) (fun a ha => st_z ha)
  rw [lg_entry_eq]
  refine hE p e room_1 s m #[Value.ref b] below meth c s.heap [] 0 0 (st_p b aK aV) _ _ ⟨⟨hx, hb, hml, hown, hr, hlocks, hnm, fun w hw => hts w (List.mem_filter.mp hw).1, hEnv, by decide, by decide⟩, ⟨by decide, by decide⟩, st_rep, ⟨hl.1, hl.2.1, fun i v hv => ?_⟩, (fun _ hv => absurd hv List.not_mem_nil), fun i v hv => ?_, (fun _ hq => absurd hq List.not_mem_nil), ?_⟩
  · match i, hv with
    | 0, hv => cases hv; exact hl.2.2 (0, .ref b) List.mem_cons_self
    | 1, hv => cases hv
    | 2, hv => cases hv
    | 3, hv => cases hv
    | i + 4, hv => cases hv
  · match i, hv with
    | 0, hv => cases hv; exact Option.some_ne_none (20, L)
    | 1, hv => cases hv
    | 2, hv => cases hv
    | 3, hv => cases hv
    | i + 4, hv => cases hv
  · intro H' locs' cells' slots' ρ' lz' pc' v ty' h' r' g' hQ hc1 hc2 hrep' hx' hwv hlo hret
    have hv : v = some (.int 1) := hQ
    subst hv
    refine va_forget hlo ?_
    refine W.widen (k := 600000) (n := 7302250) hc1 hc2 ?_
    exact lw_ret hx hb hr hlocks hret.1
set_option maxHeartbeats 4000000 in
theorem lw_walk (l : Launch) (b : Addr) (xs : List Int32) : MetFree l x (headSpec (Jvm.Cond.code x code maxLocals ret :: tables_1) room_1) (lw_P b xs) (fun _ _ _ _ _ => True) lw_Q := by
  refine MetFree.of_bodyS (code := code) (maxLocals := maxLocals) (ret := ret) (by decide) ?_ ?_
  · intro args s m h hn
    obtain ⟨meth, c, h1, h2, h3, h4, h5, h6, -, -⟩ := Cond.code_spec hn (atoms_spec (ws := Jvm.Cond.code x code maxLocals ret :: tables_1) h _ List.mem_cons_self)
    exact ⟨meth, c, h1, h2, h3, h4, h5, h6⟩
  · intro p e s m args below meth c s₁ B hml0 hP _
    obtain ⟨rfl, hx, hbd, hgv⟩ := hP
    obtain ⟨scr, harrAt, hlist, hof, hsmall⟩ := hx
    obtain ⟨hcb, hkn, -, -⟩ := State.arrayAt?_spec harrAt
    have hown : s.vm.findClass R_law = some m.cls := findClass_of_methodNamed B.named
    have hts0 : ∀ c ∈ (Jvm.Cond.code x code maxLocals ret :: tables_1), c.before #[Value.ref b] s = true := atoms_spec (ws := Jvm.Cond.code x code maxLocals ret :: tables_1) B.pre
    have hts : ∀ w ∈ lw_tbl, w.before #[Value.ref b] s = true := k2_hts_sels lw_privs (fun w hw => hts0 w (List.mem_cons_of_mem _ hw)) lw_privs_ok
    have hml : c.maxLocals = 4 := B.maxLocals_eq (hts0 _ List.mem_cons_self)
    have X₀ : Stand p l e room_1 s m #[Value.ref b] below meth c s₁ [] 0 0 := Stand.of_body B
    have hh0 : s₁.heap = s.heap := by rw [B.state]; rfl
    have hsz : scr.slots.size = xs.length := by rw [← Array.length_toList, hlist, List.length_map]
    have hval : ∀ j : Nat, j < xs.length → scr.slots[j]? = some (.int (xs.getD j 0)) := fun j hj => by
      rw [← Array.getElem?_toList, hlist]
      simp [hj]
    have hbl : b < s.heap.size := (Array.getElem?_eq_some_iff.mp hcb).1
    have hX : va_X b xs.length (fun j => xs.getD j 0) s s.heap := ⟨scr, hcb, hof, hkn, hsz, hval⟩
    have K : W p l e room_1 s m #[Value.ref b] below meth c s₁.heap [] 0 0 (lw_Z below #[Value.ref b] s) (entryFrame m ([Value.ref b] : List Value).toArray 4) := by
      rw [hh0]
      exact whole_start l hbd ⟨B.exec, B.bytes, B.returns, hml, hown, hts, hX, hbl, B.notSynchronized, hgv, (name_of_methodNamed B.named B.method).1⟩
    obtain ⟨t, a1, o, b1, b2, b3⟩ := K s₁ rfl X₀
    exact ⟨t, o, a1, b1, b2, b3⟩
theorem lw_pre_spec {args : Array Value} {s : State} (h : (Jvm.Cond.and given_1 narrow_1).before args s = true) (hr : rest_1_c.before args s = true) : ∃ (b : Addr) (xs : List Int32), lw_P b xs args s := by
  have hs := flat_of_before _ h
  have hq := flat_of_before _ hr
  have hc : (Cond.count 1).before args s = true := hs _ (by decide +kernel)
  have harr : (Cond.arrayOf (.arg 0) .int).before args s = true := hs _ (by decide +kernel)
  have hle : (Cond.le (.length (.arg 0)) (.int 3072)).before args s = true := hs _ (by decide +kernel)
  have hlen : (Cond.isInt (.length (.arg 0))).before args s = true := hq _ (by decide +kernel)
  have hall : (Cond.all (.arg 0) (.isInt (.elem (.arg 0) (.index 0)))).before args s = true := hq _ (by decide +kernel)
  obtain ⟨b, xs, hb, hx⟩ := State.ints_of_pre rfl harr hlen hall
  have hsm : xs.length < 2 ^ 31 := hx.choose_spec.2.2.2
  have hev : (Term.length (.arg 0)).eval args s none [] s = some (.int xs.length.toInt32) := hx.length_eval hb
  have hv := Cond.le_ints hev (show (Term.int 3072).eval args s none [] s = some (.int 3072) from rfl)
  have hd : xs.length.toInt32 ≤ 3072 := by
    simpa [Cond.before, Cond.holds, hv] using hle
  have hN : xs.length ≤ 3072 := (Int32.ofNat_le_ofNat hsm (by decide)).mp (show Int32.ofNat xs.length ≤ Int32.ofNat 3072 from hd)
  exact ⟨b, xs, Cond.one_arg hc (show args[0]? = some (.ref b) from hb), hx, hN, h⟩
theorem lw_comes (l : Launch) : Comes l x (Jvm.Cond.code x code maxLocals ret :: tables_1) room_1 (fun tb e args s => Calls_1 tb e args s ∧ rest_1 tb e args s ∧ Pre_1 tb e args s)
    (fun _ _ args s o t => lw_Q args s o t) := by
  intro p e ha hc hk s m args below hf hfit hheap happ hpre
  obtain ⟨b, xs, hP⟩ := lw_pre_spec hpre.2.2 hpre.2.1
  obtain ⟨k, o, h1, h2, h3, hQ⟩ := lw_walk l b xs p e ha hc hk s m args below hf ((Spec.applies_iff_loose hf).mp happ).1 hP trivial
  exact ⟨k, o, h1, h2, h3, hQ⟩
theorem lw_frame {s t : State} {o : Outcome} {args : Array Value} (h : Framed s o t [] 600000 7302250) :
    Framed s o t (fieldLocs frame_1_writes args s ++ arrayLocs frame_1_arrays args s ++ staticLocs frame_1_statics s) 600000 7302250 := h
theorem lw_limb (L : Cond) (hL : ∀ (args : Array Value) (s t : State), L.after args s (.returned (some (.int 1))) t = true) :
    ArmFor flags0 classFile x code maxLocals ret World_1 tables_1 room_1 Calls_1 rest_1 Pre_1
      (fun tb e a s o t => postC L tb e a s o t ∧ Framed s o t (fieldLocs frame_1_writes a s ++ arrayLocs frame_1_arrays a s ++ staticLocs frame_1_statics s) 600000 7302250) := by
  intro l _ _ _ p e ha hc hk s m args below hf hfit hheap happ hpre
  obtain ⟨k, o, h1, h2, h3, rfl, hF⟩ := lw_comes l p e ha hc hk s m args below hf hfit hheap happ hpre
  exact ⟨k, _, h1, h2, h3, hL args s _, lw_frame hF⟩
theorem i_vc : Claimed_1_1 ∧ Claimed_1_2 := ⟨lw_limb limb_1_1 (fun args s t => by simp [limb_1_1, Cond.after, Cond.holds, Cond.value]), lw_limb limb_1_2 (fun args s t => Cond.after_iff.mpr (by
  first | (rw [show limb_1_2 = Cond.eq .result (.int 1) from rfl, Cond.eq_ints (x := 1) (y := 1) rfl rfl]; simp; done) | (simp [limb_1_2, Cond.value, Term.eval]; done)))⟩
