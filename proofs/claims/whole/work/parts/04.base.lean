/-! ===== the named heap: cells by names; a state is (kinds and lengths, ints, references by names, longs) ===== -/
abbrev pv_T : Type := Nat → Option (Nat × Nat)
abbrev pv_H : Type := Nat → Nat → Int32
abbrev pv_R : Type := Nat → Nat → Nat
abbrev pv_G : Type := Nat → Nat → Int64
/-- what is fixed over the whole run: launch, heap at the law's start, class numbers and slots, the script (address, length, ints), the two text constants (addresses of objects and of their bytes) -/
abbrev pv_C : Type := Launch × Heap × va_G × Nat × Nat × (Nat → Int32) × (Nat → Nat) × (Nat → Nat)
abbrev pv_M : Type := MethodName × ByteArray × Nat × Option FieldType
abbrev pv_Q : Type := Option Value → pv_T → pv_H → pv_R → pv_G → Prop
abbrev pv_h0 (Γ : pv_C) : Heap := Γ.2.1
abbrev pv_D (Γ : pv_C) : va_G := Γ.2.2.1
abbrev pv_b (Γ : pv_C) : Nat := Γ.2.2.2.1
abbrev pv_L (Γ : pv_C) : Nat := Γ.2.2.2.2.1
abbrev pv_xs (Γ : pv_C) : Nat → Int32 := Γ.2.2.2.2.2.1
abbrev pv_aK (Γ : pv_C) : Nat → Nat := Γ.2.2.2.2.2.2.1
abbrev pv_aV (Γ : pv_C) : Nat → Nat := Γ.2.2.2.2.2.2.2
def pv_cv (ρ : Nat → Nat) : Value → Value
  | .ref 0 => .null
  | .ref (n + 1) => .ref (ρ (n + 1))
  | v => v
def pv_wv (ty : pv_T) : Value → Prop
  | .ref (n + 1) => ty (n + 1) ≠ none
  | _ => True
def pv_fT : Nat → Nat → FieldType
  | 0 => tyX0
  | 1 => tyX1
  | 2 => tyX2
  | 3 => tyX3
  | 4 => tyX4
  | 5 => tyX5
  | 6 => tyX6
  | 7 => tyX7
  | 8 => tyX8
  | 9 => tyX9
  | 10 => tyX10
  | 11 => tyX11
  | 12 => tyX12
  | _ => fun _ => .int
def pv_isR : FieldType → Bool
  | .object _ => true
  | .array _ => true
  | _ => false
def pv_eT : Nat → FieldType
  | 20 => .int
  | 21 => .byte
  | 22 => .boolean
  | 23 => .long
  | 24 => .object RX8
  | 25 => .object RX3
  | 26 => .object RX0
  | 27 => .object RX6
  | _ => .int
/-- the value of a field, of an element -/
def pv_fV (ρ : Nat → Nat) (h : pv_H) (r : pv_R) (a c j : Nat) : Value := if pv_isR (pv_fT c j) = true then pv_cv ρ (.ref (r a j)) else .int (h a j)
def pv_eV (ρ : Nat → Nat) (h : pv_H) (r : pv_R) (g : pv_G) (a k j : Nat) : Value := if k < 23 then .int (h a j) else if k = 23 then .long (g a j) else pv_cv ρ (.ref (r a j))
def pv_str (i : Nat) : List Int32 := if i = 0 then [102, 103, 118, 115, 99, 121] else [100, 108, 119, 115, 110]
def pv_cRel (Γ : pv_C) (ρ : Nat → Nat) (U : State) (H : Heap) (h : pv_H) (r : pv_R) (g : pv_G) (a k n : Nat) : Prop :=
  (k < 13 ∧ ∃ q : vw_C, vwCl[k]? = some q ∧ t_OB (ρ a) ((pv_D Γ).1 k) q.2.2 ((pv_D Γ).2 k) H (fun j => pv_fV ρ h r a k j)) ∨
  (20 ≤ k ∧ k ≤ 27 ∧ ∃ cA : ClassId, H[ρ a]? = some (arrV cA n (fun j => pv_eV ρ h r g a k j)) ∧ ArrOfT U cA (pv_eT k) ∧ va_RA U cA (pv_eT k) ∧ ∀ j, j < n → fits (pv_eT k) (pv_eV ρ h r g a k j) = true)
def pv_oRel (Γ : pv_C) (ρ : Nat → Nat) (h : pv_H) (r : pv_R) (a k n : Nat) : Prop :=
  (a = 1 ∧ k = 20 ∧ n = pv_L Γ ∧ ρ 1 = pv_b Γ ∧ ∀ j, j < n → h 1 j = pv_xs Γ j) ∨
  (∃ i, i < 2 ∧ a = 2 + i ∧ k = 30 ∧ ρ (2 + i) = pv_aK Γ i ∧ r (2 + i) 0 = 4 + i) ∨
  (∃ i, i < 2 ∧ a = 4 + i ∧ k = 21 ∧ n = (pv_str i).length ∧ ρ (4 + i) = pv_aV Γ i ∧ ∀ j, j < n → h (4 + i) j = (pv_str i).getD j 0)
def pv_Rep (Γ : pv_C) (ρ : Nat → Nat) (U : State) (H : Heap) (ty : pv_T) (h : pv_H) (r : pv_R) (g : pv_G) : Prop :=
  ((pv_h0 Γ).size ≤ H.size ∧ ∀ q : Nat, q < (pv_h0 Γ).size → H[q]? = (pv_h0 Γ)[q]?) ∧
  (∀ a k n, ty a = some (k, n) → 10 ≤ a → (pv_h0 Γ).size ≤ ρ a ∧ pv_cRel Γ ρ U H h r g a k n) ∧
  (∀ a k n, ty a = some (k, n) → a < 10 → pv_oRel Γ ρ h r a k n) ∧
  (∀ a b, 10 ≤ a → 10 ≤ b → ty a ≠ none → ty b ≠ none → ρ a = ρ b → a = b) ∧
  (∀ a j, ty a ≠ none → r a j ≠ 0 → ty (r a j) ≠ none) ∧ ty 0 = none
def pv_Env (Γ : pv_C) (U : State) : Prop :=
  (∀ (c : Nat) (q : vw_C), vwCl[c]? = some q → u_Kn U q.1 q.2.1 q.2.2 ((pv_D Γ).1 c) ((pv_D Γ).2 c)) ∧
  va_X (pv_b Γ) (pv_L Γ) (pv_xs Γ) U (pv_h0 Γ) ∧ pv_b Γ < (pv_h0 Γ).size ∧
  va_Z "java/lang/String" "COMPACT_STRINGS" "Z" (.int 1) (fun q => (pv_h0 Γ).size ≤ q) U (pv_h0 Γ) ∧
  vk_S 2 [6, 5] [pv_str 0, pv_str 1] (pv_aK Γ) (pv_aV Γ) (fun q => (pv_h0 Γ).size ≤ q) U (pv_h0 Γ) ∧
  (∀ i, i < 2 → vk_R RX9 (if i = 0 then 19 else 38) (if i = 0 then "fgvscy" else "dlwsn") (pv_aK Γ i) U) ∧
  (va_AO RX8 U ∧ va_AO RX3 U ∧ va_AO RX0 U ∧ va_AO RX6 U) ∧ va_Nw (.castable "[B" "java/lang/Cloneable") U
/-- the words that every method has -/
def pv_gt : List Cond := lw_tbl.filter goodWord
def pv_ws (M : pv_M) : List Cond := .code M.1 M.2.1 M.2.2.1 M.2.2.2 :: pv_gt
def pv_Ctx (Γ : pv_C) (d : Nat) (M : pv_M) (p : Program) (R : Room) (s : State) (m : MethodId) (args : Array Value) (meth : Method) (c : Code) : Prop :=
  p.tables.exec = Jvm.exec ∧ c.code = M.2.1 ∧ c.maxLocals = M.2.2.1 ∧ s.vm.findClass M.1.cls = some m.cls ∧ meth.sig.returnType = M.2.2.2 ∧ meth.locks = false ∧ meth.name = M.1.name ∧ (∀ w ∈ pv_gt, w.before args s = true) ∧ pv_Env Γ s ∧ d ≤ R.frames ∧ 64 * d ≤ R.locals
def pv_ext (ρ : Nat → Nat) (ty : pv_T) (ρ' : Nat → Nat) (ty' : pv_T) : Prop := ∀ a, ty a ≠ none → ρ' a = ρ a ∧ ty' a ≠ none
/-- locals -/
def pv_lAt (ls : List (Option Value)) (i : Nat) : Option Value := (ls[i]?).join
def pv_lRel (ρ : Nat → Nat) (lz : Array Slot) (nL : Nat) (ls : List (Option Value)) : Prop := lz.size = nL ∧ lv_wf lz ∧ ∀ i v, pv_lAt ls i = some v → lz[i]? = some (.val (pv_cv ρ v))
def pv_wl (ty : pv_T) (ls : List (Option Value)) : Prop := ∀ i v, pv_lAt ls i = some v → pv_wv ty v
def pv_wst (ty : pv_T) (st : List Value) : Prop := ∀ v ∈ st, pv_wv ty v
def pv_retOK (M : pv_M) (pc : Nat) (v : Option Value) : Prop := match v with
  | none => decode M.2.1 pc = .ok (.return_, 1) ∧ M.2.2.2 = none
  | some (.int x) => decode M.2.1 pc = .ok (.ireturn, 1) ∧ ∃ t, M.2.2.2 = some t ∧ narrow t (.int x) = .int x
  | some (.long _) => decode M.2.1 pc = .ok (.lreturn, 1) ∧ M.2.2.2 = some .long
  | some (.ref _) => decode M.2.1 pc = .ok (.areturn, 1) ∧ ∃ t, M.2.2.2 = some t ∧ ((∃ n, t = .object n) ∨ ∃ u, t = .array u)
  | _ => False
def pv_Ret (Γ : pv_C) (M : pv_M) (p : Program) (e : Env) (R : Room) (s : State) (m : MethodId) (args : Array Value) (below : List Frame) (meth : Method) (c : Code) (ρ : Nat → Nat) (ty : pv_T) (Q : pv_Q) (Z : State → Prop) : Prop :=
  ∀ (H' : Heap) (locs' : List Loc) (cells' slots' : Nat) (ρ' : Nat → Nat) (lz' : Array Slot) (pc' : Nat) (v : Option Value) (ty' : pv_T) (h' : pv_H) (r' : pv_R) (g' : pv_G), Q v ty' h' r' g' → cells' ≤ R.cells → slots' ≤ R.slots → pv_Rep Γ ρ' s H' ty' h' r' g' → pv_ext ρ ty ρ' ty' → (∀ x, v = some x → pv_wv ty' x) → (∀ q ∈ locs', (pv_h0 Γ).size ≤ q.base) → pv_retOK M pc' v →
    W p Γ.1 e R s m args below meth c H' locs' cells' slots' Z (F0 m pc' lz' ((v.map (pv_cv ρ')).toList))
def pv_K (Γ : pv_C) (d kc ks : Nat) (M : pv_M) (ls : List (Option Value)) (st : List Value) (ty : pv_T) (h : pv_H) (r : pv_R) (g : pv_G) (Q : pv_Q)
    (p : Program) (e : Env) (R : Room) (s : State) (m : MethodId) (args : Array Value) (below : List Frame) (meth : Method) (c : Code) (H : Heap) (locs : List Loc) (cells slots : Nat) (ρ : Nat → Nat) (lz : Array Slot) (Z : State → Prop) : Prop :=
  pv_Ctx Γ d M p R s m args meth c ∧ (cells + kc ≤ R.cells ∧ slots + ks ≤ R.slots) ∧ pv_Rep Γ ρ s H ty h r g ∧ pv_lRel ρ lz M.2.2.1 ls ∧ pv_wst ty st ∧ pv_wl ty ls ∧ (∀ q ∈ locs, (pv_h0 Γ).size ≤ q.base) ∧ pv_Ret Γ M p e R s m args below meth c ρ ty Q Z
/-- THE JUDGEMENT: method M stands at pc with locals ls, stack st, in the named state; it returns, and Q holds then -/
def pv_E (Γ : pv_C) (d kc ks : Nat) (M : pv_M) (pc : Nat) (ls : List (Option Value)) (st : List Value) (ty : pv_T) (h : pv_H) (r : pv_R) (g : pv_G) (Q : pv_Q) : Prop :=
  ∀ (p : Program) (e : Env) (R : Room) (s : State) (m : MethodId) (args : Array Value) (below : List Frame) (meth : Method) (c : Code) (H : Heap) (locs : List Loc) (cells slots : Nat) (ρ : Nat → Nat) (lz : Array Slot) (Z : State → Prop),
    pv_K Γ d kc ks M ls st ty h r g Q p e R s m args below meth c H locs cells slots ρ lz Z →
    W p Γ.1 e R s m args below meth c H locs cells slots Z (F0 m pc lz (st.map (pv_cv ρ)))
/-- THE CONTRACT of a method at arguments and a named state -/
def pv_CT (Γ : pv_C) (d kc ks : Nat) (M : pv_M) (As : List Value) (ty : pv_T) (h : pv_H) (r : pv_R) (g : pv_G) (Q : pv_Q) : Prop :=
  ∀ ρ : Nat → Nat, Met Γ.1 M.1 (pv_ws M) ({ frames := d, cells := kc, slots := ks, locals := 64 * d } : Room)
    (va_Pc (As.map (pv_cv ρ)) (fun U => pv_Env Γ U ∧ pv_Rep Γ ρ U U.heap ty h r g ∧ pv_wst ty As))
    (fun _ _ o t => ∃ (ρ' : Nat → Nat) (v : Option Value) (ty' : pv_T) (h' : pv_H) (r' : pv_R) (g' : pv_G), o = .returned (v.map (pv_cv ρ')) ∧ Q v ty' h' r' g' ∧ pv_Rep Γ ρ' t t.heap ty' h' r' g' ∧ pv_ext ρ ty ρ' ty' ∧ (∀ x, v = some x → pv_wv ty' x))
    kc ks (fun q => (pv_h0 Γ).size ≤ q)
/-! ===== first facts ===== -/
theorem pv_ext_rfl {ρ : Nat → Nat} {ty : pv_T} : pv_ext ρ ty ρ ty := fun _ h => ⟨rfl, h⟩
theorem pv_ext_tr {ρ ρ1 ρ2 : Nat → Nat} {ty ty1 ty2 : pv_T} (a : pv_ext ρ ty ρ1 ty1) (b : pv_ext ρ1 ty1 ρ2 ty2) : pv_ext ρ ty ρ2 ty2 := fun x h => ⟨(b x (a x h).2).1.trans (a x h).1, (b x (a x h).2).2⟩
theorem pv_cv_cat (ρ : Nat → Nat) (v : Value) : (pv_cv ρ v).category = v.category := by
  cases v with
  | ref n => cases n <;> rfl
  | _ => rfl
theorem pv_cv_ext {ρ ρ' : Nat → Nat} {ty ty' : pv_T} (h : pv_ext ρ ty ρ' ty') {v : Value} (hv : pv_wv ty v) : pv_cv ρ' v = pv_cv ρ v := by
  cases v with
  | ref n =>
    cases n with
    | zero => rfl
    | succ n => show Value.ref _ = Value.ref _; rw [(h _ hv).1]
  | _ => rfl
theorem pv_wv_ext {ρ ρ' : Nat → Nat} {ty ty' : pv_T} (h : pv_ext ρ ty ρ' ty') {v : Value} (hv : pv_wv ty v) : pv_wv ty' v := by
  cases v with
  | ref n =>
    cases n with
    | zero => trivial
    | succ n => exact (h _ hv).2
  | _ => trivial
theorem pv_map_ext {ρ ρ' : Nat → Nat} {ty ty' : pv_T} (h : pv_ext ρ ty ρ' ty') {st : List Value} (hv : pv_wst ty st) : st.map (pv_cv ρ') = st.map (pv_cv ρ) :=
  List.map_congr_left fun v hm => pv_cv_ext h (hv v hm)
theorem pv_Ret.ext {Γ : pv_C} {M : pv_M} {p : Program} {e : Env} {R : Room} {s : State} {m : MethodId} {args : Array Value} {below : List Frame} {meth : Method} {c : Code} {ρ ρ1 : Nat → Nat} {ty ty1 : pv_T} {Q : pv_Q} {Z : State → Prop}
    (hx : pv_ext ρ ty ρ1 ty1) (h : pv_Ret Γ M p e R s m args below meth c ρ ty Q Z) : pv_Ret Γ M p e R s m args below meth c ρ1 ty1 Q Z := fun H' locs' cells' slots' ρ' lz' pc' v ty' h' r' g' hq h1 h2 h3 h4 h5 h6 h7 =>
  h H' locs' cells' slots' ρ' lz' pc' v ty' h' r' g' hq h1 h2 h3 (pv_ext_tr hx h4) h5 h6 h7
theorem pv_lRel.ext {ρ ρ1 : Nat → Nat} {ty ty1 : pv_T} {lz : Array Slot} {nL : Nat} {ls : List (Option Value)} (hx : pv_ext ρ ty ρ1 ty1) (hw : pv_wl ty ls) (h : pv_lRel ρ lz nL ls) : pv_lRel ρ1 lz nL ls :=
  ⟨h.1, h.2.1, fun i v hv => by rw [h.2.2 i v hv, pv_cv_ext hx (hw i v hv)]⟩
theorem pv_wl.ext {ρ ρ1 : Nat → Nat} {ty ty1 : pv_T} {ls : List (Option Value)} (hx : pv_ext ρ ty ρ1 ty1) (hw : pv_wl ty ls) : pv_wl ty1 ls := fun i v hv => pv_wv_ext hx (hw i v hv)
theorem pv_wst.ext {ρ ρ1 : Nat → Nat} {ty ty1 : pv_T} {st : List Value} (hx : pv_ext ρ ty ρ1 ty1) (hw : pv_wst ty st) : pv_wst ty1 st := fun v hv => pv_wv_ext hx (hw v hv)
theorem pv_wst_c {ty : pv_T} {v : Value} {st : List Value} : pv_wst ty (v :: st) ↔ pv_wv ty v ∧ pv_wst ty st := List.forall_mem_cons
theorem pv_gt_in {w : Cond} (h : w ∈ lw_tbl) (hg : goodWord w = true) : w ∈ pv_gt := List.mem_filter.mpr ⟨h, hg⟩
theorem pv_gt_good {w : Cond} (h : w ∈ pv_gt) : (w.onTables && w.keeps) = true ∨ ∃ ty, w = .arrayClass ty := good_of_word (List.mem_filter.mp h).2
theorem pv_cRel.moved {Γ : pv_C} {ρ : Nat → Nat} {u U : State} {H : Heap} {h : pv_H} {r : pv_R} {g : pv_G} {a k n : Nat} (hvm : u.vm.Alike U.vm) (x : pv_cRel Γ ρ u H h r g a k n) : pv_cRel Γ ρ U H h r g a k n := by
  rcases x with x | ⟨h1, h2, cA, h3, h4, h5, h6⟩
  · exact Or.inl x
  · exact Or.inr ⟨h1, h2, cA, h3, arrOfT_moved hvm h4, h5.moved hvm, h6⟩
theorem pv_Rep.moved {Γ : pv_C} {ρ : Nat → Nat} {u U : State} {H : Heap} {ty : pv_T} {h : pv_H} {r : pv_R} {g : pv_G} (hvm : u.vm.Alike U.vm) (x : pv_Rep Γ ρ u H ty h r g) : pv_Rep Γ ρ U H ty h r g :=
  ⟨x.1, fun a k n ht ha => ⟨(x.2.1 a k n ht ha).1, (x.2.1 a k n ht ha).2.moved hvm⟩, x.2.2⟩
theorem pv_Env.warm {Γ : pv_C} {s U : State} (hW : s.WarmedH U.vm) (h : pv_Env Γ s) : pv_Env Γ U :=
  ⟨fun c q hq => u_Kn_moved hW.alike (h.1 c q hq), h.2.1.moved hW.alike, h.2.2.1, h.2.2.2.1.moved hW.alike, h.2.2.2.2.1.moved hW.alike, fun i hi => (h.2.2.2.2.2.1 i hi).warm hW, ⟨h.2.2.2.2.2.2.1.1.moved hW.alike, h.2.2.2.2.2.2.1.2.1.moved hW.alike, h.2.2.2.2.2.2.1.2.2.1.moved hW.alike, h.2.2.2.2.2.2.1.2.2.2.moved hW.alike⟩, h.2.2.2.2.2.2.2.warmC hW⟩
theorem pv_Env.same {Γ : pv_C} {s U : State} (hv : U.vm = s.vm) (h : pv_Env Γ s) : pv_Env Γ U := by
  have hal : s.vm.Alike U.vm := by rw [hv]; exact Vm.Alike.refl _
  exact ⟨fun c q hq => u_Kn_moved hal (h.1 c q hq), h.2.1.moved hal, h.2.2.1, h.2.2.2.1.moved hal, h.2.2.2.2.1.moved hal, fun i hi => (h.2.2.2.2.2.1 i hi).same hv, ⟨h.2.2.2.2.2.2.1.1.moved hal, h.2.2.2.2.2.2.1.2.1.moved hal, h.2.2.2.2.2.2.1.2.2.1.moved hal, h.2.2.2.2.2.2.1.2.2.2.moved hal⟩, h.2.2.2.2.2.2.2.same rfl hv.symm⟩
