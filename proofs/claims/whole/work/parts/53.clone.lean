/-! a byte array's clone, and its cast -/
theorem pv_Rep.madeF {Γ : pv_C} {ρ : Nat → Nat} {U : State} {H H1 : Heap} {ty : pv_T} {h h1 : pv_H} {r : pv_R} {g : pv_G} {a k n : Nat} (x : pv_Rep Γ ρ U H ty h r g) (ha : 10 ≤ a) (hta : ty a = none) (hz : H1.size = H.size + 1) (oq : ∀ q : Nat, q < H.size → H1[q]? = H[q]?) (hh : ∀ b, b ≠ a → ∀ j, h1 b j = h b j)
    (hc : pv_cRel Γ (pv_newρ ρ a H.size) U H1 h1 (pv_new r a 0) (pv_new g a 0) a k n) : pv_Rep Γ (pv_newρ ρ a H.size) U H1 (pv_newT ty a k n) h1 (pv_new r a 0) (pv_new g a 0) := by
  have hx := pv_ext_new (ρ := ρ) (q := H.size) (k := k) (n := n) hta
  have tyb : ∀ {b : Nat}, b ≠ a → pv_newT ty a k n b = ty b := fun e => by simp [pv_newT, e]
  have tya : pv_newT ty a k n a = some (k, n) := by simp [pv_newT]
  refine ⟨⟨by have := x.1.1; omega, fun q hq => ?_⟩, fun b kb nb hb hb10 => ?_, fun b kb nb hb hb10 => ?_, fun b c hb hc' hb1 hc1 he => ?_, fun b j hb hne => ?_, ?_⟩
  · rw [oq q (by have := x.1.1; omega)]
    exact x.1.2 q hq
  · by_cases e : b = a
    · subst e
      cases tya.symm.trans hb
      exact ⟨by simp [pv_newρ]; exact x.1.1, hc⟩
    · rw [tyb e] at hb
      obtain ⟨y1, y2⟩ := x.2.1 b kb nb hb hb10
      have hb' : ty b ≠ none := by rw [hb]; exact Option.some_ne_none _
      have eρ : pv_newρ ρ a H.size b = ρ b := by simp [pv_newρ, e]
      refine ⟨by rw [eρ]; exact y1, y2.congr eρ (oq _ y2.lt) (fun j => hh b e j) (fun j => ?_) (fun j => by simp [pv_new, e])⟩
      have e2 : pv_new r a 0 b j = r b j := by simp [pv_new, e]
      rw [e2]
      cases hrj : r b j with
      | zero => rfl
      | succ m =>
        have := x.2.2.2.2.1 b j hb' (by rw [hrj]; exact Nat.succ_ne_zero m)
        rw [hrj] at this
        exact pv_cv_ext hx (v := .ref (m + 1)) this
  · have e : b ≠ a := by omega
    rw [tyb e] at hb
    exact (x.2.2.1 b kb nb hb hb10).congr (by simp [pv_newρ, e]) (fun j => hh b e j) (fun j => by simp [pv_new, e])
  · by_cases e1 : b = a <;> by_cases e2 : c = a
    · rw [e1, e2]
    · rw [tyb e2] at hc1
      obtain ⟨kn, hkn⟩ := Option.ne_none_iff_exists'.mp hc1
      have := (x.2.1 c kn.1 kn.2 hkn hc').2.lt
      simp [pv_newρ, e1, e2] at he
      omega
    · rw [tyb e1] at hb1
      obtain ⟨kn, hkn⟩ := Option.ne_none_iff_exists'.mp hb1
      have := (x.2.1 b kn.1 kn.2 hkn hb).2.lt
      simp [pv_newρ, e1, e2] at he
      omega
    · rw [tyb e1] at hb1
      rw [tyb e2] at hc1
      simp [pv_newρ, e1, e2] at he
      exact x.2.2.2.1 b c hb hc' hb1 hc1 he
  · by_cases e : b = a
    · exact absurd (by simp [pv_new, e]) hne
    · have e2 : pv_new r a 0 b j = r b j := by simp [pv_new, e]
      rw [e2] at hne ⊢
      rw [tyb e] at hb
      have := x.2.2.2.2.1 b j hb hne
      exact (hx _ this).2
  · have e : (0 : Nat) ≠ a := by omega
    rw [tyb e]
    exact x.2.2.2.2.2
section PVCL
variable {Γ : pv_C} {d kc ks : Nat} {M : pv_M} {pc : Nat} {ls : List (Option Value)} {st : List Value} {ty : pv_T} {h : pv_H} {r : pv_R} {g : pv_G} {Q : pv_Q}
theorem pv_castB {a n idx : Nat} (hdg : decode M.2.1 pc = .ok (.checkcast idx, 3)) (hl : Cond.classLink M.1.cls idx "[B" ∈ pv_gt) (ha : 10 ≤ a) (hta : ty a = some (21, n)) (k : pv_E Γ d kc ks M (pc + 3) ls (.ref a :: st) ty h r g Q) : pv_E Γ d kc ks M pc ls (.ref a :: st) ty h r g Q := by
  intro p e R s m args below meth c' H locs cells slots ρ lz Z hK
  obtain ⟨hx, hb, hml, hown, hr, hlk, hnm, hts, henv, hdd⟩ := id hK.1
  rcases (hK.2.2.1.2.1 a 21 n hta ha).2 with ⟨y, -⟩ | ⟨-, -, cA, y1, y2, y3, y4⟩
  · omega
  have hnm' : s.vm.findClass "[B" = some cA := y3
  have hk := k _ _ _ _ _ _ _ _ _ _ _ _ _ ρ _ _ hK
  obtain ⟨a', rfl⟩ : ∃ a', a = a' + 1 := ⟨a - 1, by omega⟩
  intro T hT X
  obtain ⟨vm', X', st'⟩ := X.checkcastYes hx hown (hts _ hl) (by rw [hT]; exact y1) rfl hnm' (va_asg _ _) (g := F0 m pc lz ((Value.ref (a' + 1) :: st).map (pv_cv ρ))) rfl rfl (by rw [hb]; exact hdg)
  obtain ⟨t, a1, b1⟩ := hk (T.setVm vm') hT X'
  exact ⟨t, st' t a1, b1⟩
theorem pv_clone {a n : Nat} (nm : Nat) (hdg : decode M.2.1 pc = .ok (.invokevirtual 310, 3)) (hM : M.1.cls = RJ7) (ha : 10 ≤ a) (hta : ty a = some (21, n)) (hnm : 10 ≤ nm) (hf : ty nm = none) (hkc : 1 ≤ kc) (hks : n ≤ ks) (hs : (st.map fun v => v.category).sum ≤ 8) (hd : 1 ≤ d)
    (k : pv_E Γ d (kc - 1) (ks - n) M (pc + 3) ls (.ref nm :: st) (pv_newT ty nm 21 n) (pv_row h nm (h a)) (pv_new r nm 0) (pv_new g nm 0) Q) : pv_E Γ d kc ks M pc ls (.ref a :: st) ty h r g Q := by
  intro p e R s m args below meth c' H locs cells slots ρ lz Z hK
  obtain ⟨hx, hb, hml, hown, hr, hlk, hnm0, hts, henv, hdd, hdl⟩ := id hK.1
  have hR := hK.2.1
  rcases (hK.2.2.1.2.1 a 21 n hta ha).2 with ⟨y, -⟩ | ⟨-, -, cA, y1, y2, y3, y4⟩
  · omega
  have hnmB : s.vm.findClass "[B" = some cA := y3
  have hane : a ≠ nm := fun q => by rw [q, hf] at hta; cases hta
  have hx2 := pv_ext_new (ρ := ρ) (q := H.size) (k := 21) (n := n) hf
  have es : pv_newρ ρ nm H.size nm = H.size := by simp [pv_newρ]
  have hF : ∀ ρ' : Nat → Nat, (fun j => pv_eV ρ' (pv_row h nm (h a)) (pv_new r nm 0) (pv_new g nm 0) nm 21 j) = (fun j => pv_eV ρ h r g a 21 j) := fun ρ' => by
    funext j
    show (if (21 : Nat) < 23 then Value.int (pv_row h nm (h a) nm j) else _) = (if (21 : Nat) < 23 then Value.int (h a j) else _)
    rw [if_pos (by decide), if_pos (by decide), pv_row_at]
  obtain ⟨c0, t0', f1, f2, f3⟩ := Cond.castable_spec (va_Nw.use (A := args) rfl henv.2.2.2.2.2.2.2)
  cases hnmB.symm.trans f1
  have hsum : ((st.map (pv_cv ρ)).map fun v => v.category).sum ≤ 8 := by
    rw [List.map_map, show ((fun v : Value => v.category) ∘ pv_cv ρ) = (fun v => v.category) from funext fun v => pv_cv_cat ρ v]
    exact hs
  obtain ⟨a', rfl⟩ : ∃ a', a = a' + 1 := ⟨a - 1, by omega⟩
  rw [hM] at hown
  intro T hT X
  have hcellT : T.heap[ρ (a' + 1)]? = some (arrV cA n (fun j => pv_eV ρ h r g (a' + 1) 21 j)) := by rw [hT]; exact y1
  obtain ⟨-, kA, hkA, comp, hkind⟩ := State.isArrayOf_alike X.warmed.alike (y2 0 (fun _ => .null))
  obtain ⟨-, kS, hkS, compS, hkindS⟩ := y2 0 (fun _ => .null)
  obtain ⟨vm', X', st'⟩ := X.cloneArray hx hown (hts _ cln_l) (hts _ cln_m) (hts _ cln_n) (hts _ cln_i) (hts _ cln_s) (a := ρ (a' + 1)) (cell := arrV cA n (fun j => pv_eV ρ h r g (a' + 1) 21 j)) hcellT (fun k h => by cases h) (fun h => by cases h) hnmB f2 f3
    (fun i v hv => by
      have hk' : T.vm.classes[cA]? = some kA := hkA
      have hfit := va_fit (cA := cA) (n := n) (F := fun j => pv_eV ρ h r g (a' + 1) 21 j) (ty := pv_eT 21) (fun j hj => y4 j hj) i v hv
      simpa [State.fitsSlot, State.slotType?, hk', hkind, arrV] using hfit)
    (g := F0 m pc lz ((Value.ref (a' + 1) :: st).map (pv_cv ρ))) rfl (by rw [hml]; exact hK.2.2.2.1.1) rfl (by rw [hb]; exact hdg) (by omega) (by show 2 * 0 + _ + 14 ≤ _; have := hsum; omega) (by omega) (by rw [arrV_size]; omega) (hloader := Vm.clonesLoader_of_array hkS hkindS)
  rw [arrV_size] at X'
  generalize hH1 : H.push (arrV cA n (fun j => pv_eV ρ h r g (a' + 1) 21 j)) = H1
  have z1 : H1.size = H.size + 1 := by rw [← hH1, Array.size_push]
  have e1 : H1[H.size]? = some (arrV cA n (fun j => pv_eV ρ h r g (a' + 1) 21 j)) := by rw [← hH1, Array.getElem?_push_size]
  have o1 : ∀ q : Nat, q < H.size → H1[q]? = H[q]? := fun q hq => by rw [← hH1, Array.getElem?_push, if_neg (Nat.ne_of_lt hq)]
  obtain ⟨nm', rfl⟩ : ∃ x, nm = x + 1 := ⟨nm - 1, by omega⟩
  have kk := k p e R s m args below meth c' H1 locs (cells + 1) (slots + n) (pv_newρ ρ (nm' + 1) H.size) lz Z ⟨hK.1, ⟨by omega, by omega⟩, hK.2.2.1.madeF hnm hf z1 o1 (fun b hb j => by rw [pv_row_ne hb]) (Or.inr ⟨by decide, by decide, cA, ?_, y2, y3, fun j hj => ?_⟩), hK.2.2.2.1.ext hx2 hK.2.2.2.2.2.1, pv_wst_c.mpr ⟨by show pv_newT ty (nm' + 1) 21 n (nm' + 1) ≠ none; simp [pv_newT], (pv_wst_c.mp hK.2.2.2.2.1).2.ext hx2⟩, hK.2.2.2.2.2.1.ext hx2, hK.2.2.2.2.2.2.1, hK.2.2.2.2.2.2.2.ext hx2⟩
  · rw [List.map_cons, pv_map_ext hx2 (pv_wst_c.mp hK.2.2.2.2.1).2] at kk
    have e3 : pv_cv (pv_newρ ρ (nm' + 1) H.size) (.ref (nm' + 1)) = .ref H.size := congrArg Value.ref es
    rw [e3] at kk
    obtain ⟨t, b1, b2⟩ := kk ((T.setVm vm').pushCell (arrV cA n (fun j => pv_eV ρ h r g (a' + 1) 21 j))) (by rw [← hH1, ← hT]; rfl) X'
    refine ⟨t, st' t ?_, b2⟩
    rw [hT]
    exact b1
  · rw [es, hF, e1]
  · have := congrFun (hF (pv_newρ ρ (nm' + 1) H.size)) j
    have h2 : pv_eV (pv_newρ ρ (nm' + 1) H.size) (pv_row h (nm' + 1) (h (a' + 1))) (pv_new r (nm' + 1) 0) (pv_new g (nm' + 1) 0) (nm' + 1) 21 j = pv_eV ρ h r g (a' + 1) 21 j := this
    rw [h2]
    exact y4 j hj
end PVCL
