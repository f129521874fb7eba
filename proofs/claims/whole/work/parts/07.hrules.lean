def pv_fld (own : String) (idx c j : Nat) : Prop := ∃ q : vw_C, vwCl[c]? = some q ∧ j < q.2.2 ∧ Cond.fieldLink own idx (q.2.1 j).1 (q.2.1 j).2.1 (q.2.1 j).2.2.1 ∈ pv_gt
def pv_fin (M : pv_M) (c j : Nat) : Prop := ∃ q : vw_C, vwCl[c]? = some q ∧ ((q.2.1 j).2.2.2 = false ∨ ((q.2.1 j).2.2.2 = true ∧ M.1.name = "<init>" ∧ (q.2.1 j).1 = M.1.cls))
theorem pv_c13 {c : Nat} {q : vw_C} (h : vwCl[c]? = some q) : c < 13 := (List.getElem?_eq_some_iff.mp h).1
section PVH
variable {Γ : pv_C} {d kc ks : Nat} {M : pv_M} {pc : Nat} {ls : List (Option Value)} {st : List Value} {ty : pv_T} {h : pv_H} {r : pv_R} {g : pv_G} {Q : pv_Q}
theorem pv_getV {a n idx : Nat} (c j : Nat) {v : Value} (hdg : decode M.2.1 pc = .ok (.getfield idx, 3)) (hf : pv_fld M.1.cls idx c j) (hta : ty a = some (c, n)) (hv : ∀ ρ, pv_fV ρ h r a c j = pv_cv ρ v) (hw : (∀ b i, ty b ≠ none → r b i ≠ 0 → ty (r b i) ≠ none) → pv_wv ty v)
    (k : pv_E Γ d kc ks M (pc + 3) ls (v :: st) ty h r g Q) : pv_E Γ d kc ks M pc ls (.ref a :: st) ty h r g Q := by
  intro p e R s m args below meth c' H locs cells slots ρ lz Z hK
  obtain ⟨hx, hb, hml, hown, hr, hlk, hnm, hts, henv, hdd⟩ := hK.1
  obtain ⟨q, hq, hj, hlink⟩ := hf
  obtain ⟨ha, q', hq', cell, q1, q2, q3, q4⟩ := pv_obj hK.2.2.1 hta (pv_c13 hq)
  cases hq.symm.trans hq'
  obtain ⟨hS, hfc, kC, hkC, hkind⟩ := henv.1 c _ hq
  obtain ⟨cf, kf, fi, f, hi, hsl⟩ := hS j hj
  obtain ⟨a', rfl⟩ : ∃ a', a = a' + 1 := ⟨a - 1, by omega⟩
  refine W.getf hx hb hown (hts _ hlink) hi (u_facts hfc hkC (u_lays hts (pv_cls hq).1 hj) hi).1 q1 (by rw [q3]; exact fun z => by cases z) (v := pv_cv ρ v) ?_ rfl rfl hdg
    (k _ _ _ _ _ _ _ _ _ _ _ _ _ ρ _ _ ⟨hK.1, hK.2.1, hK.2.2.1, hK.2.2.2.1, pv_wst_c.mpr ⟨hw hK.2.2.1.2.2.2.2.1, (pv_wst_c.mp hK.2.2.2.2.1).2⟩, hK.2.2.2.2.2⟩)
  rw [hsl, q4 j hj]
  exact congrArg some (hv ρ)
theorem pv_getI {a n idx : Nat} (c j : Nat) (hdg : decode M.2.1 pc = .ok (.getfield idx, 3)) (hf : pv_fld M.1.cls idx c j) (hR : pv_isR (pv_fT c j) = false) (hta : ty a = some (c, n)) (k : pv_E Γ d kc ks M (pc + 3) ls (.int (h a j) :: st) ty h r g Q) : pv_E Γ d kc ks M pc ls (.ref a :: st) ty h r g Q :=
  pv_getV (v := .int (h a j)) c j hdg hf hta (fun ρ => by simp [pv_fV, hR, pv_cv]) (fun _ => trivial) k
theorem pv_getR {a n idx : Nat} (c j : Nat) (hdg : decode M.2.1 pc = .ok (.getfield idx, 3)) (hf : pv_fld M.1.cls idx c j) (hR : pv_isR (pv_fT c j) = true) (hta : ty a = some (c, n)) (k : pv_E Γ d kc ks M (pc + 3) ls (.ref (r a j) :: st) ty h r g Q) : pv_E Γ d kc ks M pc ls (.ref a :: st) ty h r g Q :=
  pv_getV c j hdg hf hta (fun ρ => by simp [pv_fV, hR]) (fun hc => by
    cases hz : r a j with
    | zero => trivial
    | succ m =>
      have := hc a j (by rw [hta]; exact Option.some_ne_none _) (by rw [hz]; exact Nat.succ_ne_zero m)
      rw [hz] at this
      exact this) k
theorem pv_putV {a n idx : Nat} (c j : Nat) {v : Value} {h1 : pv_H} {r1 : pv_R} (hdg : decode M.2.1 pc = .ok (.putfield idx, 3)) (hf : pv_fld M.1.cls idx c j) (hfin : pv_fin M c j) (hta : ty a = some (c, n)) (hfit : ∀ ρ, narrow (pv_fT c j) (pv_cv ρ v) = pv_cv ρ v ∧ fits (pv_fT c j) (pv_cv ρ v) = true)
    (hh : ∀ b, b ≠ a → ∀ i, h1 b i = h b i) (hr1 : ∀ b, b ≠ a → ∀ i, r1 b i = r b i) (hv : ∀ ρ i, pv_fV ρ h1 r1 a c i = if i = j then pv_cv ρ v else pv_fV ρ h r a c i) (hcl : pv_wv ty v → (∀ b i, ty b ≠ none → r b i ≠ 0 → ty (r b i) ≠ none) → ∀ i, r1 a i ≠ 0 → ty (r1 a i) ≠ none)
    (k : pv_E Γ d kc ks M (pc + 3) ls st ty h1 r1 g Q) : pv_E Γ d kc ks M pc ls (v :: .ref a :: st) ty h r g Q := by
  intro p e R s m args below meth c' H locs cells slots ρ lz Z hK
  obtain ⟨hx, hb, hml, hown, hr, hlk, hnm, hts, henv, hdd⟩ := hK.1
  obtain ⟨q, hq, hj, hlink⟩ := hf
  obtain ⟨ha, q', hq', cell, q1, q2, q3, q4⟩ := pv_obj hK.2.2.1 hta (pv_c13 hq)
  cases hq.symm.trans hq'
  obtain ⟨q', hq', hfin⟩ := hfin
  cases hq.symm.trans hq'
  have hKn := henv.1 c _ hq
  obtain ⟨hS, hfc, kC, hkC, hkind⟩ := id hKn
  obtain ⟨cf, kf, fi, f, hi, hsl⟩ := hS j hj
  obtain ⟨hin, hty, hnm'⟩ := pv_cls hq
  obtain ⟨hn, hfi⟩ := hfit ρ
  have hst := (u_facts hfc hkC (u_lays hts hin hj) hi).1
  have hd := hty j hj
  have hap : ∀ x y, x < q.2.2 → y < q.2.2 → x ≠ y → ((pv_D Γ).2 c) x ≠ ((pv_D Γ).2 c) y := by
    intro x y hx' hy hne
    obtain ⟨_, _, _, fa, hia, ea⟩ := hS x hx'
    obtain ⟨_, _, _, fb, hib, eb⟩ := hS y hy
    rw [← ea, ← eb]
    refine u_apart (u_lays hts hin hx') (u_lays hts hin hy) hia hib ?_
    rw [(State.fieldFound?_type hia (hty x hx')).1, (State.fieldFound?_type hib (hty y hy)).1]
    exact hnm' x hx' y hy hne
  have h6 := u_fits hfc hkC hkind (u_lays hts hin hj) hi hd hn hfi
  have hlay := hts _ (hin _ (u_in_lay hj))
  have hff : hasFlag f.accessFlags Acc.final = false ∨ (m.cls = cf ∧ meth.name = "<init>") := by
    rcases hfin with h0 | ⟨h0, h2, h3⟩
    · unfold u_lay at hlay
      rw [if_neg (by rw [h0]; decide)] at hlay
      exact Or.inl (u_store hfc hkC hkind hlay hi hd hn hfi).1
    · unfold u_lay at hlay
      rw [if_pos h0] at hlay
      refine Or.inr ⟨?_, hnm.trans h2⟩
      obtain ⟨_, _, c', _, _, _, -, -, hf', -, -, -, hown2, -⟩ := Cond.laysFinal_spec hlay
      have e1 : c' = cf := by have := hi.symm.trans hf'; simp at this; exact this.1.symm
      rw [h3] at hown2
      rw [← e1]; exact Option.some.inj (hown.symm.trans hown2)
  obtain ⟨a', rfl⟩ : ∃ a', a = a' + 1 := ⟨a - 1, by omega⟩
  have hal : ρ (a' + 1) < H.size := (Array.getElem?_eq_some_iff.mp q1).1
  have hbase := (hK.2.2.1.2.1 _ _ _ hta ha).1
  refine W.putf hx hb hown (hts _ hlink) hi hst hff q1 (by rw [q3]; exact fun z => by cases z) (by rw [hsl]; exact k2_hasslot (q4 j hj)) h6.1 (by rw [q3, q2]; exact h6.2) rfl rfl hdg
    (k _ _ _ _ _ _ _ _ _ _ _ _ _ ρ _ _ ⟨hK.1, hK.2.1, ?_, hK.2.2.2.1, (pv_wst_c.mp (pv_wst_c.mp hK.2.2.2.2.1).2).2, hK.2.2.2.2.2.1, ?_, hK.2.2.2.2.2.2.2⟩)
  · refine hK.2.2.1.upd ha hta (by simp) (fun x hx' => by simp [Array.getElem?_setIfInBounds, Ne.symm hx']) hh hr1 (fun _ _ _ => rfl) (Or.inl ⟨pv_c13 hq, q, hq, ?_⟩) (hcl (pv_wst_c.mp hK.2.2.2.2.1).1 hK.2.2.1.2.2.2.2.1)
    rw [hsl]
    refine t_OB.to (V := updV (fun i => pv_fV ρ h r (a' + 1) c i) j (pv_cv ρ v)) ⟨cell.setSlot (((pv_D Γ).2 c) j) (pv_cv ρ v), by simp [Array.getElem?_setIfInBounds, hal], q2, q3, t_set q4 hap hj _⟩ (fun i _ => ?_)
    rw [hv]
    rfl
  · intro x hx'
    rcases List.mem_append.mp hx' with h0 | h0
    · exact hK.2.2.2.2.2.2.1 x h0
    · rw [List.mem_singleton.mp h0]
      exact hbase
theorem pv_putI {a n idx : Nat} (c j : Nat) {x : Int32} (hdg : decode M.2.1 pc = .ok (.putfield idx, 3)) (hf : pv_fld M.1.cls idx c j) (hfin : pv_fin M c j) (hT : pv_fT c j = .int ∨ (pv_fT c j = .boolean ∧ (x = 0 ∨ x = 1))) (hta : ty a = some (c, n)) (k : pv_E Γ d kc ks M (pc + 3) ls st ty (pv_up h a j x) r g Q) : pv_E Γ d kc ks M pc ls (.int x :: .ref a :: st) ty h r g Q := by
  have hR : pv_isR (pv_fT c j) = false := by rcases hT with e | ⟨e, -⟩ <;> rw [e] <;> rfl
  refine pv_putV c j hdg hf hfin hta (fun ρ => ?_) (fun b hb i => pv_up_a hb) (fun _ _ _ => rfl) (fun ρ i => ?_) (fun _ hc i hi => hc a i (by rw [hta]; exact Option.some_ne_none _) hi) k
  · rcases hT with e | ⟨e, rfl | rfl⟩ <;> rw [e] <;> exact ⟨rfl, rfl⟩
  · by_cases e : i = j
    · subst e
      rw [if_pos rfl]
      simp [pv_fV, hR, pv_up_same, pv_cv]
    · rw [if_neg e]
      simp only [pv_fV, pv_up_j e]
theorem pv_putR {a n idx : Nat} (c j : Nat) {x : Nat} (hdg : decode M.2.1 pc = .ok (.putfield idx, 3)) (hf : pv_fld M.1.cls idx c j) (hfin : pv_fin M c j) (hR : pv_isR (pv_fT c j) = true) (hta : ty a = some (c, n)) (k : pv_E Γ d kc ks M (pc + 3) ls st ty h (pv_up r a j x) g Q) : pv_E Γ d kc ks M pc ls (.ref x :: .ref a :: st) ty h r g Q := by
  refine pv_putV c j hdg hf hfin hta (fun ρ => ?_) (fun _ _ _ => rfl) (fun b hb i => pv_up_a hb) (fun ρ i => ?_) (fun hv hc i hi => ?_) k
  · cases hT : pv_fT c j with
    | object _ => cases x <;> exact ⟨rfl, rfl⟩
    | array _ => cases x <;> exact ⟨rfl, rfl⟩
    | _ => rw [hT] at hR; cases hR
  · by_cases e : i = j
    · subst e
      rw [if_pos rfl]
      simp [pv_fV, hR, pv_up_same]
    · rw [if_neg e]
      simp only [pv_fV, pv_up_j e]
  · by_cases e : i = j
    · subst e
      rw [pv_up_same] at hi ⊢
      cases x with
      | zero => exact absurd rfl hi
      | succ m => exact hv
    · rw [pv_up_j e] at hi ⊢
      exact hc a i (by rw [hta]; exact Option.some_ne_none _) hi
theorem pv_nz {Γ : pv_C} {ρ : Nat → Nat} {U : State} {H : Heap} {ty : pv_T} {h : pv_H} {r : pv_R} {g : pv_G} {a : Nat} {kn : Nat × Nat} (x : pv_Rep Γ ρ U H ty h r g) (hta : ty a = some kn) : ∃ a', a = a' + 1 := by
  cases a with
  | zero => rw [x.2.2.2.2.2] at hta; cases hta
  | succ m => exact ⟨m, rfl⟩
theorem pv_inlt {i : Int32} {n : Nat} (h : vp_in i n) : i.toNatClampNeg < n := Nat.not_le.mp fun q => h (Or.inr q)
/-- array loads -/
theorem pv_iald {a n : Nat} {i : Int32} (hdg : decode M.2.1 pc = .ok (.iaload, 1)) (hta : ty a = some (20, n)) (hin : vp_in i n) (k : pv_E Γ d kc ks M (pc + 1) ls (.int (h a i.toNatClampNeg) :: st) ty h r g Q) : pv_E Γ d kc ks M pc ls (.int i :: .ref a :: st) ty h r g Q := by
  intro p e R s m args below meth c' H locs cells slots ρ lz Z hK
  obtain ⟨cell, z1, z2, z3, z4, z5, z6⟩ := pv_arr hK.2.2.1 hK.1.2.2.2.2.2.2.2.2.1 hta (by decide) (by decide)
  obtain ⟨a', rfl⟩ := pv_nz hK.2.2.1 hta
  exact W.iald hK.1.1 hK.1.2.1 z1 z2 z3 (fun q => hin (q.imp id (fun q => Nat.le_trans z4 q))) (z6 _ (pv_inlt hin)) rfl rfl hdg (k _ _ _ _ _ _ _ _ _ _ _ _ _ ρ _ _ ⟨hK.1, hK.2.1, hK.2.2.1, hK.2.2.2.1, pv_wst_c.mpr ⟨trivial, (pv_wst_c.mp (pv_wst_c.mp hK.2.2.2.2.1).2).2⟩, hK.2.2.2.2.2⟩)
theorem pv_bald {a n : Nat} {i : Int32} (hdg : decode M.2.1 pc = .ok (.baload, 1)) (hta : ty a = some (21, n)) (hin : vp_in i n) (k : pv_E Γ d kc ks M (pc + 1) ls (.int (h a i.toNatClampNeg) :: st) ty h r g Q) : pv_E Γ d kc ks M pc ls (.int i :: .ref a :: st) ty h r g Q := by
  intro p e R s m args below meth c' H locs cells slots ρ lz Z hK
  obtain ⟨cell, z1, z2, z3, z4, z5, z6⟩ := pv_arr hK.2.2.1 hK.1.2.2.2.2.2.2.2.2.1 hta (by decide) (by decide)
  obtain ⟨a', rfl⟩ := pv_nz hK.2.2.1 hta
  exact W.bald hK.1.1 hK.1.2.1 z1 z2 z3 (fun q => hin (q.imp id (fun q => Nat.le_trans z4 q))) (z6 _ (pv_inlt hin)) rfl rfl hdg (k _ _ _ _ _ _ _ _ _ _ _ _ _ ρ _ _ ⟨hK.1, hK.2.1, hK.2.2.1, hK.2.2.2.1, pv_wst_c.mpr ⟨trivial, (pv_wst_c.mp (pv_wst_c.mp hK.2.2.2.2.1).2).2⟩, hK.2.2.2.2.2⟩)
theorem pv_zald {a n : Nat} {i : Int32} (hdg : decode M.2.1 pc = .ok (.baload, 1)) (hta : ty a = some (22, n)) (hin : vp_in i n) (k : pv_E Γ d kc ks M (pc + 1) ls (.int (h a i.toNatClampNeg) :: st) ty h r g Q) : pv_E Γ d kc ks M pc ls (.int i :: .ref a :: st) ty h r g Q := by
  intro p e R s m args below meth c' H locs cells slots ρ lz Z hK
  obtain ⟨cell, z1, z2, z3, z4, z5, z6⟩ := pv_arr hK.2.2.1 hK.1.2.2.2.2.2.2.2.2.1 hta (by decide) (by decide)
  obtain ⟨a', rfl⟩ := pv_nz hK.2.2.1 hta
  exact W.zald hK.1.1 hK.1.2.1 z1 z2 z3 (fun q => hin (q.imp id (fun q => Nat.le_trans z4 q))) (z6 _ (pv_inlt hin)) rfl rfl hdg (k _ _ _ _ _ _ _ _ _ _ _ _ _ ρ _ _ ⟨hK.1, hK.2.1, hK.2.2.1, hK.2.2.2.1, pv_wst_c.mpr ⟨trivial, (pv_wst_c.mp (pv_wst_c.mp hK.2.2.2.2.1).2).2⟩, hK.2.2.2.2.2⟩)
theorem pv_lald {a n : Nat} {i : Int32} (hdg : decode M.2.1 pc = .ok (.laload, 1)) (hta : ty a = some (23, n)) (hin : vp_in i n) (k : pv_E Γ d kc ks M (pc + 1) ls (.long (g a i.toNatClampNeg) :: st) ty h r g Q) : pv_E Γ d kc ks M pc ls (.int i :: .ref a :: st) ty h r g Q := by
  intro p e R s m args below meth c' H locs cells slots ρ lz Z hK
  obtain ⟨cell, z1, z2, z3, z4, z5, z6⟩ := pv_arr hK.2.2.1 hK.1.2.2.2.2.2.2.2.2.1 hta (by decide) (by decide)
  obtain ⟨a', rfl⟩ := pv_nz hK.2.2.1 hta
  exact W.lald hK.1.1 hK.1.2.1 z1 z2 z3 (fun q => hin (q.imp id (fun q => Nat.le_trans z4 q))) (z6 _ (pv_inlt hin)) rfl rfl hdg (k _ _ _ _ _ _ _ _ _ _ _ _ _ ρ _ _ ⟨hK.1, hK.2.1, hK.2.2.1, hK.2.2.2.1, pv_wst_c.mpr ⟨trivial, (pv_wst_c.mp (pv_wst_c.mp hK.2.2.2.2.1).2).2⟩, hK.2.2.2.2.2⟩)
theorem pv_aald {a n k0 : Nat} {i : Int32} (hdg : decode M.2.1 pc = .ok (.aaload, 1)) (hta : ty a = some (k0, n)) (hk : 24 ≤ k0 ∧ k0 ≤ 27) (hin : vp_in i n) (k : pv_E Γ d kc ks M (pc + 1) ls (.ref (r a i.toNatClampNeg) :: st) ty h r g Q) : pv_E Γ d kc ks M pc ls (.int i :: .ref a :: st) ty h r g Q := by
  intro p e R s m args below meth c' H locs cells slots ρ lz Z hK
  obtain ⟨cell, z1, z2, z3, z4, z5, z6⟩ := pv_arr hK.2.2.1 hK.1.2.2.2.2.2.2.2.2.1 hta (by omega) hk.2
  have hta' : ty a ≠ none := by rw [hta]; exact Option.some_ne_none _
  obtain ⟨a', rfl⟩ := pv_nz hK.2.2.1 hta
  have z7 := z6 _ (pv_inlt hin)
  unfold pv_eV at z7
  rw [if_neg (by omega), if_neg (by omega)] at z7
  refine W.aald hK.1.1 hK.1.2.1 z1 z2 (by rcases (show k0 = 24 ∨ k0 = 25 ∨ k0 = 26 ∨ k0 = 27 by omega) with rfl | rfl | rfl | rfl <;> rfl) z3 (fun q => hin (q.imp id (fun q => Nat.le_trans z4 q))) z7 rfl rfl hdg (k _ _ _ _ _ _ _ _ _ _ _ _ _ ρ _ _ ⟨hK.1, hK.2.1, hK.2.2.1, hK.2.2.2.1, pv_wst_c.mpr ⟨?_, (pv_wst_c.mp (pv_wst_c.mp hK.2.2.2.2.1).2).2⟩, hK.2.2.2.2.2⟩)
  cases hz : r (a' + 1) i.toNatClampNeg with
  | zero => trivial
  | succ b =>
    have := hK.2.2.1.2.2.2.2.1 (a' + 1) i.toNatClampNeg hta' (by rw [hz]; exact Nat.succ_ne_zero b)
    rw [hz] at this
    exact this
theorem pv_alen {a n k0 : Nat} (hdg : decode M.2.1 pc = .ok (.arraylength, 1)) (hta : ty a = some (k0, n)) (hk : 20 ≤ k0 ∧ k0 ≤ 27) (k : pv_E Γ d kc ks M (pc + 1) ls (.int (nI n) :: st) ty h r g Q) : pv_E Γ d kc ks M pc ls (.ref a :: st) ty h r g Q := by
  intro p e R s m args below meth c' H locs cells slots ρ lz Z hK
  obtain ⟨cell, z1, z2, z3, z4, z5, z6⟩ := pv_arr hK.2.2.1 hK.1.2.2.2.2.2.2.2.2.1 hta hk.1 hk.2
  obtain ⟨a', rfl⟩ := pv_nz hK.2.2.1 hta
  exact W.alen hK.1.1 hK.1.2.1 z1 z2 z5 rfl rfl hdg (k _ _ _ _ _ _ _ _ _ _ _ _ _ ρ _ _ ⟨hK.1, hK.2.1, hK.2.2.1, hK.2.2.2.1, pv_wst_c.mpr ⟨trivial, (pv_wst_c.mp hK.2.2.2.2.1).2⟩, hK.2.2.2.2.2⟩)
end PVH
