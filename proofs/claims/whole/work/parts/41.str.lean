/-! text constants: their fields, the static COMPACT_STRINGS, ldc -/
section PVS
variable {Γ : pv_C} {d kc ks : Nat} {M : pv_M} {pc : Nat} {ls : List (Option Value)} {st : List Value} {ty : pv_T} {h : pv_H} {r : pv_R} {g : pv_G} {Q : pv_Q}
theorem pv_S30 {ρ : Nat → Nat} {U : State} {H : Heap} (x : pv_Rep Γ ρ U H ty h r g) {a n : Nat} (hta : ty a = some (30, n)) : ∃ i, i < 2 ∧ a = 2 + i ∧ ρ a = pv_aK Γ i ∧ r a 0 = 4 + i ∧ ρ (4 + i) = pv_aV Γ i ∧ ty (4 + i) = some (21, (pv_str i).length) ∧ ∀ j, j < (pv_str i).length → h (4 + i) j = (pv_str i).getD j 0 := by
  by_cases ha : 10 ≤ a
  · rcases (x.2.1 a 30 n hta ha).2 with ⟨y, -⟩ | ⟨-, y, -⟩ <;> omega
  · rcases x.2.2.1 a 30 n hta (by omega) with ⟨-, y, -⟩ | ⟨i, hi, rfl, -, y1, y2⟩ | ⟨i, -, -, y, -⟩
    · omega
    · have hne : ty (4 + i) ≠ none := by
        rw [← y2]
        exact x.2.2.2.2.1 (2 + i) 0 (by rw [hta]; exact Option.some_ne_none _) (by rw [y2]; omega)
      obtain ⟨⟨k', n'⟩, hk⟩ := Option.ne_none_iff_exists'.mp hne
      rcases x.2.2.1 (4 + i) k' n' hk (by omega) with ⟨y, -⟩ | ⟨i', y3, y4, -⟩ | ⟨i', y3, y4, rfl, rfl, y5, y6⟩
      · omega
      · omega
      · have : i' = i := by omega
        subst this
        exact ⟨i', hi, rfl, y1, y2, y5, hk, y6⟩
    · omega
theorem pv_SH {ρ : Nat → Nat} {U : State} {H : Heap} (x : pv_Rep Γ ρ U H ty h r g) (hE : pv_Env Γ U) : vk_S 2 [6, 5] [pv_str 0, pv_str 1] (pv_aK Γ) (pv_aV Γ) (fun q => (pv_h0 Γ).size ≤ q) U H := hE.2.2.2.2.1.kept (fun a ha _ => x.1.2 a ha)
theorem pv_getSv {a n idx : Nat} (hdg : decode M.2.1 pc = .ok (.getfield idx, 3)) (hl : Cond.fieldLink M.1.cls idx "java/lang/String" "value" "[B" ∈ pv_gt) (hta : ty a = some (30, n)) (k : pv_E Γ d kc ks M (pc + 3) ls (.ref (r a 0) :: st) ty h r g Q) : pv_E Γ d kc ks M pc ls (.ref a :: st) ty h r g Q := by
  intro p e R s m args below meth c' H locs cells slots ρ lz Z hK
  obtain ⟨hx, hb, hml, hown, hr, hlk, hnm, hts, henv, hdd⟩ := hK.1
  obtain ⟨i, hi, rfl, e1, e2, e3, e4, -⟩ := pv_S30 hK.2.2.1 hta
  obtain ⟨cf, kf, fi, f, cell, h1, h2, h3, h4, h5, h6⟩ := ((pv_SH hK.2.2.1 henv).1 i hi).2.2.1
  have e5 : pv_cv ρ (.ref (2 + i)) = .ref (pv_aK Γ i) := by rw [← e1, Nat.add_comm 2 i]; rfl
  have e6 : pv_cv ρ (.ref (r (2 + i) 0)) = .ref (pv_aV Γ i) := by rw [e2, ← e3, Nat.add_comm 4 i]; rfl
  have hk := k _ _ _ _ _ _ _ _ _ _ _ _ _ ρ _ _ ⟨hK.1, hK.2.1, hK.2.2.1, hK.2.2.2.1, pv_wst_c.mpr ⟨by rw [e2, Nat.add_comm 4 i]; show ty (i + 3 + 1) ≠ none; rw [show i + 3 + 1 = 4 + i by omega, e4]; exact Option.some_ne_none _, (pv_wst_c.mp hK.2.2.2.2.1).2⟩, hK.2.2.2.2.2⟩
  rw [List.map_cons, e6] at hk
  rw [List.map_cons, e5]
  exact W.getf hx hb hown (hts _ hl) h1 h2 h3 h4 (v := .ref (pv_aV Γ i)) h5 rfl rfl hdg hk
theorem pv_getSc {a n idx : Nat} (hdg : decode M.2.1 pc = .ok (.getfield idx, 3)) (hl : Cond.fieldLink M.1.cls idx "java/lang/String" "coder" "B" ∈ pv_gt) (hta : ty a = some (30, n)) (k : pv_E Γ d kc ks M (pc + 3) ls (.int 0 :: st) ty h r g Q) : pv_E Γ d kc ks M pc ls (.ref a :: st) ty h r g Q := by
  intro p e R s m args below meth c' H locs cells slots ρ lz Z hK
  obtain ⟨hx, hb, hml, hown, hr, hlk, hnm, hts, henv, hdd⟩ := hK.1
  obtain ⟨i, hi, rfl, e1, e2, e3, e4, -⟩ := pv_S30 hK.2.2.1 hta
  obtain ⟨cf, kf, fi, f, cell, h1, h2, h3, h4, h5, h6⟩ := ((pv_SH hK.2.2.1 henv).1 i hi).2.1
  have e5 : pv_cv ρ (.ref (2 + i)) = .ref (pv_aK Γ i) := by rw [← e1, Nat.add_comm 2 i]; rfl
  have hk := k _ _ _ _ _ _ _ _ _ _ _ _ _ ρ _ _ ⟨hK.1, hK.2.1, hK.2.2.1, hK.2.2.2.1, pv_wst_c.mpr ⟨trivial, (pv_wst_c.mp hK.2.2.2.2.1).2⟩, hK.2.2.2.2.2⟩
  rw [List.map_cons, e5]
  exact W.getf hx hb hown (hts _ hl) h1 h2 h3 h4 (v := .int 0) h5 rfl rfl hdg hk
theorem pv_getCS {idx : Nat} (hdg : decode M.2.1 pc = .ok (.getstatic idx, 3)) (hl : Cond.fieldLink M.1.cls idx "java/lang/String" "COMPACT_STRINGS" "Z" ∈ pv_gt) (k : pv_E Γ d kc ks M (pc + 3) ls (.int 1 :: st) ty h r g Q) : pv_E Γ d kc ks M pc ls st ty h r g Q := by
  intro p e R s m args below meth c' H locs cells slots ρ lz Z hK
  obtain ⟨hx, hb, hml, hown, hr, hlk, hnm, hts, henv, hdd⟩ := hK.1
  obtain ⟨cf, kf, fi, f, a, cell, h1, h2, h3, h4, h5, h6, h7, h8⟩ := henv.2.2.2.1.kept (H1 := H) (fun a ha _ => hK.2.2.1.1.2 a ha)
  have hk := k _ _ _ _ _ _ _ _ _ _ _ _ _ ρ _ _ ⟨hK.1, hK.2.1, hK.2.2.1, hK.2.2.2.1, pv_wst_c.mpr ⟨trivial, hK.2.2.2.2.1⟩, hK.2.2.2.2.2⟩
  exact W.gets hx hb hown (hts _ hl) h1 h2 h3 h4 h5 (fun e => by rw [e] at h6; cases h6) h7 rfl hdg hk
theorem pv_ldcS (i : Nat) {n idx : Nat} (hi : i < 2) (hdg : decode M.2.1 pc = .ok (.ldc idx, 2)) (hM : M.1.cls = RX9) (hx9 : idx = if i = 0 then 19 else 38) (hta : ty (2 + i) = some (30, n)) (k : pv_E Γ d kc ks M (pc + 2) ls (.ref (2 + i) :: st) ty h r g Q) : pv_E Γ d kc ks M pc ls st ty h r g Q := by
  intro p e R s m args below meth c' H locs cells slots ρ lz Z hK
  obtain ⟨hx, hb, hml, hown, hr, hlk, hnm, hts, henv, hdd⟩ := hK.1
  obtain ⟨i', hi', e0, e1, e2, e3, e4, -⟩ := pv_S30 hK.2.2.1 hta
  have : i' = i := by omega
  subst this
  have hR := henv.2.2.2.2.2.1 i' hi'
  have e5 : pv_cv ρ (.ref (2 + i')) = .ref (pv_aK Γ i') := by rw [← e1, Nat.add_comm 2 i']; rfl
  have hk := k _ _ _ _ _ _ _ _ _ _ _ _ _ ρ _ _ ⟨hK.1, hK.2.1, hK.2.2.1, hK.2.2.2.1, pv_wst_c.mpr ⟨by rw [Nat.add_comm 2 i']; show ty (i' + 1 + 1) ≠ none; rw [show i' + 1 + 1 = 2 + i' by omega, hta]; exact Option.some_ne_none _, hK.2.2.2.2.1⟩, hK.2.2.2.2.2⟩
  rw [List.map_cons, e5] at hk
  rw [hM] at hown
  rw [hx9] at hdg
  exact va_ldcS hx hb hown hR hdg hk
/-- what is known of the constants, said of the named state alone -/
theorem pv_Sof {i n : Nat} (hi : i < 2) (hta : ty (2 + i) = some (30, n)) (k : r (2 + i) 0 = 4 + i → ty (4 + i) = some (21, (pv_str i).length) → (∀ j, j < (pv_str i).length → h (4 + i) j = (pv_str i).getD j 0) → pv_E Γ d kc ks M pc ls st ty h r g Q) : pv_E Γ d kc ks M pc ls st ty h r g Q := by
  intro p e R s m args below meth c' H locs cells slots ρ lz Z hK
  obtain ⟨i', hi', e0, e1, e2, e3, e4, e5⟩ := pv_S30 hK.2.2.1 hta
  have : i' = i := by omega
  subst this
  exact k e2 e4 e5 p e R s m args below meth c' H locs cells slots ρ lz Z hK
end PVS
