theorem mth_max : Cond.code Lib.Math.max.name Lib.Math.max.code 2 (some .int) ∈ pv_gt := pv_gt_in (List.mem_of_getElem? (i := 457) (by decide +kernel)) rfl
theorem mts_max : Cond.static Lib.Math.max.name ∈ pv_gt := pv_gt_in (List.mem_of_getElem? (i := 456) (by decide +kernel)) rfl
theorem mth_min : Cond.code Lib.Math.min.name Lib.Math.min.code 2 (some .int) ∈ pv_gt := pv_gt_in (List.mem_of_getElem? (i := 489) (by decide +kernel)) rfl
theorem mts_min : Cond.static Lib.Math.min.name ∈ pv_gt := pv_gt_in (List.mem_of_getElem? (i := 488) (by decide +kernel)) rfl
theorem mth_abs : Cond.code Lib.Math.abs.name Lib.Math.abs.code 1 (some .int) ∈ pv_gt := pv_gt_in (List.mem_of_getElem? (i := 473) (by decide +kernel)) rfl
theorem mts_abs : Cond.static Lib.Math.abs.name ∈ pv_gt := pv_gt_in (List.mem_of_getElem? (i := 472) (by decide +kernel)) rfl
theorem mti : Cond.initialized "java/lang/Math" ∈ pv_gt := pv_gt_in (List.mem_of_getElem? (i := 68) (by decide +kernel)) rfl
section PVM
variable {Γ : pv_C} {d kc ks : Nat} {M : pv_M} {pc : Nat} {ls : List (Option Value)} {st : List Value} {ty : pv_T} {h : pv_H} {r : pv_R} {g : pv_G} {Q : pv_Q}
theorem pv_catS {ρ : Nat → Nat} : ((st.map (pv_cv ρ)).map fun v => v.category).sum = (st.map fun v => v.category).sum := by
  rw [List.map_map]
  congr 1
  exact List.map_congr_left fun v _ => pv_cv_cat ρ v
theorem pv_mmax {idx : Nat} {x y : Int32} (hdg : decode M.2.1 pc = .ok (.invokestatic idx, 3)) (hl : Cond.methodLink M.1.cls idx Lib.Math.max.name ∈ pv_gt) (hd : 1 ≤ d) (hs : (st.map fun v => v.category).sum ≤ 8) (k : pv_E Γ d kc ks M (pc + 3) ls (.int (if x < y then y else x) :: st) ty h r g Q) : pv_E Γ d kc ks M pc ls (.int y :: .int x :: st) ty h r g Q := by
  intro p e R s m args below meth c' H locs cells slots ρ lz Z hK
  obtain ⟨hx, hb, hml, hown, hr, hlk, hnm, hts, henv, hdd, hdl⟩ := id hK.1
  have hR := hK.2.1
  refine va_mmax hx hb (by rw [hml, hK.2.2.2.1.1]) hown (hts _ hl) (hts _ mts_max) (hts _ mti) (hts _ mth_max) (by omega) (by rw [pv_catS]; omega) (by omega) (by omega) hdg (k _ _ _ _ _ _ _ _ _ _ _ _ _ ρ _ _ ⟨hK.1, hK.2.1, hK.2.2.1, hK.2.2.2.1, pv_wst_c.mpr ⟨trivial, (pv_wst_c.mp (pv_wst_c.mp hK.2.2.2.2.1).2).2⟩, hK.2.2.2.2.2⟩)
theorem pv_mmin {idx : Nat} {x y : Int32} (hdg : decode M.2.1 pc = .ok (.invokestatic idx, 3)) (hl : Cond.methodLink M.1.cls idx Lib.Math.min.name ∈ pv_gt) (hd : 1 ≤ d) (hs : (st.map fun v => v.category).sum ≤ 8) (k : pv_E Γ d kc ks M (pc + 3) ls (.int (if y < x then y else x) :: st) ty h r g Q) : pv_E Γ d kc ks M pc ls (.int y :: .int x :: st) ty h r g Q := by
  intro p e R s m args below meth c' H locs cells slots ρ lz Z hK
  obtain ⟨hx, hb, hml, hown, hr, hlk, hnm, hts, henv, hdd, hdl⟩ := id hK.1
  have hR := hK.2.1
  refine va_mmin hx hb (by rw [hml, hK.2.2.2.1.1]) hown (hts _ hl) (hts _ mts_min) (hts _ mti) (hts _ mth_min) (by omega) (by rw [pv_catS]; omega) (by omega) (by omega) hdg (k _ _ _ _ _ _ _ _ _ _ _ _ _ ρ _ _ ⟨hK.1, hK.2.1, hK.2.2.1, hK.2.2.2.1, pv_wst_c.mpr ⟨trivial, (pv_wst_c.mp (pv_wst_c.mp hK.2.2.2.2.1).2).2⟩, hK.2.2.2.2.2⟩)
theorem pv_mabs {idx : Nat} {x : Int32} (hdg : decode M.2.1 pc = .ok (.invokestatic idx, 3)) (hl : Cond.methodLink M.1.cls idx Lib.Math.abs.name ∈ pv_gt) (hd : 1 ≤ d) (hs : (st.map fun v => v.category).sum ≤ 8) (k : pv_E Γ d kc ks M (pc + 3) ls (.int (if 0 ≤ x then x else 0 - x) :: st) ty h r g Q) : pv_E Γ d kc ks M pc ls (.int x :: st) ty h r g Q := by
  intro p e R s m args below meth c' H locs cells slots ρ lz Z hK
  obtain ⟨hx, hb, hml, hown, hr, hlk, hnm, hts, henv, hdd, hdl⟩ := id hK.1
  have hR := hK.2.1
  refine va_mabs hx hb (by rw [hml, hK.2.2.2.1.1]) hown (hts _ hl) (hts _ mts_abs) (hts _ mti) (hts _ mth_abs) (by omega) (by rw [pv_catS]; omega) (by omega) (by omega) hdg (k _ _ _ _ _ _ _ _ _ _ _ _ _ ρ _ _ ⟨hK.1, hK.2.1, hK.2.2.1, hK.2.2.2.1, pv_wst_c.mpr ⟨trivial, (pv_wst_c.mp hK.2.2.2.2.1).2⟩, hK.2.2.2.2.2⟩)
/-! System.arraycopy of ints or bytes -/
def pv_cpy (h : pv_H) (a sp b dp n : Nat) : pv_H := fun q j => if q = b ∧ dp ≤ j ∧ j < dp + n then h a (sp + (j - dp)) else h q j
def pv_acpOK (ty : pv_T) (a : Nat) (sp : Int32) (b : Nat) (dp n : Int32) : Prop := ∃ k n0 n1, ty a = some (k, n0) ∧ ty b = some (k, n1) ∧ (k = 20 ∨ k = 21) ∧ 10 ≤ a ∧ 10 ≤ b ∧ 0 ≤ sp ∧ 0 ≤ dp ∧ 0 ≤ n ∧ Int32.toNatClampNeg sp + Int32.toNatClampNeg n ≤ n0 ∧ Int32.toNatClampNeg dp + Int32.toNatClampNeg n ≤ n1
theorem pv_nneg {z : Int32} (hz : ¬ z < 0) : z.toInt = (z.toNatClampNeg : Int) := by
  have hz0 : (0 : Int) ≤ z.toInt := by
    have := Int32.not_lt.mp hz
    simpa using Int32.le_iff_toInt_le.mp this
  show z.toInt = ((z.toInt.toNat : Nat) : Int)
  omega
theorem pv_acopy {idx a b : Nat} {sp dp n : Int32} (hdg : decode M.2.1 pc = .ok (.invokestatic idx, 3)) (hl : Cond.methodLink M.1.cls idx arraycopyName ∈ pv_gt) (hnat : Cond.native arraycopyName ∈ pv_gt) (hstat : Cond.static arraycopyName ∈ pv_gt) (hini : Cond.initialized "java/lang/System" ∈ pv_gt) (hok : pv_acpOK ty a sp b dp n) (hd : 1 ≤ d) (hs : (st.map fun v => v.category).sum ≤ 8)
    (kk : pv_E Γ d kc ks M (pc + 3) ls st ty (pv_cpy h a (Int32.toNatClampNeg sp) b (Int32.toNatClampNeg dp) (Int32.toNatClampNeg n)) r g Q) : pv_E Γ d kc ks M pc ls (.int n :: .int dp :: .ref b :: .int sp :: .ref a :: st) ty h r g Q := by
  intro p e R s m args below meth c' H locs cells slots ρ lz Z hK
  obtain ⟨hx, hb, hml, hown, hr, hlk, hnm, hts, henv, hdd, hdl⟩ := id hK.1
  obtain ⟨k, n0, n1, ha0, hb0, hk, ha, hb10, h1, h2, h3, h4, h5⟩ := hok
  obtain ⟨y0, -, c0, y1, y2, y3, y4⟩ := pv_arrW hK.2.2.1 ha0 (by omega) ha
  obtain ⟨z0, -, c1, z1, z2, z3, z4⟩ := pv_arrW hK.2.2.1 hb0 (by omega) hb10
  obtain ⟨a', rfl⟩ := pv_nz hK.2.2.1 ha0
  obtain ⟨b', rfl⟩ := pv_nz hK.2.2.1 hb0
  have hk23 : k < 23 := by omega
  have eA : (fun j => pv_eV ρ h r g (a' + 1) k j) = fun j => Value.int (h (a' + 1) j) := by funext j; unfold pv_eV; rw [if_pos hk23]
  have eB : (fun j => pv_eV ρ h r g (b' + 1) k j) = fun j => Value.int (h (b' + 1) j) := by funext j; unfold pv_eV; rw [if_pos hk23]
  have n1' : ¬ sp < 0 := Int32.not_lt.mpr h1
  have n2' : ¬ dp < 0 := Int32.not_lt.mpr h2
  have n3' : ¬ n < 0 := Int32.not_lt.mpr h3
  have hprim : refKind (pv_eT k) = false := by rcases hk with rfl | rfl <;> rfl
  have hfit : ∀ j, j < n0 → fits (pv_eT k) (.int (h (a' + 1) j)) = true := fun j hj => by
    have := y4 j hj
    rw [show pv_eV ρ h r g (a' + 1) k j = .int (h (a' + 1) j) from congrFun eA j] at this
    exact this
  rw [eA] at y1
  rw [eB] at z1
  obtain ⟨-, k0, hk0, cm0, hkk0⟩ := y2 n0 (fun j => .int (h (a' + 1) j))
  obtain ⟨-, k1, hk1, cm1, hkk1⟩ := z2 n1 (fun j => .int (h (b' + 1) j))
  intro T hT X
  obtain ⟨vm', X', step⟩ := X.arraycopy hx hown (hts _ hl) (hts _ hnat) (hts _ hstat) (hts _ hini) (src := ρ (a' + 1)) (dst := ρ (b' + 1)) (cs := arrV c0 n0 (fun j => .int (h (a' + 1) j))) (cd := arrV c1 n1 (fun j => .int (h (b' + 1) j))) (srcPos := sp) (destPos := dp) (n := n) (by rw [hT]; exact y1) (by rw [hT]; exact z1)
    (fun _ h => by cases h) (fun _ h => by cases h) (fun h => by cases h) (fun h => by cases h) hk0 hk1 hkk0 hkk1 (by simp [hprim]) n1' n2' n3'
    (by rw [pv_nneg n1', pv_nneg n3', arrV_size]; omega)
    (by rw [pv_nneg n2', pv_nneg n3', arrV_size]; omega)
    (fun vm₁ _ i hi => by
      have e : (arrV c0 n0 (fun j => Value.int (h (a' + 1) j))).slots.getD (sp.toNatClampNeg + i) .null = .int (h (a' + 1) (sp.toNatClampNeg + i)) := by
        rw [Array.getD_eq_getD_getElem?, arrV_read _ _ (by omega)]
        rfl
      refine ⟨?_, ?_⟩
      · rw [e]
        exact hfit _ (by omega)
      · rw [e]
        exact trivial)
    (g := F0 m pc lz (.int n :: .int dp :: .ref (ρ (b' + 1)) :: .int sp :: .ref (ρ (a' + 1)) :: st.map (pv_cv ρ))) rfl (by rw [hml, hK.2.2.2.1.1]) (rest := st.map (pv_cv ρ)) rfl (by rw [hb]; exact hdg) (by omega) (by
      have e9 : nativeFrameWords "java/lang/System" "arraycopy" 5 + 11 ≤ 50 := by decide
      have := pv_catS (st := st) (ρ := ρ)
      show 2 * 0 + _ + _ ≤ _
      omega)
  have e1 : copied (arrV c0 n0 (fun j => Value.int (h (a' + 1) j))) (arrV c1 n1 (fun j => Value.int (h (b' + 1) j))) sp dp n = arrV c1 n1 (fun j => Value.int (va_cpy (h (a' + 1)) (h (b' + 1)) sp.toNatClampNeg dp.toNatClampNeg n.toNatClampNeg j)) := va_copied (fun z => .int z) c0 c1 (h (a' + 1)) (h (b' + 1)) h4
  rw [e1] at X' step
  have hl' : ρ (b' + 1) < H.size := (Array.getElem?_eq_some_iff.mp z1).1
  have eC : ∀ j, pv_cpy h (a' + 1) (Int32.toNatClampNeg sp) (b' + 1) (Int32.toNatClampNeg dp) (Int32.toNatClampNeg n) (b' + 1) j = va_cpy (h (a' + 1)) (h (b' + 1)) sp.toNatClampNeg dp.toNatClampNeg n.toNatClampNeg j := fun j => by
    unfold pv_cpy va_cpy
    simp
  have eO : ∀ q, q ≠ b' + 1 → ∀ j, pv_cpy h (a' + 1) (Int32.toNatClampNeg sp) (b' + 1) (Int32.toNatClampNeg dp) (Int32.toNatClampNeg n) q j = h q j := fun q hq j => by
    unfold pv_cpy
    rw [if_neg (fun z => hq z.1)]
  have hrep : pv_Rep Γ ρ s (H.setIfInBounds (ρ (b' + 1)) (arrV c1 n1 (fun j => Value.int (va_cpy (h (a' + 1)) (h (b' + 1)) sp.toNatClampNeg dp.toNatClampNeg n.toNatClampNeg j)))) ty (pv_cpy h (a' + 1) (Int32.toNatClampNeg sp) (b' + 1) (Int32.toNatClampNeg dp) (Int32.toNatClampNeg n)) r g := by
    refine hK.2.2.1.upd hb10 hb0 (by simp) (fun q hq => by simp [Array.getElem?_setIfInBounds, Ne.symm hq]) eO (fun _ _ _ => rfl) (fun _ _ _ => rfl) (Or.inr ⟨by omega, by omega, c1, ?_, z2, z3, fun j hj => ?_⟩) (fun j hj => hK.2.2.1.2.2.2.2.1 _ j (by rw [hb0]; exact Option.some_ne_none _) hj)
    · have eD : (fun j => pv_eV ρ (pv_cpy h (a' + 1) (Int32.toNatClampNeg sp) (b' + 1) (Int32.toNatClampNeg dp) (Int32.toNatClampNeg n)) r g (b' + 1) k j) = fun j => Value.int (va_cpy (h (a' + 1)) (h (b' + 1)) sp.toNatClampNeg dp.toNatClampNeg n.toNatClampNeg j) := by
        funext j
        unfold pv_eV
        rw [if_pos hk23, eC]
      rw [eD]
      simp [Array.getElem?_setIfInBounds, hl']
    · unfold pv_eV
      rw [if_pos hk23, eC]
      unfold va_cpy
      split
      · exact hfit _ (by omega)
      · have := z4 j hj
        unfold pv_eV at this
        rw [if_pos hk23] at this
        exact this
  have hlocs : ∀ L : List Loc, (∀ q ∈ L, q.base = ρ (b' + 1)) → ∀ q ∈ locs ++ L, (pv_h0 Γ).size ≤ q.base := by
    intro L hL q hq
    rcases List.mem_append.mp hq with h0 | h0
    · exact hK.2.2.2.2.2.2.1 q h0
    · rw [hL q h0]
      exact z0
  have hst : pv_wst ty st := fun v hv => hK.2.2.2.2.1 v (by simp [hv])
  obtain ⟨t, a1, b1⟩ := kk p e R s m args below meth c' _ _ cells slots ρ lz Z ⟨hK.1, hK.2.1, hrep, hK.2.2.2.1, hst, hK.2.2.2.2.2.1, hlocs _ (by
    intro q hq
    obtain ⟨z, -, hz⟩ := List.mem_map.mp hq
    rw [← hz]), hK.2.2.2.2.2.2.2⟩ _ (by rw [← hT]; rfl) X'
  exact ⟨t, step t a1, b1⟩
end PVM
