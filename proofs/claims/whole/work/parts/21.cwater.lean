/-! the class's streets: water -/
abbrev cH (h : pv_H) (a C i j : Nat) : Int32 := h (a + 1) (i * C + j)
abbrev cD (h : pv_H) (a C i j : Nat) : Int32 := h (a + 2) (i * C + j)
/-- a street of the class, at the name a -/
def cStr (ty : pv_T) (h : pv_H) (r : pv_R) (a R C : Nat) : Prop := 1000 ≤ a ∧ ty a = some (8, 0) ∧ h a 0 = nI R ∧ h a 1 = nI C ∧ (1 ≤ R ∧ R ≤ 16) ∧ (1 ≤ C ∧ C ≤ 9) ∧ (r a 2 = a + 1 ∧ r a 3 = a + 2 ∧ r a 4 = a + 3) ∧ (ty (a + 1) = some (20, R * C) ∧ ty (a + 2) = some (20, R * C) ∧ ty (a + 3) = some (20, 31)) ∧ wt_ok R C (cH h a C)
abbrev pl (C : Nat) (p : Nat × Nat) : Int32 := nI (p.1 * C + p.2)
theorem pl_lt {R C : Nat} {p : Nat × Nat} (hp : wt_on R C p) : p.1 * C + p.2 < R * C := by
  have h1 : (p.1 + 1) * C ≤ R * C := Nat.mul_le_mul_right _ hp.1
  have h2 := hp.2
  rw [Nat.succ_mul] at h1
  omega
theorem pl_b {R C : Nat} (hR : R ≤ 16) (hC : C ≤ 9) : R * C ≤ 144 := Nat.le_trans (Nat.mul_le_mul hR hC) (by decide)
theorem pl_in {R C : Nat} {p : Nat × Nat} (hR : R ≤ 16) (hC : C ≤ 9) (hp : wt_on R C p) : vp_in (pl C p) (R * C) := vp_in_nI (pl_lt hp) (by have := pl_b hR hC; omega)
theorem pl_cl {R C : Nat} {p : Nat × Nat} (hR : R ≤ 16) (hC : C ≤ 9) (hp : wt_on R C p) : (pl C p).toNatClampNeg = p.1 * C + p.2 := nI_clamp (by have := pl_lt hp; have := pl_b hR hC; omega)
theorem pl_mk (C i j : Nat) : nI i * nI C + nI j = pl C (i, j) := by rw [pk_mul, nI_add]
theorem pl_dm {R C : Nat} {p : Nat × Nat} (hR : R ≤ 16) (hC : C ≤ 9) (hp : wt_on R C p) : pl C p / nI C = nI p.1 ∧ pl C p - pl C p / nI C * nI C = nI p.2 := by
  have h1 := pl_lt hp
  have h2 := pl_b hR hC
  have h3 := st_at (a := p.1) hp.2
  have hC0 : 0 < C := Nat.lt_of_le_of_lt (Nat.zero_le _) hp.2
  rw [pk_rem (by omega) hC0 (by omega), pk_div (by omega) hC0 (by omega), h3.1, h3.2]
  exact ⟨rfl, rfl⟩
section CW
variable {Γ : pv_C} {d kc ks : Nat} {ty : pv_T} {h : pv_H} {r : pv_R} {g : pv_G} {Q : pv_Q} {a R C : Nat}
theorem ct_lower_t (hd : 2 ≤ d) (hS : cStr ty h r a R C) {b : Nat × Nat} {i j : Nat} (hb : wt_on R C b) (hij : wt_on R C (i, j)) {K : pv_Q} (hK : K (some (.int (pl C (if cH h a C i j < cH h a C b.1 b.2 then (i, j) else b)))) ty h r g) : pv_CT Γ d 0 0 mX8_lowerOf [.ref a, .int (pl C b), .int (nI i), .int (nI j)] ty h r g K := by
  obtain ⟨h10, ht, hR, hC, hRb, hCb, ⟨e1, e2, e3⟩, ⟨t1, t2, t3⟩, hok⟩ := hS
  have h1 := hij.1
  have h2 := hij.2
  dsimp only at h1 h2
  have hv : (0 ≤ nI i ∧ nI i < h a 0) ∧ (0 ≤ nI j ∧ nI j < h a 1) := by
    rw [hR, hC]
    exact ⟨⟨nI_pos' (by omega), (nI_ltI (by omega) (by omega)).mpr h1⟩, nI_pos' (by omega), (nI_ltI (by omega) (by omega)).mpr h2⟩
  refine pv_fn 1 pn_X8 rfl (Nat.le_of_ble_eq_true rfl) (sg_X8_lowerOf_0 a _ _ _ (by omega) ⟨ht, ht, fun _ => ⟨ht, ht, ht, ?_⟩, fun q => absurd hv (pf_b_0.mp q)⟩)
  rw [hC, pl_mk, e1, pl_cl hRb.2 hCb.2 hb, pl_cl hRb.2 hCb.2 hij]
  refine ⟨⟨_, t1, pl_in hRb.2 hCb.2 hij⟩, ht, ⟨_, t1, pl_in hRb.2 hCb.2 hb⟩, fun c1 => ?_, fun c1 => ?_⟩
  · rw [if_neg (Int32.not_lt.mpr c1)] at hK; exact hK
  · rw [if_pos (Int32.not_le.mp c1)] at hK; exact hK
theorem ct_lower_f (hd : 2 ≤ d) (hS : cStr ty h r a R C) {b : Nat × Nat} {x y : Int32} (hn : ¬ ((0 ≤ x ∧ x < nI R) ∧ (0 ≤ y ∧ y < nI C))) {K : pv_Q} (hK : K (some (.int (pl C b))) ty h r g) : pv_CT Γ d 0 0 mX8_lowerOf [.ref a, .int (pl C b), .int x, .int y] ty h r g K := by
  obtain ⟨h10, ht, hR, hC, hRb, hCb, ⟨e1, e2, e3⟩, ⟨t1, t2, t3⟩, hok⟩ := hS
  refine pv_fn 1 pn_X8 rfl (Nat.le_of_ble_eq_true rfl) (sg_X8_lowerOf_0 a _ _ _ (by omega) ⟨ht, ht, fun q => absurd (pf_b_0.mpr ?_) q, fun _ => hK⟩)
  rw [hR, hC]
  exact hn
theorem cw_neg : ¬ ((0 : Int32) ≤ nI 0 - 1) := by decide
theorem ct_X8_nextOfWater (hd : 3 ≤ d) (hS : cStr ty h r a R C) {p : Nat × Nat} (hp : wt_on R C p) : pv_CT Γ d 0 0 mX8_nextOfWater [.ref a, .int (pl C p)] ty h r g (pv_is (.int (pl C (wt_nx R C (cH h a C) (cD h a C) p))) ty h r g) := by
  have hS0 := hS
  obtain ⟨h10, ht, hR, hC, hRb, hCb, ⟨e1, e2, e3⟩, ⟨t1, t2, t3⟩, hok⟩ := hS
  have hnz : ¬ h a 1 = 0 := by rw [hC]; exact nI_ne0 (by omega) (by omega)
  have hp1 := hp.1
  have hp2 := hp.2
  refine pv_fn 3 pn_X8 rfl (Nat.le_of_ble_eq_true rfl) (sg_X8_nextOfWater_0 a _ (by omega) ⟨ht, ?_⟩)
  rw [e2]
  refine ⟨⟨_, t2, pl_in hRb.2 hCb.2 hp⟩, ?_⟩
  rw [pl_cl hRb.2 hCb.2 hp]
  refine ⟨fun c1 => ⟨ht, ht, hnz, ht, ht, hnz, ht, ?_⟩, fun c1 => ?_⟩
  · obtain ⟨d1, d2⟩ := pl_dm hRb.2 hCb.2 hp
    rw [hC, d2, d1]
    have b1on : wt_on R C (wt_b1 (cH h a C) p) := by
      unfold wt_on wt_b1
      split <;> (try dsimp only) <;> omega
    have b2on : wt_on R C (wt_b2 (cH h a C) p) := by
      have := b1on
      unfold wt_on at this ⊢
      unfold wt_b2
      split <;> (try dsimp only) <;> omega
    have b3on : wt_on R C (wt_b3 C (cH h a C) p) := by
      have := b2on
      unfold wt_on at this ⊢
      unfold wt_b3
      split <;> (try dsimp only) <;> omega
    have k4 : pv_CT Γ (d - 1) 0 0 mX8_lowerOf [.ref a, .int (pl C (wt_b3 C (cH h a C) p)), .int (nI p.1 + 1), .int (nI p.2)] ty h r g (fun (v4 : Option Value) (ty4 : pv_T) (h4 : pv_H) (r4 : pv_R) (g4 : pv_G) => ∃ w4 : Int32, v4 = some (.int w4) ∧ pv_is (.int (pl C (wt_nx R C (cH h a C) (cD h a C) p))) ty h r g (some (.int w4)) ty4 h4 r4 g4) := by
      have e5 : wt_nx R C (cH h a C) (cD h a C) p = wt_b4 R C (cH h a C) p := by unfold wt_nx; rw [if_neg c1]
      rw [nI_1, e5]
      by_cases q : p.1 + 1 < R
      · refine ct_lower_t (by omega) hS0 b3on ⟨q, hp2⟩ ⟨_, rfl, ?_⟩
        unfold wt_b4
        simp only [q, true_and]
        exact pv_is_refl _ _ _ _ _
      · refine ct_lower_f (by omega) hS0 (fun z => q ((nI_ltI (by omega) (by omega)).mp z.1.2)) ⟨_, rfl, ?_⟩
        unfold wt_b4
        simp only [q, false_and, if_false]
        exact pv_is_refl _ _ _ _ _
    have k3 : pv_CT Γ (d - 1) 0 0 mX8_lowerOf [.ref a, .int (pl C (wt_b2 (cH h a C) p)), .int (nI p.1), .int (nI p.2 + 1)] ty h r g (fun (v3 : Option Value) (ty3 : pv_T) (h3 : pv_H) (r3 : pv_R) (g3 : pv_G) => ∃ w3 : Int32, v3 = some (.int w3) ∧ ty3 a = some (8, 0) ∧ pv_CT Γ (d - 1) 0 0 mX8_lowerOf [.ref a, .int w3, .int (nI p.1 + 1), .int (nI p.2)] ty3 h3 r3 g3 (fun (v4 : Option Value) (ty4 : pv_T) (h4 : pv_H) (r4 : pv_R) (g4 : pv_G) => ∃ w4 : Int32, v4 = some (.int w4) ∧ pv_is (.int (pl C (wt_nx R C (cH h a C) (cD h a C) p))) ty h r g (some (.int w4)) ty4 h4 r4 g4)) := by
      rw [nI_1 p.2]
      by_cases q : p.2 + 1 < C
      · refine ct_lower_t (i := p.1) (j := p.2 + 1) (by omega) hS0 b2on ⟨hp1, q⟩ ⟨_, rfl, ht, ?_⟩
        have e5 : (if cH h a C p.1 (p.2 + 1) < cH h a C (wt_b2 (cH h a C) p).1 (wt_b2 (cH h a C) p).2 then (p.1, p.2 + 1) else wt_b2 (cH h a C) p) = wt_b3 C (cH h a C) p := by unfold wt_b3; simp only [q, true_and]
        rw [e5]; exact k4
      · refine ct_lower_f (by omega) hS0 (fun z => q ((nI_ltI (by omega) (by omega)).mp z.2.2)) ⟨_, rfl, ht, ?_⟩
        have e5 : wt_b2 (cH h a C) p = wt_b3 C (cH h a C) p := by unfold wt_b3; simp only [q, false_and, if_false]
        rw [e5]; exact k4
    have k2 : pv_CT Γ (d - 1) 0 0 mX8_lowerOf [.ref a, .int (pl C (wt_b1 (cH h a C) p)), .int (nI p.1), .int (nI p.2 - 1)] ty h r g (fun (v2 : Option Value) (ty2 : pv_T) (h2 : pv_H) (r2 : pv_R) (g2 : pv_G) => ∃ w2 : Int32, v2 = some (.int w2) ∧ ty2 a = some (8, 0) ∧ pv_CT Γ (d - 1) 0 0 mX8_lowerOf [.ref a, .int w2, .int (nI p.1), .int (nI p.2 + 1)] ty2 h2 r2 g2 (fun (v3 : Option Value) (ty3 : pv_T) (h3 : pv_H) (r3 : pv_R) (g3 : pv_G) => ∃ w3 : Int32, v3 = some (.int w3) ∧ ty3 a = some (8, 0) ∧ pv_CT Γ (d - 1) 0 0 mX8_lowerOf [.ref a, .int w3, .int (nI p.1 + 1), .int (nI p.2)] ty3 h3 r3 g3 (fun (v4 : Option Value) (ty4 : pv_T) (h4 : pv_H) (r4 : pv_R) (g4 : pv_G) => ∃ w4 : Int32, v4 = some (.int w4) ∧ pv_is (.int (pl C (wt_nx R C (cH h a C) (cD h a C) p))) ty h r g (some (.int w4)) ty4 h4 r4 g4))) := by
      by_cases q : 0 < p.2
      · rw [ni_m1 q]
        refine ct_lower_t (i := p.1) (j := p.2 - 1) (by omega) hS0 b1on ⟨hp1, by show p.2 - 1 < C; omega⟩ ⟨_, rfl, ht, ?_⟩
        have e5 : (if cH h a C p.1 (p.2 - 1) < cH h a C (wt_b1 (cH h a C) p).1 (wt_b1 (cH h a C) p).2 then (p.1, p.2 - 1) else wt_b1 (cH h a C) p) = wt_b2 (cH h a C) p := by unfold wt_b2; simp only [q, true_and]
        rw [e5]; exact k3
      · refine ct_lower_f (by omega) hS0 (fun z => cw_neg (by rw [show p.2 = 0 by omega] at z; exact z.2.1)) ⟨_, rfl, ht, ?_⟩
        have e5 : wt_b1 (cH h a C) p = wt_b2 (cH h a C) p := by unfold wt_b2; simp only [q, false_and, if_false]
        rw [e5]; exact k3
    by_cases q : 0 < p.1
    · rw [ni_m1 q]
      refine ct_lower_t (i := p.1 - 1) (j := p.2) (by omega) hS0 hp ⟨by show p.1 - 1 < R; omega, hp2⟩ ⟨_, rfl, ht, ?_⟩
      have e5 : (if cH h a C (p.1 - 1) p.2 < cH h a C p.1 p.2 then (p.1 - 1, p.2) else p) = wt_b1 (cH h a C) p := by unfold wt_b1; simp only [q, true_and]
      rw [e5]; exact k2
    · refine ct_lower_f (by omega) hS0 (fun z => cw_neg (by rw [show p.1 = 0 by omega] at z; exact z.1.1)) ⟨_, rfl, ht, ?_⟩
      have e5 : wt_b1 (cH h a C) p = p := by unfold wt_b1; simp only [q, false_and, if_false]
      rw [e5] at k2; exact k2
  · have e5 : wt_nx R C (cH h a C) (cD h a C) p = p := by unfold wt_nx; rw [if_pos c1]
    rw [e5]; exact pv_is_refl _ _ _ _ _
end CW
