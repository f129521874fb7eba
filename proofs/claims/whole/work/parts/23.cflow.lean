/-! the class: Flow.findEnds -/
theorem cH_row {h : pv_H} {a C n : Nat} {f : Nat → Int32} (ha : 1000 ≤ a) (hn : n < 1000) : cH (pv_row h n f) a C = cH h a C := by
  funext i j
  show pv_row h n f (a + 1) _ = h (a + 1) _
  rw [pv_row_ne (by omega)]
theorem cD_row {h : pv_H} {a C n : Nat} {f : Nat → Int32} (ha : 1000 ≤ a) (hn : n < 1000) : cD (pv_row h n f) a C = cD h a C := by
  funext i j
  show pv_row h n f (a + 2) _ = h (a + 2) _
  rw [pv_row_ne (by omega)]
theorem cStr_row {ty : pv_T} {h : pv_H} {r : pv_R} {a R C n : Nat} {f : Nat → Int32} (hS : cStr ty h r a R C) (hn : n < 1000) : cStr ty (pv_row h n f) r a R C := by
  obtain ⟨h10, ht, hR, hC, hRb, hCb, e, t, hok⟩ := hS
  refine ⟨h10, ht, by rw [pv_row_ne (by omega)]; exact hR, by rw [pv_row_ne (by omega)]; exact hC, hRb, hCb, e, t, ?_⟩
  rw [cH_row h10 hn]; exact hok
abbrev ps (C k : Nat) : Nat × Nat := (k / C, k % C)
theorem ps_on {R C k : Nat} (hC : 1 ≤ C) (hk : k < R * C) : wt_on R C (ps C k) := ⟨by show k / C < R; rw [Nat.div_lt_iff_lt_mul (by omega)]; exact hk, Nat.mod_lt _ (by omega)⟩
theorem ps_pl {C k : Nat} : pl C (ps C k) = nI k := by
  show nI (k / C * C + k % C) = nI k
  rw [Nat.div_add_mod']
theorem ps_of {C : Nat} {p : Nat × Nat} (hp : p.2 < C) : ps C (p.1 * C + p.2) = p := by
  have := st_at (a := p.1) hp
  exact Prod.ext this.1 this.2
/-- the row of ends: each entry was led on at least so far -/
def feI (h : pv_H) (a R C lo hi i : Nat) (f : Nat → Int32) : Prop := ∀ k, k < R * C → ∃ m, (if k < i then hi ≤ m else lo ≤ m) ∧ f k = pl C (wt_it (cNx h a R C) m (ps C k))
section CF
variable {Γ : pv_C} {d kc ks : Nat} {ty : pv_T} {h : pv_H} {r : pv_R} {g : pv_G} {Q : pv_Q} {a R C : Nat}
theorem fe_2 (hd : 5 ≤ d) (hL : pv_Lay ty r) (hS : cStr ty h r a R C) (hE : ∀ f, feI h a R C 1 1 0 f → pv_E Γ d kc ks mX2_findEnds 30 [some (.ref 30), some (.ref a), some (.int 1), none] [] ty (pv_row h 31 f) r g Q) : ∀ (m i : Nat) (f : Nat → Int32), i + m = R * C → (∀ k, k < i → f k = pl C (cNx h a R C (ps C k))) → pv_E Γ d kc ks mX2_findEnds 2 [some (.ref 30), some (.ref a), some (.int (nI i)), none] [] ty (pv_row h 31 f) r g Q := by
  intro m
  have hRC := pl_b hS.2.2.2.2.1.2 hS.2.2.2.2.2.1.2
  have hC1 := hS.2.2.2.2.2.1.1
  have e2 := hS.2.2.2.2.2.2.1.1
  have t1 := hS.2.2.2.2.2.2.2.1.1
  induction m with
  | zero =>
    intro i f hi hf
    refine sg_X2_findEnds_2 a _ (by omega) hL ⟨hS.2.1, 20, R * C, by rw [e2]; exact t1, by decide, ?_⟩
    rw [nI_leI (by omega) (by omega)]
    refine ⟨fun _ => hE f (fun k hk => ⟨1, by split <;> omega, hf k (by omega)⟩), fun c1 => absurd (by omega) c1⟩
  | succ m ih =>
    intro i f hi hf
    refine sg_X2_findEnds_2 a _ (by omega) hL ⟨hS.2.1, 20, R * C, by rw [e2]; exact t1, by decide, ?_⟩
    rw [nI_leI (by omega) (by omega)]
    have hon : wt_on R C (ps C i) := ps_on hC1 (by omega)
    have k1 := ct_X8_nextOfWater (Γ := Γ) (d := d - 1) (g := g) (by omega) (cStr_row (n := 31) (f := f) hS (by decide)) hon
    rw [cH_row hS.1 (by decide), cD_row hS.1 (by decide), ps_pl] at k1
    refine ⟨fun c1 => absurd c1 (by omega), fun _ => ⟨hS.2.1, pv_CT.use k1 ⟨_, rfl, hL, vp_in_nI (by omega) (by decide), fun h2 e1 => ?_⟩⟩⟩
    rw [e1, pv_row_up, nI_clamp (by omega), nI_1]
    refine ih (i + 1) _ (by omega) (fun k hk => ?_)
    by_cases q : k = i
    · rw [if_pos q, q]
    · rw [if_neg q]; exact hf k (by omega)
theorem fe_39 (hL : pv_Lay ty r) (hS : cStr ty h r a R C) {q : Nat} (hE : ∀ f, feI h a R C (2 * q) (2 * q) 0 f → pv_E Γ d kc ks mX2_findEnds 30 [some (.ref 30), some (.ref a), some (.int (nI (2 * q))), none] [] ty (pv_row h 31 f) r g Q) : ∀ (m i : Nat) (f : Nat → Int32), i + m = R * C → feI h a R C q (2 * q) i f → pv_E Γ d kc ks mX2_findEnds 39 [some (.ref 30), some (.ref a), some (.int (nI q)), some (.int (nI i))] [] ty (pv_row h 31 f) r g Q := by
  intro m
  have hRb := hS.2.2.2.2.1
  have hCb := hS.2.2.2.2.2.1
  have hRC := pl_b hRb.2 hCb.2
  have e2 := hS.2.2.2.2.2.2.1.1
  have t1 := hS.2.2.2.2.2.2.2.1.1
  induction m with
  | zero =>
    intro i f hi hf
    refine sg_X2_findEnds_39 a _ _ hL ⟨hS.2.1, 20, R * C, by rw [e2]; exact t1, by decide, ?_⟩
    rw [nI_leI (by omega) (by omega)]
    refine ⟨fun _ => ?_, fun c1 => absurd (by omega) c1⟩
    rw [show (2 : Int32) = nI 2 from rfl, pk_mul, Nat.mul_comm]
    refine hE f (fun k hk => ?_)
    obtain ⟨n, h1, h2⟩ := hf k hk
    rw [if_pos (by omega)] at h1
    exact ⟨n, by split <;> omega, h2⟩
  | succ m ih =>
    intro i f hi hf
    refine sg_X2_findEnds_39 a _ _ hL ⟨hS.2.1, 20, R * C, by rw [e2]; exact t1, by decide, ?_⟩
    rw [nI_leI (by omega) (by omega), nI_clamp (by omega)]
    obtain ⟨n, h1, h2⟩ := hf i (by omega)
    rw [if_neg (by omega)] at h1
    have hon : wt_on R C (wt_it (cNx h a R C) n (ps C i)) := wt_it_on n (ps_on hCb.1 (by omega))
    have hlt := pl_lt hon
    obtain ⟨n2, h3, h4⟩ := hf _ hlt
    have hq2 : q ≤ n2 := by split at h3 <;> omega
    rw [ps_of hon.2, ← wt_it_add] at h4
    rw [pv_row_at, h2, pl_cl hRb.2 hCb.2 hon, pv_row_at, h4]
    refine ⟨fun c1 => absurd c1 (by omega), fun _ => ⟨vp_in_nI (by omega) (by decide), vp_in_nI (by omega) (by decide), vp_in_nI (by omega) (by decide), fun h5 e1 => ?_⟩⟩
    rw [e1, pv_row_up, nI_1]
    refine ih (i + 1) _ (by omega) (fun k hk => ?_)
    by_cases z : k = i
    · refine ⟨n + n2, by rw [if_pos (by omega)]; omega, ?_⟩
      rw [if_pos z, z]
    · obtain ⟨n', h6, h7⟩ := hf k hk
      refine ⟨n', ?_, by rw [if_neg z]; exact h7⟩
      by_cases z2 : k < i
      · rw [if_pos z2] at h6; rw [if_pos (by omega)]; exact h6
      · rw [if_neg z2] at h6; rw [if_neg (by omega)]; exact h6
/-- the row of ends -/
def feR (h : pv_H) (a R C : Nat) (f : Nat → Int32) : Prop := ∀ k, k < R * C → f k = pl C (cEnd h a R C (ps C k))
theorem fe_30 (hL : pv_Lay ty r) (hS : cStr ty h r a R C) (hQ : ∀ f, feR h a R C f → Q none ty (pv_row h 31 f) r g) : ∀ (m j : Nat) (f : Nat → Int32), j + m = 8 → feI h a R C (2 ^ j) (2 ^ j) 0 f → pv_E Γ d kc ks mX2_findEnds 30 [some (.ref 30), some (.ref a), some (.int (nI (2 ^ j))), none] [] ty (pv_row h 31 f) r g Q := by
  intro m
  have e144 : (144 : Int32) = nI 144 := rfl
  have hRb := hS.2.2.2.2.1
  have hCb := hS.2.2.2.2.2.1
  have hok := hS.2.2.2.2.2.2.2.2
  induction m with
  | zero =>
    intro j f hj hf
    refine sg_X2_findEnds_30 a _ ?_
    rw [show j = 8 by omega, e144, nI_leI (by decide) (by decide)]
    refine ⟨fun _ => hQ f (fun k hk => ?_), fun c1 => absurd (by decide) c1⟩
    obtain ⟨n, h1, h2⟩ := hf k hk
    rw [show j = 8 by omega] at h1
    rw [if_neg (by omega)] at h1
    rw [h2]
    congr 1
    exact wt_end_ge (D := cD h a C) hok (ps_on hCb.1 hk) (m := n) (by have : (2:Nat) ^ 8 = 256 := rfl; omega)
  | succ m ih =>
    intro j f hj hf
    have hp : 2 ^ j ≤ 128 := by
      have : 2 ^ j ≤ 2 ^ 7 := Nat.pow_le_pow_right (by decide) (by omega)
      exact this
    refine sg_X2_findEnds_30 a _ ?_
    rw [e144, nI_leI (by decide) (by omega)]
    refine ⟨fun c1 => absurd c1 (by omega), fun _ => ?_⟩
    refine fe_39 hL hS (fun f' hf' => ?_) (R * C) 0 f (by omega) (fun k hk => ?_)
    · have e1 : 2 * 2 ^ j = 2 ^ (j + 1) := by rw [Nat.pow_succ]; omega
      rw [e1] at hf' ⊢
      exact ih (j + 1) f' (by omega) hf'
    · obtain ⟨n, h1, h2⟩ := hf k hk
      rw [if_neg (by omega)] at h1
      exact ⟨n, by rw [if_neg (by omega)]; exact h1, h2⟩
theorem ct_X2_findEnds (hd : 5 ≤ d) (hL : pv_Lay ty r) (hS : cStr ty h r a R C) : pv_CW Γ d mX2_findEnds [.ref 30, .ref a] ty h r g (fun h' => ∃ f, h' = pv_row h 31 f ∧ feR h a R C f) := by
  refine pv_fn 2 pn_X2 rfl (Nat.le_of_ble_eq_true rfl) (sg_X2_findEnds_0 a ?_)
  have k1 := fe_2 (Γ := Γ) (d := d) (kc := 0) (ks := 0) (g := g) (Q := pv_wq ty r g (fun h' => ∃ f, h' = pv_row h 31 f ∧ feR h a R C f)) hd hL hS (fun f hf => fe_30 (kc := 0) (ks := 0) hL hS (fun f' hf' => pv_wqi ⟨f', rfl, hf'⟩) 8 0 f (by omega) hf) (R * C) 0 (h 31) (by omega) (fun k hk => absurd hk (by omega))
  rw [pv_row_self] at k1
  exact k1
end CF
