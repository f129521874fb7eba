/-! frames: which cells may have changed; comparisons of numbers -/
def pv_fr (A : Nat → Nat → Prop) (h h' : pv_H) : Prop := ∀ a j, ¬ A a j → h' a j = h a j
theorem pv_fr_refl (A : Nat → Nat → Prop) (h : pv_H) : pv_fr A h h := fun _ _ _ => rfl
theorem pv_fr_tr {A : Nat → Nat → Prop} {h h1 h2 : pv_H} (a : pv_fr A h h1) (b : pv_fr A h1 h2) : pv_fr A h h2 := fun x j q => (b x j q).trans (a x j q)
theorem pv_fr_up {A : Nat → Nat → Prop} {h h1 : pv_H} {a j : Nat} {x : Int32} (f : pv_fr A h h1) (hA : A a j) : pv_fr A h (pv_up h1 a j x) := fun b k q => by
  rw [← f b k q]
  unfold pv_up
  rw [if_neg]
  rintro ⟨rfl, rfl⟩
  exact q hA
theorem pv_fr_row {A : Nat → Nat → Prop} {h h1 : pv_H} {a : Nat} {x : Nat → Int32} (f : pv_fr A h h1) (hA : ∀ j, A a j) : pv_fr A h (pv_row h1 a x) := fun b k q => by
  rw [← f b k q]
  unfold pv_row
  rw [if_neg]
  rintro rfl
  exact q (hA k)
theorem pv_fr_mono {A B : Nat → Nat → Prop} {h h1 : pv_H} (hAB : ∀ a j, A a j → B a j) (f : pv_fr A h h1) : pv_fr B h h1 := fun a j q => f a j (fun z => q (hAB a j z))
theorem pv_fr_r {A : Nat → Nat → Prop} {h h1 : pv_H} (f : pv_fr A h h1) {a : Nat} (hA : ∀ j, ¬ A a j) : h1 a = h a := funext fun j => f a j (hA j)
theorem pj_le {x y : Int32} {A B : Prop} (a b : Nat) (f : a ≤ b → A) (g : b < a → B) (hx : x = nI a := by rfl) (hy : y = nI b := by rfl) (ha : a < 2 ^ 31 := by omega) (hb : b < 2 ^ 31 := by omega) : (¬ x ≤ y → B) ∧ (x ≤ y → A) := (pk_le a b f g hx hy ha hb).symm
theorem pj_lt {x y : Int32} {A B : Prop} (a b : Nat) (f : a < b → A) (g : b ≤ a → B) (hx : x = nI a := by rfl) (hy : y = nI b := by rfl) (ha : a < 2 ^ 31 := by omega) (hb : b < 2 ^ 31 := by omega) : (¬ x < y → B) ∧ (x < y → A) := (pk_lt a b f g hx hy ha hb).symm
theorem pj_eq {x y : Int32} {A B : Prop} (a b : Nat) (f : a = b → A) (g : a ≠ b → B) (hx : x = nI a := by rfl) (hy : y = nI b := by rfl) (ha : a < 2 ^ 31 := by omega) (hb : b < 2 ^ 31 := by omega) : (¬ x = y → B) ∧ (x = y → A) := (pk_eq a b f g hx hy ha hb).symm
theorem pj_b {p A B : Prop} [Decidable p] (f : p → A) (g : ¬ p → B) : (¬ pf_b p = 0 → A) ∧ (pf_b p = 0 → B) := ⟨fun c => f (Classical.not_not.mp (fun q => c (pf_b_0.mpr q))), fun c => g (pf_b_0.mp c)⟩
theorem pk_b {p A B : Prop} [Decidable p] (f : p → A) (g : ¬ p → B) : (pf_b p = 0 → B) ∧ (¬ pf_b p = 0 → A) := (pj_b f g).symm
theorem ni_61 (s v : Nat) : 61 * nI s + nI v = nI (61 * s + v) := by rw [show (61 : Int32) = nI 61 from rfl, pk_mul, nI_add]
theorem ni_61r (s v : Nat) : nI s * 61 + nI v = nI (61 * s + v) := by rw [show (61 : Int32) = nI 61 from rfl, pk_mul, nI_add, Nat.mul_comm]
/-- stones: over the counts below k of a size s, by the table G of the smaller sizes -/
def yd_mn (G : Nat → Nat) (s v : Nat) : Nat → Nat
  | 0 => 1000000
  | k + 1 => min (yd_mn G s v k) (G (v - k * s) + k)
def yd_bs (G : Nat → Nat) (s v : Nat) : Nat → Nat
  | 0 => 0
  | k + 1 => if G (v - k * s) + k ≤ yd_mn G s v k then k else yd_bs G s v k
def yd_K (st : Nat → Nat) (s v : Nat) : Nat := min (st s) (v / s) + 1
def yd_F (st : Nat → Nat) : Nat → Nat → Nat
  | 0, v => if v = 0 then 0 else 1000000
  | s + 1, v => yd_mn (yd_F st s) (s + 1) v (yd_K st (s + 1) v)
/-- how many of size s + 1 -/
def yd_B (st : Nat → Nat) (s v : Nat) : Nat := yd_bs (yd_F st s) (s + 1) v (yd_K st (s + 1) v)
theorem yd_mn_le (G : Nat → Nat) (s v : Nat) : ∀ k, yd_mn G s v k ≤ 1000000
  | 0 => Nat.le_refl _
  | k + 1 => by
    have := yd_mn_le G s v k
    show min _ _ ≤ _
    omega
theorem yd_F_le (st : Nat → Nat) (s v : Nat) : yd_F st s v ≤ 1000000 := by
  cases s with
  | zero => unfold yd_F; split <;> omega
  | succ s => exact yd_mn_le _ _ _ _
theorem yd_mn_bs {G : Nat → Nat} {s v : Nat} (hG : G v ≤ 1000000) : ∀ k, yd_mn G s v (k + 1) = G (v - yd_bs G s v (k + 1) * s) + yd_bs G s v (k + 1) ∧ yd_bs G s v (k + 1) < k + 1
  | 0 => by
    have e : yd_bs G s v 1 = 0 := by unfold yd_bs; split <;> rfl
    rw [e]
    refine ⟨?_, by omega⟩
    show min 1000000 (G (v - 0 * s) + 0) = _
    rw [Nat.zero_mul, Nat.sub_zero]
    omega
  | k + 1 => by
    obtain ⟨h1, h2⟩ := yd_mn_bs (s := s) hG k
    have e1 : yd_mn G s v (k + 1 + 1) = min (yd_mn G s v (k + 1)) (G (v - (k + 1) * s) + (k + 1)) := rfl
    have e2 : yd_bs G s v (k + 1 + 1) = if G (v - (k + 1) * s) + (k + 1) ≤ yd_mn G s v (k + 1) then k + 1 else yd_bs G s v (k + 1) := rfl
    rw [e1, e2]
    by_cases q : G (v - (k + 1) * s) + (k + 1) ≤ yd_mn G s v (k + 1)
    · rw [if_pos q]; omega
    · rw [if_neg q]; omega
theorem yd_bs_gt {G : Nat → Nat} {s v n : Nat} : ∀ k, yd_bs G s v k < n → n < k → yd_mn G s v k < G (v - n * s) + n
  | 0, _, h => absurd h (by omega)
  | k + 1, h1, h2 => by
    have e1 : yd_mn G s v (k + 1) = min (yd_mn G s v k) (G (v - k * s) + k) := rfl
    have e2 : yd_bs G s v (k + 1) = if G (v - k * s) + k ≤ yd_mn G s v k then k else yd_bs G s v k := rfl
    rw [e2] at h1
    rw [e1]
    by_cases q : G (v - k * s) + k ≤ yd_mn G s v k
    · rw [if_pos q] at h1; omega
    · rw [if_neg q] at h1
      by_cases q2 : n = k
      · rw [q2]; omega
      · have := yd_bs_gt k h1 (by omega)
        omega
theorem yd_K_iff {st : Nat → Nat} {s v k : Nat} : k < yd_K st (s + 1) v ↔ k ≤ st (s + 1) ∧ k * (s + 1) ≤ v := by
  unfold yd_K
  rw [← Nat.le_div_iff_mul_le (by omega)]
  omega
theorem yd_F_B (st : Nat → Nat) (s v : Nat) : yd_F st (s + 1) v = yd_F st s (v - yd_B st s v * (s + 1)) + yd_B st s v ∧ yd_B st s v < yd_K st (s + 1) v := yd_mn_bs (yd_F_le st s v) (min (st (s + 1)) (v / (s + 1)))
theorem yd_B_gt {st : Nat → Nat} {s v n : Nat} (h1 : yd_B st s v < n) (h2 : n < yd_K st (s + 1) v) : yd_F st (s + 1) v < yd_F st s (v - n * (s + 1)) + n := yd_bs_gt _ h1 h2
theorem yd_B_le (st : Nat → Nat) (s v : Nat) : yd_B st s v ≤ st (s + 1) ∧ yd_B st s v * (s + 1) ≤ v := yd_K_iff.mp (yd_F_B st s v).2
/-- what is left when j sizes are chosen; how many of size 9 - j -/
def yd_l (st : Nat → Nat) (w : Nat) : Nat → Nat
  | 0 => w
  | j + 1 => yd_l st w j - yd_B st (8 - j) (yd_l st w j) * (8 - j + 1)
def yd_T (st : Nat → Nat) (w j : Nat) : Nat := yd_B st (8 - j) (yd_l st w j)
theorem yd_l_le (st : Nat → Nat) (w : Nat) : ∀ j, yd_l st w j ≤ w
  | 0 => Nat.le_refl _
  | j + 1 => by
    have := yd_l_le st w j
    show _ - _ ≤ _
    omega
theorem yi_1 {s v k : Nat} (h : k * (s + 1) ≤ v) : 61 * (nI (s + 1) - 1) + nI v - nI k * nI (s + 1) = nI (61 * s + (v - k * (s + 1))) := by
  rw [nI_pred, ni_61, pk_mul, pk_sub (by omega)]
  congr 1
  omega
theorem yi_2 {s v k : Nat} (h : k * (s + 1) ≤ v) : (nI (s + 1) - 1) * 61 + nI v - nI k * nI (s + 1) = nI (61 * s + (v - k * (s + 1))) := by
  rw [nI_pred, ni_61r, pk_mul, pk_sub (by omega)]
  congr 1
  omega
/-- the table of a width w is laid for the sizes below s, and of s for the widths below v -/
def yd_tb (st : Nat → Nat) (h : pv_H) (a w s v : Nat) : Prop := (∀ s' u, s' < s → u ≤ w → h a (61 * s' + u) = nI (yd_F st s' u)) ∧ ∀ u, u < v → h a (61 * s + u) = nI (yd_F st s u)
theorem yd_tb_up {st : Nat → Nat} {h : pv_H} {a w s v : Nat} (hw : w ≤ 60) (hv : v ≤ w) (t : yd_tb st h a w s v) : yd_tb st (pv_up h a (61 * s + v) (nI (yd_F st s v))) a w s (v + 1) := by
  refine ⟨fun s' u h1 h2 => ?_, fun u hu => ?_⟩
  · rw [pv_up_j (by omega)]; exact t.1 s' u h1 h2
  · by_cases q : u = v
    · rw [q, pv_up_same]
    · rw [pv_up_j (by omega)]; exact t.2 u (by omega)
theorem yd_tb_nx {st : Nat → Nat} {h : pv_H} {a w s : Nat} (t : yd_tb st h a w s (w + 1)) : yd_tb st h a w (s + 1) 0 := by
  refine ⟨fun s' u h1 h2 => ?_, fun u hu => absurd hu (by omega)⟩
  by_cases q : s' = s
  · rw [q]; exact t.2 u (by omega)
  · exact t.1 s' u (by omega) h2
/-- the stock -/
def yd_st (st : Nat → Nat) (h : pv_H) (a : Nat) : Prop := ∀ i, i < 10 → st i ≤ 999 ∧ h a i = nI (st i)
