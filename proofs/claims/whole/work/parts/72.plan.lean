/-! plan, pure: the best of all choices, in their order -/
def qp_u (c : Nat → Nat) (i y : Nat) : Nat → Nat := fun k => if k = i then y else c k
theorem qp_u_s (c : Nat → Nat) (i y : Nat) : qp_u c i y i = y := if_pos rfl
theorem qp_u_n {c : Nat → Nat} {i y k : Nat} (h : k ≠ i) : qp_u c i y k = c k := if_neg h
/-- worth of the streets below i; what they cost in the year y; in all -/
def qp_w (B : Nat → Bool) (n : Nat) (W : Nat → Nat → Int32) (c : Nat → Nat) : Nat → Int32
  | 0 => 0
  | i + 1 => if B i = true ∧ c i ≠ n then qp_w B n W c i + W i (c i) else qp_w B n W c i
def qp_s (B : Nat → Bool) (n : Nat) (P : Nat → Nat → Nat) (c : Nat → Nat) (y : Nat) : Nat → Nat
  | 0 => 0
  | i + 1 => if B i = true ∧ c i ≠ n ∧ c i = y then qp_s B n P c y i + P i y else qp_s B n P c y i
def qp_x (B : Nat → Bool) (n : Nat) (P : Nat → Nat → Nat) (c : Nat → Nat) (i : Nat) : Nat := qp_s B n P c 0 i + qp_s B n P c 1 i + qp_s B n P c 2 i
abbrev qp_b : Type := Int32 × Int32 × (Nat → Nat)
def qp_keep (b : qp_b) (w x : Int32) (c : Nat → Nat) : qp_b := if b.1 < w ∨ (w = b.1 ∧ x < b.2.1) then (w, x, c) else b
def qp_ev (B : Nat → Bool) (n : Nat) (W : Nat → Nat → Int32) (P : Nat → Nat → Nat) (M : Nat → Nat) (c : Nat → Nat) (b : qp_b) : qp_b := if qp_s B n P c 0 8 ≤ M 0 ∧ qp_s B n P c 1 8 ≤ M 1 ∧ qp_s B n P c 2 8 ≤ M 2 then qp_keep b (qp_w B n W c 8) (nI (qp_x B n P c 8)) c else b
def qp_f (F : Nat → qp_b → qp_b) : Nat → qp_b → qp_b
  | 0, b => b
  | y + 1, b => F y (qp_f F y b)
/-- all choices for the last j streets -/
def qp_r (B : Nat → Bool) (n : Nat) (W : Nat → Nat → Int32) (P : Nat → Nat → Nat) (M : Nat → Nat) : Nat → (Nat → Nat) → qp_b → qp_b
  | 0, c, b => qp_ev B n W P M c b
  | j + 1, c, b => if B (7 - j) = true then qp_f (fun y b => qp_r B n W P M j (qp_u c (7 - j) y) b) (n + 1) b else qp_r B n W P M j (qp_u c (7 - j) 0) b
section PLP
variable {B : Nat → Bool} {n : Nat} {W : Nat → Nat → Int32} {P : Nat → Nat → Nat} {M : Nat → Nat} {c c' : Nat → Nat}
theorem qp_w_c : ∀ {i : Nat}, (∀ k, k < i → c k = c' k) → qp_w B n W c i = qp_w B n W c' i
  | 0, _ => rfl
  | i + 1, h => by unfold qp_w; rw [qp_w_c (fun k hk => h k (by omega)), h i (by omega)]
theorem qp_s_c {y : Nat} : ∀ {i : Nat}, (∀ k, k < i → c k = c' k) → qp_s B n P c y i = qp_s B n P c' y i
  | 0, _ => rfl
  | i + 1, h => by unfold qp_s; rw [qp_s_c (fun k hk => h k (by omega)), h i (by omega)]
theorem qp_w_u (i y : Nat) : qp_w B n W (qp_u c i y) (i + 1) = if B i = true ∧ y ≠ n then qp_w B n W c i + W i y else qp_w B n W c i := by
  show (if _ then _ else _) = _
  rw [qp_u_s, qp_w_c (c := qp_u c i y) (c' := c) (fun k hk => qp_u_n (by omega))]
theorem qp_s_u (i y y' : Nat) : qp_s B n P (qp_u c i y) y' (i + 1) = if B i = true ∧ y ≠ n ∧ y = y' then qp_s B n P c y' i + P i y' else qp_s B n P c y' i := by
  show (if _ then _ else _) = _
  rw [qp_u_s, qp_s_c (c := qp_u c i y) (c' := c) (fun k hk => qp_u_n (by omega))]
theorem qp_s_le {y i : Nat} : ∀ k, qp_s B n P c y i ≤ qp_s B n P c y (i + k)
  | 0 => Nat.le_refl _
  | k + 1 => by
    have : qp_s B n P c y i ≤ qp_s B n P c y (i + k) := qp_s_le k
    rw [← Nat.add_assoc]
    show _ ≤ (if B (i + k) = true ∧ c (i + k) ≠ n ∧ c (i + k) = y then qp_s B n P c y (i + k) + P (i + k) y else qp_s B n P c y (i + k))
    split
    · exact Nat.le_trans this (Nat.le_add_right _ _)
    · exact this
theorem qp_f_id {F : Nat → qp_b → qp_b} (h : ∀ y b, F y b = b) : ∀ k b, qp_f F k b = b
  | 0, _ => rfl
  | k + 1, b => by show F k (qp_f F k b) = b; rw [qp_f_id h k b, h]
theorem qp_r_no {y : Nat} (hy : y < 3) : ∀ (j : Nat) (c : Nat → Nat) (b : qp_b), j ≤ 8 → M y < qp_s B n P c y (8 - j) → qp_r B n W P M j c b = b
  | 0, c, b, _, h => by
    show (if _ then _ else _) = _
    rw [if_neg]
    rintro ⟨h0, h1, h2⟩
    rw [Nat.sub_zero] at h
    have : y = 0 ∨ y = 1 ∨ y = 2 := by omega
    rcases this with rfl | rfl | rfl <;> omega
  | j + 1, c, b, hj, h => by
    have hk : ∀ v, M y < qp_s B n P (qp_u c (7 - j) v) y (8 - j) := fun v => by
      have e1 := qp_s_le (B := B) (n := n) (P := P) (c := qp_u c (7 - j) v) (y := y) (i := 7 - j) 1
      rw [show 7 - j + 1 = 8 - j by omega, qp_s_c (c := qp_u c (7 - j) v) (c' := c) (fun k hk => qp_u_n (by omega))] at e1
      rw [show 8 - (j + 1) = 7 - j by omega] at h
      omega
    show (if _ then _ else _) = _
    split
    · exact qp_f_id (fun v b => qp_r_no hy j _ b (by omega) (hk v)) _ _
    · exact qp_r_no hy j _ b (by omega) (hk 0)
/-- what is found is worth something -/
theorem qp_keep_ge (b : qp_b) (w x : Int32) (c : Nat → Nat) : b.1 ≤ (qp_keep b w x c).1 ∧ w ≤ (qp_keep b w x c).1 := by
  unfold qp_keep
  split
  · rename_i q
    refine ⟨?_, Int32.le_refl _⟩
    rcases q with q | q
    · exact Int32.le_of_lt q
    · rw [q.1]; exact Int32.le_refl _
  · rename_i q
    exact ⟨Int32.le_refl _, Int32.not_lt.mp (fun z => q (Or.inl z))⟩
theorem qp_ev_ge (c : Nat → Nat) (b : qp_b) : b.1 ≤ (qp_ev B n W P M c b).1 := by
  unfold qp_ev
  split
  · exact (qp_keep_ge _ _ _ _).1
  · exact Int32.le_refl _
theorem qp_f_ge {F : Nat → qp_b → qp_b} (h : ∀ y b, b.1 ≤ (F y b).1) : ∀ k b, b.1 ≤ (qp_f F k b).1
  | 0, _ => Int32.le_refl _
  | k + 1, b => Int32.le_trans (qp_f_ge h k b) (h k _)
theorem qp_r_ge : ∀ (j : Nat) (c : Nat → Nat) (b : qp_b), b.1 ≤ (qp_r B n W P M j c b).1
  | 0, c, b => qp_ev_ge c b
  | j + 1, c, b => by
    show _ ≤ (if _ then _ else _ : qp_b).1
    split
    · exact qp_f_ge (fun y b => qp_r_ge j _ b) _ _
    · exact qp_r_ge j _ b
/-- with nothing chosen below, the answer is at least nought -/
theorem qp_r_0 : ∀ (j : Nat) (c : Nat → Nat) (b : qp_b), j ≤ 8 → (∀ i, i < 8 - j → B i = true → c i = n) → 0 ≤ (qp_r B n W P M j c b).1
  | 0, c, b, _, h => by
    have hs : ∀ y i, i ≤ 8 → qp_s B n P c y i = 0 := fun y i => by
      induction i with
      | zero => intro _; rfl
      | succ i ih =>
        intro hi
        show (if _ then _ else _) = 0
        rw [if_neg (fun q => q.2.1 (h i (by omega) q.1))]
        exact ih (by omega)
    have hw : ∀ i, i ≤ 8 → qp_w B n W c i = 0 := fun i => by
      induction i with
      | zero => intro _; rfl
      | succ i ih =>
        intro hi
        show (if B i = true ∧ c i ≠ n then qp_w B n W c i + W i (c i) else qp_w B n W c i) = 0
        rw [if_neg (fun q => q.2 (h i (by omega) q.1))]
        exact ih (by omega)
    show 0 ≤ (qp_ev B n W P M c b).1
    unfold qp_ev
    rw [if_pos ⟨by rw [hs 0 8 (by omega)]; omega, by rw [hs 1 8 (by omega)]; omega, by rw [hs 2 8 (by omega)]; omega⟩, hw 8 (by omega)]
    exact (qp_keep_ge _ _ _ _).2
  | j + 1, c, b, hj, h => by
    unfold qp_r
    split
    · show 0 ≤ (qp_r B n W P M j (qp_u c (7 - j) n) _).1
      refine qp_r_0 j _ _ (by omega) (fun i hi hb => ?_)
      by_cases q : i = 7 - j
      · rw [q, qp_u_s]
      · rw [qp_u_n q]; exact h i (by omega) hb
    · rename_i q
      refine qp_r_0 j _ _ (by omega) (fun i hi hb => ?_)
      have : i ≠ 7 - j := fun e => q (e ▸ hb)
      rw [qp_u_n this]; exact h i (by omega) hb
end PLP
/-- how many of the set lie below i -/
def qp_n (B : Nat → Bool) : Nat → Nat
  | 0 => 0
  | i + 1 => if B i = true then qp_n B i + 1 else qp_n B i
theorem qp_n_le {B : Nat → Bool} {i : Nat} : ∀ k, qp_n B i ≤ qp_n B (i + k)
  | 0 => Nat.le_refl _
  | k + 1 => by
    have := qp_n_le (B := B) (i := i) k
    rw [← Nat.add_assoc]
    show qp_n B i ≤ (if B (i + k) = true then qp_n B (i + k) + 1 else qp_n B (i + k))
    split
    · omega
    · exact this
theorem qp_n_lt {B : Nat → Bool} {i i' : Nat} (hB : B i = true) (h : i < i') : qp_n B i < qp_n B i' := by
  have := qp_n_le (B := B) (i := i + 1) (i' - (i + 1))
  rw [show i + 1 + (i' - (i + 1)) = i' by omega] at this
  have e : qp_n B (i + 1) = qp_n B i + 1 := by show (if _ then _ else _) = _; rw [if_pos hB]
  omega
