/-! water: pure -/
def wt_it {α : Type} (f : α → α) : Nat → α → α
  | 0, a => a
  | n + 1, a => wt_it f n (f a)
theorem wt_it_add {α : Type} (f : α → α) : ∀ (m n : Nat) (a : α), wt_it f (m + n) a = wt_it f n (wt_it f m a)
  | 0, n, a => by rw [Nat.zero_add]; rfl
  | m + 1, n, a => by rw [Nat.succ_add]; exact wt_it_add f m n (f a)
theorem wt_it_s {α : Type} (f : α → α) (n : Nat) (a : α) : wt_it f (n + 1) a = f (wt_it f n a) := wt_it_add f n 1 a
theorem wt_it_fix {α : Type} {f : α → α} {a : α} (h : f a = a) : ∀ n, wt_it f n a = a
  | 0 => rfl
  | n + 1 => by show wt_it f n (f a) = a; rw [h]; exact wt_it_fix h n
def wt_b1 (H : Nat → Nat → Int32) (p : Nat × Nat) : Nat × Nat := if 0 < p.1 ∧ H (p.1 - 1) p.2 < H p.1 p.2 then (p.1 - 1, p.2) else p
def wt_b2 (H : Nat → Nat → Int32) (p : Nat × Nat) : Nat × Nat := if 0 < p.2 ∧ H p.1 (p.2 - 1) < H (wt_b1 H p).1 (wt_b1 H p).2 then (p.1, p.2 - 1) else wt_b1 H p
def wt_b3 (C : Nat) (H : Nat → Nat → Int32) (p : Nat × Nat) : Nat × Nat := if p.2 + 1 < C ∧ H p.1 (p.2 + 1) < H (wt_b2 H p).1 (wt_b2 H p).2 then (p.1, p.2 + 1) else wt_b2 H p
def wt_b4 (R C : Nat) (H : Nat → Nat → Int32) (p : Nat × Nat) : Nat × Nat := if p.1 + 1 < R ∧ H (p.1 + 1) p.2 < H (wt_b3 C H p).1 (wt_b3 C H p).2 then (p.1 + 1, p.2) else wt_b3 C H p
/-- where water goes on to -/
def wt_nx (R C : Nat) (H D : Nat → Nat → Int32) (p : Nat × Nat) : Nat × Nat := if D p.1 p.2 = 1 then p else wt_b4 R C H p
def wt_lt (H : Nat → Nat → Int32) (p q : Nat × Nat) : Prop := q = p ∨ H q.1 q.2 < H p.1 p.2
theorem wt_lt_step {H : Nat → Nat → Int32} {p b q : Nat × Nat} {c : Prop} [Decidable c] (h : wt_lt H p b) : wt_lt H p (if c ∧ H q.1 q.2 < H b.1 b.2 then q else b) := by
  split
  · rename_i hc
    rcases h with h | h
    · rw [h] at hc; exact Or.inr hc.2
    · exact Or.inr (Int32.lt_trans hc.2 h)
  · exact h
theorem wt_b1_lt {H : Nat → Nat → Int32} {p : Nat × Nat} : wt_lt H p (wt_b1 H p) := wt_lt_step (q := (p.1 - 1, p.2)) (Or.inl rfl)
theorem wt_b2_lt {H : Nat → Nat → Int32} {p : Nat × Nat} : wt_lt H p (wt_b2 H p) := wt_lt_step (q := (p.1, p.2 - 1)) wt_b1_lt
theorem wt_b3_lt {C : Nat} {H : Nat → Nat → Int32} {p : Nat × Nat} : wt_lt H p (wt_b3 C H p) := wt_lt_step (q := (p.1, p.2 + 1)) wt_b2_lt
theorem wt_b4_lt {R C : Nat} {H : Nat → Nat → Int32} {p : Nat × Nat} : wt_lt H p (wt_b4 R C H p) := wt_lt_step (q := (p.1 + 1, p.2)) wt_b3_lt
theorem wt_nx_lt {R C : Nat} {H D : Nat → Nat → Int32} {p : Nat × Nat} : wt_lt H p (wt_nx R C H D p) := by
  unfold wt_nx
  split
  · exact Or.inl rfl
  · exact wt_b4_lt
def wt_on (R C : Nat) (p : Nat × Nat) : Prop := p.1 < R ∧ p.2 < C
theorem wt_nx_on {R C : Nat} {H D : Nat → Nat → Int32} {p : Nat × Nat} (h : wt_on R C p) : wt_on R C (wt_nx R C H D p) := by
  unfold wt_on at h ⊢
  have h1 : (wt_b1 H p).1 < R ∧ (wt_b1 H p).2 < C := by unfold wt_b1; split <;> (try dsimp only) <;> omega
  have h2 : (wt_b2 H p).1 < R ∧ (wt_b2 H p).2 < C := by unfold wt_b2; split <;> (try dsimp only) <;> omega
  have h3 : (wt_b3 C H p).1 < R ∧ (wt_b3 C H p).2 < C := by unfold wt_b3; split <;> (try dsimp only) <;> omega
  have h4 : (wt_b4 R C H p).1 < R ∧ (wt_b4 R C H p).2 < C := by unfold wt_b4; split <;> (try dsimp only) <;> omega
  unfold wt_nx
  split
  · exact h
  · exact h4
theorem wt_it_on {R C : Nat} {H D : Nat → Nat → Int32} : ∀ (n : Nat) {p : Nat × Nat}, wt_on R C p → wt_on R C (wt_it (wt_nx R C H D) n p)
  | 0, _, h => h
  | n + 1, _, h => wt_it_on n (wt_nx_on h)
def wt_ok (R C : Nat) (H : Nat → Nat → Int32) : Prop := ∀ p : Nat × Nat, wt_on R C p → 0 ≤ H p.1 p.2 ∧ H p.1 p.2 ≤ 99
theorem wt_stop {R C : Nat} {H D : Nat → Nat → Int32} (hok : wt_ok R C H) : ∀ (m : Nat) (p : Nat × Nat), wt_on R C p → (H p.1 p.2).toInt < m → wt_nx R C H D (wt_it (wt_nx R C H D) m p) = wt_it (wt_nx R C H D) m p
  | 0, p, hp, h => by
    have := Int32.le_iff_toInt_le.mp (hok p hp).1
    simp at this
    omega
  | m + 1, p, hp, h => by
    show wt_nx R C H D (wt_it (wt_nx R C H D) m (wt_nx R C H D p)) = wt_it (wt_nx R C H D) m (wt_nx R C H D p)
    rcases wt_nx_lt (R := R) (C := C) (H := H) (D := D) (p := p) with e | e
    · rw [e, wt_it_fix e, e]
    · refine wt_stop hok m _ (wt_nx_on hp) ?_
      have := Int32.lt_iff_toInt_lt.mp e
      omega
theorem wt_stop100 {R C : Nat} {H D : Nat → Nat → Int32} (hok : wt_ok R C H) {p : Nat × Nat} (hp : wt_on R C p) : wt_nx R C H D (wt_it (wt_nx R C H D) 100 p) = wt_it (wt_nx R C H D) 100 p := by
  refine wt_stop hok 100 p hp ?_
  have := Int32.le_iff_toInt_le.mp (hok p hp).2
  have e : (99 : Int32).toInt = 99 := by decide
  rw [e] at this
  omega
/-- where water comes to -/
def wt_end (R C : Nat) (H D : Nat → Nat → Int32) (p : Nat × Nat) : Nat × Nat := wt_it (wt_nx R C H D) 100 p
theorem wt_end_of {R C : Nat} {H D : Nat → Nat → Int32} (hok : wt_ok R C H) {p : Nat × Nat} (hp : wt_on R C p) {m : Nat} (hm : wt_nx R C H D (wt_it (wt_nx R C H D) m p) = wt_it (wt_nx R C H D) m p) : wt_it (wt_nx R C H D) m p = wt_end R C H D p := by
  have h1 := wt_it_fix hm 100
  have h2 := wt_it_fix (wt_stop100 (D := D) hok hp) m
  rw [← wt_it_add] at h1
  have h3 : wt_it (wt_nx R C H D) (100 + m) p = wt_it (wt_nx R C H D) 100 p := by rw [wt_it_add]; exact h2
  rw [Nat.add_comm] at h1
  rw [← h1, h3]
  rfl
theorem wt_end_ge {R C : Nat} {H D : Nat → Nat → Int32} (hok : wt_ok R C H) {p : Nat × Nat} (hp : wt_on R C p) {m : Nat} (hm : 100 ≤ m) : wt_it (wt_nx R C H D) m p = wt_end R C H D p := by
  obtain ⟨k, rfl⟩ : ∃ k, m = 100 + k := ⟨m - 100, by omega⟩
  rw [wt_it_add, wt_it_fix (wt_stop100 hok hp)]
  rfl
