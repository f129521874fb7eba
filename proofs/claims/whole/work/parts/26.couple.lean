/-! both sides' water is one -/
theorem wt_it_cg {α : Type} {f g : α → α} {P : α → Prop} (hP : ∀ a, P a → P (f a)) (he : ∀ a, P a → f a = g a) : ∀ (n : Nat) (a : α), P a → wt_it f n a = wt_it g n a
  | 0, _, _ => rfl
  | n + 1, a, h => by
    show wt_it f n (f a) = wt_it g n (g a)
    rw [← he a h]
    exact wt_it_cg hP he n (f a) (hP a h)
section CQ
variable {R C : Nat} {H H' D D' : Nat → Nat → Int32}
theorem wt_b1_c (hH : ∀ q : Nat × Nat, wt_on R C q → H q.1 q.2 = H' q.1 q.2) {p : Nat × Nat} (hp : wt_on R C p) : wt_b1 H p = wt_b1 H' p ∧ wt_on R C (wt_b1 H p) := by
  have h1 := hp.1
  have h2 := hp.2
  constructor
  · unfold wt_b1
    by_cases q : 0 < p.1
    · rw [hH p hp, hH (p.1 - 1, p.2) ⟨by show p.1 - 1 < R; omega, h2⟩]
    · simp only [q, false_and, if_false]
  · unfold wt_on wt_b1
    split <;> (try dsimp only) <;> omega
theorem wt_b2_c (hH : ∀ q : Nat × Nat, wt_on R C q → H q.1 q.2 = H' q.1 q.2) {p : Nat × Nat} (hp : wt_on R C p) : wt_b2 H p = wt_b2 H' p ∧ wt_on R C (wt_b2 H p) := by
  have h1 := hp.1
  have h2 := hp.2
  obtain ⟨e, ho⟩ := wt_b1_c hH hp
  constructor
  · unfold wt_b2
    rw [← e, hH _ ho]
    by_cases q : 0 < p.2
    · rw [hH (p.1, p.2 - 1) ⟨h1, by show p.2 - 1 < C; omega⟩]
    · simp only [q, false_and, if_false]
  · unfold wt_on at ho ⊢
    unfold wt_b2
    split <;> (try dsimp only) <;> omega
theorem wt_b3_c (hH : ∀ q : Nat × Nat, wt_on R C q → H q.1 q.2 = H' q.1 q.2) {p : Nat × Nat} (hp : wt_on R C p) : wt_b3 C H p = wt_b3 C H' p ∧ wt_on R C (wt_b3 C H p) := by
  have h1 := hp.1
  have h2 := hp.2
  obtain ⟨e, ho⟩ := wt_b2_c hH hp
  constructor
  · unfold wt_b3
    rw [← e, hH _ ho]
    by_cases q : p.2 + 1 < C
    · rw [hH (p.1, p.2 + 1) ⟨h1, q⟩]
    · simp only [q, false_and, if_false]
  · unfold wt_on at ho ⊢
    unfold wt_b3
    split <;> (try dsimp only) <;> omega
theorem wt_nx_c (hH : ∀ q : Nat × Nat, wt_on R C q → H q.1 q.2 = H' q.1 q.2) (hD : ∀ q : Nat × Nat, wt_on R C q → D q.1 q.2 = D' q.1 q.2) {p : Nat × Nat} (hp : wt_on R C p) : wt_nx R C H D p = wt_nx R C H' D' p := by
  have h1 := hp.1
  have h2 := hp.2
  obtain ⟨e, ho⟩ := wt_b3_c hH hp
  unfold wt_nx
  rw [hD p hp]
  have e4 : wt_b4 R C H p = wt_b4 R C H' p := by
    unfold wt_b4
    rw [← e, hH _ ho]
    by_cases q : p.1 + 1 < R
    · rw [hH (p.1 + 1, p.2) ⟨q, h2⟩]
    · simp only [q, false_and, if_false]
  rw [e4]
theorem wt_it_c (hH : ∀ q : Nat × Nat, wt_on R C q → H q.1 q.2 = H' q.1 q.2) (hD : ∀ q : Nat × Nat, wt_on R C q → D q.1 q.2 = D' q.1 q.2) (n : Nat) {p : Nat × Nat} (hp : wt_on R C p) : wt_it (wt_nx R C H D) n p = wt_it (wt_nx R C H' D') n p := wt_it_cg (P := wt_on R C) (fun a ha => wt_nx_on ha) (fun a ha => wt_nx_c hH hD ha) n p hp
theorem wt_end_c (hH : ∀ q : Nat × Nat, wt_on R C q → H q.1 q.2 = H' q.1 q.2) (hD : ∀ q : Nat × Nat, wt_on R C q → D q.1 q.2 = D' q.1 q.2) {p : Nat × Nat} (hp : wt_on R C p) : wt_end R C H D p = wt_end R C H' D' p := by unfold wt_end; exact wt_it_c hH hD 100 hp
end CQ
/-- THE STREETS of both sides: street s of the class lies at the name 1000 + 4 s -/
abbrev cA (s : Nat) : Nat := 1000 + 4 * s
def cpS (ty : pv_T) (h : pv_H) (r : pv_R) (ns : Nat) : Prop := mStreets h ns ∧ h 100 1 = nI ns ∧ ∀ s, s < ns → r 110 s = cA s ∧ cStr ty h r (cA s) (mR h s) (mC h s) ∧ ∀ q : Nat × Nat, wt_on (mR h s) (mC h s) q → cH h (cA s) (mC h s) q.1 q.2 = mH h s q.1 q.2 ∧ cD h (cA s) (mC h s) q.1 q.2 = mD h s q.1 q.2
theorem cp_end {ty : pv_T} {h : pv_H} {r : pv_R} {ns s : Nat} (hI : cpS ty h r ns) (hs : s < ns) {p : Nat × Nat} (hp : wt_on (mR h s) (mC h s) p) : cEnd h (cA s) (mR h s) (mC h s) p = mEnd h s (mR h s) (mC h s) p :=
  wt_end_c (fun q hq => ((hI.2.2 s hs).2.2 q hq).1) (fun q hq => ((hI.2.2 s hs).2.2 q hq).2) hp
theorem st_mx_c {C : Nat} {e e' : Nat × Nat → Nat × Nat} : ∀ {n : Nat}, (∀ k, k < n → e (k / C, k % C) = e' (k / C, k % C)) → st_mx C e n = st_mx C e' n
  | 0, _ => rfl
  | n + 1, h => by
    show max (st_mx C e n) (st_oc C e (n + 1) (e (n / C, n % C))) = max (st_mx C e' n) (st_oc C e' (n + 1) (e' (n / C, n % C)))
    rw [st_mx_c (fun k hk => h k (by omega)), h n (by omega)]
    congr 1
    exact st_congr (fun k hk => by rw [h k hk])
