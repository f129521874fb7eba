/-! level, pure: the least earth behind a column, the lowest of the best heights -/
def lv_m (P : Nat → Bool) (G : Nat → Int32) : Nat → Int32
  | 0 => 1000000
  | n + 1 => if P n = true ∧ G n < lv_m P G n then G n else lv_m P G n
def lv_a (P : Nat → Bool) (G : Nat → Int32) : Nat → Int32
  | 0 => -1
  | n + 1 => if P n = true ∧ G n < lv_m P G n then nI n else lv_a P G n
def lv_r (G : Nat → Int32) : Nat → Nat
  | 0 => 0
  | n + 1 => if G n < G (lv_r G n) then n else lv_r G n
theorem lv_skip {P : Nat → Bool} {G : Nat → Int32} {n : Nat} : ∀ m, (∀ b, n ≤ b → b < n + m → P b = false) → lv_m P G (n + m) = lv_m P G n ∧ lv_a P G (n + m) = lv_a P G n
  | 0, _ => ⟨rfl, rfl⟩
  | m + 1, hp => by
    obtain ⟨i1, i2⟩ := lv_skip (G := G) m (fun b h1 h2 => hp b h1 (by omega))
    have e : ¬ (P (n + m) = true ∧ G (n + m) < lv_m P G (n + m)) := fun q => by rw [hp (n + m) (by omega) (by omega)] at q; exact absurd q.1 (by decide)
    rw [← Nat.add_assoc]
    refine ⟨?_, ?_⟩
    · show (if _ then _ else _) = _; rw [if_neg e]; exact i1
    · show (if _ then _ else _) = _; rw [if_neg e]; exact i2
theorem lv_congr {P : Nat → Bool} {G G' : Nat → Int32} : ∀ n, (∀ b, b < n → G b = G' b) → lv_m P G n = lv_m P G' n ∧ lv_a P G n = lv_a P G' n
  | 0, _ => ⟨rfl, rfl⟩
  | n + 1, hg => by
    obtain ⟨i1, i2⟩ := lv_congr (P := P) n (fun b hb => hg b (by omega))
    unfold lv_m lv_a
    rw [i1, i2, hg n (by omega)]
    exact ⟨rfl, rfl⟩
def lv_is (P : Nat → Bool) (G : Nat → Int32) (n b : Nat) : Prop := b < n ∧ lv_a P G n = nI b ∧ P b = true ∧ G b = lv_m P G n ∧ ∀ b', b' < b → P b' = true → G b' ≠ lv_m P G n
theorem lv_all (P : Nat → Bool) (G : Nat → Int32) : ∀ n, lv_m P G n ≤ 1000000 ∧ (∀ b, b < n → P b = true → lv_m P G n ≤ G b) ∧ ((lv_a P G n = -1 ∧ lv_m P G n = 1000000) ∨ (lv_m P G n < 1000000 ∧ ∃ b, lv_is P G n b))
  | 0 => ⟨Int32.le_refl _, fun b hb => absurd hb (by omega), Or.inl ⟨rfl, rfl⟩⟩
  | n + 1 => by
    obtain ⟨a1, a2, a3⟩ := lv_all P G n
    by_cases c : P n = true ∧ G n < lv_m P G n
    · have e1 : lv_m P G (n + 1) = G n := by show (if _ then _ else _) = _; rw [if_pos c]
      have e2 : lv_a P G (n + 1) = nI n := by show (if _ then _ else _) = _; rw [if_pos c]
      have l1 : G n < 1000000 := Int32.lt_of_lt_of_le c.2 a1
      have l2 : ∀ b, b < n + 1 → P b = true → G n ≤ G b := fun b hb hp => by
        by_cases q : b = n
        · rw [q]; exact Int32.le_refl _
        · exact Int32.le_trans (Int32.le_of_lt c.2) (a2 b (by omega) hp)
      unfold lv_is
      rw [e1, e2]
      refine ⟨Int32.le_of_lt l1, l2, Or.inr ⟨l1, n, Nat.lt_succ_self _, rfl, c.1, rfl, fun b' hb hp q => ?_⟩⟩
      have := a2 b' hb hp
      rw [q] at this
      exact Int32.not_lt.mpr this c.2
    · have e1 : lv_m P G (n + 1) = lv_m P G n := by show (if _ then _ else _) = _; rw [if_neg c]
      have e2 : lv_a P G (n + 1) = lv_a P G n := by show (if _ then _ else _) = _; rw [if_neg c]
      unfold lv_is at a3 ⊢
      rw [e1, e2]
      refine ⟨a1, fun b hb hp => ?_, ?_⟩
      · by_cases q : b = n
        · rw [q] at hp ⊢; exact Int32.not_lt.mp (fun z => c ⟨hp, z⟩)
        · exact a2 b (by omega) hp
      · rcases a3 with a3 | ⟨a3, b, b1, b2⟩
        · exact Or.inl a3
        · exact Or.inr ⟨a3, b, by omega, b2⟩
theorem lv_a_m (P : Nat → Bool) (G : Nat → Int32) (n : Nat) (hn : n < 1000) : (lv_a P G n = -1 ↔ lv_m P G n = 1000000) := by
  rcases (lv_all P G n).2.2 with ⟨a, b⟩ | ⟨a, b, c, e, _⟩
  · exact ⟨fun _ => b, fun _ => a⟩
  · exact ⟨fun q => absurd (e.symm.trans q) (ni_n1 (by omega)), fun q => absurd (q ▸ a) Int32.lt_irrefl⟩
theorem lv_r_a (G : Nat → Int32) : ∀ n, 1 ≤ n → lv_r G n < n ∧ (G (lv_r G n) < 1000000 → lv_m (fun _ => true) G n = G (lv_r G n) ∧ lv_a (fun _ => true) G n = nI (lv_r G n)) ∧ (¬ G (lv_r G n) < 1000000 → lv_m (fun _ => true) G n = 1000000 ∧ lv_a (fun _ => true) G n = -1)
  | 0, h => absurd h (by omega)
  | 1, _ => by
    have e0 : lv_r G 1 = 0 := by show (if G 0 < G 0 then 0 else 0) = 0; split <;> rfl
    rw [e0]
    refine ⟨by omega, fun c => ⟨?_, ?_⟩, fun c => ⟨?_, ?_⟩⟩
    · show (if _ then _ else _) = _; rw [if_pos ⟨rfl, c⟩]
    · show (if _ then _ else _) = _; rw [if_pos ⟨rfl, c⟩]
    · show (if _ then _ else _) = _; rw [if_neg (fun q => c q.2)]; rfl
    · show (if _ then _ else _) = _; rw [if_neg (fun q => c q.2)]; rfl
  | n + 2, _ => by
    obtain ⟨i0, i1, i2⟩ := lv_r_a G (n + 1) (by omega)
    have e0 : lv_r G (n + 2) = if G (n + 1) < G (lv_r G (n + 1)) then n + 1 else lv_r G (n + 1) := rfl
    have e1 : lv_m (fun _ => true) G (n + 2) = if true = true ∧ G (n + 1) < lv_m (fun _ => true) G (n + 1) then G (n + 1) else lv_m (fun _ => true) G (n + 1) := rfl
    have e2 : lv_a (fun _ => true) G (n + 2) = if true = true ∧ G (n + 1) < lv_m (fun _ => true) G (n + 1) then nI (n + 1) else lv_a (fun _ => true) G (n + 1) := rfl
    by_cases c : G (lv_r G (n + 1)) < 1000000
    · obtain ⟨j1, j2⟩ := i1 c
      rw [e0, e1, e2, j1, j2]
      by_cases c2 : G (n + 1) < G (lv_r G (n + 1))
      · rw [if_pos c2, if_pos ⟨rfl, c2⟩, if_pos ⟨rfl, c2⟩]
        exact ⟨by omega, fun _ => ⟨rfl, rfl⟩, fun q => absurd (Int32.lt_trans c2 c) q⟩
      · rw [if_neg c2, if_neg (fun q => c2 q.2), if_neg (fun q => c2 q.2)]
        exact ⟨by omega, fun _ => ⟨rfl, rfl⟩, fun q => absurd c q⟩
    · obtain ⟨j1, j2⟩ := i2 c
      rw [e0, e1, e2, j1, j2]
      by_cases c2 : G (n + 1) < 1000000
      · rw [if_pos (Int32.lt_of_lt_of_le c2 (Int32.not_lt.mp c)), if_pos ⟨rfl, c2⟩, if_pos ⟨rfl, c2⟩]
        exact ⟨by omega, fun _ => ⟨rfl, rfl⟩, fun q => absurd c2 q⟩
      · have c4 : ¬ (true = true ∧ G (n + 1) < 1000000) := fun q => c2 q.2
        rw [if_neg c4, if_neg c4]
        by_cases c3 : G (n + 1) < G (lv_r G (n + 1))
        · rw [if_pos c3]; exact ⟨by omega, fun q => absurd q c2, fun _ => ⟨rfl, rfl⟩⟩
        · rw [if_neg c3]; exact ⟨by omega, fun q => absurd q c, fun _ => ⟨rfl, rfl⟩⟩
/-- may the next column have the height b, where column c has a? -/
def lv_ok (k f e c a b : Nat) : Bool := if k ≤ c then decide (a + f ≤ b ∧ b ≤ a + e) else decide (b + f ≤ a ∧ a ≤ b + e)
/-- least earth of the column with j behind it -/
def lv_T (O : Nat → Int32) (C k f e : Nat) : Nat → Nat → Int32
  | 0, a => pf_abs (nI a - O (C - 1))
  | j + 1, a => if lv_m (lv_ok k f e (C - 2 - j) a) (lv_T O C k f e j) 100 = 1000000 then 1000000 else lv_m (lv_ok k f e (C - 2 - j) a) (lv_T O C k f e j) 100 + pf_abs (nI a - O (C - 2 - j))
def lv_G (O : Nat → Int32) (C k f e c : Nat) : Nat → Int32 := lv_T O C k f e (C - 1 - c)
section LG
variable {O : Nat → Int32} {C k f e : Nat}
theorem lv_G_l {c : Nat} (h : c + 1 = C) (a : Nat) : lv_G O C k f e c a = pf_abs (nI a - O c) := by
  unfold lv_G
  rw [show C - 1 - c = 0 by omega]
  show pf_abs (nI a - O (C - 1)) = _
  rw [show C - 1 = c by omega]
theorem lv_G_s {c : Nat} (h : c + 1 < C) (a : Nat) : lv_G O C k f e c a = if lv_m (lv_ok k f e c a) (lv_G O C k f e (c + 1)) 100 = 1000000 then 1000000 else lv_m (lv_ok k f e c a) (lv_G O C k f e (c + 1)) 100 + pf_abs (nI a - O c) := by
  unfold lv_G
  rw [show C - 1 - c = (C - 1 - (c + 1)) + 1 by omega]
  conv => lhs; unfold lv_T
  rw [show C - 2 - (C - 1 - (c + 1)) = c by omega]
/-- the lowest of the best heights, column by column -/
def lv_p (O : Nat → Int32) (C k f e : Nat) : Nat → Nat
  | 0 => (lv_a (fun _ => true) (lv_G O C k f e 0) 100).toNatClampNeg
  | c + 1 => (lv_a (lv_ok k f e c (lv_p O C k f e c)) (lv_G O C k f e (c + 1)) 100).toNatClampNeg
theorem lv_p_0 (hm : lv_m (fun _ => true) (lv_G O C k f e 0) 100 < 1000000) : lv_is (fun _ => true) (lv_G O C k f e 0) 100 (lv_p O C k f e 0) ∧ lv_G O C k f e 0 (lv_p O C k f e 0) < 1000000 := by
  rcases (lv_all (fun _ => true) (lv_G O C k f e 0) 100).2.2 with ⟨_, b⟩ | ⟨_, b, hb⟩
  · exact absurd (b ▸ hm) Int32.lt_irrefl
  · have : lv_p O C k f e 0 = b := by show Int32.toNatClampNeg _ = _; rw [hb.2.1]; exact nI_clamp (by have := hb.1; omega)
    rw [this]
    refine ⟨hb, ?_⟩
    rw [hb.2.2.2.1]; exact hm
theorem lv_p_s {c : Nat} (hc : c + 1 < C) (hm : lv_G O C k f e c (lv_p O C k f e c) < 1000000) : lv_is (lv_ok k f e c (lv_p O C k f e c)) (lv_G O C k f e (c + 1)) 100 (lv_p O C k f e (c + 1)) ∧ lv_G O C k f e (c + 1) (lv_p O C k f e (c + 1)) < 1000000 ∧ lv_G O C k f e c (lv_p O C k f e c) - pf_abs (nI (lv_p O C k f e c) - O c) = lv_m (lv_ok k f e c (lv_p O C k f e c)) (lv_G O C k f e (c + 1)) 100 := by
  have e1 := lv_G_s (O := O) (k := k) (f := f) (e := e) hc (lv_p O C k f e c)
  rcases (lv_all (lv_ok k f e c (lv_p O C k f e c)) (lv_G O C k f e (c + 1)) 100).2.2 with ⟨_, b⟩ | ⟨hlt, b, hb⟩
  · rw [if_pos b] at e1
    rw [e1] at hm
    exact absurd hm Int32.lt_irrefl
  · have : lv_p O C k f e (c + 1) = b := by show Int32.toNatClampNeg _ = _; rw [hb.2.1]; exact nI_clamp (by have := hb.1; omega)
    rw [this]
    refine ⟨hb, ?_, ?_⟩
    · rw [hb.2.2.2.1]; exact hlt
    · rw [e1, if_neg (fun q => absurd (q ▸ hlt) Int32.lt_irrefl), Int32.add_sub_cancel]
theorem lv_p_c (hm : lv_m (fun _ => true) (lv_G O C k f e 0) 100 < 1000000) : ∀ c, c < C → lv_p O C k f e c < 100 ∧ lv_G O C k f e c (lv_p O C k f e c) < 1000000
  | 0, _ => ⟨(lv_p_0 hm).1.1, (lv_p_0 hm).2⟩
  | c + 1, hc => by
    have i := lv_p_c hm c (by omega)
    have j := lv_p_s hc i.2
    exact ⟨j.1.1, j.2.1⟩
theorem lv_T_c {O' : Nat → Int32} (h0 : 0 < C) (hO : ∀ c, c < C → O c = O' c) : ∀ j a, lv_T O C k f e j a = lv_T O' C k f e j a
  | 0, a => by unfold lv_T; rw [hO (C - 1) (by omega)]
  | j + 1, a => by
    have : lv_T O C k f e j = lv_T O' C k f e j := funext (lv_T_c h0 hO j)
    unfold lv_T
    rw [this, hO (C - 2 - j) (by omega)]
theorem lv_G_c {O' : Nat → Int32} (h0 : 0 < C) (hO : ∀ c, c < C → O c = O' c) (c : Nat) : lv_G O C k f e c = lv_G O' C k f e c := funext (lv_T_c h0 hO _)
theorem lv_p_o {O' : Nat → Int32} (h0 : 0 < C) (hO : ∀ c, c < C → O c = O' c) : ∀ c, lv_p O C k f e c = lv_p O' C k f e c
  | 0 => by unfold lv_p; rw [lv_G_c h0 hO 0]
  | c + 1 => by unfold lv_p; rw [lv_p_o h0 hO c, lv_G_c h0 hO (c + 1)]
end LG
/-- a table of least earth: the columns behind c are laid, and column c below n -/
def lv_tb (O : Nat → Int32) (C k f e : Nat) (h : pv_H) (A c n : Nat) : Prop := (∀ c' a, c < c' → c' < C → a < 100 → h A (100 * c' + a) = lv_G O C k f e c' a) ∧ ∀ a, a < n → h A (100 * c + a) = lv_G O C k f e c a
theorem lv_tb_up {O : Nat → Int32} {C k f e : Nat} {h : pv_H} {A c n : Nat} (hn : n < 100) (t : lv_tb O C k f e h A c n) {v : Int32} (hv : v = lv_G O C k f e c n) : lv_tb O C k f e (pv_up h A (100 * c + n) v) A c (n + 1) := by
  refine ⟨fun c' a h1 h2 h3 => ?_, fun a ha => ?_⟩
  · rw [pv_up_j (by omega)]; exact t.1 c' a h1 h2 h3
  · by_cases q : a = n
    · rw [q, pv_up_same]; exact hv
    · rw [pv_up_j (by omega)]; exact t.2 a (by omega)
theorem lv_tb_nx {O : Nat → Int32} {C k f e : Nat} {h : pv_H} {A c : Nat} (t : lv_tb O C k f e h A (c + 1) 100) : lv_tb O C k f e h A c 0 := by
  refine ⟨fun c' a h1 h2 h3 => ?_, fun a ha => absurd ha (by omega)⟩
  by_cases q : c' = c + 1
  · rw [q]; exact t.2 a h3
  · exact t.1 c' a (by omega) h2 h3
theorem lv_tb_fr {O : Nat → Int32} {C k f e : Nat} {h h' : pv_H} {A c n : Nat} (he : h' A = h A) (t : lv_tb O C k f e h A c n) : lv_tb O C k f e h' A c n := by
  unfold lv_tb
  rw [he]
  exact t
