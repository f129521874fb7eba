/-! bad: both sides -/
def wy_ok (g : pv_G) : Prop := ∀ n k, n ≤ 40 → k ≤ 40 → g 91 (41 * n + k) = cW n k
def fo_bad (x y z u : Int32) : Prop := (1 ≤ x ∧ x ≤ 40) ∧ (1 ≤ y ∧ y ≤ x) ∧ (0 ≤ z ∧ z ≤ y) ∧ (1 ≤ u ∧ u ≤ 9999)
def fn_bad (x y z u : Int32) : Int32 := bd_f x.toNatClampNeg y.toNatClampNeg z.toNatClampNeg u (x.toNatClampNeg - y.toNatClampNeg)
theorem bd_x {x y z u : Int32} (q : fo_bad x y z u) : ∃ N n b, N ≤ 40 ∧ n ≤ N ∧ b ≤ n ∧ x = nI N ∧ y = nI n ∧ z = nI b := by
  obtain ⟨⟨a1, a2⟩, ⟨b1, b2⟩, ⟨c1, c2⟩, -⟩ := q
  obtain ⟨N, h1, rfl⟩ := nI_of (x := x) (by grind)
  obtain ⟨n, h2, rfl⟩ := nI_of (x := y) (by grind)
  obtain ⟨b, h3, rfl⟩ := nI_of (x := z) (by grind)
  exact ⟨N, n, b, (nI_leI (b := 40) h1 (by decide)).mp a2, (nI_leI h2 h1).mp b2, (nI_leI h3 h2).mp c2, rfl, rfl, rfl⟩
theorem ni_41 (n k : Nat) : nI n * 41 + nI k = nI (41 * n + k) := by rw [show (41 : Int32) = nI 41 from rfl, pk_mul, nI_add, Nat.mul_comm]
theorem ni_41l (n k : Nat) : 41 * nI n + nI k = nI (41 * n + k) := by rw [show (41 : Int32) = nI 41 from rfl, pk_mul, nI_add]
section BA
variable {Γ : pv_C} {d kc ks : Nat} {ty : pv_T} {h : pv_H} {r : pv_R} {g : pv_G} {Q : pv_Q} {N n b : Nat} {u : Int32}
theorem bd_c6 (hL : pv_Lay ty r) (hW : wy_ok g) (hN : N ≤ 40) (hn : n ≤ N) (hb : b ≤ n) {B : Nat} (hB : B ≤ N) (hQ : Q (some (.long (bd_s N n B (b + 1)))) ty h r g) : ∀ (m k : Nat), k + m = b + 1 → pv_E Γ d kc ks mX5_waysWithFew 6 [some (.ref 90), some (.int (nI N)), some (.int (nI n)), some (.int (nI b)), some (.int (nI B)), some (.long (bd_s N n B k)), none, some (.int (nI k))] [] ty h r g Q := by
  intro m
  induction m with
  | zero =>
    intro k hk
    rw [show k = b + 1 by omega]
    exact sg_X5_waysWithFew_6 _ _ _ _ _ _ hL (pk_lt b (b + 1) (fun _ => hQ) (fun c => absurd c (by omega)))
  | succ m ih =>
    intro k hk
    have e2 : (nI N - nI B) * 41 + nI n - nI k = nI (41 * (N - B) + (n - k)) := by
      rw [pk_sub hB, ni_41, pk_sub (by omega)]
      congr 1
      omega
    refine sg_X5_waysWithFew_6 _ _ _ _ _ _ hL (pk_lt b k (fun c => absurd c (by omega)) (fun _ => ?_))
    rw [ni_41, e2, nI_clamp (by omega), nI_clamp (by omega), hW B k (by omega) (by omega), hW (N - B) (n - k) (by omega) (by omega), nI_1]
    exact ⟨vp_in_nI (by omega) (by decide), vp_in_nI (by omega) (by decide), ih (k + 1) (by omega)⟩
theorem bd_c7 (hd : 1 ≤ d) (hL : pv_Lay ty r) (hW : wy_ok g) (hN : N ≤ 40) (hn : n ≤ N) (hb : b ≤ n) : ∀ (m : Nat), m ≤ N - n → Q (some (.int (bd_f N n b u m))) ty h r g → pv_E Γ d kc ks mX5_mostBad 7 [some (.ref 90), some (.int (nI N)), some (.int (nI n)), some (.int (nI b)), some (.int u), some (.int (nI (b + m)))] [] ty h r g Q
  | 0, _, hQ => sg_X5_mostBad_7 _ _ _ _ _ hd hL (pk_le b b (fun _ => hQ) (fun c => absurd c (by omega)))
  | m + 1, hm, hQ => by
    have hu : bd_f N n b u (m + 1) = if lg_cmp (10000 * bd_s N n (b + m + 1) (b + 1)) (u.toInt64 * cW N n) < 0 then bd_f N n b u m else nI (b + m + 1) := rfl
    rw [hu] at hQ
    rw [show b + (m + 1) = b + m + 1 by omega]
    refine sg_X5_mostBad_7 _ _ _ _ _ hd hL (pk_le (b + m + 1) b (fun c => absurd c (by omega)) (fun _ => pv_fn 3 pn_X5 rfl (Nat.le_of_ble_eq_true rfl) (sg_X5_waysWithFew_0 _ _ _ _ (bd_c6 hL hW hN hn hb (B := b + m + 1) (by omega) ⟨_, rfl, hL, ?_⟩ (b + 1) 0 (Nat.zero_add _)))))
    rw [ni_41, nI_clamp (by omega), hW N n hN (by omega)]
    refine ⟨vp_in_nI (by omega) (by decide), fun c => ?_, fun c => ?_⟩
    · rw [if_pos c] at hQ
      rw [pk_m1]
      exact bd_c7 hd hL hW hN hn hb m (by omega) hQ
    · rw [if_neg c] at hQ
      exact hQ
theorem ct_X11_bad (hd : 3 ≤ d) (hL : pv_Lay ty r) (hW : wy_ok g) {x y z : Int32} {k : pv_Q} (h1 : ¬ fo_bad x y z u → k (some (.int (-1))) ty h r g) (h2 : fo_bad x y z u → k (some (.int (fn_bad x y z u))) ty h r g) : pv_CT Γ d 0 0 mX11_bad [.ref 100, .int x, .int y, .int z, .int u] ty h r g k := by
  refine pv_fn 0 pn_X11 rfl (Nat.le_of_ble_eq_true rfl) (sg_X11_bad_0 _ _ _ _ (by omega) hL (pk_b (fun c1 => pk_b (fun c2 => pk_b (fun c3 => pj_b (fun c4 => ?_) (fun c4 => h1 (fun q => c4 q.2.2.2))) (fun c3 => h1 (fun q => c3 q.2.2.1))) (fun c2 => h1 (fun q => c2 q.2.1))) (fun c1 => h1 (fun q => c1 q.1))))
  have hok : fo_bad x y z u := ⟨c1, c2, c3, c4⟩
  have hk := h2 hok
  obtain ⟨N, n, b, hN, hn, hb, rfl, rfl, rfl⟩ := bd_x hok
  unfold fn_bad at hk
  rw [nI_clamp (by omega), nI_clamp (by omega), nI_clamp (by omega)] at hk
  refine pv_fn 1 pn_X5 rfl (Nat.le_of_ble_eq_true rfl) (sg_X5_mostBad_0 _ _ _ _ ?_)
  rw [pk_sub hn, nI_add, Nat.add_comm]
  exact bd_c7 (by omega) hL hW hN hn hb (N - n) (Nat.le_refl _) ⟨_, rfl, hL, hk⟩
/-- the reference's table is laid below row i, and in row i below k -/
def wt_t (g : pv_G) (i k : Nat) : Prop := (∀ i' k', i' < i → k' ≤ i' → g 365 (41 * i' + k') = cW i' k') ∧ ∀ k', k' < k → g 365 (41 * i + k') = cW i k'
abbrev gO (g g' : pv_G) : Prop := ∀ a, a ≠ 365 → g' a = g a
theorem wt_up {g0 g : pv_G} {i k : Nat} (hk : k ≤ i) (hi : i ≤ 40) (ho : gO g0 g) (t : wt_t g i k) {v : Int64} (hv : v = cW i k) : gO g0 (pv_up g 365 (41 * i + k) v) ∧ wt_t (pv_up g 365 (41 * i + k) v) i (k + 1) := by
  refine ⟨fun a ha => ?_, fun i' k' h1 h2 => ?_, fun k' h1 => ?_⟩
  · rw [← ho a ha]; funext j; exact pv_up_a ha
  · rw [pv_up_j (by omega)]; exact t.1 i' k' h1 h2
  · by_cases q : k' = k
    · rw [q, pv_up_same]; exact hv
    · rw [pv_up_j (by omega)]; exact t.2 k' (by omega)
theorem bm_55 (hL : pv_Lay ty r) {g0 : pv_G} {i : Nat} {x2 x3 x1 : Int32} (hi : i ≤ 40) (hE : ∀ g', gO g0 g' → wt_t g' (i + 1) 0 → pv_E Γ d kc ks mX12_bad 45 [some (.ref 200), some (.int x1), some (.int x2), some (.int x3), some (.int u), some (.int (nI (i + 1))), none, none, none] [] ty h r g' Q) : ∀ (m k : Nat) (g : pv_G), k + m = i + 1 → gO g0 g → wt_t g i k → pv_E Γ d kc ks mX12_bad 55 [some (.ref 200), some (.int x1), some (.int x2), some (.int x3), some (.int u), some (.int (nI i)), some (.int (nI k)), none, none] [] ty h r g Q := by
  intro m
  induction m with
  | zero =>
    intro k g hk ho t
    refine sg_X12_bad_55 _ _ _ _ _ _ hL (pk_lt i k (fun _ => ?_) (fun c => absurd c (by omega)))
    rw [nI_1]
    refine hE g ho ⟨fun i' k' h1 h2 => ?_, fun k' h1 => absurd h1 (by omega)⟩
    by_cases q : i' = i
    · rw [q] at h2 ⊢; exact t.2 k' (by omega)
    · exact t.1 i' k' (by omega) h2
  | succ m ih =>
    intro k g hk ho t
    have hin : vp_in (nI (41 * i + k)) 1681 := vp_in_nI (by omega) (by decide)
    refine sg_X12_bad_55 _ _ _ _ _ _ hL (pk_lt i k (fun c => absurd c (by omega)) (fun _ => ?_))
    rw [ni_41l, nI_clamp (by omega), nI_1]
    refine pk_eq k 0 (fun c1 => ⟨hin, fun g1 e1 => ?_⟩) (fun c1 => pj_eq k i (fun c2 => ⟨hin, fun g1 e1 => ?_⟩) (fun c2 => ?_))
    · obtain ⟨a1, a2⟩ := wt_up (v := 1) (by omega) hi ho t (by rw [c1, cW_0])
      rw [e1]
      exact ih (k + 1) _ (by omega) a1 a2
    · obtain ⟨a1, a2⟩ := wt_up (v := 1) (by omega) hi ho t (by rw [c2, cW_n])
      rw [e1]
      exact ih (k + 1) _ (by omega) a1 a2
    · obtain ⟨i', rfl⟩ : ∃ i', i = i' + 1 := ⟨i - 1, by omega⟩
      obtain ⟨k', rfl⟩ : ∃ k', k = k' + 1 := ⟨k - 1, by omega⟩
      have f1 : 41 * (nI (i' + 1) - 1) + nI (k' + 1) = nI (41 * i' + (k' + 1)) := by rw [nI_pred, ni_41l]
      have f2 : 41 * (nI (i' + 1) - 1) + nI (k' + 1) - 1 = nI (41 * i' + k') := by rw [f1, ← Nat.add_assoc, nI_pred]
      rw [f2, f1, nI_clamp (by omega), nI_clamp (by omega)]
      refine ⟨vp_in_nI (by omega) (by decide), vp_in_nI (by omega) (by decide), hin, fun g1 e1 => ?_⟩
      rw [t.1 i' k' (by omega) (by omega), t.1 i' (k' + 1) (by omega) (by omega)] at e1
      obtain ⟨a1, a2⟩ := wt_up (v := cW i' k' + cW i' (k' + 1)) (by omega) hi ho t rfl
      rw [e1]
      exact ih (k' + 1 + 1) _ (by omega) a1 a2
theorem bm_45 (hL : pv_Lay ty r) {g0 : pv_G} {x2 x3 x1 : Int32} (hE : ∀ g', gO g0 g' → wt_t g' 41 0 → pv_E Γ d kc ks mX12_bad 143 [some (.ref 200), some (.int x1), some (.int x2), some (.int x3), some (.int u), some (.int ((x1 - x2) + x3)), none, none, none] [] ty h r g' Q) : ∀ (m i : Nat) (g : pv_G), i + m = 41 → gO g0 g → wt_t g i 0 → pv_E Γ d kc ks mX12_bad 45 [some (.ref 200), some (.int x1), some (.int x2), some (.int x3), some (.int u), some (.int (nI i)), none, none, none] [] ty h r g Q := by
  intro m
  induction m with
  | zero =>
    intro i g hi ho t
    rw [show i = 41 by omega] at t ⊢
    exact sg_X12_bad_45 _ _ _ _ _ (pk_lt 40 41 (fun _ => hE g ho t) (fun c => absurd c (by omega)))
  | succ m ih =>
    intro i g hi ho t
    refine sg_X12_bad_45 _ _ _ _ _ (pk_lt 40 i (fun c => absurd c (by omega)) (fun _ => ?_))
    exact bm_55 hL (by omega) (fun g' o' t' => ih (i + 1) g' (by omega) o' t') (i + 1) 0 g (by omega) ho t
theorem ch_ok (t : wt_t g 41 0) {n k : Nat} (hn : n ≤ 40) (hk : k ≤ 40) : ch_v g (nI n) (nI k) = cW n k := by
  unfold ch_v
  rw [if_neg (nI_pos (by omega))]
  by_cases q : k ≤ n
  · rw [if_pos ((nI_leI (by omega) (by omega)).mpr q), ni_41l, nI_clamp (by omega)]
    exact t.1 n k (by omega) q
  · rw [if_neg (fun z => q ((nI_leI (by omega) (by omega)).mp z)), cW_gt n k (by omega)]
theorem bm_155 (hd : 1 ≤ d) (hL : pv_Lay ty r) (t : wt_t g 41 0) (hN : N ≤ 40) (hn : n ≤ N) (hb : b ≤ n) {B : Nat} (hB : B ≤ N) (hE : (lg_cmp (10000 * bd_s N n B (b + 1)) (u.toInt64 * cW N n) < 0 → pv_E Γ d kc ks mX12_bad 143 [some (.ref 200), some (.int (nI N)), some (.int (nI n)), some (.int (nI b)), some (.int u), some (.int (nI B + (-1))), none, none, none] [] ty h r g Q) ∧ (¬ lg_cmp (10000 * bd_s N n B (b + 1)) (u.toInt64 * cW N n) < 0 → Q (some (.int (nI B))) ty h r g)) : ∀ (m k : Nat), k + m = b + 1 → pv_E Γ d kc ks mX12_bad 155 [some (.ref 200), some (.int (nI N)), some (.int (nI n)), some (.int (nI b)), some (.int u), some (.int (nI B)), some (.long (bd_s N n B k)), none, some (.int (nI k))] [] ty h r g Q := by
  have inb : ∀ n k, n ≤ 40 → k ≤ 40 → ¬ nI k < 0 → nI k ≤ nI n → vp_in (41 * nI n + nI k) 1681 := fun n k a1 a2 _ _ => by rw [ni_41l]; exact vp_in_nI (by omega) (by decide)
  intro m
  induction m with
  | zero =>
    intro k hk
    rw [show k = b + 1 by omega]
    refine sg_X12_bad_155 _ _ _ _ _ _ _ hd hL (pk_lt b (b + 1) (fun _ => ⟨inb N n hN (by omega), ?_⟩) (fun c => absurd c (by omega)))
    rw [ch_ok t hN (by omega)]
    exact hE
  | succ m ih =>
    intro k hk
    refine sg_X12_bad_155 _ _ _ _ _ _ _ hd hL (pk_lt b k (fun c => absurd c (by omega)) (fun _ => ?_))
    rw [pk_sub hB, pk_sub (show k ≤ n by omega), ch_ok t (by omega) (by omega), ch_ok t (by omega) (by omega), nI_1]
    exact ⟨inb B k (by omega) (by omega), inb (N - B) (n - k) (by omega) (by omega), ih (k + 1) (by omega)⟩
theorem bm_143 (hd : 1 ≤ d) (hL : pv_Lay ty r) (t : wt_t g 41 0) (hN : N ≤ 40) (hn : n ≤ N) (hb : b ≤ n) : ∀ (m : Nat), m ≤ N - n → Q (some (.int (bd_f N n b u m))) ty h r g → pv_E Γ d kc ks mX12_bad 143 [some (.ref 200), some (.int (nI N)), some (.int (nI n)), some (.int (nI b)), some (.int u), some (.int (nI (b + m))), none, none, none] [] ty h r g Q
  | 0, _, hQ => sg_X12_bad_143 _ _ _ _ _ (pk_le b b (fun _ => hQ) (fun c => absurd c (by omega)))
  | m + 1, hm, hQ => by
    have hu : bd_f N n b u (m + 1) = if lg_cmp (10000 * bd_s N n (b + m + 1) (b + 1)) (u.toInt64 * cW N n) < 0 then bd_f N n b u m else nI (b + m + 1) := rfl
    rw [hu] at hQ
    rw [show b + (m + 1) = b + m + 1 by omega]
    refine sg_X12_bad_143 _ _ _ _ _ (pk_le (b + m + 1) b (fun c => absurd c (by omega)) (fun _ => bm_155 hd hL t hN hn hb (B := b + m + 1) (by omega) ⟨fun c => ?_, fun c => ?_⟩ (b + 1) 0 (Nat.zero_add _)))
    · rw [if_pos c] at hQ
      rw [pk_m1]
      exact bm_143 hd hL t hN hn hb m (by omega) hQ
    · rw [if_neg c] at hQ
      exact hQ
theorem ct_X12_bad (hd : 1 ≤ d) (hL : pv_Lay ty r) {x y z : Int32} {k : pv_Q} (h1 : ¬ fo_bad x y z u → k (some (.int (-1))) ty h r g) (h2 : fo_bad x y z u → ∀ g', gO g g' → k (some (.int (fn_bad x y z u))) ty h r g') : pv_CT Γ d 0 0 mX12_bad [.ref 200, .int x, .int y, .int z, .int u] ty h r g k := by
  refine pv_fn 4 pn_X12 rfl (Nat.le_of_ble_eq_true rfl) (sg_X12_bad_0 _ _ _ _ (by omega) (pk_b (fun c1 => pk_b (fun c2 => pk_b (fun c3 => pj_b (fun c4 => ?_) (fun c4 => h1 (fun q => c4 q.2.2.2))) (fun c3 => h1 (fun q => c3 q.2.2.1))) (fun c2 => h1 (fun q => c2 q.2.1))) (fun c1 => h1 (fun q => c1 q.1))))
  have hok : fo_bad x y z u := ⟨c1, c2, c3, c4⟩
  have hk := h2 hok
  obtain ⟨N, n, b, hN, hn, hb, rfl, rfl, rfl⟩ := bd_x hok
  unfold fn_bad at hk
  rw [nI_clamp (by omega), nI_clamp (by omega), nI_clamp (by omega)] at hk
  refine bm_45 hL (fun g' o' t' => ?_) 41 0 g rfl (fun _ _ => rfl) ⟨fun _ _ q => absurd q (by omega), fun _ q => absurd q (by omega)⟩
  rw [pk_sub hn, nI_add, Nat.add_comm]
  exact bm_143 (by omega) hL t' hN hn hb (N - n) (Nat.le_refl _) (hk g' o')
end BA
