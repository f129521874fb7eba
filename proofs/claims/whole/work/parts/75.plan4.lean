/-! plan, planned: the class -/
def qp_ok (h : pv_H) (ns N : Nat) : Prop := N < 256 ∧ 1 ≤ qp_n (pB N) 8 ∧ qp_n (pB N) 8 ≤ 6 ∧ ∀ i, i < 8 → pB N i = true → i < ns ∧ ¬ h 323 i = 0
def fo_plan (h : pv_H) (ns : Nat) (x y z u v : Int32) : Prop := (∃ N, x = nI N ∧ qp_ok h ns N) ∧ (1 ≤ y ∧ y ≤ 3) ∧ (0 ≤ z ∧ z ≤ 99999) ∧ (0 ≤ u ∧ u ≤ 99999) ∧ (0 ≤ v ∧ v ≤ 99999) ∧ (y < 2 → u = 0) ∧ (y < 3 → v = 0)
def qp_M (z u v : Int32) (y : Nat) : Nat := if y = 0 then z.toNatClampNeg else if y = 1 then u.toNatClampNeg else v.toNatClampNeg
/-- the best of a set -/
def qp_B (h : pv_H) (T N n : Nat) (z u v : Int32) : qp_b := qp_r (pB N) n (qp_W h T) (qp_P h T) (qp_M z u v) 8 (fun _ => 0) (-1, 0, fun _ => 0)
/-- what is told of street i -/
def qp_told (T N n : Nat) (b : qp_b) (i : Nat) : Int32 := if pB N i = true then (if b.2.2 i = n then -2 else nI T + nI (b.2.2 i)) else -1
theorem qp_r_bd {B : Nat → Bool} {n : Nat} {W : Nat → Nat → Int32} {P : Nat → Nat → Nat} {M : Nat → Nat} : ∀ (j : Nat) (c : Nat → Nat) (b : qp_b), (∀ i, c i ≤ n) → (∀ i, b.2.2 i ≤ n) → ∀ i, (qp_r B n W P M j c b).2.2 i ≤ n
  | 0, c, b, hc, hb => by
    show ∀ i, (qp_ev B n W P M c b).2.2 i ≤ n
    unfold qp_ev
    split
    · unfold qp_keep
      split
      · exact hc
      · exact hb
    · exact hb
  | j + 1, c, b, hc, hb => by
    have hu : ∀ k y, y ≤ n → ∀ i, qp_u c k y i ≤ n := fun k y hy i => by
      unfold qp_u
      split
      · exact hy
      · exact hc i
    unfold qp_r
    split
    · have : ∀ k, k ≤ n + 1 → ∀ i, (qp_f (fun y b => qp_r B n W P M j (qp_u c (7 - j) y) b) k b).2.2 i ≤ n := fun k => by
        induction k with
        | zero => intro _; exact hb
        | succ k ih => intro hk; exact qp_r_bd j _ _ (hu _ _ (by omega)) (ih (by omega))
      exact this (n + 1) (Nat.le_refl _)
    · exact qp_r_bd j _ _ (hu _ _ (by omega)) hb
section PLK
variable {Γ : pv_C} {d kc ks : Nat} {ty : pv_T} {h h0 : pv_H} {r : pv_R} {g : pv_G} {Q : pv_Q} {ns T N n : Nat}
theorem fb_17 (hL : pv_Lay ty r) {b : qp_b} (hT : T ≤ 30) (hn : n ≤ 3) (h6 : qp_n (pB N) 8 ≤ 6) (hbd : ∀ i, b.2.2 i ≤ n) (h7 : h0 60 7 = nI (qp_n (pB N) 8)) (h8 : h0 60 8 = nI n) (h61 : ∀ k, k < 8 → pB N k = true → h0 61 (qp_n (pB N) k) = nI k) (h66 : ∀ k, k < 8 → pB N k = true → h0 66 (qp_n (pB N) k) = nI (b.2.2 k)) (hQ : ∀ h', pv_fr (aR 67) h0 h' → (∀ i, i < 8 → h' 67 i = qp_told T N n b i) → Q (some (.int (h0 60 9))) ty h' r g) : ∀ (m i : Nat) (h : pv_H), i + m = 8 → pv_fr (aR 67) h0 h → (∀ k, k < 8 → h 67 k = if k < i then qp_told T N n b k else -1) → pv_E Γ d kc ks mX7_findBest 17 [some (.ref 60), some (.int (nI T)), some (.int (nI (qp_n (pB N) i)))] [] ty h r g Q := by
  intro m
  induction m with
  | zero =>
    intro i h hi f t
    rw [show i = 8 by omega] at t ⊢
    refine sg_X7_findBest_17 _ _ hL ?_
    rw [f 60 7 (show ¬ 60 = 67 by decide), h7, f 60 9 (show ¬ 60 = 67 by decide)]
    exact pk_le (qp_n (pB N) 8) (qp_n (pB N) 8) (fun _ => hQ h f (fun k hk => by rw [t k hk, if_pos hk])) (fun c => absurd c (by omega))
  | succ m ih =>
    intro i h hi f t
    have ih' := ih (i + 1)
    by_cases hB : pB N i = true
    · have e1 : qp_n (pB N) (i + 1) = qp_n (pB N) i + 1 := by show (if _ then _ else _) = _; rw [if_pos hB]
      have hk := qp_n_lt hB (show i < 8 by omega)
      have hin : vp_in (nI (qp_n (pB N) i)) 6 := vp_in_nI (by omega) (by decide)
      have hb := hbd i
      rw [e1] at ih'
      refine sg_X7_findBest_17 _ _ hL ?_
      rw [f 60 7 (show ¬ 60 = 67 by decide), h7, f 60 8 (show ¬ 60 = 67 by decide), h8, nI_clamp (by omega), f 66 _ (show ¬ 66 = 67 by decide), h66 i (by omega) hB, f 61 _ (show ¬ 61 = 67 by decide), h61 i (by omega) hB, nI_clamp (by omega), nI_1]
      have hu : ∀ v, v = qp_told T N n b i → ∀ k, k < 8 → pv_up h 67 i v 67 k = if k < i + 1 then qp_told T N n b k else -1 := fun v hv k hk => by
        by_cases q : k = i
        · rw [q, pv_up_same, if_pos (by omega)]; exact hv
        · rw [pv_up_j q, t k hk]
          by_cases z : k < i
          · rw [if_pos z, if_pos (by omega)]
          · rw [if_neg z, if_neg (by omega)]
      refine pk_le (qp_n (pB N) 8) (qp_n (pB N) i) (fun c => absurd c (by omega)) (fun _ => ⟨hin, hin, pj_eq (b.2.2 i) n (fun q => ⟨vp_in_nI (by omega) (by decide), fun h1 e => ?_⟩) (fun q => ⟨hin, vp_in_nI (by omega) (by decide), fun h1 e => ?_⟩)⟩)
      · rw [e]
        exact ih' _ (by omega) (pv_fr_up f rfl) (hu _ (by unfold qp_told; rw [if_pos hB, if_pos q]))
      · rw [e]
        exact ih' _ (by omega) (pv_fr_up f rfl) (hu _ (by unfold qp_told; rw [if_pos hB, if_neg q]))
    · have e1 : qp_n (pB N) (i + 1) = qp_n (pB N) i := by show (if _ then _ else _) = _; rw [if_neg hB]
      rw [e1] at ih'
      refine ih' h (by omega) f (fun k hk => ?_)
      rw [t k hk]
      by_cases z : k < i
      · rw [if_pos z, if_pos (by omega)]
      · rw [if_neg z]
        by_cases z2 : k < i + 1
        · rw [if_pos z2, show k = i by omega]; unfold qp_told; rw [if_neg hB]
        · rw [if_neg z2]
theorem ct_X7_findBest (hd : 11 ≤ d) (hL : pv_Lay ty r) {W : Nat → Nat → Int32} {P : Nat → Nat → Nat} {M : Nat → Nat} (hT : T ≤ 30) (hn : n ≤ 3) (h6 : qp_n (pB N) 8 ≤ 6) (hM : ∀ y, y < 3 → M y < 2 ^ 20) (hP : ∀ i y, i < 8 → P i y < 2 ^ 20) (t : qp_tab (pB N) n W P h) (h61 : ∀ k, k < 8 → pB N k = true → h 61 (qp_n (pB N) k) = nI k) (h64 : ∀ y, y < 3 → h 64 y = nI (M y)) (h9 : h 60 9 = -1) (h10 : h 60 10 = 0) : pv_CJ Γ d mX7_findBest [.ref 60, .int (nI T)] ty h r g (fun w h' => w = (qp_r (pB N) n W P M 8 (fun _ => 0) (-1, 0, fun _ => 0)).1 ∧ pv_fr (fun a _ => 60 ≤ a ∧ a ≤ 67) h h' ∧ ∀ i, i < 8 → h' 67 i = qp_told T N n (qp_r (pB N) n W P M 8 (fun _ => 0) (-1, 0, fun _ => 0)) i) := by
  refine pv_fn 1 pn_X7 rfl (Nat.le_of_ble_eq_true rfl) (sg_X7_findBest_0 _ (by omega) hL ?_)
  refine pv_CW.mono (ct_X7_try (W := W) (P := P) (M := M) hL hn h6 hM hP 8 (d - 1) (fun _ => 0) (-1, 0, fun _ => 0) h (by omega) (by omega) t (fun y hy => by rw [h64 y hy]; rfl) (fun y _ => Nat.zero_le _) (fun k hk => absurd hk (by omega)) ⟨h9, h10, fun q => absurd rfl q⟩) (fun h1 q => ?_)
  obtain ⟨f1, -, -, b1, b2, b3⟩ := q
  refine pv_CW.mono (ct_fill (n := 8) (by decide) (hL.1 (67, 20, 8) (by decide)) (by decide)) (fun h2 e2 => ?_)
  have f2 : pv_fr (aR 67) h1 h2 := by rw [e2]; exact pv_fr_row (pv_fr_refl _ _) (fun _ => rfl)
  have t1 := qp_tab_fr f1 t
  have ge := qp_r_0 (B := pB N) (n := n) (W := W) (P := P) (M := M) 8 (fun _ => 0) (-1, 0, fun _ => 0) (by omega) (fun i hi => absurd hi (by omega))
  have hne : (qp_r (pB N) n W P M 8 (fun _ => 0) (-1, 0, fun _ => 0)).1 ≠ -1 := fun e => by rw [e] at ge; exact absurd ge (by decide)
  have e0 : h2 60 9 = (qp_r (pB N) n W P M 8 (fun _ => 0) (-1, 0, fun _ => 0)).1 := (f2 60 9 (show ¬ 60 = 67 by decide)).trans b1
  refine fb_17 (b := qp_r (pB N) n W P M 8 (fun _ => 0) (-1, 0, fun _ => 0)) hL hT hn h6 (qp_r_bd 8 _ _ (fun _ => Nat.zero_le _) (fun _ => Nat.zero_le _)) ((f2 60 7 (show ¬ 60 = 67 by decide)).trans t1.1) ((f2 60 8 (show ¬ 60 = 67 by decide)).trans t1.2.1) (fun k hk hB => ?_) (fun k hk hB => (f2 66 _ (show ¬ 66 = 67 by decide)).trans (b3 hne k hk hB)) (fun h3 f3 t3 => pv_jqi ⟨e0, fun a j z => ?_, t3⟩) 8 0 h2 rfl (pv_fr_refl _ _) (fun k hk => ?_)
  · rw [f2 61 _ (show ¬ 61 = 67 by decide), f1 61 _ (by simp)]; exact h61 k hk hB
  · rw [if_neg (by omega), e2]
    unfold pv_row
    rw [if_pos rfl]
    exact if_pos hk
  · rw [f3 a j (fun q => z ⟨by omega, by omega⟩), f2 a j (fun q => z ⟨by omega, by omega⟩)]
    exact f1 a j (fun q => z ⟨by omega, by omega⟩)
theorem ps_30 (hL : pv_Lay ty r) (hS : cpS ty h r ns) (hI : cpY h ns T) (hN : N < 256) (hQ1 : (∀ i, i < ns → pB N i = true → ¬ h 323 i = 0) → Q (some (.int 1)) ty h r g) (hQ2 : ¬ (∀ i, i < ns → pB N i = true → ¬ h 323 i = 0) → Q (some (.int 0)) ty h r g) : ∀ (m i : Nat), i + m = ns → (∀ k, k < i → pB N k = true → ¬ h 323 k = 0) → pv_E Γ d kc ks mX11_isPlanSet 30 [some (.ref 100), some (.int (nI N)), some (.int (nI i)), none] [] ty h r g Q := by
  have h8 := hS.1.1
  intro m
  induction m with
  | zero =>
    intro i hi t
    rw [show i = ns by omega] at t ⊢
    refine sg_X11_isPlanSet_30 _ _ hL ?_
    rw [hS.2.1]
    exact pk_le ns ns (fun _ => hQ1 t) (fun c => absurd c (by omega))
  | succ m ih =>
    intro i hi t
    obtain ⟨r1, hS', -⟩ := hS.2.2 i (by omega)
    have b6 := (hI.2.2 i (by omega)).2.2.1
    refine sg_X11_isPlanSet_30 _ _ hL ?_
    rw [hS.2.1, nI_clamp (by omega), r1, b6, nI_1]
    refine pk_le ns i (fun c => absurd c (by omega)) (fun _ => ⟨vp_in_nI (by omega) (by decide), fun c1 => ?_, fun c1 => ⟨fun q => absurd q (cA_ne i), fun _ => ⟨hS'.2.1, fun c2 => ?_, fun c2 => ?_⟩⟩⟩)
    · refine ih (i + 1) (by omega) (fun k hk hB => ?_)
      have : k ≠ i := fun e => c1 (by rw [e] at hB; exact of_decide_eq_true hB)
      exact t k (by omega) hB
    · refine ih (i + 1) (by omega) (fun k hk hB => ?_)
      by_cases q : k = i
      · rw [q]; exact c2
      · exact t k (by omega) hB
    · exact hQ2 (fun q => q i (by omega) (decide_eq_true c1) c2)
theorem ct_X11_isPlanSet (hd : 1 ≤ d) (hL : pv_Lay ty r) (hS : cpS ty h r ns) (hI : cpY h ns T) {x : Int32} {K : pv_Q} (ht : ∀ N, x = nI N → qp_ok h ns N → K (some (.int 1)) ty h r g) (hf : (¬ ∃ N, x = nI N ∧ qp_ok h ns N) → K (some (.int 0)) ty h r g) : pv_CT Γ d 0 0 mX11_isPlanSet [.ref 100, .int x] ty h r g K := by
  have h8 := hS.1.1
  refine pv_fn 2 pn_X11 rfl (Nat.le_of_ble_eq_true rfl) (sg_X11_isPlanSet_0 x hd hL ⟨fun c1 => hf ?_, fun c1 => ?_⟩)
  · rintro ⟨N, rfl, h1⟩
    exact absurd c1 (nI_pos (by have := h1.1; omega))
  · obtain ⟨N, hN, rfl⟩ := nI_of c1
    rw [hS.2.1]
    have inj : ∀ N', nI N = nI N' → N' < 256 → N' = N := fun N' e h => ((nI_eq hN (by omega)).mp e).symm
    refine ⟨fun c2 => hf ?_, fun c2 => ?_⟩
    · rintro ⟨N', e, h1⟩
      have := inj N' e h1.1
      subst this
      refine c2 ((pb_hi N' h1.1 ns h8).mpr (fun i hi hk => ?_))
      rw [← Bool.not_eq_true]
      intro q
      have := (h1.2.2.2 i hi q).1
      omega
    · have hN' := pb_big hN h8 c2
      have hhi := (pb_hi N hN' ns h8).mp c2
      refine ct_bitCount hN' ⟨_, rfl, hL, pj_b (fun c3 => ?_) (fun c3 => hf ?_)⟩
      · have c31 : 1 ≤ qp_n (pB N) 8 := by
          have : qp_n (pB N) 8 ≠ 0 := fun e => by rw [e] at c3; exact absurd c3.1 (by decide)
          omega
        have hle : qp_n (pB N) 8 ≤ 8 := by
          have : ∀ (B : Nat → Bool) i, qp_n B i ≤ i := fun B i => by
            induction i with
            | zero => exact Nat.le_refl _
            | succ i ih =>
              show (if B i = true then qp_n B i + 1 else qp_n B i) ≤ i + 1
              split
              · omega
              · omega
          exact this _ 8
        have c32 : qp_n (pB N) 8 ≤ 6 := (nI_leI (b := 6) (by omega) (by decide)).mp c3.2
        refine ps_30 hL hS hI hN' (fun q => ht N rfl ⟨hN', c31, c32, fun i hi hB => ?_⟩) (fun q => hf ?_) ns 0 (Nat.zero_add _) (fun _ q => absurd q (by omega))
        · have : i < ns := by
            apply Nat.lt_of_not_le
            intro z
            rw [hhi i hi z] at hB
            exact absurd hB (by decide)
          exact ⟨this, q i this hB⟩
        · rintro ⟨N', e, h1⟩
          have := inj N' e h1.1
          subst this
          exact q (fun i hi hB => (h1.2.2.2 i (by omega) hB).2)
      · rintro ⟨N', e, h1⟩
        have := inj N' e h1.1
        subst this
        refine c3 ⟨(nI_leI (a := 1) (by decide) (by have := h1.2.2.1; omega)).mpr h1.2.1, (nI_leI (b := 6) (by have := h1.2.2.1; omega) (by decide)).mpr h1.2.2.1⟩
theorem ct_X7_begin (hL : pv_Lay ty r) {x y z u : Int32} : pv_CW Γ d mX7_begin [.ref 60, .int x, .int y, .int z, .int u] ty h r g (fun h' => pv_fr (fun a _ => 60 ≤ a ∧ a ≤ 67) h h' ∧ h' 60 7 = 0 ∧ h' 60 8 = x ∧ h' 60 9 = -1 ∧ h' 60 10 = 0 ∧ h' 64 0 = y ∧ h' 64 1 = z ∧ h' 64 2 = u) := by
  refine pv_fn 0 pn_X7 rfl (Nat.le_of_ble_eq_true rfl) (sg_X7_begin_0 _ _ _ _ hL (fun h1 e1 => ⟨(show vp_in (nI 0) 3 from vp_in_nI (by decide) (by decide)), fun h2 e2 => ⟨(show vp_in (nI 1) 3 from vp_in_nI (by decide) (by decide)), fun h3 e3 => ⟨(show vp_in (nI 2) 3 from vp_in_nI (by decide) (by decide)), fun h4 e4 h5 e5 h6 e6 h7 e7 => pv_wqi ?_⟩⟩⟩))
  rw [show Int32.toNatClampNeg 0 = 0 from rfl] at e2
  rw [show Int32.toNatClampNeg 1 = 1 from rfl] at e3
  rw [show Int32.toNatClampNeg 2 = 2 from rfl] at e4
  refine ⟨?_, ?_, ?_, ?_, ?_, ?_, ?_, ?_⟩
  · rw [e7, e6, e5, e4, e3, e2, e1]
    exact pv_fr_up (pv_fr_up (pv_fr_up (pv_fr_up (pv_fr_up (pv_fr_up (pv_fr_up (pv_fr_refl _ _) ⟨by decide, by decide⟩) ⟨by decide, by decide⟩) ⟨by decide, by decide⟩) ⟨by decide, by decide⟩) ⟨by decide, by decide⟩) ⟨by decide, by decide⟩) ⟨by decide, by decide⟩
  · rw [e7, pv_up_j (by decide), e6, pv_up_j (by decide), e5, pv_up_same]
  · rw [e7, pv_up_j (by decide), e6, pv_up_j (by decide), e5, pv_up_j (by decide), e4, pv_up_a (by decide), e3, pv_up_a (by decide), e2, pv_up_a (by decide), e1, pv_up_same]
  · rw [e7, pv_up_j (by decide), e6, pv_up_same]
  · rw [e7, pv_up_same]
  · rw [e7, pv_up_a (by decide), e6, pv_up_a (by decide), e5, pv_up_a (by decide), e4, pv_up_j (by decide), e3, pv_up_j (by decide), e2, pv_up_same]
  · rw [e7, pv_up_a (by decide), e6, pv_up_a (by decide), e5, pv_up_a (by decide), e4, pv_up_j (by decide), e3, pv_up_same]
  · rw [e7, pv_up_a (by decide), e6, pv_up_a (by decide), e5, pv_up_a (by decide), e4, pv_up_same]
theorem pn_85 (hd : 13 ≤ d) (hL : pv_Lay ty r) (hS : cpS ty h0 r ns) (hI : cpY h0 ns T) (hC : cpC h0) (hn : n ≤ 3) (hok : qp_ok h0 ns N) {M : Nat → Nat} (hM : ∀ y, y < 3 → M y < 2 ^ 20) (h64 : ∀ y, y < 3 → h0 64 y = nI (M y)) (h9 : h0 60 9 = -1) (h10 : h0 60 10 = 0) (hQ : ∀ h', pv_fr (fun a _ => 60 ≤ a ∧ a ≤ 67) h0 h' → (∀ i, i < 8 → h' 67 i = qp_told T N n (qp_r (pB N) n (qp_W h0 T) (qp_P h0 T) M 8 (fun _ => 0) (-1, 0, fun _ => 0)) i) → Q (some (.int (qp_r (pB N) n (qp_W h0 T) (qp_P h0 T) M 8 (fun _ => 0) (-1, 0, fun _ => 0)).1)) ty h' r g) : ∀ (m i : Nat) (h : pv_H), i + m = ns → pv_fr qpJ h0 h → qp_jn (pB N) n (qp_W h0 T) (qp_P h0 T) h i → pv_E Γ d kc ks mX11_plan 85 [some (.ref 100), some (.int (nI N)), none, none, none, none, some (.int (nI i)), none] [] ty h r g Q := by
  have h8 := hS.1.1
  have hT := hI.1.1
  obtain ⟨hN, h1, h6, hbits⟩ := hok
  have lst : ∀ i k, ns ≤ i → i + k = 8 → qp_n (pB N) 8 = qp_n (pB N) i := fun i k => by
    induction k generalizing i with
    | zero => intro _ e; rw [show i = 8 by omega]
    | succ k ih =>
      intro h1 e
      rw [ih (i + 1) (by omega) (by omega)]
      show (if pB N i = true then _ else _) = _
      rw [if_neg]
      intro q
      have := (hbits i (by omega) q).1
      omega
  intro m
  induction m with
  | zero =>
    intro i h hi f jn
    rw [show i = ns by omega] at jn ⊢
    refine sg_X11_plan_85 _ _ (by omega) hL ?_
    rw [f 100 1 (by decide), hS.2.1, f 100 5 (by decide), hI.2.1]
    refine pk_le ns ns (fun _ => ?_) (fun c => absurd c (by omega))
    refine pv_CJ.mono (ct_X7_findBest (N := N) (n := n) (W := qp_W h0 T) (P := qp_P h0 T) (M := M) (by omega) hL hT hn h6 hM (fun i y hi => by have := (mCost_b hC hi (T + y)).1; show (mCost h0 i (T + y)).toNatClampNeg < _; omega) ⟨by rw [jn.1, lst ns (8 - ns) (Nat.le_refl _) (by omega)], jn.2.1, fun i hi hB y hy => (jn.2.2 i (hbits i hi hB).1 hB).2 y hy⟩ (fun k hk hB => (jn.2.2 k (hbits k hk hB).1 hB).1) (fun y hy => by rw [f 64 y (fun q => q.2.2 rfl)]; exact h64 y hy) (by rw [f 60 9 (by decide)]; exact h9) (by rw [f 60 10 (by decide)]; exact h10)) (fun w h' q => ?_)
    obtain ⟨rfl, q2, q3⟩ := q
    exact hQ h' (fun a j z => (q2 a j z).trans (f a j (fun q => z ⟨q.1.1, by have := q.1.2; omega⟩))) q3
  | succ m ih =>
    intro i h hi f jn
    have r1 := (hS.2.2 i (by omega)).1
    refine sg_X11_plan_85 _ _ (by omega) hL ?_
    rw [f 100 1 (by decide), hS.2.1, f 100 5 (by decide), hI.2.1, nI_clamp (by omega), r1, nI_1]
    refine pk_le ns i (fun c => absurd c (by omega)) (fun _ => ⟨vp_in_nI (by omega) (by decide), fun c1 => ?_, fun c1 => ⟨fun q => absurd q (cA_ne i), fun _ => ?_⟩⟩)
    · have hB : ¬ pB N i = true := fun q => c1 (of_decide_eq_true q)
      have e1 : qp_n (pB N) (i + 1) = qp_n (pB N) i := by show (if _ then _ else _) = _; rw [if_neg hB]
      refine ih (i + 1) h (by omega) f ⟨by rw [e1]; exact jn.1, jn.2.1, fun k hk hBk => ?_⟩
      have : k ≠ i := fun e => hB (e ▸ hBk)
      exact jn.2.2 k (by omega) hBk
    · have hB : pB N i = true := decide_eq_true c1
      exact pv_CW.mono (ct_X7_join (by omega) hL hS hI hC (by omega) hn hB h6 f jn) (fun h' q => ih (i + 1) h' (by omega) q.1 q.2)
end PLK
