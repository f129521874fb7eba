/-! the class's reader: products, sums, expressions, by the depth -/
section RD
variable {Γ : pv_C} {d kc ks : Nat} {ty : pv_T} {h h0 : pv_H} {r : pv_R} {g : pv_G} {Q : pv_Q} {K len n : Nat} {b : Nat → Nat} {f : Nat → tx_R tx_E} {R : tx_R tx_E}
theorem rd_err (hf : pv_fr rdA h0 h) {q p' : Nat} (h5 : h 80 5 = nI q) (hp : p' ≤ len + n) (h3 : h 80 3 = nI p') (x : Int32) (hR : R = .error q) : rd_q K len n h0 R x h := by
  refine ⟨hf, fun e q' he => ?_, fun q' he => ?_⟩
  · rw [hR] at he; cases he
  · rw [hR] at he; cases he; exact ⟨h5, p', hp, h3⟩
theorem rd_okq (hf : pv_fr rdA h0 h) {q : Nat} {e : tx_E} (h5 : h 80 5 = -1) (h3 : h 80 3 = nI q) (hR : R = .ok (e, q)) : rd_q K len n h0 R (tx_ev (rd_V h0 K) e) h := by
  refine ⟨hf, fun e q' he => ?_, fun q' he => ?_⟩
  · rw [hR] at he; cases he; exact ⟨rfl, h3, h5⟩
  · rw [hR] at he; cases he
theorem rd_p8 (hd : 2 ≤ d) (hL : pv_Lay ty r) (hS0 : rdS ty r K len b h0) (hC : rdC Γ (d - 1) mX9_readOperand ty r g K len n b f) (hb : ∀ p, p ≤ len → (∀ q, f p = .error q → q ≤ len) ∧ (∀ e q, f p = .ok (e, q) → p < q ∧ q ≤ len)) (hQ : ∀ x h', rd_q K len n h0 R x h' → Q (some (.int x)) ty h' r g) : ∀ (m k : Nat) (e0 : tx_E) (p : Nat) (h : pv_H), k + m = 160 → tx_loop tx_mul f (tx_pk len b) m e0 p = R → p ≤ len → pv_fr rdA h0 h → h 80 3 = nI p → h 80 5 = -1 → pv_E Γ d kc ks mX9_readProduct 8 [some (.ref 80), some (.int (nI (10 - n))), some (.int (tx_ev (rd_V h0 K) e0)), some (.int (nI k)), none] [] ty h r g Q := by
  have h8 := hS0.2.2.2.2.2.1
  have hl := hS0.1
  intro m
  induction m with
  | zero =>
    intro k e0 p h hk he hp hf h3 h5
    exact sg_X9_readProduct_8 _ _ _ (by omega) hL (pk_le 160 k (fun _ => hQ _ h (rd_okq hf h5 h3 he.symm)) (fun c => absurd c (by omega)))
  | succ m ih =>
    intro k e0 p h hk he hp hf h3 h5
    have hu : tx_loop tx_mul f (tx_pk len b) (m + 1) e0 p = if tx_mul (tx_pk len b p) = 0 then .ok (e0, p) else (match f (p + 1) with | .ok (b1, q) => tx_loop tx_mul f (tx_pk len b) m (tx_B (tx_mul (tx_pk len b p)) e0 b1) q | .error q => .error q) := rfl
    rw [hu] at he
    have hS := rdS_fr hL hf hS0
    obtain ⟨z1, z2⟩ := rd_peek hS h3 (by omega)
    have hle := tx_pk_le (len := len) h8 p
    have go : ∀ o, tx_mul (tx_pk len b p) = o → o ≠ 0 → (∀ x y : Int32, rd_mul (rd_pk h (r 80 1)) x y = tx_op o x y) → ∀ h1, h1 = pv_up h 80 3 (h 80 3 + 1) → pv_CJ Γ (d - 1) mX9_readOperand [.ref 80, .int (nI (10 - n))] ty h1 r g (fun (w1 : Int32) (h2 : pv_H) => pv_E Γ d kc ks mX9_readProduct 8 [some (.ref 80), some (.int (nI (10 - n))), some (.int (rd_mul (rd_pk h (r 80 1)) (tx_ev (rd_V h0 K) e0) w1)), some (.int (nI k + 1)), none] [] ty h2 r g Q) := fun o ho hne hmul h1 e1 => by
      rw [ho, if_neg hne] at he
      have hlt : p < len := Nat.lt_of_not_le (fun z => hne (by rw [← ho, tx_pk_ge z]; rfl))
      rw [h3, nI_1] at e1
      have hf1 : pv_fr rdA h0 h1 := by rw [e1]; exact rd_fr1 hf
      refine pv_CJ.mono (hC h1 (p + 1) (rdS_fr hL hf1 hS0) hlt (by rw [e1, pv_up_same]) (by rw [e1, pv_up_j (by decide)]; exact h5)) (fun x h2 q => ?_)
      obtain ⟨f1, f2, f3⟩ := q
      have hf2 := pv_fr_tr hf1 f1
      rw [hmul, nI_1]
      cases hr : f (p + 1) with
      | error q0 =>
        rw [hr] at he
        obtain ⟨k1, p', k2, k3⟩ := f3 q0 hr
        have hq0 := (hb (p + 1) hlt).1 q0 hr
        have hn5 : ¬ h2 80 5 = -1 := by rw [k1]; exact ni_n1 (by omega)
        have hQ' := hQ (tx_op o (tx_ev (rd_V h0 K) e0) x) h2 (rd_err hf2 k1 k2 k3 _ he.symm)
        exact sg_X9_readProduct_8 _ _ _ (by omega) hL ⟨fun _ => hQ', fun _ => ⟨fun _ => hQ', fun z => absurd z hn5⟩⟩
      | ok z0 =>
        obtain ⟨e', q0⟩ := z0
        rw [hr] at he
        obtain ⟨k1, k2, k3⟩ := f2 e' q0 hr
        obtain ⟨k4, k5⟩ := (hb (p + 1) hlt).2 e' q0 hr
        rw [k1, rd_V_fr hf1]
        exact ih (k + 1) (tx_B o e0 e') q0 h2 (by omega) he k5 hf2 k2 k3
    refine sg_X9_readProduct_8 _ _ _ (by omega) hL (pk_le 160 k (fun c => absurd c (by omega)) (fun _ => ⟨fun z => absurd h5 z, fun _ => ⟨z1, pi_eq _ 42 z2 hle (fun c h1 e1 => go 60 (by rw [c]; rfl) (by decide) (fun x y => ?_) h1 e1) (fun c1 => pi_eq _ 47 z2 hle (fun c h1 e1 => go 61 (by rw [c]; rfl) (by decide) (fun x y => ?_) h1 e1) (fun c2 => pi_eq _ 37 z2 hle (fun c h1 e1 => go 62 (by rw [c]; rfl) (by decide) (fun x y => ?_) h1 e1) (fun c3 => ?_)))⟩⟩))
    · rw [z2, c]; rfl
    · rw [z2, c]
      show (if nI 47 = 42 then x * y else if y = 0 then 0 else if nI 47 = 47 then x / y else x - x / y * y) = _
      rw [if_neg (by decide), if_pos (show nI 47 = 47 from rfl)]
      rfl
    · rw [z2, c]
      show (if nI 37 = 42 then x * y else if y = 0 then 0 else if nI 37 = 47 then x / y else x - x / y * y) = _
      rw [if_neg (by decide), if_neg (show ¬ nI 37 = 47 by decide)]
      rfl
    · have e0' : tx_mul (tx_pk len b p) = 0 := by unfold tx_mul; rw [if_neg c1, if_neg c2, if_neg c3]
      rw [e0', if_pos rfl] at he
      exact hQ _ h (rd_okq hf h5 h3 he.symm)
theorem rd_prod (hd : 2 ≤ d) (hL : pv_Lay ty r) (hC : rdC Γ (d - 1) mX9_readOperand ty r g K len n b f) (hb : ∀ p, p ≤ len → (∀ q, f p = .error q → q ≤ len) ∧ (∀ e q, f p = .ok (e, q) → p < q ∧ q ≤ len)) : rdC Γ d mX9_readProduct ty r g K len n b (tx_chain tx_mul f (tx_pk len b)) := by
  intro h p hS hp h3 h5
  have hl := hS.1
  refine pv_fn 3 pn_X9 rfl (Nat.le_of_ble_eq_true rfl) (sg_X9_readProduct_0 _ (by omega) hL (pv_CJ.mono (hC h p hS hp h3 h5) (fun x h1 q => ?_)))
  obtain ⟨f1, f2, f3⟩ := q
  unfold tx_chain
  cases hr : f p with
  | error q0 =>
    obtain ⟨k1, p', k2, k3⟩ := f3 q0 hr
    have hq0 := (hb p hp).1 q0 hr
    have hn5 : ¬ h1 80 5 = -1 := by rw [k1]; exact ni_n1 (by omega)
    exact sg_X9_readProduct_8 _ _ _ (by omega) hL ⟨fun _ => pv_jqi (rd_err f1 k1 k2 k3 _ rfl), fun _ => ⟨fun _ => pv_jqi (rd_err f1 k1 k2 k3 _ rfl), fun z => absurd z hn5⟩⟩
  | ok z0 =>
    obtain ⟨e', q0⟩ := z0
    obtain ⟨k1, k2, k3⟩ := f2 e' q0 hr
    obtain ⟨k4, k5⟩ := (hb p hp).2 e' q0 hr
    rw [k1]
    exact rd_p8 hd hL hS hC hb (fun x h' q => pv_jqi q) 160 0 e' q0 h1 rfl rfl k5 f1 k2 k3
theorem rd_s8 (hd : 2 ≤ d) (hL : pv_Lay ty r) (hS0 : rdS ty r K len b h0) (hC : rdC Γ (d - 1) mX9_readProduct ty r g K len n b f) (hb : ∀ p, p ≤ len → (∀ q, f p = .error q → q ≤ len) ∧ (∀ e q, f p = .ok (e, q) → p < q ∧ q ≤ len)) (hQ : ∀ x h', rd_q K len n h0 R x h' → Q (some (.int x)) ty h' r g) : ∀ (m k : Nat) (e0 : tx_E) (p : Nat) (h : pv_H), k + m = 160 → tx_loop tx_add f (tx_pk len b) m e0 p = R → p ≤ len → pv_fr rdA h0 h → h 80 3 = nI p → h 80 5 = -1 → pv_E Γ d kc ks mX9_readSum 8 [some (.ref 80), some (.int (nI (10 - n))), some (.int (tx_ev (rd_V h0 K) e0)), some (.int (nI k)), none, none] [] ty h r g Q := by
  have h8 := hS0.2.2.2.2.2.1
  have hl := hS0.1
  intro m
  induction m with
  | zero =>
    intro k e0 p h hk he hp hf h3 h5
    exact sg_X9_readSum_8 _ _ _ (by omega) hL (pk_le 160 k (fun _ => hQ _ h (rd_okq hf h5 h3 he.symm)) (fun c => absurd c (by omega)))
  | succ m ih =>
    intro k e0 p h hk he hp hf h3 h5
    have hu : tx_loop tx_add f (tx_pk len b) (m + 1) e0 p = if tx_add (tx_pk len b p) = 0 then .ok (e0, p) else (match f (p + 1) with | .ok (b1, q) => tx_loop tx_add f (tx_pk len b) m (tx_B (tx_add (tx_pk len b p)) e0 b1) q | .error q => .error q) := rfl
    rw [hu] at he
    have hS := rdS_fr hL hf hS0
    obtain ⟨z1, z2⟩ := rd_peek hS h3 (by omega)
    have hle := tx_pk_le (len := len) h8 p
    have go : ∀ o, tx_add (tx_pk len b p) = o → o ≠ 0 → ∀ F : Int32 → Int32, (∀ y : Int32, F y = tx_op o (tx_ev (rd_V h0 K) e0) y) → ∀ h1, h1 = pv_up h 80 3 (h 80 3 + 1) → pv_CJ Γ (d - 1) mX9_readProduct [.ref 80, .int (nI (10 - n))] ty h1 r g (fun (w1 : Int32) (h2 : pv_H) => pv_E Γ d kc ks mX9_readSum 8 [some (.ref 80), some (.int (nI (10 - n))), some (.int (F w1)), some (.int (nI k + 1)), none, none] [] ty h2 r g Q) := fun o ho hne F hF h1 e1 => by
      rw [ho, if_neg hne] at he
      have hlt : p < len := Nat.lt_of_not_le (fun z => hne (by rw [← ho, tx_pk_ge z]; rfl))
      rw [h3, nI_1] at e1
      have hf1 : pv_fr rdA h0 h1 := by rw [e1]; exact rd_fr1 hf
      refine pv_CJ.mono (hC h1 (p + 1) (rdS_fr hL hf1 hS0) hlt (by rw [e1, pv_up_same]) (by rw [e1, pv_up_j (by decide)]; exact h5)) (fun x h2 q => ?_)
      obtain ⟨f1, f2, f3⟩ := q
      have hf2 := pv_fr_tr hf1 f1
      rw [hF, nI_1]
      cases hr : f (p + 1) with
      | error q0 =>
        rw [hr] at he
        obtain ⟨k1, p', k2, k3⟩ := f3 q0 hr
        have hq0 := (hb (p + 1) hlt).1 q0 hr
        have hn5 : ¬ h2 80 5 = -1 := by rw [k1]; exact ni_n1 (by omega)
        have hQ' := hQ (tx_op o (tx_ev (rd_V h0 K) e0) x) h2 (rd_err hf2 k1 k2 k3 _ he.symm)
        exact sg_X9_readSum_8 _ _ _ (by omega) hL ⟨fun _ => hQ', fun _ => ⟨fun _ => hQ', fun z => absurd z hn5⟩⟩
      | ok z0 =>
        obtain ⟨e', q0⟩ := z0
        rw [hr] at he
        obtain ⟨k1, k2, k3⟩ := f2 e' q0 hr
        obtain ⟨k4, k5⟩ := (hb (p + 1) hlt).2 e' q0 hr
        rw [k1, rd_V_fr hf1]
        exact ih (k + 1) (tx_B o e0 e') q0 h2 (by omega) he k5 hf2 k2 k3
    refine sg_X9_readSum_8 _ _ _ (by omega) hL (pk_le 160 k (fun c => absurd c (by omega)) (fun _ => ⟨fun z => absurd h5 z, fun _ => ⟨z1, pi_eq _ 43 z2 hle (fun c h1 e1 => ?_) (fun c1 => pi_eq _ 45 z2 hle (fun c h1 e1 => ?_) (fun c2 => ?_))⟩⟩))
    · refine pv_CJ.mono (go 50 (by rw [c]; rfl) (by decide) (fun y => tx_ev (rd_V h0 K) e0 + y) (fun y => rfl) h1 e1) (fun x h2 q => ⟨fun z => absurd ?_ z, fun _ => q⟩)
      rw [z2, c]; rfl
    · refine pv_CJ.mono (go 51 (by rw [c]; rfl) (by decide) (fun y => tx_ev (rd_V h0 K) e0 - y) (fun y => rfl) h1 e1) (fun x h2 q => ⟨fun _ => q, fun z => absurd z ?_⟩)
      rw [z2, c]; decide
    · have e0' : tx_add (tx_pk len b p) = 0 := by unfold tx_add; rw [if_neg c1, if_neg c2]
      rw [e0', if_pos rfl] at he
      exact hQ _ h (rd_okq hf h5 h3 he.symm)
theorem rd_sum (hd : 2 ≤ d) (hL : pv_Lay ty r) (hC : rdC Γ (d - 1) mX9_readProduct ty r g K len n b f) (hb : ∀ p, p ≤ len → (∀ q, f p = .error q → q ≤ len) ∧ (∀ e q, f p = .ok (e, q) → p < q ∧ q ≤ len)) : rdC Γ d mX9_readSum ty r g K len n b (tx_chain tx_add f (tx_pk len b)) := by
  intro h p hS hp h3 h5
  have hl := hS.1
  refine pv_fn 4 pn_X9 rfl (Nat.le_of_ble_eq_true rfl) (sg_X9_readSum_0 _ (by omega) hL (pv_CJ.mono (hC h p hS hp h3 h5) (fun x h1 q => ?_)))
  obtain ⟨f1, f2, f3⟩ := q
  unfold tx_chain
  cases hr : f p with
  | error q0 =>
    obtain ⟨k1, p', k2, k3⟩ := f3 q0 hr
    have hq0 := (hb p hp).1 q0 hr
    have hn5 : ¬ h1 80 5 = -1 := by rw [k1]; exact ni_n1 (by omega)
    exact sg_X9_readSum_8 _ _ _ (by omega) hL ⟨fun _ => pv_jqi (rd_err f1 k1 k2 k3 _ rfl), fun _ => ⟨fun _ => pv_jqi (rd_err f1 k1 k2 k3 _ rfl), fun z => absurd z hn5⟩⟩
  | ok z0 =>
    obtain ⟨e', q0⟩ := z0
    obtain ⟨k1, k2, k3⟩ := f2 e' q0 hr
    obtain ⟨k4, k5⟩ := (hb p hp).2 e' q0 hr
    rw [k1]
    exact rd_s8 hd hL hS hC hb (fun x h' q => pv_jqi q) 160 0 e' q0 h1 rfl rfl k5 f1 k2 k3
theorem rd_expr {inner : Option (Nat → tx_R tx_E)} (hd : 2 ≤ d) (hL : pv_Lay ty r) (hC : rdC Γ (d - 1) mX9_readSum ty r g K len n b (tx_sum K (tx_pk len b) inner)) (hb : ∀ p, p ≤ len → (∀ q, tx_sum K (tx_pk len b) inner p = .error q → q ≤ len) ∧ (∀ e q, tx_sum K (tx_pk len b) inner p = .ok (e, q) → p < q ∧ q ≤ len)) (hn : n ≤ 10) : rdC Γ d mX9_readExpression ty r g K len n b (tx_ex K (tx_pk len b) inner) := by
  intro h p hS hp h3 h5
  have hl := hS.1
  have h8 := hS.2.2.2.2.2.1
  refine pv_fn 4 pn_X9 rfl (Nat.le_of_ble_eq_true rfl) (sg_X9_readExpression_0 _ (by omega) hL (pv_CJ.mono (hC h p hS hp h3 h5) (fun x h1 q => ?_)))
  obtain ⟨f1, f2, f3⟩ := q
  have hS1 := rdS_fr hL f1 hS
  unfold tx_ex
  cases hr : tx_sum K (tx_pk len b) inner p with
  | error q0 =>
    obtain ⟨k1, p', k2, k3⟩ := f3 q0 hr
    have hq0 := (hb p hp).1 q0 hr
    have hn5 : ¬ h1 80 5 = -1 := by rw [k1]; exact ni_n1 (by omega)
    exact ⟨(rd_peek hS1 k3 (by omega)).1, fun _ => pv_jqi (rd_err f1 k1 k2 k3 _ rfl), fun z => absurd z hn5⟩
  | ok z0 =>
    obtain ⟨a, q0⟩ := z0
    obtain ⟨k1, k2, k3⟩ := f2 a q0 hr
    obtain ⟨k4, k5⟩ := (hb p hp).2 a q0 hr
    obtain ⟨y1, y2⟩ := rd_peek hS1 k2 (by omega)
    have hle := tx_pk_le (len := len) h8 q0
    rw [k1]
    dsimp only
    have go : ∀ o, tx_rel (tx_pk len b q0) = o → o ≠ 0 → ∀ (F : Int32 → pv_H → Prop), (∀ y h', pv_jq ty r g (rd_q K len n h (if tx_rel (tx_pk len b q0) = 0 then .ok (a, q0) else (match tx_sum K (tx_pk len b) inner (q0 + 1) with | .error q' => .error q' | .ok (b1, q') => .ok (tx_B (tx_rel (tx_pk len b q0)) a b1, q')))) (some (.int (tx_op o (tx_ev (rd_V h K) a) y))) ty h' r g → F y h') → ∀ h2, h2 = pv_up h1 80 3 (h1 80 3 + 1) → pv_CJ Γ (d - 1) mX9_readSum [.ref 80, .int (nI (10 - n))] ty h2 r g F := fun o ho hne F hF h2 e2 => by
      have hlt : q0 < len := Nat.lt_of_not_le (fun z => hne (by rw [← ho, tx_pk_ge z]; rfl))
      rw [k2, nI_1] at e2
      have hf2 : pv_fr rdA h h2 := by rw [e2]; exact rd_fr1 f1
      refine pv_CJ.mono (hC h2 (q0 + 1) (rdS_fr hL hf2 hS) hlt (by rw [e2, pv_up_same]) (by rw [e2, pv_up_j (by decide)]; exact k3)) (fun y h3' q => hF y h3' ?_)
      obtain ⟨g1, g2, g3⟩ := q
      have hf3 := pv_fr_tr hf2 g1
      rw [ho, if_neg hne]
      cases hr2 : tx_sum K (tx_pk len b) inner (q0 + 1) with
      | error q1 =>
        obtain ⟨j1, p', j2, j3⟩ := g3 q1 hr2
        exact pv_jqi (rd_err hf3 j1 j2 j3 _ rfl)
      | ok z1 =>
        obtain ⟨b1, q1⟩ := z1
        obtain ⟨j1, j2, j3⟩ := g2 b1 q1 hr2
        rw [j1, rd_V_fr hf2]
        exact pv_jqi (rd_okq (e := tx_B o a b1) hf3 j3 j2 rfl)
    refine ⟨y1, fun z => absurd k3 z, fun _ => pi_eq _ 60 y2 hle (fun c h2 e2 => ?_) (fun c1 => pi_eq _ 61 y2 hle (fun c h2 e2 => ?_) (fun c2 => pi_eq _ 62 y2 hle (fun c h2 e2 => ?_) (fun c3 => ?_)))⟩
    · refine go 40 (by rw [c]; rfl) (by decide) _ (fun y h' q => ⟨fun z => absurd ?_ z, fun _ => ⟨fun z => ?_, fun z => ?_⟩⟩) h2 e2
      · rw [y2, c]; rfl
      · rw [show tx_op 40 (tx_ev (rd_V h K) a) y = 0 from if_neg (Int32.not_lt.mpr z)] at q; exact q
      · rw [show tx_op 40 (tx_ev (rd_V h K) a) y = 1 from if_pos (Int32.not_le.mp z)] at q; exact q
    · refine go 41 (by rw [c]; rfl) (by decide) _ (fun y h' q => ⟨fun _ => ⟨fun _ => ⟨fun z => ?_, fun z => ?_⟩, fun z => absurd z ?_⟩, fun z => absurd z ?_⟩) h2 e2
      · rw [show tx_op 41 (tx_ev (rd_V h K) a) y = 0 from if_neg z] at q; exact q
      · rw [show tx_op 41 (tx_ev (rd_V h K) a) y = 1 from if_pos z] at q; exact q
      · rw [y2, c]; decide
      · rw [y2, c]; decide
    · refine go 42 (by rw [c]; rfl) (by decide) _ (fun y h' q => ⟨fun _ => ⟨fun z => absurd ?_ z, fun _ => ⟨fun z => ?_, fun z => ?_⟩⟩, fun z => absurd z ?_⟩) h2 e2
      · rw [y2, c]; rfl
      · rw [show tx_op 42 (tx_ev (rd_V h K) a) y = 0 from if_neg (Int32.not_lt.mpr z)] at q; exact q
      · rw [show tx_op 42 (tx_ev (rd_V h K) a) y = 1 from if_pos (Int32.not_le.mp z)] at q; exact q
      · rw [y2, c]; decide
    · have e0' : tx_rel (tx_pk len b q0) = 0 := by unfold tx_rel; rw [if_neg c1, if_neg c2, if_neg c3]
      rw [e0', if_pos rfl]
      exact pv_jqi (rd_okq f1 k3 k2 rfl)
/-- expressions at every depth -/
theorem rd_all (hL : pv_Lay ty r) (hl : len ≤ 160) : ∀ (n d : Nat), 5 * n + 12 ≤ d → n ≤ 10 → rdC Γ d mX9_readExpression ty r g K len n b (tx_exp K (tx_pk len b) n)
  | n, d, hd, hn => by
    have h1 : rdC Γ (d - 3) mX9_readOperand ty r g K len n b (tx_opnd K (tx_pk len b) (tx_in K (tx_pk len b) n)) := rd_opnd (by omega) hn hL (fun n' e => by
      subst e
      exact rd_all hL hl n' (d - 3 - 2) (by omega) (by omega))
    have h2 : rdC Γ (d - 2) mX9_readProduct ty r g K len n b (tx_prod K (tx_pk len b) (tx_in K (tx_pk len b) n)) := rd_prod (by omega) hL h1 (fun p hp => tx_sp_f (tx_opnd_s hl hn) hp)
    have h3 : rdC Γ (d - 1) mX9_readSum ty r g K len n b (tx_sum K (tx_pk len b) (tx_in K (tx_pk len b) n)) := rd_sum (by omega) hL h2 (fun p hp => tx_sp_f (tx_prod_s hl hn) hp)
    exact rd_expr (by omega) hL h3 (fun p hp => tx_sp_f (tx_sum_s hl hn) hp) hn
termination_by n => n
end RD
