/-! draw, drawn: both sides -/
theorem dr_num (s : Int32) {N i : Nat} (hi : i < N) (hN : N ≤ 40) : ((s.toUInt32 >>> (((8 : Int32)).toUInt32 &&& Int32.toUInt32 31)).toInt32) - ((s.toUInt32 >>> (((8 : Int32)).toUInt32 &&& Int32.toUInt32 31)).toInt32) / (nI N - nI i) * (nI N - nI i) = nI (s.toBitVec.toNat / 256 % (N - i)) := by
  have h1 := pk_ushr s 8 8 (by decide)
  have hb := s.toBitVec.isLt
  generalize (s.toUInt32 >>> (((8 : Int32)).toUInt32 &&& Int32.toUInt32 31)).toInt32 = q at h1 ⊢
  have hq : q = nI (s.toBitVec.toNat / 256) := by
    apply Int32.toBitVec_inj.mp
    apply BitVec.eq_of_toNat_eq
    rw [h1]
    show _ = (BitVec.ofNat 32 _).toNat
    rw [BitVec.toNat_ofNat]
    omega
  have hlt : s.toBitVec.toNat / 256 < 2 ^ 31 := by omega
  rw [hq, pk_sub (by omega), pk_div hlt (by omega) (by omega), pk_mul, pk_sub (Nat.div_mul_le_self _ _)]
  congr 1
  have := Nat.div_add_mod (s.toBitVec.toNat / 256) (N - i)
  rw [Nat.mul_comm] at this
  omega
abbrev lcA : Nat → Nat → Prop := fun a j => a = 92 ∨ a = 93 ∨ (a = 90 ∧ j = 3)
abbrev lmA : Nat → Nat → Prop := fun a j => a = 364 ∨ a = 363 ∨ (a = 200 ∧ j = 62)
section LB
variable {Γ : pv_C} {d kc ks : Nat} {ty : pv_T} {h h0 : pv_H} {r : pv_R} {g : pv_G} {Q : pv_Q} {N n : Nat} {z : Int32}
theorem lc_30 (hd : 1 ≤ d) (hL : pv_Lay ty r) (hN : N ≤ 40) (hn : n ≤ N) (hQ : ∀ h', pv_fr lcA h0 h' → h' 90 3 = nI n → (∀ j, j < n → h' 93 j = nI (dr_c z N j)) → Q (some (.int (nI n))) ty h' r g) : ∀ (m i : Nat) (h : pv_H), i + m = n → pv_fr lcA h0 h → (∀ j, j < N - i → h 92 j = nI (dr_f z N i j)) → (∀ j, j < i → h 93 j = nI (dr_c z N j)) → pv_E Γ d kc ks mX5_drawLots 30 [some (.ref 90), some (.int (nI N)), some (.int (nI n)), none, some (.int (dr_st z i)), some (.int (nI i)), none] [] ty h r g Q := by
  intro m
  induction m with
  | zero =>
    intro i h hi hf h1 h2
    have hi' : i = n := by omega
    subst hi'
    refine sg_X5_drawLots_30 _ _ _ _ hd hL (pk_le i i (fun _ h1' e1 => hQ h1' ?_ ?_ (fun j hj => ?_)) (fun c => absurd c (by omega)))
    · rw [e1]; exact pv_fr_up hf (Or.inr (Or.inr ⟨rfl, rfl⟩))
    · rw [e1, pv_up_same]
    · rw [e1, pv_up_a (by decide)]; exact h2 j hj
  | succ m ih =>
    intro i h hi hf h1 h2
    have hp := dr_p_lt z (N := N) (i := i) (by omega)
    have hok := dr_f_ok z N i (by omega)
    have en : ((dr_st z i * 1103515245 + 12345).toUInt32 >>> (((8 : Int32)).toUInt32 &&& Int32.toUInt32 31)).toInt32 - ((dr_st z i * 1103515245 + 12345).toUInt32 >>> (((8 : Int32)).toUInt32 &&& Int32.toUInt32 31)).toInt32 / (nI N - nI i) * (nI N - nI i) = nI (dr_p z N i) := dr_num (dr_st z (i + 1)) (by omega) hN
    refine sg_X5_drawLots_30 _ _ _ _ hd hL (pk_le n i (fun c => absurd c (by omega)) (fun _ => pk_le N i (fun c => absurd c (by omega)) (fun _ => ?_)))
    rw [en, nI_clamp (by omega)]
    have es : nI N - nI i - 1 - nI (dr_p z N i) = nI (N - i - 1 - dr_p z N i) := by
      rw [pk_sub (by omega), show (1 : Int32) = nI 1 from rfl, pk_sub (by omega), pk_sub (by omega)]
    have ep : nI (dr_p z N i) + 1 = nI (dr_p z N i + 1) := nI_1 _
    refine ⟨by rw [pk_sub (by omega)]; exact nI_ne0 (by omega) (by omega), vp_in_nI (by omega) (by decide), vp_in_nI (by omega) (by decide), fun h3 e3 => ?_⟩
    rw [nI_clamp (by omega), h1 _ hp] at e3
    rw [es, ep, nI_1]
    refine ⟨⟨20, 40, 40, lt_92 hL, lt_92 hL, Or.inl rfl, by decide, by decide, nI_pos' (by omega), nI_pos' (by omega), nI_pos' (by omega), ?_, ?_⟩, fun h4 e4 => ?_⟩
    · rw [nI_clamp (by omega), nI_clamp (by omega)]; omega
    · rw [nI_clamp (by omega), nI_clamp (by omega)]; omega
    · rw [nI_clamp (n := dr_p z N i + 1) (by omega), nI_clamp (n := N - i - 1 - dr_p z N i) (by omega), nI_clamp (n := dr_p z N i) (by omega)] at e4
      refine ih (i + 1) h4 (by omega) ?_ (fun j hj => ?_) (fun j hj => ?_)
      · refine pv_fr_tr hf (fun a j q => ?_)
        rw [e4, pv_cpy, if_neg (fun z => q (Or.inl z.1)), e3, pv_up_a (fun z => q (Or.inr (Or.inl z)))]
      · show _ = nI (dr_er (dr_p z N i) (dr_f z N i) j)
        unfold dr_er
        rw [e4, pv_cpy]
        by_cases q : j < dr_p z N i
        · rw [if_neg (by omega), if_pos q, e3, pv_up_a (by decide)]
          exact h1 j (by omega)
        · rw [if_pos ⟨rfl, by omega, by omega⟩, if_neg q, e3, pv_up_a (by decide), show dr_p z N i + 1 + (j - dr_p z N i) = j + 1 by omega]
          exact h1 (j + 1) (by omega)
      · rw [e4, pv_cpy, if_neg (by omega), e3]
        by_cases q : j = i
        · rw [q, pv_up_same]; rfl
        · rw [pv_up_j q]; exact h2 j (by omega)
theorem lc_3 (hd : 1 ≤ d) (hL : pv_Lay ty r) (hN : N ≤ 40) (hn : n ≤ N) (hQ : ∀ h', pv_fr lcA h0 h' → h' 90 3 = nI n → (∀ j, j < n → h' 93 j = nI (dr_c z N j)) → Q (some (.int (nI n))) ty h' r g) : ∀ (m k : Nat) (h : pv_H), k + m = N → pv_fr lcA h0 h → (∀ j, j < k → h 92 j = nI j) → pv_E Γ d kc ks mX5_drawLots 3 [some (.ref 90), some (.int (nI N)), some (.int (nI n)), some (.int z), some (.int (nI k)), none, none] [] ty h r g Q := by
  intro m
  induction m with
  | zero =>
    intro k h hk hf h1
    refine sg_X5_drawLots_3 _ _ _ _ hL (pk_le N k (fun _ => ?_) (fun c => absurd c (by omega)))
    exact lc_30 hd hL hN hn hQ n 0 h (Nat.zero_add _) hf (fun j hj => h1 j (by omega)) (fun j hj => absurd hj (by omega))
  | succ m ih =>
    intro k h hk hf h1
    refine sg_X5_drawLots_3 _ _ _ _ hL (pk_le N k (fun c => absurd c (by omega)) (fun _ => ⟨vp_in_nI (by omega) (by decide), fun h2 e2 => ?_⟩))
    rw [nI_clamp (by omega)] at e2
    rw [nI_1]
    refine ih (k + 1) h2 (by omega) (by rw [e2]; exact pv_fr_up hf (Or.inl rfl)) (fun j hj => ?_)
    rw [e2]
    by_cases q : j = k
    · rw [q, pv_up_same]
    · rw [pv_up_j q]; exact h1 j (by omega)
theorem lm_83 (hL : pv_Lay ty r) (hN : N ≤ 40) {i p M : Nat} {f : Nat → Nat} {s : Int32} (hi : i < 40) (hf : dr_ok M N f) (hD : dr_D M N f (fun k => h 364 k = 0)) (hp : p < M) (hE : ∀ h2, h2 = pv_up (pv_up h 364 (f p) 1) 363 i (nI (f p)) → pv_E Γ d kc ks mX12_draw 50 [some (.ref 200), some (.int (nI N)), some (.int (nI n)), none, some (.int s), some (.int (nI (i + 1))), none, none] [] ty h2 r g Q) : ∀ (m a k : Nat), k + m = f p → a ≤ p → (∀ b, b < a → f b < k) → (∀ b, a ≤ b → b < M → k ≤ f b) → pv_E Γ d kc ks mX12_draw 83 [some (.ref 200), some (.int (nI N)), some (.int (nI n)), none, some (.int s), some (.int (nI i)), some (.int (nI (p - a))), some (.int (nI k))] [] ty h r g Q := by
  have hfp := hf.2 p hp
  have hMN : M ≤ 40 := by
    have : ∀ b, b < M → b ≤ f b := by
      intro b
      induction b with
      | zero => intro _; omega
      | succ b ih => intro hb; have := ih (by omega); have := hf.1 b (b + 1) (by omega) hb; omega
    rcases Nat.eq_zero_or_pos M with q | q
    · omega
    · have h1 := this (M - 1) (by omega)
      have h2 := hf.2 (M - 1) (by omega)
      omega
  intro m
  induction m with
  | zero =>
    intro a k hk ha h1 h2
    have hk' : k = f p := by omega
    subst hk'
    have hap : a = p := by
      rcases Nat.lt_or_ge a p with q | q
      · have := hf.1 a p q hp
        have := h2 a (Nat.le_refl _) (by omega)
        omega
      · omega
    subst hap
    have hd0 : h 364 (f a) = 0 := (hD (f a) hfp).mpr ⟨a, hp, rfl⟩
    have hin : vp_in (nI (f a)) 40 := vp_in_nI (by omega) (by decide)
    refine sg_X12_draw_83 _ _ _ _ _ _ hL ⟨hin, ?_⟩
    rw [nI_clamp (by omega), hd0, nI_clamp (by omega)]
    refine ⟨fun q => absurd rfl q, fun _ => pk_le (a - a) 0 (fun _ => ⟨hin, fun h1' e1 => ⟨vp_in_nI (by omega) (by decide), fun h2' e2 => ?_⟩⟩) (fun c => absurd c (by omega))⟩
    rw [nI_1]
    refine hE h2' ?_
    rw [e2, e1]
    rfl
  | succ m ih =>
    intro a k hk ha h1 h2
    have hin : vp_in (nI k) 40 := vp_in_nI (by omega) (by decide)
    refine sg_X12_draw_83 _ _ _ _ _ _ hL ⟨hin, ?_⟩
    rw [nI_clamp (by omega), nI_clamp (by omega), nI_1, nI_1]
    refine ⟨fun c => ⟨hin, fun q => absurd q c, fun _ => ?_⟩, fun c => ?_⟩
    · rw [Int32.sub_zero]
      refine ih a (k + 1) (by omega) ha (fun b hb => by have := h1 b hb; omega) (fun b hb hb2 => ?_)
      have h3 := h2 b hb hb2
      have h4 : f b ≠ k := fun q => c ((hD k (by omega)).mpr ⟨b, hb2, q⟩)
      omega
    · obtain ⟨a', ha', e'⟩ := (hD k (by omega)).mp c
      have haa : a' = a := by
        rcases Nat.lt_trichotomy a' a with q | q | q
        · have := h1 a' q; omega
        · exact q
        · have := hf.1 a a' q ha'
          have := h2 a (Nat.le_refl _) (by omega)
          omega
      subst haa
      have hap : a' < p := by
        rcases Nat.lt_or_ge a' p with q | q
        · exact q
        · have : a' = p := by omega
          rw [this] at e'
          omega
      refine pk_le (p - a') 0 (fun q => absurd q (by omega)) (fun _ => ⟨hin, fun _ => ?_, fun q => absurd c q⟩)
      rw [show (1 : Int32) = nI 1 from rfl, pk_sub (by omega), show p - a' - 1 = p - (a' + 1) by omega]
      refine ih (a' + 1) (k + 1) (by omega) (by omega) (fun b hb => ?_) (fun b hb hb2 => ?_)
      · by_cases q : b = a'
        · rw [q]; omega
        · have := h1 b (by omega); omega
      · have := hf.1 a' b (by omega) hb2
        omega
theorem lm_50 (hL : pv_Lay ty r) (hN : N ≤ 40) (hn : n ≤ N) (hQ : ∀ h', pv_fr lmA h0 h' → h' 200 62 = nI n → (∀ j, j < n → h' 363 j = nI (dr_c z N j)) → Q (some (.int (nI n))) ty h' r g) : ∀ (m i : Nat) (h : pv_H), i + m = n → pv_fr lmA h0 h → dr_D (N - i) N (dr_f z N i) (fun k => h 364 k = 0) → (∀ j, j < i → h 363 j = nI (dr_c z N j)) → pv_E Γ d kc ks mX12_draw 50 [some (.ref 200), some (.int (nI N)), some (.int (nI n)), none, some (.int (dr_st z i)), some (.int (nI i)), none, none] [] ty h r g Q := by
  intro m
  induction m with
  | zero =>
    intro i h hi hf h1 h2
    have hi' : i = n := by omega
    subst hi'
    refine sg_X12_draw_50 _ _ _ _ hL (pk_le i i (fun _ h1' e1 => hQ h1' ?_ ?_ (fun j hj => ?_)) (fun c => absurd c (by omega)))
    · rw [e1]; exact pv_fr_up hf (Or.inr (Or.inr ⟨rfl, rfl⟩))
    · rw [e1, pv_up_same]
    · rw [e1, pv_up_a (by decide)]; exact h2 j hj
  | succ m ih =>
    intro i h hi hf h1 h2
    have hp := dr_p_lt z (N := N) (i := i) (by omega)
    have hok := dr_f_ok z N i (by omega)
    have en : ((dr_st z i * 1103515245 + 12345).toUInt32 >>> (((8 : Int32)).toUInt32 &&& Int32.toUInt32 31)).toInt32 - ((dr_st z i * 1103515245 + 12345).toUInt32 >>> (((8 : Int32)).toUInt32 &&& Int32.toUInt32 31)).toInt32 / (nI N - nI i) * (nI N - nI i) = nI (dr_p z N i) := dr_num (dr_st z (i + 1)) (by omega) hN
    refine sg_X12_draw_50 _ _ _ _ hL (pk_le n i (fun c => absurd c (by omega)) (fun _ => ⟨by rw [pk_sub (by omega)]; exact nI_ne0 (by omega) (by omega), ?_⟩))
    rw [en]
    have h83 := lm_83 (Γ := Γ) (d := d) (kc := kc) (ks := ks) (g := g) (Q := Q) (n := n) (s := dr_st z i * 1103515245 + 12345) hL hN (i := i) (by omega) hok h1 hp (fun h3 e3 => ih (i + 1) h3 (by omega) ?_ ?_ (fun j hj => ?_)) _ 0 0 (Nat.zero_add _) (Nat.zero_le _) (fun b hb => absurd hb (by omega)) (fun b _ _ => Nat.zero_le _)
    · rw [Nat.sub_zero] at h83
      exact h83
    · rw [e3]; exact pv_fr_up (pv_fr_up hf (Or.inl rfl)) (Or.inr (Or.inl rfl))
    · have hok' := hok
      rw [show N - i = N - (i + 1) + 1 by omega] at hok' h1
      have hD := dr_D_er hok' (p := dr_p z N i) (by omega) h1
      intro k hk
      have e5 : (h3 364 k = 0) ↔ (h 364 k = 0 ∧ k ≠ dr_f z N i (dr_p z N i)) := by
        rw [e3, pv_up_a (by decide)]
        by_cases q : k = dr_f z N i (dr_p z N i)
        · rw [q, pv_up_same]
          exact ⟨fun z => absurd z (by decide), fun z => absurd rfl z.2⟩
        · rw [pv_up_j q]
          exact ⟨fun z => ⟨z, q⟩, fun z => z.1⟩
      exact e5.trans (hD k hk)
    · rw [e3]
      by_cases q : j = i
      · rw [q, pv_up_same]; rfl
      · rw [pv_up_j q, pv_up_a (by decide)]; exact h2 j (by omega)
theorem lm_24 (hL : pv_Lay ty r) (hN : N ≤ 40) (hn : n ≤ N) (hQ : ∀ h', pv_fr lmA h0 h' → h' 200 62 = nI n → (∀ j, j < n → h' 363 j = nI (dr_c z N j)) → Q (some (.int (nI n))) ty h' r g) : ∀ (m k : Nat) (h : pv_H), k + m = N → pv_fr lmA h0 h → (∀ j, j < k → h 364 j = 0) → pv_E Γ d kc ks mX12_draw 24 [some (.ref 200), some (.int (nI N)), some (.int (nI n)), some (.int z), some (.int (nI k)), none, none, none] [] ty h r g Q := by
  intro m
  induction m with
  | zero =>
    intro k h hk hf h1
    refine sg_X12_draw_24 _ _ _ _ hL (pk_le N k (fun _ => ?_) (fun c => absurd c (by omega)))
    exact lm_50 hL hN hn hQ n 0 h (Nat.zero_add _) hf (fun j hj => ⟨fun _ => ⟨j, hj, rfl⟩, fun _ => h1 j (by omega)⟩) (fun j hj => absurd hj (by omega))
  | succ m ih =>
    intro k h hk hf h1
    refine sg_X12_draw_24 _ _ _ _ hL (pk_le N k (fun c => absurd c (by omega)) (fun _ => ⟨vp_in_nI (by omega) (by decide), fun h2 e2 => ?_⟩))
    rw [nI_clamp (by omega)] at e2
    rw [nI_1]
    refine ih (k + 1) h2 (by omega) (by rw [e2]; exact pv_fr_up hf (Or.inl rfl)) (fun j hj => ?_)
    rw [e2]
    by_cases q : j = k
    · rw [q, pv_up_same]; rfl
    · rw [pv_up_j q]; exact h1 j (by omega)
def fo_draw (x y : Int32) : Prop := (1 ≤ x ∧ x ≤ 40) ∧ (1 ≤ y ∧ y ≤ x)
theorem dw_x {x y : Int32} (q : fo_draw x y) : ∃ N n, N ≤ 40 ∧ 1 ≤ n ∧ n ≤ N ∧ x = nI N ∧ y = nI n := by
  obtain ⟨⟨a1, a2⟩, b1, b2⟩ := q
  obtain ⟨N, h1, rfl⟩ := nI_of (x := x) (by grind)
  obtain ⟨n, h2, rfl⟩ := nI_of (x := y) (by grind)
  exact ⟨N, n, (nI_leI (b := 40) h1 (by decide)).mp a2, (nI_leI (a := 1) (by decide) h2).mp b1, (nI_leI h2 h1).mp b2, rfl, rfl⟩
/-- what draw does: the row a, the count (c, j0) -/
def fq_draw (h : pv_H) (a c j0 : Nat) (x y z w : Int32) (h' : pv_H) : Prop := (¬ fo_draw x y → w = -1 ∧ h' = h) ∧ ∀ N n, N ≤ 40 → n ≤ N → x = nI N → y = nI n → fo_draw x y → w = nI n ∧ h' c j0 = nI n ∧ ∀ j, j < n → h' a j = nI (dr_c z N j)
theorem dw_one {N n N' n' : Nat} (h1 : N ≤ 40) (h2 : n ≤ N) (h3 : N' ≤ 40) (h4 : n' ≤ N') (e1 : nI N = nI N') (e2 : nI n = nI n') : N' = N ∧ n' = n := ⟨((nI_eq (by omega) (by omega)).mp e1).symm, ((nI_eq (by omega) (by omega)).mp e2).symm⟩
theorem ct_X11_draw (hd : 2 ≤ d) (hL : pv_Lay ty r) {x y : Int32} : pv_CJ Γ d mX11_draw [.ref 100, .int x, .int y, .int z] ty h r g (fun w h' => pv_fr lcA h h' ∧ fq_draw h 93 90 3 x y z w h') := by
  refine pv_fn 0 pn_X11 rfl (Nat.le_of_ble_eq_true rfl) (sg_X11_draw_0 _ _ _ (by omega) hL (pk_b (fun c1 => pj_b (fun c2 => ?_) (fun c2 => pv_jqi ⟨pv_fr_refl _ _, fun _ => ⟨rfl, rfl⟩, fun _ _ _ _ _ _ q => absurd q.2 c2⟩)) (fun c1 => pv_jqi ⟨pv_fr_refl _ _, fun _ => ⟨rfl, rfl⟩, fun _ _ _ _ _ _ q => absurd q.1 c1⟩)))
  have hok : fo_draw x y := ⟨c1, c2⟩
  obtain ⟨N, n, hN, hn1, hn, rfl, rfl⟩ := dw_x hok
  refine pv_fn 3 pn_X5 rfl (Nat.le_of_ble_eq_true rfl) (sg_X5_drawLots_0 _ _ _ (lc_3 (by omega) hL hN hn (fun h' f1 f2 f3 => pv_jqi (pv_jqi ⟨f1, fun q => absurd hok q, fun N' n' a1 a2 a3 a4 _ => ?_⟩)) N 0 h (Nat.zero_add _) (pv_fr_refl _ _) (fun j hj => absurd hj (by omega))))
  obtain ⟨rfl, rfl⟩ := dw_one hN hn a1 a2 a3 a4
  exact ⟨rfl, f2, f3⟩
theorem ct_X12_draw (hd : 1 ≤ d) (hL : pv_Lay ty r) {x y : Int32} : pv_CJ Γ d mX12_draw [.ref 200, .int x, .int y, .int z] ty h r g (fun w h' => pv_fr lmA h h' ∧ fq_draw h 363 200 62 x y z w h') := by
  refine pv_fn 4 pn_X12 rfl (Nat.le_of_ble_eq_true rfl) (sg_X12_draw_0 _ _ _ (by omega) (pk_b (fun c1 => pj_b (fun c2 => ?_) (fun c2 => pv_jqi ⟨pv_fr_refl _ _, fun _ => ⟨rfl, rfl⟩, fun _ _ _ _ _ _ q => absurd q.2 c2⟩)) (fun c1 => pv_jqi ⟨pv_fr_refl _ _, fun _ => ⟨rfl, rfl⟩, fun _ _ _ _ _ _ q => absurd q.1 c1⟩)))
  have hok : fo_draw x y := ⟨c1, c2⟩
  obtain ⟨N, n, hN, hn1, hn, rfl, rfl⟩ := dw_x hok
  refine lm_24 hL hN hn (fun h' f1 f2 f3 => pv_jqi ⟨f1, fun q => absurd hok q, fun N' n' a1 a2 a3 a4 _ => ?_⟩) N 0 h (Nat.zero_add _) (pv_fr_refl _ _) (fun j hj => absurd hj (by omega))
  obtain ⟨rfl, rfl⟩ := dw_one hN hn a1 a2 a3 a4
  exact ⟨rfl, f2, f3⟩
def fn_drawn (h : pv_H) (x : Int32) : Int32 := if 0 ≤ x ∧ x ≤ h 200 62 - 1 then h 363 x.toNatClampNeg else -1
theorem ct_X12_drawn (hd : 1 ≤ d) (hL : pv_Lay ty r) {nd : Nat} (hn : nd ≤ 40) (h62 : h 200 62 = nI nd) {x : Int32} : pv_CJ Γ d mX12_drawn [.ref 200, .int x] ty h r g (fun w h' => w = fn_drawn h x ∧ h' = h) := by
  unfold fn_drawn
  refine pv_fn 0 pn_X12 rfl (Nat.le_of_ble_eq_true rfl) (sg_X12_drawn_0 _ (by omega) hL (pk_b (fun c => ⟨?_, pv_jqi ⟨by rw [if_pos c], rfl⟩⟩) (fun c => pv_jqi ⟨by rw [if_neg c], rfl⟩)))
  rw [h62, ni_valid (by omega)] at c
  obtain ⟨s, hs, rfl⟩ := c
  exact vp_in_nI (by omega) (by decide)
theorem ct_X11_drawn (hd : 1 ≤ d) (hL : pv_Lay ty r) {nd : Nat} (hn : nd ≤ 40) (h62 : h 200 62 = nI nd) (h90 : h 90 3 = nI nd) (hr : ∀ j, j < nd → h 93 j = h 363 j) {x : Int32} : pv_CJ Γ d mX11_drawn [.ref 100, .int x] ty h r g (fun w h' => w = fn_drawn h x ∧ h' = h) := by
  have hf : ¬ (0 ≤ x ∧ x ≤ h 200 62 - 1) → -1 = fn_drawn h x := fun c => by unfold fn_drawn; rw [if_neg c]
  have hv := ni_valid (x := x) (n := nd) (by omega)
  rw [h62] at hf
  refine pv_fn 0 pn_X11 rfl (Nat.le_of_ble_eq_true rfl) (sg_X11_drawn_0 _ (by omega) hL (pv_fn 0 pn_X5 rfl (Nat.le_of_ble_eq_true rfl) (sg_X5_lotAt_0 _ hL ⟨fun c => pv_jqi (pv_jqi ⟨hf (fun q => Int32.not_lt.mpr q.1 c), rfl⟩), fun c => ?_⟩)))
  obtain ⟨k, k1, rfl⟩ := nI_of c
  refine pk_le nd k (fun c2 => pv_jqi (pv_jqi ⟨hf (fun q => ?_), rfl⟩)) (fun c2 => ⟨vp_in_nI (by omega) (by decide), pv_jqi (pv_jqi ⟨?_, rfl⟩)⟩) h90
  · obtain ⟨s, hs, e⟩ := hv.mp q
    have := (nI_eq (by omega) (by omega)).mp e
    omega
  · unfold fn_drawn
    rw [h62, if_pos (hv.mpr ⟨k, c2, rfl⟩), nI_clamp (by omega)]
    exact hr k c2
end LB
