/-! rate, rates, clause: both sides -/
def pt_p (h : pv_H) (cs : List tx_C) (i : Nat) (sec : Bool) (u : Int32) : Int32 := pt_cl (tx_val (pt_V h i sec u) cs 0).1
def rt_1 (h : pv_H) (cs : List tx_C) (i : Nat) (u : Int32) : Int32 := pt_p h cs i false u + (if h 336 i = -1 then 0 else pt_p h cs i true u)
def fn_rate (h : pv_H) (cs : List tx_C) (na : Nat) (x y z : Int32) : Int32 := if (0 ≤ x ∧ x ≤ h 200 33 - 1) ∧ (0 ≤ y ∧ y ≤ 9999) ∧ (0 ≤ z ∧ z ≤ 9999) then (match fo_l h 0 y z na with | none => 0 | some _ => rt_1 h cs x.toNatClampNeg y) else -2000000000
def cl_2 (g : Int32) : Int32 := if g = -1 then -2 else g
def fn_clause (h : pv_H) (cs : List tx_C) (na : Nat) (x y : Int32) : Int32 := if (0 ≤ x ∧ x ≤ h 200 33 - 1) ∧ (0 ≤ y ∧ y ≤ 9999) then (match fo_l h 0 y y na with | none => -2 | some _ => cl_2 (tx_val (pt_V h x.toNatClampNeg false y) cs 0).2) else -1
/-- the parts that lie in street x, of the houses below n -/
def rt_s (h : pv_H) (cs : List tx_C) (x u : Int32) : Nat → Int32
  | 0 => 0
  | n + 1 => rt_s h cs x u n + (if h 334 n = x then pt_p h cs n false u else if h 336 n = x then pt_p h cs n true u else 0)
def fn_rates (h : pv_H) (cs : List tx_C) (na nh : Nat) (x y : Int32) : Int32 := if (0 ≤ x ∧ x ≤ h 200 1 - 1) ∧ (0 ≤ y ∧ y ≤ 9999) then (match fo_l h 0 y y na with | none => 0 | some _ => rt_s h cs x y nh) else -2000000000
theorem pt_V_c {h h' : pv_H} (hh : ∀ a j, 334 ≤ a → a ≤ 338 → h' a j = h a j) : pt_V h' = pt_V h := by
  funext i sec u c
  unfold pt_V
  rw [hh 337 i (by decide) (by decide), hh 335 i (by decide) (by decide), hh 338 i (by decide) (by decide), hh 336 i (by decide) (by decide), hh 334 i (by decide) (by decide)]
theorem fo_l_c {h h' : pv_H} {x y z : Int32} (hh : ∀ a j, 342 ≤ a → a ≤ 344 → h' a j = h a j) : ∀ n, fo_l h' x y z n = fo_l h x y z n
  | 0 => rfl
  | n + 1 => by
    have e : fo_P h' x y z n ↔ fo_P h x y z n := by
      unfold fo_P
      rw [hh 342 n (by decide) (by decide), hh 343 n (by decide) (by decide), hh 344 n (by decide) (by decide)]
    show (if fo_P h' x y z n then some n else fo_l h' x y z n) = (if fo_P h x y z n then some n else fo_l h x y z n)
    rw [fo_l_c hh n]
    by_cases q : fo_P h x y z n
    · rw [if_pos q, if_pos (e.mpr q)]
    · rw [if_neg q, if_neg (fun z => q (e.mp z))]
theorem rt_s_c {h h' : pv_H} {cs : List tx_C} {x u : Int32} (hh : ∀ a j, 334 ≤ a → a ≤ 338 → h' a j = h a j) : ∀ n, rt_s h' cs x u n = rt_s h cs x u n
  | 0 => rfl
  | n + 1 => by
    show rt_s h' cs x u n + _ = rt_s h cs x u n + _
    rw [rt_s_c hh n]
    unfold pt_p
    rw [pt_V_c hh, hh 334 n (by decide) (by decide), hh 336 n (by decide) (by decide)]
theorem rt_1_c {h h' : pv_H} {cs : List tx_C} {i : Nat} {u : Int32} (hh : ∀ a j, 334 ≤ a → a ≤ 338 → h' a j = h a j) : rt_1 h' cs i u = rt_1 h cs i u := by
  unfold rt_1 pt_p
  rw [pt_V_c hh, hh 336 i (by decide) (by decide)]
/-- the clauses of the act that is in force -/
def cs_ok (K : Nat) (cs : List tx_C) (ty : pv_T) (h : pv_H) (r : pv_R) (o : Option Nat) : Prop := ∀ i, o = some i → pt_C K cs ty h r i ∧ pt_M K cs h i
theorem cs_of {ty : pv_T} {h : pv_H} {r : pv_R} {na tl K : Nat} {y z : Int32} (hK : K < 2) (hA : cpA ty h r na tl) : ∃ cs, cs_ok K cs ty h r (fo_l h (nI K) y z na) := by
  cases hf : fo_l h (nI K) y z na with
  | none => exact ⟨[], fun i e => by cases e⟩
  | some o =>
    obtain ⟨ho, hP⟩ := fo_l_lt hf
    obtain ⟨cs, c1, c2⟩ := pt_of hA ho hP.1 hK
    exact ⟨cs, fun i e => by cases e; exact ⟨c1, c2⟩⟩
section RU
variable {Γ : pv_C} {d kc ks : Nat} {ty : pv_T} {h : pv_H} {r : pv_R} {g : pv_G} {Q : pv_Q} {na tl nh ns : Nat} {x y z : Int32} {cs : List tx_C}
theorem ct_X12_rate (hd : 3 ≤ d) (hL : pv_Lay ty r) (hA : cpA ty h r na tl) (hH : cpH ty h r nh) (hcs : cs_ok 0 cs ty h r (fo_l h 0 y z na)) : pv_CJ Γ d mX12_rate [.ref 200, .int x, .int y, .int z] ty h r g (fun w h' => pv_fr gmA h h' ∧ w = fn_rate h cs na x y z) := by
  have hn := hH.1.1
  unfold fn_rate
  refine pv_fn 1 pn_X12 rfl (Nat.le_of_ble_eq_true rfl) (sg_X12_rate_0 _ _ _ (by omega) hL (pk_b (fun c1 => pk_b (fun c2 => pj_b (fun c3 => pv_CJ.mono (ct_X12_forceOn hL hA) (fun w h1 q => ?_)) (fun c3 => pv_jqi ⟨pv_fr_refl _ _, by rw [if_neg (fun q => c3 q.2.2)]⟩)) (fun c2 => pv_jqi ⟨pv_fr_refl _ _, by rw [if_neg (fun q => c2 q.2.1)]⟩)) (fun c1 => pv_jqi ⟨pv_fr_refl _ _, by rw [if_neg (fun q => c1 q.1)]⟩)))
  obtain ⟨rfl, rfl⟩ := q
  rw [if_pos ⟨c1, c2, c3⟩]
  rw [hH.1.2.1, ni_valid (by omega)] at c1
  obtain ⟨i, hi, rfl⟩ := c1
  cases hf : fo_l h1 0 y z na with
  | none => exact ⟨fun q => absurd q (by decide), fun _ => pv_jqi ⟨pv_fr_refl _ _, rfl⟩⟩
  | some o =>
    obtain ⟨-, hM⟩ := hcs o hf
    have hok := (hH.2 i hi).2.2.2
    have ho := hM.1
    refine ⟨fun _ => pv_CJ.mono (ct_X12_part (sec := false) (by omega) hL hM (by omega) hok) (fun w2 h2 q => ?_), fun q => absurd (nI_pos' (by omega)) q⟩
    obtain ⟨f2, e2, -⟩ := q
    have e336 : h2 336 i = h1 336 i := f2 336 i (by unfold gmA; omega)
    have hiff : 0 ≤ h1 336 i ↔ ¬ h1 336 i = -1 := by
      rcases hok.2.1 with e | e
      · rw [e]; decide
      · exact ⟨fun _ q => by rw [q] at e; exact absurd e (by decide), fun _ => e⟩
    have hV : pt_V h2 = pt_V h1 := pt_V_c (fun a j a1 a2 => f2 a j (by unfold gmA; omega))
    have hok2 : hs_ok h2 i := by
      unfold hs_ok
      rw [e336, f2 334 i (by unfold gmA; omega)]
      exact hok
    rw [nI_clamp (by omega), e336]
    refine ⟨vp_in_nI (by omega) (by decide), fun c4 => pv_CJ.mono (ct_X12_part (sec := true) (by omega) hL (pt_M_fr f2 hM) (by omega) hok2) (fun w3 h3 q => ?_), fun c4 => pv_jqi ⟨f2, ?_⟩⟩
    · obtain ⟨f3, e3, -⟩ := q
      refine pv_jqi ⟨pv_fr_tr f2 f3, ?_⟩
      rw [e2, e3, hV]
      show _ = pt_p h1 cs i false y + (if h1 336 i = -1 then 0 else pt_p h1 cs i true y)
      rw [if_neg (hiff.mp c4)]
      rfl
    · rw [e2]
      show _ = pt_p h1 cs i false y + (if h1 336 i = -1 then 0 else pt_p h1 cs i true y)
      rw [if_pos (Classical.not_not.mp (fun q => c4 (hiff.mpr q)))]
      rfl
theorem pt_C_fr {K o : Nat} {h h' : pv_H} {r r' : pv_R} (ho : o < 20) (hf : pv_fr gpA h h') (hr : pv_frG gpR r r') (hC : pt_C K cs ty h r o) : pt_C K cs ty h' r' o := by
  obtain ⟨a1, a2, a3, n, q, b1, b2, b3⟩ := hC
  refine ⟨a1, a2, (hr _ _ (by unfold gpR aA; omega)).trans a3, n, q, b1, b2, ?_⟩
  rw [pv_fr_r hf (fun j => by unfold gpA aA; omega)]
  exact b3
theorem hh_fr {i : Nat} {h h' : pv_H} (hi : i < 60) (hf : pv_fr gpA h h') (hh : ∀ j, j < 5 → h (hA i) j = h (334 + j) i) : ∀ j, j < 5 → h' (hA i) j = h' (334 + j) i := fun j hj => by
  rw [hf _ _ (by unfold gpA hA; omega), hf _ _ (by unfold gpA; omega)]
  exact hh j hj
theorem ct_X11_rate (hd : 68 ≤ d) (hL : pv_Lay ty r) (hA' : cpA ty h r na tl) (hH : cpH ty h r nh) (hcs : cs_ok 0 cs ty h r (fo_l h 0 y z na)) {k : pv_Q} (hk : ∀ h' r', pv_fr gpA h h' → pv_frG gpR r r' → pv_Lay ty r' → k (some (.int (fn_rate h cs na x y z))) ty h' r' g) : pv_CT Γ d 0 0 mX11_rate [.ref 100, .int x, .int y, .int z] ty h r g k := by
  have hn := hH.1.1
  have hk0 := hk h r (pv_fr_refl _ _) (pv_frG_refl _ _) hL
  unfold fn_rate at hk hk0
  refine pv_fn 3 pn_X11 rfl (Nat.le_of_ble_eq_true rfl) (sg_X11_rate_0 _ _ _ (by omega) hL (ct_findH hL hH (fun hf => ⟨_, rfl, hL, fun _ => ?_, fun q => absurd rfl q⟩) (fun i hi e => ⟨_, rfl, hL, fun q => absurd q (by unfold hA; omega), fun _ => pk_b (fun c2 => pj_b (fun c3 => ct_X1_find (by omega) hL hA' (fun hf => ⟨_, rfl, hL, ?_⟩) (fun o hf => ⟨_, rfl, hL, ?_⟩)) (fun c3 => ?_)) (fun c2 => ?_)⟩)))
  · rw [if_neg (fun q => hf q.1)] at hk0; exact hk0
  · subst e
    have hv : 0 ≤ nI i ∧ nI i ≤ h 200 33 - 1 := by rw [hH.1.2.1, ni_valid (by omega)]; exact ⟨i, hi, rfl⟩
    obtain ⟨-, a2, a3, hok⟩ := hH.2 i hi
    rw [if_pos ⟨hv, c2, c3⟩, hf] at hk0
    refine ct_givePart0 hL ⟨_, rfl, hL, a2, a2, pk_b (fun c4 => ct_givePart0 hL ⟨_, rfl, hL, ?_⟩) (fun c4 => hk0)⟩
    exact hk0
  · subst e
    have hv : 0 ≤ nI i ∧ nI i ≤ h 200 33 - 1 := by rw [hH.1.2.1, ni_valid (by omega)]; exact ⟨i, hi, rfl⟩
    obtain ⟨-, a2, a3, hok⟩ := hH.2 i hi
    rw [if_pos ⟨hv, c2, c3⟩, hf, nI_clamp (by omega)] at hk
    obtain ⟨hC, hM⟩ := hcs o hf
    refine ct_givePart (sec := false) (by omega) hL hC hM.2.2.2 a2 (by omega) a3 (fun h1 r1 f1 fr1 hL1 _ => ⟨_, rfl, hL1, a2, a2, ?_⟩)
    have e2 : h1 (hA i) 2 = h 336 i := by rw [f1 _ _ (by unfold gpA hA; omega)]; exact a3 2 (by decide)
    rw [e2]
    refine pk_b (fun c4 => ?_) (fun c4 => ?_)
    · refine ct_givePart (sec := true) (by omega) hL1 (pt_C_fr hM.1 f1 fr1 hC) hM.2.2.2 a2 (by omega) (hh_fr (by omega) f1 a3) (fun h2 r2 f2 fr2 hL2 _ => ⟨_, rfl, hL2, ?_⟩)
      have hV : pt_V h1 = pt_V h := pt_V_c (fun a j b1 b2 => f1 a j (by unfold gpA; omega))
      have := hk h2 r2 (pv_fr_tr f1 f2) (fun a j q => (fr2 a j q).trans (fr1 a j q)) hL2
      rw [hV]
      have e3 : rt_1 h cs i y = pt_p h cs i false y + pt_p h cs i true y := by unfold rt_1; rw [if_neg c4]
      rw [e3] at this
      exact this
    · have := hk h1 r1 f1 fr1 hL1
      have e3 : rt_1 h cs i y = pt_p h cs i false y := by unfold rt_1; rw [if_pos (Classical.not_not.mp c4), Int32.add_zero]
      rw [e3] at this
      exact this
  · rw [if_neg (fun q => c3 q.2.2)] at hk0; exact hk0
  · rw [if_neg (fun q => c2 q.2.1)] at hk0; exact hk0
theorem cl_2g {V : Nat → Int32} (hl : (tx_rt cs).length ≤ 161) : (0 ≤ (tx_val V cs 0).2 ↔ ¬ (tx_val V cs 0).2 = -1) := by
  have := tx_rt_len cs
  rcases tx_val_2 V cs 0 with e | ⟨j, h1, h2⟩
  · rw [e]; decide
  · rw [h2]; exact ⟨fun _ => ni_n1 (by omega), fun _ => nI_pos' (by omega)⟩
theorem ct_X12_clause (hd : 3 ≤ d) (hL : pv_Lay ty r) (hA : cpA ty h r na tl) (hH : cpH ty h r nh) (hcs : cs_ok 0 cs ty h r (fo_l h 0 y y na)) : pv_CJ Γ d mX12_clause [.ref 200, .int x, .int y] ty h r g (fun w h' => pv_fr gmA h h' ∧ w = fn_clause h cs na x y) := by
  have hn := hH.1.1
  unfold fn_clause
  refine pv_fn 2 pn_X12 rfl (Nat.le_of_ble_eq_true rfl) (sg_X12_clause_0 _ _ (by omega) hL (pk_b (fun c1 => pj_b (fun c3 => pv_CJ.mono (ct_X12_forceOn hL hA) (fun w h1 q => ?_)) (fun c3 => pv_jqi ⟨pv_fr_refl _ _, by rw [if_neg (fun q => c3 q.2)]⟩)) (fun c1 => pv_jqi ⟨pv_fr_refl _ _, by rw [if_neg (fun q => c1 q.1)]⟩)))
  obtain ⟨rfl, rfl⟩ := q
  rw [if_pos ⟨c1, c3⟩]
  rw [hH.1.2.1, ni_valid (by omega)] at c1
  obtain ⟨i, hi, rfl⟩ := c1
  cases hf : fo_l h1 0 y y na with
  | none => exact ⟨fun q => absurd q (by decide), fun _ => pv_jqi ⟨pv_fr_refl _ _, rfl⟩⟩
  | some o =>
    obtain ⟨-, hM⟩ := hcs o hf
    have ho := hM.1
    refine ⟨fun _ => pv_CJ.mono (ct_X12_part (sec := false) (by omega) hL hM (by omega) (hH.2 i hi).2.2.2) (fun w2 h2 q => ?_), fun q => absurd (nI_pos' (by omega)) q⟩
    obtain ⟨f2, e2, e3⟩ := q
    have hg := cl_2g (cs := cs) (V := pt_V h1 i false y) hM.2.2.1
    rw [e3]
    refine ⟨fun c4 => pv_jqi ⟨f2, ?_⟩, fun c4 => pv_jqi ⟨f2, ?_⟩⟩
    · show _ = cl_2 (tx_val (pt_V h1 (nI i).toNatClampNeg false y) cs 0).2
      rw [nI_clamp (by omega)]
      unfold cl_2
      rw [if_neg (hg.mp c4)]
    · show _ = cl_2 (tx_val (pt_V h1 (nI i).toNatClampNeg false y) cs 0).2
      rw [nI_clamp (by omega)]
      unfold cl_2
      rw [if_pos (Classical.not_not.mp (fun q => c4 (hg.mpr q)))]
theorem ct_X11_clause (hd : 69 ≤ d) (hL : pv_Lay ty r) (hA' : cpA ty h r na tl) (hH : cpH ty h r nh) (hcs : cs_ok 0 cs ty h r (fo_l h 0 y y na)) {k : pv_Q} (hk : ∀ h' r', pv_fr gpA h h' → pv_frG gpR r r' → pv_Lay ty r' → k (some (.int (fn_clause h cs na x y))) ty h' r' g) : pv_CT Γ d 0 0 mX11_clause [.ref 100, .int x, .int y] ty h r g k := by
  have hn := hH.1.1
  have hk0 := hk h r (pv_fr_refl _ _) (pv_frG_refl _ _) hL
  unfold fn_clause at hk hk0
  refine pv_fn 3 pn_X11 rfl (Nat.le_of_ble_eq_true rfl) (sg_X11_clause_0 _ _ (by omega) hL (ct_findH hL hH (fun hf => ⟨_, rfl, hL, fun _ => ?_, fun q => absurd rfl q⟩) (fun i hi e => ⟨_, rfl, hL, fun q => absurd q (by unfold hA; omega), fun _ => pj_b (fun c3 => ct_X1_find (by omega) hL hA' (fun hf => ⟨_, rfl, hL, fun q => absurd rfl q, fun _ => ?_⟩) (fun o hf => ⟨_, rfl, hL, fun _ => ?_, fun q => absurd q (aA_ne o)⟩)) (fun c3 => ?_)⟩)))
  · rw [if_neg (fun q => hf q.1)] at hk0; exact hk0
  · subst e
    have hv : 0 ≤ nI i ∧ nI i ≤ h 200 33 - 1 := by rw [hH.1.2.1, ni_valid (by omega)]; exact ⟨i, hi, rfl⟩
    rw [if_pos ⟨hv, c3⟩, hf] at hk0
    exact hk0
  · subst e
    have hv : 0 ≤ nI i ∧ nI i ≤ h 200 33 - 1 := by rw [hH.1.2.1, ni_valid (by omega)]; exact ⟨i, hi, rfl⟩
    obtain ⟨-, a2, a3, hok⟩ := hH.2 i hi
    rw [if_pos ⟨hv, c3⟩, hf, nI_clamp (by omega)] at hk
    obtain ⟨hC, hM⟩ := hcs o hf
    refine ct_givePart (sec := false) (by omega) hL hC hM.2.2.2 a2 (by omega) a3 (fun h1 r1 f1 fr1 hL1 e6 => ⟨_, rfl, hL1, ?_⟩)
    have hk1 := hk h1 r1 f1 fr1 hL1
    dsimp only at hk1
    unfold cl_2 at hk1
    rw [e6]
    refine ⟨fun c4 => ?_, fun c4 => ?_⟩
    · rw [if_neg c4] at hk1; exact hk1
    · rw [if_pos c4] at hk1; exact hk1
  · rw [if_neg (fun q => c3 q.2)] at hk0; exact hk0
theorem rs_m33 (hd : 3 ≤ d) (hL : pv_Lay ty r) {h0 : pv_H} (hn : nh ≤ 60) (h33 : h0 200 33 = nI nh) (hok : ∀ i, i < nh → hs_ok h0 i) {o : Nat} (hM : pt_M 0 cs h0 o) (hQ : ∀ h', pv_fr gmA h0 h' → Q (some (.int (rt_s h0 cs x y nh))) ty h' r g) : ∀ (m k : Nat) (h : pv_H), k + m = nh → pv_fr gmA h0 h → pv_E Γ d kc ks mX12_rates 33 [some (.ref 200), some (.int x), some (.int y), some (.int (nI o)), some (.int (rt_s h0 cs x y k)), some (.int (nI k))] [] ty h r g Q := by
  have ho := hM.1
  intro m
  induction m with
  | zero =>
    intro k h hk hf
    rw [show k = nh by omega]
    exact sg_X12_rates_33 _ _ _ _ _ (by omega) hL (pk_le nh nh (fun _ => hQ h hf) (fun c => absurd c (by omega)) ((hf 200 33 (by unfold gmA; omega)).trans h33))
  | succ m ih =>
    intro k h hk hf
    have hr : ∀ a j, 334 ≤ a → a ≤ 338 → h a j = h0 a j := fun a j a1 a2 => hf a j (by unfold gmA; omega)
    have hV : pt_V h = pt_V h0 := pt_V_c hr
    have hok' : hs_ok h k := by
      have := hok k (by omega)
      unfold hs_ok at this ⊢
      rw [hr 334 k (by decide) (by decide), hr 336 k (by decide) (by decide)]
      exact this
    have hin : vp_in (nI k) 60 := vp_in_nI (by omega) (by decide)
    have nx : ∀ h1, pv_fr gmA h0 h1 → pv_E Γ d kc ks mX12_rates 33 [some (.ref 200), some (.int x), some (.int y), some (.int (nI o)), some (.int (rt_s h0 cs x y (k + 1))), some (.int (nI (k + 1)))] [] ty h1 r g Q := fun h1 f1 => ih (k + 1) h1 (by omega) f1
    have hu : rt_s h0 cs x y (k + 1) = rt_s h0 cs x y k + (if h0 334 k = x then pt_p h0 cs k false y else if h0 336 k = x then pt_p h0 cs k true y else 0) := rfl
    rw [hu] at nx
    refine sg_X12_rates_33 _ _ _ _ _ (by omega) hL (pk_le nh k (fun c => absurd c (by omega)) (fun _ => ⟨fun q => absurd q (nI_pos (by omega)), fun _ => ⟨hin, ?_⟩⟩) ((hf 200 33 (by unfold gmA; omega)).trans h33))
    rw [nI_clamp (by omega), hr 334 k (by decide) (by decide), hr 336 k (by decide) (by decide), nI_1]
    refine ⟨fun c1 => ⟨hin, fun c2 => ?_, fun c2 => pv_CJ.mono (ct_X12_part (sec := true) (by omega) hL (pt_M_fr hf hM) (by omega) hok') (fun w h1 q => ?_)⟩, fun c1 => pv_CJ.mono (ct_X12_part (sec := false) (by omega) hL (pt_M_fr hf hM) (by omega) hok') (fun w h1 q => ⟨hin, ?_⟩)⟩
    · have := nx h hf
      rw [if_neg c1, if_neg c2, Int32.add_zero] at this
      exact this
    · obtain ⟨f1, e1, -⟩ := q
      have := nx h1 (pv_fr_tr hf f1)
      rw [if_neg c1, if_pos c2] at this
      rw [e1, hV]
      exact this
    · obtain ⟨f1, e1, -⟩ := q
      rw [f1 336 k (by unfold gmA; omega), hr 336 k (by decide) (by decide)]
      have := nx h1 (pv_fr_tr hf f1)
      rw [if_pos c1] at this
      refine ⟨fun c2 => ?_, fun c2 => absurd (c1.trans c2.symm) (hok k (by omega)).2.2⟩
      rw [e1, hV]
      exact this
theorem ct_X12_rates (hd : 3 ≤ d) (hL : pv_Lay ty r) (hA : cpA ty h r na tl) (hH : cpH ty h r nh) (hcs : cs_ok 0 cs ty h r (fo_l h 0 y y na)) : pv_CJ Γ d mX12_rates [.ref 200, .int x, .int y] ty h r g (fun w h' => pv_fr gmA h h' ∧ w = fn_rates h cs na nh x y) := by
  have hn := hH.1.1
  unfold fn_rates
  refine pv_fn 3 pn_X12 rfl (Nat.le_of_ble_eq_true rfl) (sg_X12_rates_0 _ _ (by omega) hL (pk_b (fun c1 => pj_b (fun c3 => pv_CJ.mono (ct_X12_forceOn hL hA) (fun w h1 q => ?_)) (fun c3 => pv_jqi ⟨pv_fr_refl _ _, by rw [if_neg (fun q => c3 q.2)]⟩)) (fun c1 => pv_jqi ⟨pv_fr_refl _ _, by rw [if_neg (fun q => c1 q.1)]⟩)))
  obtain ⟨rfl, rfl⟩ := q
  rw [if_pos ⟨c1, c3⟩]
  cases hf : fo_l h1 0 y y na with
  | none =>
    have fin : pv_jq ty r g (fun w h' => pv_fr gmA h1 h' ∧ w = 0) (some (.int 0)) ty h1 r g := pv_jqi ⟨pv_fr_refl _ _, rfl⟩
    exact sg_X12_rates_33 _ _ _ _ _ (by omega) hL ⟨fun _ => fin, fun _ => ⟨fun _ => fin, fun q => absurd (by decide) q⟩⟩
  | some o =>
    obtain ⟨-, hM⟩ := hcs o hf
    exact rs_m33 (by omega) hL hn hH.1.2.1 (fun i hi => (hH.2 i hi).2.2.2) hM (fun h' f' => pv_jqi ⟨f', rfl⟩) nh 0 h1 (Nat.zero_add _) (pv_fr_refl _ _)
theorem rs_c35 (hd : 67 ≤ d) {h0 : pv_H} {r0 : pv_R} (hn : nh ≤ 60) (hH : cpH ty h0 r0 nh) {a3 : Nat} {S : Nat → Int32} (hS : (a3 = 0 ∧ S = fun _ => 0) ∨ (∃ o, a3 = aA o ∧ S = rt_s h0 cs x y ∧ pt_C 0 cs ty h0 r0 o ∧ pt_M 0 cs h0 o)) (hQ : ∀ h' r', pv_fr gpA h0 h' → pv_frG gpR r0 r' → pv_Lay ty r' → Q (some (.int (S nh))) ty h' r' g) : ∀ (m k : Nat) (h : pv_H) (r : pv_R), k + m = nh → pv_fr gpA h0 h → pv_frG gpR r0 r → pv_Lay ty r → pv_E Γ d kc ks mX11_rates 35 [some (.ref 100), some (.int x), some (.int y), some (.ref a3), some (.int (S k)), some (.int (nI k)), none] [] ty h r g Q := by
  intro m
  induction m with
  | zero =>
    intro k h r hk hf hr hL
    rw [show k = nh by omega]
    exact sg_X11_rates_35 _ _ _ _ _ (by omega) hL (pk_le nh nh (fun _ => hQ h r hf hr hL) (fun c => absurd c (by omega)) ((hf 100 8 (by unfold gpA; omega)).trans hH.1.2.2))
  | succ m ih =>
    intro k h r hk hf hr hL
    obtain ⟨b1, b2, b3, b4⟩ := hH.2 k (by omega)
    have b1' : r 117 k = hA k := (hr 117 k (by unfold gpR; omega)).trans b1
    have e0 : h (hA k) 0 = h0 334 k := by rw [hf _ _ (by unfold gpA hA; omega)]; exact b3 0 (by decide)
    have e2 : h (hA k) 2 = h0 336 k := by rw [hf _ _ (by unfold gpA hA; omega)]; exact b3 2 (by decide)
    have hV : pt_V h = pt_V h0 := pt_V_c (fun a j a1 a2 => hf a j (by unfold gpA; omega))
    refine sg_X11_rates_35 _ _ _ _ _ (by omega) hL (pk_le nh k (fun c => absurd c (by omega)) (fun _ => ⟨vp_in_nI (by omega) (by decide), ?_⟩) ((hf 100 8 (by unfold gpA; omega)).trans hH.1.2.2))
    rw [nI_clamp (by omega), b1', e0, e2, nI_1]
    refine ⟨fun q => absurd q (by unfold hA; omega), fun _ => ⟨b2, b2, ?_⟩⟩
    rcases hS with ⟨rfl, rfl⟩ | ⟨o, rfl, rfl, hC, hM⟩
    · have nx := ih (k + 1) h r (by omega) hf hr hL
      refine pk_b (fun c => ⟨b2, fun c1 => ct_givePart0 hL ⟨_, rfl, hL, ?_⟩, fun c1 => ct_givePart0 hL ⟨_, rfl, hL, ?_⟩⟩) (fun c => nx)
      · exact nx
      · exact nx
    · have hu : rt_s h0 cs x y (k + 1) = rt_s h0 cs x y k + (if h0 334 k = x then pt_p h0 cs k false y else if h0 336 k = x then pt_p h0 cs k true y else 0) := rfl
      have nx : ∀ h1 r1, pv_fr gpA h0 h1 → pv_frG gpR r0 r1 → pv_Lay ty r1 → pv_E Γ d kc ks mX11_rates 35 [some (.ref 100), some (.int x), some (.int y), some (.ref (aA o)), some (.int (rt_s h0 cs x y (k + 1))), some (.int (nI (k + 1))), none] [] ty h1 r1 g Q := fun h1 r1 a b c => ih (k + 1) h1 r1 (by omega) a b c
      rw [hu] at nx
      have hC' := pt_C_fr hM.1 hf hr hC
      have hh' := hh_fr (i := k) (by omega) hf b3
      refine pk_b (fun c => ⟨b2, fun c1 => ct_givePart (sec := false) (by omega) hL hC' hM.2.2.2 b2 (by omega) hh' (fun h1 r1 f1 fr1 hL1 _ => ⟨_, rfl, hL1, ?_⟩), fun c1 => ct_givePart (sec := true) (by omega) hL hC' hM.2.2.2 b2 (by omega) hh' (fun h1 r1 f1 fr1 hL1 _ => ⟨_, rfl, hL1, ?_⟩)⟩) (fun c => ?_)
      · have := nx h1 r1 (pv_fr_tr hf f1) (fun a j q => (fr1 a j q).trans (hr a j q)) hL1
        rw [if_pos c1] at this
        rw [hV]
        exact this
      · have := nx h1 r1 (pv_fr_tr hf f1) (fun a j q => (fr1 a j q).trans (hr a j q)) hL1
        rw [if_neg c1, if_pos (c.resolve_left c1)] at this
        rw [hV]
        exact this
      · have := nx h r hf hr hL
        rw [if_neg (fun q => c (Or.inl q)), if_neg (fun q => c (Or.inr q)), Int32.add_zero] at this
        exact this
theorem ct_X11_rates (hd : 68 ≤ d) (hL : pv_Lay ty r) (hS : cpS ty h r ns) (hA' : cpA ty h r na tl) (hH : cpH ty h r nh) (hcs : cs_ok 0 cs ty h r (fo_l h 0 y y na)) {k : pv_Q} (hk : ∀ h' r', pv_fr gpA h h' → pv_frG gpR r r' → pv_Lay ty r' → k (some (.int (fn_rates h cs na nh x y))) ty h' r' g) : pv_CT Γ d 0 0 mX11_rates [.ref 100, .int x, .int y] ty h r g k := by
  have hn := hH.1.1
  have h8 := hS.1.1
  have hk0 := hk h r (pv_fr_refl _ _) (pv_frG_refl _ _) hL
  unfold fn_rates at hk hk0
  refine pv_fn 4 pn_X11 rfl (Nat.le_of_ble_eq_true rfl) (sg_X11_rates_0 _ _ (by omega) hL (ct_find hL hS (fun hf => ⟨_, rfl, hL, fun _ => ?_, fun q => absurd rfl q⟩) (fun s hs e => ⟨_, rfl, hL, fun q => absurd q (cA_ne s), fun _ => pj_b (fun c3 => ct_X1_find (by omega) hL hA' (fun hf => ⟨_, rfl, hL, ?_⟩) (fun o hf => ⟨_, rfl, hL, ?_⟩)) (fun c3 => ?_)⟩)))
  · rw [if_neg (fun q => hf q.1)] at hk0; exact hk0
  · have hv : 0 ≤ x ∧ x ≤ h 200 1 - 1 := by rw [hS.1.2.1, ni_valid (by omega)]; exact ⟨s, hs, e⟩
    rw [if_pos ⟨hv, c3⟩, hf] at hk
    exact rs_c35 (cs := cs) (by omega) hn hH (Or.inl ⟨rfl, rfl⟩) hk nh 0 h r (Nat.zero_add _) (pv_fr_refl _ _) (pv_frG_refl _ _) hL
  · have hv : 0 ≤ x ∧ x ≤ h 200 1 - 1 := by rw [hS.1.2.1, ni_valid (by omega)]; exact ⟨s, hs, e⟩
    rw [if_pos ⟨hv, c3⟩, hf] at hk
    obtain ⟨hC, hM⟩ := hcs o hf
    exact rs_c35 (cs := cs) (by omega) hn hH (Or.inr ⟨o, rfl, rfl, hC, hM⟩) hk nh 0 h r (Nat.zero_add _) (pv_fr_refl _ _) (pv_frG_refl _ _) hL
  · rw [if_neg (fun q => c3 q.2)] at hk0; exact hk0
end RU
