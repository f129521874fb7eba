/-! plan, planned: the class's calls -/
section PLM
variable {Γ : pv_C} {d kc ks : Nat} {ty : pv_T} {h h0 : pv_H} {r : pv_R} {g : pv_G} {Q : pv_Q} {ns T : Nat}
abbrev qpA : Nat → Nat → Prop := fun a _ => 60 ≤ a ∧ a ≤ 67
theorem qpA_S (hS : cpS ty h0 r ns) (f : pv_fr qpA h0 h) : cpS ty h r ns := cpS_frame hS (f 100 1 (by decide)) (f 200 1 (by decide)) (pv_fr_r f (fun j q => absurd q.2 (by decide))) (pv_fr_r f (fun j q => absurd q.2 (by decide))) (pv_fr_r f (fun j q => absurd q.2 (by decide))) (pv_fr_r f (fun j q => absurd q.2 (by decide))) (fun s hs t ht => pv_fr_r f (fun j q => by have : 1000 + 4 * s + t ≤ 67 := q.2; omega))
theorem qpA_e (f : pv_fr qpA h0 h) : ∀ a, 320 ≤ a → a ≤ 325 → h a = h0 a := fun a h1 h2 => pv_fr_r f (fun j q => by have := q.2; omega)
theorem qpA_Y (hI : cpY h0 ns T) (f : pv_fr qpA h0 h) : cpY h ns T := cpY_frame hI (f 200 19 (by decide)) (f 100 5 (by decide)) (qpA_e f) (fun s hs => ⟨pv_fr_r f (fun j q => by have : 1000 + 4 * s ≤ 67 := q.2; omega), pv_fr_r f (fun j q => by have : 1000 + 4 * s + 3 ≤ 67 := q.2; omega)⟩)
theorem cpC_c {h' : pv_H} (e3 : ∀ a, 320 ≤ a → a ≤ 325 → h' a = h a) (hC : cpC h) : cpC h' := fun s hs => by rw [e3 323 (by decide) (by decide), e3 324 (by decide) (by decide)]; exact hC s hs
theorem qp_M_b {z u v : Int32} (hz : 0 ≤ z ∧ z ≤ 99999) (hu : 0 ≤ u ∧ u ≤ 99999) (hv : 0 ≤ v ∧ v ≤ 99999) (y : Nat) : qp_M z u v y < 2 ^ 20 := by
  have k : ∀ x : Int32, 0 ≤ x ∧ x ≤ 99999 → x.toNatClampNeg < 2 ^ 20 := fun x q => by
    obtain ⟨n, hn, rfl⟩ := nI_of (x := x) (Int32.not_lt.mpr q.1)
    have := (nI_leI (b := 99999) hn (by decide)).mp q.2
    rw [nI_clamp hn]; omega
  unfold qp_M
  split
  · exact k z hz
  · split
    · exact k u hu
    · exact k v hv
theorem ni_cl {x : Int32} (q : 0 ≤ x) : x = nI x.toNatClampNeg := by
  obtain ⟨n, hn, rfl⟩ := nI_of (x := x) (Int32.not_lt.mpr q)
  rw [nI_clamp hn]
theorem ct_X11_plan (hd : 14 ≤ d) (hL : pv_Lay ty r) (hS : cpS ty h r ns) (hI : cpY h ns T) (hC : cpC h) {x y z u v : Int32} {K : pv_Q} (h1 : ¬ fo_plan h ns x y z u v → K (some (.int (-1))) ty h r g) (h2 : fo_plan h ns x y z u v → ∀ N n, x = nI N → qp_ok h ns N → y = nI n → 1 ≤ n → n ≤ 3 → ∀ h', pv_fr qpA h h' → (∀ i, i < 8 → h' 67 i = qp_told T N n (qp_B h T N n z u v) i) → K (some (.int (qp_B h T N n z u v).1)) ty h' r g) : pv_CT Γ d 0 0 mX11_plan [.ref 100, .int x, .int y, .int z, .int u, .int v] ty h r g K := by
  have le0 : ∀ {w : Int32}, 0 ≤ w ∧ w ≤ 0 → w = 0 := fun q => Int32.le_antisymm q.2 q.1
  have m0 : ∀ {w : Int32}, w = 0 → 0 ≤ w ∧ w ≤ 99999 := fun q => by rw [q]; decide
  have go : fo_plan h ns x y z u v → pv_CW Γ (d - 1) mX7_begin [.ref 60, .int y, .int z, .int u, .int v] ty h r g (fun h2 => pv_E Γ d 0 0 mX11_plan 85 [some (.ref 100), some (.int x), none, none, none, none, some (.int 0), none] [] ty h2 r g K) := fun hok => by
    have h2 := h2 hok
    obtain ⟨⟨N, rfl, hN⟩, hy, hz, hu, hv, -, -⟩ := hok
    obtain ⟨n, hn, rfl⟩ := nI_of (x := y) (Int32.not_lt.mpr (Int32.le_trans (by decide) hy.1))
    have n1 : 1 ≤ n := (nI_leI (a := 1) (by decide) hn).mp hy.1
    have n3 : n ≤ 3 := (nI_leI (b := 3) hn (by decide)).mp hy.2
    refine pv_CW.mono (ct_X7_begin hL) (fun h1 q => ?_)
    obtain ⟨f, q7, q8, q9, q10, q0, q1, q2⟩ := q
    have e3 := qpA_e f
    have eW : qp_W h1 T = qp_W h T := by funext i y; exact mWear_c (f 200 19 (by decide)) e3 i _
    have eP : qp_P h1 T = qp_P h T := by funext i y; show Int32.toNatClampNeg _ = _; rw [mCost_c e3]
    refine pn_85 (N := N) (n := n) (M := qp_M z u v) (by omega) hL (qpA_S hS f) (qpA_Y hI f) (cpC_c e3 hC) n3 ⟨hN.1, hN.2.1, hN.2.2.1, fun i hi hB => by rw [e3 323 (by decide) (by decide)]; exact hN.2.2.2 i hi hB⟩ (fun y _ => qp_M_b hz hu hv y) (fun y hy => ?_) q9 q10 (fun h' f' t' => ?_) ns 0 h1 (Nat.zero_add _) (pv_fr_refl _ _) ⟨q7, q8, fun k hk => absurd hk (by omega)⟩
    · have : y = 0 ∨ y = 1 ∨ y = 2 := by omega
      rcases this with rfl | rfl | rfl
      · rw [q0]; exact ni_cl hz.1
      · rw [q1]; exact ni_cl hu.1
      · rw [q2]; exact ni_cl hv.1
    · rw [eW, eP] at t' ⊢
      exact h2 N n rfl hN rfl n1 n3 h' (pv_fr_tr f f') t'
  refine pv_fn 2 pn_X11 rfl (Nat.le_of_ble_eq_true rfl) (sg_X11_plan_0 x y z u v (by omega) hL ?_)
  refine ct_X11_isPlanSet (by omega) hL hS hI (fun N e hN => ⟨_, rfl, hL, fun q => absurd q (by decide), fun _ => ?_⟩) (fun q => ⟨_, rfl, hL, fun _ => h1 (fun z => q z.1), fun q => absurd rfl q⟩)
  have hs : ∃ N, x = nI N ∧ qp_ok h ns N := ⟨N, e, hN⟩
  refine pk_b (fun c1 => pk_b (fun c2 => ⟨fun c3 => pk_b (fun c4 => ⟨fun c5 => pj_b (fun c6 => go ⟨hs, c1, c2, m0 (le0 c4), m0 (le0 c6), fun _ => le0 c4, fun _ => le0 c6⟩) (fun c6 => h1 (fun q => c6 (by rw [q.2.2.2.2.2.2 c5]; decide))), fun c5 => absurd (Int32.lt_trans c3 (by decide)) c5⟩) (fun c4 => h1 (fun q => c4 (by rw [q.2.2.2.2.2.1 c3]; decide))), fun c3 => pk_b (fun c4 => ⟨fun c5 => pj_b (fun c6 => go ⟨hs, c1, c2, c4, m0 (le0 c6), fun q => absurd q c3, fun _ => le0 c6⟩) (fun c6 => h1 (fun q => c6 (by rw [q.2.2.2.2.2.2 c5]; decide))), fun c5 => pj_b (fun c6 => go ⟨hs, c1, c2, c4, c6, fun q => absurd q c3, fun q => absurd q c5⟩) (fun c6 => h1 (fun q => c6 q.2.2.2.2.1))⟩) (fun c4 => h1 (fun q => c4 q.2.2.2.1))⟩) (fun c2 => h1 (fun q => c2 q.2.2.1))) (fun c1 => h1 (fun q => c1 q.2.1))
/-- the plan told, both sides -/
def cpP (h : pv_H) : Prop := (h 200 26 = 0 ∧ ∀ i, i < 8 → h 67 i = -1) ∨ (h 200 26 = 1 ∧ ∃ N, N < 256 ∧ h 200 27 = nI N ∧ ∀ i, i < 8 → h 67 i = if pB N i = true then h 328 i else -1)
def fn_planned (h : pv_H) (x : Int32) : Int32 := if 0 ≤ x ∧ x ≤ 7 then h 67 x.toNatClampNeg else -1
theorem ct_X11_planned (hd : 1 ≤ d) (hL : pv_Lay ty r) {x : Int32} : pv_CT Γ d 0 0 mX11_planned [.ref 100, .int x] ty h r g (pv_is (.int (fn_planned h x)) ty h r g) := by
  refine pv_fn 0 pn_X11 rfl (Nat.le_of_ble_eq_true rfl) (sg_X11_planned_0 x (by omega) hL (pv_fn 0 pn_X7 rfl (Nat.le_of_ble_eq_true rfl) (sg_X7_yearOf_0 x hL ?_)))
  unfold fn_planned
  refine ⟨fun c1 => ⟨_, rfl, hL, ?_⟩, fun c1 => ?_⟩
  · rw [if_neg (fun q => Int32.not_lt.mpr q.1 c1)]; exact pv_is_refl _ _ _ _ _
  · obtain ⟨n, hn, rfl⟩ := nI_of c1
    refine pk_le 8 n (fun c2 => ⟨_, rfl, hL, ?_⟩) (fun c2 => ⟨vp_in_nI (by omega) (by decide), _, rfl, hL, ?_⟩)
    · rw [if_neg (fun q => absurd ((nI_leI (b := 7) hn (by decide)).mp q.2) (by omega))]; exact pv_is_refl _ _ _ _ _
    · rw [if_pos ⟨nI_pos' hn, (nI_leI (b := 7) hn (by decide)).mpr (by omega)⟩]; exact pv_is_refl _ _ _ _ _
end PLM
