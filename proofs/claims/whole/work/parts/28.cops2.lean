/-! the class's height and drain; the streets' coupling is kept -/
theorem cpS_frame {ty : pv_T} {h h' : pv_H} {r : pv_R} {ns : Nat} (hI : cpS ty h r ns) (e1 : h' 100 1 = h 100 1) (e2 : h' 200 1 = h 200 1) (e3 : h' 302 = h 302) (e4 : h' 303 = h 303) (e5 : h' 304 = h 304) (e6 : h' 305 = h 305) (e7 : ∀ s, s < ns → ∀ t, t < 3 → h' (cA s + t) = h (cA s + t)) : cpS ty h' r ns := by
  obtain ⟨⟨h8, hn, hs⟩, hc, hq⟩ := hI
  have f1 : ∀ s, mR h' s = mR h s := fun s => by show (h' 302 s).toNatClampNeg = _; rw [e3]
  have f2 : ∀ s, mC h' s = mC h s := fun s => by show (h' 303 s).toNatClampNeg = _; rw [e4]
  have f3 : ∀ s, mH h' s = mH h s := fun s => by funext i j; show h' 304 _ = _; rw [e5]
  have f4 : ∀ s, mD h' s = mD h s := fun s => by funext i j; show h' 305 _ = _; rw [e6]
  refine ⟨⟨h8, e2.trans hn, fun s hs' => ?_⟩, e1.trans hc, fun s hs' => ?_⟩
  · obtain ⟨a1, a2, a3, a4, a5, a6, a7⟩ := hs s hs'
    rw [f1, f2]
    refine ⟨a1, by rw [e3]; exact a2, by rw [e4]; exact a3, a4, a5, by rw [f3]; exact a6, fun i j hi hj => ?_⟩
    rw [show mD h' s i j = mD h s i j from congrFun (congrFun (f4 s) i) j]
    exact a7 i j hi hj
  · obtain ⟨b1, b2, b3⟩ := hq s hs'
    obtain ⟨a1, a2, a3, a4, a5, a6, a7, a8, a9⟩ := b2
    have g0 := e7 s hs' 0 (by decide)
    have g1 := e7 s hs' 1 (by decide)
    have g2 := e7 s hs' 2 (by decide)
    rw [f1, f2]
    have f5 : cH h' (cA s) (mC h s) = cH h (cA s) (mC h s) := by funext i j; show h' (cA s + 1) _ = _; rw [g1]
    have f6 : cD h' (cA s) (mC h s) = cD h (cA s) (mC h s) := by funext i j; show h' (cA s + 2) _ = _; rw [g2]
    refine ⟨b1, ⟨a1, a2, by rw [show h' (cA s) = h (cA s) from g0]; exact a3, by rw [show h' (cA s) = h (cA s) from g0]; exact a4, a5, a6, a7, a8, by rw [f5]; exact a9⟩, fun q hq' => ?_⟩
    rw [show cH h' (cA s) (mC h s) q.1 q.2 = cH h (cA s) (mC h s) q.1 q.2 from congrFun (congrFun f5 q.1) q.2, show cD h' (cA s) (mC h s) q.1 q.2 = cD h (cA s) (mC h s) q.1 q.2 from congrFun (congrFun f6 q.1) q.2, show mH h' s q.1 q.2 = mH h s q.1 q.2 from congrFun (congrFun (f3 s) q.1) q.2, show mD h' s q.1 q.2 = mD h s q.1 q.2 from congrFun (congrFun (f4 s) q.1) q.2]
    exact b3 q hq'
section CT2
variable {Γ : pv_C} {d : Nat} {ty : pv_T} {h : pv_H} {r : pv_R} {g : pv_G} {ns : Nat}
theorem ct_X11_height (hd : 1 ≤ d) (hL : pv_Lay ty r) (hI : cpS ty h r ns) {x y z u : Int32} : pv_CJ Γ d mX11_height [.ref 100, .int x, .int y, .int z, .int u] ty h r g (fun w h' => (¬ (pf_sq h x y z ∧ (0 ≤ u ∧ u ≤ 99)) → w = -1 ∧ h' = h) ∧ (0 ≤ u ∧ u ≤ 99 → ∀ s i j, s < ns → i < mR h s → j < mC h s → x = nI s → y = nI i → z = nI j → w = mH h s i j ∧ h' = pv_up h (cA s + 1) (i * mC h s + j) u)) := by
  have h8 := hI.1.1
  refine pv_fn 3 pn_X11 rfl (Nat.le_of_ble_eq_true rfl) (sg_X11_height_0 x y z u (by omega) hL (ct_find hL hI (fun hf => ⟨_, rfl, hL, fun _ => ?_, fun q => absurd rfl q⟩) (fun s hs e => ⟨_, rfl, hL, fun q => absurd q (cA_ne s), fun _ => ?_⟩)))
  · refine pv_jqi ⟨fun _ => ⟨rfl, rfl⟩, fun _ s i j hs _ _ e _ _ => absurd ?_ hf⟩
    rw [hI.1.2.1, ni_valid (by omega)]
    exact ⟨s, hs, e⟩
  · subst e
    obtain ⟨-, hS, hq⟩ := hI.2.2 s hs
    have ht := hS.2.1
    have hRb := hS.2.2.2.2.1
    have hCb := hS.2.2.2.2.2.1
    refine ⟨ht, ht, fun c1 => ?_, fun c1 => ?_⟩
    · have c2 := pf_b_0.mp c1
      refine pv_jqi ⟨fun _ => ⟨rfl, rfl⟩, fun _ s' i j hs' hi hj e1 e2 e3 => absurd ((cs_has hI hs).mpr ?_) c2⟩
      have := (nI_eq (by omega) (by omega)).mp e1
      subst this
      exact ⟨i, j, hi, hj, e2, e3⟩
    · have c2 := Classical.not_not.mp (fun z => c1 (pf_b_0.mpr z))
      have c3 := (cs_sq hI hs).mp c2
      obtain ⟨i, j, hi, hj, rfl, rfl⟩ := (cs_has hI hs).mp c2
      have hon : wt_on (mR h s) (mC h s) (i, j) := ⟨hi, hj⟩
      rw [hS.2.2.2.1, pl_mk, hS.2.2.2.2.2.2.1.1, pl_cl hRb.2 hCb.2 hon]
      have hin : pv_inb ty (cA s + 1) 20 (pl (mC h s) (i, j)) := ⟨_, hS.2.2.2.2.2.2.2.1.1, pl_in hRb.2 hCb.2 hon⟩
      refine ⟨fun c4 => ⟨ht, ht, ht, hin, ht, hin, by show 10 ≤ 1000 + 4 * s + 1; omega, fun h2 e2 => ?_⟩, fun c4 => ?_⟩
      · have c5 := Classical.not_not.mp (fun z => c4 (pf_b_0.mpr z))
        refine pv_jqi ⟨fun q => absurd ⟨c3, c5⟩ q, fun _ s' i' j' hs' hi' hj' e3 e4 e5 => ?_⟩
        have a1 := (nI_eq (by omega) (by omega)).mp e3
        subst a1
        have a2 := (nI_eq (by omega) (by omega)).mp e4
        have a3 := (nI_eq (by omega) (by omega)).mp e5
        subst a2 a3
        exact ⟨(hq (i, j) hon).1, e2⟩
      · have c5 := pf_b_0.mp c4
        exact pv_jqi ⟨fun _ => ⟨rfl, rfl⟩, fun q => absurd q c5⟩
theorem ct_X11_drain (hd : 1 ≤ d) (hL : pv_Lay ty r) (hI : cpS ty h r ns) {x y z u : Int32} : pv_CJ Γ d mX11_drain [.ref 100, .int x, .int y, .int z, .int u] ty h r g (fun w h' => (¬ (pf_sq h x y z ∧ (0 ≤ u ∧ u ≤ 1)) → w = -1 ∧ h' = h) ∧ (0 ≤ u ∧ u ≤ 1 → ∀ s i j, s < ns → i < mR h s → j < mC h s → x = nI s → y = nI i → z = nI j → w = mD h s i j ∧ h' = pv_up h (cA s + 2) (i * mC h s + j) u)) := by
  have h8 := hI.1.1
  refine pv_fn 3 pn_X11 rfl (Nat.le_of_ble_eq_true rfl) (sg_X11_drain_0 x y z u (by omega) hL (ct_find hL hI (fun hf => ⟨_, rfl, hL, fun _ => ?_, fun q => absurd rfl q⟩) (fun s hs e => ⟨_, rfl, hL, fun q => absurd q (cA_ne s), fun _ => ?_⟩)))
  · refine pv_jqi ⟨fun _ => ⟨rfl, rfl⟩, fun _ s i j hs _ _ e _ _ => absurd ?_ hf⟩
    rw [hI.1.2.1, ni_valid (by omega)]
    exact ⟨s, hs, e⟩
  · subst e
    obtain ⟨-, hS, hq⟩ := hI.2.2 s hs
    have ht := hS.2.1
    have hRb := hS.2.2.2.2.1
    have hCb := hS.2.2.2.2.2.1
    refine ⟨ht, ht, fun c1 => ?_, fun c1 => ?_⟩
    · have c2 := pf_b_0.mp c1
      refine pv_jqi ⟨fun _ => ⟨rfl, rfl⟩, fun _ s' i j hs' hi hj e1 e2 e3 => absurd ((cs_has hI hs).mpr ?_) c2⟩
      have := (nI_eq (by omega) (by omega)).mp e1
      subst this
      exact ⟨i, j, hi, hj, e2, e3⟩
    · have c2 := Classical.not_not.mp (fun z => c1 (pf_b_0.mpr z))
      have c3 := (cs_sq hI hs).mp c2
      obtain ⟨i, j, hi, hj, rfl, rfl⟩ := (cs_has hI hs).mp c2
      have hon : wt_on (mR h s) (mC h s) (i, j) := ⟨hi, hj⟩
      rw [hS.2.2.2.1, pl_mk, hS.2.2.2.2.2.2.1.2.1, pl_cl hRb.2 hCb.2 hon]
      have hin : pv_inb ty (cA s + 2) 20 (pl (mC h s) (i, j)) := ⟨_, hS.2.2.2.2.2.2.2.1.2.1, pl_in hRb.2 hCb.2 hon⟩
      refine ⟨fun c4 => ⟨ht, ht, ht, hin, ht, hin, by show 10 ≤ 1000 + 4 * s + 2; omega, fun h2 e2 => ?_⟩, fun c4 => ?_⟩
      · have c5 := Classical.not_not.mp (fun z => c4 (pf_b_0.mpr z))
        refine pv_jqi ⟨fun q => absurd ⟨c3, c5⟩ q, fun _ s' i' j' hs' hi' hj' e3 e4 e5 => ?_⟩
        have a1 := (nI_eq (by omega) (by omega)).mp e3
        subst a1
        have a2 := (nI_eq (by omega) (by omega)).mp e4
        have a3 := (nI_eq (by omega) (by omega)).mp e5
        subst a2 a3
        exact ⟨(hq (i, j) hon).2, e2⟩
      · have c5 := pf_b_0.mp c4
        exact pv_jqi ⟨fun _ => ⟨rfl, rfl⟩, fun q => absurd q c5⟩
end CT2
