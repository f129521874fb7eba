/-! wear of the class; pave: both sides -/
section WH
variable {Γ : pv_C} {d : Nat} {ty : pv_T} {h : pv_H} {r : pv_R} {g : pv_G} {ns T : Nat}
theorem ct_X11_wear (hd : 2 ≤ d) (hL : pv_Lay ty r) (hS : cpS ty h r ns) (hI : cpY h ns T) {x y : Int32} : pv_CT Γ d 0 0 mX11_wear [.ref 100, .int x, .int y] ty h r g (pv_is (.int (fn_wear h x y)) ty h r g) := by
  have h8 := hS.1.1
  refine pv_fn 1 pn_X11 rfl (Nat.le_of_ble_eq_true rfl) (sg_X11_wear_0 x y (by omega) hL (ct_find hL hS (fun hf => ⟨_, rfl, hL, fun _ => ?_, fun q => absurd rfl q⟩) (fun s hs e => ⟨_, rfl, hL, fun q => absurd q (cA_ne s), fun _ => ?_⟩)))
  · unfold fn_wear
    rw [if_neg (fun q => hf q.1)]
    exact pv_is_refl _ _ _ _ _
  · subst e
    have hv : 0 ≤ nI s ∧ nI s ≤ h 200 1 - 1 := by rw [hS.1.2.1, ni_valid (by omega)]; exact ⟨s, hs, rfl⟩
    obtain ⟨-, hS', -⟩ := hS.2.2 s hs
    rw [pf_b_0, Classical.not_not]
    refine ⟨fun c1 => ⟨hS'.2.1, ?_⟩, fun c1 => ?_⟩
    · obtain ⟨Y, h2, rfl⟩ := nI_of (Int32.not_lt.mpr c1.1)
      have h3 := (nI_leI (b := 40) h2 (by decide)).mp c1.2
      rw [hI.2.1]
      refine ct_cwear (by omega) hS hI hs (by omega) ⟨_, rfl, hL, ?_⟩
      unfold fn_wear
      rw [if_pos ⟨hv, c1⟩, nI_clamp (by omega), nI_clamp h2]
      exact pv_is_refl _ _ _ _ _
    · unfold fn_wear
      rw [if_neg (fun q => c1 q.2)]
      exact pv_is_refl _ _ _ _ _
/-- pave(): the answer; the street's year of paving becomes this one -/
def fn_pave (h : pv_H) (x : Int32) : Int32 := if 0 ≤ x ∧ x ≤ h 200 1 - 1 then mWear h x.toNatClampNeg (h 200 19).toNatClampNeg else -1
theorem ct_X12_pave (hd : 2 ≤ d) (hL : pv_Lay ty r) (hS : mStreets h ns) (hM : mYr h T) {x : Int32} : pv_CJ Γ d mX12_pave [.ref 200, .int x] ty h r g (fun w h' => w = fn_pave h x ∧ (¬ (0 ≤ x ∧ x ≤ h 200 1 - 1) → h' = h) ∧ ∀ s, s < ns → x = nI s → h' = pv_up h 322 s (nI T)) := by
  have h8 := hS.1
  refine pv_fn 1 pn_X12 rfl (Nat.le_of_ble_eq_true rfl) (sg_X12_pave_0 x (by omega) hL ?_)
  rw [pf_b_0, Classical.not_not]
  refine ⟨fun c1 => ?_, fun c1 => ?_⟩
  · have c0 := c1
    rw [hS.2.1, ni_valid (by omega)] at c1
    obtain ⟨s, h1, rfl⟩ := c1
    have hT := hM.1
    have e0 := hM.2.1
    rw [e0]
    refine ct_mwear (by omega) hL hM (by omega) (by omega) ⟨_, rfl, hL, vp_in_nI (by omega) (by decide), fun h2 e2 => ?_⟩
    rw [nI_clamp (by omega), e0] at e2
    refine pv_jqi ⟨?_, fun q => absurd c0 q, fun s' hs' e => ?_⟩
    · unfold fn_pave
      rw [if_pos c0, nI_clamp (by omega), e0, nI_clamp (by omega)]
    · have := (nI_eq (by omega) (by omega)).mp e
      rw [← this]; exact e2
  · refine pv_jqi ⟨?_, fun _ => rfl, fun s hs e => absurd ?_ c1⟩
    · unfold fn_pave
      rw [if_neg c1]
    · rw [hS.2.1, ni_valid (by omega)]
      exact ⟨s, hs, e⟩
theorem ct_X11_pave (hd : 2 ≤ d) (hL : pv_Lay ty r) (hS : cpS ty h r ns) (hI : cpY h ns T) {x : Int32} : pv_CJ Γ d mX11_pave [.ref 100, .int x] ty h r g (fun w h' => w = fn_pave h x ∧ (¬ (0 ≤ x ∧ x ≤ h 200 1 - 1) → h' = h) ∧ ∀ s, s < ns → x = nI s → h' = pv_up h (cA s) 5 (nI T)) := by
  have h8 := hS.1.1
  have hT := hI.1.1
  refine pv_fn 2 pn_X11 rfl (Nat.le_of_ble_eq_true rfl) (sg_X11_pave_0 x (by omega) hL (ct_find hL hS (fun hf => ⟨_, rfl, hL, fun q => absurd rfl q, fun _ => ?_⟩) (fun s hs e => ⟨_, rfl, hL, fun _ => ?_, fun q => absurd q (cA_ne s)⟩)))
  · refine pv_jqi ⟨?_, fun _ => rfl, fun s hs e => absurd ?_ hf⟩
    · unfold fn_pave
      rw [if_neg hf]
    · rw [hS.1.2.1, ni_valid (by omega)]
      exact ⟨s, hs, e⟩
  · subst e
    have hv : 0 ≤ nI s ∧ nI s ≤ h 200 1 - 1 := by rw [hS.1.2.1, ni_valid (by omega)]; exact ⟨s, hs, rfl⟩
    obtain ⟨-, hS', -⟩ := hS.2.2 s hs
    refine ⟨hS'.2.1, ?_⟩
    rw [hI.2.1]
    refine ct_cwear (by omega) hS hI hs (by omega) ⟨_, rfl, hL, hS'.2.1, fun h3 e3 => ?_⟩
    rw [hI.2.1] at e3
    refine pv_jqi ⟨?_, fun q => absurd hv q, fun s' hs' e => ?_⟩
    · unfold fn_pave
      rw [if_pos hv, nI_clamp (by omega), hI.1.2.1, nI_clamp (by omega)]
    · have := (nI_eq (by omega) (by omega)).mp e
      rw [← this]; exact e3
end WH
