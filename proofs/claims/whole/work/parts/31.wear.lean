/-! wearOf, wearAt -/
section WE
variable {Γ : pv_C} {d kc ks : Nat} {ty : pv_T} {h : pv_H} {r : pv_R} {g : pv_G} {Q : pv_Q} {s T p Y : Nat}
theorem we_10 (hd : 1 ≤ d) (hL : pv_Lay ty r) (hs : s < 8) (hT : T ≤ 30) (hn : h 200 19 = nI T) (hw : ∀ y, y < 31 → ¬ h 320 (31 * s + y) = 0 → ¬ h 321 (31 * s + y) = -1) (hY : Y < 1000) (hp : p < 1000) (hQ : Q (some (.int (wr_s (wT h s) (mn_v (wT h s) T) p (Y - p)))) ty h r g) : ∀ (m n : Nat), n + m = Y - p → pv_E Γ d kc ks mX12_wearOf 10 [some (.ref 200), some (.int (nI s)), some (.int (nI Y)), some (.int (wr_s (wT h s) (mn_v (wT h s) T) p n)), some (.int (nI (p + n)))] [] ty h r g Q := by
  intro m
  induction m with
  | zero =>
    intro n hn'
    refine sg_X12_wearOf_10 _ _ _ _ hd hL ?_
    rw [nI_leI (by omega) (by omega)]
    refine ⟨fun _ => ?_, fun c1 => absurd (by omega) c1⟩
    rw [show n = Y - p by omega]; exact hQ
  | succ m ih =>
    intro n hn'
    refine sg_X12_wearOf_10 _ _ _ _ hd hL ?_
    have hi := ih (n + 1) (by omega)
    have e1 : wr_s (wT h s) (mn_v (wT h s) T) p (n + 1) = wr_s (wT h s) (mn_v (wT h s) T) p n + (if p + n < 31 ∧ ¬ wT h s (p + n) = -1 then wT h s (p + n) else mn_v (wT h s) T) := rfl
    rw [e1, show p + (n + 1) = p + n + 1 from rfl] at hi
    rw [nI_leI (by omega) (by omega), show (31 : Int32) = nI 31 from rfl, nI_leI (by decide) (by omega), pk_mul, nI_add, nI_1]
    refine ⟨fun c1 => absurd c1 (by omega), fun _ => ⟨fun c1 => ?_, fun c1 => ?_⟩⟩
    · rw [if_neg (fun q => by omega)] at hi
      exact pv_CT.use (ct_X12_mean hL hs hT hn hw) ⟨_, rfl, hL, hi⟩
    · rw [nI_clamp (by omega)]
      have hv : vp_in (nI (31 * s + (p + n))) 248 := vp_in_nI (by omega) (by decide)
      refine ⟨hv, fun c2 => ?_, fun c2 => ⟨hv, ?_⟩⟩
      · have e3 : wT h s (p + n) = -1 := by unfold wT; rw [if_pos c2]
        rw [if_neg (fun q => q.2 e3)] at hi
        exact pv_CT.use (ct_X12_mean hL hs hT hn hw) ⟨_, rfl, hL, hi⟩
      · have e3 : wT h s (p + n) = h 321 (31 * s + (p + n)) := by unfold wT; rw [if_neg c2]
        have e4 : ¬ wT h s (p + n) = -1 := by rw [e3]; exact hw _ (by omega) c2
        rw [if_pos ⟨by omega, e4⟩, e3] at hi
        exact hi
theorem ct_X12_wearOf (hd : 1 ≤ d) (hL : pv_Lay ty r) (hs : s < 8) (hT : T ≤ 30) (hn : h 200 19 = nI T) (hw : ∀ y, y < 31 → ¬ h 320 (31 * s + y) = 0 → ¬ h 321 (31 * s + y) = -1) (hY : Y < 1000) (hp : p < 1000) (hpv : h 322 s = nI p) : pv_CT Γ d 0 0 mX12_wearOf [.ref 200, .int (nI s), .int (nI Y)] ty h r g (pv_is (.int (wr_s (wT h s) (mn_v (wT h s) T) p (Y - p))) ty h r g) := by
  refine pv_fn 2 pn_X12 rfl (Nat.le_of_ble_eq_true rfl) (sg_X12_wearOf_0 _ _ hL ⟨vp_in_nI hs (by decide), ?_⟩)
  rw [nI_clamp (by omega), hpv]
  exact we_10 hd hL hs hT hn hw hY hp (pv_is_refl _ _ _ _ _) (Y - p) 0 (by omega)
/-- the class: the row of wheels f of the street at a -/
theorem ym_7 {a : Nat} (ha : ty a = some (8, 0)) (hr : r a 4 = a + 3) (ht : ty (a + 3) = some (20, 31)) (hT : T ≤ 30) (hQ : Q (some (.int (mn_v (h (a + 3)) T))) ty h r g) : ∀ (m y : Nat), y + m = T → pv_E Γ d kc ks mX8_meanWheels 7 [some (.ref a), some (.int (nI T)), some (.int (mn_s (h (a + 3)) y)), some (.int (nI (mn_c (h (a + 3)) y))), some (.int (nI y))] [] ty h r g Q := by
  intro m
  have key : ∀ y, y = T → ((¬ nI (mn_c (h (a + 3)) y) = 0 → ¬ nI (mn_c (h (a + 3)) y) = 0 ∧ Q (some (.int (mn_s (h (a + 3)) y / nI (mn_c (h (a + 3)) y)))) ty h r g) ∧ (nI (mn_c (h (a + 3)) y) = 0 → Q (some (.int 0)) ty h r g)) := by
    intro y hy
    have hc := mn_c_le (h (a + 3)) y
    rw [hy] at hc ⊢
    have e0 : nI (mn_c (h (a + 3)) T) = 0 ↔ mn_c (h (a + 3)) T = 0 := by
      rw [show (0 : Int32) = nI 0 from rfl, nI_eq (by omega) (by decide)]
    rw [e0]
    unfold mn_v at hQ
    refine ⟨fun c1 => ⟨c1, ?_⟩, fun c1 => ?_⟩
    · rw [if_neg c1] at hQ; exact hQ
    · rw [if_pos c1] at hQ; exact hQ
  induction m with
  | zero =>
    intro y hy
    refine sg_X8_meanWheels_7 a _ _ _ _ ?_
    rw [nI_leI (by omega) (by omega)]
    exact ⟨fun _ => key y (by omega), fun c1 => absurd (by omega) c1⟩
  | succ m ih =>
    intro y hy
    refine sg_X8_meanWheels_7 a _ _ _ _ ?_
    rw [nI_leI (by omega) (by omega)]
    refine ⟨fun c1 => absurd c1 (by omega), fun _ => ⟨ha, 20, 31, by rw [hr]; exact ht, by decide, ?_⟩⟩
    have hi := ih (y + 1) (by omega)
    have e1 : mn_s (h (a + 3)) (y + 1) = if h (a + 3) y = -1 then mn_s (h (a + 3)) y else mn_s (h (a + 3)) y + h (a + 3) y := rfl
    have e2 : mn_c (h (a + 3)) (y + 1) = if h (a + 3) y = -1 then mn_c (h (a + 3)) y else mn_c (h (a + 3)) y + 1 := rfl
    rw [e1, e2] at hi
    have hv : pv_inb ty (a + 3) 20 (nI y) := ⟨31, ht, vp_in_nI (by omega) (by decide)⟩
    rw [hr, nI_leI (by omega) (by omega), nI_clamp (by omega), nI_1, nI_1]
    refine ⟨fun c1 => absurd c1 (by omega), fun _ => ⟨ha, hv, fun c1 => ?_, fun c1 => ⟨ha, hv, ?_⟩⟩⟩
    · rw [if_pos c1, if_pos c1] at hi; exact hi
    · rw [if_neg c1, if_neg c1] at hi; exact hi
theorem ct_X8_meanWheels {a : Nat} (ha : ty a = some (8, 0)) (hr : r a 4 = a + 3) (ht : ty (a + 3) = some (20, 31)) (hT : T ≤ 30) : pv_CT Γ d 0 0 mX8_meanWheels [.ref a, .int (nI T)] ty h r g (pv_is (.int (mn_v (h (a + 3)) T)) ty h r g) :=
  pv_fn 3 pn_X8 rfl (Nat.le_of_ble_eq_true rfl) (sg_X8_meanWheels_0 a _ (ym_7 ha hr ht hT (pv_is_refl _ _ _ _ _) T 0 (by omega)))
end WE
