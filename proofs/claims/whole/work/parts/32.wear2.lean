/-! the class's wearAt -/
section WF
variable {Γ : pv_C} {d kc ks : Nat} {ty : pv_T} {h : pv_H} {r : pv_R} {g : pv_G} {Q : pv_Q} {T p Y a : Nat}
theorem wa_15 (ha : ty a = some (8, 0)) (hr : r a 4 = a + 3) (ht : ty (a + 3) = some (20, 31)) {mv : Int32} (hY : Y < 1000) (hp : p < 1000) (hQ : Q (some (.int (wr_s (h (a + 3)) mv p (Y - p)))) ty h r g) : ∀ (m n : Nat), n + m = Y - p → pv_E Γ d kc ks mX8_wearAt 15 [some (.ref a), some (.int (nI Y)), none, some (.int mv), some (.int (wr_s (h (a + 3)) mv p n)), some (.int (nI (p + n))), none] [] ty h r g Q := by
  intro m
  induction m with
  | zero =>
    intro n hn'
    refine sg_X8_wearAt_15 a _ _ _ _ ?_
    rw [nI_leI (by omega) (by omega)]
    refine ⟨fun _ => ?_, fun c1 => absurd (by omega) c1⟩
    rw [show n = Y - p by omega]; exact hQ
  | succ m ih =>
    intro n hn'
    refine sg_X8_wearAt_15 a _ _ _ _ ?_
    have hi := ih (n + 1) (by omega)
    have e1 : wr_s (h (a + 3)) mv p (n + 1) = wr_s (h (a + 3)) mv p n + (if p + n < 31 ∧ ¬ h (a + 3) (p + n) = -1 then h (a + 3) (p + n) else mv) := rfl
    rw [e1, show p + (n + 1) = p + n + 1 from rfl] at hi
    rw [nI_leI (by omega) (by omega), nI_1]
    refine ⟨fun c1 => absurd c1 (by omega), fun _ => ⟨fun c1 => absurd c1 (nI_pos (by omega)), fun _ => ⟨ha, 20, 31, by rw [hr]; exact ht, by decide, ?_⟩⟩⟩
    rw [hr, nI_leI (by decide) (by omega), nI_clamp (by omega)]
    refine ⟨fun c1 => ?_, fun c1 => ?_⟩
    · rw [if_neg (fun q => by omega)] at hi; exact hi
    · have hv : pv_inb ty (a + 3) 20 (nI (p + n)) := ⟨31, ht, vp_in_nI (by omega) (by decide)⟩
      refine ⟨ha, hv, fun c2 => ?_, fun c2 => ⟨ha, hv, ?_⟩⟩
      · rw [if_neg (fun q => q.2 c2)] at hi; exact hi
      · rw [if_pos ⟨by omega, c2⟩] at hi; exact hi
theorem ct_X8_wearAt (hd : 1 ≤ d) (ha : ty a = some (8, 0)) (hr : r a 4 = a + 3) (ht : ty (a + 3) = some (20, 31)) (hT : T ≤ 30) (hY : Y < 1000) (hp : p < 1000) (hpv : h a 5 = nI p) : pv_CT Γ d 0 0 mX8_wearAt [.ref a, .int (nI Y), .int (nI T)] ty h r g (pv_is (.int (wr_s (h (a + 3)) (mn_v (h (a + 3)) T) p (Y - p))) ty h r g) := by
  refine pv_fn 4 pn_X8 rfl (Nat.le_of_ble_eq_true rfl) (sg_X8_wearAt_0 a _ _ hd ⟨ha, pv_CT.use (ct_X8_meanWheels ha hr ht hT) ⟨_, rfl, ha, ?_⟩⟩)
  rw [hpv]
  exact wa_15 ha hr ht hY hp (pv_is_refl _ _ _ _ _) (Y - p) 0 (by omega)
/-- both sides' wear is one, where the rows agree -/
theorem mn_s_c {f f' : Nat → Int32} : ∀ {n : Nat}, (∀ k, k < n → f k = f' k) → mn_s f n = mn_s f' n ∧ mn_c f n = mn_c f' n
  | 0, _ => ⟨rfl, rfl⟩
  | n + 1, h => by
    obtain ⟨e1, e2⟩ := mn_s_c (f := f) (f' := f') (n := n) (fun k hk => h k (by omega))
    unfold mn_s mn_c
    rw [h n (by omega), e1, e2]
    exact ⟨rfl, rfl⟩
theorem mn_v_c {f f' : Nat → Int32} {n : Nat} (h : ∀ k, k < n → f k = f' k) : mn_v f n = mn_v f' n := by
  unfold mn_v
  rw [(mn_s_c h).1, (mn_s_c h).2]
theorem wr_s_c {f f' : Nat → Int32} {m : Int32} {p : Nat} (h : ∀ k, k < 31 → f k = f' k) : ∀ n, wr_s f m p n = wr_s f' m p n
  | 0 => rfl
  | n + 1 => by
    unfold wr_s
    rw [wr_s_c h n]
    by_cases q : p + n < 31
    · rw [h _ q]
    · rw [if_neg (fun z => q z.1), if_neg (fun z => q z.1)]
end WF
