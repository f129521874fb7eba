/-! Flow.countMost -/
abbrev pln (C : Nat) (p : Nat × Nat) : Nat := p.1 * C + p.2
def cm_row (h : pv_H) (C : Nat) (e : Nat × Nat → Nat × Nat) (n : Nat) : Nat → Int32 := fun j => if j < 144 then nI (st_cnt C (fun p => decide (pln C (e p) = j)) n) else h 32 j
theorem cm_step {h : pv_H} {C i : Nat} {e : Nat × Nat → Nat × Nat} (hk : pln C (e (ps C i)) < 144) : (fun k => if k = pln C (e (ps C i)) then cm_row h C e i (pln C (e (ps C i))) + 1 else cm_row h C e i k) = cm_row h C e (i + 1) := by
  funext k
  have e0 : st_cnt C (fun p => decide (pln C (e p) = k)) (i + 1) = st_cnt C (fun p => decide (pln C (e p) = k)) i + if decide (pln C (e (ps C i)) = k) = true then 1 else 0 := rfl
  unfold cm_row
  rw [e0]
  by_cases e1 : k = pln C (e (ps C i))
  · subst e1
    rw [if_pos rfl, if_pos hk, if_pos hk, nI_1, if_pos (decide_eq_true rfl)]
  · rw [if_neg e1]
    split
    · rw [if_neg (by simpa using fun q => e1 q.symm)]; rfl
    · rfl
section CP
variable {Γ : pv_C} {d kc ks : Nat} {ty : pv_T} {h : pv_H} {r : pv_R} {g : pv_G} {Q : pv_Q} {a R C : Nat}
theorem cp_17 (hd : 1 ≤ d) (hL : pv_Lay ty r) (hS : cStr ty h r a R C) {f : Nat → Int32} (hf : feR h a R C f) (hQ : ∀ k, Q (some (.int (nI (st_mx C (cEnd h a R C) (R * C))))) ty (pv_row (pv_row h 31 f) 32 k) r g) : ∀ (m i : Nat), i + m = R * C → pv_E Γ d kc ks mX2_countMost 17 [some (.ref 30), some (.ref a), some (.int (nI (st_mx C (cEnd h a R C) i))), some (.int (nI i))] [] ty (pv_row (pv_row h 31 f) 32 (cm_row h C (cEnd h a R C) i)) r g Q := by
  intro m
  have hRb := hS.2.2.2.2.1
  have hCb := hS.2.2.2.2.2.1
  have hRC := pl_b hRb.2 hCb.2
  have e2 := hS.2.2.2.2.2.2.1
  have t1 := hS.2.2.2.2.2.2.2.1
  induction m with
  | zero =>
    intro i hi
    refine sg_X2_countMost_17 a _ _ hd hL ⟨hS.2.1, 20, R * C, by rw [e2.1]; exact t1.1, by decide, ?_⟩
    rw [nI_leI (by omega) (by omega)]
    refine ⟨fun _ => ?_, fun c1 => absurd (by omega) c1⟩
    rw [show i = R * C by omega]; exact hQ _
  | succ m ih =>
    intro i hi
    refine sg_X2_countMost_17 a _ _ hd hL ⟨hS.2.1, 20, R * C, by rw [e2.1]; exact t1.1, by decide, ?_⟩
    have hon : wt_on R C (cEnd h a R C (ps C i)) := wt_end_on (ps_on hCb.1 (by omega))
    have hlt : pln C (cEnd h a R C (ps C i)) < R * C := pl_lt hon
    have hz : ∀ k, pv_row (pv_row h 31 f) 32 k 31 i = pl C (cEnd h a R C (ps C i)) := fun k => by
      rw [pv_row_ne (by decide), pv_row_at]; exact hf i (by omega)
    rw [nI_leI (by omega) (by omega), nI_clamp (by omega), hz, pl_cl hRb.2 hCb.2 hon, pv_row_at]
    have hv : vp_in (pl C (cEnd h a R C (ps C i))) 144 := vp_in_nI (Nat.lt_of_lt_of_le hlt hRC) (by decide)
    refine ⟨fun c1 => absurd c1 (by omega), fun _ => ⟨vp_in_nI (by omega) (by decide), hv, hv, fun h1 e1 => ?_⟩⟩
    have e3 : h1 = pv_row (pv_row h 31 f) 32 (cm_row h C (cEnd h a R C) (i + 1)) := by
      rw [e1, pv_row_up]
      exact congrArg _ (cm_step (by omega))
    rw [e3, hz, pl_cl hRb.2 hCb.2 hon, pv_row_at]
    refine ⟨vp_in_nI (by omega) (by decide), hv, ?_⟩
    have e4 : cm_row h C (cEnd h a R C) (i + 1) ((cEnd h a R C (ps C i)).1 * C + (cEnd h a R C (ps C i)).2) = nI (st_oc C (cEnd h a R C) (i + 1) (cEnd h a R C (ps C i))) := by
      unfold cm_row st_oc
      rw [if_pos (show pln C (cEnd h a R C (ps C i)) < 144 by omega)]
      congr 1
      refine st_congr (fun k hk' => ?_)
      have hk2 : wt_on R C (cEnd h a R C (ps C k)) := wt_end_on (ps_on hCb.1 (by omega))
      rw [decide_eq_decide]
      constructor
      · intro q
        exact pl_inj hRb.2 hCb.2 hk2 hon (congrArg nI q)
      · intro q; rw [q]
    rw [e4, nI_1 i]
    have hi' := ih (i + 1) (by omega)
    have e5 : st_mx C (cEnd h a R C) (i + 1) = max (st_mx C (cEnd h a R C) i) (st_oc C (cEnd h a R C) (i + 1) (cEnd h a R C (ps C i))) := rfl
    have b1 := st_mx_le C (cEnd h a R C) i
    have b2 : st_oc C (cEnd h a R C) (i + 1) (cEnd h a R C (ps C i)) ≤ i + 1 := st_cnt_le _ _ _
    rw [e5] at hi'
    have e6 : (if nI (st_mx C (cEnd h a R C) i) < nI (st_oc C (cEnd h a R C) (i + 1) (cEnd h a R C (ps C i))) then nI (st_oc C (cEnd h a R C) (i + 1) (cEnd h a R C (ps C i))) else nI (st_mx C (cEnd h a R C) i)) = nI (max (st_mx C (cEnd h a R C) i) (st_oc C (cEnd h a R C) (i + 1) (cEnd h a R C (ps C i)))) := by
      by_cases q : st_mx C (cEnd h a R C) i < st_oc C (cEnd h a R C) (i + 1) (cEnd h a R C (ps C i))
      · rw [if_pos ((nI_ltI (by omega) (by omega)).mpr q), Nat.max_eq_right (by omega)]
      · rw [if_neg (fun z => q ((nI_ltI (by omega) (by omega)).mp z)), Nat.max_eq_left (by omega)]
    rw [e6]
    exact hi'
theorem ct_X2_countMost (hd : 6 ≤ d) (hL : pv_Lay ty r) (hS : cStr ty h r a R C) : pv_CJ Γ d mX2_countMost [.ref 30, .ref a] ty h r g (fun w h' => w = nI (st_mx C (cEnd h a R C) (R * C)) ∧ ∃ f k, h' = pv_row (pv_row h 31 f) 32 k) := by
  refine pv_fn 2 pn_X2 rfl (Nat.le_of_ble_eq_true rfl) (sg_X2_countMost_0 a (by omega) hL (pv_CW.mono (ct_X2_findEnds (by omega) hL hS) (fun h1 q => ?_)))
  obtain ⟨f, rfl, hf⟩ := q
  refine pv_CW.mono (ct_fill (by decide) (lt_32 hL) (by decide)) (fun h2 q => ?_)
  have e1 : h2 = pv_row (pv_row h 31 f) 32 (cm_row h C (cEnd h a R C) 0) := by
    rw [q]
    have e2 : (fun j => if j < 144 then (0 : Int32) else pv_row h 31 f 32 j) = cm_row h C (cEnd h a R C) 0 := by
      funext j
      unfold cm_row
      rw [pv_row_ne (by decide)]
      rfl
    rw [e2]
  rw [e1]
  exact cp_17 (by omega) hL hS hf (fun k => pv_jqi ⟨rfl, f, k, rfl⟩) (R * C) 0 (by omega)
end CP
