/-! the reference: standing, most, street -/
/-- how many of the first n squares (row by row) have the property -/
def st_cnt (C : Nat) (P : Nat × Nat → Bool) : Nat → Nat
  | 0 => 0
  | n + 1 => st_cnt C P n + if P (n / C, n % C) = true then 1 else 0
theorem st_cnt_le (C : Nat) (P : Nat × Nat → Bool) : ∀ n, st_cnt C P n ≤ n
  | 0 => Nat.le_refl 0
  | n + 1 => by
    have := st_cnt_le C P n
    unfold st_cnt
    split <;> omega
theorem st_at {C a c : Nat} (hc : c < C) : (a * C + c) / C = a ∧ (a * C + c) % C = c := by
  rw [Nat.mul_comm, Nat.mul_add_div (by omega), Nat.mul_add_mod]
  exact ⟨by rw [Nat.div_eq_of_lt hc]; rfl, Nat.mod_eq_of_lt hc⟩
theorem st_cnt_s {C a c : Nat} {P : Nat × Nat → Bool} (hc : c < C) : st_cnt C P (a * C + c + 1) = st_cnt C P (a * C + c) + if P (a, c) = true then 1 else 0 := by
  show st_cnt C P (a * C + c) + (if P ((a * C + c) / C, (a * C + c) % C) = true then 1 else 0) = _
  rw [(st_at hc).1, (st_at hc).2]
abbrev mStays (h : pv_H) (s R C : Nat) (p : Nat × Nat) : Bool := decide (mD h s (mEnd h s R C p).1 (mEnd h s R C p).2 = 0)
set_option maxRecDepth 20000 in
set_option maxHeartbeats 4000000 in
theorem sg_X12_standing_0 {Γ : pv_C} {d kc ks : Nat} {ty : pv_T} {h : pv_H} {r : pv_R} {g : pv_G} {Q : pv_Q} (x : Int32) (hd : 2 ≤ d) (hL : pv_Lay ty r) (F : ((¬ (pf_b (0 ≤ x ∧ x ≤ h 200 1 - 1)) = 0 → pv_E Γ d kc ks mX12_standing 14 [some (.ref 200), some (.int x), some (.int 0), some (.int 0), none] [] ty h r g Q) ∧ ((pf_b (0 ≤ x ∧ x ≤ h 200 1 - 1)) = 0 → Q (some (.int (-1))) ty h r g))) : pv_E Γ d kc ks mX12_standing 0 [some (.ref 200), some (.int x), none, none, none] [] ty h r g Q := by
  refine pv_aload_n dX12_standing_0 rfl ?_
  refine pv_iload_n dX12_standing_1 rfl ?_
  refine pv_invV (As := [.int x]) (d' := d - 1) dX12_standing_2 moX12_isStreet ml_X12_168 (lt_200 hL) (Or.inl ⟨_, rfl, rfl⟩) (Nat.le_of_ble_eq_true rfl) (by omega) (Nat.zero_le _) (Nat.zero_le _) (ct_X12_isStreet (by omega) hL) (fun v ty' h' r' g' hq => ?_) rfl
  obtain ⟨e1, e2, e3, e4, e5⟩ := hq
  rw [e1, e2, e3, e4, e5]
  refine pv_pc (pc' := 5) rfl ?_
  show pv_E Γ d kc ks mX12_standing 5 [some (.ref 200), some (.int x), none, none, none] [.int (pf_b (0 ≤ x ∧ x ≤ h 200 1 - 1))] ty h r g Q
  refine pv_if_ne (tgt := 10) dX12_standing_5 (by decide) (fun c1 => ?_) (fun c1 => ?_)
  · have F := F.1 c1
    refine pv_iconst (v := 0) (by decide) dX12_standing_10 ?_
    refine pv_istore_n (ls' := [some (.ref 200), some (.int x), some (.int 0), none, none]) dX12_standing_11 (by decide) rfl rfl ?_
    refine pv_iconst (v := 0) (by decide) dX12_standing_12 ?_
    refine pv_istore_n (ls' := [some (.ref 200), some (.int x), some (.int 0), some (.int 0), none]) dX12_standing_13 (by decide) rfl rfl ?_
    exact F
  · have F := F.2 c1
    refine pv_iconst (v := (-1)) (by decide) dX12_standing_8 ?_
    exact pv_ireturn dX12_standing_9 rfl rfl F
set_option maxRecDepth 20000 in
set_option maxHeartbeats 4000000 in
theorem sg_X12_standing_14 {Γ : pv_C} {d kc ks : Nat} {ty : pv_T} {h : pv_H} {r : pv_R} {g : pv_G} {Q : pv_Q} (x1 : Int32) (x2 : Int32) (x3 : Int32) (hL : pv_Lay ty r) (F : vp_in x1 8 ∧ (((h 302 (Int32.toNatClampNeg x1)) ≤ x3 → Q (some (.int x2)) ty h r g) ∧ (¬ (h 302 (Int32.toNatClampNeg x1)) ≤ x3 → pv_E Γ d kc ks mX12_standing 27 [some (.ref 200), some (.int x1), some (.int x2), some (.int x3), some (.int 0)] [] ty h r g Q))) : pv_E Γ d kc ks mX12_standing 14 [some (.ref 200), some (.int x1), some (.int x2), some (.int x3), none] [] ty h r g Q := by
  refine pv_iload_n dX12_standing_14 rfl ?_
  refine pv_aload_n dX12_standing_15 rfl ?_
  refine pv_getRk 12 2 dX12_standing_16 fl_X12_7 rfl (lt_200 hL) (lr_200_2 hL) ?_
  refine pv_iload_n dX12_standing_19 rfl ?_
  obtain ⟨q1, F⟩ := F
  refine pv_iald dX12_standing_20 (lt_302 hL) q1 ?_
  refine pv_icmp_ge (tgt := 74) dX12_standing_21 (by decide) (fun c1 => ?_) (fun c1 => ?_)
  · have F := F.1 c1
    refine pv_iload_n dX12_standing_74 rfl ?_
    exact pv_ireturn dX12_standing_75 rfl rfl F
  · have F := F.2 c1
    refine pv_iconst (v := 0) (by decide) dX12_standing_24 ?_
    refine pv_istore (ls' := [some (.ref 200), some (.int x1), some (.int x2), some (.int x3), some (.int 0)]) dX12_standing_25 (by decide) rfl rfl ?_
    exact F
set_option maxRecDepth 20000 in
set_option maxHeartbeats 4000000 in
theorem sg_X12_standing_27 {Γ : pv_C} {d kc ks : Nat} {ty : pv_T} {h : pv_H} {r : pv_R} {g : pv_G} {Q : pv_Q} (x1 : Int32) (x2 : Int32) (x3 : Int32) (x4 : Int32) (hd : 1 ≤ d) (hL : pv_Lay ty r) (F : vp_in x1 8 ∧ (((h 303 (Int32.toNatClampNeg x1)) ≤ x4 → pv_E Γ d kc ks mX12_standing 14 [some (.ref 200), some (.int x1), some (.int x2), some (.int (x3 + 1)), none] [] ty h r g Q) ∧ (¬ (h 303 (Int32.toNatClampNeg x1)) ≤ x4 → pv_CT Γ (d - 1) 0 0 mX12_comesTo [.ref 200, .int x1, .int x3, .int x4] ty h r g (fun (v1 : Option Value) (ty1 : pv_T) (h1 : pv_H) (r1 : pv_R) (g1 : pv_G) => ∃ w1 : Int32, v1 = some (.int w1) ∧ pv_Lay ty1 r1 ∧ pv_CT Γ (d - 1) 0 0 mX12_isDrain [.ref 200, .int x1, .int w1] ty1 h1 r1 g1 (fun (v2 : Option Value) (ty2 : pv_T) (h2 : pv_H) (r2 : pv_R) (g2 : pv_G) => ∃ w2 : Int32, v2 = some (.int w2) ∧ pv_Lay ty2 r2 ∧ ((w2 = 0 → pv_E Γ d kc ks mX12_standing 27 [some (.ref 200), some (.int x1), some (.int (x2 + 1)), some (.int x3), some (.int (x4 + 1))] [] ty2 h2 r2 g2 Q) ∧ (¬ w2 = 0 → pv_E Γ d kc ks mX12_standing 27 [some (.ref 200), some (.int x1), some (.int (x2 + 0)), some (.int x3), some (.int (x4 + 1))] [] ty2 h2 r2 g2 Q))))))) : pv_E Γ d kc ks mX12_standing 27 [some (.ref 200), some (.int x1), some (.int x2), some (.int x3), some (.int x4)] [] ty h r g Q := by
  refine pv_iload dX12_standing_27 rfl ?_
  refine pv_aload_n dX12_standing_29 rfl ?_
  refine pv_getRk 12 3 dX12_standing_30 fl_X12_13 rfl (lt_200 hL) (lr_200_3 hL) ?_
  refine pv_iload_n dX12_standing_33 rfl ?_
  obtain ⟨q1, F⟩ := F
  refine pv_iald dX12_standing_34 (lt_303 hL) q1 ?_
  refine pv_icmp_ge (tgt := 68) dX12_standing_35 (by decide) (fun c1 => ?_) (fun c1 => ?_)
  · have F := F.1 c1
    refine pv_iinc (v := x3 + 1) (ls' := [some (.ref 200), some (.int x1), some (.int x2), some (.int (x3 + 1)), some (.int x4)]) dX12_standing_68 rfl (by rfl) rfl rfl ?_
    refine pv_goto (tgt := 14) dX12_standing_71 (by decide) ?_
    refine pv_forgetL (ls' := [some (.ref 200), some (.int x1), some (.int x2), some (.int (x3 + 1)), none]) (pv_subL_ok ⟨rfl, ⟨rfl, ⟨rfl, ⟨rfl, trivial⟩⟩⟩⟩) ?_
    exact F
  · have F := F.2 c1
    refine pv_iload_n dX12_standing_38 rfl ?_
    refine pv_aload_n dX12_standing_39 rfl ?_
    refine pv_iload_n dX12_standing_40 rfl ?_
    refine pv_aload_n dX12_standing_41 rfl ?_
    refine pv_iload_n dX12_standing_42 rfl ?_
    refine pv_iload_n dX12_standing_43 rfl ?_
    refine pv_pc (pc' := 44) rfl ?_
    refine pv_iload dX12_standing_44 rfl ?_
    refine pv_invV (As := [.int x1, .int x3, .int x4]) (d' := d - 1) dX12_standing_46 moX12_comesTo ml_X12_182 (lt_200 hL) (Or.inl ⟨_, rfl, rfl⟩) (Nat.le_of_ble_eq_true rfl) (by omega) (Nat.zero_le _) (Nat.zero_le _) F (fun v1 ty1 h1 r1 g1 F => ?_) rfl
    obtain ⟨w1, rfl, F⟩ := F
    obtain ⟨hL1, F⟩ := F
    refine pv_pc (pc' := 49) rfl ?_
    show pv_E Γ d kc ks mX12_standing 49 [some (.ref 200), some (.int x1), some (.int x2), some (.int x3), some (.int x4)] [.int w1, .int x1, .ref 200, .int x2] ty1 h1 r1 g1 Q
    refine pv_invV (As := [.int x1, .int w1]) (d' := d - 1) dX12_standing_49 moX12_isDrain ml_X12_185 (lt_200 hL1) (Or.inl ⟨_, rfl, rfl⟩) (Nat.le_of_ble_eq_true rfl) (by omega) (Nat.zero_le _) (Nat.zero_le _) F (fun v2 ty2 h2 r2 g2 F => ?_) rfl
    obtain ⟨w2, rfl, F⟩ := F
    obtain ⟨hL2, F⟩ := F
    refine pv_pc (pc' := 52) rfl ?_
    show pv_E Γ d kc ks mX12_standing 52 [some (.ref 200), some (.int x1), some (.int x2), some (.int x3), some (.int x4)] [.int w2, .int x2] ty2 h2 r2 g2 Q
    refine pv_if_eq (tgt := 59) dX12_standing_52 (by decide) (fun c2 => ?_) (fun c2 => ?_)
    · have F := F.1 c2
      refine pv_iconst (v := 1) (by decide) dX12_standing_59 ?_
      refine pv_iadd dX12_standing_60 ?_
      refine pv_istore_n (ls' := [some (.ref 200), some (.int x1), some (.int (x2 + 1)), some (.int x3), some (.int x4)]) dX12_standing_61 (by decide) rfl rfl ?_
      refine pv_iinc (v := x4 + 1) (ls' := [some (.ref 200), some (.int x1), some (.int (x2 + 1)), some (.int x3), some (.int (x4 + 1))]) dX12_standing_62 rfl (by rfl) rfl rfl ?_
      refine pv_goto (tgt := 27) dX12_standing_65 (by decide) ?_
      exact F
    · have F := F.2 c2
      refine pv_iconst (v := 0) (by decide) dX12_standing_55 ?_
      refine pv_goto (tgt := 60) dX12_standing_56 (by decide) ?_
      refine pv_iadd dX12_standing_60 ?_
      refine pv_istore_n (ls' := [some (.ref 200), some (.int x1), some (.int (x2 + 0)), some (.int x3), some (.int x4)]) dX12_standing_61 (by decide) rfl rfl ?_
      refine pv_iinc (v := x4 + 1) (ls' := [some (.ref 200), some (.int x1), some (.int (x2 + 0)), some (.int x3), some (.int (x4 + 1))]) dX12_standing_62 rfl (by rfl) rfl rfl ?_
      refine pv_goto (tgt := 27) dX12_standing_65 (by decide) ?_
      exact F
section MS
variable {Γ : pv_C} {d kc ks : Nat} {ty : pv_T} {h : pv_H} {r : pv_R} {g : pv_G} {Q : pv_Q} {s R C : Nat}
theorem ms_27 (hd : 4 ≤ d) (hL : pv_Lay ty r) (hS : mStr h s R C) {a : Nat} (ha : a < R) (hE : pv_E Γ d kc ks mX12_standing 14 [some (.ref 200), some (.int (nI s)), some (.int (nI (st_cnt C (mStays h s R C) ((a + 1) * C)))), some (.int (nI (a + 1))), none] [] ty h r g Q) : ∀ (m c : Nat), c + m = C → pv_E Γ d kc ks mX12_standing 27 [some (.ref 200), some (.int (nI s)), some (.int (nI (st_cnt C (mStays h s R C) (a * C + c)))), some (.int (nI a)), some (.int (nI c))] [] ty h r g Q := by
  intro m
  have hCb := hS.2.2.2.2.1
  have hs8 := hS.1
  induction m with
  | zero =>
    intro c hc
    refine sg_X12_standing_27 _ _ _ _ (by omega) hL ⟨vp_in_nI hs8 (by decide), ?_⟩
    rw [nI_clamp (by omega), hS.2.2.1, nI_leI (by omega) (by omega), nI_1]
    refine ⟨fun _ => ?_, fun c1 => absurd (by omega) c1⟩
    rw [show a * C + c = (a + 1) * C by rw [Nat.succ_mul]; omega]
    exact hE
  | succ m ih =>
    intro c hc
    refine sg_X12_standing_27 _ _ _ _ (by omega) hL ⟨vp_in_nI hs8 (by decide), ?_⟩
    rw [nI_clamp (by omega), hS.2.2.1, nI_leI (by omega) (by omega)]
    refine ⟨fun c1 => absurd c1 (by omega), fun _ => ?_⟩
    have hp : wt_on R C (a, c) := ⟨ha, by show c < C; omega⟩
    refine pv_CT.use (ct_X12_comesTo (by omega) hL hS hp) ⟨_, rfl, hL, ?_⟩
    refine pv_CT.use (ct_X12_isDrain (by omega) hL hS (wt_end_on hp)) ⟨_, rfl, hL, ?_⟩
    have hi := ih (c + 1) (by omega)
    rw [show a * C + (c + 1) = a * C + c + 1 from rfl, st_cnt_s (by omega)] at hi
    rw [nI_1 c]
    refine ⟨fun c1 => ?_, fun c1 => ?_⟩
    · rw [if_pos (decide_eq_true c1)] at hi
      rw [nI_1]; exact hi
    · rw [if_neg (by simpa using c1)] at hi
      rw [Int32.add_zero]; exact hi
theorem ms_14 (hd : 4 ≤ d) (hL : pv_Lay ty r) (hS : mStr h s R C) (hQ : Q (some (.int (nI (st_cnt C (mStays h s R C) (R * C))))) ty h r g) : ∀ (m a : Nat), a + m = R → pv_E Γ d kc ks mX12_standing 14 [some (.ref 200), some (.int (nI s)), some (.int (nI (st_cnt C (mStays h s R C) (a * C)))), some (.int (nI a)), none] [] ty h r g Q := by
  intro m
  have hRb := hS.2.2.2.1
  have hs8 := hS.1
  induction m with
  | zero =>
    intro a ha
    refine sg_X12_standing_14 _ _ _ hL ⟨vp_in_nI hs8 (by decide), ?_⟩
    rw [nI_clamp (by omega), hS.2.1, nI_leI (by omega) (by omega)]
    refine ⟨fun _ => ?_, fun c1 => absurd (by omega) c1⟩
    rw [show a = R by omega]
    exact hQ
  | succ m ih =>
    intro a ha
    refine sg_X12_standing_14 _ _ _ hL ⟨vp_in_nI hs8 (by decide), ?_⟩
    rw [nI_clamp (by omega), hS.2.1, nI_leI (by omega) (by omega)]
    refine ⟨fun c1 => absurd c1 (by omega), fun _ => ?_⟩
    exact ms_27 hd hL hS (by omega) (ih (a + 1) (by omega)) C 0 (by omega)
def fn_standing (h : pv_H) (x : Int32) : Int32 := if 0 ≤ x ∧ x ≤ h 200 1 - 1 then nI (st_cnt (mC h x.toNatClampNeg) (mStays h x.toNatClampNeg (mR h x.toNatClampNeg) (mC h x.toNatClampNeg)) (mR h x.toNatClampNeg * mC h x.toNatClampNeg)) else -1
theorem ct_X12_standing {ns : Nat} (hd : 4 ≤ d) (hL : pv_Lay ty r) (hM : mStreets h ns) {x : Int32} : pv_CT Γ d 0 0 mX12_standing [.ref 200, .int x] ty h r g (pv_is (.int (fn_standing h x)) ty h r g) := by
  refine pv_fn 3 pn_X12 rfl (Nat.le_of_ble_eq_true rfl) (sg_X12_standing_0 _ (by omega) hL ?_)
  rw [pf_b_0, Classical.not_not]
  unfold fn_standing
  refine ⟨fun c1 => ?_, fun c1 => ?_⟩
  · rw [if_pos c1]
    rw [hM.2.1, ni_valid (by have := hM.1; omega)] at c1
    obtain ⟨s, h1, rfl⟩ := c1
    have h8 := hM.1
    rw [nI_clamp (by omega)]
    have := ms_14 (Γ := Γ) (kc := 0) (ks := 0) (g := g) hd hL (hM.2.2 s h1) (pv_is_refl _ ty h r g) (mR h s) 0 (by omega)
    rw [Nat.zero_mul] at this
    exact this
  · rw [if_neg c1]; exact pv_is_refl _ _ _ _ _
end MS
