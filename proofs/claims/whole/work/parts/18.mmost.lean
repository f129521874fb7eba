/-! the reference: most -/
def pv_row (h : pv_H) (a : Nat) (f : Nat → Int32) : pv_H := fun b j => if b = a then f j else h b j
theorem pv_row_at {h : pv_H} {a : Nat} {f : Nat → Int32} (j : Nat) : pv_row h a f a j = f j := by simp [pv_row]
theorem pv_row_ne {h : pv_H} {a b : Nat} {f : Nat → Int32} (hb : b ≠ a) : pv_row h a f b = h b := by funext j; simp [pv_row, hb]
theorem pv_row_up {h : pv_H} {a j : Nat} {f : Nat → Int32} {x : Int32} : pv_up (pv_row h a f) a j x = pv_row h a (fun k => if k = j then x else f k) := by
  funext b k
  unfold pv_up pv_row
  by_cases e1 : b = a <;> by_cases e2 : k = j <;> simp [e1, e2]
theorem pv_row_self (h : pv_H) (a : Nat) : pv_row h a (h a) = h := by
  funext b j
  unfold pv_row
  split
  · rename_i e; rw [e]
  · rfl
theorem st_congr {C : Nat} {P P' : Nat × Nat → Bool} : ∀ {n : Nat}, (∀ k, k < n → P (k / C, k % C) = P' (k / C, k % C)) → st_cnt C P n = st_cnt C P' n
  | 0, _ => rfl
  | n + 1, h => by
    unfold st_cnt
    rw [st_congr (fun k hk => h k (by omega)), h n (by omega)]
def st_oc (C : Nat) (e : Nat × Nat → Nat × Nat) (n : Nat) (q : Nat × Nat) : Nat := st_cnt C (fun p => decide (e p = q)) n
/-- the greatest number of squares of the first n from which water comes to one -/
def st_mx (C : Nat) (e : Nat × Nat → Nat × Nat) : Nat → Nat
  | 0 => 0
  | n + 1 => max (st_mx C e n) (st_oc C e (n + 1) (e (n / C, n % C)))
theorem st_mx_le (C : Nat) (e : Nat × Nat → Nat × Nat) : ∀ n, st_mx C e n ≤ n
  | 0 => Nat.le_refl 0
  | n + 1 => by
    have h1 := st_mx_le C e n
    have h2 : st_oc C e (n + 1) (e (n / C, n % C)) ≤ n + 1 := st_cnt_le _ _ _
    show max _ _ ≤ _
    omega
theorem st_mx_s {C a c : Nat} {e : Nat × Nat → Nat × Nat} (hc : c < C) : st_mx C e (a * C + c + 1) = max (st_mx C e (a * C + c)) (st_oc C e (a * C + c + 1) (e (a, c))) := by
  show max _ (st_oc C e (a * C + c + 1) (e ((a * C + c) / C, (a * C + c) % C))) = _
  rw [(st_at hc).1, (st_at hc).2]
abbrev cdn (p : Nat × Nat) : Nat := 16 * p.1 + p.2
def mm_row (h : pv_H) (C : Nat) (e : Nat × Nat → Nat × Nat) (n : Nat) : Nat → Int32 := fun j => if j < 256 then nI (st_cnt C (fun p => decide (cdn (e p) = j)) n) else h 306 j
theorem mm_step {h : pv_H} {C a c : Nat} {e : Nat × Nat → Nat × Nat} (hc : c < C) (hk : cdn (e (a, c)) < 256) : (fun k => if k = cdn (e (a, c)) then mm_row h C e (a * C + c) (cdn (e (a, c))) + 1 else mm_row h C e (a * C + c) k) = mm_row h C e (a * C + c + 1) := by
  funext k
  unfold mm_row
  rw [st_cnt_s hc]
  by_cases e1 : k = cdn (e (a, c))
  · subst e1
    rw [if_pos rfl, if_pos hk, if_pos hk, nI_1, if_pos (decide_eq_true rfl)]
  · rw [if_neg e1]
    split
    · rw [if_neg (by simpa using fun q => e1 q.symm)]; rfl
    · rfl
theorem mStr_row {h : pv_H} {s R C : Nat} {f : Nat → Int32} (hS : mStr h s R C) : mStr (pv_row h 306 f) s R C := hS
set_option maxRecDepth 20000 in
set_option maxHeartbeats 4000000 in
theorem sg_X12_most_0 {Γ : pv_C} {d kc ks : Nat} {ty : pv_T} {h : pv_H} {r : pv_R} {g : pv_G} {Q : pv_Q} (x : Int32) (hd : 2 ≤ d) (hL : pv_Lay ty r) (F : ((¬ (pf_b (0 ≤ x ∧ x ≤ h 200 1 - 1)) = 0 → pv_E Γ d kc ks mX12_most 12 [some (.ref 200), some (.int x), some (.int 0), none, none, none] [] ty h r g Q) ∧ ((pf_b (0 ≤ x ∧ x ≤ h 200 1 - 1)) = 0 → Q (some (.int (-1))) ty h r g))) : pv_E Γ d kc ks mX12_most 0 [some (.ref 200), some (.int x), none, none, none, none] [] ty h r g Q := by
  refine pv_aload_n dX12_most_0 rfl ?_
  refine pv_iload_n dX12_most_1 rfl ?_
  refine pv_invV (As := [.int x]) (d' := d - 1) dX12_most_2 moX12_isStreet ml_X12_168 (lt_200 hL) (Or.inl ⟨_, rfl, rfl⟩) (Nat.le_of_ble_eq_true rfl) (by omega) (Nat.zero_le _) (Nat.zero_le _) (ct_X12_isStreet (by omega) hL) (fun v ty' h' r' g' hq => ?_) rfl
  obtain ⟨e1, e2, e3, e4, e5⟩ := hq
  rw [e1, e2, e3, e4, e5]
  refine pv_pc (pc' := 5) rfl ?_
  show pv_E Γ d kc ks mX12_most 5 [some (.ref 200), some (.int x), none, none, none, none] [.int (pf_b (0 ≤ x ∧ x ≤ h 200 1 - 1))] ty h r g Q
  refine pv_if_ne (tgt := 10) dX12_most_5 (by decide) (fun c1 => ?_) (fun c1 => ?_)
  · have F := F.1 c1
    refine pv_iconst (v := 0) (by decide) dX12_most_10 ?_
    refine pv_istore_n (ls' := [some (.ref 200), some (.int x), some (.int 0), none, none, none]) dX12_most_11 (by decide) rfl rfl ?_
    exact F
  · have F := F.2 c1
    refine pv_iconst (v := (-1)) (by decide) dX12_most_8 ?_
    exact pv_ireturn dX12_most_9 rfl rfl F
set_option maxRecDepth 20000 in
set_option maxHeartbeats 4000000 in
theorem sg_X12_most_12 {Γ : pv_C} {d kc ks : Nat} {ty : pv_T} {h : pv_H} {r : pv_R} {g : pv_G} {Q : pv_Q} (x1 : Int32) (x2 : Int32) (hL : pv_Lay ty r) (F : ((256 ≤ x2 → pv_E Γ d kc ks mX12_most 36 [some (.ref 200), some (.int x1), some (.int 0), some (.int 0), none, none] [] ty h r g Q) ∧ (¬ 256 ≤ x2 → vp_in x2 256 ∧ (∀ h1 : pv_H, h1 = pv_up h 306 (Int32.toNatClampNeg x2) 0 → pv_E Γ d kc ks mX12_most 12 [some (.ref 200), some (.int x1), some (.int (x2 + 1)), none, none, none] [] ty h1 r g Q)))) : pv_E Γ d kc ks mX12_most 12 [some (.ref 200), some (.int x1), some (.int x2), none, none, none] [] ty h r g Q := by
  refine pv_iload_n dX12_most_12 rfl ?_
  refine pv_sipush (v := 256) (by decide) dX12_most_13 ?_
  refine pv_icmp_ge (tgt := 32) dX12_most_16 (by decide) (fun c1 => ?_) (fun c1 => ?_)
  · have F := F.1 c1
    refine pv_iconst (v := 0) (by decide) dX12_most_32 ?_
    refine pv_istore_n (ls' := [some (.ref 200), some (.int x1), some (.int 0), none, none, none]) dX12_most_33 (by decide) rfl rfl ?_
    refine pv_iconst (v := 0) (by decide) dX12_most_34 ?_
    refine pv_istore_n (ls' := [some (.ref 200), some (.int x1), some (.int 0), some (.int 0), none, none]) dX12_most_35 (by decide) rfl rfl ?_
    exact F
  · have F := F.2 c1
    refine pv_aload_n dX12_most_19 rfl ?_
    refine pv_getRk 12 6 dX12_most_20 fl_X12_23 rfl (lt_200 hL) (lr_200_6 hL) ?_
    refine pv_iload_n dX12_most_23 rfl ?_
    refine pv_iconst (v := 0) (by decide) dX12_most_24 ?_
    obtain ⟨q1, F⟩ := F
    obtain ⟨h1, eh1⟩ : ∃ h1 : pv_H, h1 = pv_up h 306 (Int32.toNatClampNeg x2) 0 := ⟨_, rfl⟩
    have F := F h1 eh1
    refine pv_iast dX12_most_25 (lt_306 hL) (by decide) q1 ?_
    refine pv_hE eh1 ?_
    refine pv_iinc (v := x2 + 1) (ls' := [some (.ref 200), some (.int x1), some (.int (x2 + 1)), none, none, none]) dX12_most_26 rfl (by rfl) rfl rfl ?_
    refine pv_goto (tgt := 12) dX12_most_29 (by decide) ?_
    exact F
set_option maxRecDepth 20000 in
set_option maxHeartbeats 4000000 in
theorem sg_X12_most_36 {Γ : pv_C} {d kc ks : Nat} {ty : pv_T} {h : pv_H} {r : pv_R} {g : pv_G} {Q : pv_Q} (x1 : Int32) (x2 : Int32) (x3 : Int32) (hL : pv_Lay ty r) (F : vp_in x1 8 ∧ (((h 302 (Int32.toNatClampNeg x1)) ≤ x3 → Q (some (.int x2)) ty h r g) ∧ (¬ (h 302 (Int32.toNatClampNeg x1)) ≤ x3 → pv_E Γ d kc ks mX12_most 49 [some (.ref 200), some (.int x1), some (.int x2), some (.int x3), some (.int 0), none] [] ty h r g Q))) : pv_E Γ d kc ks mX12_most 36 [some (.ref 200), some (.int x1), some (.int x2), some (.int x3), none, none] [] ty h r g Q := by
  refine pv_iload_n dX12_most_36 rfl ?_
  refine pv_aload_n dX12_most_37 rfl ?_
  refine pv_getRk 12 2 dX12_most_38 fl_X12_7 rfl (lt_200 hL) (lr_200_2 hL) ?_
  refine pv_iload_n dX12_most_41 rfl ?_
  obtain ⟨q1, F⟩ := F
  refine pv_iald dX12_most_42 (lt_302 hL) q1 ?_
  refine pv_icmp_ge (tgt := 116) dX12_most_43 (by decide) (fun c1 => ?_) (fun c1 => ?_)
  · have F := F.1 c1
    refine pv_iload_n dX12_most_116 rfl ?_
    exact pv_ireturn dX12_most_117 rfl rfl F
  · have F := F.2 c1
    refine pv_iconst (v := 0) (by decide) dX12_most_46 ?_
    refine pv_istore (ls' := [some (.ref 200), some (.int x1), some (.int x2), some (.int x3), some (.int 0), none]) dX12_most_47 (by decide) rfl rfl ?_
    exact F
set_option maxRecDepth 20000 in
set_option maxHeartbeats 4000000 in
theorem sg_X12_most_49 {Γ : pv_C} {d kc ks : Nat} {ty : pv_T} {h : pv_H} {r : pv_R} {g : pv_G} {Q : pv_Q} (x1 : Int32) (x2 : Int32) (x3 : Int32) (x4 : Int32) (hd : 1 ≤ d) (hL : pv_Lay ty r) (F : vp_in x1 8 ∧ (((h 303 (Int32.toNatClampNeg x1)) ≤ x4 → pv_E Γ d kc ks mX12_most 36 [some (.ref 200), some (.int x1), some (.int x2), some (.int (x3 + 1)), none, none] [] ty h r g Q) ∧ (¬ (h 303 (Int32.toNatClampNeg x1)) ≤ x4 → pv_CT Γ (d - 1) 0 0 mX12_comesTo [.ref 200, .int x1, .int x3, .int x4] ty h r g (fun (v1 : Option Value) (ty1 : pv_T) (h1 : pv_H) (r1 : pv_R) (g1 : pv_G) => ∃ w1 : Int32, v1 = some (.int w1) ∧ pv_Lay ty1 r1 ∧ vp_in w1 256 ∧ vp_in w1 256 ∧ (∀ h2 : pv_H, h2 = pv_up h1 306 (Int32.toNatClampNeg w1) ((h1 306 (Int32.toNatClampNeg w1)) + 1) → vp_in w1 256 ∧ (((h2 306 (Int32.toNatClampNeg w1)) ≤ x2 → pv_E Γ d kc ks mX12_most 49 [some (.ref 200), some (.int x1), some (.int x2), some (.int x3), some (.int (x4 + 1)), none] [] ty1 h2 r1 g1 Q) ∧ (¬ (h2 306 (Int32.toNatClampNeg w1)) ≤ x2 → vp_in w1 256 ∧ pv_E Γ d kc ks mX12_most 49 [some (.ref 200), some (.int x1), some (.int (h2 306 (Int32.toNatClampNeg w1))), some (.int x3), some (.int (x4 + 1)), none] [] ty1 h2 r1 g1 Q))))))) : pv_E Γ d kc ks mX12_most 49 [some (.ref 200), some (.int x1), some (.int x2), some (.int x3), some (.int x4), none] [] ty h r g Q := by
  refine pv_iload dX12_most_49 rfl ?_
  refine pv_aload_n dX12_most_51 rfl ?_
  refine pv_getRk 12 3 dX12_most_52 fl_X12_13 rfl (lt_200 hL) (lr_200_3 hL) ?_
  refine pv_iload_n dX12_most_55 rfl ?_
  obtain ⟨q1, F⟩ := F
  refine pv_iald dX12_most_56 (lt_303 hL) q1 ?_
  refine pv_icmp_ge (tgt := 110) dX12_most_57 (by decide) (fun c1 => ?_) (fun c1 => ?_)
  · have F := F.1 c1
    refine pv_iinc (v := x3 + 1) (ls' := [some (.ref 200), some (.int x1), some (.int x2), some (.int (x3 + 1)), some (.int x4), none]) dX12_most_110 rfl (by rfl) rfl rfl ?_
    refine pv_goto (tgt := 36) dX12_most_113 (by decide) ?_
    refine pv_forgetL (ls' := [some (.ref 200), some (.int x1), some (.int x2), some (.int (x3 + 1)), none, none]) (pv_subL_ok ⟨rfl, ⟨rfl, ⟨rfl, ⟨rfl, trivial⟩⟩⟩⟩) ?_
    exact F
  · have F := F.2 c1
    refine pv_aload_n dX12_most_60 rfl ?_
    refine pv_iload_n dX12_most_61 rfl ?_
    refine pv_iload_n dX12_most_62 rfl ?_
    refine pv_iload dX12_most_63 rfl ?_
    refine pv_invV (As := [.int x1, .int x3, .int x4]) (d' := d - 1) dX12_most_65 moX12_comesTo ml_X12_182 (lt_200 hL) (Or.inl ⟨_, rfl, rfl⟩) (Nat.le_of_ble_eq_true rfl) (by omega) (Nat.zero_le _) (Nat.zero_le _) F (fun v1 ty1 h1 r1 g1 F => ?_) rfl
    obtain ⟨w1, rfl, F⟩ := F
    obtain ⟨hL1, F⟩ := F
    refine pv_pc (pc' := 68) rfl ?_
    show pv_E Γ d kc ks mX12_most 68 [some (.ref 200), some (.int x1), some (.int x2), some (.int x3), some (.int x4), none] [.int w1] ty1 h1 r1 g1 Q
    refine pv_istore (ls' := [some (.ref 200), some (.int x1), some (.int x2), some (.int x3), some (.int x4), some (.int w1)]) dX12_most_68 (by decide) rfl rfl ?_
    refine pv_aload_n dX12_most_70 rfl ?_
    refine pv_getRk 12 6 dX12_most_71 fl_X12_23 rfl (lt_200 hL1) (lr_200_6 hL1) ?_
    refine pv_iload dX12_most_74 rfl ?_
    refine pv_dup2 rfl rfl dX12_most_76 ?_
    obtain ⟨q2, F⟩ := F
    refine pv_iald dX12_most_77 (lt_306 hL1) q2 ?_
    refine pv_iconst (v := 1) (by decide) dX12_most_78 ?_
    refine pv_iadd dX12_most_79 ?_
    obtain ⟨q3, F⟩ := F
    obtain ⟨h2, eh2⟩ : ∃ h2 : pv_H, h2 = pv_up h1 306 (Int32.toNatClampNeg w1) ((h1 306 (Int32.toNatClampNeg w1)) + 1) := ⟨_, rfl⟩
    have F := F h2 eh2
    refine pv_iast dX12_most_80 (lt_306 hL1) (by decide) q3 ?_
    refine pv_hE eh2 ?_
    refine pv_aload_n dX12_most_81 rfl ?_
    refine pv_getRk 12 6 dX12_most_82 fl_X12_23 rfl (lt_200 hL1) (lr_200_6 hL1) ?_
    refine pv_iload dX12_most_85 rfl ?_
    obtain ⟨q4, F⟩ := F
    refine pv_iald dX12_most_87 (lt_306 hL1) q4 ?_
    refine pv_iload_n dX12_most_88 rfl ?_
    refine pv_icmp_le (tgt := 102) dX12_most_89 (by decide) (fun c2 => ?_) (fun c2 => ?_)
    · have F := F.1 c2
      refine pv_iload_n dX12_most_102 rfl ?_
      refine pv_istore_n (ls' := [some (.ref 200), some (.int x1), some (.int x2), some (.int x3), some (.int x4), some (.int w1)]) dX12_most_103 (by decide) rfl rfl ?_
      refine pv_iinc (v := x4 + 1) (ls' := [some (.ref 200), some (.int x1), some (.int x2), some (.int x3), some (.int (x4 + 1)), some (.int w1)]) dX12_most_104 rfl (by rfl) rfl rfl ?_
      refine pv_goto (tgt := 49) dX12_most_107 (by decide) ?_
      refine pv_forgetL (ls' := [some (.ref 200), some (.int x1), some (.int x2), some (.int x3), some (.int (x4 + 1)), none]) (pv_subL_ok ⟨rfl, ⟨rfl, ⟨rfl, ⟨rfl, ⟨rfl, trivial⟩⟩⟩⟩⟩) ?_
      exact F
    · have F := F.2 c2
      refine pv_aload_n dX12_most_92 rfl ?_
      refine pv_getRk 12 6 dX12_most_93 fl_X12_23 rfl (lt_200 hL1) (lr_200_6 hL1) ?_
      refine pv_iload dX12_most_96 rfl ?_
      obtain ⟨q5, F⟩ := F
      refine pv_iald dX12_most_98 (lt_306 hL1) q5 ?_
      refine pv_goto (tgt := 103) dX12_most_99 (by decide) ?_
      refine pv_istore_n (ls' := [some (.ref 200), some (.int x1), some (.int (h2 306 (Int32.toNatClampNeg w1))), some (.int x3), some (.int x4), some (.int w1)]) dX12_most_103 (by decide) rfl rfl ?_
      refine pv_iinc (v := x4 + 1) (ls' := [some (.ref 200), some (.int x1), some (.int (h2 306 (Int32.toNatClampNeg w1))), some (.int x3), some (.int (x4 + 1)), some (.int w1)]) dX12_most_104 rfl (by rfl) rfl rfl ?_
      refine pv_goto (tgt := 49) dX12_most_107 (by decide) ?_
      refine pv_forgetL (ls' := [some (.ref 200), some (.int x1), some (.int (h2 306 (Int32.toNatClampNeg w1))), some (.int x3), some (.int (x4 + 1)), none]) (pv_subL_ok ⟨rfl, ⟨rfl, ⟨rfl, ⟨rfl, ⟨rfl, trivial⟩⟩⟩⟩⟩) ?_
      exact F
section MT
variable {Γ : pv_C} {d kc ks : Nat} {ty : pv_T} {h : pv_H} {r : pv_R} {g : pv_G} {Q : pv_Q} {s R C : Nat}
theorem mm_12 (hL : pv_Lay ty r) {x : Int32} (hE : pv_E Γ d kc ks mX12_most 36 [some (.ref 200), some (.int x), some (.int 0), some (.int 0), none, none] [] ty (pv_row h 306 (fun j => if j < 256 then 0 else h 306 j)) r g Q) : ∀ (m k : Nat), k + m = 256 → pv_E Γ d kc ks mX12_most 12 [some (.ref 200), some (.int x), some (.int (nI k)), none, none, none] [] ty (pv_row h 306 (fun j => if j < k then 0 else h 306 j)) r g Q := by
  intro m
  have e256 : (256 : Int32) = nI 256 := rfl
  induction m with
  | zero =>
    intro k hk
    refine sg_X12_most_12 _ _ hL ?_
    rw [e256, nI_leI (by omega) (by omega)]
    refine ⟨fun _ => ?_, fun c1 => absurd (by omega) c1⟩
    rw [show k = 256 by omega]
    exact hE
  | succ m ih =>
    intro k hk
    refine sg_X12_most_12 _ _ hL ?_
    rw [e256, nI_leI (by omega) (by omega)]
    refine ⟨fun c1 => absurd c1 (by omega), fun _ => ⟨vp_in_nI (by omega) (by omega), fun h1 e1 => ?_⟩⟩
    rw [nI_1, e1, pv_row_up, nI_clamp (by omega)]
    have e2 : (fun k_1 => if k_1 = k then (0 : Int32) else if k_1 < k then 0 else h 306 k_1) = fun j => if j < k + 1 then 0 else h 306 j := by
      funext j
      by_cases q : j = k
      · rw [if_pos q, if_pos (by omega)]
      · rw [if_neg q]
        by_cases q2 : j < k
        · rw [if_pos q2, if_pos (by omega)]
        · rw [if_neg q2, if_neg (by omega)]
    rw [e2]
    exact ih (k + 1) (by omega)
theorem mm_49 (hd : 4 ≤ d) (hL : pv_Lay ty r) (hS : mStr h s R C) {a : Nat} (ha : a < R) (hE : pv_E Γ d kc ks mX12_most 36 [some (.ref 200), some (.int (nI s)), some (.int (nI (st_mx C (mEnd h s R C) ((a + 1) * C)))), some (.int (nI (a + 1))), none, none] [] ty (pv_row h 306 (mm_row h C (mEnd h s R C) ((a + 1) * C))) r g Q) : ∀ (m c : Nat), c + m = C → pv_E Γ d kc ks mX12_most 49 [some (.ref 200), some (.int (nI s)), some (.int (nI (st_mx C (mEnd h s R C) (a * C + c)))), some (.int (nI a)), some (.int (nI c)), none] [] ty (pv_row h 306 (mm_row h C (mEnd h s R C) (a * C + c))) r g Q := by
  intro m
  have hCb := hS.2.2.2.2.1
  have hRb := hS.2.2.2.1
  have hs8 := hS.1
  induction m with
  | zero =>
    intro c hc
    refine sg_X12_most_49 _ _ _ _ (by omega) hL ⟨vp_in_nI hs8 (by decide), ?_⟩
    rw [nI_clamp (by omega), pv_row_ne (by decide), hS.2.2.1, nI_leI (by omega) (by omega), nI_1]
    refine ⟨fun _ => ?_, fun c1 => absurd (by omega) c1⟩
    rw [show a * C + c = (a + 1) * C by rw [Nat.succ_mul]; omega]
    exact hE
  | succ m ih =>
    intro c hc
    refine sg_X12_most_49 _ _ _ _ (by omega) hL ⟨vp_in_nI hs8 (by decide), ?_⟩
    rw [nI_clamp (by omega), pv_row_ne (by decide), hS.2.2.1, nI_leI (by omega) (by omega)]
    refine ⟨fun c1 => absurd c1 (by omega), fun _ => ?_⟩
    have hcC : c < C := by omega
    have hp : wt_on R C (a, c) := ⟨ha, hcC⟩
    have hq : wt_on R C (mEnd h s R C (a, c)) := wt_end_on hp
    have hk : cdn (mEnd h s R C (a, c)) < 256 := by
      have h1 := hq.1
      have h2 := hq.2
      show 16 * (mEnd h s R C (a, c)).1 + (mEnd h s R C (a, c)).2 < 256
      omega
    have hn : a * C + c < 144 := by
      have : a * C ≤ 15 * 9 := Nat.mul_le_mul (by omega) hCb.2
      omega
    refine pv_CT.use (ct_X12_comesTo (by omega) hL (mStr_row hS) hp) ⟨_, rfl, hL, ?_⟩
    have hv : vp_in (cd (mEnd h s R C (a, c))) 256 := vp_in_nI hk (by decide)
    refine ⟨hv, hv, fun h2 e2 => ⟨hv, ?_⟩⟩
    have e3 : h2 = pv_row h 306 (mm_row h C (mEnd h s R C) (a * C + c + 1)) := by
      rw [e2]
      have e0 : (cd (wt_end R C (mH (pv_row h 306 (mm_row h C (mEnd h s R C) (a * C + c))) s) (mD (pv_row h 306 (mm_row h C (mEnd h s R C) (a * C + c))) s) (a, c))).toNatClampNeg = cdn (mEnd h s R C (a, c)) := nI_clamp (n := cdn (mEnd h s R C (a, c))) (Nat.lt_trans hk (by decide))
      rw [e0, pv_row_at, pv_row_up, mm_step hcC hk]
    have e4 : mm_row h C (mEnd h s R C) (a * C + c + 1) (cdn (mEnd h s R C (a, c))) = nI (st_oc C (mEnd h s R C) (a * C + c + 1) (mEnd h s R C (a, c))) := by
      unfold mm_row st_oc
      rw [if_pos hk]
      congr 1
      refine st_congr (fun k hk' => ?_)
      have hkC : k % C < C := Nat.mod_lt _ (by omega)
      have hkR : k / C < R := by
        rw [Nat.div_lt_iff_lt_mul (by omega)]
        have : (a + 1) * C ≤ R * C := Nat.mul_le_mul_right _ ha
        rw [Nat.succ_mul] at this
        omega
      have hk2 := wt_end_on (H := mH h s) (D := mD h s) (show wt_on R C (k / C, k % C) from ⟨hkR, hkC⟩)
      have hiff : (cdn (mEnd h s R C (k / C, k % C)) = cdn (mEnd h s R C (a, c))) ↔ mEnd h s R C (k / C, k % C) = mEnd h s R C (a, c) := by
        constructor
        · intro q
          exact cd_inj hRb.2 hCb.2 hk2 hq (congrArg nI q)
        · intro q; rw [q]
      rw [decide_eq_decide]
      exact hiff
    have e5 : h2 306 (cd (mEnd h s R C (a, c))).toNatClampNeg = nI (st_oc C (mEnd h s R C) (a * C + c + 1) (mEnd h s R C (a, c))) := by
      rw [e3, pv_row_at, nI_clamp (n := cdn (mEnd h s R C (a, c))) (Nat.lt_trans hk (by decide))]
      exact e4
    have hi := ih (c + 1) (by omega)
    rw [show a * C + (c + 1) = a * C + c + 1 from rfl, st_mx_s hcC] at hi
    have b1 := st_mx_le C (mEnd h s R C) (a * C + c)
    have b2 : st_oc C (mEnd h s R C) (a * C + c + 1) (mEnd h s R C (a, c)) ≤ a * C + c + 1 := st_cnt_le _ _ _
    have e6 : h2 306 (Int32.toNatClampNeg (cd (wt_end R C (mH (pv_row h 306 (mm_row h C (mEnd h s R C) (a * C + c))) s) (mD (pv_row h 306 (mm_row h C (mEnd h s R C) (a * C + c))) s) (a, c)))) = nI (st_oc C (mEnd h s R C) (a * C + c + 1) (mEnd h s R C (a, c))) := e5
    rw [nI_1 c, e6, nI_leI (by omega) (by omega), e3]
    refine ⟨fun c1 => ?_, fun c1 => ⟨hv, ?_⟩⟩
    · rw [Nat.max_eq_left c1] at hi; exact hi
    · rw [Nat.max_eq_right (by omega)] at hi; exact hi
theorem mm_36 (hd : 4 ≤ d) (hL : pv_Lay ty r) (hS : mStr h s R C) (hQ : Q (some (.int (nI (st_mx C (mEnd h s R C) (R * C))))) ty (pv_row h 306 (mm_row h C (mEnd h s R C) (R * C))) r g) : ∀ (m a : Nat), a + m = R → pv_E Γ d kc ks mX12_most 36 [some (.ref 200), some (.int (nI s)), some (.int (nI (st_mx C (mEnd h s R C) (a * C)))), some (.int (nI a)), none, none] [] ty (pv_row h 306 (mm_row h C (mEnd h s R C) (a * C))) r g Q := by
  intro m
  have hRb := hS.2.2.2.1
  have hs8 := hS.1
  induction m with
  | zero =>
    intro a ha
    refine sg_X12_most_36 _ _ _ hL ⟨vp_in_nI hs8 (by decide), ?_⟩
    rw [nI_clamp (by omega), pv_row_ne (by decide), hS.2.1, nI_leI (by omega) (by omega)]
    refine ⟨fun _ => ?_, fun c1 => absurd (by omega) c1⟩
    rw [show a = R by omega]
    exact hQ
  | succ m ih =>
    intro a ha
    refine sg_X12_most_36 _ _ _ hL ⟨vp_in_nI hs8 (by decide), ?_⟩
    rw [nI_clamp (by omega), pv_row_ne (by decide), hS.2.1, nI_leI (by omega) (by omega)]
    refine ⟨fun c1 => absurd c1 (by omega), fun _ => ?_⟩
    exact mm_49 hd hL hS (by omega) (ih (a + 1) (by omega)) C 0 (by omega)
def fn_most (h : pv_H) (x : Int32) : Int32 := if 0 ≤ x ∧ x ≤ h 200 1 - 1 then nI (st_mx (mC h x.toNatClampNeg) (mEnd h x.toNatClampNeg (mR h x.toNatClampNeg) (mC h x.toNatClampNeg)) (mR h x.toNatClampNeg * mC h x.toNatClampNeg)) else -1
theorem ct_X12_most {ns : Nat} (hd : 4 ≤ d) (hL : pv_Lay ty r) (hM : mStreets h ns) {x : Int32} : pv_CJ Γ d mX12_most [.ref 200, .int x] ty h r g (fun w h' => w = fn_most h x ∧ ∃ f, h' = pv_row h 306 f) := by
  refine pv_fn 4 pn_X12 rfl (Nat.le_of_ble_eq_true rfl) (sg_X12_most_0 _ (by omega) hL ?_)
  rw [pf_b_0, Classical.not_not]
  unfold fn_most
  refine ⟨fun c1 => ?_, fun c1 => ?_⟩
  · rw [if_pos c1]
    rw [hM.2.1, ni_valid (by have := hM.1; omega)] at c1
    obtain ⟨s, h1, rfl⟩ := c1
    have h8 := hM.1
    rw [nI_clamp (by omega)]
    have hS := hM.2.2 s h1
    have k1 := mm_36 (Γ := Γ) (kc := 0) (ks := 0) (g := g) (Q := pv_jq ty r g (fun w h' => w = nI (st_mx (mC h s) (mEnd h s (mR h s) (mC h s)) (mR h s * mC h s)) ∧ ∃ f, h' = pv_row h 306 f)) hd hL hS (pv_jqi ⟨rfl, _, rfl⟩) (mR h s) 0 (by omega)
    rw [Nat.zero_mul] at k1
    have e0 : mm_row h (mC h s) (mEnd h s (mR h s) (mC h s)) 0 = fun j => if j < 256 then 0 else h 306 j := rfl
    rw [e0] at k1
    have k2 := mm_12 hL k1 256 0 (by omega)
    have e1 : pv_row h 306 (fun j => if j < 0 then 0 else h 306 j) = h := by
      rw [show (fun j => if j < 0 then (0 : Int32) else h 306 j) = h 306 from by funext j; rw [if_neg (by omega)]]
      exact pv_row_self h 306
    rw [e1] at k2
    exact k2
  · rw [if_neg c1]; exact pv_jqi ⟨rfl, h 306, (pv_row_self h 306).symm⟩
end MT
