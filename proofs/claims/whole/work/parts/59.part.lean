/-! what an act gives: both sides -/
set_option maxRecDepth 20000 in
set_option maxHeartbeats 4000000 in
theorem sg_X3_isCorner_0 {Γ : pv_C} {d kc ks : Nat} {ty : pv_T} {h : pv_H} {r : pv_R} {g : pv_G} {Q : pv_Q} (a : Nat) (F : ty a = some (3, 0) ∧ (((h a 2) = (-1) → Q (some (.int 0)) ty h r g) ∧ (¬ (h a 2) = (-1) → Q (some (.int 1)) ty h r g))) : pv_E Γ d kc ks mX3_isCorner 0 [some (.ref a)] [] ty h r g Q := by
  refine pv_aload_n dX3_isCorner_0 rfl ?_
  obtain ⟨q1, F⟩ := F
  refine pv_getI 3 2 dX3_isCorner_1 fl_X3_18 rfl q1 ?_
  refine pv_iconst (v := (-1)) (by decide) dX3_isCorner_4 ?_
  refine pv_icmp_eq (tgt := 12) dX3_isCorner_5 (by decide) (fun c1 => ?_) (fun c1 => ?_)
  · have F := F.1 c1
    refine pv_iconst (v := 0) (by decide) dX3_isCorner_12 ?_
    exact pv_ireturn dX3_isCorner_13 rfl (by decide) F
  · have F := F.2 c1
    refine pv_iconst (v := 1) (by decide) dX3_isCorner_8 ?_
    refine pv_goto (tgt := 13) dX3_isCorner_9 (by decide) ?_
    exact pv_ireturn dX3_isCorner_13 rfl (by decide) F
set_option maxRecDepth 20000 in
set_option maxHeartbeats 4000000 in
theorem sg_X3_hasPartIn_0 {Γ : pv_C} {d kc ks : Nat} {ty : pv_T} {h : pv_H} {r : pv_R} {g : pv_G} {Q : pv_Q} (a : Nat) (x : Int32) (F : ty a = some (3, 0) ∧ (((h a 0) = x → Q (some (.int 1)) ty h r g) ∧ (¬ (h a 0) = x → ty a = some (3, 0) ∧ ((¬ (h a 2) = x → Q (some (.int 0)) ty h r g) ∧ ((h a 2) = x → Q (some (.int 1)) ty h r g))))) : pv_E Γ d kc ks mX3_hasPartIn 0 [some (.ref a), some (.int x)] [] ty h r g Q := by
  refine pv_aload_n dX3_hasPartIn_0 rfl ?_
  obtain ⟨q1, F⟩ := F
  refine pv_getI 3 0 dX3_hasPartIn_1 fl_X3_9 rfl q1 ?_
  refine pv_iload_n dX3_hasPartIn_4 rfl ?_
  refine pv_icmp_eq (tgt := 16) dX3_hasPartIn_5 (by decide) (fun c1 => ?_) (fun c1 => ?_)
  · have F := F.1 c1
    refine pv_iconst (v := 1) (by decide) dX3_hasPartIn_16 ?_
    refine pv_goto (tgt := 21) dX3_hasPartIn_17 (by decide) ?_
    exact pv_ireturn dX3_hasPartIn_21 rfl (by decide) F
  · have F := F.2 c1
    refine pv_aload_n dX3_hasPartIn_8 rfl ?_
    obtain ⟨q2, F⟩ := F
    refine pv_getI 3 2 dX3_hasPartIn_9 fl_X3_18 rfl q2 ?_
    refine pv_iload_n dX3_hasPartIn_12 rfl ?_
    refine pv_icmp_ne (tgt := 20) dX3_hasPartIn_13 (by decide) (fun c2 => ?_) (fun c2 => ?_)
    · have F := F.1 c2
      refine pv_iconst (v := 0) (by decide) dX3_hasPartIn_20 ?_
      exact pv_ireturn dX3_hasPartIn_21 rfl (by decide) F
    · have F := F.2 c2
      refine pv_iconst (v := 1) (by decide) dX3_hasPartIn_16 ?_
      refine pv_goto (tgt := 21) dX3_hasPartIn_17 (by decide) ?_
      exact pv_ireturn dX3_hasPartIn_21 rfl (by decide) F
set_option maxRecDepth 20000 in
set_option maxHeartbeats 4000000 in
theorem sg_X1_keepWithin_0 {Γ : pv_C} {d kc ks : Nat} {ty : pv_T} {h : pv_H} {r : pv_R} {g : pv_G} {Q : pv_Q} (x : Int32) (hd : 1 ≤ d) (F : Q (some (.int (if 0 < (if x < 1000000 then x else 1000000) then (if x < 1000000 then x else 1000000) else 0))) ty h r g) : pv_E Γ d kc ks mX1_keepWithin 0 [some (.int x)] [] ty h r g Q := by
  refine pv_iconst (v := 0) (by decide) dX1_keepWithin_0 ?_
  refine pv_ldc (v := 1000000) dX1_keepWithin_1 kc_X1_123 ?_
  refine pv_iload_n dX1_keepWithin_3 rfl ?_
  refine pv_mmin dX1_keepWithin_4 ml_X1_124 (by omega) (Nat.le_of_ble_eq_true rfl) ?_
  refine pv_mmax dX1_keepWithin_7 ml_X1_111 (by omega) (Nat.le_of_ble_eq_true rfl) ?_
  exact pv_ireturn dX1_keepWithin_10 rfl rfl F
set_option maxRecDepth 20000 in
set_option maxHeartbeats 4000000 in
theorem sg_X12_clamp_0 {Γ : pv_C} {d kc ks : Nat} {ty : pv_T} {h : pv_H} {r : pv_R} {g : pv_G} {Q : pv_Q} (x : Int32) (F : ((0 ≤ x → ((x ≤ 1000000 → Q (some (.int x)) ty h r g) ∧ (¬ x ≤ 1000000 → Q (some (.int 1000000)) ty h r g))) ∧ (¬ 0 ≤ x → Q (some (.int 0)) ty h r g))) : pv_E Γ d kc ks mX12_clamp 0 [some (.int x)] [] ty h r g Q := by
  refine pv_iload_n dX12_clamp_0 rfl ?_
  refine pv_if_ge (tgt := 8) dX12_clamp_1 (by decide) (fun c1 => ?_) (fun c1 => ?_)
  · have F := F.1 c1
    refine pv_iload_n dX12_clamp_8 rfl ?_
    refine pv_ldc (v := 1000000) dX12_clamp_9 kc_X12_189 ?_
    refine pv_icmp_le (tgt := 19) dX12_clamp_11 (by decide) (fun c2 => ?_) (fun c2 => ?_)
    · have F := F.1 c2
      refine pv_iload_n dX12_clamp_19 rfl ?_
      exact pv_ireturn dX12_clamp_20 rfl rfl F
    · have F := F.2 c2
      refine pv_ldc (v := 1000000) dX12_clamp_14 kc_X12_189 ?_
      refine pv_goto (tgt := 20) dX12_clamp_16 (by decide) ?_
      exact pv_ireturn dX12_clamp_20 rfl rfl F
  · have F := F.2 c1
    refine pv_iconst (v := 0) (by decide) dX12_clamp_4 ?_
    refine pv_goto (tgt := 20) dX12_clamp_5 (by decide) ?_
    exact pv_ireturn dX12_clamp_20 rfl rfl F
set_option maxRecDepth 20000 in
set_option maxHeartbeats 4000000 in
theorem sg_X6_daysOpenOn_0 {Γ : pv_C} {d kc ks : Nat} {ty : pv_T} {h : pv_H} {r : pv_R} {g : pv_G} {Q : pv_Q} (a : Nat) (x : Int32) (hd : 1 ≤ d) (F : ty a = some (6, 0) ∧ (ty a = some (6, 0)) ∧ (((pf_b (h a 5 = -1)) = 0 → ty a = some (6, 0) ∧ ty a = some (6, 0) ∧ Q (some (.int ((if (h a 5) < x then (h a 5) else x) - (h a 3)))) ty h r g) ∧ (¬ (pf_b (h a 5 = -1)) = 0 → ty a = some (6, 0) ∧ Q (some (.int (x - (h a 3)))) ty h r g))) : pv_E Γ d kc ks mX6_daysOpenOn 0 [some (.ref a), some (.int x), none] [] ty h r g Q := by
  refine pv_aload_n dX6_daysOpenOn_0 rfl ?_
  obtain ⟨q1, F⟩ := F
  obtain ⟨q2, F⟩ := F
  refine pv_invV (As := []) (d' := d - 1) dX6_daysOpenOn_1 moX6_isOpen ml_X6_30 q1 (Or.inl ⟨_, rfl, rfl⟩) (Nat.le_of_ble_eq_true rfl) (by omega) (Nat.zero_le _) (Nat.zero_le _) (ct_X6_isOpen (by omega) q2) (fun v ty' h' r' g' hq => ?_) rfl
  obtain ⟨e1, e2, e3, e4, e5⟩ := hq
  rw [e1, e2, e3, e4, e5]
  refine pv_pc (pc' := 4) rfl ?_
  show pv_E Γ d kc ks mX6_daysOpenOn 4 [some (.ref a), some (.int x), none] [.int (pf_b (h a 5 = -1))] ty h r g Q
  refine pv_if_eq (tgt := 11) dX6_daysOpenOn_4 (by decide) (fun c1 => ?_) (fun c1 => ?_)
  · have F := F.1 c1
    refine pv_iload_n dX6_daysOpenOn_11 rfl ?_
    refine pv_aload_n dX6_daysOpenOn_12 rfl ?_
    obtain ⟨q3, F⟩ := F
    refine pv_getI 6 5 dX6_daysOpenOn_13 fl_X6_27 rfl q3 ?_
    refine pv_mmin dX6_daysOpenOn_16 ml_X6_34 (by omega) (Nat.le_of_ble_eq_true rfl) ?_
    refine pv_istore_n (ls' := [some (.ref a), some (.int x), some (.int (if (h a 5) < x then (h a 5) else x))]) dX6_daysOpenOn_19 (by decide) rfl rfl ?_
    refine pv_iload_n dX6_daysOpenOn_20 rfl ?_
    refine pv_aload_n dX6_daysOpenOn_21 rfl ?_
    obtain ⟨q4, F⟩ := F
    refine pv_getI 6 3 dX6_daysOpenOn_22 fl_X6_21 rfl q4 ?_
    refine pv_isub dX6_daysOpenOn_25 ?_
    exact pv_ireturn dX6_daysOpenOn_26 rfl rfl F
  · have F := F.2 c1
    refine pv_iload_n dX6_daysOpenOn_7 rfl ?_
    refine pv_goto (tgt := 19) dX6_daysOpenOn_8 (by decide) ?_
    refine pv_istore_n (ls' := [some (.ref a), some (.int x), some (.int x)]) dX6_daysOpenOn_19 (by decide) rfl rfl ?_
    refine pv_iload_n dX6_daysOpenOn_20 rfl ?_
    refine pv_aload_n dX6_daysOpenOn_21 rfl ?_
    obtain ⟨q5, F⟩ := F
    refine pv_getI 6 3 dX6_daysOpenOn_22 fl_X6_21 rfl q5 ?_
    refine pv_isub dX6_daysOpenOn_25 ?_
    exact pv_ireturn dX6_daysOpenOn_26 rfl rfl F
set_option maxRecDepth 20000 in
set_option maxHeartbeats 4000000 in
theorem sg_X1_givePart_0 {Γ : pv_C} {d kc ks : Nat} {ty : pv_T} {h : pv_H} {r : pv_R} {g : pv_G} {Q : pv_Q} (x : Nat) (y : Nat) (z : Int32) (u : Int32) (hd : 2 ≤ d) (hL : pv_Lay ty r) (F : ((¬ x = 0 → ((z = 0 → ty y = some (3, 0) ∧ vp_in 0 6 ∧ (∀ h1 : pv_H, h1 = pv_up h 81 (Int32.toNatClampNeg 0) (h y 1) → ((z = 0 → ty y = some (3, 0) ∧ vp_in 1 6 ∧ (∀ h2 : pv_H, h2 = pv_up h1 81 (Int32.toNatClampNeg 1) (h1 y 3) → ty y = some (3, 0) ∧ vp_in 2 6 ∧ (∀ h3 : pv_H, h3 = pv_up h2 81 (Int32.toNatClampNeg 2) (h2 y 4) → ((z = 0 → ty y = some (3, 0) ∧ vp_in 3 6 ∧ (∀ h4 : pv_H, h4 = pv_up h3 81 (Int32.toNatClampNeg 3) (h3 y 0) → ty y = some (3, 0) ∧ (ty y = some (3, 0)) ∧ (((pf_b (¬ h4 y 2 = -1)) = 0 → vp_in 4 6 ∧ (∀ h5 : pv_H, h5 = pv_up h4 81 (Int32.toNatClampNeg 4) 0 → vp_in 5 6 ∧ (∀ h6 : pv_H, h6 = pv_up h5 81 (Int32.toNatClampNeg 5) (u / 365) → ty x = some (0, 0) ∧ ty x = some (0, 0) ∧ (∃ k1 n1 : Nat, ty (r x 3) = some (k1, n1) ∧ (20 ≤ k1 ∧ k1 ≤ 27) ∧ pv_CT Γ (d - 1) 0 0 mX9_readText [.ref 80, .ref (r x 3), .int (nI n1), .int 0] ty h6 r g (fun (v1 : Option Value) (ty1 : pv_T) (h7 : pv_H) (r1 : pv_R) (g1 : pv_G) => ∃ w1 : Int32, v1 = some (.int w1) ∧ pv_Lay ty1 r1 ∧ Q (some (.int (pt_cl w1))) ty1 h7 r1 g1))))) ∧ (¬ (pf_b (¬ h4 y 2 = -1)) = 0 → vp_in 4 6 ∧ (∀ h8 : pv_H, h8 = pv_up h4 81 (Int32.toNatClampNeg 4) 1 → vp_in 5 6 ∧ (∀ h9 : pv_H, h9 = pv_up h8 81 (Int32.toNatClampNeg 5) (u / 365) → ty x = some (0, 0) ∧ ty x = some (0, 0) ∧ (∃ k2 n2 : Nat, ty (r x 3) = some (k2, n2) ∧ (20 ≤ k2 ∧ k2 ≤ 27) ∧ pv_CT Γ (d - 1) 0 0 mX9_readText [.ref 80, .ref (r x 3), .int (nI n2), .int 0] ty h9 r g (fun (v2 : Option Value) (ty2 : pv_T) (h10 : pv_H) (r2 : pv_R) (g2 : pv_G) => ∃ w2 : Int32, v2 = some (.int w2) ∧ pv_Lay ty2 r2 ∧ Q (some (.int (pt_cl w2))) ty2 h10 r2 g2)))))))) ∧ (¬ z = 0 → ty y = some (3, 0) ∧ vp_in 3 6 ∧ (∀ h11 : pv_H, h11 = pv_up h3 81 (Int32.toNatClampNeg 3) (h3 y 2) → ty y = some (3, 0) ∧ (ty y = some (3, 0)) ∧ (((pf_b (¬ h11 y 2 = -1)) = 0 → vp_in 4 6 ∧ (∀ h12 : pv_H, h12 = pv_up h11 81 (Int32.toNatClampNeg 4) 0 → vp_in 5 6 ∧ (∀ h13 : pv_H, h13 = pv_up h12 81 (Int32.toNatClampNeg 5) (u / 365) → ty x = some (0, 0) ∧ ty x = some (0, 0) ∧ (∃ k3 n3 : Nat, ty (r x 3) = some (k3, n3) ∧ (20 ≤ k3 ∧ k3 ≤ 27) ∧ pv_CT Γ (d - 1) 0 0 mX9_readText [.ref 80, .ref (r x 3), .int (nI n3), .int 0] ty h13 r g (fun (v3 : Option Value) (ty3 : pv_T) (h14 : pv_H) (r3 : pv_R) (g3 : pv_G) => ∃ w3 : Int32, v3 = some (.int w3) ∧ pv_Lay ty3 r3 ∧ Q (some (.int (pt_cl w3))) ty3 h14 r3 g3))))) ∧ (¬ (pf_b (¬ h11 y 2 = -1)) = 0 → vp_in 4 6 ∧ (∀ h15 : pv_H, h15 = pv_up h11 81 (Int32.toNatClampNeg 4) 1 → vp_in 5 6 ∧ (∀ h16 : pv_H, h16 = pv_up h15 81 (Int32.toNatClampNeg 5) (u / 365) → ty x = some (0, 0) ∧ ty x = some (0, 0) ∧ (∃ k4 n4 : Nat, ty (r x 3) = some (k4, n4) ∧ (20 ≤ k4 ∧ k4 ≤ 27) ∧ pv_CT Γ (d - 1) 0 0 mX9_readText [.ref 80, .ref (r x 3), .int (nI n4), .int 0] ty h16 r g (fun (v4 : Option Value) (ty4 : pv_T) (h17 : pv_H) (r4 : pv_R) (g4 : pv_G) => ∃ w4 : Int32, v4 = some (.int w4) ∧ pv_Lay ty4 r4 ∧ Q (some (.int (pt_cl w4))) ty4 h17 r4 g4)))))))))))) ∧ (¬ z = 0 → ty y = some (3, 0) ∧ vp_in 1 6 ∧ (∀ h18 : pv_H, h18 = pv_up h1 81 (Int32.toNatClampNeg 1) (h1 y 1) → ty y = some (3, 0) ∧ vp_in 2 6 ∧ (∀ h19 : pv_H, h19 = pv_up h18 81 (Int32.toNatClampNeg 2) (h18 y 4) → ((z = 0 → ty y = some (3, 0) ∧ vp_in 3 6 ∧ (∀ h20 : pv_H, h20 = pv_up h19 81 (Int32.toNatClampNeg 3) (h19 y 0) → ty y = some (3, 0) ∧ (ty y = some (3, 0)) ∧ (((pf_b (¬ h20 y 2 = -1)) = 0 → vp_in 4 6 ∧ (∀ h21 : pv_H, h21 = pv_up h20 81 (Int32.toNatClampNeg 4) 0 → vp_in 5 6 ∧ (∀ h22 : pv_H, h22 = pv_up h21 81 (Int32.toNatClampNeg 5) (u / 365) → ty x = some (0, 0) ∧ ty x = some (0, 0) ∧ (∃ k5 n5 : Nat, ty (r x 3) = some (k5, n5) ∧ (20 ≤ k5 ∧ k5 ≤ 27) ∧ pv_CT Γ (d - 1) 0 0 mX9_readText [.ref 80, .ref (r x 3), .int (nI n5), .int 0] ty h22 r g (fun (v5 : Option Value) (ty5 : pv_T) (h23 : pv_H) (r5 : pv_R) (g5 : pv_G) => ∃ w5 : Int32, v5 = some (.int w5) ∧ pv_Lay ty5 r5 ∧ Q (some (.int (pt_cl w5))) ty5 h23 r5 g5))))) ∧ (¬ (pf_b (¬ h20 y 2 = -1)) = 0 → vp_in 4 6 ∧ (∀ h24 : pv_H, h24 = pv_up h20 81 (Int32.toNatClampNeg 4) 1 → vp_in 5 6 ∧ (∀ h25 : pv_H, h25 = pv_up h24 81 (Int32.toNatClampNeg 5) (u / 365) → ty x = some (0, 0) ∧ ty x = some (0, 0) ∧ (∃ k6 n6 : Nat, ty (r x 3) = some (k6, n6) ∧ (20 ≤ k6 ∧ k6 ≤ 27) ∧ pv_CT Γ (d - 1) 0 0 mX9_readText [.ref 80, .ref (r x 3), .int (nI n6), .int 0] ty h25 r g (fun (v6 : Option Value) (ty6 : pv_T) (h26 : pv_H) (r6 : pv_R) (g6 : pv_G) => ∃ w6 : Int32, v6 = some (.int w6) ∧ pv_Lay ty6 r6 ∧ Q (some (.int (pt_cl w6))) ty6 h26 r6 g6)))))))) ∧ (¬ z = 0 → ty y = some (3, 0) ∧ vp_in 3 6 ∧ (∀ h27 : pv_H, h27 = pv_up h19 81 (Int32.toNatClampNeg 3) (h19 y 2) → ty y = some (3, 0) ∧ (ty y = some (3, 0)) ∧ (((pf_b (¬ h27 y 2 = -1)) = 0 → vp_in 4 6 ∧ (∀ h28 : pv_H, h28 = pv_up h27 81 (Int32.toNatClampNeg 4) 0 → vp_in 5 6 ∧ (∀ h29 : pv_H, h29 = pv_up h28 81 (Int32.toNatClampNeg 5) (u / 365) → ty x = some (0, 0) ∧ ty x = some (0, 0) ∧ (∃ k7 n7 : Nat, ty (r x 3) = some (k7, n7) ∧ (20 ≤ k7 ∧ k7 ≤ 27) ∧ pv_CT Γ (d - 1) 0 0 mX9_readText [.ref 80, .ref (r x 3), .int (nI n7), .int 0] ty h29 r g (fun (v7 : Option Value) (ty7 : pv_T) (h30 : pv_H) (r7 : pv_R) (g7 : pv_G) => ∃ w7 : Int32, v7 = some (.int w7) ∧ pv_Lay ty7 r7 ∧ Q (some (.int (pt_cl w7))) ty7 h30 r7 g7))))) ∧ (¬ (pf_b (¬ h27 y 2 = -1)) = 0 → vp_in 4 6 ∧ (∀ h31 : pv_H, h31 = pv_up h27 81 (Int32.toNatClampNeg 4) 1 → vp_in 5 6 ∧ (∀ h32 : pv_H, h32 = pv_up h31 81 (Int32.toNatClampNeg 5) (u / 365) → ty x = some (0, 0) ∧ ty x = some (0, 0) ∧ (∃ k8 n8 : Nat, ty (r x 3) = some (k8, n8) ∧ (20 ≤ k8 ∧ k8 ≤ 27) ∧ pv_CT Γ (d - 1) 0 0 mX9_readText [.ref 80, .ref (r x 3), .int (nI n8), .int 0] ty h32 r g (fun (v8 : Option Value) (ty8 : pv_T) (h33 : pv_H) (r8 : pv_R) (g8 : pv_G) => ∃ w8 : Int32, v8 = some (.int w8) ∧ pv_Lay ty8 r8 ∧ Q (some (.int (pt_cl w8))) ty8 h33 r8 g8))))))))))))))) ∧ (¬ z = 0 → ty y = some (3, 0) ∧ vp_in 0 6 ∧ (∀ h34 : pv_H, h34 = pv_up h 81 (Int32.toNatClampNeg 0) (h y 3) → ((z = 0 → ty y = some (3, 0) ∧ vp_in 1 6 ∧ (∀ h35 : pv_H, h35 = pv_up h34 81 (Int32.toNatClampNeg 1) (h34 y 3) → ty y = some (3, 0) ∧ vp_in 2 6 ∧ (∀ h36 : pv_H, h36 = pv_up h35 81 (Int32.toNatClampNeg 2) (h35 y 4) → ((z = 0 → ty y = some (3, 0) ∧ vp_in 3 6 ∧ (∀ h37 : pv_H, h37 = pv_up h36 81 (Int32.toNatClampNeg 3) (h36 y 0) → ty y = some (3, 0) ∧ (ty y = some (3, 0)) ∧ (((pf_b (¬ h37 y 2 = -1)) = 0 → vp_in 4 6 ∧ (∀ h38 : pv_H, h38 = pv_up h37 81 (Int32.toNatClampNeg 4) 0 → vp_in 5 6 ∧ (∀ h39 : pv_H, h39 = pv_up h38 81 (Int32.toNatClampNeg 5) (u / 365) → ty x = some (0, 0) ∧ ty x = some (0, 0) ∧ (∃ k9 n9 : Nat, ty (r x 3) = some (k9, n9) ∧ (20 ≤ k9 ∧ k9 ≤ 27) ∧ pv_CT Γ (d - 1) 0 0 mX9_readText [.ref 80, .ref (r x 3), .int (nI n9), .int 0] ty h39 r g (fun (v9 : Option Value) (ty9 : pv_T) (h40 : pv_H) (r9 : pv_R) (g9 : pv_G) => ∃ w9 : Int32, v9 = some (.int w9) ∧ pv_Lay ty9 r9 ∧ Q (some (.int (pt_cl w9))) ty9 h40 r9 g9))))) ∧ (¬ (pf_b (¬ h37 y 2 = -1)) = 0 → vp_in 4 6 ∧ (∀ h41 : pv_H, h41 = pv_up h37 81 (Int32.toNatClampNeg 4) 1 → vp_in 5 6 ∧ (∀ h42 : pv_H, h42 = pv_up h41 81 (Int32.toNatClampNeg 5) (u / 365) → ty x = some (0, 0) ∧ ty x = some (0, 0) ∧ (∃ k10 n10 : Nat, ty (r x 3) = some (k10, n10) ∧ (20 ≤ k10 ∧ k10 ≤ 27) ∧ pv_CT Γ (d - 1) 0 0 mX9_readText [.ref 80, .ref (r x 3), .int (nI n10), .int 0] ty h42 r g (fun (v10 : Option Value) (ty10 : pv_T) (h43 : pv_H) (r10 : pv_R) (g10 : pv_G) => ∃ w10 : Int32, v10 = some (.int w10) ∧ pv_Lay ty10 r10 ∧ Q (some (.int (pt_cl w10))) ty10 h43 r10 g10)))))))) ∧ (¬ z = 0 → ty y = some (3, 0) ∧ vp_in 3 6 ∧ (∀ h44 : pv_H, h44 = pv_up h36 81 (Int32.toNatClampNeg 3) (h36 y 2) → ty y = some (3, 0) ∧ (ty y = some (3, 0)) ∧ (((pf_b (¬ h44 y 2 = -1)) = 0 → vp_in 4 6 ∧ (∀ h45 : pv_H, h45 = pv_up h44 81 (Int32.toNatClampNeg 4) 0 → vp_in 5 6 ∧ (∀ h46 : pv_H, h46 = pv_up h45 81 (Int32.toNatClampNeg 5) (u / 365) → ty x = some (0, 0) ∧ ty x = some (0, 0) ∧ (∃ k11 n11 : Nat, ty (r x 3) = some (k11, n11) ∧ (20 ≤ k11 ∧ k11 ≤ 27) ∧ pv_CT Γ (d - 1) 0 0 mX9_readText [.ref 80, .ref (r x 3), .int (nI n11), .int 0] ty h46 r g (fun (v11 : Option Value) (ty11 : pv_T) (h47 : pv_H) (r11 : pv_R) (g11 : pv_G) => ∃ w11 : Int32, v11 = some (.int w11) ∧ pv_Lay ty11 r11 ∧ Q (some (.int (pt_cl w11))) ty11 h47 r11 g11))))) ∧ (¬ (pf_b (¬ h44 y 2 = -1)) = 0 → vp_in 4 6 ∧ (∀ h48 : pv_H, h48 = pv_up h44 81 (Int32.toNatClampNeg 4) 1 → vp_in 5 6 ∧ (∀ h49 : pv_H, h49 = pv_up h48 81 (Int32.toNatClampNeg 5) (u / 365) → ty x = some (0, 0) ∧ ty x = some (0, 0) ∧ (∃ k12 n12 : Nat, ty (r x 3) = some (k12, n12) ∧ (20 ≤ k12 ∧ k12 ≤ 27) ∧ pv_CT Γ (d - 1) 0 0 mX9_readText [.ref 80, .ref (r x 3), .int (nI n12), .int 0] ty h49 r g (fun (v12 : Option Value) (ty12 : pv_T) (h50 : pv_H) (r12 : pv_R) (g12 : pv_G) => ∃ w12 : Int32, v12 = some (.int w12) ∧ pv_Lay ty12 r12 ∧ Q (some (.int (pt_cl w12))) ty12 h50 r12 g12)))))))))))) ∧ (¬ z = 0 → ty y = some (3, 0) ∧ vp_in 1 6 ∧ (∀ h51 : pv_H, h51 = pv_up h34 81 (Int32.toNatClampNeg 1) (h34 y 1) → ty y = some (3, 0) ∧ vp_in 2 6 ∧ (∀ h52 : pv_H, h52 = pv_up h51 81 (Int32.toNatClampNeg 2) (h51 y 4) → ((z = 0 → ty y = some (3, 0) ∧ vp_in 3 6 ∧ (∀ h53 : pv_H, h53 = pv_up h52 81 (Int32.toNatClampNeg 3) (h52 y 0) → ty y = some (3, 0) ∧ (ty y = some (3, 0)) ∧ (((pf_b (¬ h53 y 2 = -1)) = 0 → vp_in 4 6 ∧ (∀ h54 : pv_H, h54 = pv_up h53 81 (Int32.toNatClampNeg 4) 0 → vp_in 5 6 ∧ (∀ h55 : pv_H, h55 = pv_up h54 81 (Int32.toNatClampNeg 5) (u / 365) → ty x = some (0, 0) ∧ ty x = some (0, 0) ∧ (∃ k13 n13 : Nat, ty (r x 3) = some (k13, n13) ∧ (20 ≤ k13 ∧ k13 ≤ 27) ∧ pv_CT Γ (d - 1) 0 0 mX9_readText [.ref 80, .ref (r x 3), .int (nI n13), .int 0] ty h55 r g (fun (v13 : Option Value) (ty13 : pv_T) (h56 : pv_H) (r13 : pv_R) (g13 : pv_G) => ∃ w13 : Int32, v13 = some (.int w13) ∧ pv_Lay ty13 r13 ∧ Q (some (.int (pt_cl w13))) ty13 h56 r13 g13))))) ∧ (¬ (pf_b (¬ h53 y 2 = -1)) = 0 → vp_in 4 6 ∧ (∀ h57 : pv_H, h57 = pv_up h53 81 (Int32.toNatClampNeg 4) 1 → vp_in 5 6 ∧ (∀ h58 : pv_H, h58 = pv_up h57 81 (Int32.toNatClampNeg 5) (u / 365) → ty x = some (0, 0) ∧ ty x = some (0, 0) ∧ (∃ k14 n14 : Nat, ty (r x 3) = some (k14, n14) ∧ (20 ≤ k14 ∧ k14 ≤ 27) ∧ pv_CT Γ (d - 1) 0 0 mX9_readText [.ref 80, .ref (r x 3), .int (nI n14), .int 0] ty h58 r g (fun (v14 : Option Value) (ty14 : pv_T) (h59 : pv_H) (r14 : pv_R) (g14 : pv_G) => ∃ w14 : Int32, v14 = some (.int w14) ∧ pv_Lay ty14 r14 ∧ Q (some (.int (pt_cl w14))) ty14 h59 r14 g14)))))))) ∧ (¬ z = 0 → ty y = some (3, 0) ∧ vp_in 3 6 ∧ (∀ h60 : pv_H, h60 = pv_up h52 81 (Int32.toNatClampNeg 3) (h52 y 2) → ty y = some (3, 0) ∧ (ty y = some (3, 0)) ∧ (((pf_b (¬ h60 y 2 = -1)) = 0 → vp_in 4 6 ∧ (∀ h61 : pv_H, h61 = pv_up h60 81 (Int32.toNatClampNeg 4) 0 → vp_in 5 6 ∧ (∀ h62 : pv_H, h62 = pv_up h61 81 (Int32.toNatClampNeg 5) (u / 365) → ty x = some (0, 0) ∧ ty x = some (0, 0) ∧ (∃ k15 n15 : Nat, ty (r x 3) = some (k15, n15) ∧ (20 ≤ k15 ∧ k15 ≤ 27) ∧ pv_CT Γ (d - 1) 0 0 mX9_readText [.ref 80, .ref (r x 3), .int (nI n15), .int 0] ty h62 r g (fun (v15 : Option Value) (ty15 : pv_T) (h63 : pv_H) (r15 : pv_R) (g15 : pv_G) => ∃ w15 : Int32, v15 = some (.int w15) ∧ pv_Lay ty15 r15 ∧ Q (some (.int (pt_cl w15))) ty15 h63 r15 g15))))) ∧ (¬ (pf_b (¬ h60 y 2 = -1)) = 0 → vp_in 4 6 ∧ (∀ h64 : pv_H, h64 = pv_up h60 81 (Int32.toNatClampNeg 4) 1 → vp_in 5 6 ∧ (∀ h65 : pv_H, h65 = pv_up h64 81 (Int32.toNatClampNeg 5) (u / 365) → ty x = some (0, 0) ∧ ty x = some (0, 0) ∧ (∃ k16 n16 : Nat, ty (r x 3) = some (k16, n16) ∧ (20 ≤ k16 ∧ k16 ≤ 27) ∧ pv_CT Γ (d - 1) 0 0 mX9_readText [.ref 80, .ref (r x 3), .int (nI n16), .int 0] ty h65 r g (fun (v16 : Option Value) (ty16 : pv_T) (h66 : pv_H) (r16 : pv_R) (g16 : pv_G) => ∃ w16 : Int32, v16 = some (.int w16) ∧ pv_Lay ty16 r16 ∧ Q (some (.int (pt_cl w16))) ty16 h66 r16 g16))))))))))))))))) ∧ (x = 0 → Q (some (.int 0)) ty h r g))) : pv_E Γ d kc ks mX1_givePart 0 [some (.ref 70), some (.ref x), some (.ref y), some (.int z), some (.int u), none] [] ty h r g Q := by
  refine pv_aload_n dX1_givePart_0 rfl ?_
  refine pv_ifnonnull (tgt := 6) dX1_givePart_1 (by decide) (fun c1 => ?_) (fun c1 => ?_)
  · have F := F.1 c1
    refine pv_aload_n dX1_givePart_6 rfl ?_
    refine pv_getRk 1 2 dX1_givePart_7 fl_X1_24 rfl (lt_70 hL) (lr_70_2 hL) ?_
    refine pv_getRk 9 0 dX1_givePart_10 fl_X1_64 rfl (lt_80 hL) (lr_80_0 hL) ?_
    refine pv_astore (ls' := [some (.ref 70), some (.ref x), some (.ref y), some (.int z), some (.int u), some (.ref 81)]) dX1_givePart_13 (by decide) rfl rfl ?_
    refine pv_aload dX1_givePart_15 rfl ?_
    refine pv_iconst (v := 0) (by decide) dX1_givePart_17 ?_
    refine pv_pc (pc' := 18) rfl ?_
    refine pv_iload_n dX1_givePart_18 rfl ?_
    refine pv_if_eq (tgt := 29) dX1_givePart_19 (by decide) (fun c2 => ?_) (fun c2 => ?_)
    · have F := F.1 c2
      refine pv_aload_n dX1_givePart_29 rfl ?_
      obtain ⟨q1, F⟩ := F
      refine pv_getI 3 1 dX1_givePart_30 fl_X1_73 rfl q1 ?_
      obtain ⟨q2, F⟩ := F
      obtain ⟨h1, eh1⟩ : ∃ h1 : pv_H, h1 = pv_up h 81 (Int32.toNatClampNeg 0) (h y 1) := ⟨_, rfl⟩
      have F := F h1 eh1
      refine pv_iast dX1_givePart_33 (lt_81 hL) (by decide) q2 ?_
      refine pv_hE eh1 ?_
      refine pv_aload dX1_givePart_34 rfl ?_
      refine pv_iconst (v := 1) (by decide) dX1_givePart_36 ?_
      refine pv_iload_n dX1_givePart_37 rfl ?_
      refine pv_if_eq (tgt := 48) dX1_givePart_38 (by decide) (fun c3 => ?_) (fun c3 => ?_)
      · have F := F.1 c3
        refine pv_aload_n dX1_givePart_48 rfl ?_
        obtain ⟨q3, F⟩ := F
        refine pv_getI 3 3 dX1_givePart_49 fl_X1_68 rfl q3 ?_
        obtain ⟨q4, F⟩ := F
        obtain ⟨h2, eh2⟩ : ∃ h2 : pv_H, h2 = pv_up h1 81 (Int32.toNatClampNeg 1) (h1 y 3) := ⟨_, rfl⟩
        have F := F h2 eh2
        refine pv_iast dX1_givePart_52 (lt_81 hL) (by decide) q4 ?_
        refine pv_hE eh2 ?_
        refine pv_aload dX1_givePart_53 rfl ?_
        refine pv_iconst (v := 2) (by decide) dX1_givePart_55 ?_
        refine pv_aload_n dX1_givePart_56 rfl ?_
        obtain ⟨q5, F⟩ := F
        refine pv_getI 3 4 dX1_givePart_57 fl_X1_76 rfl q5 ?_
        obtain ⟨q6, F⟩ := F
        obtain ⟨h3, eh3⟩ : ∃ h3 : pv_H, h3 = pv_up h2 81 (Int32.toNatClampNeg 2) (h2 y 4) := ⟨_, rfl⟩
        have F := F h3 eh3
        refine pv_iast dX1_givePart_60 (lt_81 hL) (by decide) q6 ?_
        refine pv_hE eh3 ?_
        refine pv_aload dX1_givePart_61 rfl ?_
        refine pv_iconst (v := 3) (by decide) dX1_givePart_63 ?_
        refine pv_iload_n dX1_givePart_64 rfl ?_
        refine pv_if_eq (tgt := 75) dX1_givePart_65 (by decide) (fun c4 => ?_) (fun c4 => ?_)
        · have F := F.1 c4
          refine pv_aload_n dX1_givePart_75 rfl ?_
          obtain ⟨q7, F⟩ := F
          refine pv_getI 3 0 dX1_givePart_76 fl_X1_82 rfl q7 ?_
          obtain ⟨q8, F⟩ := F
          obtain ⟨h4, eh4⟩ : ∃ h4 : pv_H, h4 = pv_up h3 81 (Int32.toNatClampNeg 3) (h3 y 0) := ⟨_, rfl⟩
          have F := F h4 eh4
          refine pv_iast dX1_givePart_79 (lt_81 hL) (by decide) q8 ?_
          refine pv_hE eh4 ?_
          refine pv_aload dX1_givePart_80 rfl ?_
          refine pv_iconst (v := 4) (by decide) dX1_givePart_82 ?_
          refine pv_aload_n dX1_givePart_83 rfl ?_
          obtain ⟨q9, F⟩ := F
          obtain ⟨q10, F⟩ := F
          refine pv_invV (As := []) (d' := d - 1) dX1_givePart_84 moX3_isCorner ml_X1_85 q9 (Or.inl ⟨_, rfl, rfl⟩) (Nat.le_of_ble_eq_true rfl) (by omega) (Nat.zero_le _) (Nat.zero_le _) (ct_X3_isCorner (by omega) q10) (fun v ty' h' r' g' hq => ?_) rfl
          obtain ⟨e1, e2, e3, e4, e5⟩ := hq
          rw [e1, e2, e3, e4, e5]
          refine pv_pc (pc' := 87) rfl ?_
          show pv_E Γ d kc ks mX1_givePart 87 [some (.ref 70), some (.ref x), some (.ref y), some (.int z), some (.int u), some (.ref 81)] [.int (pf_b (¬ h4 y 2 = -1)), .int 4, .ref 81] ty h4 r g Q
          refine pv_if_eq (tgt := 94) dX1_givePart_87 (by decide) (fun c5 => ?_) (fun c5 => ?_)
          · have F := F.1 c5
            refine pv_iconst (v := 0) (by decide) dX1_givePart_94 ?_
            obtain ⟨q11, F⟩ := F
            obtain ⟨h5, eh5⟩ : ∃ h5 : pv_H, h5 = pv_up h4 81 (Int32.toNatClampNeg 4) 0 := ⟨_, rfl⟩
            have F := F h5 eh5
            refine pv_iast dX1_givePart_95 (lt_81 hL) (by decide) q11 ?_
            refine pv_hE eh5 ?_
            refine pv_aload dX1_givePart_96 rfl ?_
            refine pv_iconst (v := 5) (by decide) dX1_givePart_98 ?_
            refine pv_iload dX1_givePart_99 rfl ?_
            refine pv_sipush (v := 365) (by decide) dX1_givePart_101 ?_
            refine pv_idiv (by decide) dX1_givePart_104 ?_
            obtain ⟨q12, F⟩ := F
            obtain ⟨h6, eh6⟩ : ∃ h6 : pv_H, h6 = pv_up h5 81 (Int32.toNatClampNeg 5) (u / 365) := ⟨_, rfl⟩
            have F := F h6 eh6
            refine pv_iast dX1_givePart_105 (lt_81 hL) (by decide) q12 ?_
            refine pv_hE eh6 ?_
            refine pv_aload_n dX1_givePart_106 rfl ?_
            refine pv_getRk 1 2 dX1_givePart_107 fl_X1_24 rfl (lt_70 hL) (lr_70_2 hL) ?_
            refine pv_aload_n dX1_givePart_110 rfl ?_
            obtain ⟨q13, F⟩ := F
            refine pv_getR 0 3 dX1_givePart_111 fl_X1_89 rfl q13 ?_
            refine pv_aload_n dX1_givePart_114 rfl ?_
            obtain ⟨q14, F⟩ := F
            refine pv_getR 0 3 dX1_givePart_115 fl_X1_89 rfl q14 ?_
            obtain ⟨k1, n1, q15, q15k, F⟩ := F
            refine pv_alen dX1_givePart_118 q15 q15k ?_
            refine pv_iconst (v := 0) (by decide) dX1_givePart_119 ?_
            refine pv_invV (As := [.ref (r x 3), .int (nI n1), .int 0]) (d' := d - 1) dX1_givePart_120 moX9_readText ml_X1_35 (lt_80 hL) (Or.inl ⟨_, rfl, rfl⟩) (Nat.le_of_ble_eq_true rfl) (by omega) (Nat.zero_le _) (Nat.zero_le _) F (fun v1 ty1 h7 r1 g1 F => ?_) rfl
            obtain ⟨w1, rfl, F⟩ := F
            obtain ⟨hL1, F⟩ := F
            refine pv_pc (pc' := 123) rfl ?_
            show pv_E Γ d kc ks mX1_givePart 123 [some (.ref 70), some (.ref x), some (.ref y), some (.int z), some (.int u), some (.ref 81)] [.int w1] ty1 h7 r1 g1 Q
            refine pv_invS (As := [.int w1]) (d' := d - 1) dX1_givePart_123 moX1_keepWithin ml_X1_92 (Nat.le_of_ble_eq_true rfl) (by omega) (Nat.zero_le _) (Nat.zero_le _) (ct_X1_keep (by omega)) (fun v ty' h' r' g' hq => ?_) rfl
            obtain ⟨e1, e2, e3, e4, e5⟩ := hq
            rw [e1, e2, e3, e4, e5]
            refine pv_pc (pc' := 126) rfl ?_
            show pv_E Γ d kc ks mX1_givePart 126 [some (.ref 70), some (.ref x), some (.ref y), some (.int z), some (.int u), some (.ref 81)] [.int (pt_cl w1)] ty1 h7 r1 g1 Q
            exact pv_ireturn dX1_givePart_126 rfl rfl F
          · have F := F.2 c5
            refine pv_iconst (v := 1) (by decide) dX1_givePart_90 ?_
            refine pv_goto (tgt := 95) dX1_givePart_91 (by decide) ?_
            obtain ⟨q16, F⟩ := F
            obtain ⟨h8, eh8⟩ : ∃ h8 : pv_H, h8 = pv_up h4 81 (Int32.toNatClampNeg 4) 1 := ⟨_, rfl⟩
            have F := F h8 eh8
            refine pv_iast dX1_givePart_95 (lt_81 hL) (by decide) q16 ?_
            refine pv_hE eh8 ?_
            refine pv_aload dX1_givePart_96 rfl ?_
            refine pv_iconst (v := 5) (by decide) dX1_givePart_98 ?_
            refine pv_iload dX1_givePart_99 rfl ?_
            refine pv_sipush (v := 365) (by decide) dX1_givePart_101 ?_
            refine pv_idiv (by decide) dX1_givePart_104 ?_
            obtain ⟨q17, F⟩ := F
            obtain ⟨h9, eh9⟩ : ∃ h9 : pv_H, h9 = pv_up h8 81 (Int32.toNatClampNeg 5) (u / 365) := ⟨_, rfl⟩
            have F := F h9 eh9
            refine pv_iast dX1_givePart_105 (lt_81 hL) (by decide) q17 ?_
            refine pv_hE eh9 ?_
            refine pv_aload_n dX1_givePart_106 rfl ?_
            refine pv_getRk 1 2 dX1_givePart_107 fl_X1_24 rfl (lt_70 hL) (lr_70_2 hL) ?_
            refine pv_aload_n dX1_givePart_110 rfl ?_
            obtain ⟨q18, F⟩ := F
            refine pv_getR 0 3 dX1_givePart_111 fl_X1_89 rfl q18 ?_
            refine pv_aload_n dX1_givePart_114 rfl ?_
            obtain ⟨q19, F⟩ := F
            refine pv_getR 0 3 dX1_givePart_115 fl_X1_89 rfl q19 ?_
            obtain ⟨k2, n2, q20, q20k, F⟩ := F
            refine pv_alen dX1_givePart_118 q20 q20k ?_
            refine pv_iconst (v := 0) (by decide) dX1_givePart_119 ?_
            refine pv_invV (As := [.ref (r x 3), .int (nI n2), .int 0]) (d' := d - 1) dX1_givePart_120 moX9_readText ml_X1_35 (lt_80 hL) (Or.inl ⟨_, rfl, rfl⟩) (Nat.le_of_ble_eq_true rfl) (by omega) (Nat.zero_le _) (Nat.zero_le _) F (fun v2 ty2 h10 r2 g2 F => ?_) rfl
            obtain ⟨w2, rfl, F⟩ := F
            obtain ⟨hL2, F⟩ := F
            refine pv_pc (pc' := 123) rfl ?_
            show pv_E Γ d kc ks mX1_givePart 123 [some (.ref 70), some (.ref x), some (.ref y), some (.int z), some (.int u), some (.ref 81)] [.int w2] ty2 h10 r2 g2 Q
            refine pv_invS (As := [.int w2]) (d' := d - 1) dX1_givePart_123 moX1_keepWithin ml_X1_92 (Nat.le_of_ble_eq_true rfl) (by omega) (Nat.zero_le _) (Nat.zero_le _) (ct_X1_keep (by omega)) (fun v ty' h' r' g' hq => ?_) rfl
            obtain ⟨e1, e2, e3, e4, e5⟩ := hq
            rw [e1, e2, e3, e4, e5]
            refine pv_pc (pc' := 126) rfl ?_
            show pv_E Γ d kc ks mX1_givePart 126 [some (.ref 70), some (.ref x), some (.ref y), some (.int z), some (.int u), some (.ref 81)] [.int (pt_cl w2)] ty2 h10 r2 g2 Q
            exact pv_ireturn dX1_givePart_126 rfl rfl F
        · have F := F.2 c4
          refine pv_aload_n dX1_givePart_68 rfl ?_
          obtain ⟨q21, F⟩ := F
          refine pv_getI 3 2 dX1_givePart_69 fl_X1_79 rfl q21 ?_
          refine pv_goto (tgt := 79) dX1_givePart_72 (by decide) ?_
          obtain ⟨q22, F⟩ := F
          obtain ⟨h11, eh11⟩ : ∃ h11 : pv_H, h11 = pv_up h3 81 (Int32.toNatClampNeg 3) (h3 y 2) := ⟨_, rfl⟩
          have F := F h11 eh11
          refine pv_iast dX1_givePart_79 (lt_81 hL) (by decide) q22 ?_
          refine pv_hE eh11 ?_
          refine pv_aload dX1_givePart_80 rfl ?_
          refine pv_iconst (v := 4) (by decide) dX1_givePart_82 ?_
          refine pv_aload_n dX1_givePart_83 rfl ?_
          obtain ⟨q23, F⟩ := F
          obtain ⟨q24, F⟩ := F
          refine pv_invV (As := []) (d' := d - 1) dX1_givePart_84 moX3_isCorner ml_X1_85 q23 (Or.inl ⟨_, rfl, rfl⟩) (Nat.le_of_ble_eq_true rfl) (by omega) (Nat.zero_le _) (Nat.zero_le _) (ct_X3_isCorner (by omega) q24) (fun v ty' h' r' g' hq => ?_) rfl
          obtain ⟨e1, e2, e3, e4, e5⟩ := hq
          rw [e1, e2, e3, e4, e5]
          refine pv_pc (pc' := 87) rfl ?_
          show pv_E Γ d kc ks mX1_givePart 87 [some (.ref 70), some (.ref x), some (.ref y), some (.int z), some (.int u), some (.ref 81)] [.int (pf_b (¬ h11 y 2 = -1)), .int 4, .ref 81] ty h11 r g Q
          refine pv_if_eq (tgt := 94) dX1_givePart_87 (by decide) (fun c6 => ?_) (fun c6 => ?_)
          · have F := F.1 c6
            refine pv_iconst (v := 0) (by decide) dX1_givePart_94 ?_
            obtain ⟨q25, F⟩ := F
            obtain ⟨h12, eh12⟩ : ∃ h12 : pv_H, h12 = pv_up h11 81 (Int32.toNatClampNeg 4) 0 := ⟨_, rfl⟩
            have F := F h12 eh12
            refine pv_iast dX1_givePart_95 (lt_81 hL) (by decide) q25 ?_
            refine pv_hE eh12 ?_
            refine pv_aload dX1_givePart_96 rfl ?_
            refine pv_iconst (v := 5) (by decide) dX1_givePart_98 ?_
            refine pv_iload dX1_givePart_99 rfl ?_
            refine pv_sipush (v := 365) (by decide) dX1_givePart_101 ?_
            refine pv_idiv (by decide) dX1_givePart_104 ?_
            obtain ⟨q26, F⟩ := F
            obtain ⟨h13, eh13⟩ : ∃ h13 : pv_H, h13 = pv_up h12 81 (Int32.toNatClampNeg 5) (u / 365) := ⟨_, rfl⟩
            have F := F h13 eh13
            refine pv_iast dX1_givePart_105 (lt_81 hL) (by decide) q26 ?_
            refine pv_hE eh13 ?_
            refine pv_aload_n dX1_givePart_106 rfl ?_
            refine pv_getRk 1 2 dX1_givePart_107 fl_X1_24 rfl (lt_70 hL) (lr_70_2 hL) ?_
            refine pv_aload_n dX1_givePart_110 rfl ?_
            obtain ⟨q27, F⟩ := F
            refine pv_getR 0 3 dX1_givePart_111 fl_X1_89 rfl q27 ?_
            refine pv_aload_n dX1_givePart_114 rfl ?_
            obtain ⟨q28, F⟩ := F
            refine pv_getR 0 3 dX1_givePart_115 fl_X1_89 rfl q28 ?_
            obtain ⟨k3, n3, q29, q29k, F⟩ := F
            refine pv_alen dX1_givePart_118 q29 q29k ?_
            refine pv_iconst (v := 0) (by decide) dX1_givePart_119 ?_
            refine pv_invV (As := [.ref (r x 3), .int (nI n3), .int 0]) (d' := d - 1) dX1_givePart_120 moX9_readText ml_X1_35 (lt_80 hL) (Or.inl ⟨_, rfl, rfl⟩) (Nat.le_of_ble_eq_true rfl) (by omega) (Nat.zero_le _) (Nat.zero_le _) F (fun v3 ty3 h14 r3 g3 F => ?_) rfl
            obtain ⟨w3, rfl, F⟩ := F
            obtain ⟨hL3, F⟩ := F
            refine pv_pc (pc' := 123) rfl ?_
            show pv_E Γ d kc ks mX1_givePart 123 [some (.ref 70), some (.ref x), some (.ref y), some (.int z), some (.int u), some (.ref 81)] [.int w3] ty3 h14 r3 g3 Q
            refine pv_invS (As := [.int w3]) (d' := d - 1) dX1_givePart_123 moX1_keepWithin ml_X1_92 (Nat.le_of_ble_eq_true rfl) (by omega) (Nat.zero_le _) (Nat.zero_le _) (ct_X1_keep (by omega)) (fun v ty' h' r' g' hq => ?_) rfl
            obtain ⟨e1, e2, e3, e4, e5⟩ := hq
            rw [e1, e2, e3, e4, e5]
            refine pv_pc (pc' := 126) rfl ?_
            show pv_E Γ d kc ks mX1_givePart 126 [some (.ref 70), some (.ref x), some (.ref y), some (.int z), some (.int u), some (.ref 81)] [.int (pt_cl w3)] ty3 h14 r3 g3 Q
            exact pv_ireturn dX1_givePart_126 rfl rfl F
          · have F := F.2 c6
            refine pv_iconst (v := 1) (by decide) dX1_givePart_90 ?_
            refine pv_goto (tgt := 95) dX1_givePart_91 (by decide) ?_
            obtain ⟨q30, F⟩ := F
            obtain ⟨h15, eh15⟩ : ∃ h15 : pv_H, h15 = pv_up h11 81 (Int32.toNatClampNeg 4) 1 := ⟨_, rfl⟩
            have F := F h15 eh15
            refine pv_iast dX1_givePart_95 (lt_81 hL) (by decide) q30 ?_
            refine pv_hE eh15 ?_
            refine pv_aload dX1_givePart_96 rfl ?_
            refine pv_iconst (v := 5) (by decide) dX1_givePart_98 ?_
            refine pv_iload dX1_givePart_99 rfl ?_
            refine pv_sipush (v := 365) (by decide) dX1_givePart_101 ?_
            refine pv_idiv (by decide) dX1_givePart_104 ?_
            obtain ⟨q31, F⟩ := F
            obtain ⟨h16, eh16⟩ : ∃ h16 : pv_H, h16 = pv_up h15 81 (Int32.toNatClampNeg 5) (u / 365) := ⟨_, rfl⟩
            have F := F h16 eh16
            refine pv_iast dX1_givePart_105 (lt_81 hL) (by decide) q31 ?_
            refine pv_hE eh16 ?_
            refine pv_aload_n dX1_givePart_106 rfl ?_
            refine pv_getRk 1 2 dX1_givePart_107 fl_X1_24 rfl (lt_70 hL) (lr_70_2 hL) ?_
            refine pv_aload_n dX1_givePart_110 rfl ?_
            obtain ⟨q32, F⟩ := F
            refine pv_getR 0 3 dX1_givePart_111 fl_X1_89 rfl q32 ?_
            refine pv_aload_n dX1_givePart_114 rfl ?_
            obtain ⟨q33, F⟩ := F
            refine pv_getR 0 3 dX1_givePart_115 fl_X1_89 rfl q33 ?_
            obtain ⟨k4, n4, q34, q34k, F⟩ := F
            refine pv_alen dX1_givePart_118 q34 q34k ?_
            refine pv_iconst (v := 0) (by decide) dX1_givePart_119 ?_
            refine pv_invV (As := [.ref (r x 3), .int (nI n4), .int 0]) (d' := d - 1) dX1_givePart_120 moX9_readText ml_X1_35 (lt_80 hL) (Or.inl ⟨_, rfl, rfl⟩) (Nat.le_of_ble_eq_true rfl) (by omega) (Nat.zero_le _) (Nat.zero_le _) F (fun v4 ty4 h17 r4 g4 F => ?_) rfl
            obtain ⟨w4, rfl, F⟩ := F
            obtain ⟨hL4, F⟩ := F
            refine pv_pc (pc' := 123) rfl ?_
            show pv_E Γ d kc ks mX1_givePart 123 [some (.ref 70), some (.ref x), some (.ref y), some (.int z), some (.int u), some (.ref 81)] [.int w4] ty4 h17 r4 g4 Q
            refine pv_invS (As := [.int w4]) (d' := d - 1) dX1_givePart_123 moX1_keepWithin ml_X1_92 (Nat.le_of_ble_eq_true rfl) (by omega) (Nat.zero_le _) (Nat.zero_le _) (ct_X1_keep (by omega)) (fun v ty' h' r' g' hq => ?_) rfl
            obtain ⟨e1, e2, e3, e4, e5⟩ := hq
            rw [e1, e2, e3, e4, e5]
            refine pv_pc (pc' := 126) rfl ?_
            show pv_E Γ d kc ks mX1_givePart 126 [some (.ref 70), some (.ref x), some (.ref y), some (.int z), some (.int u), some (.ref 81)] [.int (pt_cl w4)] ty4 h17 r4 g4 Q
            exact pv_ireturn dX1_givePart_126 rfl rfl F
      · have F := F.2 c3
        refine pv_aload_n dX1_givePart_41 rfl ?_
        obtain ⟨q35, F⟩ := F
        refine pv_getI 3 1 dX1_givePart_42 fl_X1_73 rfl q35 ?_
        refine pv_goto (tgt := 52) dX1_givePart_45 (by decide) ?_
        obtain ⟨q36, F⟩ := F
        obtain ⟨h18, eh18⟩ : ∃ h18 : pv_H, h18 = pv_up h1 81 (Int32.toNatClampNeg 1) (h1 y 1) := ⟨_, rfl⟩
        have F := F h18 eh18
        refine pv_iast dX1_givePart_52 (lt_81 hL) (by decide) q36 ?_
        refine pv_hE eh18 ?_
        refine pv_aload dX1_givePart_53 rfl ?_
        refine pv_iconst (v := 2) (by decide) dX1_givePart_55 ?_
        refine pv_aload_n dX1_givePart_56 rfl ?_
        obtain ⟨q37, F⟩ := F
        refine pv_getI 3 4 dX1_givePart_57 fl_X1_76 rfl q37 ?_
        obtain ⟨q38, F⟩ := F
        obtain ⟨h19, eh19⟩ : ∃ h19 : pv_H, h19 = pv_up h18 81 (Int32.toNatClampNeg 2) (h18 y 4) := ⟨_, rfl⟩
        have F := F h19 eh19
        refine pv_iast dX1_givePart_60 (lt_81 hL) (by decide) q38 ?_
        refine pv_hE eh19 ?_
        refine pv_aload dX1_givePart_61 rfl ?_
        refine pv_iconst (v := 3) (by decide) dX1_givePart_63 ?_
        refine pv_iload_n dX1_givePart_64 rfl ?_
        refine pv_if_eq (tgt := 75) dX1_givePart_65 (by decide) (fun c7 => ?_) (fun c7 => ?_)
        · have F := F.1 c7
          refine pv_aload_n dX1_givePart_75 rfl ?_
          obtain ⟨q39, F⟩ := F
          refine pv_getI 3 0 dX1_givePart_76 fl_X1_82 rfl q39 ?_
          obtain ⟨q40, F⟩ := F
          obtain ⟨h20, eh20⟩ : ∃ h20 : pv_H, h20 = pv_up h19 81 (Int32.toNatClampNeg 3) (h19 y 0) := ⟨_, rfl⟩
          have F := F h20 eh20
          refine pv_iast dX1_givePart_79 (lt_81 hL) (by decide) q40 ?_
          refine pv_hE eh20 ?_
          refine pv_aload dX1_givePart_80 rfl ?_
          refine pv_iconst (v := 4) (by decide) dX1_givePart_82 ?_
          refine pv_aload_n dX1_givePart_83 rfl ?_
          obtain ⟨q41, F⟩ := F
          obtain ⟨q42, F⟩ := F
          refine pv_invV (As := []) (d' := d - 1) dX1_givePart_84 moX3_isCorner ml_X1_85 q41 (Or.inl ⟨_, rfl, rfl⟩) (Nat.le_of_ble_eq_true rfl) (by omega) (Nat.zero_le _) (Nat.zero_le _) (ct_X3_isCorner (by omega) q42) (fun v ty' h' r' g' hq => ?_) rfl
          obtain ⟨e1, e2, e3, e4, e5⟩ := hq
          rw [e1, e2, e3, e4, e5]
          refine pv_pc (pc' := 87) rfl ?_
          show pv_E Γ d kc ks mX1_givePart 87 [some (.ref 70), some (.ref x), some (.ref y), some (.int z), some (.int u), some (.ref 81)] [.int (pf_b (¬ h20 y 2 = -1)), .int 4, .ref 81] ty h20 r g Q
          refine pv_if_eq (tgt := 94) dX1_givePart_87 (by decide) (fun c8 => ?_) (fun c8 => ?_)
          · have F := F.1 c8
            refine pv_iconst (v := 0) (by decide) dX1_givePart_94 ?_
            obtain ⟨q43, F⟩ := F
            obtain ⟨h21, eh21⟩ : ∃ h21 : pv_H, h21 = pv_up h20 81 (Int32.toNatClampNeg 4) 0 := ⟨_, rfl⟩
            have F := F h21 eh21
            refine pv_iast dX1_givePart_95 (lt_81 hL) (by decide) q43 ?_
            refine pv_hE eh21 ?_
            refine pv_aload dX1_givePart_96 rfl ?_
            refine pv_iconst (v := 5) (by decide) dX1_givePart_98 ?_
            refine pv_iload dX1_givePart_99 rfl ?_
            refine pv_sipush (v := 365) (by decide) dX1_givePart_101 ?_
            refine pv_idiv (by decide) dX1_givePart_104 ?_
            obtain ⟨q44, F⟩ := F
            obtain ⟨h22, eh22⟩ : ∃ h22 : pv_H, h22 = pv_up h21 81 (Int32.toNatClampNeg 5) (u / 365) := ⟨_, rfl⟩
            have F := F h22 eh22
            refine pv_iast dX1_givePart_105 (lt_81 hL) (by decide) q44 ?_
            refine pv_hE eh22 ?_
            refine pv_aload_n dX1_givePart_106 rfl ?_
            refine pv_getRk 1 2 dX1_givePart_107 fl_X1_24 rfl (lt_70 hL) (lr_70_2 hL) ?_
            refine pv_aload_n dX1_givePart_110 rfl ?_
            obtain ⟨q45, F⟩ := F
            refine pv_getR 0 3 dX1_givePart_111 fl_X1_89 rfl q45 ?_
            refine pv_aload_n dX1_givePart_114 rfl ?_
            obtain ⟨q46, F⟩ := F
            refine pv_getR 0 3 dX1_givePart_115 fl_X1_89 rfl q46 ?_
            obtain ⟨k5, n5, q47, q47k, F⟩ := F
            refine pv_alen dX1_givePart_118 q47 q47k ?_
            refine pv_iconst (v := 0) (by decide) dX1_givePart_119 ?_
            refine pv_invV (As := [.ref (r x 3), .int (nI n5), .int 0]) (d' := d - 1) dX1_givePart_120 moX9_readText ml_X1_35 (lt_80 hL) (Or.inl ⟨_, rfl, rfl⟩) (Nat.le_of_ble_eq_true rfl) (by omega) (Nat.zero_le _) (Nat.zero_le _) F (fun v5 ty5 h23 r5 g5 F => ?_) rfl
            obtain ⟨w5, rfl, F⟩ := F
            obtain ⟨hL5, F⟩ := F
            refine pv_pc (pc' := 123) rfl ?_
            show pv_E Γ d kc ks mX1_givePart 123 [some (.ref 70), some (.ref x), some (.ref y), some (.int z), some (.int u), some (.ref 81)] [.int w5] ty5 h23 r5 g5 Q
            refine pv_invS (As := [.int w5]) (d' := d - 1) dX1_givePart_123 moX1_keepWithin ml_X1_92 (Nat.le_of_ble_eq_true rfl) (by omega) (Nat.zero_le _) (Nat.zero_le _) (ct_X1_keep (by omega)) (fun v ty' h' r' g' hq => ?_) rfl
            obtain ⟨e1, e2, e3, e4, e5⟩ := hq
            rw [e1, e2, e3, e4, e5]
            refine pv_pc (pc' := 126) rfl ?_
            show pv_E Γ d kc ks mX1_givePart 126 [some (.ref 70), some (.ref x), some (.ref y), some (.int z), some (.int u), some (.ref 81)] [.int (pt_cl w5)] ty5 h23 r5 g5 Q
            exact pv_ireturn dX1_givePart_126 rfl rfl F
          · have F := F.2 c8
            refine pv_iconst (v := 1) (by decide) dX1_givePart_90 ?_
            refine pv_goto (tgt := 95) dX1_givePart_91 (by decide) ?_
            obtain ⟨q48, F⟩ := F
            obtain ⟨h24, eh24⟩ : ∃ h24 : pv_H, h24 = pv_up h20 81 (Int32.toNatClampNeg 4) 1 := ⟨_, rfl⟩
            have F := F h24 eh24
            refine pv_iast dX1_givePart_95 (lt_81 hL) (by decide) q48 ?_
            refine pv_hE eh24 ?_
            refine pv_aload dX1_givePart_96 rfl ?_
            refine pv_iconst (v := 5) (by decide) dX1_givePart_98 ?_
            refine pv_iload dX1_givePart_99 rfl ?_
            refine pv_sipush (v := 365) (by decide) dX1_givePart_101 ?_
            refine pv_idiv (by decide) dX1_givePart_104 ?_
            obtain ⟨q49, F⟩ := F
            obtain ⟨h25, eh25⟩ : ∃ h25 : pv_H, h25 = pv_up h24 81 (Int32.toNatClampNeg 5) (u / 365) := ⟨_, rfl⟩
            have F := F h25 eh25
            refine pv_iast dX1_givePart_105 (lt_81 hL) (by decide) q49 ?_
            refine pv_hE eh25 ?_
            refine pv_aload_n dX1_givePart_106 rfl ?_
            refine pv_getRk 1 2 dX1_givePart_107 fl_X1_24 rfl (lt_70 hL) (lr_70_2 hL) ?_
            refine pv_aload_n dX1_givePart_110 rfl ?_
            obtain ⟨q50, F⟩ := F
            refine pv_getR 0 3 dX1_givePart_111 fl_X1_89 rfl q50 ?_
            refine pv_aload_n dX1_givePart_114 rfl ?_
            obtain ⟨q51, F⟩ := F
            refine pv_getR 0 3 dX1_givePart_115 fl_X1_89 rfl q51 ?_
            obtain ⟨k6, n6, q52, q52k, F⟩ := F
            refine pv_alen dX1_givePart_118 q52 q52k ?_
            refine pv_iconst (v := 0) (by decide) dX1_givePart_119 ?_
            refine pv_invV (As := [.ref (r x 3), .int (nI n6), .int 0]) (d' := d - 1) dX1_givePart_120 moX9_readText ml_X1_35 (lt_80 hL) (Or.inl ⟨_, rfl, rfl⟩) (Nat.le_of_ble_eq_true rfl) (by omega) (Nat.zero_le _) (Nat.zero_le _) F (fun v6 ty6 h26 r6 g6 F => ?_) rfl
            obtain ⟨w6, rfl, F⟩ := F
            obtain ⟨hL6, F⟩ := F
            refine pv_pc (pc' := 123) rfl ?_
            show pv_E Γ d kc ks mX1_givePart 123 [some (.ref 70), some (.ref x), some (.ref y), some (.int z), some (.int u), some (.ref 81)] [.int w6] ty6 h26 r6 g6 Q
            refine pv_invS (As := [.int w6]) (d' := d - 1) dX1_givePart_123 moX1_keepWithin ml_X1_92 (Nat.le_of_ble_eq_true rfl) (by omega) (Nat.zero_le _) (Nat.zero_le _) (ct_X1_keep (by omega)) (fun v ty' h' r' g' hq => ?_) rfl
            obtain ⟨e1, e2, e3, e4, e5⟩ := hq
            rw [e1, e2, e3, e4, e5]
            refine pv_pc (pc' := 126) rfl ?_
            show pv_E Γ d kc ks mX1_givePart 126 [some (.ref 70), some (.ref x), some (.ref y), some (.int z), some (.int u), some (.ref 81)] [.int (pt_cl w6)] ty6 h26 r6 g6 Q
            exact pv_ireturn dX1_givePart_126 rfl rfl F
        · have F := F.2 c7
          refine pv_aload_n dX1_givePart_68 rfl ?_
          obtain ⟨q53, F⟩ := F
          refine pv_getI 3 2 dX1_givePart_69 fl_X1_79 rfl q53 ?_
          refine pv_goto (tgt := 79) dX1_givePart_72 (by decide) ?_
          obtain ⟨q54, F⟩ := F
          obtain ⟨h27, eh27⟩ : ∃ h27 : pv_H, h27 = pv_up h19 81 (Int32.toNatClampNeg 3) (h19 y 2) := ⟨_, rfl⟩
          have F := F h27 eh27
          refine pv_iast dX1_givePart_79 (lt_81 hL) (by decide) q54 ?_
          refine pv_hE eh27 ?_
          refine pv_aload dX1_givePart_80 rfl ?_
          refine pv_iconst (v := 4) (by decide) dX1_givePart_82 ?_
          refine pv_aload_n dX1_givePart_83 rfl ?_
          obtain ⟨q55, F⟩ := F
          obtain ⟨q56, F⟩ := F
          refine pv_invV (As := []) (d' := d - 1) dX1_givePart_84 moX3_isCorner ml_X1_85 q55 (Or.inl ⟨_, rfl, rfl⟩) (Nat.le_of_ble_eq_true rfl) (by omega) (Nat.zero_le _) (Nat.zero_le _) (ct_X3_isCorner (by omega) q56) (fun v ty' h' r' g' hq => ?_) rfl
          obtain ⟨e1, e2, e3, e4, e5⟩ := hq
          rw [e1, e2, e3, e4, e5]
          refine pv_pc (pc' := 87) rfl ?_
          show pv_E Γ d kc ks mX1_givePart 87 [some (.ref 70), some (.ref x), some (.ref y), some (.int z), some (.int u), some (.ref 81)] [.int (pf_b (¬ h27 y 2 = -1)), .int 4, .ref 81] ty h27 r g Q
          refine pv_if_eq (tgt := 94) dX1_givePart_87 (by decide) (fun c9 => ?_) (fun c9 => ?_)
          · have F := F.1 c9
            refine pv_iconst (v := 0) (by decide) dX1_givePart_94 ?_
            obtain ⟨q57, F⟩ := F
            obtain ⟨h28, eh28⟩ : ∃ h28 : pv_H, h28 = pv_up h27 81 (Int32.toNatClampNeg 4) 0 := ⟨_, rfl⟩
            have F := F h28 eh28
            refine pv_iast dX1_givePart_95 (lt_81 hL) (by decide) q57 ?_
            refine pv_hE eh28 ?_
            refine pv_aload dX1_givePart_96 rfl ?_
            refine pv_iconst (v := 5) (by decide) dX1_givePart_98 ?_
            refine pv_iload dX1_givePart_99 rfl ?_
            refine pv_sipush (v := 365) (by decide) dX1_givePart_101 ?_
            refine pv_idiv (by decide) dX1_givePart_104 ?_
            obtain ⟨q58, F⟩ := F
            obtain ⟨h29, eh29⟩ : ∃ h29 : pv_H, h29 = pv_up h28 81 (Int32.toNatClampNeg 5) (u / 365) := ⟨_, rfl⟩
            have F := F h29 eh29
            refine pv_iast dX1_givePart_105 (lt_81 hL) (by decide) q58 ?_
            refine pv_hE eh29 ?_
            refine pv_aload_n dX1_givePart_106 rfl ?_
            refine pv_getRk 1 2 dX1_givePart_107 fl_X1_24 rfl (lt_70 hL) (lr_70_2 hL) ?_
            refine pv_aload_n dX1_givePart_110 rfl ?_
            obtain ⟨q59, F⟩ := F
            refine pv_getR 0 3 dX1_givePart_111 fl_X1_89 rfl q59 ?_
            refine pv_aload_n dX1_givePart_114 rfl ?_
            obtain ⟨q60, F⟩ := F
            refine pv_getR 0 3 dX1_givePart_115 fl_X1_89 rfl q60 ?_
            obtain ⟨k7, n7, q61, q61k, F⟩ := F
            refine pv_alen dX1_givePart_118 q61 q61k ?_
            refine pv_iconst (v := 0) (by decide) dX1_givePart_119 ?_
            refine pv_invV (As := [.ref (r x 3), .int (nI n7), .int 0]) (d' := d - 1) dX1_givePart_120 moX9_readText ml_X1_35 (lt_80 hL) (Or.inl ⟨_, rfl, rfl⟩) (Nat.le_of_ble_eq_true rfl) (by omega) (Nat.zero_le _) (Nat.zero_le _) F (fun v7 ty7 h30 r7 g7 F => ?_) rfl
            obtain ⟨w7, rfl, F⟩ := F
            obtain ⟨hL7, F⟩ := F
            refine pv_pc (pc' := 123) rfl ?_
            show pv_E Γ d kc ks mX1_givePart 123 [some (.ref 70), some (.ref x), some (.ref y), some (.int z), some (.int u), some (.ref 81)] [.int w7] ty7 h30 r7 g7 Q
            refine pv_invS (As := [.int w7]) (d' := d - 1) dX1_givePart_123 moX1_keepWithin ml_X1_92 (Nat.le_of_ble_eq_true rfl) (by omega) (Nat.zero_le _) (Nat.zero_le _) (ct_X1_keep (by omega)) (fun v ty' h' r' g' hq => ?_) rfl
            obtain ⟨e1, e2, e3, e4, e5⟩ := hq
            rw [e1, e2, e3, e4, e5]
            refine pv_pc (pc' := 126) rfl ?_
            show pv_E Γ d kc ks mX1_givePart 126 [some (.ref 70), some (.ref x), some (.ref y), some (.int z), some (.int u), some (.ref 81)] [.int (pt_cl w7)] ty7 h30 r7 g7 Q
            exact pv_ireturn dX1_givePart_126 rfl rfl F
          · have F := F.2 c9
            refine pv_iconst (v := 1) (by decide) dX1_givePart_90 ?_
            refine pv_goto (tgt := 95) dX1_givePart_91 (by decide) ?_
            obtain ⟨q62, F⟩ := F
            obtain ⟨h31, eh31⟩ : ∃ h31 : pv_H, h31 = pv_up h27 81 (Int32.toNatClampNeg 4) 1 := ⟨_, rfl⟩
            have F := F h31 eh31
            refine pv_iast dX1_givePart_95 (lt_81 hL) (by decide) q62 ?_
            refine pv_hE eh31 ?_
            refine pv_aload dX1_givePart_96 rfl ?_
            refine pv_iconst (v := 5) (by decide) dX1_givePart_98 ?_
            refine pv_iload dX1_givePart_99 rfl ?_
            refine pv_sipush (v := 365) (by decide) dX1_givePart_101 ?_
            refine pv_idiv (by decide) dX1_givePart_104 ?_
            obtain ⟨q63, F⟩ := F
            obtain ⟨h32, eh32⟩ : ∃ h32 : pv_H, h32 = pv_up h31 81 (Int32.toNatClampNeg 5) (u / 365) := ⟨_, rfl⟩
            have F := F h32 eh32
            refine pv_iast dX1_givePart_105 (lt_81 hL) (by decide) q63 ?_
            refine pv_hE eh32 ?_
            refine pv_aload_n dX1_givePart_106 rfl ?_
            refine pv_getRk 1 2 dX1_givePart_107 fl_X1_24 rfl (lt_70 hL) (lr_70_2 hL) ?_
            refine pv_aload_n dX1_givePart_110 rfl ?_
            obtain ⟨q64, F⟩ := F
            refine pv_getR 0 3 dX1_givePart_111 fl_X1_89 rfl q64 ?_
            refine pv_aload_n dX1_givePart_114 rfl ?_
            obtain ⟨q65, F⟩ := F
            refine pv_getR 0 3 dX1_givePart_115 fl_X1_89 rfl q65 ?_
            obtain ⟨k8, n8, q66, q66k, F⟩ := F
            refine pv_alen dX1_givePart_118 q66 q66k ?_
            refine pv_iconst (v := 0) (by decide) dX1_givePart_119 ?_
            refine pv_invV (As := [.ref (r x 3), .int (nI n8), .int 0]) (d' := d - 1) dX1_givePart_120 moX9_readText ml_X1_35 (lt_80 hL) (Or.inl ⟨_, rfl, rfl⟩) (Nat.le_of_ble_eq_true rfl) (by omega) (Nat.zero_le _) (Nat.zero_le _) F (fun v8 ty8 h33 r8 g8 F => ?_) rfl
            obtain ⟨w8, rfl, F⟩ := F
            obtain ⟨hL8, F⟩ := F
            refine pv_pc (pc' := 123) rfl ?_
            show pv_E Γ d kc ks mX1_givePart 123 [some (.ref 70), some (.ref x), some (.ref y), some (.int z), some (.int u), some (.ref 81)] [.int w8] ty8 h33 r8 g8 Q
            refine pv_invS (As := [.int w8]) (d' := d - 1) dX1_givePart_123 moX1_keepWithin ml_X1_92 (Nat.le_of_ble_eq_true rfl) (by omega) (Nat.zero_le _) (Nat.zero_le _) (ct_X1_keep (by omega)) (fun v ty' h' r' g' hq => ?_) rfl
            obtain ⟨e1, e2, e3, e4, e5⟩ := hq
            rw [e1, e2, e3, e4, e5]
            refine pv_pc (pc' := 126) rfl ?_
            show pv_E Γ d kc ks mX1_givePart 126 [some (.ref 70), some (.ref x), some (.ref y), some (.int z), some (.int u), some (.ref 81)] [.int (pt_cl w8)] ty8 h33 r8 g8 Q
            exact pv_ireturn dX1_givePart_126 rfl rfl F
    · have F := F.2 c2
      refine pv_aload_n dX1_givePart_22 rfl ?_
      obtain ⟨q67, F⟩ := F
      refine pv_getI 3 3 dX1_givePart_23 fl_X1_68 rfl q67 ?_
      refine pv_goto (tgt := 33) dX1_givePart_26 (by decide) ?_
      obtain ⟨q68, F⟩ := F
      obtain ⟨h34, eh34⟩ : ∃ h34 : pv_H, h34 = pv_up h 81 (Int32.toNatClampNeg 0) (h y 3) := ⟨_, rfl⟩
      have F := F h34 eh34
      refine pv_iast dX1_givePart_33 (lt_81 hL) (by decide) q68 ?_
      refine pv_hE eh34 ?_
      refine pv_aload dX1_givePart_34 rfl ?_
      refine pv_iconst (v := 1) (by decide) dX1_givePart_36 ?_
      refine pv_iload_n dX1_givePart_37 rfl ?_
      refine pv_if_eq (tgt := 48) dX1_givePart_38 (by decide) (fun c10 => ?_) (fun c10 => ?_)
      · have F := F.1 c10
        refine pv_aload_n dX1_givePart_48 rfl ?_
        obtain ⟨q69, F⟩ := F
        refine pv_getI 3 3 dX1_givePart_49 fl_X1_68 rfl q69 ?_
        obtain ⟨q70, F⟩ := F
        obtain ⟨h35, eh35⟩ : ∃ h35 : pv_H, h35 = pv_up h34 81 (Int32.toNatClampNeg 1) (h34 y 3) := ⟨_, rfl⟩
        have F := F h35 eh35
        refine pv_iast dX1_givePart_52 (lt_81 hL) (by decide) q70 ?_
        refine pv_hE eh35 ?_
        refine pv_aload dX1_givePart_53 rfl ?_
        refine pv_iconst (v := 2) (by decide) dX1_givePart_55 ?_
        refine pv_aload_n dX1_givePart_56 rfl ?_
        obtain ⟨q71, F⟩ := F
        refine pv_getI 3 4 dX1_givePart_57 fl_X1_76 rfl q71 ?_
        obtain ⟨q72, F⟩ := F
        obtain ⟨h36, eh36⟩ : ∃ h36 : pv_H, h36 = pv_up h35 81 (Int32.toNatClampNeg 2) (h35 y 4) := ⟨_, rfl⟩
        have F := F h36 eh36
        refine pv_iast dX1_givePart_60 (lt_81 hL) (by decide) q72 ?_
        refine pv_hE eh36 ?_
        refine pv_aload dX1_givePart_61 rfl ?_
        refine pv_iconst (v := 3) (by decide) dX1_givePart_63 ?_
        refine pv_iload_n dX1_givePart_64 rfl ?_
        refine pv_if_eq (tgt := 75) dX1_givePart_65 (by decide) (fun c11 => ?_) (fun c11 => ?_)
        · have F := F.1 c11
          refine pv_aload_n dX1_givePart_75 rfl ?_
          obtain ⟨q73, F⟩ := F
          refine pv_getI 3 0 dX1_givePart_76 fl_X1_82 rfl q73 ?_
          obtain ⟨q74, F⟩ := F
          obtain ⟨h37, eh37⟩ : ∃ h37 : pv_H, h37 = pv_up h36 81 (Int32.toNatClampNeg 3) (h36 y 0) := ⟨_, rfl⟩
          have F := F h37 eh37
          refine pv_iast dX1_givePart_79 (lt_81 hL) (by decide) q74 ?_
          refine pv_hE eh37 ?_
          refine pv_aload dX1_givePart_80 rfl ?_
          refine pv_iconst (v := 4) (by decide) dX1_givePart_82 ?_
          refine pv_aload_n dX1_givePart_83 rfl ?_
          obtain ⟨q75, F⟩ := F
          obtain ⟨q76, F⟩ := F
          refine pv_invV (As := []) (d' := d - 1) dX1_givePart_84 moX3_isCorner ml_X1_85 q75 (Or.inl ⟨_, rfl, rfl⟩) (Nat.le_of_ble_eq_true rfl) (by omega) (Nat.zero_le _) (Nat.zero_le _) (ct_X3_isCorner (by omega) q76) (fun v ty' h' r' g' hq => ?_) rfl
          obtain ⟨e1, e2, e3, e4, e5⟩ := hq
          rw [e1, e2, e3, e4, e5]
          refine pv_pc (pc' := 87) rfl ?_
          show pv_E Γ d kc ks mX1_givePart 87 [some (.ref 70), some (.ref x), some (.ref y), some (.int z), some (.int u), some (.ref 81)] [.int (pf_b (¬ h37 y 2 = -1)), .int 4, .ref 81] ty h37 r g Q
          refine pv_if_eq (tgt := 94) dX1_givePart_87 (by decide) (fun c12 => ?_) (fun c12 => ?_)
          · have F := F.1 c12
            refine pv_iconst (v := 0) (by decide) dX1_givePart_94 ?_
            obtain ⟨q77, F⟩ := F
            obtain ⟨h38, eh38⟩ : ∃ h38 : pv_H, h38 = pv_up h37 81 (Int32.toNatClampNeg 4) 0 := ⟨_, rfl⟩
            have F := F h38 eh38
            refine pv_iast dX1_givePart_95 (lt_81 hL) (by decide) q77 ?_
            refine pv_hE eh38 ?_
            refine pv_aload dX1_givePart_96 rfl ?_
            refine pv_iconst (v := 5) (by decide) dX1_givePart_98 ?_
            refine pv_iload dX1_givePart_99 rfl ?_
            refine pv_sipush (v := 365) (by decide) dX1_givePart_101 ?_
            refine pv_idiv (by decide) dX1_givePart_104 ?_
            obtain ⟨q78, F⟩ := F
            obtain ⟨h39, eh39⟩ : ∃ h39 : pv_H, h39 = pv_up h38 81 (Int32.toNatClampNeg 5) (u / 365) := ⟨_, rfl⟩
            have F := F h39 eh39
            refine pv_iast dX1_givePart_105 (lt_81 hL) (by decide) q78 ?_
            refine pv_hE eh39 ?_
            refine pv_aload_n dX1_givePart_106 rfl ?_
            refine pv_getRk 1 2 dX1_givePart_107 fl_X1_24 rfl (lt_70 hL) (lr_70_2 hL) ?_
            refine pv_aload_n dX1_givePart_110 rfl ?_
            obtain ⟨q79, F⟩ := F
            refine pv_getR 0 3 dX1_givePart_111 fl_X1_89 rfl q79 ?_
            refine pv_aload_n dX1_givePart_114 rfl ?_
            obtain ⟨q80, F⟩ := F
            refine pv_getR 0 3 dX1_givePart_115 fl_X1_89 rfl q80 ?_
            obtain ⟨k9, n9, q81, q81k, F⟩ := F
            refine pv_alen dX1_givePart_118 q81 q81k ?_
            refine pv_iconst (v := 0) (by decide) dX1_givePart_119 ?_
            refine pv_invV (As := [.ref (r x 3), .int (nI n9), .int 0]) (d' := d - 1) dX1_givePart_120 moX9_readText ml_X1_35 (lt_80 hL) (Or.inl ⟨_, rfl, rfl⟩) (Nat.le_of_ble_eq_true rfl) (by omega) (Nat.zero_le _) (Nat.zero_le _) F (fun v9 ty9 h40 r9 g9 F => ?_) rfl
            obtain ⟨w9, rfl, F⟩ := F
            obtain ⟨hL9, F⟩ := F
            refine pv_pc (pc' := 123) rfl ?_
            show pv_E Γ d kc ks mX1_givePart 123 [some (.ref 70), some (.ref x), some (.ref y), some (.int z), some (.int u), some (.ref 81)] [.int w9] ty9 h40 r9 g9 Q
            refine pv_invS (As := [.int w9]) (d' := d - 1) dX1_givePart_123 moX1_keepWithin ml_X1_92 (Nat.le_of_ble_eq_true rfl) (by omega) (Nat.zero_le _) (Nat.zero_le _) (ct_X1_keep (by omega)) (fun v ty' h' r' g' hq => ?_) rfl
            obtain ⟨e1, e2, e3, e4, e5⟩ := hq
            rw [e1, e2, e3, e4, e5]
            refine pv_pc (pc' := 126) rfl ?_
            show pv_E Γ d kc ks mX1_givePart 126 [some (.ref 70), some (.ref x), some (.ref y), some (.int z), some (.int u), some (.ref 81)] [.int (pt_cl w9)] ty9 h40 r9 g9 Q
            exact pv_ireturn dX1_givePart_126 rfl rfl F
          · have F := F.2 c12
            refine pv_iconst (v := 1) (by decide) dX1_givePart_90 ?_
            refine pv_goto (tgt := 95) dX1_givePart_91 (by decide) ?_
            obtain ⟨q82, F⟩ := F
            obtain ⟨h41, eh41⟩ : ∃ h41 : pv_H, h41 = pv_up h37 81 (Int32.toNatClampNeg 4) 1 := ⟨_, rfl⟩
            have F := F h41 eh41
            refine pv_iast dX1_givePart_95 (lt_81 hL) (by decide) q82 ?_
            refine pv_hE eh41 ?_
            refine pv_aload dX1_givePart_96 rfl ?_
            refine pv_iconst (v := 5) (by decide) dX1_givePart_98 ?_
            refine pv_iload dX1_givePart_99 rfl ?_
            refine pv_sipush (v := 365) (by decide) dX1_givePart_101 ?_
            refine pv_idiv (by decide) dX1_givePart_104 ?_
            obtain ⟨q83, F⟩ := F
            obtain ⟨h42, eh42⟩ : ∃ h42 : pv_H, h42 = pv_up h41 81 (Int32.toNatClampNeg 5) (u / 365) := ⟨_, rfl⟩
            have F := F h42 eh42
            refine pv_iast dX1_givePart_105 (lt_81 hL) (by decide) q83 ?_
            refine pv_hE eh42 ?_
            refine pv_aload_n dX1_givePart_106 rfl ?_
            refine pv_getRk 1 2 dX1_givePart_107 fl_X1_24 rfl (lt_70 hL) (lr_70_2 hL) ?_
            refine pv_aload_n dX1_givePart_110 rfl ?_
            obtain ⟨q84, F⟩ := F
            refine pv_getR 0 3 dX1_givePart_111 fl_X1_89 rfl q84 ?_
            refine pv_aload_n dX1_givePart_114 rfl ?_
            obtain ⟨q85, F⟩ := F
            refine pv_getR 0 3 dX1_givePart_115 fl_X1_89 rfl q85 ?_
            obtain ⟨k10, n10, q86, q86k, F⟩ := F
            refine pv_alen dX1_givePart_118 q86 q86k ?_
            refine pv_iconst (v := 0) (by decide) dX1_givePart_119 ?_
            refine pv_invV (As := [.ref (r x 3), .int (nI n10), .int 0]) (d' := d - 1) dX1_givePart_120 moX9_readText ml_X1_35 (lt_80 hL) (Or.inl ⟨_, rfl, rfl⟩) (Nat.le_of_ble_eq_true rfl) (by omega) (Nat.zero_le _) (Nat.zero_le _) F (fun v10 ty10 h43 r10 g10 F => ?_) rfl
            obtain ⟨w10, rfl, F⟩ := F
            obtain ⟨hL10, F⟩ := F
            refine pv_pc (pc' := 123) rfl ?_
            show pv_E Γ d kc ks mX1_givePart 123 [some (.ref 70), some (.ref x), some (.ref y), some (.int z), some (.int u), some (.ref 81)] [.int w10] ty10 h43 r10 g10 Q
            refine pv_invS (As := [.int w10]) (d' := d - 1) dX1_givePart_123 moX1_keepWithin ml_X1_92 (Nat.le_of_ble_eq_true rfl) (by omega) (Nat.zero_le _) (Nat.zero_le _) (ct_X1_keep (by omega)) (fun v ty' h' r' g' hq => ?_) rfl
            obtain ⟨e1, e2, e3, e4, e5⟩ := hq
            rw [e1, e2, e3, e4, e5]
            refine pv_pc (pc' := 126) rfl ?_
            show pv_E Γ d kc ks mX1_givePart 126 [some (.ref 70), some (.ref x), some (.ref y), some (.int z), some (.int u), some (.ref 81)] [.int (pt_cl w10)] ty10 h43 r10 g10 Q
            exact pv_ireturn dX1_givePart_126 rfl rfl F
        · have F := F.2 c11
          refine pv_aload_n dX1_givePart_68 rfl ?_
          obtain ⟨q87, F⟩ := F
          refine pv_getI 3 2 dX1_givePart_69 fl_X1_79 rfl q87 ?_
          refine pv_goto (tgt := 79) dX1_givePart_72 (by decide) ?_
          obtain ⟨q88, F⟩ := F
          obtain ⟨h44, eh44⟩ : ∃ h44 : pv_H, h44 = pv_up h36 81 (Int32.toNatClampNeg 3) (h36 y 2) := ⟨_, rfl⟩
          have F := F h44 eh44
          refine pv_iast dX1_givePart_79 (lt_81 hL) (by decide) q88 ?_
          refine pv_hE eh44 ?_
          refine pv_aload dX1_givePart_80 rfl ?_
          refine pv_iconst (v := 4) (by decide) dX1_givePart_82 ?_
          refine pv_aload_n dX1_givePart_83 rfl ?_
          obtain ⟨q89, F⟩ := F
          obtain ⟨q90, F⟩ := F
          refine pv_invV (As := []) (d' := d - 1) dX1_givePart_84 moX3_isCorner ml_X1_85 q89 (Or.inl ⟨_, rfl, rfl⟩) (Nat.le_of_ble_eq_true rfl) (by omega) (Nat.zero_le _) (Nat.zero_le _) (ct_X3_isCorner (by omega) q90) (fun v ty' h' r' g' hq => ?_) rfl
          obtain ⟨e1, e2, e3, e4, e5⟩ := hq
          rw [e1, e2, e3, e4, e5]
          refine pv_pc (pc' := 87) rfl ?_
          show pv_E Γ d kc ks mX1_givePart 87 [some (.ref 70), some (.ref x), some (.ref y), some (.int z), some (.int u), some (.ref 81)] [.int (pf_b (¬ h44 y 2 = -1)), .int 4, .ref 81] ty h44 r g Q
          refine pv_if_eq (tgt := 94) dX1_givePart_87 (by decide) (fun c13 => ?_) (fun c13 => ?_)
          · have F := F.1 c13
            refine pv_iconst (v := 0) (by decide) dX1_givePart_94 ?_
            obtain ⟨q91, F⟩ := F
            obtain ⟨h45, eh45⟩ : ∃ h45 : pv_H, h45 = pv_up h44 81 (Int32.toNatClampNeg 4) 0 := ⟨_, rfl⟩
            have F := F h45 eh45
            refine pv_iast dX1_givePart_95 (lt_81 hL) (by decide) q91 ?_
            refine pv_hE eh45 ?_
            refine pv_aload dX1_givePart_96 rfl ?_
            refine pv_iconst (v := 5) (by decide) dX1_givePart_98 ?_
            refine pv_iload dX1_givePart_99 rfl ?_
            refine pv_sipush (v := 365) (by decide) dX1_givePart_101 ?_
            refine pv_idiv (by decide) dX1_givePart_104 ?_
            obtain ⟨q92, F⟩ := F
            obtain ⟨h46, eh46⟩ : ∃ h46 : pv_H, h46 = pv_up h45 81 (Int32.toNatClampNeg 5) (u / 365) := ⟨_, rfl⟩
            have F := F h46 eh46
            refine pv_iast dX1_givePart_105 (lt_81 hL) (by decide) q92 ?_
            refine pv_hE eh46 ?_
            refine pv_aload_n dX1_givePart_106 rfl ?_
            refine pv_getRk 1 2 dX1_givePart_107 fl_X1_24 rfl (lt_70 hL) (lr_70_2 hL) ?_
            refine pv_aload_n dX1_givePart_110 rfl ?_
            obtain ⟨q93, F⟩ := F
            refine pv_getR 0 3 dX1_givePart_111 fl_X1_89 rfl q93 ?_
            refine pv_aload_n dX1_givePart_114 rfl ?_
            obtain ⟨q94, F⟩ := F
            refine pv_getR 0 3 dX1_givePart_115 fl_X1_89 rfl q94 ?_
            obtain ⟨k11, n11, q95, q95k, F⟩ := F
            refine pv_alen dX1_givePart_118 q95 q95k ?_
            refine pv_iconst (v := 0) (by decide) dX1_givePart_119 ?_
            refine pv_invV (As := [.ref (r x 3), .int (nI n11), .int 0]) (d' := d - 1) dX1_givePart_120 moX9_readText ml_X1_35 (lt_80 hL) (Or.inl ⟨_, rfl, rfl⟩) (Nat.le_of_ble_eq_true rfl) (by omega) (Nat.zero_le _) (Nat.zero_le _) F (fun v11 ty11 h47 r11 g11 F => ?_) rfl
            obtain ⟨w11, rfl, F⟩ := F
            obtain ⟨hL11, F⟩ := F
            refine pv_pc (pc' := 123) rfl ?_
            show pv_E Γ d kc ks mX1_givePart 123 [some (.ref 70), some (.ref x), some (.ref y), some (.int z), some (.int u), some (.ref 81)] [.int w11] ty11 h47 r11 g11 Q
            refine pv_invS (As := [.int w11]) (d' := d - 1) dX1_givePart_123 moX1_keepWithin ml_X1_92 (Nat.le_of_ble_eq_true rfl) (by omega) (Nat.zero_le _) (Nat.zero_le _) (ct_X1_keep (by omega)) (fun v ty' h' r' g' hq => ?_) rfl
            obtain ⟨e1, e2, e3, e4, e5⟩ := hq
            rw [e1, e2, e3, e4, e5]
            refine pv_pc (pc' := 126) rfl ?_
            show pv_E Γ d kc ks mX1_givePart 126 [some (.ref 70), some (.ref x), some (.ref y), some (.int z), some (.int u), some (.ref 81)] [.int (pt_cl w11)] ty11 h47 r11 g11 Q
            exact pv_ireturn dX1_givePart_126 rfl rfl F
          · have F := F.2 c13
            refine pv_iconst (v := 1) (by decide) dX1_givePart_90 ?_
            refine pv_goto (tgt := 95) dX1_givePart_91 (by decide) ?_
            obtain ⟨q96, F⟩ := F
            obtain ⟨h48, eh48⟩ : ∃ h48 : pv_H, h48 = pv_up h44 81 (Int32.toNatClampNeg 4) 1 := ⟨_, rfl⟩
            have F := F h48 eh48
            refine pv_iast dX1_givePart_95 (lt_81 hL) (by decide) q96 ?_
            refine pv_hE eh48 ?_
            refine pv_aload dX1_givePart_96 rfl ?_
            refine pv_iconst (v := 5) (by decide) dX1_givePart_98 ?_
            refine pv_iload dX1_givePart_99 rfl ?_
            refine pv_sipush (v := 365) (by decide) dX1_givePart_101 ?_
            refine pv_idiv (by decide) dX1_givePart_104 ?_
            obtain ⟨q97, F⟩ := F
            obtain ⟨h49, eh49⟩ : ∃ h49 : pv_H, h49 = pv_up h48 81 (Int32.toNatClampNeg 5) (u / 365) := ⟨_, rfl⟩
            have F := F h49 eh49
            refine pv_iast dX1_givePart_105 (lt_81 hL) (by decide) q97 ?_
            refine pv_hE eh49 ?_
            refine pv_aload_n dX1_givePart_106 rfl ?_
            refine pv_getRk 1 2 dX1_givePart_107 fl_X1_24 rfl (lt_70 hL) (lr_70_2 hL) ?_
            refine pv_aload_n dX1_givePart_110 rfl ?_
            obtain ⟨q98, F⟩ := F
            refine pv_getR 0 3 dX1_givePart_111 fl_X1_89 rfl q98 ?_
            refine pv_aload_n dX1_givePart_114 rfl ?_
            obtain ⟨q99, F⟩ := F
            refine pv_getR 0 3 dX1_givePart_115 fl_X1_89 rfl q99 ?_
            obtain ⟨k12, n12, q100, q100k, F⟩ := F
            refine pv_alen dX1_givePart_118 q100 q100k ?_
            refine pv_iconst (v := 0) (by decide) dX1_givePart_119 ?_
            refine pv_invV (As := [.ref (r x 3), .int (nI n12), .int 0]) (d' := d - 1) dX1_givePart_120 moX9_readText ml_X1_35 (lt_80 hL) (Or.inl ⟨_, rfl, rfl⟩) (Nat.le_of_ble_eq_true rfl) (by omega) (Nat.zero_le _) (Nat.zero_le _) F (fun v12 ty12 h50 r12 g12 F => ?_) rfl
            obtain ⟨w12, rfl, F⟩ := F
            obtain ⟨hL12, F⟩ := F
            refine pv_pc (pc' := 123) rfl ?_
            show pv_E Γ d kc ks mX1_givePart 123 [some (.ref 70), some (.ref x), some (.ref y), some (.int z), some (.int u), some (.ref 81)] [.int w12] ty12 h50 r12 g12 Q
            refine pv_invS (As := [.int w12]) (d' := d - 1) dX1_givePart_123 moX1_keepWithin ml_X1_92 (Nat.le_of_ble_eq_true rfl) (by omega) (Nat.zero_le _) (Nat.zero_le _) (ct_X1_keep (by omega)) (fun v ty' h' r' g' hq => ?_) rfl
            obtain ⟨e1, e2, e3, e4, e5⟩ := hq
            rw [e1, e2, e3, e4, e5]
            refine pv_pc (pc' := 126) rfl ?_
            show pv_E Γ d kc ks mX1_givePart 126 [some (.ref 70), some (.ref x), some (.ref y), some (.int z), some (.int u), some (.ref 81)] [.int (pt_cl w12)] ty12 h50 r12 g12 Q
            exact pv_ireturn dX1_givePart_126 rfl rfl F
      · have F := F.2 c10
        refine pv_aload_n dX1_givePart_41 rfl ?_
        obtain ⟨q101, F⟩ := F
        refine pv_getI 3 1 dX1_givePart_42 fl_X1_73 rfl q101 ?_
        refine pv_goto (tgt := 52) dX1_givePart_45 (by decide) ?_
        obtain ⟨q102, F⟩ := F
        obtain ⟨h51, eh51⟩ : ∃ h51 : pv_H, h51 = pv_up h34 81 (Int32.toNatClampNeg 1) (h34 y 1) := ⟨_, rfl⟩
        have F := F h51 eh51
        refine pv_iast dX1_givePart_52 (lt_81 hL) (by decide) q102 ?_
        refine pv_hE eh51 ?_
        refine pv_aload dX1_givePart_53 rfl ?_
        refine pv_iconst (v := 2) (by decide) dX1_givePart_55 ?_
        refine pv_aload_n dX1_givePart_56 rfl ?_
        obtain ⟨q103, F⟩ := F
        refine pv_getI 3 4 dX1_givePart_57 fl_X1_76 rfl q103 ?_
        obtain ⟨q104, F⟩ := F
        obtain ⟨h52, eh52⟩ : ∃ h52 : pv_H, h52 = pv_up h51 81 (Int32.toNatClampNeg 2) (h51 y 4) := ⟨_, rfl⟩
        have F := F h52 eh52
        refine pv_iast dX1_givePart_60 (lt_81 hL) (by decide) q104 ?_
        refine pv_hE eh52 ?_
        refine pv_aload dX1_givePart_61 rfl ?_
        refine pv_iconst (v := 3) (by decide) dX1_givePart_63 ?_
        refine pv_iload_n dX1_givePart_64 rfl ?_
        refine pv_if_eq (tgt := 75) dX1_givePart_65 (by decide) (fun c14 => ?_) (fun c14 => ?_)
        · have F := F.1 c14
          refine pv_aload_n dX1_givePart_75 rfl ?_
          obtain ⟨q105, F⟩ := F
          refine pv_getI 3 0 dX1_givePart_76 fl_X1_82 rfl q105 ?_
          obtain ⟨q106, F⟩ := F
          obtain ⟨h53, eh53⟩ : ∃ h53 : pv_H, h53 = pv_up h52 81 (Int32.toNatClampNeg 3) (h52 y 0) := ⟨_, rfl⟩
          have F := F h53 eh53
          refine pv_iast dX1_givePart_79 (lt_81 hL) (by decide) q106 ?_
          refine pv_hE eh53 ?_
          refine pv_aload dX1_givePart_80 rfl ?_
          refine pv_iconst (v := 4) (by decide) dX1_givePart_82 ?_
          refine pv_aload_n dX1_givePart_83 rfl ?_
          obtain ⟨q107, F⟩ := F
          obtain ⟨q108, F⟩ := F
          refine pv_invV (As := []) (d' := d - 1) dX1_givePart_84 moX3_isCorner ml_X1_85 q107 (Or.inl ⟨_, rfl, rfl⟩) (Nat.le_of_ble_eq_true rfl) (by omega) (Nat.zero_le _) (Nat.zero_le _) (ct_X3_isCorner (by omega) q108) (fun v ty' h' r' g' hq => ?_) rfl
          obtain ⟨e1, e2, e3, e4, e5⟩ := hq
          rw [e1, e2, e3, e4, e5]
          refine pv_pc (pc' := 87) rfl ?_
          show pv_E Γ d kc ks mX1_givePart 87 [some (.ref 70), some (.ref x), some (.ref y), some (.int z), some (.int u), some (.ref 81)] [.int (pf_b (¬ h53 y 2 = -1)), .int 4, .ref 81] ty h53 r g Q
          refine pv_if_eq (tgt := 94) dX1_givePart_87 (by decide) (fun c15 => ?_) (fun c15 => ?_)
          · have F := F.1 c15
            refine pv_iconst (v := 0) (by decide) dX1_givePart_94 ?_
            obtain ⟨q109, F⟩ := F
            obtain ⟨h54, eh54⟩ : ∃ h54 : pv_H, h54 = pv_up h53 81 (Int32.toNatClampNeg 4) 0 := ⟨_, rfl⟩
            have F := F h54 eh54
            refine pv_iast dX1_givePart_95 (lt_81 hL) (by decide) q109 ?_
            refine pv_hE eh54 ?_
            refine pv_aload dX1_givePart_96 rfl ?_
            refine pv_iconst (v := 5) (by decide) dX1_givePart_98 ?_
            refine pv_iload dX1_givePart_99 rfl ?_
            refine pv_sipush (v := 365) (by decide) dX1_givePart_101 ?_
            refine pv_idiv (by decide) dX1_givePart_104 ?_
            obtain ⟨q110, F⟩ := F
            obtain ⟨h55, eh55⟩ : ∃ h55 : pv_H, h55 = pv_up h54 81 (Int32.toNatClampNeg 5) (u / 365) := ⟨_, rfl⟩
            have F := F h55 eh55
            refine pv_iast dX1_givePart_105 (lt_81 hL) (by decide) q110 ?_
            refine pv_hE eh55 ?_
            refine pv_aload_n dX1_givePart_106 rfl ?_
            refine pv_getRk 1 2 dX1_givePart_107 fl_X1_24 rfl (lt_70 hL) (lr_70_2 hL) ?_
            refine pv_aload_n dX1_givePart_110 rfl ?_
            obtain ⟨q111, F⟩ := F
            refine pv_getR 0 3 dX1_givePart_111 fl_X1_89 rfl q111 ?_
            refine pv_aload_n dX1_givePart_114 rfl ?_
            obtain ⟨q112, F⟩ := F
            refine pv_getR 0 3 dX1_givePart_115 fl_X1_89 rfl q112 ?_
            obtain ⟨k13, n13, q113, q113k, F⟩ := F
            refine pv_alen dX1_givePart_118 q113 q113k ?_
            refine pv_iconst (v := 0) (by decide) dX1_givePart_119 ?_
            refine pv_invV (As := [.ref (r x 3), .int (nI n13), .int 0]) (d' := d - 1) dX1_givePart_120 moX9_readText ml_X1_35 (lt_80 hL) (Or.inl ⟨_, rfl, rfl⟩) (Nat.le_of_ble_eq_true rfl) (by omega) (Nat.zero_le _) (Nat.zero_le _) F (fun v13 ty13 h56 r13 g13 F => ?_) rfl
            obtain ⟨w13, rfl, F⟩ := F
            obtain ⟨hL13, F⟩ := F
            refine pv_pc (pc' := 123) rfl ?_
            show pv_E Γ d kc ks mX1_givePart 123 [some (.ref 70), some (.ref x), some (.ref y), some (.int z), some (.int u), some (.ref 81)] [.int w13] ty13 h56 r13 g13 Q
            refine pv_invS (As := [.int w13]) (d' := d - 1) dX1_givePart_123 moX1_keepWithin ml_X1_92 (Nat.le_of_ble_eq_true rfl) (by omega) (Nat.zero_le _) (Nat.zero_le _) (ct_X1_keep (by omega)) (fun v ty' h' r' g' hq => ?_) rfl
            obtain ⟨e1, e2, e3, e4, e5⟩ := hq
            rw [e1, e2, e3, e4, e5]
            refine pv_pc (pc' := 126) rfl ?_
            show pv_E Γ d kc ks mX1_givePart 126 [some (.ref 70), some (.ref x), some (.ref y), some (.int z), some (.int u), some (.ref 81)] [.int (pt_cl w13)] ty13 h56 r13 g13 Q
            exact pv_ireturn dX1_givePart_126 rfl rfl F
          · have F := F.2 c15
            refine pv_iconst (v := 1) (by decide) dX1_givePart_90 ?_
            refine pv_goto (tgt := 95) dX1_givePart_91 (by decide) ?_
            obtain ⟨q114, F⟩ := F
            obtain ⟨h57, eh57⟩ : ∃ h57 : pv_H, h57 = pv_up h53 81 (Int32.toNatClampNeg 4) 1 := ⟨_, rfl⟩
            have F := F h57 eh57
            refine pv_iast dX1_givePart_95 (lt_81 hL) (by decide) q114 ?_
            refine pv_hE eh57 ?_
            refine pv_aload dX1_givePart_96 rfl ?_
            refine pv_iconst (v := 5) (by decide) dX1_givePart_98 ?_
            refine pv_iload dX1_givePart_99 rfl ?_
            refine pv_sipush (v := 365) (by decide) dX1_givePart_101 ?_
            refine pv_idiv (by decide) dX1_givePart_104 ?_
            obtain ⟨q115, F⟩ := F
            obtain ⟨h58, eh58⟩ : ∃ h58 : pv_H, h58 = pv_up h57 81 (Int32.toNatClampNeg 5) (u / 365) := ⟨_, rfl⟩
            have F := F h58 eh58
            refine pv_iast dX1_givePart_105 (lt_81 hL) (by decide) q115 ?_
            refine pv_hE eh58 ?_
            refine pv_aload_n dX1_givePart_106 rfl ?_
            refine pv_getRk 1 2 dX1_givePart_107 fl_X1_24 rfl (lt_70 hL) (lr_70_2 hL) ?_
            refine pv_aload_n dX1_givePart_110 rfl ?_
            obtain ⟨q116, F⟩ := F
            refine pv_getR 0 3 dX1_givePart_111 fl_X1_89 rfl q116 ?_
            refine pv_aload_n dX1_givePart_114 rfl ?_
            obtain ⟨q117, F⟩ := F
            refine pv_getR 0 3 dX1_givePart_115 fl_X1_89 rfl q117 ?_
            obtain ⟨k14, n14, q118, q118k, F⟩ := F
            refine pv_alen dX1_givePart_118 q118 q118k ?_
            refine pv_iconst (v := 0) (by decide) dX1_givePart_119 ?_
            refine pv_invV (As := [.ref (r x 3), .int (nI n14), .int 0]) (d' := d - 1) dX1_givePart_120 moX9_readText ml_X1_35 (lt_80 hL) (Or.inl ⟨_, rfl, rfl⟩) (Nat.le_of_ble_eq_true rfl) (by omega) (Nat.zero_le _) (Nat.zero_le _) F (fun v14 ty14 h59 r14 g14 F => ?_) rfl
            obtain ⟨w14, rfl, F⟩ := F
            obtain ⟨hL14, F⟩ := F
            refine pv_pc (pc' := 123) rfl ?_
            show pv_E Γ d kc ks mX1_givePart 123 [some (.ref 70), some (.ref x), some (.ref y), some (.int z), some (.int u), some (.ref 81)] [.int w14] ty14 h59 r14 g14 Q
            refine pv_invS (As := [.int w14]) (d' := d - 1) dX1_givePart_123 moX1_keepWithin ml_X1_92 (Nat.le_of_ble_eq_true rfl) (by omega) (Nat.zero_le _) (Nat.zero_le _) (ct_X1_keep (by omega)) (fun v ty' h' r' g' hq => ?_) rfl
            obtain ⟨e1, e2, e3, e4, e5⟩ := hq
            rw [e1, e2, e3, e4, e5]
            refine pv_pc (pc' := 126) rfl ?_
            show pv_E Γ d kc ks mX1_givePart 126 [some (.ref 70), some (.ref x), some (.ref y), some (.int z), some (.int u), some (.ref 81)] [.int (pt_cl w14)] ty14 h59 r14 g14 Q
            exact pv_ireturn dX1_givePart_126 rfl rfl F
        · have F := F.2 c14
          refine pv_aload_n dX1_givePart_68 rfl ?_
          obtain ⟨q119, F⟩ := F
          refine pv_getI 3 2 dX1_givePart_69 fl_X1_79 rfl q119 ?_
          refine pv_goto (tgt := 79) dX1_givePart_72 (by decide) ?_
          obtain ⟨q120, F⟩ := F
          obtain ⟨h60, eh60⟩ : ∃ h60 : pv_H, h60 = pv_up h52 81 (Int32.toNatClampNeg 3) (h52 y 2) := ⟨_, rfl⟩
          have F := F h60 eh60
          refine pv_iast dX1_givePart_79 (lt_81 hL) (by decide) q120 ?_
          refine pv_hE eh60 ?_
          refine pv_aload dX1_givePart_80 rfl ?_
          refine pv_iconst (v := 4) (by decide) dX1_givePart_82 ?_
          refine pv_aload_n dX1_givePart_83 rfl ?_
          obtain ⟨q121, F⟩ := F
          obtain ⟨q122, F⟩ := F
          refine pv_invV (As := []) (d' := d - 1) dX1_givePart_84 moX3_isCorner ml_X1_85 q121 (Or.inl ⟨_, rfl, rfl⟩) (Nat.le_of_ble_eq_true rfl) (by omega) (Nat.zero_le _) (Nat.zero_le _) (ct_X3_isCorner (by omega) q122) (fun v ty' h' r' g' hq => ?_) rfl
          obtain ⟨e1, e2, e3, e4, e5⟩ := hq
          rw [e1, e2, e3, e4, e5]
          refine pv_pc (pc' := 87) rfl ?_
          show pv_E Γ d kc ks mX1_givePart 87 [some (.ref 70), some (.ref x), some (.ref y), some (.int z), some (.int u), some (.ref 81)] [.int (pf_b (¬ h60 y 2 = -1)), .int 4, .ref 81] ty h60 r g Q
          refine pv_if_eq (tgt := 94) dX1_givePart_87 (by decide) (fun c16 => ?_) (fun c16 => ?_)
          · have F := F.1 c16
            refine pv_iconst (v := 0) (by decide) dX1_givePart_94 ?_
            obtain ⟨q123, F⟩ := F
            obtain ⟨h61, eh61⟩ : ∃ h61 : pv_H, h61 = pv_up h60 81 (Int32.toNatClampNeg 4) 0 := ⟨_, rfl⟩
            have F := F h61 eh61
            refine pv_iast dX1_givePart_95 (lt_81 hL) (by decide) q123 ?_
            refine pv_hE eh61 ?_
            refine pv_aload dX1_givePart_96 rfl ?_
            refine pv_iconst (v := 5) (by decide) dX1_givePart_98 ?_
            refine pv_iload dX1_givePart_99 rfl ?_
            refine pv_sipush (v := 365) (by decide) dX1_givePart_101 ?_
            refine pv_idiv (by decide) dX1_givePart_104 ?_
            obtain ⟨q124, F⟩ := F
            obtain ⟨h62, eh62⟩ : ∃ h62 : pv_H, h62 = pv_up h61 81 (Int32.toNatClampNeg 5) (u / 365) := ⟨_, rfl⟩
            have F := F h62 eh62
            refine pv_iast dX1_givePart_105 (lt_81 hL) (by decide) q124 ?_
            refine pv_hE eh62 ?_
            refine pv_aload_n dX1_givePart_106 rfl ?_
            refine pv_getRk 1 2 dX1_givePart_107 fl_X1_24 rfl (lt_70 hL) (lr_70_2 hL) ?_
            refine pv_aload_n dX1_givePart_110 rfl ?_
            obtain ⟨q125, F⟩ := F
            refine pv_getR 0 3 dX1_givePart_111 fl_X1_89 rfl q125 ?_
            refine pv_aload_n dX1_givePart_114 rfl ?_
            obtain ⟨q126, F⟩ := F
            refine pv_getR 0 3 dX1_givePart_115 fl_X1_89 rfl q126 ?_
            obtain ⟨k15, n15, q127, q127k, F⟩ := F
            refine pv_alen dX1_givePart_118 q127 q127k ?_
            refine pv_iconst (v := 0) (by decide) dX1_givePart_119 ?_
            refine pv_invV (As := [.ref (r x 3), .int (nI n15), .int 0]) (d' := d - 1) dX1_givePart_120 moX9_readText ml_X1_35 (lt_80 hL) (Or.inl ⟨_, rfl, rfl⟩) (Nat.le_of_ble_eq_true rfl) (by omega) (Nat.zero_le _) (Nat.zero_le _) F (fun v15 ty15 h63 r15 g15 F => ?_) rfl
            obtain ⟨w15, rfl, F⟩ := F
            obtain ⟨hL15, F⟩ := F
            refine pv_pc (pc' := 123) rfl ?_
            show pv_E Γ d kc ks mX1_givePart 123 [some (.ref 70), some (.ref x), some (.ref y), some (.int z), some (.int u), some (.ref 81)] [.int w15] ty15 h63 r15 g15 Q
            refine pv_invS (As := [.int w15]) (d' := d - 1) dX1_givePart_123 moX1_keepWithin ml_X1_92 (Nat.le_of_ble_eq_true rfl) (by omega) (Nat.zero_le _) (Nat.zero_le _) (ct_X1_keep (by omega)) (fun v ty' h' r' g' hq => ?_) rfl
            obtain ⟨e1, e2, e3, e4, e5⟩ := hq
            rw [e1, e2, e3, e4, e5]
            refine pv_pc (pc' := 126) rfl ?_
            show pv_E Γ d kc ks mX1_givePart 126 [some (.ref 70), some (.ref x), some (.ref y), some (.int z), some (.int u), some (.ref 81)] [.int (pt_cl w15)] ty15 h63 r15 g15 Q
            exact pv_ireturn dX1_givePart_126 rfl rfl F
          · have F := F.2 c16
            refine pv_iconst (v := 1) (by decide) dX1_givePart_90 ?_
            refine pv_goto (tgt := 95) dX1_givePart_91 (by decide) ?_
            obtain ⟨q128, F⟩ := F
            obtain ⟨h64, eh64⟩ : ∃ h64 : pv_H, h64 = pv_up h60 81 (Int32.toNatClampNeg 4) 1 := ⟨_, rfl⟩
            have F := F h64 eh64
            refine pv_iast dX1_givePart_95 (lt_81 hL) (by decide) q128 ?_
            refine pv_hE eh64 ?_
            refine pv_aload dX1_givePart_96 rfl ?_
            refine pv_iconst (v := 5) (by decide) dX1_givePart_98 ?_
            refine pv_iload dX1_givePart_99 rfl ?_
            refine pv_sipush (v := 365) (by decide) dX1_givePart_101 ?_
            refine pv_idiv (by decide) dX1_givePart_104 ?_
            obtain ⟨q129, F⟩ := F
            obtain ⟨h65, eh65⟩ : ∃ h65 : pv_H, h65 = pv_up h64 81 (Int32.toNatClampNeg 5) (u / 365) := ⟨_, rfl⟩
            have F := F h65 eh65
            refine pv_iast dX1_givePart_105 (lt_81 hL) (by decide) q129 ?_
            refine pv_hE eh65 ?_
            refine pv_aload_n dX1_givePart_106 rfl ?_
            refine pv_getRk 1 2 dX1_givePart_107 fl_X1_24 rfl (lt_70 hL) (lr_70_2 hL) ?_
            refine pv_aload_n dX1_givePart_110 rfl ?_
            obtain ⟨q130, F⟩ := F
            refine pv_getR 0 3 dX1_givePart_111 fl_X1_89 rfl q130 ?_
            refine pv_aload_n dX1_givePart_114 rfl ?_
            obtain ⟨q131, F⟩ := F
            refine pv_getR 0 3 dX1_givePart_115 fl_X1_89 rfl q131 ?_
            obtain ⟨k16, n16, q132, q132k, F⟩ := F
            refine pv_alen dX1_givePart_118 q132 q132k ?_
            refine pv_iconst (v := 0) (by decide) dX1_givePart_119 ?_
            refine pv_invV (As := [.ref (r x 3), .int (nI n16), .int 0]) (d' := d - 1) dX1_givePart_120 moX9_readText ml_X1_35 (lt_80 hL) (Or.inl ⟨_, rfl, rfl⟩) (Nat.le_of_ble_eq_true rfl) (by omega) (Nat.zero_le _) (Nat.zero_le _) F (fun v16 ty16 h66 r16 g16 F => ?_) rfl
            obtain ⟨w16, rfl, F⟩ := F
            obtain ⟨hL16, F⟩ := F
            refine pv_pc (pc' := 123) rfl ?_
            show pv_E Γ d kc ks mX1_givePart 123 [some (.ref 70), some (.ref x), some (.ref y), some (.int z), some (.int u), some (.ref 81)] [.int w16] ty16 h66 r16 g16 Q
            refine pv_invS (As := [.int w16]) (d' := d - 1) dX1_givePart_123 moX1_keepWithin ml_X1_92 (Nat.le_of_ble_eq_true rfl) (by omega) (Nat.zero_le _) (Nat.zero_le _) (ct_X1_keep (by omega)) (fun v ty' h' r' g' hq => ?_) rfl
            obtain ⟨e1, e2, e3, e4, e5⟩ := hq
            rw [e1, e2, e3, e4, e5]
            refine pv_pc (pc' := 126) rfl ?_
            show pv_E Γ d kc ks mX1_givePart 126 [some (.ref 70), some (.ref x), some (.ref y), some (.int z), some (.int u), some (.ref 81)] [.int (pt_cl w16)] ty16 h66 r16 g16 Q
            exact pv_ireturn dX1_givePart_126 rfl rfl F
  · have F := F.2 c1
    refine pv_iconst (v := 0) (by decide) dX1_givePart_4 ?_
    exact pv_ireturn dX1_givePart_5 rfl rfl F
set_option maxRecDepth 20000 in
set_option maxHeartbeats 4000000 in
theorem sg_X12_part_0 {Γ : pv_C} {d kc ks : Nat} {ty : pv_T} {h : pv_H} {r : pv_R} {g : pv_G} {Q : pv_Q} (x : Int32) (y : Int32) (z : Int32) (u : Int32) (hd : 1 ≤ d) (hL : pv_Lay ty r) (F : ((z = 0 → vp_in y 60 ∧ vp_in 102 128 ∧ (∀ h1 : pv_H, h1 = pv_up h 352 (Int32.toNatClampNeg 102) (h 337 (Int32.toNatClampNeg y)) → ((z = 0 → vp_in y 60 ∧ vp_in 103 128 ∧ (∀ h2 : pv_H, h2 = pv_up h1 352 (Int32.toNatClampNeg 103) (h1 335 (Int32.toNatClampNeg y)) → vp_in y 60 ∧ vp_in 118 128 ∧ (∀ h3 : pv_H, h3 = pv_up h2 352 (Int32.toNatClampNeg 118) (h2 338 (Int32.toNatClampNeg y)) → ((z = 0 → vp_in y 60 ∧ vp_in 115 128 ∧ (∀ h4 : pv_H, h4 = pv_up h3 352 (Int32.toNatClampNeg 115) (h3 336 (Int32.toNatClampNeg y)) → vp_in y 60 ∧ ((0 ≤ (h4 336 (Int32.toNatClampNeg y)) → vp_in 99 128 ∧ (∀ h5 : pv_H, h5 = pv_up h4 352 (Int32.toNatClampNeg 99) 1 → vp_in 121 128 ∧ (∀ h6 : pv_H, h6 = pv_up h5 352 (Int32.toNatClampNeg 121) (u / 365) → pv_CJ Γ (d - 1) mX12_says [.ref 200, .int x] ty h6 r g (fun (w1 : Int32) (h7 : pv_H) => Q (some (.int (pt_cl w1))) ty h7 r g)))) ∧ (¬ 0 ≤ (h4 336 (Int32.toNatClampNeg y)) → vp_in 99 128 ∧ (∀ h8 : pv_H, h8 = pv_up h4 352 (Int32.toNatClampNeg 99) 0 → vp_in 121 128 ∧ (∀ h9 : pv_H, h9 = pv_up h8 352 (Int32.toNatClampNeg 121) (u / 365) → pv_CJ Γ (d - 1) mX12_says [.ref 200, .int x] ty h9 r g (fun (w2 : Int32) (h10 : pv_H) => Q (some (.int (pt_cl w2))) ty h10 r g))))))) ∧ (¬ z = 0 → vp_in y 60 ∧ vp_in 115 128 ∧ (∀ h11 : pv_H, h11 = pv_up h3 352 (Int32.toNatClampNeg 115) (h3 334 (Int32.toNatClampNeg y)) → vp_in y 60 ∧ ((0 ≤ (h11 336 (Int32.toNatClampNeg y)) → vp_in 99 128 ∧ (∀ h12 : pv_H, h12 = pv_up h11 352 (Int32.toNatClampNeg 99) 1 → vp_in 121 128 ∧ (∀ h13 : pv_H, h13 = pv_up h12 352 (Int32.toNatClampNeg 121) (u / 365) → pv_CJ Γ (d - 1) mX12_says [.ref 200, .int x] ty h13 r g (fun (w3 : Int32) (h14 : pv_H) => Q (some (.int (pt_cl w3))) ty h14 r g)))) ∧ (¬ 0 ≤ (h11 336 (Int32.toNatClampNeg y)) → vp_in 99 128 ∧ (∀ h15 : pv_H, h15 = pv_up h11 352 (Int32.toNatClampNeg 99) 0 → vp_in 121 128 ∧ (∀ h16 : pv_H, h16 = pv_up h15 352 (Int32.toNatClampNeg 121) (u / 365) → pv_CJ Γ (d - 1) mX12_says [.ref 200, .int x] ty h16 r g (fun (w4 : Int32) (h17 : pv_H) => Q (some (.int (pt_cl w4))) ty h17 r g))))))))))) ∧ (¬ z = 0 → vp_in y 60 ∧ vp_in 103 128 ∧ (∀ h18 : pv_H, h18 = pv_up h1 352 (Int32.toNatClampNeg 103) (h1 337 (Int32.toNatClampNeg y)) → vp_in y 60 ∧ vp_in 118 128 ∧ (∀ h19 : pv_H, h19 = pv_up h18 352 (Int32.toNatClampNeg 118) (h18 338 (Int32.toNatClampNeg y)) → ((z = 0 → vp_in y 60 ∧ vp_in 115 128 ∧ (∀ h20 : pv_H, h20 = pv_up h19 352 (Int32.toNatClampNeg 115) (h19 336 (Int32.toNatClampNeg y)) → vp_in y 60 ∧ ((0 ≤ (h20 336 (Int32.toNatClampNeg y)) → vp_in 99 128 ∧ (∀ h21 : pv_H, h21 = pv_up h20 352 (Int32.toNatClampNeg 99) 1 → vp_in 121 128 ∧ (∀ h22 : pv_H, h22 = pv_up h21 352 (Int32.toNatClampNeg 121) (u / 365) → pv_CJ Γ (d - 1) mX12_says [.ref 200, .int x] ty h22 r g (fun (w5 : Int32) (h23 : pv_H) => Q (some (.int (pt_cl w5))) ty h23 r g)))) ∧ (¬ 0 ≤ (h20 336 (Int32.toNatClampNeg y)) → vp_in 99 128 ∧ (∀ h24 : pv_H, h24 = pv_up h20 352 (Int32.toNatClampNeg 99) 0 → vp_in 121 128 ∧ (∀ h25 : pv_H, h25 = pv_up h24 352 (Int32.toNatClampNeg 121) (u / 365) → pv_CJ Γ (d - 1) mX12_says [.ref 200, .int x] ty h25 r g (fun (w6 : Int32) (h26 : pv_H) => Q (some (.int (pt_cl w6))) ty h26 r g))))))) ∧ (¬ z = 0 → vp_in y 60 ∧ vp_in 115 128 ∧ (∀ h27 : pv_H, h27 = pv_up h19 352 (Int32.toNatClampNeg 115) (h19 334 (Int32.toNatClampNeg y)) → vp_in y 60 ∧ ((0 ≤ (h27 336 (Int32.toNatClampNeg y)) → vp_in 99 128 ∧ (∀ h28 : pv_H, h28 = pv_up h27 352 (Int32.toNatClampNeg 99) 1 → vp_in 121 128 ∧ (∀ h29 : pv_H, h29 = pv_up h28 352 (Int32.toNatClampNeg 121) (u / 365) → pv_CJ Γ (d - 1) mX12_says [.ref 200, .int x] ty h29 r g (fun (w7 : Int32) (h30 : pv_H) => Q (some (.int (pt_cl w7))) ty h30 r g)))) ∧ (¬ 0 ≤ (h27 336 (Int32.toNatClampNeg y)) → vp_in 99 128 ∧ (∀ h31 : pv_H, h31 = pv_up h27 352 (Int32.toNatClampNeg 99) 0 → vp_in 121 128 ∧ (∀ h32 : pv_H, h32 = pv_up h31 352 (Int32.toNatClampNeg 121) (u / 365) → pv_CJ Γ (d - 1) mX12_says [.ref 200, .int x] ty h32 r g (fun (w8 : Int32) (h33 : pv_H) => Q (some (.int (pt_cl w8))) ty h33 r g)))))))))))))) ∧ (¬ z = 0 → vp_in y 60 ∧ vp_in 102 128 ∧ (∀ h34 : pv_H, h34 = pv_up h 352 (Int32.toNatClampNeg 102) (h 335 (Int32.toNatClampNeg y)) → ((z = 0 → vp_in y 60 ∧ vp_in 103 128 ∧ (∀ h35 : pv_H, h35 = pv_up h34 352 (Int32.toNatClampNeg 103) (h34 335 (Int32.toNatClampNeg y)) → vp_in y 60 ∧ vp_in 118 128 ∧ (∀ h36 : pv_H, h36 = pv_up h35 352 (Int32.toNatClampNeg 118) (h35 338 (Int32.toNatClampNeg y)) → ((z = 0 → vp_in y 60 ∧ vp_in 115 128 ∧ (∀ h37 : pv_H, h37 = pv_up h36 352 (Int32.toNatClampNeg 115) (h36 336 (Int32.toNatClampNeg y)) → vp_in y 60 ∧ ((0 ≤ (h37 336 (Int32.toNatClampNeg y)) → vp_in 99 128 ∧ (∀ h38 : pv_H, h38 = pv_up h37 352 (Int32.toNatClampNeg 99) 1 → vp_in 121 128 ∧ (∀ h39 : pv_H, h39 = pv_up h38 352 (Int32.toNatClampNeg 121) (u / 365) → pv_CJ Γ (d - 1) mX12_says [.ref 200, .int x] ty h39 r g (fun (w9 : Int32) (h40 : pv_H) => Q (some (.int (pt_cl w9))) ty h40 r g)))) ∧ (¬ 0 ≤ (h37 336 (Int32.toNatClampNeg y)) → vp_in 99 128 ∧ (∀ h41 : pv_H, h41 = pv_up h37 352 (Int32.toNatClampNeg 99) 0 → vp_in 121 128 ∧ (∀ h42 : pv_H, h42 = pv_up h41 352 (Int32.toNatClampNeg 121) (u / 365) → pv_CJ Γ (d - 1) mX12_says [.ref 200, .int x] ty h42 r g (fun (w10 : Int32) (h43 : pv_H) => Q (some (.int (pt_cl w10))) ty h43 r g))))))) ∧ (¬ z = 0 → vp_in y 60 ∧ vp_in 115 128 ∧ (∀ h44 : pv_H, h44 = pv_up h36 352 (Int32.toNatClampNeg 115) (h36 334 (Int32.toNatClampNeg y)) → vp_in y 60 ∧ ((0 ≤ (h44 336 (Int32.toNatClampNeg y)) → vp_in 99 128 ∧ (∀ h45 : pv_H, h45 = pv_up h44 352 (Int32.toNatClampNeg 99) 1 → vp_in 121 128 ∧ (∀ h46 : pv_H, h46 = pv_up h45 352 (Int32.toNatClampNeg 121) (u / 365) → pv_CJ Γ (d - 1) mX12_says [.ref 200, .int x] ty h46 r g (fun (w11 : Int32) (h47 : pv_H) => Q (some (.int (pt_cl w11))) ty h47 r g)))) ∧ (¬ 0 ≤ (h44 336 (Int32.toNatClampNeg y)) → vp_in 99 128 ∧ (∀ h48 : pv_H, h48 = pv_up h44 352 (Int32.toNatClampNeg 99) 0 → vp_in 121 128 ∧ (∀ h49 : pv_H, h49 = pv_up h48 352 (Int32.toNatClampNeg 121) (u / 365) → pv_CJ Γ (d - 1) mX12_says [.ref 200, .int x] ty h49 r g (fun (w12 : Int32) (h50 : pv_H) => Q (some (.int (pt_cl w12))) ty h50 r g))))))))))) ∧ (¬ z = 0 → vp_in y 60 ∧ vp_in 103 128 ∧ (∀ h51 : pv_H, h51 = pv_up h34 352 (Int32.toNatClampNeg 103) (h34 337 (Int32.toNatClampNeg y)) → vp_in y 60 ∧ vp_in 118 128 ∧ (∀ h52 : pv_H, h52 = pv_up h51 352 (Int32.toNatClampNeg 118) (h51 338 (Int32.toNatClampNeg y)) → ((z = 0 → vp_in y 60 ∧ vp_in 115 128 ∧ (∀ h53 : pv_H, h53 = pv_up h52 352 (Int32.toNatClampNeg 115) (h52 336 (Int32.toNatClampNeg y)) → vp_in y 60 ∧ ((0 ≤ (h53 336 (Int32.toNatClampNeg y)) → vp_in 99 128 ∧ (∀ h54 : pv_H, h54 = pv_up h53 352 (Int32.toNatClampNeg 99) 1 → vp_in 121 128 ∧ (∀ h55 : pv_H, h55 = pv_up h54 352 (Int32.toNatClampNeg 121) (u / 365) → pv_CJ Γ (d - 1) mX12_says [.ref 200, .int x] ty h55 r g (fun (w13 : Int32) (h56 : pv_H) => Q (some (.int (pt_cl w13))) ty h56 r g)))) ∧ (¬ 0 ≤ (h53 336 (Int32.toNatClampNeg y)) → vp_in 99 128 ∧ (∀ h57 : pv_H, h57 = pv_up h53 352 (Int32.toNatClampNeg 99) 0 → vp_in 121 128 ∧ (∀ h58 : pv_H, h58 = pv_up h57 352 (Int32.toNatClampNeg 121) (u / 365) → pv_CJ Γ (d - 1) mX12_says [.ref 200, .int x] ty h58 r g (fun (w14 : Int32) (h59 : pv_H) => Q (some (.int (pt_cl w14))) ty h59 r g))))))) ∧ (¬ z = 0 → vp_in y 60 ∧ vp_in 115 128 ∧ (∀ h60 : pv_H, h60 = pv_up h52 352 (Int32.toNatClampNeg 115) (h52 334 (Int32.toNatClampNeg y)) → vp_in y 60 ∧ ((0 ≤ (h60 336 (Int32.toNatClampNeg y)) → vp_in 99 128 ∧ (∀ h61 : pv_H, h61 = pv_up h60 352 (Int32.toNatClampNeg 99) 1 → vp_in 121 128 ∧ (∀ h62 : pv_H, h62 = pv_up h61 352 (Int32.toNatClampNeg 121) (u / 365) → pv_CJ Γ (d - 1) mX12_says [.ref 200, .int x] ty h62 r g (fun (w15 : Int32) (h63 : pv_H) => Q (some (.int (pt_cl w15))) ty h63 r g)))) ∧ (¬ 0 ≤ (h60 336 (Int32.toNatClampNeg y)) → vp_in 99 128 ∧ (∀ h64 : pv_H, h64 = pv_up h60 352 (Int32.toNatClampNeg 99) 0 → vp_in 121 128 ∧ (∀ h65 : pv_H, h65 = pv_up h64 352 (Int32.toNatClampNeg 121) (u / 365) → pv_CJ Γ (d - 1) mX12_says [.ref 200, .int x] ty h65 r g (fun (w16 : Int32) (h66 : pv_H) => Q (some (.int (pt_cl w16))) ty h66 r g)))))))))))))))) : pv_E Γ d kc ks mX12_part 0 [some (.ref 200), some (.int x), some (.int y), some (.int z), some (.int u)] [] ty h r g Q := by
  refine pv_aload_n dX12_part_0 rfl ?_
  refine pv_getRk 12 52 dX12_part_1 fl_X12_124 rfl (lt_200 hL) (lr_200_52 hL) ?_
  refine pv_bipush (v := 102) (by decide) dX12_part_4 ?_
  refine pv_iload_n dX12_part_6 rfl ?_
  refine pv_if_eq (tgt := 19) dX12_part_7 (by decide) (fun c1 => ?_) (fun c1 => ?_)
  · have F := F.1 c1
    refine pv_aload_n dX12_part_19 rfl ?_
    refine pv_getRk 12 37 dX12_part_20 fl_X12_93 rfl (lt_200 hL) (lr_200_37 hL) ?_
    refine pv_iload_n dX12_part_23 rfl ?_
    obtain ⟨q1, F⟩ := F
    refine pv_iald dX12_part_24 (lt_337 hL) q1 ?_
    obtain ⟨q2, F⟩ := F
    obtain ⟨h1, eh1⟩ : ∃ h1 : pv_H, h1 = pv_up h 352 (Int32.toNatClampNeg 102) (h 337 (Int32.toNatClampNeg y)) := ⟨_, rfl⟩
    have F := F h1 eh1
    refine pv_iast dX12_part_25 (lt_352 hL) (by decide) q2 ?_
    refine pv_hE eh1 ?_
    refine pv_aload_n dX12_part_26 rfl ?_
    refine pv_getRk 12 52 dX12_part_27 fl_X12_124 rfl (lt_200 hL) (lr_200_52 hL) ?_
    refine pv_bipush (v := 103) (by decide) dX12_part_30 ?_
    refine pv_iload_n dX12_part_32 rfl ?_
    refine pv_if_eq (tgt := 45) dX12_part_33 (by decide) (fun c2 => ?_) (fun c2 => ?_)
    · have F := F.1 c2
      refine pv_aload_n dX12_part_45 rfl ?_
      refine pv_getRk 12 35 dX12_part_46 fl_X12_87 rfl (lt_200 hL) (lr_200_35 hL) ?_
      refine pv_iload_n dX12_part_49 rfl ?_
      obtain ⟨q3, F⟩ := F
      refine pv_iald dX12_part_50 (lt_335 hL) q3 ?_
      obtain ⟨q4, F⟩ := F
      obtain ⟨h2, eh2⟩ : ∃ h2 : pv_H, h2 = pv_up h1 352 (Int32.toNatClampNeg 103) (h1 335 (Int32.toNatClampNeg y)) := ⟨_, rfl⟩
      have F := F h2 eh2
      refine pv_iast dX12_part_51 (lt_352 hL) (by decide) q4 ?_
      refine pv_hE eh2 ?_
      refine pv_aload_n dX12_part_52 rfl ?_
      refine pv_getRk 12 52 dX12_part_53 fl_X12_124 rfl (lt_200 hL) (lr_200_52 hL) ?_
      refine pv_bipush (v := 118) (by decide) dX12_part_56 ?_
      refine pv_aload_n dX12_part_58 rfl ?_
      refine pv_getRk 12 38 dX12_part_59 fl_X12_96 rfl (lt_200 hL) (lr_200_38 hL) ?_
      refine pv_iload_n dX12_part_62 rfl ?_
      refine pv_pc (pc' := 63) rfl ?_
      obtain ⟨q5, F⟩ := F
      refine pv_iald dX12_part_63 (lt_338 hL) q5 ?_
      obtain ⟨q6, F⟩ := F
      obtain ⟨h3, eh3⟩ : ∃ h3 : pv_H, h3 = pv_up h2 352 (Int32.toNatClampNeg 118) (h2 338 (Int32.toNatClampNeg y)) := ⟨_, rfl⟩
      have F := F h3 eh3
      refine pv_iast dX12_part_64 (lt_352 hL) (by decide) q6 ?_
      refine pv_hE eh3 ?_
      refine pv_aload_n dX12_part_65 rfl ?_
      refine pv_getRk 12 52 dX12_part_66 fl_X12_124 rfl (lt_200 hL) (lr_200_52 hL) ?_
      refine pv_bipush (v := 115) (by decide) dX12_part_69 ?_
      refine pv_iload_n dX12_part_71 rfl ?_
      refine pv_if_eq (tgt := 84) dX12_part_72 (by decide) (fun c3 => ?_) (fun c3 => ?_)
      · have F := F.1 c3
        refine pv_aload_n dX12_part_84 rfl ?_
        refine pv_getRk 12 36 dX12_part_85 fl_X12_90 rfl (lt_200 hL) (lr_200_36 hL) ?_
        refine pv_iload_n dX12_part_88 rfl ?_
        obtain ⟨q7, F⟩ := F
        refine pv_iald dX12_part_89 (lt_336 hL) q7 ?_
        obtain ⟨q8, F⟩ := F
        obtain ⟨h4, eh4⟩ : ∃ h4 : pv_H, h4 = pv_up h3 352 (Int32.toNatClampNeg 115) (h3 336 (Int32.toNatClampNeg y)) := ⟨_, rfl⟩
        have F := F h4 eh4
        refine pv_iast dX12_part_90 (lt_352 hL) (by decide) q8 ?_
        refine pv_hE eh4 ?_
        refine pv_aload_n dX12_part_91 rfl ?_
        refine pv_getRk 12 52 dX12_part_92 fl_X12_124 rfl (lt_200 hL) (lr_200_52 hL) ?_
        refine pv_bipush (v := 99) (by decide) dX12_part_95 ?_
        refine pv_aload_n dX12_part_97 rfl ?_
        refine pv_getRk 12 36 dX12_part_98 fl_X12_90 rfl (lt_200 hL) (lr_200_36 hL) ?_
        refine pv_iload_n dX12_part_101 rfl ?_
        refine pv_pc (pc' := 102) rfl ?_
        obtain ⟨q9, F⟩ := F
        refine pv_iald dX12_part_102 (lt_336 hL) q9 ?_
        refine pv_if_ge (tgt := 110) dX12_part_103 (by decide) (fun c4 => ?_) (fun c4 => ?_)
        · have F := F.1 c4
          refine pv_iconst (v := 1) (by decide) dX12_part_110 ?_
          obtain ⟨q10, F⟩ := F
          obtain ⟨h5, eh5⟩ : ∃ h5 : pv_H, h5 = pv_up h4 352 (Int32.toNatClampNeg 99) 1 := ⟨_, rfl⟩
          have F := F h5 eh5
          refine pv_iast dX12_part_111 (lt_352 hL) (by decide) q10 ?_
          refine pv_hE eh5 ?_
          refine pv_aload_n dX12_part_112 rfl ?_
          refine pv_getRk 12 52 dX12_part_113 fl_X12_124 rfl (lt_200 hL) (lr_200_52 hL) ?_
          refine pv_bipush (v := 121) (by decide) dX12_part_116 ?_
          refine pv_iload dX12_part_118 rfl ?_
          refine pv_sipush (v := 365) (by decide) dX12_part_120 ?_
          refine pv_idiv (by decide) dX12_part_123 ?_
          refine pv_pc (pc' := 124) rfl ?_
          obtain ⟨q11, F⟩ := F
          obtain ⟨h6, eh6⟩ : ∃ h6 : pv_H, h6 = pv_up h5 352 (Int32.toNatClampNeg 121) (u / 365) := ⟨_, rfl⟩
          have F := F h6 eh6
          refine pv_iast dX12_part_124 (lt_352 hL) (by decide) q11 ?_
          refine pv_hE eh6 ?_
          refine pv_aload_n dX12_part_125 rfl ?_
          refine pv_iload_n dX12_part_126 rfl ?_
          refine pv_invV (As := [.int x]) (d' := d - 1) dX12_part_127 moX12_says ml_X12_297 (lt_200 hL) (Or.inl ⟨_, rfl, rfl⟩) (Nat.le_of_ble_eq_true rfl) (by omega) (Nat.zero_le _) (Nat.zero_le _) F (fun v ty' h7 r' g' hq => ?_) rfl
          obtain ⟨e2, e4, e5, w1, e1, F⟩ := hq
          rw [e1, e2, e4, e5]
          refine pv_pc (pc' := 130) rfl ?_
          show pv_E Γ d kc ks mX12_part 130 [some (.ref 200), some (.int x), some (.int y), some (.int z), some (.int u)] [.int w1] ty h7 r g Q
          refine pv_invS (As := [.int w1]) (d' := d - 1) dX12_part_130 moX12_clamp ml_X12_300 (Nat.le_of_ble_eq_true rfl) (by omega) (Nat.zero_le _) (Nat.zero_le _) (ct_X12_clamp (by omega)) (fun v ty' h' r' g' hq => ?_) rfl
          obtain ⟨e1, e2, e3, e4, e5⟩ := hq
          rw [e1, e2, e3, e4, e5]
          refine pv_pc (pc' := 133) rfl ?_
          show pv_E Γ d kc ks mX12_part 133 [some (.ref 200), some (.int x), some (.int y), some (.int z), some (.int u)] [.int (pt_cl w1)] ty h7 r g Q
          exact pv_ireturn dX12_part_133 rfl rfl F
        · have F := F.2 c4
          refine pv_iconst (v := 0) (by decide) dX12_part_106 ?_
          refine pv_goto (tgt := 111) dX12_part_107 (by decide) ?_
          obtain ⟨q12, F⟩ := F
          obtain ⟨h8, eh8⟩ : ∃ h8 : pv_H, h8 = pv_up h4 352 (Int32.toNatClampNeg 99) 0 := ⟨_, rfl⟩
          have F := F h8 eh8
          refine pv_iast dX12_part_111 (lt_352 hL) (by decide) q12 ?_
          refine pv_hE eh8 ?_
          refine pv_aload_n dX12_part_112 rfl ?_
          refine pv_getRk 12 52 dX12_part_113 fl_X12_124 rfl (lt_200 hL) (lr_200_52 hL) ?_
          refine pv_bipush (v := 121) (by decide) dX12_part_116 ?_
          refine pv_iload dX12_part_118 rfl ?_
          refine pv_sipush (v := 365) (by decide) dX12_part_120 ?_
          refine pv_idiv (by decide) dX12_part_123 ?_
          refine pv_pc (pc' := 124) rfl ?_
          obtain ⟨q13, F⟩ := F
          obtain ⟨h9, eh9⟩ : ∃ h9 : pv_H, h9 = pv_up h8 352 (Int32.toNatClampNeg 121) (u / 365) := ⟨_, rfl⟩
          have F := F h9 eh9
          refine pv_iast dX12_part_124 (lt_352 hL) (by decide) q13 ?_
          refine pv_hE eh9 ?_
          refine pv_aload_n dX12_part_125 rfl ?_
          refine pv_iload_n dX12_part_126 rfl ?_
          refine pv_invV (As := [.int x]) (d' := d - 1) dX12_part_127 moX12_says ml_X12_297 (lt_200 hL) (Or.inl ⟨_, rfl, rfl⟩) (Nat.le_of_ble_eq_true rfl) (by omega) (Nat.zero_le _) (Nat.zero_le _) F (fun v ty' h10 r' g' hq => ?_) rfl
          obtain ⟨e2, e4, e5, w2, e1, F⟩ := hq
          rw [e1, e2, e4, e5]
          refine pv_pc (pc' := 130) rfl ?_
          show pv_E Γ d kc ks mX12_part 130 [some (.ref 200), some (.int x), some (.int y), some (.int z), some (.int u)] [.int w2] ty h10 r g Q
          refine pv_invS (As := [.int w2]) (d' := d - 1) dX12_part_130 moX12_clamp ml_X12_300 (Nat.le_of_ble_eq_true rfl) (by omega) (Nat.zero_le _) (Nat.zero_le _) (ct_X12_clamp (by omega)) (fun v ty' h' r' g' hq => ?_) rfl
          obtain ⟨e1, e2, e3, e4, e5⟩ := hq
          rw [e1, e2, e3, e4, e5]
          refine pv_pc (pc' := 133) rfl ?_
          show pv_E Γ d kc ks mX12_part 133 [some (.ref 200), some (.int x), some (.int y), some (.int z), some (.int u)] [.int (pt_cl w2)] ty h10 r g Q
          exact pv_ireturn dX12_part_133 rfl rfl F
      · have F := F.2 c3
        refine pv_aload_n dX12_part_75 rfl ?_
        refine pv_getRk 12 34 dX12_part_76 fl_X12_84 rfl (lt_200 hL) (lr_200_34 hL) ?_
        refine pv_iload_n dX12_part_79 rfl ?_
        obtain ⟨q14, F⟩ := F
        refine pv_iald dX12_part_80 (lt_334 hL) q14 ?_
        refine pv_goto (tgt := 90) dX12_part_81 (by decide) ?_
        obtain ⟨q15, F⟩ := F
        obtain ⟨h11, eh11⟩ : ∃ h11 : pv_H, h11 = pv_up h3 352 (Int32.toNatClampNeg 115) (h3 334 (Int32.toNatClampNeg y)) := ⟨_, rfl⟩
        have F := F h11 eh11
        refine pv_iast dX12_part_90 (lt_352 hL) (by decide) q15 ?_
        refine pv_hE eh11 ?_
        refine pv_aload_n dX12_part_91 rfl ?_
        refine pv_getRk 12 52 dX12_part_92 fl_X12_124 rfl (lt_200 hL) (lr_200_52 hL) ?_
        refine pv_bipush (v := 99) (by decide) dX12_part_95 ?_
        refine pv_aload_n dX12_part_97 rfl ?_
        refine pv_getRk 12 36 dX12_part_98 fl_X12_90 rfl (lt_200 hL) (lr_200_36 hL) ?_
        refine pv_iload_n dX12_part_101 rfl ?_
        refine pv_pc (pc' := 102) rfl ?_
        obtain ⟨q16, F⟩ := F
        refine pv_iald dX12_part_102 (lt_336 hL) q16 ?_
        refine pv_if_ge (tgt := 110) dX12_part_103 (by decide) (fun c5 => ?_) (fun c5 => ?_)
        · have F := F.1 c5
          refine pv_iconst (v := 1) (by decide) dX12_part_110 ?_
          obtain ⟨q17, F⟩ := F
          obtain ⟨h12, eh12⟩ : ∃ h12 : pv_H, h12 = pv_up h11 352 (Int32.toNatClampNeg 99) 1 := ⟨_, rfl⟩
          have F := F h12 eh12
          refine pv_iast dX12_part_111 (lt_352 hL) (by decide) q17 ?_
          refine pv_hE eh12 ?_
          refine pv_aload_n dX12_part_112 rfl ?_
          refine pv_getRk 12 52 dX12_part_113 fl_X12_124 rfl (lt_200 hL) (lr_200_52 hL) ?_
          refine pv_bipush (v := 121) (by decide) dX12_part_116 ?_
          refine pv_iload dX12_part_118 rfl ?_
          refine pv_sipush (v := 365) (by decide) dX12_part_120 ?_
          refine pv_idiv (by decide) dX12_part_123 ?_
          refine pv_pc (pc' := 124) rfl ?_
          obtain ⟨q18, F⟩ := F
          obtain ⟨h13, eh13⟩ : ∃ h13 : pv_H, h13 = pv_up h12 352 (Int32.toNatClampNeg 121) (u / 365) := ⟨_, rfl⟩
          have F := F h13 eh13
          refine pv_iast dX12_part_124 (lt_352 hL) (by decide) q18 ?_
          refine pv_hE eh13 ?_
          refine pv_aload_n dX12_part_125 rfl ?_
          refine pv_iload_n dX12_part_126 rfl ?_
          refine pv_invV (As := [.int x]) (d' := d - 1) dX12_part_127 moX12_says ml_X12_297 (lt_200 hL) (Or.inl ⟨_, rfl, rfl⟩) (Nat.le_of_ble_eq_true rfl) (by omega) (Nat.zero_le _) (Nat.zero_le _) F (fun v ty' h14 r' g' hq => ?_) rfl
          obtain ⟨e2, e4, e5, w3, e1, F⟩ := hq
          rw [e1, e2, e4, e5]
          refine pv_pc (pc' := 130) rfl ?_
          show pv_E Γ d kc ks mX12_part 130 [some (.ref 200), some (.int x), some (.int y), some (.int z), some (.int u)] [.int w3] ty h14 r g Q
          refine pv_invS (As := [.int w3]) (d' := d - 1) dX12_part_130 moX12_clamp ml_X12_300 (Nat.le_of_ble_eq_true rfl) (by omega) (Nat.zero_le _) (Nat.zero_le _) (ct_X12_clamp (by omega)) (fun v ty' h' r' g' hq => ?_) rfl
          obtain ⟨e1, e2, e3, e4, e5⟩ := hq
          rw [e1, e2, e3, e4, e5]
          refine pv_pc (pc' := 133) rfl ?_
          show pv_E Γ d kc ks mX12_part 133 [some (.ref 200), some (.int x), some (.int y), some (.int z), some (.int u)] [.int (pt_cl w3)] ty h14 r g Q
          exact pv_ireturn dX12_part_133 rfl rfl F
        · have F := F.2 c5
          refine pv_iconst (v := 0) (by decide) dX12_part_106 ?_
          refine pv_goto (tgt := 111) dX12_part_107 (by decide) ?_
          obtain ⟨q19, F⟩ := F
          obtain ⟨h15, eh15⟩ : ∃ h15 : pv_H, h15 = pv_up h11 352 (Int32.toNatClampNeg 99) 0 := ⟨_, rfl⟩
          have F := F h15 eh15
          refine pv_iast dX12_part_111 (lt_352 hL) (by decide) q19 ?_
          refine pv_hE eh15 ?_
          refine pv_aload_n dX12_part_112 rfl ?_
          refine pv_getRk 12 52 dX12_part_113 fl_X12_124 rfl (lt_200 hL) (lr_200_52 hL) ?_
          refine pv_bipush (v := 121) (by decide) dX12_part_116 ?_
          refine pv_iload dX12_part_118 rfl ?_
          refine pv_sipush (v := 365) (by decide) dX12_part_120 ?_
          refine pv_idiv (by decide) dX12_part_123 ?_
          refine pv_pc (pc' := 124) rfl ?_
          obtain ⟨q20, F⟩ := F
          obtain ⟨h16, eh16⟩ : ∃ h16 : pv_H, h16 = pv_up h15 352 (Int32.toNatClampNeg 121) (u / 365) := ⟨_, rfl⟩
          have F := F h16 eh16
          refine pv_iast dX12_part_124 (lt_352 hL) (by decide) q20 ?_
          refine pv_hE eh16 ?_
          refine pv_aload_n dX12_part_125 rfl ?_
          refine pv_iload_n dX12_part_126 rfl ?_
          refine pv_invV (As := [.int x]) (d' := d - 1) dX12_part_127 moX12_says ml_X12_297 (lt_200 hL) (Or.inl ⟨_, rfl, rfl⟩) (Nat.le_of_ble_eq_true rfl) (by omega) (Nat.zero_le _) (Nat.zero_le _) F (fun v ty' h17 r' g' hq => ?_) rfl
          obtain ⟨e2, e4, e5, w4, e1, F⟩ := hq
          rw [e1, e2, e4, e5]
          refine pv_pc (pc' := 130) rfl ?_
          show pv_E Γ d kc ks mX12_part 130 [some (.ref 200), some (.int x), some (.int y), some (.int z), some (.int u)] [.int w4] ty h17 r g Q
          refine pv_invS (As := [.int w4]) (d' := d - 1) dX12_part_130 moX12_clamp ml_X12_300 (Nat.le_of_ble_eq_true rfl) (by omega) (Nat.zero_le _) (Nat.zero_le _) (ct_X12_clamp (by omega)) (fun v ty' h' r' g' hq => ?_) rfl
          obtain ⟨e1, e2, e3, e4, e5⟩ := hq
          rw [e1, e2, e3, e4, e5]
          refine pv_pc (pc' := 133) rfl ?_
          show pv_E Γ d kc ks mX12_part 133 [some (.ref 200), some (.int x), some (.int y), some (.int z), some (.int u)] [.int (pt_cl w4)] ty h17 r g Q
          exact pv_ireturn dX12_part_133 rfl rfl F
    · have F := F.2 c2
      refine pv_aload_n dX12_part_36 rfl ?_
      refine pv_getRk 12 37 dX12_part_37 fl_X12_93 rfl (lt_200 hL) (lr_200_37 hL) ?_
      refine pv_iload_n dX12_part_40 rfl ?_
      obtain ⟨q21, F⟩ := F
      refine pv_iald dX12_part_41 (lt_337 hL) q21 ?_
      refine pv_goto (tgt := 51) dX12_part_42 (by decide) ?_
      obtain ⟨q22, F⟩ := F
      obtain ⟨h18, eh18⟩ : ∃ h18 : pv_H, h18 = pv_up h1 352 (Int32.toNatClampNeg 103) (h1 337 (Int32.toNatClampNeg y)) := ⟨_, rfl⟩
      have F := F h18 eh18
      refine pv_iast dX12_part_51 (lt_352 hL) (by decide) q22 ?_
      refine pv_hE eh18 ?_
      refine pv_aload_n dX12_part_52 rfl ?_
      refine pv_getRk 12 52 dX12_part_53 fl_X12_124 rfl (lt_200 hL) (lr_200_52 hL) ?_
      refine pv_bipush (v := 118) (by decide) dX12_part_56 ?_
      refine pv_aload_n dX12_part_58 rfl ?_
      refine pv_getRk 12 38 dX12_part_59 fl_X12_96 rfl (lt_200 hL) (lr_200_38 hL) ?_
      refine pv_iload_n dX12_part_62 rfl ?_
      refine pv_pc (pc' := 63) rfl ?_
      obtain ⟨q23, F⟩ := F
      refine pv_iald dX12_part_63 (lt_338 hL) q23 ?_
      obtain ⟨q24, F⟩ := F
      obtain ⟨h19, eh19⟩ : ∃ h19 : pv_H, h19 = pv_up h18 352 (Int32.toNatClampNeg 118) (h18 338 (Int32.toNatClampNeg y)) := ⟨_, rfl⟩
      have F := F h19 eh19
      refine pv_iast dX12_part_64 (lt_352 hL) (by decide) q24 ?_
      refine pv_hE eh19 ?_
      refine pv_aload_n dX12_part_65 rfl ?_
      refine pv_getRk 12 52 dX12_part_66 fl_X12_124 rfl (lt_200 hL) (lr_200_52 hL) ?_
      refine pv_bipush (v := 115) (by decide) dX12_part_69 ?_
      refine pv_iload_n dX12_part_71 rfl ?_
      refine pv_if_eq (tgt := 84) dX12_part_72 (by decide) (fun c6 => ?_) (fun c6 => ?_)
      · have F := F.1 c6
        refine pv_aload_n dX12_part_84 rfl ?_
        refine pv_getRk 12 36 dX12_part_85 fl_X12_90 rfl (lt_200 hL) (lr_200_36 hL) ?_
        refine pv_iload_n dX12_part_88 rfl ?_
        obtain ⟨q25, F⟩ := F
        refine pv_iald dX12_part_89 (lt_336 hL) q25 ?_
        obtain ⟨q26, F⟩ := F
        obtain ⟨h20, eh20⟩ : ∃ h20 : pv_H, h20 = pv_up h19 352 (Int32.toNatClampNeg 115) (h19 336 (Int32.toNatClampNeg y)) := ⟨_, rfl⟩
        have F := F h20 eh20
        refine pv_iast dX12_part_90 (lt_352 hL) (by decide) q26 ?_
        refine pv_hE eh20 ?_
        refine pv_aload_n dX12_part_91 rfl ?_
        refine pv_getRk 12 52 dX12_part_92 fl_X12_124 rfl (lt_200 hL) (lr_200_52 hL) ?_
        refine pv_bipush (v := 99) (by decide) dX12_part_95 ?_
        refine pv_aload_n dX12_part_97 rfl ?_
        refine pv_getRk 12 36 dX12_part_98 fl_X12_90 rfl (lt_200 hL) (lr_200_36 hL) ?_
        refine pv_iload_n dX12_part_101 rfl ?_
        refine pv_pc (pc' := 102) rfl ?_
        obtain ⟨q27, F⟩ := F
        refine pv_iald dX12_part_102 (lt_336 hL) q27 ?_
        refine pv_if_ge (tgt := 110) dX12_part_103 (by decide) (fun c7 => ?_) (fun c7 => ?_)
        · have F := F.1 c7
          refine pv_iconst (v := 1) (by decide) dX12_part_110 ?_
          obtain ⟨q28, F⟩ := F
          obtain ⟨h21, eh21⟩ : ∃ h21 : pv_H, h21 = pv_up h20 352 (Int32.toNatClampNeg 99) 1 := ⟨_, rfl⟩
          have F := F h21 eh21
          refine pv_iast dX12_part_111 (lt_352 hL) (by decide) q28 ?_
          refine pv_hE eh21 ?_
          refine pv_aload_n dX12_part_112 rfl ?_
          refine pv_getRk 12 52 dX12_part_113 fl_X12_124 rfl (lt_200 hL) (lr_200_52 hL) ?_
          refine pv_bipush (v := 121) (by decide) dX12_part_116 ?_
          refine pv_iload dX12_part_118 rfl ?_
          refine pv_sipush (v := 365) (by decide) dX12_part_120 ?_
          refine pv_idiv (by decide) dX12_part_123 ?_
          refine pv_pc (pc' := 124) rfl ?_
          obtain ⟨q29, F⟩ := F
          obtain ⟨h22, eh22⟩ : ∃ h22 : pv_H, h22 = pv_up h21 352 (Int32.toNatClampNeg 121) (u / 365) := ⟨_, rfl⟩
          have F := F h22 eh22
          refine pv_iast dX12_part_124 (lt_352 hL) (by decide) q29 ?_
          refine pv_hE eh22 ?_
          refine pv_aload_n dX12_part_125 rfl ?_
          refine pv_iload_n dX12_part_126 rfl ?_
          refine pv_invV (As := [.int x]) (d' := d - 1) dX12_part_127 moX12_says ml_X12_297 (lt_200 hL) (Or.inl ⟨_, rfl, rfl⟩) (Nat.le_of_ble_eq_true rfl) (by omega) (Nat.zero_le _) (Nat.zero_le _) F (fun v ty' h23 r' g' hq => ?_) rfl
          obtain ⟨e2, e4, e5, w5, e1, F⟩ := hq
          rw [e1, e2, e4, e5]
          refine pv_pc (pc' := 130) rfl ?_
          show pv_E Γ d kc ks mX12_part 130 [some (.ref 200), some (.int x), some (.int y), some (.int z), some (.int u)] [.int w5] ty h23 r g Q
          refine pv_invS (As := [.int w5]) (d' := d - 1) dX12_part_130 moX12_clamp ml_X12_300 (Nat.le_of_ble_eq_true rfl) (by omega) (Nat.zero_le _) (Nat.zero_le _) (ct_X12_clamp (by omega)) (fun v ty' h' r' g' hq => ?_) rfl
          obtain ⟨e1, e2, e3, e4, e5⟩ := hq
          rw [e1, e2, e3, e4, e5]
          refine pv_pc (pc' := 133) rfl ?_
          show pv_E Γ d kc ks mX12_part 133 [some (.ref 200), some (.int x), some (.int y), some (.int z), some (.int u)] [.int (pt_cl w5)] ty h23 r g Q
          exact pv_ireturn dX12_part_133 rfl rfl F
        · have F := F.2 c7
          refine pv_iconst (v := 0) (by decide) dX12_part_106 ?_
          refine pv_goto (tgt := 111) dX12_part_107 (by decide) ?_
          obtain ⟨q30, F⟩ := F
          obtain ⟨h24, eh24⟩ : ∃ h24 : pv_H, h24 = pv_up h20 352 (Int32.toNatClampNeg 99) 0 := ⟨_, rfl⟩
          have F := F h24 eh24
          refine pv_iast dX12_part_111 (lt_352 hL) (by decide) q30 ?_
          refine pv_hE eh24 ?_
          refine pv_aload_n dX12_part_112 rfl ?_
          refine pv_getRk 12 52 dX12_part_113 fl_X12_124 rfl (lt_200 hL) (lr_200_52 hL) ?_
          refine pv_bipush (v := 121) (by decide) dX12_part_116 ?_
          refine pv_iload dX12_part_118 rfl ?_
          refine pv_sipush (v := 365) (by decide) dX12_part_120 ?_
          refine pv_idiv (by decide) dX12_part_123 ?_
          refine pv_pc (pc' := 124) rfl ?_
          obtain ⟨q31, F⟩ := F
          obtain ⟨h25, eh25⟩ : ∃ h25 : pv_H, h25 = pv_up h24 352 (Int32.toNatClampNeg 121) (u / 365) := ⟨_, rfl⟩
          have F := F h25 eh25
          refine pv_iast dX12_part_124 (lt_352 hL) (by decide) q31 ?_
          refine pv_hE eh25 ?_
          refine pv_aload_n dX12_part_125 rfl ?_
          refine pv_iload_n dX12_part_126 rfl ?_
          refine pv_invV (As := [.int x]) (d' := d - 1) dX12_part_127 moX12_says ml_X12_297 (lt_200 hL) (Or.inl ⟨_, rfl, rfl⟩) (Nat.le_of_ble_eq_true rfl) (by omega) (Nat.zero_le _) (Nat.zero_le _) F (fun v ty' h26 r' g' hq => ?_) rfl
          obtain ⟨e2, e4, e5, w6, e1, F⟩ := hq
          rw [e1, e2, e4, e5]
          refine pv_pc (pc' := 130) rfl ?_
          show pv_E Γ d kc ks mX12_part 130 [some (.ref 200), some (.int x), some (.int y), some (.int z), some (.int u)] [.int w6] ty h26 r g Q
          refine pv_invS (As := [.int w6]) (d' := d - 1) dX12_part_130 moX12_clamp ml_X12_300 (Nat.le_of_ble_eq_true rfl) (by omega) (Nat.zero_le _) (Nat.zero_le _) (ct_X12_clamp (by omega)) (fun v ty' h' r' g' hq => ?_) rfl
          obtain ⟨e1, e2, e3, e4, e5⟩ := hq
          rw [e1, e2, e3, e4, e5]
          refine pv_pc (pc' := 133) rfl ?_
          show pv_E Γ d kc ks mX12_part 133 [some (.ref 200), some (.int x), some (.int y), some (.int z), some (.int u)] [.int (pt_cl w6)] ty h26 r g Q
          exact pv_ireturn dX12_part_133 rfl rfl F
      · have F := F.2 c6
        refine pv_aload_n dX12_part_75 rfl ?_
        refine pv_getRk 12 34 dX12_part_76 fl_X12_84 rfl (lt_200 hL) (lr_200_34 hL) ?_
        refine pv_iload_n dX12_part_79 rfl ?_
        obtain ⟨q32, F⟩ := F
        refine pv_iald dX12_part_80 (lt_334 hL) q32 ?_
        refine pv_goto (tgt := 90) dX12_part_81 (by decide) ?_
        obtain ⟨q33, F⟩ := F
        obtain ⟨h27, eh27⟩ : ∃ h27 : pv_H, h27 = pv_up h19 352 (Int32.toNatClampNeg 115) (h19 334 (Int32.toNatClampNeg y)) := ⟨_, rfl⟩
        have F := F h27 eh27
        refine pv_iast dX12_part_90 (lt_352 hL) (by decide) q33 ?_
        refine pv_hE eh27 ?_
        refine pv_aload_n dX12_part_91 rfl ?_
        refine pv_getRk 12 52 dX12_part_92 fl_X12_124 rfl (lt_200 hL) (lr_200_52 hL) ?_
        refine pv_bipush (v := 99) (by decide) dX12_part_95 ?_
        refine pv_aload_n dX12_part_97 rfl ?_
        refine pv_getRk 12 36 dX12_part_98 fl_X12_90 rfl (lt_200 hL) (lr_200_36 hL) ?_
        refine pv_iload_n dX12_part_101 rfl ?_
        refine pv_pc (pc' := 102) rfl ?_
        obtain ⟨q34, F⟩ := F
        refine pv_iald dX12_part_102 (lt_336 hL) q34 ?_
        refine pv_if_ge (tgt := 110) dX12_part_103 (by decide) (fun c8 => ?_) (fun c8 => ?_)
        · have F := F.1 c8
          refine pv_iconst (v := 1) (by decide) dX12_part_110 ?_
          obtain ⟨q35, F⟩ := F
          obtain ⟨h28, eh28⟩ : ∃ h28 : pv_H, h28 = pv_up h27 352 (Int32.toNatClampNeg 99) 1 := ⟨_, rfl⟩
          have F := F h28 eh28
          refine pv_iast dX12_part_111 (lt_352 hL) (by decide) q35 ?_
          refine pv_hE eh28 ?_
          refine pv_aload_n dX12_part_112 rfl ?_
          refine pv_getRk 12 52 dX12_part_113 fl_X12_124 rfl (lt_200 hL) (lr_200_52 hL) ?_
          refine pv_bipush (v := 121) (by decide) dX12_part_116 ?_
          refine pv_iload dX12_part_118 rfl ?_
          refine pv_sipush (v := 365) (by decide) dX12_part_120 ?_
          refine pv_idiv (by decide) dX12_part_123 ?_
          refine pv_pc (pc' := 124) rfl ?_
          obtain ⟨q36, F⟩ := F
          obtain ⟨h29, eh29⟩ : ∃ h29 : pv_H, h29 = pv_up h28 352 (Int32.toNatClampNeg 121) (u / 365) := ⟨_, rfl⟩
          have F := F h29 eh29
          refine pv_iast dX12_part_124 (lt_352 hL) (by decide) q36 ?_
          refine pv_hE eh29 ?_
          refine pv_aload_n dX12_part_125 rfl ?_
          refine pv_iload_n dX12_part_126 rfl ?_
          refine pv_invV (As := [.int x]) (d' := d - 1) dX12_part_127 moX12_says ml_X12_297 (lt_200 hL) (Or.inl ⟨_, rfl, rfl⟩) (Nat.le_of_ble_eq_true rfl) (by omega) (Nat.zero_le _) (Nat.zero_le _) F (fun v ty' h30 r' g' hq => ?_) rfl
          obtain ⟨e2, e4, e5, w7, e1, F⟩ := hq
          rw [e1, e2, e4, e5]
          refine pv_pc (pc' := 130) rfl ?_
          show pv_E Γ d kc ks mX12_part 130 [some (.ref 200), some (.int x), some (.int y), some (.int z), some (.int u)] [.int w7] ty h30 r g Q
          refine pv_invS (As := [.int w7]) (d' := d - 1) dX12_part_130 moX12_clamp ml_X12_300 (Nat.le_of_ble_eq_true rfl) (by omega) (Nat.zero_le _) (Nat.zero_le _) (ct_X12_clamp (by omega)) (fun v ty' h' r' g' hq => ?_) rfl
          obtain ⟨e1, e2, e3, e4, e5⟩ := hq
          rw [e1, e2, e3, e4, e5]
          refine pv_pc (pc' := 133) rfl ?_
          show pv_E Γ d kc ks mX12_part 133 [some (.ref 200), some (.int x), some (.int y), some (.int z), some (.int u)] [.int (pt_cl w7)] ty h30 r g Q
          exact pv_ireturn dX12_part_133 rfl rfl F
        · have F := F.2 c8
          refine pv_iconst (v := 0) (by decide) dX12_part_106 ?_
          refine pv_goto (tgt := 111) dX12_part_107 (by decide) ?_
          obtain ⟨q37, F⟩ := F
          obtain ⟨h31, eh31⟩ : ∃ h31 : pv_H, h31 = pv_up h27 352 (Int32.toNatClampNeg 99) 0 := ⟨_, rfl⟩
          have F := F h31 eh31
          refine pv_iast dX12_part_111 (lt_352 hL) (by decide) q37 ?_
          refine pv_hE eh31 ?_
          refine pv_aload_n dX12_part_112 rfl ?_
          refine pv_getRk 12 52 dX12_part_113 fl_X12_124 rfl (lt_200 hL) (lr_200_52 hL) ?_
          refine pv_bipush (v := 121) (by decide) dX12_part_116 ?_
          refine pv_iload dX12_part_118 rfl ?_
          refine pv_sipush (v := 365) (by decide) dX12_part_120 ?_
          refine pv_idiv (by decide) dX12_part_123 ?_
          refine pv_pc (pc' := 124) rfl ?_
          obtain ⟨q38, F⟩ := F
          obtain ⟨h32, eh32⟩ : ∃ h32 : pv_H, h32 = pv_up h31 352 (Int32.toNatClampNeg 121) (u / 365) := ⟨_, rfl⟩
          have F := F h32 eh32
          refine pv_iast dX12_part_124 (lt_352 hL) (by decide) q38 ?_
          refine pv_hE eh32 ?_
          refine pv_aload_n dX12_part_125 rfl ?_
          refine pv_iload_n dX12_part_126 rfl ?_
          refine pv_invV (As := [.int x]) (d' := d - 1) dX12_part_127 moX12_says ml_X12_297 (lt_200 hL) (Or.inl ⟨_, rfl, rfl⟩) (Nat.le_of_ble_eq_true rfl) (by omega) (Nat.zero_le _) (Nat.zero_le _) F (fun v ty' h33 r' g' hq => ?_) rfl
          obtain ⟨e2, e4, e5, w8, e1, F⟩ := hq
          rw [e1, e2, e4, e5]
          refine pv_pc (pc' := 130) rfl ?_
          show pv_E Γ d kc ks mX12_part 130 [some (.ref 200), some (.int x), some (.int y), some (.int z), some (.int u)] [.int w8] ty h33 r g Q
          refine pv_invS (As := [.int w8]) (d' := d - 1) dX12_part_130 moX12_clamp ml_X12_300 (Nat.le_of_ble_eq_true rfl) (by omega) (Nat.zero_le _) (Nat.zero_le _) (ct_X12_clamp (by omega)) (fun v ty' h' r' g' hq => ?_) rfl
          obtain ⟨e1, e2, e3, e4, e5⟩ := hq
          rw [e1, e2, e3, e4, e5]
          refine pv_pc (pc' := 133) rfl ?_
          show pv_E Γ d kc ks mX12_part 133 [some (.ref 200), some (.int x), some (.int y), some (.int z), some (.int u)] [.int (pt_cl w8)] ty h33 r g Q
          exact pv_ireturn dX12_part_133 rfl rfl F
  · have F := F.2 c1
    refine pv_aload_n dX12_part_10 rfl ?_
    refine pv_getRk 12 35 dX12_part_11 fl_X12_87 rfl (lt_200 hL) (lr_200_35 hL) ?_
    refine pv_iload_n dX12_part_14 rfl ?_
    obtain ⟨q39, F⟩ := F
    refine pv_iald dX12_part_15 (lt_335 hL) q39 ?_
    refine pv_goto (tgt := 25) dX12_part_16 (by decide) ?_
    obtain ⟨q40, F⟩ := F
    obtain ⟨h34, eh34⟩ : ∃ h34 : pv_H, h34 = pv_up h 352 (Int32.toNatClampNeg 102) (h 335 (Int32.toNatClampNeg y)) := ⟨_, rfl⟩
    have F := F h34 eh34
    refine pv_iast dX12_part_25 (lt_352 hL) (by decide) q40 ?_
    refine pv_hE eh34 ?_
    refine pv_aload_n dX12_part_26 rfl ?_
    refine pv_getRk 12 52 dX12_part_27 fl_X12_124 rfl (lt_200 hL) (lr_200_52 hL) ?_
    refine pv_bipush (v := 103) (by decide) dX12_part_30 ?_
    refine pv_iload_n dX12_part_32 rfl ?_
    refine pv_if_eq (tgt := 45) dX12_part_33 (by decide) (fun c9 => ?_) (fun c9 => ?_)
    · have F := F.1 c9
      refine pv_aload_n dX12_part_45 rfl ?_
      refine pv_getRk 12 35 dX12_part_46 fl_X12_87 rfl (lt_200 hL) (lr_200_35 hL) ?_
      refine pv_iload_n dX12_part_49 rfl ?_
      obtain ⟨q41, F⟩ := F
      refine pv_iald dX12_part_50 (lt_335 hL) q41 ?_
      obtain ⟨q42, F⟩ := F
      obtain ⟨h35, eh35⟩ : ∃ h35 : pv_H, h35 = pv_up h34 352 (Int32.toNatClampNeg 103) (h34 335 (Int32.toNatClampNeg y)) := ⟨_, rfl⟩
      have F := F h35 eh35
      refine pv_iast dX12_part_51 (lt_352 hL) (by decide) q42 ?_
      refine pv_hE eh35 ?_
      refine pv_aload_n dX12_part_52 rfl ?_
      refine pv_getRk 12 52 dX12_part_53 fl_X12_124 rfl (lt_200 hL) (lr_200_52 hL) ?_
      refine pv_bipush (v := 118) (by decide) dX12_part_56 ?_
      refine pv_aload_n dX12_part_58 rfl ?_
      refine pv_getRk 12 38 dX12_part_59 fl_X12_96 rfl (lt_200 hL) (lr_200_38 hL) ?_
      refine pv_iload_n dX12_part_62 rfl ?_
      refine pv_pc (pc' := 63) rfl ?_
      obtain ⟨q43, F⟩ := F
      refine pv_iald dX12_part_63 (lt_338 hL) q43 ?_
      obtain ⟨q44, F⟩ := F
      obtain ⟨h36, eh36⟩ : ∃ h36 : pv_H, h36 = pv_up h35 352 (Int32.toNatClampNeg 118) (h35 338 (Int32.toNatClampNeg y)) := ⟨_, rfl⟩
      have F := F h36 eh36
      refine pv_iast dX12_part_64 (lt_352 hL) (by decide) q44 ?_
      refine pv_hE eh36 ?_
      refine pv_aload_n dX12_part_65 rfl ?_
      refine pv_getRk 12 52 dX12_part_66 fl_X12_124 rfl (lt_200 hL) (lr_200_52 hL) ?_
      refine pv_bipush (v := 115) (by decide) dX12_part_69 ?_
      refine pv_iload_n dX12_part_71 rfl ?_
      refine pv_if_eq (tgt := 84) dX12_part_72 (by decide) (fun c10 => ?_) (fun c10 => ?_)
      · have F := F.1 c10
        refine pv_aload_n dX12_part_84 rfl ?_
        refine pv_getRk 12 36 dX12_part_85 fl_X12_90 rfl (lt_200 hL) (lr_200_36 hL) ?_
        refine pv_iload_n dX12_part_88 rfl ?_
        obtain ⟨q45, F⟩ := F
        refine pv_iald dX12_part_89 (lt_336 hL) q45 ?_
        obtain ⟨q46, F⟩ := F
        obtain ⟨h37, eh37⟩ : ∃ h37 : pv_H, h37 = pv_up h36 352 (Int32.toNatClampNeg 115) (h36 336 (Int32.toNatClampNeg y)) := ⟨_, rfl⟩
        have F := F h37 eh37
        refine pv_iast dX12_part_90 (lt_352 hL) (by decide) q46 ?_
        refine pv_hE eh37 ?_
        refine pv_aload_n dX12_part_91 rfl ?_
        refine pv_getRk 12 52 dX12_part_92 fl_X12_124 rfl (lt_200 hL) (lr_200_52 hL) ?_
        refine pv_bipush (v := 99) (by decide) dX12_part_95 ?_
        refine pv_aload_n dX12_part_97 rfl ?_
        refine pv_getRk 12 36 dX12_part_98 fl_X12_90 rfl (lt_200 hL) (lr_200_36 hL) ?_
        refine pv_iload_n dX12_part_101 rfl ?_
        refine pv_pc (pc' := 102) rfl ?_
        obtain ⟨q47, F⟩ := F
        refine pv_iald dX12_part_102 (lt_336 hL) q47 ?_
        refine pv_if_ge (tgt := 110) dX12_part_103 (by decide) (fun c11 => ?_) (fun c11 => ?_)
        · have F := F.1 c11
          refine pv_iconst (v := 1) (by decide) dX12_part_110 ?_
          obtain ⟨q48, F⟩ := F
          obtain ⟨h38, eh38⟩ : ∃ h38 : pv_H, h38 = pv_up h37 352 (Int32.toNatClampNeg 99) 1 := ⟨_, rfl⟩
          have F := F h38 eh38
          refine pv_iast dX12_part_111 (lt_352 hL) (by decide) q48 ?_
          refine pv_hE eh38 ?_
          refine pv_aload_n dX12_part_112 rfl ?_
          refine pv_getRk 12 52 dX12_part_113 fl_X12_124 rfl (lt_200 hL) (lr_200_52 hL) ?_
          refine pv_bipush (v := 121) (by decide) dX12_part_116 ?_
          refine pv_iload dX12_part_118 rfl ?_
          refine pv_sipush (v := 365) (by decide) dX12_part_120 ?_
          refine pv_idiv (by decide) dX12_part_123 ?_
          refine pv_pc (pc' := 124) rfl ?_
          obtain ⟨q49, F⟩ := F
          obtain ⟨h39, eh39⟩ : ∃ h39 : pv_H, h39 = pv_up h38 352 (Int32.toNatClampNeg 121) (u / 365) := ⟨_, rfl⟩
          have F := F h39 eh39
          refine pv_iast dX12_part_124 (lt_352 hL) (by decide) q49 ?_
          refine pv_hE eh39 ?_
          refine pv_aload_n dX12_part_125 rfl ?_
          refine pv_iload_n dX12_part_126 rfl ?_
          refine pv_invV (As := [.int x]) (d' := d - 1) dX12_part_127 moX12_says ml_X12_297 (lt_200 hL) (Or.inl ⟨_, rfl, rfl⟩) (Nat.le_of_ble_eq_true rfl) (by omega) (Nat.zero_le _) (Nat.zero_le _) F (fun v ty' h40 r' g' hq => ?_) rfl
          obtain ⟨e2, e4, e5, w9, e1, F⟩ := hq
          rw [e1, e2, e4, e5]
          refine pv_pc (pc' := 130) rfl ?_
          show pv_E Γ d kc ks mX12_part 130 [some (.ref 200), some (.int x), some (.int y), some (.int z), some (.int u)] [.int w9] ty h40 r g Q
          refine pv_invS (As := [.int w9]) (d' := d - 1) dX12_part_130 moX12_clamp ml_X12_300 (Nat.le_of_ble_eq_true rfl) (by omega) (Nat.zero_le _) (Nat.zero_le _) (ct_X12_clamp (by omega)) (fun v ty' h' r' g' hq => ?_) rfl
          obtain ⟨e1, e2, e3, e4, e5⟩ := hq
          rw [e1, e2, e3, e4, e5]
          refine pv_pc (pc' := 133) rfl ?_
          show pv_E Γ d kc ks mX12_part 133 [some (.ref 200), some (.int x), some (.int y), some (.int z), some (.int u)] [.int (pt_cl w9)] ty h40 r g Q
          exact pv_ireturn dX12_part_133 rfl rfl F
        · have F := F.2 c11
          refine pv_iconst (v := 0) (by decide) dX12_part_106 ?_
          refine pv_goto (tgt := 111) dX12_part_107 (by decide) ?_
          obtain ⟨q50, F⟩ := F
          obtain ⟨h41, eh41⟩ : ∃ h41 : pv_H, h41 = pv_up h37 352 (Int32.toNatClampNeg 99) 0 := ⟨_, rfl⟩
          have F := F h41 eh41
          refine pv_iast dX12_part_111 (lt_352 hL) (by decide) q50 ?_
          refine pv_hE eh41 ?_
          refine pv_aload_n dX12_part_112 rfl ?_
          refine pv_getRk 12 52 dX12_part_113 fl_X12_124 rfl (lt_200 hL) (lr_200_52 hL) ?_
          refine pv_bipush (v := 121) (by decide) dX12_part_116 ?_
          refine pv_iload dX12_part_118 rfl ?_
          refine pv_sipush (v := 365) (by decide) dX12_part_120 ?_
          refine pv_idiv (by decide) dX12_part_123 ?_
          refine pv_pc (pc' := 124) rfl ?_
          obtain ⟨q51, F⟩ := F
          obtain ⟨h42, eh42⟩ : ∃ h42 : pv_H, h42 = pv_up h41 352 (Int32.toNatClampNeg 121) (u / 365) := ⟨_, rfl⟩
          have F := F h42 eh42
          refine pv_iast dX12_part_124 (lt_352 hL) (by decide) q51 ?_
          refine pv_hE eh42 ?_
          refine pv_aload_n dX12_part_125 rfl ?_
          refine pv_iload_n dX12_part_126 rfl ?_
          refine pv_invV (As := [.int x]) (d' := d - 1) dX12_part_127 moX12_says ml_X12_297 (lt_200 hL) (Or.inl ⟨_, rfl, rfl⟩) (Nat.le_of_ble_eq_true rfl) (by omega) (Nat.zero_le _) (Nat.zero_le _) F (fun v ty' h43 r' g' hq => ?_) rfl
          obtain ⟨e2, e4, e5, w10, e1, F⟩ := hq
          rw [e1, e2, e4, e5]
          refine pv_pc (pc' := 130) rfl ?_
          show pv_E Γ d kc ks mX12_part 130 [some (.ref 200), some (.int x), some (.int y), some (.int z), some (.int u)] [.int w10] ty h43 r g Q
          refine pv_invS (As := [.int w10]) (d' := d - 1) dX12_part_130 moX12_clamp ml_X12_300 (Nat.le_of_ble_eq_true rfl) (by omega) (Nat.zero_le _) (Nat.zero_le _) (ct_X12_clamp (by omega)) (fun v ty' h' r' g' hq => ?_) rfl
          obtain ⟨e1, e2, e3, e4, e5⟩ := hq
          rw [e1, e2, e3, e4, e5]
          refine pv_pc (pc' := 133) rfl ?_
          show pv_E Γ d kc ks mX12_part 133 [some (.ref 200), some (.int x), some (.int y), some (.int z), some (.int u)] [.int (pt_cl w10)] ty h43 r g Q
          exact pv_ireturn dX12_part_133 rfl rfl F
      · have F := F.2 c10
        refine pv_aload_n dX12_part_75 rfl ?_
        refine pv_getRk 12 34 dX12_part_76 fl_X12_84 rfl (lt_200 hL) (lr_200_34 hL) ?_
        refine pv_iload_n dX12_part_79 rfl ?_
        obtain ⟨q52, F⟩ := F
        refine pv_iald dX12_part_80 (lt_334 hL) q52 ?_
        refine pv_goto (tgt := 90) dX12_part_81 (by decide) ?_
        obtain ⟨q53, F⟩ := F
        obtain ⟨h44, eh44⟩ : ∃ h44 : pv_H, h44 = pv_up h36 352 (Int32.toNatClampNeg 115) (h36 334 (Int32.toNatClampNeg y)) := ⟨_, rfl⟩
        have F := F h44 eh44
        refine pv_iast dX12_part_90 (lt_352 hL) (by decide) q53 ?_
        refine pv_hE eh44 ?_
        refine pv_aload_n dX12_part_91 rfl ?_
        refine pv_getRk 12 52 dX12_part_92 fl_X12_124 rfl (lt_200 hL) (lr_200_52 hL) ?_
        refine pv_bipush (v := 99) (by decide) dX12_part_95 ?_
        refine pv_aload_n dX12_part_97 rfl ?_
        refine pv_getRk 12 36 dX12_part_98 fl_X12_90 rfl (lt_200 hL) (lr_200_36 hL) ?_
        refine pv_iload_n dX12_part_101 rfl ?_
        refine pv_pc (pc' := 102) rfl ?_
        obtain ⟨q54, F⟩ := F
        refine pv_iald dX12_part_102 (lt_336 hL) q54 ?_
        refine pv_if_ge (tgt := 110) dX12_part_103 (by decide) (fun c12 => ?_) (fun c12 => ?_)
        · have F := F.1 c12
          refine pv_iconst (v := 1) (by decide) dX12_part_110 ?_
          obtain ⟨q55, F⟩ := F
          obtain ⟨h45, eh45⟩ : ∃ h45 : pv_H, h45 = pv_up h44 352 (Int32.toNatClampNeg 99) 1 := ⟨_, rfl⟩
          have F := F h45 eh45
          refine pv_iast dX12_part_111 (lt_352 hL) (by decide) q55 ?_
          refine pv_hE eh45 ?_
          refine pv_aload_n dX12_part_112 rfl ?_
          refine pv_getRk 12 52 dX12_part_113 fl_X12_124 rfl (lt_200 hL) (lr_200_52 hL) ?_
          refine pv_bipush (v := 121) (by decide) dX12_part_116 ?_
          refine pv_iload dX12_part_118 rfl ?_
          refine pv_sipush (v := 365) (by decide) dX12_part_120 ?_
          refine pv_idiv (by decide) dX12_part_123 ?_
          refine pv_pc (pc' := 124) rfl ?_
          obtain ⟨q56, F⟩ := F
          obtain ⟨h46, eh46⟩ : ∃ h46 : pv_H, h46 = pv_up h45 352 (Int32.toNatClampNeg 121) (u / 365) := ⟨_, rfl⟩
          have F := F h46 eh46
          refine pv_iast dX12_part_124 (lt_352 hL) (by decide) q56 ?_
          refine pv_hE eh46 ?_
          refine pv_aload_n dX12_part_125 rfl ?_
          refine pv_iload_n dX12_part_126 rfl ?_
          refine pv_invV (As := [.int x]) (d' := d - 1) dX12_part_127 moX12_says ml_X12_297 (lt_200 hL) (Or.inl ⟨_, rfl, rfl⟩) (Nat.le_of_ble_eq_true rfl) (by omega) (Nat.zero_le _) (Nat.zero_le _) F (fun v ty' h47 r' g' hq => ?_) rfl
          obtain ⟨e2, e4, e5, w11, e1, F⟩ := hq
          rw [e1, e2, e4, e5]
          refine pv_pc (pc' := 130) rfl ?_
          show pv_E Γ d kc ks mX12_part 130 [some (.ref 200), some (.int x), some (.int y), some (.int z), some (.int u)] [.int w11] ty h47 r g Q
          refine pv_invS (As := [.int w11]) (d' := d - 1) dX12_part_130 moX12_clamp ml_X12_300 (Nat.le_of_ble_eq_true rfl) (by omega) (Nat.zero_le _) (Nat.zero_le _) (ct_X12_clamp (by omega)) (fun v ty' h' r' g' hq => ?_) rfl
          obtain ⟨e1, e2, e3, e4, e5⟩ := hq
          rw [e1, e2, e3, e4, e5]
          refine pv_pc (pc' := 133) rfl ?_
          show pv_E Γ d kc ks mX12_part 133 [some (.ref 200), some (.int x), some (.int y), some (.int z), some (.int u)] [.int (pt_cl w11)] ty h47 r g Q
          exact pv_ireturn dX12_part_133 rfl rfl F
        · have F := F.2 c12
          refine pv_iconst (v := 0) (by decide) dX12_part_106 ?_
          refine pv_goto (tgt := 111) dX12_part_107 (by decide) ?_
          obtain ⟨q57, F⟩ := F
          obtain ⟨h48, eh48⟩ : ∃ h48 : pv_H, h48 = pv_up h44 352 (Int32.toNatClampNeg 99) 0 := ⟨_, rfl⟩
          have F := F h48 eh48
          refine pv_iast dX12_part_111 (lt_352 hL) (by decide) q57 ?_
          refine pv_hE eh48 ?_
          refine pv_aload_n dX12_part_112 rfl ?_
          refine pv_getRk 12 52 dX12_part_113 fl_X12_124 rfl (lt_200 hL) (lr_200_52 hL) ?_
          refine pv_bipush (v := 121) (by decide) dX12_part_116 ?_
          refine pv_iload dX12_part_118 rfl ?_
          refine pv_sipush (v := 365) (by decide) dX12_part_120 ?_
          refine pv_idiv (by decide) dX12_part_123 ?_
          refine pv_pc (pc' := 124) rfl ?_
          obtain ⟨q58, F⟩ := F
          obtain ⟨h49, eh49⟩ : ∃ h49 : pv_H, h49 = pv_up h48 352 (Int32.toNatClampNeg 121) (u / 365) := ⟨_, rfl⟩
          have F := F h49 eh49
          refine pv_iast dX12_part_124 (lt_352 hL) (by decide) q58 ?_
          refine pv_hE eh49 ?_
          refine pv_aload_n dX12_part_125 rfl ?_
          refine pv_iload_n dX12_part_126 rfl ?_
          refine pv_invV (As := [.int x]) (d' := d - 1) dX12_part_127 moX12_says ml_X12_297 (lt_200 hL) (Or.inl ⟨_, rfl, rfl⟩) (Nat.le_of_ble_eq_true rfl) (by omega) (Nat.zero_le _) (Nat.zero_le _) F (fun v ty' h50 r' g' hq => ?_) rfl
          obtain ⟨e2, e4, e5, w12, e1, F⟩ := hq
          rw [e1, e2, e4, e5]
          refine pv_pc (pc' := 130) rfl ?_
          show pv_E Γ d kc ks mX12_part 130 [some (.ref 200), some (.int x), some (.int y), some (.int z), some (.int u)] [.int w12] ty h50 r g Q
          refine pv_invS (As := [.int w12]) (d' := d - 1) dX12_part_130 moX12_clamp ml_X12_300 (Nat.le_of_ble_eq_true rfl) (by omega) (Nat.zero_le _) (Nat.zero_le _) (ct_X12_clamp (by omega)) (fun v ty' h' r' g' hq => ?_) rfl
          obtain ⟨e1, e2, e3, e4, e5⟩ := hq
          rw [e1, e2, e3, e4, e5]
          refine pv_pc (pc' := 133) rfl ?_
          show pv_E Γ d kc ks mX12_part 133 [some (.ref 200), some (.int x), some (.int y), some (.int z), some (.int u)] [.int (pt_cl w12)] ty h50 r g Q
          exact pv_ireturn dX12_part_133 rfl rfl F
    · have F := F.2 c9
      refine pv_aload_n dX12_part_36 rfl ?_
      refine pv_getRk 12 37 dX12_part_37 fl_X12_93 rfl (lt_200 hL) (lr_200_37 hL) ?_
      refine pv_iload_n dX12_part_40 rfl ?_
      obtain ⟨q59, F⟩ := F
      refine pv_iald dX12_part_41 (lt_337 hL) q59 ?_
      refine pv_goto (tgt := 51) dX12_part_42 (by decide) ?_
      obtain ⟨q60, F⟩ := F
      obtain ⟨h51, eh51⟩ : ∃ h51 : pv_H, h51 = pv_up h34 352 (Int32.toNatClampNeg 103) (h34 337 (Int32.toNatClampNeg y)) := ⟨_, rfl⟩
      have F := F h51 eh51
      refine pv_iast dX12_part_51 (lt_352 hL) (by decide) q60 ?_
      refine pv_hE eh51 ?_
      refine pv_aload_n dX12_part_52 rfl ?_
      refine pv_getRk 12 52 dX12_part_53 fl_X12_124 rfl (lt_200 hL) (lr_200_52 hL) ?_
      refine pv_bipush (v := 118) (by decide) dX12_part_56 ?_
      refine pv_aload_n dX12_part_58 rfl ?_
      refine pv_getRk 12 38 dX12_part_59 fl_X12_96 rfl (lt_200 hL) (lr_200_38 hL) ?_
      refine pv_iload_n dX12_part_62 rfl ?_
      refine pv_pc (pc' := 63) rfl ?_
      obtain ⟨q61, F⟩ := F
      refine pv_iald dX12_part_63 (lt_338 hL) q61 ?_
      obtain ⟨q62, F⟩ := F
      obtain ⟨h52, eh52⟩ : ∃ h52 : pv_H, h52 = pv_up h51 352 (Int32.toNatClampNeg 118) (h51 338 (Int32.toNatClampNeg y)) := ⟨_, rfl⟩
      have F := F h52 eh52
      refine pv_iast dX12_part_64 (lt_352 hL) (by decide) q62 ?_
      refine pv_hE eh52 ?_
      refine pv_aload_n dX12_part_65 rfl ?_
      refine pv_getRk 12 52 dX12_part_66 fl_X12_124 rfl (lt_200 hL) (lr_200_52 hL) ?_
      refine pv_bipush (v := 115) (by decide) dX12_part_69 ?_
      refine pv_iload_n dX12_part_71 rfl ?_
      refine pv_if_eq (tgt := 84) dX12_part_72 (by decide) (fun c13 => ?_) (fun c13 => ?_)
      · have F := F.1 c13
        refine pv_aload_n dX12_part_84 rfl ?_
        refine pv_getRk 12 36 dX12_part_85 fl_X12_90 rfl (lt_200 hL) (lr_200_36 hL) ?_
        refine pv_iload_n dX12_part_88 rfl ?_
        obtain ⟨q63, F⟩ := F
        refine pv_iald dX12_part_89 (lt_336 hL) q63 ?_
        obtain ⟨q64, F⟩ := F
        obtain ⟨h53, eh53⟩ : ∃ h53 : pv_H, h53 = pv_up h52 352 (Int32.toNatClampNeg 115) (h52 336 (Int32.toNatClampNeg y)) := ⟨_, rfl⟩
        have F := F h53 eh53
        refine pv_iast dX12_part_90 (lt_352 hL) (by decide) q64 ?_
        refine pv_hE eh53 ?_
        refine pv_aload_n dX12_part_91 rfl ?_
        refine pv_getRk 12 52 dX12_part_92 fl_X12_124 rfl (lt_200 hL) (lr_200_52 hL) ?_
        refine pv_bipush (v := 99) (by decide) dX12_part_95 ?_
        refine pv_aload_n dX12_part_97 rfl ?_
        refine pv_getRk 12 36 dX12_part_98 fl_X12_90 rfl (lt_200 hL) (lr_200_36 hL) ?_
        refine pv_iload_n dX12_part_101 rfl ?_
        refine pv_pc (pc' := 102) rfl ?_
        obtain ⟨q65, F⟩ := F
        refine pv_iald dX12_part_102 (lt_336 hL) q65 ?_
        refine pv_if_ge (tgt := 110) dX12_part_103 (by decide) (fun c14 => ?_) (fun c14 => ?_)
        · have F := F.1 c14
          refine pv_iconst (v := 1) (by decide) dX12_part_110 ?_
          obtain ⟨q66, F⟩ := F
          obtain ⟨h54, eh54⟩ : ∃ h54 : pv_H, h54 = pv_up h53 352 (Int32.toNatClampNeg 99) 1 := ⟨_, rfl⟩
          have F := F h54 eh54
          refine pv_iast dX12_part_111 (lt_352 hL) (by decide) q66 ?_
          refine pv_hE eh54 ?_
          refine pv_aload_n dX12_part_112 rfl ?_
          refine pv_getRk 12 52 dX12_part_113 fl_X12_124 rfl (lt_200 hL) (lr_200_52 hL) ?_
          refine pv_bipush (v := 121) (by decide) dX12_part_116 ?_
          refine pv_iload dX12_part_118 rfl ?_
          refine pv_sipush (v := 365) (by decide) dX12_part_120 ?_
          refine pv_idiv (by decide) dX12_part_123 ?_
          refine pv_pc (pc' := 124) rfl ?_
          obtain ⟨q67, F⟩ := F
          obtain ⟨h55, eh55⟩ : ∃ h55 : pv_H, h55 = pv_up h54 352 (Int32.toNatClampNeg 121) (u / 365) := ⟨_, rfl⟩
          have F := F h55 eh55
          refine pv_iast dX12_part_124 (lt_352 hL) (by decide) q67 ?_
          refine pv_hE eh55 ?_
          refine pv_aload_n dX12_part_125 rfl ?_
          refine pv_iload_n dX12_part_126 rfl ?_
          refine pv_invV (As := [.int x]) (d' := d - 1) dX12_part_127 moX12_says ml_X12_297 (lt_200 hL) (Or.inl ⟨_, rfl, rfl⟩) (Nat.le_of_ble_eq_true rfl) (by omega) (Nat.zero_le _) (Nat.zero_le _) F (fun v ty' h56 r' g' hq => ?_) rfl
          obtain ⟨e2, e4, e5, w13, e1, F⟩ := hq
          rw [e1, e2, e4, e5]
          refine pv_pc (pc' := 130) rfl ?_
          show pv_E Γ d kc ks mX12_part 130 [some (.ref 200), some (.int x), some (.int y), some (.int z), some (.int u)] [.int w13] ty h56 r g Q
          refine pv_invS (As := [.int w13]) (d' := d - 1) dX12_part_130 moX12_clamp ml_X12_300 (Nat.le_of_ble_eq_true rfl) (by omega) (Nat.zero_le _) (Nat.zero_le _) (ct_X12_clamp (by omega)) (fun v ty' h' r' g' hq => ?_) rfl
          obtain ⟨e1, e2, e3, e4, e5⟩ := hq
          rw [e1, e2, e3, e4, e5]
          refine pv_pc (pc' := 133) rfl ?_
          show pv_E Γ d kc ks mX12_part 133 [some (.ref 200), some (.int x), some (.int y), some (.int z), some (.int u)] [.int (pt_cl w13)] ty h56 r g Q
          exact pv_ireturn dX12_part_133 rfl rfl F
        · have F := F.2 c14
          refine pv_iconst (v := 0) (by decide) dX12_part_106 ?_
          refine pv_goto (tgt := 111) dX12_part_107 (by decide) ?_
          obtain ⟨q68, F⟩ := F
          obtain ⟨h57, eh57⟩ : ∃ h57 : pv_H, h57 = pv_up h53 352 (Int32.toNatClampNeg 99) 0 := ⟨_, rfl⟩
          have F := F h57 eh57
          refine pv_iast dX12_part_111 (lt_352 hL) (by decide) q68 ?_
          refine pv_hE eh57 ?_
          refine pv_aload_n dX12_part_112 rfl ?_
          refine pv_getRk 12 52 dX12_part_113 fl_X12_124 rfl (lt_200 hL) (lr_200_52 hL) ?_
          refine pv_bipush (v := 121) (by decide) dX12_part_116 ?_
          refine pv_iload dX12_part_118 rfl ?_
          refine pv_sipush (v := 365) (by decide) dX12_part_120 ?_
          refine pv_idiv (by decide) dX12_part_123 ?_
          refine pv_pc (pc' := 124) rfl ?_
          obtain ⟨q69, F⟩ := F
          obtain ⟨h58, eh58⟩ : ∃ h58 : pv_H, h58 = pv_up h57 352 (Int32.toNatClampNeg 121) (u / 365) := ⟨_, rfl⟩
          have F := F h58 eh58
          refine pv_iast dX12_part_124 (lt_352 hL) (by decide) q69 ?_
          refine pv_hE eh58 ?_
          refine pv_aload_n dX12_part_125 rfl ?_
          refine pv_iload_n dX12_part_126 rfl ?_
          refine pv_invV (As := [.int x]) (d' := d - 1) dX12_part_127 moX12_says ml_X12_297 (lt_200 hL) (Or.inl ⟨_, rfl, rfl⟩) (Nat.le_of_ble_eq_true rfl) (by omega) (Nat.zero_le _) (Nat.zero_le _) F (fun v ty' h59 r' g' hq => ?_) rfl
          obtain ⟨e2, e4, e5, w14, e1, F⟩ := hq
          rw [e1, e2, e4, e5]
          refine pv_pc (pc' := 130) rfl ?_
          show pv_E Γ d kc ks mX12_part 130 [some (.ref 200), some (.int x), some (.int y), some (.int z), some (.int u)] [.int w14] ty h59 r g Q
          refine pv_invS (As := [.int w14]) (d' := d - 1) dX12_part_130 moX12_clamp ml_X12_300 (Nat.le_of_ble_eq_true rfl) (by omega) (Nat.zero_le _) (Nat.zero_le _) (ct_X12_clamp (by omega)) (fun v ty' h' r' g' hq => ?_) rfl
          obtain ⟨e1, e2, e3, e4, e5⟩ := hq
          rw [e1, e2, e3, e4, e5]
          refine pv_pc (pc' := 133) rfl ?_
          show pv_E Γ d kc ks mX12_part 133 [some (.ref 200), some (.int x), some (.int y), some (.int z), some (.int u)] [.int (pt_cl w14)] ty h59 r g Q
          exact pv_ireturn dX12_part_133 rfl rfl F
      · have F := F.2 c13
        refine pv_aload_n dX12_part_75 rfl ?_
        refine pv_getRk 12 34 dX12_part_76 fl_X12_84 rfl (lt_200 hL) (lr_200_34 hL) ?_
        refine pv_iload_n dX12_part_79 rfl ?_
        obtain ⟨q70, F⟩ := F
        refine pv_iald dX12_part_80 (lt_334 hL) q70 ?_
        refine pv_goto (tgt := 90) dX12_part_81 (by decide) ?_
        obtain ⟨q71, F⟩ := F
        obtain ⟨h60, eh60⟩ : ∃ h60 : pv_H, h60 = pv_up h52 352 (Int32.toNatClampNeg 115) (h52 334 (Int32.toNatClampNeg y)) := ⟨_, rfl⟩
        have F := F h60 eh60
        refine pv_iast dX12_part_90 (lt_352 hL) (by decide) q71 ?_
        refine pv_hE eh60 ?_
        refine pv_aload_n dX12_part_91 rfl ?_
        refine pv_getRk 12 52 dX12_part_92 fl_X12_124 rfl (lt_200 hL) (lr_200_52 hL) ?_
        refine pv_bipush (v := 99) (by decide) dX12_part_95 ?_
        refine pv_aload_n dX12_part_97 rfl ?_
        refine pv_getRk 12 36 dX12_part_98 fl_X12_90 rfl (lt_200 hL) (lr_200_36 hL) ?_
        refine pv_iload_n dX12_part_101 rfl ?_
        refine pv_pc (pc' := 102) rfl ?_
        obtain ⟨q72, F⟩ := F
        refine pv_iald dX12_part_102 (lt_336 hL) q72 ?_
        refine pv_if_ge (tgt := 110) dX12_part_103 (by decide) (fun c15 => ?_) (fun c15 => ?_)
        · have F := F.1 c15
          refine pv_iconst (v := 1) (by decide) dX12_part_110 ?_
          obtain ⟨q73, F⟩ := F
          obtain ⟨h61, eh61⟩ : ∃ h61 : pv_H, h61 = pv_up h60 352 (Int32.toNatClampNeg 99) 1 := ⟨_, rfl⟩
          have F := F h61 eh61
          refine pv_iast dX12_part_111 (lt_352 hL) (by decide) q73 ?_
          refine pv_hE eh61 ?_
          refine pv_aload_n dX12_part_112 rfl ?_
          refine pv_getRk 12 52 dX12_part_113 fl_X12_124 rfl (lt_200 hL) (lr_200_52 hL) ?_
          refine pv_bipush (v := 121) (by decide) dX12_part_116 ?_
          refine pv_iload dX12_part_118 rfl ?_
          refine pv_sipush (v := 365) (by decide) dX12_part_120 ?_
          refine pv_idiv (by decide) dX12_part_123 ?_
          refine pv_pc (pc' := 124) rfl ?_
          obtain ⟨q74, F⟩ := F
          obtain ⟨h62, eh62⟩ : ∃ h62 : pv_H, h62 = pv_up h61 352 (Int32.toNatClampNeg 121) (u / 365) := ⟨_, rfl⟩
          have F := F h62 eh62
          refine pv_iast dX12_part_124 (lt_352 hL) (by decide) q74 ?_
          refine pv_hE eh62 ?_
          refine pv_aload_n dX12_part_125 rfl ?_
          refine pv_iload_n dX12_part_126 rfl ?_
          refine pv_invV (As := [.int x]) (d' := d - 1) dX12_part_127 moX12_says ml_X12_297 (lt_200 hL) (Or.inl ⟨_, rfl, rfl⟩) (Nat.le_of_ble_eq_true rfl) (by omega) (Nat.zero_le _) (Nat.zero_le _) F (fun v ty' h63 r' g' hq => ?_) rfl
          obtain ⟨e2, e4, e5, w15, e1, F⟩ := hq
          rw [e1, e2, e4, e5]
          refine pv_pc (pc' := 130) rfl ?_
          show pv_E Γ d kc ks mX12_part 130 [some (.ref 200), some (.int x), some (.int y), some (.int z), some (.int u)] [.int w15] ty h63 r g Q
          refine pv_invS (As := [.int w15]) (d' := d - 1) dX12_part_130 moX12_clamp ml_X12_300 (Nat.le_of_ble_eq_true rfl) (by omega) (Nat.zero_le _) (Nat.zero_le _) (ct_X12_clamp (by omega)) (fun v ty' h' r' g' hq => ?_) rfl
          obtain ⟨e1, e2, e3, e4, e5⟩ := hq
          rw [e1, e2, e3, e4, e5]
          refine pv_pc (pc' := 133) rfl ?_
          show pv_E Γ d kc ks mX12_part 133 [some (.ref 200), some (.int x), some (.int y), some (.int z), some (.int u)] [.int (pt_cl w15)] ty h63 r g Q
          exact pv_ireturn dX12_part_133 rfl rfl F
        · have F := F.2 c15
          refine pv_iconst (v := 0) (by decide) dX12_part_106 ?_
          refine pv_goto (tgt := 111) dX12_part_107 (by decide) ?_
          obtain ⟨q75, F⟩ := F
          obtain ⟨h64, eh64⟩ : ∃ h64 : pv_H, h64 = pv_up h60 352 (Int32.toNatClampNeg 99) 0 := ⟨_, rfl⟩
          have F := F h64 eh64
          refine pv_iast dX12_part_111 (lt_352 hL) (by decide) q75 ?_
          refine pv_hE eh64 ?_
          refine pv_aload_n dX12_part_112 rfl ?_
          refine pv_getRk 12 52 dX12_part_113 fl_X12_124 rfl (lt_200 hL) (lr_200_52 hL) ?_
          refine pv_bipush (v := 121) (by decide) dX12_part_116 ?_
          refine pv_iload dX12_part_118 rfl ?_
          refine pv_sipush (v := 365) (by decide) dX12_part_120 ?_
          refine pv_idiv (by decide) dX12_part_123 ?_
          refine pv_pc (pc' := 124) rfl ?_
          obtain ⟨q76, F⟩ := F
          obtain ⟨h65, eh65⟩ : ∃ h65 : pv_H, h65 = pv_up h64 352 (Int32.toNatClampNeg 121) (u / 365) := ⟨_, rfl⟩
          have F := F h65 eh65
          refine pv_iast dX12_part_124 (lt_352 hL) (by decide) q76 ?_
          refine pv_hE eh65 ?_
          refine pv_aload_n dX12_part_125 rfl ?_
          refine pv_iload_n dX12_part_126 rfl ?_
          refine pv_invV (As := [.int x]) (d' := d - 1) dX12_part_127 moX12_says ml_X12_297 (lt_200 hL) (Or.inl ⟨_, rfl, rfl⟩) (Nat.le_of_ble_eq_true rfl) (by omega) (Nat.zero_le _) (Nat.zero_le _) F (fun v ty' h66 r' g' hq => ?_) rfl
          obtain ⟨e2, e4, e5, w16, e1, F⟩ := hq
          rw [e1, e2, e4, e5]
          refine pv_pc (pc' := 130) rfl ?_
          show pv_E Γ d kc ks mX12_part 130 [some (.ref 200), some (.int x), some (.int y), some (.int z), some (.int u)] [.int w16] ty h66 r g Q
          refine pv_invS (As := [.int w16]) (d' := d - 1) dX12_part_130 moX12_clamp ml_X12_300 (Nat.le_of_ble_eq_true rfl) (by omega) (Nat.zero_le _) (Nat.zero_le _) (ct_X12_clamp (by omega)) (fun v ty' h' r' g' hq => ?_) rfl
          obtain ⟨e1, e2, e3, e4, e5⟩ := hq
          rw [e1, e2, e3, e4, e5]
          refine pv_pc (pc' := 133) rfl ?_
          show pv_E Γ d kc ks mX12_part 133 [some (.ref 200), some (.int x), some (.int y), some (.int z), some (.int u)] [.int (pt_cl w16)] ty h66 r g Q
          exact pv_ireturn dX12_part_133 rfl rfl F
set_option maxRecDepth 20000 in
set_option maxHeartbeats 4000000 in
theorem sg_X1_givingClause_0 {Γ : pv_C} {d kc ks : Nat} {ty : pv_T} {h : pv_H} {r : pv_R} {g : pv_G} {Q : pv_Q} (x : Nat) (y : Nat) (z : Int32) (hd : 1 ≤ d) (hL : pv_Lay ty r) (F : ((¬ x = 0 → pv_CT Γ (d - 1) 0 0 mX1_givePart [.ref 70, .ref x, .ref y, .int 0, .int z] ty h r g (fun (v1 : Option Value) (ty1 : pv_T) (h1 : pv_H) (r1 : pv_R) (g1 : pv_G) => ∃ w1 : Int32, v1 = some (.int w1) ∧ pv_Lay ty1 r1 ∧ Q (some (.int (h1 80 6))) ty1 h1 r1 g1)) ∧ (x = 0 → Q (some (.int (-1))) ty h r g))) : pv_E Γ d kc ks mX1_givingClause 0 [some (.ref 70), some (.ref x), some (.ref y), some (.int z)] [] ty h r g Q := by
  refine pv_aload_n dX1_givingClause_0 rfl ?_
  refine pv_ifnonnull (tgt := 6) dX1_givingClause_1 (by decide) (fun c1 => ?_) (fun c1 => ?_)
  · have F := F.1 c1
    refine pv_aload_n dX1_givingClause_6 rfl ?_
    refine pv_aload_n dX1_givingClause_7 rfl ?_
    refine pv_aload_n dX1_givingClause_8 rfl ?_
    refine pv_iconst (v := 0) (by decide) dX1_givingClause_9 ?_
    refine pv_iload_n dX1_givingClause_10 rfl ?_
    refine pv_invV (As := [.ref x, .ref y, .int 0, .int z]) (d' := d - 1) dX1_givingClause_11 moX1_givePart ml_X1_96 (lt_70 hL) (Or.inl ⟨_, rfl, rfl⟩) (Nat.le_of_ble_eq_true rfl) (by omega) (Nat.zero_le _) (Nat.zero_le _) F (fun v1 ty1 h1 r1 g1 F => ?_) rfl
    obtain ⟨w1, rfl, F⟩ := F
    obtain ⟨hL1, F⟩ := F
    refine pv_pc (pc' := 14) rfl ?_
    show pv_E Γ d kc ks mX1_givingClause 14 [some (.ref 70), some (.ref x), some (.ref y), some (.int z)] [.int w1] ty1 h1 r1 g1 Q
    refine pv_pop rfl dX1_givingClause_14 ?_
    refine pv_aload_n dX1_givingClause_15 rfl ?_
    refine pv_getRk 1 2 dX1_givingClause_16 fl_X1_24 rfl (lt_70 hL1) (lr_70_2 hL1) ?_
    refine pv_getI 9 6 dX1_givingClause_19 fl_X1_100 rfl (lt_80 hL1) ?_
    exact pv_ireturn dX1_givingClause_22 rfl rfl F
  · have F := F.2 c1
    refine pv_iconst (v := (-1)) (by decide) dX1_givingClause_4 ?_
    exact pv_ireturn dX1_givingClause_5 rfl rfl F
set_option maxRecDepth 20000 in
set_option maxHeartbeats 4000000 in
theorem sg_X1_givePenalty_0 {Γ : pv_C} {d kc ks : Nat} {ty : pv_T} {h : pv_H} {r : pv_R} {g : pv_G} {Q : pv_Q} (x : Nat) (y : Nat) (z : Int32) (u : Int32) (hd : 2 ≤ d) (hL : pv_Lay ty r) (F : ((¬ x = 0 → ty y = some (6, 0) ∧ (ty y = some (6, 0)) ∧ vp_in 0 6 ∧ (∀ h1 : pv_H, h1 = pv_up h 81 (Int32.toNatClampNeg 0) (pt_do h y z) → ty y = some (6, 0) ∧ vp_in 1 6 ∧ (∀ h2 : pv_H, h2 = pv_up h1 81 (Int32.toNatClampNeg 1) (if 0 < ((pt_do h y z) - (h1 y 4)) then ((pt_do h y z) - (h1 y 4)) else 0) → ty y = some (6, 0) ∧ vp_in 2 6 ∧ (∀ h3 : pv_H, h3 = pv_up h2 81 (Int32.toNatClampNeg 2) (h2 y 0) → ty y = some (6, 0) ∧ vp_in 3 6 ∧ (∀ h4 : pv_H, h4 = pv_up h3 81 (Int32.toNatClampNeg 3) (h3 y 1) → vp_in 4 6 ∧ (∀ h5 : pv_H, h5 = pv_up h4 81 (Int32.toNatClampNeg 4) u → ty x = some (0, 0) ∧ ty x = some (0, 0) ∧ (∃ k1 n1 : Nat, ty (r x 3) = some (k1, n1) ∧ (20 ≤ k1 ∧ k1 ≤ 27) ∧ pv_CT Γ (d - 1) 0 0 mX9_readText [.ref 80, .ref (r x 3), .int (nI n1), .int 1] ty h5 r g (fun (v1 : Option Value) (ty1 : pv_T) (h6 : pv_H) (r1 : pv_R) (g1 : pv_G) => ∃ w1 : Int32, v1 = some (.int w1) ∧ pv_Lay ty1 r1 ∧ Q (some (.int (pt_cl w1))) ty1 h6 r1 g1)))))))) ∧ (x = 0 → Q (some (.int 0)) ty h r g))) : pv_E Γ d kc ks mX1_givePenalty 0 [some (.ref 70), some (.ref x), some (.ref y), some (.int z), some (.int u), none, none] [] ty h r g Q := by
  refine pv_aload_n dX1_givePenalty_0 rfl ?_
  refine pv_ifnonnull (tgt := 6) dX1_givePenalty_1 (by decide) (fun c1 => ?_) (fun c1 => ?_)
  · have F := F.1 c1
    refine pv_aload_n dX1_givePenalty_6 rfl ?_
    refine pv_iload_n dX1_givePenalty_7 rfl ?_
    obtain ⟨q1, F⟩ := F
    obtain ⟨q2, F⟩ := F
    refine pv_invV (As := [.int z]) (d' := d - 1) dX1_givePenalty_8 moX6_daysOpenOn ml_X1_103 q1 (Or.inl ⟨_, rfl, rfl⟩) (Nat.le_of_ble_eq_true rfl) (by omega) (Nat.zero_le _) (Nat.zero_le _) (ct_X6_days (by omega) q2) (fun v ty' h' r' g' hq => ?_) rfl
    obtain ⟨e1, e2, e3, e4, e5⟩ := hq
    rw [e1, e2, e3, e4, e5]
    refine pv_pc (pc' := 11) rfl ?_
    show pv_E Γ d kc ks mX1_givePenalty 11 [some (.ref 70), some (.ref x), some (.ref y), some (.int z), some (.int u), none, none] [.int (pt_do h y z)] ty h r g Q
    refine pv_istore (ls' := [some (.ref 70), some (.ref x), some (.ref y), some (.int z), some (.int u), some (.int (pt_do h y z)), none]) dX1_givePenalty_11 (by decide) rfl rfl ?_
    refine pv_aload_n dX1_givePenalty_13 rfl ?_
    refine pv_getRk 1 2 dX1_givePenalty_14 fl_X1_24 rfl (lt_70 hL) (lr_70_2 hL) ?_
    refine pv_getRk 9 0 dX1_givePenalty_17 fl_X1_64 rfl (lt_80 hL) (lr_80_0 hL) ?_
    refine pv_astore (ls' := [some (.ref 70), some (.ref x), some (.ref y), some (.int z), some (.int u), some (.int (pt_do h y z)), some (.ref 81)]) dX1_givePenalty_20 (by decide) rfl rfl ?_
    refine pv_aload dX1_givePenalty_22 rfl ?_
    refine pv_pc (pc' := 24) rfl ?_
    refine pv_iconst (v := 0) (by decide) dX1_givePenalty_24 ?_
    refine pv_iload dX1_givePenalty_25 rfl ?_
    obtain ⟨q3, F⟩ := F
    obtain ⟨h1, eh1⟩ : ∃ h1 : pv_H, h1 = pv_up h 81 (Int32.toNatClampNeg 0) (pt_do h y z) := ⟨_, rfl⟩
    have F := F h1 eh1
    refine pv_iast dX1_givePenalty_27 (lt_81 hL) (by decide) q3 ?_
    refine pv_hE eh1 ?_
    refine pv_aload dX1_givePenalty_28 rfl ?_
    refine pv_iconst (v := 1) (by decide) dX1_givePenalty_30 ?_
    refine pv_iconst (v := 0) (by decide) dX1_givePenalty_31 ?_
    refine pv_iload dX1_givePenalty_32 rfl ?_
    refine pv_aload_n dX1_givePenalty_34 rfl ?_
    obtain ⟨q4, F⟩ := F
    refine pv_getI 6 4 dX1_givePenalty_35 fl_X1_108 rfl q4 ?_
    refine pv_isub dX1_givePenalty_38 ?_
    refine pv_mmax dX1_givePenalty_39 ml_X1_111 (by omega) (Nat.le_of_ble_eq_true rfl) ?_
    obtain ⟨q5, F⟩ := F
    obtain ⟨h2, eh2⟩ : ∃ h2 : pv_H, h2 = pv_up h1 81 (Int32.toNatClampNeg 1) (if 0 < ((pt_do h y z) - (h1 y 4)) then ((pt_do h y z) - (h1 y 4)) else 0) := ⟨_, rfl⟩
    have F := F h2 eh2
    refine pv_iast dX1_givePenalty_42 (lt_81 hL) (by decide) q5 ?_
    refine pv_hE eh2 ?_
    refine pv_aload dX1_givePenalty_43 rfl ?_
    refine pv_iconst (v := 2) (by decide) dX1_givePenalty_45 ?_
    refine pv_aload_n dX1_givePenalty_46 rfl ?_
    obtain ⟨q6, F⟩ := F
    refine pv_getI 6 0 dX1_givePenalty_47 fl_X1_117 rfl q6 ?_
    obtain ⟨q7, F⟩ := F
    obtain ⟨h3, eh3⟩ : ∃ h3 : pv_H, h3 = pv_up h2 81 (Int32.toNatClampNeg 2) (h2 y 0) := ⟨_, rfl⟩
    have F := F h3 eh3
    refine pv_iast dX1_givePenalty_50 (lt_81 hL) (by decide) q7 ?_
    refine pv_hE eh3 ?_
    refine pv_aload dX1_givePenalty_51 rfl ?_
    refine pv_iconst (v := 3) (by decide) dX1_givePenalty_53 ?_
    refine pv_aload_n dX1_givePenalty_54 rfl ?_
    obtain ⟨q8, F⟩ := F
    refine pv_getI 6 1 dX1_givePenalty_55 fl_X1_120 rfl q8 ?_
    obtain ⟨q9, F⟩ := F
    obtain ⟨h4, eh4⟩ : ∃ h4 : pv_H, h4 = pv_up h3 81 (Int32.toNatClampNeg 3) (h3 y 1) := ⟨_, rfl⟩
    have F := F h4 eh4
    refine pv_iast dX1_givePenalty_58 (lt_81 hL) (by decide) q9 ?_
    refine pv_hE eh4 ?_
    refine pv_aload dX1_givePenalty_59 rfl ?_
    refine pv_iconst (v := 4) (by decide) dX1_givePenalty_61 ?_
    refine pv_iload dX1_givePenalty_62 rfl ?_
    obtain ⟨q10, F⟩ := F
    obtain ⟨h5, eh5⟩ : ∃ h5 : pv_H, h5 = pv_up h4 81 (Int32.toNatClampNeg 4) u := ⟨_, rfl⟩
    have F := F h5 eh5
    refine pv_iast dX1_givePenalty_64 (lt_81 hL) (by decide) q10 ?_
    refine pv_hE eh5 ?_
    refine pv_aload_n dX1_givePenalty_65 rfl ?_
    refine pv_getRk 1 2 dX1_givePenalty_66 fl_X1_24 rfl (lt_70 hL) (lr_70_2 hL) ?_
    refine pv_aload_n dX1_givePenalty_69 rfl ?_
    obtain ⟨q11, F⟩ := F
    refine pv_getR 0 3 dX1_givePenalty_70 fl_X1_89 rfl q11 ?_
    refine pv_aload_n dX1_givePenalty_73 rfl ?_
    obtain ⟨q12, F⟩ := F
    refine pv_getR 0 3 dX1_givePenalty_74 fl_X1_89 rfl q12 ?_
    obtain ⟨k1, n1, q13, q13k, F⟩ := F
    refine pv_alen dX1_givePenalty_77 q13 q13k ?_
    refine pv_iconst (v := 1) (by decide) dX1_givePenalty_78 ?_
    refine pv_invV (As := [.ref (r x 3), .int (nI n1), .int 1]) (d' := d - 1) dX1_givePenalty_79 moX9_readText ml_X1_35 (lt_80 hL) (Or.inl ⟨_, rfl, rfl⟩) (Nat.le_of_ble_eq_true rfl) (by omega) (Nat.zero_le _) (Nat.zero_le _) F (fun v1 ty1 h6 r1 g1 F => ?_) rfl
    obtain ⟨w1, rfl, F⟩ := F
    obtain ⟨hL1, F⟩ := F
    refine pv_pc (pc' := 82) rfl ?_
    show pv_E Γ d kc ks mX1_givePenalty 82 [some (.ref 70), some (.ref x), some (.ref y), some (.int z), some (.int u), some (.int (pt_do h y z)), some (.ref 81)] [.int w1] ty1 h6 r1 g1 Q
    refine pv_invS (As := [.int w1]) (d' := d - 1) dX1_givePenalty_82 moX1_keepWithin ml_X1_92 (Nat.le_of_ble_eq_true rfl) (by omega) (Nat.zero_le _) (Nat.zero_le _) (ct_X1_keep (by omega)) (fun v ty' h' r' g' hq => ?_) rfl
    obtain ⟨e1, e2, e3, e4, e5⟩ := hq
    rw [e1, e2, e3, e4, e5]
    refine pv_pc (pc' := 85) rfl ?_
    show pv_E Γ d kc ks mX1_givePenalty 85 [some (.ref 70), some (.ref x), some (.ref y), some (.int z), some (.int u), some (.int (pt_do h y z)), some (.ref 81)] [.int (pt_cl w1)] ty1 h6 r1 g1 Q
    exact pv_ireturn dX1_givePenalty_85 rfl rfl F
  · have F := F.2 c1
    refine pv_iconst (v := 0) (by decide) dX1_givePenalty_4 ?_
    exact pv_ireturn dX1_givePenalty_5 rfl rfl F
set_option maxRecDepth 20000 in
set_option maxHeartbeats 4000000 in
theorem sg_X12_rate_0 {Γ : pv_C} {d kc ks : Nat} {ty : pv_T} {h : pv_H} {r : pv_R} {g : pv_G} {Q : pv_Q} (x : Int32) (y : Int32) (z : Int32) (hd : 2 ≤ d) (hL : pv_Lay ty r) (F : (((pf_b (0 ≤ x ∧ x ≤ h 200 33 - 1)) = 0 → Q (some (.int (-2000000000))) ty h r g) ∧ (¬ (pf_b (0 ≤ x ∧ x ≤ h 200 33 - 1)) = 0 → (((pf_b (0 ≤ y ∧ y ≤ 9999)) = 0 → Q (some (.int (-2000000000))) ty h r g) ∧ (¬ (pf_b (0 ≤ y ∧ y ≤ 9999)) = 0 → ((¬ (pf_b (0 ≤ z ∧ z ≤ 9999)) = 0 → pv_CJ Γ (d - 1) mX12_forceOn [.ref 200, .int 0, .int y, .int z] ty h r g (fun (w1 : Int32) (h1 : pv_H) => ((0 ≤ w1 → pv_CJ Γ (d - 1) mX12_part [.ref 200, .int w1, .int x, .int 1, .int y] ty h1 r g (fun (w2 : Int32) (h2 : pv_H) => vp_in x 60 ∧ ((0 ≤ (h2 336 (Int32.toNatClampNeg x)) → pv_CJ Γ (d - 1) mX12_part [.ref 200, .int w1, .int x, .int 0, .int y] ty h2 r g (fun (w3 : Int32) (h3 : pv_H) => Q (some (.int (w2 + w3))) ty h3 r g)) ∧ (¬ 0 ≤ (h2 336 (Int32.toNatClampNeg x)) → Q (some (.int (w2 + 0))) ty h2 r g)))) ∧ (¬ 0 ≤ w1 → Q (some (.int 0)) ty h1 r g)))) ∧ ((pf_b (0 ≤ z ∧ z ≤ 9999)) = 0 → Q (some (.int (-2000000000))) ty h r g))))))) : pv_E Γ d kc ks mX12_rate 0 [some (.ref 200), some (.int x), some (.int y), some (.int z), none] [] ty h r g Q := by
  refine pv_aload_n dX12_rate_0 rfl ?_
  refine pv_iload_n dX12_rate_1 rfl ?_
  refine pv_invV (As := [.int x]) (d' := d - 1) dX12_rate_2 moX12_isHouse ml_X12_303 (lt_200 hL) (Or.inl ⟨_, rfl, rfl⟩) (Nat.le_of_ble_eq_true rfl) (by omega) (Nat.zero_le _) (Nat.zero_le _) (ct_X12_isHouse (by omega) hL) (fun v ty' h' r' g' hq => ?_) rfl
  obtain ⟨e1, e2, e3, e4, e5⟩ := hq
  rw [e1, e2, e3, e4, e5]
  refine pv_pc (pc' := 5) rfl ?_
  show pv_E Γ d kc ks mX12_rate 5 [some (.ref 200), some (.int x), some (.int y), some (.int z), none] [.int (pf_b (0 ≤ x ∧ x ≤ h 200 33 - 1))] ty h r g Q
  refine pv_if_eq (tgt := 22) dX12_rate_5 (by decide) (fun c1 => ?_) (fun c1 => ?_)
  · have F := F.1 c1
    refine pv_ldcw (v := (-2000000000)) dX12_rate_22 kc_X12_306 ?_
    exact pv_ireturn dX12_rate_25 rfl rfl F
  · have F := F.2 c1
    refine pv_iload_n dX12_rate_8 rfl ?_
    refine pv_invS (As := [.int y]) (d' := d - 1) dX12_rate_9 moX12_isDay ml_X12_285 (Nat.le_of_ble_eq_true rfl) (by omega) (Nat.zero_le _) (Nat.zero_le _) (ct_X12_isDay (by omega)) (fun v ty' h' r' g' hq => ?_) rfl
    obtain ⟨e1, e2, e3, e4, e5⟩ := hq
    rw [e1, e2, e3, e4, e5]
    refine pv_pc (pc' := 12) rfl ?_
    show pv_E Γ d kc ks mX12_rate 12 [some (.ref 200), some (.int x), some (.int y), some (.int z), none] [.int (pf_b (0 ≤ y ∧ y ≤ 9999))] ty h r g Q
    refine pv_if_eq (tgt := 22) dX12_rate_12 (by decide) (fun c2 => ?_) (fun c2 => ?_)
    · have F := F.1 c2
      refine pv_ldcw (v := (-2000000000)) dX12_rate_22 kc_X12_306 ?_
      exact pv_ireturn dX12_rate_25 rfl rfl F
    · have F := F.2 c2
      refine pv_iload_n dX12_rate_15 rfl ?_
      refine pv_invS (As := [.int z]) (d' := d - 1) dX12_rate_16 moX12_isDay ml_X12_285 (Nat.le_of_ble_eq_true rfl) (by omega) (Nat.zero_le _) (Nat.zero_le _) (ct_X12_isDay (by omega)) (fun v ty' h' r' g' hq => ?_) rfl
      obtain ⟨e1, e2, e3, e4, e5⟩ := hq
      rw [e1, e2, e3, e4, e5]
      refine pv_pc (pc' := 19) rfl ?_
      show pv_E Γ d kc ks mX12_rate 19 [some (.ref 200), some (.int x), some (.int y), some (.int z), none] [.int (pf_b (0 ≤ z ∧ z ≤ 9999))] ty h r g Q
      refine pv_if_ne (tgt := 26) dX12_rate_19 (by decide) (fun c3 => ?_) (fun c3 => ?_)
      · have F := F.1 c3
        refine pv_aload_n dX12_rate_26 rfl ?_
        refine pv_iconst (v := 0) (by decide) dX12_rate_27 ?_
        refine pv_iload_n dX12_rate_28 rfl ?_
        refine pv_iload_n dX12_rate_29 rfl ?_
        refine pv_invV (As := [.int 0, .int y, .int z]) (d' := d - 1) dX12_rate_30 moX12_forceOn ml_X12_288 (lt_200 hL) (Or.inl ⟨_, rfl, rfl⟩) (Nat.le_of_ble_eq_true rfl) (by omega) (Nat.zero_le _) (Nat.zero_le _) F (fun v ty' h1 r' g' hq => ?_) rfl
        obtain ⟨e2, e4, e5, w1, e1, F⟩ := hq
        rw [e1, e2, e4, e5]
        refine pv_pc (pc' := 33) rfl ?_
        show pv_E Γ d kc ks mX12_rate 33 [some (.ref 200), some (.int x), some (.int y), some (.int z), none] [.int w1] ty h1 r g Q
        refine pv_istore (ls' := [some (.ref 200), some (.int x), some (.int y), some (.int z), some (.int w1)]) dX12_rate_33 (by decide) rfl rfl ?_
        refine pv_iload dX12_rate_35 rfl ?_
        refine pv_if_ge (tgt := 42) dX12_rate_37 (by decide) (fun c4 => ?_) (fun c4 => ?_)
        · have F := F.1 c4
          refine pv_aload_n dX12_rate_42 rfl ?_
          refine pv_iload dX12_rate_43 rfl ?_
          refine pv_iload_n dX12_rate_45 rfl ?_
          refine pv_iconst (v := 1) (by decide) dX12_rate_46 ?_
          refine pv_iload_n dX12_rate_47 rfl ?_
          refine pv_invV (As := [.int w1, .int x, .int 1, .int y]) (d' := d - 1) dX12_rate_48 moX12_part ml_X12_307 (lt_200 hL) (Or.inl ⟨_, rfl, rfl⟩) (Nat.le_of_ble_eq_true rfl) (by omega) (Nat.zero_le _) (Nat.zero_le _) F (fun v ty' h2 r' g' hq => ?_) rfl
          obtain ⟨e2, e4, e5, w2, e1, F⟩ := hq
          rw [e1, e2, e4, e5]
          refine pv_pc (pc' := 51) rfl ?_
          show pv_E Γ d kc ks mX12_rate 51 [some (.ref 200), some (.int x), some (.int y), some (.int z), some (.int w1)] [.int w2] ty h2 r g Q
          refine pv_aload_n dX12_rate_51 rfl ?_
          refine pv_getRk 12 36 dX12_rate_52 fl_X12_90 rfl (lt_200 hL) (lr_200_36 hL) ?_
          refine pv_iload_n dX12_rate_55 rfl ?_
          obtain ⟨q1, F⟩ := F
          refine pv_iald dX12_rate_56 (lt_336 hL) q1 ?_
          refine pv_if_ge (tgt := 64) dX12_rate_57 (by decide) (fun c5 => ?_) (fun c5 => ?_)
          · have F := F.1 c5
            refine pv_aload_n dX12_rate_64 rfl ?_
            refine pv_iload dX12_rate_65 rfl ?_
            refine pv_iload_n dX12_rate_67 rfl ?_
            refine pv_iconst (v := 0) (by decide) dX12_rate_68 ?_
            refine pv_iload_n dX12_rate_69 rfl ?_
            refine pv_invV (As := [.int w1, .int x, .int 0, .int y]) (d' := d - 1) dX12_rate_70 moX12_part ml_X12_307 (lt_200 hL) (Or.inl ⟨_, rfl, rfl⟩) (Nat.le_of_ble_eq_true rfl) (by omega) (Nat.zero_le _) (Nat.zero_le _) F (fun v ty' h3 r' g' hq => ?_) rfl
            obtain ⟨e2, e4, e5, w3, e1, F⟩ := hq
            rw [e1, e2, e4, e5]
            refine pv_pc (pc' := 73) rfl ?_
            show pv_E Γ d kc ks mX12_rate 73 [some (.ref 200), some (.int x), some (.int y), some (.int z), some (.int w1)] [.int w3, .int w2] ty h3 r g Q
            refine pv_iadd dX12_rate_73 ?_
            exact pv_ireturn dX12_rate_74 rfl rfl F
          · have F := F.2 c5
            refine pv_iconst (v := 0) (by decide) dX12_rate_60 ?_
            refine pv_goto (tgt := 73) dX12_rate_61 (by decide) ?_
            refine pv_iadd dX12_rate_73 ?_
            exact pv_ireturn dX12_rate_74 rfl rfl F
        · have F := F.2 c4
          refine pv_iconst (v := 0) (by decide) dX12_rate_40 ?_
          exact pv_ireturn dX12_rate_41 rfl rfl F
      · have F := F.2 c3
        refine pv_ldcw (v := (-2000000000)) dX12_rate_22 kc_X12_306 ?_
        exact pv_ireturn dX12_rate_25 rfl rfl F
set_option maxRecDepth 20000 in
set_option maxHeartbeats 4000000 in
theorem sg_X11_rate_0 {Γ : pv_C} {d kc ks : Nat} {ty : pv_T} {h : pv_H} {r : pv_R} {g : pv_G} {Q : pv_Q} (x : Int32) (y : Int32) (z : Int32) (hd : 2 ≤ d) (hL : pv_Lay ty r) (F : pv_CT Γ (d - 1) 0 0 mX11_findHouse [.ref 100, .int x] ty h r g (fun (v1 : Option Value) (ty1 : pv_T) (h1 : pv_H) (r1 : pv_R) (g1 : pv_G) => ∃ w1 : Nat, v1 = some (.ref w1) ∧ pv_Lay ty1 r1 ∧ ((w1 = 0 → Q (some (.int (-2000000000))) ty1 h1 r1 g1) ∧ (¬ w1 = 0 → (((pf_b (0 ≤ y ∧ y ≤ 9999)) = 0 → Q (some (.int (-2000000000))) ty1 h1 r1 g1) ∧ (¬ (pf_b (0 ≤ y ∧ y ≤ 9999)) = 0 → ((¬ (pf_b (0 ≤ z ∧ z ≤ 9999)) = 0 → pv_CT Γ (d - 1) 0 0 mX1_findInForce [.ref 70, .int 0, .int y, .int z] ty1 h1 r1 g1 (fun (v2 : Option Value) (ty2 : pv_T) (h2 : pv_H) (r2 : pv_R) (g2 : pv_G) => ∃ w2 : Nat, v2 = some (.ref w2) ∧ pv_Lay ty2 r2 ∧ pv_CT Γ (d - 1) 0 0 mX1_givePart [.ref 70, .ref w2, .ref w1, .int 0, .int y] ty2 h2 r2 g2 (fun (v3 : Option Value) (ty3 : pv_T) (h3 : pv_H) (r3 : pv_R) (g3 : pv_G) => ∃ w3 : Int32, v3 = some (.int w3) ∧ pv_Lay ty3 r3 ∧ ty3 w1 = some (3, 0) ∧ (ty3 w1 = some (3, 0)) ∧ (((pf_b (¬ h3 w1 2 = -1)) = 0 → Q (some (.int w3)) ty3 h3 r3 g3) ∧ (¬ (pf_b (¬ h3 w1 2 = -1)) = 0 → pv_CT Γ (d - 1) 0 0 mX1_givePart [.ref 70, .ref w2, .ref w1, .int 1, .int y] ty3 h3 r3 g3 (fun (v4 : Option Value) (ty4 : pv_T) (h4 : pv_H) (r4 : pv_R) (g4 : pv_G) => ∃ w4 : Int32, v4 = some (.int w4) ∧ pv_Lay ty4 r4 ∧ Q (some (.int (w3 + w4))) ty4 h4 r4 g4)))))) ∧ ((pf_b (0 ≤ z ∧ z ≤ 9999)) = 0 → Q (some (.int (-2000000000))) ty1 h1 r1 g1)))))))) : pv_E Γ d kc ks mX11_rate 0 [some (.ref 100), some (.int x), some (.int y), some (.int z), none, none, none] [] ty h r g Q := by
  refine pv_aload_n dX11_rate_0 rfl ?_
  refine pv_iload_n dX11_rate_1 rfl ?_
  refine pv_invV (As := [.int x]) (d' := d - 1) dX11_rate_2 moX11_findHouse ml_X11_205 (lt_100 hL) (Or.inl ⟨_, rfl, rfl⟩) (Nat.le_of_ble_eq_true rfl) (by omega) (Nat.zero_le _) (Nat.zero_le _) F (fun v1 ty1 h1 r1 g1 F => ?_) rfl
  obtain ⟨w1, rfl, F⟩ := F
  obtain ⟨hL1, F⟩ := F
  refine pv_pc (pc' := 5) rfl ?_
  show pv_E Γ d kc ks mX11_rate 5 [some (.ref 100), some (.int x), some (.int y), some (.int z), none, none, none] [.ref w1] ty1 h1 r1 g1 Q
  refine pv_astore (ls' := [some (.ref 100), some (.int x), some (.int y), some (.int z), some (.ref w1), none, none]) dX11_rate_5 (by decide) rfl rfl ?_
  refine pv_aload dX11_rate_7 rfl ?_
  refine pv_ifnull (tgt := 26) dX11_rate_9 (by decide) (fun c1 => ?_) (fun c1 => ?_)
  · have F := F.1 c1
    refine pv_ldc (v := (-2000000000)) dX11_rate_26 kc_X11_209 ?_
    exact pv_ireturn dX11_rate_28 rfl rfl F
  · have F := F.2 c1
    refine pv_iload_n dX11_rate_12 rfl ?_
    refine pv_invS (As := [.int y]) (d' := d - 1) dX11_rate_13 moX11_isDay ml_X11_195 (Nat.le_of_ble_eq_true rfl) (by omega) (Nat.zero_le _) (Nat.zero_le _) (ct_X11_isDay (by omega)) (fun v ty' h' r' g' hq => ?_) rfl
    obtain ⟨e1, e2, e3, e4, e5⟩ := hq
    rw [e1, e2, e3, e4, e5]
    refine pv_pc (pc' := 16) rfl ?_
    show pv_E Γ d kc ks mX11_rate 16 [some (.ref 100), some (.int x), some (.int y), some (.int z), some (.ref w1), none, none] [.int (pf_b (0 ≤ y ∧ y ≤ 9999))] ty1 h1 r1 g1 Q
    refine pv_if_eq (tgt := 26) dX11_rate_16 (by decide) (fun c2 => ?_) (fun c2 => ?_)
    · have F := F.1 c2
      refine pv_ldc (v := (-2000000000)) dX11_rate_26 kc_X11_209 ?_
      exact pv_ireturn dX11_rate_28 rfl rfl F
    · have F := F.2 c2
      refine pv_iload_n dX11_rate_19 rfl ?_
      refine pv_invS (As := [.int z]) (d' := d - 1) dX11_rate_20 moX11_isDay ml_X11_195 (Nat.le_of_ble_eq_true rfl) (by omega) (Nat.zero_le _) (Nat.zero_le _) (ct_X11_isDay (by omega)) (fun v ty' h' r' g' hq => ?_) rfl
      obtain ⟨e1, e2, e3, e4, e5⟩ := hq
      rw [e1, e2, e3, e4, e5]
      refine pv_pc (pc' := 23) rfl ?_
      show pv_E Γ d kc ks mX11_rate 23 [some (.ref 100), some (.int x), some (.int y), some (.int z), some (.ref w1), none, none] [.int (pf_b (0 ≤ z ∧ z ≤ 9999))] ty1 h1 r1 g1 Q
      refine pv_if_ne (tgt := 29) dX11_rate_23 (by decide) (fun c3 => ?_) (fun c3 => ?_)
      · have F := F.1 c3
        refine pv_aload_n dX11_rate_29 rfl ?_
        refine pv_getRk 11 10 dX11_rate_30 fl_X11_52 rfl (lt_100 hL1) (lr_100_10 hL1) ?_
        refine pv_iconst (v := 0) (by decide) dX11_rate_33 ?_
        refine pv_iload_n dX11_rate_34 rfl ?_
        refine pv_iload_n dX11_rate_35 rfl ?_
        refine pv_invV (As := [.int 0, .int y, .int z]) (d' := d - 1) dX11_rate_36 moX1_findInForce ml_X11_210 (lt_70 hL1) (Or.inl ⟨_, rfl, rfl⟩) (Nat.le_of_ble_eq_true rfl) (by omega) (Nat.zero_le _) (Nat.zero_le _) F (fun v2 ty2 h2 r2 g2 F => ?_) rfl
        obtain ⟨w2, rfl, F⟩ := F
        obtain ⟨hL2, F⟩ := F
        refine pv_pc (pc' := 39) rfl ?_
        show pv_E Γ d kc ks mX11_rate 39 [some (.ref 100), some (.int x), some (.int y), some (.int z), some (.ref w1), none, none] [.ref w2] ty2 h2 r2 g2 Q
        refine pv_astore (ls' := [some (.ref 100), some (.int x), some (.int y), some (.int z), some (.ref w1), some (.ref w2), none]) dX11_rate_39 (by decide) rfl rfl ?_
        refine pv_aload_n dX11_rate_41 rfl ?_
        refine pv_getRk 11 10 dX11_rate_42 fl_X11_52 rfl (lt_100 hL2) (lr_100_10 hL2) ?_
        refine pv_aload dX11_rate_45 rfl ?_
        refine pv_aload dX11_rate_47 rfl ?_
        refine pv_iconst (v := 0) (by decide) dX11_rate_49 ?_
        refine pv_pc (pc' := 50) rfl ?_
        refine pv_iload_n dX11_rate_50 rfl ?_
        refine pv_invV (As := [.ref w2, .ref w1, .int 0, .int y]) (d' := d - 1) dX11_rate_51 moX1_givePart ml_X11_214 (lt_70 hL2) (Or.inl ⟨_, rfl, rfl⟩) (Nat.le_of_ble_eq_true rfl) (by omega) (Nat.zero_le _) (Nat.zero_le _) F (fun v3 ty3 h3 r3 g3 F => ?_) rfl
        obtain ⟨w3, rfl, F⟩ := F
        obtain ⟨hL3, F⟩ := F
        refine pv_pc (pc' := 54) rfl ?_
        show pv_E Γ d kc ks mX11_rate 54 [some (.ref 100), some (.int x), some (.int y), some (.int z), some (.ref w1), some (.ref w2), none] [.int w3] ty3 h3 r3 g3 Q
        refine pv_istore (ls' := [some (.ref 100), some (.int x), some (.int y), some (.int z), some (.ref w1), some (.ref w2), some (.int w3)]) dX11_rate_54 (by decide) rfl rfl ?_
        refine pv_aload dX11_rate_56 rfl ?_
        obtain ⟨q1, F⟩ := F
        obtain ⟨q2, F⟩ := F
        refine pv_invV (As := []) (d' := d - 1) dX11_rate_58 moX3_isCorner ml_X11_218 q1 (Or.inl ⟨_, rfl, rfl⟩) (Nat.le_of_ble_eq_true rfl) (by omega) (Nat.zero_le _) (Nat.zero_le _) (ct_X3_isCorner (by omega) q2) (fun v ty' h' r' g' hq => ?_) rfl
        obtain ⟨e1, e2, e3, e4, e5⟩ := hq
        rw [e1, e2, e3, e4, e5]
        refine pv_pc (pc' := 61) rfl ?_
        show pv_E Γ d kc ks mX11_rate 61 [some (.ref 100), some (.int x), some (.int y), some (.int z), some (.ref w1), some (.ref w2), some (.int w3)] [.int (pf_b (¬ h3 w1 2 = -1))] ty3 h3 r3 g3 Q
        refine pv_if_eq (tgt := 82) dX11_rate_61 (by decide) (fun c4 => ?_) (fun c4 => ?_)
        · have F := F.1 c4
          refine pv_iload dX11_rate_82 rfl ?_
          exact pv_ireturn dX11_rate_84 rfl rfl F
        · have F := F.2 c4
          refine pv_iload dX11_rate_64 rfl ?_
          refine pv_aload_n dX11_rate_66 rfl ?_
          refine pv_getRk 11 10 dX11_rate_67 fl_X11_52 rfl (lt_100 hL3) (lr_100_10 hL3) ?_
          refine pv_aload dX11_rate_70 rfl ?_
          refine pv_aload dX11_rate_72 rfl ?_
          refine pv_iconst (v := 1) (by decide) dX11_rate_74 ?_
          refine pv_pc (pc' := 75) rfl ?_
          refine pv_iload_n dX11_rate_75 rfl ?_
          refine pv_invV (As := [.ref w2, .ref w1, .int 1, .int y]) (d' := d - 1) dX11_rate_76 moX1_givePart ml_X11_214 (lt_70 hL3) (Or.inl ⟨_, rfl, rfl⟩) (Nat.le_of_ble_eq_true rfl) (by omega) (Nat.zero_le _) (Nat.zero_le _) F (fun v4 ty4 h4 r4 g4 F => ?_) rfl
          obtain ⟨w4, rfl, F⟩ := F
          obtain ⟨hL4, F⟩ := F
          refine pv_pc (pc' := 79) rfl ?_
          show pv_E Γ d kc ks mX11_rate 79 [some (.ref 100), some (.int x), some (.int y), some (.int z), some (.ref w1), some (.ref w2), some (.int w3)] [.int w4, .int w3] ty4 h4 r4 g4 Q
          refine pv_iadd dX11_rate_79 ?_
          refine pv_istore (ls' := [some (.ref 100), some (.int x), some (.int y), some (.int z), some (.ref w1), some (.ref w2), some (.int (w3 + w4))]) dX11_rate_80 (by decide) rfl rfl ?_
          refine pv_iload dX11_rate_82 rfl ?_
          exact pv_ireturn dX11_rate_84 rfl rfl F
      · have F := F.2 c3
        refine pv_ldc (v := (-2000000000)) dX11_rate_26 kc_X11_209 ?_
        exact pv_ireturn dX11_rate_28 rfl rfl F
set_option maxRecDepth 20000 in
set_option maxHeartbeats 4000000 in
theorem sg_X12_rates_0 {Γ : pv_C} {d kc ks : Nat} {ty : pv_T} {h : pv_H} {r : pv_R} {g : pv_G} {Q : pv_Q} (x : Int32) (y : Int32) (hd : 2 ≤ d) (hL : pv_Lay ty r) (F : (((pf_b (0 ≤ x ∧ x ≤ h 200 1 - 1)) = 0 → Q (some (.int (-2000000000))) ty h r g) ∧ (¬ (pf_b (0 ≤ x ∧ x ≤ h 200 1 - 1)) = 0 → ((¬ (pf_b (0 ≤ y ∧ y ≤ 9999)) = 0 → pv_CJ Γ (d - 1) mX12_forceOn [.ref 200, .int 0, .int y, .int y] ty h r g (fun (w1 : Int32) (h1 : pv_H) => pv_E Γ d kc ks mX12_rates 33 [some (.ref 200), some (.int x), some (.int y), some (.int w1), some (.int 0), some (.int 0)] [] ty h1 r g Q)) ∧ ((pf_b (0 ≤ y ∧ y ≤ 9999)) = 0 → Q (some (.int (-2000000000))) ty h r g))))) : pv_E Γ d kc ks mX12_rates 0 [some (.ref 200), some (.int x), some (.int y), none, none, none] [] ty h r g Q := by
  refine pv_aload_n dX12_rates_0 rfl ?_
  refine pv_iload_n dX12_rates_1 rfl ?_
  refine pv_invV (As := [.int x]) (d' := d - 1) dX12_rates_2 moX12_isStreet ml_X12_168 (lt_200 hL) (Or.inl ⟨_, rfl, rfl⟩) (Nat.le_of_ble_eq_true rfl) (by omega) (Nat.zero_le _) (Nat.zero_le _) (ct_X12_isStreet (by omega) hL) (fun v ty' h' r' g' hq => ?_) rfl
  obtain ⟨e1, e2, e3, e4, e5⟩ := hq
  rw [e1, e2, e3, e4, e5]
  refine pv_pc (pc' := 5) rfl ?_
  show pv_E Γ d kc ks mX12_rates 5 [some (.ref 200), some (.int x), some (.int y), none, none, none] [.int (pf_b (0 ≤ x ∧ x ≤ h 200 1 - 1))] ty h r g Q
  refine pv_if_eq (tgt := 15) dX12_rates_5 (by decide) (fun c1 => ?_) (fun c1 => ?_)
  · have F := F.1 c1
    refine pv_ldcw (v := (-2000000000)) dX12_rates_15 kc_X12_306 ?_
    exact pv_ireturn dX12_rates_18 rfl rfl F
  · have F := F.2 c1
    refine pv_iload_n dX12_rates_8 rfl ?_
    refine pv_invS (As := [.int y]) (d' := d - 1) dX12_rates_9 moX12_isDay ml_X12_285 (Nat.le_of_ble_eq_true rfl) (by omega) (Nat.zero_le _) (Nat.zero_le _) (ct_X12_isDay (by omega)) (fun v ty' h' r' g' hq => ?_) rfl
    obtain ⟨e1, e2, e3, e4, e5⟩ := hq
    rw [e1, e2, e3, e4, e5]
    refine pv_pc (pc' := 12) rfl ?_
    show pv_E Γ d kc ks mX12_rates 12 [some (.ref 200), some (.int x), some (.int y), none, none, none] [.int (pf_b (0 ≤ y ∧ y ≤ 9999))] ty h r g Q
    refine pv_if_ne (tgt := 19) dX12_rates_12 (by decide) (fun c2 => ?_) (fun c2 => ?_)
    · have F := F.1 c2
      refine pv_aload_n dX12_rates_19 rfl ?_
      refine pv_iconst (v := 0) (by decide) dX12_rates_20 ?_
      refine pv_iload_n dX12_rates_21 rfl ?_
      refine pv_iload_n dX12_rates_22 rfl ?_
      refine pv_invV (As := [.int 0, .int y, .int y]) (d' := d - 1) dX12_rates_23 moX12_forceOn ml_X12_288 (lt_200 hL) (Or.inl ⟨_, rfl, rfl⟩) (Nat.le_of_ble_eq_true rfl) (by omega) (Nat.zero_le _) (Nat.zero_le _) F (fun v ty' h1 r' g' hq => ?_) rfl
      obtain ⟨e2, e4, e5, w1, e1, F⟩ := hq
      rw [e1, e2, e4, e5]
      refine pv_pc (pc' := 26) rfl ?_
      show pv_E Γ d kc ks mX12_rates 26 [some (.ref 200), some (.int x), some (.int y), none, none, none] [.int w1] ty h1 r g Q
      refine pv_istore_n (ls' := [some (.ref 200), some (.int x), some (.int y), some (.int w1), none, none]) dX12_rates_26 (by decide) rfl rfl ?_
      refine pv_iconst (v := 0) (by decide) dX12_rates_27 ?_
      refine pv_istore (ls' := [some (.ref 200), some (.int x), some (.int y), some (.int w1), some (.int 0), none]) dX12_rates_28 (by decide) rfl rfl ?_
      refine pv_iconst (v := 0) (by decide) dX12_rates_30 ?_
      refine pv_istore (ls' := [some (.ref 200), some (.int x), some (.int y), some (.int w1), some (.int 0), some (.int 0)]) dX12_rates_31 (by decide) rfl rfl ?_
      exact F
    · have F := F.2 c2
      refine pv_ldcw (v := (-2000000000)) dX12_rates_15 kc_X12_306 ?_
      exact pv_ireturn dX12_rates_18 rfl rfl F
set_option maxRecDepth 20000 in
set_option maxHeartbeats 4000000 in
theorem sg_X12_rates_33 {Γ : pv_C} {d kc ks : Nat} {ty : pv_T} {h : pv_H} {r : pv_R} {g : pv_G} {Q : pv_Q} (x1 : Int32) (x2 : Int32) (x3 : Int32) (x4 : Int32) (x5 : Int32) (hd : 1 ≤ d) (hL : pv_Lay ty r) (F : (((h 200 33) ≤ x5 → Q (some (.int x4)) ty h r g) ∧ (¬ (h 200 33) ≤ x5 → ((x3 < 0 → Q (some (.int x4)) ty h r g) ∧ (¬ x3 < 0 → vp_in x5 60 ∧ ((¬ (h 334 (Int32.toNatClampNeg x5)) = x1 → vp_in x5 60 ∧ ((¬ (h 336 (Int32.toNatClampNeg x5)) = x1 → pv_E Γ d kc ks mX12_rates 33 [some (.ref 200), some (.int x1), some (.int x2), some (.int x3), some (.int x4), some (.int (x5 + 1))] [] ty h r g Q) ∧ ((h 336 (Int32.toNatClampNeg x5)) = x1 → pv_CJ Γ (d - 1) mX12_part [.ref 200, .int x3, .int x5, .int 0, .int x2] ty h r g (fun (w1 : Int32) (h1 : pv_H) => pv_E Γ d kc ks mX12_rates 33 [some (.ref 200), some (.int x1), some (.int x2), some (.int x3), some (.int (x4 + w1)), some (.int (x5 + 1))] [] ty h1 r g Q)))) ∧ ((h 334 (Int32.toNatClampNeg x5)) = x1 → pv_CJ Γ (d - 1) mX12_part [.ref 200, .int x3, .int x5, .int 1, .int x2] ty h r g (fun (w2 : Int32) (h2 : pv_H) => vp_in x5 60 ∧ ((¬ (h2 336 (Int32.toNatClampNeg x5)) = x1 → pv_E Γ d kc ks mX12_rates 33 [some (.ref 200), some (.int x1), some (.int x2), some (.int x3), some (.int (x4 + w2)), some (.int (x5 + 1))] [] ty h2 r g Q) ∧ ((h2 336 (Int32.toNatClampNeg x5)) = x1 → pv_CJ Γ (d - 1) mX12_part [.ref 200, .int x3, .int x5, .int 0, .int x2] ty h2 r g (fun (w3 : Int32) (h3 : pv_H) => pv_E Γ d kc ks mX12_rates 33 [some (.ref 200), some (.int x1), some (.int x2), some (.int x3), some (.int ((x4 + w2) + w3)), some (.int (x5 + 1))] [] ty h3 r g Q))))))))))) : pv_E Γ d kc ks mX12_rates 33 [some (.ref 200), some (.int x1), some (.int x2), some (.int x3), some (.int x4), some (.int x5)] [] ty h r g Q := by
  refine pv_iload dX12_rates_33 rfl ?_
  refine pv_aload_n dX12_rates_35 rfl ?_
  refine pv_getI 12 33 dX12_rates_36 fl_X12_234 rfl (lt_200 hL) ?_
  refine pv_icmp_ge (tgt := 102) dX12_rates_39 (by decide) (fun c1 => ?_) (fun c1 => ?_)
  · have F := F.1 c1
    refine pv_iload dX12_rates_102 rfl ?_
    exact pv_ireturn dX12_rates_104 rfl rfl F
  · have F := F.2 c1
    refine pv_iload_n dX12_rates_42 rfl ?_
    refine pv_if_lt (tgt := 102) dX12_rates_43 (by decide) (fun c2 => ?_) (fun c2 => ?_)
    · have F := F.1 c2
      refine pv_iload dX12_rates_102 rfl ?_
      exact pv_ireturn dX12_rates_104 rfl rfl F
    · have F := F.2 c2
      refine pv_aload_n dX12_rates_46 rfl ?_
      refine pv_getRk 12 34 dX12_rates_47 fl_X12_84 rfl (lt_200 hL) (lr_200_34 hL) ?_
      refine pv_iload dX12_rates_50 rfl ?_
      obtain ⟨q1, F⟩ := F
      refine pv_iald dX12_rates_52 (lt_334 hL) q1 ?_
      refine pv_iload_n dX12_rates_53 rfl ?_
      refine pv_icmp_ne (tgt := 71) dX12_rates_54 (by decide) (fun c3 => ?_) (fun c3 => ?_)
      · have F := F.1 c3
        refine pv_aload_n dX12_rates_71 rfl ?_
        refine pv_getRk 12 36 dX12_rates_72 fl_X12_90 rfl (lt_200 hL) (lr_200_36 hL) ?_
        refine pv_iload dX12_rates_75 rfl ?_
        obtain ⟨q2, F⟩ := F
        refine pv_iald dX12_rates_77 (lt_336 hL) q2 ?_
        refine pv_iload_n dX12_rates_78 rfl ?_
        refine pv_icmp_ne (tgt := 96) dX12_rates_79 (by decide) (fun c4 => ?_) (fun c4 => ?_)
        · have F := F.1 c4
          refine pv_iinc (v := x5 + 1) (ls' := [some (.ref 200), some (.int x1), some (.int x2), some (.int x3), some (.int x4), some (.int (x5 + 1))]) dX12_rates_96 rfl (by rfl) rfl rfl ?_
          refine pv_goto (tgt := 33) dX12_rates_99 (by decide) ?_
          exact F
        · have F := F.2 c4
          refine pv_iload dX12_rates_82 rfl ?_
          refine pv_aload_n dX12_rates_84 rfl ?_
          refine pv_iload_n dX12_rates_85 rfl ?_
          refine pv_iload dX12_rates_86 rfl ?_
          refine pv_iconst (v := 0) (by decide) dX12_rates_88 ?_
          refine pv_iload_n dX12_rates_89 rfl ?_
          refine pv_pc (pc' := 90) rfl ?_
          refine pv_invV (As := [.int x3, .int x5, .int 0, .int x2]) (d' := d - 1) dX12_rates_90 moX12_part ml_X12_307 (lt_200 hL) (Or.inl ⟨_, rfl, rfl⟩) (Nat.le_of_ble_eq_true rfl) (by omega) (Nat.zero_le _) (Nat.zero_le _) F (fun v ty' h1 r' g' hq => ?_) rfl
          obtain ⟨e2, e4, e5, w1, e1, F⟩ := hq
          rw [e1, e2, e4, e5]
          refine pv_pc (pc' := 93) rfl ?_
          show pv_E Γ d kc ks mX12_rates 93 [some (.ref 200), some (.int x1), some (.int x2), some (.int x3), some (.int x4), some (.int x5)] [.int w1, .int x4] ty h1 r g Q
          refine pv_iadd dX12_rates_93 ?_
          refine pv_istore (ls' := [some (.ref 200), some (.int x1), some (.int x2), some (.int x3), some (.int (x4 + w1)), some (.int x5)]) dX12_rates_94 (by decide) rfl rfl ?_
          refine pv_iinc (v := x5 + 1) (ls' := [some (.ref 200), some (.int x1), some (.int x2), some (.int x3), some (.int (x4 + w1)), some (.int (x5 + 1))]) dX12_rates_96 rfl (by rfl) rfl rfl ?_
          refine pv_goto (tgt := 33) dX12_rates_99 (by decide) ?_
          exact F
      · have F := F.2 c3
        refine pv_iload dX12_rates_57 rfl ?_
        refine pv_aload_n dX12_rates_59 rfl ?_
        refine pv_iload_n dX12_rates_60 rfl ?_
        refine pv_iload dX12_rates_61 rfl ?_
        refine pv_iconst (v := 1) (by decide) dX12_rates_63 ?_
        refine pv_iload_n dX12_rates_64 rfl ?_
        refine pv_pc (pc' := 65) rfl ?_
        refine pv_invV (As := [.int x3, .int x5, .int 1, .int x2]) (d' := d - 1) dX12_rates_65 moX12_part ml_X12_307 (lt_200 hL) (Or.inl ⟨_, rfl, rfl⟩) (Nat.le_of_ble_eq_true rfl) (by omega) (Nat.zero_le _) (Nat.zero_le _) F (fun v ty' h2 r' g' hq => ?_) rfl
        obtain ⟨e2, e4, e5, w2, e1, F⟩ := hq
        rw [e1, e2, e4, e5]
        refine pv_pc (pc' := 68) rfl ?_
        show pv_E Γ d kc ks mX12_rates 68 [some (.ref 200), some (.int x1), some (.int x2), some (.int x3), some (.int x4), some (.int x5)] [.int w2, .int x4] ty h2 r g Q
        refine pv_iadd dX12_rates_68 ?_
        refine pv_istore (ls' := [some (.ref 200), some (.int x1), some (.int x2), some (.int x3), some (.int (x4 + w2)), some (.int x5)]) dX12_rates_69 (by decide) rfl rfl ?_
        refine pv_aload_n dX12_rates_71 rfl ?_
        refine pv_getRk 12 36 dX12_rates_72 fl_X12_90 rfl (lt_200 hL) (lr_200_36 hL) ?_
        refine pv_iload dX12_rates_75 rfl ?_
        obtain ⟨q3, F⟩ := F
        refine pv_iald dX12_rates_77 (lt_336 hL) q3 ?_
        refine pv_iload_n dX12_rates_78 rfl ?_
        refine pv_icmp_ne (tgt := 96) dX12_rates_79 (by decide) (fun c5 => ?_) (fun c5 => ?_)
        · have F := F.1 c5
          refine pv_iinc (v := x5 + 1) (ls' := [some (.ref 200), some (.int x1), some (.int x2), some (.int x3), some (.int (x4 + w2)), some (.int (x5 + 1))]) dX12_rates_96 rfl (by rfl) rfl rfl ?_
          refine pv_goto (tgt := 33) dX12_rates_99 (by decide) ?_
          exact F
        · have F := F.2 c5
          refine pv_iload dX12_rates_82 rfl ?_
          refine pv_aload_n dX12_rates_84 rfl ?_
          refine pv_iload_n dX12_rates_85 rfl ?_
          refine pv_iload dX12_rates_86 rfl ?_
          refine pv_iconst (v := 0) (by decide) dX12_rates_88 ?_
          refine pv_iload_n dX12_rates_89 rfl ?_
          refine pv_pc (pc' := 90) rfl ?_
          refine pv_invV (As := [.int x3, .int x5, .int 0, .int x2]) (d' := d - 1) dX12_rates_90 moX12_part ml_X12_307 (lt_200 hL) (Or.inl ⟨_, rfl, rfl⟩) (Nat.le_of_ble_eq_true rfl) (by omega) (Nat.zero_le _) (Nat.zero_le _) F (fun v ty' h3 r' g' hq => ?_) rfl
          obtain ⟨e2, e4, e5, w3, e1, F⟩ := hq
          rw [e1, e2, e4, e5]
          refine pv_pc (pc' := 93) rfl ?_
          show pv_E Γ d kc ks mX12_rates 93 [some (.ref 200), some (.int x1), some (.int x2), some (.int x3), some (.int (x4 + w2)), some (.int x5)] [.int w3, .int (x4 + w2)] ty h3 r g Q
          refine pv_iadd dX12_rates_93 ?_
          refine pv_istore (ls' := [some (.ref 200), some (.int x1), some (.int x2), some (.int x3), some (.int ((x4 + w2) + w3)), some (.int x5)]) dX12_rates_94 (by decide) rfl rfl ?_
          refine pv_iinc (v := x5 + 1) (ls' := [some (.ref 200), some (.int x1), some (.int x2), some (.int x3), some (.int ((x4 + w2) + w3)), some (.int (x5 + 1))]) dX12_rates_96 rfl (by rfl) rfl rfl ?_
          refine pv_goto (tgt := 33) dX12_rates_99 (by decide) ?_
          exact F
set_option maxRecDepth 20000 in
set_option maxHeartbeats 4000000 in
theorem sg_X11_rates_0 {Γ : pv_C} {d kc ks : Nat} {ty : pv_T} {h : pv_H} {r : pv_R} {g : pv_G} {Q : pv_Q} (x : Int32) (y : Int32) (hd : 2 ≤ d) (hL : pv_Lay ty r) (F : pv_CT Γ (d - 1) 0 0 mX11_findStreet [.ref 100, .int x] ty h r g (fun (v1 : Option Value) (ty1 : pv_T) (h1 : pv_H) (r1 : pv_R) (g1 : pv_G) => ∃ w1 : Nat, v1 = some (.ref w1) ∧ pv_Lay ty1 r1 ∧ ((w1 = 0 → Q (some (.int (-2000000000))) ty1 h1 r1 g1) ∧ (¬ w1 = 0 → ((¬ (pf_b (0 ≤ y ∧ y ≤ 9999)) = 0 → pv_CT Γ (d - 1) 0 0 mX1_findInForce [.ref 70, .int 0, .int y, .int y] ty1 h1 r1 g1 (fun (v2 : Option Value) (ty2 : pv_T) (h2 : pv_H) (r2 : pv_R) (g2 : pv_G) => ∃ w2 : Nat, v2 = some (.ref w2) ∧ pv_Lay ty2 r2 ∧ pv_E Γ d kc ks mX11_rates 35 [some (.ref 100), some (.int x), some (.int y), some (.ref w2), some (.int 0), some (.int 0), none] [] ty2 h2 r2 g2 Q)) ∧ ((pf_b (0 ≤ y ∧ y ≤ 9999)) = 0 → Q (some (.int (-2000000000))) ty1 h1 r1 g1)))))) : pv_E Γ d kc ks mX11_rates 0 [some (.ref 100), some (.int x), some (.int y), none, none, none, none] [] ty h r g Q := by
  refine pv_aload_n dX11_rates_0 rfl ?_
  refine pv_iload_n dX11_rates_1 rfl ?_
  refine pv_invV (As := [.int x]) (d' := d - 1) dX11_rates_2 moX11_findStreet ml_X11_80 (lt_100 hL) (Or.inl ⟨_, rfl, rfl⟩) (Nat.le_of_ble_eq_true rfl) (by omega) (Nat.zero_le _) (Nat.zero_le _) F (fun v1 ty1 h1 r1 g1 F => ?_) rfl
  obtain ⟨w1, rfl, F⟩ := F
  obtain ⟨hL1, F⟩ := F
  refine pv_pc (pc' := 5) rfl ?_
  show pv_E Γ d kc ks mX11_rates 5 [some (.ref 100), some (.int x), some (.int y), none, none, none, none] [.ref w1] ty1 h1 r1 g1 Q
  refine pv_ifnull (tgt := 15) dX11_rates_5 (by decide) (fun c1 => ?_) (fun c1 => ?_)
  · have F := F.1 c1
    refine pv_ldc (v := (-2000000000)) dX11_rates_15 kc_X11_209 ?_
    exact pv_ireturn dX11_rates_17 rfl rfl F
  · have F := F.2 c1
    refine pv_iload_n dX11_rates_8 rfl ?_
    refine pv_invS (As := [.int y]) (d' := d - 1) dX11_rates_9 moX11_isDay ml_X11_195 (Nat.le_of_ble_eq_true rfl) (by omega) (Nat.zero_le _) (Nat.zero_le _) (ct_X11_isDay (by omega)) (fun v ty' h' r' g' hq => ?_) rfl
    obtain ⟨e1, e2, e3, e4, e5⟩ := hq
    rw [e1, e2, e3, e4, e5]
    refine pv_pc (pc' := 12) rfl ?_
    show pv_E Γ d kc ks mX11_rates 12 [some (.ref 100), some (.int x), some (.int y), none, none, none, none] [.int (pf_b (0 ≤ y ∧ y ≤ 9999))] ty1 h1 r1 g1 Q
    refine pv_if_ne (tgt := 18) dX11_rates_12 (by decide) (fun c2 => ?_) (fun c2 => ?_)
    · have F := F.1 c2
      refine pv_aload_n dX11_rates_18 rfl ?_
      refine pv_getRk 11 10 dX11_rates_19 fl_X11_52 rfl (lt_100 hL1) (lr_100_10 hL1) ?_
      refine pv_iconst (v := 0) (by decide) dX11_rates_22 ?_
      refine pv_iload_n dX11_rates_23 rfl ?_
      refine pv_iload_n dX11_rates_24 rfl ?_
      refine pv_invV (As := [.int 0, .int y, .int y]) (d' := d - 1) dX11_rates_25 moX1_findInForce ml_X11_210 (lt_70 hL1) (Or.inl ⟨_, rfl, rfl⟩) (Nat.le_of_ble_eq_true rfl) (by omega) (Nat.zero_le _) (Nat.zero_le _) F (fun v2 ty2 h2 r2 g2 F => ?_) rfl
      obtain ⟨w2, rfl, F⟩ := F
      obtain ⟨hL2, F⟩ := F
      refine pv_pc (pc' := 28) rfl ?_
      show pv_E Γ d kc ks mX11_rates 28 [some (.ref 100), some (.int x), some (.int y), none, none, none, none] [.ref w2] ty2 h2 r2 g2 Q
      refine pv_astore_n (ls' := [some (.ref 100), some (.int x), some (.int y), some (.ref w2), none, none, none]) dX11_rates_28 (by decide) rfl rfl ?_
      refine pv_iconst (v := 0) (by decide) dX11_rates_29 ?_
      refine pv_istore (ls' := [some (.ref 100), some (.int x), some (.int y), some (.ref w2), some (.int 0), none, none]) dX11_rates_30 (by decide) rfl rfl ?_
      refine pv_iconst (v := 0) (by decide) dX11_rates_32 ?_
      refine pv_istore (ls' := [some (.ref 100), some (.int x), some (.int y), some (.ref w2), some (.int 0), some (.int 0), none]) dX11_rates_33 (by decide) rfl rfl ?_
      exact F
    · have F := F.2 c2
      refine pv_ldc (v := (-2000000000)) dX11_rates_15 kc_X11_209 ?_
      exact pv_ireturn dX11_rates_17 rfl rfl F
set_option maxRecDepth 20000 in
set_option maxHeartbeats 4000000 in
theorem sg_X11_rates_35 {Γ : pv_C} {d kc ks : Nat} {ty : pv_T} {h : pv_H} {r : pv_R} {g : pv_G} {Q : pv_Q} (x1 : Int32) (x2 : Int32) (a3 : Nat) (x4 : Int32) (x5 : Int32) (hd : 1 ≤ d) (hL : pv_Lay ty r) (F : (((h 100 8) ≤ x5 → Q (some (.int x4)) ty h r g) ∧ (¬ (h 100 8) ≤ x5 → vp_in x5 60 ∧ (((r 117 (Int32.toNatClampNeg x5)) = 0 → pv_E Γ d kc ks mX11_rates 35 [some (.ref 100), some (.int x1), some (.int x2), some (.ref a3), some (.int x4), some (.int (x5 + 1)), none] [] ty h r g Q) ∧ (¬ (r 117 (Int32.toNatClampNeg x5)) = 0 → ty (r 117 (Int32.toNatClampNeg x5)) = some (3, 0) ∧ (ty (r 117 (Int32.toNatClampNeg x5)) = some (3, 0)) ∧ (((pf_b (h (r 117 (Int32.toNatClampNeg x5)) 0 = x1 ∨ h (r 117 (Int32.toNatClampNeg x5)) 2 = x1)) = 0 → pv_E Γ d kc ks mX11_rates 35 [some (.ref 100), some (.int x1), some (.int x2), some (.ref a3), some (.int x4), some (.int (x5 + 1)), none] [] ty h r g Q) ∧ (¬ (pf_b (h (r 117 (Int32.toNatClampNeg x5)) 0 = x1 ∨ h (r 117 (Int32.toNatClampNeg x5)) 2 = x1)) = 0 → ty (r 117 (Int32.toNatClampNeg x5)) = some (3, 0) ∧ (((h (r 117 (Int32.toNatClampNeg x5)) 0) = x1 → pv_CT Γ (d - 1) 0 0 mX1_givePart [.ref 70, .ref a3, .ref (r 117 (Int32.toNatClampNeg x5)), .int 0, .int x2] ty h r g (fun (v1 : Option Value) (ty1 : pv_T) (h1 : pv_H) (r1 : pv_R) (g1 : pv_G) => ∃ w1 : Int32, v1 = some (.int w1) ∧ pv_Lay ty1 r1 ∧ pv_E Γ d kc ks mX11_rates 35 [some (.ref 100), some (.int x1), some (.int x2), some (.ref a3), some (.int (x4 + w1)), some (.int (x5 + 1)), none] [] ty1 h1 r1 g1 Q)) ∧ (¬ (h (r 117 (Int32.toNatClampNeg x5)) 0) = x1 → pv_CT Γ (d - 1) 0 0 mX1_givePart [.ref 70, .ref a3, .ref (r 117 (Int32.toNatClampNeg x5)), .int 1, .int x2] ty h r g (fun (v2 : Option Value) (ty2 : pv_T) (h2 : pv_H) (r2 : pv_R) (g2 : pv_G) => ∃ w2 : Int32, v2 = some (.int w2) ∧ pv_Lay ty2 r2 ∧ pv_E Γ d kc ks mX11_rates 35 [some (.ref 100), some (.int x1), some (.int x2), some (.ref a3), some (.int (x4 + w2)), some (.int (x5 + 1)), none] [] ty2 h2 r2 g2 Q)))))))))) : pv_E Γ d kc ks mX11_rates 35 [some (.ref 100), some (.int x1), some (.int x2), some (.ref a3), some (.int x4), some (.int x5), none] [] ty h r g Q := by
  refine pv_iload dX11_rates_35 rfl ?_
  refine pv_aload_n dX11_rates_37 rfl ?_
  refine pv_getI 11 8 dX11_rates_38 fl_X11_182 rfl (lt_100 hL) ?_
  refine pv_icmp_ge (tgt := 103) dX11_rates_41 (by decide) (fun c1 => ?_) (fun c1 => ?_)
  · have F := F.1 c1
    refine pv_iload dX11_rates_103 rfl ?_
    exact pv_ireturn dX11_rates_105 rfl rfl F
  · have F := F.2 c1
    refine pv_aload_n dX11_rates_44 rfl ?_
    refine pv_getRk 11 7 dX11_rates_45 fl_X11_45 rfl (lt_100 hL) (lr_100_7 hL) ?_
    refine pv_iload dX11_rates_48 rfl ?_
    obtain ⟨q1, F⟩ := F
    refine pv_aald dX11_rates_50 (lt_117 hL) (by decide) q1 ?_
    refine pv_astore (ls' := [some (.ref 100), some (.int x1), some (.int x2), some (.ref a3), some (.int x4), some (.int x5), some (.ref (r 117 (Int32.toNatClampNeg x5)))]) dX11_rates_51 (by decide) rfl rfl ?_
    refine pv_aload dX11_rates_53 rfl ?_
    refine pv_ifnull (tgt := 97) dX11_rates_55 (by decide) (fun c2 => ?_) (fun c2 => ?_)
    · have F := F.1 c2
      refine pv_iinc (v := x5 + 1) (ls' := [some (.ref 100), some (.int x1), some (.int x2), some (.ref a3), some (.int x4), some (.int (x5 + 1)), some (.ref (r 117 (Int32.toNatClampNeg x5)))]) dX11_rates_97 rfl (by rfl) rfl rfl ?_
      refine pv_goto (tgt := 35) dX11_rates_100 (by decide) ?_
      refine pv_forgetL (ls' := [some (.ref 100), some (.int x1), some (.int x2), some (.ref a3), some (.int x4), some (.int (x5 + 1)), none]) (pv_subL_ok ⟨rfl, ⟨rfl, ⟨rfl, ⟨rfl, ⟨rfl, ⟨rfl, trivial⟩⟩⟩⟩⟩⟩) ?_
      exact F
    · have F := F.2 c2
      refine pv_aload dX11_rates_58 rfl ?_
      refine pv_iload_n dX11_rates_60 rfl ?_
      obtain ⟨q2, F⟩ := F
      obtain ⟨q3, F⟩ := F
      refine pv_invV (As := [.int x1]) (d' := d - 1) dX11_rates_61 moX3_hasPartIn ml_X11_222 q2 (Or.inl ⟨_, rfl, rfl⟩) (Nat.le_of_ble_eq_true rfl) (by omega) (Nat.zero_le _) (Nat.zero_le _) (ct_X3_hasPartIn (by omega) q3) (fun v ty' h' r' g' hq => ?_) rfl
      obtain ⟨e1, e2, e3, e4, e5⟩ := hq
      rw [e1, e2, e3, e4, e5]
      refine pv_pc (pc' := 64) rfl ?_
      show pv_E Γ d kc ks mX11_rates 64 [some (.ref 100), some (.int x1), some (.int x2), some (.ref a3), some (.int x4), some (.int x5), some (.ref (r 117 (Int32.toNatClampNeg x5)))] [.int (pf_b (h (r 117 (Int32.toNatClampNeg x5)) 0 = x1 ∨ h (r 117 (Int32.toNatClampNeg x5)) 2 = x1))] ty h r g Q
      refine pv_if_eq (tgt := 97) dX11_rates_64 (by decide) (fun c3 => ?_) (fun c3 => ?_)
      · have F := F.1 c3
        refine pv_iinc (v := x5 + 1) (ls' := [some (.ref 100), some (.int x1), some (.int x2), some (.ref a3), some (.int x4), some (.int (x5 + 1)), some (.ref (r 117 (Int32.toNatClampNeg x5)))]) dX11_rates_97 rfl (by rfl) rfl rfl ?_
        refine pv_goto (tgt := 35) dX11_rates_100 (by decide) ?_
        refine pv_forgetL (ls' := [some (.ref 100), some (.int x1), some (.int x2), some (.ref a3), some (.int x4), some (.int (x5 + 1)), none]) (pv_subL_ok ⟨rfl, ⟨rfl, ⟨rfl, ⟨rfl, ⟨rfl, ⟨rfl, trivial⟩⟩⟩⟩⟩⟩) ?_
        exact F
      · have F := F.2 c3
        refine pv_iload dX11_rates_67 rfl ?_
        refine pv_aload_n dX11_rates_69 rfl ?_
        refine pv_getRk 11 10 dX11_rates_70 fl_X11_52 rfl (lt_100 hL) (lr_100_10 hL) ?_
        refine pv_aload_n dX11_rates_73 rfl ?_
        refine pv_aload dX11_rates_74 rfl ?_
        refine pv_aload dX11_rates_76 rfl ?_
        refine pv_pc (pc' := 78) rfl ?_
        obtain ⟨q4, F⟩ := F
        refine pv_getI 3 0 dX11_rates_78 fl_X11_225 rfl q4 ?_
        refine pv_iload_n dX11_rates_81 rfl ?_
        refine pv_icmp_eq (tgt := 89) dX11_rates_82 (by decide) (fun c4 => ?_) (fun c4 => ?_)
        · have F := F.1 c4
          refine pv_iconst (v := 0) (by decide) dX11_rates_89 ?_
          refine pv_iload_n dX11_rates_90 rfl ?_
          refine pv_invV (As := [.ref a3, .ref (r 117 (Int32.toNatClampNeg x5)), .int 0, .int x2]) (d' := d - 1) dX11_rates_91 moX1_givePart ml_X11_214 (lt_70 hL) (Or.inl ⟨_, rfl, rfl⟩) (Nat.le_of_ble_eq_true rfl) (by omega) (Nat.zero_le _) (Nat.zero_le _) F (fun v1 ty1 h1 r1 g1 F => ?_) rfl
          obtain ⟨w1, rfl, F⟩ := F
          obtain ⟨hL1, F⟩ := F
          refine pv_pc (pc' := 94) rfl ?_
          show pv_E Γ d kc ks mX11_rates 94 [some (.ref 100), some (.int x1), some (.int x2), some (.ref a3), some (.int x4), some (.int x5), some (.ref (r 117 (Int32.toNatClampNeg x5)))] [.int w1, .int x4] ty1 h1 r1 g1 Q
          refine pv_iadd dX11_rates_94 ?_
          refine pv_istore (ls' := [some (.ref 100), some (.int x1), some (.int x2), some (.ref a3), some (.int (x4 + w1)), some (.int x5), some (.ref (r 117 (Int32.toNatClampNeg x5)))]) dX11_rates_95 (by decide) rfl rfl ?_
          refine pv_iinc (v := x5 + 1) (ls' := [some (.ref 100), some (.int x1), some (.int x2), some (.ref a3), some (.int (x4 + w1)), some (.int (x5 + 1)), some (.ref (r 117 (Int32.toNatClampNeg x5)))]) dX11_rates_97 rfl (by rfl) rfl rfl ?_
          refine pv_goto (tgt := 35) dX11_rates_100 (by decide) ?_
          refine pv_forgetL (ls' := [some (.ref 100), some (.int x1), some (.int x2), some (.ref a3), some (.int (x4 + w1)), some (.int (x5 + 1)), none]) (pv_subL_ok ⟨rfl, ⟨rfl, ⟨rfl, ⟨rfl, ⟨rfl, ⟨rfl, trivial⟩⟩⟩⟩⟩⟩) ?_
          exact F
        · have F := F.2 c4
          refine pv_iconst (v := 1) (by decide) dX11_rates_85 ?_
          refine pv_goto (tgt := 90) dX11_rates_86 (by decide) ?_
          refine pv_iload_n dX11_rates_90 rfl ?_
          refine pv_invV (As := [.ref a3, .ref (r 117 (Int32.toNatClampNeg x5)), .int 1, .int x2]) (d' := d - 1) dX11_rates_91 moX1_givePart ml_X11_214 (lt_70 hL) (Or.inl ⟨_, rfl, rfl⟩) (Nat.le_of_ble_eq_true rfl) (by omega) (Nat.zero_le _) (Nat.zero_le _) F (fun v2 ty2 h2 r2 g2 F => ?_) rfl
          obtain ⟨w2, rfl, F⟩ := F
          obtain ⟨hL2, F⟩ := F
          refine pv_pc (pc' := 94) rfl ?_
          show pv_E Γ d kc ks mX11_rates 94 [some (.ref 100), some (.int x1), some (.int x2), some (.ref a3), some (.int x4), some (.int x5), some (.ref (r 117 (Int32.toNatClampNeg x5)))] [.int w2, .int x4] ty2 h2 r2 g2 Q
          refine pv_iadd dX11_rates_94 ?_
          refine pv_istore (ls' := [some (.ref 100), some (.int x1), some (.int x2), some (.ref a3), some (.int (x4 + w2)), some (.int x5), some (.ref (r 117 (Int32.toNatClampNeg x5)))]) dX11_rates_95 (by decide) rfl rfl ?_
          refine pv_iinc (v := x5 + 1) (ls' := [some (.ref 100), some (.int x1), some (.int x2), some (.ref a3), some (.int (x4 + w2)), some (.int (x5 + 1)), some (.ref (r 117 (Int32.toNatClampNeg x5)))]) dX11_rates_97 rfl (by rfl) rfl rfl ?_
          refine pv_goto (tgt := 35) dX11_rates_100 (by decide) ?_
          refine pv_forgetL (ls' := [some (.ref 100), some (.int x1), some (.int x2), some (.ref a3), some (.int (x4 + w2)), some (.int (x5 + 1)), none]) (pv_subL_ok ⟨rfl, ⟨rfl, ⟨rfl, ⟨rfl, ⟨rfl, ⟨rfl, trivial⟩⟩⟩⟩⟩⟩) ?_
          exact F
set_option maxRecDepth 20000 in
set_option maxHeartbeats 4000000 in
theorem sg_X12_clause_0 {Γ : pv_C} {d kc ks : Nat} {ty : pv_T} {h : pv_H} {r : pv_R} {g : pv_G} {Q : pv_Q} (x : Int32) (y : Int32) (hd : 2 ≤ d) (hL : pv_Lay ty r) (F : (((pf_b (0 ≤ x ∧ x ≤ h 200 33 - 1)) = 0 → Q (some (.int (-1))) ty h r g) ∧ (¬ (pf_b (0 ≤ x ∧ x ≤ h 200 33 - 1)) = 0 → ((¬ (pf_b (0 ≤ y ∧ y ≤ 9999)) = 0 → pv_CJ Γ (d - 1) mX12_forceOn [.ref 200, .int 0, .int y, .int y] ty h r g (fun (w1 : Int32) (h1 : pv_H) => ((0 ≤ w1 → pv_CJ Γ (d - 1) mX12_part [.ref 200, .int w1, .int x, .int 1, .int y] ty h1 r g (fun (w2 : Int32) (h2 : pv_H) => ((0 ≤ (h2 200 54) → Q (some (.int (h2 200 54))) ty h2 r g) ∧ (¬ 0 ≤ (h2 200 54) → Q (some (.int (-2))) ty h2 r g)))) ∧ (¬ 0 ≤ w1 → Q (some (.int (-2))) ty h1 r g)))) ∧ ((pf_b (0 ≤ y ∧ y ≤ 9999)) = 0 → Q (some (.int (-1))) ty h r g))))) : pv_E Γ d kc ks mX12_clause 0 [some (.ref 200), some (.int x), some (.int y), none, none] [] ty h r g Q := by
  refine pv_aload_n dX12_clause_0 rfl ?_
  refine pv_iload_n dX12_clause_1 rfl ?_
  refine pv_invV (As := [.int x]) (d' := d - 1) dX12_clause_2 moX12_isHouse ml_X12_303 (lt_200 hL) (Or.inl ⟨_, rfl, rfl⟩) (Nat.le_of_ble_eq_true rfl) (by omega) (Nat.zero_le _) (Nat.zero_le _) (ct_X12_isHouse (by omega) hL) (fun v ty' h' r' g' hq => ?_) rfl
  obtain ⟨e1, e2, e3, e4, e5⟩ := hq
  rw [e1, e2, e3, e4, e5]
  refine pv_pc (pc' := 5) rfl ?_
  show pv_E Γ d kc ks mX12_clause 5 [some (.ref 200), some (.int x), some (.int y), none, none] [.int (pf_b (0 ≤ x ∧ x ≤ h 200 33 - 1))] ty h r g Q
  refine pv_if_eq (tgt := 15) dX12_clause_5 (by decide) (fun c1 => ?_) (fun c1 => ?_)
  · have F := F.1 c1
    refine pv_iconst (v := (-1)) (by decide) dX12_clause_15 ?_
    exact pv_ireturn dX12_clause_16 rfl rfl F
  · have F := F.2 c1
    refine pv_iload_n dX12_clause_8 rfl ?_
    refine pv_invS (As := [.int y]) (d' := d - 1) dX12_clause_9 moX12_isDay ml_X12_285 (Nat.le_of_ble_eq_true rfl) (by omega) (Nat.zero_le _) (Nat.zero_le _) (ct_X12_isDay (by omega)) (fun v ty' h' r' g' hq => ?_) rfl
    obtain ⟨e1, e2, e3, e4, e5⟩ := hq
    rw [e1, e2, e3, e4, e5]
    refine pv_pc (pc' := 12) rfl ?_
    show pv_E Γ d kc ks mX12_clause 12 [some (.ref 200), some (.int x), some (.int y), none, none] [.int (pf_b (0 ≤ y ∧ y ≤ 9999))] ty h r g Q
    refine pv_if_ne (tgt := 17) dX12_clause_12 (by decide) (fun c2 => ?_) (fun c2 => ?_)
    · have F := F.1 c2
      refine pv_aload_n dX12_clause_17 rfl ?_
      refine pv_iconst (v := 0) (by decide) dX12_clause_18 ?_
      refine pv_iload_n dX12_clause_19 rfl ?_
      refine pv_iload_n dX12_clause_20 rfl ?_
      refine pv_invV (As := [.int 0, .int y, .int y]) (d' := d - 1) dX12_clause_21 moX12_forceOn ml_X12_288 (lt_200 hL) (Or.inl ⟨_, rfl, rfl⟩) (Nat.le_of_ble_eq_true rfl) (by omega) (Nat.zero_le _) (Nat.zero_le _) F (fun v ty' h1 r' g' hq => ?_) rfl
      obtain ⟨e2, e4, e5, w1, e1, F⟩ := hq
      rw [e1, e2, e4, e5]
      refine pv_pc (pc' := 24) rfl ?_
      show pv_E Γ d kc ks mX12_clause 24 [some (.ref 200), some (.int x), some (.int y), none, none] [.int w1] ty h1 r g Q
      refine pv_istore_n (ls' := [some (.ref 200), some (.int x), some (.int y), some (.int w1), none]) dX12_clause_24 (by decide) rfl rfl ?_
      refine pv_iload_n dX12_clause_25 rfl ?_
      refine pv_if_ge (tgt := 32) dX12_clause_26 (by decide) (fun c3 => ?_) (fun c3 => ?_)
      · have F := F.1 c3
        refine pv_aload_n dX12_clause_32 rfl ?_
        refine pv_iload_n dX12_clause_33 rfl ?_
        refine pv_iload_n dX12_clause_34 rfl ?_
        refine pv_iconst (v := 1) (by decide) dX12_clause_35 ?_
        refine pv_iload_n dX12_clause_36 rfl ?_
        refine pv_invV (As := [.int w1, .int x, .int 1, .int y]) (d' := d - 1) dX12_clause_37 moX12_part ml_X12_307 (lt_200 hL) (Or.inl ⟨_, rfl, rfl⟩) (Nat.le_of_ble_eq_true rfl) (by omega) (Nat.zero_le _) (Nat.zero_le _) F (fun v ty' h2 r' g' hq => ?_) rfl
        obtain ⟨e2, e4, e5, w2, e1, F⟩ := hq
        rw [e1, e2, e4, e5]
        refine pv_pc (pc' := 40) rfl ?_
        show pv_E Γ d kc ks mX12_clause 40 [some (.ref 200), some (.int x), some (.int y), some (.int w1), none] [.int w2] ty h2 r g Q
        refine pv_istore (ls' := [some (.ref 200), some (.int x), some (.int y), some (.int w1), some (.int w2)]) dX12_clause_40 (by decide) rfl rfl ?_
        refine pv_aload_n dX12_clause_42 rfl ?_
        refine pv_getI 12 54 dX12_clause_43 fl_X12_291 rfl (lt_200 hL) ?_
        refine pv_if_ge (tgt := 54) dX12_clause_46 (by decide) (fun c4 => ?_) (fun c4 => ?_)
        · have F := F.1 c4
          refine pv_aload_n dX12_clause_54 rfl ?_
          refine pv_getI 12 54 dX12_clause_55 fl_X12_291 rfl (lt_200 hL) ?_
          exact pv_ireturn dX12_clause_58 rfl rfl F
        · have F := F.2 c4
          refine pv_bipush (v := (-2)) (by decide) dX12_clause_49 ?_
          refine pv_goto (tgt := 58) dX12_clause_51 (by decide) ?_
          exact pv_ireturn dX12_clause_58 rfl rfl F
      · have F := F.2 c3
        refine pv_bipush (v := (-2)) (by decide) dX12_clause_29 ?_
        exact pv_ireturn dX12_clause_31 rfl rfl F
    · have F := F.2 c2
      refine pv_iconst (v := (-1)) (by decide) dX12_clause_15 ?_
      exact pv_ireturn dX12_clause_16 rfl rfl F
set_option maxRecDepth 20000 in
set_option maxHeartbeats 4000000 in
theorem sg_X11_clause_0 {Γ : pv_C} {d kc ks : Nat} {ty : pv_T} {h : pv_H} {r : pv_R} {g : pv_G} {Q : pv_Q} (x : Int32) (y : Int32) (hd : 2 ≤ d) (hL : pv_Lay ty r) (F : pv_CT Γ (d - 1) 0 0 mX11_findHouse [.ref 100, .int x] ty h r g (fun (v1 : Option Value) (ty1 : pv_T) (h1 : pv_H) (r1 : pv_R) (g1 : pv_G) => ∃ w1 : Nat, v1 = some (.ref w1) ∧ pv_Lay ty1 r1 ∧ ((w1 = 0 → Q (some (.int (-1))) ty1 h1 r1 g1) ∧ (¬ w1 = 0 → ((¬ (pf_b (0 ≤ y ∧ y ≤ 9999)) = 0 → pv_CT Γ (d - 1) 0 0 mX1_findInForce [.ref 70, .int 0, .int y, .int y] ty1 h1 r1 g1 (fun (v2 : Option Value) (ty2 : pv_T) (h2 : pv_H) (r2 : pv_R) (g2 : pv_G) => ∃ w2 : Nat, v2 = some (.ref w2) ∧ pv_Lay ty2 r2 ∧ pv_CT Γ (d - 1) 0 0 mX1_givingClause [.ref 70, .ref w2, .ref w1, .int y] ty2 h2 r2 g2 (fun (v3 : Option Value) (ty3 : pv_T) (h3 : pv_H) (r3 : pv_R) (g3 : pv_G) => ∃ w3 : Int32, v3 = some (.int w3) ∧ pv_Lay ty3 r3 ∧ ((¬ w3 = (-1) → Q (some (.int w3)) ty3 h3 r3 g3) ∧ (w3 = (-1) → Q (some (.int (-2))) ty3 h3 r3 g3))))) ∧ ((pf_b (0 ≤ y ∧ y ≤ 9999)) = 0 → Q (some (.int (-1))) ty1 h1 r1 g1)))))) : pv_E Γ d kc ks mX11_clause 0 [some (.ref 100), some (.int x), some (.int y), none, none] [] ty h r g Q := by
  refine pv_aload_n dX11_clause_0 rfl ?_
  refine pv_iload_n dX11_clause_1 rfl ?_
  refine pv_invV (As := [.int x]) (d' := d - 1) dX11_clause_2 moX11_findHouse ml_X11_205 (lt_100 hL) (Or.inl ⟨_, rfl, rfl⟩) (Nat.le_of_ble_eq_true rfl) (by omega) (Nat.zero_le _) (Nat.zero_le _) F (fun v1 ty1 h1 r1 g1 F => ?_) rfl
  obtain ⟨w1, rfl, F⟩ := F
  obtain ⟨hL1, F⟩ := F
  refine pv_pc (pc' := 5) rfl ?_
  show pv_E Γ d kc ks mX11_clause 5 [some (.ref 100), some (.int x), some (.int y), none, none] [.ref w1] ty1 h1 r1 g1 Q
  refine pv_astore_n (ls' := [some (.ref 100), some (.int x), some (.int y), some (.ref w1), none]) dX11_clause_5 (by decide) rfl rfl ?_
  refine pv_aload_n dX11_clause_6 rfl ?_
  refine pv_ifnull (tgt := 17) dX11_clause_7 (by decide) (fun c1 => ?_) (fun c1 => ?_)
  · have F := F.1 c1
    refine pv_iconst (v := (-1)) (by decide) dX11_clause_17 ?_
    exact pv_ireturn dX11_clause_18 rfl rfl F
  · have F := F.2 c1
    refine pv_iload_n dX11_clause_10 rfl ?_
    refine pv_invS (As := [.int y]) (d' := d - 1) dX11_clause_11 moX11_isDay ml_X11_195 (Nat.le_of_ble_eq_true rfl) (by omega) (Nat.zero_le _) (Nat.zero_le _) (ct_X11_isDay (by omega)) (fun v ty' h' r' g' hq => ?_) rfl
    obtain ⟨e1, e2, e3, e4, e5⟩ := hq
    rw [e1, e2, e3, e4, e5]
    refine pv_pc (pc' := 14) rfl ?_
    show pv_E Γ d kc ks mX11_clause 14 [some (.ref 100), some (.int x), some (.int y), some (.ref w1), none] [.int (pf_b (0 ≤ y ∧ y ≤ 9999))] ty1 h1 r1 g1 Q
    refine pv_if_ne (tgt := 19) dX11_clause_14 (by decide) (fun c2 => ?_) (fun c2 => ?_)
    · have F := F.1 c2
      refine pv_aload_n dX11_clause_19 rfl ?_
      refine pv_getRk 11 10 dX11_clause_20 fl_X11_52 rfl (lt_100 hL1) (lr_100_10 hL1) ?_
      refine pv_aload_n dX11_clause_23 rfl ?_
      refine pv_getRk 11 10 dX11_clause_24 fl_X11_52 rfl (lt_100 hL1) (lr_100_10 hL1) ?_
      refine pv_iconst (v := 0) (by decide) dX11_clause_27 ?_
      refine pv_iload_n dX11_clause_28 rfl ?_
      refine pv_pc (pc' := 29) rfl ?_
      refine pv_iload_n dX11_clause_29 rfl ?_
      refine pv_invV (As := [.int 0, .int y, .int y]) (d' := d - 1) dX11_clause_30 moX1_findInForce ml_X11_210 (lt_70 hL1) (Or.inl ⟨_, rfl, rfl⟩) (Nat.le_of_ble_eq_true rfl) (by omega) (Nat.zero_le _) (Nat.zero_le _) F (fun v2 ty2 h2 r2 g2 F => ?_) rfl
      obtain ⟨w2, rfl, F⟩ := F
      obtain ⟨hL2, F⟩ := F
      refine pv_pc (pc' := 33) rfl ?_
      show pv_E Γ d kc ks mX11_clause 33 [some (.ref 100), some (.int x), some (.int y), some (.ref w1), none] [.ref w2, .ref 70] ty2 h2 r2 g2 Q
      refine pv_aload_n dX11_clause_33 rfl ?_
      refine pv_iload_n dX11_clause_34 rfl ?_
      refine pv_invV (As := [.ref w2, .ref w1, .int y]) (d' := d - 1) dX11_clause_35 moX1_givingClause ml_X11_228 (lt_70 hL2) (Or.inl ⟨_, rfl, rfl⟩) (Nat.le_of_ble_eq_true rfl) (by omega) (Nat.zero_le _) (Nat.zero_le _) F (fun v3 ty3 h3 r3 g3 F => ?_) rfl
      obtain ⟨w3, rfl, F⟩ := F
      obtain ⟨hL3, F⟩ := F
      refine pv_pc (pc' := 38) rfl ?_
      show pv_E Γ d kc ks mX11_clause 38 [some (.ref 100), some (.int x), some (.int y), some (.ref w1), none] [.int w3] ty3 h3 r3 g3 Q
      refine pv_istore (ls' := [some (.ref 100), some (.int x), some (.int y), some (.ref w1), some (.int w3)]) dX11_clause_38 (by decide) rfl rfl ?_
      refine pv_iload dX11_clause_40 rfl ?_
      refine pv_iconst (v := (-1)) (by decide) dX11_clause_42 ?_
      refine pv_icmp_ne (tgt := 51) dX11_clause_43 (by decide) (fun c3 => ?_) (fun c3 => ?_)
      · have F := F.1 c3
        refine pv_iload dX11_clause_51 rfl ?_
        exact pv_ireturn dX11_clause_53 rfl rfl F
      · have F := F.2 c3
        refine pv_bipush (v := (-2)) (by decide) dX11_clause_46 ?_
        refine pv_goto (tgt := 53) dX11_clause_48 (by decide) ?_
        exact pv_ireturn dX11_clause_53 rfl rfl F
    · have F := F.2 c2
      refine pv_iconst (v := (-1)) (by decide) dX11_clause_17 ?_
      exact pv_ireturn dX11_clause_18 rfl rfl F
set_option maxRecDepth 20000 in
set_option maxHeartbeats 4000000 in
theorem sg_X12_penalty_0 {Γ : pv_C} {d kc ks : Nat} {ty : pv_T} {h : pv_H} {r : pv_R} {g : pv_G} {Q : pv_Q} (x : Int32) (y : Int32) (z : Int32) (hd : 2 ≤ d) (hL : pv_Lay ty r) (F : (((pf_b (0 ≤ x ∧ x ≤ h 200 55 - 1)) = 0 → Q (some (.int (-2000000000))) ty h r g) ∧ (¬ (pf_b (0 ≤ x ∧ x ≤ h 200 55 - 1)) = 0 → (((pf_b (0 ≤ y ∧ y ≤ (h 200 32))) = 0 → Q (some (.int (-2000000000))) ty h r g) ∧ (¬ (pf_b (0 ≤ y ∧ y ≤ (h 200 32))) = 0 → ((¬ (pf_b (0 ≤ z ∧ z ≤ 9999)) = 0 → pv_CJ Γ (d - 1) mX12_forceOn [.ref 200, .int 1, .int y, .int z] ty h r g (fun (w1 : Int32) (h1 : pv_H) => ((w1 < 0 → Q (some (.int 0)) ty h1 r g) ∧ (¬ w1 < 0 → vp_in x 200 ∧ (((h1 359 (Int32.toNatClampNeg x)) ≤ y → vp_in x 200 ∧ (((h1 361 (Int32.toNatClampNeg x)) < 0 → vp_in x 200 ∧ pv_E Γ d kc ks mX12_penalty 105 [some (.ref 200), some (.int x), none, none, some (.int w1), none, some (.int (y - (h1 359 (Int32.toNatClampNeg x)))), some (.int 0), some (.int 0)] [] ty h1 r g Q) ∧ (¬ (h1 361 (Int32.toNatClampNeg x)) < 0 → vp_in x 200 ∧ ((y ≤ (h1 361 (Int32.toNatClampNeg x)) → vp_in x 200 ∧ pv_E Γ d kc ks mX12_penalty 105 [some (.ref 200), some (.int x), none, none, some (.int w1), none, some (.int (y - (h1 359 (Int32.toNatClampNeg x)))), some (.int 0), some (.int 0)] [] ty h1 r g Q) ∧ (¬ y ≤ (h1 361 (Int32.toNatClampNeg x)) → vp_in x 200 ∧ vp_in x 200 ∧ pv_E Γ d kc ks mX12_penalty 105 [some (.ref 200), some (.int x), none, none, some (.int w1), none, some (.int ((h1 361 (Int32.toNatClampNeg x)) - (h1 359 (Int32.toNatClampNeg x)))), some (.int 0), some (.int 0)] [] ty h1 r g Q))))) ∧ (¬ (h1 359 (Int32.toNatClampNeg x)) ≤ y → Q (some (.int 0)) ty h1 r g)))))) ∧ ((pf_b (0 ≤ z ∧ z ≤ 9999)) = 0 → Q (some (.int (-2000000000))) ty h r g))))))) : pv_E Γ d kc ks mX12_penalty 0 [some (.ref 200), some (.int x), some (.int y), some (.int z), none, none, none, none, none] [] ty h r g Q := by
  refine pv_aload_n dX12_penalty_0 rfl ?_
  refine pv_iload_n dX12_penalty_1 rfl ?_
  refine pv_invV (As := [.int x]) (d' := d - 1) dX12_penalty_2 moX12_isOpening ml_X12_320 (lt_200 hL) (Or.inl ⟨_, rfl, rfl⟩) (Nat.le_of_ble_eq_true rfl) (by omega) (Nat.zero_le _) (Nat.zero_le _) (ct_X12_isOpening (by omega) hL) (fun v ty' h' r' g' hq => ?_) rfl
  obtain ⟨e1, e2, e3, e4, e5⟩ := hq
  rw [e1, e2, e3, e4, e5]
  refine pv_pc (pc' := 5) rfl ?_
  show pv_E Γ d kc ks mX12_penalty 5 [some (.ref 200), some (.int x), some (.int y), some (.int z), none, none, none, none, none] [.int (pf_b (0 ≤ x ∧ x ≤ h 200 55 - 1))] ty h r g Q
  refine pv_if_eq (tgt := 27) dX12_penalty_5 (by decide) (fun c1 => ?_) (fun c1 => ?_)
  · have F := F.1 c1
    refine pv_ldcw (v := (-2000000000)) dX12_penalty_27 kc_X12_306 ?_
    exact pv_ireturn dX12_penalty_30 rfl rfl F
  · have F := F.2 c1
    refine pv_iload_n dX12_penalty_8 rfl ?_
    refine pv_iconst (v := 0) (by decide) dX12_penalty_9 ?_
    refine pv_aload_n dX12_penalty_10 rfl ?_
    refine pv_getI 12 32 dX12_penalty_11 fl_X12_237 rfl (lt_200 hL) ?_
    refine pv_invS (As := [.int y, .int 0, .int (h 200 32)]) (d' := d - 1) dX12_penalty_14 moX12_in ml_X12_164 (Nat.le_of_ble_eq_true rfl) (by omega) (Nat.zero_le _) (Nat.zero_le _) (ct_X12_in (by omega)) (fun v ty' h' r' g' hq => ?_) rfl
    obtain ⟨e1, e2, e3, e4, e5⟩ := hq
    rw [e1, e2, e3, e4, e5]
    refine pv_pc (pc' := 17) rfl ?_
    show pv_E Γ d kc ks mX12_penalty 17 [some (.ref 200), some (.int x), some (.int y), some (.int z), none, none, none, none, none] [.int (pf_b (0 ≤ y ∧ y ≤ (h 200 32)))] ty h r g Q
    refine pv_if_eq (tgt := 27) dX12_penalty_17 (by decide) (fun c2 => ?_) (fun c2 => ?_)
    · have F := F.1 c2
      refine pv_ldcw (v := (-2000000000)) dX12_penalty_27 kc_X12_306 ?_
      exact pv_ireturn dX12_penalty_30 rfl rfl F
    · have F := F.2 c2
      refine pv_iload_n dX12_penalty_20 rfl ?_
      refine pv_invS (As := [.int z]) (d' := d - 1) dX12_penalty_21 moX12_isDay ml_X12_285 (Nat.le_of_ble_eq_true rfl) (by omega) (Nat.zero_le _) (Nat.zero_le _) (ct_X12_isDay (by omega)) (fun v ty' h' r' g' hq => ?_) rfl
      obtain ⟨e1, e2, e3, e4, e5⟩ := hq
      rw [e1, e2, e3, e4, e5]
      refine pv_pc (pc' := 24) rfl ?_
      show pv_E Γ d kc ks mX12_penalty 24 [some (.ref 200), some (.int x), some (.int y), some (.int z), none, none, none, none, none] [.int (pf_b (0 ≤ z ∧ z ≤ 9999))] ty h r g Q
      refine pv_if_ne (tgt := 31) dX12_penalty_24 (by decide) (fun c3 => ?_) (fun c3 => ?_)
      · have F := F.1 c3
        refine pv_aload_n dX12_penalty_31 rfl ?_
        refine pv_iconst (v := 1) (by decide) dX12_penalty_32 ?_
        refine pv_iload_n dX12_penalty_33 rfl ?_
        refine pv_iload_n dX12_penalty_34 rfl ?_
        refine pv_invV (As := [.int 1, .int y, .int z]) (d' := d - 1) dX12_penalty_35 moX12_forceOn ml_X12_288 (lt_200 hL) (Or.inl ⟨_, rfl, rfl⟩) (Nat.le_of_ble_eq_true rfl) (by omega) (Nat.zero_le _) (Nat.zero_le _) F (fun v ty' h1 r' g' hq => ?_) rfl
        obtain ⟨e2, e4, e5, w1, e1, F⟩ := hq
        rw [e1, e2, e4, e5]
        refine pv_pc (pc' := 38) rfl ?_
        show pv_E Γ d kc ks mX12_penalty 38 [some (.ref 200), some (.int x), some (.int y), some (.int z), none, none, none, none, none] [.int w1] ty h1 r g Q
        refine pv_istore (ls' := [some (.ref 200), some (.int x), some (.int y), some (.int z), some (.int w1), none, none, none, none]) dX12_penalty_38 (by decide) rfl rfl ?_
        refine pv_iload dX12_penalty_40 rfl ?_
        refine pv_if_lt (tgt := 55) dX12_penalty_42 (by decide) (fun c4 => ?_) (fun c4 => ?_)
        · have F := F.1 c4
          refine pv_iconst (v := 0) (by decide) dX12_penalty_55 ?_
          exact pv_ireturn dX12_penalty_56 rfl rfl F
        · have F := F.2 c4
          refine pv_iload_n dX12_penalty_45 rfl ?_
          refine pv_aload_n dX12_penalty_46 rfl ?_
          refine pv_getRk 12 59 dX12_penalty_47 fl_X12_139 rfl (lt_200 hL) (lr_200_59 hL) ?_
          refine pv_iload_n dX12_penalty_50 rfl ?_
          obtain ⟨q1, F⟩ := F
          refine pv_iald dX12_penalty_51 (lt_359 hL) q1 ?_
          refine pv_icmp_ge (tgt := 57) dX12_penalty_52 (by decide) (fun c5 => ?_) (fun c5 => ?_)
          · have F := F.1 c5
            refine pv_aload_n dX12_penalty_57 rfl ?_
            refine pv_getRk 12 61 dX12_penalty_58 fl_X12_145 rfl (lt_200 hL) (lr_200_61 hL) ?_
            refine pv_iload_n dX12_penalty_61 rfl ?_
            obtain ⟨q2, F⟩ := F
            refine pv_iald dX12_penalty_62 (lt_361 hL) q2 ?_
            refine pv_if_lt (tgt := 85) dX12_penalty_63 (by decide) (fun c6 => ?_) (fun c6 => ?_)
            · have F := F.1 c6
              refine pv_iload_n dX12_penalty_85 rfl ?_
              refine pv_istore (ls' := [some (.ref 200), some (.int x), some (.int y), some (.int z), some (.int w1), some (.int y), none, none, none]) dX12_penalty_86 (by decide) rfl rfl ?_
              refine pv_iload dX12_penalty_88 rfl ?_
              refine pv_aload_n dX12_penalty_90 rfl ?_
              refine pv_getRk 12 59 dX12_penalty_91 fl_X12_139 rfl (lt_200 hL) (lr_200_59 hL) ?_
              refine pv_iload_n dX12_penalty_94 rfl ?_
              refine pv_pc (pc' := 95) rfl ?_
              obtain ⟨q3, F⟩ := F
              refine pv_iald dX12_penalty_95 (lt_359 hL) q3 ?_
              refine pv_isub dX12_penalty_96 ?_
              refine pv_istore (ls' := [some (.ref 200), some (.int x), some (.int y), some (.int z), some (.int w1), some (.int y), some (.int (y - (h1 359 (Int32.toNatClampNeg x)))), none, none]) dX12_penalty_97 (by decide) rfl rfl ?_
              refine pv_iconst (v := 0) (by decide) dX12_penalty_99 ?_
              refine pv_istore (ls' := [some (.ref 200), some (.int x), some (.int y), some (.int z), some (.int w1), some (.int y), some (.int (y - (h1 359 (Int32.toNatClampNeg x)))), some (.int 0), none]) dX12_penalty_100 (by decide) rfl rfl ?_
              refine pv_iconst (v := 0) (by decide) dX12_penalty_102 ?_
              refine pv_istore (ls' := [some (.ref 200), some (.int x), some (.int y), some (.int z), some (.int w1), some (.int y), some (.int (y - (h1 359 (Int32.toNatClampNeg x)))), some (.int 0), some (.int 0)]) dX12_penalty_103 (by decide) rfl rfl ?_
              refine pv_forgetL (ls' := [some (.ref 200), some (.int x), none, none, some (.int w1), none, some (.int (y - (h1 359 (Int32.toNatClampNeg x)))), some (.int 0), some (.int 0)]) (pv_subL_ok ⟨rfl, ⟨rfl, ⟨rfl, ⟨rfl, ⟨rfl, ⟨rfl, trivial⟩⟩⟩⟩⟩⟩) ?_
              exact F
            · have F := F.2 c6
              refine pv_aload_n dX12_penalty_66 rfl ?_
              refine pv_getRk 12 61 dX12_penalty_67 fl_X12_145 rfl (lt_200 hL) (lr_200_61 hL) ?_
              refine pv_iload_n dX12_penalty_70 rfl ?_
              obtain ⟨q4, F⟩ := F
              refine pv_iald dX12_penalty_71 (lt_361 hL) q4 ?_
              refine pv_iload_n dX12_penalty_72 rfl ?_
              refine pv_icmp_ge (tgt := 85) dX12_penalty_73 (by decide) (fun c7 => ?_) (fun c7 => ?_)
              · have F := F.1 c7
                refine pv_iload_n dX12_penalty_85 rfl ?_
                refine pv_istore (ls' := [some (.ref 200), some (.int x), some (.int y), some (.int z), some (.int w1), some (.int y), none, none, none]) dX12_penalty_86 (by decide) rfl rfl ?_
                refine pv_iload dX12_penalty_88 rfl ?_
                refine pv_aload_n dX12_penalty_90 rfl ?_
                refine pv_getRk 12 59 dX12_penalty_91 fl_X12_139 rfl (lt_200 hL) (lr_200_59 hL) ?_
                refine pv_iload_n dX12_penalty_94 rfl ?_
                refine pv_pc (pc' := 95) rfl ?_
                obtain ⟨q5, F⟩ := F
                refine pv_iald dX12_penalty_95 (lt_359 hL) q5 ?_
                refine pv_isub dX12_penalty_96 ?_
                refine pv_istore (ls' := [some (.ref 200), some (.int x), some (.int y), some (.int z), some (.int w1), some (.int y), some (.int (y - (h1 359 (Int32.toNatClampNeg x)))), none, none]) dX12_penalty_97 (by decide) rfl rfl ?_
                refine pv_iconst (v := 0) (by decide) dX12_penalty_99 ?_
                refine pv_istore (ls' := [some (.ref 200), some (.int x), some (.int y), some (.int z), some (.int w1), some (.int y), some (.int (y - (h1 359 (Int32.toNatClampNeg x)))), some (.int 0), none]) dX12_penalty_100 (by decide) rfl rfl ?_
                refine pv_iconst (v := 0) (by decide) dX12_penalty_102 ?_
                refine pv_istore (ls' := [some (.ref 200), some (.int x), some (.int y), some (.int z), some (.int w1), some (.int y), some (.int (y - (h1 359 (Int32.toNatClampNeg x)))), some (.int 0), some (.int 0)]) dX12_penalty_103 (by decide) rfl rfl ?_
                refine pv_forgetL (ls' := [some (.ref 200), some (.int x), none, none, some (.int w1), none, some (.int (y - (h1 359 (Int32.toNatClampNeg x)))), some (.int 0), some (.int 0)]) (pv_subL_ok ⟨rfl, ⟨rfl, ⟨rfl, ⟨rfl, ⟨rfl, ⟨rfl, trivial⟩⟩⟩⟩⟩⟩) ?_
                exact F
              · have F := F.2 c7
                refine pv_aload_n dX12_penalty_76 rfl ?_
                refine pv_getRk 12 61 dX12_penalty_77 fl_X12_145 rfl (lt_200 hL) (lr_200_61 hL) ?_
                refine pv_iload_n dX12_penalty_80 rfl ?_
                obtain ⟨q6, F⟩ := F
                refine pv_iald dX12_penalty_81 (lt_361 hL) q6 ?_
                refine pv_goto (tgt := 86) dX12_penalty_82 (by decide) ?_
                refine pv_istore (ls' := [some (.ref 200), some (.int x), some (.int y), some (.int z), some (.int w1), some (.int (h1 361 (Int32.toNatClampNeg x))), none, none, none]) dX12_penalty_86 (by decide) rfl rfl ?_
                refine pv_iload dX12_penalty_88 rfl ?_
                refine pv_aload_n dX12_penalty_90 rfl ?_
                refine pv_getRk 12 59 dX12_penalty_91 fl_X12_139 rfl (lt_200 hL) (lr_200_59 hL) ?_
                refine pv_iload_n dX12_penalty_94 rfl ?_
                obtain ⟨q7, F⟩ := F
                refine pv_iald dX12_penalty_95 (lt_359 hL) q7 ?_
                refine pv_isub dX12_penalty_96 ?_
                refine pv_istore (ls' := [some (.ref 200), some (.int x), some (.int y), some (.int z), some (.int w1), some (.int (h1 361 (Int32.toNatClampNeg x))), some (.int ((h1 361 (Int32.toNatClampNeg x)) - (h1 359 (Int32.toNatClampNeg x)))), none, none]) dX12_penalty_97 (by decide) rfl rfl ?_
                refine pv_iconst (v := 0) (by decide) dX12_penalty_99 ?_
                refine pv_istore (ls' := [some (.ref 200), some (.int x), some (.int y), some (.int z), some (.int w1), some (.int (h1 361 (Int32.toNatClampNeg x))), some (.int ((h1 361 (Int32.toNatClampNeg x)) - (h1 359 (Int32.toNatClampNeg x)))), some (.int 0), none]) dX12_penalty_100 (by decide) rfl rfl ?_
                refine pv_iconst (v := 0) (by decide) dX12_penalty_102 ?_
                refine pv_istore (ls' := [some (.ref 200), some (.int x), some (.int y), some (.int z), some (.int w1), some (.int (h1 361 (Int32.toNatClampNeg x))), some (.int ((h1 361 (Int32.toNatClampNeg x)) - (h1 359 (Int32.toNatClampNeg x)))), some (.int 0), some (.int 0)]) dX12_penalty_103 (by decide) rfl rfl ?_
                refine pv_forgetL (ls' := [some (.ref 200), some (.int x), none, none, some (.int w1), none, some (.int ((h1 361 (Int32.toNatClampNeg x)) - (h1 359 (Int32.toNatClampNeg x)))), some (.int 0), some (.int 0)]) (pv_subL_ok ⟨rfl, ⟨rfl, ⟨rfl, ⟨rfl, ⟨rfl, ⟨rfl, trivial⟩⟩⟩⟩⟩⟩) ?_
                exact F
          · have F := F.2 c5
            refine pv_iconst (v := 0) (by decide) dX12_penalty_55 ?_
            exact pv_ireturn dX12_penalty_56 rfl rfl F
      · have F := F.2 c3
        refine pv_ldcw (v := (-2000000000)) dX12_penalty_27 kc_X12_306 ?_
        exact pv_ireturn dX12_penalty_30 rfl rfl F
set_option maxRecDepth 20000 in
set_option maxHeartbeats 4000000 in
theorem sg_X12_penalty_105 {Γ : pv_C} {d kc ks : Nat} {ty : pv_T} {h : pv_H} {r : pv_R} {g : pv_G} {Q : pv_Q} (x1 : Int32) (x4 : Int32) (x6 : Int32) (x7 : Int32) (x8 : Int32) (hd : 1 ≤ d) (hL : pv_Lay ty r) (F : (((h 200 55) ≤ x8 → vp_in 100 128 ∧ (∀ h1 : pv_H, h1 = pv_up h 352 (Int32.toNatClampNeg 100) x6 → vp_in x1 200 ∧ ((x6 ≤ (h1 360 (Int32.toNatClampNeg x1)) → vp_in 108 128 ∧ (∀ h2 : pv_H, h2 = pv_up h1 352 (Int32.toNatClampNeg 108) 0 → vp_in x1 200 ∧ vp_in 119 128 ∧ (∀ h3 : pv_H, h3 = pv_up h2 352 (Int32.toNatClampNeg 119) (h2 356 (Int32.toNatClampNeg x1)) → vp_in x1 200 ∧ vp_in 115 128 ∧ (∀ h4 : pv_H, h4 = pv_up h3 352 (Int32.toNatClampNeg 115) (h3 357 (Int32.toNatClampNeg x1)) → vp_in 110 128 ∧ (∀ h5 : pv_H, h5 = pv_up h4 352 (Int32.toNatClampNeg 110) x7 → pv_CJ Γ (d - 1) mX12_says [.ref 200, .int x4] ty h5 r g (fun (w1 : Int32) (h6 : pv_H) => Q (some (.int (pt_cl w1))) ty h6 r g)))))) ∧ (¬ x6 ≤ (h1 360 (Int32.toNatClampNeg x1)) → vp_in x1 200 ∧ vp_in 108 128 ∧ (∀ h7 : pv_H, h7 = pv_up h1 352 (Int32.toNatClampNeg 108) (x6 - (h1 360 (Int32.toNatClampNeg x1))) → vp_in x1 200 ∧ vp_in 119 128 ∧ (∀ h8 : pv_H, h8 = pv_up h7 352 (Int32.toNatClampNeg 119) (h7 356 (Int32.toNatClampNeg x1)) → vp_in x1 200 ∧ vp_in 115 128 ∧ (∀ h9 : pv_H, h9 = pv_up h8 352 (Int32.toNatClampNeg 115) (h8 357 (Int32.toNatClampNeg x1)) → vp_in 110 128 ∧ (∀ h10 : pv_H, h10 = pv_up h9 352 (Int32.toNatClampNeg 110) x7 → pv_CJ Γ (d - 1) mX12_says [.ref 200, .int x4] ty h10 r g (fun (w2 : Int32) (h11 : pv_H) => Q (some (.int (pt_cl w2))) ty h11 r g))))))))) ∧ (¬ (h 200 55) ≤ x8 → vp_in x8 200 ∧ vp_in x1 200 ∧ ((¬ (h 356 (Int32.toNatClampNeg x8)) = (h 356 (Int32.toNatClampNeg x1)) → pv_E Γ d kc ks mX12_penalty 105 [some (.ref 200), some (.int x1), none, none, some (.int x4), none, some (.int x6), some (.int (x7 + 0)), some (.int (x8 + 1))] [] ty h r g Q) ∧ ((h 356 (Int32.toNatClampNeg x8)) = (h 356 (Int32.toNatClampNeg x1)) → vp_in x8 200 ∧ ((0 ≤ (h 361 (Int32.toNatClampNeg x8)) → pv_E Γ d kc ks mX12_penalty 105 [some (.ref 200), some (.int x1), none, none, some (.int x4), none, some (.int x6), some (.int (x7 + 0)), some (.int (x8 + 1))] [] ty h r g Q) ∧ (¬ 0 ≤ (h 361 (Int32.toNatClampNeg x8)) → pv_E Γ d kc ks mX12_penalty 105 [some (.ref 200), some (.int x1), none, none, some (.int x4), none, some (.int x6), some (.int (x7 + 1)), some (.int (x8 + 1))] [] ty h r g Q))))))) : pv_E Γ d kc ks mX12_penalty 105 [some (.ref 200), some (.int x1), none, none, some (.int x4), none, some (.int x6), some (.int x7), some (.int x8)] [] ty h r g Q := by
  refine pv_iload dX12_penalty_105 rfl ?_
  refine pv_aload_n dX12_penalty_107 rfl ?_
  refine pv_getI 12 55 dX12_penalty_108 fl_X12_311 rfl (lt_200 hL) ?_
  refine pv_icmp_ge (tgt := 156) dX12_penalty_111 (by decide) (fun c1 => ?_) (fun c1 => ?_)
  · have F := F.1 c1
    refine pv_aload_n dX12_penalty_156 rfl ?_
    refine pv_getRk 12 52 dX12_penalty_157 fl_X12_124 rfl (lt_200 hL) (lr_200_52 hL) ?_
    refine pv_bipush (v := 100) (by decide) dX12_penalty_160 ?_
    refine pv_iload dX12_penalty_162 rfl ?_
    obtain ⟨q1, F⟩ := F
    obtain ⟨h1, eh1⟩ : ∃ h1 : pv_H, h1 = pv_up h 352 (Int32.toNatClampNeg 100) x6 := ⟨_, rfl⟩
    have F := F h1 eh1
    refine pv_iast dX12_penalty_164 (lt_352 hL) (by decide) q1 ?_
    refine pv_hE eh1 ?_
    refine pv_aload_n dX12_penalty_165 rfl ?_
    refine pv_getRk 12 52 dX12_penalty_166 fl_X12_124 rfl (lt_200 hL) (lr_200_52 hL) ?_
    refine pv_bipush (v := 108) (by decide) dX12_penalty_169 ?_
    refine pv_iload dX12_penalty_171 rfl ?_
    refine pv_aload_n dX12_penalty_173 rfl ?_
    refine pv_getRk 12 60 dX12_penalty_174 fl_X12_142 rfl (lt_200 hL) (lr_200_60 hL) ?_
    refine pv_pc (pc' := 177) rfl ?_
    refine pv_iload_n dX12_penalty_177 rfl ?_
    obtain ⟨q2, F⟩ := F
    refine pv_iald dX12_penalty_178 (lt_360 hL) q2 ?_
    refine pv_icmp_le (tgt := 194) dX12_penalty_179 (by decide) (fun c2 => ?_) (fun c2 => ?_)
    · have F := F.1 c2
      refine pv_iconst (v := 0) (by decide) dX12_penalty_194 ?_
      obtain ⟨q3, F⟩ := F
      obtain ⟨h2, eh2⟩ : ∃ h2 : pv_H, h2 = pv_up h1 352 (Int32.toNatClampNeg 108) 0 := ⟨_, rfl⟩
      have F := F h2 eh2
      refine pv_iast dX12_penalty_195 (lt_352 hL) (by decide) q3 ?_
      refine pv_hE eh2 ?_
      refine pv_aload_n dX12_penalty_196 rfl ?_
      refine pv_getRk 12 52 dX12_penalty_197 fl_X12_124 rfl (lt_200 hL) (lr_200_52 hL) ?_
      refine pv_bipush (v := 119) (by decide) dX12_penalty_200 ?_
      refine pv_aload_n dX12_penalty_202 rfl ?_
      refine pv_getRk 12 56 dX12_penalty_203 fl_X12_130 rfl (lt_200 hL) (lr_200_56 hL) ?_
      refine pv_iload_n dX12_penalty_206 rfl ?_
      refine pv_pc (pc' := 207) rfl ?_
      obtain ⟨q4, F⟩ := F
      refine pv_iald dX12_penalty_207 (lt_356 hL) q4 ?_
      obtain ⟨q5, F⟩ := F
      obtain ⟨h3, eh3⟩ : ∃ h3 : pv_H, h3 = pv_up h2 352 (Int32.toNatClampNeg 119) (h2 356 (Int32.toNatClampNeg x1)) := ⟨_, rfl⟩
      have F := F h3 eh3
      refine pv_iast dX12_penalty_208 (lt_352 hL) (by decide) q5 ?_
      refine pv_hE eh3 ?_
      refine pv_aload_n dX12_penalty_209 rfl ?_
      refine pv_getRk 12 52 dX12_penalty_210 fl_X12_124 rfl (lt_200 hL) (lr_200_52 hL) ?_
      refine pv_bipush (v := 115) (by decide) dX12_penalty_213 ?_
      refine pv_aload_n dX12_penalty_215 rfl ?_
      refine pv_getRk 12 57 dX12_penalty_216 fl_X12_133 rfl (lt_200 hL) (lr_200_57 hL) ?_
      refine pv_iload_n dX12_penalty_219 rfl ?_
      refine pv_pc (pc' := 220) rfl ?_
      obtain ⟨q6, F⟩ := F
      refine pv_iald dX12_penalty_220 (lt_357 hL) q6 ?_
      obtain ⟨q7, F⟩ := F
      obtain ⟨h4, eh4⟩ : ∃ h4 : pv_H, h4 = pv_up h3 352 (Int32.toNatClampNeg 115) (h3 357 (Int32.toNatClampNeg x1)) := ⟨_, rfl⟩
      have F := F h4 eh4
      refine pv_iast dX12_penalty_221 (lt_352 hL) (by decide) q7 ?_
      refine pv_hE eh4 ?_
      refine pv_aload_n dX12_penalty_222 rfl ?_
      refine pv_getRk 12 52 dX12_penalty_223 fl_X12_124 rfl (lt_200 hL) (lr_200_52 hL) ?_
      refine pv_bipush (v := 110) (by decide) dX12_penalty_226 ?_
      refine pv_iload dX12_penalty_228 rfl ?_
      obtain ⟨q8, F⟩ := F
      obtain ⟨h5, eh5⟩ : ∃ h5 : pv_H, h5 = pv_up h4 352 (Int32.toNatClampNeg 110) x7 := ⟨_, rfl⟩
      have F := F h5 eh5
      refine pv_iast dX12_penalty_230 (lt_352 hL) (by decide) q8 ?_
      refine pv_hE eh5 ?_
      refine pv_aload_n dX12_penalty_231 rfl ?_
      refine pv_iload dX12_penalty_232 rfl ?_
      refine pv_invV (As := [.int x4]) (d' := d - 1) dX12_penalty_234 moX12_says ml_X12_297 (lt_200 hL) (Or.inl ⟨_, rfl, rfl⟩) (Nat.le_of_ble_eq_true rfl) (by omega) (Nat.zero_le _) (Nat.zero_le _) F (fun v ty' h6 r' g' hq => ?_) rfl
      obtain ⟨e2, e4, e5, w1, e1, F⟩ := hq
      rw [e1, e2, e4, e5]
      refine pv_pc (pc' := 237) rfl ?_
      show pv_E Γ d kc ks mX12_penalty 237 [some (.ref 200), some (.int x1), none, none, some (.int x4), none, some (.int x6), some (.int x7), some (.int x8)] [.int w1] ty h6 r g Q
      refine pv_invS (As := [.int w1]) (d' := d - 1) dX12_penalty_237 moX12_clamp ml_X12_300 (Nat.le_of_ble_eq_true rfl) (by omega) (Nat.zero_le _) (Nat.zero_le _) (ct_X12_clamp (by omega)) (fun v ty' h' r' g' hq => ?_) rfl
      obtain ⟨e1, e2, e3, e4, e5⟩ := hq
      rw [e1, e2, e3, e4, e5]
      refine pv_pc (pc' := 240) rfl ?_
      show pv_E Γ d kc ks mX12_penalty 240 [some (.ref 200), some (.int x1), none, none, some (.int x4), none, some (.int x6), some (.int x7), some (.int x8)] [.int (pt_cl w1)] ty h6 r g Q
      exact pv_ireturn dX12_penalty_240 rfl rfl F
    · have F := F.2 c2
      refine pv_iload dX12_penalty_182 rfl ?_
      refine pv_aload_n dX12_penalty_184 rfl ?_
      refine pv_getRk 12 60 dX12_penalty_185 fl_X12_142 rfl (lt_200 hL) (lr_200_60 hL) ?_
      refine pv_iload_n dX12_penalty_188 rfl ?_
      obtain ⟨q9, F⟩ := F
      refine pv_iald dX12_penalty_189 (lt_360 hL) q9 ?_
      refine pv_isub dX12_penalty_190 ?_
      refine pv_goto (tgt := 195) dX12_penalty_191 (by decide) ?_
      obtain ⟨q10, F⟩ := F
      obtain ⟨h7, eh7⟩ : ∃ h7 : pv_H, h7 = pv_up h1 352 (Int32.toNatClampNeg 108) (x6 - (h1 360 (Int32.toNatClampNeg x1))) := ⟨_, rfl⟩
      have F := F h7 eh7
      refine pv_iast dX12_penalty_195 (lt_352 hL) (by decide) q10 ?_
      refine pv_hE eh7 ?_
      refine pv_aload_n dX12_penalty_196 rfl ?_
      refine pv_getRk 12 52 dX12_penalty_197 fl_X12_124 rfl (lt_200 hL) (lr_200_52 hL) ?_
      refine pv_bipush (v := 119) (by decide) dX12_penalty_200 ?_
      refine pv_aload_n dX12_penalty_202 rfl ?_
      refine pv_getRk 12 56 dX12_penalty_203 fl_X12_130 rfl (lt_200 hL) (lr_200_56 hL) ?_
      refine pv_iload_n dX12_penalty_206 rfl ?_
      refine pv_pc (pc' := 207) rfl ?_
      obtain ⟨q11, F⟩ := F
      refine pv_iald dX12_penalty_207 (lt_356 hL) q11 ?_
      obtain ⟨q12, F⟩ := F
      obtain ⟨h8, eh8⟩ : ∃ h8 : pv_H, h8 = pv_up h7 352 (Int32.toNatClampNeg 119) (h7 356 (Int32.toNatClampNeg x1)) := ⟨_, rfl⟩
      have F := F h8 eh8
      refine pv_iast dX12_penalty_208 (lt_352 hL) (by decide) q12 ?_
      refine pv_hE eh8 ?_
      refine pv_aload_n dX12_penalty_209 rfl ?_
      refine pv_getRk 12 52 dX12_penalty_210 fl_X12_124 rfl (lt_200 hL) (lr_200_52 hL) ?_
      refine pv_bipush (v := 115) (by decide) dX12_penalty_213 ?_
      refine pv_aload_n dX12_penalty_215 rfl ?_
      refine pv_getRk 12 57 dX12_penalty_216 fl_X12_133 rfl (lt_200 hL) (lr_200_57 hL) ?_
      refine pv_iload_n dX12_penalty_219 rfl ?_
      refine pv_pc (pc' := 220) rfl ?_
      obtain ⟨q13, F⟩ := F
      refine pv_iald dX12_penalty_220 (lt_357 hL) q13 ?_
      obtain ⟨q14, F⟩ := F
      obtain ⟨h9, eh9⟩ : ∃ h9 : pv_H, h9 = pv_up h8 352 (Int32.toNatClampNeg 115) (h8 357 (Int32.toNatClampNeg x1)) := ⟨_, rfl⟩
      have F := F h9 eh9
      refine pv_iast dX12_penalty_221 (lt_352 hL) (by decide) q14 ?_
      refine pv_hE eh9 ?_
      refine pv_aload_n dX12_penalty_222 rfl ?_
      refine pv_getRk 12 52 dX12_penalty_223 fl_X12_124 rfl (lt_200 hL) (lr_200_52 hL) ?_
      refine pv_bipush (v := 110) (by decide) dX12_penalty_226 ?_
      refine pv_iload dX12_penalty_228 rfl ?_
      obtain ⟨q15, F⟩ := F
      obtain ⟨h10, eh10⟩ : ∃ h10 : pv_H, h10 = pv_up h9 352 (Int32.toNatClampNeg 110) x7 := ⟨_, rfl⟩
      have F := F h10 eh10
      refine pv_iast dX12_penalty_230 (lt_352 hL) (by decide) q15 ?_
      refine pv_hE eh10 ?_
      refine pv_aload_n dX12_penalty_231 rfl ?_
      refine pv_iload dX12_penalty_232 rfl ?_
      refine pv_invV (As := [.int x4]) (d' := d - 1) dX12_penalty_234 moX12_says ml_X12_297 (lt_200 hL) (Or.inl ⟨_, rfl, rfl⟩) (Nat.le_of_ble_eq_true rfl) (by omega) (Nat.zero_le _) (Nat.zero_le _) F (fun v ty' h11 r' g' hq => ?_) rfl
      obtain ⟨e2, e4, e5, w2, e1, F⟩ := hq
      rw [e1, e2, e4, e5]
      refine pv_pc (pc' := 237) rfl ?_
      show pv_E Γ d kc ks mX12_penalty 237 [some (.ref 200), some (.int x1), none, none, some (.int x4), none, some (.int x6), some (.int x7), some (.int x8)] [.int w2] ty h11 r g Q
      refine pv_invS (As := [.int w2]) (d' := d - 1) dX12_penalty_237 moX12_clamp ml_X12_300 (Nat.le_of_ble_eq_true rfl) (by omega) (Nat.zero_le _) (Nat.zero_le _) (ct_X12_clamp (by omega)) (fun v ty' h' r' g' hq => ?_) rfl
      obtain ⟨e1, e2, e3, e4, e5⟩ := hq
      rw [e1, e2, e3, e4, e5]
      refine pv_pc (pc' := 240) rfl ?_
      show pv_E Γ d kc ks mX12_penalty 240 [some (.ref 200), some (.int x1), none, none, some (.int x4), none, some (.int x6), some (.int x7), some (.int x8)] [.int (pt_cl w2)] ty h11 r g Q
      exact pv_ireturn dX12_penalty_240 rfl rfl F
  · have F := F.2 c1
    refine pv_iload dX12_penalty_114 rfl ?_
    refine pv_aload_n dX12_penalty_116 rfl ?_
    refine pv_getRk 12 56 dX12_penalty_117 fl_X12_130 rfl (lt_200 hL) (lr_200_56 hL) ?_
    refine pv_iload dX12_penalty_120 rfl ?_
    obtain ⟨q16, F⟩ := F
    refine pv_iald dX12_penalty_122 (lt_356 hL) q16 ?_
    refine pv_aload_n dX12_penalty_123 rfl ?_
    refine pv_getRk 12 56 dX12_penalty_124 fl_X12_130 rfl (lt_200 hL) (lr_200_56 hL) ?_
    refine pv_iload_n dX12_penalty_127 rfl ?_
    obtain ⟨q17, F⟩ := F
    refine pv_iald dX12_penalty_128 (lt_356 hL) q17 ?_
    refine pv_icmp_ne (tgt := 146) dX12_penalty_129 (by decide) (fun c3 => ?_) (fun c3 => ?_)
    · have F := F.1 c3
      refine pv_iconst (v := 0) (by decide) dX12_penalty_146 ?_
      refine pv_iadd dX12_penalty_147 ?_
      refine pv_istore (ls' := [some (.ref 200), some (.int x1), none, none, some (.int x4), none, some (.int x6), some (.int (x7 + 0)), some (.int x8)]) dX12_penalty_148 (by decide) rfl rfl ?_
      refine pv_iinc (v := x8 + 1) (ls' := [some (.ref 200), some (.int x1), none, none, some (.int x4), none, some (.int x6), some (.int (x7 + 0)), some (.int (x8 + 1))]) dX12_penalty_150 rfl (by rfl) rfl rfl ?_
      refine pv_goto (tgt := 105) dX12_penalty_153 (by decide) ?_
      exact F
    · have F := F.2 c3
      refine pv_aload_n dX12_penalty_132 rfl ?_
      refine pv_getRk 12 61 dX12_penalty_133 fl_X12_145 rfl (lt_200 hL) (lr_200_61 hL) ?_
      refine pv_iload dX12_penalty_136 rfl ?_
      obtain ⟨q18, F⟩ := F
      refine pv_iald dX12_penalty_138 (lt_361 hL) q18 ?_
      refine pv_if_ge (tgt := 146) dX12_penalty_139 (by decide) (fun c4 => ?_) (fun c4 => ?_)
      · have F := F.1 c4
        refine pv_iconst (v := 0) (by decide) dX12_penalty_146 ?_
        refine pv_iadd dX12_penalty_147 ?_
        refine pv_istore (ls' := [some (.ref 200), some (.int x1), none, none, some (.int x4), none, some (.int x6), some (.int (x7 + 0)), some (.int x8)]) dX12_penalty_148 (by decide) rfl rfl ?_
        refine pv_iinc (v := x8 + 1) (ls' := [some (.ref 200), some (.int x1), none, none, some (.int x4), none, some (.int x6), some (.int (x7 + 0)), some (.int (x8 + 1))]) dX12_penalty_150 rfl (by rfl) rfl rfl ?_
        refine pv_goto (tgt := 105) dX12_penalty_153 (by decide) ?_
        exact F
      · have F := F.2 c4
        refine pv_iconst (v := 1) (by decide) dX12_penalty_142 ?_
        refine pv_goto (tgt := 147) dX12_penalty_143 (by decide) ?_
        refine pv_iadd dX12_penalty_147 ?_
        refine pv_istore (ls' := [some (.ref 200), some (.int x1), none, none, some (.int x4), none, some (.int x6), some (.int (x7 + 1)), some (.int x8)]) dX12_penalty_148 (by decide) rfl rfl ?_
        refine pv_iinc (v := x8 + 1) (ls' := [some (.ref 200), some (.int x1), none, none, some (.int x4), none, some (.int x6), some (.int (x7 + 1)), some (.int (x8 + 1))]) dX12_penalty_150 rfl (by rfl) rfl rfl ?_
        refine pv_goto (tgt := 105) dX12_penalty_153 (by decide) ?_
        exact F
set_option maxRecDepth 20000 in
set_option maxHeartbeats 4000000 in
theorem sg_X11_penalty_0 {Γ : pv_C} {d kc ks : Nat} {ty : pv_T} {h : pv_H} {r : pv_R} {g : pv_G} {Q : pv_Q} (x : Int32) (y : Int32) (z : Int32) (hd : 2 ≤ d) (hL : pv_Lay ty r) (F : pv_CT Γ (d - 1) 0 0 mX11_findOpening [.ref 100, .int x] ty h r g (fun (v1 : Option Value) (ty1 : pv_T) (h1 : pv_H) (r1 : pv_R) (g1 : pv_G) => ∃ w1 : Nat, v1 = some (.ref w1) ∧ pv_Lay ty1 r1 ∧ ((w1 = 0 → Q (some (.int (-2000000000))) ty1 h1 r1 g1) ∧ (¬ w1 = 0 → (((pf_b (0 ≤ y ∧ y ≤ (h1 100 9))) = 0 → Q (some (.int (-2000000000))) ty1 h1 r1 g1) ∧ (¬ (pf_b (0 ≤ y ∧ y ≤ (h1 100 9))) = 0 → ((¬ (pf_b (0 ≤ z ∧ z ≤ 9999)) = 0 → ty1 w1 = some (6, 0) ∧ (((h1 w1 3) ≤ y → pv_CT Γ (d - 1) 0 0 mX1_findInForce [.ref 70, .int 1, .int y, .int z] ty1 h1 r1 g1 (fun (v2 : Option Value) (ty2 : pv_T) (h2 : pv_H) (r2 : pv_R) (g2 : pv_G) => ∃ w2 : Nat, v2 = some (.ref w2) ∧ pv_Lay ty2 r2 ∧ ty2 w1 = some (6, 0) ∧ pv_CJ Γ (d - 1) mX11_countOpen [.ref 100, .int (h2 w1 0)] ty2 h2 r2 g2 (fun (w3 : Int32) (h3 : pv_H) => pv_CT Γ (d - 1) 0 0 mX1_givePenalty [.ref 70, .ref w2, .ref w1, .int y, .int w3] ty2 h3 r2 g2 (fun (v3 : Option Value) (ty3 : pv_T) (h4 : pv_H) (r3 : pv_R) (g3 : pv_G) => ∃ w4 : Int32, v3 = some (.int w4) ∧ pv_Lay ty3 r3 ∧ Q (some (.int w4)) ty3 h4 r3 g3)))) ∧ (¬ (h1 w1 3) ≤ y → Q (some (.int 0)) ty1 h1 r1 g1))) ∧ ((pf_b (0 ≤ z ∧ z ≤ 9999)) = 0 → Q (some (.int (-2000000000))) ty1 h1 r1 g1)))))))) : pv_E Γ d kc ks mX11_penalty 0 [some (.ref 100), some (.int x), some (.int y), some (.int z), none, none] [] ty h r g Q := by
  refine pv_aload_n dX11_penalty_0 rfl ?_
  refine pv_iload_n dX11_penalty_1 rfl ?_
  refine pv_invV (As := [.int x]) (d' := d - 1) dX11_penalty_2 moX11_findOpening ml_X11_244 (lt_100 hL) (Or.inl ⟨_, rfl, rfl⟩) (Nat.le_of_ble_eq_true rfl) (by omega) (Nat.zero_le _) (Nat.zero_le _) F (fun v1 ty1 h1 r1 g1 F => ?_) rfl
  obtain ⟨w1, rfl, F⟩ := F
  obtain ⟨hL1, F⟩ := F
  refine pv_pc (pc' := 5) rfl ?_
  show pv_E Γ d kc ks mX11_penalty 5 [some (.ref 100), some (.int x), some (.int y), some (.int z), none, none] [.ref w1] ty1 h1 r1 g1 Q
  refine pv_astore (ls' := [some (.ref 100), some (.int x), some (.int y), some (.int z), some (.ref w1), none]) dX11_penalty_5 (by decide) rfl rfl ?_
  refine pv_aload dX11_penalty_7 rfl ?_
  refine pv_ifnull (tgt := 31) dX11_penalty_9 (by decide) (fun c1 => ?_) (fun c1 => ?_)
  · have F := F.1 c1
    refine pv_ldc (v := (-2000000000)) dX11_penalty_31 kc_X11_209 ?_
    exact pv_ireturn dX11_penalty_33 rfl rfl F
  · have F := F.2 c1
    refine pv_iload_n dX11_penalty_12 rfl ?_
    refine pv_iconst (v := 0) (by decide) dX11_penalty_13 ?_
    refine pv_aload_n dX11_penalty_14 rfl ?_
    refine pv_getI 11 9 dX11_penalty_15 fl_X11_186 rfl (lt_100 hL1) ?_
    refine pv_invS (As := [.int y, .int 0, .int (h1 100 9)]) (d' := d - 1) dX11_penalty_18 moX11_within ml_X11_69 (Nat.le_of_ble_eq_true rfl) (by omega) (Nat.zero_le _) (Nat.zero_le _) (ct_X11_within (by omega)) (fun v ty' h' r' g' hq => ?_) rfl
    obtain ⟨e1, e2, e3, e4, e5⟩ := hq
    rw [e1, e2, e3, e4, e5]
    refine pv_pc (pc' := 21) rfl ?_
    show pv_E Γ d kc ks mX11_penalty 21 [some (.ref 100), some (.int x), some (.int y), some (.int z), some (.ref w1), none] [.int (pf_b (0 ≤ y ∧ y ≤ (h1 100 9)))] ty1 h1 r1 g1 Q
    refine pv_if_eq (tgt := 31) dX11_penalty_21 (by decide) (fun c2 => ?_) (fun c2 => ?_)
    · have F := F.1 c2
      refine pv_ldc (v := (-2000000000)) dX11_penalty_31 kc_X11_209 ?_
      exact pv_ireturn dX11_penalty_33 rfl rfl F
    · have F := F.2 c2
      refine pv_iload_n dX11_penalty_24 rfl ?_
      refine pv_invS (As := [.int z]) (d' := d - 1) dX11_penalty_25 moX11_isDay ml_X11_195 (Nat.le_of_ble_eq_true rfl) (by omega) (Nat.zero_le _) (Nat.zero_le _) (ct_X11_isDay (by omega)) (fun v ty' h' r' g' hq => ?_) rfl
      obtain ⟨e1, e2, e3, e4, e5⟩ := hq
      rw [e1, e2, e3, e4, e5]
      refine pv_pc (pc' := 28) rfl ?_
      show pv_E Γ d kc ks mX11_penalty 28 [some (.ref 100), some (.int x), some (.int y), some (.int z), some (.ref w1), none] [.int (pf_b (0 ≤ z ∧ z ≤ 9999))] ty1 h1 r1 g1 Q
      refine pv_if_ne (tgt := 34) dX11_penalty_28 (by decide) (fun c3 => ?_) (fun c3 => ?_)
      · have F := F.1 c3
        refine pv_iload_n dX11_penalty_34 rfl ?_
        refine pv_aload dX11_penalty_35 rfl ?_
        obtain ⟨q1, F⟩ := F
        refine pv_getI 6 3 dX11_penalty_37 fl_X11_254 rfl q1 ?_
        refine pv_icmp_ge (tgt := 45) dX11_penalty_40 (by decide) (fun c4 => ?_) (fun c4 => ?_)
        · have F := F.1 c4
          refine pv_aload_n dX11_penalty_45 rfl ?_
          refine pv_getRk 11 10 dX11_penalty_46 fl_X11_52 rfl (lt_100 hL1) (lr_100_10 hL1) ?_
          refine pv_iconst (v := 1) (by decide) dX11_penalty_49 ?_
          refine pv_iload_n dX11_penalty_50 rfl ?_
          refine pv_iload_n dX11_penalty_51 rfl ?_
          refine pv_invV (As := [.int 1, .int y, .int z]) (d' := d - 1) dX11_penalty_52 moX1_findInForce ml_X11_210 (lt_70 hL1) (Or.inl ⟨_, rfl, rfl⟩) (Nat.le_of_ble_eq_true rfl) (by omega) (Nat.zero_le _) (Nat.zero_le _) F (fun v2 ty2 h2 r2 g2 F => ?_) rfl
          obtain ⟨w2, rfl, F⟩ := F
          obtain ⟨hL2, F⟩ := F
          refine pv_pc (pc' := 55) rfl ?_
          show pv_E Γ d kc ks mX11_penalty 55 [some (.ref 100), some (.int x), some (.int y), some (.int z), some (.ref w1), none] [.ref w2] ty2 h2 r2 g2 Q
          refine pv_astore (ls' := [some (.ref 100), some (.int x), some (.int y), some (.int z), some (.ref w1), some (.ref w2)]) dX11_penalty_55 (by decide) rfl rfl ?_
          refine pv_aload_n dX11_penalty_57 rfl ?_
          refine pv_getRk 11 10 dX11_penalty_58 fl_X11_52 rfl (lt_100 hL2) (lr_100_10 hL2) ?_
          refine pv_aload dX11_penalty_61 rfl ?_
          refine pv_aload dX11_penalty_63 rfl ?_
          refine pv_iload_n dX11_penalty_65 rfl ?_
          refine pv_pc (pc' := 66) rfl ?_
          refine pv_aload_n dX11_penalty_66 rfl ?_
          refine pv_aload dX11_penalty_67 rfl ?_
          obtain ⟨q2, F⟩ := F
          refine pv_getI 6 0 dX11_penalty_69 fl_X11_257 rfl q2 ?_
          refine pv_invV (As := [.int (h2 w1 0)]) (d' := d - 1) dX11_penalty_72 moX11_countOpen ml_X11_260 (lt_100 hL2) (Or.inl ⟨_, rfl, rfl⟩) (Nat.le_of_ble_eq_true rfl) (by omega) (Nat.zero_le _) (Nat.zero_le _) F (fun v ty' h3 r' g' hq => ?_) rfl
          obtain ⟨e2, e4, e5, w3, e1, F⟩ := hq
          rw [e1, e2, e4, e5]
          refine pv_pc (pc' := 75) rfl ?_
          show pv_E Γ d kc ks mX11_penalty 75 [some (.ref 100), some (.int x), some (.int y), some (.int z), some (.ref w1), some (.ref w2)] [.int w3, .int y, .ref w1, .ref w2, .ref 70] ty2 h3 r2 g2 Q
          refine pv_invV (As := [.ref w2, .ref w1, .int y, .int w3]) (d' := d - 1) dX11_penalty_75 moX1_givePenalty ml_X11_263 (lt_70 hL2) (Or.inl ⟨_, rfl, rfl⟩) (Nat.le_of_ble_eq_true rfl) (by omega) (Nat.zero_le _) (Nat.zero_le _) F (fun v3 ty3 h4 r3 g3 F => ?_) rfl
          obtain ⟨w4, rfl, F⟩ := F
          obtain ⟨hL3, F⟩ := F
          refine pv_pc (pc' := 78) rfl ?_
          show pv_E Γ d kc ks mX11_penalty 78 [some (.ref 100), some (.int x), some (.int y), some (.int z), some (.ref w1), some (.ref w2)] [.int w4] ty3 h4 r3 g3 Q
          exact pv_ireturn dX11_penalty_78 rfl rfl F
        · have F := F.2 c4
          refine pv_iconst (v := 0) (by decide) dX11_penalty_43 ?_
          exact pv_ireturn dX11_penalty_44 rfl rfl F
      · have F := F.2 c3
        refine pv_ldc (v := (-2000000000)) dX11_penalty_31 kc_X11_209 ?_
        exact pv_ireturn dX11_penalty_33 rfl rfl F
