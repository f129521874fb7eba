/-! the law -/
abbrev mL_law : pv_M := (yL_law, cL_law, 4, some .boolean)
theorem pv_sld {Γ : pv_C} {d kc ks : Nat} {M : pv_M} {pc : Nat} {ls : List (Option Value)} {st : List Value} {ty : pv_T} {h : pv_H} {r : pv_R} {g : pv_G} {Q : pv_Q} {n : Nat} {i : Int32} (hdg : decode M.2.1 pc = .ok (.iaload, 1)) (hta : ty 1 = some (20, n)) (hin : vp_in i n) (k : pv_E Γ d kc ks M (pc + 1) ls (.int (pv_xs Γ i.toNatClampNeg) :: st) ty h r g Q) : pv_E Γ d kc ks M pc ls (.int i :: .ref 1 :: st) ty h r g Q := by
  intro p e R s m args below meth c' H locs cells slots ρ lz Z hK
  have hx : h 1 i.toNatClampNeg = pv_xs Γ i.toNatClampNeg := by
    rcases hK.2.2.1.2.2.1 1 20 n hta (by decide) with ⟨-, -, -, -, q⟩ | ⟨i', -, q, -⟩ | ⟨i', -, q, -⟩
    · exact q _ (pv_inlt hin)
    · omega
    · omega
  rw [← hx] at k
  exact pv_iald hdg hta hin k p e R s m args below meth c' H locs cells slots ρ lz Z hK
set_option maxRecDepth 20000 in
set_option maxHeartbeats 4000000 in
theorem sg_L_law_0 {Γ : pv_C} {d kc ks : Nat} {ty : pv_T} {h : pv_H} {r : pv_R} {g : pv_G} {Q : pv_Q}  (hd : 1 ≤ d) (F : (∃ nm1 : Nat, 10 ≤ nm1 ∧ ty nm1 = none ∧ 1 ≤ kc ∧ 14 ≤ ks ∧ (∀ (ty1 : pv_T) (h1 : pv_H) (r1 : pv_R) (g1 : pv_G), ty1 = pv_newT ty nm1 11 0 → h1 = pv_new h nm1 0 → r1 = pv_new r nm1 0 → g1 = pv_new g nm1 0 → ty1 nm1 = some (11, 0) ∧ 33 ≤ (kc - 1) ∧ 4169 ≤ (ks - 14) ∧ pv_CT Γ (d - 1) 33 4169 mX11_init [.ref nm1] ty1 h1 r1 g1 (fun (v1 : Option Value) (ty2 : pv_T) (h2 : pv_H) (r2 : pv_R) (g2 : pv_G) => v1 = none ∧ (∃ nm2 : Nat, 10 ≤ nm2 ∧ ty2 nm2 = none ∧ 1 ≤ ((kc - 1) - 33) ∧ 66 ≤ ((ks - 14) - 4169) ∧ (∀ (ty3 : pv_T) (h3 : pv_H) (r3 : pv_R) (g3 : pv_G), ty3 = pv_newT ty2 nm2 12 0 → h3 = pv_new h2 nm2 0 → r3 = pv_new r2 nm2 0 → g3 = pv_new g2 nm2 0 → ty3 nm2 = some (12, 0) ∧ 46 ≤ (((kc - 1) - 33) - 1) ∧ 15453 ≤ (((ks - 14) - 4169) - 66) ∧ pv_CT Γ (d - 1) 46 15453 mX12_init [.ref nm2] ty3 h3 r3 g3 (fun (v2 : Option Value) (ty4 : pv_T) (h4 : pv_H) (r4 : pv_R) (g4 : pv_G) => v2 = none ∧ pv_E Γ d ((((kc - 1) - 33) - 1) - 46) ((((ks - 14) - 4169) - 66) - 15453) mL_law 18 [some (.ref 1), some (.ref nm1), some (.ref nm2), some (.int 0)] [] ty4 h4 r4 g4 Q))))))) : pv_E Γ d kc ks mL_law 0 [some (.ref 1), none, none, none] [] ty h r g Q := by
  obtain ⟨nm1, q1a, q1b, q1c, q1d, F⟩ := F
  obtain ⟨ty1, ety1⟩ : ∃ ty1 : pv_T, ty1 = pv_newT ty nm1 11 0 := ⟨_, rfl⟩
  obtain ⟨h1, eh1⟩ : ∃ h1 : pv_H, h1 = pv_new h nm1 0 := ⟨_, rfl⟩
  obtain ⟨r1, er1⟩ : ∃ r1 : pv_R, r1 = pv_new r nm1 0 := ⟨_, rfl⟩
  obtain ⟨g1, eg1⟩ : ∃ g1 : pv_G, g1 = pv_new g nm1 0 := ⟨_, rfl⟩
  have F := F ty1 h1 r1 g1 ety1 eh1 er1 eg1
  refine pv_newO nm1 11 dL_law_0 rfl cl_L_7 ins_X11 ini_X11 q1a q1b q1c q1d ?_
  refine pv_nE ety1 eh1 er1 eg1 ?_
  refine pv_dup rfl dL_law_3 ?_
  obtain ⟨q2, F⟩ := F
  obtain ⟨q3a, q3b, F⟩ := F
  refine pv_invI (As := []) (d' := d - 1) dL_law_4 moX11_init ml_L_9 q2 (Nat.le_of_ble_eq_true rfl) (by omega) q3a q3b F (fun v1 ty2 h2 r2 g2 F => ?_) rfl
  obtain ⟨rfl, F⟩ := F
  refine pv_pc (pc' := 7) rfl ?_
  show pv_E Γ d ((kc - 1) - 33) ((ks - 14) - 4169) mL_law 7 [some (.ref 1), none, none, none] [.ref nm1] ty2 h2 r2 g2 Q
  refine pv_astore_n (ls' := [some (.ref 1), some (.ref nm1), none, none]) dL_law_7 (by decide) rfl rfl ?_
  obtain ⟨nm2, q4a, q4b, q4c, q4d, F⟩ := F
  obtain ⟨ty3, ety3⟩ : ∃ ty3 : pv_T, ty3 = pv_newT ty2 nm2 12 0 := ⟨_, rfl⟩
  obtain ⟨h3, eh3⟩ : ∃ h3 : pv_H, h3 = pv_new h2 nm2 0 := ⟨_, rfl⟩
  obtain ⟨r3, er3⟩ : ∃ r3 : pv_R, r3 = pv_new r2 nm2 0 := ⟨_, rfl⟩
  obtain ⟨g3, eg3⟩ : ∃ g3 : pv_G, g3 = pv_new g2 nm2 0 := ⟨_, rfl⟩
  have F := F ty3 h3 r3 g3 ety3 eh3 er3 eg3
  refine pv_newO nm2 12 dL_law_8 rfl cl_L_10 ins_X12 ini_X12 q4a q4b q4c q4d ?_
  refine pv_nE ety3 eh3 er3 eg3 ?_
  refine pv_dup rfl dL_law_11 ?_
  obtain ⟨q5, F⟩ := F
  obtain ⟨q6a, q6b, F⟩ := F
  refine pv_invI (As := []) (d' := d - 1) dL_law_12 moX12_init ml_L_12 q5 (Nat.le_of_ble_eq_true rfl) (by omega) q6a q6b F (fun v2 ty4 h4 r4 g4 F => ?_) rfl
  obtain ⟨rfl, F⟩ := F
  refine pv_pc (pc' := 15) rfl ?_
  show pv_E Γ d ((((kc - 1) - 33) - 1) - 46) ((((ks - 14) - 4169) - 66) - 15453) mL_law 15 [some (.ref 1), some (.ref nm1), none, none] [.ref nm2] ty4 h4 r4 g4 Q
  refine pv_astore_n (ls' := [some (.ref 1), some (.ref nm1), some (.ref nm2), none]) dL_law_15 (by decide) rfl rfl ?_
  refine pv_iconst (v := 0) (by decide) dL_law_16 ?_
  refine pv_istore_n (ls' := [some (.ref 1), some (.ref nm1), some (.ref nm2), some (.int 0)]) dL_law_17 (by decide) rfl rfl ?_
  exact F
set_option maxRecDepth 20000 in
set_option maxHeartbeats 4000000 in
theorem sg_L_law_18 {Γ : pv_C} {d kc ks : Nat} {ty : pv_T} {h : pv_H} {r : pv_R} {g : pv_G} {Q : pv_Q} (x : Int32) (F : (∃ k1 n1 : Nat, ty 1 = some (k1, n1) ∧ (20 ≤ k1 ∧ k1 ≤ 27) ∧ ((((nI n1) - 6) < x → Q (some (.int 1)) ty h r g) ∧ (¬ ((nI n1) - 6) < x → pv_inb ty 1 20 x ∧ ((((pv_xs Γ (Int32.toNatClampNeg x)) &&& 63) = 0 → pv_E Γ d kc ks mL_law 200 [some (.ref 1), some (.ref 100), some (.ref 200), some (.int x)] [] ty h r g Q) ∧ (((pv_xs Γ (Int32.toNatClampNeg x)) &&& 63) = 1 → pv_E Γ d kc ks mL_law 243 [some (.ref 1), some (.ref 100), some (.ref 200), some (.int x)] [] ty h r g Q) ∧ (((pv_xs Γ (Int32.toNatClampNeg x)) &&& 63) = 2 → pv_E Γ d kc ks mL_law 296 [some (.ref 1), some (.ref 100), some (.ref 200), some (.int x)] [] ty h r g Q) ∧ (((pv_xs Γ (Int32.toNatClampNeg x)) &&& 63) = 3 → pv_E Γ d kc ks mL_law 339 [some (.ref 1), some (.ref 100), some (.ref 200), some (.int x)] [] ty h r g Q) ∧ (((pv_xs Γ (Int32.toNatClampNeg x)) &&& 63) = 4 → pv_E Γ d kc ks mL_law 392 [some (.ref 1), some (.ref 100), some (.ref 200), some (.int x)] [] ty h r g Q) ∧ (((pv_xs Γ (Int32.toNatClampNeg x)) &&& 63) = 5 → pv_E Γ d kc ks mL_law 435 [some (.ref 1), some (.ref 100), some (.ref 200), some (.int x)] [] ty h r g Q) ∧ (((pv_xs Γ (Int32.toNatClampNeg x)) &&& 63) = 6 → pv_E Γ d kc ks mL_law 458 [some (.ref 1), some (.ref 100), some (.ref 200), some (.int x)] [] ty h r g Q) ∧ (((pv_xs Γ (Int32.toNatClampNeg x)) &&& 63) = 7 → pv_E Γ d kc ks mL_law 481 [some (.ref 1), some (.ref 100), some (.ref 200), some (.int x)] [] ty h r g Q) ∧ (((pv_xs Γ (Int32.toNatClampNeg x)) &&& 63) = 8 → pv_E Γ d kc ks mL_law 534 [some (.ref 1), some (.ref 100), some (.ref 200), some (.int x)] [] ty h r g Q) ∧ (((pv_xs Γ (Int32.toNatClampNeg x)) &&& 63) = 9 → pv_E Γ d kc ks mL_law 557 [some (.ref 1), some (.ref 100), some (.ref 200), some (.int x)] [] ty h r g Q) ∧ (((pv_xs Γ (Int32.toNatClampNeg x)) &&& 63) = 10 → pv_E Γ d kc ks mL_law 570 [some (.ref 1), some (.ref 100), some (.ref 200), some (.int x)] [] ty h r g Q) ∧ (((pv_xs Γ (Int32.toNatClampNeg x)) &&& 63) = 11 → pv_E Γ d kc ks mL_law 603 [some (.ref 1), some (.ref 100), some (.ref 200), some (.int x)] [] ty h r g Q) ∧ (((pv_xs Γ (Int32.toNatClampNeg x)) &&& 63) = 12 → pv_E Γ d kc ks mL_law 626 [some (.ref 1), some (.ref 100), some (.ref 200), some (.int x)] [] ty h r g Q) ∧ (((pv_xs Γ (Int32.toNatClampNeg x)) &&& 63) = 13 → pv_E Γ d kc ks mL_law 649 [some (.ref 1), some (.ref 100), some (.ref 200), some (.int x)] [] ty h r g Q) ∧ (((pv_xs Γ (Int32.toNatClampNeg x)) &&& 63) = 14 → pv_E Γ d kc ks mL_law 672 [some (.ref 1), some (.ref 100), some (.ref 200), some (.int x)] [] ty h r g Q) ∧ (((pv_xs Γ (Int32.toNatClampNeg x)) &&& 63) = 15 → pv_E Γ d kc ks mL_law 685 [some (.ref 1), some (.ref 100), some (.ref 200), some (.int x)] [] ty h r g Q) ∧ (((pv_xs Γ (Int32.toNatClampNeg x)) &&& 63) = 16 → pv_E Γ d kc ks mL_law 728 [some (.ref 1), some (.ref 100), some (.ref 200), some (.int x)] [] ty h r g Q) ∧ (((pv_xs Γ (Int32.toNatClampNeg x)) &&& 63) = 17 → pv_E Γ d kc ks mL_law 751 [some (.ref 1), some (.ref 100), some (.ref 200), some (.int x)] [] ty h r g Q) ∧ (((pv_xs Γ (Int32.toNatClampNeg x)) &&& 63) = 18 → pv_E Γ d kc ks mL_law 784 [some (.ref 1), some (.ref 100), some (.ref 200), some (.int x)] [] ty h r g Q) ∧ (((pv_xs Γ (Int32.toNatClampNeg x)) &&& 63) = 19 → pv_E Γ d kc ks mL_law 837 [some (.ref 1), some (.ref 100), some (.ref 200), some (.int x)] [] ty h r g Q) ∧ (((pv_xs Γ (Int32.toNatClampNeg x)) &&& 63) = 20 → pv_E Γ d kc ks mL_law 900 [some (.ref 1), some (.ref 100), some (.ref 200), some (.int x)] [] ty h r g Q) ∧ (((pv_xs Γ (Int32.toNatClampNeg x)) &&& 63) = 21 → pv_E Γ d kc ks mL_law 923 [some (.ref 1), some (.ref 100), some (.ref 200), some (.int x)] [] ty h r g Q) ∧ (((pv_xs Γ (Int32.toNatClampNeg x)) &&& 63) = 22 → pv_E Γ d kc ks mL_law 966 [some (.ref 1), some (.ref 100), some (.ref 200), some (.int x)] [] ty h r g Q) ∧ (((pv_xs Γ (Int32.toNatClampNeg x)) &&& 63) = 23 → pv_E Γ d kc ks mL_law 989 [some (.ref 1), some (.ref 100), some (.ref 200), some (.int x)] [] ty h r g Q) ∧ (((pv_xs Γ (Int32.toNatClampNeg x)) &&& 63) = 24 → pv_E Γ d kc ks mL_law 1022 [some (.ref 1), some (.ref 100), some (.ref 200), some (.int x)] [] ty h r g Q) ∧ (((pv_xs Γ (Int32.toNatClampNeg x)) &&& 63) = 25 → pv_E Γ d kc ks mL_law 1055 [some (.ref 1), some (.ref 100), some (.ref 200), some (.int x)] [] ty h r g Q) ∧ (((pv_xs Γ (Int32.toNatClampNeg x)) &&& 63) = 26 → pv_E Γ d kc ks mL_law 1098 [some (.ref 1), some (.ref 100), some (.ref 200), some (.int x)] [] ty h r g Q) ∧ (((pv_xs Γ (Int32.toNatClampNeg x)) &&& 63) = 27 → pv_E Γ d kc ks mL_law 1141 [some (.ref 1), some (.ref 100), some (.ref 200), some (.int x)] [] ty h r g Q) ∧ (((pv_xs Γ (Int32.toNatClampNeg x)) &&& 63) = 28 → pv_E Γ d kc ks mL_law 1174 [some (.ref 1), some (.ref 100), some (.ref 200), some (.int x)] [] ty h r g Q) ∧ (((pv_xs Γ (Int32.toNatClampNeg x)) &&& 63) = 29 → pv_E Γ d kc ks mL_law 1207 [some (.ref 1), some (.ref 100), some (.ref 200), some (.int x)] [] ty h r g Q) ∧ (((pv_xs Γ (Int32.toNatClampNeg x)) &&& 63) = 30 → pv_E Γ d kc ks mL_law 1260 [some (.ref 1), some (.ref 100), some (.ref 200), some (.int x)] [] ty h r g Q) ∧ (((pv_xs Γ (Int32.toNatClampNeg x)) &&& 63) = 31 → pv_E Γ d kc ks mL_law 1283 [some (.ref 1), some (.ref 100), some (.ref 200), some (.int x)] [] ty h r g Q) ∧ (((pv_xs Γ (Int32.toNatClampNeg x)) &&& 63) = 32 → pv_E Γ d kc ks mL_law 1326 [some (.ref 1), some (.ref 100), some (.ref 200), some (.int x)] [] ty h r g Q) ∧ (((pv_xs Γ (Int32.toNatClampNeg x)) &&& 63) = 33 → pv_E Γ d kc ks mL_law 1359 [some (.ref 1), some (.ref 100), some (.ref 200), some (.int x)] [] ty h r g Q) ∧ (((pv_xs Γ (Int32.toNatClampNeg x)) &&& 63) = 34 → pv_E Γ d kc ks mL_law 1392 [some (.ref 1), some (.ref 100), some (.ref 200), some (.int x)] [] ty h r g Q) ∧ (((pv_xs Γ (Int32.toNatClampNeg x)) &&& 63) = 35 → pv_E Γ d kc ks mL_law 1435 [some (.ref 1), some (.ref 100), some (.ref 200), some (.int x)] [] ty h r g Q) ∧ (((pv_xs Γ (Int32.toNatClampNeg x)) &&& 63) = 36 → pv_E Γ d kc ks mL_law 1458 [some (.ref 1), some (.ref 100), some (.ref 200), some (.int x)] [] ty h r g Q) ∧ (((pv_xs Γ (Int32.toNatClampNeg x)) &&& 63) = 37 → pv_E Γ d kc ks mL_law 1511 [some (.ref 1), some (.ref 100), some (.ref 200), some (.int x)] [] ty h r g Q) ∧ (¬ ((pv_xs Γ (Int32.toNatClampNeg x)) &&& 63) = 0 → ¬ ((pv_xs Γ (Int32.toNatClampNeg x)) &&& 63) = 1 → ¬ ((pv_xs Γ (Int32.toNatClampNeg x)) &&& 63) = 2 → ¬ ((pv_xs Γ (Int32.toNatClampNeg x)) &&& 63) = 3 → ¬ ((pv_xs Γ (Int32.toNatClampNeg x)) &&& 63) = 4 → ¬ ((pv_xs Γ (Int32.toNatClampNeg x)) &&& 63) = 5 → ¬ ((pv_xs Γ (Int32.toNatClampNeg x)) &&& 63) = 6 → ¬ ((pv_xs Γ (Int32.toNatClampNeg x)) &&& 63) = 7 → ¬ ((pv_xs Γ (Int32.toNatClampNeg x)) &&& 63) = 8 → ¬ ((pv_xs Γ (Int32.toNatClampNeg x)) &&& 63) = 9 → ¬ ((pv_xs Γ (Int32.toNatClampNeg x)) &&& 63) = 10 → ¬ ((pv_xs Γ (Int32.toNatClampNeg x)) &&& 63) = 11 → ¬ ((pv_xs Γ (Int32.toNatClampNeg x)) &&& 63) = 12 → ¬ ((pv_xs Γ (Int32.toNatClampNeg x)) &&& 63) = 13 → ¬ ((pv_xs Γ (Int32.toNatClampNeg x)) &&& 63) = 14 → ¬ ((pv_xs Γ (Int32.toNatClampNeg x)) &&& 63) = 15 → ¬ ((pv_xs Γ (Int32.toNatClampNeg x)) &&& 63) = 16 → ¬ ((pv_xs Γ (Int32.toNatClampNeg x)) &&& 63) = 17 → ¬ ((pv_xs Γ (Int32.toNatClampNeg x)) &&& 63) = 18 → ¬ ((pv_xs Γ (Int32.toNatClampNeg x)) &&& 63) = 19 → ¬ ((pv_xs Γ (Int32.toNatClampNeg x)) &&& 63) = 20 → ¬ ((pv_xs Γ (Int32.toNatClampNeg x)) &&& 63) = 21 → ¬ ((pv_xs Γ (Int32.toNatClampNeg x)) &&& 63) = 22 → ¬ ((pv_xs Γ (Int32.toNatClampNeg x)) &&& 63) = 23 → ¬ ((pv_xs Γ (Int32.toNatClampNeg x)) &&& 63) = 24 → ¬ ((pv_xs Γ (Int32.toNatClampNeg x)) &&& 63) = 25 → ¬ ((pv_xs Γ (Int32.toNatClampNeg x)) &&& 63) = 26 → ¬ ((pv_xs Γ (Int32.toNatClampNeg x)) &&& 63) = 27 → ¬ ((pv_xs Γ (Int32.toNatClampNeg x)) &&& 63) = 28 → ¬ ((pv_xs Γ (Int32.toNatClampNeg x)) &&& 63) = 29 → ¬ ((pv_xs Γ (Int32.toNatClampNeg x)) &&& 63) = 30 → ¬ ((pv_xs Γ (Int32.toNatClampNeg x)) &&& 63) = 31 → ¬ ((pv_xs Γ (Int32.toNatClampNeg x)) &&& 63) = 32 → ¬ ((pv_xs Γ (Int32.toNatClampNeg x)) &&& 63) = 33 → ¬ ((pv_xs Γ (Int32.toNatClampNeg x)) &&& 63) = 34 → ¬ ((pv_xs Γ (Int32.toNatClampNeg x)) &&& 63) = 35 → ¬ ((pv_xs Γ (Int32.toNatClampNeg x)) &&& 63) = 36 → ¬ ((pv_xs Γ (Int32.toNatClampNeg x)) &&& 63) = 37 → pv_E Γ d kc ks mL_law 18 [some (.ref 1), some (.ref 100), some (.ref 200), some (.int (x + 6))] [] ty h r g Q)))))) : pv_E Γ d kc ks mL_law 18 [some (.ref 1), some (.ref 100), some (.ref 200), some (.int x)] [] ty h r g Q := by
  refine pv_iload_n dL_law_18 rfl ?_
  refine pv_aload_n dL_law_19 rfl ?_
  obtain ⟨k1, n1, q1, q1k, F⟩ := F
  refine pv_alen dL_law_20 q1 q1k ?_
  refine pv_bipush (v := 6) (by decide) dL_law_21 ?_
  refine pv_isub dL_law_23 ?_
  refine pv_icmp_gt (tgt := 1540) dL_law_24 (by decide) (fun c1 => ?_) (fun c1 => ?_)
  · have F := F.1 c1
    refine pv_iconst (v := 1) (by decide) dL_law_1540 ?_
    exact pv_ireturn dL_law_1541 rfl (by decide) F
  · have F := F.2 c1
    refine pv_aload_n dL_law_27 rfl ?_
    refine pv_iload_n dL_law_28 rfl ?_
    obtain ⟨q2, F⟩ := F
    obtain ⟨q2n, q2t, q2i⟩ := q2
    refine pv_sld dL_law_29 q2t q2i ?_
    refine pv_bipush (v := 63) (by decide) dL_law_30 ?_
    refine pv_iand dL_law_32 ?_
    by_cases c2_0 : ((pv_xs Γ (Int32.toNatClampNeg x)) &&& 63) = 0
    · refine pv_tableIn (tgt := 200) dL_law_33 (by rw [c2_0]; decide) (by rw [c2_0]; decide) (by rw [c2_0]; rfl) (by decide) ?_
      have F := F.1 c2_0
      exact F
    · skip
      by_cases c2_1 : ((pv_xs Γ (Int32.toNatClampNeg x)) &&& 63) = 1
      · refine pv_tableIn (tgt := 243) dL_law_33 (by rw [c2_1]; decide) (by rw [c2_1]; decide) (by rw [c2_1]; rfl) (by decide) ?_
        have F := F.2.1 c2_1
        exact F
      · skip
        by_cases c2_2 : ((pv_xs Γ (Int32.toNatClampNeg x)) &&& 63) = 2
        · refine pv_tableIn (tgt := 296) dL_law_33 (by rw [c2_2]; decide) (by rw [c2_2]; decide) (by rw [c2_2]; rfl) (by decide) ?_
          have F := F.2.2.1 c2_2
          exact F
        · skip
          by_cases c2_3 : ((pv_xs Γ (Int32.toNatClampNeg x)) &&& 63) = 3
          · refine pv_tableIn (tgt := 339) dL_law_33 (by rw [c2_3]; decide) (by rw [c2_3]; decide) (by rw [c2_3]; rfl) (by decide) ?_
            have F := F.2.2.2.1 c2_3
            exact F
          · skip
            by_cases c2_4 : ((pv_xs Γ (Int32.toNatClampNeg x)) &&& 63) = 4
            · refine pv_tableIn (tgt := 392) dL_law_33 (by rw [c2_4]; decide) (by rw [c2_4]; decide) (by rw [c2_4]; rfl) (by decide) ?_
              have F := F.2.2.2.2.1 c2_4
              exact F
            · skip
              by_cases c2_5 : ((pv_xs Γ (Int32.toNatClampNeg x)) &&& 63) = 5
              · refine pv_tableIn (tgt := 435) dL_law_33 (by rw [c2_5]; decide) (by rw [c2_5]; decide) (by rw [c2_5]; rfl) (by decide) ?_
                have F := F.2.2.2.2.2.1 c2_5
                exact F
              · skip
                by_cases c2_6 : ((pv_xs Γ (Int32.toNatClampNeg x)) &&& 63) = 6
                · refine pv_tableIn (tgt := 458) dL_law_33 (by rw [c2_6]; decide) (by rw [c2_6]; decide) (by rw [c2_6]; rfl) (by decide) ?_
                  have F := F.2.2.2.2.2.2.1 c2_6
                  exact F
                · skip
                  by_cases c2_7 : ((pv_xs Γ (Int32.toNatClampNeg x)) &&& 63) = 7
                  · refine pv_tableIn (tgt := 481) dL_law_33 (by rw [c2_7]; decide) (by rw [c2_7]; decide) (by rw [c2_7]; rfl) (by decide) ?_
                    have F := F.2.2.2.2.2.2.2.1 c2_7
                    exact F
                  · skip
                    by_cases c2_8 : ((pv_xs Γ (Int32.toNatClampNeg x)) &&& 63) = 8
                    · refine pv_tableIn (tgt := 534) dL_law_33 (by rw [c2_8]; decide) (by rw [c2_8]; decide) (by rw [c2_8]; rfl) (by decide) ?_
                      have F := F.2.2.2.2.2.2.2.2.1 c2_8
                      exact F
                    · skip
                      by_cases c2_9 : ((pv_xs Γ (Int32.toNatClampNeg x)) &&& 63) = 9
                      · refine pv_tableIn (tgt := 557) dL_law_33 (by rw [c2_9]; decide) (by rw [c2_9]; decide) (by rw [c2_9]; rfl) (by decide) ?_
                        have F := F.2.2.2.2.2.2.2.2.2.1 c2_9
                        exact F
                      · skip
                        by_cases c2_10 : ((pv_xs Γ (Int32.toNatClampNeg x)) &&& 63) = 10
                        · refine pv_tableIn (tgt := 570) dL_law_33 (by rw [c2_10]; decide) (by rw [c2_10]; decide) (by rw [c2_10]; rfl) (by decide) ?_
                          have F := F.2.2.2.2.2.2.2.2.2.2.1 c2_10
                          exact F
                        · skip
                          by_cases c2_11 : ((pv_xs Γ (Int32.toNatClampNeg x)) &&& 63) = 11
                          · refine pv_tableIn (tgt := 603) dL_law_33 (by rw [c2_11]; decide) (by rw [c2_11]; decide) (by rw [c2_11]; rfl) (by decide) ?_
                            have F := F.2.2.2.2.2.2.2.2.2.2.2.1 c2_11
                            exact F
                          · skip
                            by_cases c2_12 : ((pv_xs Γ (Int32.toNatClampNeg x)) &&& 63) = 12
                            · refine pv_tableIn (tgt := 626) dL_law_33 (by rw [c2_12]; decide) (by rw [c2_12]; decide) (by rw [c2_12]; rfl) (by decide) ?_
                              have F := F.2.2.2.2.2.2.2.2.2.2.2.2.1 c2_12
                              exact F
                            · skip
                              by_cases c2_13 : ((pv_xs Γ (Int32.toNatClampNeg x)) &&& 63) = 13
                              · refine pv_tableIn (tgt := 649) dL_law_33 (by rw [c2_13]; decide) (by rw [c2_13]; decide) (by rw [c2_13]; rfl) (by decide) ?_
                                have F := F.2.2.2.2.2.2.2.2.2.2.2.2.2.1 c2_13
                                exact F
                              · skip
                                by_cases c2_14 : ((pv_xs Γ (Int32.toNatClampNeg x)) &&& 63) = 14
                                · refine pv_tableIn (tgt := 672) dL_law_33 (by rw [c2_14]; decide) (by rw [c2_14]; decide) (by rw [c2_14]; rfl) (by decide) ?_
                                  have F := F.2.2.2.2.2.2.2.2.2.2.2.2.2.2.1 c2_14
                                  exact F
                                · skip
                                  by_cases c2_15 : ((pv_xs Γ (Int32.toNatClampNeg x)) &&& 63) = 15
                                  · refine pv_tableIn (tgt := 685) dL_law_33 (by rw [c2_15]; decide) (by rw [c2_15]; decide) (by rw [c2_15]; rfl) (by decide) ?_
                                    have F := F.2.2.2.2.2.2.2.2.2.2.2.2.2.2.2.1 c2_15
                                    exact F
                                  · skip
                                    by_cases c2_16 : ((pv_xs Γ (Int32.toNatClampNeg x)) &&& 63) = 16
                                    · refine pv_tableIn (tgt := 728) dL_law_33 (by rw [c2_16]; decide) (by rw [c2_16]; decide) (by rw [c2_16]; rfl) (by decide) ?_
                                      have F := F.2.2.2.2.2.2.2.2.2.2.2.2.2.2.2.2.1 c2_16
                                      exact F
                                    · skip
                                      by_cases c2_17 : ((pv_xs Γ (Int32.toNatClampNeg x)) &&& 63) = 17
                                      · refine pv_tableIn (tgt := 751) dL_law_33 (by rw [c2_17]; decide) (by rw [c2_17]; decide) (by rw [c2_17]; rfl) (by decide) ?_
                                        have F := F.2.2.2.2.2.2.2.2.2.2.2.2.2.2.2.2.2.1 c2_17
                                        exact F
                                      · skip
                                        by_cases c2_18 : ((pv_xs Γ (Int32.toNatClampNeg x)) &&& 63) = 18
                                        · refine pv_tableIn (tgt := 784) dL_law_33 (by rw [c2_18]; decide) (by rw [c2_18]; decide) (by rw [c2_18]; rfl) (by decide) ?_
                                          have F := F.2.2.2.2.2.2.2.2.2.2.2.2.2.2.2.2.2.2.1 c2_18
                                          exact F
                                        · skip
                                          by_cases c2_19 : ((pv_xs Γ (Int32.toNatClampNeg x)) &&& 63) = 19
                                          · refine pv_tableIn (tgt := 837) dL_law_33 (by rw [c2_19]; decide) (by rw [c2_19]; decide) (by rw [c2_19]; rfl) (by decide) ?_
                                            have F := F.2.2.2.2.2.2.2.2.2.2.2.2.2.2.2.2.2.2.2.1 c2_19
                                            exact F
                                          · skip
                                            by_cases c2_20 : ((pv_xs Γ (Int32.toNatClampNeg x)) &&& 63) = 20
                                            · refine pv_tableIn (tgt := 900) dL_law_33 (by rw [c2_20]; decide) (by rw [c2_20]; decide) (by rw [c2_20]; rfl) (by decide) ?_
                                              have F := F.2.2.2.2.2.2.2.2.2.2.2.2.2.2.2.2.2.2.2.2.1 c2_20
                                              exact F
                                            · skip
                                              by_cases c2_21 : ((pv_xs Γ (Int32.toNatClampNeg x)) &&& 63) = 21
                                              · refine pv_tableIn (tgt := 923) dL_law_33 (by rw [c2_21]; decide) (by rw [c2_21]; decide) (by rw [c2_21]; rfl) (by decide) ?_
                                                have F := F.2.2.2.2.2.2.2.2.2.2.2.2.2.2.2.2.2.2.2.2.2.1 c2_21
                                                exact F
                                              · skip
                                                by_cases c2_22 : ((pv_xs Γ (Int32.toNatClampNeg x)) &&& 63) = 22
                                                · refine pv_tableIn (tgt := 966) dL_law_33 (by rw [c2_22]; decide) (by rw [c2_22]; decide) (by rw [c2_22]; rfl) (by decide) ?_
                                                  have F := F.2.2.2.2.2.2.2.2.2.2.2.2.2.2.2.2.2.2.2.2.2.2.1 c2_22
                                                  exact F
                                                · skip
                                                  by_cases c2_23 : ((pv_xs Γ (Int32.toNatClampNeg x)) &&& 63) = 23
                                                  · refine pv_tableIn (tgt := 989) dL_law_33 (by rw [c2_23]; decide) (by rw [c2_23]; decide) (by rw [c2_23]; rfl) (by decide) ?_
                                                    have F := F.2.2.2.2.2.2.2.2.2.2.2.2.2.2.2.2.2.2.2.2.2.2.2.1 c2_23
                                                    exact F
                                                  · skip
                                                    by_cases c2_24 : ((pv_xs Γ (Int32.toNatClampNeg x)) &&& 63) = 24
                                                    · refine pv_tableIn (tgt := 1022) dL_law_33 (by rw [c2_24]; decide) (by rw [c2_24]; decide) (by rw [c2_24]; rfl) (by decide) ?_
                                                      have F := F.2.2.2.2.2.2.2.2.2.2.2.2.2.2.2.2.2.2.2.2.2.2.2.2.1 c2_24
                                                      exact F
                                                    · skip
                                                      by_cases c2_25 : ((pv_xs Γ (Int32.toNatClampNeg x)) &&& 63) = 25
                                                      · refine pv_tableIn (tgt := 1055) dL_law_33 (by rw [c2_25]; decide) (by rw [c2_25]; decide) (by rw [c2_25]; rfl) (by decide) ?_
                                                        have F := F.2.2.2.2.2.2.2.2.2.2.2.2.2.2.2.2.2.2.2.2.2.2.2.2.2.1 c2_25
                                                        exact F
                                                      · skip
                                                        by_cases c2_26 : ((pv_xs Γ (Int32.toNatClampNeg x)) &&& 63) = 26
                                                        · refine pv_tableIn (tgt := 1098) dL_law_33 (by rw [c2_26]; decide) (by rw [c2_26]; decide) (by rw [c2_26]; rfl) (by decide) ?_
                                                          have F := F.2.2.2.2.2.2.2.2.2.2.2.2.2.2.2.2.2.2.2.2.2.2.2.2.2.2.1 c2_26
                                                          exact F
                                                        · skip
                                                          by_cases c2_27 : ((pv_xs Γ (Int32.toNatClampNeg x)) &&& 63) = 27
                                                          · refine pv_tableIn (tgt := 1141) dL_law_33 (by rw [c2_27]; decide) (by rw [c2_27]; decide) (by rw [c2_27]; rfl) (by decide) ?_
                                                            have F := F.2.2.2.2.2.2.2.2.2.2.2.2.2.2.2.2.2.2.2.2.2.2.2.2.2.2.2.1 c2_27
                                                            exact F
                                                          · skip
                                                            by_cases c2_28 : ((pv_xs Γ (Int32.toNatClampNeg x)) &&& 63) = 28
                                                            · refine pv_tableIn (tgt := 1174) dL_law_33 (by rw [c2_28]; decide) (by rw [c2_28]; decide) (by rw [c2_28]; rfl) (by decide) ?_
                                                              have F := F.2.2.2.2.2.2.2.2.2.2.2.2.2.2.2.2.2.2.2.2.2.2.2.2.2.2.2.2.1 c2_28
                                                              exact F
                                                            · skip
                                                              by_cases c2_29 : ((pv_xs Γ (Int32.toNatClampNeg x)) &&& 63) = 29
                                                              · refine pv_tableIn (tgt := 1207) dL_law_33 (by rw [c2_29]; decide) (by rw [c2_29]; decide) (by rw [c2_29]; rfl) (by decide) ?_
                                                                have F := F.2.2.2.2.2.2.2.2.2.2.2.2.2.2.2.2.2.2.2.2.2.2.2.2.2.2.2.2.2.1 c2_29
                                                                exact F
                                                              · skip
                                                                by_cases c2_30 : ((pv_xs Γ (Int32.toNatClampNeg x)) &&& 63) = 30
                                                                · refine pv_tableIn (tgt := 1260) dL_law_33 (by rw [c2_30]; decide) (by rw [c2_30]; decide) (by rw [c2_30]; rfl) (by decide) ?_
                                                                  have F := F.2.2.2.2.2.2.2.2.2.2.2.2.2.2.2.2.2.2.2.2.2.2.2.2.2.2.2.2.2.2.1 c2_30
                                                                  exact F
                                                                · skip
                                                                  by_cases c2_31 : ((pv_xs Γ (Int32.toNatClampNeg x)) &&& 63) = 31
                                                                  · refine pv_tableIn (tgt := 1283) dL_law_33 (by rw [c2_31]; decide) (by rw [c2_31]; decide) (by rw [c2_31]; rfl) (by decide) ?_
                                                                    have F := F.2.2.2.2.2.2.2.2.2.2.2.2.2.2.2.2.2.2.2.2.2.2.2.2.2.2.2.2.2.2.2.1 c2_31
                                                                    exact F
                                                                  · skip
                                                                    by_cases c2_32 : ((pv_xs Γ (Int32.toNatClampNeg x)) &&& 63) = 32
                                                                    · refine pv_tableIn (tgt := 1326) dL_law_33 (by rw [c2_32]; decide) (by rw [c2_32]; decide) (by rw [c2_32]; rfl) (by decide) ?_
                                                                      have F := F.2.2.2.2.2.2.2.2.2.2.2.2.2.2.2.2.2.2.2.2.2.2.2.2.2.2.2.2.2.2.2.2.1 c2_32
                                                                      exact F
                                                                    · skip
                                                                      by_cases c2_33 : ((pv_xs Γ (Int32.toNatClampNeg x)) &&& 63) = 33
                                                                      · refine pv_tableIn (tgt := 1359) dL_law_33 (by rw [c2_33]; decide) (by rw [c2_33]; decide) (by rw [c2_33]; rfl) (by decide) ?_
                                                                        have F := F.2.2.2.2.2.2.2.2.2.2.2.2.2.2.2.2.2.2.2.2.2.2.2.2.2.2.2.2.2.2.2.2.2.1 c2_33
                                                                        exact F
                                                                      · skip
                                                                        by_cases c2_34 : ((pv_xs Γ (Int32.toNatClampNeg x)) &&& 63) = 34
                                                                        · refine pv_tableIn (tgt := 1392) dL_law_33 (by rw [c2_34]; decide) (by rw [c2_34]; decide) (by rw [c2_34]; rfl) (by decide) ?_
                                                                          have F := F.2.2.2.2.2.2.2.2.2.2.2.2.2.2.2.2.2.2.2.2.2.2.2.2.2.2.2.2.2.2.2.2.2.2.1 c2_34
                                                                          exact F
                                                                        · skip
                                                                          by_cases c2_35 : ((pv_xs Γ (Int32.toNatClampNeg x)) &&& 63) = 35
                                                                          · refine pv_tableIn (tgt := 1435) dL_law_33 (by rw [c2_35]; decide) (by rw [c2_35]; decide) (by rw [c2_35]; rfl) (by decide) ?_
                                                                            have F := F.2.2.2.2.2.2.2.2.2.2.2.2.2.2.2.2.2.2.2.2.2.2.2.2.2.2.2.2.2.2.2.2.2.2.2.1 c2_35
                                                                            exact F
                                                                          · skip
                                                                            by_cases c2_36 : ((pv_xs Γ (Int32.toNatClampNeg x)) &&& 63) = 36
                                                                            · refine pv_tableIn (tgt := 1458) dL_law_33 (by rw [c2_36]; decide) (by rw [c2_36]; decide) (by rw [c2_36]; rfl) (by decide) ?_
                                                                              have F := F.2.2.2.2.2.2.2.2.2.2.2.2.2.2.2.2.2.2.2.2.2.2.2.2.2.2.2.2.2.2.2.2.2.2.2.2.1 c2_36
                                                                              exact F
                                                                            · skip
                                                                              by_cases c2_37 : ((pv_xs Γ (Int32.toNatClampNeg x)) &&& 63) = 37
                                                                              · refine pv_tableIn (tgt := 1511) dL_law_33 (by rw [c2_37]; decide) (by rw [c2_37]; decide) (by rw [c2_37]; rfl) (by decide) ?_
                                                                                have F := F.2.2.2.2.2.2.2.2.2.2.2.2.2.2.2.2.2.2.2.2.2.2.2.2.2.2.2.2.2.2.2.2.2.2.2.2.2.1 c2_37
                                                                                exact F
                                                                              · skip
                                                                                refine pv_tableOut (tgt := 1534) dL_law_33 (by have z0 := pv_ne c2_0 (n := 0) (by decide); have z1 := pv_ne c2_1 (n := 1) (by decide); have z2 := pv_ne c2_2 (n := 2) (by decide); have z3 := pv_ne c2_3 (n := 3) (by decide); have z4 := pv_ne c2_4 (n := 4) (by decide); have z5 := pv_ne c2_5 (n := 5) (by decide); have z6 := pv_ne c2_6 (n := 6) (by decide); have z7 := pv_ne c2_7 (n := 7) (by decide); have z8 := pv_ne c2_8 (n := 8) (by decide); have z9 := pv_ne c2_9 (n := 9) (by decide); have z10 := pv_ne c2_10 (n := 10) (by decide); have z11 := pv_ne c2_11 (n := 11) (by decide); have z12 := pv_ne c2_12 (n := 12) (by decide); have z13 := pv_ne c2_13 (n := 13) (by decide); have z14 := pv_ne c2_14 (n := 14) (by decide); have z15 := pv_ne c2_15 (n := 15) (by decide); have z16 := pv_ne c2_16 (n := 16) (by decide); have z17 := pv_ne c2_17 (n := 17) (by decide); have z18 := pv_ne c2_18 (n := 18) (by decide); have z19 := pv_ne c2_19 (n := 19) (by decide); have z20 := pv_ne c2_20 (n := 20) (by decide); have z21 := pv_ne c2_21 (n := 21) (by decide); have z22 := pv_ne c2_22 (n := 22) (by decide); have z23 := pv_ne c2_23 (n := 23) (by decide); have z24 := pv_ne c2_24 (n := 24) (by decide); have z25 := pv_ne c2_25 (n := 25) (by decide); have z26 := pv_ne c2_26 (n := 26) (by decide); have z27 := pv_ne c2_27 (n := 27) (by decide); have z28 := pv_ne c2_28 (n := 28) (by decide); have z29 := pv_ne c2_29 (n := 29) (by decide); have z30 := pv_ne c2_30 (n := 30) (by decide); have z31 := pv_ne c2_31 (n := 31) (by decide); have z32 := pv_ne c2_32 (n := 32) (by decide); have z33 := pv_ne c2_33 (n := 33) (by decide); have z34 := pv_ne c2_34 (n := 34) (by decide); have z35 := pv_ne c2_35 (n := 35) (by decide); have z36 := pv_ne c2_36 (n := 36) (by decide); have z37 := pv_ne c2_37 (n := 37) (by decide); omega) (by decide) ?_
                                                                                have F := F.2.2.2.2.2.2.2.2.2.2.2.2.2.2.2.2.2.2.2.2.2.2.2.2.2.2.2.2.2.2.2.2.2.2.2.2.2.2 c2_0 c2_1 c2_2 c2_3 c2_4 c2_5 c2_6 c2_7 c2_8 c2_9 c2_10 c2_11 c2_12 c2_13 c2_14 c2_15 c2_16 c2_17 c2_18 c2_19 c2_20 c2_21 c2_22 c2_23 c2_24 c2_25 c2_26 c2_27 c2_28 c2_29 c2_30 c2_31 c2_32 c2_33 c2_34 c2_35 c2_36 c2_37
                                                                                refine pv_iinc (v := x + 6) (ls' := [some (.ref 1), some (.ref 100), some (.ref 200), some (.int (x + 6))]) dL_law_1534 rfl (by rfl) rfl rfl ?_
                                                                                refine pv_goto (tgt := 18) dL_law_1537 (by decide) ?_
                                                                                exact F
set_option maxRecDepth 20000 in
set_option maxHeartbeats 4000000 in
theorem sg_L_law_200 {Γ : pv_C} {d kc ks : Nat} {ty : pv_T} {h : pv_H} {r : pv_R} {g : pv_G} {Q : pv_Q} (x3 : Int32) (hd : 1 ≤ d) (hL : pv_Lay ty r) (F : pv_inb ty 1 20 (x3 + 1) ∧ pv_inb ty 1 20 (x3 + 2) ∧ pv_inb ty 1 20 (x3 + 3) ∧ 4 ≤ kc ∧ 328 ≤ ks ∧ pv_CT Γ (d - 1) 4 328 mX11_street [.ref 100, .int (pv_xs Γ (Int32.toNatClampNeg (x3 + 1))), .int (pv_xs Γ (Int32.toNatClampNeg (x3 + 2))), .int (pv_xs Γ (Int32.toNatClampNeg (x3 + 3)))] ty h r g (fun (v1 : Option Value) (ty1 : pv_T) (h1 : pv_H) (r1 : pv_R) (g1 : pv_G) => ∃ w1 : Int32, v1 = some (.int w1) ∧ pv_Lay ty1 r1 ∧ pv_inb ty1 1 20 (x3 + 1) ∧ pv_inb ty1 1 20 (x3 + 2) ∧ pv_inb ty1 1 20 (x3 + 3) ∧ pv_CT Γ (d - 1) 0 0 mX12_street [.ref 200, .int (pv_xs Γ (Int32.toNatClampNeg (x3 + 1))), .int (pv_xs Γ (Int32.toNatClampNeg (x3 + 2))), .int (pv_xs Γ (Int32.toNatClampNeg (x3 + 3)))] ty1 h1 r1 g1 (fun (v2 : Option Value) (ty2 : pv_T) (h2 : pv_H) (r2 : pv_R) (g2 : pv_G) => ∃ w2 : Int32, v2 = some (.int w2) ∧ pv_Lay ty2 r2 ∧ ((w1 = w2 → pv_E Γ d (kc - 4) (ks - 328) mL_law 18 [some (.ref 1), some (.ref 100), some (.ref 200), some (.int (x3 + 6))] [] ty2 h2 r2 g2 Q) ∧ (¬ w1 = w2 → Q (some (.int 0)) ty2 h2 r2 g2))))) : pv_E Γ d kc ks mL_law 200 [some (.ref 1), some (.ref 100), some (.ref 200), some (.int x3)] [] ty h r g Q := by
  refine pv_aload_n dL_law_200 rfl ?_
  refine pv_aload_n dL_law_201 rfl ?_
  refine pv_iload_n dL_law_202 rfl ?_
  refine pv_iconst (v := 1) (by decide) dL_law_203 ?_
  refine pv_iadd dL_law_204 ?_
  obtain ⟨q1, F⟩ := F
  obtain ⟨q1n, q1t, q1i⟩ := q1
  refine pv_sld dL_law_205 q1t q1i ?_
  refine pv_aload_n dL_law_206 rfl ?_
  refine pv_iload_n dL_law_207 rfl ?_
  refine pv_iconst (v := 2) (by decide) dL_law_208 ?_
  refine pv_iadd dL_law_209 ?_
  obtain ⟨q2, F⟩ := F
  obtain ⟨q2n, q2t, q2i⟩ := q2
  refine pv_sld dL_law_210 q2t q2i ?_
  refine pv_aload_n dL_law_211 rfl ?_
  refine pv_iload_n dL_law_212 rfl ?_
  refine pv_iconst (v := 3) (by decide) dL_law_213 ?_
  refine pv_iadd dL_law_214 ?_
  obtain ⟨q3, F⟩ := F
  obtain ⟨q3n, q3t, q3i⟩ := q3
  refine pv_sld dL_law_215 q3t q3i ?_
  obtain ⟨q4a, q4b, F⟩ := F
  refine pv_invV (As := [.int (pv_xs Γ (Int32.toNatClampNeg (x3 + 1))), .int (pv_xs Γ (Int32.toNatClampNeg (x3 + 2))), .int (pv_xs Γ (Int32.toNatClampNeg (x3 + 3)))]) (d' := d - 1) dL_law_216 moX11_street ml_L_13 (lt_100 hL) (Or.inl ⟨_, rfl, rfl⟩) (Nat.le_of_ble_eq_true rfl) (by omega) q4a q4b F (fun v1 ty1 h1 r1 g1 F => ?_) rfl
  obtain ⟨w1, rfl, F⟩ := F
  obtain ⟨hL1, F⟩ := F
  refine pv_pc (pc' := 219) rfl ?_
  show pv_E Γ d (kc - 4) (ks - 328) mL_law 219 [some (.ref 1), some (.ref 100), some (.ref 200), some (.int x3)] [.int w1] ty1 h1 r1 g1 Q
  refine pv_aload_n dL_law_219 rfl ?_
  refine pv_aload_n dL_law_220 rfl ?_
  refine pv_iload_n dL_law_221 rfl ?_
  refine pv_iconst (v := 1) (by decide) dL_law_222 ?_
  refine pv_iadd dL_law_223 ?_
  obtain ⟨q5, F⟩ := F
  obtain ⟨q5n, q5t, q5i⟩ := q5
  refine pv_sld dL_law_224 q5t q5i ?_
  refine pv_aload_n dL_law_225 rfl ?_
  refine pv_iload_n dL_law_226 rfl ?_
  refine pv_iconst (v := 2) (by decide) dL_law_227 ?_
  refine pv_iadd dL_law_228 ?_
  obtain ⟨q6, F⟩ := F
  obtain ⟨q6n, q6t, q6i⟩ := q6
  refine pv_sld dL_law_229 q6t q6i ?_
  refine pv_aload_n dL_law_230 rfl ?_
  refine pv_iload_n dL_law_231 rfl ?_
  refine pv_iconst (v := 3) (by decide) dL_law_232 ?_
  refine pv_iadd dL_law_233 ?_
  obtain ⟨q7, F⟩ := F
  obtain ⟨q7n, q7t, q7i⟩ := q7
  refine pv_sld dL_law_234 q7t q7i ?_
  refine pv_invV (As := [.int (pv_xs Γ (Int32.toNatClampNeg (x3 + 1))), .int (pv_xs Γ (Int32.toNatClampNeg (x3 + 2))), .int (pv_xs Γ (Int32.toNatClampNeg (x3 + 3)))]) (d' := d - 1) dL_law_235 moX12_street ml_L_17 (lt_200 hL1) (Or.inl ⟨_, rfl, rfl⟩) (Nat.le_of_ble_eq_true rfl) (by omega) (Nat.zero_le _) (Nat.zero_le _) F (fun v2 ty2 h2 r2 g2 F => ?_) rfl
  obtain ⟨w2, rfl, F⟩ := F
  obtain ⟨hL2, F⟩ := F
  refine pv_pc (pc' := 238) rfl ?_
  show pv_E Γ d (kc - 4) (ks - 328) mL_law 238 [some (.ref 1), some (.ref 100), some (.ref 200), some (.int x3)] [.int w2, .int w1] ty2 h2 r2 g2 Q
  refine pv_icmp_eq (tgt := 1534) dL_law_238 (by decide) (fun c1 => ?_) (fun c1 => ?_)
  · have F := F.1 c1
    refine pv_iinc (v := x3 + 6) (ls' := [some (.ref 1), some (.ref 100), some (.ref 200), some (.int (x3 + 6))]) dL_law_1534 rfl (by rfl) rfl rfl ?_
    refine pv_goto (tgt := 18) dL_law_1537 (by decide) ?_
    exact F
  · have F := F.2 c1
    refine pv_iconst (v := 0) (by decide) dL_law_241 ?_
    exact pv_ireturn dL_law_242 rfl (by decide) F
set_option maxRecDepth 20000 in
set_option maxHeartbeats 4000000 in
theorem sg_L_law_243 {Γ : pv_C} {d kc ks : Nat} {ty : pv_T} {h : pv_H} {r : pv_R} {g : pv_G} {Q : pv_Q} (x3 : Int32) (hd : 1 ≤ d) (hL : pv_Lay ty r) (F : pv_inb ty 1 20 (x3 + 1) ∧ pv_inb ty 1 20 (x3 + 2) ∧ pv_inb ty 1 20 (x3 + 3) ∧ pv_inb ty 1 20 (x3 + 4) ∧ pv_CT Γ (d - 1) 0 0 mX11_height [.ref 100, .int (pv_xs Γ (Int32.toNatClampNeg (x3 + 1))), .int (pv_xs Γ (Int32.toNatClampNeg (x3 + 2))), .int (pv_xs Γ (Int32.toNatClampNeg (x3 + 3))), .int (pv_xs Γ (Int32.toNatClampNeg (x3 + 4)))] ty h r g (fun (v1 : Option Value) (ty1 : pv_T) (h1 : pv_H) (r1 : pv_R) (g1 : pv_G) => ∃ w1 : Int32, v1 = some (.int w1) ∧ pv_Lay ty1 r1 ∧ pv_inb ty1 1 20 (x3 + 1) ∧ pv_inb ty1 1 20 (x3 + 2) ∧ pv_inb ty1 1 20 (x3 + 3) ∧ pv_inb ty1 1 20 (x3 + 4) ∧ pv_CT Γ (d - 1) 0 0 mX12_height [.ref 200, .int (pv_xs Γ (Int32.toNatClampNeg (x3 + 1))), .int (pv_xs Γ (Int32.toNatClampNeg (x3 + 2))), .int (pv_xs Γ (Int32.toNatClampNeg (x3 + 3))), .int (pv_xs Γ (Int32.toNatClampNeg (x3 + 4)))] ty1 h1 r1 g1 (fun (v2 : Option Value) (ty2 : pv_T) (h2 : pv_H) (r2 : pv_R) (g2 : pv_G) => ∃ w2 : Int32, v2 = some (.int w2) ∧ pv_Lay ty2 r2 ∧ ((w1 = w2 → pv_E Γ d kc ks mL_law 18 [some (.ref 1), some (.ref 100), some (.ref 200), some (.int (x3 + 6))] [] ty2 h2 r2 g2 Q) ∧ (¬ w1 = w2 → Q (some (.int 0)) ty2 h2 r2 g2))))) : pv_E Γ d kc ks mL_law 243 [some (.ref 1), some (.ref 100), some (.ref 200), some (.int x3)] [] ty h r g Q := by
  refine pv_aload_n dL_law_243 rfl ?_
  refine pv_aload_n dL_law_244 rfl ?_
  refine pv_iload_n dL_law_245 rfl ?_
  refine pv_iconst (v := 1) (by decide) dL_law_246 ?_
  refine pv_iadd dL_law_247 ?_
  obtain ⟨q1, F⟩ := F
  obtain ⟨q1n, q1t, q1i⟩ := q1
  refine pv_sld dL_law_248 q1t q1i ?_
  refine pv_aload_n dL_law_249 rfl ?_
  refine pv_iload_n dL_law_250 rfl ?_
  refine pv_iconst (v := 2) (by decide) dL_law_251 ?_
  refine pv_iadd dL_law_252 ?_
  obtain ⟨q2, F⟩ := F
  obtain ⟨q2n, q2t, q2i⟩ := q2
  refine pv_sld dL_law_253 q2t q2i ?_
  refine pv_aload_n dL_law_254 rfl ?_
  refine pv_iload_n dL_law_255 rfl ?_
  refine pv_iconst (v := 3) (by decide) dL_law_256 ?_
  refine pv_iadd dL_law_257 ?_
  obtain ⟨q3, F⟩ := F
  obtain ⟨q3n, q3t, q3i⟩ := q3
  refine pv_sld dL_law_258 q3t q3i ?_
  refine pv_aload_n dL_law_259 rfl ?_
  refine pv_iload_n dL_law_260 rfl ?_
  refine pv_iconst (v := 4) (by decide) dL_law_261 ?_
  refine pv_iadd dL_law_262 ?_
  obtain ⟨q4, F⟩ := F
  obtain ⟨q4n, q4t, q4i⟩ := q4
  refine pv_sld dL_law_263 q4t q4i ?_
  refine pv_invV (As := [.int (pv_xs Γ (Int32.toNatClampNeg (x3 + 1))), .int (pv_xs Γ (Int32.toNatClampNeg (x3 + 2))), .int (pv_xs Γ (Int32.toNatClampNeg (x3 + 3))), .int (pv_xs Γ (Int32.toNatClampNeg (x3 + 4)))]) (d' := d - 1) dL_law_264 moX11_height ml_L_18 (lt_100 hL) (Or.inl ⟨_, rfl, rfl⟩) (Nat.le_of_ble_eq_true rfl) (by omega) (Nat.zero_le _) (Nat.zero_le _) F (fun v1 ty1 h1 r1 g1 F => ?_) rfl
  obtain ⟨w1, rfl, F⟩ := F
  obtain ⟨hL1, F⟩ := F
  refine pv_pc (pc' := 267) rfl ?_
  show pv_E Γ d kc ks mL_law 267 [some (.ref 1), some (.ref 100), some (.ref 200), some (.int x3)] [.int w1] ty1 h1 r1 g1 Q
  refine pv_aload_n dL_law_267 rfl ?_
  refine pv_aload_n dL_law_268 rfl ?_
  refine pv_iload_n dL_law_269 rfl ?_
  refine pv_iconst (v := 1) (by decide) dL_law_270 ?_
  refine pv_iadd dL_law_271 ?_
  obtain ⟨q5, F⟩ := F
  obtain ⟨q5n, q5t, q5i⟩ := q5
  refine pv_sld dL_law_272 q5t q5i ?_
  refine pv_aload_n dL_law_273 rfl ?_
  refine pv_iload_n dL_law_274 rfl ?_
  refine pv_iconst (v := 2) (by decide) dL_law_275 ?_
  refine pv_iadd dL_law_276 ?_
  obtain ⟨q6, F⟩ := F
  obtain ⟨q6n, q6t, q6i⟩ := q6
  refine pv_sld dL_law_277 q6t q6i ?_
  refine pv_aload_n dL_law_278 rfl ?_
  refine pv_iload_n dL_law_279 rfl ?_
  refine pv_iconst (v := 3) (by decide) dL_law_280 ?_
  refine pv_iadd dL_law_281 ?_
  obtain ⟨q7, F⟩ := F
  obtain ⟨q7n, q7t, q7i⟩ := q7
  refine pv_sld dL_law_282 q7t q7i ?_
  refine pv_aload_n dL_law_283 rfl ?_
  refine pv_iload_n dL_law_284 rfl ?_
  refine pv_iconst (v := 4) (by decide) dL_law_285 ?_
  refine pv_iadd dL_law_286 ?_
  obtain ⟨q8, F⟩ := F
  obtain ⟨q8n, q8t, q8i⟩ := q8
  refine pv_sld dL_law_287 q8t q8i ?_
  refine pv_invV (As := [.int (pv_xs Γ (Int32.toNatClampNeg (x3 + 1))), .int (pv_xs Γ (Int32.toNatClampNeg (x3 + 2))), .int (pv_xs Γ (Int32.toNatClampNeg (x3 + 3))), .int (pv_xs Γ (Int32.toNatClampNeg (x3 + 4)))]) (d' := d - 1) dL_law_288 moX12_height ml_L_22 (lt_200 hL1) (Or.inl ⟨_, rfl, rfl⟩) (Nat.le_of_ble_eq_true rfl) (by omega) (Nat.zero_le _) (Nat.zero_le _) F (fun v2 ty2 h2 r2 g2 F => ?_) rfl
  obtain ⟨w2, rfl, F⟩ := F
  obtain ⟨hL2, F⟩ := F
  refine pv_pc (pc' := 291) rfl ?_
  show pv_E Γ d kc ks mL_law 291 [some (.ref 1), some (.ref 100), some (.ref 200), some (.int x3)] [.int w2, .int w1] ty2 h2 r2 g2 Q
  refine pv_icmp_eq (tgt := 1534) dL_law_291 (by decide) (fun c1 => ?_) (fun c1 => ?_)
  · have F := F.1 c1
    refine pv_iinc (v := x3 + 6) (ls' := [some (.ref 1), some (.ref 100), some (.ref 200), some (.int (x3 + 6))]) dL_law_1534 rfl (by rfl) rfl rfl ?_
    refine pv_goto (tgt := 18) dL_law_1537 (by decide) ?_
    exact F
  · have F := F.2 c1
    refine pv_iconst (v := 0) (by decide) dL_law_294 ?_
    exact pv_ireturn dL_law_295 rfl (by decide) F
set_option maxRecDepth 20000 in
set_option maxHeartbeats 4000000 in
theorem sg_L_law_296 {Γ : pv_C} {d kc ks : Nat} {ty : pv_T} {h : pv_H} {r : pv_R} {g : pv_G} {Q : pv_Q} (x3 : Int32) (hd : 1 ≤ d) (hL : pv_Lay ty r) (F : pv_inb ty 1 20 (x3 + 1) ∧ pv_inb ty 1 20 (x3 + 2) ∧ pv_inb ty 1 20 (x3 + 3) ∧ pv_CT Γ (d - 1) 0 0 mX11_read [.ref 100, .int (pv_xs Γ (Int32.toNatClampNeg (x3 + 1))), .int (pv_xs Γ (Int32.toNatClampNeg (x3 + 2))), .int (pv_xs Γ (Int32.toNatClampNeg (x3 + 3)))] ty h r g (fun (v1 : Option Value) (ty1 : pv_T) (h1 : pv_H) (r1 : pv_R) (g1 : pv_G) => ∃ w1 : Int32, v1 = some (.int w1) ∧ pv_Lay ty1 r1 ∧ pv_inb ty1 1 20 (x3 + 1) ∧ pv_inb ty1 1 20 (x3 + 2) ∧ pv_inb ty1 1 20 (x3 + 3) ∧ pv_CT Γ (d - 1) 0 0 mX12_read [.ref 200, .int (pv_xs Γ (Int32.toNatClampNeg (x3 + 1))), .int (pv_xs Γ (Int32.toNatClampNeg (x3 + 2))), .int (pv_xs Γ (Int32.toNatClampNeg (x3 + 3)))] ty1 h1 r1 g1 (fun (v2 : Option Value) (ty2 : pv_T) (h2 : pv_H) (r2 : pv_R) (g2 : pv_G) => ∃ w2 : Int32, v2 = some (.int w2) ∧ pv_Lay ty2 r2 ∧ ((w1 = w2 → pv_E Γ d kc ks mL_law 18 [some (.ref 1), some (.ref 100), some (.ref 200), some (.int (x3 + 6))] [] ty2 h2 r2 g2 Q) ∧ (¬ w1 = w2 → Q (some (.int 0)) ty2 h2 r2 g2))))) : pv_E Γ d kc ks mL_law 296 [some (.ref 1), some (.ref 100), some (.ref 200), some (.int x3)] [] ty h r g Q := by
  refine pv_aload_n dL_law_296 rfl ?_
  refine pv_aload_n dL_law_297 rfl ?_
  refine pv_iload_n dL_law_298 rfl ?_
  refine pv_iconst (v := 1) (by decide) dL_law_299 ?_
  refine pv_iadd dL_law_300 ?_
  obtain ⟨q1, F⟩ := F
  obtain ⟨q1n, q1t, q1i⟩ := q1
  refine pv_sld dL_law_301 q1t q1i ?_
  refine pv_aload_n dL_law_302 rfl ?_
  refine pv_iload_n dL_law_303 rfl ?_
  refine pv_iconst (v := 2) (by decide) dL_law_304 ?_
  refine pv_iadd dL_law_305 ?_
  obtain ⟨q2, F⟩ := F
  obtain ⟨q2n, q2t, q2i⟩ := q2
  refine pv_sld dL_law_306 q2t q2i ?_
  refine pv_aload_n dL_law_307 rfl ?_
  refine pv_iload_n dL_law_308 rfl ?_
  refine pv_iconst (v := 3) (by decide) dL_law_309 ?_
  refine pv_iadd dL_law_310 ?_
  obtain ⟨q3, F⟩ := F
  obtain ⟨q3n, q3t, q3i⟩ := q3
  refine pv_sld dL_law_311 q3t q3i ?_
  refine pv_invV (As := [.int (pv_xs Γ (Int32.toNatClampNeg (x3 + 1))), .int (pv_xs Γ (Int32.toNatClampNeg (x3 + 2))), .int (pv_xs Γ (Int32.toNatClampNeg (x3 + 3)))]) (d' := d - 1) dL_law_312 moX11_read ml_L_23 (lt_100 hL) (Or.inl ⟨_, rfl, rfl⟩) (Nat.le_of_ble_eq_true rfl) (by omega) (Nat.zero_le _) (Nat.zero_le _) F (fun v1 ty1 h1 r1 g1 F => ?_) rfl
  obtain ⟨w1, rfl, F⟩ := F
  obtain ⟨hL1, F⟩ := F
  refine pv_pc (pc' := 315) rfl ?_
  show pv_E Γ d kc ks mL_law 315 [some (.ref 1), some (.ref 100), some (.ref 200), some (.int x3)] [.int w1] ty1 h1 r1 g1 Q
  refine pv_aload_n dL_law_315 rfl ?_
  refine pv_aload_n dL_law_316 rfl ?_
  refine pv_iload_n dL_law_317 rfl ?_
  refine pv_iconst (v := 1) (by decide) dL_law_318 ?_
  refine pv_iadd dL_law_319 ?_
  obtain ⟨q4, F⟩ := F
  obtain ⟨q4n, q4t, q4i⟩ := q4
  refine pv_sld dL_law_320 q4t q4i ?_
  refine pv_aload_n dL_law_321 rfl ?_
  refine pv_iload_n dL_law_322 rfl ?_
  refine pv_iconst (v := 2) (by decide) dL_law_323 ?_
  refine pv_iadd dL_law_324 ?_
  obtain ⟨q5, F⟩ := F
  obtain ⟨q5n, q5t, q5i⟩ := q5
  refine pv_sld dL_law_325 q5t q5i ?_
  refine pv_aload_n dL_law_326 rfl ?_
  refine pv_iload_n dL_law_327 rfl ?_
  refine pv_iconst (v := 3) (by decide) dL_law_328 ?_
  refine pv_iadd dL_law_329 ?_
  obtain ⟨q6, F⟩ := F
  obtain ⟨q6n, q6t, q6i⟩ := q6
  refine pv_sld dL_law_330 q6t q6i ?_
  refine pv_invV (As := [.int (pv_xs Γ (Int32.toNatClampNeg (x3 + 1))), .int (pv_xs Γ (Int32.toNatClampNeg (x3 + 2))), .int (pv_xs Γ (Int32.toNatClampNeg (x3 + 3)))]) (d' := d - 1) dL_law_331 moX12_read ml_L_26 (lt_200 hL1) (Or.inl ⟨_, rfl, rfl⟩) (Nat.le_of_ble_eq_true rfl) (by omega) (Nat.zero_le _) (Nat.zero_le _) F (fun v2 ty2 h2 r2 g2 F => ?_) rfl
  obtain ⟨w2, rfl, F⟩ := F
  obtain ⟨hL2, F⟩ := F
  refine pv_pc (pc' := 334) rfl ?_
  show pv_E Γ d kc ks mL_law 334 [some (.ref 1), some (.ref 100), some (.ref 200), some (.int x3)] [.int w2, .int w1] ty2 h2 r2 g2 Q
  refine pv_icmp_eq (tgt := 1534) dL_law_334 (by decide) (fun c1 => ?_) (fun c1 => ?_)
  · have F := F.1 c1
    refine pv_iinc (v := x3 + 6) (ls' := [some (.ref 1), some (.ref 100), some (.ref 200), some (.int (x3 + 6))]) dL_law_1534 rfl (by rfl) rfl rfl ?_
    refine pv_goto (tgt := 18) dL_law_1537 (by decide) ?_
    exact F
  · have F := F.2 c1
    refine pv_iconst (v := 0) (by decide) dL_law_337 ?_
    exact pv_ireturn dL_law_338 rfl (by decide) F
set_option maxRecDepth 20000 in
set_option maxHeartbeats 4000000 in
theorem sg_L_law_339 {Γ : pv_C} {d kc ks : Nat} {ty : pv_T} {h : pv_H} {r : pv_R} {g : pv_G} {Q : pv_Q} (x3 : Int32) (hd : 1 ≤ d) (hL : pv_Lay ty r) (F : pv_inb ty 1 20 (x3 + 1) ∧ pv_inb ty 1 20 (x3 + 2) ∧ pv_inb ty 1 20 (x3 + 3) ∧ pv_inb ty 1 20 (x3 + 4) ∧ pv_CT Γ (d - 1) 0 0 mX11_drain [.ref 100, .int (pv_xs Γ (Int32.toNatClampNeg (x3 + 1))), .int (pv_xs Γ (Int32.toNatClampNeg (x3 + 2))), .int (pv_xs Γ (Int32.toNatClampNeg (x3 + 3))), .int (pv_xs Γ (Int32.toNatClampNeg (x3 + 4)))] ty h r g (fun (v1 : Option Value) (ty1 : pv_T) (h1 : pv_H) (r1 : pv_R) (g1 : pv_G) => ∃ w1 : Int32, v1 = some (.int w1) ∧ pv_Lay ty1 r1 ∧ pv_inb ty1 1 20 (x3 + 1) ∧ pv_inb ty1 1 20 (x3 + 2) ∧ pv_inb ty1 1 20 (x3 + 3) ∧ pv_inb ty1 1 20 (x3 + 4) ∧ pv_CT Γ (d - 1) 0 0 mX12_drain [.ref 200, .int (pv_xs Γ (Int32.toNatClampNeg (x3 + 1))), .int (pv_xs Γ (Int32.toNatClampNeg (x3 + 2))), .int (pv_xs Γ (Int32.toNatClampNeg (x3 + 3))), .int (pv_xs Γ (Int32.toNatClampNeg (x3 + 4)))] ty1 h1 r1 g1 (fun (v2 : Option Value) (ty2 : pv_T) (h2 : pv_H) (r2 : pv_R) (g2 : pv_G) => ∃ w2 : Int32, v2 = some (.int w2) ∧ pv_Lay ty2 r2 ∧ ((w1 = w2 → pv_E Γ d kc ks mL_law 18 [some (.ref 1), some (.ref 100), some (.ref 200), some (.int (x3 + 6))] [] ty2 h2 r2 g2 Q) ∧ (¬ w1 = w2 → Q (some (.int 0)) ty2 h2 r2 g2))))) : pv_E Γ d kc ks mL_law 339 [some (.ref 1), some (.ref 100), some (.ref 200), some (.int x3)] [] ty h r g Q := by
  refine pv_aload_n dL_law_339 rfl ?_
  refine pv_aload_n dL_law_340 rfl ?_
  refine pv_iload_n dL_law_341 rfl ?_
  refine pv_iconst (v := 1) (by decide) dL_law_342 ?_
  refine pv_iadd dL_law_343 ?_
  obtain ⟨q1, F⟩ := F
  obtain ⟨q1n, q1t, q1i⟩ := q1
  refine pv_sld dL_law_344 q1t q1i ?_
  refine pv_aload_n dL_law_345 rfl ?_
  refine pv_iload_n dL_law_346 rfl ?_
  refine pv_iconst (v := 2) (by decide) dL_law_347 ?_
  refine pv_iadd dL_law_348 ?_
  obtain ⟨q2, F⟩ := F
  obtain ⟨q2n, q2t, q2i⟩ := q2
  refine pv_sld dL_law_349 q2t q2i ?_
  refine pv_aload_n dL_law_350 rfl ?_
  refine pv_iload_n dL_law_351 rfl ?_
  refine pv_iconst (v := 3) (by decide) dL_law_352 ?_
  refine pv_iadd dL_law_353 ?_
  obtain ⟨q3, F⟩ := F
  obtain ⟨q3n, q3t, q3i⟩ := q3
  refine pv_sld dL_law_354 q3t q3i ?_
  refine pv_aload_n dL_law_355 rfl ?_
  refine pv_iload_n dL_law_356 rfl ?_
  refine pv_iconst (v := 4) (by decide) dL_law_357 ?_
  refine pv_iadd dL_law_358 ?_
  obtain ⟨q4, F⟩ := F
  obtain ⟨q4n, q4t, q4i⟩ := q4
  refine pv_sld dL_law_359 q4t q4i ?_
  refine pv_invV (As := [.int (pv_xs Γ (Int32.toNatClampNeg (x3 + 1))), .int (pv_xs Γ (Int32.toNatClampNeg (x3 + 2))), .int (pv_xs Γ (Int32.toNatClampNeg (x3 + 3))), .int (pv_xs Γ (Int32.toNatClampNeg (x3 + 4)))]) (d' := d - 1) dL_law_360 moX11_drain ml_L_27 (lt_100 hL) (Or.inl ⟨_, rfl, rfl⟩) (Nat.le_of_ble_eq_true rfl) (by omega) (Nat.zero_le _) (Nat.zero_le _) F (fun v1 ty1 h1 r1 g1 F => ?_) rfl
  obtain ⟨w1, rfl, F⟩ := F
  obtain ⟨hL1, F⟩ := F
  refine pv_pc (pc' := 363) rfl ?_
  show pv_E Γ d kc ks mL_law 363 [some (.ref 1), some (.ref 100), some (.ref 200), some (.int x3)] [.int w1] ty1 h1 r1 g1 Q
  refine pv_aload_n dL_law_363 rfl ?_
  refine pv_aload_n dL_law_364 rfl ?_
  refine pv_iload_n dL_law_365 rfl ?_
  refine pv_iconst (v := 1) (by decide) dL_law_366 ?_
  refine pv_iadd dL_law_367 ?_
  obtain ⟨q5, F⟩ := F
  obtain ⟨q5n, q5t, q5i⟩ := q5
  refine pv_sld dL_law_368 q5t q5i ?_
  refine pv_aload_n dL_law_369 rfl ?_
  refine pv_iload_n dL_law_370 rfl ?_
  refine pv_iconst (v := 2) (by decide) dL_law_371 ?_
  refine pv_iadd dL_law_372 ?_
  obtain ⟨q6, F⟩ := F
  obtain ⟨q6n, q6t, q6i⟩ := q6
  refine pv_sld dL_law_373 q6t q6i ?_
  refine pv_aload_n dL_law_374 rfl ?_
  refine pv_iload_n dL_law_375 rfl ?_
  refine pv_iconst (v := 3) (by decide) dL_law_376 ?_
  refine pv_iadd dL_law_377 ?_
  obtain ⟨q7, F⟩ := F
  obtain ⟨q7n, q7t, q7i⟩ := q7
  refine pv_sld dL_law_378 q7t q7i ?_
  refine pv_aload_n dL_law_379 rfl ?_
  refine pv_iload_n dL_law_380 rfl ?_
  refine pv_iconst (v := 4) (by decide) dL_law_381 ?_
  refine pv_iadd dL_law_382 ?_
  obtain ⟨q8, F⟩ := F
  obtain ⟨q8n, q8t, q8i⟩ := q8
  refine pv_sld dL_law_383 q8t q8i ?_
  refine pv_invV (As := [.int (pv_xs Γ (Int32.toNatClampNeg (x3 + 1))), .int (pv_xs Γ (Int32.toNatClampNeg (x3 + 2))), .int (pv_xs Γ (Int32.toNatClampNeg (x3 + 3))), .int (pv_xs Γ (Int32.toNatClampNeg (x3 + 4)))]) (d' := d - 1) dL_law_384 moX12_drain ml_L_30 (lt_200 hL1) (Or.inl ⟨_, rfl, rfl⟩) (Nat.le_of_ble_eq_true rfl) (by omega) (Nat.zero_le _) (Nat.zero_le _) F (fun v2 ty2 h2 r2 g2 F => ?_) rfl
  obtain ⟨w2, rfl, F⟩ := F
  obtain ⟨hL2, F⟩ := F
  refine pv_pc (pc' := 387) rfl ?_
  show pv_E Γ d kc ks mL_law 387 [some (.ref 1), some (.ref 100), some (.ref 200), some (.int x3)] [.int w2, .int w1] ty2 h2 r2 g2 Q
  refine pv_icmp_eq (tgt := 1534) dL_law_387 (by decide) (fun c1 => ?_) (fun c1 => ?_)
  · have F := F.1 c1
    refine pv_iinc (v := x3 + 6) (ls' := [some (.ref 1), some (.ref 100), some (.ref 200), some (.int (x3 + 6))]) dL_law_1534 rfl (by rfl) rfl rfl ?_
    refine pv_goto (tgt := 18) dL_law_1537 (by decide) ?_
    exact F
  · have F := F.2 c1
    refine pv_iconst (v := 0) (by decide) dL_law_390 ?_
    exact pv_ireturn dL_law_391 rfl (by decide) F
set_option maxRecDepth 20000 in
set_option maxHeartbeats 4000000 in
theorem sg_L_law_392 {Γ : pv_C} {d kc ks : Nat} {ty : pv_T} {h : pv_H} {r : pv_R} {g : pv_G} {Q : pv_Q} (x3 : Int32) (hd : 1 ≤ d) (hL : pv_Lay ty r) (F : pv_inb ty 1 20 (x3 + 1) ∧ pv_inb ty 1 20 (x3 + 2) ∧ pv_inb ty 1 20 (x3 + 3) ∧ pv_CT Γ (d - 1) 0 0 mX11_water [.ref 100, .int (pv_xs Γ (Int32.toNatClampNeg (x3 + 1))), .int (pv_xs Γ (Int32.toNatClampNeg (x3 + 2))), .int (pv_xs Γ (Int32.toNatClampNeg (x3 + 3)))] ty h r g (fun (v1 : Option Value) (ty1 : pv_T) (h1 : pv_H) (r1 : pv_R) (g1 : pv_G) => ∃ w1 : Int32, v1 = some (.int w1) ∧ pv_Lay ty1 r1 ∧ pv_inb ty1 1 20 (x3 + 1) ∧ pv_inb ty1 1 20 (x3 + 2) ∧ pv_inb ty1 1 20 (x3 + 3) ∧ pv_CT Γ (d - 1) 0 0 mX12_water [.ref 200, .int (pv_xs Γ (Int32.toNatClampNeg (x3 + 1))), .int (pv_xs Γ (Int32.toNatClampNeg (x3 + 2))), .int (pv_xs Γ (Int32.toNatClampNeg (x3 + 3)))] ty1 h1 r1 g1 (fun (v2 : Option Value) (ty2 : pv_T) (h2 : pv_H) (r2 : pv_R) (g2 : pv_G) => ∃ w2 : Int32, v2 = some (.int w2) ∧ pv_Lay ty2 r2 ∧ ((w1 = w2 → pv_E Γ d kc ks mL_law 18 [some (.ref 1), some (.ref 100), some (.ref 200), some (.int (x3 + 6))] [] ty2 h2 r2 g2 Q) ∧ (¬ w1 = w2 → Q (some (.int 0)) ty2 h2 r2 g2))))) : pv_E Γ d kc ks mL_law 392 [some (.ref 1), some (.ref 100), some (.ref 200), some (.int x3)] [] ty h r g Q := by
  refine pv_aload_n dL_law_392 rfl ?_
  refine pv_aload_n dL_law_393 rfl ?_
  refine pv_iload_n dL_law_394 rfl ?_
  refine pv_iconst (v := 1) (by decide) dL_law_395 ?_
  refine pv_iadd dL_law_396 ?_
  obtain ⟨q1, F⟩ := F
  obtain ⟨q1n, q1t, q1i⟩ := q1
  refine pv_sld dL_law_397 q1t q1i ?_
  refine pv_aload_n dL_law_398 rfl ?_
  refine pv_iload_n dL_law_399 rfl ?_
  refine pv_iconst (v := 2) (by decide) dL_law_400 ?_
  refine pv_iadd dL_law_401 ?_
  obtain ⟨q2, F⟩ := F
  obtain ⟨q2n, q2t, q2i⟩ := q2
  refine pv_sld dL_law_402 q2t q2i ?_
  refine pv_aload_n dL_law_403 rfl ?_
  refine pv_iload_n dL_law_404 rfl ?_
  refine pv_iconst (v := 3) (by decide) dL_law_405 ?_
  refine pv_iadd dL_law_406 ?_
  obtain ⟨q3, F⟩ := F
  obtain ⟨q3n, q3t, q3i⟩ := q3
  refine pv_sld dL_law_407 q3t q3i ?_
  refine pv_invV (As := [.int (pv_xs Γ (Int32.toNatClampNeg (x3 + 1))), .int (pv_xs Γ (Int32.toNatClampNeg (x3 + 2))), .int (pv_xs Γ (Int32.toNatClampNeg (x3 + 3)))]) (d' := d - 1) dL_law_408 moX11_water ml_L_31 (lt_100 hL) (Or.inl ⟨_, rfl, rfl⟩) (Nat.le_of_ble_eq_true rfl) (by omega) (Nat.zero_le _) (Nat.zero_le _) F (fun v1 ty1 h1 r1 g1 F => ?_) rfl
  obtain ⟨w1, rfl, F⟩ := F
  obtain ⟨hL1, F⟩ := F
  refine pv_pc (pc' := 411) rfl ?_
  show pv_E Γ d kc ks mL_law 411 [some (.ref 1), some (.ref 100), some (.ref 200), some (.int x3)] [.int w1] ty1 h1 r1 g1 Q
  refine pv_aload_n dL_law_411 rfl ?_
  refine pv_aload_n dL_law_412 rfl ?_
  refine pv_iload_n dL_law_413 rfl ?_
  refine pv_iconst (v := 1) (by decide) dL_law_414 ?_
  refine pv_iadd dL_law_415 ?_
  obtain ⟨q4, F⟩ := F
  obtain ⟨q4n, q4t, q4i⟩ := q4
  refine pv_sld dL_law_416 q4t q4i ?_
  refine pv_aload_n dL_law_417 rfl ?_
  refine pv_iload_n dL_law_418 rfl ?_
  refine pv_iconst (v := 2) (by decide) dL_law_419 ?_
  refine pv_iadd dL_law_420 ?_
  obtain ⟨q5, F⟩ := F
  obtain ⟨q5n, q5t, q5i⟩ := q5
  refine pv_sld dL_law_421 q5t q5i ?_
  refine pv_aload_n dL_law_422 rfl ?_
  refine pv_iload_n dL_law_423 rfl ?_
  refine pv_iconst (v := 3) (by decide) dL_law_424 ?_
  refine pv_iadd dL_law_425 ?_
  obtain ⟨q6, F⟩ := F
  obtain ⟨q6n, q6t, q6i⟩ := q6
  refine pv_sld dL_law_426 q6t q6i ?_
  refine pv_invV (As := [.int (pv_xs Γ (Int32.toNatClampNeg (x3 + 1))), .int (pv_xs Γ (Int32.toNatClampNeg (x3 + 2))), .int (pv_xs Γ (Int32.toNatClampNeg (x3 + 3)))]) (d' := d - 1) dL_law_427 moX12_water ml_L_34 (lt_200 hL1) (Or.inl ⟨_, rfl, rfl⟩) (Nat.le_of_ble_eq_true rfl) (by omega) (Nat.zero_le _) (Nat.zero_le _) F (fun v2 ty2 h2 r2 g2 F => ?_) rfl
  obtain ⟨w2, rfl, F⟩ := F
  obtain ⟨hL2, F⟩ := F
  refine pv_pc (pc' := 430) rfl ?_
  show pv_E Γ d kc ks mL_law 430 [some (.ref 1), some (.ref 100), some (.ref 200), some (.int x3)] [.int w2, .int w1] ty2 h2 r2 g2 Q
  refine pv_icmp_eq (tgt := 1534) dL_law_430 (by decide) (fun c1 => ?_) (fun c1 => ?_)
  · have F := F.1 c1
    refine pv_iinc (v := x3 + 6) (ls' := [some (.ref 1), some (.ref 100), some (.ref 200), some (.int (x3 + 6))]) dL_law_1534 rfl (by rfl) rfl rfl ?_
    refine pv_goto (tgt := 18) dL_law_1537 (by decide) ?_
    exact F
  · have F := F.2 c1
    refine pv_iconst (v := 0) (by decide) dL_law_433 ?_
    exact pv_ireturn dL_law_434 rfl (by decide) F
set_option maxRecDepth 20000 in
set_option maxHeartbeats 4000000 in
theorem sg_L_law_435 {Γ : pv_C} {d kc ks : Nat} {ty : pv_T} {h : pv_H} {r : pv_R} {g : pv_G} {Q : pv_Q} (x3 : Int32) (hd : 1 ≤ d) (hL : pv_Lay ty r) (F : pv_inb ty 1 20 (x3 + 1) ∧ pv_CT Γ (d - 1) 0 0 mX11_standing [.ref 100, .int (pv_xs Γ (Int32.toNatClampNeg (x3 + 1)))] ty h r g (fun (v1 : Option Value) (ty1 : pv_T) (h1 : pv_H) (r1 : pv_R) (g1 : pv_G) => ∃ w1 : Int32, v1 = some (.int w1) ∧ pv_Lay ty1 r1 ∧ pv_inb ty1 1 20 (x3 + 1) ∧ pv_CT Γ (d - 1) 0 0 mX12_standing [.ref 200, .int (pv_xs Γ (Int32.toNatClampNeg (x3 + 1)))] ty1 h1 r1 g1 (fun (v2 : Option Value) (ty2 : pv_T) (h2 : pv_H) (r2 : pv_R) (g2 : pv_G) => ∃ w2 : Int32, v2 = some (.int w2) ∧ pv_Lay ty2 r2 ∧ ((w1 = w2 → pv_E Γ d kc ks mL_law 18 [some (.ref 1), some (.ref 100), some (.ref 200), some (.int (x3 + 6))] [] ty2 h2 r2 g2 Q) ∧ (¬ w1 = w2 → Q (some (.int 0)) ty2 h2 r2 g2))))) : pv_E Γ d kc ks mL_law 435 [some (.ref 1), some (.ref 100), some (.ref 200), some (.int x3)] [] ty h r g Q := by
  refine pv_aload_n dL_law_435 rfl ?_
  refine pv_aload_n dL_law_436 rfl ?_
  refine pv_iload_n dL_law_437 rfl ?_
  refine pv_iconst (v := 1) (by decide) dL_law_438 ?_
  refine pv_iadd dL_law_439 ?_
  obtain ⟨q1, F⟩ := F
  obtain ⟨q1n, q1t, q1i⟩ := q1
  refine pv_sld dL_law_440 q1t q1i ?_
  refine pv_invV (As := [.int (pv_xs Γ (Int32.toNatClampNeg (x3 + 1)))]) (d' := d - 1) dL_law_441 moX11_standing ml_L_35 (lt_100 hL) (Or.inl ⟨_, rfl, rfl⟩) (Nat.le_of_ble_eq_true rfl) (by omega) (Nat.zero_le _) (Nat.zero_le _) F (fun v1 ty1 h1 r1 g1 F => ?_) rfl
  obtain ⟨w1, rfl, F⟩ := F
  obtain ⟨hL1, F⟩ := F
  refine pv_pc (pc' := 444) rfl ?_
  show pv_E Γ d kc ks mL_law 444 [some (.ref 1), some (.ref 100), some (.ref 200), some (.int x3)] [.int w1] ty1 h1 r1 g1 Q
  refine pv_aload_n dL_law_444 rfl ?_
  refine pv_aload_n dL_law_445 rfl ?_
  refine pv_iload_n dL_law_446 rfl ?_
  refine pv_iconst (v := 1) (by decide) dL_law_447 ?_
  refine pv_iadd dL_law_448 ?_
  obtain ⟨q2, F⟩ := F
  obtain ⟨q2n, q2t, q2i⟩ := q2
  refine pv_sld dL_law_449 q2t q2i ?_
  refine pv_invV (As := [.int (pv_xs Γ (Int32.toNatClampNeg (x3 + 1)))]) (d' := d - 1) dL_law_450 moX12_standing ml_L_39 (lt_200 hL1) (Or.inl ⟨_, rfl, rfl⟩) (Nat.le_of_ble_eq_true rfl) (by omega) (Nat.zero_le _) (Nat.zero_le _) F (fun v2 ty2 h2 r2 g2 F => ?_) rfl
  obtain ⟨w2, rfl, F⟩ := F
  obtain ⟨hL2, F⟩ := F
  refine pv_pc (pc' := 453) rfl ?_
  show pv_E Γ d kc ks mL_law 453 [some (.ref 1), some (.ref 100), some (.ref 200), some (.int x3)] [.int w2, .int w1] ty2 h2 r2 g2 Q
  refine pv_icmp_eq (tgt := 1534) dL_law_453 (by decide) (fun c1 => ?_) (fun c1 => ?_)
  · have F := F.1 c1
    refine pv_iinc (v := x3 + 6) (ls' := [some (.ref 1), some (.ref 100), some (.ref 200), some (.int (x3 + 6))]) dL_law_1534 rfl (by rfl) rfl rfl ?_
    refine pv_goto (tgt := 18) dL_law_1537 (by decide) ?_
    exact F
  · have F := F.2 c1
    refine pv_iconst (v := 0) (by decide) dL_law_456 ?_
    exact pv_ireturn dL_law_457 rfl (by decide) F
set_option maxRecDepth 20000 in
set_option maxHeartbeats 4000000 in
theorem sg_L_law_458 {Γ : pv_C} {d kc ks : Nat} {ty : pv_T} {h : pv_H} {r : pv_R} {g : pv_G} {Q : pv_Q} (x3 : Int32) (hd : 1 ≤ d) (hL : pv_Lay ty r) (F : pv_inb ty 1 20 (x3 + 1) ∧ pv_CT Γ (d - 1) 0 0 mX11_most [.ref 100, .int (pv_xs Γ (Int32.toNatClampNeg (x3 + 1)))] ty h r g (fun (v1 : Option Value) (ty1 : pv_T) (h1 : pv_H) (r1 : pv_R) (g1 : pv_G) => ∃ w1 : Int32, v1 = some (.int w1) ∧ pv_Lay ty1 r1 ∧ pv_inb ty1 1 20 (x3 + 1) ∧ pv_CT Γ (d - 1) 0 0 mX12_most [.ref 200, .int (pv_xs Γ (Int32.toNatClampNeg (x3 + 1)))] ty1 h1 r1 g1 (fun (v2 : Option Value) (ty2 : pv_T) (h2 : pv_H) (r2 : pv_R) (g2 : pv_G) => ∃ w2 : Int32, v2 = some (.int w2) ∧ pv_Lay ty2 r2 ∧ ((w1 = w2 → pv_E Γ d kc ks mL_law 18 [some (.ref 1), some (.ref 100), some (.ref 200), some (.int (x3 + 6))] [] ty2 h2 r2 g2 Q) ∧ (¬ w1 = w2 → Q (some (.int 0)) ty2 h2 r2 g2))))) : pv_E Γ d kc ks mL_law 458 [some (.ref 1), some (.ref 100), some (.ref 200), some (.int x3)] [] ty h r g Q := by
  refine pv_aload_n dL_law_458 rfl ?_
  refine pv_aload_n dL_law_459 rfl ?_
  refine pv_iload_n dL_law_460 rfl ?_
  refine pv_iconst (v := 1) (by decide) dL_law_461 ?_
  refine pv_iadd dL_law_462 ?_
  obtain ⟨q1, F⟩ := F
  obtain ⟨q1n, q1t, q1i⟩ := q1
  refine pv_sld dL_law_463 q1t q1i ?_
  refine pv_invV (As := [.int (pv_xs Γ (Int32.toNatClampNeg (x3 + 1)))]) (d' := d - 1) dL_law_464 moX11_most ml_L_40 (lt_100 hL) (Or.inl ⟨_, rfl, rfl⟩) (Nat.le_of_ble_eq_true rfl) (by omega) (Nat.zero_le _) (Nat.zero_le _) F (fun v1 ty1 h1 r1 g1 F => ?_) rfl
  obtain ⟨w1, rfl, F⟩ := F
  obtain ⟨hL1, F⟩ := F
  refine pv_pc (pc' := 467) rfl ?_
  show pv_E Γ d kc ks mL_law 467 [some (.ref 1), some (.ref 100), some (.ref 200), some (.int x3)] [.int w1] ty1 h1 r1 g1 Q
  refine pv_aload_n dL_law_467 rfl ?_
  refine pv_aload_n dL_law_468 rfl ?_
  refine pv_iload_n dL_law_469 rfl ?_
  refine pv_iconst (v := 1) (by decide) dL_law_470 ?_
  refine pv_iadd dL_law_471 ?_
  obtain ⟨q2, F⟩ := F
  obtain ⟨q2n, q2t, q2i⟩ := q2
  refine pv_sld dL_law_472 q2t q2i ?_
  refine pv_invV (As := [.int (pv_xs Γ (Int32.toNatClampNeg (x3 + 1)))]) (d' := d - 1) dL_law_473 moX12_most ml_L_43 (lt_200 hL1) (Or.inl ⟨_, rfl, rfl⟩) (Nat.le_of_ble_eq_true rfl) (by omega) (Nat.zero_le _) (Nat.zero_le _) F (fun v2 ty2 h2 r2 g2 F => ?_) rfl
  obtain ⟨w2, rfl, F⟩ := F
  obtain ⟨hL2, F⟩ := F
  refine pv_pc (pc' := 476) rfl ?_
  show pv_E Γ d kc ks mL_law 476 [some (.ref 1), some (.ref 100), some (.ref 200), some (.int x3)] [.int w2, .int w1] ty2 h2 r2 g2 Q
  refine pv_icmp_eq (tgt := 1534) dL_law_476 (by decide) (fun c1 => ?_) (fun c1 => ?_)
  · have F := F.1 c1
    refine pv_iinc (v := x3 + 6) (ls' := [some (.ref 1), some (.ref 100), some (.ref 200), some (.int (x3 + 6))]) dL_law_1534 rfl (by rfl) rfl rfl ?_
    refine pv_goto (tgt := 18) dL_law_1537 (by decide) ?_
    exact F
  · have F := F.2 c1
    refine pv_iconst (v := 0) (by decide) dL_law_479 ?_
    exact pv_ireturn dL_law_480 rfl (by decide) F
set_option maxRecDepth 20000 in
set_option maxHeartbeats 4000000 in
theorem sg_L_law_481 {Γ : pv_C} {d kc ks : Nat} {ty : pv_T} {h : pv_H} {r : pv_R} {g : pv_G} {Q : pv_Q} (x3 : Int32) (hd : 1 ≤ d) (hL : pv_Lay ty r) (F : pv_inb ty 1 20 (x3 + 1) ∧ pv_inb ty 1 20 (x3 + 2) ∧ pv_inb ty 1 20 (x3 + 3) ∧ pv_inb ty 1 20 (x3 + 4) ∧ pv_CT Γ (d - 1) 0 0 mX11_level [.ref 100, .int (pv_xs Γ (Int32.toNatClampNeg (x3 + 1))), .int (pv_xs Γ (Int32.toNatClampNeg (x3 + 2))), .int (pv_xs Γ (Int32.toNatClampNeg (x3 + 3))), .int (pv_xs Γ (Int32.toNatClampNeg (x3 + 4)))] ty h r g (fun (v1 : Option Value) (ty1 : pv_T) (h1 : pv_H) (r1 : pv_R) (g1 : pv_G) => ∃ w1 : Int32, v1 = some (.int w1) ∧ pv_Lay ty1 r1 ∧ pv_inb ty1 1 20 (x3 + 1) ∧ pv_inb ty1 1 20 (x3 + 2) ∧ pv_inb ty1 1 20 (x3 + 3) ∧ pv_inb ty1 1 20 (x3 + 4) ∧ pv_CT Γ (d - 1) 0 0 mX12_level [.ref 200, .int (pv_xs Γ (Int32.toNatClampNeg (x3 + 1))), .int (pv_xs Γ (Int32.toNatClampNeg (x3 + 2))), .int (pv_xs Γ (Int32.toNatClampNeg (x3 + 3))), .int (pv_xs Γ (Int32.toNatClampNeg (x3 + 4)))] ty1 h1 r1 g1 (fun (v2 : Option Value) (ty2 : pv_T) (h2 : pv_H) (r2 : pv_R) (g2 : pv_G) => ∃ w2 : Int32, v2 = some (.int w2) ∧ pv_Lay ty2 r2 ∧ ((w1 = w2 → pv_E Γ d kc ks mL_law 18 [some (.ref 1), some (.ref 100), some (.ref 200), some (.int (x3 + 6))] [] ty2 h2 r2 g2 Q) ∧ (¬ w1 = w2 → Q (some (.int 0)) ty2 h2 r2 g2))))) : pv_E Γ d kc ks mL_law 481 [some (.ref 1), some (.ref 100), some (.ref 200), some (.int x3)] [] ty h r g Q := by
  refine pv_aload_n dL_law_481 rfl ?_
  refine pv_aload_n dL_law_482 rfl ?_
  refine pv_iload_n dL_law_483 rfl ?_
  refine pv_iconst (v := 1) (by decide) dL_law_484 ?_
  refine pv_iadd dL_law_485 ?_
  obtain ⟨q1, F⟩ := F
  obtain ⟨q1n, q1t, q1i⟩ := q1
  refine pv_sld dL_law_486 q1t q1i ?_
  refine pv_aload_n dL_law_487 rfl ?_
  refine pv_iload_n dL_law_488 rfl ?_
  refine pv_iconst (v := 2) (by decide) dL_law_489 ?_
  refine pv_iadd dL_law_490 ?_
  obtain ⟨q2, F⟩ := F
  obtain ⟨q2n, q2t, q2i⟩ := q2
  refine pv_sld dL_law_491 q2t q2i ?_
  refine pv_aload_n dL_law_492 rfl ?_
  refine pv_iload_n dL_law_493 rfl ?_
  refine pv_iconst (v := 3) (by decide) dL_law_494 ?_
  refine pv_iadd dL_law_495 ?_
  obtain ⟨q3, F⟩ := F
  obtain ⟨q3n, q3t, q3i⟩ := q3
  refine pv_sld dL_law_496 q3t q3i ?_
  refine pv_aload_n dL_law_497 rfl ?_
  refine pv_iload_n dL_law_498 rfl ?_
  refine pv_iconst (v := 4) (by decide) dL_law_499 ?_
  refine pv_iadd dL_law_500 ?_
  obtain ⟨q4, F⟩ := F
  obtain ⟨q4n, q4t, q4i⟩ := q4
  refine pv_sld dL_law_501 q4t q4i ?_
  refine pv_invV (As := [.int (pv_xs Γ (Int32.toNatClampNeg (x3 + 1))), .int (pv_xs Γ (Int32.toNatClampNeg (x3 + 2))), .int (pv_xs Γ (Int32.toNatClampNeg (x3 + 3))), .int (pv_xs Γ (Int32.toNatClampNeg (x3 + 4)))]) (d' := d - 1) dL_law_502 moX11_level ml_L_44 (lt_100 hL) (Or.inl ⟨_, rfl, rfl⟩) (Nat.le_of_ble_eq_true rfl) (by omega) (Nat.zero_le _) (Nat.zero_le _) F (fun v1 ty1 h1 r1 g1 F => ?_) rfl
  obtain ⟨w1, rfl, F⟩ := F
  obtain ⟨hL1, F⟩ := F
  refine pv_pc (pc' := 505) rfl ?_
  show pv_E Γ d kc ks mL_law 505 [some (.ref 1), some (.ref 100), some (.ref 200), some (.int x3)] [.int w1] ty1 h1 r1 g1 Q
  refine pv_aload_n dL_law_505 rfl ?_
  refine pv_aload_n dL_law_506 rfl ?_
  refine pv_iload_n dL_law_507 rfl ?_
  refine pv_iconst (v := 1) (by decide) dL_law_508 ?_
  refine pv_iadd dL_law_509 ?_
  obtain ⟨q5, F⟩ := F
  obtain ⟨q5n, q5t, q5i⟩ := q5
  refine pv_sld dL_law_510 q5t q5i ?_
  refine pv_aload_n dL_law_511 rfl ?_
  refine pv_iload_n dL_law_512 rfl ?_
  refine pv_iconst (v := 2) (by decide) dL_law_513 ?_
  refine pv_iadd dL_law_514 ?_
  obtain ⟨q6, F⟩ := F
  obtain ⟨q6n, q6t, q6i⟩ := q6
  refine pv_sld dL_law_515 q6t q6i ?_
  refine pv_aload_n dL_law_516 rfl ?_
  refine pv_iload_n dL_law_517 rfl ?_
  refine pv_iconst (v := 3) (by decide) dL_law_518 ?_
  refine pv_iadd dL_law_519 ?_
  obtain ⟨q7, F⟩ := F
  obtain ⟨q7n, q7t, q7i⟩ := q7
  refine pv_sld dL_law_520 q7t q7i ?_
  refine pv_aload_n dL_law_521 rfl ?_
  refine pv_iload_n dL_law_522 rfl ?_
  refine pv_iconst (v := 4) (by decide) dL_law_523 ?_
  refine pv_iadd dL_law_524 ?_
  obtain ⟨q8, F⟩ := F
  obtain ⟨q8n, q8t, q8i⟩ := q8
  refine pv_sld dL_law_525 q8t q8i ?_
  refine pv_invV (As := [.int (pv_xs Γ (Int32.toNatClampNeg (x3 + 1))), .int (pv_xs Γ (Int32.toNatClampNeg (x3 + 2))), .int (pv_xs Γ (Int32.toNatClampNeg (x3 + 3))), .int (pv_xs Γ (Int32.toNatClampNeg (x3 + 4)))]) (d' := d - 1) dL_law_526 moX12_level ml_L_47 (lt_200 hL1) (Or.inl ⟨_, rfl, rfl⟩) (Nat.le_of_ble_eq_true rfl) (by omega) (Nat.zero_le _) (Nat.zero_le _) F (fun v2 ty2 h2 r2 g2 F => ?_) rfl
  obtain ⟨w2, rfl, F⟩ := F
  obtain ⟨hL2, F⟩ := F
  refine pv_pc (pc' := 529) rfl ?_
  show pv_E Γ d kc ks mL_law 529 [some (.ref 1), some (.ref 100), some (.ref 200), some (.int x3)] [.int w2, .int w1] ty2 h2 r2 g2 Q
  refine pv_icmp_eq (tgt := 1534) dL_law_529 (by decide) (fun c1 => ?_) (fun c1 => ?_)
  · have F := F.1 c1
    refine pv_iinc (v := x3 + 6) (ls' := [some (.ref 1), some (.ref 100), some (.ref 200), some (.int (x3 + 6))]) dL_law_1534 rfl (by rfl) rfl rfl ?_
    refine pv_goto (tgt := 18) dL_law_1537 (by decide) ?_
    exact F
  · have F := F.2 c1
    refine pv_iconst (v := 0) (by decide) dL_law_532 ?_
    exact pv_ireturn dL_law_533 rfl (by decide) F
set_option maxRecDepth 20000 in
set_option maxHeartbeats 4000000 in
theorem sg_L_law_534 {Γ : pv_C} {d kc ks : Nat} {ty : pv_T} {h : pv_H} {r : pv_R} {g : pv_G} {Q : pv_Q} (x3 : Int32) (hd : 1 ≤ d) (hL : pv_Lay ty r) (F : pv_inb ty 1 20 (x3 + 1) ∧ pv_CT Γ (d - 1) 0 0 mX11_levelled [.ref 100, .int (pv_xs Γ (Int32.toNatClampNeg (x3 + 1)))] ty h r g (fun (v1 : Option Value) (ty1 : pv_T) (h1 : pv_H) (r1 : pv_R) (g1 : pv_G) => ∃ w1 : Int32, v1 = some (.int w1) ∧ pv_Lay ty1 r1 ∧ pv_inb ty1 1 20 (x3 + 1) ∧ pv_CT Γ (d - 1) 0 0 mX12_levelled [.ref 200, .int (pv_xs Γ (Int32.toNatClampNeg (x3 + 1)))] ty1 h1 r1 g1 (fun (v2 : Option Value) (ty2 : pv_T) (h2 : pv_H) (r2 : pv_R) (g2 : pv_G) => ∃ w2 : Int32, v2 = some (.int w2) ∧ pv_Lay ty2 r2 ∧ ((w1 = w2 → pv_E Γ d kc ks mL_law 18 [some (.ref 1), some (.ref 100), some (.ref 200), some (.int (x3 + 6))] [] ty2 h2 r2 g2 Q) ∧ (¬ w1 = w2 → Q (some (.int 0)) ty2 h2 r2 g2))))) : pv_E Γ d kc ks mL_law 534 [some (.ref 1), some (.ref 100), some (.ref 200), some (.int x3)] [] ty h r g Q := by
  refine pv_aload_n dL_law_534 rfl ?_
  refine pv_aload_n dL_law_535 rfl ?_
  refine pv_iload_n dL_law_536 rfl ?_
  refine pv_iconst (v := 1) (by decide) dL_law_537 ?_
  refine pv_iadd dL_law_538 ?_
  obtain ⟨q1, F⟩ := F
  obtain ⟨q1n, q1t, q1i⟩ := q1
  refine pv_sld dL_law_539 q1t q1i ?_
  refine pv_invV (As := [.int (pv_xs Γ (Int32.toNatClampNeg (x3 + 1)))]) (d' := d - 1) dL_law_540 moX11_levelled ml_L_48 (lt_100 hL) (Or.inl ⟨_, rfl, rfl⟩) (Nat.le_of_ble_eq_true rfl) (by omega) (Nat.zero_le _) (Nat.zero_le _) F (fun v1 ty1 h1 r1 g1 F => ?_) rfl
  obtain ⟨w1, rfl, F⟩ := F
  obtain ⟨hL1, F⟩ := F
  refine pv_pc (pc' := 543) rfl ?_
  show pv_E Γ d kc ks mL_law 543 [some (.ref 1), some (.ref 100), some (.ref 200), some (.int x3)] [.int w1] ty1 h1 r1 g1 Q
  refine pv_aload_n dL_law_543 rfl ?_
  refine pv_aload_n dL_law_544 rfl ?_
  refine pv_iload_n dL_law_545 rfl ?_
  refine pv_iconst (v := 1) (by decide) dL_law_546 ?_
  refine pv_iadd dL_law_547 ?_
  obtain ⟨q2, F⟩ := F
  obtain ⟨q2n, q2t, q2i⟩ := q2
  refine pv_sld dL_law_548 q2t q2i ?_
  refine pv_invV (As := [.int (pv_xs Γ (Int32.toNatClampNeg (x3 + 1)))]) (d' := d - 1) dL_law_549 moX12_levelled ml_L_51 (lt_200 hL1) (Or.inl ⟨_, rfl, rfl⟩) (Nat.le_of_ble_eq_true rfl) (by omega) (Nat.zero_le _) (Nat.zero_le _) F (fun v2 ty2 h2 r2 g2 F => ?_) rfl
  obtain ⟨w2, rfl, F⟩ := F
  obtain ⟨hL2, F⟩ := F
  refine pv_pc (pc' := 552) rfl ?_
  show pv_E Γ d kc ks mL_law 552 [some (.ref 1), some (.ref 100), some (.ref 200), some (.int x3)] [.int w2, .int w1] ty2 h2 r2 g2 Q
  refine pv_icmp_eq (tgt := 1534) dL_law_552 (by decide) (fun c1 => ?_) (fun c1 => ?_)
  · have F := F.1 c1
    refine pv_iinc (v := x3 + 6) (ls' := [some (.ref 1), some (.ref 100), some (.ref 200), some (.int (x3 + 6))]) dL_law_1534 rfl (by rfl) rfl rfl ?_
    refine pv_goto (tgt := 18) dL_law_1537 (by decide) ?_
    exact F
  · have F := F.2 c1
    refine pv_iconst (v := 0) (by decide) dL_law_555 ?_
    exact pv_ireturn dL_law_556 rfl (by decide) F
set_option maxRecDepth 20000 in
set_option maxHeartbeats 4000000 in
theorem sg_L_law_557 {Γ : pv_C} {d kc ks : Nat} {ty : pv_T} {h : pv_H} {r : pv_R} {g : pv_G} {Q : pv_Q} (x3 : Int32) (hd : 1 ≤ d) (hL : pv_Lay ty r) (F : pv_CT Γ (d - 1) 0 0 mX11_move [.ref 100] ty h r g (fun (v1 : Option Value) (ty1 : pv_T) (h1 : pv_H) (r1 : pv_R) (g1 : pv_G) => ∃ w1 : Int32, v1 = some (.int w1) ∧ pv_Lay ty1 r1 ∧ pv_CT Γ (d - 1) 0 0 mX12_move [.ref 200] ty1 h1 r1 g1 (fun (v2 : Option Value) (ty2 : pv_T) (h2 : pv_H) (r2 : pv_R) (g2 : pv_G) => ∃ w2 : Int32, v2 = some (.int w2) ∧ pv_Lay ty2 r2 ∧ ((w1 = w2 → pv_E Γ d kc ks mL_law 18 [some (.ref 1), some (.ref 100), some (.ref 200), some (.int (x3 + 6))] [] ty2 h2 r2 g2 Q) ∧ (¬ w1 = w2 → Q (some (.int 0)) ty2 h2 r2 g2))))) : pv_E Γ d kc ks mL_law 557 [some (.ref 1), some (.ref 100), some (.ref 200), some (.int x3)] [] ty h r g Q := by
  refine pv_aload_n dL_law_557 rfl ?_
  refine pv_invV (As := []) (d' := d - 1) dL_law_558 moX11_move ml_L_52 (lt_100 hL) (Or.inl ⟨_, rfl, rfl⟩) (Nat.le_of_ble_eq_true rfl) (by omega) (Nat.zero_le _) (Nat.zero_le _) F (fun v1 ty1 h1 r1 g1 F => ?_) rfl
  obtain ⟨w1, rfl, F⟩ := F
  obtain ⟨hL1, F⟩ := F
  refine pv_pc (pc' := 561) rfl ?_
  show pv_E Γ d kc ks mL_law 561 [some (.ref 1), some (.ref 100), some (.ref 200), some (.int x3)] [.int w1] ty1 h1 r1 g1 Q
  refine pv_aload_n dL_law_561 rfl ?_
  refine pv_invV (As := []) (d' := d - 1) dL_law_562 moX12_move ml_L_56 (lt_200 hL1) (Or.inl ⟨_, rfl, rfl⟩) (Nat.le_of_ble_eq_true rfl) (by omega) (Nat.zero_le _) (Nat.zero_le _) F (fun v2 ty2 h2 r2 g2 F => ?_) rfl
  obtain ⟨w2, rfl, F⟩ := F
  obtain ⟨hL2, F⟩ := F
  refine pv_pc (pc' := 565) rfl ?_
  show pv_E Γ d kc ks mL_law 565 [some (.ref 1), some (.ref 100), some (.ref 200), some (.int x3)] [.int w2, .int w1] ty2 h2 r2 g2 Q
  refine pv_icmp_eq (tgt := 1534) dL_law_565 (by decide) (fun c1 => ?_) (fun c1 => ?_)
  · have F := F.1 c1
    refine pv_iinc (v := x3 + 6) (ls' := [some (.ref 1), some (.ref 100), some (.ref 200), some (.int (x3 + 6))]) dL_law_1534 rfl (by rfl) rfl rfl ?_
    refine pv_goto (tgt := 18) dL_law_1537 (by decide) ?_
    exact F
  · have F := F.2 c1
    refine pv_iconst (v := 0) (by decide) dL_law_568 ?_
    exact pv_ireturn dL_law_569 rfl (by decide) F
set_option maxRecDepth 20000 in
set_option maxHeartbeats 4000000 in
theorem sg_L_law_570 {Γ : pv_C} {d kc ks : Nat} {ty : pv_T} {h : pv_H} {r : pv_R} {g : pv_G} {Q : pv_Q} (x3 : Int32) (hd : 1 ≤ d) (hL : pv_Lay ty r) (F : pv_inb ty 1 20 (x3 + 1) ∧ pv_inb ty 1 20 (x3 + 2) ∧ pv_CT Γ (d - 1) 0 0 mX11_stones [.ref 100, .int (pv_xs Γ (Int32.toNatClampNeg (x3 + 1))), .int (pv_xs Γ (Int32.toNatClampNeg (x3 + 2)))] ty h r g (fun (v1 : Option Value) (ty1 : pv_T) (h1 : pv_H) (r1 : pv_R) (g1 : pv_G) => ∃ w1 : Int32, v1 = some (.int w1) ∧ pv_Lay ty1 r1 ∧ pv_inb ty1 1 20 (x3 + 1) ∧ pv_inb ty1 1 20 (x3 + 2) ∧ pv_CT Γ (d - 1) 0 0 mX12_stones [.ref 200, .int (pv_xs Γ (Int32.toNatClampNeg (x3 + 1))), .int (pv_xs Γ (Int32.toNatClampNeg (x3 + 2)))] ty1 h1 r1 g1 (fun (v2 : Option Value) (ty2 : pv_T) (h2 : pv_H) (r2 : pv_R) (g2 : pv_G) => ∃ w2 : Int32, v2 = some (.int w2) ∧ pv_Lay ty2 r2 ∧ ((w1 = w2 → pv_E Γ d kc ks mL_law 18 [some (.ref 1), some (.ref 100), some (.ref 200), some (.int (x3 + 6))] [] ty2 h2 r2 g2 Q) ∧ (¬ w1 = w2 → Q (some (.int 0)) ty2 h2 r2 g2))))) : pv_E Γ d kc ks mL_law 570 [some (.ref 1), some (.ref 100), some (.ref 200), some (.int x3)] [] ty h r g Q := by
  refine pv_aload_n dL_law_570 rfl ?_
  refine pv_aload_n dL_law_571 rfl ?_
  refine pv_iload_n dL_law_572 rfl ?_
  refine pv_iconst (v := 1) (by decide) dL_law_573 ?_
  refine pv_iadd dL_law_574 ?_
  obtain ⟨q1, F⟩ := F
  obtain ⟨q1n, q1t, q1i⟩ := q1
  refine pv_sld dL_law_575 q1t q1i ?_
  refine pv_aload_n dL_law_576 rfl ?_
  refine pv_iload_n dL_law_577 rfl ?_
  refine pv_iconst (v := 2) (by decide) dL_law_578 ?_
  refine pv_iadd dL_law_579 ?_
  obtain ⟨q2, F⟩ := F
  obtain ⟨q2n, q2t, q2i⟩ := q2
  refine pv_sld dL_law_580 q2t q2i ?_
  refine pv_invV (As := [.int (pv_xs Γ (Int32.toNatClampNeg (x3 + 1))), .int (pv_xs Γ (Int32.toNatClampNeg (x3 + 2)))]) (d' := d - 1) dL_law_581 moX11_stones ml_L_57 (lt_100 hL) (Or.inl ⟨_, rfl, rfl⟩) (Nat.le_of_ble_eq_true rfl) (by omega) (Nat.zero_le _) (Nat.zero_le _) F (fun v1 ty1 h1 r1 g1 F => ?_) rfl
  obtain ⟨w1, rfl, F⟩ := F
  obtain ⟨hL1, F⟩ := F
  refine pv_pc (pc' := 584) rfl ?_
  show pv_E Γ d kc ks mL_law 584 [some (.ref 1), some (.ref 100), some (.ref 200), some (.int x3)] [.int w1] ty1 h1 r1 g1 Q
  refine pv_aload_n dL_law_584 rfl ?_
  refine pv_aload_n dL_law_585 rfl ?_
  refine pv_iload_n dL_law_586 rfl ?_
  refine pv_iconst (v := 1) (by decide) dL_law_587 ?_
  refine pv_iadd dL_law_588 ?_
  obtain ⟨q3, F⟩ := F
  obtain ⟨q3n, q3t, q3i⟩ := q3
  refine pv_sld dL_law_589 q3t q3i ?_
  refine pv_aload_n dL_law_590 rfl ?_
  refine pv_iload_n dL_law_591 rfl ?_
  refine pv_iconst (v := 2) (by decide) dL_law_592 ?_
  refine pv_iadd dL_law_593 ?_
  obtain ⟨q4, F⟩ := F
  obtain ⟨q4n, q4t, q4i⟩ := q4
  refine pv_sld dL_law_594 q4t q4i ?_
  refine pv_invV (As := [.int (pv_xs Γ (Int32.toNatClampNeg (x3 + 1))), .int (pv_xs Γ (Int32.toNatClampNeg (x3 + 2)))]) (d' := d - 1) dL_law_595 moX12_stones ml_L_61 (lt_200 hL1) (Or.inl ⟨_, rfl, rfl⟩) (Nat.le_of_ble_eq_true rfl) (by omega) (Nat.zero_le _) (Nat.zero_le _) F (fun v2 ty2 h2 r2 g2 F => ?_) rfl
  obtain ⟨w2, rfl, F⟩ := F
  obtain ⟨hL2, F⟩ := F
  refine pv_pc (pc' := 598) rfl ?_
  show pv_E Γ d kc ks mL_law 598 [some (.ref 1), some (.ref 100), some (.ref 200), some (.int x3)] [.int w2, .int w1] ty2 h2 r2 g2 Q
  refine pv_icmp_eq (tgt := 1534) dL_law_598 (by decide) (fun c1 => ?_) (fun c1 => ?_)
  · have F := F.1 c1
    refine pv_iinc (v := x3 + 6) (ls' := [some (.ref 1), some (.ref 100), some (.ref 200), some (.int (x3 + 6))]) dL_law_1534 rfl (by rfl) rfl rfl ?_
    refine pv_goto (tgt := 18) dL_law_1537 (by decide) ?_
    exact F
  · have F := F.2 c1
    refine pv_iconst (v := 0) (by decide) dL_law_601 ?_
    exact pv_ireturn dL_law_602 rfl (by decide) F
set_option maxRecDepth 20000 in
set_option maxHeartbeats 4000000 in
theorem sg_L_law_603 {Γ : pv_C} {d kc ks : Nat} {ty : pv_T} {h : pv_H} {r : pv_R} {g : pv_G} {Q : pv_Q} (x3 : Int32) (hd : 1 ≤ d) (hL : pv_Lay ty r) (F : pv_inb ty 1 20 (x3 + 1) ∧ pv_CT Γ (d - 1) 0 0 mX11_course [.ref 100, .int (pv_xs Γ (Int32.toNatClampNeg (x3 + 1)))] ty h r g (fun (v1 : Option Value) (ty1 : pv_T) (h1 : pv_H) (r1 : pv_R) (g1 : pv_G) => ∃ w1 : Int32, v1 = some (.int w1) ∧ pv_Lay ty1 r1 ∧ pv_inb ty1 1 20 (x3 + 1) ∧ pv_CT Γ (d - 1) 0 0 mX12_course [.ref 200, .int (pv_xs Γ (Int32.toNatClampNeg (x3 + 1)))] ty1 h1 r1 g1 (fun (v2 : Option Value) (ty2 : pv_T) (h2 : pv_H) (r2 : pv_R) (g2 : pv_G) => ∃ w2 : Int32, v2 = some (.int w2) ∧ pv_Lay ty2 r2 ∧ ((w1 = w2 → pv_E Γ d kc ks mL_law 18 [some (.ref 1), some (.ref 100), some (.ref 200), some (.int (x3 + 6))] [] ty2 h2 r2 g2 Q) ∧ (¬ w1 = w2 → Q (some (.int 0)) ty2 h2 r2 g2))))) : pv_E Γ d kc ks mL_law 603 [some (.ref 1), some (.ref 100), some (.ref 200), some (.int x3)] [] ty h r g Q := by
  refine pv_aload_n dL_law_603 rfl ?_
  refine pv_aload_n dL_law_604 rfl ?_
  refine pv_iload_n dL_law_605 rfl ?_
  refine pv_iconst (v := 1) (by decide) dL_law_606 ?_
  refine pv_iadd dL_law_607 ?_
  obtain ⟨q1, F⟩ := F
  obtain ⟨q1n, q1t, q1i⟩ := q1
  refine pv_sld dL_law_608 q1t q1i ?_
  refine pv_invV (As := [.int (pv_xs Γ (Int32.toNatClampNeg (x3 + 1)))]) (d' := d - 1) dL_law_609 moX11_course ml_L_62 (lt_100 hL) (Or.inl ⟨_, rfl, rfl⟩) (Nat.le_of_ble_eq_true rfl) (by omega) (Nat.zero_le _) (Nat.zero_le _) F (fun v1 ty1 h1 r1 g1 F => ?_) rfl
  obtain ⟨w1, rfl, F⟩ := F
  obtain ⟨hL1, F⟩ := F
  refine pv_pc (pc' := 612) rfl ?_
  show pv_E Γ d kc ks mL_law 612 [some (.ref 1), some (.ref 100), some (.ref 200), some (.int x3)] [.int w1] ty1 h1 r1 g1 Q
  refine pv_aload_n dL_law_612 rfl ?_
  refine pv_aload_n dL_law_613 rfl ?_
  refine pv_iload_n dL_law_614 rfl ?_
  refine pv_iconst (v := 1) (by decide) dL_law_615 ?_
  refine pv_iadd dL_law_616 ?_
  obtain ⟨q2, F⟩ := F
  obtain ⟨q2n, q2t, q2i⟩ := q2
  refine pv_sld dL_law_617 q2t q2i ?_
  refine pv_invV (As := [.int (pv_xs Γ (Int32.toNatClampNeg (x3 + 1)))]) (d' := d - 1) dL_law_618 moX12_course ml_L_65 (lt_200 hL1) (Or.inl ⟨_, rfl, rfl⟩) (Nat.le_of_ble_eq_true rfl) (by omega) (Nat.zero_le _) (Nat.zero_le _) F (fun v2 ty2 h2 r2 g2 F => ?_) rfl
  obtain ⟨w2, rfl, F⟩ := F
  obtain ⟨hL2, F⟩ := F
  refine pv_pc (pc' := 621) rfl ?_
  show pv_E Γ d kc ks mL_law 621 [some (.ref 1), some (.ref 100), some (.ref 200), some (.int x3)] [.int w2, .int w1] ty2 h2 r2 g2 Q
  refine pv_icmp_eq (tgt := 1534) dL_law_621 (by decide) (fun c1 => ?_) (fun c1 => ?_)
  · have F := F.1 c1
    refine pv_iinc (v := x3 + 6) (ls' := [some (.ref 1), some (.ref 100), some (.ref 200), some (.int (x3 + 6))]) dL_law_1534 rfl (by rfl) rfl rfl ?_
    refine pv_goto (tgt := 18) dL_law_1537 (by decide) ?_
    exact F
  · have F := F.2 c1
    refine pv_iconst (v := 0) (by decide) dL_law_624 ?_
    exact pv_ireturn dL_law_625 rfl (by decide) F
set_option maxRecDepth 20000 in
set_option maxHeartbeats 4000000 in
theorem sg_L_law_626 {Γ : pv_C} {d kc ks : Nat} {ty : pv_T} {h : pv_H} {r : pv_R} {g : pv_G} {Q : pv_Q} (x3 : Int32) (hd : 1 ≤ d) (hL : pv_Lay ty r) (F : pv_inb ty 1 20 (x3 + 1) ∧ pv_CT Γ (d - 1) 0 0 mX11_of [.ref 100, .int (pv_xs Γ (Int32.toNatClampNeg (x3 + 1)))] ty h r g (fun (v1 : Option Value) (ty1 : pv_T) (h1 : pv_H) (r1 : pv_R) (g1 : pv_G) => ∃ w1 : Int32, v1 = some (.int w1) ∧ pv_Lay ty1 r1 ∧ pv_inb ty1 1 20 (x3 + 1) ∧ pv_CT Γ (d - 1) 0 0 mX12_of [.ref 200, .int (pv_xs Γ (Int32.toNatClampNeg (x3 + 1)))] ty1 h1 r1 g1 (fun (v2 : Option Value) (ty2 : pv_T) (h2 : pv_H) (r2 : pv_R) (g2 : pv_G) => ∃ w2 : Int32, v2 = some (.int w2) ∧ pv_Lay ty2 r2 ∧ ((w1 = w2 → pv_E Γ d kc ks mL_law 18 [some (.ref 1), some (.ref 100), some (.ref 200), some (.int (x3 + 6))] [] ty2 h2 r2 g2 Q) ∧ (¬ w1 = w2 → Q (some (.int 0)) ty2 h2 r2 g2))))) : pv_E Γ d kc ks mL_law 626 [some (.ref 1), some (.ref 100), some (.ref 200), some (.int x3)] [] ty h r g Q := by
  refine pv_aload_n dL_law_626 rfl ?_
  refine pv_aload_n dL_law_627 rfl ?_
  refine pv_iload_n dL_law_628 rfl ?_
  refine pv_iconst (v := 1) (by decide) dL_law_629 ?_
  refine pv_iadd dL_law_630 ?_
  obtain ⟨q1, F⟩ := F
  obtain ⟨q1n, q1t, q1i⟩ := q1
  refine pv_sld dL_law_631 q1t q1i ?_
  refine pv_invV (As := [.int (pv_xs Γ (Int32.toNatClampNeg (x3 + 1)))]) (d' := d - 1) dL_law_632 moX11_of ml_L_66 (lt_100 hL) (Or.inl ⟨_, rfl, rfl⟩) (Nat.le_of_ble_eq_true rfl) (by omega) (Nat.zero_le _) (Nat.zero_le _) F (fun v1 ty1 h1 r1 g1 F => ?_) rfl
  obtain ⟨w1, rfl, F⟩ := F
  obtain ⟨hL1, F⟩ := F
  refine pv_pc (pc' := 635) rfl ?_
  show pv_E Γ d kc ks mL_law 635 [some (.ref 1), some (.ref 100), some (.ref 200), some (.int x3)] [.int w1] ty1 h1 r1 g1 Q
  refine pv_aload_n dL_law_635 rfl ?_
  refine pv_aload_n dL_law_636 rfl ?_
  refine pv_iload_n dL_law_637 rfl ?_
  refine pv_iconst (v := 1) (by decide) dL_law_638 ?_
  refine pv_iadd dL_law_639 ?_
  obtain ⟨q2, F⟩ := F
  obtain ⟨q2n, q2t, q2i⟩ := q2
  refine pv_sld dL_law_640 q2t q2i ?_
  refine pv_invV (As := [.int (pv_xs Γ (Int32.toNatClampNeg (x3 + 1)))]) (d' := d - 1) dL_law_641 moX12_of ml_L_69 (lt_200 hL1) (Or.inl ⟨_, rfl, rfl⟩) (Nat.le_of_ble_eq_true rfl) (by omega) (Nat.zero_le _) (Nat.zero_le _) F (fun v2 ty2 h2 r2 g2 F => ?_) rfl
  obtain ⟨w2, rfl, F⟩ := F
  obtain ⟨hL2, F⟩ := F
  refine pv_pc (pc' := 644) rfl ?_
  show pv_E Γ d kc ks mL_law 644 [some (.ref 1), some (.ref 100), some (.ref 200), some (.int x3)] [.int w2, .int w1] ty2 h2 r2 g2 Q
  refine pv_icmp_eq (tgt := 1534) dL_law_644 (by decide) (fun c1 => ?_) (fun c1 => ?_)
  · have F := F.1 c1
    refine pv_iinc (v := x3 + 6) (ls' := [some (.ref 1), some (.ref 100), some (.ref 200), some (.int (x3 + 6))]) dL_law_1534 rfl (by rfl) rfl rfl ?_
    refine pv_goto (tgt := 18) dL_law_1537 (by decide) ?_
    exact F
  · have F := F.2 c1
    refine pv_iconst (v := 0) (by decide) dL_law_647 ?_
    exact pv_ireturn dL_law_648 rfl (by decide) F
set_option maxRecDepth 20000 in
set_option maxHeartbeats 4000000 in
theorem sg_L_law_649 {Γ : pv_C} {d kc ks : Nat} {ty : pv_T} {h : pv_H} {r : pv_R} {g : pv_G} {Q : pv_Q} (x3 : Int32) (hd : 1 ≤ d) (hL : pv_Lay ty r) (F : pv_inb ty 1 20 (x3 + 1) ∧ pv_CT Γ (d - 1) 0 0 mX11_lay [.ref 100, .int (pv_xs Γ (Int32.toNatClampNeg (x3 + 1)))] ty h r g (fun (v1 : Option Value) (ty1 : pv_T) (h1 : pv_H) (r1 : pv_R) (g1 : pv_G) => ∃ w1 : Int32, v1 = some (.int w1) ∧ pv_Lay ty1 r1 ∧ pv_inb ty1 1 20 (x3 + 1) ∧ pv_CT Γ (d - 1) 0 0 mX12_lay [.ref 200, .int (pv_xs Γ (Int32.toNatClampNeg (x3 + 1)))] ty1 h1 r1 g1 (fun (v2 : Option Value) (ty2 : pv_T) (h2 : pv_H) (r2 : pv_R) (g2 : pv_G) => ∃ w2 : Int32, v2 = some (.int w2) ∧ pv_Lay ty2 r2 ∧ ((w1 = w2 → pv_E Γ d kc ks mL_law 18 [some (.ref 1), some (.ref 100), some (.ref 200), some (.int (x3 + 6))] [] ty2 h2 r2 g2 Q) ∧ (¬ w1 = w2 → Q (some (.int 0)) ty2 h2 r2 g2))))) : pv_E Γ d kc ks mL_law 649 [some (.ref 1), some (.ref 100), some (.ref 200), some (.int x3)] [] ty h r g Q := by
  refine pv_aload_n dL_law_649 rfl ?_
  refine pv_aload_n dL_law_650 rfl ?_
  refine pv_iload_n dL_law_651 rfl ?_
  refine pv_iconst (v := 1) (by decide) dL_law_652 ?_
  refine pv_iadd dL_law_653 ?_
  obtain ⟨q1, F⟩ := F
  obtain ⟨q1n, q1t, q1i⟩ := q1
  refine pv_sld dL_law_654 q1t q1i ?_
  refine pv_invV (As := [.int (pv_xs Γ (Int32.toNatClampNeg (x3 + 1)))]) (d' := d - 1) dL_law_655 moX11_lay ml_L_70 (lt_100 hL) (Or.inl ⟨_, rfl, rfl⟩) (Nat.le_of_ble_eq_true rfl) (by omega) (Nat.zero_le _) (Nat.zero_le _) F (fun v1 ty1 h1 r1 g1 F => ?_) rfl
  obtain ⟨w1, rfl, F⟩ := F
  obtain ⟨hL1, F⟩ := F
  refine pv_pc (pc' := 658) rfl ?_
  show pv_E Γ d kc ks mL_law 658 [some (.ref 1), some (.ref 100), some (.ref 200), some (.int x3)] [.int w1] ty1 h1 r1 g1 Q
  refine pv_aload_n dL_law_658 rfl ?_
  refine pv_aload_n dL_law_659 rfl ?_
  refine pv_iload_n dL_law_660 rfl ?_
  refine pv_iconst (v := 1) (by decide) dL_law_661 ?_
  refine pv_iadd dL_law_662 ?_
  obtain ⟨q2, F⟩ := F
  obtain ⟨q2n, q2t, q2i⟩ := q2
  refine pv_sld dL_law_663 q2t q2i ?_
  refine pv_invV (As := [.int (pv_xs Γ (Int32.toNatClampNeg (x3 + 1)))]) (d' := d - 1) dL_law_664 moX12_lay ml_L_73 (lt_200 hL1) (Or.inl ⟨_, rfl, rfl⟩) (Nat.le_of_ble_eq_true rfl) (by omega) (Nat.zero_le _) (Nat.zero_le _) F (fun v2 ty2 h2 r2 g2 F => ?_) rfl
  obtain ⟨w2, rfl, F⟩ := F
  obtain ⟨hL2, F⟩ := F
  refine pv_pc (pc' := 667) rfl ?_
  show pv_E Γ d kc ks mL_law 667 [some (.ref 1), some (.ref 100), some (.ref 200), some (.int x3)] [.int w2, .int w1] ty2 h2 r2 g2 Q
  refine pv_icmp_eq (tgt := 1534) dL_law_667 (by decide) (fun c1 => ?_) (fun c1 => ?_)
  · have F := F.1 c1
    refine pv_iinc (v := x3 + 6) (ls' := [some (.ref 1), some (.ref 100), some (.ref 200), some (.int (x3 + 6))]) dL_law_1534 rfl (by rfl) rfl rfl ?_
    refine pv_goto (tgt := 18) dL_law_1537 (by decide) ?_
    exact F
  · have F := F.2 c1
    refine pv_iconst (v := 0) (by decide) dL_law_670 ?_
    exact pv_ireturn dL_law_671 rfl (by decide) F
set_option maxRecDepth 20000 in
set_option maxHeartbeats 4000000 in
theorem sg_L_law_672 {Γ : pv_C} {d kc ks : Nat} {ty : pv_T} {h : pv_H} {r : pv_R} {g : pv_G} {Q : pv_Q} (x3 : Int32) (hd : 1 ≤ d) (hL : pv_Lay ty r) (F : pv_CT Γ (d - 1) 0 0 mX11_year [.ref 100] ty h r g (fun (v1 : Option Value) (ty1 : pv_T) (h1 : pv_H) (r1 : pv_R) (g1 : pv_G) => ∃ w1 : Int32, v1 = some (.int w1) ∧ pv_Lay ty1 r1 ∧ pv_CT Γ (d - 1) 0 0 mX12_year [.ref 200] ty1 h1 r1 g1 (fun (v2 : Option Value) (ty2 : pv_T) (h2 : pv_H) (r2 : pv_R) (g2 : pv_G) => ∃ w2 : Int32, v2 = some (.int w2) ∧ pv_Lay ty2 r2 ∧ ((w1 = w2 → pv_E Γ d kc ks mL_law 18 [some (.ref 1), some (.ref 100), some (.ref 200), some (.int (x3 + 6))] [] ty2 h2 r2 g2 Q) ∧ (¬ w1 = w2 → Q (some (.int 0)) ty2 h2 r2 g2))))) : pv_E Γ d kc ks mL_law 672 [some (.ref 1), some (.ref 100), some (.ref 200), some (.int x3)] [] ty h r g Q := by
  refine pv_aload_n dL_law_672 rfl ?_
  refine pv_invV (As := []) (d' := d - 1) dL_law_673 moX11_year ml_L_74 (lt_100 hL) (Or.inl ⟨_, rfl, rfl⟩) (Nat.le_of_ble_eq_true rfl) (by omega) (Nat.zero_le _) (Nat.zero_le _) F (fun v1 ty1 h1 r1 g1 F => ?_) rfl
  obtain ⟨w1, rfl, F⟩ := F
  obtain ⟨hL1, F⟩ := F
  refine pv_pc (pc' := 676) rfl ?_
  show pv_E Γ d kc ks mL_law 676 [some (.ref 1), some (.ref 100), some (.ref 200), some (.int x3)] [.int w1] ty1 h1 r1 g1 Q
  refine pv_aload_n dL_law_676 rfl ?_
  refine pv_invV (As := []) (d' := d - 1) dL_law_677 moX12_year ml_L_77 (lt_200 hL1) (Or.inl ⟨_, rfl, rfl⟩) (Nat.le_of_ble_eq_true rfl) (by omega) (Nat.zero_le _) (Nat.zero_le _) F (fun v2 ty2 h2 r2 g2 F => ?_) rfl
  obtain ⟨w2, rfl, F⟩ := F
  obtain ⟨hL2, F⟩ := F
  refine pv_pc (pc' := 680) rfl ?_
  show pv_E Γ d kc ks mL_law 680 [some (.ref 1), some (.ref 100), some (.ref 200), some (.int x3)] [.int w2, .int w1] ty2 h2 r2 g2 Q
  refine pv_icmp_eq (tgt := 1534) dL_law_680 (by decide) (fun c1 => ?_) (fun c1 => ?_)
  · have F := F.1 c1
    refine pv_iinc (v := x3 + 6) (ls' := [some (.ref 1), some (.ref 100), some (.ref 200), some (.int (x3 + 6))]) dL_law_1534 rfl (by rfl) rfl rfl ?_
    refine pv_goto (tgt := 18) dL_law_1537 (by decide) ?_
    exact F
  · have F := F.2 c1
    refine pv_iconst (v := 0) (by decide) dL_law_683 ?_
    exact pv_ireturn dL_law_684 rfl (by decide) F
set_option maxRecDepth 20000 in
set_option maxHeartbeats 4000000 in
theorem sg_L_law_685 {Γ : pv_C} {d kc ks : Nat} {ty : pv_T} {h : pv_H} {r : pv_R} {g : pv_G} {Q : pv_Q} (x3 : Int32) (hd : 1 ≤ d) (hL : pv_Lay ty r) (F : pv_inb ty 1 20 (x3 + 1) ∧ pv_inb ty 1 20 (x3 + 2) ∧ pv_inb ty 1 20 (x3 + 3) ∧ pv_CT Γ (d - 1) 0 0 mX11_wheels [.ref 100, .int (pv_xs Γ (Int32.toNatClampNeg (x3 + 1))), .int (pv_xs Γ (Int32.toNatClampNeg (x3 + 2))), .int (pv_xs Γ (Int32.toNatClampNeg (x3 + 3)))] ty h r g (fun (v1 : Option Value) (ty1 : pv_T) (h1 : pv_H) (r1 : pv_R) (g1 : pv_G) => ∃ w1 : Int32, v1 = some (.int w1) ∧ pv_Lay ty1 r1 ∧ pv_inb ty1 1 20 (x3 + 1) ∧ pv_inb ty1 1 20 (x3 + 2) ∧ pv_inb ty1 1 20 (x3 + 3) ∧ pv_CT Γ (d - 1) 0 0 mX12_wheels [.ref 200, .int (pv_xs Γ (Int32.toNatClampNeg (x3 + 1))), .int (pv_xs Γ (Int32.toNatClampNeg (x3 + 2))), .int (pv_xs Γ (Int32.toNatClampNeg (x3 + 3)))] ty1 h1 r1 g1 (fun (v2 : Option Value) (ty2 : pv_T) (h2 : pv_H) (r2 : pv_R) (g2 : pv_G) => ∃ w2 : Int32, v2 = some (.int w2) ∧ pv_Lay ty2 r2 ∧ ((w1 = w2 → pv_E Γ d kc ks mL_law 18 [some (.ref 1), some (.ref 100), some (.ref 200), some (.int (x3 + 6))] [] ty2 h2 r2 g2 Q) ∧ (¬ w1 = w2 → Q (some (.int 0)) ty2 h2 r2 g2))))) : pv_E Γ d kc ks mL_law 685 [some (.ref 1), some (.ref 100), some (.ref 200), some (.int x3)] [] ty h r g Q := by
  refine pv_aload_n dL_law_685 rfl ?_
  refine pv_aload_n dL_law_686 rfl ?_
  refine pv_iload_n dL_law_687 rfl ?_
  refine pv_iconst (v := 1) (by decide) dL_law_688 ?_
  refine pv_iadd dL_law_689 ?_
  obtain ⟨q1, F⟩ := F
  obtain ⟨q1n, q1t, q1i⟩ := q1
  refine pv_sld dL_law_690 q1t q1i ?_
  refine pv_aload_n dL_law_691 rfl ?_
  refine pv_iload_n dL_law_692 rfl ?_
  refine pv_iconst (v := 2) (by decide) dL_law_693 ?_
  refine pv_iadd dL_law_694 ?_
  obtain ⟨q2, F⟩ := F
  obtain ⟨q2n, q2t, q2i⟩ := q2
  refine pv_sld dL_law_695 q2t q2i ?_
  refine pv_aload_n dL_law_696 rfl ?_
  refine pv_iload_n dL_law_697 rfl ?_
  refine pv_iconst (v := 3) (by decide) dL_law_698 ?_
  refine pv_iadd dL_law_699 ?_
  obtain ⟨q3, F⟩ := F
  obtain ⟨q3n, q3t, q3i⟩ := q3
  refine pv_sld dL_law_700 q3t q3i ?_
  refine pv_invV (As := [.int (pv_xs Γ (Int32.toNatClampNeg (x3 + 1))), .int (pv_xs Γ (Int32.toNatClampNeg (x3 + 2))), .int (pv_xs Γ (Int32.toNatClampNeg (x3 + 3)))]) (d' := d - 1) dL_law_701 moX11_wheels ml_L_78 (lt_100 hL) (Or.inl ⟨_, rfl, rfl⟩) (Nat.le_of_ble_eq_true rfl) (by omega) (Nat.zero_le _) (Nat.zero_le _) F (fun v1 ty1 h1 r1 g1 F => ?_) rfl
  obtain ⟨w1, rfl, F⟩ := F
  obtain ⟨hL1, F⟩ := F
  refine pv_pc (pc' := 704) rfl ?_
  show pv_E Γ d kc ks mL_law 704 [some (.ref 1), some (.ref 100), some (.ref 200), some (.int x3)] [.int w1] ty1 h1 r1 g1 Q
  refine pv_aload_n dL_law_704 rfl ?_
  refine pv_aload_n dL_law_705 rfl ?_
  refine pv_iload_n dL_law_706 rfl ?_
  refine pv_iconst (v := 1) (by decide) dL_law_707 ?_
  refine pv_iadd dL_law_708 ?_
  obtain ⟨q4, F⟩ := F
  obtain ⟨q4n, q4t, q4i⟩ := q4
  refine pv_sld dL_law_709 q4t q4i ?_
  refine pv_aload_n dL_law_710 rfl ?_
  refine pv_iload_n dL_law_711 rfl ?_
  refine pv_iconst (v := 2) (by decide) dL_law_712 ?_
  refine pv_iadd dL_law_713 ?_
  obtain ⟨q5, F⟩ := F
  obtain ⟨q5n, q5t, q5i⟩ := q5
  refine pv_sld dL_law_714 q5t q5i ?_
  refine pv_aload_n dL_law_715 rfl ?_
  refine pv_iload_n dL_law_716 rfl ?_
  refine pv_iconst (v := 3) (by decide) dL_law_717 ?_
  refine pv_iadd dL_law_718 ?_
  obtain ⟨q6, F⟩ := F
  obtain ⟨q6n, q6t, q6i⟩ := q6
  refine pv_sld dL_law_719 q6t q6i ?_
  refine pv_invV (As := [.int (pv_xs Γ (Int32.toNatClampNeg (x3 + 1))), .int (pv_xs Γ (Int32.toNatClampNeg (x3 + 2))), .int (pv_xs Γ (Int32.toNatClampNeg (x3 + 3)))]) (d' := d - 1) dL_law_720 moX12_wheels ml_L_81 (lt_200 hL1) (Or.inl ⟨_, rfl, rfl⟩) (Nat.le_of_ble_eq_true rfl) (by omega) (Nat.zero_le _) (Nat.zero_le _) F (fun v2 ty2 h2 r2 g2 F => ?_) rfl
  obtain ⟨w2, rfl, F⟩ := F
  obtain ⟨hL2, F⟩ := F
  refine pv_pc (pc' := 723) rfl ?_
  show pv_E Γ d kc ks mL_law 723 [some (.ref 1), some (.ref 100), some (.ref 200), some (.int x3)] [.int w2, .int w1] ty2 h2 r2 g2 Q
  refine pv_icmp_eq (tgt := 1534) dL_law_723 (by decide) (fun c1 => ?_) (fun c1 => ?_)
  · have F := F.1 c1
    refine pv_iinc (v := x3 + 6) (ls' := [some (.ref 1), some (.ref 100), some (.ref 200), some (.int (x3 + 6))]) dL_law_1534 rfl (by rfl) rfl rfl ?_
    refine pv_goto (tgt := 18) dL_law_1537 (by decide) ?_
    exact F
  · have F := F.2 c1
    refine pv_iconst (v := 0) (by decide) dL_law_726 ?_
    exact pv_ireturn dL_law_727 rfl (by decide) F
set_option maxRecDepth 20000 in
set_option maxHeartbeats 4000000 in
theorem sg_L_law_728 {Γ : pv_C} {d kc ks : Nat} {ty : pv_T} {h : pv_H} {r : pv_R} {g : pv_G} {Q : pv_Q} (x3 : Int32) (hd : 1 ≤ d) (hL : pv_Lay ty r) (F : pv_inb ty 1 20 (x3 + 1) ∧ pv_CT Γ (d - 1) 0 0 mX11_pave [.ref 100, .int (pv_xs Γ (Int32.toNatClampNeg (x3 + 1)))] ty h r g (fun (v1 : Option Value) (ty1 : pv_T) (h1 : pv_H) (r1 : pv_R) (g1 : pv_G) => ∃ w1 : Int32, v1 = some (.int w1) ∧ pv_Lay ty1 r1 ∧ pv_inb ty1 1 20 (x3 + 1) ∧ pv_CT Γ (d - 1) 0 0 mX12_pave [.ref 200, .int (pv_xs Γ (Int32.toNatClampNeg (x3 + 1)))] ty1 h1 r1 g1 (fun (v2 : Option Value) (ty2 : pv_T) (h2 : pv_H) (r2 : pv_R) (g2 : pv_G) => ∃ w2 : Int32, v2 = some (.int w2) ∧ pv_Lay ty2 r2 ∧ ((w1 = w2 → pv_E Γ d kc ks mL_law 18 [some (.ref 1), some (.ref 100), some (.ref 200), some (.int (x3 + 6))] [] ty2 h2 r2 g2 Q) ∧ (¬ w1 = w2 → Q (some (.int 0)) ty2 h2 r2 g2))))) : pv_E Γ d kc ks mL_law 728 [some (.ref 1), some (.ref 100), some (.ref 200), some (.int x3)] [] ty h r g Q := by
  refine pv_aload_n dL_law_728 rfl ?_
  refine pv_aload_n dL_law_729 rfl ?_
  refine pv_iload_n dL_law_730 rfl ?_
  refine pv_iconst (v := 1) (by decide) dL_law_731 ?_
  refine pv_iadd dL_law_732 ?_
  obtain ⟨q1, F⟩ := F
  obtain ⟨q1n, q1t, q1i⟩ := q1
  refine pv_sld dL_law_733 q1t q1i ?_
  refine pv_invV (As := [.int (pv_xs Γ (Int32.toNatClampNeg (x3 + 1)))]) (d' := d - 1) dL_law_734 moX11_pave ml_L_82 (lt_100 hL) (Or.inl ⟨_, rfl, rfl⟩) (Nat.le_of_ble_eq_true rfl) (by omega) (Nat.zero_le _) (Nat.zero_le _) F (fun v1 ty1 h1 r1 g1 F => ?_) rfl
  obtain ⟨w1, rfl, F⟩ := F
  obtain ⟨hL1, F⟩ := F
  refine pv_pc (pc' := 737) rfl ?_
  show pv_E Γ d kc ks mL_law 737 [some (.ref 1), some (.ref 100), some (.ref 200), some (.int x3)] [.int w1] ty1 h1 r1 g1 Q
  refine pv_aload_n dL_law_737 rfl ?_
  refine pv_aload_n dL_law_738 rfl ?_
  refine pv_iload_n dL_law_739 rfl ?_
  refine pv_iconst (v := 1) (by decide) dL_law_740 ?_
  refine pv_iadd dL_law_741 ?_
  obtain ⟨q2, F⟩ := F
  obtain ⟨q2n, q2t, q2i⟩ := q2
  refine pv_sld dL_law_742 q2t q2i ?_
  refine pv_invV (As := [.int (pv_xs Γ (Int32.toNatClampNeg (x3 + 1)))]) (d' := d - 1) dL_law_743 moX12_pave ml_L_85 (lt_200 hL1) (Or.inl ⟨_, rfl, rfl⟩) (Nat.le_of_ble_eq_true rfl) (by omega) (Nat.zero_le _) (Nat.zero_le _) F (fun v2 ty2 h2 r2 g2 F => ?_) rfl
  obtain ⟨w2, rfl, F⟩ := F
  obtain ⟨hL2, F⟩ := F
  refine pv_pc (pc' := 746) rfl ?_
  show pv_E Γ d kc ks mL_law 746 [some (.ref 1), some (.ref 100), some (.ref 200), some (.int x3)] [.int w2, .int w1] ty2 h2 r2 g2 Q
  refine pv_icmp_eq (tgt := 1534) dL_law_746 (by decide) (fun c1 => ?_) (fun c1 => ?_)
  · have F := F.1 c1
    refine pv_iinc (v := x3 + 6) (ls' := [some (.ref 1), some (.ref 100), some (.ref 200), some (.int (x3 + 6))]) dL_law_1534 rfl (by rfl) rfl rfl ?_
    refine pv_goto (tgt := 18) dL_law_1537 (by decide) ?_
    exact F
  · have F := F.2 c1
    refine pv_iconst (v := 0) (by decide) dL_law_749 ?_
    exact pv_ireturn dL_law_750 rfl (by decide) F
set_option maxRecDepth 20000 in
set_option maxHeartbeats 4000000 in
theorem sg_L_law_751 {Γ : pv_C} {d kc ks : Nat} {ty : pv_T} {h : pv_H} {r : pv_R} {g : pv_G} {Q : pv_Q} (x3 : Int32) (hd : 1 ≤ d) (hL : pv_Lay ty r) (F : pv_inb ty 1 20 (x3 + 1) ∧ pv_inb ty 1 20 (x3 + 2) ∧ pv_CT Γ (d - 1) 0 0 mX11_wear [.ref 100, .int (pv_xs Γ (Int32.toNatClampNeg (x3 + 1))), .int (pv_xs Γ (Int32.toNatClampNeg (x3 + 2)))] ty h r g (fun (v1 : Option Value) (ty1 : pv_T) (h1 : pv_H) (r1 : pv_R) (g1 : pv_G) => ∃ w1 : Int32, v1 = some (.int w1) ∧ pv_Lay ty1 r1 ∧ pv_inb ty1 1 20 (x3 + 1) ∧ pv_inb ty1 1 20 (x3 + 2) ∧ pv_CT Γ (d - 1) 0 0 mX12_wear [.ref 200, .int (pv_xs Γ (Int32.toNatClampNeg (x3 + 1))), .int (pv_xs Γ (Int32.toNatClampNeg (x3 + 2)))] ty1 h1 r1 g1 (fun (v2 : Option Value) (ty2 : pv_T) (h2 : pv_H) (r2 : pv_R) (g2 : pv_G) => ∃ w2 : Int32, v2 = some (.int w2) ∧ pv_Lay ty2 r2 ∧ ((w1 = w2 → pv_E Γ d kc ks mL_law 18 [some (.ref 1), some (.ref 100), some (.ref 200), some (.int (x3 + 6))] [] ty2 h2 r2 g2 Q) ∧ (¬ w1 = w2 → Q (some (.int 0)) ty2 h2 r2 g2))))) : pv_E Γ d kc ks mL_law 751 [some (.ref 1), some (.ref 100), some (.ref 200), some (.int x3)] [] ty h r g Q := by
  refine pv_aload_n dL_law_751 rfl ?_
  refine pv_aload_n dL_law_752 rfl ?_
  refine pv_iload_n dL_law_753 rfl ?_
  refine pv_iconst (v := 1) (by decide) dL_law_754 ?_
  refine pv_iadd dL_law_755 ?_
  obtain ⟨q1, F⟩ := F
  obtain ⟨q1n, q1t, q1i⟩ := q1
  refine pv_sld dL_law_756 q1t q1i ?_
  refine pv_aload_n dL_law_757 rfl ?_
  refine pv_iload_n dL_law_758 rfl ?_
  refine pv_iconst (v := 2) (by decide) dL_law_759 ?_
  refine pv_iadd dL_law_760 ?_
  obtain ⟨q2, F⟩ := F
  obtain ⟨q2n, q2t, q2i⟩ := q2
  refine pv_sld dL_law_761 q2t q2i ?_
  refine pv_invV (As := [.int (pv_xs Γ (Int32.toNatClampNeg (x3 + 1))), .int (pv_xs Γ (Int32.toNatClampNeg (x3 + 2)))]) (d' := d - 1) dL_law_762 moX11_wear ml_L_86 (lt_100 hL) (Or.inl ⟨_, rfl, rfl⟩) (Nat.le_of_ble_eq_true rfl) (by omega) (Nat.zero_le _) (Nat.zero_le _) F (fun v1 ty1 h1 r1 g1 F => ?_) rfl
  obtain ⟨w1, rfl, F⟩ := F
  obtain ⟨hL1, F⟩ := F
  refine pv_pc (pc' := 765) rfl ?_
  show pv_E Γ d kc ks mL_law 765 [some (.ref 1), some (.ref 100), some (.ref 200), some (.int x3)] [.int w1] ty1 h1 r1 g1 Q
  refine pv_aload_n dL_law_765 rfl ?_
  refine pv_aload_n dL_law_766 rfl ?_
  refine pv_iload_n dL_law_767 rfl ?_
  refine pv_iconst (v := 1) (by decide) dL_law_768 ?_
  refine pv_iadd dL_law_769 ?_
  obtain ⟨q3, F⟩ := F
  obtain ⟨q3n, q3t, q3i⟩ := q3
  refine pv_sld dL_law_770 q3t q3i ?_
  refine pv_aload_n dL_law_771 rfl ?_
  refine pv_iload_n dL_law_772 rfl ?_
  refine pv_iconst (v := 2) (by decide) dL_law_773 ?_
  refine pv_iadd dL_law_774 ?_
  obtain ⟨q4, F⟩ := F
  obtain ⟨q4n, q4t, q4i⟩ := q4
  refine pv_sld dL_law_775 q4t q4i ?_
  refine pv_invV (As := [.int (pv_xs Γ (Int32.toNatClampNeg (x3 + 1))), .int (pv_xs Γ (Int32.toNatClampNeg (x3 + 2)))]) (d' := d - 1) dL_law_776 moX12_wear ml_L_89 (lt_200 hL1) (Or.inl ⟨_, rfl, rfl⟩) (Nat.le_of_ble_eq_true rfl) (by omega) (Nat.zero_le _) (Nat.zero_le _) F (fun v2 ty2 h2 r2 g2 F => ?_) rfl
  obtain ⟨w2, rfl, F⟩ := F
  obtain ⟨hL2, F⟩ := F
  refine pv_pc (pc' := 779) rfl ?_
  show pv_E Γ d kc ks mL_law 779 [some (.ref 1), some (.ref 100), some (.ref 200), some (.int x3)] [.int w2, .int w1] ty2 h2 r2 g2 Q
  refine pv_icmp_eq (tgt := 1534) dL_law_779 (by decide) (fun c1 => ?_) (fun c1 => ?_)
  · have F := F.1 c1
    refine pv_iinc (v := x3 + 6) (ls' := [some (.ref 1), some (.ref 100), some (.ref 200), some (.int (x3 + 6))]) dL_law_1534 rfl (by rfl) rfl rfl ?_
    refine pv_goto (tgt := 18) dL_law_1537 (by decide) ?_
    exact F
  · have F := F.2 c1
    refine pv_iconst (v := 0) (by decide) dL_law_782 ?_
    exact pv_ireturn dL_law_783 rfl (by decide) F
set_option maxRecDepth 20000 in
set_option maxHeartbeats 4000000 in
theorem sg_L_law_784 {Γ : pv_C} {d kc ks : Nat} {ty : pv_T} {h : pv_H} {r : pv_R} {g : pv_G} {Q : pv_Q} (x3 : Int32) (hd : 1 ≤ d) (hL : pv_Lay ty r) (F : pv_inb ty 1 20 (x3 + 1) ∧ pv_inb ty 1 20 (x3 + 2) ∧ pv_inb ty 1 20 (x3 + 3) ∧ pv_inb ty 1 20 (x3 + 4) ∧ pv_CT Γ (d - 1) 0 0 mX11_cost [.ref 100, .int (pv_xs Γ (Int32.toNatClampNeg (x3 + 1))), .int (pv_xs Γ (Int32.toNatClampNeg (x3 + 2))), .int (pv_xs Γ (Int32.toNatClampNeg (x3 + 3))), .int (pv_xs Γ (Int32.toNatClampNeg (x3 + 4)))] ty h r g (fun (v1 : Option Value) (ty1 : pv_T) (h1 : pv_H) (r1 : pv_R) (g1 : pv_G) => ∃ w1 : Int32, v1 = some (.int w1) ∧ pv_Lay ty1 r1 ∧ pv_inb ty1 1 20 (x3 + 1) ∧ pv_inb ty1 1 20 (x3 + 2) ∧ pv_inb ty1 1 20 (x3 + 3) ∧ pv_inb ty1 1 20 (x3 + 4) ∧ pv_CT Γ (d - 1) 0 0 mX12_cost [.ref 200, .int (pv_xs Γ (Int32.toNatClampNeg (x3 + 1))), .int (pv_xs Γ (Int32.toNatClampNeg (x3 + 2))), .int (pv_xs Γ (Int32.toNatClampNeg (x3 + 3))), .int (pv_xs Γ (Int32.toNatClampNeg (x3 + 4)))] ty1 h1 r1 g1 (fun (v2 : Option Value) (ty2 : pv_T) (h2 : pv_H) (r2 : pv_R) (g2 : pv_G) => ∃ w2 : Int32, v2 = some (.int w2) ∧ pv_Lay ty2 r2 ∧ ((w1 = w2 → pv_E Γ d kc ks mL_law 18 [some (.ref 1), some (.ref 100), some (.ref 200), some (.int (x3 + 6))] [] ty2 h2 r2 g2 Q) ∧ (¬ w1 = w2 → Q (some (.int 0)) ty2 h2 r2 g2))))) : pv_E Γ d kc ks mL_law 784 [some (.ref 1), some (.ref 100), some (.ref 200), some (.int x3)] [] ty h r g Q := by
  refine pv_aload_n dL_law_784 rfl ?_
  refine pv_aload_n dL_law_785 rfl ?_
  refine pv_iload_n dL_law_786 rfl ?_
  refine pv_iconst (v := 1) (by decide) dL_law_787 ?_
  refine pv_iadd dL_law_788 ?_
  obtain ⟨q1, F⟩ := F
  obtain ⟨q1n, q1t, q1i⟩ := q1
  refine pv_sld dL_law_789 q1t q1i ?_
  refine pv_aload_n dL_law_790 rfl ?_
  refine pv_iload_n dL_law_791 rfl ?_
  refine pv_iconst (v := 2) (by decide) dL_law_792 ?_
  refine pv_iadd dL_law_793 ?_
  obtain ⟨q2, F⟩ := F
  obtain ⟨q2n, q2t, q2i⟩ := q2
  refine pv_sld dL_law_794 q2t q2i ?_
  refine pv_aload_n dL_law_795 rfl ?_
  refine pv_iload_n dL_law_796 rfl ?_
  refine pv_iconst (v := 3) (by decide) dL_law_797 ?_
  refine pv_iadd dL_law_798 ?_
  obtain ⟨q3, F⟩ := F
  obtain ⟨q3n, q3t, q3i⟩ := q3
  refine pv_sld dL_law_799 q3t q3i ?_
  refine pv_aload_n dL_law_800 rfl ?_
  refine pv_iload_n dL_law_801 rfl ?_
  refine pv_iconst (v := 4) (by decide) dL_law_802 ?_
  refine pv_iadd dL_law_803 ?_
  obtain ⟨q4, F⟩ := F
  obtain ⟨q4n, q4t, q4i⟩ := q4
  refine pv_sld dL_law_804 q4t q4i ?_
  refine pv_invV (As := [.int (pv_xs Γ (Int32.toNatClampNeg (x3 + 1))), .int (pv_xs Γ (Int32.toNatClampNeg (x3 + 2))), .int (pv_xs Γ (Int32.toNatClampNeg (x3 + 3))), .int (pv_xs Γ (Int32.toNatClampNeg (x3 + 4)))]) (d' := d - 1) dL_law_805 moX11_cost ml_L_90 (lt_100 hL) (Or.inl ⟨_, rfl, rfl⟩) (Nat.le_of_ble_eq_true rfl) (by omega) (Nat.zero_le _) (Nat.zero_le _) F (fun v1 ty1 h1 r1 g1 F => ?_) rfl
  obtain ⟨w1, rfl, F⟩ := F
  obtain ⟨hL1, F⟩ := F
  refine pv_pc (pc' := 808) rfl ?_
  show pv_E Γ d kc ks mL_law 808 [some (.ref 1), some (.ref 100), some (.ref 200), some (.int x3)] [.int w1] ty1 h1 r1 g1 Q
  refine pv_aload_n dL_law_808 rfl ?_
  refine pv_aload_n dL_law_809 rfl ?_
  refine pv_iload_n dL_law_810 rfl ?_
  refine pv_iconst (v := 1) (by decide) dL_law_811 ?_
  refine pv_iadd dL_law_812 ?_
  obtain ⟨q5, F⟩ := F
  obtain ⟨q5n, q5t, q5i⟩ := q5
  refine pv_sld dL_law_813 q5t q5i ?_
  refine pv_aload_n dL_law_814 rfl ?_
  refine pv_iload_n dL_law_815 rfl ?_
  refine pv_iconst (v := 2) (by decide) dL_law_816 ?_
  refine pv_iadd dL_law_817 ?_
  obtain ⟨q6, F⟩ := F
  obtain ⟨q6n, q6t, q6i⟩ := q6
  refine pv_sld dL_law_818 q6t q6i ?_
  refine pv_aload_n dL_law_819 rfl ?_
  refine pv_iload_n dL_law_820 rfl ?_
  refine pv_iconst (v := 3) (by decide) dL_law_821 ?_
  refine pv_iadd dL_law_822 ?_
  obtain ⟨q7, F⟩ := F
  obtain ⟨q7n, q7t, q7i⟩ := q7
  refine pv_sld dL_law_823 q7t q7i ?_
  refine pv_aload_n dL_law_824 rfl ?_
  refine pv_iload_n dL_law_825 rfl ?_
  refine pv_iconst (v := 4) (by decide) dL_law_826 ?_
  refine pv_iadd dL_law_827 ?_
  obtain ⟨q8, F⟩ := F
  obtain ⟨q8n, q8t, q8i⟩ := q8
  refine pv_sld dL_law_828 q8t q8i ?_
  refine pv_invV (As := [.int (pv_xs Γ (Int32.toNatClampNeg (x3 + 1))), .int (pv_xs Γ (Int32.toNatClampNeg (x3 + 2))), .int (pv_xs Γ (Int32.toNatClampNeg (x3 + 3))), .int (pv_xs Γ (Int32.toNatClampNeg (x3 + 4)))]) (d' := d - 1) dL_law_829 moX12_cost ml_L_93 (lt_200 hL1) (Or.inl ⟨_, rfl, rfl⟩) (Nat.le_of_ble_eq_true rfl) (by omega) (Nat.zero_le _) (Nat.zero_le _) F (fun v2 ty2 h2 r2 g2 F => ?_) rfl
  obtain ⟨w2, rfl, F⟩ := F
  obtain ⟨hL2, F⟩ := F
  refine pv_pc (pc' := 832) rfl ?_
  show pv_E Γ d kc ks mL_law 832 [some (.ref 1), some (.ref 100), some (.ref 200), some (.int x3)] [.int w2, .int w1] ty2 h2 r2 g2 Q
  refine pv_icmp_eq (tgt := 1534) dL_law_832 (by decide) (fun c1 => ?_) (fun c1 => ?_)
  · have F := F.1 c1
    refine pv_iinc (v := x3 + 6) (ls' := [some (.ref 1), some (.ref 100), some (.ref 200), some (.int (x3 + 6))]) dL_law_1534 rfl (by rfl) rfl rfl ?_
    refine pv_goto (tgt := 18) dL_law_1537 (by decide) ?_
    exact F
  · have F := F.2 c1
    refine pv_iconst (v := 0) (by decide) dL_law_835 ?_
    exact pv_ireturn dL_law_836 rfl (by decide) F
set_option maxRecDepth 20000 in
set_option maxHeartbeats 4000000 in
theorem sg_L_law_837 {Γ : pv_C} {d kc ks : Nat} {ty : pv_T} {h : pv_H} {r : pv_R} {g : pv_G} {Q : pv_Q} (x3 : Int32) (hd : 1 ≤ d) (hL : pv_Lay ty r) (F : pv_inb ty 1 20 (x3 + 1) ∧ pv_inb ty 1 20 (x3 + 2) ∧ pv_inb ty 1 20 (x3 + 3) ∧ pv_inb ty 1 20 (x3 + 4) ∧ pv_inb ty 1 20 (x3 + 5) ∧ pv_CT Γ (d - 1) 0 0 mX11_plan [.ref 100, .int (pv_xs Γ (Int32.toNatClampNeg (x3 + 1))), .int (pv_xs Γ (Int32.toNatClampNeg (x3 + 2))), .int (pv_xs Γ (Int32.toNatClampNeg (x3 + 3))), .int (pv_xs Γ (Int32.toNatClampNeg (x3 + 4))), .int (pv_xs Γ (Int32.toNatClampNeg (x3 + 5)))] ty h r g (fun (v1 : Option Value) (ty1 : pv_T) (h1 : pv_H) (r1 : pv_R) (g1 : pv_G) => ∃ w1 : Int32, v1 = some (.int w1) ∧ pv_Lay ty1 r1 ∧ pv_inb ty1 1 20 (x3 + 1) ∧ pv_inb ty1 1 20 (x3 + 2) ∧ pv_inb ty1 1 20 (x3 + 3) ∧ pv_inb ty1 1 20 (x3 + 4) ∧ pv_inb ty1 1 20 (x3 + 5) ∧ pv_CT Γ (d - 1) 0 0 mX12_plan [.ref 200, .int (pv_xs Γ (Int32.toNatClampNeg (x3 + 1))), .int (pv_xs Γ (Int32.toNatClampNeg (x3 + 2))), .int (pv_xs Γ (Int32.toNatClampNeg (x3 + 3))), .int (pv_xs Γ (Int32.toNatClampNeg (x3 + 4))), .int (pv_xs Γ (Int32.toNatClampNeg (x3 + 5)))] ty1 h1 r1 g1 (fun (v2 : Option Value) (ty2 : pv_T) (h2 : pv_H) (r2 : pv_R) (g2 : pv_G) => ∃ w2 : Int32, v2 = some (.int w2) ∧ pv_Lay ty2 r2 ∧ ((w1 = w2 → pv_E Γ d kc ks mL_law 18 [some (.ref 1), some (.ref 100), some (.ref 200), some (.int (x3 + 6))] [] ty2 h2 r2 g2 Q) ∧ (¬ w1 = w2 → Q (some (.int 0)) ty2 h2 r2 g2))))) : pv_E Γ d kc ks mL_law 837 [some (.ref 1), some (.ref 100), some (.ref 200), some (.int x3)] [] ty h r g Q := by
  refine pv_aload_n dL_law_837 rfl ?_
  refine pv_aload_n dL_law_838 rfl ?_
  refine pv_iload_n dL_law_839 rfl ?_
  refine pv_iconst (v := 1) (by decide) dL_law_840 ?_
  refine pv_iadd dL_law_841 ?_
  obtain ⟨q1, F⟩ := F
  obtain ⟨q1n, q1t, q1i⟩ := q1
  refine pv_sld dL_law_842 q1t q1i ?_
  refine pv_aload_n dL_law_843 rfl ?_
  refine pv_iload_n dL_law_844 rfl ?_
  refine pv_iconst (v := 2) (by decide) dL_law_845 ?_
  refine pv_iadd dL_law_846 ?_
  obtain ⟨q2, F⟩ := F
  obtain ⟨q2n, q2t, q2i⟩ := q2
  refine pv_sld dL_law_847 q2t q2i ?_
  refine pv_aload_n dL_law_848 rfl ?_
  refine pv_iload_n dL_law_849 rfl ?_
  refine pv_iconst (v := 3) (by decide) dL_law_850 ?_
  refine pv_iadd dL_law_851 ?_
  obtain ⟨q3, F⟩ := F
  obtain ⟨q3n, q3t, q3i⟩ := q3
  refine pv_sld dL_law_852 q3t q3i ?_
  refine pv_aload_n dL_law_853 rfl ?_
  refine pv_iload_n dL_law_854 rfl ?_
  refine pv_iconst (v := 4) (by decide) dL_law_855 ?_
  refine pv_iadd dL_law_856 ?_
  obtain ⟨q4, F⟩ := F
  obtain ⟨q4n, q4t, q4i⟩ := q4
  refine pv_sld dL_law_857 q4t q4i ?_
  refine pv_aload_n dL_law_858 rfl ?_
  refine pv_iload_n dL_law_859 rfl ?_
  refine pv_iconst (v := 5) (by decide) dL_law_860 ?_
  refine pv_iadd dL_law_861 ?_
  obtain ⟨q5, F⟩ := F
  obtain ⟨q5n, q5t, q5i⟩ := q5
  refine pv_sld dL_law_862 q5t q5i ?_
  refine pv_invV (As := [.int (pv_xs Γ (Int32.toNatClampNeg (x3 + 1))), .int (pv_xs Γ (Int32.toNatClampNeg (x3 + 2))), .int (pv_xs Γ (Int32.toNatClampNeg (x3 + 3))), .int (pv_xs Γ (Int32.toNatClampNeg (x3 + 4))), .int (pv_xs Γ (Int32.toNatClampNeg (x3 + 5)))]) (d' := d - 1) dL_law_863 moX11_plan ml_L_94 (lt_100 hL) (Or.inl ⟨_, rfl, rfl⟩) (Nat.le_of_ble_eq_true rfl) (by omega) (Nat.zero_le _) (Nat.zero_le _) F (fun v1 ty1 h1 r1 g1 F => ?_) rfl
  obtain ⟨w1, rfl, F⟩ := F
  obtain ⟨hL1, F⟩ := F
  refine pv_pc (pc' := 866) rfl ?_
  show pv_E Γ d kc ks mL_law 866 [some (.ref 1), some (.ref 100), some (.ref 200), some (.int x3)] [.int w1] ty1 h1 r1 g1 Q
  refine pv_aload_n dL_law_866 rfl ?_
  refine pv_aload_n dL_law_867 rfl ?_
  refine pv_iload_n dL_law_868 rfl ?_
  refine pv_iconst (v := 1) (by decide) dL_law_869 ?_
  refine pv_iadd dL_law_870 ?_
  obtain ⟨q6, F⟩ := F
  obtain ⟨q6n, q6t, q6i⟩ := q6
  refine pv_sld dL_law_871 q6t q6i ?_
  refine pv_aload_n dL_law_872 rfl ?_
  refine pv_iload_n dL_law_873 rfl ?_
  refine pv_iconst (v := 2) (by decide) dL_law_874 ?_
  refine pv_iadd dL_law_875 ?_
  obtain ⟨q7, F⟩ := F
  obtain ⟨q7n, q7t, q7i⟩ := q7
  refine pv_sld dL_law_876 q7t q7i ?_
  refine pv_aload_n dL_law_877 rfl ?_
  refine pv_iload_n dL_law_878 rfl ?_
  refine pv_iconst (v := 3) (by decide) dL_law_879 ?_
  refine pv_iadd dL_law_880 ?_
  obtain ⟨q8, F⟩ := F
  obtain ⟨q8n, q8t, q8i⟩ := q8
  refine pv_sld dL_law_881 q8t q8i ?_
  refine pv_aload_n dL_law_882 rfl ?_
  refine pv_iload_n dL_law_883 rfl ?_
  refine pv_iconst (v := 4) (by decide) dL_law_884 ?_
  refine pv_iadd dL_law_885 ?_
  obtain ⟨q9, F⟩ := F
  obtain ⟨q9n, q9t, q9i⟩ := q9
  refine pv_sld dL_law_886 q9t q9i ?_
  refine pv_aload_n dL_law_887 rfl ?_
  refine pv_iload_n dL_law_888 rfl ?_
  refine pv_iconst (v := 5) (by decide) dL_law_889 ?_
  refine pv_iadd dL_law_890 ?_
  obtain ⟨q10, F⟩ := F
  obtain ⟨q10n, q10t, q10i⟩ := q10
  refine pv_sld dL_law_891 q10t q10i ?_
  refine pv_invV (As := [.int (pv_xs Γ (Int32.toNatClampNeg (x3 + 1))), .int (pv_xs Γ (Int32.toNatClampNeg (x3 + 2))), .int (pv_xs Γ (Int32.toNatClampNeg (x3 + 3))), .int (pv_xs Γ (Int32.toNatClampNeg (x3 + 4))), .int (pv_xs Γ (Int32.toNatClampNeg (x3 + 5)))]) (d' := d - 1) dL_law_892 moX12_plan ml_L_98 (lt_200 hL1) (Or.inl ⟨_, rfl, rfl⟩) (Nat.le_of_ble_eq_true rfl) (by omega) (Nat.zero_le _) (Nat.zero_le _) F (fun v2 ty2 h2 r2 g2 F => ?_) rfl
  obtain ⟨w2, rfl, F⟩ := F
  obtain ⟨hL2, F⟩ := F
  refine pv_pc (pc' := 895) rfl ?_
  show pv_E Γ d kc ks mL_law 895 [some (.ref 1), some (.ref 100), some (.ref 200), some (.int x3)] [.int w2, .int w1] ty2 h2 r2 g2 Q
  refine pv_icmp_eq (tgt := 1534) dL_law_895 (by decide) (fun c1 => ?_) (fun c1 => ?_)
  · have F := F.1 c1
    refine pv_iinc (v := x3 + 6) (ls' := [some (.ref 1), some (.ref 100), some (.ref 200), some (.int (x3 + 6))]) dL_law_1534 rfl (by rfl) rfl rfl ?_
    refine pv_goto (tgt := 18) dL_law_1537 (by decide) ?_
    exact F
  · have F := F.2 c1
    refine pv_iconst (v := 0) (by decide) dL_law_898 ?_
    exact pv_ireturn dL_law_899 rfl (by decide) F
set_option maxRecDepth 20000 in
set_option maxHeartbeats 4000000 in
theorem sg_L_law_900 {Γ : pv_C} {d kc ks : Nat} {ty : pv_T} {h : pv_H} {r : pv_R} {g : pv_G} {Q : pv_Q} (x3 : Int32) (hd : 1 ≤ d) (hL : pv_Lay ty r) (F : pv_inb ty 1 20 (x3 + 1) ∧ pv_CT Γ (d - 1) 0 0 mX11_planned [.ref 100, .int (pv_xs Γ (Int32.toNatClampNeg (x3 + 1)))] ty h r g (fun (v1 : Option Value) (ty1 : pv_T) (h1 : pv_H) (r1 : pv_R) (g1 : pv_G) => ∃ w1 : Int32, v1 = some (.int w1) ∧ pv_Lay ty1 r1 ∧ pv_inb ty1 1 20 (x3 + 1) ∧ pv_CT Γ (d - 1) 0 0 mX12_planned [.ref 200, .int (pv_xs Γ (Int32.toNatClampNeg (x3 + 1)))] ty1 h1 r1 g1 (fun (v2 : Option Value) (ty2 : pv_T) (h2 : pv_H) (r2 : pv_R) (g2 : pv_G) => ∃ w2 : Int32, v2 = some (.int w2) ∧ pv_Lay ty2 r2 ∧ ((w1 = w2 → pv_E Γ d kc ks mL_law 18 [some (.ref 1), some (.ref 100), some (.ref 200), some (.int (x3 + 6))] [] ty2 h2 r2 g2 Q) ∧ (¬ w1 = w2 → Q (some (.int 0)) ty2 h2 r2 g2))))) : pv_E Γ d kc ks mL_law 900 [some (.ref 1), some (.ref 100), some (.ref 200), some (.int x3)] [] ty h r g Q := by
  refine pv_aload_n dL_law_900 rfl ?_
  refine pv_aload_n dL_law_901 rfl ?_
  refine pv_iload_n dL_law_902 rfl ?_
  refine pv_iconst (v := 1) (by decide) dL_law_903 ?_
  refine pv_iadd dL_law_904 ?_
  obtain ⟨q1, F⟩ := F
  obtain ⟨q1n, q1t, q1i⟩ := q1
  refine pv_sld dL_law_905 q1t q1i ?_
  refine pv_invV (As := [.int (pv_xs Γ (Int32.toNatClampNeg (x3 + 1)))]) (d' := d - 1) dL_law_906 moX11_planned ml_L_99 (lt_100 hL) (Or.inl ⟨_, rfl, rfl⟩) (Nat.le_of_ble_eq_true rfl) (by omega) (Nat.zero_le _) (Nat.zero_le _) F (fun v1 ty1 h1 r1 g1 F => ?_) rfl
  obtain ⟨w1, rfl, F⟩ := F
  obtain ⟨hL1, F⟩ := F
  refine pv_pc (pc' := 909) rfl ?_
  show pv_E Γ d kc ks mL_law 909 [some (.ref 1), some (.ref 100), some (.ref 200), some (.int x3)] [.int w1] ty1 h1 r1 g1 Q
  refine pv_aload_n dL_law_909 rfl ?_
  refine pv_aload_n dL_law_910 rfl ?_
  refine pv_iload_n dL_law_911 rfl ?_
  refine pv_iconst (v := 1) (by decide) dL_law_912 ?_
  refine pv_iadd dL_law_913 ?_
  obtain ⟨q2, F⟩ := F
  obtain ⟨q2n, q2t, q2i⟩ := q2
  refine pv_sld dL_law_914 q2t q2i ?_
  refine pv_invV (As := [.int (pv_xs Γ (Int32.toNatClampNeg (x3 + 1)))]) (d' := d - 1) dL_law_915 moX12_planned ml_L_102 (lt_200 hL1) (Or.inl ⟨_, rfl, rfl⟩) (Nat.le_of_ble_eq_true rfl) (by omega) (Nat.zero_le _) (Nat.zero_le _) F (fun v2 ty2 h2 r2 g2 F => ?_) rfl
  obtain ⟨w2, rfl, F⟩ := F
  obtain ⟨hL2, F⟩ := F
  refine pv_pc (pc' := 918) rfl ?_
  show pv_E Γ d kc ks mL_law 918 [some (.ref 1), some (.ref 100), some (.ref 200), some (.int x3)] [.int w2, .int w1] ty2 h2 r2 g2 Q
  refine pv_icmp_eq (tgt := 1534) dL_law_918 (by decide) (fun c1 => ?_) (fun c1 => ?_)
  · have F := F.1 c1
    refine pv_iinc (v := x3 + 6) (ls' := [some (.ref 1), some (.ref 100), some (.ref 200), some (.int (x3 + 6))]) dL_law_1534 rfl (by rfl) rfl rfl ?_
    refine pv_goto (tgt := 18) dL_law_1537 (by decide) ?_
    exact F
  · have F := F.2 c1
    refine pv_iconst (v := 0) (by decide) dL_law_921 ?_
    exact pv_ireturn dL_law_922 rfl (by decide) F
set_option maxRecDepth 20000 in
set_option maxHeartbeats 4000000 in
theorem sg_L_law_923 {Γ : pv_C} {d kc ks : Nat} {ty : pv_T} {h : pv_H} {r : pv_R} {g : pv_G} {Q : pv_Q} (x3 : Int32) (hd : 1 ≤ d) (hL : pv_Lay ty r) (F : pv_inb ty 1 20 (x3 + 1) ∧ pv_inb ty 1 20 (x3 + 2) ∧ pv_inb ty 1 20 (x3 + 3) ∧ 1 ≤ kc ∧ 5 ≤ ks ∧ pv_CT Γ (d - 1) 1 5 mX11_house [.ref 100, .int (pv_xs Γ (Int32.toNatClampNeg (x3 + 1))), .int (pv_xs Γ (Int32.toNatClampNeg (x3 + 2))), .int (pv_xs Γ (Int32.toNatClampNeg (x3 + 3)))] ty h r g (fun (v1 : Option Value) (ty1 : pv_T) (h1 : pv_H) (r1 : pv_R) (g1 : pv_G) => ∃ w1 : Int32, v1 = some (.int w1) ∧ pv_Lay ty1 r1 ∧ pv_inb ty1 1 20 (x3 + 1) ∧ pv_inb ty1 1 20 (x3 + 2) ∧ pv_inb ty1 1 20 (x3 + 3) ∧ pv_CT Γ (d - 1) 0 0 mX12_house [.ref 200, .int (pv_xs Γ (Int32.toNatClampNeg (x3 + 1))), .int (pv_xs Γ (Int32.toNatClampNeg (x3 + 2))), .int (pv_xs Γ (Int32.toNatClampNeg (x3 + 3)))] ty1 h1 r1 g1 (fun (v2 : Option Value) (ty2 : pv_T) (h2 : pv_H) (r2 : pv_R) (g2 : pv_G) => ∃ w2 : Int32, v2 = some (.int w2) ∧ pv_Lay ty2 r2 ∧ ((w1 = w2 → pv_E Γ d (kc - 1) (ks - 5) mL_law 18 [some (.ref 1), some (.ref 100), some (.ref 200), some (.int (x3 + 6))] [] ty2 h2 r2 g2 Q) ∧ (¬ w1 = w2 → Q (some (.int 0)) ty2 h2 r2 g2))))) : pv_E Γ d kc ks mL_law 923 [some (.ref 1), some (.ref 100), some (.ref 200), some (.int x3)] [] ty h r g Q := by
  refine pv_aload_n dL_law_923 rfl ?_
  refine pv_aload_n dL_law_924 rfl ?_
  refine pv_iload_n dL_law_925 rfl ?_
  refine pv_iconst (v := 1) (by decide) dL_law_926 ?_
  refine pv_iadd dL_law_927 ?_
  obtain ⟨q1, F⟩ := F
  obtain ⟨q1n, q1t, q1i⟩ := q1
  refine pv_sld dL_law_928 q1t q1i ?_
  refine pv_aload_n dL_law_929 rfl ?_
  refine pv_iload_n dL_law_930 rfl ?_
  refine pv_iconst (v := 2) (by decide) dL_law_931 ?_
  refine pv_iadd dL_law_932 ?_
  obtain ⟨q2, F⟩ := F
  obtain ⟨q2n, q2t, q2i⟩ := q2
  refine pv_sld dL_law_933 q2t q2i ?_
  refine pv_aload_n dL_law_934 rfl ?_
  refine pv_iload_n dL_law_935 rfl ?_
  refine pv_iconst (v := 3) (by decide) dL_law_936 ?_
  refine pv_iadd dL_law_937 ?_
  obtain ⟨q3, F⟩ := F
  obtain ⟨q3n, q3t, q3i⟩ := q3
  refine pv_sld dL_law_938 q3t q3i ?_
  obtain ⟨q4a, q4b, F⟩ := F
  refine pv_invV (As := [.int (pv_xs Γ (Int32.toNatClampNeg (x3 + 1))), .int (pv_xs Γ (Int32.toNatClampNeg (x3 + 2))), .int (pv_xs Γ (Int32.toNatClampNeg (x3 + 3)))]) (d' := d - 1) dL_law_939 moX11_house ml_L_103 (lt_100 hL) (Or.inl ⟨_, rfl, rfl⟩) (Nat.le_of_ble_eq_true rfl) (by omega) q4a q4b F (fun v1 ty1 h1 r1 g1 F => ?_) rfl
  obtain ⟨w1, rfl, F⟩ := F
  obtain ⟨hL1, F⟩ := F
  refine pv_pc (pc' := 942) rfl ?_
  show pv_E Γ d (kc - 1) (ks - 5) mL_law 942 [some (.ref 1), some (.ref 100), some (.ref 200), some (.int x3)] [.int w1] ty1 h1 r1 g1 Q
  refine pv_aload_n dL_law_942 rfl ?_
  refine pv_aload_n dL_law_943 rfl ?_
  refine pv_iload_n dL_law_944 rfl ?_
  refine pv_iconst (v := 1) (by decide) dL_law_945 ?_
  refine pv_iadd dL_law_946 ?_
  obtain ⟨q5, F⟩ := F
  obtain ⟨q5n, q5t, q5i⟩ := q5
  refine pv_sld dL_law_947 q5t q5i ?_
  refine pv_aload_n dL_law_948 rfl ?_
  refine pv_iload_n dL_law_949 rfl ?_
  refine pv_iconst (v := 2) (by decide) dL_law_950 ?_
  refine pv_iadd dL_law_951 ?_
  obtain ⟨q6, F⟩ := F
  obtain ⟨q6n, q6t, q6i⟩ := q6
  refine pv_sld dL_law_952 q6t q6i ?_
  refine pv_aload_n dL_law_953 rfl ?_
  refine pv_iload_n dL_law_954 rfl ?_
  refine pv_iconst (v := 3) (by decide) dL_law_955 ?_
  refine pv_iadd dL_law_956 ?_
  obtain ⟨q7, F⟩ := F
  obtain ⟨q7n, q7t, q7i⟩ := q7
  refine pv_sld dL_law_957 q7t q7i ?_
  refine pv_invV (As := [.int (pv_xs Γ (Int32.toNatClampNeg (x3 + 1))), .int (pv_xs Γ (Int32.toNatClampNeg (x3 + 2))), .int (pv_xs Γ (Int32.toNatClampNeg (x3 + 3)))]) (d' := d - 1) dL_law_958 moX12_house ml_L_106 (lt_200 hL1) (Or.inl ⟨_, rfl, rfl⟩) (Nat.le_of_ble_eq_true rfl) (by omega) (Nat.zero_le _) (Nat.zero_le _) F (fun v2 ty2 h2 r2 g2 F => ?_) rfl
  obtain ⟨w2, rfl, F⟩ := F
  obtain ⟨hL2, F⟩ := F
  refine pv_pc (pc' := 961) rfl ?_
  show pv_E Γ d (kc - 1) (ks - 5) mL_law 961 [some (.ref 1), some (.ref 100), some (.ref 200), some (.int x3)] [.int w2, .int w1] ty2 h2 r2 g2 Q
  refine pv_icmp_eq (tgt := 1534) dL_law_961 (by decide) (fun c1 => ?_) (fun c1 => ?_)
  · have F := F.1 c1
    refine pv_iinc (v := x3 + 6) (ls' := [some (.ref 1), some (.ref 100), some (.ref 200), some (.int (x3 + 6))]) dL_law_1534 rfl (by rfl) rfl rfl ?_
    refine pv_goto (tgt := 18) dL_law_1537 (by decide) ?_
    exact F
  · have F := F.2 c1
    refine pv_iconst (v := 0) (by decide) dL_law_964 ?_
    exact pv_ireturn dL_law_965 rfl (by decide) F
set_option maxRecDepth 20000 in
set_option maxHeartbeats 4000000 in
theorem sg_L_law_966 {Γ : pv_C} {d kc ks : Nat} {ty : pv_T} {h : pv_H} {r : pv_R} {g : pv_G} {Q : pv_Q} (x3 : Int32) (hd : 1 ≤ d) (hL : pv_Lay ty r) (F : pv_inb ty 1 20 (x3 + 1) ∧ pv_CT Γ (d - 1) 0 0 mX11_days [.ref 100, .int (pv_xs Γ (Int32.toNatClampNeg (x3 + 1)))] ty h r g (fun (v1 : Option Value) (ty1 : pv_T) (h1 : pv_H) (r1 : pv_R) (g1 : pv_G) => ∃ w1 : Int32, v1 = some (.int w1) ∧ pv_Lay ty1 r1 ∧ pv_inb ty1 1 20 (x3 + 1) ∧ pv_CT Γ (d - 1) 0 0 mX12_days [.ref 200, .int (pv_xs Γ (Int32.toNatClampNeg (x3 + 1)))] ty1 h1 r1 g1 (fun (v2 : Option Value) (ty2 : pv_T) (h2 : pv_H) (r2 : pv_R) (g2 : pv_G) => ∃ w2 : Int32, v2 = some (.int w2) ∧ pv_Lay ty2 r2 ∧ ((w1 = w2 → pv_E Γ d kc ks mL_law 18 [some (.ref 1), some (.ref 100), some (.ref 200), some (.int (x3 + 6))] [] ty2 h2 r2 g2 Q) ∧ (¬ w1 = w2 → Q (some (.int 0)) ty2 h2 r2 g2))))) : pv_E Γ d kc ks mL_law 966 [some (.ref 1), some (.ref 100), some (.ref 200), some (.int x3)] [] ty h r g Q := by
  refine pv_aload_n dL_law_966 rfl ?_
  refine pv_aload_n dL_law_967 rfl ?_
  refine pv_iload_n dL_law_968 rfl ?_
  refine pv_iconst (v := 1) (by decide) dL_law_969 ?_
  refine pv_iadd dL_law_970 ?_
  obtain ⟨q1, F⟩ := F
  obtain ⟨q1n, q1t, q1i⟩ := q1
  refine pv_sld dL_law_971 q1t q1i ?_
  refine pv_invV (As := [.int (pv_xs Γ (Int32.toNatClampNeg (x3 + 1)))]) (d' := d - 1) dL_law_972 moX11_days ml_L_107 (lt_100 hL) (Or.inl ⟨_, rfl, rfl⟩) (Nat.le_of_ble_eq_true rfl) (by omega) (Nat.zero_le _) (Nat.zero_le _) F (fun v1 ty1 h1 r1 g1 F => ?_) rfl
  obtain ⟨w1, rfl, F⟩ := F
  obtain ⟨hL1, F⟩ := F
  refine pv_pc (pc' := 975) rfl ?_
  show pv_E Γ d kc ks mL_law 975 [some (.ref 1), some (.ref 100), some (.ref 200), some (.int x3)] [.int w1] ty1 h1 r1 g1 Q
  refine pv_aload_n dL_law_975 rfl ?_
  refine pv_aload_n dL_law_976 rfl ?_
  refine pv_iload_n dL_law_977 rfl ?_
  refine pv_iconst (v := 1) (by decide) dL_law_978 ?_
  refine pv_iadd dL_law_979 ?_
  obtain ⟨q2, F⟩ := F
  obtain ⟨q2n, q2t, q2i⟩ := q2
  refine pv_sld dL_law_980 q2t q2i ?_
  refine pv_invV (As := [.int (pv_xs Γ (Int32.toNatClampNeg (x3 + 1)))]) (d' := d - 1) dL_law_981 moX12_days ml_L_110 (lt_200 hL1) (Or.inl ⟨_, rfl, rfl⟩) (Nat.le_of_ble_eq_true rfl) (by omega) (Nat.zero_le _) (Nat.zero_le _) F (fun v2 ty2 h2 r2 g2 F => ?_) rfl
  obtain ⟨w2, rfl, F⟩ := F
  obtain ⟨hL2, F⟩ := F
  refine pv_pc (pc' := 984) rfl ?_
  show pv_E Γ d kc ks mL_law 984 [some (.ref 1), some (.ref 100), some (.ref 200), some (.int x3)] [.int w2, .int w1] ty2 h2 r2 g2 Q
  refine pv_icmp_eq (tgt := 1534) dL_law_984 (by decide) (fun c1 => ?_) (fun c1 => ?_)
  · have F := F.1 c1
    refine pv_iinc (v := x3 + 6) (ls' := [some (.ref 1), some (.ref 100), some (.ref 200), some (.int (x3 + 6))]) dL_law_1534 rfl (by rfl) rfl rfl ?_
    refine pv_goto (tgt := 18) dL_law_1537 (by decide) ?_
    exact F
  · have F := F.2 c1
    refine pv_iconst (v := 0) (by decide) dL_law_987 ?_
    exact pv_ireturn dL_law_988 rfl (by decide) F
set_option maxRecDepth 20000 in
set_option maxHeartbeats 4000000 in
theorem sg_L_law_989 {Γ : pv_C} {d kc ks : Nat} {ty : pv_T} {h : pv_H} {r : pv_R} {g : pv_G} {Q : pv_Q} (x3 : Int32) (hd : 1 ≤ d) (hL : pv_Lay ty r) (F : pv_inb ty 1 20 (x3 + 1) ∧ pv_inb ty 1 20 (x3 + 2) ∧ pv_CT Γ (d - 1) 0 0 mX11_feed [.ref 100, .int (pv_xs Γ (Int32.toNatClampNeg (x3 + 1))), .int (pv_xs Γ (Int32.toNatClampNeg (x3 + 2)))] ty h r g (fun (v1 : Option Value) (ty1 : pv_T) (h1 : pv_H) (r1 : pv_R) (g1 : pv_G) => ∃ w1 : Int32, v1 = some (.int w1) ∧ pv_Lay ty1 r1 ∧ pv_inb ty1 1 20 (x3 + 1) ∧ pv_inb ty1 1 20 (x3 + 2) ∧ pv_CT Γ (d - 1) 0 0 mX12_feed [.ref 200, .int (pv_xs Γ (Int32.toNatClampNeg (x3 + 1))), .int (pv_xs Γ (Int32.toNatClampNeg (x3 + 2)))] ty1 h1 r1 g1 (fun (v2 : Option Value) (ty2 : pv_T) (h2 : pv_H) (r2 : pv_R) (g2 : pv_G) => ∃ w2 : Int32, v2 = some (.int w2) ∧ pv_Lay ty2 r2 ∧ ((w1 = w2 → pv_E Γ d kc ks mL_law 18 [some (.ref 1), some (.ref 100), some (.ref 200), some (.int (x3 + 6))] [] ty2 h2 r2 g2 Q) ∧ (¬ w1 = w2 → Q (some (.int 0)) ty2 h2 r2 g2))))) : pv_E Γ d kc ks mL_law 989 [some (.ref 1), some (.ref 100), some (.ref 200), some (.int x3)] [] ty h r g Q := by
  refine pv_aload_n dL_law_989 rfl ?_
  refine pv_aload_n dL_law_990 rfl ?_
  refine pv_iload_n dL_law_991 rfl ?_
  refine pv_iconst (v := 1) (by decide) dL_law_992 ?_
  refine pv_iadd dL_law_993 ?_
  obtain ⟨q1, F⟩ := F
  obtain ⟨q1n, q1t, q1i⟩ := q1
  refine pv_sld dL_law_994 q1t q1i ?_
  refine pv_aload_n dL_law_995 rfl ?_
  refine pv_iload_n dL_law_996 rfl ?_
  refine pv_iconst (v := 2) (by decide) dL_law_997 ?_
  refine pv_iadd dL_law_998 ?_
  obtain ⟨q2, F⟩ := F
  obtain ⟨q2n, q2t, q2i⟩ := q2
  refine pv_sld dL_law_999 q2t q2i ?_
  refine pv_invV (As := [.int (pv_xs Γ (Int32.toNatClampNeg (x3 + 1))), .int (pv_xs Γ (Int32.toNatClampNeg (x3 + 2)))]) (d' := d - 1) dL_law_1000 moX11_feed ml_L_111 (lt_100 hL) (Or.inl ⟨_, rfl, rfl⟩) (Nat.le_of_ble_eq_true rfl) (by omega) (Nat.zero_le _) (Nat.zero_le _) F (fun v1 ty1 h1 r1 g1 F => ?_) rfl
  obtain ⟨w1, rfl, F⟩ := F
  obtain ⟨hL1, F⟩ := F
  refine pv_pc (pc' := 1003) rfl ?_
  show pv_E Γ d kc ks mL_law 1003 [some (.ref 1), some (.ref 100), some (.ref 200), some (.int x3)] [.int w1] ty1 h1 r1 g1 Q
  refine pv_aload_n dL_law_1003 rfl ?_
  refine pv_aload_n dL_law_1004 rfl ?_
  refine pv_iload_n dL_law_1005 rfl ?_
  refine pv_iconst (v := 1) (by decide) dL_law_1006 ?_
  refine pv_iadd dL_law_1007 ?_
  obtain ⟨q3, F⟩ := F
  obtain ⟨q3n, q3t, q3i⟩ := q3
  refine pv_sld dL_law_1008 q3t q3i ?_
  refine pv_aload_n dL_law_1009 rfl ?_
  refine pv_iload_n dL_law_1010 rfl ?_
  refine pv_iconst (v := 2) (by decide) dL_law_1011 ?_
  refine pv_iadd dL_law_1012 ?_
  obtain ⟨q4, F⟩ := F
  obtain ⟨q4n, q4t, q4i⟩ := q4
  refine pv_sld dL_law_1013 q4t q4i ?_
  refine pv_invV (As := [.int (pv_xs Γ (Int32.toNatClampNeg (x3 + 1))), .int (pv_xs Γ (Int32.toNatClampNeg (x3 + 2)))]) (d' := d - 1) dL_law_1014 moX12_feed ml_L_114 (lt_200 hL1) (Or.inl ⟨_, rfl, rfl⟩) (Nat.le_of_ble_eq_true rfl) (by omega) (Nat.zero_le _) (Nat.zero_le _) F (fun v2 ty2 h2 r2 g2 F => ?_) rfl
  obtain ⟨w2, rfl, F⟩ := F
  obtain ⟨hL2, F⟩ := F
  refine pv_pc (pc' := 1017) rfl ?_
  show pv_E Γ d kc ks mL_law 1017 [some (.ref 1), some (.ref 100), some (.ref 200), some (.int x3)] [.int w2, .int w1] ty2 h2 r2 g2 Q
  refine pv_icmp_eq (tgt := 1534) dL_law_1017 (by decide) (fun c1 => ?_) (fun c1 => ?_)
  · have F := F.1 c1
    refine pv_iinc (v := x3 + 6) (ls' := [some (.ref 1), some (.ref 100), some (.ref 200), some (.int (x3 + 6))]) dL_law_1534 rfl (by rfl) rfl rfl ?_
    refine pv_goto (tgt := 18) dL_law_1537 (by decide) ?_
    exact F
  · have F := F.2 c1
    refine pv_iconst (v := 0) (by decide) dL_law_1020 ?_
    exact pv_ireturn dL_law_1021 rfl (by decide) F
set_option maxRecDepth 20000 in
set_option maxHeartbeats 4000000 in
theorem sg_L_law_1022 {Γ : pv_C} {d kc ks : Nat} {ty : pv_T} {h : pv_H} {r : pv_R} {g : pv_G} {Q : pv_Q} (x3 : Int32) (hd : 1 ≤ d) (hL : pv_Lay ty r) (F : pv_inb ty 1 20 (x3 + 1) ∧ pv_inb ty 1 20 (x3 + 2) ∧ 2 ≤ kc ∧ 164 ≤ ks ∧ pv_CT Γ (d - 1) 2 164 mX11_act [.ref 100, .int (pv_xs Γ (Int32.toNatClampNeg (x3 + 1))), .int (pv_xs Γ (Int32.toNatClampNeg (x3 + 2)))] ty h r g (fun (v1 : Option Value) (ty1 : pv_T) (h1 : pv_H) (r1 : pv_R) (g1 : pv_G) => ∃ w1 : Int32, v1 = some (.int w1) ∧ pv_Lay ty1 r1 ∧ pv_inb ty1 1 20 (x3 + 1) ∧ pv_inb ty1 1 20 (x3 + 2) ∧ pv_CT Γ (d - 1) 0 0 mX12_act [.ref 200, .int (pv_xs Γ (Int32.toNatClampNeg (x3 + 1))), .int (pv_xs Γ (Int32.toNatClampNeg (x3 + 2)))] ty1 h1 r1 g1 (fun (v2 : Option Value) (ty2 : pv_T) (h2 : pv_H) (r2 : pv_R) (g2 : pv_G) => ∃ w2 : Int32, v2 = some (.int w2) ∧ pv_Lay ty2 r2 ∧ ((w1 = w2 → pv_E Γ d (kc - 2) (ks - 164) mL_law 18 [some (.ref 1), some (.ref 100), some (.ref 200), some (.int (x3 + 6))] [] ty2 h2 r2 g2 Q) ∧ (¬ w1 = w2 → Q (some (.int 0)) ty2 h2 r2 g2))))) : pv_E Γ d kc ks mL_law 1022 [some (.ref 1), some (.ref 100), some (.ref 200), some (.int x3)] [] ty h r g Q := by
  refine pv_aload_n dL_law_1022 rfl ?_
  refine pv_aload_n dL_law_1023 rfl ?_
  refine pv_iload_n dL_law_1024 rfl ?_
  refine pv_iconst (v := 1) (by decide) dL_law_1025 ?_
  refine pv_iadd dL_law_1026 ?_
  obtain ⟨q1, F⟩ := F
  obtain ⟨q1n, q1t, q1i⟩ := q1
  refine pv_sld dL_law_1027 q1t q1i ?_
  refine pv_aload_n dL_law_1028 rfl ?_
  refine pv_iload_n dL_law_1029 rfl ?_
  refine pv_iconst (v := 2) (by decide) dL_law_1030 ?_
  refine pv_iadd dL_law_1031 ?_
  obtain ⟨q2, F⟩ := F
  obtain ⟨q2n, q2t, q2i⟩ := q2
  refine pv_sld dL_law_1032 q2t q2i ?_
  obtain ⟨q3a, q3b, F⟩ := F
  refine pv_invV (As := [.int (pv_xs Γ (Int32.toNatClampNeg (x3 + 1))), .int (pv_xs Γ (Int32.toNatClampNeg (x3 + 2)))]) (d' := d - 1) dL_law_1033 moX11_act ml_L_115 (lt_100 hL) (Or.inl ⟨_, rfl, rfl⟩) (Nat.le_of_ble_eq_true rfl) (by omega) q3a q3b F (fun v1 ty1 h1 r1 g1 F => ?_) rfl
  obtain ⟨w1, rfl, F⟩ := F
  obtain ⟨hL1, F⟩ := F
  refine pv_pc (pc' := 1036) rfl ?_
  show pv_E Γ d (kc - 2) (ks - 164) mL_law 1036 [some (.ref 1), some (.ref 100), some (.ref 200), some (.int x3)] [.int w1] ty1 h1 r1 g1 Q
  refine pv_aload_n dL_law_1036 rfl ?_
  refine pv_aload_n dL_law_1037 rfl ?_
  refine pv_iload_n dL_law_1038 rfl ?_
  refine pv_iconst (v := 1) (by decide) dL_law_1039 ?_
  refine pv_iadd dL_law_1040 ?_
  obtain ⟨q4, F⟩ := F
  obtain ⟨q4n, q4t, q4i⟩ := q4
  refine pv_sld dL_law_1041 q4t q4i ?_
  refine pv_aload_n dL_law_1042 rfl ?_
  refine pv_iload_n dL_law_1043 rfl ?_
  refine pv_iconst (v := 2) (by decide) dL_law_1044 ?_
  refine pv_iadd dL_law_1045 ?_
  obtain ⟨q5, F⟩ := F
  obtain ⟨q5n, q5t, q5i⟩ := q5
  refine pv_sld dL_law_1046 q5t q5i ?_
  refine pv_invV (As := [.int (pv_xs Γ (Int32.toNatClampNeg (x3 + 1))), .int (pv_xs Γ (Int32.toNatClampNeg (x3 + 2)))]) (d' := d - 1) dL_law_1047 moX12_act ml_L_118 (lt_200 hL1) (Or.inl ⟨_, rfl, rfl⟩) (Nat.le_of_ble_eq_true rfl) (by omega) (Nat.zero_le _) (Nat.zero_le _) F (fun v2 ty2 h2 r2 g2 F => ?_) rfl
  obtain ⟨w2, rfl, F⟩ := F
  obtain ⟨hL2, F⟩ := F
  refine pv_pc (pc' := 1050) rfl ?_
  show pv_E Γ d (kc - 2) (ks - 164) mL_law 1050 [some (.ref 1), some (.ref 100), some (.ref 200), some (.int x3)] [.int w2, .int w1] ty2 h2 r2 g2 Q
  refine pv_icmp_eq (tgt := 1534) dL_law_1050 (by decide) (fun c1 => ?_) (fun c1 => ?_)
  · have F := F.1 c1
    refine pv_iinc (v := x3 + 6) (ls' := [some (.ref 1), some (.ref 100), some (.ref 200), some (.int (x3 + 6))]) dL_law_1534 rfl (by rfl) rfl rfl ?_
    refine pv_goto (tgt := 18) dL_law_1537 (by decide) ?_
    exact F
  · have F := F.2 c1
    refine pv_iconst (v := 0) (by decide) dL_law_1053 ?_
    exact pv_ireturn dL_law_1054 rfl (by decide) F
set_option maxRecDepth 20000 in
set_option maxHeartbeats 4000000 in
theorem sg_L_law_1055 {Γ : pv_C} {d kc ks : Nat} {ty : pv_T} {h : pv_H} {r : pv_R} {g : pv_G} {Q : pv_Q} (x3 : Int32) (hd : 1 ≤ d) (hL : pv_Lay ty r) (F : pv_inb ty 1 20 (x3 + 1) ∧ pv_inb ty 1 20 (x3 + 2) ∧ pv_inb ty 1 20 (x3 + 3) ∧ pv_CT Γ (d - 1) 0 0 mX11_inForce [.ref 100, .int (pv_xs Γ (Int32.toNatClampNeg (x3 + 1))), .int (pv_xs Γ (Int32.toNatClampNeg (x3 + 2))), .int (pv_xs Γ (Int32.toNatClampNeg (x3 + 3)))] ty h r g (fun (v1 : Option Value) (ty1 : pv_T) (h1 : pv_H) (r1 : pv_R) (g1 : pv_G) => ∃ w1 : Int32, v1 = some (.int w1) ∧ pv_Lay ty1 r1 ∧ pv_inb ty1 1 20 (x3 + 1) ∧ pv_inb ty1 1 20 (x3 + 2) ∧ pv_inb ty1 1 20 (x3 + 3) ∧ pv_CT Γ (d - 1) 0 0 mX12_inForce [.ref 200, .int (pv_xs Γ (Int32.toNatClampNeg (x3 + 1))), .int (pv_xs Γ (Int32.toNatClampNeg (x3 + 2))), .int (pv_xs Γ (Int32.toNatClampNeg (x3 + 3)))] ty1 h1 r1 g1 (fun (v2 : Option Value) (ty2 : pv_T) (h2 : pv_H) (r2 : pv_R) (g2 : pv_G) => ∃ w2 : Int32, v2 = some (.int w2) ∧ pv_Lay ty2 r2 ∧ ((w1 = w2 → pv_E Γ d kc ks mL_law 18 [some (.ref 1), some (.ref 100), some (.ref 200), some (.int (x3 + 6))] [] ty2 h2 r2 g2 Q) ∧ (¬ w1 = w2 → Q (some (.int 0)) ty2 h2 r2 g2))))) : pv_E Γ d kc ks mL_law 1055 [some (.ref 1), some (.ref 100), some (.ref 200), some (.int x3)] [] ty h r g Q := by
  refine pv_aload_n dL_law_1055 rfl ?_
  refine pv_aload_n dL_law_1056 rfl ?_
  refine pv_iload_n dL_law_1057 rfl ?_
  refine pv_iconst (v := 1) (by decide) dL_law_1058 ?_
  refine pv_iadd dL_law_1059 ?_
  obtain ⟨q1, F⟩ := F
  obtain ⟨q1n, q1t, q1i⟩ := q1
  refine pv_sld dL_law_1060 q1t q1i ?_
  refine pv_aload_n dL_law_1061 rfl ?_
  refine pv_iload_n dL_law_1062 rfl ?_
  refine pv_iconst (v := 2) (by decide) dL_law_1063 ?_
  refine pv_iadd dL_law_1064 ?_
  obtain ⟨q2, F⟩ := F
  obtain ⟨q2n, q2t, q2i⟩ := q2
  refine pv_sld dL_law_1065 q2t q2i ?_
  refine pv_aload_n dL_law_1066 rfl ?_
  refine pv_iload_n dL_law_1067 rfl ?_
  refine pv_iconst (v := 3) (by decide) dL_law_1068 ?_
  refine pv_iadd dL_law_1069 ?_
  obtain ⟨q3, F⟩ := F
  obtain ⟨q3n, q3t, q3i⟩ := q3
  refine pv_sld dL_law_1070 q3t q3i ?_
  refine pv_invV (As := [.int (pv_xs Γ (Int32.toNatClampNeg (x3 + 1))), .int (pv_xs Γ (Int32.toNatClampNeg (x3 + 2))), .int (pv_xs Γ (Int32.toNatClampNeg (x3 + 3)))]) (d' := d - 1) dL_law_1071 moX11_inForce ml_L_119 (lt_100 hL) (Or.inl ⟨_, rfl, rfl⟩) (Nat.le_of_ble_eq_true rfl) (by omega) (Nat.zero_le _) (Nat.zero_le _) F (fun v1 ty1 h1 r1 g1 F => ?_) rfl
  obtain ⟨w1, rfl, F⟩ := F
  obtain ⟨hL1, F⟩ := F
  refine pv_pc (pc' := 1074) rfl ?_
  show pv_E Γ d kc ks mL_law 1074 [some (.ref 1), some (.ref 100), some (.ref 200), some (.int x3)] [.int w1] ty1 h1 r1 g1 Q
  refine pv_aload_n dL_law_1074 rfl ?_
  refine pv_aload_n dL_law_1075 rfl ?_
  refine pv_iload_n dL_law_1076 rfl ?_
  refine pv_iconst (v := 1) (by decide) dL_law_1077 ?_
  refine pv_iadd dL_law_1078 ?_
  obtain ⟨q4, F⟩ := F
  obtain ⟨q4n, q4t, q4i⟩ := q4
  refine pv_sld dL_law_1079 q4t q4i ?_
  refine pv_aload_n dL_law_1080 rfl ?_
  refine pv_iload_n dL_law_1081 rfl ?_
  refine pv_iconst (v := 2) (by decide) dL_law_1082 ?_
  refine pv_iadd dL_law_1083 ?_
  obtain ⟨q5, F⟩ := F
  obtain ⟨q5n, q5t, q5i⟩ := q5
  refine pv_sld dL_law_1084 q5t q5i ?_
  refine pv_aload_n dL_law_1085 rfl ?_
  refine pv_iload_n dL_law_1086 rfl ?_
  refine pv_iconst (v := 3) (by decide) dL_law_1087 ?_
  refine pv_iadd dL_law_1088 ?_
  obtain ⟨q6, F⟩ := F
  obtain ⟨q6n, q6t, q6i⟩ := q6
  refine pv_sld dL_law_1089 q6t q6i ?_
  refine pv_invV (As := [.int (pv_xs Γ (Int32.toNatClampNeg (x3 + 1))), .int (pv_xs Γ (Int32.toNatClampNeg (x3 + 2))), .int (pv_xs Γ (Int32.toNatClampNeg (x3 + 3)))]) (d' := d - 1) dL_law_1090 moX12_inForce ml_L_122 (lt_200 hL1) (Or.inl ⟨_, rfl, rfl⟩) (Nat.le_of_ble_eq_true rfl) (by omega) (Nat.zero_le _) (Nat.zero_le _) F (fun v2 ty2 h2 r2 g2 F => ?_) rfl
  obtain ⟨w2, rfl, F⟩ := F
  obtain ⟨hL2, F⟩ := F
  refine pv_pc (pc' := 1093) rfl ?_
  show pv_E Γ d kc ks mL_law 1093 [some (.ref 1), some (.ref 100), some (.ref 200), some (.int x3)] [.int w2, .int w1] ty2 h2 r2 g2 Q
  refine pv_icmp_eq (tgt := 1534) dL_law_1093 (by decide) (fun c1 => ?_) (fun c1 => ?_)
  · have F := F.1 c1
    refine pv_iinc (v := x3 + 6) (ls' := [some (.ref 1), some (.ref 100), some (.ref 200), some (.int (x3 + 6))]) dL_law_1534 rfl (by rfl) rfl rfl ?_
    refine pv_goto (tgt := 18) dL_law_1537 (by decide) ?_
    exact F
  · have F := F.2 c1
    refine pv_iconst (v := 0) (by decide) dL_law_1096 ?_
    exact pv_ireturn dL_law_1097 rfl (by decide) F
set_option maxRecDepth 20000 in
set_option maxHeartbeats 4000000 in
theorem sg_L_law_1098 {Γ : pv_C} {d kc ks : Nat} {ty : pv_T} {h : pv_H} {r : pv_R} {g : pv_G} {Q : pv_Q} (x3 : Int32) (hd : 1 ≤ d) (hL : pv_Lay ty r) (F : pv_inb ty 1 20 (x3 + 1) ∧ pv_inb ty 1 20 (x3 + 2) ∧ pv_inb ty 1 20 (x3 + 3) ∧ pv_CT Γ (d - 1) 0 0 mX11_rate [.ref 100, .int (pv_xs Γ (Int32.toNatClampNeg (x3 + 1))), .int (pv_xs Γ (Int32.toNatClampNeg (x3 + 2))), .int (pv_xs Γ (Int32.toNatClampNeg (x3 + 3)))] ty h r g (fun (v1 : Option Value) (ty1 : pv_T) (h1 : pv_H) (r1 : pv_R) (g1 : pv_G) => ∃ w1 : Int32, v1 = some (.int w1) ∧ pv_Lay ty1 r1 ∧ pv_inb ty1 1 20 (x3 + 1) ∧ pv_inb ty1 1 20 (x3 + 2) ∧ pv_inb ty1 1 20 (x3 + 3) ∧ pv_CT Γ (d - 1) 0 0 mX12_rate [.ref 200, .int (pv_xs Γ (Int32.toNatClampNeg (x3 + 1))), .int (pv_xs Γ (Int32.toNatClampNeg (x3 + 2))), .int (pv_xs Γ (Int32.toNatClampNeg (x3 + 3)))] ty1 h1 r1 g1 (fun (v2 : Option Value) (ty2 : pv_T) (h2 : pv_H) (r2 : pv_R) (g2 : pv_G) => ∃ w2 : Int32, v2 = some (.int w2) ∧ pv_Lay ty2 r2 ∧ ((w1 = w2 → pv_E Γ d kc ks mL_law 18 [some (.ref 1), some (.ref 100), some (.ref 200), some (.int (x3 + 6))] [] ty2 h2 r2 g2 Q) ∧ (¬ w1 = w2 → Q (some (.int 0)) ty2 h2 r2 g2))))) : pv_E Γ d kc ks mL_law 1098 [some (.ref 1), some (.ref 100), some (.ref 200), some (.int x3)] [] ty h r g Q := by
  refine pv_aload_n dL_law_1098 rfl ?_
  refine pv_aload_n dL_law_1099 rfl ?_
  refine pv_iload_n dL_law_1100 rfl ?_
  refine pv_iconst (v := 1) (by decide) dL_law_1101 ?_
  refine pv_iadd dL_law_1102 ?_
  obtain ⟨q1, F⟩ := F
  obtain ⟨q1n, q1t, q1i⟩ := q1
  refine pv_sld dL_law_1103 q1t q1i ?_
  refine pv_aload_n dL_law_1104 rfl ?_
  refine pv_iload_n dL_law_1105 rfl ?_
  refine pv_iconst (v := 2) (by decide) dL_law_1106 ?_
  refine pv_iadd dL_law_1107 ?_
  obtain ⟨q2, F⟩ := F
  obtain ⟨q2n, q2t, q2i⟩ := q2
  refine pv_sld dL_law_1108 q2t q2i ?_
  refine pv_aload_n dL_law_1109 rfl ?_
  refine pv_iload_n dL_law_1110 rfl ?_
  refine pv_iconst (v := 3) (by decide) dL_law_1111 ?_
  refine pv_iadd dL_law_1112 ?_
  obtain ⟨q3, F⟩ := F
  obtain ⟨q3n, q3t, q3i⟩ := q3
  refine pv_sld dL_law_1113 q3t q3i ?_
  refine pv_invV (As := [.int (pv_xs Γ (Int32.toNatClampNeg (x3 + 1))), .int (pv_xs Γ (Int32.toNatClampNeg (x3 + 2))), .int (pv_xs Γ (Int32.toNatClampNeg (x3 + 3)))]) (d' := d - 1) dL_law_1114 moX11_rate ml_L_123 (lt_100 hL) (Or.inl ⟨_, rfl, rfl⟩) (Nat.le_of_ble_eq_true rfl) (by omega) (Nat.zero_le _) (Nat.zero_le _) F (fun v1 ty1 h1 r1 g1 F => ?_) rfl
  obtain ⟨w1, rfl, F⟩ := F
  obtain ⟨hL1, F⟩ := F
  refine pv_pc (pc' := 1117) rfl ?_
  show pv_E Γ d kc ks mL_law 1117 [some (.ref 1), some (.ref 100), some (.ref 200), some (.int x3)] [.int w1] ty1 h1 r1 g1 Q
  refine pv_aload_n dL_law_1117 rfl ?_
  refine pv_aload_n dL_law_1118 rfl ?_
  refine pv_iload_n dL_law_1119 rfl ?_
  refine pv_iconst (v := 1) (by decide) dL_law_1120 ?_
  refine pv_iadd dL_law_1121 ?_
  obtain ⟨q4, F⟩ := F
  obtain ⟨q4n, q4t, q4i⟩ := q4
  refine pv_sld dL_law_1122 q4t q4i ?_
  refine pv_aload_n dL_law_1123 rfl ?_
  refine pv_iload_n dL_law_1124 rfl ?_
  refine pv_iconst (v := 2) (by decide) dL_law_1125 ?_
  refine pv_iadd dL_law_1126 ?_
  obtain ⟨q5, F⟩ := F
  obtain ⟨q5n, q5t, q5i⟩ := q5
  refine pv_sld dL_law_1127 q5t q5i ?_
  refine pv_aload_n dL_law_1128 rfl ?_
  refine pv_iload_n dL_law_1129 rfl ?_
  refine pv_iconst (v := 3) (by decide) dL_law_1130 ?_
  refine pv_iadd dL_law_1131 ?_
  obtain ⟨q6, F⟩ := F
  obtain ⟨q6n, q6t, q6i⟩ := q6
  refine pv_sld dL_law_1132 q6t q6i ?_
  refine pv_invV (As := [.int (pv_xs Γ (Int32.toNatClampNeg (x3 + 1))), .int (pv_xs Γ (Int32.toNatClampNeg (x3 + 2))), .int (pv_xs Γ (Int32.toNatClampNeg (x3 + 3)))]) (d' := d - 1) dL_law_1133 moX12_rate ml_L_126 (lt_200 hL1) (Or.inl ⟨_, rfl, rfl⟩) (Nat.le_of_ble_eq_true rfl) (by omega) (Nat.zero_le _) (Nat.zero_le _) F (fun v2 ty2 h2 r2 g2 F => ?_) rfl
  obtain ⟨w2, rfl, F⟩ := F
  obtain ⟨hL2, F⟩ := F
  refine pv_pc (pc' := 1136) rfl ?_
  show pv_E Γ d kc ks mL_law 1136 [some (.ref 1), some (.ref 100), some (.ref 200), some (.int x3)] [.int w2, .int w1] ty2 h2 r2 g2 Q
  refine pv_icmp_eq (tgt := 1534) dL_law_1136 (by decide) (fun c1 => ?_) (fun c1 => ?_)
  · have F := F.1 c1
    refine pv_iinc (v := x3 + 6) (ls' := [some (.ref 1), some (.ref 100), some (.ref 200), some (.int (x3 + 6))]) dL_law_1534 rfl (by rfl) rfl rfl ?_
    refine pv_goto (tgt := 18) dL_law_1537 (by decide) ?_
    exact F
  · have F := F.2 c1
    refine pv_iconst (v := 0) (by decide) dL_law_1139 ?_
    exact pv_ireturn dL_law_1140 rfl (by decide) F
set_option maxRecDepth 20000 in
set_option maxHeartbeats 4000000 in
theorem sg_L_law_1141 {Γ : pv_C} {d kc ks : Nat} {ty : pv_T} {h : pv_H} {r : pv_R} {g : pv_G} {Q : pv_Q} (x3 : Int32) (hd : 1 ≤ d) (hL : pv_Lay ty r) (F : pv_inb ty 1 20 (x3 + 1) ∧ pv_inb ty 1 20 (x3 + 2) ∧ pv_CT Γ (d - 1) 0 0 mX11_rates [.ref 100, .int (pv_xs Γ (Int32.toNatClampNeg (x3 + 1))), .int (pv_xs Γ (Int32.toNatClampNeg (x3 + 2)))] ty h r g (fun (v1 : Option Value) (ty1 : pv_T) (h1 : pv_H) (r1 : pv_R) (g1 : pv_G) => ∃ w1 : Int32, v1 = some (.int w1) ∧ pv_Lay ty1 r1 ∧ pv_inb ty1 1 20 (x3 + 1) ∧ pv_inb ty1 1 20 (x3 + 2) ∧ pv_CT Γ (d - 1) 0 0 mX12_rates [.ref 200, .int (pv_xs Γ (Int32.toNatClampNeg (x3 + 1))), .int (pv_xs Γ (Int32.toNatClampNeg (x3 + 2)))] ty1 h1 r1 g1 (fun (v2 : Option Value) (ty2 : pv_T) (h2 : pv_H) (r2 : pv_R) (g2 : pv_G) => ∃ w2 : Int32, v2 = some (.int w2) ∧ pv_Lay ty2 r2 ∧ ((w1 = w2 → pv_E Γ d kc ks mL_law 18 [some (.ref 1), some (.ref 100), some (.ref 200), some (.int (x3 + 6))] [] ty2 h2 r2 g2 Q) ∧ (¬ w1 = w2 → Q (some (.int 0)) ty2 h2 r2 g2))))) : pv_E Γ d kc ks mL_law 1141 [some (.ref 1), some (.ref 100), some (.ref 200), some (.int x3)] [] ty h r g Q := by
  refine pv_aload_n dL_law_1141 rfl ?_
  refine pv_aload_n dL_law_1142 rfl ?_
  refine pv_iload_n dL_law_1143 rfl ?_
  refine pv_iconst (v := 1) (by decide) dL_law_1144 ?_
  refine pv_iadd dL_law_1145 ?_
  obtain ⟨q1, F⟩ := F
  obtain ⟨q1n, q1t, q1i⟩ := q1
  refine pv_sld dL_law_1146 q1t q1i ?_
  refine pv_aload_n dL_law_1147 rfl ?_
  refine pv_iload_n dL_law_1148 rfl ?_
  refine pv_iconst (v := 2) (by decide) dL_law_1149 ?_
  refine pv_iadd dL_law_1150 ?_
  obtain ⟨q2, F⟩ := F
  obtain ⟨q2n, q2t, q2i⟩ := q2
  refine pv_sld dL_law_1151 q2t q2i ?_
  refine pv_invV (As := [.int (pv_xs Γ (Int32.toNatClampNeg (x3 + 1))), .int (pv_xs Γ (Int32.toNatClampNeg (x3 + 2)))]) (d' := d - 1) dL_law_1152 moX11_rates ml_L_127 (lt_100 hL) (Or.inl ⟨_, rfl, rfl⟩) (Nat.le_of_ble_eq_true rfl) (by omega) (Nat.zero_le _) (Nat.zero_le _) F (fun v1 ty1 h1 r1 g1 F => ?_) rfl
  obtain ⟨w1, rfl, F⟩ := F
  obtain ⟨hL1, F⟩ := F
  refine pv_pc (pc' := 1155) rfl ?_
  show pv_E Γ d kc ks mL_law 1155 [some (.ref 1), some (.ref 100), some (.ref 200), some (.int x3)] [.int w1] ty1 h1 r1 g1 Q
  refine pv_aload_n dL_law_1155 rfl ?_
  refine pv_aload_n dL_law_1156 rfl ?_
  refine pv_iload_n dL_law_1157 rfl ?_
  refine pv_iconst (v := 1) (by decide) dL_law_1158 ?_
  refine pv_iadd dL_law_1159 ?_
  obtain ⟨q3, F⟩ := F
  obtain ⟨q3n, q3t, q3i⟩ := q3
  refine pv_sld dL_law_1160 q3t q3i ?_
  refine pv_aload_n dL_law_1161 rfl ?_
  refine pv_iload_n dL_law_1162 rfl ?_
  refine pv_iconst (v := 2) (by decide) dL_law_1163 ?_
  refine pv_iadd dL_law_1164 ?_
  obtain ⟨q4, F⟩ := F
  obtain ⟨q4n, q4t, q4i⟩ := q4
  refine pv_sld dL_law_1165 q4t q4i ?_
  refine pv_invV (As := [.int (pv_xs Γ (Int32.toNatClampNeg (x3 + 1))), .int (pv_xs Γ (Int32.toNatClampNeg (x3 + 2)))]) (d' := d - 1) dL_law_1166 moX12_rates ml_L_130 (lt_200 hL1) (Or.inl ⟨_, rfl, rfl⟩) (Nat.le_of_ble_eq_true rfl) (by omega) (Nat.zero_le _) (Nat.zero_le _) F (fun v2 ty2 h2 r2 g2 F => ?_) rfl
  obtain ⟨w2, rfl, F⟩ := F
  obtain ⟨hL2, F⟩ := F
  refine pv_pc (pc' := 1169) rfl ?_
  show pv_E Γ d kc ks mL_law 1169 [some (.ref 1), some (.ref 100), some (.ref 200), some (.int x3)] [.int w2, .int w1] ty2 h2 r2 g2 Q
  refine pv_icmp_eq (tgt := 1534) dL_law_1169 (by decide) (fun c1 => ?_) (fun c1 => ?_)
  · have F := F.1 c1
    refine pv_iinc (v := x3 + 6) (ls' := [some (.ref 1), some (.ref 100), some (.ref 200), some (.int (x3 + 6))]) dL_law_1534 rfl (by rfl) rfl rfl ?_
    refine pv_goto (tgt := 18) dL_law_1537 (by decide) ?_
    exact F
  · have F := F.2 c1
    refine pv_iconst (v := 0) (by decide) dL_law_1172 ?_
    exact pv_ireturn dL_law_1173 rfl (by decide) F
set_option maxRecDepth 20000 in
set_option maxHeartbeats 4000000 in
theorem sg_L_law_1174 {Γ : pv_C} {d kc ks : Nat} {ty : pv_T} {h : pv_H} {r : pv_R} {g : pv_G} {Q : pv_Q} (x3 : Int32) (hd : 1 ≤ d) (hL : pv_Lay ty r) (F : pv_inb ty 1 20 (x3 + 1) ∧ pv_inb ty 1 20 (x3 + 2) ∧ pv_CT Γ (d - 1) 0 0 mX11_clause [.ref 100, .int (pv_xs Γ (Int32.toNatClampNeg (x3 + 1))), .int (pv_xs Γ (Int32.toNatClampNeg (x3 + 2)))] ty h r g (fun (v1 : Option Value) (ty1 : pv_T) (h1 : pv_H) (r1 : pv_R) (g1 : pv_G) => ∃ w1 : Int32, v1 = some (.int w1) ∧ pv_Lay ty1 r1 ∧ pv_inb ty1 1 20 (x3 + 1) ∧ pv_inb ty1 1 20 (x3 + 2) ∧ pv_CT Γ (d - 1) 0 0 mX12_clause [.ref 200, .int (pv_xs Γ (Int32.toNatClampNeg (x3 + 1))), .int (pv_xs Γ (Int32.toNatClampNeg (x3 + 2)))] ty1 h1 r1 g1 (fun (v2 : Option Value) (ty2 : pv_T) (h2 : pv_H) (r2 : pv_R) (g2 : pv_G) => ∃ w2 : Int32, v2 = some (.int w2) ∧ pv_Lay ty2 r2 ∧ ((w1 = w2 → pv_E Γ d kc ks mL_law 18 [some (.ref 1), some (.ref 100), some (.ref 200), some (.int (x3 + 6))] [] ty2 h2 r2 g2 Q) ∧ (¬ w1 = w2 → Q (some (.int 0)) ty2 h2 r2 g2))))) : pv_E Γ d kc ks mL_law 1174 [some (.ref 1), some (.ref 100), some (.ref 200), some (.int x3)] [] ty h r g Q := by
  refine pv_aload_n dL_law_1174 rfl ?_
  refine pv_aload_n dL_law_1175 rfl ?_
  refine pv_iload_n dL_law_1176 rfl ?_
  refine pv_iconst (v := 1) (by decide) dL_law_1177 ?_
  refine pv_iadd dL_law_1178 ?_
  obtain ⟨q1, F⟩ := F
  obtain ⟨q1n, q1t, q1i⟩ := q1
  refine pv_sld dL_law_1179 q1t q1i ?_
  refine pv_aload_n dL_law_1180 rfl ?_
  refine pv_iload_n dL_law_1181 rfl ?_
  refine pv_iconst (v := 2) (by decide) dL_law_1182 ?_
  refine pv_iadd dL_law_1183 ?_
  obtain ⟨q2, F⟩ := F
  obtain ⟨q2n, q2t, q2i⟩ := q2
  refine pv_sld dL_law_1184 q2t q2i ?_
  refine pv_invV (As := [.int (pv_xs Γ (Int32.toNatClampNeg (x3 + 1))), .int (pv_xs Γ (Int32.toNatClampNeg (x3 + 2)))]) (d' := d - 1) dL_law_1185 moX11_clause ml_L_131 (lt_100 hL) (Or.inl ⟨_, rfl, rfl⟩) (Nat.le_of_ble_eq_true rfl) (by omega) (Nat.zero_le _) (Nat.zero_le _) F (fun v1 ty1 h1 r1 g1 F => ?_) rfl
  obtain ⟨w1, rfl, F⟩ := F
  obtain ⟨hL1, F⟩ := F
  refine pv_pc (pc' := 1188) rfl ?_
  show pv_E Γ d kc ks mL_law 1188 [some (.ref 1), some (.ref 100), some (.ref 200), some (.int x3)] [.int w1] ty1 h1 r1 g1 Q
  refine pv_aload_n dL_law_1188 rfl ?_
  refine pv_aload_n dL_law_1189 rfl ?_
  refine pv_iload_n dL_law_1190 rfl ?_
  refine pv_iconst (v := 1) (by decide) dL_law_1191 ?_
  refine pv_iadd dL_law_1192 ?_
  obtain ⟨q3, F⟩ := F
  obtain ⟨q3n, q3t, q3i⟩ := q3
  refine pv_sld dL_law_1193 q3t q3i ?_
  refine pv_aload_n dL_law_1194 rfl ?_
  refine pv_iload_n dL_law_1195 rfl ?_
  refine pv_iconst (v := 2) (by decide) dL_law_1196 ?_
  refine pv_iadd dL_law_1197 ?_
  obtain ⟨q4, F⟩ := F
  obtain ⟨q4n, q4t, q4i⟩ := q4
  refine pv_sld dL_law_1198 q4t q4i ?_
  refine pv_invV (As := [.int (pv_xs Γ (Int32.toNatClampNeg (x3 + 1))), .int (pv_xs Γ (Int32.toNatClampNeg (x3 + 2)))]) (d' := d - 1) dL_law_1199 moX12_clause ml_L_134 (lt_200 hL1) (Or.inl ⟨_, rfl, rfl⟩) (Nat.le_of_ble_eq_true rfl) (by omega) (Nat.zero_le _) (Nat.zero_le _) F (fun v2 ty2 h2 r2 g2 F => ?_) rfl
  obtain ⟨w2, rfl, F⟩ := F
  obtain ⟨hL2, F⟩ := F
  refine pv_pc (pc' := 1202) rfl ?_
  show pv_E Γ d kc ks mL_law 1202 [some (.ref 1), some (.ref 100), some (.ref 200), some (.int x3)] [.int w2, .int w1] ty2 h2 r2 g2 Q
  refine pv_icmp_eq (tgt := 1534) dL_law_1202 (by decide) (fun c1 => ?_) (fun c1 => ?_)
  · have F := F.1 c1
    refine pv_iinc (v := x3 + 6) (ls' := [some (.ref 1), some (.ref 100), some (.ref 200), some (.int (x3 + 6))]) dL_law_1534 rfl (by rfl) rfl rfl ?_
    refine pv_goto (tgt := 18) dL_law_1537 (by decide) ?_
    exact F
  · have F := F.2 c1
    refine pv_iconst (v := 0) (by decide) dL_law_1205 ?_
    exact pv_ireturn dL_law_1206 rfl (by decide) F
set_option maxRecDepth 20000 in
set_option maxHeartbeats 4000000 in
theorem sg_L_law_1207 {Γ : pv_C} {d kc ks : Nat} {ty : pv_T} {h : pv_H} {r : pv_R} {g : pv_G} {Q : pv_Q} (x3 : Int32) (hd : 1 ≤ d) (hL : pv_Lay ty r) (F : pv_inb ty 1 20 (x3 + 1) ∧ pv_inb ty 1 20 (x3 + 2) ∧ pv_inb ty 1 20 (x3 + 3) ∧ pv_inb ty 1 20 (x3 + 4) ∧ 1 ≤ kc ∧ 6 ≤ ks ∧ pv_CT Γ (d - 1) 1 6 mX11_open [.ref 100, .int (pv_xs Γ (Int32.toNatClampNeg (x3 + 1))), .int (pv_xs Γ (Int32.toNatClampNeg (x3 + 2))), .int (pv_xs Γ (Int32.toNatClampNeg (x3 + 3))), .int (pv_xs Γ (Int32.toNatClampNeg (x3 + 4)))] ty h r g (fun (v1 : Option Value) (ty1 : pv_T) (h1 : pv_H) (r1 : pv_R) (g1 : pv_G) => ∃ w1 : Int32, v1 = some (.int w1) ∧ pv_Lay ty1 r1 ∧ pv_inb ty1 1 20 (x3 + 1) ∧ pv_inb ty1 1 20 (x3 + 2) ∧ pv_inb ty1 1 20 (x3 + 3) ∧ pv_inb ty1 1 20 (x3 + 4) ∧ pv_CT Γ (d - 1) 0 0 mX12_open [.ref 200, .int (pv_xs Γ (Int32.toNatClampNeg (x3 + 1))), .int (pv_xs Γ (Int32.toNatClampNeg (x3 + 2))), .int (pv_xs Γ (Int32.toNatClampNeg (x3 + 3))), .int (pv_xs Γ (Int32.toNatClampNeg (x3 + 4)))] ty1 h1 r1 g1 (fun (v2 : Option Value) (ty2 : pv_T) (h2 : pv_H) (r2 : pv_R) (g2 : pv_G) => ∃ w2 : Int32, v2 = some (.int w2) ∧ pv_Lay ty2 r2 ∧ ((w1 = w2 → pv_E Γ d (kc - 1) (ks - 6) mL_law 18 [some (.ref 1), some (.ref 100), some (.ref 200), some (.int (x3 + 6))] [] ty2 h2 r2 g2 Q) ∧ (¬ w1 = w2 → Q (some (.int 0)) ty2 h2 r2 g2))))) : pv_E Γ d kc ks mL_law 1207 [some (.ref 1), some (.ref 100), some (.ref 200), some (.int x3)] [] ty h r g Q := by
  refine pv_aload_n dL_law_1207 rfl ?_
  refine pv_aload_n dL_law_1208 rfl ?_
  refine pv_iload_n dL_law_1209 rfl ?_
  refine pv_iconst (v := 1) (by decide) dL_law_1210 ?_
  refine pv_iadd dL_law_1211 ?_
  obtain ⟨q1, F⟩ := F
  obtain ⟨q1n, q1t, q1i⟩ := q1
  refine pv_sld dL_law_1212 q1t q1i ?_
  refine pv_aload_n dL_law_1213 rfl ?_
  refine pv_iload_n dL_law_1214 rfl ?_
  refine pv_iconst (v := 2) (by decide) dL_law_1215 ?_
  refine pv_iadd dL_law_1216 ?_
  obtain ⟨q2, F⟩ := F
  obtain ⟨q2n, q2t, q2i⟩ := q2
  refine pv_sld dL_law_1217 q2t q2i ?_
  refine pv_aload_n dL_law_1218 rfl ?_
  refine pv_iload_n dL_law_1219 rfl ?_
  refine pv_iconst (v := 3) (by decide) dL_law_1220 ?_
  refine pv_iadd dL_law_1221 ?_
  obtain ⟨q3, F⟩ := F
  obtain ⟨q3n, q3t, q3i⟩ := q3
  refine pv_sld dL_law_1222 q3t q3i ?_
  refine pv_aload_n dL_law_1223 rfl ?_
  refine pv_iload_n dL_law_1224 rfl ?_
  refine pv_iconst (v := 4) (by decide) dL_law_1225 ?_
  refine pv_iadd dL_law_1226 ?_
  obtain ⟨q4, F⟩ := F
  obtain ⟨q4n, q4t, q4i⟩ := q4
  refine pv_sld dL_law_1227 q4t q4i ?_
  obtain ⟨q5a, q5b, F⟩ := F
  refine pv_invV (As := [.int (pv_xs Γ (Int32.toNatClampNeg (x3 + 1))), .int (pv_xs Γ (Int32.toNatClampNeg (x3 + 2))), .int (pv_xs Γ (Int32.toNatClampNeg (x3 + 3))), .int (pv_xs Γ (Int32.toNatClampNeg (x3 + 4)))]) (d' := d - 1) dL_law_1228 moX11_open ml_L_135 (lt_100 hL) (Or.inl ⟨_, rfl, rfl⟩) (Nat.le_of_ble_eq_true rfl) (by omega) q5a q5b F (fun v1 ty1 h1 r1 g1 F => ?_) rfl
  obtain ⟨w1, rfl, F⟩ := F
  obtain ⟨hL1, F⟩ := F
  refine pv_pc (pc' := 1231) rfl ?_
  show pv_E Γ d (kc - 1) (ks - 6) mL_law 1231 [some (.ref 1), some (.ref 100), some (.ref 200), some (.int x3)] [.int w1] ty1 h1 r1 g1 Q
  refine pv_aload_n dL_law_1231 rfl ?_
  refine pv_aload_n dL_law_1232 rfl ?_
  refine pv_iload_n dL_law_1233 rfl ?_
  refine pv_iconst (v := 1) (by decide) dL_law_1234 ?_
  refine pv_iadd dL_law_1235 ?_
  obtain ⟨q6, F⟩ := F
  obtain ⟨q6n, q6t, q6i⟩ := q6
  refine pv_sld dL_law_1236 q6t q6i ?_
  refine pv_aload_n dL_law_1237 rfl ?_
  refine pv_iload_n dL_law_1238 rfl ?_
  refine pv_iconst (v := 2) (by decide) dL_law_1239 ?_
  refine pv_iadd dL_law_1240 ?_
  obtain ⟨q7, F⟩ := F
  obtain ⟨q7n, q7t, q7i⟩ := q7
  refine pv_sld dL_law_1241 q7t q7i ?_
  refine pv_aload_n dL_law_1242 rfl ?_
  refine pv_iload_n dL_law_1243 rfl ?_
  refine pv_iconst (v := 3) (by decide) dL_law_1244 ?_
  refine pv_iadd dL_law_1245 ?_
  obtain ⟨q8, F⟩ := F
  obtain ⟨q8n, q8t, q8i⟩ := q8
  refine pv_sld dL_law_1246 q8t q8i ?_
  refine pv_aload_n dL_law_1247 rfl ?_
  refine pv_iload_n dL_law_1248 rfl ?_
  refine pv_iconst (v := 4) (by decide) dL_law_1249 ?_
  refine pv_iadd dL_law_1250 ?_
  obtain ⟨q9, F⟩ := F
  obtain ⟨q9n, q9t, q9i⟩ := q9
  refine pv_sld dL_law_1251 q9t q9i ?_
  refine pv_invV (As := [.int (pv_xs Γ (Int32.toNatClampNeg (x3 + 1))), .int (pv_xs Γ (Int32.toNatClampNeg (x3 + 2))), .int (pv_xs Γ (Int32.toNatClampNeg (x3 + 3))), .int (pv_xs Γ (Int32.toNatClampNeg (x3 + 4)))]) (d' := d - 1) dL_law_1252 moX12_open ml_L_138 (lt_200 hL1) (Or.inl ⟨_, rfl, rfl⟩) (Nat.le_of_ble_eq_true rfl) (by omega) (Nat.zero_le _) (Nat.zero_le _) F (fun v2 ty2 h2 r2 g2 F => ?_) rfl
  obtain ⟨w2, rfl, F⟩ := F
  obtain ⟨hL2, F⟩ := F
  refine pv_pc (pc' := 1255) rfl ?_
  show pv_E Γ d (kc - 1) (ks - 6) mL_law 1255 [some (.ref 1), some (.ref 100), some (.ref 200), some (.int x3)] [.int w2, .int w1] ty2 h2 r2 g2 Q
  refine pv_icmp_eq (tgt := 1534) dL_law_1255 (by decide) (fun c1 => ?_) (fun c1 => ?_)
  · have F := F.1 c1
    refine pv_iinc (v := x3 + 6) (ls' := [some (.ref 1), some (.ref 100), some (.ref 200), some (.int (x3 + 6))]) dL_law_1534 rfl (by rfl) rfl rfl ?_
    refine pv_goto (tgt := 18) dL_law_1537 (by decide) ?_
    exact F
  · have F := F.2 c1
    refine pv_iconst (v := 0) (by decide) dL_law_1258 ?_
    exact pv_ireturn dL_law_1259 rfl (by decide) F
set_option maxRecDepth 20000 in
set_option maxHeartbeats 4000000 in
theorem sg_L_law_1260 {Γ : pv_C} {d kc ks : Nat} {ty : pv_T} {h : pv_H} {r : pv_R} {g : pv_G} {Q : pv_Q} (x3 : Int32) (hd : 1 ≤ d) (hL : pv_Lay ty r) (F : pv_inb ty 1 20 (x3 + 1) ∧ pv_CT Γ (d - 1) 0 0 mX11_back [.ref 100, .int (pv_xs Γ (Int32.toNatClampNeg (x3 + 1)))] ty h r g (fun (v1 : Option Value) (ty1 : pv_T) (h1 : pv_H) (r1 : pv_R) (g1 : pv_G) => ∃ w1 : Int32, v1 = some (.int w1) ∧ pv_Lay ty1 r1 ∧ pv_inb ty1 1 20 (x3 + 1) ∧ pv_CT Γ (d - 1) 0 0 mX12_back [.ref 200, .int (pv_xs Γ (Int32.toNatClampNeg (x3 + 1)))] ty1 h1 r1 g1 (fun (v2 : Option Value) (ty2 : pv_T) (h2 : pv_H) (r2 : pv_R) (g2 : pv_G) => ∃ w2 : Int32, v2 = some (.int w2) ∧ pv_Lay ty2 r2 ∧ ((w1 = w2 → pv_E Γ d kc ks mL_law 18 [some (.ref 1), some (.ref 100), some (.ref 200), some (.int (x3 + 6))] [] ty2 h2 r2 g2 Q) ∧ (¬ w1 = w2 → Q (some (.int 0)) ty2 h2 r2 g2))))) : pv_E Γ d kc ks mL_law 1260 [some (.ref 1), some (.ref 100), some (.ref 200), some (.int x3)] [] ty h r g Q := by
  refine pv_aload_n dL_law_1260 rfl ?_
  refine pv_aload_n dL_law_1261 rfl ?_
  refine pv_iload_n dL_law_1262 rfl ?_
  refine pv_iconst (v := 1) (by decide) dL_law_1263 ?_
  refine pv_iadd dL_law_1264 ?_
  obtain ⟨q1, F⟩ := F
  obtain ⟨q1n, q1t, q1i⟩ := q1
  refine pv_sld dL_law_1265 q1t q1i ?_
  refine pv_invV (As := [.int (pv_xs Γ (Int32.toNatClampNeg (x3 + 1)))]) (d' := d - 1) dL_law_1266 moX11_back ml_L_139 (lt_100 hL) (Or.inl ⟨_, rfl, rfl⟩) (Nat.le_of_ble_eq_true rfl) (by omega) (Nat.zero_le _) (Nat.zero_le _) F (fun v1 ty1 h1 r1 g1 F => ?_) rfl
  obtain ⟨w1, rfl, F⟩ := F
  obtain ⟨hL1, F⟩ := F
  refine pv_pc (pc' := 1269) rfl ?_
  show pv_E Γ d kc ks mL_law 1269 [some (.ref 1), some (.ref 100), some (.ref 200), some (.int x3)] [.int w1] ty1 h1 r1 g1 Q
  refine pv_aload_n dL_law_1269 rfl ?_
  refine pv_aload_n dL_law_1270 rfl ?_
  refine pv_iload_n dL_law_1271 rfl ?_
  refine pv_iconst (v := 1) (by decide) dL_law_1272 ?_
  refine pv_iadd dL_law_1273 ?_
  obtain ⟨q2, F⟩ := F
  obtain ⟨q2n, q2t, q2i⟩ := q2
  refine pv_sld dL_law_1274 q2t q2i ?_
  refine pv_invV (As := [.int (pv_xs Γ (Int32.toNatClampNeg (x3 + 1)))]) (d' := d - 1) dL_law_1275 moX12_back ml_L_142 (lt_200 hL1) (Or.inl ⟨_, rfl, rfl⟩) (Nat.le_of_ble_eq_true rfl) (by omega) (Nat.zero_le _) (Nat.zero_le _) F (fun v2 ty2 h2 r2 g2 F => ?_) rfl
  obtain ⟨w2, rfl, F⟩ := F
  obtain ⟨hL2, F⟩ := F
  refine pv_pc (pc' := 1278) rfl ?_
  show pv_E Γ d kc ks mL_law 1278 [some (.ref 1), some (.ref 100), some (.ref 200), some (.int x3)] [.int w2, .int w1] ty2 h2 r2 g2 Q
  refine pv_icmp_eq (tgt := 1534) dL_law_1278 (by decide) (fun c1 => ?_) (fun c1 => ?_)
  · have F := F.1 c1
    refine pv_iinc (v := x3 + 6) (ls' := [some (.ref 1), some (.ref 100), some (.ref 200), some (.int (x3 + 6))]) dL_law_1534 rfl (by rfl) rfl rfl ?_
    refine pv_goto (tgt := 18) dL_law_1537 (by decide) ?_
    exact F
  · have F := F.2 c1
    refine pv_iconst (v := 0) (by decide) dL_law_1281 ?_
    exact pv_ireturn dL_law_1282 rfl (by decide) F
set_option maxRecDepth 20000 in
set_option maxHeartbeats 4000000 in
theorem sg_L_law_1283 {Γ : pv_C} {d kc ks : Nat} {ty : pv_T} {h : pv_H} {r : pv_R} {g : pv_G} {Q : pv_Q} (x3 : Int32) (hd : 1 ≤ d) (hL : pv_Lay ty r) (F : pv_inb ty 1 20 (x3 + 1) ∧ pv_inb ty 1 20 (x3 + 2) ∧ pv_inb ty 1 20 (x3 + 3) ∧ pv_CT Γ (d - 1) 0 0 mX11_penalty [.ref 100, .int (pv_xs Γ (Int32.toNatClampNeg (x3 + 1))), .int (pv_xs Γ (Int32.toNatClampNeg (x3 + 2))), .int (pv_xs Γ (Int32.toNatClampNeg (x3 + 3)))] ty h r g (fun (v1 : Option Value) (ty1 : pv_T) (h1 : pv_H) (r1 : pv_R) (g1 : pv_G) => ∃ w1 : Int32, v1 = some (.int w1) ∧ pv_Lay ty1 r1 ∧ pv_inb ty1 1 20 (x3 + 1) ∧ pv_inb ty1 1 20 (x3 + 2) ∧ pv_inb ty1 1 20 (x3 + 3) ∧ pv_CT Γ (d - 1) 0 0 mX12_penalty [.ref 200, .int (pv_xs Γ (Int32.toNatClampNeg (x3 + 1))), .int (pv_xs Γ (Int32.toNatClampNeg (x3 + 2))), .int (pv_xs Γ (Int32.toNatClampNeg (x3 + 3)))] ty1 h1 r1 g1 (fun (v2 : Option Value) (ty2 : pv_T) (h2 : pv_H) (r2 : pv_R) (g2 : pv_G) => ∃ w2 : Int32, v2 = some (.int w2) ∧ pv_Lay ty2 r2 ∧ ((w1 = w2 → pv_E Γ d kc ks mL_law 18 [some (.ref 1), some (.ref 100), some (.ref 200), some (.int (x3 + 6))] [] ty2 h2 r2 g2 Q) ∧ (¬ w1 = w2 → Q (some (.int 0)) ty2 h2 r2 g2))))) : pv_E Γ d kc ks mL_law 1283 [some (.ref 1), some (.ref 100), some (.ref 200), some (.int x3)] [] ty h r g Q := by
  refine pv_aload_n dL_law_1283 rfl ?_
  refine pv_aload_n dL_law_1284 rfl ?_
  refine pv_iload_n dL_law_1285 rfl ?_
  refine pv_iconst (v := 1) (by decide) dL_law_1286 ?_
  refine pv_iadd dL_law_1287 ?_
  obtain ⟨q1, F⟩ := F
  obtain ⟨q1n, q1t, q1i⟩ := q1
  refine pv_sld dL_law_1288 q1t q1i ?_
  refine pv_aload_n dL_law_1289 rfl ?_
  refine pv_iload_n dL_law_1290 rfl ?_
  refine pv_iconst (v := 2) (by decide) dL_law_1291 ?_
  refine pv_iadd dL_law_1292 ?_
  obtain ⟨q2, F⟩ := F
  obtain ⟨q2n, q2t, q2i⟩ := q2
  refine pv_sld dL_law_1293 q2t q2i ?_
  refine pv_aload_n dL_law_1294 rfl ?_
  refine pv_iload_n dL_law_1295 rfl ?_
  refine pv_iconst (v := 3) (by decide) dL_law_1296 ?_
  refine pv_iadd dL_law_1297 ?_
  obtain ⟨q3, F⟩ := F
  obtain ⟨q3n, q3t, q3i⟩ := q3
  refine pv_sld dL_law_1298 q3t q3i ?_
  refine pv_invV (As := [.int (pv_xs Γ (Int32.toNatClampNeg (x3 + 1))), .int (pv_xs Γ (Int32.toNatClampNeg (x3 + 2))), .int (pv_xs Γ (Int32.toNatClampNeg (x3 + 3)))]) (d' := d - 1) dL_law_1299 moX11_penalty ml_L_143 (lt_100 hL) (Or.inl ⟨_, rfl, rfl⟩) (Nat.le_of_ble_eq_true rfl) (by omega) (Nat.zero_le _) (Nat.zero_le _) F (fun v1 ty1 h1 r1 g1 F => ?_) rfl
  obtain ⟨w1, rfl, F⟩ := F
  obtain ⟨hL1, F⟩ := F
  refine pv_pc (pc' := 1302) rfl ?_
  show pv_E Γ d kc ks mL_law 1302 [some (.ref 1), some (.ref 100), some (.ref 200), some (.int x3)] [.int w1] ty1 h1 r1 g1 Q
  refine pv_aload_n dL_law_1302 rfl ?_
  refine pv_aload_n dL_law_1303 rfl ?_
  refine pv_iload_n dL_law_1304 rfl ?_
  refine pv_iconst (v := 1) (by decide) dL_law_1305 ?_
  refine pv_iadd dL_law_1306 ?_
  obtain ⟨q4, F⟩ := F
  obtain ⟨q4n, q4t, q4i⟩ := q4
  refine pv_sld dL_law_1307 q4t q4i ?_
  refine pv_aload_n dL_law_1308 rfl ?_
  refine pv_iload_n dL_law_1309 rfl ?_
  refine pv_iconst (v := 2) (by decide) dL_law_1310 ?_
  refine pv_iadd dL_law_1311 ?_
  obtain ⟨q5, F⟩ := F
  obtain ⟨q5n, q5t, q5i⟩ := q5
  refine pv_sld dL_law_1312 q5t q5i ?_
  refine pv_aload_n dL_law_1313 rfl ?_
  refine pv_iload_n dL_law_1314 rfl ?_
  refine pv_iconst (v := 3) (by decide) dL_law_1315 ?_
  refine pv_iadd dL_law_1316 ?_
  obtain ⟨q6, F⟩ := F
  obtain ⟨q6n, q6t, q6i⟩ := q6
  refine pv_sld dL_law_1317 q6t q6i ?_
  refine pv_invV (As := [.int (pv_xs Γ (Int32.toNatClampNeg (x3 + 1))), .int (pv_xs Γ (Int32.toNatClampNeg (x3 + 2))), .int (pv_xs Γ (Int32.toNatClampNeg (x3 + 3)))]) (d' := d - 1) dL_law_1318 moX12_penalty ml_L_146 (lt_200 hL1) (Or.inl ⟨_, rfl, rfl⟩) (Nat.le_of_ble_eq_true rfl) (by omega) (Nat.zero_le _) (Nat.zero_le _) F (fun v2 ty2 h2 r2 g2 F => ?_) rfl
  obtain ⟨w2, rfl, F⟩ := F
  obtain ⟨hL2, F⟩ := F
  refine pv_pc (pc' := 1321) rfl ?_
  show pv_E Γ d kc ks mL_law 1321 [some (.ref 1), some (.ref 100), some (.ref 200), some (.int x3)] [.int w2, .int w1] ty2 h2 r2 g2 Q
  refine pv_icmp_eq (tgt := 1534) dL_law_1321 (by decide) (fun c1 => ?_) (fun c1 => ?_)
  · have F := F.1 c1
    refine pv_iinc (v := x3 + 6) (ls' := [some (.ref 1), some (.ref 100), some (.ref 200), some (.int (x3 + 6))]) dL_law_1534 rfl (by rfl) rfl rfl ?_
    refine pv_goto (tgt := 18) dL_law_1537 (by decide) ?_
    exact F
  · have F := F.2 c1
    refine pv_iconst (v := 0) (by decide) dL_law_1324 ?_
    exact pv_ireturn dL_law_1325 rfl (by decide) F
set_option maxRecDepth 20000 in
set_option maxHeartbeats 4000000 in
theorem sg_L_law_1326 {Γ : pv_C} {d kc ks : Nat} {ty : pv_T} {h : pv_H} {r : pv_R} {g : pv_G} {Q : pv_Q} (x3 : Int32) (hd : 1 ≤ d) (hL : pv_Lay ty r) (F : pv_inb ty 1 20 (x3 + 1) ∧ pv_inb ty 1 20 (x3 + 2) ∧ pv_CT Γ (d - 1) 0 0 mX11_sink [.ref 100, .int (pv_xs Γ (Int32.toNatClampNeg (x3 + 1))), .int (pv_xs Γ (Int32.toNatClampNeg (x3 + 2)))] ty h r g (fun (v1 : Option Value) (ty1 : pv_T) (h1 : pv_H) (r1 : pv_R) (g1 : pv_G) => ∃ w1 : Int32, v1 = some (.int w1) ∧ pv_Lay ty1 r1 ∧ pv_inb ty1 1 20 (x3 + 1) ∧ pv_inb ty1 1 20 (x3 + 2) ∧ pv_CT Γ (d - 1) 0 0 mX12_sink [.ref 200, .int (pv_xs Γ (Int32.toNatClampNeg (x3 + 1))), .int (pv_xs Γ (Int32.toNatClampNeg (x3 + 2)))] ty1 h1 r1 g1 (fun (v2 : Option Value) (ty2 : pv_T) (h2 : pv_H) (r2 : pv_R) (g2 : pv_G) => ∃ w2 : Int32, v2 = some (.int w2) ∧ pv_Lay ty2 r2 ∧ ((w1 = w2 → pv_E Γ d kc ks mL_law 18 [some (.ref 1), some (.ref 100), some (.ref 200), some (.int (x3 + 6))] [] ty2 h2 r2 g2 Q) ∧ (¬ w1 = w2 → Q (some (.int 0)) ty2 h2 r2 g2))))) : pv_E Γ d kc ks mL_law 1326 [some (.ref 1), some (.ref 100), some (.ref 200), some (.int x3)] [] ty h r g Q := by
  refine pv_aload_n dL_law_1326 rfl ?_
  refine pv_aload_n dL_law_1327 rfl ?_
  refine pv_iload_n dL_law_1328 rfl ?_
  refine pv_iconst (v := 1) (by decide) dL_law_1329 ?_
  refine pv_iadd dL_law_1330 ?_
  obtain ⟨q1, F⟩ := F
  obtain ⟨q1n, q1t, q1i⟩ := q1
  refine pv_sld dL_law_1331 q1t q1i ?_
  refine pv_aload_n dL_law_1332 rfl ?_
  refine pv_iload_n dL_law_1333 rfl ?_
  refine pv_iconst (v := 2) (by decide) dL_law_1334 ?_
  refine pv_iadd dL_law_1335 ?_
  obtain ⟨q2, F⟩ := F
  obtain ⟨q2n, q2t, q2i⟩ := q2
  refine pv_sld dL_law_1336 q2t q2i ?_
  refine pv_invV (As := [.int (pv_xs Γ (Int32.toNatClampNeg (x3 + 1))), .int (pv_xs Γ (Int32.toNatClampNeg (x3 + 2)))]) (d' := d - 1) dL_law_1337 moX11_sink ml_L_147 (lt_100 hL) (Or.inl ⟨_, rfl, rfl⟩) (Nat.le_of_ble_eq_true rfl) (by omega) (Nat.zero_le _) (Nat.zero_le _) F (fun v1 ty1 h1 r1 g1 F => ?_) rfl
  obtain ⟨w1, rfl, F⟩ := F
  obtain ⟨hL1, F⟩ := F
  refine pv_pc (pc' := 1340) rfl ?_
  show pv_E Γ d kc ks mL_law 1340 [some (.ref 1), some (.ref 100), some (.ref 200), some (.int x3)] [.int w1] ty1 h1 r1 g1 Q
  refine pv_aload_n dL_law_1340 rfl ?_
  refine pv_aload_n dL_law_1341 rfl ?_
  refine pv_iload_n dL_law_1342 rfl ?_
  refine pv_iconst (v := 1) (by decide) dL_law_1343 ?_
  refine pv_iadd dL_law_1344 ?_
  obtain ⟨q3, F⟩ := F
  obtain ⟨q3n, q3t, q3i⟩ := q3
  refine pv_sld dL_law_1345 q3t q3i ?_
  refine pv_aload_n dL_law_1346 rfl ?_
  refine pv_iload_n dL_law_1347 rfl ?_
  refine pv_iconst (v := 2) (by decide) dL_law_1348 ?_
  refine pv_iadd dL_law_1349 ?_
  obtain ⟨q4, F⟩ := F
  obtain ⟨q4n, q4t, q4i⟩ := q4
  refine pv_sld dL_law_1350 q4t q4i ?_
  refine pv_invV (As := [.int (pv_xs Γ (Int32.toNatClampNeg (x3 + 1))), .int (pv_xs Γ (Int32.toNatClampNeg (x3 + 2)))]) (d' := d - 1) dL_law_1351 moX12_sink ml_L_150 (lt_200 hL1) (Or.inl ⟨_, rfl, rfl⟩) (Nat.le_of_ble_eq_true rfl) (by omega) (Nat.zero_le _) (Nat.zero_le _) F (fun v2 ty2 h2 r2 g2 F => ?_) rfl
  obtain ⟨w2, rfl, F⟩ := F
  obtain ⟨hL2, F⟩ := F
  refine pv_pc (pc' := 1354) rfl ?_
  show pv_E Γ d kc ks mL_law 1354 [some (.ref 1), some (.ref 100), some (.ref 200), some (.int x3)] [.int w2, .int w1] ty2 h2 r2 g2 Q
  refine pv_icmp_eq (tgt := 1534) dL_law_1354 (by decide) (fun c1 => ?_) (fun c1 => ?_)
  · have F := F.1 c1
    refine pv_iinc (v := x3 + 6) (ls' := [some (.ref 1), some (.ref 100), some (.ref 200), some (.int (x3 + 6))]) dL_law_1534 rfl (by rfl) rfl rfl ?_
    refine pv_goto (tgt := 18) dL_law_1537 (by decide) ?_
    exact F
  · have F := F.2 c1
    refine pv_iconst (v := 0) (by decide) dL_law_1357 ?_
    exact pv_ireturn dL_law_1358 rfl (by decide) F
set_option maxRecDepth 20000 in
set_option maxHeartbeats 4000000 in
theorem sg_L_law_1359 {Γ : pv_C} {d kc ks : Nat} {ty : pv_T} {h : pv_H} {r : pv_R} {g : pv_G} {Q : pv_Q} (x3 : Int32) (hd : 1 ≤ d) (hL : pv_Lay ty r) (F : pv_inb ty 1 20 (x3 + 1) ∧ pv_inb ty 1 20 (x3 + 2) ∧ pv_CT Γ (d - 1) 0 0 mX11_opening [.ref 100, .int (pv_xs Γ (Int32.toNatClampNeg (x3 + 1))), .int (pv_xs Γ (Int32.toNatClampNeg (x3 + 2)))] ty h r g (fun (v1 : Option Value) (ty1 : pv_T) (h1 : pv_H) (r1 : pv_R) (g1 : pv_G) => ∃ w1 : Int32, v1 = some (.int w1) ∧ pv_Lay ty1 r1 ∧ pv_inb ty1 1 20 (x3 + 1) ∧ pv_inb ty1 1 20 (x3 + 2) ∧ pv_CT Γ (d - 1) 0 0 mX12_opening [.ref 200, .int (pv_xs Γ (Int32.toNatClampNeg (x3 + 1))), .int (pv_xs Γ (Int32.toNatClampNeg (x3 + 2)))] ty1 h1 r1 g1 (fun (v2 : Option Value) (ty2 : pv_T) (h2 : pv_H) (r2 : pv_R) (g2 : pv_G) => ∃ w2 : Int32, v2 = some (.int w2) ∧ pv_Lay ty2 r2 ∧ ((w1 = w2 → pv_E Γ d kc ks mL_law 18 [some (.ref 1), some (.ref 100), some (.ref 200), some (.int (x3 + 6))] [] ty2 h2 r2 g2 Q) ∧ (¬ w1 = w2 → Q (some (.int 0)) ty2 h2 r2 g2))))) : pv_E Γ d kc ks mL_law 1359 [some (.ref 1), some (.ref 100), some (.ref 200), some (.int x3)] [] ty h r g Q := by
  refine pv_aload_n dL_law_1359 rfl ?_
  refine pv_aload_n dL_law_1360 rfl ?_
  refine pv_iload_n dL_law_1361 rfl ?_
  refine pv_iconst (v := 1) (by decide) dL_law_1362 ?_
  refine pv_iadd dL_law_1363 ?_
  obtain ⟨q1, F⟩ := F
  obtain ⟨q1n, q1t, q1i⟩ := q1
  refine pv_sld dL_law_1364 q1t q1i ?_
  refine pv_aload_n dL_law_1365 rfl ?_
  refine pv_iload_n dL_law_1366 rfl ?_
  refine pv_iconst (v := 2) (by decide) dL_law_1367 ?_
  refine pv_iadd dL_law_1368 ?_
  obtain ⟨q2, F⟩ := F
  obtain ⟨q2n, q2t, q2i⟩ := q2
  refine pv_sld dL_law_1369 q2t q2i ?_
  refine pv_invV (As := [.int (pv_xs Γ (Int32.toNatClampNeg (x3 + 1))), .int (pv_xs Γ (Int32.toNatClampNeg (x3 + 2)))]) (d' := d - 1) dL_law_1370 moX11_opening ml_L_151 (lt_100 hL) (Or.inl ⟨_, rfl, rfl⟩) (Nat.le_of_ble_eq_true rfl) (by omega) (Nat.zero_le _) (Nat.zero_le _) F (fun v1 ty1 h1 r1 g1 F => ?_) rfl
  obtain ⟨w1, rfl, F⟩ := F
  obtain ⟨hL1, F⟩ := F
  refine pv_pc (pc' := 1373) rfl ?_
  show pv_E Γ d kc ks mL_law 1373 [some (.ref 1), some (.ref 100), some (.ref 200), some (.int x3)] [.int w1] ty1 h1 r1 g1 Q
  refine pv_aload_n dL_law_1373 rfl ?_
  refine pv_aload_n dL_law_1374 rfl ?_
  refine pv_iload_n dL_law_1375 rfl ?_
  refine pv_iconst (v := 1) (by decide) dL_law_1376 ?_
  refine pv_iadd dL_law_1377 ?_
  obtain ⟨q3, F⟩ := F
  obtain ⟨q3n, q3t, q3i⟩ := q3
  refine pv_sld dL_law_1378 q3t q3i ?_
  refine pv_aload_n dL_law_1379 rfl ?_
  refine pv_iload_n dL_law_1380 rfl ?_
  refine pv_iconst (v := 2) (by decide) dL_law_1381 ?_
  refine pv_iadd dL_law_1382 ?_
  obtain ⟨q4, F⟩ := F
  obtain ⟨q4n, q4t, q4i⟩ := q4
  refine pv_sld dL_law_1383 q4t q4i ?_
  refine pv_invV (As := [.int (pv_xs Γ (Int32.toNatClampNeg (x3 + 1))), .int (pv_xs Γ (Int32.toNatClampNeg (x3 + 2)))]) (d' := d - 1) dL_law_1384 moX12_opening ml_L_154 (lt_200 hL1) (Or.inl ⟨_, rfl, rfl⟩) (Nat.le_of_ble_eq_true rfl) (by omega) (Nat.zero_le _) (Nat.zero_le _) F (fun v2 ty2 h2 r2 g2 F => ?_) rfl
  obtain ⟨w2, rfl, F⟩ := F
  obtain ⟨hL2, F⟩ := F
  refine pv_pc (pc' := 1387) rfl ?_
  show pv_E Γ d kc ks mL_law 1387 [some (.ref 1), some (.ref 100), some (.ref 200), some (.int x3)] [.int w2, .int w1] ty2 h2 r2 g2 Q
  refine pv_icmp_eq (tgt := 1534) dL_law_1387 (by decide) (fun c1 => ?_) (fun c1 => ?_)
  · have F := F.1 c1
    refine pv_iinc (v := x3 + 6) (ls' := [some (.ref 1), some (.ref 100), some (.ref 200), some (.int (x3 + 6))]) dL_law_1534 rfl (by rfl) rfl rfl ?_
    refine pv_goto (tgt := 18) dL_law_1537 (by decide) ?_
    exact F
  · have F := F.2 c1
    refine pv_iconst (v := 0) (by decide) dL_law_1390 ?_
    exact pv_ireturn dL_law_1391 rfl (by decide) F
set_option maxRecDepth 20000 in
set_option maxHeartbeats 4000000 in
theorem sg_L_law_1392 {Γ : pv_C} {d kc ks : Nat} {ty : pv_T} {h : pv_H} {r : pv_R} {g : pv_G} {Q : pv_Q} (x3 : Int32) (hd : 1 ≤ d) (hL : pv_Lay ty r) (F : pv_inb ty 1 20 (x3 + 1) ∧ pv_inb ty 1 20 (x3 + 2) ∧ pv_inb ty 1 20 (x3 + 3) ∧ pv_CT Γ (d - 1) 0 0 mX11_draw [.ref 100, .int (pv_xs Γ (Int32.toNatClampNeg (x3 + 1))), .int (pv_xs Γ (Int32.toNatClampNeg (x3 + 2))), .int (pv_xs Γ (Int32.toNatClampNeg (x3 + 3)))] ty h r g (fun (v1 : Option Value) (ty1 : pv_T) (h1 : pv_H) (r1 : pv_R) (g1 : pv_G) => ∃ w1 : Int32, v1 = some (.int w1) ∧ pv_Lay ty1 r1 ∧ pv_inb ty1 1 20 (x3 + 1) ∧ pv_inb ty1 1 20 (x3 + 2) ∧ pv_inb ty1 1 20 (x3 + 3) ∧ pv_CT Γ (d - 1) 0 0 mX12_draw [.ref 200, .int (pv_xs Γ (Int32.toNatClampNeg (x3 + 1))), .int (pv_xs Γ (Int32.toNatClampNeg (x3 + 2))), .int (pv_xs Γ (Int32.toNatClampNeg (x3 + 3)))] ty1 h1 r1 g1 (fun (v2 : Option Value) (ty2 : pv_T) (h2 : pv_H) (r2 : pv_R) (g2 : pv_G) => ∃ w2 : Int32, v2 = some (.int w2) ∧ pv_Lay ty2 r2 ∧ ((w1 = w2 → pv_E Γ d kc ks mL_law 18 [some (.ref 1), some (.ref 100), some (.ref 200), some (.int (x3 + 6))] [] ty2 h2 r2 g2 Q) ∧ (¬ w1 = w2 → Q (some (.int 0)) ty2 h2 r2 g2))))) : pv_E Γ d kc ks mL_law 1392 [some (.ref 1), some (.ref 100), some (.ref 200), some (.int x3)] [] ty h r g Q := by
  refine pv_aload_n dL_law_1392 rfl ?_
  refine pv_aload_n dL_law_1393 rfl ?_
  refine pv_iload_n dL_law_1394 rfl ?_
  refine pv_iconst (v := 1) (by decide) dL_law_1395 ?_
  refine pv_iadd dL_law_1396 ?_
  obtain ⟨q1, F⟩ := F
  obtain ⟨q1n, q1t, q1i⟩ := q1
  refine pv_sld dL_law_1397 q1t q1i ?_
  refine pv_aload_n dL_law_1398 rfl ?_
  refine pv_iload_n dL_law_1399 rfl ?_
  refine pv_iconst (v := 2) (by decide) dL_law_1400 ?_
  refine pv_iadd dL_law_1401 ?_
  obtain ⟨q2, F⟩ := F
  obtain ⟨q2n, q2t, q2i⟩ := q2
  refine pv_sld dL_law_1402 q2t q2i ?_
  refine pv_aload_n dL_law_1403 rfl ?_
  refine pv_iload_n dL_law_1404 rfl ?_
  refine pv_iconst (v := 3) (by decide) dL_law_1405 ?_
  refine pv_iadd dL_law_1406 ?_
  obtain ⟨q3, F⟩ := F
  obtain ⟨q3n, q3t, q3i⟩ := q3
  refine pv_sld dL_law_1407 q3t q3i ?_
  refine pv_invV (As := [.int (pv_xs Γ (Int32.toNatClampNeg (x3 + 1))), .int (pv_xs Γ (Int32.toNatClampNeg (x3 + 2))), .int (pv_xs Γ (Int32.toNatClampNeg (x3 + 3)))]) (d' := d - 1) dL_law_1408 moX11_draw ml_L_155 (lt_100 hL) (Or.inl ⟨_, rfl, rfl⟩) (Nat.le_of_ble_eq_true rfl) (by omega) (Nat.zero_le _) (Nat.zero_le _) F (fun v1 ty1 h1 r1 g1 F => ?_) rfl
  obtain ⟨w1, rfl, F⟩ := F
  obtain ⟨hL1, F⟩ := F
  refine pv_pc (pc' := 1411) rfl ?_
  show pv_E Γ d kc ks mL_law 1411 [some (.ref 1), some (.ref 100), some (.ref 200), some (.int x3)] [.int w1] ty1 h1 r1 g1 Q
  refine pv_aload_n dL_law_1411 rfl ?_
  refine pv_aload_n dL_law_1412 rfl ?_
  refine pv_iload_n dL_law_1413 rfl ?_
  refine pv_iconst (v := 1) (by decide) dL_law_1414 ?_
  refine pv_iadd dL_law_1415 ?_
  obtain ⟨q4, F⟩ := F
  obtain ⟨q4n, q4t, q4i⟩ := q4
  refine pv_sld dL_law_1416 q4t q4i ?_
  refine pv_aload_n dL_law_1417 rfl ?_
  refine pv_iload_n dL_law_1418 rfl ?_
  refine pv_iconst (v := 2) (by decide) dL_law_1419 ?_
  refine pv_iadd dL_law_1420 ?_
  obtain ⟨q5, F⟩ := F
  obtain ⟨q5n, q5t, q5i⟩ := q5
  refine pv_sld dL_law_1421 q5t q5i ?_
  refine pv_aload_n dL_law_1422 rfl ?_
  refine pv_iload_n dL_law_1423 rfl ?_
  refine pv_iconst (v := 3) (by decide) dL_law_1424 ?_
  refine pv_iadd dL_law_1425 ?_
  obtain ⟨q6, F⟩ := F
  obtain ⟨q6n, q6t, q6i⟩ := q6
  refine pv_sld dL_law_1426 q6t q6i ?_
  refine pv_invV (As := [.int (pv_xs Γ (Int32.toNatClampNeg (x3 + 1))), .int (pv_xs Γ (Int32.toNatClampNeg (x3 + 2))), .int (pv_xs Γ (Int32.toNatClampNeg (x3 + 3)))]) (d' := d - 1) dL_law_1427 moX12_draw ml_L_158 (lt_200 hL1) (Or.inl ⟨_, rfl, rfl⟩) (Nat.le_of_ble_eq_true rfl) (by omega) (Nat.zero_le _) (Nat.zero_le _) F (fun v2 ty2 h2 r2 g2 F => ?_) rfl
  obtain ⟨w2, rfl, F⟩ := F
  obtain ⟨hL2, F⟩ := F
  refine pv_pc (pc' := 1430) rfl ?_
  show pv_E Γ d kc ks mL_law 1430 [some (.ref 1), some (.ref 100), some (.ref 200), some (.int x3)] [.int w2, .int w1] ty2 h2 r2 g2 Q
  refine pv_icmp_eq (tgt := 1534) dL_law_1430 (by decide) (fun c1 => ?_) (fun c1 => ?_)
  · have F := F.1 c1
    refine pv_iinc (v := x3 + 6) (ls' := [some (.ref 1), some (.ref 100), some (.ref 200), some (.int (x3 + 6))]) dL_law_1534 rfl (by rfl) rfl rfl ?_
    refine pv_goto (tgt := 18) dL_law_1537 (by decide) ?_
    exact F
  · have F := F.2 c1
    refine pv_iconst (v := 0) (by decide) dL_law_1433 ?_
    exact pv_ireturn dL_law_1434 rfl (by decide) F
set_option maxRecDepth 20000 in
set_option maxHeartbeats 4000000 in
theorem sg_L_law_1435 {Γ : pv_C} {d kc ks : Nat} {ty : pv_T} {h : pv_H} {r : pv_R} {g : pv_G} {Q : pv_Q} (x3 : Int32) (hd : 1 ≤ d) (hL : pv_Lay ty r) (F : pv_inb ty 1 20 (x3 + 1) ∧ pv_CT Γ (d - 1) 0 0 mX11_drawn [.ref 100, .int (pv_xs Γ (Int32.toNatClampNeg (x3 + 1)))] ty h r g (fun (v1 : Option Value) (ty1 : pv_T) (h1 : pv_H) (r1 : pv_R) (g1 : pv_G) => ∃ w1 : Int32, v1 = some (.int w1) ∧ pv_Lay ty1 r1 ∧ pv_inb ty1 1 20 (x3 + 1) ∧ pv_CT Γ (d - 1) 0 0 mX12_drawn [.ref 200, .int (pv_xs Γ (Int32.toNatClampNeg (x3 + 1)))] ty1 h1 r1 g1 (fun (v2 : Option Value) (ty2 : pv_T) (h2 : pv_H) (r2 : pv_R) (g2 : pv_G) => ∃ w2 : Int32, v2 = some (.int w2) ∧ pv_Lay ty2 r2 ∧ ((w1 = w2 → pv_E Γ d kc ks mL_law 18 [some (.ref 1), some (.ref 100), some (.ref 200), some (.int (x3 + 6))] [] ty2 h2 r2 g2 Q) ∧ (¬ w1 = w2 → Q (some (.int 0)) ty2 h2 r2 g2))))) : pv_E Γ d kc ks mL_law 1435 [some (.ref 1), some (.ref 100), some (.ref 200), some (.int x3)] [] ty h r g Q := by
  refine pv_aload_n dL_law_1435 rfl ?_
  refine pv_aload_n dL_law_1436 rfl ?_
  refine pv_iload_n dL_law_1437 rfl ?_
  refine pv_iconst (v := 1) (by decide) dL_law_1438 ?_
  refine pv_iadd dL_law_1439 ?_
  obtain ⟨q1, F⟩ := F
  obtain ⟨q1n, q1t, q1i⟩ := q1
  refine pv_sld dL_law_1440 q1t q1i ?_
  refine pv_invV (As := [.int (pv_xs Γ (Int32.toNatClampNeg (x3 + 1)))]) (d' := d - 1) dL_law_1441 moX11_drawn ml_L_159 (lt_100 hL) (Or.inl ⟨_, rfl, rfl⟩) (Nat.le_of_ble_eq_true rfl) (by omega) (Nat.zero_le _) (Nat.zero_le _) F (fun v1 ty1 h1 r1 g1 F => ?_) rfl
  obtain ⟨w1, rfl, F⟩ := F
  obtain ⟨hL1, F⟩ := F
  refine pv_pc (pc' := 1444) rfl ?_
  show pv_E Γ d kc ks mL_law 1444 [some (.ref 1), some (.ref 100), some (.ref 200), some (.int x3)] [.int w1] ty1 h1 r1 g1 Q
  refine pv_aload_n dL_law_1444 rfl ?_
  refine pv_aload_n dL_law_1445 rfl ?_
  refine pv_iload_n dL_law_1446 rfl ?_
  refine pv_iconst (v := 1) (by decide) dL_law_1447 ?_
  refine pv_iadd dL_law_1448 ?_
  obtain ⟨q2, F⟩ := F
  obtain ⟨q2n, q2t, q2i⟩ := q2
  refine pv_sld dL_law_1449 q2t q2i ?_
  refine pv_invV (As := [.int (pv_xs Γ (Int32.toNatClampNeg (x3 + 1)))]) (d' := d - 1) dL_law_1450 moX12_drawn ml_L_162 (lt_200 hL1) (Or.inl ⟨_, rfl, rfl⟩) (Nat.le_of_ble_eq_true rfl) (by omega) (Nat.zero_le _) (Nat.zero_le _) F (fun v2 ty2 h2 r2 g2 F => ?_) rfl
  obtain ⟨w2, rfl, F⟩ := F
  obtain ⟨hL2, F⟩ := F
  refine pv_pc (pc' := 1453) rfl ?_
  show pv_E Γ d kc ks mL_law 1453 [some (.ref 1), some (.ref 100), some (.ref 200), some (.int x3)] [.int w2, .int w1] ty2 h2 r2 g2 Q
  refine pv_icmp_eq (tgt := 1534) dL_law_1453 (by decide) (fun c1 => ?_) (fun c1 => ?_)
  · have F := F.1 c1
    refine pv_iinc (v := x3 + 6) (ls' := [some (.ref 1), some (.ref 100), some (.ref 200), some (.int (x3 + 6))]) dL_law_1534 rfl (by rfl) rfl rfl ?_
    refine pv_goto (tgt := 18) dL_law_1537 (by decide) ?_
    exact F
  · have F := F.2 c1
    refine pv_iconst (v := 0) (by decide) dL_law_1456 ?_
    exact pv_ireturn dL_law_1457 rfl (by decide) F
set_option maxRecDepth 20000 in
set_option maxHeartbeats 4000000 in
theorem sg_L_law_1458 {Γ : pv_C} {d kc ks : Nat} {ty : pv_T} {h : pv_H} {r : pv_R} {g : pv_G} {Q : pv_Q} (x3 : Int32) (hd : 1 ≤ d) (hL : pv_Lay ty r) (F : pv_inb ty 1 20 (x3 + 1) ∧ pv_inb ty 1 20 (x3 + 2) ∧ pv_inb ty 1 20 (x3 + 3) ∧ pv_inb ty 1 20 (x3 + 4) ∧ pv_CT Γ (d - 1) 0 0 mX11_bad [.ref 100, .int (pv_xs Γ (Int32.toNatClampNeg (x3 + 1))), .int (pv_xs Γ (Int32.toNatClampNeg (x3 + 2))), .int (pv_xs Γ (Int32.toNatClampNeg (x3 + 3))), .int (pv_xs Γ (Int32.toNatClampNeg (x3 + 4)))] ty h r g (fun (v1 : Option Value) (ty1 : pv_T) (h1 : pv_H) (r1 : pv_R) (g1 : pv_G) => ∃ w1 : Int32, v1 = some (.int w1) ∧ pv_Lay ty1 r1 ∧ pv_inb ty1 1 20 (x3 + 1) ∧ pv_inb ty1 1 20 (x3 + 2) ∧ pv_inb ty1 1 20 (x3 + 3) ∧ pv_inb ty1 1 20 (x3 + 4) ∧ pv_CT Γ (d - 1) 0 0 mX12_bad [.ref 200, .int (pv_xs Γ (Int32.toNatClampNeg (x3 + 1))), .int (pv_xs Γ (Int32.toNatClampNeg (x3 + 2))), .int (pv_xs Γ (Int32.toNatClampNeg (x3 + 3))), .int (pv_xs Γ (Int32.toNatClampNeg (x3 + 4)))] ty1 h1 r1 g1 (fun (v2 : Option Value) (ty2 : pv_T) (h2 : pv_H) (r2 : pv_R) (g2 : pv_G) => ∃ w2 : Int32, v2 = some (.int w2) ∧ pv_Lay ty2 r2 ∧ ((w1 = w2 → pv_E Γ d kc ks mL_law 18 [some (.ref 1), some (.ref 100), some (.ref 200), some (.int (x3 + 6))] [] ty2 h2 r2 g2 Q) ∧ (¬ w1 = w2 → Q (some (.int 0)) ty2 h2 r2 g2))))) : pv_E Γ d kc ks mL_law 1458 [some (.ref 1), some (.ref 100), some (.ref 200), some (.int x3)] [] ty h r g Q := by
  refine pv_aload_n dL_law_1458 rfl ?_
  refine pv_aload_n dL_law_1459 rfl ?_
  refine pv_iload_n dL_law_1460 rfl ?_
  refine pv_iconst (v := 1) (by decide) dL_law_1461 ?_
  refine pv_iadd dL_law_1462 ?_
  obtain ⟨q1, F⟩ := F
  obtain ⟨q1n, q1t, q1i⟩ := q1
  refine pv_sld dL_law_1463 q1t q1i ?_
  refine pv_aload_n dL_law_1464 rfl ?_
  refine pv_iload_n dL_law_1465 rfl ?_
  refine pv_iconst (v := 2) (by decide) dL_law_1466 ?_
  refine pv_iadd dL_law_1467 ?_
  obtain ⟨q2, F⟩ := F
  obtain ⟨q2n, q2t, q2i⟩ := q2
  refine pv_sld dL_law_1468 q2t q2i ?_
  refine pv_aload_n dL_law_1469 rfl ?_
  refine pv_iload_n dL_law_1470 rfl ?_
  refine pv_iconst (v := 3) (by decide) dL_law_1471 ?_
  refine pv_iadd dL_law_1472 ?_
  obtain ⟨q3, F⟩ := F
  obtain ⟨q3n, q3t, q3i⟩ := q3
  refine pv_sld dL_law_1473 q3t q3i ?_
  refine pv_aload_n dL_law_1474 rfl ?_
  refine pv_iload_n dL_law_1475 rfl ?_
  refine pv_iconst (v := 4) (by decide) dL_law_1476 ?_
  refine pv_iadd dL_law_1477 ?_
  obtain ⟨q4, F⟩ := F
  obtain ⟨q4n, q4t, q4i⟩ := q4
  refine pv_sld dL_law_1478 q4t q4i ?_
  refine pv_invV (As := [.int (pv_xs Γ (Int32.toNatClampNeg (x3 + 1))), .int (pv_xs Γ (Int32.toNatClampNeg (x3 + 2))), .int (pv_xs Γ (Int32.toNatClampNeg (x3 + 3))), .int (pv_xs Γ (Int32.toNatClampNeg (x3 + 4)))]) (d' := d - 1) dL_law_1479 moX11_bad ml_L_163 (lt_100 hL) (Or.inl ⟨_, rfl, rfl⟩) (Nat.le_of_ble_eq_true rfl) (by omega) (Nat.zero_le _) (Nat.zero_le _) F (fun v1 ty1 h1 r1 g1 F => ?_) rfl
  obtain ⟨w1, rfl, F⟩ := F
  obtain ⟨hL1, F⟩ := F
  refine pv_pc (pc' := 1482) rfl ?_
  show pv_E Γ d kc ks mL_law 1482 [some (.ref 1), some (.ref 100), some (.ref 200), some (.int x3)] [.int w1] ty1 h1 r1 g1 Q
  refine pv_aload_n dL_law_1482 rfl ?_
  refine pv_aload_n dL_law_1483 rfl ?_
  refine pv_iload_n dL_law_1484 rfl ?_
  refine pv_iconst (v := 1) (by decide) dL_law_1485 ?_
  refine pv_iadd dL_law_1486 ?_
  obtain ⟨q5, F⟩ := F
  obtain ⟨q5n, q5t, q5i⟩ := q5
  refine pv_sld dL_law_1487 q5t q5i ?_
  refine pv_aload_n dL_law_1488 rfl ?_
  refine pv_iload_n dL_law_1489 rfl ?_
  refine pv_iconst (v := 2) (by decide) dL_law_1490 ?_
  refine pv_iadd dL_law_1491 ?_
  obtain ⟨q6, F⟩ := F
  obtain ⟨q6n, q6t, q6i⟩ := q6
  refine pv_sld dL_law_1492 q6t q6i ?_
  refine pv_aload_n dL_law_1493 rfl ?_
  refine pv_iload_n dL_law_1494 rfl ?_
  refine pv_iconst (v := 3) (by decide) dL_law_1495 ?_
  refine pv_iadd dL_law_1496 ?_
  obtain ⟨q7, F⟩ := F
  obtain ⟨q7n, q7t, q7i⟩ := q7
  refine pv_sld dL_law_1497 q7t q7i ?_
  refine pv_aload_n dL_law_1498 rfl ?_
  refine pv_iload_n dL_law_1499 rfl ?_
  refine pv_iconst (v := 4) (by decide) dL_law_1500 ?_
  refine pv_iadd dL_law_1501 ?_
  obtain ⟨q8, F⟩ := F
  obtain ⟨q8n, q8t, q8i⟩ := q8
  refine pv_sld dL_law_1502 q8t q8i ?_
  refine pv_invV (As := [.int (pv_xs Γ (Int32.toNatClampNeg (x3 + 1))), .int (pv_xs Γ (Int32.toNatClampNeg (x3 + 2))), .int (pv_xs Γ (Int32.toNatClampNeg (x3 + 3))), .int (pv_xs Γ (Int32.toNatClampNeg (x3 + 4)))]) (d' := d - 1) dL_law_1503 moX12_bad ml_L_166 (lt_200 hL1) (Or.inl ⟨_, rfl, rfl⟩) (Nat.le_of_ble_eq_true rfl) (by omega) (Nat.zero_le _) (Nat.zero_le _) F (fun v2 ty2 h2 r2 g2 F => ?_) rfl
  obtain ⟨w2, rfl, F⟩ := F
  obtain ⟨hL2, F⟩ := F
  refine pv_pc (pc' := 1506) rfl ?_
  show pv_E Γ d kc ks mL_law 1506 [some (.ref 1), some (.ref 100), some (.ref 200), some (.int x3)] [.int w2, .int w1] ty2 h2 r2 g2 Q
  refine pv_icmp_eq (tgt := 1534) dL_law_1506 (by decide) (fun c1 => ?_) (fun c1 => ?_)
  · have F := F.1 c1
    refine pv_iinc (v := x3 + 6) (ls' := [some (.ref 1), some (.ref 100), some (.ref 200), some (.int (x3 + 6))]) dL_law_1534 rfl (by rfl) rfl rfl ?_
    refine pv_goto (tgt := 18) dL_law_1537 (by decide) ?_
    exact F
  · have F := F.2 c1
    refine pv_iconst (v := 0) (by decide) dL_law_1509 ?_
    exact pv_ireturn dL_law_1510 rfl (by decide) F
set_option maxRecDepth 20000 in
set_option maxHeartbeats 4000000 in
theorem sg_L_law_1511 {Γ : pv_C} {d kc ks : Nat} {ty : pv_T} {h : pv_H} {r : pv_R} {g : pv_G} {Q : pv_Q} (x3 : Int32) (hd : 1 ≤ d) (hL : pv_Lay ty r) (F : pv_inb ty 1 20 (x3 + 1) ∧ pv_CT Γ (d - 1) 0 0 mX11_count [.ref 100, .int (pv_xs Γ (Int32.toNatClampNeg (x3 + 1)))] ty h r g (fun (v1 : Option Value) (ty1 : pv_T) (h1 : pv_H) (r1 : pv_R) (g1 : pv_G) => ∃ w1 : Int32, v1 = some (.int w1) ∧ pv_Lay ty1 r1 ∧ pv_inb ty1 1 20 (x3 + 1) ∧ pv_CT Γ (d - 1) 0 0 mX12_count [.ref 200, .int (pv_xs Γ (Int32.toNatClampNeg (x3 + 1)))] ty1 h1 r1 g1 (fun (v2 : Option Value) (ty2 : pv_T) (h2 : pv_H) (r2 : pv_R) (g2 : pv_G) => ∃ w2 : Int32, v2 = some (.int w2) ∧ pv_Lay ty2 r2 ∧ ((w1 = w2 → pv_E Γ d kc ks mL_law 18 [some (.ref 1), some (.ref 100), some (.ref 200), some (.int (x3 + 6))] [] ty2 h2 r2 g2 Q) ∧ (¬ w1 = w2 → Q (some (.int 0)) ty2 h2 r2 g2))))) : pv_E Γ d kc ks mL_law 1511 [some (.ref 1), some (.ref 100), some (.ref 200), some (.int x3)] [] ty h r g Q := by
  refine pv_aload_n dL_law_1511 rfl ?_
  refine pv_aload_n dL_law_1512 rfl ?_
  refine pv_iload_n dL_law_1513 rfl ?_
  refine pv_iconst (v := 1) (by decide) dL_law_1514 ?_
  refine pv_iadd dL_law_1515 ?_
  obtain ⟨q1, F⟩ := F
  obtain ⟨q1n, q1t, q1i⟩ := q1
  refine pv_sld dL_law_1516 q1t q1i ?_
  refine pv_invV (As := [.int (pv_xs Γ (Int32.toNatClampNeg (x3 + 1)))]) (d' := d - 1) dL_law_1517 moX11_count ml_L_167 (lt_100 hL) (Or.inl ⟨_, rfl, rfl⟩) (Nat.le_of_ble_eq_true rfl) (by omega) (Nat.zero_le _) (Nat.zero_le _) F (fun v1 ty1 h1 r1 g1 F => ?_) rfl
  obtain ⟨w1, rfl, F⟩ := F
  obtain ⟨hL1, F⟩ := F
  refine pv_pc (pc' := 1520) rfl ?_
  show pv_E Γ d kc ks mL_law 1520 [some (.ref 1), some (.ref 100), some (.ref 200), some (.int x3)] [.int w1] ty1 h1 r1 g1 Q
  refine pv_aload_n dL_law_1520 rfl ?_
  refine pv_aload_n dL_law_1521 rfl ?_
  refine pv_iload_n dL_law_1522 rfl ?_
  refine pv_iconst (v := 1) (by decide) dL_law_1523 ?_
  refine pv_iadd dL_law_1524 ?_
  obtain ⟨q2, F⟩ := F
  obtain ⟨q2n, q2t, q2i⟩ := q2
  refine pv_sld dL_law_1525 q2t q2i ?_
  refine pv_invV (As := [.int (pv_xs Γ (Int32.toNatClampNeg (x3 + 1)))]) (d' := d - 1) dL_law_1526 moX12_count ml_L_170 (lt_200 hL1) (Or.inl ⟨_, rfl, rfl⟩) (Nat.le_of_ble_eq_true rfl) (by omega) (Nat.zero_le _) (Nat.zero_le _) F (fun v2 ty2 h2 r2 g2 F => ?_) rfl
  obtain ⟨w2, rfl, F⟩ := F
  obtain ⟨hL2, F⟩ := F
  refine pv_pc (pc' := 1529) rfl ?_
  show pv_E Γ d kc ks mL_law 1529 [some (.ref 1), some (.ref 100), some (.ref 200), some (.int x3)] [.int w2, .int w1] ty2 h2 r2 g2 Q
  refine pv_icmp_eq (tgt := 1534) dL_law_1529 (by decide) (fun c1 => ?_) (fun c1 => ?_)
  · have F := F.1 c1
    refine pv_iinc (v := x3 + 6) (ls' := [some (.ref 1), some (.ref 100), some (.ref 200), some (.int (x3 + 6))]) dL_law_1534 rfl (by rfl) rfl rfl ?_
    refine pv_goto (tgt := 18) dL_law_1537 (by decide) ?_
    exact F
  · have F := F.2 c1
    refine pv_iconst (v := 0) (by decide) dL_law_1532 ?_
    exact pv_ireturn dL_law_1533 rfl (by decide) F
section LW
variable {Γ : pv_C} {d kc ks L : Nat} {ty : pv_T} {h : pv_H} {r : pv_R} {g : pv_G} {Q : pv_Q} {i : Nat}
theorem lw_b (t : ty 1 = some (20, L)) (hi : i + 6 ≤ L) (hL : L ≤ 3072) (k : Nat) (hk : k < 6) : pv_inb ty 1 20 (nI i + nI k) := ⟨L, t, by rw [nI_add]; exact vp_in_nI (by omega) (by omega)⟩
/-- the law goes on behind a call -/
def lw_nx (Γ : pv_C) (d kc ks L i : Nat) (Q : pv_Q) : Prop := ∀ (kc' ks' : Nat) (ty : pv_T) (h : pv_H) (r : pv_R) (g : pv_G), kc ≤ kc' + 4 → ks ≤ ks' + 400 → Inv L ty h r g → pv_E Γ d kc' ks' mL_law 18 [some (.ref 1), some (.ref 100), some (.ref 200), some (.int (nI i + 6))] [] ty h r g Q
theorem lw_street (hd : 76 ≤ d) (hkc : 4 ≤ kc) (hks : 400 ≤ ks) (hL3 : L ≤ 3072) (hi : i + 6 ≤ L) (I : Inv L ty h r g) (hE : lw_nx Γ d kc ks L i Q) : pv_E Γ d kc ks mL_law 200 [some (.ref 1), some (.ref 100), some (.ref 200), some (.int (nI i))] [] ty h r g Q := by
  obtain ⟨ns, T, nh, na, tl, no, nd, st, hL, iT, -⟩ := id I
  refine sg_L_law_200 (nI i) (by omega) hL ⟨lw_b iT.1 hi hL3 1 (by decide), lw_b iT.1 hi hL3 2 (by decide), lw_b iT.1 hi hL3 3 (by decide), by omega, by omega, pv_CT.mono (iv_street (by omega) I) (fun v1 ty1 h1 r1 g1 q => ?_)⟩
  obtain ⟨w, rfl, hL1, t1, q⟩ := q
  refine ⟨w, rfl, hL1, lw_b t1 hi hL3 1 (by decide), lw_b t1 hi hL3 2 (by decide), lw_b t1 hi hL3 3 (by decide), pv_CT.mono q (fun v2 ty2 h2 r2 g2 q => ?_)⟩
  obtain ⟨rfl, I2⟩ := q
  obtain ⟨ns2, T2, nh2, na2, tl2, no2, nd2, st2, hL2, -⟩ := id I2
  exact ⟨w, rfl, hL2, fun _ => hE _ _ _ _ _ _ (by omega) (by omega) I2, fun z => absurd rfl z⟩
theorem lw_height (hd : 76 ≤ d) (hkc : 4 ≤ kc) (hks : 400 ≤ ks) (hL3 : L ≤ 3072) (hi : i + 6 ≤ L) (I : Inv L ty h r g) (hE : lw_nx Γ d kc ks L i Q) : pv_E Γ d kc ks mL_law 243 [some (.ref 1), some (.ref 100), some (.ref 200), some (.int (nI i))] [] ty h r g Q := by
  obtain ⟨ns, T, nh, na, tl, no, nd, st, hL, iT, -⟩ := id I
  refine sg_L_law_243 (nI i) (by omega) hL ⟨lw_b iT.1 hi hL3 1 (by decide), lw_b iT.1 hi hL3 2 (by decide), lw_b iT.1 hi hL3 3 (by decide), lw_b iT.1 hi hL3 4 (by decide), pv_CT.mono (iv_height (by omega) I) (fun v1 ty1 h1 r1 g1 q => ?_)⟩
  obtain ⟨w, rfl, hL1, t1, q⟩ := q
  refine ⟨w, rfl, hL1, lw_b t1 hi hL3 1 (by decide), lw_b t1 hi hL3 2 (by decide), lw_b t1 hi hL3 3 (by decide), lw_b t1 hi hL3 4 (by decide), pv_CT.mono q (fun v2 ty2 h2 r2 g2 q => ?_)⟩
  obtain ⟨rfl, I2⟩ := q
  obtain ⟨ns2, T2, nh2, na2, tl2, no2, nd2, st2, hL2, -⟩ := id I2
  exact ⟨w, rfl, hL2, fun _ => hE _ _ _ _ _ _ (by omega) (by omega) I2, fun z => absurd rfl z⟩
theorem lw_read (hd : 76 ≤ d) (hkc : 4 ≤ kc) (hks : 400 ≤ ks) (hL3 : L ≤ 3072) (hi : i + 6 ≤ L) (I : Inv L ty h r g) (hE : lw_nx Γ d kc ks L i Q) : pv_E Γ d kc ks mL_law 296 [some (.ref 1), some (.ref 100), some (.ref 200), some (.int (nI i))] [] ty h r g Q := by
  obtain ⟨ns, T, nh, na, tl, no, nd, st, hL, iT, -⟩ := id I
  refine sg_L_law_296 (nI i) (by omega) hL ⟨lw_b iT.1 hi hL3 1 (by decide), lw_b iT.1 hi hL3 2 (by decide), lw_b iT.1 hi hL3 3 (by decide), pv_CT.mono (iv_read (by omega) I) (fun v1 ty1 h1 r1 g1 q => ?_)⟩
  obtain ⟨w, rfl, hL1, t1, q⟩ := q
  refine ⟨w, rfl, hL1, lw_b t1 hi hL3 1 (by decide), lw_b t1 hi hL3 2 (by decide), lw_b t1 hi hL3 3 (by decide), pv_CT.mono q (fun v2 ty2 h2 r2 g2 q => ?_)⟩
  obtain ⟨rfl, I2⟩ := q
  obtain ⟨ns2, T2, nh2, na2, tl2, no2, nd2, st2, hL2, -⟩ := id I2
  exact ⟨w, rfl, hL2, fun _ => hE _ _ _ _ _ _ (by omega) (by omega) I2, fun z => absurd rfl z⟩
theorem lw_drain (hd : 76 ≤ d) (hkc : 4 ≤ kc) (hks : 400 ≤ ks) (hL3 : L ≤ 3072) (hi : i + 6 ≤ L) (I : Inv L ty h r g) (hE : lw_nx Γ d kc ks L i Q) : pv_E Γ d kc ks mL_law 339 [some (.ref 1), some (.ref 100), some (.ref 200), some (.int (nI i))] [] ty h r g Q := by
  obtain ⟨ns, T, nh, na, tl, no, nd, st, hL, iT, -⟩ := id I
  refine sg_L_law_339 (nI i) (by omega) hL ⟨lw_b iT.1 hi hL3 1 (by decide), lw_b iT.1 hi hL3 2 (by decide), lw_b iT.1 hi hL3 3 (by decide), lw_b iT.1 hi hL3 4 (by decide), pv_CT.mono (iv_drain (by omega) I) (fun v1 ty1 h1 r1 g1 q => ?_)⟩
  obtain ⟨w, rfl, hL1, t1, q⟩ := q
  refine ⟨w, rfl, hL1, lw_b t1 hi hL3 1 (by decide), lw_b t1 hi hL3 2 (by decide), lw_b t1 hi hL3 3 (by decide), lw_b t1 hi hL3 4 (by decide), pv_CT.mono q (fun v2 ty2 h2 r2 g2 q => ?_)⟩
  obtain ⟨rfl, I2⟩ := q
  obtain ⟨ns2, T2, nh2, na2, tl2, no2, nd2, st2, hL2, -⟩ := id I2
  exact ⟨w, rfl, hL2, fun _ => hE _ _ _ _ _ _ (by omega) (by omega) I2, fun z => absurd rfl z⟩
theorem lw_water (hd : 76 ≤ d) (hkc : 4 ≤ kc) (hks : 400 ≤ ks) (hL3 : L ≤ 3072) (hi : i + 6 ≤ L) (I : Inv L ty h r g) (hE : lw_nx Γ d kc ks L i Q) : pv_E Γ d kc ks mL_law 392 [some (.ref 1), some (.ref 100), some (.ref 200), some (.int (nI i))] [] ty h r g Q := by
  obtain ⟨ns, T, nh, na, tl, no, nd, st, hL, iT, -⟩ := id I
  refine sg_L_law_392 (nI i) (by omega) hL ⟨lw_b iT.1 hi hL3 1 (by decide), lw_b iT.1 hi hL3 2 (by decide), lw_b iT.1 hi hL3 3 (by decide), pv_CT.mono (iv_water (by omega) I) (fun v1 ty1 h1 r1 g1 q => ?_)⟩
  obtain ⟨w, rfl, hL1, t1, q⟩ := q
  refine ⟨w, rfl, hL1, lw_b t1 hi hL3 1 (by decide), lw_b t1 hi hL3 2 (by decide), lw_b t1 hi hL3 3 (by decide), pv_CT.mono q (fun v2 ty2 h2 r2 g2 q => ?_)⟩
  obtain ⟨rfl, I2⟩ := q
  obtain ⟨ns2, T2, nh2, na2, tl2, no2, nd2, st2, hL2, -⟩ := id I2
  exact ⟨w, rfl, hL2, fun _ => hE _ _ _ _ _ _ (by omega) (by omega) I2, fun z => absurd rfl z⟩
theorem lw_standing (hd : 76 ≤ d) (hkc : 4 ≤ kc) (hks : 400 ≤ ks) (hL3 : L ≤ 3072) (hi : i + 6 ≤ L) (I : Inv L ty h r g) (hE : lw_nx Γ d kc ks L i Q) : pv_E Γ d kc ks mL_law 435 [some (.ref 1), some (.ref 100), some (.ref 200), some (.int (nI i))] [] ty h r g Q := by
  obtain ⟨ns, T, nh, na, tl, no, nd, st, hL, iT, -⟩ := id I
  refine sg_L_law_435 (nI i) (by omega) hL ⟨lw_b iT.1 hi hL3 1 (by decide), pv_CT.mono (iv_standing (by omega) I) (fun v1 ty1 h1 r1 g1 q => ?_)⟩
  obtain ⟨w, rfl, hL1, t1, q⟩ := q
  refine ⟨w, rfl, hL1, lw_b t1 hi hL3 1 (by decide), pv_CT.mono q (fun v2 ty2 h2 r2 g2 q => ?_)⟩
  obtain ⟨rfl, I2⟩ := q
  obtain ⟨ns2, T2, nh2, na2, tl2, no2, nd2, st2, hL2, -⟩ := id I2
  exact ⟨w, rfl, hL2, fun _ => hE _ _ _ _ _ _ (by omega) (by omega) I2, fun z => absurd rfl z⟩
theorem lw_most (hd : 76 ≤ d) (hkc : 4 ≤ kc) (hks : 400 ≤ ks) (hL3 : L ≤ 3072) (hi : i + 6 ≤ L) (I : Inv L ty h r g) (hE : lw_nx Γ d kc ks L i Q) : pv_E Γ d kc ks mL_law 458 [some (.ref 1), some (.ref 100), some (.ref 200), some (.int (nI i))] [] ty h r g Q := by
  obtain ⟨ns, T, nh, na, tl, no, nd, st, hL, iT, -⟩ := id I
  refine sg_L_law_458 (nI i) (by omega) hL ⟨lw_b iT.1 hi hL3 1 (by decide), pv_CT.mono (iv_most (by omega) I) (fun v1 ty1 h1 r1 g1 q => ?_)⟩
  obtain ⟨w, rfl, hL1, t1, q⟩ := q
  refine ⟨w, rfl, hL1, lw_b t1 hi hL3 1 (by decide), pv_CT.mono q (fun v2 ty2 h2 r2 g2 q => ?_)⟩
  obtain ⟨rfl, I2⟩ := q
  obtain ⟨ns2, T2, nh2, na2, tl2, no2, nd2, st2, hL2, -⟩ := id I2
  exact ⟨w, rfl, hL2, fun _ => hE _ _ _ _ _ _ (by omega) (by omega) I2, fun z => absurd rfl z⟩
theorem lw_level (hd : 76 ≤ d) (hkc : 4 ≤ kc) (hks : 400 ≤ ks) (hL3 : L ≤ 3072) (hi : i + 6 ≤ L) (I : Inv L ty h r g) (hE : lw_nx Γ d kc ks L i Q) : pv_E Γ d kc ks mL_law 481 [some (.ref 1), some (.ref 100), some (.ref 200), some (.int (nI i))] [] ty h r g Q := by
  obtain ⟨ns, T, nh, na, tl, no, nd, st, hL, iT, -⟩ := id I
  refine sg_L_law_481 (nI i) (by omega) hL ⟨lw_b iT.1 hi hL3 1 (by decide), lw_b iT.1 hi hL3 2 (by decide), lw_b iT.1 hi hL3 3 (by decide), lw_b iT.1 hi hL3 4 (by decide), pv_CT.mono (iv_level (by omega) I) (fun v1 ty1 h1 r1 g1 q => ?_)⟩
  obtain ⟨w, rfl, hL1, t1, q⟩ := q
  refine ⟨w, rfl, hL1, lw_b t1 hi hL3 1 (by decide), lw_b t1 hi hL3 2 (by decide), lw_b t1 hi hL3 3 (by decide), lw_b t1 hi hL3 4 (by decide), pv_CT.mono q (fun v2 ty2 h2 r2 g2 q => ?_)⟩
  obtain ⟨rfl, I2⟩ := q
  obtain ⟨ns2, T2, nh2, na2, tl2, no2, nd2, st2, hL2, -⟩ := id I2
  exact ⟨w, rfl, hL2, fun _ => hE _ _ _ _ _ _ (by omega) (by omega) I2, fun z => absurd rfl z⟩
theorem lw_levelled (hd : 76 ≤ d) (hkc : 4 ≤ kc) (hks : 400 ≤ ks) (hL3 : L ≤ 3072) (hi : i + 6 ≤ L) (I : Inv L ty h r g) (hE : lw_nx Γ d kc ks L i Q) : pv_E Γ d kc ks mL_law 534 [some (.ref 1), some (.ref 100), some (.ref 200), some (.int (nI i))] [] ty h r g Q := by
  obtain ⟨ns, T, nh, na, tl, no, nd, st, hL, iT, -⟩ := id I
  refine sg_L_law_534 (nI i) (by omega) hL ⟨lw_b iT.1 hi hL3 1 (by decide), pv_CT.mono (iv_levelled (by omega) I) (fun v1 ty1 h1 r1 g1 q => ?_)⟩
  obtain ⟨w, rfl, hL1, t1, q⟩ := q
  refine ⟨w, rfl, hL1, lw_b t1 hi hL3 1 (by decide), pv_CT.mono q (fun v2 ty2 h2 r2 g2 q => ?_)⟩
  obtain ⟨rfl, I2⟩ := q
  obtain ⟨ns2, T2, nh2, na2, tl2, no2, nd2, st2, hL2, -⟩ := id I2
  exact ⟨w, rfl, hL2, fun _ => hE _ _ _ _ _ _ (by omega) (by omega) I2, fun z => absurd rfl z⟩
theorem lw_move (hd : 76 ≤ d) (hkc : 4 ≤ kc) (hks : 400 ≤ ks) (hL3 : L ≤ 3072) (hi : i + 6 ≤ L) (I : Inv L ty h r g) (hE : lw_nx Γ d kc ks L i Q) : pv_E Γ d kc ks mL_law 557 [some (.ref 1), some (.ref 100), some (.ref 200), some (.int (nI i))] [] ty h r g Q := by
  obtain ⟨ns, T, nh, na, tl, no, nd, st, hL, iT, -⟩ := id I
  refine sg_L_law_557 (nI i) (by omega) hL (pv_CT.mono (iv_move (by omega) I) (fun v1 ty1 h1 r1 g1 q => ?_))
  obtain ⟨w, rfl, hL1, t1, q⟩ := q
  refine ⟨w, rfl, hL1, pv_CT.mono q (fun v2 ty2 h2 r2 g2 q => ?_)⟩
  obtain ⟨rfl, I2⟩ := q
  obtain ⟨ns2, T2, nh2, na2, tl2, no2, nd2, st2, hL2, -⟩ := id I2
  exact ⟨w, rfl, hL2, fun _ => hE _ _ _ _ _ _ (by omega) (by omega) I2, fun z => absurd rfl z⟩
theorem lw_stones (hd : 76 ≤ d) (hkc : 4 ≤ kc) (hks : 400 ≤ ks) (hL3 : L ≤ 3072) (hi : i + 6 ≤ L) (I : Inv L ty h r g) (hE : lw_nx Γ d kc ks L i Q) : pv_E Γ d kc ks mL_law 570 [some (.ref 1), some (.ref 100), some (.ref 200), some (.int (nI i))] [] ty h r g Q := by
  obtain ⟨ns, T, nh, na, tl, no, nd, st, hL, iT, -⟩ := id I
  refine sg_L_law_570 (nI i) (by omega) hL ⟨lw_b iT.1 hi hL3 1 (by decide), lw_b iT.1 hi hL3 2 (by decide), pv_CT.mono (iv_stones (by omega) I) (fun v1 ty1 h1 r1 g1 q => ?_)⟩
  obtain ⟨w, rfl, hL1, t1, q⟩ := q
  refine ⟨w, rfl, hL1, lw_b t1 hi hL3 1 (by decide), lw_b t1 hi hL3 2 (by decide), pv_CT.mono q (fun v2 ty2 h2 r2 g2 q => ?_)⟩
  obtain ⟨rfl, I2⟩ := q
  obtain ⟨ns2, T2, nh2, na2, tl2, no2, nd2, st2, hL2, -⟩ := id I2
  exact ⟨w, rfl, hL2, fun _ => hE _ _ _ _ _ _ (by omega) (by omega) I2, fun z => absurd rfl z⟩
theorem lw_course (hd : 76 ≤ d) (hkc : 4 ≤ kc) (hks : 400 ≤ ks) (hL3 : L ≤ 3072) (hi : i + 6 ≤ L) (I : Inv L ty h r g) (hE : lw_nx Γ d kc ks L i Q) : pv_E Γ d kc ks mL_law 603 [some (.ref 1), some (.ref 100), some (.ref 200), some (.int (nI i))] [] ty h r g Q := by
  obtain ⟨ns, T, nh, na, tl, no, nd, st, hL, iT, -⟩ := id I
  refine sg_L_law_603 (nI i) (by omega) hL ⟨lw_b iT.1 hi hL3 1 (by decide), pv_CT.mono (iv_course (by omega) I) (fun v1 ty1 h1 r1 g1 q => ?_)⟩
  obtain ⟨w, rfl, hL1, t1, q⟩ := q
  refine ⟨w, rfl, hL1, lw_b t1 hi hL3 1 (by decide), pv_CT.mono q (fun v2 ty2 h2 r2 g2 q => ?_)⟩
  obtain ⟨rfl, I2⟩ := q
  obtain ⟨ns2, T2, nh2, na2, tl2, no2, nd2, st2, hL2, -⟩ := id I2
  exact ⟨w, rfl, hL2, fun _ => hE _ _ _ _ _ _ (by omega) (by omega) I2, fun z => absurd rfl z⟩
theorem lw_of (hd : 76 ≤ d) (hkc : 4 ≤ kc) (hks : 400 ≤ ks) (hL3 : L ≤ 3072) (hi : i + 6 ≤ L) (I : Inv L ty h r g) (hE : lw_nx Γ d kc ks L i Q) : pv_E Γ d kc ks mL_law 626 [some (.ref 1), some (.ref 100), some (.ref 200), some (.int (nI i))] [] ty h r g Q := by
  obtain ⟨ns, T, nh, na, tl, no, nd, st, hL, iT, -⟩ := id I
  refine sg_L_law_626 (nI i) (by omega) hL ⟨lw_b iT.1 hi hL3 1 (by decide), pv_CT.mono (iv_of (by omega) I) (fun v1 ty1 h1 r1 g1 q => ?_)⟩
  obtain ⟨w, rfl, hL1, t1, q⟩ := q
  refine ⟨w, rfl, hL1, lw_b t1 hi hL3 1 (by decide), pv_CT.mono q (fun v2 ty2 h2 r2 g2 q => ?_)⟩
  obtain ⟨rfl, I2⟩ := q
  obtain ⟨ns2, T2, nh2, na2, tl2, no2, nd2, st2, hL2, -⟩ := id I2
  exact ⟨w, rfl, hL2, fun _ => hE _ _ _ _ _ _ (by omega) (by omega) I2, fun z => absurd rfl z⟩
theorem lw_lay (hd : 76 ≤ d) (hkc : 4 ≤ kc) (hks : 400 ≤ ks) (hL3 : L ≤ 3072) (hi : i + 6 ≤ L) (I : Inv L ty h r g) (hE : lw_nx Γ d kc ks L i Q) : pv_E Γ d kc ks mL_law 649 [some (.ref 1), some (.ref 100), some (.ref 200), some (.int (nI i))] [] ty h r g Q := by
  obtain ⟨ns, T, nh, na, tl, no, nd, st, hL, iT, -⟩ := id I
  refine sg_L_law_649 (nI i) (by omega) hL ⟨lw_b iT.1 hi hL3 1 (by decide), pv_CT.mono (iv_lay (by omega) I) (fun v1 ty1 h1 r1 g1 q => ?_)⟩
  obtain ⟨w, rfl, hL1, t1, q⟩ := q
  refine ⟨w, rfl, hL1, lw_b t1 hi hL3 1 (by decide), pv_CT.mono q (fun v2 ty2 h2 r2 g2 q => ?_)⟩
  obtain ⟨rfl, I2⟩ := q
  obtain ⟨ns2, T2, nh2, na2, tl2, no2, nd2, st2, hL2, -⟩ := id I2
  exact ⟨w, rfl, hL2, fun _ => hE _ _ _ _ _ _ (by omega) (by omega) I2, fun z => absurd rfl z⟩
theorem lw_year (hd : 76 ≤ d) (hkc : 4 ≤ kc) (hks : 400 ≤ ks) (hL3 : L ≤ 3072) (hi : i + 6 ≤ L) (I : Inv L ty h r g) (hE : lw_nx Γ d kc ks L i Q) : pv_E Γ d kc ks mL_law 672 [some (.ref 1), some (.ref 100), some (.ref 200), some (.int (nI i))] [] ty h r g Q := by
  obtain ⟨ns, T, nh, na, tl, no, nd, st, hL, iT, -⟩ := id I
  refine sg_L_law_672 (nI i) (by omega) hL (pv_CT.mono (iv_year (by omega) I) (fun v1 ty1 h1 r1 g1 q => ?_))
  obtain ⟨w, rfl, hL1, t1, q⟩ := q
  refine ⟨w, rfl, hL1, pv_CT.mono q (fun v2 ty2 h2 r2 g2 q => ?_)⟩
  obtain ⟨rfl, I2⟩ := q
  obtain ⟨ns2, T2, nh2, na2, tl2, no2, nd2, st2, hL2, -⟩ := id I2
  exact ⟨w, rfl, hL2, fun _ => hE _ _ _ _ _ _ (by omega) (by omega) I2, fun z => absurd rfl z⟩
theorem lw_wheels (hd : 76 ≤ d) (hkc : 4 ≤ kc) (hks : 400 ≤ ks) (hL3 : L ≤ 3072) (hi : i + 6 ≤ L) (I : Inv L ty h r g) (hE : lw_nx Γ d kc ks L i Q) : pv_E Γ d kc ks mL_law 685 [some (.ref 1), some (.ref 100), some (.ref 200), some (.int (nI i))] [] ty h r g Q := by
  obtain ⟨ns, T, nh, na, tl, no, nd, st, hL, iT, -⟩ := id I
  refine sg_L_law_685 (nI i) (by omega) hL ⟨lw_b iT.1 hi hL3 1 (by decide), lw_b iT.1 hi hL3 2 (by decide), lw_b iT.1 hi hL3 3 (by decide), pv_CT.mono (iv_wheels (by omega) I) (fun v1 ty1 h1 r1 g1 q => ?_)⟩
  obtain ⟨w, rfl, hL1, t1, q⟩ := q
  refine ⟨w, rfl, hL1, lw_b t1 hi hL3 1 (by decide), lw_b t1 hi hL3 2 (by decide), lw_b t1 hi hL3 3 (by decide), pv_CT.mono q (fun v2 ty2 h2 r2 g2 q => ?_)⟩
  obtain ⟨rfl, I2⟩ := q
  obtain ⟨ns2, T2, nh2, na2, tl2, no2, nd2, st2, hL2, -⟩ := id I2
  exact ⟨w, rfl, hL2, fun _ => hE _ _ _ _ _ _ (by omega) (by omega) I2, fun z => absurd rfl z⟩
theorem lw_pave (hd : 76 ≤ d) (hkc : 4 ≤ kc) (hks : 400 ≤ ks) (hL3 : L ≤ 3072) (hi : i + 6 ≤ L) (I : Inv L ty h r g) (hE : lw_nx Γ d kc ks L i Q) : pv_E Γ d kc ks mL_law 728 [some (.ref 1), some (.ref 100), some (.ref 200), some (.int (nI i))] [] ty h r g Q := by
  obtain ⟨ns, T, nh, na, tl, no, nd, st, hL, iT, -⟩ := id I
  refine sg_L_law_728 (nI i) (by omega) hL ⟨lw_b iT.1 hi hL3 1 (by decide), pv_CT.mono (iv_pave (by omega) I) (fun v1 ty1 h1 r1 g1 q => ?_)⟩
  obtain ⟨w, rfl, hL1, t1, q⟩ := q
  refine ⟨w, rfl, hL1, lw_b t1 hi hL3 1 (by decide), pv_CT.mono q (fun v2 ty2 h2 r2 g2 q => ?_)⟩
  obtain ⟨rfl, I2⟩ := q
  obtain ⟨ns2, T2, nh2, na2, tl2, no2, nd2, st2, hL2, -⟩ := id I2
  exact ⟨w, rfl, hL2, fun _ => hE _ _ _ _ _ _ (by omega) (by omega) I2, fun z => absurd rfl z⟩
theorem lw_wear (hd : 76 ≤ d) (hkc : 4 ≤ kc) (hks : 400 ≤ ks) (hL3 : L ≤ 3072) (hi : i + 6 ≤ L) (I : Inv L ty h r g) (hE : lw_nx Γ d kc ks L i Q) : pv_E Γ d kc ks mL_law 751 [some (.ref 1), some (.ref 100), some (.ref 200), some (.int (nI i))] [] ty h r g Q := by
  obtain ⟨ns, T, nh, na, tl, no, nd, st, hL, iT, -⟩ := id I
  refine sg_L_law_751 (nI i) (by omega) hL ⟨lw_b iT.1 hi hL3 1 (by decide), lw_b iT.1 hi hL3 2 (by decide), pv_CT.mono (iv_wear (by omega) I) (fun v1 ty1 h1 r1 g1 q => ?_)⟩
  obtain ⟨w, rfl, hL1, t1, q⟩ := q
  refine ⟨w, rfl, hL1, lw_b t1 hi hL3 1 (by decide), lw_b t1 hi hL3 2 (by decide), pv_CT.mono q (fun v2 ty2 h2 r2 g2 q => ?_)⟩
  obtain ⟨rfl, I2⟩ := q
  obtain ⟨ns2, T2, nh2, na2, tl2, no2, nd2, st2, hL2, -⟩ := id I2
  exact ⟨w, rfl, hL2, fun _ => hE _ _ _ _ _ _ (by omega) (by omega) I2, fun z => absurd rfl z⟩
theorem lw_cost (hd : 76 ≤ d) (hkc : 4 ≤ kc) (hks : 400 ≤ ks) (hL3 : L ≤ 3072) (hi : i + 6 ≤ L) (I : Inv L ty h r g) (hE : lw_nx Γ d kc ks L i Q) : pv_E Γ d kc ks mL_law 784 [some (.ref 1), some (.ref 100), some (.ref 200), some (.int (nI i))] [] ty h r g Q := by
  obtain ⟨ns, T, nh, na, tl, no, nd, st, hL, iT, -⟩ := id I
  refine sg_L_law_784 (nI i) (by omega) hL ⟨lw_b iT.1 hi hL3 1 (by decide), lw_b iT.1 hi hL3 2 (by decide), lw_b iT.1 hi hL3 3 (by decide), lw_b iT.1 hi hL3 4 (by decide), pv_CT.mono (iv_cost (by omega) I) (fun v1 ty1 h1 r1 g1 q => ?_)⟩
  obtain ⟨w, rfl, hL1, t1, q⟩ := q
  refine ⟨w, rfl, hL1, lw_b t1 hi hL3 1 (by decide), lw_b t1 hi hL3 2 (by decide), lw_b t1 hi hL3 3 (by decide), lw_b t1 hi hL3 4 (by decide), pv_CT.mono q (fun v2 ty2 h2 r2 g2 q => ?_)⟩
  obtain ⟨rfl, I2⟩ := q
  obtain ⟨ns2, T2, nh2, na2, tl2, no2, nd2, st2, hL2, -⟩ := id I2
  exact ⟨w, rfl, hL2, fun _ => hE _ _ _ _ _ _ (by omega) (by omega) I2, fun z => absurd rfl z⟩
theorem lw_plan (hd : 76 ≤ d) (hkc : 4 ≤ kc) (hks : 400 ≤ ks) (hL3 : L ≤ 3072) (hi : i + 6 ≤ L) (I : Inv L ty h r g) (hE : lw_nx Γ d kc ks L i Q) : pv_E Γ d kc ks mL_law 837 [some (.ref 1), some (.ref 100), some (.ref 200), some (.int (nI i))] [] ty h r g Q := by
  obtain ⟨ns, T, nh, na, tl, no, nd, st, hL, iT, -⟩ := id I
  refine sg_L_law_837 (nI i) (by omega) hL ⟨lw_b iT.1 hi hL3 1 (by decide), lw_b iT.1 hi hL3 2 (by decide), lw_b iT.1 hi hL3 3 (by decide), lw_b iT.1 hi hL3 4 (by decide), lw_b iT.1 hi hL3 5 (by decide), pv_CT.mono (iv_plan (by omega) I) (fun v1 ty1 h1 r1 g1 q => ?_)⟩
  obtain ⟨w, rfl, hL1, t1, q⟩ := q
  refine ⟨w, rfl, hL1, lw_b t1 hi hL3 1 (by decide), lw_b t1 hi hL3 2 (by decide), lw_b t1 hi hL3 3 (by decide), lw_b t1 hi hL3 4 (by decide), lw_b t1 hi hL3 5 (by decide), pv_CT.mono q (fun v2 ty2 h2 r2 g2 q => ?_)⟩
  obtain ⟨rfl, I2⟩ := q
  obtain ⟨ns2, T2, nh2, na2, tl2, no2, nd2, st2, hL2, -⟩ := id I2
  exact ⟨w, rfl, hL2, fun _ => hE _ _ _ _ _ _ (by omega) (by omega) I2, fun z => absurd rfl z⟩
theorem lw_planned (hd : 76 ≤ d) (hkc : 4 ≤ kc) (hks : 400 ≤ ks) (hL3 : L ≤ 3072) (hi : i + 6 ≤ L) (I : Inv L ty h r g) (hE : lw_nx Γ d kc ks L i Q) : pv_E Γ d kc ks mL_law 900 [some (.ref 1), some (.ref 100), some (.ref 200), some (.int (nI i))] [] ty h r g Q := by
  obtain ⟨ns, T, nh, na, tl, no, nd, st, hL, iT, -⟩ := id I
  refine sg_L_law_900 (nI i) (by omega) hL ⟨lw_b iT.1 hi hL3 1 (by decide), pv_CT.mono (iv_planned (by omega) I) (fun v1 ty1 h1 r1 g1 q => ?_)⟩
  obtain ⟨w, rfl, hL1, t1, q⟩ := q
  refine ⟨w, rfl, hL1, lw_b t1 hi hL3 1 (by decide), pv_CT.mono q (fun v2 ty2 h2 r2 g2 q => ?_)⟩
  obtain ⟨rfl, I2⟩ := q
  obtain ⟨ns2, T2, nh2, na2, tl2, no2, nd2, st2, hL2, -⟩ := id I2
  exact ⟨w, rfl, hL2, fun _ => hE _ _ _ _ _ _ (by omega) (by omega) I2, fun z => absurd rfl z⟩
theorem lw_house (hd : 76 ≤ d) (hkc : 4 ≤ kc) (hks : 400 ≤ ks) (hL3 : L ≤ 3072) (hi : i + 6 ≤ L) (I : Inv L ty h r g) (hE : lw_nx Γ d kc ks L i Q) : pv_E Γ d kc ks mL_law 923 [some (.ref 1), some (.ref 100), some (.ref 200), some (.int (nI i))] [] ty h r g Q := by
  obtain ⟨ns, T, nh, na, tl, no, nd, st, hL, iT, -⟩ := id I
  refine sg_L_law_923 (nI i) (by omega) hL ⟨lw_b iT.1 hi hL3 1 (by decide), lw_b iT.1 hi hL3 2 (by decide), lw_b iT.1 hi hL3 3 (by decide), by omega, by omega, pv_CT.mono (iv_house (by omega) I) (fun v1 ty1 h1 r1 g1 q => ?_)⟩
  obtain ⟨w, rfl, hL1, t1, q⟩ := q
  refine ⟨w, rfl, hL1, lw_b t1 hi hL3 1 (by decide), lw_b t1 hi hL3 2 (by decide), lw_b t1 hi hL3 3 (by decide), pv_CT.mono q (fun v2 ty2 h2 r2 g2 q => ?_)⟩
  obtain ⟨rfl, I2⟩ := q
  obtain ⟨ns2, T2, nh2, na2, tl2, no2, nd2, st2, hL2, -⟩ := id I2
  exact ⟨w, rfl, hL2, fun _ => hE _ _ _ _ _ _ (by omega) (by omega) I2, fun z => absurd rfl z⟩
theorem lw_days (hd : 76 ≤ d) (hkc : 4 ≤ kc) (hks : 400 ≤ ks) (hL3 : L ≤ 3072) (hi : i + 6 ≤ L) (I : Inv L ty h r g) (hE : lw_nx Γ d kc ks L i Q) : pv_E Γ d kc ks mL_law 966 [some (.ref 1), some (.ref 100), some (.ref 200), some (.int (nI i))] [] ty h r g Q := by
  obtain ⟨ns, T, nh, na, tl, no, nd, st, hL, iT, -⟩ := id I
  refine sg_L_law_966 (nI i) (by omega) hL ⟨lw_b iT.1 hi hL3 1 (by decide), pv_CT.mono (iv_days (by omega) I) (fun v1 ty1 h1 r1 g1 q => ?_)⟩
  obtain ⟨w, rfl, hL1, t1, q⟩ := q
  refine ⟨w, rfl, hL1, lw_b t1 hi hL3 1 (by decide), pv_CT.mono q (fun v2 ty2 h2 r2 g2 q => ?_)⟩
  obtain ⟨rfl, I2⟩ := q
  obtain ⟨ns2, T2, nh2, na2, tl2, no2, nd2, st2, hL2, -⟩ := id I2
  exact ⟨w, rfl, hL2, fun _ => hE _ _ _ _ _ _ (by omega) (by omega) I2, fun z => absurd rfl z⟩
theorem lw_feed (hd : 76 ≤ d) (hkc : 4 ≤ kc) (hks : 400 ≤ ks) (hL3 : L ≤ 3072) (hi : i + 6 ≤ L) (I : Inv L ty h r g) (hE : lw_nx Γ d kc ks L i Q) : pv_E Γ d kc ks mL_law 989 [some (.ref 1), some (.ref 100), some (.ref 200), some (.int (nI i))] [] ty h r g Q := by
  obtain ⟨ns, T, nh, na, tl, no, nd, st, hL, iT, -⟩ := id I
  refine sg_L_law_989 (nI i) (by omega) hL ⟨lw_b iT.1 hi hL3 1 (by decide), lw_b iT.1 hi hL3 2 (by decide), pv_CT.mono (iv_feed (by omega) I) (fun v1 ty1 h1 r1 g1 q => ?_)⟩
  obtain ⟨w, rfl, hL1, t1, q⟩ := q
  refine ⟨w, rfl, hL1, lw_b t1 hi hL3 1 (by decide), lw_b t1 hi hL3 2 (by decide), pv_CT.mono q (fun v2 ty2 h2 r2 g2 q => ?_)⟩
  obtain ⟨rfl, I2⟩ := q
  obtain ⟨ns2, T2, nh2, na2, tl2, no2, nd2, st2, hL2, -⟩ := id I2
  exact ⟨w, rfl, hL2, fun _ => hE _ _ _ _ _ _ (by omega) (by omega) I2, fun z => absurd rfl z⟩
theorem lw_act (hd : 76 ≤ d) (hkc : 4 ≤ kc) (hks : 400 ≤ ks) (hL3 : L ≤ 3072) (hi : i + 6 ≤ L) (I : Inv L ty h r g) (hE : lw_nx Γ d kc ks L i Q) : pv_E Γ d kc ks mL_law 1022 [some (.ref 1), some (.ref 100), some (.ref 200), some (.int (nI i))] [] ty h r g Q := by
  obtain ⟨ns, T, nh, na, tl, no, nd, st, hL, iT, -⟩ := id I
  refine sg_L_law_1022 (nI i) (by omega) hL ⟨lw_b iT.1 hi hL3 1 (by decide), lw_b iT.1 hi hL3 2 (by decide), by omega, by omega, pv_CT.mono (iv_act (by omega) I) (fun v1 ty1 h1 r1 g1 q => ?_)⟩
  obtain ⟨w, rfl, hL1, t1, q⟩ := q
  refine ⟨w, rfl, hL1, lw_b t1 hi hL3 1 (by decide), lw_b t1 hi hL3 2 (by decide), pv_CT.mono q (fun v2 ty2 h2 r2 g2 q => ?_)⟩
  obtain ⟨rfl, I2⟩ := q
  obtain ⟨ns2, T2, nh2, na2, tl2, no2, nd2, st2, hL2, -⟩ := id I2
  exact ⟨w, rfl, hL2, fun _ => hE _ _ _ _ _ _ (by omega) (by omega) I2, fun z => absurd rfl z⟩
theorem lw_inForce (hd : 76 ≤ d) (hkc : 4 ≤ kc) (hks : 400 ≤ ks) (hL3 : L ≤ 3072) (hi : i + 6 ≤ L) (I : Inv L ty h r g) (hE : lw_nx Γ d kc ks L i Q) : pv_E Γ d kc ks mL_law 1055 [some (.ref 1), some (.ref 100), some (.ref 200), some (.int (nI i))] [] ty h r g Q := by
  obtain ⟨ns, T, nh, na, tl, no, nd, st, hL, iT, -⟩ := id I
  refine sg_L_law_1055 (nI i) (by omega) hL ⟨lw_b iT.1 hi hL3 1 (by decide), lw_b iT.1 hi hL3 2 (by decide), lw_b iT.1 hi hL3 3 (by decide), pv_CT.mono (iv_inForce (by omega) I) (fun v1 ty1 h1 r1 g1 q => ?_)⟩
  obtain ⟨w, rfl, hL1, t1, q⟩ := q
  refine ⟨w, rfl, hL1, lw_b t1 hi hL3 1 (by decide), lw_b t1 hi hL3 2 (by decide), lw_b t1 hi hL3 3 (by decide), pv_CT.mono q (fun v2 ty2 h2 r2 g2 q => ?_)⟩
  obtain ⟨rfl, I2⟩ := q
  obtain ⟨ns2, T2, nh2, na2, tl2, no2, nd2, st2, hL2, -⟩ := id I2
  exact ⟨w, rfl, hL2, fun _ => hE _ _ _ _ _ _ (by omega) (by omega) I2, fun z => absurd rfl z⟩
theorem lw_rate (hd : 76 ≤ d) (hkc : 4 ≤ kc) (hks : 400 ≤ ks) (hL3 : L ≤ 3072) (hi : i + 6 ≤ L) (I : Inv L ty h r g) (hE : lw_nx Γ d kc ks L i Q) : pv_E Γ d kc ks mL_law 1098 [some (.ref 1), some (.ref 100), some (.ref 200), some (.int (nI i))] [] ty h r g Q := by
  obtain ⟨ns, T, nh, na, tl, no, nd, st, hL, iT, -⟩ := id I
  refine sg_L_law_1098 (nI i) (by omega) hL ⟨lw_b iT.1 hi hL3 1 (by decide), lw_b iT.1 hi hL3 2 (by decide), lw_b iT.1 hi hL3 3 (by decide), pv_CT.mono (iv_rate (by omega) I) (fun v1 ty1 h1 r1 g1 q => ?_)⟩
  obtain ⟨w, rfl, hL1, t1, q⟩ := q
  refine ⟨w, rfl, hL1, lw_b t1 hi hL3 1 (by decide), lw_b t1 hi hL3 2 (by decide), lw_b t1 hi hL3 3 (by decide), pv_CT.mono q (fun v2 ty2 h2 r2 g2 q => ?_)⟩
  obtain ⟨rfl, I2⟩ := q
  obtain ⟨ns2, T2, nh2, na2, tl2, no2, nd2, st2, hL2, -⟩ := id I2
  exact ⟨w, rfl, hL2, fun _ => hE _ _ _ _ _ _ (by omega) (by omega) I2, fun z => absurd rfl z⟩
theorem lw_rates (hd : 76 ≤ d) (hkc : 4 ≤ kc) (hks : 400 ≤ ks) (hL3 : L ≤ 3072) (hi : i + 6 ≤ L) (I : Inv L ty h r g) (hE : lw_nx Γ d kc ks L i Q) : pv_E Γ d kc ks mL_law 1141 [some (.ref 1), some (.ref 100), some (.ref 200), some (.int (nI i))] [] ty h r g Q := by
  obtain ⟨ns, T, nh, na, tl, no, nd, st, hL, iT, -⟩ := id I
  refine sg_L_law_1141 (nI i) (by omega) hL ⟨lw_b iT.1 hi hL3 1 (by decide), lw_b iT.1 hi hL3 2 (by decide), pv_CT.mono (iv_rates (by omega) I) (fun v1 ty1 h1 r1 g1 q => ?_)⟩
  obtain ⟨w, rfl, hL1, t1, q⟩ := q
  refine ⟨w, rfl, hL1, lw_b t1 hi hL3 1 (by decide), lw_b t1 hi hL3 2 (by decide), pv_CT.mono q (fun v2 ty2 h2 r2 g2 q => ?_)⟩
  obtain ⟨rfl, I2⟩ := q
  obtain ⟨ns2, T2, nh2, na2, tl2, no2, nd2, st2, hL2, -⟩ := id I2
  exact ⟨w, rfl, hL2, fun _ => hE _ _ _ _ _ _ (by omega) (by omega) I2, fun z => absurd rfl z⟩
theorem lw_clause (hd : 76 ≤ d) (hkc : 4 ≤ kc) (hks : 400 ≤ ks) (hL3 : L ≤ 3072) (hi : i + 6 ≤ L) (I : Inv L ty h r g) (hE : lw_nx Γ d kc ks L i Q) : pv_E Γ d kc ks mL_law 1174 [some (.ref 1), some (.ref 100), some (.ref 200), some (.int (nI i))] [] ty h r g Q := by
  obtain ⟨ns, T, nh, na, tl, no, nd, st, hL, iT, -⟩ := id I
  refine sg_L_law_1174 (nI i) (by omega) hL ⟨lw_b iT.1 hi hL3 1 (by decide), lw_b iT.1 hi hL3 2 (by decide), pv_CT.mono (iv_clause (by omega) I) (fun v1 ty1 h1 r1 g1 q => ?_)⟩
  obtain ⟨w, rfl, hL1, t1, q⟩ := q
  refine ⟨w, rfl, hL1, lw_b t1 hi hL3 1 (by decide), lw_b t1 hi hL3 2 (by decide), pv_CT.mono q (fun v2 ty2 h2 r2 g2 q => ?_)⟩
  obtain ⟨rfl, I2⟩ := q
  obtain ⟨ns2, T2, nh2, na2, tl2, no2, nd2, st2, hL2, -⟩ := id I2
  exact ⟨w, rfl, hL2, fun _ => hE _ _ _ _ _ _ (by omega) (by omega) I2, fun z => absurd rfl z⟩
theorem lw_open (hd : 76 ≤ d) (hkc : 4 ≤ kc) (hks : 400 ≤ ks) (hL3 : L ≤ 3072) (hi : i + 6 ≤ L) (I : Inv L ty h r g) (hE : lw_nx Γ d kc ks L i Q) : pv_E Γ d kc ks mL_law 1207 [some (.ref 1), some (.ref 100), some (.ref 200), some (.int (nI i))] [] ty h r g Q := by
  obtain ⟨ns, T, nh, na, tl, no, nd, st, hL, iT, -⟩ := id I
  refine sg_L_law_1207 (nI i) (by omega) hL ⟨lw_b iT.1 hi hL3 1 (by decide), lw_b iT.1 hi hL3 2 (by decide), lw_b iT.1 hi hL3 3 (by decide), lw_b iT.1 hi hL3 4 (by decide), by omega, by omega, pv_CT.mono (iv_open (by omega) I) (fun v1 ty1 h1 r1 g1 q => ?_)⟩
  obtain ⟨w, rfl, hL1, t1, q⟩ := q
  refine ⟨w, rfl, hL1, lw_b t1 hi hL3 1 (by decide), lw_b t1 hi hL3 2 (by decide), lw_b t1 hi hL3 3 (by decide), lw_b t1 hi hL3 4 (by decide), pv_CT.mono q (fun v2 ty2 h2 r2 g2 q => ?_)⟩
  obtain ⟨rfl, I2⟩ := q
  obtain ⟨ns2, T2, nh2, na2, tl2, no2, nd2, st2, hL2, -⟩ := id I2
  exact ⟨w, rfl, hL2, fun _ => hE _ _ _ _ _ _ (by omega) (by omega) I2, fun z => absurd rfl z⟩
theorem lw_back (hd : 76 ≤ d) (hkc : 4 ≤ kc) (hks : 400 ≤ ks) (hL3 : L ≤ 3072) (hi : i + 6 ≤ L) (I : Inv L ty h r g) (hE : lw_nx Γ d kc ks L i Q) : pv_E Γ d kc ks mL_law 1260 [some (.ref 1), some (.ref 100), some (.ref 200), some (.int (nI i))] [] ty h r g Q := by
  obtain ⟨ns, T, nh, na, tl, no, nd, st, hL, iT, -⟩ := id I
  refine sg_L_law_1260 (nI i) (by omega) hL ⟨lw_b iT.1 hi hL3 1 (by decide), pv_CT.mono (iv_back (by omega) I) (fun v1 ty1 h1 r1 g1 q => ?_)⟩
  obtain ⟨w, rfl, hL1, t1, q⟩ := q
  refine ⟨w, rfl, hL1, lw_b t1 hi hL3 1 (by decide), pv_CT.mono q (fun v2 ty2 h2 r2 g2 q => ?_)⟩
  obtain ⟨rfl, I2⟩ := q
  obtain ⟨ns2, T2, nh2, na2, tl2, no2, nd2, st2, hL2, -⟩ := id I2
  exact ⟨w, rfl, hL2, fun _ => hE _ _ _ _ _ _ (by omega) (by omega) I2, fun z => absurd rfl z⟩
theorem lw_penalty (hd : 76 ≤ d) (hkc : 4 ≤ kc) (hks : 400 ≤ ks) (hL3 : L ≤ 3072) (hi : i + 6 ≤ L) (I : Inv L ty h r g) (hE : lw_nx Γ d kc ks L i Q) : pv_E Γ d kc ks mL_law 1283 [some (.ref 1), some (.ref 100), some (.ref 200), some (.int (nI i))] [] ty h r g Q := by
  obtain ⟨ns, T, nh, na, tl, no, nd, st, hL, iT, -⟩ := id I
  refine sg_L_law_1283 (nI i) (by omega) hL ⟨lw_b iT.1 hi hL3 1 (by decide), lw_b iT.1 hi hL3 2 (by decide), lw_b iT.1 hi hL3 3 (by decide), pv_CT.mono (iv_penalty (by omega) I) (fun v1 ty1 h1 r1 g1 q => ?_)⟩
  obtain ⟨w, rfl, hL1, t1, q⟩ := q
  refine ⟨w, rfl, hL1, lw_b t1 hi hL3 1 (by decide), lw_b t1 hi hL3 2 (by decide), lw_b t1 hi hL3 3 (by decide), pv_CT.mono q (fun v2 ty2 h2 r2 g2 q => ?_)⟩
  obtain ⟨rfl, I2⟩ := q
  obtain ⟨ns2, T2, nh2, na2, tl2, no2, nd2, st2, hL2, -⟩ := id I2
  exact ⟨w, rfl, hL2, fun _ => hE _ _ _ _ _ _ (by omega) (by omega) I2, fun z => absurd rfl z⟩
theorem lw_sink (hd : 76 ≤ d) (hkc : 4 ≤ kc) (hks : 400 ≤ ks) (hL3 : L ≤ 3072) (hi : i + 6 ≤ L) (I : Inv L ty h r g) (hE : lw_nx Γ d kc ks L i Q) : pv_E Γ d kc ks mL_law 1326 [some (.ref 1), some (.ref 100), some (.ref 200), some (.int (nI i))] [] ty h r g Q := by
  obtain ⟨ns, T, nh, na, tl, no, nd, st, hL, iT, -⟩ := id I
  refine sg_L_law_1326 (nI i) (by omega) hL ⟨lw_b iT.1 hi hL3 1 (by decide), lw_b iT.1 hi hL3 2 (by decide), pv_CT.mono (iv_sink (by omega) I) (fun v1 ty1 h1 r1 g1 q => ?_)⟩
  obtain ⟨w, rfl, hL1, t1, q⟩ := q
  refine ⟨w, rfl, hL1, lw_b t1 hi hL3 1 (by decide), lw_b t1 hi hL3 2 (by decide), pv_CT.mono q (fun v2 ty2 h2 r2 g2 q => ?_)⟩
  obtain ⟨rfl, I2⟩ := q
  obtain ⟨ns2, T2, nh2, na2, tl2, no2, nd2, st2, hL2, -⟩ := id I2
  exact ⟨w, rfl, hL2, fun _ => hE _ _ _ _ _ _ (by omega) (by omega) I2, fun z => absurd rfl z⟩
theorem lw_opening (hd : 76 ≤ d) (hkc : 4 ≤ kc) (hks : 400 ≤ ks) (hL3 : L ≤ 3072) (hi : i + 6 ≤ L) (I : Inv L ty h r g) (hE : lw_nx Γ d kc ks L i Q) : pv_E Γ d kc ks mL_law 1359 [some (.ref 1), some (.ref 100), some (.ref 200), some (.int (nI i))] [] ty h r g Q := by
  obtain ⟨ns, T, nh, na, tl, no, nd, st, hL, iT, -⟩ := id I
  refine sg_L_law_1359 (nI i) (by omega) hL ⟨lw_b iT.1 hi hL3 1 (by decide), lw_b iT.1 hi hL3 2 (by decide), pv_CT.mono (iv_opening (by omega) I) (fun v1 ty1 h1 r1 g1 q => ?_)⟩
  obtain ⟨w, rfl, hL1, t1, q⟩ := q
  refine ⟨w, rfl, hL1, lw_b t1 hi hL3 1 (by decide), lw_b t1 hi hL3 2 (by decide), pv_CT.mono q (fun v2 ty2 h2 r2 g2 q => ?_)⟩
  obtain ⟨rfl, I2⟩ := q
  obtain ⟨ns2, T2, nh2, na2, tl2, no2, nd2, st2, hL2, -⟩ := id I2
  exact ⟨w, rfl, hL2, fun _ => hE _ _ _ _ _ _ (by omega) (by omega) I2, fun z => absurd rfl z⟩
theorem lw_draw (hd : 76 ≤ d) (hkc : 4 ≤ kc) (hks : 400 ≤ ks) (hL3 : L ≤ 3072) (hi : i + 6 ≤ L) (I : Inv L ty h r g) (hE : lw_nx Γ d kc ks L i Q) : pv_E Γ d kc ks mL_law 1392 [some (.ref 1), some (.ref 100), some (.ref 200), some (.int (nI i))] [] ty h r g Q := by
  obtain ⟨ns, T, nh, na, tl, no, nd, st, hL, iT, -⟩ := id I
  refine sg_L_law_1392 (nI i) (by omega) hL ⟨lw_b iT.1 hi hL3 1 (by decide), lw_b iT.1 hi hL3 2 (by decide), lw_b iT.1 hi hL3 3 (by decide), pv_CT.mono (iv_draw (by omega) I) (fun v1 ty1 h1 r1 g1 q => ?_)⟩
  obtain ⟨w, rfl, hL1, t1, q⟩ := q
  refine ⟨w, rfl, hL1, lw_b t1 hi hL3 1 (by decide), lw_b t1 hi hL3 2 (by decide), lw_b t1 hi hL3 3 (by decide), pv_CT.mono q (fun v2 ty2 h2 r2 g2 q => ?_)⟩
  obtain ⟨rfl, I2⟩ := q
  obtain ⟨ns2, T2, nh2, na2, tl2, no2, nd2, st2, hL2, -⟩ := id I2
  exact ⟨w, rfl, hL2, fun _ => hE _ _ _ _ _ _ (by omega) (by omega) I2, fun z => absurd rfl z⟩
theorem lw_drawn (hd : 76 ≤ d) (hkc : 4 ≤ kc) (hks : 400 ≤ ks) (hL3 : L ≤ 3072) (hi : i + 6 ≤ L) (I : Inv L ty h r g) (hE : lw_nx Γ d kc ks L i Q) : pv_E Γ d kc ks mL_law 1435 [some (.ref 1), some (.ref 100), some (.ref 200), some (.int (nI i))] [] ty h r g Q := by
  obtain ⟨ns, T, nh, na, tl, no, nd, st, hL, iT, -⟩ := id I
  refine sg_L_law_1435 (nI i) (by omega) hL ⟨lw_b iT.1 hi hL3 1 (by decide), pv_CT.mono (iv_drawn (by omega) I) (fun v1 ty1 h1 r1 g1 q => ?_)⟩
  obtain ⟨w, rfl, hL1, t1, q⟩ := q
  refine ⟨w, rfl, hL1, lw_b t1 hi hL3 1 (by decide), pv_CT.mono q (fun v2 ty2 h2 r2 g2 q => ?_)⟩
  obtain ⟨rfl, I2⟩ := q
  obtain ⟨ns2, T2, nh2, na2, tl2, no2, nd2, st2, hL2, -⟩ := id I2
  exact ⟨w, rfl, hL2, fun _ => hE _ _ _ _ _ _ (by omega) (by omega) I2, fun z => absurd rfl z⟩
theorem lw_bad (hd : 76 ≤ d) (hkc : 4 ≤ kc) (hks : 400 ≤ ks) (hL3 : L ≤ 3072) (hi : i + 6 ≤ L) (I : Inv L ty h r g) (hE : lw_nx Γ d kc ks L i Q) : pv_E Γ d kc ks mL_law 1458 [some (.ref 1), some (.ref 100), some (.ref 200), some (.int (nI i))] [] ty h r g Q := by
  obtain ⟨ns, T, nh, na, tl, no, nd, st, hL, iT, -⟩ := id I
  refine sg_L_law_1458 (nI i) (by omega) hL ⟨lw_b iT.1 hi hL3 1 (by decide), lw_b iT.1 hi hL3 2 (by decide), lw_b iT.1 hi hL3 3 (by decide), lw_b iT.1 hi hL3 4 (by decide), pv_CT.mono (iv_bad (by omega) I) (fun v1 ty1 h1 r1 g1 q => ?_)⟩
  obtain ⟨w, rfl, hL1, t1, q⟩ := q
  refine ⟨w, rfl, hL1, lw_b t1 hi hL3 1 (by decide), lw_b t1 hi hL3 2 (by decide), lw_b t1 hi hL3 3 (by decide), lw_b t1 hi hL3 4 (by decide), pv_CT.mono q (fun v2 ty2 h2 r2 g2 q => ?_)⟩
  obtain ⟨rfl, I2⟩ := q
  obtain ⟨ns2, T2, nh2, na2, tl2, no2, nd2, st2, hL2, -⟩ := id I2
  exact ⟨w, rfl, hL2, fun _ => hE _ _ _ _ _ _ (by omega) (by omega) I2, fun z => absurd rfl z⟩
theorem lw_count (hd : 76 ≤ d) (hkc : 4 ≤ kc) (hks : 400 ≤ ks) (hL3 : L ≤ 3072) (hi : i + 6 ≤ L) (I : Inv L ty h r g) (hE : lw_nx Γ d kc ks L i Q) : pv_E Γ d kc ks mL_law 1511 [some (.ref 1), some (.ref 100), some (.ref 200), some (.int (nI i))] [] ty h r g Q := by
  obtain ⟨ns, T, nh, na, tl, no, nd, st, hL, iT, -⟩ := id I
  refine sg_L_law_1511 (nI i) (by omega) hL ⟨lw_b iT.1 hi hL3 1 (by decide), pv_CT.mono (iv_count (by omega) I) (fun v1 ty1 h1 r1 g1 q => ?_)⟩
  obtain ⟨w, rfl, hL1, t1, q⟩ := q
  refine ⟨w, rfl, hL1, lw_b t1 hi hL3 1 (by decide), pv_CT.mono q (fun v2 ty2 h2 r2 g2 q => ?_)⟩
  obtain ⟨rfl, I2⟩ := q
  obtain ⟨ns2, T2, nh2, na2, tl2, no2, nd2, st2, hL2, -⟩ := id I2
  exact ⟨w, rfl, hL2, fun _ => hE _ _ _ _ _ _ (by omega) (by omega) I2, fun z => absurd rfl z⟩
theorem lw_c {L i : Nat} (hL3 : L ≤ 3072) (hi : i ≤ 3078) : nI L - 6 < nI i ↔ L < i + 6 := by
  rw [Int32.lt_iff_toInt_lt, show (6 : Int32) = nI 6 from rfl, pk_sub_toInt (by omega) (by decide), nI_toInt (by omega)]
  omega
theorem lw_18 (hd : 76 ≤ d) (hL3 : L ≤ 3072) (hQ : ∀ ty h r g, Q (some (.int 1)) ty h r g) : ∀ (m i kc ks : Nat) (ty : pv_T) (h : pv_H) (r : pv_R) (g : pv_G), L < i + 6 * m → i ≤ 3078 → 4 * m ≤ kc → 400 * m ≤ ks → Inv L ty h r g → pv_E Γ d kc ks mL_law 18 [some (.ref 1), some (.ref 100), some (.ref 200), some (.int (nI i))] [] ty h r g Q := by
  intro m
  induction m with
  | zero =>
    intro i kc ks ty h r g h1 h2 h3 h4 I
    obtain ⟨ns, T, nh, na, tl, no, nd, st, hL, iT, -⟩ := id I
    exact sg_L_law_18 (nI i) ⟨20, L, iT.1, by decide, fun _ => hQ _ _ _ _, fun q => absurd ((lw_c hL3 h2).mpr (by omega)) q⟩
  | succ m ih =>
    intro i kc ks ty h r g h1 h2 h3 h4 I
    obtain ⟨ns, T, nh, na, tl, no, nd, st, hL, iT, -⟩ := id I
    refine sg_L_law_18 (nI i) ⟨20, L, iT.1, by decide, fun _ => hQ _ _ _ _, fun q => ?_⟩
    have hi : i + 6 ≤ L := by
      apply Nat.le_of_not_lt
      intro z
      exact q ((lw_c hL3 h2).mpr z)
    have hE : lw_nx Γ d kc ks L i Q := fun kc' ks' ty h r g a b I => by
      have := ih (i + 6) kc' ks' ty h r g (by omega) (by omega) (by omega) (by omega) I
      rw [show (6 : Int32) = nI 6 from rfl, nI_add]
      exact this
    exact ⟨⟨L, iT.1, vp_in_nI (by omega) (by omega)⟩, fun _ => lw_street hd (by omega) (by omega) hL3 (by omega) I hE, fun _ => lw_height hd (by omega) (by omega) hL3 (by omega) I hE, fun _ => lw_read hd (by omega) (by omega) hL3 (by omega) I hE, fun _ => lw_drain hd (by omega) (by omega) hL3 (by omega) I hE, fun _ => lw_water hd (by omega) (by omega) hL3 (by omega) I hE, fun _ => lw_standing hd (by omega) (by omega) hL3 (by omega) I hE, fun _ => lw_most hd (by omega) (by omega) hL3 (by omega) I hE, fun _ => lw_level hd (by omega) (by omega) hL3 (by omega) I hE, fun _ => lw_levelled hd (by omega) (by omega) hL3 (by omega) I hE, fun _ => lw_move hd (by omega) (by omega) hL3 (by omega) I hE, fun _ => lw_stones hd (by omega) (by omega) hL3 (by omega) I hE, fun _ => lw_course hd (by omega) (by omega) hL3 (by omega) I hE, fun _ => lw_of hd (by omega) (by omega) hL3 (by omega) I hE, fun _ => lw_lay hd (by omega) (by omega) hL3 (by omega) I hE, fun _ => lw_year hd (by omega) (by omega) hL3 (by omega) I hE, fun _ => lw_wheels hd (by omega) (by omega) hL3 (by omega) I hE, fun _ => lw_pave hd (by omega) (by omega) hL3 (by omega) I hE, fun _ => lw_wear hd (by omega) (by omega) hL3 (by omega) I hE, fun _ => lw_cost hd (by omega) (by omega) hL3 (by omega) I hE, fun _ => lw_plan hd (by omega) (by omega) hL3 (by omega) I hE, fun _ => lw_planned hd (by omega) (by omega) hL3 (by omega) I hE, fun _ => lw_house hd (by omega) (by omega) hL3 (by omega) I hE, fun _ => lw_days hd (by omega) (by omega) hL3 (by omega) I hE, fun _ => lw_feed hd (by omega) (by omega) hL3 (by omega) I hE, fun _ => lw_act hd (by omega) (by omega) hL3 (by omega) I hE, fun _ => lw_inForce hd (by omega) (by omega) hL3 (by omega) I hE, fun _ => lw_rate hd (by omega) (by omega) hL3 (by omega) I hE, fun _ => lw_rates hd (by omega) (by omega) hL3 (by omega) I hE, fun _ => lw_clause hd (by omega) (by omega) hL3 (by omega) I hE, fun _ => lw_open hd (by omega) (by omega) hL3 (by omega) I hE, fun _ => lw_back hd (by omega) (by omega) hL3 (by omega) I hE, fun _ => lw_penalty hd (by omega) (by omega) hL3 (by omega) I hE, fun _ => lw_sink hd (by omega) (by omega) hL3 (by omega) I hE, fun _ => lw_opening hd (by omega) (by omega) hL3 (by omega) I hE, fun _ => lw_draw hd (by omega) (by omega) hL3 (by omega) I hE, fun _ => lw_drawn hd (by omega) (by omega) hL3 (by omega) I hE, fun _ => lw_bad hd (by omega) (by omega) hL3 (by omega) I hE, fun _ => lw_count hd (by omega) (by omega) hL3 (by omega) I hE, fun _ _ _ _ _ _ _ _ _ _ _ _ _ _ _ _ _ _ _ _ _ _ _ _ _ _ _ _ _ _ _ _ _ _ _ _ _ _ => hE _ _ _ _ _ _ (by omega) (by omega) I⟩
theorem iL_lo : ∀ q ∈ iLT, 10 ≤ q.1 := by decide +kernel
theorem iL_40 : rX (fun _ _ => 0) iLR 40 3 = 0 := by decide +kernel
theorem iL_ty {a : Nat} (ha : a < 10) : tyX (iT L) iLT a = iT L a := tyX_hi (fun q hq e => by have := iL_lo q hq; omega)
theorem Inv_0 {h2 h3 : pv_H} (z : ∀ a j, 10 ≤ a → a ≠ 67 → h2 a j = 0) (z7 : ∀ j, j < 8 → h2 67 j = -1) (hw : wy_ok g) (e3 : h3 = pv_up (pv_up h2 200 7 (-1)) 200 8 (-1)) : Inv L (tyX (iT L) iLT) h3 (rX iR iLR) g := by
  have f : ∀ a j, 10 ≤ a → ¬ (a = 67 ∨ (a = 200 ∧ (j = 7 ∨ j = 8))) → h3 a j = 0 := fun a j h1 h2 => by rw [e3, pv_up, if_neg (by omega), pv_up, if_neg (by omega)]; exact z a j h1 (by omega)
  have z0 : ∀ a j, 10 ≤ a → ¬ (a = 67 ∨ (a = 200 ∧ (j = 7 ∨ j = 8))) → h3 a j = nI 0 := f
  have hn : ∀ a, 1000 ≤ a → tyX (iT L) iLT a = none := fun a ha => iL_new L ha
  refine ⟨0, 0, 0, 0, 0, 0, 0, fun _ => 0, iL_lay L, ⟨iL_ty (by decide), fun s _ _ t _ => hn _ (by unfold cA; omega), fun i _ _ => hn _ (by unfold hA; omega), fun i _ _ => ⟨hn _ (by unfold aA; omega), hn _ (by unfold aA; omega)⟩, fun i _ _ => hn _ (by unfold oA; omega)⟩, ⟨⟨⟨by decide, z0 200 1 (by decide) (by omega), fun s hs => absurd hs (by omega)⟩, z0 100 1 (by decide) (by omega), fun s hs => absurd hs (by omega)⟩, ⟨⟨by decide, z0 200 19 (by decide) (by omega), fun s _ => ⟨fun y _ => ⟨Or.inl (f 320 _ (by decide) (by omega)), fun q => absurd (f 320 _ (by decide) (by omega)) q⟩, 0, Nat.le_refl _, z0 322 s (by decide) (by omega)⟩⟩, z0 100 5 (by decide) (by omega), fun s hs => absurd hs (by omega)⟩, fun s _ => ⟨0, 0, Nat.le_refl _, by decide, z0 323 s (by decide) (by omega), z0 324 s (by decide) (by omega)⟩, Or.inl ⟨f 200 9 (by decide) (by omega), (rX_c (t' := fun _ _ => 0) (iR_hi (by decide))).trans iL_40⟩, fun s _ _ => ⟨fun y _ => f 320 _ (by decide) (by omega), f 322 s (by decide) (by omega), f 323 s (by decide) (by omega), f 324 s (by decide) (by omega), f 325 s (by decide) (by omega), fun k _ => f 305 _ (by decide) (by omega)⟩⟩, Or.inl ⟨f 200 26 (by decide) (by omega), fun i hi => ?_⟩, ⟨fun i _ => ⟨Nat.zero_le _, z0 51 i (by decide) (by omega)⟩, fun i _ => ⟨Nat.zero_le _, z0 314 i (by decide) (by omega)⟩, by rw [f 50 4 (by decide) (by omega), f 200 16 (by decide) (by omega)], fun q => absurd (f 200 16 (by decide) (by omega)) q⟩, ⟨⟨by decide, z0 200 33 (by decide) (by omega), z0 100 8 (by decide) (by omega)⟩, fun i hi => absurd hi (by omega)⟩, ⟨⟨by decide, z0 70 3 (by decide) (by omega), z0 200 40 (by decide) (by omega), fun j hj => absurd hj (by omega)⟩, ⟨by decide, z0 70 4 (by decide) (by omega), z0 200 41 (by decide) (by omega)⟩, fun i hi => ?_, fun i hi => absurd hi (by omega)⟩, ⟨⟨by decide, z0 200 55 (by decide) (by omega), z0 100 12 (by decide) (by omega)⟩, fun i hi => absurd hi (by omega)⟩, ⟨by rw [f 100 9 (by decide) (by omega), f 200 32 (by decide) (by omega)], by rw [f 200 32 (by decide) (by omega)]; decide, by rw [f 200 32 (by decide) (by omega)]; decide⟩, ⟨by decide, z0 200 62 (by decide) (by omega), z0 90 3 (by decide) (by omega), fun j hj => absurd hj (by omega), hw⟩⟩
  · rw [e3, pv_up_a (by decide), pv_up_a (by decide)]; exact z7 i hi
  · rw [iL_ty (by omega)]
    have : i = 0 ∨ i = 1 := by omega
    rcases this with rfl | rfl <;> rfl
/-- the law, from its entry: nothing made yet -/
theorem lw_0 (hd : 80 ≤ d) (hL3 : L ≤ 3072) (hkc : 3000 ≤ kc) (hks : 300000 ≤ ks) (hQ : ∀ ty h r g, Q (some (.int 1)) ty h r g) (hz : ∀ a, 10 ≤ a → iz h g a) : pv_E Γ d kc ks mL_law 0 [some (.ref 1), none, none, none] [] (iT L) h iR g Q := by
  refine sg_L_law_0 (by omega) (pi_O 100 11 14 (by decide) rfl (by omega) (by omega) (hz 100 (by decide)) (fun j => rfl) ⟨rfl, by omega, by omega, ct_X11_init (L := L) (by omega) hz (fun h2 g2 f2 t2 f3 t3 => ⟨rfl, ?_⟩)⟩)
  have hz2 : ∀ a, 10 ≤ a → a ≠ 67 → a ≠ 91 → iz h2 g2 a := fun a a1 a2 a3 => ⟨fun j => by rw [f2 a a2]; exact (hz a a1).1 j, fun j => by rw [f3 a a3]; exact (hz a a1).2 j⟩
  refine pi_O 200 12 66 (by decide) rfl (by omega) (by omega) (hz2 200 (by decide) (by decide) (by decide)) (fun j => rfl) ⟨rfl, by omega, by omega, ct_X12_init (L := L) (by omega) (fun a a1 a2 a3 _ => hz2 a a1 a2 a3) ⟨rfl, ?_⟩⟩
  exact lw_18 (by omega) hL3 hQ 513 0 _ _ _ _ _ _ (by omega) (by decide) (by omega) (by omega) (Inv_0 (h2 := h2) (fun a j a1 a2 => by rw [f2 a a2]; exact (hz a a1).1 j) t2 t3 rfl)
end LW
