/-! open, count: both sides -/
set_option maxRecDepth 20000 in
set_option maxHeartbeats 4000000 in
theorem sg_X6_init_0 {Γ : pv_C} {d kc ks : Nat} {ty : pv_T} {h : pv_H} {r : pv_R} {g : pv_G} {Q : pv_Q} (a : Nat) (x : Int32) (y : Int32) (z : Int32) (u : Int32) (v : Int32) (hd : 1 ≤ d) (F : a ≠ 0 ∧ ty a = some (6, 0) ∧ (∀ h1 : pv_H, h1 = pv_up h a 0 x → ty a = some (6, 0) ∧ (∀ h2 : pv_H, h2 = pv_up h1 a 1 y → ty a = some (6, 0) ∧ (∀ h3 : pv_H, h3 = pv_up h2 a 2 z → ty a = some (6, 0) ∧ (∀ h4 : pv_H, h4 = pv_up h3 a 3 u → ty a = some (6, 0) ∧ (∀ h5 : pv_H, h5 = pv_up h4 a 4 v → ty a = some (6, 0) ∧ (∀ h6 : pv_H, h6 = pv_up h5 a 5 (-1) → Q none ty h6 r g))))))) : pv_E Γ d kc ks mX6_init 0 [some (.ref a), some (.int x), some (.int y), some (.int z), some (.int u), some (.int v)] [] ty h r g Q := by
  refine pv_aload_n dX6_init_0 rfl ?_
  obtain ⟨q1, F⟩ := F
  refine pv_objI dX6_init_1 ml_X6_3 obj_i obj_c q1 (by omega) (Nat.le_of_ble_eq_true rfl) ?_
  refine pv_aload_n dX6_init_4 rfl ?_
  refine pv_iload_n dX6_init_5 rfl ?_
  obtain ⟨q2, F⟩ := F
  obtain ⟨h1, eh1⟩ : ∃ h1 : pv_H, h1 = pv_up h a 0 x := ⟨_, rfl⟩
  have F := F h1 eh1
  refine pv_putI 6 0 dX6_init_6 fl_X6_9 ⟨_, rfl, Or.inr ⟨rfl, rfl, rfl⟩⟩ (Or.inl rfl) q2 ?_
  refine pv_hE eh1 ?_
  refine pv_aload_n dX6_init_9 rfl ?_
  refine pv_iload_n dX6_init_10 rfl ?_
  obtain ⟨q3, F⟩ := F
  obtain ⟨h2, eh2⟩ : ∃ h2 : pv_H, h2 = pv_up h1 a 1 y := ⟨_, rfl⟩
  have F := F h2 eh2
  refine pv_putI 6 1 dX6_init_11 fl_X6_15 ⟨_, rfl, Or.inr ⟨rfl, rfl, rfl⟩⟩ (Or.inl rfl) q3 ?_
  refine pv_hE eh2 ?_
  refine pv_aload_n dX6_init_14 rfl ?_
  refine pv_iload_n dX6_init_15 rfl ?_
  obtain ⟨q4, F⟩ := F
  obtain ⟨h3, eh3⟩ : ∃ h3 : pv_H, h3 = pv_up h2 a 2 z := ⟨_, rfl⟩
  have F := F h3 eh3
  refine pv_putI 6 2 dX6_init_16 fl_X6_18 ⟨_, rfl, Or.inr ⟨rfl, rfl, rfl⟩⟩ (Or.inl rfl) q4 ?_
  refine pv_hE eh3 ?_
  refine pv_aload_n dX6_init_19 rfl ?_
  refine pv_iload dX6_init_20 rfl ?_
  obtain ⟨q5, F⟩ := F
  obtain ⟨h4, eh4⟩ : ∃ h4 : pv_H, h4 = pv_up h3 a 3 u := ⟨_, rfl⟩
  have F := F h4 eh4
  refine pv_putI 6 3 dX6_init_22 fl_X6_21 ⟨_, rfl, Or.inr ⟨rfl, rfl, rfl⟩⟩ (Or.inl rfl) q5 ?_
  refine pv_hE eh4 ?_
  refine pv_aload_n dX6_init_25 rfl ?_
  refine pv_iload dX6_init_26 rfl ?_
  obtain ⟨q6, F⟩ := F
  obtain ⟨h5, eh5⟩ : ∃ h5 : pv_H, h5 = pv_up h4 a 4 v := ⟨_, rfl⟩
  have F := F h5 eh5
  refine pv_putI 6 4 dX6_init_28 fl_X6_24 ⟨_, rfl, Or.inr ⟨rfl, rfl, rfl⟩⟩ (Or.inl rfl) q6 ?_
  refine pv_hE eh5 ?_
  refine pv_aload_n dX6_init_31 rfl ?_
  refine pv_iconst (v := (-1)) (by decide) dX6_init_32 ?_
  obtain ⟨q7, F⟩ := F
  obtain ⟨h6, eh6⟩ : ∃ h6 : pv_H, h6 = pv_up h5 a 5 (-1) := ⟨_, rfl⟩
  have F := F h6 eh6
  refine pv_putI 6 5 dX6_init_33 fl_X6_27 ⟨_, rfl, Or.inl rfl⟩ (Or.inl rfl) q7 ?_
  refine pv_hE eh6 ?_
  exact pv_return dX6_init_36 rfl F
set_option maxRecDepth 20000 in
set_option maxHeartbeats 4000000 in
theorem sg_X11_open_0 {Γ : pv_C} {d kc ks : Nat} {ty : pv_T} {h : pv_H} {r : pv_R} {g : pv_G} {Q : pv_Q} (x : Int32) (y : Int32) (z : Int32) (u : Int32) (hd : 3 ≤ d) (hL : pv_Lay ty r) (F : (((pf_b (0 ≤ x ∧ x ≤ 3)) = 0 → Q (some (.int (-1))) ty h r g) ∧ (¬ (pf_b (0 ≤ x ∧ x ≤ 3)) = 0 → (∃ ns, cpS ty h r ns) ∧ (((pf_b (fo_at h y z)) = 0 → Q (some (.int (-1))) ty h r g) ∧ (¬ (pf_b (fo_at h y z)) = 0 → ((¬ (pf_b (1 ≤ u ∧ u ≤ 99)) = 0 → pv_CJ Γ (d - 1) mX11_openNowAt [.ref 100, .int y, .int z] ty h r g (fun (w1 : Int32) (h1 : pv_H) => ((w1 = (-1) → (((h1 100 12) < 200 → (∃ nm1 : Nat, 10 ≤ nm1 ∧ ty nm1 = none ∧ 1 ≤ kc ∧ 6 ≤ ks ∧ (∀ (ty1 : pv_T) (h2 : pv_H) (r1 : pv_R) (g1 : pv_G), ty1 = pv_newT ty nm1 6 0 → h2 = pv_new h1 nm1 0 → r1 = pv_new r nm1 0 → g1 = pv_new g nm1 0 → pv_Lay ty1 r1 ∧ ty1 nm1 = some (6, 0) ∧ pv_CT Γ (d - 1) 0 0 mX6_init [.ref nm1, .int x, .int y, .int z, .int (h2 100 9), .int u] ty1 h2 r1 g1 (fun (v1 : Option Value) (ty2 : pv_T) (h3 : pv_H) (r2 : pv_R) (g2 : pv_G) => v1 = none ∧ pv_Lay ty2 r2 ∧ vp_in (h1 100 12) 200 ∧ ty2 nm1 = some (6, 0) ∧ (∀ r3 : pv_R, r3 = pv_up r2 121 (Int32.toNatClampNeg (h1 100 12)) nm1 → pv_Lay ty2 r3 ∧ (∀ h4 : pv_H, h4 = pv_up h3 100 12 ((h3 100 12) + 1) → Q (some (.int ((h4 100 12) - 1))) ty2 h4 r3 g2)))))) ∧ (¬ (h1 100 12) < 200 → Q (some (.int (-3))) ty h1 r g))) ∧ (¬ w1 = (-1) → Q (some (.int (-2))) ty h1 r g)))) ∧ ((pf_b (1 ≤ u ∧ u ≤ 99)) = 0 → Q (some (.int (-1))) ty h r g))))))) : pv_E Γ d kc ks mX11_open 0 [some (.ref 100), some (.int x), some (.int y), some (.int z), some (.int u)] [] ty h r g Q := by
  refine pv_iload_n dX11_open_0 rfl ?_
  refine pv_iconst (v := 0) (by decide) dX11_open_1 ?_
  refine pv_iconst (v := 3) (by decide) dX11_open_2 ?_
  refine pv_invS (As := [.int x, .int 0, .int 3]) (d' := d - 1) dX11_open_3 moX11_within ml_X11_69 (Nat.le_of_ble_eq_true rfl) (by omega) (Nat.zero_le _) (Nat.zero_le _) (ct_X11_within (by omega)) (fun v ty' h' r' g' hq => ?_) rfl
  obtain ⟨e1, e2, e3, e4, e5⟩ := hq
  rw [e1, e2, e3, e4, e5]
  refine pv_pc (pc' := 6) rfl ?_
  show pv_E Γ d kc ks mX11_open 6 [some (.ref 100), some (.int x), some (.int y), some (.int z), some (.int u)] [.int (pf_b (0 ≤ x ∧ x ≤ 3))] ty h r g Q
  refine pv_if_eq (tgt := 29) dX11_open_6 (by decide) (fun c1 => ?_) (fun c1 => ?_)
  · have F := F.1 c1
    refine pv_iconst (v := (-1)) (by decide) dX11_open_29 ?_
    exact pv_ireturn dX11_open_30 rfl rfl F
  · have F := F.2 c1
    refine pv_aload_n dX11_open_9 rfl ?_
    refine pv_iload_n dX11_open_10 rfl ?_
    refine pv_iload_n dX11_open_11 rfl ?_
    obtain ⟨q1, F⟩ := F
    refine pv_invV (As := [.int y, .int z]) (d' := d - 1) dX11_open_12 moX11_isSquare ml_X11_237 (lt_100 hL) (Or.inl ⟨_, rfl, rfl⟩) (Nat.le_of_ble_eq_true rfl) (by omega) (Nat.zero_le _) (Nat.zero_le _) (ct_X11_isSquare (by omega) hL q1) (fun v ty' h' r' g' hq => ?_) rfl
    obtain ⟨e1, e2, e3, e4, e5⟩ := hq
    rw [e1, e2, e3, e4, e5]
    refine pv_pc (pc' := 15) rfl ?_
    show pv_E Γ d kc ks mX11_open 15 [some (.ref 100), some (.int x), some (.int y), some (.int z), some (.int u)] [.int (pf_b (fo_at h y z))] ty h r g Q
    refine pv_if_eq (tgt := 29) dX11_open_15 (by decide) (fun c2 => ?_) (fun c2 => ?_)
    · have F := F.1 c2
      refine pv_iconst (v := (-1)) (by decide) dX11_open_29 ?_
      exact pv_ireturn dX11_open_30 rfl rfl F
    · have F := F.2 c2
      refine pv_iload dX11_open_18 rfl ?_
      refine pv_iconst (v := 1) (by decide) dX11_open_20 ?_
      refine pv_bipush (v := 99) (by decide) dX11_open_21 ?_
      refine pv_invS (As := [.int u, .int 1, .int 99]) (d' := d - 1) dX11_open_23 moX11_within ml_X11_69 (Nat.le_of_ble_eq_true rfl) (by omega) (Nat.zero_le _) (Nat.zero_le _) (ct_X11_within (by omega)) (fun v ty' h' r' g' hq => ?_) rfl
      obtain ⟨e1, e2, e3, e4, e5⟩ := hq
      rw [e1, e2, e3, e4, e5]
      refine pv_pc (pc' := 26) rfl ?_
      show pv_E Γ d kc ks mX11_open 26 [some (.ref 100), some (.int x), some (.int y), some (.int z), some (.int u)] [.int (pf_b (1 ≤ u ∧ u ≤ 99))] ty h r g Q
      refine pv_if_ne (tgt := 31) dX11_open_26 (by decide) (fun c3 => ?_) (fun c3 => ?_)
      · have F := F.1 c3
        refine pv_aload_n dX11_open_31 rfl ?_
        refine pv_iload_n dX11_open_32 rfl ?_
        refine pv_iload_n dX11_open_33 rfl ?_
        refine pv_invV (As := [.int y, .int z]) (d' := d - 1) dX11_open_34 moX11_openNowAt ml_X11_240 (lt_100 hL) (Or.inl ⟨_, rfl, rfl⟩) (Nat.le_of_ble_eq_true rfl) (by omega) (Nat.zero_le _) (Nat.zero_le _) F (fun v ty' h1 r' g' hq => ?_) rfl
        obtain ⟨e2, e4, e5, w1, e1, F⟩ := hq
        rw [e1, e2, e4, e5]
        refine pv_pc (pc' := 37) rfl ?_
        show pv_E Γ d kc ks mX11_open 37 [some (.ref 100), some (.int x), some (.int y), some (.int z), some (.int u)] [.int w1] ty h1 r g Q
        refine pv_iconst (v := (-1)) (by decide) dX11_open_37 ?_
        refine pv_icmp_eq (tgt := 44) dX11_open_38 (by decide) (fun c4 => ?_) (fun c4 => ?_)
        · have F := F.1 c4
          refine pv_aload_n dX11_open_44 rfl ?_
          refine pv_getI 11 12 dX11_open_45 fl_X11_243 rfl (lt_100 hL) ?_
          refine pv_sipush (v := 200) (by decide) dX11_open_48 ?_
          refine pv_icmp_lt (tgt := 57) dX11_open_51 (by decide) (fun c5 => ?_) (fun c5 => ?_)
          · have F := F.1 c5
            refine pv_aload_n dX11_open_57 rfl ?_
            refine pv_getRk 11 11 dX11_open_58 fl_X11_58 rfl (lt_100 hL) (lr_100_11 hL) ?_
            refine pv_aload_n dX11_open_61 rfl ?_
            refine pv_getI 11 12 dX11_open_62 fl_X11_243 rfl (lt_100 hL) ?_
            obtain ⟨nm1, q2a, q2b, q2c, q2d, F⟩ := F
            obtain ⟨ty1, ety1⟩ : ∃ ty1 : pv_T, ty1 = pv_newT ty nm1 6 0 := ⟨_, rfl⟩
            obtain ⟨h2, eh2⟩ : ∃ h2 : pv_H, h2 = pv_new h1 nm1 0 := ⟨_, rfl⟩
            obtain ⟨r1, er1⟩ : ∃ r1 : pv_R, r1 = pv_new r nm1 0 := ⟨_, rfl⟩
            obtain ⟨g1, eg1⟩ : ∃ g1 : pv_G, g1 = pv_new g nm1 0 := ⟨_, rfl⟩
            have F := F ty1 h2 r1 g1 ety1 eh2 er1 eg1
            refine pv_newO nm1 6 dX11_open_65 rfl cl_X11_56 ins_X6 ini_X6 q2a q2b q2c q2d ?_
            refine pv_nE ety1 eh2 er1 eg1 ?_
            obtain ⟨hL1, F⟩ := F
            refine pv_dup rfl dX11_open_68 ?_
            refine pv_iload_n dX11_open_69 rfl ?_
            refine pv_iload_n dX11_open_70 rfl ?_
            refine pv_iload_n dX11_open_71 rfl ?_
            refine pv_aload_n dX11_open_72 rfl ?_
            refine pv_getI 11 9 dX11_open_73 fl_X11_186 rfl (lt_100 hL1) ?_
            refine pv_pc (pc' := 76) rfl ?_
            refine pv_iload dX11_open_76 rfl ?_
            obtain ⟨q3, F⟩ := F
            refine pv_invI (As := [.int x, .int y, .int z, .int (h2 100 9), .int u]) (d' := d - 1) dX11_open_78 moX6_init ml_X11_246 q3 (Nat.le_of_ble_eq_true rfl) (by omega) (Nat.zero_le _) (Nat.zero_le _) F (fun v1 ty2 h3 r2 g2 F => ?_) rfl
            obtain ⟨rfl, F⟩ := F
            obtain ⟨hL2, F⟩ := F
            refine pv_pc (pc' := 81) rfl ?_
            show pv_E Γ d (kc - 1) (ks - 6) mX11_open 81 [some (.ref 100), some (.int x), some (.int y), some (.int z), some (.int u)] [.ref nm1, .int (h1 100 12), .ref 121] ty2 h3 r2 g2 Q
            obtain ⟨q4, F⟩ := F
            obtain ⟨q4v, F⟩ := F
            obtain ⟨r3, er3⟩ : ∃ r3 : pv_R, r3 = pv_up r2 121 (Int32.toNatClampNeg (h1 100 12)) nm1 := ⟨_, rfl⟩
            have F := F r3 er3
            refine pv_aast dX11_open_81 (lt_121 hL2) (by decide) (by decide) q4 q4v ?_
            refine pv_rE er3 ?_
            obtain ⟨hL3, F⟩ := F
            refine pv_aload_n dX11_open_82 rfl ?_
            refine pv_dup rfl dX11_open_83 ?_
            refine pv_getI 11 12 dX11_open_84 fl_X11_243 rfl (lt_100 hL3) ?_
            refine pv_iconst (v := 1) (by decide) dX11_open_87 ?_
            refine pv_iadd dX11_open_88 ?_
            obtain ⟨h4, eh4⟩ : ∃ h4 : pv_H, h4 = pv_up h3 100 12 ((h3 100 12) + 1) := ⟨_, rfl⟩
            have F := F h4 eh4
            refine pv_putI 11 12 dX11_open_89 fl_X11_243 ⟨_, rfl, Or.inl rfl⟩ (Or.inl rfl) (lt_100 hL3) ?_
            refine pv_hE eh4 ?_
            refine pv_aload_n dX11_open_92 rfl ?_
            refine pv_getI 11 12 dX11_open_93 fl_X11_243 rfl (lt_100 hL3) ?_
            refine pv_iconst (v := 1) (by decide) dX11_open_96 ?_
            refine pv_isub dX11_open_97 ?_
            exact pv_ireturn dX11_open_98 rfl rfl F
          · have F := F.2 c5
            refine pv_bipush (v := (-3)) (by decide) dX11_open_54 ?_
            exact pv_ireturn dX11_open_56 rfl rfl F
        · have F := F.2 c4
          refine pv_bipush (v := (-2)) (by decide) dX11_open_41 ?_
          exact pv_ireturn dX11_open_43 rfl rfl F
      · have F := F.2 c3
        refine pv_iconst (v := (-1)) (by decide) dX11_open_29 ?_
        exact pv_ireturn dX11_open_30 rfl rfl F
set_option maxRecDepth 20000 in
set_option maxHeartbeats 4000000 in
theorem sg_X12_open_0 {Γ : pv_C} {d kc ks : Nat} {ty : pv_T} {h : pv_H} {r : pv_R} {g : pv_G} {Q : pv_Q} (x : Int32) (y : Int32) (z : Int32) (u : Int32) (hd : 4 ≤ d) (hL : pv_Lay ty r) (F : (((pf_b (0 ≤ x ∧ x ≤ 3)) = 0 → Q (some (.int (-1))) ty h r g) ∧ (¬ (pf_b (0 ≤ x ∧ x ≤ 3)) = 0 → (0 ≤ h 200 1 ∧ h 200 1 ≤ 8) ∧ (((pf_b (fo_at h y z)) = 0 → Q (some (.int (-1))) ty h r g) ∧ (¬ (pf_b (fo_at h y z)) = 0 → ((¬ (pf_b (1 ≤ u ∧ u ≤ 99)) = 0 → pv_CJ Γ (d - 1) mX12_openNow [.ref 200, .int y, .int z] ty h r g (fun (w1 : Int32) (h1 : pv_H) => ((w1 < 0 → ((¬ (h1 200 55) = 200 → vp_in (h1 200 55) 200 ∧ (∀ h2 : pv_H, h2 = pv_up h1 356 (Int32.toNatClampNeg (h1 200 55)) x → vp_in (h1 200 55) 200 ∧ (∀ h3 : pv_H, h3 = pv_up h2 357 (Int32.toNatClampNeg (h1 200 55)) y → vp_in (h1 200 55) 200 ∧ (∀ h4 : pv_H, h4 = pv_up h3 358 (Int32.toNatClampNeg (h1 200 55)) z → vp_in (h1 200 55) 200 ∧ (∀ h5 : pv_H, h5 = pv_up h4 359 (Int32.toNatClampNeg (h1 200 55)) (h4 200 32) → vp_in (h1 200 55) 200 ∧ (∀ h6 : pv_H, h6 = pv_up h5 360 (Int32.toNatClampNeg (h1 200 55)) u → vp_in (h1 200 55) 200 ∧ (∀ h7 : pv_H, h7 = pv_up h6 361 (Int32.toNatClampNeg (h1 200 55)) (-1) → (∀ h8 : pv_H, h8 = pv_up h7 200 55 ((h7 200 55) + 1) → Q (some (.int (h1 200 55))) ty h8 r g)))))))) ∧ ((h1 200 55) = 200 → Q (some (.int (-3))) ty h1 r g))) ∧ (¬ w1 < 0 → Q (some (.int (-2))) ty h1 r g)))) ∧ ((pf_b (1 ≤ u ∧ u ≤ 99)) = 0 → Q (some (.int (-1))) ty h r g))))))) : pv_E Γ d kc ks mX12_open 0 [some (.ref 200), some (.int x), some (.int y), some (.int z), some (.int u), none] [] ty h r g Q := by
  refine pv_iload_n dX12_open_0 rfl ?_
  refine pv_iconst (v := 0) (by decide) dX12_open_1 ?_
  refine pv_iconst (v := 3) (by decide) dX12_open_2 ?_
  refine pv_invS (As := [.int x, .int 0, .int 3]) (d' := d - 1) dX12_open_3 moX12_in ml_X12_164 (Nat.le_of_ble_eq_true rfl) (by omega) (Nat.zero_le _) (Nat.zero_le _) (ct_X12_in (by omega)) (fun v ty' h' r' g' hq => ?_) rfl
  obtain ⟨e1, e2, e3, e4, e5⟩ := hq
  rw [e1, e2, e3, e4, e5]
  refine pv_pc (pc' := 6) rfl ?_
  show pv_E Γ d kc ks mX12_open 6 [some (.ref 200), some (.int x), some (.int y), some (.int z), some (.int u), none] [.int (pf_b (0 ≤ x ∧ x ≤ 3))] ty h r g Q
  refine pv_if_eq (tgt := 29) dX12_open_6 (by decide) (fun c1 => ?_) (fun c1 => ?_)
  · have F := F.1 c1
    refine pv_iconst (v := (-1)) (by decide) dX12_open_29 ?_
    exact pv_ireturn dX12_open_30 rfl rfl F
  · have F := F.2 c1
    refine pv_aload_n dX12_open_9 rfl ?_
    refine pv_iload_n dX12_open_10 rfl ?_
    refine pv_iload_n dX12_open_11 rfl ?_
    obtain ⟨q1, F⟩ := F
    refine pv_invV (As := [.int y, .int z]) (d' := d - 1) dX12_open_12 moX12_isAt ml_X12_314 (lt_200 hL) (Or.inl ⟨_, rfl, rfl⟩) (Nat.le_of_ble_eq_true rfl) (by omega) (Nat.zero_le _) (Nat.zero_le _) (ct_X12_isAt (by omega) hL q1) (fun v ty' h' r' g' hq => ?_) rfl
    obtain ⟨e1, e2, e3, e4, e5⟩ := hq
    rw [e1, e2, e3, e4, e5]
    refine pv_pc (pc' := 15) rfl ?_
    show pv_E Γ d kc ks mX12_open 15 [some (.ref 200), some (.int x), some (.int y), some (.int z), some (.int u), none] [.int (pf_b (fo_at h y z))] ty h r g Q
    refine pv_if_eq (tgt := 29) dX12_open_15 (by decide) (fun c2 => ?_) (fun c2 => ?_)
    · have F := F.1 c2
      refine pv_iconst (v := (-1)) (by decide) dX12_open_29 ?_
      exact pv_ireturn dX12_open_30 rfl rfl F
    · have F := F.2 c2
      refine pv_iload dX12_open_18 rfl ?_
      refine pv_iconst (v := 1) (by decide) dX12_open_20 ?_
      refine pv_bipush (v := 99) (by decide) dX12_open_21 ?_
      refine pv_invS (As := [.int u, .int 1, .int 99]) (d' := d - 1) dX12_open_23 moX12_in ml_X12_164 (Nat.le_of_ble_eq_true rfl) (by omega) (Nat.zero_le _) (Nat.zero_le _) (ct_X12_in (by omega)) (fun v ty' h' r' g' hq => ?_) rfl
      obtain ⟨e1, e2, e3, e4, e5⟩ := hq
      rw [e1, e2, e3, e4, e5]
      refine pv_pc (pc' := 26) rfl ?_
      show pv_E Γ d kc ks mX12_open 26 [some (.ref 200), some (.int x), some (.int y), some (.int z), some (.int u), none] [.int (pf_b (1 ≤ u ∧ u ≤ 99))] ty h r g Q
      refine pv_if_ne (tgt := 31) dX12_open_26 (by decide) (fun c3 => ?_) (fun c3 => ?_)
      · have F := F.1 c3
        refine pv_aload_n dX12_open_31 rfl ?_
        refine pv_iload_n dX12_open_32 rfl ?_
        refine pv_iload_n dX12_open_33 rfl ?_
        refine pv_invV (As := [.int y, .int z]) (d' := d - 1) dX12_open_34 moX12_openNow ml_X12_317 (lt_200 hL) (Or.inl ⟨_, rfl, rfl⟩) (Nat.le_of_ble_eq_true rfl) (by omega) (Nat.zero_le _) (Nat.zero_le _) F (fun v ty' h1 r' g' hq => ?_) rfl
        obtain ⟨e2, e4, e5, w1, e1, F⟩ := hq
        rw [e1, e2, e4, e5]
        refine pv_pc (pc' := 37) rfl ?_
        show pv_E Γ d kc ks mX12_open 37 [some (.ref 200), some (.int x), some (.int y), some (.int z), some (.int u), none] [.int w1] ty h1 r g Q
        refine pv_if_lt (tgt := 43) dX12_open_37 (by decide) (fun c4 => ?_) (fun c4 => ?_)
        · have F := F.1 c4
          refine pv_aload_n dX12_open_43 rfl ?_
          refine pv_getI 12 55 dX12_open_44 fl_X12_311 rfl (lt_200 hL) ?_
          refine pv_sipush (v := 200) (by decide) dX12_open_47 ?_
          refine pv_icmp_ne (tgt := 56) dX12_open_50 (by decide) (fun c5 => ?_) (fun c5 => ?_)
          · have F := F.1 c5
            refine pv_aload_n dX12_open_56 rfl ?_
            refine pv_getI 12 55 dX12_open_57 fl_X12_311 rfl (lt_200 hL) ?_
            refine pv_istore (ls' := [some (.ref 200), some (.int x), some (.int y), some (.int z), some (.int u), some (.int (h1 200 55))]) dX12_open_60 (by decide) rfl rfl ?_
            refine pv_aload_n dX12_open_62 rfl ?_
            refine pv_getRk 12 56 dX12_open_63 fl_X12_130 rfl (lt_200 hL) (lr_200_56 hL) ?_
            refine pv_iload dX12_open_66 rfl ?_
            refine pv_pc (pc' := 68) rfl ?_
            refine pv_iload_n dX12_open_68 rfl ?_
            obtain ⟨q2, F⟩ := F
            obtain ⟨h2, eh2⟩ : ∃ h2 : pv_H, h2 = pv_up h1 356 (Int32.toNatClampNeg (h1 200 55)) x := ⟨_, rfl⟩
            have F := F h2 eh2
            refine pv_iast dX12_open_69 (lt_356 hL) (by decide) q2 ?_
            refine pv_hE eh2 ?_
            refine pv_aload_n dX12_open_70 rfl ?_
            refine pv_getRk 12 57 dX12_open_71 fl_X12_133 rfl (lt_200 hL) (lr_200_57 hL) ?_
            refine pv_iload dX12_open_74 rfl ?_
            refine pv_iload_n dX12_open_76 rfl ?_
            obtain ⟨q3, F⟩ := F
            obtain ⟨h3, eh3⟩ : ∃ h3 : pv_H, h3 = pv_up h2 357 (Int32.toNatClampNeg (h1 200 55)) y := ⟨_, rfl⟩
            have F := F h3 eh3
            refine pv_iast dX12_open_77 (lt_357 hL) (by decide) q3 ?_
            refine pv_hE eh3 ?_
            refine pv_aload_n dX12_open_78 rfl ?_
            refine pv_getRk 12 58 dX12_open_79 fl_X12_136 rfl (lt_200 hL) (lr_200_58 hL) ?_
            refine pv_iload dX12_open_82 rfl ?_
            refine pv_iload_n dX12_open_84 rfl ?_
            obtain ⟨q4, F⟩ := F
            obtain ⟨h4, eh4⟩ : ∃ h4 : pv_H, h4 = pv_up h3 358 (Int32.toNatClampNeg (h1 200 55)) z := ⟨_, rfl⟩
            have F := F h4 eh4
            refine pv_iast dX12_open_85 (lt_358 hL) (by decide) q4 ?_
            refine pv_hE eh4 ?_
            refine pv_aload_n dX12_open_86 rfl ?_
            refine pv_getRk 12 59 dX12_open_87 fl_X12_139 rfl (lt_200 hL) (lr_200_59 hL) ?_
            refine pv_iload dX12_open_90 rfl ?_
            refine pv_aload_n dX12_open_92 rfl ?_
            refine pv_getI 12 32 dX12_open_93 fl_X12_237 rfl (lt_200 hL) ?_
            obtain ⟨q5, F⟩ := F
            obtain ⟨h5, eh5⟩ : ∃ h5 : pv_H, h5 = pv_up h4 359 (Int32.toNatClampNeg (h1 200 55)) (h4 200 32) := ⟨_, rfl⟩
            have F := F h5 eh5
            refine pv_iast dX12_open_96 (lt_359 hL) (by decide) q5 ?_
            refine pv_hE eh5 ?_
            refine pv_aload_n dX12_open_97 rfl ?_
            refine pv_getRk 12 60 dX12_open_98 fl_X12_142 rfl (lt_200 hL) (lr_200_60 hL) ?_
            refine pv_iload dX12_open_101 rfl ?_
            refine pv_iload dX12_open_103 rfl ?_
            obtain ⟨q6, F⟩ := F
            obtain ⟨h6, eh6⟩ : ∃ h6 : pv_H, h6 = pv_up h5 360 (Int32.toNatClampNeg (h1 200 55)) u := ⟨_, rfl⟩
            have F := F h6 eh6
            refine pv_iast dX12_open_105 (lt_360 hL) (by decide) q6 ?_
            refine pv_hE eh6 ?_
            refine pv_aload_n dX12_open_106 rfl ?_
            refine pv_getRk 12 61 dX12_open_107 fl_X12_145 rfl (lt_200 hL) (lr_200_61 hL) ?_
            refine pv_iload dX12_open_110 rfl ?_
            refine pv_iconst (v := (-1)) (by decide) dX12_open_112 ?_
            obtain ⟨q7, F⟩ := F
            obtain ⟨h7, eh7⟩ : ∃ h7 : pv_H, h7 = pv_up h6 361 (Int32.toNatClampNeg (h1 200 55)) (-1) := ⟨_, rfl⟩
            have F := F h7 eh7
            refine pv_iast dX12_open_113 (lt_361 hL) (by decide) q7 ?_
            refine pv_hE eh7 ?_
            refine pv_aload_n dX12_open_114 rfl ?_
            refine pv_dup rfl dX12_open_115 ?_
            refine pv_getI 12 55 dX12_open_116 fl_X12_311 rfl (lt_200 hL) ?_
            refine pv_iconst (v := 1) (by decide) dX12_open_119 ?_
            refine pv_iadd dX12_open_120 ?_
            obtain ⟨h8, eh8⟩ : ∃ h8 : pv_H, h8 = pv_up h7 200 55 ((h7 200 55) + 1) := ⟨_, rfl⟩
            have F := F h8 eh8
            refine pv_putI 12 55 dX12_open_121 fl_X12_311 ⟨_, rfl, Or.inl rfl⟩ (Or.inl rfl) (lt_200 hL) ?_
            refine pv_hE eh8 ?_
            refine pv_iload dX12_open_124 rfl ?_
            exact pv_ireturn dX12_open_126 rfl rfl F
          · have F := F.2 c5
            refine pv_bipush (v := (-3)) (by decide) dX12_open_53 ?_
            exact pv_ireturn dX12_open_55 rfl rfl F
        · have F := F.2 c4
          refine pv_bipush (v := (-2)) (by decide) dX12_open_40 ?_
          exact pv_ireturn dX12_open_42 rfl rfl F
      · have F := F.2 c3
        refine pv_iconst (v := (-1)) (by decide) dX12_open_29 ?_
        exact pv_ireturn dX12_open_30 rfl rfl F
set_option maxRecDepth 20000 in
set_option maxHeartbeats 4000000 in
theorem sg_X11_countOpen_0 {Γ : pv_C} {d kc ks : Nat} {ty : pv_T} {h : pv_H} {r : pv_R} {g : pv_G} {Q : pv_Q} (x : Int32) (F : pv_E Γ d kc ks mX11_countOpen 4 [some (.ref 100), some (.int x), some (.int 0), some (.int 0), none] [] ty h r g Q) : pv_E Γ d kc ks mX11_countOpen 0 [some (.ref 100), some (.int x), none, none, none] [] ty h r g Q := by
  refine pv_iconst (v := 0) (by decide) dX11_countOpen_0 ?_
  refine pv_istore_n (ls' := [some (.ref 100), some (.int x), some (.int 0), none, none]) dX11_countOpen_1 (by decide) rfl rfl ?_
  refine pv_iconst (v := 0) (by decide) dX11_countOpen_2 ?_
  refine pv_istore_n (ls' := [some (.ref 100), some (.int x), some (.int 0), some (.int 0), none]) dX11_countOpen_3 (by decide) rfl rfl ?_
  exact F
set_option maxRecDepth 20000 in
set_option maxHeartbeats 4000000 in
theorem sg_X11_countOpen_4 {Γ : pv_C} {d kc ks : Nat} {ty : pv_T} {h : pv_H} {r : pv_R} {g : pv_G} {Q : pv_Q} (x1 : Int32) (x2 : Int32) (x3 : Int32) (hd : 1 ≤ d) (hL : pv_Lay ty r) (F : (((h 100 12) ≤ x3 → Q (some (.int x2)) ty h r g) ∧ (¬ (h 100 12) ≤ x3 → vp_in x3 200 ∧ (((r 121 (Int32.toNatClampNeg x3)) = 0 → pv_E Γ d kc ks mX11_countOpen 4 [some (.ref 100), some (.int x1), some (.int x2), some (.int (x3 + 1)), none] [] ty h r g Q) ∧ (¬ (r 121 (Int32.toNatClampNeg x3)) = 0 → ty (r 121 (Int32.toNatClampNeg x3)) = some (6, 0) ∧ ((¬ (h (r 121 (Int32.toNatClampNeg x3)) 0) = x1 → pv_E Γ d kc ks mX11_countOpen 4 [some (.ref 100), some (.int x1), some (.int x2), some (.int (x3 + 1)), none] [] ty h r g Q) ∧ ((h (r 121 (Int32.toNatClampNeg x3)) 0) = x1 → ty (r 121 (Int32.toNatClampNeg x3)) = some (6, 0) ∧ (ty (r 121 (Int32.toNatClampNeg x3)) = some (6, 0)) ∧ (((pf_b (h (r 121 (Int32.toNatClampNeg x3)) 5 = -1)) = 0 → pv_E Γ d kc ks mX11_countOpen 4 [some (.ref 100), some (.int x1), some (.int x2), some (.int (x3 + 1)), none] [] ty h r g Q) ∧ (¬ (pf_b (h (r 121 (Int32.toNatClampNeg x3)) 5 = -1)) = 0 → pv_E Γ d kc ks mX11_countOpen 4 [some (.ref 100), some (.int x1), some (.int (x2 + 1)), some (.int (x3 + 1)), none] [] ty h r g Q))))))))) : pv_E Γ d kc ks mX11_countOpen 4 [some (.ref 100), some (.int x1), some (.int x2), some (.int x3), none] [] ty h r g Q := by
  refine pv_iload_n dX11_countOpen_4 rfl ?_
  refine pv_aload_n dX11_countOpen_5 rfl ?_
  refine pv_getI 11 12 dX11_countOpen_6 fl_X11_243 rfl (lt_100 hL) ?_
  refine pv_icmp_ge (tgt := 51) dX11_countOpen_9 (by decide) (fun c1 => ?_) (fun c1 => ?_)
  · have F := F.1 c1
    refine pv_iload_n dX11_countOpen_51 rfl ?_
    exact pv_ireturn dX11_countOpen_52 rfl rfl F
  · have F := F.2 c1
    refine pv_aload_n dX11_countOpen_12 rfl ?_
    refine pv_getRk 11 11 dX11_countOpen_13 fl_X11_58 rfl (lt_100 hL) (lr_100_11 hL) ?_
    refine pv_iload_n dX11_countOpen_16 rfl ?_
    obtain ⟨q1, F⟩ := F
    refine pv_aald dX11_countOpen_17 (lt_121 hL) (by decide) q1 ?_
    refine pv_astore (ls' := [some (.ref 100), some (.int x1), some (.int x2), some (.int x3), some (.ref (r 121 (Int32.toNatClampNeg x3)))]) dX11_countOpen_18 (by decide) rfl rfl ?_
    refine pv_aload dX11_countOpen_20 rfl ?_
    refine pv_ifnull (tgt := 45) dX11_countOpen_22 (by decide) (fun c2 => ?_) (fun c2 => ?_)
    · have F := F.1 c2
      refine pv_iinc (v := x3 + 1) (ls' := [some (.ref 100), some (.int x1), some (.int x2), some (.int (x3 + 1)), some (.ref (r 121 (Int32.toNatClampNeg x3)))]) dX11_countOpen_45 rfl (by rfl) rfl rfl ?_
      refine pv_goto (tgt := 4) dX11_countOpen_48 (by decide) ?_
      refine pv_forgetL (ls' := [some (.ref 100), some (.int x1), some (.int x2), some (.int (x3 + 1)), none]) (pv_subL_ok ⟨rfl, ⟨rfl, ⟨rfl, ⟨rfl, trivial⟩⟩⟩⟩) ?_
      exact F
    · have F := F.2 c2
      refine pv_aload dX11_countOpen_25 rfl ?_
      obtain ⟨q2, F⟩ := F
      refine pv_getI 6 0 dX11_countOpen_27 fl_X11_262 rfl q2 ?_
      refine pv_iload_n dX11_countOpen_30 rfl ?_
      refine pv_icmp_ne (tgt := 45) dX11_countOpen_31 (by decide) (fun c3 => ?_) (fun c3 => ?_)
      · have F := F.1 c3
        refine pv_iinc (v := x3 + 1) (ls' := [some (.ref 100), some (.int x1), some (.int x2), some (.int (x3 + 1)), some (.ref (r 121 (Int32.toNatClampNeg x3)))]) dX11_countOpen_45 rfl (by rfl) rfl rfl ?_
        refine pv_goto (tgt := 4) dX11_countOpen_48 (by decide) ?_
        refine pv_forgetL (ls' := [some (.ref 100), some (.int x1), some (.int x2), some (.int (x3 + 1)), none]) (pv_subL_ok ⟨rfl, ⟨rfl, ⟨rfl, ⟨rfl, trivial⟩⟩⟩⟩) ?_
        exact F
      · have F := F.2 c3
        refine pv_aload dX11_countOpen_34 rfl ?_
        obtain ⟨q3, F⟩ := F
        obtain ⟨q4, F⟩ := F
        refine pv_invV (As := []) (d' := d - 1) dX11_countOpen_36 moX6_isOpen ml_X11_253 q3 (Or.inl ⟨_, rfl, rfl⟩) (Nat.le_of_ble_eq_true rfl) (by omega) (Nat.zero_le _) (Nat.zero_le _) (ct_X6_isOpen (by omega) q4) (fun v ty' h' r' g' hq => ?_) rfl
        obtain ⟨e1, e2, e3, e4, e5⟩ := hq
        rw [e1, e2, e3, e4, e5]
        refine pv_pc (pc' := 39) rfl ?_
        show pv_E Γ d kc ks mX11_countOpen 39 [some (.ref 100), some (.int x1), some (.int x2), some (.int x3), some (.ref (r 121 (Int32.toNatClampNeg x3)))] [.int (pf_b (h (r 121 (Int32.toNatClampNeg x3)) 5 = -1))] ty h r g Q
        refine pv_if_eq (tgt := 45) dX11_countOpen_39 (by decide) (fun c4 => ?_) (fun c4 => ?_)
        · have F := F.1 c4
          refine pv_iinc (v := x3 + 1) (ls' := [some (.ref 100), some (.int x1), some (.int x2), some (.int (x3 + 1)), some (.ref (r 121 (Int32.toNatClampNeg x3)))]) dX11_countOpen_45 rfl (by rfl) rfl rfl ?_
          refine pv_goto (tgt := 4) dX11_countOpen_48 (by decide) ?_
          refine pv_forgetL (ls' := [some (.ref 100), some (.int x1), some (.int x2), some (.int (x3 + 1)), none]) (pv_subL_ok ⟨rfl, ⟨rfl, ⟨rfl, ⟨rfl, trivial⟩⟩⟩⟩) ?_
          exact F
        · have F := F.2 c4
          refine pv_iinc (v := x2 + 1) (ls' := [some (.ref 100), some (.int x1), some (.int (x2 + 1)), some (.int x3), some (.ref (r 121 (Int32.toNatClampNeg x3)))]) dX11_countOpen_42 rfl (by rfl) rfl rfl ?_
          refine pv_iinc (v := x3 + 1) (ls' := [some (.ref 100), some (.int x1), some (.int (x2 + 1)), some (.int (x3 + 1)), some (.ref (r 121 (Int32.toNatClampNeg x3)))]) dX11_countOpen_45 rfl (by rfl) rfl rfl ?_
          refine pv_goto (tgt := 4) dX11_countOpen_48 (by decide) ?_
          refine pv_forgetL (ls' := [some (.ref 100), some (.int x1), some (.int (x2 + 1)), some (.int (x3 + 1)), none]) (pv_subL_ok ⟨rfl, ⟨rfl, ⟨rfl, ⟨rfl, trivial⟩⟩⟩⟩) ?_
          exact F
set_option maxRecDepth 20000 in
set_option maxHeartbeats 4000000 in
theorem sg_X11_countAllOpen_0 {Γ : pv_C} {d kc ks : Nat} {ty : pv_T} {h : pv_H} {r : pv_R} {g : pv_G} {Q : pv_Q}  (F : pv_E Γ d kc ks mX11_countAllOpen 4 [some (.ref 100), some (.int 0), some (.int 0)] [] ty h r g Q) : pv_E Γ d kc ks mX11_countAllOpen 0 [some (.ref 100), none, none] [] ty h r g Q := by
  refine pv_iconst (v := 0) (by decide) dX11_countAllOpen_0 ?_
  refine pv_istore_n (ls' := [some (.ref 100), some (.int 0), none]) dX11_countAllOpen_1 (by decide) rfl rfl ?_
  refine pv_iconst (v := 0) (by decide) dX11_countAllOpen_2 ?_
  refine pv_istore_n (ls' := [some (.ref 100), some (.int 0), some (.int 0)]) dX11_countAllOpen_3 (by decide) rfl rfl ?_
  exact F
set_option maxRecDepth 20000 in
set_option maxHeartbeats 4000000 in
theorem sg_X11_countAllOpen_4 {Γ : pv_C} {d kc ks : Nat} {ty : pv_T} {h : pv_H} {r : pv_R} {g : pv_G} {Q : pv_Q} (x1 : Int32) (x2 : Int32) (hd : 1 ≤ d) (hL : pv_Lay ty r) (F : ((3 < x2 → Q (some (.int x1)) ty h r g) ∧ (¬ 3 < x2 → pv_CJ Γ (d - 1) mX11_countOpen [.ref 100, .int x2] ty h r g (fun (w1 : Int32) (h1 : pv_H) => pv_E Γ d kc ks mX11_countAllOpen 4 [some (.ref 100), some (.int (x1 + w1)), some (.int (x2 + 1))] [] ty h1 r g Q)))) : pv_E Γ d kc ks mX11_countAllOpen 4 [some (.ref 100), some (.int x1), some (.int x2)] [] ty h r g Q := by
  refine pv_iload_n dX11_countAllOpen_4 rfl ?_
  refine pv_iconst (v := 3) (by decide) dX11_countAllOpen_5 ?_
  refine pv_icmp_gt (tgt := 23) dX11_countAllOpen_6 (by decide) (fun c1 => ?_) (fun c1 => ?_)
  · have F := F.1 c1
    refine pv_iload_n dX11_countAllOpen_23 rfl ?_
    exact pv_ireturn dX11_countAllOpen_24 rfl rfl F
  · have F := F.2 c1
    refine pv_iload_n dX11_countAllOpen_9 rfl ?_
    refine pv_aload_n dX11_countAllOpen_10 rfl ?_
    refine pv_iload_n dX11_countAllOpen_11 rfl ?_
    refine pv_invV (As := [.int x2]) (d' := d - 1) dX11_countAllOpen_12 moX11_countOpen ml_X11_265 (lt_100 hL) (Or.inl ⟨_, rfl, rfl⟩) (Nat.le_of_ble_eq_true rfl) (by omega) (Nat.zero_le _) (Nat.zero_le _) F (fun v ty' h1 r' g' hq => ?_) rfl
    obtain ⟨e2, e4, e5, w1, e1, F⟩ := hq
    rw [e1, e2, e4, e5]
    refine pv_pc (pc' := 15) rfl ?_
    show pv_E Γ d kc ks mX11_countAllOpen 15 [some (.ref 100), some (.int x1), some (.int x2)] [.int w1, .int x1] ty h1 r g Q
    refine pv_iadd dX11_countAllOpen_15 ?_
    refine pv_istore_n (ls' := [some (.ref 100), some (.int (x1 + w1)), some (.int x2)]) dX11_countAllOpen_16 (by decide) rfl rfl ?_
    refine pv_iinc (v := x2 + 1) (ls' := [some (.ref 100), some (.int (x1 + w1)), some (.int (x2 + 1))]) dX11_countAllOpen_17 rfl (by rfl) rfl rfl ?_
    refine pv_goto (tgt := 4) dX11_countAllOpen_20 (by decide) ?_
    exact F
set_option maxRecDepth 20000 in
set_option maxHeartbeats 4000000 in
theorem sg_X10_countAll_0 {Γ : pv_C} {d kc ks : Nat} {ty : pv_T} {h : pv_H} {r : pv_R} {g : pv_G} {Q : pv_Q}  (F : pv_E Γ d kc ks mX10_countAll 4 [some (.ref 50), some (.int 0), some (.int 1)] [] ty h r g Q) : pv_E Γ d kc ks mX10_countAll 0 [some (.ref 50), none, none] [] ty h r g Q := by
  refine pv_iconst (v := 0) (by decide) dX10_countAll_0 ?_
  refine pv_istore_n (ls' := [some (.ref 50), some (.int 0), none]) dX10_countAll_1 (by decide) rfl rfl ?_
  refine pv_iconst (v := 1) (by decide) dX10_countAll_2 ?_
  refine pv_istore_n (ls' := [some (.ref 50), some (.int 0), some (.int 1)]) dX10_countAll_3 (by decide) rfl rfl ?_
  exact F
set_option maxRecDepth 20000 in
set_option maxHeartbeats 4000000 in
theorem sg_X10_countAll_4 {Γ : pv_C} {d kc ks : Nat} {ty : pv_T} {h : pv_H} {r : pv_R} {g : pv_G} {Q : pv_Q} (x1 : Int32) (x2 : Int32) (hL : pv_Lay ty r) (F : ((9 < x2 → Q (some (.int x1)) ty h r g) ∧ (¬ 9 < x2 → vp_in x2 10 ∧ pv_E Γ d kc ks mX10_countAll 4 [some (.ref 50), some (.int (x1 + (h 51 (Int32.toNatClampNeg x2)))), some (.int (x2 + 1))] [] ty h r g Q))) : pv_E Γ d kc ks mX10_countAll 4 [some (.ref 50), some (.int x1), some (.int x2)] [] ty h r g Q := by
  refine pv_iload_n dX10_countAll_4 rfl ?_
  refine pv_bipush (v := 9) (by decide) dX10_countAll_5 ?_
  refine pv_icmp_gt (tgt := 25) dX10_countAll_7 (by decide) (fun c1 => ?_) (fun c1 => ?_)
  · have F := F.1 c1
    refine pv_iload_n dX10_countAll_25 rfl ?_
    exact pv_ireturn dX10_countAll_26 rfl rfl F
  · have F := F.2 c1
    refine pv_iload_n dX10_countAll_10 rfl ?_
    refine pv_aload_n dX10_countAll_11 rfl ?_
    refine pv_getRk 10 0 dX10_countAll_12 fl_X10_9 rfl (lt_50 hL) (lr_50_0 hL) ?_
    refine pv_iload_n dX10_countAll_15 rfl ?_
    obtain ⟨q1, F⟩ := F
    refine pv_iald dX10_countAll_16 (lt_51 hL) q1 ?_
    refine pv_iadd dX10_countAll_17 ?_
    refine pv_istore_n (ls' := [some (.ref 50), some (.int (x1 + (h 51 (Int32.toNatClampNeg x2)))), some (.int x2)]) dX10_countAll_18 (by decide) rfl rfl ?_
    refine pv_iinc (v := x2 + 1) (ls' := [some (.ref 50), some (.int (x1 + (h 51 (Int32.toNatClampNeg x2)))), some (.int (x2 + 1))]) dX10_countAll_19 rfl (by rfl) rfl rfl ?_
    refine pv_goto (tgt := 4) dX10_countAll_22 (by decide) ?_
    exact F
set_option maxRecDepth 20000 in
set_option maxHeartbeats 4000000 in
theorem sg_X11_count_0 {Γ : pv_C} {d kc ks : Nat} {ty : pv_T} {h : pv_H} {r : pv_R} {g : pv_G} {Q : pv_Q} (x : Int32) (hd : 1 ≤ d) (hL : pv_Lay ty r) (F : ((x = 0 → Q (some (.int (h 100 1))) ty h r g) ∧ (x = 1 → Q (some (.int (h 100 8))) ty h r g) ∧ (x = 2 → Q (some (.int (h 70 4))) ty h r g) ∧ (x = 3 → Q (some (.int (h 100 12))) ty h r g) ∧ (x = 4 → pv_CJ Γ (d - 1) mX11_countAllOpen [.ref 100] ty h r g (fun (w1 : Int32) (h1 : pv_H) => Q (some (.int w1)) ty h1 r g)) ∧ (x = 5 → Q (some (.int (h 100 9))) ty h r g) ∧ (x = 6 → Q (some (.int (h 100 5))) ty h r g) ∧ (x = 7 → Q (some (.int (h 70 3))) ty h r g) ∧ (x = 8 → pv_CJ Γ (d - 1) mX10_countAll [.ref 50] ty h r g (fun (w2 : Int32) (h2 : pv_H) => Q (some (.int w2)) ty h2 r g)) ∧ (¬ x = 0 → ¬ x = 1 → ¬ x = 2 → ¬ x = 3 → ¬ x = 4 → ¬ x = 5 → ¬ x = 6 → ¬ x = 7 → ¬ x = 8 → Q (some (.int (-1))) ty h r g))) : pv_E Γ d kc ks mX11_count 0 [some (.ref 100), some (.int x)] [] ty h r g Q := by
  refine pv_iload_n dX11_count_0 rfl ?_
  by_cases c1_0 : x = 0
  · refine pv_tableIn (tgt := 52) dX11_count_1 (by rw [c1_0]; decide) (by rw [c1_0]; decide) (by rw [c1_0]; rfl) (by decide) ?_
    have F := F.1 c1_0
    refine pv_aload_n dX11_count_52 rfl ?_
    refine pv_getI 11 1 dX11_count_53 fl_X11_73 rfl (lt_100 hL) ?_
    exact pv_ireturn dX11_count_56 rfl rfl F
  · skip
    by_cases c1_1 : x = 1
    · refine pv_tableIn (tgt := 57) dX11_count_1 (by rw [c1_1]; decide) (by rw [c1_1]; decide) (by rw [c1_1]; rfl) (by decide) ?_
      have F := F.2.1 c1_1
      refine pv_aload_n dX11_count_57 rfl ?_
      refine pv_getI 11 8 dX11_count_58 fl_X11_182 rfl (lt_100 hL) ?_
      exact pv_ireturn dX11_count_61 rfl rfl F
    · skip
      by_cases c1_2 : x = 2
      · refine pv_tableIn (tgt := 62) dX11_count_1 (by rw [c1_2]; decide) (by rw [c1_2]; decide) (by rw [c1_2]; rfl) (by decide) ?_
        have F := F.2.2.1 c1_2
        refine pv_aload_n dX11_count_62 rfl ?_
        refine pv_getRk 11 10 dX11_count_63 fl_X11_52 rfl (lt_100 hL) (lr_100_10 hL) ?_
        refine pv_getI 1 4 dX11_count_66 fl_X11_294 rfl (lt_70 hL) ?_
        exact pv_ireturn dX11_count_69 rfl rfl F
      · skip
        by_cases c1_3 : x = 3
        · refine pv_tableIn (tgt := 70) dX11_count_1 (by rw [c1_3]; decide) (by rw [c1_3]; decide) (by rw [c1_3]; rfl) (by decide) ?_
          have F := F.2.2.2.1 c1_3
          refine pv_aload_n dX11_count_70 rfl ?_
          refine pv_getI 11 12 dX11_count_71 fl_X11_243 rfl (lt_100 hL) ?_
          exact pv_ireturn dX11_count_74 rfl rfl F
        · skip
          by_cases c1_4 : x = 4
          · refine pv_tableIn (tgt := 75) dX11_count_1 (by rw [c1_4]; decide) (by rw [c1_4]; decide) (by rw [c1_4]; rfl) (by decide) ?_
            have F := F.2.2.2.2.1 c1_4
            refine pv_aload_n dX11_count_75 rfl ?_
            refine pv_invV (As := []) (d' := d - 1) dX11_count_76 moX11_countAllOpen ml_X11_297 (lt_100 hL) (Or.inl ⟨_, rfl, rfl⟩) (Nat.le_of_ble_eq_true rfl) (by omega) (Nat.zero_le _) (Nat.zero_le _) F (fun v ty' h1 r' g' hq => ?_) rfl
            obtain ⟨e2, e4, e5, w1, e1, F⟩ := hq
            rw [e1, e2, e4, e5]
            refine pv_pc (pc' := 79) rfl ?_
            show pv_E Γ d kc ks mX11_count 79 [some (.ref 100), some (.int x)] [.int w1] ty h1 r g Q
            exact pv_ireturn dX11_count_79 rfl rfl F
          · skip
            by_cases c1_5 : x = 5
            · refine pv_tableIn (tgt := 80) dX11_count_1 (by rw [c1_5]; decide) (by rw [c1_5]; decide) (by rw [c1_5]; rfl) (by decide) ?_
              have F := F.2.2.2.2.2.1 c1_5
              refine pv_aload_n dX11_count_80 rfl ?_
              refine pv_getI 11 9 dX11_count_81 fl_X11_186 rfl (lt_100 hL) ?_
              exact pv_ireturn dX11_count_84 rfl rfl F
            · skip
              by_cases c1_6 : x = 6
              · refine pv_tableIn (tgt := 85) dX11_count_1 (by rw [c1_6]; decide) (by rw [c1_6]; decide) (by rw [c1_6]; rfl) (by decide) ?_
                have F := F.2.2.2.2.2.2.1 c1_6
                refine pv_aload_n dX11_count_85 rfl ?_
                refine pv_getI 11 5 dX11_count_86 fl_X11_139 rfl (lt_100 hL) ?_
                exact pv_ireturn dX11_count_89 rfl rfl F
              · skip
                by_cases c1_7 : x = 7
                · refine pv_tableIn (tgt := 90) dX11_count_1 (by rw [c1_7]; decide) (by rw [c1_7]; decide) (by rw [c1_7]; rfl) (by decide) ?_
                  have F := F.2.2.2.2.2.2.2.1 c1_7
                  refine pv_aload_n dX11_count_90 rfl ?_
                  refine pv_getRk 11 10 dX11_count_91 fl_X11_52 rfl (lt_100 hL) (lr_100_10 hL) ?_
                  refine pv_getI 1 3 dX11_count_94 fl_X11_300 rfl (lt_70 hL) ?_
                  exact pv_ireturn dX11_count_97 rfl rfl F
                · skip
                  by_cases c1_8 : x = 8
                  · refine pv_tableIn (tgt := 98) dX11_count_1 (by rw [c1_8]; decide) (by rw [c1_8]; decide) (by rw [c1_8]; rfl) (by decide) ?_
                    have F := F.2.2.2.2.2.2.2.2.1 c1_8
                    refine pv_aload_n dX11_count_98 rfl ?_
                    refine pv_getRk 11 4 dX11_count_99 fl_X11_32 rfl (lt_100 hL) (lr_100_4 hL) ?_
                    refine pv_invV (As := []) (d' := d - 1) dX11_count_102 moX10_countAll ml_X11_303 (lt_50 hL) (Or.inl ⟨_, rfl, rfl⟩) (Nat.le_of_ble_eq_true rfl) (by omega) (Nat.zero_le _) (Nat.zero_le _) F (fun v ty' h2 r' g' hq => ?_) rfl
                    obtain ⟨e2, e4, e5, w2, e1, F⟩ := hq
                    rw [e1, e2, e4, e5]
                    refine pv_pc (pc' := 105) rfl ?_
                    show pv_E Γ d kc ks mX11_count 105 [some (.ref 100), some (.int x)] [.int w2] ty h2 r g Q
                    exact pv_ireturn dX11_count_105 rfl rfl F
                  · skip
                    refine pv_tableOut (tgt := 106) dX11_count_1 (by have z0 := pv_ne c1_0 (n := 0) (by decide); have z1 := pv_ne c1_1 (n := 1) (by decide); have z2 := pv_ne c1_2 (n := 2) (by decide); have z3 := pv_ne c1_3 (n := 3) (by decide); have z4 := pv_ne c1_4 (n := 4) (by decide); have z5 := pv_ne c1_5 (n := 5) (by decide); have z6 := pv_ne c1_6 (n := 6) (by decide); have z7 := pv_ne c1_7 (n := 7) (by decide); have z8 := pv_ne c1_8 (n := 8) (by decide); omega) (by decide) ?_
                    have F := F.2.2.2.2.2.2.2.2.2 c1_0 c1_1 c1_2 c1_3 c1_4 c1_5 c1_6 c1_7 c1_8
                    refine pv_iconst (v := (-1)) (by decide) dX11_count_106 ?_
                    exact pv_ireturn dX11_count_107 rfl rfl F
set_option maxRecDepth 20000 in
set_option maxHeartbeats 4000000 in
theorem sg_X12_count_0 {Γ : pv_C} {d kc ks : Nat} {ty : pv_T} {h : pv_H} {r : pv_R} {g : pv_G} {Q : pv_Q} (x : Int32) (hL : pv_Lay ty r) (F : ((x = 0 → Q (some (.int (h 200 1))) ty h r g) ∧ (x = 1 → Q (some (.int (h 200 33))) ty h r g) ∧ (x = 2 → Q (some (.int (h 200 41))) ty h r g) ∧ (x = 3 → Q (some (.int (h 200 55))) ty h r g) ∧ (x = 4 → pv_E Γ d kc ks mX12_count 74 [some (.ref 200), none, some (.int 0), some (.int 0)] [] ty h r g Q) ∧ (x = 5 → Q (some (.int (h 200 32))) ty h r g) ∧ (x = 6 → Q (some (.int (h 200 19))) ty h r g) ∧ (x = 7 → Q (some (.int (h 200 40))) ty h r g) ∧ (x = 8 → pv_E Γ d kc ks mX12_count 124 [some (.ref 200), none, some (.int 0), some (.int 1)] [] ty h r g Q) ∧ (¬ x = 0 → ¬ x = 1 → ¬ x = 2 → ¬ x = 3 → ¬ x = 4 → ¬ x = 5 → ¬ x = 6 → ¬ x = 7 → ¬ x = 8 → Q (some (.int (-1))) ty h r g))) : pv_E Γ d kc ks mX12_count 0 [some (.ref 200), some (.int x), none, none] [] ty h r g Q := by
  refine pv_iconst (v := 0) (by decide) dX12_count_0 ?_
  refine pv_istore_n (ls' := [some (.ref 200), some (.int x), some (.int 0), none]) dX12_count_1 (by decide) rfl rfl ?_
  refine pv_iload_n dX12_count_2 rfl ?_
  by_cases c1_0 : x = 0
  · refine pv_tableIn (tgt := 52) dX12_count_3 (by rw [c1_0]; decide) (by rw [c1_0]; decide) (by rw [c1_0]; rfl) (by decide) ?_
    have F := F.1 c1_0
    refine pv_aload_n dX12_count_52 rfl ?_
    refine pv_getI 12 1 dX12_count_53 fl_X12_161 rfl (lt_200 hL) ?_
    exact pv_ireturn dX12_count_56 rfl rfl F
  · skip
    by_cases c1_1 : x = 1
    · refine pv_tableIn (tgt := 57) dX12_count_3 (by rw [c1_1]; decide) (by rw [c1_1]; decide) (by rw [c1_1]; rfl) (by decide) ?_
      have F := F.2.1 c1_1
      refine pv_aload_n dX12_count_57 rfl ?_
      refine pv_getI 12 33 dX12_count_58 fl_X12_234 rfl (lt_200 hL) ?_
      exact pv_ireturn dX12_count_61 rfl rfl F
    · skip
      by_cases c1_2 : x = 2
      · refine pv_tableIn (tgt := 62) dX12_count_3 (by rw [c1_2]; decide) (by rw [c1_2]; decide) (by rw [c1_2]; rfl) (by decide) ?_
        have F := F.2.2.1 c1_2
        refine pv_aload_n dX12_count_62 rfl ?_
        refine pv_getI 12 41 dX12_count_63 fl_X12_279 rfl (lt_200 hL) ?_
        exact pv_ireturn dX12_count_66 rfl rfl F
      · skip
        by_cases c1_3 : x = 3
        · refine pv_tableIn (tgt := 67) dX12_count_3 (by rw [c1_3]; decide) (by rw [c1_3]; decide) (by rw [c1_3]; rfl) (by decide) ?_
          have F := F.2.2.2.1 c1_3
          refine pv_aload_n dX12_count_67 rfl ?_
          refine pv_getI 12 55 dX12_count_68 fl_X12_311 rfl (lt_200 hL) ?_
          exact pv_ireturn dX12_count_71 rfl rfl F
        · skip
          by_cases c1_4 : x = 4
          · refine pv_tableIn (tgt := 72) dX12_count_3 (by rw [c1_4]; decide) (by rw [c1_4]; decide) (by rw [c1_4]; rfl) (by decide) ?_
            have F := F.2.2.2.2.1 c1_4
            refine pv_iconst (v := 0) (by decide) dX12_count_72 ?_
            refine pv_istore_n (ls' := [some (.ref 200), some (.int x), some (.int 0), some (.int 0)]) dX12_count_73 (by decide) rfl rfl ?_
            refine pv_forgetL (ls' := [some (.ref 200), none, some (.int 0), some (.int 0)]) (pv_subL_ok ⟨rfl, ⟨rfl, ⟨rfl, trivial⟩⟩⟩) ?_
            exact F
          · skip
            by_cases c1_5 : x = 5
            · refine pv_tableIn (tgt := 107) dX12_count_3 (by rw [c1_5]; decide) (by rw [c1_5]; decide) (by rw [c1_5]; rfl) (by decide) ?_
              have F := F.2.2.2.2.2.1 c1_5
              refine pv_aload_n dX12_count_107 rfl ?_
              refine pv_getI 12 32 dX12_count_108 fl_X12_237 rfl (lt_200 hL) ?_
              exact pv_ireturn dX12_count_111 rfl rfl F
            · skip
              by_cases c1_6 : x = 6
              · refine pv_tableIn (tgt := 112) dX12_count_3 (by rw [c1_6]; decide) (by rw [c1_6]; decide) (by rw [c1_6]; rfl) (by decide) ?_
                have F := F.2.2.2.2.2.2.1 c1_6
                refine pv_aload_n dX12_count_112 rfl ?_
                refine pv_getI 12 19 dX12_count_113 fl_X12_211 rfl (lt_200 hL) ?_
                exact pv_ireturn dX12_count_116 rfl rfl F
              · skip
                by_cases c1_7 : x = 7
                · refine pv_tableIn (tgt := 117) dX12_count_3 (by rw [c1_7]; decide) (by rw [c1_7]; decide) (by rw [c1_7]; rfl) (by decide) ?_
                  have F := F.2.2.2.2.2.2.2.1 c1_7
                  refine pv_aload_n dX12_count_117 rfl ?_
                  refine pv_getI 12 40 dX12_count_118 fl_X12_240 rfl (lt_200 hL) ?_
                  exact pv_ireturn dX12_count_121 rfl rfl F
                · skip
                  by_cases c1_8 : x = 8
                  · refine pv_tableIn (tgt := 122) dX12_count_3 (by rw [c1_8]; decide) (by rw [c1_8]; decide) (by rw [c1_8]; rfl) (by decide) ?_
                    have F := F.2.2.2.2.2.2.2.2.1 c1_8
                    refine pv_iconst (v := 1) (by decide) dX12_count_122 ?_
                    refine pv_istore_n (ls' := [some (.ref 200), some (.int x), some (.int 0), some (.int 1)]) dX12_count_123 (by decide) rfl rfl ?_
                    refine pv_forgetL (ls' := [some (.ref 200), none, some (.int 0), some (.int 1)]) (pv_subL_ok ⟨rfl, ⟨rfl, ⟨rfl, trivial⟩⟩⟩) ?_
                    exact F
                  · skip
                    refine pv_tableOut (tgt := 147) dX12_count_3 (by have z0 := pv_ne c1_0 (n := 0) (by decide); have z1 := pv_ne c1_1 (n := 1) (by decide); have z2 := pv_ne c1_2 (n := 2) (by decide); have z3 := pv_ne c1_3 (n := 3) (by decide); have z4 := pv_ne c1_4 (n := 4) (by decide); have z5 := pv_ne c1_5 (n := 5) (by decide); have z6 := pv_ne c1_6 (n := 6) (by decide); have z7 := pv_ne c1_7 (n := 7) (by decide); have z8 := pv_ne c1_8 (n := 8) (by decide); omega) (by decide) ?_
                    have F := F.2.2.2.2.2.2.2.2.2 c1_0 c1_1 c1_2 c1_3 c1_4 c1_5 c1_6 c1_7 c1_8
                    refine pv_iconst (v := (-1)) (by decide) dX12_count_147 ?_
                    exact pv_ireturn dX12_count_148 rfl rfl F
set_option maxRecDepth 20000 in
set_option maxHeartbeats 4000000 in
theorem sg_X12_count_74 {Γ : pv_C} {d kc ks : Nat} {ty : pv_T} {h : pv_H} {r : pv_R} {g : pv_G} {Q : pv_Q} (x2 : Int32) (x3 : Int32) (hL : pv_Lay ty r) (F : (((h 200 55) ≤ x3 → Q (some (.int x2)) ty h r g) ∧ (¬ (h 200 55) ≤ x3 → vp_in x3 200 ∧ ((0 ≤ (h 361 (Int32.toNatClampNeg x3)) → pv_E Γ d kc ks mX12_count 74 [some (.ref 200), none, some (.int (x2 + 0)), some (.int (x3 + 1))] [] ty h r g Q) ∧ (¬ 0 ≤ (h 361 (Int32.toNatClampNeg x3)) → pv_E Γ d kc ks mX12_count 74 [some (.ref 200), none, some (.int (x2 + 1)), some (.int (x3 + 1))] [] ty h r g Q))))) : pv_E Γ d kc ks mX12_count 74 [some (.ref 200), none, some (.int x2), some (.int x3)] [] ty h r g Q := by
  refine pv_iload_n dX12_count_74 rfl ?_
  refine pv_aload_n dX12_count_75 rfl ?_
  refine pv_getI 12 55 dX12_count_76 fl_X12_311 rfl (lt_200 hL) ?_
  refine pv_icmp_ge (tgt := 105) dX12_count_79 (by decide) (fun c1 => ?_) (fun c1 => ?_)
  · have F := F.1 c1
    refine pv_iload_n dX12_count_105 rfl ?_
    exact pv_ireturn dX12_count_106 rfl rfl F
  · have F := F.2 c1
    refine pv_iload_n dX12_count_82 rfl ?_
    refine pv_aload_n dX12_count_83 rfl ?_
    refine pv_getRk 12 61 dX12_count_84 fl_X12_145 rfl (lt_200 hL) (lr_200_61 hL) ?_
    refine pv_iload_n dX12_count_87 rfl ?_
    obtain ⟨q1, F⟩ := F
    refine pv_iald dX12_count_88 (lt_361 hL) q1 ?_
    refine pv_if_ge (tgt := 96) dX12_count_89 (by decide) (fun c2 => ?_) (fun c2 => ?_)
    · have F := F.1 c2
      refine pv_iconst (v := 0) (by decide) dX12_count_96 ?_
      refine pv_iadd dX12_count_97 ?_
      refine pv_istore_n (ls' := [some (.ref 200), none, some (.int (x2 + 0)), some (.int x3)]) dX12_count_98 (by decide) rfl rfl ?_
      refine pv_iinc (v := x3 + 1) (ls' := [some (.ref 200), none, some (.int (x2 + 0)), some (.int (x3 + 1))]) dX12_count_99 rfl (by rfl) rfl rfl ?_
      refine pv_goto (tgt := 74) dX12_count_102 (by decide) ?_
      exact F
    · have F := F.2 c2
      refine pv_iconst (v := 1) (by decide) dX12_count_92 ?_
      refine pv_goto (tgt := 97) dX12_count_93 (by decide) ?_
      refine pv_iadd dX12_count_97 ?_
      refine pv_istore_n (ls' := [some (.ref 200), none, some (.int (x2 + 1)), some (.int x3)]) dX12_count_98 (by decide) rfl rfl ?_
      refine pv_iinc (v := x3 + 1) (ls' := [some (.ref 200), none, some (.int (x2 + 1)), some (.int (x3 + 1))]) dX12_count_99 rfl (by rfl) rfl rfl ?_
      refine pv_goto (tgt := 74) dX12_count_102 (by decide) ?_
      exact F
set_option maxRecDepth 20000 in
set_option maxHeartbeats 4000000 in
theorem sg_X12_count_124 {Γ : pv_C} {d kc ks : Nat} {ty : pv_T} {h : pv_H} {r : pv_R} {g : pv_G} {Q : pv_Q} (x2 : Int32) (x3 : Int32) (hL : pv_Lay ty r) (F : ((9 < x3 → Q (some (.int x2)) ty h r g) ∧ (¬ 9 < x3 → vp_in x3 10 ∧ pv_E Γ d kc ks mX12_count 124 [some (.ref 200), none, some (.int (x2 + (h 314 (Int32.toNatClampNeg x3)))), some (.int (x3 + 1))] [] ty h r g Q))) : pv_E Γ d kc ks mX12_count 124 [some (.ref 200), none, some (.int x2), some (.int x3)] [] ty h r g Q := by
  refine pv_iload_n dX12_count_124 rfl ?_
  refine pv_bipush (v := 9) (by decide) dX12_count_125 ?_
  refine pv_icmp_gt (tgt := 145) dX12_count_127 (by decide) (fun c1 => ?_) (fun c1 => ?_)
  · have F := F.1 c1
    refine pv_iload_n dX12_count_145 rfl ?_
    exact pv_ireturn dX12_count_146 rfl rfl F
  · have F := F.2 c1
    refine pv_iload_n dX12_count_130 rfl ?_
    refine pv_aload_n dX12_count_131 rfl ?_
    refine pv_getRk 12 14 dX12_count_132 fl_X12_42 rfl (lt_200 hL) (lr_200_14 hL) ?_
    refine pv_iload_n dX12_count_135 rfl ?_
    obtain ⟨q1, F⟩ := F
    refine pv_iald dX12_count_136 (lt_314 hL) q1 ?_
    refine pv_iadd dX12_count_137 ?_
    refine pv_istore_n (ls' := [some (.ref 200), none, some (.int (x2 + (h 314 (Int32.toNatClampNeg x3)))), some (.int x3)]) dX12_count_138 (by decide) rfl rfl ?_
    refine pv_iinc (v := x3 + 1) (ls' := [some (.ref 200), none, some (.int (x2 + (h 314 (Int32.toNatClampNeg x3)))), some (.int (x3 + 1))]) dX12_count_139 rfl (by rfl) rfl rfl ?_
    refine pv_goto (tgt := 124) dX12_count_142 (by decide) ?_
    exact F
def co_n (h : pv_H) (x : Int32) : Nat → Nat
  | 0 => 0
  | n + 1 => co_n h x n + (if h 356 n = x ∧ h 361 n = -1 then 1 else 0)
def co_a (h : pv_H) : Nat → Nat
  | 0 => 0
  | n + 1 => co_a h n + (if h 361 n = -1 then 1 else 0)
theorem co_n_le (h : pv_H) (x : Int32) : ∀ n, co_n h x n ≤ n
  | 0 => Nat.le_refl _
  | n + 1 => by
    have := co_n_le h x n
    show co_n h x n + _ ≤ _
    split <;> omega
theorem co_a_le (h : pv_H) : ∀ n, co_a h n ≤ n
  | 0 => Nat.le_refl _
  | n + 1 => by
    have := co_a_le h n
    show co_a h n + _ ≤ _
    split <;> omega
theorem co_sum {h : pv_H} : ∀ {n : Nat}, (∀ i, i < n → 0 ≤ h 356 i ∧ h 356 i ≤ 3) → co_n h (nI 0) n + co_n h (nI 1) n + co_n h (nI 2) n + co_n h (nI 3) n = co_a h n
  | 0, _ => rfl
  | n + 1, hc => by
    have ih := co_sum (n := n) (fun i hi => hc i (by omega))
    show (co_n h (nI 0) n + _) + (co_n h (nI 1) n + _) + (co_n h (nI 2) n + _) + (co_n h (nI 3) n + _) = co_a h n + _
    obtain ⟨c1, c2⟩ := hc n (by omega)
    obtain ⟨k, k1, k2⟩ := nI_of (Int32.not_lt.mpr c1)
    have k3 : k ≤ 3 := (nI_leI (b := 3) k1 (by decide)).mp (by rw [← k2]; exact c2)
    rw [k2]
    have e : ∀ j : Nat, j < 4 → (nI k = nI j ↔ k = j) := fun j hj => nI_eq (by omega) (by omega)
    have f : ∀ j : Nat, j < 4 → (if nI k = nI j ∧ h 361 n = -1 then 1 else 0) = (if k = j then (if h 361 n = -1 then 1 else 0) else 0 : Nat) := fun j hj => by
      by_cases q : k = j
      · rw [if_pos q]
        by_cases q2 : h 361 n = -1
        · rw [if_pos ⟨(e j hj).mpr q, q2⟩, if_pos q2]
        · rw [if_neg (fun z => q2 z.2), if_neg q2]
      · rw [if_neg q, if_neg (fun z => q ((e j hj).mp z.1))]
    rw [f 0 (by decide), f 1 (by decide), f 2 (by decide), f 3 (by decide)]
    rcases (show k = 0 ∨ k = 1 ∨ k = 2 ∨ k = 3 by omega) with rfl | rfl | rfl | rfl <;> simp <;> omega
def su_f (f : Nat → Int32) : Nat → Int32
  | 0 => 0
  | n + 1 => su_f f n + f (n + 1)
theorem su_c {f f' : Nat → Int32} : ∀ {n : Nat}, (∀ i, 1 ≤ i → i ≤ n → f i = f' i) → su_f f n = su_f f' n
  | 0, _ => rfl
  | n + 1, h => by
    show su_f f n + _ = su_f f' n + _
    rw [su_c (n := n) (fun i h1 h2 => h i h1 (by omega)), h (n + 1) (by omega) (Nat.le_refl _)]
section OC
variable {Γ : pv_C} {d kc ks : Nat} {ty : pv_T} {h : pv_H} {r : pv_R} {g : pv_G} {Q : pv_Q} {no ns : Nat} {x y z u : Int32}
def fo_open (h : pv_H) (x y z u : Int32) : Prop := (0 ≤ x ∧ x ≤ 3) ∧ fo_at h y z ∧ (1 ≤ u ∧ u ≤ 99)
theorem ct_X12_open (hd : 4 ≤ d) (hL : pv_Lay ty r) (hS : mStreets h ns) (hO : cpO ty h r no) : pv_CJ Γ d mX12_open [.ref 200, .int x, .int y, .int z, .int u] ty h r g (fun w h' => (¬ fo_open h x y z u → w = -1 ∧ h' = h) ∧ (fo_open h x y z u → (¬ on_f h y z no 0 = none → w = -2 ∧ h' = h) ∧ (on_f h y z no 0 = none → (no = 200 → w = -3 ∧ h' = h) ∧ (no < 200 → w = nI no ∧ h' = pv_up (pv_up (pv_up (pv_up (pv_up (pv_up (pv_up h 356 no x) 357 no y) 358 no z) 359 no (h 200 32)) 360 no u) 361 no (-1)) 200 55 (nI (no + 1)))))) := by
  have hn := hO.1.1
  refine pv_fn 1 pn_X12 rfl (Nat.le_of_ble_eq_true rfl) (sg_X12_open_0 _ _ _ _ (by omega) hL (pk_b (fun c1 => ⟨ni_b8 hS.2.1 hS.1, pk_b (fun c2 => pj_b (fun c3 => pv_CJ.mono (ct_X12_openNow hL hO) (fun w h1 q => ?_)) (fun c3 => pv_jqi ⟨fun _ => ⟨rfl, rfl⟩, fun q => absurd q.2.2 c3⟩)) (fun c2 => pv_jqi ⟨fun _ => ⟨rfl, rfl⟩, fun q => absurd q.2.1 c2⟩)⟩) (fun c1 => pv_jqi ⟨fun _ => ⟨rfl, rfl⟩, fun q => absurd q.1 c1⟩)))
  obtain ⟨rfl, rfl⟩ := q
  have hok : fo_open h1 x y z u := ⟨c1, c2, c3⟩
  cases hf : on_f h1 y z no 0 with
  | some i =>
    have hi := (on_f_s hf).2.1
    exact ⟨fun q => absurd q (nI_pos (by omega)), fun _ => pv_jqi ⟨fun q => absurd hok q, fun _ => ⟨fun _ => ⟨rfl, rfl⟩, fun q => by cases q⟩⟩⟩
  | none =>
    refine ⟨fun _ => pj_eq no 200 (fun c4 => pv_jqi ⟨fun q => absurd hok q, fun _ => ⟨fun q => absurd rfl q, fun _ => ⟨fun _ => ⟨rfl, rfl⟩, fun q => absurd q (by omega)⟩⟩⟩) (fun c4 => ?_) hO.1.2.1, fun q => absurd (by decide) q⟩
    rw [hO.1.2.1, nI_clamp (by omega)]
    have hi : vp_in (nI no) 200 := vp_in_nI (by omega) (by decide)
    refine ⟨hi, fun h2 e2 => ⟨hi, fun h3 e3 => ⟨hi, fun h4 e4 => ⟨hi, fun h5 e5 => ⟨hi, fun h6 e6 => ⟨hi, fun h7 e7 h8 e8 => ?_⟩⟩⟩⟩⟩⟩
    have a1 : h4 200 32 = h1 200 32 := by rw [e4, pv_up_a (by decide), e3, pv_up_a (by decide), e2, pv_up_a (by decide)]
    have a2 : h7 200 55 = nI no := by rw [e7, pv_up_a (by decide), e6, pv_up_a (by decide), e5, pv_up_a (by decide), e4, pv_up_a (by decide), e3, pv_up_a (by decide), e2, pv_up_a (by decide)]; exact hO.1.2.1
    rw [a2, nI_1] at e8
    rw [a1] at e5
    refine pv_jqi ⟨fun q => absurd hok q, fun _ => ⟨fun q => absurd rfl q, fun _ => ⟨fun q => absurd q c4, fun _ => ⟨rfl, ?_⟩⟩⟩⟩
    rw [e8, e7, e6, e5, e4, e3, e2]
/-- what open makes on the class's side -/
def op_c (no : Nat) (x y z u : Int32) (ty : pv_T) (h : pv_H) (r : pv_R) (g : pv_G) (ty' : pv_T) (h' : pv_H) (r' : pv_R) (g' : pv_G) : Prop := pv_Lay ty' r' ∧ ty' = pv_newT ty (oA no) 6 0 ∧ r' = pv_up (pv_new r (oA no) 0) 121 no (oA no) ∧ g' = pv_new g (oA no) 0 ∧ (∀ a j, a ≠ oA no → ¬ (a = 100 ∧ j = 12) → h' a j = h a j) ∧ h' 100 12 = nI (no + 1) ∧ h' (oA no) 0 = x ∧ h' (oA no) 1 = y ∧ h' (oA no) 2 = z ∧ h' (oA no) 3 = h 100 9 ∧ h' (oA no) 4 = u ∧ h' (oA no) 5 = -1
theorem pv_lay_121 : ∀ q ∈ pv_layR, q.1 ≠ 121 := by decide +kernel
theorem ct_X11_open (hd : 3 ≤ d) (hL : pv_Lay ty r) (hS : cpS ty h r ns) (hO : cpO ty h r no) (hfr : no < 200 → ty (oA no) = none) {k : pv_Q} (h1 : ¬ fo_open h x y z u → k (some (.int (-1))) ty h r g) (h2 : fo_open h x y z u → ¬ on_f h y z no 0 = none → k (some (.int (-2))) ty h r g) (h3 : fo_open h x y z u → on_f h y z no 0 = none → no = 200 → k (some (.int (-3))) ty h r g) (h4 : fo_open h x y z u → on_f h y z no 0 = none → no < 200 → ∀ ty' h' r' g', op_c no x y z u ty h r g ty' h' r' g' → k (some (.int (nI no))) ty' h' r' g') : pv_CT Γ d 1 6 mX11_open [.ref 100, .int x, .int y, .int z, .int u] ty h r g k := by
  have hn := hO.1.1
  refine pv_fn 0 pn_X11 rfl (Nat.le_of_ble_eq_true rfl) (sg_X11_open_0 _ _ _ _ (by omega) hL (pk_b (fun c1 => ⟨⟨ns, hS⟩, pk_b (fun c2 => pj_b (fun c3 => pv_CJ.mono (ct_X11_openNow (by omega) hL hO) (fun w i1 q => ?_)) (fun c3 => h1 (fun q => c3 q.2.2))) (fun c2 => h1 (fun q => c2 q.2.1))⟩) (fun c1 => h1 (fun q => c1 q.1))))
  obtain ⟨rfl, rfl⟩ := q
  have hok : fo_open i1 x y z u := ⟨c1, c2, c3⟩
  cases hf : on_f i1 y z no 0 with
  | some i =>
    have hi := (on_f_s hf).2.1
    exact ⟨fun q => absurd q (ni_n1 (by omega)), fun _ => h2 hok (by rw [hf]; exact fun q => by cases q)⟩
  | none =>
    have hA : 4000 ≤ oA no := by unfold oA; omega
    refine ⟨fun _ => pk_lt no 200 (fun c4 => ?_) (fun c4 => h3 hok hf (by omega)) hO.1.2.2, fun q => absurd rfl q⟩
    refine ⟨oA no, by omega, hfr c4, Nat.le_refl _, Nat.le_refl _, fun ty1 h2' r1 g1 e1 e2 e3 e4 => ?_⟩
    have hL1 : pv_Lay ty1 r1 := by rw [e1, e3]; exact pv_Lay_new hL (by omega)
    have ht : ty1 (oA no) = some (6, 0) := by rw [e1]; simp [pv_newT]
    have e9 : h2' 100 9 = i1 100 9 := by rw [e2, pv_new, if_neg (by omega)]
    refine ⟨hL1, ht, pv_fn 0 pn_X6 rfl (Nat.le_of_ble_eq_true rfl) (sg_X6_init_0 (oA no) _ _ _ _ _ (by omega) ⟨by omega, ht, fun a1 f1 => ⟨ht, fun a2 f2 => ⟨ht, fun a3 f3 => ⟨ht, fun a4 f4 => ⟨ht, fun a5 f5 => ⟨ht, fun a6 f6 => ⟨rfl, hL1, ?_⟩⟩⟩⟩⟩⟩⟩)⟩
    rw [hO.1.2.2, nI_clamp (by omega)]
    have hL3 : pv_Lay ty1 (pv_up r1 121 no (oA no)) := pv_Lay_up hL1 (fun q hq z => pv_lay_121 q hq z.1)
    refine ⟨vp_in_nI (by omega) (by decide), ht, fun r3 e5 => ⟨by rw [e5]; exact hL3, fun h4' e6 => ?_⟩⟩
    have b1 : ∀ a j, a ≠ oA no → a6 a j = i1 a j := fun a j ha => by rw [f6, pv_up_a ha, f5, pv_up_a ha, f4, pv_up_a ha, f3, pv_up_a ha, f2, pv_up_a ha, f1, pv_up_a ha, e2, pv_new, if_neg ha]
    have b2 : a6 100 12 = nI no := by rw [b1 100 12 (by omega)]; exact hO.1.2.2
    rw [b2, nI_1] at e6
    have b3 : h4' 100 12 = nI (no + 1) := by rw [e6, pv_up_same]
    rw [b3, nI_pred]
    refine h4 hok hf c4 _ _ _ _ ⟨by rw [e5]; exact hL3, e1, by rw [e5, e3], e4, fun a j ha hb => ?_, b3, ?_, ?_, ?_, ?_, ?_, ?_⟩
    · rw [e6, pv_up, if_neg hb]; exact b1 a j ha
    · rw [e6, pv_up_a (by omega), f6, pv_up_j (by decide), f5, pv_up_j (by decide), f4, pv_up_j (by decide), f3, pv_up_j (by decide), f2, pv_up_j (by decide), f1, pv_up_same]
    · rw [e6, pv_up_a (by omega), f6, pv_up_j (by decide), f5, pv_up_j (by decide), f4, pv_up_j (by decide), f3, pv_up_j (by decide), f2, pv_up_same]
    · rw [e6, pv_up_a (by omega), f6, pv_up_j (by decide), f5, pv_up_j (by decide), f4, pv_up_j (by decide), f3, pv_up_same]
    · rw [e6, pv_up_a (by omega), f6, pv_up_j (by decide), f5, pv_up_j (by decide), f4, pv_up_same]; exact e9
    · rw [e6, pv_up_a (by omega), f6, pv_up_j (by decide), f5, pv_up_same]
    · rw [e6, pv_up_a (by omega), f6, pv_up_same]
theorem co_c4 (hd : 1 ≤ d) (hL : pv_Lay ty r) (hO : cpO ty h r no) (hQ : Q (some (.int (nI (co_n h x no)))) ty h r g) : ∀ (m k : Nat), k + m = no → pv_E Γ d kc ks mX11_countOpen 4 [some (.ref 100), some (.int x), some (.int (nI (co_n h x k))), some (.int (nI k)), none] [] ty h r g Q := by
  have hn := hO.1.1
  intro m
  induction m with
  | zero =>
    intro k hk
    rw [show k = no by omega]
    exact sg_X11_countOpen_4 _ _ _ hd hL (pk_le no no (fun _ => hQ) (fun c => absurd c (by omega)) hO.1.2.2)
  | succ m ih =>
    intro k hk
    have hi' := ih (k + 1) (by omega)
    have hu : co_n h x (k + 1) = co_n h x k + (if h 356 k = x ∧ h 361 k = -1 then 1 else 0) := rfl
    rw [hu] at hi'
    obtain ⟨a1, a2, a3, -⟩ := hO.2 k (by omega)
    refine sg_X11_countOpen_4 _ _ _ hd hL (pk_le no k (fun c => absurd c (by omega)) (fun _ => ⟨vp_in_nI (by omega) (by decide), ?_⟩) hO.1.2.2)
    rw [nI_clamp (by omega), a1, a3 0 (by decide), a3 5 (by decide), nI_1, nI_1]
    refine ⟨fun q => absurd q (oA_ne k), fun _ => ⟨a2, fun c1 => ?_, fun c1 => ⟨a2, a2, pk_b (fun c2 => ?_) (fun c2 => ?_)⟩⟩⟩
    · rw [if_neg (fun q => c1 q.1)] at hi'; exact hi'
    · rw [if_pos ⟨c1, c2⟩] at hi'; exact hi'
    · rw [if_neg (fun q => c2 q.2)] at hi'; exact hi'
theorem ct_X11_countOpen (hd : 1 ≤ d) (hL : pv_Lay ty r) (hO : cpO ty h r no) : pv_CJ Γ d mX11_countOpen [.ref 100, .int x] ty h r g (fun w h' => w = nI (co_n h x no) ∧ h' = h) :=
  pv_fn 3 pn_X11 rfl (Nat.le_of_ble_eq_true rfl) (sg_X11_countOpen_0 _ (co_c4 hd hL hO (pv_jqi ⟨rfl, rfl⟩) no 0 (Nat.zero_add _)))
theorem ct_X11_countAll (hd : 2 ≤ d) (hL : pv_Lay ty r) (hO : cpO ty h r no) : pv_CJ Γ d mX11_countAllOpen [.ref 100] ty h r g (fun w h' => w = nI (co_a h no) ∧ h' = h) := by
  have step : ∀ (Q : pv_Q) (v k : Nat), k ≤ 3 → (∀ h1, h1 = h → pv_E Γ d 0 0 mX11_countAllOpen 4 [some (.ref 100), some (.int (nI (v + co_n h (nI k) no))), some (.int (nI (k + 1)))] [] ty h1 r g Q) → pv_E Γ d 0 0 mX11_countAllOpen 4 [some (.ref 100), some (.int (nI v)), some (.int (nI k))] [] ty h r g Q := fun Q v k hk hE => by
    refine sg_X11_countAllOpen_4 _ _ (by omega) hL (pk_lt 3 k (fun c => absurd c (by omega)) (fun _ => pv_CJ.mono (ct_X11_countOpen (by omega) hL hO) (fun w h1 q => ?_)))
    obtain ⟨rfl, e⟩ := q
    rw [nI_add, nI_1]
    exact hE h1 e
  refine pv_fn 2 pn_X11 rfl (Nat.le_of_ble_eq_true rfl) (sg_X11_countAllOpen_0 ?_)
  refine step _ 0 0 (by decide) (fun h1 e1 => ?_)
  subst e1
  refine step _ _ 1 (by decide) (fun h1 e1 => ?_)
  subst e1
  refine step _ _ 2 (by decide) (fun h1 e1 => ?_)
  subst e1
  refine step _ _ 3 (by decide) (fun h1 e1 => ?_)
  subst e1
  refine sg_X11_countAllOpen_4 _ _ (by omega) hL (pk_lt 3 4 (fun _ => pv_jqi ⟨?_, rfl⟩) (fun c => absurd c (by omega)))
  rw [← co_sum (n := no) (fun i hi => (hO.2 i hi).2.2.2.1), Nat.zero_add]
theorem su_c4 (hL : pv_Lay ty r) (hQ : Q (some (.int (su_f (h 51) 9))) ty h r g) : ∀ (m k : Nat), k + m = 9 → pv_E Γ d kc ks mX10_countAll 4 [some (.ref 50), some (.int (su_f (h 51) k)), some (.int (nI (k + 1)))] [] ty h r g Q := by
  intro m
  induction m with
  | zero =>
    intro k hk
    rw [show k = 9 by omega]
    exact sg_X10_countAll_4 _ _ hL (pk_lt 9 10 (fun _ => hQ) (fun c => absurd c (by omega)))
  | succ m ih =>
    intro k hk
    refine sg_X10_countAll_4 _ _ hL (pk_lt 9 (k + 1) (fun c => absurd c (by omega)) (fun _ => ⟨vp_in_nI (by omega) (by decide), ?_⟩))
    rw [nI_clamp (by omega), nI_1]
    exact ih (k + 1) (by omega)
theorem su_m124 (hL : pv_Lay ty r) (hQ : Q (some (.int (su_f (h 314) 9))) ty h r g) : ∀ (m k : Nat), k + m = 9 → pv_E Γ d kc ks mX12_count 124 [some (.ref 200), none, some (.int (su_f (h 314) k)), some (.int (nI (k + 1)))] [] ty h r g Q := by
  intro m
  induction m with
  | zero =>
    intro k hk
    rw [show k = 9 by omega]
    exact sg_X12_count_124 _ _ hL (pk_lt 9 10 (fun _ => hQ) (fun c => absurd c (by omega)))
  | succ m ih =>
    intro k hk
    refine sg_X12_count_124 _ _ hL (pk_lt 9 (k + 1) (fun c => absurd c (by omega)) (fun _ => ⟨vp_in_nI (by omega) (by decide), ?_⟩))
    rw [nI_clamp (by omega), nI_1]
    exact ih (k + 1) (by omega)
theorem co_m74 (hL : pv_Lay ty r) (hO : cpO ty h r no) (hQ : Q (some (.int (nI (co_a h no)))) ty h r g) : ∀ (m k : Nat), k + m = no → pv_E Γ d kc ks mX12_count 74 [some (.ref 200), none, some (.int (nI (co_a h k))), some (.int (nI k))] [] ty h r g Q := by
  have hn := hO.1.1
  intro m
  induction m with
  | zero =>
    intro k hk
    rw [show k = no by omega]
    exact sg_X12_count_74 _ _ hL (pk_le no no (fun _ => hQ) (fun c => absurd c (by omega)) hO.1.2.1)
  | succ m ih =>
    intro k hk
    have hi' := ih (k + 1) (by omega)
    have hu : co_a h (k + 1) = co_a h k + (if h 361 k = -1 then 1 else 0) := rfl
    rw [hu] at hi'
    have hb := op_b (hO.2 k (by omega)).2.2.2
    refine sg_X12_count_74 _ _ hL (pk_le no k (fun c => absurd c (by omega)) (fun _ => ⟨vp_in_nI (by omega) (by decide), ?_⟩) hO.1.2.1)
    rw [nI_clamp (by omega), nI_1, nI_1, show (0 : Int32) = nI 0 from rfl, nI_add]
    refine ⟨fun c => ?_, fun c => ?_⟩
    · rw [if_neg (hb.mp c)] at hi'; exact hi'
    · rw [if_pos (Classical.not_not.mp (fun q => c (hb.mpr q)))] at hi'; exact hi'
def fn_count (h : pv_H) (no : Nat) (x : Int32) : Int32 := if x = 0 then h 200 1 else if x = 1 then h 200 33 else if x = 2 then h 200 41 else if x = 3 then h 200 55 else if x = 4 then nI (co_a h no) else if x = 5 then h 200 32 else if x = 6 then h 200 19 else if x = 7 then h 200 40 else if x = 8 then su_f (h 314) 9 else -1
theorem ct_X12_count (hL : pv_Lay ty r) (hO : cpO ty h r no) : pv_CJ Γ d mX12_count [.ref 200, .int x] ty h r g (fun w h' => w = fn_count h no x ∧ h' = h) := by
  refine pv_fn 2 pn_X12 rfl (Nat.le_of_ble_eq_true rfl) (sg_X12_count_0 _ hL ⟨fun c => pv_jqi ⟨?_, rfl⟩, fun c => pv_jqi ⟨?_, rfl⟩, fun c => pv_jqi ⟨?_, rfl⟩, fun c => pv_jqi ⟨?_, rfl⟩, fun c => co_m74 hL hO (pv_jqi ⟨?_, rfl⟩) no 0 (Nat.zero_add _), fun c => pv_jqi ⟨?_, rfl⟩, fun c => pv_jqi ⟨?_, rfl⟩, fun c => pv_jqi ⟨?_, rfl⟩, fun c => su_m124 hL (pv_jqi ⟨?_, rfl⟩) 9 0 rfl, fun b0 b1 b2 b3 b4 b5 b6 b7 b8 => pv_jqi ⟨?_, rfl⟩⟩)
  · rw [c]; rfl
  · rw [c]; rfl
  · rw [c]; rfl
  · rw [c]; rfl
  · rw [c]; rfl
  · rw [c]; rfl
  · rw [c]; rfl
  · unfold fn_count; rw [if_neg b0, if_neg b1, if_neg b2, if_neg b3, if_neg b4, if_neg b5, if_neg b6, if_neg b7, if_neg b8]
  · rw [c]; rfl
  · rw [c]; rfl
theorem ct_X11_count (hd : 3 ≤ d) (hL : pv_Lay ty r) (hO : cpO ty h r no) (e1 : h 100 1 = h 200 1) (e2 : h 100 8 = h 200 33) (e3 : h 70 4 = h 200 41) (e4 : h 100 9 = h 200 32) (e5 : h 100 5 = h 200 19) (e6 : h 70 3 = h 200 40) (e7 : ∀ i, 1 ≤ i → i ≤ 9 → h 51 i = h 314 i) : pv_CJ Γ d mX11_count [.ref 100, .int x] ty h r g (fun w h' => w = fn_count h no x ∧ h' = h) := by
  have e8 : h 100 12 = h 200 55 := hO.1.2.2.trans hO.1.2.1.symm
  refine pv_fn 0 pn_X11 rfl (Nat.le_of_ble_eq_true rfl) (sg_X11_count_0 _ (by omega) hL ⟨fun c => pv_jqi ⟨?_, rfl⟩, fun c => pv_jqi ⟨?_, rfl⟩, fun c => pv_jqi ⟨?_, rfl⟩, fun c => pv_jqi ⟨?_, rfl⟩, fun c => pv_CJ.mono (ct_X11_countAll (by omega) hL hO) (fun w h1 q => pv_jqi ?_), fun c => pv_jqi ⟨?_, rfl⟩, fun c => pv_jqi ⟨?_, rfl⟩, fun c => pv_jqi ⟨?_, rfl⟩, fun c => pv_fn 2 pn_X10 rfl (Nat.le_of_ble_eq_true rfl) (sg_X10_countAll_0 (su_c4 hL (pv_jqi (pv_jqi ⟨?_, rfl⟩)) 9 0 rfl)), fun b0 b1 b2 b3 b4 b5 b6 b7 b8 => pv_jqi ⟨?_, rfl⟩⟩)
  · rw [c, e1]; rfl
  · rw [c, e2]; rfl
  · rw [c, e3]; rfl
  · rw [c, e8]; rfl
  · rw [c]; exact q
  · rw [c, e4]; rfl
  · rw [c, e5]; rfl
  · rw [c, e6]; rfl
  · unfold fn_count; rw [if_neg b0, if_neg b1, if_neg b2, if_neg b3, if_neg b4, if_neg b5, if_neg b6, if_neg b7, if_neg b8]
  · rw [c, su_c e7]; rfl
end OC
