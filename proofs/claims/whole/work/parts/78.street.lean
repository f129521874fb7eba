/-! street, the class -/
set_option maxRecDepth 20000 in
set_option maxHeartbeats 4000000 in
theorem sg_X8_init_0 {Γ : pv_C} {d kc ks : Nat} {ty : pv_T} {h : pv_H} {r : pv_R} {g : pv_G} {Q : pv_Q} (a : Nat) (x : Int32) (y : Int32) (z : Int32) (hd : 1 ≤ d) (F : a ≠ 0 ∧ ty a = some (8, 0) ∧ (∀ h1 : pv_H, h1 = pv_up h a 0 x → ty a = some (8, 0) ∧ (∀ h2 : pv_H, h2 = pv_up h1 a 1 y → (∃ nm1 n1 : Nat, ¬ (x * y) < 0 ∧ Int32.toNatClampNeg (x * y) = n1 ∧ n1 ≤ 1000000 ∧ 10 ≤ nm1 ∧ ty nm1 = none ∧ 1 ≤ kc ∧ n1 ≤ ks ∧ (∀ (ty1 : pv_T) (h3 : pv_H) (r1 : pv_R) (g1 : pv_G), ty1 = pv_newT ty nm1 20 n1 → h3 = pv_new h2 nm1 0 → r1 = pv_new r nm1 0 → g1 = pv_new g nm1 0 → pv_Lay ty1 r1 ∧ ty1 a = some (8, 0) ∧ (∀ r2 : pv_R, r2 = pv_up r1 a 2 nm1 → pv_Lay ty1 r2 ∧ ty1 a = some (8, 0) ∧ pv_CW Γ (d - 1) mJ7_fill_53178 [.ref (r2 a 2), .int z] ty1 h3 r2 g1 (fun (h4 : pv_H) => (∃ nm2 n2 : Nat, ¬ (x * y) < 0 ∧ Int32.toNatClampNeg (x * y) = n2 ∧ n2 ≤ 1000000 ∧ 10 ≤ nm2 ∧ ty1 nm2 = none ∧ 1 ≤ (kc - 1) ∧ n2 ≤ (ks - n1) ∧ (∀ (ty2 : pv_T) (h5 : pv_H) (r3 : pv_R) (g2 : pv_G), ty2 = pv_newT ty1 nm2 20 n2 → h5 = pv_new h4 nm2 0 → r3 = pv_new r2 nm2 0 → g2 = pv_new g1 nm2 0 → pv_Lay ty2 r3 ∧ ty2 a = some (8, 0) ∧ (∀ r4 : pv_R, r4 = pv_up r3 a 3 nm2 → pv_Lay ty2 r4 ∧ (∃ nm3 n3 : Nat, ¬ (31 : Int32) < 0 ∧ Int32.toNatClampNeg 31 = n3 ∧ n3 ≤ 1000000 ∧ 10 ≤ nm3 ∧ ty2 nm3 = none ∧ 1 ≤ ((kc - 1) - 1) ∧ n3 ≤ ((ks - n1) - n2) ∧ (∀ (ty3 : pv_T) (h6 : pv_H) (r5 : pv_R) (g3 : pv_G), ty3 = pv_newT ty2 nm3 20 n3 → h6 = pv_new h5 nm3 0 → r5 = pv_new r4 nm3 0 → g3 = pv_new g2 nm3 0 → pv_Lay ty3 r5 ∧ ty3 a = some (8, 0) ∧ (∀ r6 : pv_R, r6 = pv_up r5 a 4 nm3 → pv_Lay ty3 r6 ∧ ty3 a = some (8, 0) ∧ pv_CW Γ (d - 1) mJ7_fill_53178 [.ref (r6 a 4), .int (-1)] ty3 h6 r6 g3 (fun (h7 : pv_H) => Q none ty3 h7 r6 g3)))))))))))))) : pv_E Γ d kc ks mX8_init 0 [some (.ref a), some (.int x), some (.int y), some (.int z)] [] ty h r g Q := by
  refine pv_aload_n dX8_init_0 rfl ?_
  obtain ⟨q1, F⟩ := F
  refine pv_objI dX8_init_1 ml_X8_3 obj_i obj_c q1 (by omega) (Nat.le_of_ble_eq_true rfl) ?_
  refine pv_aload_n dX8_init_4 rfl ?_
  refine pv_iload_n dX8_init_5 rfl ?_
  obtain ⟨q2, F⟩ := F
  obtain ⟨h1, eh1⟩ : ∃ h1 : pv_H, h1 = pv_up h a 0 x := ⟨_, rfl⟩
  have F := F h1 eh1
  refine pv_putI 8 0 dX8_init_6 fl_X8_9 ⟨_, rfl, Or.inr ⟨rfl, rfl, rfl⟩⟩ (Or.inl rfl) q2 ?_
  refine pv_hE eh1 ?_
  refine pv_aload_n dX8_init_9 rfl ?_
  refine pv_iload_n dX8_init_10 rfl ?_
  obtain ⟨q3, F⟩ := F
  obtain ⟨h2, eh2⟩ : ∃ h2 : pv_H, h2 = pv_up h1 a 1 y := ⟨_, rfl⟩
  have F := F h2 eh2
  refine pv_putI 8 1 dX8_init_11 fl_X8_15 ⟨_, rfl, Or.inr ⟨rfl, rfl, rfl⟩⟩ (Or.inl rfl) q3 ?_
  refine pv_hE eh2 ?_
  refine pv_aload_n dX8_init_14 rfl ?_
  refine pv_iload_n dX8_init_15 rfl ?_
  refine pv_iload_n dX8_init_16 rfl ?_
  refine pv_imul dX8_init_17 ?_
  obtain ⟨nm1, n1, q4n, q4N, q4m, q4a, q4b, q4c, q4d, F⟩ := F
  obtain ⟨ty1, ety1⟩ : ∃ ty1 : pv_T, ty1 = pv_newT ty nm1 20 n1 := ⟨_, rfl⟩
  obtain ⟨h3, eh3⟩ : ∃ h3 : pv_H, h3 = pv_new h2 nm1 0 := ⟨_, rfl⟩
  obtain ⟨r1, er1⟩ : ∃ r1 : pv_R, r1 = pv_new r nm1 0 := ⟨_, rfl⟩
  obtain ⟨g1, eg1⟩ : ∃ g1 : pv_G, g1 = pv_new g nm1 0 := ⟨_, rfl⟩
  have F := F ty1 h3 r1 g1 ety1 eh3 er1 eg1
  refine pv_newA nm1 20 n1 dX8_init_18 rfl (by decide) ac_int q4n q4N q4m q4a q4b q4c q4d ?_
  refine pv_nE ety1 eh3 er1 eg1 ?_
  obtain ⟨hL1, F⟩ := F
  obtain ⟨q5, F⟩ := F
  obtain ⟨r2, er2⟩ : ∃ r2 : pv_R, r2 = pv_up r1 a 2 nm1 := ⟨_, rfl⟩
  have F := F r2 er2
  refine pv_putR 8 2 dX8_init_20 fl_X8_18 ⟨_, rfl, Or.inr ⟨rfl, rfl, rfl⟩⟩ rfl q5 ?_
  refine pv_rE er2 ?_
  obtain ⟨hL2, F⟩ := F
  refine pv_aload_n dX8_init_23 rfl ?_
  obtain ⟨q6, F⟩ := F
  refine pv_getR 8 2 dX8_init_24 fl_X8_18 rfl q6 ?_
  refine pv_iload_n dX8_init_27 rfl ?_
  refine pv_invS (As := [.ref (r2 a 2), .int z]) (d' := d - 1) dX8_init_28 moJ7_fill_53178 ml_X8_22 (Nat.le_of_ble_eq_true rfl) (by omega) (Nat.zero_le _) (Nat.zero_le _) F (fun v ty' h4 r' g' hq => ?_) rfl
  obtain ⟨e2, e4, e5, e1, F⟩ := hq
  rw [e1, e2, e4, e5]
  refine pv_pc (pc' := 31) rfl ?_
  show pv_E Γ d (kc - 1) (ks - n1) mX8_init 31 [some (.ref a), some (.int x), some (.int y), some (.int z)] [] ty1 h4 r2 g1 Q
  refine pv_aload_n dX8_init_31 rfl ?_
  refine pv_iload_n dX8_init_32 rfl ?_
  refine pv_iload_n dX8_init_33 rfl ?_
  refine pv_imul dX8_init_34 ?_
  obtain ⟨nm2, n2, q7n, q7N, q7m, q7a, q7b, q7c, q7d, F⟩ := F
  obtain ⟨ty2, ety2⟩ : ∃ ty2 : pv_T, ty2 = pv_newT ty1 nm2 20 n2 := ⟨_, rfl⟩
  obtain ⟨h5, eh5⟩ : ∃ h5 : pv_H, h5 = pv_new h4 nm2 0 := ⟨_, rfl⟩
  obtain ⟨r3, er3⟩ : ∃ r3 : pv_R, r3 = pv_new r2 nm2 0 := ⟨_, rfl⟩
  obtain ⟨g2, eg2⟩ : ∃ g2 : pv_G, g2 = pv_new g1 nm2 0 := ⟨_, rfl⟩
  have F := F ty2 h5 r3 g2 ety2 eh5 er3 eg2
  refine pv_newA nm2 20 n2 dX8_init_35 rfl (by decide) ac_int q7n q7N q7m q7a q7b q7c q7d ?_
  refine pv_nE ety2 eh5 er3 eg2 ?_
  obtain ⟨hL3, F⟩ := F
  obtain ⟨q8, F⟩ := F
  obtain ⟨r4, er4⟩ : ∃ r4 : pv_R, r4 = pv_up r3 a 3 nm2 := ⟨_, rfl⟩
  have F := F r4 er4
  refine pv_putR 8 3 dX8_init_37 fl_X8_28 ⟨_, rfl, Or.inr ⟨rfl, rfl, rfl⟩⟩ rfl q8 ?_
  refine pv_rE er4 ?_
  obtain ⟨hL4, F⟩ := F
  refine pv_aload_n dX8_init_40 rfl ?_
  refine pv_bipush (v := 31) (by decide) dX8_init_41 ?_
  obtain ⟨nm3, n3, q9n, q9N, q9m, q9a, q9b, q9c, q9d, F⟩ := F
  obtain ⟨ty3, ety3⟩ : ∃ ty3 : pv_T, ty3 = pv_newT ty2 nm3 20 n3 := ⟨_, rfl⟩
  obtain ⟨h6, eh6⟩ : ∃ h6 : pv_H, h6 = pv_new h5 nm3 0 := ⟨_, rfl⟩
  obtain ⟨r5, er5⟩ : ∃ r5 : pv_R, r5 = pv_new r4 nm3 0 := ⟨_, rfl⟩
  obtain ⟨g3, eg3⟩ : ∃ g3 : pv_G, g3 = pv_new g2 nm3 0 := ⟨_, rfl⟩
  have F := F ty3 h6 r5 g3 ety3 eh6 er5 eg3
  refine pv_newA nm3 20 n3 dX8_init_43 rfl (by decide) ac_int q9n q9N q9m q9a q9b q9c q9d ?_
  refine pv_nE ety3 eh6 er5 eg3 ?_
  obtain ⟨hL5, F⟩ := F
  obtain ⟨q10, F⟩ := F
  obtain ⟨r6, er6⟩ : ∃ r6 : pv_R, r6 = pv_up r5 a 4 nm3 := ⟨_, rfl⟩
  have F := F r6 er6
  refine pv_putR 8 4 dX8_init_45 fl_X8_31 ⟨_, rfl, Or.inr ⟨rfl, rfl, rfl⟩⟩ rfl q10 ?_
  refine pv_rE er6 ?_
  obtain ⟨hL6, F⟩ := F
  refine pv_aload_n dX8_init_48 rfl ?_
  obtain ⟨q11, F⟩ := F
  refine pv_getR 8 4 dX8_init_49 fl_X8_31 rfl q11 ?_
  refine pv_iconst (v := (-1)) (by decide) dX8_init_52 ?_
  refine pv_invS (As := [.ref (r6 a 4), .int (-1)]) (d' := d - 1) dX8_init_53 moJ7_fill_53178 ml_X8_22 (Nat.le_of_ble_eq_true rfl) (by omega) (Nat.zero_le _) (Nat.zero_le _) F (fun v ty' h7 r' g' hq => ?_) rfl
  obtain ⟨e2, e4, e5, e1, F⟩ := hq
  rw [e1, e2, e4, e5]
  refine pv_pc (pc' := 56) rfl ?_
  show pv_E Γ d (((kc - 1) - 1) - 1) (((ks - n1) - n2) - n3) mX8_init 56 [some (.ref a), some (.int x), some (.int y), some (.int z)] [] ty3 h7 r6 g3 Q
  exact pv_return dX8_init_56 rfl F
set_option maxRecDepth 20000 in
set_option maxHeartbeats 4000000 in
theorem sg_X11_street_0 {Γ : pv_C} {d kc ks : Nat} {ty : pv_T} {h : pv_H} {r : pv_R} {g : pv_G} {Q : pv_Q} (x : Int32) (y : Int32) (z : Int32) (hd : 1 ≤ d) (hL : pv_Lay ty r) (F : (((pf_b (1 ≤ x ∧ x ≤ 16)) = 0 → Q (some (.int (-1))) ty h r g) ∧ (¬ (pf_b (1 ≤ x ∧ x ≤ 16)) = 0 → (((pf_b (1 ≤ y ∧ y ≤ 9)) = 0 → Q (some (.int (-1))) ty h r g) ∧ (¬ (pf_b (1 ≤ y ∧ y ≤ 9)) = 0 → ((¬ (pf_b (0 ≤ z ∧ z ≤ 99)) = 0 → (((h 100 1) < 8 → (∃ nm1 : Nat, 10 ≤ nm1 ∧ ty nm1 = none ∧ 1 ≤ kc ∧ 9 ≤ ks ∧ (∀ (ty1 : pv_T) (h1 : pv_H) (r1 : pv_R) (g1 : pv_G), ty1 = pv_newT ty nm1 8 0 → h1 = pv_new h nm1 0 → r1 = pv_new r nm1 0 → g1 = pv_new g nm1 0 → pv_Lay ty1 r1 ∧ ty1 nm1 = some (8, 0) ∧ 3 ≤ (kc - 1) ∧ 319 ≤ (ks - 9) ∧ pv_CT Γ (d - 1) 3 319 mX8_init [.ref nm1, .int x, .int y, .int z] ty1 h1 r1 g1 (fun (v1 : Option Value) (ty2 : pv_T) (h2 : pv_H) (r2 : pv_R) (g2 : pv_G) => v1 = none ∧ pv_Lay ty2 r2 ∧ vp_in (h 100 1) 8 ∧ ty2 nm1 = some (8, 0) ∧ (∀ r3 : pv_R, r3 = pv_up r2 110 (Int32.toNatClampNeg (h 100 1)) nm1 → pv_Lay ty2 r3 ∧ (∀ h3 : pv_H, h3 = pv_up h2 100 1 ((h2 100 1) + 1) → Q (some (.int ((h3 100 1) - 1))) ty2 h3 r3 g2)))))) ∧ (¬ (h 100 1) < 8 → Q (some (.int (-3))) ty h r g))) ∧ ((pf_b (0 ≤ z ∧ z ≤ 99)) = 0 → Q (some (.int (-1))) ty h r g))))))) : pv_E Γ d kc ks mX11_street 0 [some (.ref 100), some (.int x), some (.int y), some (.int z)] [] ty h r g Q := by
  refine pv_iload_n dX11_street_0 rfl ?_
  refine pv_iconst (v := 1) (by decide) dX11_street_1 ?_
  refine pv_bipush (v := 16) (by decide) dX11_street_2 ?_
  refine pv_invS (As := [.int x, .int 1, .int 16]) (d' := d - 1) dX11_street_4 moX11_within ml_X11_69 (Nat.le_of_ble_eq_true rfl) (by omega) (Nat.zero_le _) (Nat.zero_le _) (ct_X11_within (by omega)) (fun v ty' h' r' g' hq => ?_) rfl
  obtain ⟨e1, e2, e3, e4, e5⟩ := hq
  rw [e1, e2, e3, e4, e5]
  refine pv_pc (pc' := 7) rfl ?_
  show pv_E Γ d kc ks mX11_street 7 [some (.ref 100), some (.int x), some (.int y), some (.int z)] [.int (pf_b (1 ≤ x ∧ x ≤ 16))] ty h r g Q
  refine pv_if_eq (tgt := 30) dX11_street_7 (by decide) (fun c1 => ?_) (fun c1 => ?_)
  · have F := F.1 c1
    refine pv_iconst (v := (-1)) (by decide) dX11_street_30 ?_
    exact pv_ireturn dX11_street_31 rfl rfl F
  · have F := F.2 c1
    refine pv_iload_n dX11_street_10 rfl ?_
    refine pv_iconst (v := 1) (by decide) dX11_street_11 ?_
    refine pv_bipush (v := 9) (by decide) dX11_street_12 ?_
    refine pv_invS (As := [.int y, .int 1, .int 9]) (d' := d - 1) dX11_street_14 moX11_within ml_X11_69 (Nat.le_of_ble_eq_true rfl) (by omega) (Nat.zero_le _) (Nat.zero_le _) (ct_X11_within (by omega)) (fun v ty' h' r' g' hq => ?_) rfl
    obtain ⟨e1, e2, e3, e4, e5⟩ := hq
    rw [e1, e2, e3, e4, e5]
    refine pv_pc (pc' := 17) rfl ?_
    show pv_E Γ d kc ks mX11_street 17 [some (.ref 100), some (.int x), some (.int y), some (.int z)] [.int (pf_b (1 ≤ y ∧ y ≤ 9))] ty h r g Q
    refine pv_if_eq (tgt := 30) dX11_street_17 (by decide) (fun c2 => ?_) (fun c2 => ?_)
    · have F := F.1 c2
      refine pv_iconst (v := (-1)) (by decide) dX11_street_30 ?_
      exact pv_ireturn dX11_street_31 rfl rfl F
    · have F := F.2 c2
      refine pv_iload_n dX11_street_20 rfl ?_
      refine pv_iconst (v := 0) (by decide) dX11_street_21 ?_
      refine pv_bipush (v := 99) (by decide) dX11_street_22 ?_
      refine pv_invS (As := [.int z, .int 0, .int 99]) (d' := d - 1) dX11_street_24 moX11_within ml_X11_69 (Nat.le_of_ble_eq_true rfl) (by omega) (Nat.zero_le _) (Nat.zero_le _) (ct_X11_within (by omega)) (fun v ty' h' r' g' hq => ?_) rfl
      obtain ⟨e1, e2, e3, e4, e5⟩ := hq
      rw [e1, e2, e3, e4, e5]
      refine pv_pc (pc' := 27) rfl ?_
      show pv_E Γ d kc ks mX11_street 27 [some (.ref 100), some (.int x), some (.int y), some (.int z)] [.int (pf_b (0 ≤ z ∧ z ≤ 99))] ty h r g Q
      refine pv_if_ne (tgt := 32) dX11_street_27 (by decide) (fun c3 => ?_) (fun c3 => ?_)
      · have F := F.1 c3
        refine pv_aload_n dX11_street_32 rfl ?_
        refine pv_getI 11 1 dX11_street_33 fl_X11_73 rfl (lt_100 hL) ?_
        refine pv_bipush (v := 8) (by decide) dX11_street_36 ?_
        refine pv_icmp_lt (tgt := 44) dX11_street_38 (by decide) (fun c4 => ?_) (fun c4 => ?_)
        · have F := F.1 c4
          refine pv_aload_n dX11_street_44 rfl ?_
          refine pv_getRk 11 0 dX11_street_45 fl_X11_11 rfl (lt_100 hL) (lr_100_0 hL) ?_
          refine pv_aload_n dX11_street_48 rfl ?_
          refine pv_getI 11 1 dX11_street_49 fl_X11_73 rfl (lt_100 hL) ?_
          obtain ⟨nm1, q1a, q1b, q1c, q1d, F⟩ := F
          obtain ⟨ty1, ety1⟩ : ∃ ty1 : pv_T, ty1 = pv_newT ty nm1 8 0 := ⟨_, rfl⟩
          obtain ⟨h1, eh1⟩ : ∃ h1 : pv_H, h1 = pv_new h nm1 0 := ⟨_, rfl⟩
          obtain ⟨r1, er1⟩ : ∃ r1 : pv_R, r1 = pv_new r nm1 0 := ⟨_, rfl⟩
          obtain ⟨g1, eg1⟩ : ∃ g1 : pv_G, g1 = pv_new g nm1 0 := ⟨_, rfl⟩
          have F := F ty1 h1 r1 g1 ety1 eh1 er1 eg1
          refine pv_newO nm1 8 dX11_street_52 rfl cl_X11_9 ins_X8 ini_X8 q1a q1b q1c q1d ?_
          refine pv_nE ety1 eh1 er1 eg1 ?_
          obtain ⟨hL1, F⟩ := F
          refine pv_dup rfl dX11_street_55 ?_
          refine pv_iload_n dX11_street_56 rfl ?_
          refine pv_iload_n dX11_street_57 rfl ?_
          refine pv_iload_n dX11_street_58 rfl ?_
          obtain ⟨q2, F⟩ := F
          obtain ⟨q3a, q3b, F⟩ := F
          refine pv_invI (As := [.int x, .int y, .int z]) (d' := d - 1) dX11_street_59 moX8_init ml_X11_77 q2 (Nat.le_of_ble_eq_true rfl) (by omega) q3a q3b F (fun v1 ty2 h2 r2 g2 F => ?_) rfl
          obtain ⟨rfl, F⟩ := F
          obtain ⟨hL2, F⟩ := F
          refine pv_pc (pc' := 62) rfl ?_
          show pv_E Γ d ((kc - 1) - 3) ((ks - 9) - 319) mX11_street 62 [some (.ref 100), some (.int x), some (.int y), some (.int z)] [.ref nm1, .int (h 100 1), .ref 110] ty2 h2 r2 g2 Q
          obtain ⟨q4, F⟩ := F
          obtain ⟨q4v, F⟩ := F
          obtain ⟨r3, er3⟩ : ∃ r3 : pv_R, r3 = pv_up r2 110 (Int32.toNatClampNeg (h 100 1)) nm1 := ⟨_, rfl⟩
          have F := F r3 er3
          refine pv_aast dX11_street_62 (lt_110 hL2) (by decide) (by decide) q4 q4v ?_
          refine pv_rE er3 ?_
          obtain ⟨hL3, F⟩ := F
          refine pv_aload_n dX11_street_63 rfl ?_
          refine pv_dup rfl dX11_street_64 ?_
          refine pv_getI 11 1 dX11_street_65 fl_X11_73 rfl (lt_100 hL3) ?_
          refine pv_iconst (v := 1) (by decide) dX11_street_68 ?_
          refine pv_iadd dX11_street_69 ?_
          obtain ⟨h3, eh3⟩ : ∃ h3 : pv_H, h3 = pv_up h2 100 1 ((h2 100 1) + 1) := ⟨_, rfl⟩
          have F := F h3 eh3
          refine pv_putI 11 1 dX11_street_70 fl_X11_73 ⟨_, rfl, Or.inl rfl⟩ (Or.inl rfl) (lt_100 hL3) ?_
          refine pv_hE eh3 ?_
          refine pv_aload_n dX11_street_73 rfl ?_
          refine pv_getI 11 1 dX11_street_74 fl_X11_73 rfl (lt_100 hL3) ?_
          refine pv_iconst (v := 1) (by decide) dX11_street_77 ?_
          refine pv_isub dX11_street_78 ?_
          exact pv_ireturn dX11_street_79 rfl rfl F
        · have F := F.2 c4
          refine pv_bipush (v := (-3)) (by decide) dX11_street_41 ?_
          exact pv_ireturn dX11_street_43 rfl rfl F
      · have F := F.2 c3
        refine pv_iconst (v := (-1)) (by decide) dX11_street_30 ?_
        exact pv_ireturn dX11_street_31 rfl rfl F
section ST
variable {Γ : pv_C} {d kc ks : Nat} {ty : pv_T} {h : pv_H} {r : pv_R} {g : pv_G} {Q : pv_Q} {a ns : Nat} {z : Int32}
/-- what a street's constructor leaves -/
def si_c (a n : Nat) (x y z : Int32) (ty : pv_T) (h : pv_H) (r : pv_R) (g : pv_G) (ty' : pv_T) (h' : pv_H) (r' : pv_R) (g' : pv_G) : Prop := pv_Lay ty' r' ∧ ((∀ b, b ≠ a + 1 → b ≠ a + 2 → b ≠ a + 3 → ty' b = ty b) ∧ ty' (a + 1) = some (20, n) ∧ ty' (a + 2) = some (20, n) ∧ ty' (a + 3) = some (20, 31)) ∧ ((∀ b j, b ≠ a → b ≠ a + 1 → b ≠ a + 2 → b ≠ a + 3 → r' b j = r b j) ∧ r' a 2 = a + 1 ∧ r' a 3 = a + 2 ∧ r' a 4 = a + 3) ∧ (∀ b j, b ≠ a + 1 → b ≠ a + 2 → b ≠ a + 3 → g' b j = g b j) ∧ (∀ b j, b ≠ a + 1 → b ≠ a + 2 → b ≠ a + 3 → ¬ (b = a ∧ (j = 0 ∨ j = 1)) → h' b j = h b j) ∧ h' a 0 = x ∧ h' a 1 = y ∧ (∀ j, j < n → h' (a + 1) j = z) ∧ (∀ j, h' (a + 2) j = 0) ∧ ∀ j, j < 31 → h' (a + 3) j = -1
theorem ct_X8_init (hd : 1 ≤ d) (hL : pv_Lay ty r) (ha : 1000 ≤ a) (hta : ty a = some (8, 0)) (t1 : ty (a + 1) = none) (t2 : ty (a + 2) = none) (t3 : ty (a + 3) = none) {R C : Nat} (hR : R ≤ 16) (hC : C ≤ 9) {k : pv_Q} (hk : ∀ ty' h' r' g', si_c a (R * C) (nI R) (nI C) z ty h r g ty' h' r' g' → k none ty' h' r' g') : pv_CT Γ d 3 319 mX8_init [.ref a, .int (nI R), .int (nI C), .int z] ty h r g k := by
  obtain ⟨n, hn⟩ : ∃ n, n = R * C := ⟨_, rfl⟩
  have hn1 : n ≤ 144 := by rw [hn]; exact Nat.mul_le_mul hR hC
  refine pv_fn 0 pn_X8 rfl (Nat.le_of_ble_eq_true rfl) (sg_X8_init_0 a _ _ _ (by omega) ?_)
  rw [pk_mul, ← hn]
  rw [← hn] at hk
  have c0 : ¬ nI n < 0 := nI_pos (by omega)
  have cl : Int32.toNatClampNeg (nI n) = n := nI_clamp (by omega)
  refine ⟨by omega, hta, fun h1 e1 => ⟨hta, fun h2 e2 => ⟨a + 1, n, c0, cl, by omega, by omega, t1, by decide, by omega, fun ty1 h3 r1 g1 et1 eh3 er1 eg1 => ?_⟩⟩⟩
  have hL1 : pv_Lay ty1 r1 := by rw [et1, er1]; exact pv_Lay_new hL (by omega)
  have ta1 : ty1 a = some (8, 0) := by rw [et1, pv_newT, if_neg (by omega)]; exact hta
  refine ⟨hL1, ta1, fun r2 er2 => ?_⟩
  have hL2 : pv_Lay ty1 r2 := by rw [er2]; exact pv_Lay_big hL1 (by omega)
  have q2 : r2 a 2 = a + 1 := by rw [er2, pv_up_same]
  rw [q2]
  refine ⟨hL2, ta1, pv_CW.mono (ct_fill (n := n) (by omega) (by rw [et1]; simp [pv_newT]) (by omega)) (fun h4 e4 => ?_)⟩
  refine ⟨a + 2, n, c0, cl, by omega, by omega, by rw [et1, pv_newT, if_neg (by omega)]; exact t2, by decide, by omega, fun ty2 h5 r3 g2 et2 eh5 er3 eg2 => ?_⟩
  have hL3 : pv_Lay ty2 r3 := by rw [et2, er3]; exact pv_Lay_new hL2 (by omega)
  have ta2 : ty2 a = some (8, 0) := by rw [et2, pv_newT, if_neg (by omega)]; exact ta1
  refine ⟨hL3, ta2, fun r4 er4 => ?_⟩
  have hL4 : pv_Lay ty2 r4 := by rw [er4]; exact pv_Lay_big hL3 (by omega)
  refine ⟨hL4, a + 3, 31, by decide, by decide, by decide, by omega, by rw [et2, pv_newT, if_neg (by omega), et1, pv_newT, if_neg (by omega)]; exact t3, by decide, by omega, fun ty3 h6 r5 g3 et3 eh6 er5 eg3 => ?_⟩
  have hL5 : pv_Lay ty3 r5 := by rw [et3, er5]; exact pv_Lay_new hL4 (by omega)
  have ta3 : ty3 a = some (8, 0) := by rw [et3, pv_newT, if_neg (by omega)]; exact ta2
  refine ⟨hL5, ta3, fun r6 er6 => ?_⟩
  have hL6 : pv_Lay ty3 r6 := by rw [er6]; exact pv_Lay_big hL5 (by omega)
  have q6 : r6 a 4 = a + 3 := by rw [er6, pv_up_same]
  rw [q6]
  refine ⟨hL6, ta3, pv_CW.mono (ct_fill (n := 31) (by omega) (by rw [et3]; simp [pv_newT]) (by omega)) (fun h7 e7 => hk _ _ _ _ ?_)⟩
  refine ⟨hL6, ⟨fun b b1 b2 b3 => ?_, ?_, ?_, ?_⟩, ⟨fun b j b0 b1 b2 b3 => ?_, ?_, ?_, q6⟩, fun b j b1 b2 b3 => ?_, fun b j b1 b2 b3 b4 => ?_, ?_, ?_, fun j hj => ?_, fun j => ?_, fun j hj => ?_⟩
  · rw [et3, pv_newT, if_neg b3, et2, pv_newT, if_neg b2, et1, pv_newT, if_neg b1]
  · rw [et3, pv_newT, if_neg (by omega), et2, pv_newT, if_neg (by omega), et1, pv_newT, if_pos rfl]
  · rw [et3, pv_newT, if_neg (by omega), et2, pv_newT, if_pos rfl]
  · rw [et3, pv_newT, if_pos rfl]
  · rw [er6, pv_up_a b0, er5, pv_new, if_neg b3, er4, pv_up_a b0, er3, pv_new, if_neg b2, er2, pv_up_a b0, er1, pv_new, if_neg b1]
  · rw [er6, pv_up_j (by decide), er5, pv_new, if_neg (by omega), er4, pv_up_j (by decide), er3, pv_new, if_neg (by omega)]; exact q2
  · rw [er6, pv_up_j (by decide), er5, pv_new, if_neg (by omega), er4, pv_up_same]
  · rw [eg3, pv_new, if_neg b3, eg2, pv_new, if_neg b2, eg1, pv_new, if_neg b1]
  · rw [e7, pv_row_ne b3, eh6, pv_new, if_neg b3, eh5, pv_new, if_neg b2, e4, pv_row_ne b1, eh3, pv_new, if_neg b1, e2, pv_up, if_neg (fun q => b4 ⟨q.1, Or.inr q.2⟩), e1, pv_up, if_neg (fun q => b4 ⟨q.1, Or.inl q.2⟩)]
  · rw [e7, pv_row_ne (by omega), eh6, pv_new, if_neg (by omega), eh5, pv_new, if_neg (by omega), e4, pv_row_ne (by omega), eh3, pv_new, if_neg (by omega), e2, pv_up_j (by decide), e1, pv_up_same]
  · rw [e7, pv_row_ne (by omega), eh6, pv_new, if_neg (by omega), eh5, pv_new, if_neg (by omega), e4, pv_row_ne (by omega), eh3, pv_new, if_neg (by omega), e2, pv_up_same]
  · rw [e7, pv_row_ne (by omega), eh6, pv_new, if_neg (by omega), eh5, pv_new, if_neg (by omega), e4, pv_row_at, if_pos hj]
  · rw [e7, pv_row_ne (by omega), eh6, pv_new, if_neg (by omega), eh5, pv_new, if_pos rfl]
  · rw [e7, pv_row_at, if_pos hj]
/-- what street makes on the class's side -/
def st_c (ns R C : Nat) (z : Int32) (ty : pv_T) (h : pv_H) (r : pv_R) (g : pv_G) (ty' : pv_T) (h' : pv_H) (r' : pv_R) (g' : pv_G) : Prop := pv_Lay ty' r' ∧ ((∀ b, b ≠ cA ns → b ≠ cA ns + 1 → b ≠ cA ns + 2 → b ≠ cA ns + 3 → ty' b = ty b) ∧ ty' (cA ns) = some (8, 0) ∧ ty' (cA ns + 1) = some (20, R * C) ∧ ty' (cA ns + 2) = some (20, R * C) ∧ ty' (cA ns + 3) = some (20, 31)) ∧ ((∀ b j, b ≠ cA ns → b ≠ cA ns + 1 → b ≠ cA ns + 2 → b ≠ cA ns + 3 → ¬ (b = 110 ∧ j = ns) → r' b j = r b j) ∧ r' 110 ns = cA ns ∧ r' (cA ns) 2 = cA ns + 1 ∧ r' (cA ns) 3 = cA ns + 2 ∧ r' (cA ns) 4 = cA ns + 3) ∧ (∀ b j, b ≠ cA ns → b ≠ cA ns + 1 → b ≠ cA ns + 2 → b ≠ cA ns + 3 → g' b j = g b j) ∧ (∀ b j, b ≠ cA ns → b ≠ cA ns + 1 → b ≠ cA ns + 2 → b ≠ cA ns + 3 → ¬ (b = 100 ∧ j = 1) → h' b j = h b j) ∧ h' 100 1 = nI (ns + 1) ∧ h' (cA ns) 0 = nI R ∧ h' (cA ns) 1 = nI C ∧ (∀ j, 5 ≤ j → h' (cA ns) j = 0) ∧ (∀ j, j < R * C → h' (cA ns + 1) j = z) ∧ (∀ j, h' (cA ns + 2) j = 0) ∧ ∀ j, j < 31 → h' (cA ns + 3) j = -1
theorem pv_lay_110 : ∀ q ∈ pv_layR, q.1 ≠ 110 := by decide +kernel
theorem ct_X11_street {x y : Int32} (hd : 2 ≤ d) (hL : pv_Lay ty r) (h8 : ns ≤ 8) (hn : h 100 1 = nI ns) (hfr : ns < 8 → ∀ t, t < 4 → ty (cA ns + t) = none) {k : pv_Q} (h1 : ¬ fo_street x y z → k (some (.int (-1))) ty h r g) (h3 : fo_street x y z → ns = 8 → k (some (.int (-3))) ty h r g) (h4 : fo_street x y z → ns < 8 → ∀ R C, 1 ≤ R → R ≤ 16 → 1 ≤ C → C ≤ 9 → x = nI R → y = nI C → ∀ ty' h' r' g', st_c ns R C z ty h r g ty' h' r' g' → k (some (.int (nI ns))) ty' h' r' g') : pv_CT Γ d 4 328 mX11_street [.ref 100, .int x, .int y, .int z] ty h r g k := by
  have hA' : 1000 ≤ cA ns := by unfold cA; omega
  refine pv_fn 0 pn_X11 rfl (Nat.le_of_ble_eq_true rfl) (sg_X11_street_0 _ _ _ (by omega) hL (pk_b (fun c1 => pk_b (fun c2 => pj_b (fun c3 => pk_lt ns 8 (fun c4 => ?_) (fun c4 => h3 ⟨c1, c2, c3⟩ (by omega)) hn) (fun c3 => h1 (fun q => c3 q.2.2))) (fun c2 => h1 (fun q => c2 q.2.1))) (fun c1 => h1 (fun q => c1 q.1))))
  obtain ⟨R, hR, rfl⟩ := nI_of (x := x) (Int32.not_lt.mpr (Int32.le_trans (by decide) c1.1))
  obtain ⟨C, hC, rfl⟩ := nI_of (x := y) (Int32.not_lt.mpr (Int32.le_trans (by decide) c2.1))
  have R1 : 1 ≤ R := (nI_leI (a := 1) (by decide) hR).mp c1.1
  have R2 : R ≤ 16 := (nI_leI (b := 16) hR (by decide)).mp c1.2
  have C1 : 1 ≤ C := (nI_leI (a := 1) (by decide) hC).mp c2.1
  have C2 : C ≤ 9 := (nI_leI (b := 9) hC (by decide)).mp c2.2
  have hf := hfr c4
  refine ⟨cA ns, by omega, hf 0 (by decide), by decide, by decide, fun ty1 h2 r1 g1 e1 e2 e3 e4 => ?_⟩
  have hL1 : pv_Lay ty1 r1 := by rw [e1, e3]; exact pv_Lay_new hL (by omega)
  have ht : ty1 (cA ns) = some (8, 0) := by rw [e1]; simp [pv_newT]
  have hff : ∀ t, 1 ≤ t → t < 4 → ty1 (cA ns + t) = none := fun t t1 t2 => by rw [e1, pv_newT, if_neg (by omega)]; exact hf t t2
  refine ⟨hL1, ht, by decide, by decide, ct_X8_init (by omega) hL1 hA' ht (hff 1 (by decide) (by decide)) (hff 2 (by decide) (by decide)) (hff 3 (by decide) (by decide)) R2 C2 (fun ty' h' r' g' q => ?_)⟩
  obtain ⟨q1, ⟨q2, q3, q4, q5⟩, ⟨q6, q7, q8, q9⟩, q10, q11, q12, q13, q14, q15, q16⟩ := q
  have ht' : ty' (cA ns) = some (8, 0) := by rw [q2 _ (by omega) (by omega) (by omega)]; exact ht
  have u1 : h' 100 1 = nI ns := by rw [q11 100 1 (by omega) (by omega) (by omega) (by omega), e2, pv_new, if_neg (by omega)]; exact hn
  rw [hn, nI_clamp (by omega)]
  refine ⟨rfl, q1, vp_in_nI (by omega) (by decide), ht', fun r3 er3 => ?_⟩
  have hL3 : pv_Lay ty' r3 := by rw [er3]; exact pv_Lay_up q1 (fun q hq z => pv_lay_110 q hq z.1)
  refine ⟨hL3, fun h5 e5 => ?_⟩
  rw [u1, nI_1] at e5
  have u5 : h5 100 1 = nI (ns + 1) := by rw [e5, pv_up_same]
  rw [u5, nI_pred]
  refine h4 ⟨c1, c2, c3⟩ c4 R C R1 R2 C1 C2 rfl rfl _ _ _ _ ⟨hL3, ⟨fun b b0 b1 b2 b3 => ?_, ht', q3, q4, q5⟩, ⟨fun b j b0 b1 b2 b3 b4 => ?_, ?_, ?_, ?_, ?_⟩, fun b j b0 b1 b2 b3 => ?_, fun b j b0 b1 b2 b3 b4 => ?_, u5, ?_, ?_, fun j hj => ?_, fun j hj => ?_, fun j => ?_, fun j hj => ?_⟩
  · rw [q2 b b1 b2 b3, e1, pv_newT, if_neg b0]
  · rw [er3, pv_up, if_neg b4, q6 b j b0 b1 b2 b3, e3, pv_new, if_neg b0]
  · rw [er3, pv_up_same]
  · rw [er3, pv_up_a (by omega)]; exact q7
  · rw [er3, pv_up_a (by omega)]; exact q8
  · rw [er3, pv_up_a (by omega)]; exact q9
  · rw [q10 b j b1 b2 b3, e4, pv_new, if_neg b0]
  · rw [e5, pv_up, if_neg b4, q11 b j b1 b2 b3 (fun w => b0 w.1), e2, pv_new, if_neg b0]
  · rw [e5, pv_up_a (by omega)]; exact q12
  · rw [e5, pv_up_a (by omega)]; exact q13
  · rw [e5, pv_up_a (by omega), q11 _ j (by omega) (by omega) (by omega) (by omega), e2, pv_new, if_pos rfl]
  · rw [e5, pv_up_a (by omega)]; exact q14 j hj
  · rw [e5, pv_up_a (by omega)]; exact q15 j
  · rw [e5, pv_up_a (by omega)]; exact q16 j hj
end ST
