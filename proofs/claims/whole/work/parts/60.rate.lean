/-! the reference's part; rate, rates, clause: both sides -/
set_option maxRecDepth 20000 in
set_option maxHeartbeats 4000000 in
theorem sg_X12_rate_0 {Γ : pv_C} {d kc ks : Nat} {ty : pv_T} {h : pv_H} {r : pv_R} {g : pv_G} {Q : pv_Q} (x : Int32) (y : Int32) (z : Int32) (hd : 2 ≤ d) (hL : pv_Lay ty r) (F : (((pf_b (0 ≤ x ∧ x ≤ h 200 33 - 1)) = 0 → Q (some (.int (-2000000000))) ty h r g) ∧ (¬ (pf_b (0 ≤ x ∧ x ≤ h 200 33 - 1)) = 0 → (((pf_b (0 ≤ y ∧ y ≤ 9999)) = 0 → Q (some (.int (-2000000000))) ty h r g) ∧ (¬ (pf_b (0 ≤ y ∧ y ≤ 9999)) = 0 → ((¬ (pf_b (0 ≤ z ∧ z ≤ 9999)) = 0 → pv_CJ Γ (d - 1) mX12_forceOn [.ref 200, .int 0, .int y, .int z] ty h r g (fun (w1 : Int32) (h1 : pv_H) => ((0 ≤ w1 → pv_CJ Γ (d - 1) mX12_part [.ref 200, .int w1, .int x, .int 1, .int y] ty h1 r g (fun (w2 : Int32) (h2 : pv_H) => vp_in x 60 ∧ ((0 ≤ (h2 336 (Int32.toNatClampNeg x)) → pv_CJ Γ (d - 1) mX12_part [.ref 200, .int w1, .int x, .int 0, .int y] ty h2 r g (fun (w3 : Int32) (h3 : pv_H) => Q (some (.int (w2 + w3))) ty h3 r g)) ∧ (¬ 0 ≤ (h2 336 (Int32.toNatClampNeg x)) → Q (some (.int (w2 + 0))) ty h2 r g)))) ∧ (¬ 0 ≤ w1 → Q (some (.int 0)) ty h1 r g)))) ∧ ((pf_b (0 ≤ z ∧ z ≤ 9999)) = 0 → Q (some (.int (-2000000000))) ty h r g))))))) : pv_E Γ d kc ks mX12_rate 0 [some (.ref 200), some (.int x), some (.int y), some (.int z), none] [] ty h r g Q := by
  refine pv_aload_n dX12_rate_0 rfl ?_
  refine pv_iload_n dX12_rate_1 rfl ?_
  refine pv_invV (As := [.int x]) (d' := d - 1) dX12_rate_2 moX12_isHouse ml_X12_303 (lt_200 hL) (Or.inl ⟨_, rfl, rfl⟩) (Nat.le_of_ble_eq_true rfl) (by omega) (Nat.zero_le _) (Nat.zero_le _) (ct_X12_isHouse (by omega) hL) (fun v ty' h' r' g' hq => ?_) rfl
  obtain ⟨e1, e2, e3, e4, e5⟩ := hq
  rw [e1, e2, e3, e4, e5]
  refine pv_pc (pc' := 5) rfl ?_
  show pv_E Γ d kc ks mX12_rate 5 [some (.ref 200), some (.int x), some (.int y), some (.int z), none] [.int (pf_b (0 ≤ x ∧ x ≤ h 200 33 - 1))] ty h r g Q
  refine pv_if_eq (tgt := 22) dX12_rate_5 (by decide) (fun c1 => ?_) (fun c1 => ?_)
  · have F := F.1 c1
    refine pv_ldcw (v := (-2000000000)) dX12_rate_22 kc_X12_306 ?_
    exact pv_ireturn dX12_rate_25 rfl rfl F
  · have F := F.2 c1
    refine pv_iload_n dX12_rate_8 rfl ?_
    refine pv_invS (As := [.int y]) (d' := d - 1) dX12_rate_9 moX12_isDay ml_X12_285 (Nat.le_of_ble_eq_true rfl) (by omega) (Nat.zero_le _) (Nat.zero_le _) (ct_X12_isDay (by omega)) (fun v ty' h' r' g' hq => ?_) rfl
    obtain ⟨e1, e2, e3, e4, e5⟩ := hq
    rw [e1, e2, e3, e4, e5]
    refine pv_pc (pc' := 12) rfl ?_
    show pv_E Γ d kc ks mX12_rate 12 [some (.ref 200), some (.int x), some (.int y), some (.int z), none] [.int (pf_b (0 ≤ y ∧ y ≤ 9999))] ty h r g Q
    refine pv_if_eq (tgt := 22) dX12_rate_12 (by decide) (fun c2 => ?_) (fun c2 => ?_)
    · have F := F.1 c2
      refine pv_ldcw (v := (-2000000000)) dX12_rate_22 kc_X12_306 ?_
      exact pv_ireturn dX12_rate_25 rfl rfl F
    · have F := F.2 c2
      refine pv_iload_n dX12_rate_15 rfl ?_
      refine pv_invS (As := [.int z]) (d' := d - 1) dX12_rate_16 moX12_isDay ml_X12_285 (Nat.le_of_ble_eq_true rfl) (by omega) (Nat.zero_le _) (Nat.zero_le _) (ct_X12_isDay (by omega)) (fun v ty' h' r' g' hq => ?_) rfl
      obtain ⟨e1, e2, e3, e4, e5⟩ := hq
      rw [e1, e2, e3, e4, e5]
      refine pv_pc (pc' := 19) rfl ?_
      show pv_E Γ d kc ks mX12_rate 19 [some (.ref 200), some (.int x), some (.int y), some (.int z), none] [.int (pf_b (0 ≤ z ∧ z ≤ 9999))] ty h r g Q
      refine pv_if_ne (tgt := 26) dX12_rate_19 (by decide) (fun c3 => ?_) (fun c3 => ?_)
      · have F := F.1 c3
        refine pv_aload_n dX12_rate_26 rfl ?_
        refine pv_iconst (v := 0) (by decide) dX12_rate_27 ?_
        refine pv_iload_n dX12_rate_28 rfl ?_
        refine pv_iload_n dX12_rate_29 rfl ?_
        refine pv_invV (As := [.int 0, .int y, .int z]) (d' := d - 1) dX12_rate_30 moX12_forceOn ml_X12_288 (lt_200 hL) (Or.inl ⟨_, rfl, rfl⟩) (Nat.le_of_ble_eq_true rfl) (by omega) (Nat.zero_le _) (Nat.zero_le _) F (fun v ty' h1 r' g' hq => ?_) rfl
        obtain ⟨e2, e4, e5, w1, e1, F⟩ := hq
        rw [e1, e2, e4, e5]
        refine pv_pc (pc' := 33) rfl ?_
        show pv_E Γ d kc ks mX12_rate 33 [some (.ref 200), some (.int x), some (.int y), some (.int z), none] [.int w1] ty h1 r g Q
        refine pv_istore (ls' := [some (.ref 200), some (.int x), some (.int y), some (.int z), some (.int w1)]) dX12_rate_33 (by decide) rfl rfl ?_
        refine pv_iload dX12_rate_35 rfl ?_
        refine pv_if_ge (tgt := 42) dX12_rate_37 (by decide) (fun c4 => ?_) (fun c4 => ?_)
        · have F := F.1 c4
          refine pv_aload_n dX12_rate_42 rfl ?_
          refine pv_iload dX12_rate_43 rfl ?_
          refine pv_iload_n dX12_rate_45 rfl ?_
          refine pv_iconst (v := 1) (by decide) dX12_rate_46 ?_
          refine pv_iload_n dX12_rate_47 rfl ?_
          refine pv_invV (As := [.int w1, .int x, .int 1, .int y]) (d' := d - 1) dX12_rate_48 moX12_part ml_X12_307 (lt_200 hL) (Or.inl ⟨_, rfl, rfl⟩) (Nat.le_of_ble_eq_true rfl) (by omega) (Nat.zero_le _) (Nat.zero_le _) F (fun v ty' h2 r' g' hq => ?_) rfl
          obtain ⟨e2, e4, e5, w2, e1, F⟩ := hq
          rw [e1, e2, e4, e5]
          refine pv_pc (pc' := 51) rfl ?_
          show pv_E Γ d kc ks mX12_rate 51 [some (.ref 200), some (.int x), some (.int y), some (.int z), some (.int w1)] [.int w2] ty h2 r g Q
          refine pv_aload_n dX12_rate_51 rfl ?_
          refine pv_getRk 12 36 dX12_rate_52 fl_X12_90 rfl (lt_200 hL) (lr_200_36 hL) ?_
          refine pv_iload_n dX12_rate_55 rfl ?_
          obtain ⟨q1, F⟩ := F
          refine pv_iald dX12_rate_56 (lt_336 hL) q1 ?_
          refine pv_if_ge (tgt := 64) dX12_rate_57 (by decide) (fun c5 => ?_) (fun c5 => ?_)
          · have F := F.1 c5
            refine pv_aload_n dX12_rate_64 rfl ?_
            refine pv_iload dX12_rate_65 rfl ?_
            refine pv_iload_n dX12_rate_67 rfl ?_
            refine pv_iconst (v := 0) (by decide) dX12_rate_68 ?_
            refine pv_iload_n dX12_rate_69 rfl ?_
            refine pv_invV (As := [.int w1, .int x, .int 0, .int y]) (d' := d - 1) dX12_rate_70 moX12_part ml_X12_307 (lt_200 hL) (Or.inl ⟨_, rfl, rfl⟩) (Nat.le_of_ble_eq_true rfl) (by omega) (Nat.zero_le _) (Nat.zero_le _) F (fun v ty' h3 r' g' hq => ?_) rfl
            obtain ⟨e2, e4, e5, w3, e1, F⟩ := hq
            rw [e1, e2, e4, e5]
            refine pv_pc (pc' := 73) rfl ?_
            show pv_E Γ d kc ks mX12_rate 73 [some (.ref 200), some (.int x), some (.int y), some (.int z), some (.int w1)] [.int w3, .int w2] ty h3 r g Q
            refine pv_iadd dX12_rate_73 ?_
            exact pv_ireturn dX12_rate_74 rfl rfl F
          · have F := F.2 c5
            refine pv_iconst (v := 0) (by decide) dX12_rate_60 ?_
            refine pv_goto (tgt := 73) dX12_rate_61 (by decide) ?_
            refine pv_iadd dX12_rate_73 ?_
            exact pv_ireturn dX12_rate_74 rfl rfl F
        · have F := F.2 c4
          refine pv_iconst (v := 0) (by decide) dX12_rate_40 ?_
          exact pv_ireturn dX12_rate_41 rfl rfl F
      · have F := F.2 c3
        refine pv_ldcw (v := (-2000000000)) dX12_rate_22 kc_X12_306 ?_
        exact pv_ireturn dX12_rate_25 rfl rfl F
set_option maxRecDepth 20000 in
set_option maxHeartbeats 4000000 in
theorem sg_X11_rate_0 {Γ : pv_C} {d kc ks : Nat} {ty : pv_T} {h : pv_H} {r : pv_R} {g : pv_G} {Q : pv_Q} (x : Int32) (y : Int32) (z : Int32) (hd : 2 ≤ d) (hL : pv_Lay ty r) (F : pv_CT Γ (d - 1) 0 0 mX11_findHouse [.ref 100, .int x] ty h r g (fun (v1 : Option Value) (ty1 : pv_T) (h1 : pv_H) (r1 : pv_R) (g1 : pv_G) => ∃ w1 : Nat, v1 = some (.ref w1) ∧ pv_Lay ty1 r1 ∧ ((w1 = 0 → Q (some (.int (-2000000000))) ty1 h1 r1 g1) ∧ (¬ w1 = 0 → (((pf_b (0 ≤ y ∧ y ≤ 9999)) = 0 → Q (some (.int (-2000000000))) ty1 h1 r1 g1) ∧ (¬ (pf_b (0 ≤ y ∧ y ≤ 9999)) = 0 → ((¬ (pf_b (0 ≤ z ∧ z ≤ 9999)) = 0 → pv_CT Γ (d - 1) 0 0 mX1_findInForce [.ref 70, .int 0, .int y, .int z] ty1 h1 r1 g1 (fun (v2 : Option Value) (ty2 : pv_T) (h2 : pv_H) (r2 : pv_R) (g2 : pv_G) => ∃ w2 : Nat, v2 = some (.ref w2) ∧ pv_Lay ty2 r2 ∧ pv_CT Γ (d - 1) 0 0 mX1_givePart [.ref 70, .ref w2, .ref w1, .int 0, .int y] ty2 h2 r2 g2 (fun (v3 : Option Value) (ty3 : pv_T) (h3 : pv_H) (r3 : pv_R) (g3 : pv_G) => ∃ w3 : Int32, v3 = some (.int w3) ∧ pv_Lay ty3 r3 ∧ ty3 w1 = some (3, 0) ∧ (ty3 w1 = some (3, 0)) ∧ (((pf_b (¬ h3 w1 2 = -1)) = 0 → Q (some (.int w3)) ty3 h3 r3 g3) ∧ (¬ (pf_b (¬ h3 w1 2 = -1)) = 0 → pv_CT Γ (d - 1) 0 0 mX1_givePart [.ref 70, .ref w2, .ref w1, .int 1, .int y] ty3 h3 r3 g3 (fun (v4 : Option Value) (ty4 : pv_T) (h4 : pv_H) (r4 : pv_R) (g4 : pv_G) => ∃ w4 : Int32, v4 = some (.int w4) ∧ pv_Lay ty4 r4 ∧ Q (some (.int (w3 + w4))) ty4 h4 r4 g4)))))) ∧ ((pf_b (0 ≤ z ∧ z ≤ 9999)) = 0 → Q (some (.int (-2000000000))) ty1 h1 r1 g1)))))))) : pv_E Γ d kc ks mX11_rate 0 [some (.ref 100), some (.int x), some (.int y), some (.int z), none, none, none] [] ty h r g Q := by
  refine pv_aload_n dX11_rate_0 rfl ?_
  refine pv_iload_n dX11_rate_1 rfl ?_
  refine pv_invV (As := [.int x]) (d' := d - 1) dX11_rate_2 moX11_findHouse ml_X11_205 (lt_100 hL) (Or.inl ⟨_, rfl, rfl⟩) (Nat.le_of_ble_eq_true rfl) (by omega) (Nat.zero_le _) (Nat.zero_le _) F (fun v1 ty1 h1 r1 g1 F => ?_) rfl
  obtain ⟨w1, rfl, F⟩ := F
  obtain ⟨hL1, F⟩ := F
  refine pv_pc (pc' := 5) rfl ?_
  show pv_E Γ d kc ks mX11_rate 5 [some (.ref 100), some (.int x), some (.int y), some (.int z), none, none, none] [.ref w1] ty1 h1 r1 g1 Q
  refine pv_astore (ls' := [some (.ref 100), some (.int x), some (.int y), some (.int z), some (.ref w1), none, none]) dX11_rate_5 (by decide) rfl rfl ?_
  refine pv_aload dX11_rate_7 rfl ?_
  refine pv_ifnull (tgt := 26) dX11_rate_9 (by decide) (fun c1 => ?_) (fun c1 => ?_)
  · have F := F.1 c1
    refine pv_ldc (v := (-2000000000)) dX11_rate_26 kc_X11_209 ?_
    exact pv_ireturn dX11_rate_28 rfl rfl F
  · have F := F.2 c1
    refine pv_iload_n dX11_rate_12 rfl ?_
    refine pv_invS (As := [.int y]) (d' := d - 1) dX11_rate_13 moX11_isDay ml_X11_195 (Nat.le_of_ble_eq_true rfl) (by omega) (Nat.zero_le _) (Nat.zero_le _) (ct_X11_isDay (by omega)) (fun v ty' h' r' g' hq => ?_) rfl
    obtain ⟨e1, e2, e3, e4, e5⟩ := hq
    rw [e1, e2, e3, e4, e5]
    refine pv_pc (pc' := 16) rfl ?_
    show pv_E Γ d kc ks mX11_rate 16 [some (.ref 100), some (.int x), some (.int y), some (.int z), some (.ref w1), none, none] [.int (pf_b (0 ≤ y ∧ y ≤ 9999))] ty1 h1 r1 g1 Q
    refine pv_if_eq (tgt := 26) dX11_rate_16 (by decide) (fun c2 => ?_) (fun c2 => ?_)
    · have F := F.1 c2
      refine pv_ldc (v := (-2000000000)) dX11_rate_26 kc_X11_209 ?_
      exact pv_ireturn dX11_rate_28 rfl rfl F
    · have F := F.2 c2
      refine pv_iload_n dX11_rate_19 rfl ?_
      refine pv_invS (As := [.int z]) (d' := d - 1) dX11_rate_20 moX11_isDay ml_X11_195 (Nat.le_of_ble_eq_true rfl) (by omega) (Nat.zero_le _) (Nat.zero_le _) (ct_X11_isDay (by omega)) (fun v ty' h' r' g' hq => ?_) rfl
      obtain ⟨e1, e2, e3, e4, e5⟩ := hq
      rw [e1, e2, e3, e4, e5]
      refine pv_pc (pc' := 23) rfl ?_
      show pv_E Γ d kc ks mX11_rate 23 [some (.ref 100), some (.int x), some (.int y), some (.int z), some (.ref w1), none, none] [.int (pf_b (0 ≤ z ∧ z ≤ 9999))] ty1 h1 r1 g1 Q
      refine pv_if_ne (tgt := 29) dX11_rate_23 (by decide) (fun c3 => ?_) (fun c3 => ?_)
      · have F := F.1 c3
        refine pv_aload_n dX11_rate_29 rfl ?_
        refine pv_getRk 11 10 dX11_rate_30 fl_X11_52 rfl (lt_100 hL1) (lr_100_10 hL1) ?_
        refine pv_iconst (v := 0) (by decide) dX11_rate_33 ?_
        refine pv_iload_n dX11_rate_34 rfl ?_
        refine pv_iload_n dX11_rate_35 rfl ?_
        refine pv_invV (As := [.int 0, .int y, .int z]) (d' := d - 1) dX11_rate_36 moX1_findInForce ml_X11_210 (lt_70 hL1) (Or.inl ⟨_, rfl, rfl⟩) (Nat.le_of_ble_eq_true rfl) (by omega) (Nat.zero_le _) (Nat.zero_le _) F (fun v2 ty2 h2 r2 g2 F => ?_) rfl
        obtain ⟨w2, rfl, F⟩ := F
        obtain ⟨hL2, F⟩ := F
        refine pv_pc (pc' := 39) rfl ?_
        show pv_E Γ d kc ks mX11_rate 39 [some (.ref 100), some (.int x), some (.int y), some (.int z), some (.ref w1), none, none] [.ref w2] ty2 h2 r2 g2 Q
        refine pv_astore (ls' := [some (.ref 100), some (.int x), some (.int y), some (.int z), some (.ref w1), some (.ref w2), none]) dX11_rate_39 (by decide) rfl rfl ?_
        refine pv_aload_n dX11_rate_41 rfl ?_
        refine pv_getRk 11 10 dX11_rate_42 fl_X11_52 rfl (lt_100 hL2) (lr_100_10 hL2) ?_
        refine pv_aload dX11_rate_45 rfl ?_
        refine pv_aload dX11_rate_47 rfl ?_
        refine pv_iconst (v := 0) (by decide) dX11_rate_49 ?_
        refine pv_pc (pc' := 50) rfl ?_
        refine pv_iload_n dX11_rate_50 rfl ?_
        refine pv_invV (As := [.ref w2, .ref w1, .int 0, .int y]) (d' := d - 1) dX11_rate_51 moX1_givePart ml_X11_214 (lt_70 hL2) (Or.inl ⟨_, rfl, rfl⟩) (Nat.le_of_ble_eq_true rfl) (by omega) (Nat.zero_le _) (Nat.zero_le _) F (fun v3 ty3 h3 r3 g3 F => ?_) rfl
        obtain ⟨w3, rfl, F⟩ := F
        obtain ⟨hL3, F⟩ := F
        refine pv_pc (pc' := 54) rfl ?_
        show pv_E Γ d kc ks mX11_rate 54 [some (.ref 100), some (.int x), some (.int y), some (.int z), some (.ref w1), some (.ref w2), none] [.int w3] ty3 h3 r3 g3 Q
        refine pv_istore (ls' := [some (.ref 100), some (.int x), some (.int y), some (.int z), some (.ref w1), some (.ref w2), some (.int w3)]) dX11_rate_54 (by decide) rfl rfl ?_
        refine pv_aload dX11_rate_56 rfl ?_
        obtain ⟨q1, F⟩ := F
        obtain ⟨q2, F⟩ := F
        refine pv_invV (As := []) (d' := d - 1) dX11_rate_58 moX3_isCorner ml_X11_218 q1 (Or.inl ⟨_, rfl, rfl⟩) (Nat.le_of_ble_eq_true rfl) (by omega) (Nat.zero_le _) (Nat.zero_le _) (ct_X3_isCorner (by omega) q2) (fun v ty' h' r' g' hq => ?_) rfl
        obtain ⟨e1, e2, e3, e4, e5⟩ := hq
        rw [e1, e2, e3, e4, e5]
        refine pv_pc (pc' := 61) rfl ?_
        show pv_E Γ d kc ks mX11_rate 61 [some (.ref 100), some (.int x), some (.int y), some (.int z), some (.ref w1), some (.ref w2), some (.int w3)] [.int (pf_b (¬ h3 w1 2 = -1))] ty3 h3 r3 g3 Q
        refine pv_if_eq (tgt := 82) dX11_rate_61 (by decide) (fun c4 => ?_) (fun c4 => ?_)
        · have F := F.1 c4
          refine pv_iload dX11_rate_82 rfl ?_
          exact pv_ireturn dX11_rate_84 rfl rfl F
        · have F := F.2 c4
          refine pv_iload dX11_rate_64 rfl ?_
          refine pv_aload_n dX11_rate_66 rfl ?_
          refine pv_getRk 11 10 dX11_rate_67 fl_X11_52 rfl (lt_100 hL3) (lr_100_10 hL3) ?_
          refine pv_aload dX11_rate_70 rfl ?_
          refine pv_aload dX11_rate_72 rfl ?_
          refine pv_iconst (v := 1) (by decide) dX11_rate_74 ?_
          refine pv_pc (pc' := 75) rfl ?_
          refine pv_iload_n dX11_rate_75 rfl ?_
          refine pv_invV (As := [.ref w2, .ref w1, .int 1, .int y]) (d' := d - 1) dX11_rate_76 moX1_givePart ml_X11_214 (lt_70 hL3) (Or.inl ⟨_, rfl, rfl⟩) (Nat.le_of_ble_eq_true rfl) (by omega) (Nat.zero_le _) (Nat.zero_le _) F (fun v4 ty4 h4 r4 g4 F => ?_) rfl
          obtain ⟨w4, rfl, F⟩ := F
          obtain ⟨hL4, F⟩ := F
          refine pv_pc (pc' := 79) rfl ?_
          show pv_E Γ d kc ks mX11_rate 79 [some (.ref 100), some (.int x), some (.int y), some (.int z), some (.ref w1), some (.ref w2), some (.int w3)] [.int w4, .int w3] ty4 h4 r4 g4 Q
          refine pv_iadd dX11_rate_79 ?_
          refine pv_istore (ls' := [some (.ref 100), some (.int x), some (.int y), some (.int z), some (.ref w1), some (.ref w2), some (.int (w3 + w4))]) dX11_rate_80 (by decide) rfl rfl ?_
          refine pv_iload dX11_rate_82 rfl ?_
          exact pv_ireturn dX11_rate_84 rfl rfl F
      · have F := F.2 c3
        refine pv_ldc (v := (-2000000000)) dX11_rate_26 kc_X11_209 ?_
        exact pv_ireturn dX11_rate_28 rfl rfl F
set_option maxRecDepth 20000 in
set_option maxHeartbeats 4000000 in
theorem sg_X12_rates_0 {Γ : pv_C} {d kc ks : Nat} {ty : pv_T} {h : pv_H} {r : pv_R} {g : pv_G} {Q : pv_Q} (x : Int32) (y : Int32) (hd : 2 ≤ d) (hL : pv_Lay ty r) (F : (((pf_b (0 ≤ x ∧ x ≤ h 200 1 - 1)) = 0 → Q (some (.int (-2000000000))) ty h r g) ∧ (¬ (pf_b (0 ≤ x ∧ x ≤ h 200 1 - 1)) = 0 → ((¬ (pf_b (0 ≤ y ∧ y ≤ 9999)) = 0 → pv_CJ Γ (d - 1) mX12_forceOn [.ref 200, .int 0, .int y, .int y] ty h r g (fun (w1 : Int32) (h1 : pv_H) => pv_E Γ d kc ks mX12_rates 33 [some (.ref 200), some (.int x), some (.int y), some (.int w1), some (.int 0), some (.int 0)] [] ty h1 r g Q)) ∧ ((pf_b (0 ≤ y ∧ y ≤ 9999)) = 0 → Q (some (.int (-2000000000))) ty h r g))))) : pv_E Γ d kc ks mX12_rates 0 [some (.ref 200), some (.int x), some (.int y), none, none, none] [] ty h r g Q := by
  refine pv_aload_n dX12_rates_0 rfl ?_
  refine pv_iload_n dX12_rates_1 rfl ?_
  refine pv_invV (As := [.int x]) (d' := d - 1) dX12_rates_2 moX12_isStreet ml_X12_168 (lt_200 hL) (Or.inl ⟨_, rfl, rfl⟩) (Nat.le_of_ble_eq_true rfl) (by omega) (Nat.zero_le _) (Nat.zero_le _) (ct_X12_isStreet (by omega) hL) (fun v ty' h' r' g' hq => ?_) rfl
  obtain ⟨e1, e2, e3, e4, e5⟩ := hq
  rw [e1, e2, e3, e4, e5]
  refine pv_pc (pc' := 5) rfl ?_
  show pv_E Γ d kc ks mX12_rates 5 [some (.ref 200), some (.int x), some (.int y), none, none, none] [.int (pf_b (0 ≤ x ∧ x ≤ h 200 1 - 1))] ty h r g Q
  refine pv_if_eq (tgt := 15) dX12_rates_5 (by decide) (fun c1 => ?_) (fun c1 => ?_)
  · have F := F.1 c1
    refine pv_ldcw (v := (-2000000000)) dX12_rates_15 kc_X12_306 ?_
    exact pv_ireturn dX12_rates_18 rfl rfl F
  · have F := F.2 c1
    refine pv_iload_n dX12_rates_8 rfl ?_
    refine pv_invS (As := [.int y]) (d' := d - 1) dX12_rates_9 moX12_isDay ml_X12_285 (Nat.le_of_ble_eq_true rfl) (by omega) (Nat.zero_le _) (Nat.zero_le _) (ct_X12_isDay (by omega)) (fun v ty' h' r' g' hq => ?_) rfl
    obtain ⟨e1, e2, e3, e4, e5⟩ := hq
    rw [e1, e2, e3, e4, e5]
    refine pv_pc (pc' := 12) rfl ?_
    show pv_E Γ d kc ks mX12_rates 12 [some (.ref 200), some (.int x), some (.int y), none, none, none] [.int (pf_b (0 ≤ y ∧ y ≤ 9999))] ty h r g Q
    refine pv_if_ne (tgt := 19) dX12_rates_12 (by decide) (fun c2 => ?_) (fun c2 => ?_)
    · have F := F.1 c2
      refine pv_aload_n dX12_rates_19 rfl ?_
      refine pv_iconst (v := 0) (by decide) dX12_rates_20 ?_
      refine pv_iload_n dX12_rates_21 rfl ?_
      refine pv_iload_n dX12_rates_22 rfl ?_
      refine pv_invV (As := [.int 0, .int y, .int y]) (d' := d - 1) dX12_rates_23 moX12_forceOn ml_X12_288 (lt_200 hL) (Or.inl ⟨_, rfl, rfl⟩) (Nat.le_of_ble_eq_true rfl) (by omega) (Nat.zero_le _) (Nat.zero_le _) F (fun v ty' h1 r' g' hq => ?_) rfl
      obtain ⟨e2, e4, e5, w1, e1, F⟩ := hq
      rw [e1, e2, e4, e5]
      refine pv_pc (pc' := 26) rfl ?_
      show pv_E Γ d kc ks mX12_rates 26 [some (.ref 200), some (.int x), some (.int y), none, none, none] [.int w1] ty h1 r g Q
      refine pv_istore_n (ls' := [some (.ref 200), some (.int x), some (.int y), some (.int w1), none, none]) dX12_rates_26 (by decide) rfl rfl ?_
      refine pv_iconst (v := 0) (by decide) dX12_rates_27 ?_
      refine pv_istore (ls' := [some (.ref 200), some (.int x), some (.int y), some (.int w1), some (.int 0), none]) dX12_rates_28 (by decide) rfl rfl ?_
      refine pv_iconst (v := 0) (by decide) dX12_rates_30 ?_
      refine pv_istore (ls' := [some (.ref 200), some (.int x), some (.int y), some (.int w1), some (.int 0), some (.int 0)]) dX12_rates_31 (by decide) rfl rfl ?_
      exact F
    · have F := F.2 c2
      refine pv_ldcw (v := (-2000000000)) dX12_rates_15 kc_X12_306 ?_
      exact pv_ireturn dX12_rates_18 rfl rfl F
set_option maxRecDepth 20000 in
set_option maxHeartbeats 4000000 in
theorem sg_X12_rates_33 {Γ : pv_C} {d kc ks : Nat} {ty : pv_T} {h : pv_H} {r : pv_R} {g : pv_G} {Q : pv_Q} (x1 : Int32) (x2 : Int32) (x3 : Int32) (x4 : Int32) (x5 : Int32) (hd : 1 ≤ d) (hL : pv_Lay ty r) (F : (((h 200 33) ≤ x5 → Q (some (.int x4)) ty h r g) ∧ (¬ (h 200 33) ≤ x5 → ((x3 < 0 → Q (some (.int x4)) ty h r g) ∧ (¬ x3 < 0 → vp_in x5 60 ∧ ((¬ (h 334 (Int32.toNatClampNeg x5)) = x1 → vp_in x5 60 ∧ ((¬ (h 336 (Int32.toNatClampNeg x5)) = x1 → pv_E Γ d kc ks mX12_rates 33 [some (.ref 200), some (.int x1), some (.int x2), some (.int x3), some (.int x4), some (.int (x5 + 1))] [] ty h r g Q) ∧ ((h 336 (Int32.toNatClampNeg x5)) = x1 → pv_CJ Γ (d - 1) mX12_part [.ref 200, .int x3, .int x5, .int 0, .int x2] ty h r g (fun (w1 : Int32) (h1 : pv_H) => pv_E Γ d kc ks mX12_rates 33 [some (.ref 200), some (.int x1), some (.int x2), some (.int x3), some (.int (x4 + w1)), some (.int (x5 + 1))] [] ty h1 r g Q)))) ∧ ((h 334 (Int32.toNatClampNeg x5)) = x1 → pv_CJ Γ (d - 1) mX12_part [.ref 200, .int x3, .int x5, .int 1, .int x2] ty h r g (fun (w2 : Int32) (h2 : pv_H) => vp_in x5 60 ∧ ((¬ (h2 336 (Int32.toNatClampNeg x5)) = x1 → pv_E Γ d kc ks mX12_rates 33 [some (.ref 200), some (.int x1), some (.int x2), some (.int x3), some (.int (x4 + w2)), some (.int (x5 + 1))] [] ty h2 r g Q) ∧ ((h2 336 (Int32.toNatClampNeg x5)) = x1 → pv_CJ Γ (d - 1) mX12_part [.ref 200, .int x3, .int x5, .int 0, .int x2] ty h2 r g (fun (w3 : Int32) (h3 : pv_H) => pv_E Γ d kc ks mX12_rates 33 [some (.ref 200), some (.int x1), some (.int x2), some (.int x3), some (.int ((x4 + w2) + w3)), some (.int (x5 + 1))] [] ty h3 r g Q))))))))))) : pv_E Γ d kc ks mX12_rates 33 [some (.ref 200), some (.int x1), some (.int x2), some (.int x3), some (.int x4), some (.int x5)] [] ty h r g Q := by
  refine pv_iload dX12_rates_33 rfl ?_
  refine pv_aload_n dX12_rates_35 rfl ?_
  refine pv_getI 12 33 dX12_rates_36 fl_X12_234 rfl (lt_200 hL) ?_
  refine pv_icmp_ge (tgt := 102) dX12_rates_39 (by decide) (fun c1 => ?_) (fun c1 => ?_)
  · have F := F.1 c1
    refine pv_iload dX12_rates_102 rfl ?_
    exact pv_ireturn dX12_rates_104 rfl rfl F
  · have F := F.2 c1
    refine pv_iload_n dX12_rates_42 rfl ?_
    refine pv_if_lt (tgt := 102) dX12_rates_43 (by decide) (fun c2 => ?_) (fun c2 => ?_)
    · have F := F.1 c2
      refine pv_iload dX12_rates_102 rfl ?_
      exact pv_ireturn dX12_rates_104 rfl rfl F
    · have F := F.2 c2
      refine pv_aload_n dX12_rates_46 rfl ?_
      refine pv_getRk 12 34 dX12_rates_47 fl_X12_84 rfl (lt_200 hL) (lr_200_34 hL) ?_
      refine pv_iload dX12_rates_50 rfl ?_
      obtain ⟨q1, F⟩ := F
      refine pv_iald dX12_rates_52 (lt_334 hL) q1 ?_
      refine pv_iload_n dX12_rates_53 rfl ?_
      refine pv_icmp_ne (tgt := 71) dX12_rates_54 (by decide) (fun c3 => ?_) (fun c3 => ?_)
      · have F := F.1 c3
        refine pv_aload_n dX12_rates_71 rfl ?_
        refine pv_getRk 12 36 dX12_rates_72 fl_X12_90 rfl (lt_200 hL) (lr_200_36 hL) ?_
        refine pv_iload dX12_rates_75 rfl ?_
        obtain ⟨q2, F⟩ := F
        refine pv_iald dX12_rates_77 (lt_336 hL) q2 ?_
        refine pv_iload_n dX12_rates_78 rfl ?_
        refine pv_icmp_ne (tgt := 96) dX12_rates_79 (by decide) (fun c4 => ?_) (fun c4 => ?_)
        · have F := F.1 c4
          refine pv_iinc (v := x5 + 1) (ls' := [some (.ref 200), some (.int x1), some (.int x2), some (.int x3), some (.int x4), some (.int (x5 + 1))]) dX12_rates_96 rfl (by rfl) rfl rfl ?_
          refine pv_goto (tgt := 33) dX12_rates_99 (by decide) ?_
          exact F
        · have F := F.2 c4
          refine pv_iload dX12_rates_82 rfl ?_
          refine pv_aload_n dX12_rates_84 rfl ?_
          refine pv_iload_n dX12_rates_85 rfl ?_
          refine pv_iload dX12_rates_86 rfl ?_
          refine pv_iconst (v := 0) (by decide) dX12_rates_88 ?_
          refine pv_iload_n dX12_rates_89 rfl ?_
          refine pv_pc (pc' := 90) rfl ?_
          refine pv_invV (As := [.int x3, .int x5, .int 0, .int x2]) (d' := d - 1) dX12_rates_90 moX12_part ml_X12_307 (lt_200 hL) (Or.inl ⟨_, rfl, rfl⟩) (Nat.le_of_ble_eq_true rfl) (by omega) (Nat.zero_le _) (Nat.zero_le _) F (fun v ty' h1 r' g' hq => ?_) rfl
          obtain ⟨e2, e4, e5, w1, e1, F⟩ := hq
          rw [e1, e2, e4, e5]
          refine pv_pc (pc' := 93) rfl ?_
          show pv_E Γ d kc ks mX12_rates 93 [some (.ref 200), some (.int x1), some (.int x2), some (.int x3), some (.int x4), some (.int x5)] [.int w1, .int x4] ty h1 r g Q
          refine pv_iadd dX12_rates_93 ?_
          refine pv_istore (ls' := [some (.ref 200), some (.int x1), some (.int x2), some (.int x3), some (.int (x4 + w1)), some (.int x5)]) dX12_rates_94 (by decide) rfl rfl ?_
          refine pv_iinc (v := x5 + 1) (ls' := [some (.ref 200), some (.int x1), some (.int x2), some (.int x3), some (.int (x4 + w1)), some (.int (x5 + 1))]) dX12_rates_96 rfl (by rfl) rfl rfl ?_
          refine pv_goto (tgt := 33) dX12_rates_99 (by decide) ?_
          exact F
      · have F := F.2 c3
        refine pv_iload dX12_rates_57 rfl ?_
        refine pv_aload_n dX12_rates_59 rfl ?_
        refine pv_iload_n dX12_rates_60 rfl ?_
        refine pv_iload dX12_rates_61 rfl ?_
        refine pv_iconst (v := 1) (by decide) dX12_rates_63 ?_
        refine pv_iload_n dX12_rates_64 rfl ?_
        refine pv_pc (pc' := 65) rfl ?_
        refine pv_invV (As := [.int x3, .int x5, .int 1, .int x2]) (d' := d - 1) dX12_rates_65 moX12_part ml_X12_307 (lt_200 hL) (Or.inl ⟨_, rfl, rfl⟩) (Nat.le_of_ble_eq_true rfl) (by omega) (Nat.zero_le _) (Nat.zero_le _) F (fun v ty' h2 r' g' hq => ?_) rfl
        obtain ⟨e2, e4, e5, w2, e1, F⟩ := hq
        rw [e1, e2, e4, e5]
        refine pv_pc (pc' := 68) rfl ?_
        show pv_E Γ d kc ks mX12_rates 68 [some (.ref 200), some (.int x1), some (.int x2), some (.int x3), some (.int x4), some (.int x5)] [.int w2, .int x4] ty h2 r g Q
        refine pv_iadd dX12_rates_68 ?_
        refine pv_istore (ls' := [some (.ref 200), some (.int x1), some (.int x2), some (.int x3), some (.int (x4 + w2)), some (.int x5)]) dX12_rates_69 (by decide) rfl rfl ?_
        refine pv_aload_n dX12_rates_71 rfl ?_
        refine pv_getRk 12 36 dX12_rates_72 fl_X12_90 rfl (lt_200 hL) (lr_200_36 hL) ?_
        refine pv_iload dX12_rates_75 rfl ?_
        obtain ⟨q3, F⟩ := F
        refine pv_iald dX12_rates_77 (lt_336 hL) q3 ?_
        refine pv_iload_n dX12_rates_78 rfl ?_
        refine pv_icmp_ne (tgt := 96) dX12_rates_79 (by decide) (fun c5 => ?_) (fun c5 => ?_)
        · have F := F.1 c5
          refine pv_iinc (v := x5 + 1) (ls' := [some (.ref 200), some (.int x1), some (.int x2), some (.int x3), some (.int (x4 + w2)), some (.int (x5 + 1))]) dX12_rates_96 rfl (by rfl) rfl rfl ?_
          refine pv_goto (tgt := 33) dX12_rates_99 (by decide) ?_
          exact F
        · have F := F.2 c5
          refine pv_iload dX12_rates_82 rfl ?_
          refine pv_aload_n dX12_rates_84 rfl ?_
          refine pv_iload_n dX12_rates_85 rfl ?_
          refine pv_iload dX12_rates_86 rfl ?_
          refine pv_iconst (v := 0) (by decide) dX12_rates_88 ?_
          refine pv_iload_n dX12_rates_89 rfl ?_
          refine pv_pc (pc' := 90) rfl ?_
          refine pv_invV (As := [.int x3, .int x5, .int 0, .int x2]) (d' := d - 1) dX12_rates_90 moX12_part ml_X12_307 (lt_200 hL) (Or.inl ⟨_, rfl, rfl⟩) (Nat.le_of_ble_eq_true rfl) (by omega) (Nat.zero_le _) (Nat.zero_le _) F (fun v ty' h3 r' g' hq => ?_) rfl
          obtain ⟨e2, e4, e5, w3, e1, F⟩ := hq
          rw [e1, e2, e4, e5]
          refine pv_pc (pc' := 93) rfl ?_
          show pv_E Γ d kc ks mX12_rates 93 [some (.ref 200), some (.int x1), some (.int x2), some (.int x3), some (.int (x4 + w2)), some (.int x5)] [.int w3, .int (x4 + w2)] ty h3 r g Q
          refine pv_iadd dX12_rates_93 ?_
          refine pv_istore (ls' := [some (.ref 200), some (.int x1), some (.int x2), some (.int x3), some (.int ((x4 + w2) + w3)), some (.int x5)]) dX12_rates_94 (by decide) rfl rfl ?_
          refine pv_iinc (v := x5 + 1) (ls' := [some (.ref 200), some (.int x1), some (.int x2), some (.int x3), some (.int ((x4 + w2) + w3)), some (.int (x5 + 1))]) dX12_rates_96 rfl (by rfl) rfl rfl ?_
          refine pv_goto (tgt := 33) dX12_rates_99 (by decide) ?_
          exact F
set_option maxRecDepth 20000 in
set_option maxHeartbeats 4000000 in
theorem sg_X11_rates_0 {Γ : pv_C} {d kc ks : Nat} {ty : pv_T} {h : pv_H} {r : pv_R} {g : pv_G} {Q : pv_Q} (x : Int32) (y : Int32) (hd : 2 ≤ d) (hL : pv_Lay ty r) (F : pv_CT Γ (d - 1) 0 0 mX11_findStreet [.ref 100, .int x] ty h r g (fun (v1 : Option Value) (ty1 : pv_T) (h1 : pv_H) (r1 : pv_R) (g1 : pv_G) => ∃ w1 : Nat, v1 = some (.ref w1) ∧ pv_Lay ty1 r1 ∧ ((w1 = 0 → Q (some (.int (-2000000000))) ty1 h1 r1 g1) ∧ (¬ w1 = 0 → ((¬ (pf_b (0 ≤ y ∧ y ≤ 9999)) = 0 → pv_CT Γ (d - 1) 0 0 mX1_findInForce [.ref 70, .int 0, .int y, .int y] ty1 h1 r1 g1 (fun (v2 : Option Value) (ty2 : pv_T) (h2 : pv_H) (r2 : pv_R) (g2 : pv_G) => ∃ w2 : Nat, v2 = some (.ref w2) ∧ pv_Lay ty2 r2 ∧ pv_E Γ d kc ks mX11_rates 35 [some (.ref 100), some (.int x), some (.int y), some (.ref w2), some (.int 0), some (.int 0), none] [] ty2 h2 r2 g2 Q)) ∧ ((pf_b (0 ≤ y ∧ y ≤ 9999)) = 0 → Q (some (.int (-2000000000))) ty1 h1 r1 g1)))))) : pv_E Γ d kc ks mX11_rates 0 [some (.ref 100), some (.int x), some (.int y), none, none, none, none] [] ty h r g Q := by
  refine pv_aload_n dX11_rates_0 rfl ?_
  refine pv_iload_n dX11_rates_1 rfl ?_
  refine pv_invV (As := [.int x]) (d' := d - 1) dX11_rates_2 moX11_findStreet ml_X11_80 (lt_100 hL) (Or.inl ⟨_, rfl, rfl⟩) (Nat.le_of_ble_eq_true rfl) (by omega) (Nat.zero_le _) (Nat.zero_le _) F (fun v1 ty1 h1 r1 g1 F => ?_) rfl
  obtain ⟨w1, rfl, F⟩ := F
  obtain ⟨hL1, F⟩ := F
  refine pv_pc (pc' := 5) rfl ?_
  show pv_E Γ d kc ks mX11_rates 5 [some (.ref 100), some (.int x), some (.int y), none, none, none, none] [.ref w1] ty1 h1 r1 g1 Q
  refine pv_ifnull (tgt := 15) dX11_rates_5 (by decide) (fun c1 => ?_) (fun c1 => ?_)
  · have F := F.1 c1
    refine pv_ldc (v := (-2000000000)) dX11_rates_15 kc_X11_209 ?_
    exact pv_ireturn dX11_rates_17 rfl rfl F
  · have F := F.2 c1
    refine pv_iload_n dX11_rates_8 rfl ?_
    refine pv_invS (As := [.int y]) (d' := d - 1) dX11_rates_9 moX11_isDay ml_X11_195 (Nat.le_of_ble_eq_true rfl) (by omega) (Nat.zero_le _) (Nat.zero_le _) (ct_X11_isDay (by omega)) (fun v ty' h' r' g' hq => ?_) rfl
    obtain ⟨e1, e2, e3, e4, e5⟩ := hq
    rw [e1, e2, e3, e4, e5]
    refine pv_pc (pc' := 12) rfl ?_
    show pv_E Γ d kc ks mX11_rates 12 [some (.ref 100), some (.int x), some (.int y), none, none, none, none] [.int (pf_b (0 ≤ y ∧ y ≤ 9999))] ty1 h1 r1 g1 Q
    refine pv_if_ne (tgt := 18) dX11_rates_12 (by decide) (fun c2 => ?_) (fun c2 => ?_)
    · have F := F.1 c2
      refine pv_aload_n dX11_rates_18 rfl ?_
      refine pv_getRk 11 10 dX11_rates_19 fl_X11_52 rfl (lt_100 hL1) (lr_100_10 hL1) ?_
      refine pv_iconst (v := 0) (by decide) dX11_rates_22 ?_
      refine pv_iload_n dX11_rates_23 rfl ?_
      refine pv_iload_n dX11_rates_24 rfl ?_
      refine pv_invV (As := [.int 0, .int y, .int y]) (d' := d - 1) dX11_rates_25 moX1_findInForce ml_X11_210 (lt_70 hL1) (Or.inl ⟨_, rfl, rfl⟩) (Nat.le_of_ble_eq_true rfl) (by omega) (Nat.zero_le _) (Nat.zero_le _) F (fun v2 ty2 h2 r2 g2 F => ?_) rfl
      obtain ⟨w2, rfl, F⟩ := F
      obtain ⟨hL2, F⟩ := F
      refine pv_pc (pc' := 28) rfl ?_
      show pv_E Γ d kc ks mX11_rates 28 [some (.ref 100), some (.int x), some (.int y), none, none, none, none] [.ref w2] ty2 h2 r2 g2 Q
      refine pv_astore_n (ls' := [some (.ref 100), some (.int x), some (.int y), some (.ref w2), none, none, none]) dX11_rates_28 (by decide) rfl rfl ?_
      refine pv_iconst (v := 0) (by decide) dX11_rates_29 ?_
      refine pv_istore (ls' := [some (.ref 100), some (.int x), some (.int y), some (.ref w2), some (.int 0), none, none]) dX11_rates_30 (by decide) rfl rfl ?_
      refine pv_iconst (v := 0) (by decide) dX11_rates_32 ?_
      refine pv_istore (ls' := [some (.ref 100), some (.int x), some (.int y), some (.ref w2), some (.int 0), some (.int 0), none]) dX11_rates_33 (by decide) rfl rfl ?_
      exact F
    · have F := F.2 c2
      refine pv_ldc (v := (-2000000000)) dX11_rates_15 kc_X11_209 ?_
      exact pv_ireturn dX11_rates_17 rfl rfl F
set_option maxRecDepth 20000 in
set_option maxHeartbeats 4000000 in
theorem sg_X11_rates_35 {Γ : pv_C} {d kc ks : Nat} {ty : pv_T} {h : pv_H} {r : pv_R} {g : pv_G} {Q : pv_Q} (x1 : Int32) (x2 : Int32) (a3 : Nat) (x4 : Int32) (x5 : Int32) (hd : 1 ≤ d) (hL : pv_Lay ty r) (F : (((h 100 8) ≤ x5 → Q (some (.int x4)) ty h r g) ∧ (¬ (h 100 8) ≤ x5 → vp_in x5 60 ∧ (((r 117 (Int32.toNatClampNeg x5)) = 0 → pv_E Γ d kc ks mX11_rates 35 [some (.ref 100), some (.int x1), some (.int x2), some (.ref a3), some (.int x4), some (.int (x5 + 1)), none] [] ty h r g Q) ∧ (¬ (r 117 (Int32.toNatClampNeg x5)) = 0 → ty (r 117 (Int32.toNatClampNeg x5)) = some (3, 0) ∧ (ty (r 117 (Int32.toNatClampNeg x5)) = some (3, 0)) ∧ (((pf_b (h (r 117 (Int32.toNatClampNeg x5)) 0 = x1 ∨ h (r 117 (Int32.toNatClampNeg x5)) 2 = x1)) = 0 → pv_E Γ d kc ks mX11_rates 35 [some (.ref 100), some (.int x1), some (.int x2), some (.ref a3), some (.int x4), some (.int (x5 + 1)), none] [] ty h r g Q) ∧ (¬ (pf_b (h (r 117 (Int32.toNatClampNeg x5)) 0 = x1 ∨ h (r 117 (Int32.toNatClampNeg x5)) 2 = x1)) = 0 → ty (r 117 (Int32.toNatClampNeg x5)) = some (3, 0) ∧ (((h (r 117 (Int32.toNatClampNeg x5)) 0) = x1 → pv_CT Γ (d - 1) 0 0 mX1_givePart [.ref 70, .ref a3, .ref (r 117 (Int32.toNatClampNeg x5)), .int 0, .int x2] ty h r g (fun (v1 : Option Value) (ty1 : pv_T) (h1 : pv_H) (r1 : pv_R) (g1 : pv_G) => ∃ w1 : Int32, v1 = some (.int w1) ∧ pv_Lay ty1 r1 ∧ pv_E Γ d kc ks mX11_rates 35 [some (.ref 100), some (.int x1), some (.int x2), some (.ref a3), some (.int (x4 + w1)), some (.int (x5 + 1)), none] [] ty1 h1 r1 g1 Q)) ∧ (¬ (h (r 117 (Int32.toNatClampNeg x5)) 0) = x1 → pv_CT Γ (d - 1) 0 0 mX1_givePart [.ref 70, .ref a3, .ref (r 117 (Int32.toNatClampNeg x5)), .int 1, .int x2] ty h r g (fun (v2 : Option Value) (ty2 : pv_T) (h2 : pv_H) (r2 : pv_R) (g2 : pv_G) => ∃ w2 : Int32, v2 = some (.int w2) ∧ pv_Lay ty2 r2 ∧ pv_E Γ d kc ks mX11_rates 35 [some (.ref 100), some (.int x1), some (.int x2), some (.ref a3), some (.int (x4 + w2)), some (.int (x5 + 1)), none] [] ty2 h2 r2 g2 Q)))))))))) : pv_E Γ d kc ks mX11_rates 35 [some (.ref 100), some (.int x1), some (.int x2), some (.ref a3), some (.int x4), some (.int x5), none] [] ty h r g Q := by
  refine pv_iload dX11_rates_35 rfl ?_
  refine pv_aload_n dX11_rates_37 rfl ?_
  refine pv_getI 11 8 dX11_rates_38 fl_X11_182 rfl (lt_100 hL) ?_
  refine pv_icmp_ge (tgt := 103) dX11_rates_41 (by decide) (fun c1 => ?_) (fun c1 => ?_)
  · have F := F.1 c1
    refine pv_iload dX11_rates_103 rfl ?_
    exact pv_ireturn dX11_rates_105 rfl rfl F
  · have F := F.2 c1
    refine pv_aload_n dX11_rates_44 rfl ?_
    refine pv_getRk 11 7 dX11_rates_45 fl_X11_45 rfl (lt_100 hL) (lr_100_7 hL) ?_
    refine pv_iload dX11_rates_48 rfl ?_
    obtain ⟨q1, F⟩ := F
    refine pv_aald dX11_rates_50 (lt_117 hL) (by decide) q1 ?_
    refine pv_astore (ls' := [some (.ref 100), some (.int x1), some (.int x2), some (.ref a3), some (.int x4), some (.int x5), some (.ref (r 117 (Int32.toNatClampNeg x5)))]) dX11_rates_51 (by decide) rfl rfl ?_
    refine pv_aload dX11_rates_53 rfl ?_
    refine pv_ifnull (tgt := 97) dX11_rates_55 (by decide) (fun c2 => ?_) (fun c2 => ?_)
    · have F := F.1 c2
      refine pv_iinc (v := x5 + 1) (ls' := [some (.ref 100), some (.int x1), some (.int x2), some (.ref a3), some (.int x4), some (.int (x5 + 1)), some (.ref (r 117 (Int32.toNatClampNeg x5)))]) dX11_rates_97 rfl (by rfl) rfl rfl ?_
      refine pv_goto (tgt := 35) dX11_rates_100 (by decide) ?_
      refine pv_forgetL (ls' := [some (.ref 100), some (.int x1), some (.int x2), some (.ref a3), some (.int x4), some (.int (x5 + 1)), none]) (pv_subL_ok ⟨rfl, ⟨rfl, ⟨rfl, ⟨rfl, ⟨rfl, ⟨rfl, trivial⟩⟩⟩⟩⟩⟩) ?_
      exact F
    · have F := F.2 c2
      refine pv_aload dX11_rates_58 rfl ?_
      refine pv_iload_n dX11_rates_60 rfl ?_
      obtain ⟨q2, F⟩ := F
      obtain ⟨q3, F⟩ := F
      refine pv_invV (As := [.int x1]) (d' := d - 1) dX11_rates_61 moX3_hasPartIn ml_X11_222 q2 (Or.inl ⟨_, rfl, rfl⟩) (Nat.le_of_ble_eq_true rfl) (by omega) (Nat.zero_le _) (Nat.zero_le _) (ct_X3_hasPartIn (by omega) q3) (fun v ty' h' r' g' hq => ?_) rfl
      obtain ⟨e1, e2, e3, e4, e5⟩ := hq
      rw [e1, e2, e3, e4, e5]
      refine pv_pc (pc' := 64) rfl ?_
      show pv_E Γ d kc ks mX11_rates 64 [some (.ref 100), some (.int x1), some (.int x2), some (.ref a3), some (.int x4), some (.int x5), some (.ref (r 117 (Int32.toNatClampNeg x5)))] [.int (pf_b (h (r 117 (Int32.toNatClampNeg x5)) 0 = x1 ∨ h (r 117 (Int32.toNatClampNeg x5)) 2 = x1))] ty h r g Q
      refine pv_if_eq (tgt := 97) dX11_rates_64 (by decide) (fun c3 => ?_) (fun c3 => ?_)
      · have F := F.1 c3
        refine pv_iinc (v := x5 + 1) (ls' := [some (.ref 100), some (.int x1), some (.int x2), some (.ref a3), some (.int x4), some (.int (x5 + 1)), some (.ref (r 117 (Int32.toNatClampNeg x5)))]) dX11_rates_97 rfl (by rfl) rfl rfl ?_
        refine pv_goto (tgt := 35) dX11_rates_100 (by decide) ?_
        refine pv_forgetL (ls' := [some (.ref 100), some (.int x1), some (.int x2), some (.ref a3), some (.int x4), some (.int (x5 + 1)), none]) (pv_subL_ok ⟨rfl, ⟨rfl, ⟨rfl, ⟨rfl, ⟨rfl, ⟨rfl, trivial⟩⟩⟩⟩⟩⟩) ?_
        exact F
      · have F := F.2 c3
        refine pv_iload dX11_rates_67 rfl ?_
        refine pv_aload_n dX11_rates_69 rfl ?_
        refine pv_getRk 11 10 dX11_rates_70 fl_X11_52 rfl (lt_100 hL) (lr_100_10 hL) ?_
        refine pv_aload_n dX11_rates_73 rfl ?_
        refine pv_aload dX11_rates_74 rfl ?_
        refine pv_aload dX11_rates_76 rfl ?_
        refine pv_pc (pc' := 78) rfl ?_
        obtain ⟨q4, F⟩ := F
        refine pv_getI 3 0 dX11_rates_78 fl_X11_225 rfl q4 ?_
        refine pv_iload_n dX11_rates_81 rfl ?_
        refine pv_icmp_eq (tgt := 89) dX11_rates_82 (by decide) (fun c4 => ?_) (fun c4 => ?_)
        · have F := F.1 c4
          refine pv_iconst (v := 0) (by decide) dX11_rates_89 ?_
          refine pv_iload_n dX11_rates_90 rfl ?_
          refine pv_invV (As := [.ref a3, .ref (r 117 (Int32.toNatClampNeg x5)), .int 0, .int x2]) (d' := d - 1) dX11_rates_91 moX1_givePart ml_X11_214 (lt_70 hL) (Or.inl ⟨_, rfl, rfl⟩) (Nat.le_of_ble_eq_true rfl) (by omega) (Nat.zero_le _) (Nat.zero_le _) F (fun v1 ty1 h1 r1 g1 F => ?_) rfl
          obtain ⟨w1, rfl, F⟩ := F
          obtain ⟨hL1, F⟩ := F
          refine pv_pc (pc' := 94) rfl ?_
          show pv_E Γ d kc ks mX11_rates 94 [some (.ref 100), some (.int x1), some (.int x2), some (.ref a3), some (.int x4), some (.int x5), some (.ref (r 117 (Int32.toNatClampNeg x5)))] [.int w1, .int x4] ty1 h1 r1 g1 Q
          refine pv_iadd dX11_rates_94 ?_
          refine pv_istore (ls' := [some (.ref 100), some (.int x1), some (.int x2), some (.ref a3), some (.int (x4 + w1)), some (.int x5), some (.ref (r 117 (Int32.toNatClampNeg x5)))]) dX11_rates_95 (by decide) rfl rfl ?_
          refine pv_iinc (v := x5 + 1) (ls' := [some (.ref 100), some (.int x1), some (.int x2), some (.ref a3), some (.int (x4 + w1)), some (.int (x5 + 1)), some (.ref (r 117 (Int32.toNatClampNeg x5)))]) dX11_rates_97 rfl (by rfl) rfl rfl ?_
          refine pv_goto (tgt := 35) dX11_rates_100 (by decide) ?_
          refine pv_forgetL (ls' := [some (.ref 100), some (.int x1), some (.int x2), some (.ref a3), some (.int (x4 + w1)), some (.int (x5 + 1)), none]) (pv_subL_ok ⟨rfl, ⟨rfl, ⟨rfl, ⟨rfl, ⟨rfl, ⟨rfl, trivial⟩⟩⟩⟩⟩⟩) ?_
          exact F
        · have F := F.2 c4
          refine pv_iconst (v := 1) (by decide) dX11_rates_85 ?_
          refine pv_goto (tgt := 90) dX11_rates_86 (by decide) ?_
          refine pv_iload_n dX11_rates_90 rfl ?_
          refine pv_invV (As := [.ref a3, .ref (r 117 (Int32.toNatClampNeg x5)), .int 1, .int x2]) (d' := d - 1) dX11_rates_91 moX1_givePart ml_X11_214 (lt_70 hL) (Or.inl ⟨_, rfl, rfl⟩) (Nat.le_of_ble_eq_true rfl) (by omega) (Nat.zero_le _) (Nat.zero_le _) F (fun v2 ty2 h2 r2 g2 F => ?_) rfl
          obtain ⟨w2, rfl, F⟩ := F
          obtain ⟨hL2, F⟩ := F
          refine pv_pc (pc' := 94) rfl ?_
          show pv_E Γ d kc ks mX11_rates 94 [some (.ref 100), some (.int x1), some (.int x2), some (.ref a3), some (.int x4), some (.int x5), some (.ref (r 117 (Int32.toNatClampNeg x5)))] [.int w2, .int x4] ty2 h2 r2 g2 Q
          refine pv_iadd dX11_rates_94 ?_
          refine pv_istore (ls' := [some (.ref 100), some (.int x1), some (.int x2), some (.ref a3), some (.int (x4 + w2)), some (.int x5), some (.ref (r 117 (Int32.toNatClampNeg x5)))]) dX11_rates_95 (by decide) rfl rfl ?_
          refine pv_iinc (v := x5 + 1) (ls' := [some (.ref 100), some (.int x1), some (.int x2), some (.ref a3), some (.int (x4 + w2)), some (.int (x5 + 1)), some (.ref (r 117 (Int32.toNatClampNeg x5)))]) dX11_rates_97 rfl (by rfl) rfl rfl ?_
          refine pv_goto (tgt := 35) dX11_rates_100 (by decide) ?_
          refine pv_forgetL (ls' := [some (.ref 100), some (.int x1), some (.int x2), some (.ref a3), some (.int (x4 + w2)), some (.int (x5 + 1)), none]) (pv_subL_ok ⟨rfl, ⟨rfl, ⟨rfl, ⟨rfl, ⟨rfl, ⟨rfl, trivial⟩⟩⟩⟩⟩⟩) ?_
          exact F
set_option maxRecDepth 20000 in
set_option maxHeartbeats 4000000 in
theorem sg_X12_clause_0 {Γ : pv_C} {d kc ks : Nat} {ty : pv_T} {h : pv_H} {r : pv_R} {g : pv_G} {Q : pv_Q} (x : Int32) (y : Int32) (hd : 2 ≤ d) (hL : pv_Lay ty r) (F : (((pf_b (0 ≤ x ∧ x ≤ h 200 33 - 1)) = 0 → Q (some (.int (-1))) ty h r g) ∧ (¬ (pf_b (0 ≤ x ∧ x ≤ h 200 33 - 1)) = 0 → ((¬ (pf_b (0 ≤ y ∧ y ≤ 9999)) = 0 → pv_CJ Γ (d - 1) mX12_forceOn [.ref 200, .int 0, .int y, .int y] ty h r g (fun (w1 : Int32) (h1 : pv_H) => ((0 ≤ w1 → pv_CJ Γ (d - 1) mX12_part [.ref 200, .int w1, .int x, .int 1, .int y] ty h1 r g (fun (w2 : Int32) (h2 : pv_H) => ((0 ≤ (h2 200 54) → Q (some (.int (h2 200 54))) ty h2 r g) ∧ (¬ 0 ≤ (h2 200 54) → Q (some (.int (-2))) ty h2 r g)))) ∧ (¬ 0 ≤ w1 → Q (some (.int (-2))) ty h1 r g)))) ∧ ((pf_b (0 ≤ y ∧ y ≤ 9999)) = 0 → Q (some (.int (-1))) ty h r g))))) : pv_E Γ d kc ks mX12_clause 0 [some (.ref 200), some (.int x), some (.int y), none, none] [] ty h r g Q := by
  refine pv_aload_n dX12_clause_0 rfl ?_
  refine pv_iload_n dX12_clause_1 rfl ?_
  refine pv_invV (As := [.int x]) (d' := d - 1) dX12_clause_2 moX12_isHouse ml_X12_303 (lt_200 hL) (Or.inl ⟨_, rfl, rfl⟩) (Nat.le_of_ble_eq_true rfl) (by omega) (Nat.zero_le _) (Nat.zero_le _) (ct_X12_isHouse (by omega) hL) (fun v ty' h' r' g' hq => ?_) rfl
  obtain ⟨e1, e2, e3, e4, e5⟩ := hq
  rw [e1, e2, e3, e4, e5]
  refine pv_pc (pc' := 5) rfl ?_
  show pv_E Γ d kc ks mX12_clause 5 [some (.ref 200), some (.int x), some (.int y), none, none] [.int (pf_b (0 ≤ x ∧ x ≤ h 200 33 - 1))] ty h r g Q
  refine pv_if_eq (tgt := 15) dX12_clause_5 (by decide) (fun c1 => ?_) (fun c1 => ?_)
  · have F := F.1 c1
    refine pv_iconst (v := (-1)) (by decide) dX12_clause_15 ?_
    exact pv_ireturn dX12_clause_16 rfl rfl F
  · have F := F.2 c1
    refine pv_iload_n dX12_clause_8 rfl ?_
    refine pv_invS (As := [.int y]) (d' := d - 1) dX12_clause_9 moX12_isDay ml_X12_285 (Nat.le_of_ble_eq_true rfl) (by omega) (Nat.zero_le _) (Nat.zero_le _) (ct_X12_isDay (by omega)) (fun v ty' h' r' g' hq => ?_) rfl
    obtain ⟨e1, e2, e3, e4, e5⟩ := hq
    rw [e1, e2, e3, e4, e5]
    refine pv_pc (pc' := 12) rfl ?_
    show pv_E Γ d kc ks mX12_clause 12 [some (.ref 200), some (.int x), some (.int y), none, none] [.int (pf_b (0 ≤ y ∧ y ≤ 9999))] ty h r g Q
    refine pv_if_ne (tgt := 17) dX12_clause_12 (by decide) (fun c2 => ?_) (fun c2 => ?_)
    · have F := F.1 c2
      refine pv_aload_n dX12_clause_17 rfl ?_
      refine pv_iconst (v := 0) (by decide) dX12_clause_18 ?_
      refine pv_iload_n dX12_clause_19 rfl ?_
      refine pv_iload_n dX12_clause_20 rfl ?_
      refine pv_invV (As := [.int 0, .int y, .int y]) (d' := d - 1) dX12_clause_21 moX12_forceOn ml_X12_288 (lt_200 hL) (Or.inl ⟨_, rfl, rfl⟩) (Nat.le_of_ble_eq_true rfl) (by omega) (Nat.zero_le _) (Nat.zero_le _) F (fun v ty' h1 r' g' hq => ?_) rfl
      obtain ⟨e2, e4, e5, w1, e1, F⟩ := hq
      rw [e1, e2, e4, e5]
      refine pv_pc (pc' := 24) rfl ?_
      show pv_E Γ d kc ks mX12_clause 24 [some (.ref 200), some (.int x), some (.int y), none, none] [.int w1] ty h1 r g Q
      refine pv_istore_n (ls' := [some (.ref 200), some (.int x), some (.int y), some (.int w1), none]) dX12_clause_24 (by decide) rfl rfl ?_
      refine pv_iload_n dX12_clause_25 rfl ?_
      refine pv_if_ge (tgt := 32) dX12_clause_26 (by decide) (fun c3 => ?_) (fun c3 => ?_)
      · have F := F.1 c3
        refine pv_aload_n dX12_clause_32 rfl ?_
        refine pv_iload_n dX12_clause_33 rfl ?_
        refine pv_iload_n dX12_clause_34 rfl ?_
        refine pv_iconst (v := 1) (by decide) dX12_clause_35 ?_
        refine pv_iload_n dX12_clause_36 rfl ?_
        refine pv_invV (As := [.int w1, .int x, .int 1, .int y]) (d' := d - 1) dX12_clause_37 moX12_part ml_X12_307 (lt_200 hL) (Or.inl ⟨_, rfl, rfl⟩) (Nat.le_of_ble_eq_true rfl) (by omega) (Nat.zero_le _) (Nat.zero_le _) F (fun v ty' h2 r' g' hq => ?_) rfl
        obtain ⟨e2, e4, e5, w2, e1, F⟩ := hq
        rw [e1, e2, e4, e5]
        refine pv_pc (pc' := 40) rfl ?_
        show pv_E Γ d kc ks mX12_clause 40 [some (.ref 200), some (.int x), some (.int y), some (.int w1), none] [.int w2] ty h2 r g Q
        refine pv_istore (ls' := [some (.ref 200), some (.int x), some (.int y), some (.int w1), some (.int w2)]) dX12_clause_40 (by decide) rfl rfl ?_
        refine pv_aload_n dX12_clause_42 rfl ?_
        refine pv_getI 12 54 dX12_clause_43 fl_X12_291 rfl (lt_200 hL) ?_
        refine pv_if_ge (tgt := 54) dX12_clause_46 (by decide) (fun c4 => ?_) (fun c4 => ?_)
        · have F := F.1 c4
          refine pv_aload_n dX12_clause_54 rfl ?_
          refine pv_getI 12 54 dX12_clause_55 fl_X12_291 rfl (lt_200 hL) ?_
          exact pv_ireturn dX12_clause_58 rfl rfl F
        · have F := F.2 c4
          refine pv_bipush (v := (-2)) (by decide) dX12_clause_49 ?_
          refine pv_goto (tgt := 58) dX12_clause_51 (by decide) ?_
          exact pv_ireturn dX12_clause_58 rfl rfl F
      · have F := F.2 c3
        refine pv_bipush (v := (-2)) (by decide) dX12_clause_29 ?_
        exact pv_ireturn dX12_clause_31 rfl rfl F
    · have F := F.2 c2
      refine pv_iconst (v := (-1)) (by decide) dX12_clause_15 ?_
      exact pv_ireturn dX12_clause_16 rfl rfl F
set_option maxRecDepth 20000 in
set_option maxHeartbeats 4000000 in
theorem sg_X11_clause_0 {Γ : pv_C} {d kc ks : Nat} {ty : pv_T} {h : pv_H} {r : pv_R} {g : pv_G} {Q : pv_Q} (x : Int32) (y : Int32) (hd : 2 ≤ d) (hL : pv_Lay ty r) (F : pv_CT Γ (d - 1) 0 0 mX11_findHouse [.ref 100, .int x] ty h r g (fun (v1 : Option Value) (ty1 : pv_T) (h1 : pv_H) (r1 : pv_R) (g1 : pv_G) => ∃ w1 : Nat, v1 = some (.ref w1) ∧ pv_Lay ty1 r1 ∧ ((w1 = 0 → Q (some (.int (-1))) ty1 h1 r1 g1) ∧ (¬ w1 = 0 → ((¬ (pf_b (0 ≤ y ∧ y ≤ 9999)) = 0 → pv_CT Γ (d - 1) 0 0 mX1_findInForce [.ref 70, .int 0, .int y, .int y] ty1 h1 r1 g1 (fun (v2 : Option Value) (ty2 : pv_T) (h2 : pv_H) (r2 : pv_R) (g2 : pv_G) => ∃ w2 : Nat, v2 = some (.ref w2) ∧ pv_Lay ty2 r2 ∧ ((¬ w2 = 0 → pv_CT Γ (d - 1) 0 0 mX1_givePart [.ref 70, .ref w2, .ref w1, .int 0, .int y] ty2 h2 r2 g2 (fun (v3 : Option Value) (ty3 : pv_T) (h3 : pv_H) (r3 : pv_R) (g3 : pv_G) => ∃ w3 : Int32, v3 = some (.int w3) ∧ pv_Lay ty3 r3 ∧ ((¬ (h3 80 6) = (-1) → Q (some (.int (h3 80 6))) ty3 h3 r3 g3) ∧ ((h3 80 6) = (-1) → Q (some (.int (-2))) ty3 h3 r3 g3)))) ∧ (w2 = 0 → Q (some (.int (-2))) ty2 h2 r2 g2)))) ∧ ((pf_b (0 ≤ y ∧ y ≤ 9999)) = 0 → Q (some (.int (-1))) ty1 h1 r1 g1)))))) : pv_E Γ d kc ks mX11_clause 0 [some (.ref 100), some (.int x), some (.int y), none, none, none] [] ty h r g Q := by
  refine pv_aload_n dX11_clause_0 rfl ?_
  refine pv_iload_n dX11_clause_1 rfl ?_
  refine pv_invV (As := [.int x]) (d' := d - 1) dX11_clause_2 moX11_findHouse ml_X11_205 (lt_100 hL) (Or.inl ⟨_, rfl, rfl⟩) (Nat.le_of_ble_eq_true rfl) (by omega) (Nat.zero_le _) (Nat.zero_le _) F (fun v1 ty1 h1 r1 g1 F => ?_) rfl
  obtain ⟨w1, rfl, F⟩ := F
  obtain ⟨hL1, F⟩ := F
  refine pv_pc (pc' := 5) rfl ?_
  show pv_E Γ d kc ks mX11_clause 5 [some (.ref 100), some (.int x), some (.int y), none, none, none] [.ref w1] ty1 h1 r1 g1 Q
  refine pv_astore_n (ls' := [some (.ref 100), some (.int x), some (.int y), some (.ref w1), none, none]) dX11_clause_5 (by decide) rfl rfl ?_
  refine pv_aload_n dX11_clause_6 rfl ?_
  refine pv_ifnull (tgt := 17) dX11_clause_7 (by decide) (fun c1 => ?_) (fun c1 => ?_)
  · have F := F.1 c1
    refine pv_iconst (v := (-1)) (by decide) dX11_clause_17 ?_
    exact pv_ireturn dX11_clause_18 rfl rfl F
  · have F := F.2 c1
    refine pv_iload_n dX11_clause_10 rfl ?_
    refine pv_invS (As := [.int y]) (d' := d - 1) dX11_clause_11 moX11_isDay ml_X11_195 (Nat.le_of_ble_eq_true rfl) (by omega) (Nat.zero_le _) (Nat.zero_le _) (ct_X11_isDay (by omega)) (fun v ty' h' r' g' hq => ?_) rfl
    obtain ⟨e1, e2, e3, e4, e5⟩ := hq
    rw [e1, e2, e3, e4, e5]
    refine pv_pc (pc' := 14) rfl ?_
    show pv_E Γ d kc ks mX11_clause 14 [some (.ref 100), some (.int x), some (.int y), some (.ref w1), none, none] [.int (pf_b (0 ≤ y ∧ y ≤ 9999))] ty1 h1 r1 g1 Q
    refine pv_if_ne (tgt := 19) dX11_clause_14 (by decide) (fun c2 => ?_) (fun c2 => ?_)
    · have F := F.1 c2
      refine pv_aload_n dX11_clause_19 rfl ?_
      refine pv_getRk 11 10 dX11_clause_20 fl_X11_52 rfl (lt_100 hL1) (lr_100_10 hL1) ?_
      refine pv_iconst (v := 0) (by decide) dX11_clause_23 ?_
      refine pv_iload_n dX11_clause_24 rfl ?_
      refine pv_iload_n dX11_clause_25 rfl ?_
      refine pv_invV (As := [.int 0, .int y, .int y]) (d' := d - 1) dX11_clause_26 moX1_findInForce ml_X11_210 (lt_70 hL1) (Or.inl ⟨_, rfl, rfl⟩) (Nat.le_of_ble_eq_true rfl) (by omega) (Nat.zero_le _) (Nat.zero_le _) F (fun v2 ty2 h2 r2 g2 F => ?_) rfl
      obtain ⟨w2, rfl, F⟩ := F
      obtain ⟨hL2, F⟩ := F
      refine pv_pc (pc' := 29) rfl ?_
      show pv_E Γ d kc ks mX11_clause 29 [some (.ref 100), some (.int x), some (.int y), some (.ref w1), none, none] [.ref w2] ty2 h2 r2 g2 Q
      refine pv_astore (ls' := [some (.ref 100), some (.int x), some (.int y), some (.ref w1), some (.ref w2), none]) dX11_clause_29 (by decide) rfl rfl ?_
      refine pv_aload dX11_clause_31 rfl ?_
      refine pv_ifnonnull (tgt := 39) dX11_clause_33 (by decide) (fun c3 => ?_) (fun c3 => ?_)
      · have F := F.1 c3
        refine pv_aload_n dX11_clause_39 rfl ?_
        refine pv_getRk 11 10 dX11_clause_40 fl_X11_52 rfl (lt_100 hL2) (lr_100_10 hL2) ?_
        refine pv_aload dX11_clause_43 rfl ?_
        refine pv_aload_n dX11_clause_45 rfl ?_
        refine pv_iconst (v := 0) (by decide) dX11_clause_46 ?_
        refine pv_iload_n dX11_clause_47 rfl ?_
        refine pv_pc (pc' := 48) rfl ?_
        refine pv_invV (As := [.ref w2, .ref w1, .int 0, .int y]) (d' := d - 1) dX11_clause_48 moX1_givePart ml_X11_214 (lt_70 hL2) (Or.inl ⟨_, rfl, rfl⟩) (Nat.le_of_ble_eq_true rfl) (by omega) (Nat.zero_le _) (Nat.zero_le _) F (fun v3 ty3 h3 r3 g3 F => ?_) rfl
        obtain ⟨w3, rfl, F⟩ := F
        obtain ⟨hL3, F⟩ := F
        refine pv_pc (pc' := 51) rfl ?_
        show pv_E Γ d kc ks mX11_clause 51 [some (.ref 100), some (.int x), some (.int y), some (.ref w1), some (.ref w2), none] [.int w3] ty3 h3 r3 g3 Q
        refine pv_pop rfl dX11_clause_51 ?_
        refine pv_aload_n dX11_clause_52 rfl ?_
        refine pv_getRk 11 10 dX11_clause_53 fl_X11_52 rfl (lt_100 hL3) (lr_100_10 hL3) ?_
        refine pv_getRk 1 2 dX11_clause_56 fl_X11_228 rfl (lt_70 hL3) (lr_70_2 hL3) ?_
        refine pv_getI 9 6 dX11_clause_59 fl_X11_232 rfl (lt_80 hL3) ?_
        refine pv_istore (ls' := [some (.ref 100), some (.int x), some (.int y), some (.ref w1), some (.ref w2), some (.int (h3 80 6))]) dX11_clause_62 (by decide) rfl rfl ?_
        refine pv_pc (pc' := 64) rfl ?_
        refine pv_iload dX11_clause_64 rfl ?_
        refine pv_iconst (v := (-1)) (by decide) dX11_clause_66 ?_
        refine pv_icmp_ne (tgt := 75) dX11_clause_67 (by decide) (fun c4 => ?_) (fun c4 => ?_)
        · have F := F.1 c4
          refine pv_iload dX11_clause_75 rfl ?_
          exact pv_ireturn dX11_clause_77 rfl rfl F
        · have F := F.2 c4
          refine pv_bipush (v := (-2)) (by decide) dX11_clause_70 ?_
          refine pv_goto (tgt := 77) dX11_clause_72 (by decide) ?_
          exact pv_ireturn dX11_clause_77 rfl rfl F
      · have F := F.2 c3
        refine pv_bipush (v := (-2)) (by decide) dX11_clause_36 ?_
        exact pv_ireturn dX11_clause_38 rfl rfl F
    · have F := F.2 c2
      refine pv_iconst (v := (-1)) (by decide) dX11_clause_17 ?_
      exact pv_ireturn dX11_clause_18 rfl rfl F
section RT
variable {Γ : pv_C} {d kc ks : Nat} {ty : pv_T} {h : pv_H} {r : pv_R} {g : pv_G} {Q : pv_Q} {o i : Nat} {u : Int32} {cs : List tx_C}
theorem pt_Vm {f : Nat → Int32} {V : Nat → Int32} (h0 : f 102 = V 102) (h1 : f 103 = V 103) (h2 : f 118 = V 118) (h3 : f 115 = V 115) (h4 : f 99 = V 99) (h5 : f 121 = V 121) : ∀ c ∈ tx_nm 0, f c = V c := by
  intro c hc
  have e : tx_nm 0 = [102, 103, 118, 115, 99, 121] := rfl
  rw [e] at hc
  simp only [List.mem_cons, List.not_mem_nil, or_false] at hc
  rcases hc with rfl | rfl | rfl | rfl | rfl | rfl
  · exact h0
  · exact h1
  · exact h2
  · exact h3
  · exact h4
  · exact h5
theorem pt_M_fr {K : Nat} {h h' : pv_H} (hf : pv_fr gmA h h') (hM : pt_M K cs h o) : pt_M K cs h' o := by
  obtain ⟨a1, a2, a3, a4⟩ := hM
  exact ⟨a1, ⟨(hf 345 o (by unfold gmA; omega)).trans a2.1, ps_s_c (fun j _ => ⟨hf 346 _ (by unfold gmA; omega), hf 347 _ (by unfold gmA; omega)⟩) a2.2⟩, a3, a4⟩
theorem ct_X12_part (hd : 2 ≤ d) (hL : pv_Lay ty r) (hM : pt_M 0 cs h o) (hi : i < 60) (hok : hs_ok h i) {sec : Bool} : pv_CJ Γ d mX12_part [.ref 200, .int (nI o), .int (nI i), .int (pb (!sec)), .int u] ty h r g (fun w h' => pv_fr gmA h h' ∧ w = pt_cl (tx_val (pt_V h i sec u) cs 0).1 ∧ h' 200 54 = (tx_val (pt_V h i sec u) cs 0).2) := by
  have hin : vp_in (nI i) 60 := vp_in_nI hi (by decide)
  have hc : (nI i).toNatClampNeg = i := nI_clamp (by omega)
  have hne : ∀ (a : pv_H) (x : Int32) (j b m : Nat), b ≠ 352 → (pv_up a 352 j x) b m = a b m := fun a x j b m hb => pv_up_a hb
  have l : ∀ n, n < 128 → vp_in (nI n) 128 := fun n hn => in_lit hn (by decide)
  have main : ∀ v0 v1 v3 : Int32, v0 = pt_V h i sec u 102 → v1 = pt_V h i sec u 103 → v3 = pt_V h i sec u 115 → pv_E Γ d 0 0 mX12_part 91 [some (.ref 200), some (.int (nI o)), some (.int (nI i)), none, some (.int u)] [] ty (pv_up (pv_up (pv_up (pv_up h 352 102 v0) 352 103 v1) 352 118 (h 338 i)) 352 115 v3) r g (pv_jq ty r g (fun w h' => pv_fr gmA h h' ∧ w = pt_cl (tx_val (pt_V h i sec u) cs 0).1 ∧ h' 200 54 = (tx_val (pt_V h i sec u) cs 0).2)) := fun v0 v1 v3 e0 e1 e3 => by
    have hf : pv_fr gmA h (pv_up (pv_up (pv_up (pv_up h 352 102 v0) 352 103 v1) 352 118 (h 338 i)) 352 115 v3) := pv_fr_up (pv_fr_up (pv_fr_up (pv_fr_up (pv_fr_refl _ _) (Or.inl rfl)) (Or.inl rfl)) (Or.inl rfl)) (Or.inl rfl)
    have fin : ∀ v4 : Int32, v4 = pt_V h i sec u 99 → pv_E Γ d 0 0 mX12_part 112 [some (.ref 200), some (.int (nI o)), none, none, some (.int u)] [] ty (pv_up (pv_up (pv_up (pv_up (pv_up h 352 102 v0) 352 103 v1) 352 118 (h 338 i)) 352 115 v3) 352 99 v4) r g (pv_jq ty r g (fun w h' => pv_fr gmA h h' ∧ w = pt_cl (tx_val (pt_V h i sec u) cs 0).1 ∧ h' 200 54 = (tx_val (pt_V h i sec u) cs 0).2)) := fun v4 e4 => by
      refine sg_X12_part_112 _ _ (by omega) hL ⟨l 121 (by decide), fun h1 e5 => ?_⟩
      have f1 : pv_fr gmA h h1 := by rw [e5]; exact pv_fr_up (pv_fr_up hf (Or.inl rfl)) (Or.inl rfl)
      obtain ⟨m1, m2, m3, m4⟩ := pt_M_fr f1 hM
      refine pv_CJ.mono (ct_X12_says (by omega) hL m1 m3 m4 m2) (fun w h2 q => ?_)
      obtain ⟨f2, g3⟩ := q
      have hV : ∀ c ∈ tx_nm 0, h1 352 c = pt_V h i sec u c := by
        rw [e5]
        refine pt_Vm (f := (pv_up (pv_up (pv_up (pv_up (pv_up (pv_up h 352 102 v0) 352 103 v1) 352 118 (h 338 i)) 352 115 v3) 352 99 v4) 352 121 (u / 365)) 352) ?_ ?_ ?_ ?_ ?_ ?_
        · rw [pv_up_j (by decide), pv_up_j (by decide), pv_up_j (by decide), pv_up_j (by decide), pv_up_j (by decide), pv_up_same]; exact e0
        · rw [pv_up_j (by decide), pv_up_j (by decide), pv_up_j (by decide), pv_up_j (by decide), pv_up_same]; exact e1
        · rw [pv_up_j (by decide), pv_up_j (by decide), pv_up_j (by decide), pv_up_same]; rfl
        · rw [pv_up_j (by decide), pv_up_j (by decide), pv_up_same]; exact e3
        · rw [pv_up_j (by decide), pv_up_same]; exact e4
        · rw [pv_up_same]; rfl
      rw [tx_val_c hV 0 m4] at g3
      exact pv_jqi ⟨pv_fr_tr f1 (pv_fr_mono (fun a j z => z.elim (fun z => Or.inr (Or.inl z)) (fun z => Or.inr (Or.inr z))) f2), congrArg pt_cl (congrArg Prod.fst g3), congrArg Prod.snd g3⟩
    refine sg_X12_part_91 _ _ _ hL ⟨hin, ?_⟩
    rw [hc, hne _ _ _ 336 i (by decide), hne _ _ _ 336 i (by decide), hne _ _ _ 336 i (by decide), hne _ _ _ 336 i (by decide)]
    have hiff : 0 ≤ h 336 i ↔ ¬ h 336 i = -1 := by
      rcases hok.2.1 with e | e
      · rw [e]; decide
      · exact ⟨fun _ q => by rw [q] at e; exact absurd e (by decide), fun _ => e⟩
    refine ⟨fun c => ⟨l 99 (by decide), fun h1 e1 => ?_⟩, fun c => ⟨l 99 (by decide), fun h2 e2 => ?_⟩⟩
    · rw [e1]
      exact fin 1 (by show (1 : Int32) = (if h 336 i = -1 then 0 else 1); rw [if_neg (hiff.mp c)])
    · rw [e2]
      exact fin 0 (by show (0 : Int32) = (if h 336 i = -1 then 0 else 1); rw [if_pos (Classical.not_not.mp (fun q => c (hiff.mpr q)))])
  cases sec with
  | true =>
    refine pv_fn 0 pn_X12 rfl (Nat.le_of_ble_eq_true rfl) (sg_X12_part_0 _ _ _ _ hL ⟨fun _ => ⟨hin, l 102 (by decide), fun h1 e1 => ?_⟩, fun q => absurd rfl q⟩)
    refine sg_X12_part_26 _ _ _ _ hL ⟨fun _ => ⟨hin, l 103 (by decide), fun h2 e2 => ?_⟩, fun q => absurd rfl q⟩
    refine sg_X12_part_52 _ _ _ _ hL ⟨hin, l 118 (by decide), fun h3 e3 => ⟨fun _ => ⟨hin, l 115 (by decide), fun h4 e4 => ?_⟩, fun q => absurd rfl q⟩⟩
    rw [hc] at e1 e2 e3 e4
    rw [e4, e3, hne _ _ _ 336 i (by decide), e2, hne _ _ _ 338 i (by decide), hne _ _ _ 336 i (by decide), e1, hne _ _ _ 335 i (by decide), hne _ _ _ 338 i (by decide), hne _ _ _ 336 i (by decide)]
    exact main _ _ _ rfl rfl rfl
  | false =>
    refine pv_fn 0 pn_X12 rfl (Nat.le_of_ble_eq_true rfl) (sg_X12_part_0 _ _ _ _ hL ⟨fun q => absurd q (by decide), fun _ => ⟨hin, l 102 (by decide), fun h1 e1 => ?_⟩⟩)
    refine sg_X12_part_26 _ _ _ _ hL ⟨fun q => absurd q (by decide), fun _ => ⟨hin, l 103 (by decide), fun h2 e2 => ?_⟩⟩
    refine sg_X12_part_52 _ _ _ _ hL ⟨hin, l 118 (by decide), fun h3 e3 => ⟨fun q => absurd q (by decide), fun _ => ⟨hin, l 115 (by decide), fun h4 e4 => ?_⟩⟩⟩
    rw [hc] at e1 e2 e3 e4
    rw [e4, e3, hne _ _ _ 334 i (by decide), e2, hne _ _ _ 338 i (by decide), hne _ _ _ 334 i (by decide), e1, hne _ _ _ 337 i (by decide), hne _ _ _ 338 i (by decide), hne _ _ _ 334 i (by decide)]
    exact main _ _ _ rfl rfl rfl
end RT
