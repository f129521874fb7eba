/-! penalty: both sides -/
set_option maxRecDepth 20000 in
set_option maxHeartbeats 4000000 in
theorem sg_X1_givePenalty_0 {Γ : pv_C} {d kc ks : Nat} {ty : pv_T} {h : pv_H} {r : pv_R} {g : pv_G} {Q : pv_Q} (x : Nat) (y : Nat) (z : Int32) (u : Int32) (hd : 2 ≤ d) (hL : pv_Lay ty r) (F : ((¬ x = 0 → ty y = some (6, 0) ∧ (ty y = some (6, 0)) ∧ vp_in 0 6 ∧ (∀ h1 : pv_H, h1 = pv_up h 81 (Int32.toNatClampNeg 0) (pt_do h y z) → ty y = some (6, 0) ∧ vp_in 1 6 ∧ (∀ h2 : pv_H, h2 = pv_up h1 81 (Int32.toNatClampNeg 1) (if 0 < ((pt_do h y z) - (h1 y 4)) then ((pt_do h y z) - (h1 y 4)) else 0) → ty y = some (6, 0) ∧ vp_in 2 6 ∧ (∀ h3 : pv_H, h3 = pv_up h2 81 (Int32.toNatClampNeg 2) (h2 y 0) → ty y = some (6, 0) ∧ vp_in 3 6 ∧ (∀ h4 : pv_H, h4 = pv_up h3 81 (Int32.toNatClampNeg 3) (h3 y 1) → vp_in 4 6 ∧ (∀ h5 : pv_H, h5 = pv_up h4 81 (Int32.toNatClampNeg 4) u → ty x = some (0, 0) ∧ ty x = some (0, 0) ∧ (∃ k1 n1 : Nat, ty (r x 3) = some (k1, n1) ∧ (20 ≤ k1 ∧ k1 ≤ 27) ∧ pv_CT Γ (d - 1) 0 0 mX9_readText [.ref 80, .ref (r x 3), .int (nI n1), .int 1] ty h5 r g (fun (v1 : Option Value) (ty1 : pv_T) (h6 : pv_H) (r1 : pv_R) (g1 : pv_G) => ∃ w1 : Int32, v1 = some (.int w1) ∧ pv_Lay ty1 r1 ∧ Q (some (.int (pt_cl w1))) ty1 h6 r1 g1)))))))) ∧ (x = 0 → Q (some (.int 0)) ty h r g))) : pv_E Γ d kc ks mX1_givePenalty 0 [some (.ref 70), some (.ref x), some (.ref y), some (.int z), some (.int u), none, none] [] ty h r g Q := by
  refine pv_aload_n dX1_givePenalty_0 rfl ?_
  refine pv_ifnonnull (tgt := 6) dX1_givePenalty_1 (by decide) (fun c1 => ?_) (fun c1 => ?_)
  · have F := F.1 c1
    refine pv_aload_n dX1_givePenalty_6 rfl ?_
    refine pv_iload_n dX1_givePenalty_7 rfl ?_
    obtain ⟨q1, F⟩ := F
    obtain ⟨q2, F⟩ := F
    refine pv_invV (As := [.int z]) (d' := d - 1) dX1_givePenalty_8 moX6_daysOpenOn ml_X1_96 q1 (Or.inl ⟨_, rfl, rfl⟩) (Nat.le_of_ble_eq_true rfl) (by omega) (Nat.zero_le _) (Nat.zero_le _) (ct_X6_days (by omega) q2) (fun v ty' h' r' g' hq => ?_) rfl
    obtain ⟨e1, e2, e3, e4, e5⟩ := hq
    rw [e1, e2, e3, e4, e5]
    refine pv_pc (pc' := 11) rfl ?_
    show pv_E Γ d kc ks mX1_givePenalty 11 [some (.ref 70), some (.ref x), some (.ref y), some (.int z), some (.int u), none, none] [.int (pt_do h y z)] ty h r g Q
    refine pv_istore (ls' := [some (.ref 70), some (.ref x), some (.ref y), some (.int z), some (.int u), some (.int (pt_do h y z)), none]) dX1_givePenalty_11 (by decide) rfl rfl ?_
    refine pv_aload_n dX1_givePenalty_13 rfl ?_
    refine pv_getRk 1 2 dX1_givePenalty_14 fl_X1_24 rfl (lt_70 hL) (lr_70_2 hL) ?_
    refine pv_getRk 9 0 dX1_givePenalty_17 fl_X1_64 rfl (lt_80 hL) (lr_80_0 hL) ?_
    refine pv_astore (ls' := [some (.ref 70), some (.ref x), some (.ref y), some (.int z), some (.int u), some (.int (pt_do h y z)), some (.ref 81)]) dX1_givePenalty_20 (by decide) rfl rfl ?_
    refine pv_aload dX1_givePenalty_22 rfl ?_
    refine pv_pc (pc' := 24) rfl ?_
    refine pv_iconst (v := 0) (by decide) dX1_givePenalty_24 ?_
    refine pv_iload dX1_givePenalty_25 rfl ?_
    obtain ⟨q3, F⟩ := F
    obtain ⟨h1, eh1⟩ : ∃ h1 : pv_H, h1 = pv_up h 81 (Int32.toNatClampNeg 0) (pt_do h y z) := ⟨_, rfl⟩
    have F := F h1 eh1
    refine pv_iast dX1_givePenalty_27 (lt_81 hL) (by decide) q3 ?_
    refine pv_hE eh1 ?_
    refine pv_aload dX1_givePenalty_28 rfl ?_
    refine pv_iconst (v := 1) (by decide) dX1_givePenalty_30 ?_
    refine pv_iconst (v := 0) (by decide) dX1_givePenalty_31 ?_
    refine pv_iload dX1_givePenalty_32 rfl ?_
    refine pv_aload_n dX1_givePenalty_34 rfl ?_
    obtain ⟨q4, F⟩ := F
    refine pv_getI 6 4 dX1_givePenalty_35 fl_X1_101 rfl q4 ?_
    refine pv_isub dX1_givePenalty_38 ?_
    refine pv_mmax dX1_givePenalty_39 ml_X1_104 (by omega) (Nat.le_of_ble_eq_true rfl) ?_
    obtain ⟨q5, F⟩ := F
    obtain ⟨h2, eh2⟩ : ∃ h2 : pv_H, h2 = pv_up h1 81 (Int32.toNatClampNeg 1) (if 0 < ((pt_do h y z) - (h1 y 4)) then ((pt_do h y z) - (h1 y 4)) else 0) := ⟨_, rfl⟩
    have F := F h2 eh2
    refine pv_iast dX1_givePenalty_42 (lt_81 hL) (by decide) q5 ?_
    refine pv_hE eh2 ?_
    refine pv_aload dX1_givePenalty_43 rfl ?_
    refine pv_iconst (v := 2) (by decide) dX1_givePenalty_45 ?_
    refine pv_aload_n dX1_givePenalty_46 rfl ?_
    obtain ⟨q6, F⟩ := F
    refine pv_getI 6 0 dX1_givePenalty_47 fl_X1_110 rfl q6 ?_
    obtain ⟨q7, F⟩ := F
    obtain ⟨h3, eh3⟩ : ∃ h3 : pv_H, h3 = pv_up h2 81 (Int32.toNatClampNeg 2) (h2 y 0) := ⟨_, rfl⟩
    have F := F h3 eh3
    refine pv_iast dX1_givePenalty_50 (lt_81 hL) (by decide) q7 ?_
    refine pv_hE eh3 ?_
    refine pv_aload dX1_givePenalty_51 rfl ?_
    refine pv_iconst (v := 3) (by decide) dX1_givePenalty_53 ?_
    refine pv_aload_n dX1_givePenalty_54 rfl ?_
    obtain ⟨q8, F⟩ := F
    refine pv_getI 6 1 dX1_givePenalty_55 fl_X1_113 rfl q8 ?_
    obtain ⟨q9, F⟩ := F
    obtain ⟨h4, eh4⟩ : ∃ h4 : pv_H, h4 = pv_up h3 81 (Int32.toNatClampNeg 3) (h3 y 1) := ⟨_, rfl⟩
    have F := F h4 eh4
    refine pv_iast dX1_givePenalty_58 (lt_81 hL) (by decide) q9 ?_
    refine pv_hE eh4 ?_
    refine pv_aload dX1_givePenalty_59 rfl ?_
    refine pv_iconst (v := 4) (by decide) dX1_givePenalty_61 ?_
    refine pv_iload dX1_givePenalty_62 rfl ?_
    obtain ⟨q10, F⟩ := F
    obtain ⟨h5, eh5⟩ : ∃ h5 : pv_H, h5 = pv_up h4 81 (Int32.toNatClampNeg 4) u := ⟨_, rfl⟩
    have F := F h5 eh5
    refine pv_iast dX1_givePenalty_64 (lt_81 hL) (by decide) q10 ?_
    refine pv_hE eh5 ?_
    refine pv_aload_n dX1_givePenalty_65 rfl ?_
    refine pv_getRk 1 2 dX1_givePenalty_66 fl_X1_24 rfl (lt_70 hL) (lr_70_2 hL) ?_
    refine pv_aload_n dX1_givePenalty_69 rfl ?_
    obtain ⟨q11, F⟩ := F
    refine pv_getR 0 3 dX1_givePenalty_70 fl_X1_89 rfl q11 ?_
    refine pv_aload_n dX1_givePenalty_73 rfl ?_
    obtain ⟨q12, F⟩ := F
    refine pv_getR 0 3 dX1_givePenalty_74 fl_X1_89 rfl q12 ?_
    obtain ⟨k1, n1, q13, q13k, F⟩ := F
    refine pv_alen dX1_givePenalty_77 q13 q13k ?_
    refine pv_iconst (v := 1) (by decide) dX1_givePenalty_78 ?_
    refine pv_invV (As := [.ref (r x 3), .int (nI n1), .int 1]) (d' := d - 1) dX1_givePenalty_79 moX9_readText ml_X1_35 (lt_80 hL) (Or.inl ⟨_, rfl, rfl⟩) (Nat.le_of_ble_eq_true rfl) (by omega) (Nat.zero_le _) (Nat.zero_le _) F (fun v1 ty1 h6 r1 g1 F => ?_) rfl
    obtain ⟨w1, rfl, F⟩ := F
    obtain ⟨hL1, F⟩ := F
    refine pv_pc (pc' := 82) rfl ?_
    show pv_E Γ d kc ks mX1_givePenalty 82 [some (.ref 70), some (.ref x), some (.ref y), some (.int z), some (.int u), some (.int (pt_do h y z)), some (.ref 81)] [.int w1] ty1 h6 r1 g1 Q
    refine pv_invS (As := [.int w1]) (d' := d - 1) dX1_givePenalty_82 moX1_keepWithin ml_X1_92 (Nat.le_of_ble_eq_true rfl) (by omega) (Nat.zero_le _) (Nat.zero_le _) (ct_X1_keep (by omega)) (fun v ty' h' r' g' hq => ?_) rfl
    obtain ⟨e1, e2, e3, e4, e5⟩ := hq
    rw [e1, e2, e3, e4, e5]
    refine pv_pc (pc' := 85) rfl ?_
    show pv_E Γ d kc ks mX1_givePenalty 85 [some (.ref 70), some (.ref x), some (.ref y), some (.int z), some (.int u), some (.int (pt_do h y z)), some (.ref 81)] [.int (pt_cl w1)] ty1 h6 r1 g1 Q
    exact pv_ireturn dX1_givePenalty_85 rfl rfl F
  · have F := F.2 c1
    refine pv_iconst (v := 0) (by decide) dX1_givePenalty_4 ?_
    exact pv_ireturn dX1_givePenalty_5 rfl rfl F
set_option maxRecDepth 20000 in
set_option maxHeartbeats 4000000 in
theorem sg_X12_penalty_0 {Γ : pv_C} {d kc ks : Nat} {ty : pv_T} {h : pv_H} {r : pv_R} {g : pv_G} {Q : pv_Q} (x : Int32) (y : Int32) (z : Int32) (hd : 2 ≤ d) (hL : pv_Lay ty r) (F : (((pf_b (0 ≤ x ∧ x ≤ h 200 55 - 1)) = 0 → Q (some (.int (-2000000000))) ty h r g) ∧ (¬ (pf_b (0 ≤ x ∧ x ≤ h 200 55 - 1)) = 0 → (((pf_b (0 ≤ y ∧ y ≤ (h 200 32))) = 0 → Q (some (.int (-2000000000))) ty h r g) ∧ (¬ (pf_b (0 ≤ y ∧ y ≤ (h 200 32))) = 0 → ((¬ (pf_b (0 ≤ z ∧ z ≤ 9999)) = 0 → pv_CJ Γ (d - 1) mX12_forceOn [.ref 200, .int 1, .int y, .int z] ty h r g (fun (w1 : Int32) (h1 : pv_H) => ((w1 < 0 → Q (some (.int 0)) ty h1 r g) ∧ (¬ w1 < 0 → vp_in x 200 ∧ (((h1 359 (Int32.toNatClampNeg x)) ≤ y → vp_in x 200 ∧ (((h1 361 (Int32.toNatClampNeg x)) < 0 → vp_in x 200 ∧ pv_E Γ d kc ks mX12_penalty 105 [some (.ref 200), some (.int x), none, none, some (.int w1), none, some (.int (y - (h1 359 (Int32.toNatClampNeg x)))), some (.int 0), some (.int 0)] [] ty h1 r g Q) ∧ (¬ (h1 361 (Int32.toNatClampNeg x)) < 0 → vp_in x 200 ∧ ((y ≤ (h1 361 (Int32.toNatClampNeg x)) → vp_in x 200 ∧ pv_E Γ d kc ks mX12_penalty 105 [some (.ref 200), some (.int x), none, none, some (.int w1), none, some (.int (y - (h1 359 (Int32.toNatClampNeg x)))), some (.int 0), some (.int 0)] [] ty h1 r g Q) ∧ (¬ y ≤ (h1 361 (Int32.toNatClampNeg x)) → vp_in x 200 ∧ vp_in x 200 ∧ pv_E Γ d kc ks mX12_penalty 105 [some (.ref 200), some (.int x), none, none, some (.int w1), none, some (.int ((h1 361 (Int32.toNatClampNeg x)) - (h1 359 (Int32.toNatClampNeg x)))), some (.int 0), some (.int 0)] [] ty h1 r g Q))))) ∧ (¬ (h1 359 (Int32.toNatClampNeg x)) ≤ y → Q (some (.int 0)) ty h1 r g)))))) ∧ ((pf_b (0 ≤ z ∧ z ≤ 9999)) = 0 → Q (some (.int (-2000000000))) ty h r g))))))) : pv_E Γ d kc ks mX12_penalty 0 [some (.ref 200), some (.int x), some (.int y), some (.int z), none, none, none, none, none] [] ty h r g Q := by
  refine pv_aload_n dX12_penalty_0 rfl ?_
  refine pv_iload_n dX12_penalty_1 rfl ?_
  refine pv_invV (As := [.int x]) (d' := d - 1) dX12_penalty_2 moX12_isOpening ml_X12_320 (lt_200 hL) (Or.inl ⟨_, rfl, rfl⟩) (Nat.le_of_ble_eq_true rfl) (by omega) (Nat.zero_le _) (Nat.zero_le _) (ct_X12_isOpening (by omega) hL) (fun v ty' h' r' g' hq => ?_) rfl
  obtain ⟨e1, e2, e3, e4, e5⟩ := hq
  rw [e1, e2, e3, e4, e5]
  refine pv_pc (pc' := 5) rfl ?_
  show pv_E Γ d kc ks mX12_penalty 5 [some (.ref 200), some (.int x), some (.int y), some (.int z), none, none, none, none, none] [.int (pf_b (0 ≤ x ∧ x ≤ h 200 55 - 1))] ty h r g Q
  refine pv_if_eq (tgt := 27) dX12_penalty_5 (by decide) (fun c1 => ?_) (fun c1 => ?_)
  · have F := F.1 c1
    refine pv_ldcw (v := (-2000000000)) dX12_penalty_27 kc_X12_306 ?_
    exact pv_ireturn dX12_penalty_30 rfl rfl F
  · have F := F.2 c1
    refine pv_iload_n dX12_penalty_8 rfl ?_
    refine pv_iconst (v := 0) (by decide) dX12_penalty_9 ?_
    refine pv_aload_n dX12_penalty_10 rfl ?_
    refine pv_getI 12 32 dX12_penalty_11 fl_X12_237 rfl (lt_200 hL) ?_
    refine pv_invS (As := [.int y, .int 0, .int (h 200 32)]) (d' := d - 1) dX12_penalty_14 moX12_in ml_X12_164 (Nat.le_of_ble_eq_true rfl) (by omega) (Nat.zero_le _) (Nat.zero_le _) (ct_X12_in (by omega)) (fun v ty' h' r' g' hq => ?_) rfl
    obtain ⟨e1, e2, e3, e4, e5⟩ := hq
    rw [e1, e2, e3, e4, e5]
    refine pv_pc (pc' := 17) rfl ?_
    show pv_E Γ d kc ks mX12_penalty 17 [some (.ref 200), some (.int x), some (.int y), some (.int z), none, none, none, none, none] [.int (pf_b (0 ≤ y ∧ y ≤ (h 200 32)))] ty h r g Q
    refine pv_if_eq (tgt := 27) dX12_penalty_17 (by decide) (fun c2 => ?_) (fun c2 => ?_)
    · have F := F.1 c2
      refine pv_ldcw (v := (-2000000000)) dX12_penalty_27 kc_X12_306 ?_
      exact pv_ireturn dX12_penalty_30 rfl rfl F
    · have F := F.2 c2
      refine pv_iload_n dX12_penalty_20 rfl ?_
      refine pv_invS (As := [.int z]) (d' := d - 1) dX12_penalty_21 moX12_isDay ml_X12_285 (Nat.le_of_ble_eq_true rfl) (by omega) (Nat.zero_le _) (Nat.zero_le _) (ct_X12_isDay (by omega)) (fun v ty' h' r' g' hq => ?_) rfl
      obtain ⟨e1, e2, e3, e4, e5⟩ := hq
      rw [e1, e2, e3, e4, e5]
      refine pv_pc (pc' := 24) rfl ?_
      show pv_E Γ d kc ks mX12_penalty 24 [some (.ref 200), some (.int x), some (.int y), some (.int z), none, none, none, none, none] [.int (pf_b (0 ≤ z ∧ z ≤ 9999))] ty h r g Q
      refine pv_if_ne (tgt := 31) dX12_penalty_24 (by decide) (fun c3 => ?_) (fun c3 => ?_)
      · have F := F.1 c3
        refine pv_aload_n dX12_penalty_31 rfl ?_
        refine pv_iconst (v := 1) (by decide) dX12_penalty_32 ?_
        refine pv_iload_n dX12_penalty_33 rfl ?_
        refine pv_iload_n dX12_penalty_34 rfl ?_
        refine pv_invV (As := [.int 1, .int y, .int z]) (d' := d - 1) dX12_penalty_35 moX12_forceOn ml_X12_288 (lt_200 hL) (Or.inl ⟨_, rfl, rfl⟩) (Nat.le_of_ble_eq_true rfl) (by omega) (Nat.zero_le _) (Nat.zero_le _) F (fun v ty' h1 r' g' hq => ?_) rfl
        obtain ⟨e2, e4, e5, w1, e1, F⟩ := hq
        rw [e1, e2, e4, e5]
        refine pv_pc (pc' := 38) rfl ?_
        show pv_E Γ d kc ks mX12_penalty 38 [some (.ref 200), some (.int x), some (.int y), some (.int z), none, none, none, none, none] [.int w1] ty h1 r g Q
        refine pv_istore (ls' := [some (.ref 200), some (.int x), some (.int y), some (.int z), some (.int w1), none, none, none, none]) dX12_penalty_38 (by decide) rfl rfl ?_
        refine pv_iload dX12_penalty_40 rfl ?_
        refine pv_if_lt (tgt := 55) dX12_penalty_42 (by decide) (fun c4 => ?_) (fun c4 => ?_)
        · have F := F.1 c4
          refine pv_iconst (v := 0) (by decide) dX12_penalty_55 ?_
          exact pv_ireturn dX12_penalty_56 rfl rfl F
        · have F := F.2 c4
          refine pv_iload_n dX12_penalty_45 rfl ?_
          refine pv_aload_n dX12_penalty_46 rfl ?_
          refine pv_getRk 12 59 dX12_penalty_47 fl_X12_139 rfl (lt_200 hL) (lr_200_59 hL) ?_
          refine pv_iload_n dX12_penalty_50 rfl ?_
          obtain ⟨q1, F⟩ := F
          refine pv_iald dX12_penalty_51 (lt_359 hL) q1 ?_
          refine pv_icmp_ge (tgt := 57) dX12_penalty_52 (by decide) (fun c5 => ?_) (fun c5 => ?_)
          · have F := F.1 c5
            refine pv_aload_n dX12_penalty_57 rfl ?_
            refine pv_getRk 12 61 dX12_penalty_58 fl_X12_145 rfl (lt_200 hL) (lr_200_61 hL) ?_
            refine pv_iload_n dX12_penalty_61 rfl ?_
            obtain ⟨q2, F⟩ := F
            refine pv_iald dX12_penalty_62 (lt_361 hL) q2 ?_
            refine pv_if_lt (tgt := 85) dX12_penalty_63 (by decide) (fun c6 => ?_) (fun c6 => ?_)
            · have F := F.1 c6
              refine pv_iload_n dX12_penalty_85 rfl ?_
              refine pv_istore (ls' := [some (.ref 200), some (.int x), some (.int y), some (.int z), some (.int w1), some (.int y), none, none, none]) dX12_penalty_86 (by decide) rfl rfl ?_
              refine pv_iload dX12_penalty_88 rfl ?_
              refine pv_aload_n dX12_penalty_90 rfl ?_
              refine pv_getRk 12 59 dX12_penalty_91 fl_X12_139 rfl (lt_200 hL) (lr_200_59 hL) ?_
              refine pv_iload_n dX12_penalty_94 rfl ?_
              refine pv_pc (pc' := 95) rfl ?_
              obtain ⟨q3, F⟩ := F
              refine pv_iald dX12_penalty_95 (lt_359 hL) q3 ?_
              refine pv_isub dX12_penalty_96 ?_
              refine pv_istore (ls' := [some (.ref 200), some (.int x), some (.int y), some (.int z), some (.int w1), some (.int y), some (.int (y - (h1 359 (Int32.toNatClampNeg x)))), none, none]) dX12_penalty_97 (by decide) rfl rfl ?_
              refine pv_iconst (v := 0) (by decide) dX12_penalty_99 ?_
              refine pv_istore (ls' := [some (.ref 200), some (.int x), some (.int y), some (.int z), some (.int w1), some (.int y), some (.int (y - (h1 359 (Int32.toNatClampNeg x)))), some (.int 0), none]) dX12_penalty_100 (by decide) rfl rfl ?_
              refine pv_iconst (v := 0) (by decide) dX12_penalty_102 ?_
              refine pv_istore (ls' := [some (.ref 200), some (.int x), some (.int y), some (.int z), some (.int w1), some (.int y), some (.int (y - (h1 359 (Int32.toNatClampNeg x)))), some (.int 0), some (.int 0)]) dX12_penalty_103 (by decide) rfl rfl ?_
              refine pv_forgetL (ls' := [some (.ref 200), some (.int x), none, none, some (.int w1), none, some (.int (y - (h1 359 (Int32.toNatClampNeg x)))), some (.int 0), some (.int 0)]) (pv_subL_ok ⟨rfl, ⟨rfl, ⟨rfl, ⟨rfl, ⟨rfl, ⟨rfl, trivial⟩⟩⟩⟩⟩⟩) ?_
              exact F
            · have F := F.2 c6
              refine pv_aload_n dX12_penalty_66 rfl ?_
              refine pv_getRk 12 61 dX12_penalty_67 fl_X12_145 rfl (lt_200 hL) (lr_200_61 hL) ?_
              refine pv_iload_n dX12_penalty_70 rfl ?_
              obtain ⟨q4, F⟩ := F
              refine pv_iald dX12_penalty_71 (lt_361 hL) q4 ?_
              refine pv_iload_n dX12_penalty_72 rfl ?_
              refine pv_icmp_ge (tgt := 85) dX12_penalty_73 (by decide) (fun c7 => ?_) (fun c7 => ?_)
              · have F := F.1 c7
                refine pv_iload_n dX12_penalty_85 rfl ?_
                refine pv_istore (ls' := [some (.ref 200), some (.int x), some (.int y), some (.int z), some (.int w1), some (.int y), none, none, none]) dX12_penalty_86 (by decide) rfl rfl ?_
                refine pv_iload dX12_penalty_88 rfl ?_
                refine pv_aload_n dX12_penalty_90 rfl ?_
                refine pv_getRk 12 59 dX12_penalty_91 fl_X12_139 rfl (lt_200 hL) (lr_200_59 hL) ?_
                refine pv_iload_n dX12_penalty_94 rfl ?_
                refine pv_pc (pc' := 95) rfl ?_
                obtain ⟨q5, F⟩ := F
                refine pv_iald dX12_penalty_95 (lt_359 hL) q5 ?_
                refine pv_isub dX12_penalty_96 ?_
                refine pv_istore (ls' := [some (.ref 200), some (.int x), some (.int y), some (.int z), some (.int w1), some (.int y), some (.int (y - (h1 359 (Int32.toNatClampNeg x)))), none, none]) dX12_penalty_97 (by decide) rfl rfl ?_
                refine pv_iconst (v := 0) (by decide) dX12_penalty_99 ?_
                refine pv_istore (ls' := [some (.ref 200), some (.int x), some (.int y), some (.int z), some (.int w1), some (.int y), some (.int (y - (h1 359 (Int32.toNatClampNeg x)))), some (.int 0), none]) dX12_penalty_100 (by decide) rfl rfl ?_
                refine pv_iconst (v := 0) (by decide) dX12_penalty_102 ?_
                refine pv_istore (ls' := [some (.ref 200), some (.int x), some (.int y), some (.int z), some (.int w1), some (.int y), some (.int (y - (h1 359 (Int32.toNatClampNeg x)))), some (.int 0), some (.int 0)]) dX12_penalty_103 (by decide) rfl rfl ?_
                refine pv_forgetL (ls' := [some (.ref 200), some (.int x), none, none, some (.int w1), none, some (.int (y - (h1 359 (Int32.toNatClampNeg x)))), some (.int 0), some (.int 0)]) (pv_subL_ok ⟨rfl, ⟨rfl, ⟨rfl, ⟨rfl, ⟨rfl, ⟨rfl, trivial⟩⟩⟩⟩⟩⟩) ?_
                exact F
              · have F := F.2 c7
                refine pv_aload_n dX12_penalty_76 rfl ?_
                refine pv_getRk 12 61 dX12_penalty_77 fl_X12_145 rfl (lt_200 hL) (lr_200_61 hL) ?_
                refine pv_iload_n dX12_penalty_80 rfl ?_
                obtain ⟨q6, F⟩ := F
                refine pv_iald dX12_penalty_81 (lt_361 hL) q6 ?_
                refine pv_goto (tgt := 86) dX12_penalty_82 (by decide) ?_
                refine pv_istore (ls' := [some (.ref 200), some (.int x), some (.int y), some (.int z), some (.int w1), some (.int (h1 361 (Int32.toNatClampNeg x))), none, none, none]) dX12_penalty_86 (by decide) rfl rfl ?_
                refine pv_iload dX12_penalty_88 rfl ?_
                refine pv_aload_n dX12_penalty_90 rfl ?_
                refine pv_getRk 12 59 dX12_penalty_91 fl_X12_139 rfl (lt_200 hL) (lr_200_59 hL) ?_
                refine pv_iload_n dX12_penalty_94 rfl ?_
                obtain ⟨q7, F⟩ := F
                refine pv_iald dX12_penalty_95 (lt_359 hL) q7 ?_
                refine pv_isub dX12_penalty_96 ?_
                refine pv_istore (ls' := [some (.ref 200), some (.int x), some (.int y), some (.int z), some (.int w1), some (.int (h1 361 (Int32.toNatClampNeg x))), some (.int ((h1 361 (Int32.toNatClampNeg x)) - (h1 359 (Int32.toNatClampNeg x)))), none, none]) dX12_penalty_97 (by decide) rfl rfl ?_
                refine pv_iconst (v := 0) (by decide) dX12_penalty_99 ?_
                refine pv_istore (ls' := [some (.ref 200), some (.int x), some (.int y), some (.int z), some (.int w1), some (.int (h1 361 (Int32.toNatClampNeg x))), some (.int ((h1 361 (Int32.toNatClampNeg x)) - (h1 359 (Int32.toNatClampNeg x)))), some (.int 0), none]) dX12_penalty_100 (by decide) rfl rfl ?_
                refine pv_iconst (v := 0) (by decide) dX12_penalty_102 ?_
                refine pv_istore (ls' := [some (.ref 200), some (.int x), some (.int y), some (.int z), some (.int w1), some (.int (h1 361 (Int32.toNatClampNeg x))), some (.int ((h1 361 (Int32.toNatClampNeg x)) - (h1 359 (Int32.toNatClampNeg x)))), some (.int 0), some (.int 0)]) dX12_penalty_103 (by decide) rfl rfl ?_
                refine pv_forgetL (ls' := [some (.ref 200), some (.int x), none, none, some (.int w1), none, some (.int ((h1 361 (Int32.toNatClampNeg x)) - (h1 359 (Int32.toNatClampNeg x)))), some (.int 0), some (.int 0)]) (pv_subL_ok ⟨rfl, ⟨rfl, ⟨rfl, ⟨rfl, ⟨rfl, ⟨rfl, trivial⟩⟩⟩⟩⟩⟩) ?_
                exact F
          · have F := F.2 c5
            refine pv_iconst (v := 0) (by decide) dX12_penalty_55 ?_
            exact pv_ireturn dX12_penalty_56 rfl rfl F
      · have F := F.2 c3
        refine pv_ldcw (v := (-2000000000)) dX12_penalty_27 kc_X12_306 ?_
        exact pv_ireturn dX12_penalty_30 rfl rfl F
set_option maxRecDepth 20000 in
set_option maxHeartbeats 4000000 in
theorem sg_X12_penalty_105 {Γ : pv_C} {d kc ks : Nat} {ty : pv_T} {h : pv_H} {r : pv_R} {g : pv_G} {Q : pv_Q} (x1 : Int32) (x4 : Int32) (x6 : Int32) (x7 : Int32) (x8 : Int32) (hL : pv_Lay ty r) (F : (((h 200 55) ≤ x8 → vp_in 100 128 ∧ (∀ h1 : pv_H, h1 = pv_up h 352 (Int32.toNatClampNeg 100) x6 → vp_in x1 200 ∧ ((x6 ≤ (h1 360 (Int32.toNatClampNeg x1)) → vp_in 108 128 ∧ (∀ h2 : pv_H, h2 = pv_up h1 352 (Int32.toNatClampNeg 108) 0 → pv_E Γ d kc ks mX12_penalty 196 [some (.ref 200), some (.int x1), none, none, some (.int x4), none, none, some (.int x7), none] [] ty h2 r g Q)) ∧ (¬ x6 ≤ (h1 360 (Int32.toNatClampNeg x1)) → vp_in x1 200 ∧ vp_in 108 128 ∧ (∀ h3 : pv_H, h3 = pv_up h1 352 (Int32.toNatClampNeg 108) (x6 - (h1 360 (Int32.toNatClampNeg x1))) → pv_E Γ d kc ks mX12_penalty 196 [some (.ref 200), some (.int x1), none, none, some (.int x4), none, none, some (.int x7), none] [] ty h3 r g Q))))) ∧ (¬ (h 200 55) ≤ x8 → vp_in x8 200 ∧ vp_in x1 200 ∧ ((¬ (h 356 (Int32.toNatClampNeg x8)) = (h 356 (Int32.toNatClampNeg x1)) → pv_E Γ d kc ks mX12_penalty 105 [some (.ref 200), some (.int x1), none, none, some (.int x4), none, some (.int x6), some (.int (x7 + 0)), some (.int (x8 + 1))] [] ty h r g Q) ∧ ((h 356 (Int32.toNatClampNeg x8)) = (h 356 (Int32.toNatClampNeg x1)) → vp_in x8 200 ∧ ((0 ≤ (h 361 (Int32.toNatClampNeg x8)) → pv_E Γ d kc ks mX12_penalty 105 [some (.ref 200), some (.int x1), none, none, some (.int x4), none, some (.int x6), some (.int (x7 + 0)), some (.int (x8 + 1))] [] ty h r g Q) ∧ (¬ 0 ≤ (h 361 (Int32.toNatClampNeg x8)) → pv_E Γ d kc ks mX12_penalty 105 [some (.ref 200), some (.int x1), none, none, some (.int x4), none, some (.int x6), some (.int (x7 + 1)), some (.int (x8 + 1))] [] ty h r g Q))))))) : pv_E Γ d kc ks mX12_penalty 105 [some (.ref 200), some (.int x1), none, none, some (.int x4), none, some (.int x6), some (.int x7), some (.int x8)] [] ty h r g Q := by
  refine pv_iload dX12_penalty_105 rfl ?_
  refine pv_aload_n dX12_penalty_107 rfl ?_
  refine pv_getI 12 55 dX12_penalty_108 fl_X12_311 rfl (lt_200 hL) ?_
  refine pv_icmp_ge (tgt := 156) dX12_penalty_111 (by decide) (fun c1 => ?_) (fun c1 => ?_)
  · have F := F.1 c1
    refine pv_aload_n dX12_penalty_156 rfl ?_
    refine pv_getRk 12 52 dX12_penalty_157 fl_X12_124 rfl (lt_200 hL) (lr_200_52 hL) ?_
    refine pv_bipush (v := 100) (by decide) dX12_penalty_160 ?_
    refine pv_iload dX12_penalty_162 rfl ?_
    obtain ⟨q1, F⟩ := F
    obtain ⟨h1, eh1⟩ : ∃ h1 : pv_H, h1 = pv_up h 352 (Int32.toNatClampNeg 100) x6 := ⟨_, rfl⟩
    have F := F h1 eh1
    refine pv_iast dX12_penalty_164 (lt_352 hL) (by decide) q1 ?_
    refine pv_hE eh1 ?_
    refine pv_aload_n dX12_penalty_165 rfl ?_
    refine pv_getRk 12 52 dX12_penalty_166 fl_X12_124 rfl (lt_200 hL) (lr_200_52 hL) ?_
    refine pv_bipush (v := 108) (by decide) dX12_penalty_169 ?_
    refine pv_iload dX12_penalty_171 rfl ?_
    refine pv_aload_n dX12_penalty_173 rfl ?_
    refine pv_getRk 12 60 dX12_penalty_174 fl_X12_142 rfl (lt_200 hL) (lr_200_60 hL) ?_
    refine pv_pc (pc' := 177) rfl ?_
    refine pv_iload_n dX12_penalty_177 rfl ?_
    obtain ⟨q2, F⟩ := F
    refine pv_iald dX12_penalty_178 (lt_360 hL) q2 ?_
    refine pv_icmp_le (tgt := 194) dX12_penalty_179 (by decide) (fun c2 => ?_) (fun c2 => ?_)
    · have F := F.1 c2
      refine pv_iconst (v := 0) (by decide) dX12_penalty_194 ?_
      obtain ⟨q3, F⟩ := F
      obtain ⟨h2, eh2⟩ : ∃ h2 : pv_H, h2 = pv_up h1 352 (Int32.toNatClampNeg 108) 0 := ⟨_, rfl⟩
      have F := F h2 eh2
      refine pv_iast dX12_penalty_195 (lt_352 hL) (by decide) q3 ?_
      refine pv_hE eh2 ?_
      refine pv_forgetL (ls' := [some (.ref 200), some (.int x1), none, none, some (.int x4), none, none, some (.int x7), none]) (pv_subL_ok ⟨rfl, ⟨rfl, ⟨rfl, ⟨rfl, trivial⟩⟩⟩⟩) ?_
      exact F
    · have F := F.2 c2
      refine pv_iload dX12_penalty_182 rfl ?_
      refine pv_aload_n dX12_penalty_184 rfl ?_
      refine pv_getRk 12 60 dX12_penalty_185 fl_X12_142 rfl (lt_200 hL) (lr_200_60 hL) ?_
      refine pv_iload_n dX12_penalty_188 rfl ?_
      obtain ⟨q4, F⟩ := F
      refine pv_iald dX12_penalty_189 (lt_360 hL) q4 ?_
      refine pv_isub dX12_penalty_190 ?_
      refine pv_goto (tgt := 195) dX12_penalty_191 (by decide) ?_
      obtain ⟨q5, F⟩ := F
      obtain ⟨h3, eh3⟩ : ∃ h3 : pv_H, h3 = pv_up h1 352 (Int32.toNatClampNeg 108) (x6 - (h1 360 (Int32.toNatClampNeg x1))) := ⟨_, rfl⟩
      have F := F h3 eh3
      refine pv_iast dX12_penalty_195 (lt_352 hL) (by decide) q5 ?_
      refine pv_hE eh3 ?_
      refine pv_forgetL (ls' := [some (.ref 200), some (.int x1), none, none, some (.int x4), none, none, some (.int x7), none]) (pv_subL_ok ⟨rfl, ⟨rfl, ⟨rfl, ⟨rfl, trivial⟩⟩⟩⟩) ?_
      exact F
  · have F := F.2 c1
    refine pv_iload dX12_penalty_114 rfl ?_
    refine pv_aload_n dX12_penalty_116 rfl ?_
    refine pv_getRk 12 56 dX12_penalty_117 fl_X12_130 rfl (lt_200 hL) (lr_200_56 hL) ?_
    refine pv_iload dX12_penalty_120 rfl ?_
    obtain ⟨q6, F⟩ := F
    refine pv_iald dX12_penalty_122 (lt_356 hL) q6 ?_
    refine pv_aload_n dX12_penalty_123 rfl ?_
    refine pv_getRk 12 56 dX12_penalty_124 fl_X12_130 rfl (lt_200 hL) (lr_200_56 hL) ?_
    refine pv_iload_n dX12_penalty_127 rfl ?_
    obtain ⟨q7, F⟩ := F
    refine pv_iald dX12_penalty_128 (lt_356 hL) q7 ?_
    refine pv_icmp_ne (tgt := 146) dX12_penalty_129 (by decide) (fun c3 => ?_) (fun c3 => ?_)
    · have F := F.1 c3
      refine pv_iconst (v := 0) (by decide) dX12_penalty_146 ?_
      refine pv_iadd dX12_penalty_147 ?_
      refine pv_istore (ls' := [some (.ref 200), some (.int x1), none, none, some (.int x4), none, some (.int x6), some (.int (x7 + 0)), some (.int x8)]) dX12_penalty_148 (by decide) rfl rfl ?_
      refine pv_iinc (v := x8 + 1) (ls' := [some (.ref 200), some (.int x1), none, none, some (.int x4), none, some (.int x6), some (.int (x7 + 0)), some (.int (x8 + 1))]) dX12_penalty_150 rfl (by rfl) rfl rfl ?_
      refine pv_goto (tgt := 105) dX12_penalty_153 (by decide) ?_
      exact F
    · have F := F.2 c3
      refine pv_aload_n dX12_penalty_132 rfl ?_
      refine pv_getRk 12 61 dX12_penalty_133 fl_X12_145 rfl (lt_200 hL) (lr_200_61 hL) ?_
      refine pv_iload dX12_penalty_136 rfl ?_
      obtain ⟨q8, F⟩ := F
      refine pv_iald dX12_penalty_138 (lt_361 hL) q8 ?_
      refine pv_if_ge (tgt := 146) dX12_penalty_139 (by decide) (fun c4 => ?_) (fun c4 => ?_)
      · have F := F.1 c4
        refine pv_iconst (v := 0) (by decide) dX12_penalty_146 ?_
        refine pv_iadd dX12_penalty_147 ?_
        refine pv_istore (ls' := [some (.ref 200), some (.int x1), none, none, some (.int x4), none, some (.int x6), some (.int (x7 + 0)), some (.int x8)]) dX12_penalty_148 (by decide) rfl rfl ?_
        refine pv_iinc (v := x8 + 1) (ls' := [some (.ref 200), some (.int x1), none, none, some (.int x4), none, some (.int x6), some (.int (x7 + 0)), some (.int (x8 + 1))]) dX12_penalty_150 rfl (by rfl) rfl rfl ?_
        refine pv_goto (tgt := 105) dX12_penalty_153 (by decide) ?_
        exact F
      · have F := F.2 c4
        refine pv_iconst (v := 1) (by decide) dX12_penalty_142 ?_
        refine pv_goto (tgt := 147) dX12_penalty_143 (by decide) ?_
        refine pv_iadd dX12_penalty_147 ?_
        refine pv_istore (ls' := [some (.ref 200), some (.int x1), none, none, some (.int x4), none, some (.int x6), some (.int (x7 + 1)), some (.int x8)]) dX12_penalty_148 (by decide) rfl rfl ?_
        refine pv_iinc (v := x8 + 1) (ls' := [some (.ref 200), some (.int x1), none, none, some (.int x4), none, some (.int x6), some (.int (x7 + 1)), some (.int (x8 + 1))]) dX12_penalty_150 rfl (by rfl) rfl rfl ?_
        refine pv_goto (tgt := 105) dX12_penalty_153 (by decide) ?_
        exact F
set_option maxRecDepth 20000 in
set_option maxHeartbeats 4000000 in
theorem sg_X12_penalty_196 {Γ : pv_C} {d kc ks : Nat} {ty : pv_T} {h : pv_H} {r : pv_R} {g : pv_G} {Q : pv_Q} (x1 : Int32) (x4 : Int32) (x7 : Int32) (hd : 1 ≤ d) (hL : pv_Lay ty r) (F : vp_in x1 200 ∧ vp_in 119 128 ∧ (∀ h1 : pv_H, h1 = pv_up h 352 (Int32.toNatClampNeg 119) (h 356 (Int32.toNatClampNeg x1)) → vp_in x1 200 ∧ vp_in 115 128 ∧ (∀ h2 : pv_H, h2 = pv_up h1 352 (Int32.toNatClampNeg 115) (h1 357 (Int32.toNatClampNeg x1)) → vp_in 110 128 ∧ (∀ h3 : pv_H, h3 = pv_up h2 352 (Int32.toNatClampNeg 110) x7 → pv_CJ Γ (d - 1) mX12_says [.ref 200, .int x4] ty h3 r g (fun (w1 : Int32) (h4 : pv_H) => Q (some (.int (pt_cl w1))) ty h4 r g))))) : pv_E Γ d kc ks mX12_penalty 196 [some (.ref 200), some (.int x1), none, none, some (.int x4), none, none, some (.int x7), none] [] ty h r g Q := by
  refine pv_aload_n dX12_penalty_196 rfl ?_
  refine pv_getRk 12 52 dX12_penalty_197 fl_X12_124 rfl (lt_200 hL) (lr_200_52 hL) ?_
  refine pv_bipush (v := 119) (by decide) dX12_penalty_200 ?_
  refine pv_aload_n dX12_penalty_202 rfl ?_
  refine pv_getRk 12 56 dX12_penalty_203 fl_X12_130 rfl (lt_200 hL) (lr_200_56 hL) ?_
  refine pv_iload_n dX12_penalty_206 rfl ?_
  refine pv_pc (pc' := 207) rfl ?_
  obtain ⟨q1, F⟩ := F
  refine pv_iald dX12_penalty_207 (lt_356 hL) q1 ?_
  obtain ⟨q2, F⟩ := F
  obtain ⟨h1, eh1⟩ : ∃ h1 : pv_H, h1 = pv_up h 352 (Int32.toNatClampNeg 119) (h 356 (Int32.toNatClampNeg x1)) := ⟨_, rfl⟩
  have F := F h1 eh1
  refine pv_iast dX12_penalty_208 (lt_352 hL) (by decide) q2 ?_
  refine pv_hE eh1 ?_
  refine pv_aload_n dX12_penalty_209 rfl ?_
  refine pv_getRk 12 52 dX12_penalty_210 fl_X12_124 rfl (lt_200 hL) (lr_200_52 hL) ?_
  refine pv_bipush (v := 115) (by decide) dX12_penalty_213 ?_
  refine pv_aload_n dX12_penalty_215 rfl ?_
  refine pv_getRk 12 57 dX12_penalty_216 fl_X12_133 rfl (lt_200 hL) (lr_200_57 hL) ?_
  refine pv_iload_n dX12_penalty_219 rfl ?_
  refine pv_pc (pc' := 220) rfl ?_
  obtain ⟨q3, F⟩ := F
  refine pv_iald dX12_penalty_220 (lt_357 hL) q3 ?_
  obtain ⟨q4, F⟩ := F
  obtain ⟨h2, eh2⟩ : ∃ h2 : pv_H, h2 = pv_up h1 352 (Int32.toNatClampNeg 115) (h1 357 (Int32.toNatClampNeg x1)) := ⟨_, rfl⟩
  have F := F h2 eh2
  refine pv_iast dX12_penalty_221 (lt_352 hL) (by decide) q4 ?_
  refine pv_hE eh2 ?_
  refine pv_aload_n dX12_penalty_222 rfl ?_
  refine pv_getRk 12 52 dX12_penalty_223 fl_X12_124 rfl (lt_200 hL) (lr_200_52 hL) ?_
  refine pv_bipush (v := 110) (by decide) dX12_penalty_226 ?_
  refine pv_iload dX12_penalty_228 rfl ?_
  obtain ⟨q5, F⟩ := F
  obtain ⟨h3, eh3⟩ : ∃ h3 : pv_H, h3 = pv_up h2 352 (Int32.toNatClampNeg 110) x7 := ⟨_, rfl⟩
  have F := F h3 eh3
  refine pv_iast dX12_penalty_230 (lt_352 hL) (by decide) q5 ?_
  refine pv_hE eh3 ?_
  refine pv_aload_n dX12_penalty_231 rfl ?_
  refine pv_iload dX12_penalty_232 rfl ?_
  refine pv_invV (As := [.int x4]) (d' := d - 1) dX12_penalty_234 moX12_says ml_X12_297 (lt_200 hL) (Or.inl ⟨_, rfl, rfl⟩) (Nat.le_of_ble_eq_true rfl) (by omega) (Nat.zero_le _) (Nat.zero_le _) F (fun v ty' h4 r' g' hq => ?_) rfl
  obtain ⟨e2, e4, e5, w1, e1, F⟩ := hq
  rw [e1, e2, e4, e5]
  refine pv_pc (pc' := 237) rfl ?_
  show pv_E Γ d kc ks mX12_penalty 237 [some (.ref 200), some (.int x1), none, none, some (.int x4), none, none, some (.int x7), none] [.int w1] ty h4 r g Q
  refine pv_invS (As := [.int w1]) (d' := d - 1) dX12_penalty_237 moX12_clamp ml_X12_300 (Nat.le_of_ble_eq_true rfl) (by omega) (Nat.zero_le _) (Nat.zero_le _) (ct_X12_clamp (by omega)) (fun v ty' h' r' g' hq => ?_) rfl
  obtain ⟨e1, e2, e3, e4, e5⟩ := hq
  rw [e1, e2, e3, e4, e5]
  refine pv_pc (pc' := 240) rfl ?_
  show pv_E Γ d kc ks mX12_penalty 240 [some (.ref 200), some (.int x1), none, none, some (.int x4), none, none, some (.int x7), none] [.int (pt_cl w1)] ty h4 r g Q
  exact pv_ireturn dX12_penalty_240 rfl rfl F
set_option maxRecDepth 20000 in
set_option maxHeartbeats 4000000 in
theorem sg_X11_penalty_0 {Γ : pv_C} {d kc ks : Nat} {ty : pv_T} {h : pv_H} {r : pv_R} {g : pv_G} {Q : pv_Q} (x : Int32) (y : Int32) (z : Int32) (hd : 2 ≤ d) (hL : pv_Lay ty r) (F : pv_CT Γ (d - 1) 0 0 mX11_findOpening [.ref 100, .int x] ty h r g (fun (v1 : Option Value) (ty1 : pv_T) (h1 : pv_H) (r1 : pv_R) (g1 : pv_G) => ∃ w1 : Nat, v1 = some (.ref w1) ∧ pv_Lay ty1 r1 ∧ ((w1 = 0 → Q (some (.int (-2000000000))) ty1 h1 r1 g1) ∧ (¬ w1 = 0 → (((pf_b (0 ≤ y ∧ y ≤ (h1 100 9))) = 0 → Q (some (.int (-2000000000))) ty1 h1 r1 g1) ∧ (¬ (pf_b (0 ≤ y ∧ y ≤ (h1 100 9))) = 0 → ((¬ (pf_b (0 ≤ z ∧ z ≤ 9999)) = 0 → ty1 w1 = some (6, 0) ∧ (((h1 w1 3) ≤ y → pv_CT Γ (d - 1) 0 0 mX1_findInForce [.ref 70, .int 1, .int y, .int z] ty1 h1 r1 g1 (fun (v2 : Option Value) (ty2 : pv_T) (h2 : pv_H) (r2 : pv_R) (g2 : pv_G) => ∃ w2 : Nat, v2 = some (.ref w2) ∧ pv_Lay ty2 r2 ∧ ty2 w1 = some (6, 0) ∧ pv_CJ Γ (d - 1) mX11_countOpen [.ref 100, .int (h2 w1 0)] ty2 h2 r2 g2 (fun (w3 : Int32) (h3 : pv_H) => pv_CT Γ (d - 1) 0 0 mX1_givePenalty [.ref 70, .ref w2, .ref w1, .int y, .int w3] ty2 h3 r2 g2 (fun (v3 : Option Value) (ty3 : pv_T) (h4 : pv_H) (r3 : pv_R) (g3 : pv_G) => ∃ w4 : Int32, v3 = some (.int w4) ∧ pv_Lay ty3 r3 ∧ Q (some (.int w4)) ty3 h4 r3 g3)))) ∧ (¬ (h1 w1 3) ≤ y → Q (some (.int 0)) ty1 h1 r1 g1))) ∧ ((pf_b (0 ≤ z ∧ z ≤ 9999)) = 0 → Q (some (.int (-2000000000))) ty1 h1 r1 g1)))))))) : pv_E Γ d kc ks mX11_penalty 0 [some (.ref 100), some (.int x), some (.int y), some (.int z), none, none] [] ty h r g Q := by
  refine pv_aload_n dX11_penalty_0 rfl ?_
  refine pv_iload_n dX11_penalty_1 rfl ?_
  refine pv_invV (As := [.int x]) (d' := d - 1) dX11_penalty_2 moX11_findOpening ml_X11_249 (lt_100 hL) (Or.inl ⟨_, rfl, rfl⟩) (Nat.le_of_ble_eq_true rfl) (by omega) (Nat.zero_le _) (Nat.zero_le _) F (fun v1 ty1 h1 r1 g1 F => ?_) rfl
  obtain ⟨w1, rfl, F⟩ := F
  obtain ⟨hL1, F⟩ := F
  refine pv_pc (pc' := 5) rfl ?_
  show pv_E Γ d kc ks mX11_penalty 5 [some (.ref 100), some (.int x), some (.int y), some (.int z), none, none] [.ref w1] ty1 h1 r1 g1 Q
  refine pv_astore (ls' := [some (.ref 100), some (.int x), some (.int y), some (.int z), some (.ref w1), none]) dX11_penalty_5 (by decide) rfl rfl ?_
  refine pv_aload dX11_penalty_7 rfl ?_
  refine pv_ifnull (tgt := 31) dX11_penalty_9 (by decide) (fun c1 => ?_) (fun c1 => ?_)
  · have F := F.1 c1
    refine pv_ldc (v := (-2000000000)) dX11_penalty_31 kc_X11_209 ?_
    exact pv_ireturn dX11_penalty_33 rfl rfl F
  · have F := F.2 c1
    refine pv_iload_n dX11_penalty_12 rfl ?_
    refine pv_iconst (v := 0) (by decide) dX11_penalty_13 ?_
    refine pv_aload_n dX11_penalty_14 rfl ?_
    refine pv_getI 11 9 dX11_penalty_15 fl_X11_186 rfl (lt_100 hL1) ?_
    refine pv_invS (As := [.int y, .int 0, .int (h1 100 9)]) (d' := d - 1) dX11_penalty_18 moX11_within ml_X11_69 (Nat.le_of_ble_eq_true rfl) (by omega) (Nat.zero_le _) (Nat.zero_le _) (ct_X11_within (by omega)) (fun v ty' h' r' g' hq => ?_) rfl
    obtain ⟨e1, e2, e3, e4, e5⟩ := hq
    rw [e1, e2, e3, e4, e5]
    refine pv_pc (pc' := 21) rfl ?_
    show pv_E Γ d kc ks mX11_penalty 21 [some (.ref 100), some (.int x), some (.int y), some (.int z), some (.ref w1), none] [.int (pf_b (0 ≤ y ∧ y ≤ (h1 100 9)))] ty1 h1 r1 g1 Q
    refine pv_if_eq (tgt := 31) dX11_penalty_21 (by decide) (fun c2 => ?_) (fun c2 => ?_)
    · have F := F.1 c2
      refine pv_ldc (v := (-2000000000)) dX11_penalty_31 kc_X11_209 ?_
      exact pv_ireturn dX11_penalty_33 rfl rfl F
    · have F := F.2 c2
      refine pv_iload_n dX11_penalty_24 rfl ?_
      refine pv_invS (As := [.int z]) (d' := d - 1) dX11_penalty_25 moX11_isDay ml_X11_195 (Nat.le_of_ble_eq_true rfl) (by omega) (Nat.zero_le _) (Nat.zero_le _) (ct_X11_isDay (by omega)) (fun v ty' h' r' g' hq => ?_) rfl
      obtain ⟨e1, e2, e3, e4, e5⟩ := hq
      rw [e1, e2, e3, e4, e5]
      refine pv_pc (pc' := 28) rfl ?_
      show pv_E Γ d kc ks mX11_penalty 28 [some (.ref 100), some (.int x), some (.int y), some (.int z), some (.ref w1), none] [.int (pf_b (0 ≤ z ∧ z ≤ 9999))] ty1 h1 r1 g1 Q
      refine pv_if_ne (tgt := 34) dX11_penalty_28 (by decide) (fun c3 => ?_) (fun c3 => ?_)
      · have F := F.1 c3
        refine pv_iload_n dX11_penalty_34 rfl ?_
        refine pv_aload dX11_penalty_35 rfl ?_
        obtain ⟨q1, F⟩ := F
        refine pv_getI 6 3 dX11_penalty_37 fl_X11_259 rfl q1 ?_
        refine pv_icmp_ge (tgt := 45) dX11_penalty_40 (by decide) (fun c4 => ?_) (fun c4 => ?_)
        · have F := F.1 c4
          refine pv_aload_n dX11_penalty_45 rfl ?_
          refine pv_getRk 11 10 dX11_penalty_46 fl_X11_52 rfl (lt_100 hL1) (lr_100_10 hL1) ?_
          refine pv_iconst (v := 1) (by decide) dX11_penalty_49 ?_
          refine pv_iload_n dX11_penalty_50 rfl ?_
          refine pv_iload_n dX11_penalty_51 rfl ?_
          refine pv_invV (As := [.int 1, .int y, .int z]) (d' := d - 1) dX11_penalty_52 moX1_findInForce ml_X11_210 (lt_70 hL1) (Or.inl ⟨_, rfl, rfl⟩) (Nat.le_of_ble_eq_true rfl) (by omega) (Nat.zero_le _) (Nat.zero_le _) F (fun v2 ty2 h2 r2 g2 F => ?_) rfl
          obtain ⟨w2, rfl, F⟩ := F
          obtain ⟨hL2, F⟩ := F
          refine pv_pc (pc' := 55) rfl ?_
          show pv_E Γ d kc ks mX11_penalty 55 [some (.ref 100), some (.int x), some (.int y), some (.int z), some (.ref w1), none] [.ref w2] ty2 h2 r2 g2 Q
          refine pv_astore (ls' := [some (.ref 100), some (.int x), some (.int y), some (.int z), some (.ref w1), some (.ref w2)]) dX11_penalty_55 (by decide) rfl rfl ?_
          refine pv_aload_n dX11_penalty_57 rfl ?_
          refine pv_getRk 11 10 dX11_penalty_58 fl_X11_52 rfl (lt_100 hL2) (lr_100_10 hL2) ?_
          refine pv_aload dX11_penalty_61 rfl ?_
          refine pv_aload dX11_penalty_63 rfl ?_
          refine pv_iload_n dX11_penalty_65 rfl ?_
          refine pv_pc (pc' := 66) rfl ?_
          refine pv_aload_n dX11_penalty_66 rfl ?_
          refine pv_aload dX11_penalty_67 rfl ?_
          obtain ⟨q2, F⟩ := F
          refine pv_getI 6 0 dX11_penalty_69 fl_X11_262 rfl q2 ?_
          refine pv_invV (As := [.int (h2 w1 0)]) (d' := d - 1) dX11_penalty_72 moX11_countOpen ml_X11_265 (lt_100 hL2) (Or.inl ⟨_, rfl, rfl⟩) (Nat.le_of_ble_eq_true rfl) (by omega) (Nat.zero_le _) (Nat.zero_le _) F (fun v ty' h3 r' g' hq => ?_) rfl
          obtain ⟨e2, e4, e5, w3, e1, F⟩ := hq
          rw [e1, e2, e4, e5]
          refine pv_pc (pc' := 75) rfl ?_
          show pv_E Γ d kc ks mX11_penalty 75 [some (.ref 100), some (.int x), some (.int y), some (.int z), some (.ref w1), some (.ref w2)] [.int w3, .int y, .ref w1, .ref w2, .ref 70] ty2 h3 r2 g2 Q
          refine pv_invV (As := [.ref w2, .ref w1, .int y, .int w3]) (d' := d - 1) dX11_penalty_75 moX1_givePenalty ml_X11_268 (lt_70 hL2) (Or.inl ⟨_, rfl, rfl⟩) (Nat.le_of_ble_eq_true rfl) (by omega) (Nat.zero_le _) (Nat.zero_le _) F (fun v3 ty3 h4 r3 g3 F => ?_) rfl
          obtain ⟨w4, rfl, F⟩ := F
          obtain ⟨hL3, F⟩ := F
          refine pv_pc (pc' := 78) rfl ?_
          show pv_E Γ d kc ks mX11_penalty 78 [some (.ref 100), some (.int x), some (.int y), some (.int z), some (.ref w1), some (.ref w2)] [.int w4] ty3 h4 r3 g3 Q
          exact pv_ireturn dX11_penalty_78 rfl rfl F
        · have F := F.2 c4
          refine pv_iconst (v := 0) (by decide) dX11_penalty_43 ?_
          exact pv_ireturn dX11_penalty_44 rfl rfl F
      · have F := F.2 c3
        refine pv_ldc (v := (-2000000000)) dX11_penalty_31 kc_X11_209 ?_
        exact pv_ireturn dX11_penalty_33 rfl rfl F
def pe_d (h : pv_H) (i : Nat) (y : Int32) : Int32 := (if h 361 i = -1 then y else if h 361 i < y then h 361 i else y) - h 359 i
def pe_l (dd lv : Int32) : Int32 := if dd ≤ lv then 0 else dd - lv
def pe_V (h : pv_H) (i no : Nat) (y : Int32) (c : Nat) : Int32 := if c = 100 then pe_d h i y else if c = 108 then pe_l (pe_d h i y) (h 360 i) else if c = 119 then h 356 i else if c = 115 then h 357 i else if c = 110 then nI (co_n h (h 356 i) no) else 0
def fn_pen (h : pv_H) (cs : List tx_C) (na no : Nat) (x y z : Int32) : Int32 := if (0 ≤ x ∧ x ≤ h 200 55 - 1) ∧ (0 ≤ y ∧ y ≤ h 200 32) ∧ (0 ≤ z ∧ z ≤ 9999) then (match fo_l h 1 y z na with | none => 0 | some _ => if h 359 x.toNatClampNeg ≤ y then pt_cl (tx_val (pe_V h x.toNatClampNeg no y) cs 0).1 else 0) else -2000000000
theorem pe_Vc {f : Nat → Int32} {V : Nat → Int32} (h0 : f 0 = V 100) (h1 : f 1 = V 108) (h2 : f 2 = V 119) (h3 : f 3 = V 115) (h4 : f 4 = V 110) : ∀ c ∈ tx_nm 1, f ((tx_nm 1).idxOf c) = V c := by
  intro c hc
  have e : tx_nm 1 = [100, 108, 119, 115, 110] := rfl
  rw [e] at hc
  simp only [List.mem_cons, List.not_mem_nil, or_false] at hc
  rcases hc with rfl | rfl | rfl | rfl | rfl
  · exact h0
  · exact h1
  · exact h2
  · exact h3
  · exact h4
theorem pe_Vm {f : Nat → Int32} {V : Nat → Int32} (h0 : f 100 = V 100) (h1 : f 108 = V 108) (h2 : f 119 = V 119) (h3 : f 115 = V 115) (h4 : f 110 = V 110) : ∀ c ∈ tx_nm 1, f c = V c := by
  intro c hc
  have e : tx_nm 1 = [100, 108, 119, 115, 110] := rfl
  rw [e] at hc
  simp only [List.mem_cons, List.not_mem_nil, or_false] at hc
  rcases hc with rfl | rfl | rfl | rfl | rfl
  · exact h0
  · exact h1
  · exact h2
  · exact h3
  · exact h4
section PE
variable {Γ : pv_C} {d kc ks : Nat} {ty : pv_T} {h : pv_H} {r : pv_R} {g : pv_G} {Q : pv_Q} {na tl no o i : Nat} {x y z : Int32} {cs : List tx_C}
theorem pe_do (hO : ∀ j, j < 6 → h (oA i) j = h (356 + j) i) : pt_do h (oA i) y = pe_d h i y := by
  unfold pt_do pe_d
  rw [hO 5 (by decide), hO 3 (by decide)]
  show (if h 361 i = -1 then y - h 359 i else (if h 361 i < y then h 361 i else y) - h 359 i) = _
  split <;> rfl
theorem pe_b (hok : op_ok h i) (hy : 0 ≤ y ∧ y ≤ 9999) : -9999 ≤ pe_d h i y ∧ pe_d h i y ≤ 9999 := by
  obtain ⟨-, a2, -, a4⟩ := hok
  unfold pe_d
  split
  · constructor <;> grind
  · split
    · rcases a4 with e | e
      · exact absurd e (by assumption)
      · constructor <;> grind
    · constructor <;> grind
theorem pe_lc (hok : op_ok h i) (hy : 0 ≤ y ∧ y ≤ 9999) : (if 0 < pe_d h i y - h 360 i then pe_d h i y - h 360 i else 0) = pe_l (pe_d h i y) (h 360 i) := by
  obtain ⟨b1, b2⟩ := pe_b hok hy
  obtain ⟨-, -, a3, -⟩ := hok
  generalize pe_d h i y = D at *
  generalize h 360 i = L at *
  unfold pe_l
  by_cases c : D ≤ L
  · rw [if_pos c, if_neg (by grind)]
  · rw [if_neg c, if_pos (by grind)]
theorem ct_givePen (hd : 66 ≤ d) (hL : pv_Lay ty r) (hC : pt_C 1 cs ty h r o) (hw : ∀ c ∈ cs, tx_wfC 1 c) (ht : ty (oA i) = some (6, 0)) (hi : i < 200) (hh : ∀ j, j < 6 → h (oA i) j = h (356 + j) i) (hok : op_ok h i) (hy : 0 ≤ y ∧ y ≤ 9999) {u : Int32} (hu : u = nI (co_n h (h 356 i) no)) {k : pv_Q} (hk : ∀ h' r', pv_fr gpA h h' → pv_frG gpR r r' → pv_Lay ty r' → k (some (.int (pt_cl (tx_val (pe_V h i no y) cs 0).1))) ty h' r' g) : pv_CT Γ d 0 0 mX1_givePenalty [.ref 70, .ref (aA o), .ref (oA i), .int y, .int u] ty h r g k := by
  obtain ⟨c1, c2, c3, n, q, c4, c5, c6⟩ := hC
  have hne : ∀ a : pv_H, ∀ x : Int32, ∀ j m, (pv_up a 81 j x) (oA i) m = a (oA i) m := fun a x j m => pv_up_a (by unfold oA; omega)
  have l : ∀ n, n < 6 → vp_in (nI n) 6 := fun n hn => in_lit hn (by decide)
  refine pv_fn 2 pn_X1 rfl (Nat.le_of_ble_eq_true rfl) (sg_X1_givePenalty_0 (aA o) (oA i) _ _ (by omega) hL ⟨fun _ => ⟨ht, ht, l 0 (by decide), fun h1 e1 => ⟨ht, l 1 (by decide), fun h2 e2 => ⟨ht, l 2 (by decide), fun h3 e3 => ⟨ht, l 3 (by decide), fun h4 e4 => ⟨l 4 (by decide), fun h5 e5 => ⟨c2, c2, ?_⟩⟩⟩⟩⟩⟩, fun q => absurd q (aA_ne o)⟩)
  have v1 : h1 (oA i) 4 = h 360 i := by rw [e1, hne]; exact hh 4 (by decide)
  have v2 : h2 (oA i) 0 = h 356 i := by rw [e2, hne, e1, hne]; exact hh 0 (by decide)
  have v3 : h3 (oA i) 1 = h 357 i := by rw [e3, hne, e2, hne, e1, hne]; exact hh 1 (by decide)
  rw [pe_do hh] at e1
  rw [pe_do hh, v1, pe_lc hok hy] at e2
  rw [v2] at e3
  rw [v3] at e4
  rw [show Int32.toNatClampNeg 0 = 0 from rfl] at e1
  rw [show Int32.toNatClampNeg 1 = 1 from rfl] at e2
  rw [show Int32.toNatClampNeg 2 = 2 from rfl] at e3
  rw [show Int32.toNatClampNeg 3 = 3 from rfl] at e4
  rw [show Int32.toNatClampNeg 4 = 4 from rfl] at e5
  have hf : pv_fr gpA h h5 := by
    rw [e5, e4, e3, e2, e1]
    exact pv_fr_up (pv_fr_up (pv_fr_up (pv_fr_up (pv_fr_up (pv_fr_refl _ _) (Or.inl rfl)) (Or.inl rfl)) (Or.inl rfl)) (Or.inl rfl)) (Or.inl rfl)
  have hV : ∀ c ∈ tx_nm 1, rd_V h5 1 c = pe_V h i no y c := by
    refine pe_Vc (f := h5 81) ?_ ?_ ?_ ?_ ?_
    · rw [e5, pv_up_j (by decide), e4, pv_up_j (by decide), e3, pv_up_j (by decide), e2, pv_up_j (by decide), e1, pv_up_same]; rfl
    · rw [e5, pv_up_j (by decide), e4, pv_up_j (by decide), e3, pv_up_j (by decide), e2, pv_up_same]; rfl
    · rw [e5, pv_up_j (by decide), e4, pv_up_j (by decide), e3, pv_up_same]; rfl
    · rw [e5, pv_up_j (by decide), e4, pv_up_same]; rfl
    · rw [e5, pv_up_same, hu]; rfl
  rw [c3]
  refine ⟨21, n, c4, by decide, ct_readText (K := 1) (by omega) hL (by decide) c1 c4 c5 (Nat.le_refl _) (fun w h6 f6 g1 g2 hL2 => ⟨w, rfl, hL2, ?_⟩)⟩
  have e6 : h5 (aA o + 1) = h (aA o + 1) := pv_fr_r hf (fun j => by unfold gpA aA; omega)
  rw [e6] at g1
  obtain ⟨-, g3⟩ := g1 cs q c6
  rw [tx_val_c hV 0 hw] at g3
  have k1 : w = (tx_val (pe_V h i no y) cs 0).1 := congrArg Prod.fst g3
  rw [k1]
  exact hk h6 _ (pv_fr_tr hf (pv_fr_mono (fun a j z => Or.inr z) f6)) (pv_frG_up (pv_frG_up (pv_frG_refl _ _) ⟨rfl, Or.inl rfl⟩) ⟨rfl, Or.inr rfl⟩) hL2
theorem ct_X11_pen (hd : 68 ≤ d) (hL : pv_Lay ty r) (hA' : cpA ty h r na tl) (hO : cpO ty h r no) (hT : h 100 9 = h 200 32 ∧ h 200 32 ≤ 9999) (hcs : cs_ok 1 cs ty h r (fo_l h 1 y z na)) {k : pv_Q} (hk : ∀ h' r', pv_fr gpA h h' → pv_frG gpR r r' → pv_Lay ty r' → k (some (.int (fn_pen h cs na no x y z))) ty h' r' g) : pv_CT Γ d 0 0 mX11_penalty [.ref 100, .int x, .int y, .int z] ty h r g k := by
  have hn := hO.1.1
  have hk0 := hk h r (pv_fr_refl _ _) (pv_frG_refl _ _) hL
  unfold fn_pen at hk hk0
  refine pv_fn 2 pn_X11 rfl (Nat.le_of_ble_eq_true rfl) (sg_X11_penalty_0 _ _ _ (by omega) hL (ct_findO hL hO (fun hf => ⟨_, rfl, hL, fun _ => ?_, fun q => absurd rfl q⟩) (fun i hi e => ⟨_, rfl, hL, fun q => absurd q (oA_ne i), fun _ => ?_⟩)))
  · rw [if_neg (fun q => hf q.1)] at hk0; exact hk0
  · subst e
    have hv : 0 ≤ nI i ∧ nI i ≤ h 200 55 - 1 := by rw [hO.1.2.1, ni_valid (by omega)]; exact ⟨i, hi, rfl⟩
    obtain ⟨-, a2, a3, hok⟩ := hO.2 i hi
    rw [hT.1]
    refine pk_b (fun c2 => pj_b (fun c3 => ⟨a2, ?_⟩) (fun c3 => ?_)) (fun c2 => ?_)
    · rw [a3 3 (by decide)]
      rw [if_pos ⟨hv, c2, c3⟩, nI_clamp (by omega)] at hk hk0
      have hy : 0 ≤ y ∧ y ≤ 9999 := ⟨c2.1, by have := c2.2; have := hT.2; grind⟩
      refine ⟨fun c4 => ct_X1_find (by omega) hL hA' (fun hf => ⟨_, rfl, hL, a2, pv_CJ.mono (ct_X11_countOpen (by omega) hL hO) (fun w h3 q => ?_)⟩) (fun o hf => ⟨_, rfl, hL, a2, pv_CJ.mono (ct_X11_countOpen (by omega) hL hO) (fun w h3 q => ?_)⟩), fun c4 => ?_⟩
      · obtain ⟨-, rfl⟩ := q
        rw [hf] at hk0
        exact pv_fn 2 pn_X1 rfl (Nat.le_of_ble_eq_true rfl) (sg_X1_givePenalty_0 0 (oA i) _ _ (by omega) hL ⟨fun q => absurd rfl q, fun _ => ⟨_, rfl, hL, hk0⟩⟩)
      · obtain ⟨e1, rfl⟩ := q
        rw [hf] at hk
        dsimp only at hk
        rw [if_pos (show h3 359 i ≤ y from c4)] at hk
        obtain ⟨hC, hM⟩ := hcs o hf
        rw [a3 0 (by decide)] at e1
        exact ct_givePen (by omega) hL hC hM.2.2.2 a2 (by omega) a3 hok hy e1 (fun h' r' f1 f2 f3 => ⟨_, rfl, f3, hk h' r' f1 f2 f3⟩)
      · cases hf : fo_l h 1 y z na with
        | none => rw [hf] at hk0; exact hk0
        | some o =>
          rw [hf] at hk0
          dsimp only at hk0
          rw [if_neg (show ¬ h 359 i ≤ y from c4)] at hk0
          exact hk0
    · rw [if_neg (fun q => c3 q.2.2)] at hk0; exact hk0
    · rw [if_neg (fun q => c2 q.2.1)] at hk0; exact hk0
theorem pe_m105 (hd : 2 ≤ d) (hL : pv_Lay ty r) (hO : cpO ty h r no) (hi : i < no) (hM : pt_M 1 cs h o) {D : Int32} (hD : D = pe_d h i y) (hQ : ∀ h', pv_fr gmA h h' → Q (some (.int (pt_cl (tx_val (pe_V h i no y) cs 0).1))) ty h' r g) : ∀ (m k : Nat), k + m = no → pv_E Γ d kc ks mX12_penalty 105 [some (.ref 200), some (.int (nI i)), none, none, some (.int (nI o)), none, some (.int D), some (.int (nI (co_n h (h 356 i) k))), some (.int (nI k))] [] ty h r g Q := by
  have hn := hO.1.1
  have hin : vp_in (nI i) 200 := vp_in_nI (by omega) (by decide)
  have hci : (nI i).toNatClampNeg = i := nI_clamp (by omega)
  have l : ∀ n, n < 128 → vp_in (nI n) 128 := fun n hn => in_lit hn (by decide)
  intro m
  induction m with
  | zero =>
    intro k hk
    rw [show k = no by omega]
    refine sg_X12_penalty_105 _ _ _ _ _ hL (pk_le no no (fun _ => ⟨l 100 (by decide), fun h1 e1 => ⟨hin, ?_⟩⟩) (fun c => absurd c (by omega)) hO.1.2.1)
    rw [hci]
    have v1 : h1 360 i = h 360 i := by rw [e1, pv_up_a (by decide)]
    rw [v1]
    have fin : ∀ h2, h2 = pv_up h1 352 108 (pe_l D (h 360 i)) → pv_E Γ d kc ks mX12_penalty 196 [some (.ref 200), some (.int (nI i)), none, none, some (.int (nI o)), none, none, some (.int (nI (co_n h (h 356 i) no))), none] [] ty h2 r g Q := fun h2 e2 => by
      refine sg_X12_penalty_196 _ _ _ (by omega) hL ⟨hin, l 119 (by decide), fun h3 e3 => ⟨hin, l 115 (by decide), fun h4 e4 => ⟨l 110 (by decide), fun h5 e5 => ?_⟩⟩⟩
      rw [hci] at e3 e4
      have w1 : h2 356 i = h 356 i := by rw [e2, pv_up_a (by decide), e1, pv_up_a (by decide)]
      have w2 : h3 357 i = h 357 i := by rw [e3, pv_up_a (by decide), e2, pv_up_a (by decide), e1, pv_up_a (by decide)]
      rw [w1] at e3
      rw [w2] at e4
      have hf : pv_fr gmA h h5 := by
        rw [e5, e4, e3, e2, e1]
        exact pv_fr_up (pv_fr_up (pv_fr_up (pv_fr_up (pv_fr_up (pv_fr_refl _ _) (Or.inl rfl)) (Or.inl rfl)) (Or.inl rfl)) (Or.inl rfl)) (Or.inl rfl)
      obtain ⟨m1, m2, m3, m4⟩ := pt_M_fr hf hM
      have hV : ∀ c ∈ tx_nm 1, h5 352 c = pe_V h i no y c := by
        refine pe_Vm (f := h5 352) ?_ ?_ ?_ ?_ ?_
        · rw [e5, pv_up_j (by decide), e4, pv_up_j (by decide), e3, pv_up_j (by decide), e2, pv_up_j (by decide), e1]; exact (pv_up_same _ _ _ _).trans hD
        · rw [e5, pv_up_j (by decide), e4, pv_up_j (by decide), e3, pv_up_j (by decide), e2, pv_up_same, hD]; rfl
        · rw [e5, pv_up_j (by decide), e4, pv_up_j (by decide), e3]; exact pv_up_same _ _ _ _
        · rw [e5, pv_up_j (by decide), e4]; exact pv_up_same _ _ _ _
        · rw [e5]; exact pv_up_same _ _ _ _
      refine pv_CJ.mono (ct_X12_says (by omega) hL m1 m3 m4 m2) (fun w h6 q => ?_)
      obtain ⟨f6, g3⟩ := q
      rw [tx_val_c hV 0 m4] at g3
      rw [show w = (tx_val (pe_V h i no y) cs 0).1 from congrArg Prod.fst g3]
      exact hQ h6 (pv_fr_tr hf (pv_fr_mono (fun a j z => z.elim (fun z => Or.inr (Or.inl z)) (fun z => Or.inr (Or.inr z))) f6))
    refine ⟨fun c => ⟨l 108 (by decide), fun h2 e2 => fin h2 ?_⟩, fun c => ⟨hin, l 108 (by decide), fun h3 e3 => fin h3 ?_⟩⟩
    · rw [e2]; unfold pe_l; rw [if_pos c]; rfl
    · rw [e3]; unfold pe_l; rw [if_neg c]; rfl
  | succ m ih =>
    intro k hk
    have hi' := ih (k + 1) (by omega)
    have hu : co_n h (h 356 i) (k + 1) = co_n h (h 356 i) k + (if h 356 k = h 356 i ∧ h 361 k = -1 then 1 else 0) := rfl
    rw [hu] at hi'
    have hb := op_b (hO.2 k (by omega)).2.2.2
    have hik : vp_in (nI k) 200 := vp_in_nI (by omega) (by decide)
    refine sg_X12_penalty_105 _ _ _ _ _ hL (pk_le no k (fun c => absurd c (by omega)) (fun _ => ⟨hik, hin, ?_⟩) hO.1.2.1)
    rw [hci, nI_clamp (by omega), nI_1, nI_1, show (0 : Int32) = nI 0 from rfl, nI_add]
    refine ⟨fun c1 => ?_, fun c1 => ⟨hik, fun c2 => ?_, fun c2 => ?_⟩⟩
    · rw [if_neg (fun q => c1 q.1)] at hi'; exact hi'
    · rw [if_neg (fun q => hb.mp c2 q.2)] at hi'; exact hi'
    · rw [if_pos ⟨c1, Classical.not_not.mp (fun q => c2 (hb.mpr q))⟩] at hi'; exact hi'
theorem ct_X12_pen (hd : 3 ≤ d) (hL : pv_Lay ty r) (hA : cpA ty h r na tl) (hO : cpO ty h r no) (hcs : cs_ok 1 cs ty h r (fo_l h 1 y z na)) : pv_CJ Γ d mX12_penalty [.ref 200, .int x, .int y, .int z] ty h r g (fun w h' => pv_fr gmA h h' ∧ w = fn_pen h cs na no x y z) := by
  have hn := hO.1.1
  unfold fn_pen
  refine pv_fn 5 pn_X12 rfl (Nat.le_of_ble_eq_true rfl) (sg_X12_penalty_0 _ _ _ (by omega) hL (pk_b (fun c1 => pk_b (fun c2 => pj_b (fun c3 => pv_CJ.mono (ct_X12_forceOn hL hA) (fun w h1 q => ?_)) (fun c3 => pv_jqi ⟨pv_fr_refl _ _, by rw [if_neg (fun q => c3 q.2.2)]⟩)) (fun c2 => pv_jqi ⟨pv_fr_refl _ _, by rw [if_neg (fun q => c2 q.2.1)]⟩)) (fun c1 => pv_jqi ⟨pv_fr_refl _ _, by rw [if_neg (fun q => c1 q.1)]⟩)))
  obtain ⟨rfl, rfl⟩ := q
  rw [if_pos ⟨c1, c2, c3⟩]
  rw [hO.1.2.1, ni_valid (by omega)] at c1
  obtain ⟨i, hi, rfl⟩ := c1
  rw [nI_clamp (by omega)]
  have hin : vp_in (nI i) 200 := vp_in_nI (by omega) (by decide)
  cases hf : fo_l h1 1 y z na with
  | none => exact ⟨fun _ => pv_jqi ⟨pv_fr_refl _ _, rfl⟩, fun q => absurd (by decide) q⟩
  | some o =>
    obtain ⟨-, hM⟩ := hcs o hf
    have ho := hM.1
    have hok := (hO.2 i hi).2.2.2
    have hb := op_b hok
    refine ⟨fun q => absurd q (nI_pos (by omega)), fun _ => ⟨hin, fun c4 => ⟨hin, ?_⟩, fun c4 => pv_jqi ⟨pv_fr_refl _ _, ?_⟩⟩⟩
    · have go : ∀ D, D = pe_d h1 i y → pv_E Γ d 0 0 mX12_penalty 105 [some (.ref 200), some (.int (nI i)), none, none, some (.int (nI o)), none, some (.int D), some (.int 0), some (.int 0)] [] ty h1 r g (pv_jq ty r g (fun w h' => pv_fr gmA h1 h' ∧ w = (if h1 359 i ≤ y then pt_cl (tx_val (pe_V h1 i no y) cs 0).1 else 0))) := fun D hD => pe_m105 (by omega) hL hO hi hM hD (fun h' f' => pv_jqi ⟨f', by rw [if_pos c4]⟩) no 0 (Nat.zero_add _)
      refine ⟨fun c5 => ⟨hin, go _ ?_⟩, fun c5 => ⟨hin, fun c6 => ⟨hin, go _ ?_⟩, fun c6 => ⟨hin, hin, go _ ?_⟩⟩⟩
      · have : h1 361 i = -1 := Classical.not_not.mp (fun q => absurd (hb.mpr q) (by grind))
        unfold pe_d
        rw [if_pos this]
      · have : ¬ h1 361 i = -1 := hb.mp (Int32.not_lt.mp c5)
        unfold pe_d
        rw [if_neg this, if_neg (Int32.not_lt.mpr c6)]
      · have : ¬ h1 361 i = -1 := hb.mp (Int32.not_lt.mp c5)
        unfold pe_d
        rw [if_neg this, if_pos (Int32.not_le.mp c6)]
    · show 0 = (if h1 359 i ≤ y then _ else _)
      rw [if_neg c4]
end PE
