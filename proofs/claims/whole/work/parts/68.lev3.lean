/-! level, levelled, move: the class -/
set_option maxRecDepth 20000 in
set_option maxHeartbeats 4000000 in
theorem sg_X4_levelRow_0 {Γ : pv_C} {d kc ks : Nat} {ty : pv_T} {h : pv_H} {r : pv_R} {g : pv_G} {Q : pv_Q} (x : Nat) (y : Int32) (z : Int32) (u : Int32) (v : Int32) (hL : pv_Lay ty r) (F : (∀ h1 : pv_H, h1 = pv_up h 40 6 z → (∀ h2 : pv_H, h2 = pv_up h1 40 7 u → (∀ h3 : pv_H, h3 = pv_up h2 40 8 v → ty x = some (8, 0) ∧ pv_E Γ d kc ks mX4_levelRow 25 [some (.ref 40), some (.ref x), some (.int y), none, none, none, some (.int ((h3 x 1) - 1))] [] ty h3 r g Q)))) : pv_E Γ d kc ks mX4_levelRow 0 [some (.ref 40), some (.ref x), some (.int y), some (.int z), some (.int u), some (.int v), none] [] ty h r g Q := by
  refine pv_aload_n dX4_levelRow_0 rfl ?_
  refine pv_iload_n dX4_levelRow_1 rfl ?_
  obtain ⟨h1, eh1⟩ : ∃ h1 : pv_H, h1 = pv_up h 40 6 z := ⟨_, rfl⟩
  have F := F h1 eh1
  refine pv_putI 4 6 dX4_levelRow_2 fl_X4_21 ⟨_, rfl, Or.inl rfl⟩ (Or.inl rfl) (lt_40 hL) ?_
  refine pv_hE eh1 ?_
  refine pv_aload_n dX4_levelRow_5 rfl ?_
  refine pv_iload dX4_levelRow_6 rfl ?_
  obtain ⟨h2, eh2⟩ : ∃ h2 : pv_H, h2 = pv_up h1 40 7 u := ⟨_, rfl⟩
  have F := F h2 eh2
  refine pv_putI 4 7 dX4_levelRow_8 fl_X4_25 ⟨_, rfl, Or.inl rfl⟩ (Or.inl rfl) (lt_40 hL) ?_
  refine pv_hE eh2 ?_
  refine pv_aload_n dX4_levelRow_11 rfl ?_
  refine pv_iload dX4_levelRow_12 rfl ?_
  obtain ⟨h3, eh3⟩ : ∃ h3 : pv_H, h3 = pv_up h2 40 8 v := ⟨_, rfl⟩
  have F := F h3 eh3
  refine pv_putI 4 8 dX4_levelRow_14 fl_X4_28 ⟨_, rfl, Or.inl rfl⟩ (Or.inl rfl) (lt_40 hL) ?_
  refine pv_hE eh3 ?_
  refine pv_aload_n dX4_levelRow_17 rfl ?_
  obtain ⟨q1, F⟩ := F
  refine pv_getI 8 1 dX4_levelRow_18 fl_X4_31 rfl q1 ?_
  refine pv_iconst (v := 1) (by decide) dX4_levelRow_21 ?_
  refine pv_isub dX4_levelRow_22 ?_
  refine pv_istore (ls' := [some (.ref 40), some (.ref x), some (.int y), some (.int z), some (.int u), some (.int v), some (.int ((h3 x 1) - 1))]) dX4_levelRow_23 (by decide) rfl rfl ?_
  refine pv_forgetL (ls' := [some (.ref 40), some (.ref x), some (.int y), none, none, none, some (.int ((h3 x 1) - 1))]) (pv_subL_ok ⟨rfl, ⟨rfl, ⟨rfl, ⟨rfl, trivial⟩⟩⟩⟩) ?_
  exact F
set_option maxRecDepth 20000 in
set_option maxHeartbeats 4000000 in
theorem sg_X4_levelRow_25 {Γ : pv_C} {d kc ks : Nat} {ty : pv_T} {h : pv_H} {r : pv_R} {g : pv_G} {Q : pv_Q} (a1 : Nat) (x2 : Int32) (x6 : Int32) (hd : 1 ≤ d) (hL : pv_Lay ty r) (F : ((x6 < 0 → pv_CJ Γ (d - 1) mX4_bestHeight [.ref 40, .int 0, .int 0, .int 99] ty h r g (fun (w1 : Int32) (h1 : pv_H) => ((¬ w1 = (-1) → (∀ r1 : pv_R, r1 = pv_up r 40 3 a1 → pv_Lay ty r1 ∧ (∀ h2 : pv_H, h2 = pv_up h1 40 4 x2 → vp_in w1 900 ∧ (∀ h3 : pv_H, h3 = pv_up h2 40 5 (h2 41 (Int32.toNatClampNeg w1)) → pv_CW Γ (d - 1) mX4_keepHeights [.ref 40, .ref a1, .int w1] ty h3 r1 g (fun (h4 : pv_H) => Q (some (.int (h4 40 5))) ty h4 r1 g))))) ∧ (w1 = (-1) → Q (some (.int (-2))) ty h1 r g)))) ∧ (¬ x6 < 0 → ty a1 = some (8, 0) ∧ ty a1 = some (8, 0) ∧ (ty a1 = some (8, 0)) ∧ pv_inb ty (r a1 2) 20 (x2 * h a1 1 + x6) ∧ pv_CW Γ (d - 1) mX4_weighColumn [.ref 40, .ref a1, .int x6, .int (h (r a1 2) (Int32.toNatClampNeg (x2 * h a1 1 + x6)))] ty h r g (fun (h5 : pv_H) => pv_E Γ d kc ks mX4_levelRow 25 [some (.ref 40), some (.ref a1), some (.int x2), none, none, none, some (.int (x6 + (-1)))] [] ty h5 r g Q)))) : pv_E Γ d kc ks mX4_levelRow 25 [some (.ref 40), some (.ref a1), some (.int x2), none, none, none, some (.int x6)] [] ty h r g Q := by
  refine pv_iload dX4_levelRow_25 rfl ?_
  refine pv_if_lt (tgt := 55) dX4_levelRow_27 (by decide) (fun c1 => ?_) (fun c1 => ?_)
  · have F := F.1 c1
    refine pv_aload_n dX4_levelRow_55 rfl ?_
    refine pv_iconst (v := 0) (by decide) dX4_levelRow_56 ?_
    refine pv_iconst (v := 0) (by decide) dX4_levelRow_57 ?_
    refine pv_bipush (v := 99) (by decide) dX4_levelRow_58 ?_
    refine pv_invV (As := [.int 0, .int 0, .int 99]) (d' := d - 1) dX4_levelRow_60 moX4_bestHeight ml_X4_47 (lt_40 hL) (Or.inl ⟨_, rfl, rfl⟩) (Nat.le_of_ble_eq_true rfl) (by omega) (Nat.zero_le _) (Nat.zero_le _) F (fun v ty' h1 r' g' hq => ?_) rfl
    obtain ⟨e2, e4, e5, w1, e1, F⟩ := hq
    rw [e1, e2, e4, e5]
    refine pv_pc (pc' := 63) rfl ?_
    show pv_E Γ d kc ks mX4_levelRow 63 [some (.ref 40), some (.ref a1), some (.int x2), none, none, none, some (.int x6)] [.int w1] ty h1 r g Q
    refine pv_istore (ls' := [some (.ref 40), some (.ref a1), some (.int x2), none, none, none, some (.int w1)]) dX4_levelRow_63 (by decide) rfl rfl ?_
    refine pv_iload dX4_levelRow_65 rfl ?_
    refine pv_iconst (v := (-1)) (by decide) dX4_levelRow_67 ?_
    refine pv_icmp_ne (tgt := 74) dX4_levelRow_68 (by decide) (fun c2 => ?_) (fun c2 => ?_)
    · have F := F.1 c2
      refine pv_aload_n dX4_levelRow_74 rfl ?_
      refine pv_aload_n dX4_levelRow_75 rfl ?_
      obtain ⟨r1, er1⟩ : ∃ r1 : pv_R, r1 = pv_up r 40 3 a1 := ⟨_, rfl⟩
      have F := F r1 er1
      refine pv_putR 4 3 dX4_levelRow_76 fl_X4_51 ⟨_, rfl, Or.inl rfl⟩ rfl (lt_40 hL) ?_
      refine pv_rE er1 ?_
      obtain ⟨hL1, F⟩ := F
      refine pv_aload_n dX4_levelRow_79 rfl ?_
      refine pv_iload_n dX4_levelRow_80 rfl ?_
      obtain ⟨h2, eh2⟩ : ∃ h2 : pv_H, h2 = pv_up h1 40 4 x2 := ⟨_, rfl⟩
      have F := F h2 eh2
      refine pv_putI 4 4 dX4_levelRow_81 fl_X4_55 ⟨_, rfl, Or.inl rfl⟩ (Or.inl rfl) (lt_40 hL1) ?_
      refine pv_hE eh2 ?_
      refine pv_aload_n dX4_levelRow_84 rfl ?_
      refine pv_aload_n dX4_levelRow_85 rfl ?_
      refine pv_getRk 4 0 dX4_levelRow_86 fl_X4_11 rfl (lt_40 hL1) (lr_40_0 hL1) ?_
      refine pv_iload dX4_levelRow_89 rfl ?_
      obtain ⟨q1, F⟩ := F
      refine pv_iald dX4_levelRow_91 (lt_41 hL1) q1 ?_
      obtain ⟨h3, eh3⟩ : ∃ h3 : pv_H, h3 = pv_up h2 40 5 (h2 41 (Int32.toNatClampNeg w1)) := ⟨_, rfl⟩
      have F := F h3 eh3
      refine pv_putI 4 5 dX4_levelRow_92 fl_X4_58 ⟨_, rfl, Or.inl rfl⟩ (Or.inl rfl) (lt_40 hL1) ?_
      refine pv_hE eh3 ?_
      refine pv_aload_n dX4_levelRow_95 rfl ?_
      refine pv_aload_n dX4_levelRow_96 rfl ?_
      refine pv_iload dX4_levelRow_97 rfl ?_
      refine pv_invV (As := [.ref a1, .int w1]) (d' := d - 1) dX4_levelRow_99 moX4_keepHeights ml_X4_61 (lt_40 hL1) (Or.inl ⟨_, rfl, rfl⟩) (Nat.le_of_ble_eq_true rfl) (by omega) (Nat.zero_le _) (Nat.zero_le _) F (fun v ty' h4 r' g' hq => ?_) rfl
      obtain ⟨e2, e4, e5, e1, F⟩ := hq
      rw [e1, e2, e4, e5]
      refine pv_pc (pc' := 102) rfl ?_
      show pv_E Γ d kc ks mX4_levelRow 102 [some (.ref 40), some (.ref a1), some (.int x2), none, none, none, some (.int w1)] [] ty h4 r1 g Q
      refine pv_aload_n dX4_levelRow_102 rfl ?_
      refine pv_getI 4 5 dX4_levelRow_103 fl_X4_58 rfl (lt_40 hL1) ?_
      exact pv_ireturn dX4_levelRow_106 rfl rfl F
    · have F := F.2 c2
      refine pv_bipush (v := (-2)) (by decide) dX4_levelRow_71 ?_
      exact pv_ireturn dX4_levelRow_73 rfl rfl F
  · have F := F.2 c1
    refine pv_aload_n dX4_levelRow_30 rfl ?_
    refine pv_aload_n dX4_levelRow_31 rfl ?_
    refine pv_iload dX4_levelRow_32 rfl ?_
    refine pv_aload_n dX4_levelRow_34 rfl ?_
    obtain ⟨q2, F⟩ := F
    refine pv_getR 8 2 dX4_levelRow_35 fl_X4_36 rfl q2 ?_
    refine pv_aload_n dX4_levelRow_38 rfl ?_
    refine pv_iload_n dX4_levelRow_39 rfl ?_
    refine pv_iload dX4_levelRow_40 rfl ?_
    obtain ⟨q3, F⟩ := F
    obtain ⟨q4, F⟩ := F
    refine pv_invV (As := [.int x2, .int x6]) (d' := d - 1) dX4_levelRow_42 moX8_placeOf ml_X4_39 q3 (Or.inl ⟨_, rfl, rfl⟩) (Nat.le_of_ble_eq_true rfl) (by omega) (Nat.zero_le _) (Nat.zero_le _) (ct_X8_placeOf (by omega) q4) (fun v ty' h' r' g' hq => ?_) rfl
    obtain ⟨e1, e2, e3, e4, e5⟩ := hq
    rw [e1, e2, e3, e4, e5]
    refine pv_pc (pc' := 45) rfl ?_
    show pv_E Γ d kc ks mX4_levelRow 45 [some (.ref 40), some (.ref a1), some (.int x2), none, none, none, some (.int x6)] [.int (x2 * h a1 1 + x6), .ref (r a1 2), .int x6, .ref a1, .ref 40] ty h r g Q
    obtain ⟨q5, F⟩ := F
    obtain ⟨q5n, q5t, q5i⟩ := q5
    refine pv_iald dX4_levelRow_45 q5t q5i ?_
    refine pv_invV (As := [.ref a1, .int x6, .int (h (r a1 2) (Int32.toNatClampNeg (x2 * h a1 1 + x6)))]) (d' := d - 1) dX4_levelRow_46 moX4_weighColumn ml_X4_43 (lt_40 hL) (Or.inl ⟨_, rfl, rfl⟩) (Nat.le_of_ble_eq_true rfl) (by omega) (Nat.zero_le _) (Nat.zero_le _) F (fun v ty' h5 r' g' hq => ?_) rfl
    obtain ⟨e2, e4, e5, e1, F⟩ := hq
    rw [e1, e2, e4, e5]
    refine pv_pc (pc' := 49) rfl ?_
    show pv_E Γ d kc ks mX4_levelRow 49 [some (.ref 40), some (.ref a1), some (.int x2), none, none, none, some (.int x6)] [] ty h5 r g Q
    refine pv_iinc (v := x6 + (-1)) (ls' := [some (.ref 40), some (.ref a1), some (.int x2), none, none, none, some (.int (x6 + (-1)))]) dX4_levelRow_49 rfl (by rfl) rfl rfl ?_
    refine pv_goto (tgt := 25) dX4_levelRow_52 (by decide) ?_
    exact F
set_option maxRecDepth 20000 in
set_option maxHeartbeats 4000000 in
theorem sg_X4_newHeight_0 {Γ : pv_C} {d kc ks : Nat} {ty : pv_T} {h : pv_H} {r : pv_R} {g : pv_G} {Q : pv_Q} (x : Int32) (hL : pv_Lay ty r) (F : (((r 40 3) = 0 → Q (some (.int (-1))) ty h r g) ∧ (¬ (r 40 3) = 0 → ((x < 0 → Q (some (.int (-1))) ty h r g) ∧ (¬ x < 0 → ty (r 40 3) = some (8, 0) ∧ ((x < (h (r 40 3) 1) → vp_in x 9 ∧ Q (some (.int (h 43 (Int32.toNatClampNeg x)))) ty h r g) ∧ (¬ x < (h (r 40 3) 1) → Q (some (.int (-1))) ty h r g))))))) : pv_E Γ d kc ks mX4_newHeight 0 [some (.ref 40), some (.int x), none] [] ty h r g Q := by
  refine pv_aload_n dX4_newHeight_0 rfl ?_
  refine pv_getR 4 3 dX4_newHeight_1 fl_X4_51 rfl (lt_40 hL) ?_
  refine pv_astore_n (ls' := [some (.ref 40), some (.int x), some (.ref (r 40 3))]) dX4_newHeight_4 (by decide) rfl rfl ?_
  refine pv_aload_n dX4_newHeight_5 rfl ?_
  refine pv_ifnull (tgt := 21) dX4_newHeight_6 (by decide) (fun c1 => ?_) (fun c1 => ?_)
  · have F := F.1 c1
    refine pv_iconst (v := (-1)) (by decide) dX4_newHeight_21 ?_
    exact pv_ireturn dX4_newHeight_22 rfl rfl F
  · have F := F.2 c1
    refine pv_iload_n dX4_newHeight_9 rfl ?_
    refine pv_if_lt (tgt := 21) dX4_newHeight_10 (by decide) (fun c2 => ?_) (fun c2 => ?_)
    · have F := F.1 c2
      refine pv_iconst (v := (-1)) (by decide) dX4_newHeight_21 ?_
      exact pv_ireturn dX4_newHeight_22 rfl rfl F
    · have F := F.2 c2
      refine pv_iload_n dX4_newHeight_13 rfl ?_
      refine pv_aload_n dX4_newHeight_14 rfl ?_
      obtain ⟨q1, F⟩ := F
      refine pv_getI 8 1 dX4_newHeight_15 fl_X4_31 rfl q1 ?_
      refine pv_icmp_lt (tgt := 23) dX4_newHeight_18 (by decide) (fun c3 => ?_) (fun c3 => ?_)
      · have F := F.1 c3
        refine pv_aload_n dX4_newHeight_23 rfl ?_
        refine pv_getRk 4 2 dX4_newHeight_24 fl_X4_18 rfl (lt_40 hL) (lr_40_2 hL) ?_
        refine pv_iload_n dX4_newHeight_27 rfl ?_
        obtain ⟨q2, F⟩ := F
        refine pv_iald dX4_newHeight_28 (lt_43 hL) q2 ?_
        exact pv_ireturn dX4_newHeight_29 rfl rfl F
      · have F := F.2 c3
        refine pv_iconst (v := (-1)) (by decide) dX4_newHeight_21 ?_
        exact pv_ireturn dX4_newHeight_22 rfl rfl F
set_option maxRecDepth 20000 in
set_option maxHeartbeats 4000000 in
theorem sg_X4_carryOut_0 {Γ : pv_C} {d kc ks : Nat} {ty : pv_T} {h : pv_H} {r : pv_R} {g : pv_G} {Q : pv_Q}  (hd : 1 ≤ d) (hL : pv_Lay ty r) (F : (((r 40 3) = 0 → Q (some (.int (-2))) ty h r g) ∧ (¬ (r 40 3) = 0 → pv_CJ Γ (d - 1) mX4_isRowAsBefore [.ref 40, .ref (r 40 3)] ty h r g (fun (w1 : Int32) (h1 : pv_H) => ((¬ w1 = 0 → pv_E Γ d kc ks mX4_carryOut 22 [some (.ref 40), some (.ref (r 40 3)), some (.int 0)] [] ty h1 r g Q) ∧ (w1 = 0 → Q (some (.int (-2))) ty h1 r g)))))) : pv_E Γ d kc ks mX4_carryOut 0 [some (.ref 40), none, none] [] ty h r g Q := by
  refine pv_aload_n dX4_carryOut_0 rfl ?_
  refine pv_getR 4 3 dX4_carryOut_1 fl_X4_51 rfl (lt_40 hL) ?_
  refine pv_astore_n (ls' := [some (.ref 40), some (.ref (r 40 3)), none]) dX4_carryOut_4 (by decide) rfl rfl ?_
  refine pv_aload_n dX4_carryOut_5 rfl ?_
  refine pv_ifnull (tgt := 17) dX4_carryOut_6 (by decide) (fun c1 => ?_) (fun c1 => ?_)
  · have F := F.1 c1
    refine pv_bipush (v := (-2)) (by decide) dX4_carryOut_17 ?_
    exact pv_ireturn dX4_carryOut_19 rfl rfl F
  · have F := F.2 c1
    refine pv_aload_n dX4_carryOut_9 rfl ?_
    refine pv_aload_n dX4_carryOut_10 rfl ?_
    refine pv_invV (As := [.ref (r 40 3)]) (d' := d - 1) dX4_carryOut_11 moX4_isRowAsBefore ml_X4_84 (lt_40 hL) (Or.inl ⟨_, rfl, rfl⟩) (Nat.le_of_ble_eq_true rfl) (by omega) (Nat.zero_le _) (Nat.zero_le _) F (fun v ty' h1 r' g' hq => ?_) rfl
    obtain ⟨e2, e4, e5, w1, e1, F⟩ := hq
    rw [e1, e2, e4, e5]
    refine pv_pc (pc' := 14) rfl ?_
    show pv_E Γ d kc ks mX4_carryOut 14 [some (.ref 40), some (.ref (r 40 3)), none] [.int w1] ty h1 r g Q
    refine pv_if_ne (tgt := 20) dX4_carryOut_14 (by decide) (fun c2 => ?_) (fun c2 => ?_)
    · have F := F.1 c2
      refine pv_iconst (v := 0) (by decide) dX4_carryOut_20 ?_
      refine pv_istore_n (ls' := [some (.ref 40), some (.ref (r 40 3)), some (.int 0)]) dX4_carryOut_21 (by decide) rfl rfl ?_
      exact F
    · have F := F.2 c2
      refine pv_bipush (v := (-2)) (by decide) dX4_carryOut_17 ?_
      exact pv_ireturn dX4_carryOut_19 rfl rfl F
set_option maxRecDepth 20000 in
set_option maxHeartbeats 4000000 in
theorem sg_X4_carryOut_22 {Γ : pv_C} {d kc ks : Nat} {ty : pv_T} {h : pv_H} {r : pv_R} {g : pv_G} {Q : pv_Q} (a1 : Nat) (x2 : Int32) (hd : 1 ≤ d) (hL : pv_Lay ty r) (F : ty a1 = some (8, 0) ∧ (((h a1 1) ≤ x2 → (∀ r1 : pv_R, r1 = pv_up r 40 3 0 → pv_Lay ty r1 ∧ Q (some (.int (h 40 5))) ty h r1 g)) ∧ (¬ (h a1 1) ≤ x2 → ty a1 = some (8, 0) ∧ ty a1 = some (8, 0) ∧ (ty a1 = some (8, 0)) ∧ vp_in x2 9 ∧ pv_inb ty (r a1 2) 20 ((h 40 4) * h a1 1 + x2) ∧ 10 ≤ (r a1 2) ∧ (∀ h1 : pv_H, h1 = pv_up h (r a1 2) (Int32.toNatClampNeg ((h 40 4) * h a1 1 + x2)) (h 43 (Int32.toNatClampNeg x2)) → pv_E Γ d kc ks mX4_carryOut 22 [some (.ref 40), some (.ref a1), some (.int (x2 + 1))] [] ty h1 r g Q)))) : pv_E Γ d kc ks mX4_carryOut 22 [some (.ref 40), some (.ref a1), some (.int x2)] [] ty h r g Q := by
  refine pv_iload_n dX4_carryOut_22 rfl ?_
  refine pv_aload_n dX4_carryOut_23 rfl ?_
  obtain ⟨q1, F⟩ := F
  refine pv_getI 8 1 dX4_carryOut_24 fl_X4_31 rfl q1 ?_
  refine pv_icmp_ge (tgt := 56) dX4_carryOut_27 (by decide) (fun c1 => ?_) (fun c1 => ?_)
  · have F := F.1 c1
    refine pv_aload_n dX4_carryOut_56 rfl ?_
    refine pv_null dX4_carryOut_57 ?_
    obtain ⟨r1, er1⟩ : ∃ r1 : pv_R, r1 = pv_up r 40 3 0 := ⟨_, rfl⟩
    have F := F r1 er1
    refine pv_putR 4 3 dX4_carryOut_58 fl_X4_51 ⟨_, rfl, Or.inl rfl⟩ rfl (lt_40 hL) ?_
    refine pv_rE er1 ?_
    obtain ⟨hL1, F⟩ := F
    refine pv_aload_n dX4_carryOut_61 rfl ?_
    refine pv_getI 4 5 dX4_carryOut_62 fl_X4_58 rfl (lt_40 hL1) ?_
    exact pv_ireturn dX4_carryOut_65 rfl rfl F
  · have F := F.2 c1
    refine pv_aload_n dX4_carryOut_30 rfl ?_
    obtain ⟨q2, F⟩ := F
    refine pv_getR 8 2 dX4_carryOut_31 fl_X4_36 rfl q2 ?_
    refine pv_aload_n dX4_carryOut_34 rfl ?_
    refine pv_aload_n dX4_carryOut_35 rfl ?_
    refine pv_getI 4 4 dX4_carryOut_36 fl_X4_55 rfl (lt_40 hL) ?_
    refine pv_iload_n dX4_carryOut_39 rfl ?_
    obtain ⟨q3, F⟩ := F
    obtain ⟨q4, F⟩ := F
    refine pv_invV (As := [.int (h 40 4), .int x2]) (d' := d - 1) dX4_carryOut_40 moX8_placeOf ml_X4_39 q3 (Or.inl ⟨_, rfl, rfl⟩) (Nat.le_of_ble_eq_true rfl) (by omega) (Nat.zero_le _) (Nat.zero_le _) (ct_X8_placeOf (by omega) q4) (fun v ty' h' r' g' hq => ?_) rfl
    obtain ⟨e1, e2, e3, e4, e5⟩ := hq
    rw [e1, e2, e3, e4, e5]
    refine pv_pc (pc' := 43) rfl ?_
    show pv_E Γ d kc ks mX4_carryOut 43 [some (.ref 40), some (.ref a1), some (.int x2)] [.int ((h 40 4) * h a1 1 + x2), .ref (r a1 2)] ty h r g Q
    refine pv_aload_n dX4_carryOut_43 rfl ?_
    refine pv_getRk 4 2 dX4_carryOut_44 fl_X4_18 rfl (lt_40 hL) (lr_40_2 hL) ?_
    refine pv_iload_n dX4_carryOut_47 rfl ?_
    obtain ⟨q5, F⟩ := F
    refine pv_iald dX4_carryOut_48 (lt_43 hL) q5 ?_
    obtain ⟨q6, F⟩ := F
    obtain ⟨q6n, q6t, q6i⟩ := q6
    obtain ⟨q6w, F⟩ := F
    obtain ⟨h1, eh1⟩ : ∃ h1 : pv_H, h1 = pv_up h (r a1 2) (Int32.toNatClampNeg ((h 40 4) * h a1 1 + x2)) (h 43 (Int32.toNatClampNeg x2)) := ⟨_, rfl⟩
    have F := F h1 eh1
    refine pv_iast dX4_carryOut_49 q6t q6w q6i ?_
    refine pv_hE eh1 ?_
    refine pv_iinc (v := x2 + 1) (ls' := [some (.ref 40), some (.ref a1), some (.int (x2 + 1))]) dX4_carryOut_50 rfl (by rfl) rfl rfl ?_
    refine pv_goto (tgt := 22) dX4_carryOut_53 (by decide) ?_
    exact F
set_option maxRecDepth 20000 in
set_option maxHeartbeats 4000000 in
theorem sg_X11_level_0 {Γ : pv_C} {d kc ks : Nat} {ty : pv_T} {h : pv_H} {r : pv_R} {g : pv_G} {Q : pv_Q} (x : Int32) (y : Int32) (z : Int32) (u : Int32) (hd : 1 ≤ d) (hL : pv_Lay ty r) (F : pv_CT Γ (d - 1) 0 0 mX11_findStreet [.ref 100, .int x] ty h r g (fun (v1 : Option Value) (ty1 : pv_T) (h1 : pv_H) (r1 : pv_R) (g1 : pv_G) => ∃ w1 : Nat, v1 = some (.ref w1) ∧ pv_Lay ty1 r1 ∧ ((w1 = 0 → Q (some (.int (-1))) ty1 h1 r1 g1) ∧ (¬ w1 = 0 → ty1 w1 = some (8, 0) ∧ (ty1 w1 = some (8, 0)) ∧ (((pf_b ((0 ≤ y ∧ y < h1 w1 0) ∧ (0 ≤ z ∧ z < h1 w1 1))) = 0 → Q (some (.int (-1))) ty1 h1 r1 g1) ∧ (¬ (pf_b ((0 ≤ y ∧ y < h1 w1 0) ∧ (0 ≤ z ∧ z < h1 w1 1))) = 0 → (((pf_b (0 ≤ u ∧ u ≤ 99)) = 0 → Q (some (.int (-1))) ty1 h1 r1 g1) ∧ (¬ (pf_b (0 ≤ u ∧ u ≤ 99)) = 0 → (((u / 10) ≤ (u - u / 10 * 10) → pv_CT Γ (d - 1) 0 0 mX4_levelRow [.ref 40, .ref w1, .int y, .int z, .int (u / 10), .int (u - u / 10 * 10)] ty1 h1 r1 g1 (fun (v2 : Option Value) (ty2 : pv_T) (h2 : pv_H) (r2 : pv_R) (g2 : pv_G) => ∃ w2 : Int32, v2 = some (.int w2) ∧ pv_Lay ty2 r2 ∧ Q (some (.int w2)) ty2 h2 r2 g2)) ∧ (¬ (u / 10) ≤ (u - u / 10 * 10) → Q (some (.int (-1))) ty1 h1 r1 g1)))))))))) : pv_E Γ d kc ks mX11_level 0 [some (.ref 100), some (.int x), some (.int y), some (.int z), some (.int u), none] [] ty h r g Q := by
  refine pv_aload_n dX11_level_0 rfl ?_
  refine pv_iload_n dX11_level_1 rfl ?_
  refine pv_invV (As := [.int x]) (d' := d - 1) dX11_level_2 moX11_findStreet ml_X11_80 (lt_100 hL) (Or.inl ⟨_, rfl, rfl⟩) (Nat.le_of_ble_eq_true rfl) (by omega) (Nat.zero_le _) (Nat.zero_le _) F (fun v1 ty1 h1 r1 g1 F => ?_) rfl
  obtain ⟨w1, rfl, F⟩ := F
  obtain ⟨hL1, F⟩ := F
  refine pv_pc (pc' := 5) rfl ?_
  show pv_E Γ d kc ks mX11_level 5 [some (.ref 100), some (.int x), some (.int y), some (.int z), some (.int u), none] [.ref w1] ty1 h1 r1 g1 Q
  refine pv_astore (ls' := [some (.ref 100), some (.int x), some (.int y), some (.int z), some (.int u), some (.ref w1)]) dX11_level_5 (by decide) rfl rfl ?_
  refine pv_aload dX11_level_7 rfl ?_
  refine pv_ifnull (tgt := 46) dX11_level_9 (by decide) (fun c1 => ?_) (fun c1 => ?_)
  · have F := F.1 c1
    refine pv_iconst (v := (-1)) (by decide) dX11_level_46 ?_
    exact pv_ireturn dX11_level_47 rfl rfl F
  · have F := F.2 c1
    refine pv_aload dX11_level_12 rfl ?_
    refine pv_iload_n dX11_level_14 rfl ?_
    refine pv_iload_n dX11_level_15 rfl ?_
    obtain ⟨q1, F⟩ := F
    obtain ⟨q2, F⟩ := F
    refine pv_invV (As := [.int y, .int z]) (d' := d - 1) dX11_level_16 moX8_has ml_X11_84 q1 (Or.inl ⟨_, rfl, rfl⟩) (Nat.le_of_ble_eq_true rfl) (by omega) (Nat.zero_le _) (Nat.zero_le _) (ct_X8_has (by omega) q2) (fun v ty' h' r' g' hq => ?_) rfl
    obtain ⟨e1, e2, e3, e4, e5⟩ := hq
    rw [e1, e2, e3, e4, e5]
    refine pv_pc (pc' := 19) rfl ?_
    show pv_E Γ d kc ks mX11_level 19 [some (.ref 100), some (.int x), some (.int y), some (.int z), some (.int u), some (.ref w1)] [.int (pf_b ((0 ≤ y ∧ y < h1 w1 0) ∧ (0 ≤ z ∧ z < h1 w1 1)))] ty1 h1 r1 g1 Q
    refine pv_if_eq (tgt := 46) dX11_level_19 (by decide) (fun c2 => ?_) (fun c2 => ?_)
    · have F := F.1 c2
      refine pv_iconst (v := (-1)) (by decide) dX11_level_46 ?_
      exact pv_ireturn dX11_level_47 rfl rfl F
    · have F := F.2 c2
      refine pv_iload dX11_level_22 rfl ?_
      refine pv_iconst (v := 0) (by decide) dX11_level_24 ?_
      refine pv_bipush (v := 99) (by decide) dX11_level_25 ?_
      refine pv_invS (As := [.int u, .int 0, .int 99]) (d' := d - 1) dX11_level_27 moX11_within ml_X11_69 (Nat.le_of_ble_eq_true rfl) (by omega) (Nat.zero_le _) (Nat.zero_le _) (ct_X11_within (by omega)) (fun v ty' h' r' g' hq => ?_) rfl
      obtain ⟨e1, e2, e3, e4, e5⟩ := hq
      rw [e1, e2, e3, e4, e5]
      refine pv_pc (pc' := 30) rfl ?_
      show pv_E Γ d kc ks mX11_level 30 [some (.ref 100), some (.int x), some (.int y), some (.int z), some (.int u), some (.ref w1)] [.int (pf_b (0 ≤ u ∧ u ≤ 99))] ty1 h1 r1 g1 Q
      refine pv_if_eq (tgt := 46) dX11_level_30 (by decide) (fun c3 => ?_) (fun c3 => ?_)
      · have F := F.1 c3
        refine pv_iconst (v := (-1)) (by decide) dX11_level_46 ?_
        exact pv_ireturn dX11_level_47 rfl rfl F
      · have F := F.2 c3
        refine pv_iload dX11_level_33 rfl ?_
        refine pv_bipush (v := 10) (by decide) dX11_level_35 ?_
        refine pv_idiv (by decide) dX11_level_37 ?_
        refine pv_iload dX11_level_38 rfl ?_
        refine pv_bipush (v := 10) (by decide) dX11_level_40 ?_
        refine pv_irem (by decide) dX11_level_42 ?_
        refine pv_pc (pc' := 43) rfl ?_
        refine pv_icmp_le (tgt := 48) dX11_level_43 (by decide) (fun c4 => ?_) (fun c4 => ?_)
        · have F := F.1 c4
          refine pv_aload_n dX11_level_48 rfl ?_
          refine pv_getRk 11 3 dX11_level_49 fl_X11_25 rfl (lt_100 hL1) (lr_100_3 hL1) ?_
          refine pv_aload dX11_level_52 rfl ?_
          refine pv_iload_n dX11_level_54 rfl ?_
          refine pv_iload_n dX11_level_55 rfl ?_
          refine pv_iload dX11_level_56 rfl ?_
          refine pv_pc (pc' := 58) rfl ?_
          refine pv_bipush (v := 10) (by decide) dX11_level_58 ?_
          refine pv_idiv (by decide) dX11_level_60 ?_
          refine pv_iload dX11_level_61 rfl ?_
          refine pv_bipush (v := 10) (by decide) dX11_level_63 ?_
          refine pv_irem (by decide) dX11_level_65 ?_
          refine pv_invV (As := [.ref w1, .int y, .int z, .int (u / 10), .int (u - u / 10 * 10)]) (d' := d - 1) dX11_level_66 moX4_levelRow ml_X11_116 (lt_40 hL1) (Or.inl ⟨_, rfl, rfl⟩) (Nat.le_of_ble_eq_true rfl) (by omega) (Nat.zero_le _) (Nat.zero_le _) F (fun v2 ty2 h2 r2 g2 F => ?_) rfl
          obtain ⟨w2, rfl, F⟩ := F
          obtain ⟨hL2, F⟩ := F
          refine pv_pc (pc' := 69) rfl ?_
          show pv_E Γ d kc ks mX11_level 69 [some (.ref 100), some (.int x), some (.int y), some (.int z), some (.int u), some (.ref w1)] [.int w2] ty2 h2 r2 g2 Q
          exact pv_ireturn dX11_level_69 rfl rfl F
        · have F := F.2 c4
          refine pv_iconst (v := (-1)) (by decide) dX11_level_46 ?_
          exact pv_ireturn dX11_level_47 rfl rfl F
set_option maxRecDepth 20000 in
set_option maxHeartbeats 4000000 in
theorem sg_X11_levelled_0 {Γ : pv_C} {d kc ks : Nat} {ty : pv_T} {h : pv_H} {r : pv_R} {g : pv_G} {Q : pv_Q} (x : Int32) (hd : 1 ≤ d) (hL : pv_Lay ty r) (F : pv_CT Γ (d - 1) 0 0 mX4_newHeight [.ref 40, .int x] ty h r g (fun (v1 : Option Value) (ty1 : pv_T) (h1 : pv_H) (r1 : pv_R) (g1 : pv_G) => ∃ w1 : Int32, v1 = some (.int w1) ∧ pv_Lay ty1 r1 ∧ Q (some (.int w1)) ty1 h1 r1 g1)) : pv_E Γ d kc ks mX11_levelled 0 [some (.ref 100), some (.int x)] [] ty h r g Q := by
  refine pv_aload_n dX11_levelled_0 rfl ?_
  refine pv_getRk 11 3 dX11_levelled_1 fl_X11_25 rfl (lt_100 hL) (lr_100_3 hL) ?_
  refine pv_iload_n dX11_levelled_4 rfl ?_
  refine pv_invV (As := [.int x]) (d' := d - 1) dX11_levelled_5 moX4_newHeight ml_X11_120 (lt_40 hL) (Or.inl ⟨_, rfl, rfl⟩) (Nat.le_of_ble_eq_true rfl) (by omega) (Nat.zero_le _) (Nat.zero_le _) F (fun v1 ty1 h1 r1 g1 F => ?_) rfl
  obtain ⟨w1, rfl, F⟩ := F
  obtain ⟨hL1, F⟩ := F
  refine pv_pc (pc' := 8) rfl ?_
  show pv_E Γ d kc ks mX11_levelled 8 [some (.ref 100), some (.int x)] [.int w1] ty1 h1 r1 g1 Q
  exact pv_ireturn dX11_levelled_8 rfl rfl F
set_option maxRecDepth 20000 in
set_option maxHeartbeats 4000000 in
theorem sg_X11_move_0 {Γ : pv_C} {d kc ks : Nat} {ty : pv_T} {h : pv_H} {r : pv_R} {g : pv_G} {Q : pv_Q}  (hd : 1 ≤ d) (hL : pv_Lay ty r) (F : pv_CT Γ (d - 1) 0 0 mX4_carryOut [.ref 40] ty h r g (fun (v1 : Option Value) (ty1 : pv_T) (h1 : pv_H) (r1 : pv_R) (g1 : pv_G) => ∃ w1 : Int32, v1 = some (.int w1) ∧ pv_Lay ty1 r1 ∧ Q (some (.int w1)) ty1 h1 r1 g1)) : pv_E Γ d kc ks mX11_move 0 [some (.ref 100)] [] ty h r g Q := by
  refine pv_aload_n dX11_move_0 rfl ?_
  refine pv_getRk 11 3 dX11_move_1 fl_X11_25 rfl (lt_100 hL) (lr_100_3 hL) ?_
  refine pv_invV (As := []) (d' := d - 1) dX11_move_4 moX4_carryOut ml_X11_123 (lt_40 hL) (Or.inl ⟨_, rfl, rfl⟩) (Nat.le_of_ble_eq_true rfl) (by omega) (Nat.zero_le _) (Nat.zero_le _) F (fun v1 ty1 h1 r1 g1 F => ?_) rfl
  obtain ⟨w1, rfl, F⟩ := F
  obtain ⟨hL1, F⟩ := F
  refine pv_pc (pc' := 7) rfl ?_
  show pv_E Γ d kc ks mX11_move 7 [some (.ref 100)] [.int w1] ty1 h1 r1 g1 Q
  exact pv_ireturn dX11_move_7 rfl rfl F
abbrev lvA : Nat → Nat → Prop := fun a j => a = 41 ∨ (a = 40 ∧ 6 ≤ j ∧ j ≤ 8)
abbrev lvB : Nat → Nat → Prop := fun a j => a = 41 ∨ a = 42 ∨ a = 43 ∨ (a = 40 ∧ 4 ≤ j ∧ j ≤ 8)
def lv_v (h : pv_H) (x y z u : Int32) : Prop := pf_sq h x y z ∧ (0 ≤ u ∧ u ≤ 99) ∧ u / 10 ≤ u - u / 10 * 10
theorem lv_u {u : Int32} (q : 0 ≤ u ∧ u ≤ 99) : ∃ f e, f < 10 ∧ e < 10 ∧ u = nI (10 * f + e) ∧ u / 10 = nI f ∧ u - u / 10 * 10 = nI e := by
  obtain ⟨n, hn, rfl⟩ := nI_of (x := u) (Int32.not_lt.mpr q.1)
  have hn9 : n ≤ 99 := (nI_leI (b := 99) hn (by decide)).mp q.2
  refine ⟨n / 10, n % 10, by omega, by omega, by rw [show 10 * (n / 10) + n % 10 = n by omega], pk_div (d := 10) (by omega) (by decide) (by decide), pk_rem (d := 10) (by omega) (by decide) (by decide)⟩
section LE
variable {Γ : pv_C} {d kc ks : Nat} {ty : pv_T} {h h0 : pv_H} {r : pv_R} {g : pv_G} {Q : pv_Q} {C k f e a R i ns : Nat}
abbrev lv_M (O : Nat → Int32) (C k f e : Nat) : Int32 := lv_m (fun _ => true) (lv_G O C k f e 0) 100
theorem cStr_fr {h' : pv_H} (hS : cStr ty h r a R C) (e0 : h' a = h a) (e1 : h' (a + 1) = h (a + 1)) : cStr ty h' r a R C := by
  obtain ⟨a1, a2, a3, a4, a5, a6, a7, a8, a9⟩ := hS
  refine ⟨a1, a2, by rw [e0]; exact a3, by rw [e0]; exact a4, a5, a6, a7, a8, ?_⟩
  have : cH h' a C = cH h a C := by funext i j; show h' (a + 1) _ = _; rw [e1]
  rw [this]; exact a9
theorem cStr_r {b x : Nat} (hb : b < 1000) {j : Nat} (hS : cStr ty h r a R C) : cStr ty h (pv_up r b j x) a R C := by
  obtain ⟨a1, a2, a3, a4, a5, a6, ⟨b1, b2, b3⟩, a8, a9⟩ := hS
  exact ⟨a1, a2, a3, a4, a5, a6, ⟨by rw [pv_up_a (by omega)]; exact b1, by rw [pv_up_a (by omega)]; exact b2, by rw [pv_up_a (by omega)]; exact b3⟩, a8, a9⟩
theorem lv_Lay (hL : pv_Lay ty r) (x : Nat) : pv_Lay ty (pv_up r 40 3 x) := pv_Lay_up hL (by decide)
theorem lv_25 (hd : 3 ≤ d) (hL : pv_Lay ty r) (hp : lv_par h0 k f e) (hS : cStr ty h0 r a R C) (hi : i < R)
  (hQ1 : ∀ h', pv_fr (aR 41) h0 h' → lv_M (lvO h0 a C i) C k f e = 1000000 → Q (some (.int (-2))) ty h' r g)
  (hQ2 : ∀ h', pv_fr lvB h0 h' → lv_M (lvO h0 a C i) C k f e < 1000000 → h' 40 4 = nI i → h' 40 5 = lv_M (lvO h0 a C i) C k f e → lv_rows (lvO h0 a C i) C k f e h' 42 43 C → Q (some (.int (lv_M (lvO h0 a C i) C k f e))) ty h' (pv_up r 40 3 a) g) : ∀ (c : Nat) (h : pv_H), c ≤ C → pv_fr (aR 41) h0 h → (∀ c', c = c' + 1 → lv_tb (lvO h0 a C i) C k f e h 41 c' 0) → (c = 0 → lv_tb (lvO h0 a C i) C k f e h 41 0 100) → pv_E Γ d kc ks mX4_levelRow 25 [some (.ref 40), some (.ref a), some (.int (nI i)), none, none, none, some (.int (nI c - 1))] [] ty h r g Q := by
  have hS0 := hS
  obtain ⟨ha, hta, hR0, hC, hR, h9, ⟨r2, -⟩, ⟨t1, -⟩, -⟩ := hS
  intro c
  induction c with
  | zero =>
    intro h hc hf _ t
    have t := t rfl
    refine sg_X4_levelRow_25 _ _ _ (by omega) hL ⟨fun _ => ?_, fun q => absurd (show nI 0 - 1 < 0 by decide) q⟩
    refine pv_CJ.mono (ct_X4_bestHeight (c := 0) (P := fun _ => true) (G := lv_G (lvO h0 a C i) C k f e 0) (by omega) hL (by omega) (fun b hb => t.2 b hb) (fun b hb => ⟨fun _ => ⟨nI_pos' (by omega), (nI_leI (b := 99) (by omega) (by decide)).mpr (by omega)⟩, fun _ => rfl⟩)) (fun w h' q => ?_)
    obtain ⟨ew, eh⟩ := q
    subst eh
    rw [ew]
    refine ⟨fun c1 r1 e1 => ?_, fun c1 => hQ1 _ hf ((lv_a_m _ _ 100 (by decide)).mp c1)⟩
    have hm : lv_M (lvO h0 a C i) C k f e < 1000000 := by
      rcases (lv_all (fun _ => true) (lv_G (lvO h0 a C i) C k f e 0) 100).2.2 with ⟨q1, _⟩ | ⟨q1, _⟩
      · exact absurd q1 c1
      · exact q1
    obtain ⟨p0, p1⟩ := lv_p_0 hm
    subst e1
    have hb := p0.1
    rw [p0.2.1, nI_clamp (by omega)]
    refine ⟨lv_Lay hL _, fun h2 e2 => ⟨vp_in_nI (by omega) (by decide), fun h3 e3 => ?_⟩⟩
    rw [e2, pv_up_a (show (41 : Nat) ≠ 40 by decide), show h' 41 (lv_p (lvO h0 a C i) C k f e 0) = lv_M (lvO h0 a C i) C k f e from (by have := t.2 _ hb; rw [Nat.mul_zero, Nat.zero_add] at this; exact this.trans p0.2.2.2.1)] at e3
    have hf3 : pv_fr lvB h0 h3 := by
      rw [e3]
      exact pv_fr_up (pv_fr_up (pv_fr_mono (fun a j z => Or.inl z) hf) (Or.inr (Or.inr (Or.inr ⟨rfl, by decide, by decide⟩)))) (Or.inr (Or.inr (Or.inr ⟨rfl, by decide, by decide⟩)))
    have h40 : ∀ j, 6 ≤ j → h3 40 j = h0 40 j := fun j hj => by rw [e3, pv_up_j (by omega), pv_up_j (by omega)]; exact hf 40 j (by simp)
    have hp3 : lv_par h3 k f e := ⟨(h40 6 (by decide)).trans hp.1, (h40 7 (by decide)).trans hp.2.1, (h40 8 (by decide)).trans hp.2.2.1, hp.2.2.2⟩
    have ea1 : h3 (a + 1) = h0 (a + 1) := pv_fr_r hf3 (fun j => by simp; omega)
    have eO : lvO h3 a C i = lvO h0 a C i := by funext c; show h3 (a + 1) _ = _; rw [ea1]
    have hS3 : cStr ty h3 (pv_up r 40 3 a) a R C := cStr_r (by decide) (cStr_fr hS0 (pv_fr_r hf3 (fun j => by simp; omega)) ea1)
    have := ct_X4_keep (Γ := Γ) (d := d - 1) (g := g) (by omega) (lv_Lay hL a) hp3 hS3 hi (by rw [e3, pv_up_j (by decide), pv_up_same]) (by rw [eO]; exact lv_tb_fr (by rw [e3]; funext j; rw [pv_up_a (by decide), pv_up_a (by decide)]) t) (by rw [eO]; exact hm)
    rw [eO] at this
    refine pv_CW.mono this (fun h4 q => ?_)
    obtain ⟨f4, rows⟩ := q
    have e45 : h4 40 5 = lv_M (lvO h0 a C i) C k f e := by rw [f4 40 5 (by decide), e3, pv_up_same]
    rw [e45]
    refine hQ2 h4 (fun b j z => ?_) hm ?_ e45 rows
    · rw [f4 b j (fun q => z (q.elim (fun q => Or.inr (Or.inl q)) (fun q => Or.inr (Or.inr (Or.inl q)))))]
      exact hf3 b j z
    · rw [f4 40 4 (by decide), e3, pv_up_j (by decide), pv_up_same]
  | succ c ih =>
    intro h hc hf t _
    have t := t c rfl
    have hC' : h a 1 = nI C := (hf a 1 (show ¬ a = 41 by omega)).trans hC
    have hon : wt_on R C (i, c) := ⟨hi, hc⟩
    have hin : pv_inb ty (a + 1) 20 (pl C (i, c)) := ⟨_, t1, pl_in hR.2 h9.2 hon⟩
    have hv : h (a + 1) (i * C + c) = lvO h0 a C i c := hf (a + 1) _ (show ¬ a + 1 = 41 by omega)
    rw [nI_pred]
    refine sg_X4_levelRow_25 _ _ _ (by omega) hL ⟨fun q => absurd q (nI_pos (by omega)), fun _ => ?_⟩
    rw [hC', pl_mk, r2, pl_cl hR.2 h9.2 hon, hv]
    refine ⟨hta, hta, hta, hin, pv_CW.mono (ct_X4_weigh (by omega) hL (lv_par_fr hf (fun j _ => by simp) hp) ha hta hC' hc h9.2 t) (fun h' q => ?_)⟩
    rw [← Int32.sub_eq_add_neg]
    refine ih h' (by omega) (pv_fr_tr hf q.1) (fun c' e' => ?_) (fun e' => ?_)
    · subst e'
      exact lv_tb_nx q.2
    · rw [e'] at q; exact q.2
theorem ct_X4_levelRow (hd : 3 ≤ d) (hL : pv_Lay ty r) (hS : cStr ty h r a R C) (hi : i < R) (hk : k < 100) (hfe : f < 100) (he : e < 100) {K : pv_Q}
  (hQ1 : ∀ h', pv_fr lvA h h' → lv_M (lvO h a C i) C k f e = 1000000 → K (some (.int (-2))) ty h' r g)
  (hQ2 : ∀ h', pv_fr lvB h h' → lv_M (lvO h a C i) C k f e < 1000000 → h' 40 4 = nI i → h' 40 5 = lv_M (lvO h a C i) C k f e → lv_rows (lvO h a C i) C k f e h' 42 43 C → K (some (.int (lv_M (lvO h a C i) C k f e))) ty h' (pv_up r 40 3 a) g) : pv_CT Γ d 0 0 mX4_levelRow [.ref 40, .ref a, .int (nI i), .int (nI k), .int (nI f), .int (nI e)] ty h r g K := by
  refine pv_fn 1 pn_X4 rfl (Nat.le_of_ble_eq_true rfl) (sg_X4_levelRow_0 _ _ _ _ _ hL (fun h1 e1 h2 e2 h3 e3 => ⟨hS.2.1, ?_⟩))
  have ha := hS.1
  have hf3 : pv_fr lvA h h3 := by
    rw [e3, e2, e1]
    exact pv_fr_up (pv_fr_up (pv_fr_up (pv_fr_refl _ _) (Or.inr ⟨rfl, by decide, by decide⟩)) (Or.inr ⟨rfl, by decide, by decide⟩)) (Or.inr ⟨rfl, by decide, by decide⟩)
  have hp : lv_par h3 k f e := ⟨by rw [e3, pv_up_j (by decide), e2, pv_up_j (by decide), e1, pv_up_same], by rw [e3, pv_up_j (by decide), e2, pv_up_same], by rw [e3, pv_up_same], hk, hfe, he⟩
  have ea1 : h3 (a + 1) = h (a + 1) := pv_fr_r hf3 (fun j => by simp; omega)
  have eO : lvO h3 a C i = lvO h a C i := by funext c; show h3 (a + 1) _ = _; rw [ea1]
  have hS3 : cStr ty h3 r a R C := cStr_fr hS (pv_fr_r hf3 (fun j => by simp; omega)) ea1
  rw [hS3.2.2.2.1]
  have h9 := hS.2.2.2.2.2.1
  refine lv_25 hd hL hp hS3 hi (fun h' f' m' => ?_) (fun h' f' m' x4 x5 rows => ?_) C h3 (Nat.le_refl _) (pv_fr_refl _ _) (fun c' e' => ⟨fun c'' b h1 h2 => absurd h2 (by omega), fun b hb => absurd hb (by omega)⟩) (fun q => absurd q (by omega))
  · rw [eO] at m'
    exact hQ1 h' (pv_fr_tr hf3 (pv_fr_mono (fun a j z => Or.inl z) f')) m'
  · rw [eO] at m' x5 rows ⊢
    refine hQ2 h' (fun b j z => ?_) m' x4 x5 rows
    rw [f' b j z]
    exact hf3 b j (fun q => z (q.elim Or.inl (fun q => Or.inr (Or.inr (Or.inr ⟨q.1, by omega, q.2.2⟩)))))
theorem ct_X11_level (hd : 4 ≤ d) (hL : pv_Lay ty r) (hI : cpS ty h r ns) {x y z u : Int32} {K : pv_Q}
  (h1 : ¬ lv_v h x y z u → K (some (.int (-1))) ty h r g)
  (h2 : ∀ s i k f e, s < ns → i < mR h s → k < mC h s → f < 10 → e < 10 → f ≤ e → x = nI s → y = nI i → z = nI k → u = nI (10 * f + e) → (∀ h', pv_fr lvA h h' → lv_M (lvO h (cA s) (mC h s) i) (mC h s) k f e = 1000000 → K (some (.int (-2))) ty h' r g) ∧ (∀ h', pv_fr lvB h h' → lv_M (lvO h (cA s) (mC h s) i) (mC h s) k f e < 1000000 → h' 40 4 = nI i → h' 40 5 = lv_M (lvO h (cA s) (mC h s) i) (mC h s) k f e → lv_rows (lvO h (cA s) (mC h s) i) (mC h s) k f e h' 42 43 (mC h s) → K (some (.int (lv_M (lvO h (cA s) (mC h s) i) (mC h s) k f e))) ty h' (pv_up r 40 3 (cA s)) g)) : pv_CT Γ d 0 0 mX11_level [.ref 100, .int x, .int y, .int z, .int u] ty h r g K := by
  have h8 := hI.1.1
  refine pv_fn 1 pn_X11 rfl (Nat.le_of_ble_eq_true rfl) (sg_X11_level_0 x y z u (by omega) hL (ct_find hL hI (fun hf => ⟨_, rfl, hL, fun _ => ?_, fun q => absurd rfl q⟩) (fun s hs e => ⟨_, rfl, hL, fun q => absurd q (cA_ne s), fun _ => ?_⟩)))
  · exact h1 (fun q => hf q.1.1)
  · subst e
    obtain ⟨-, hS, hq⟩ := hI.2.2 s hs
    have ht := hS.2.1
    refine ⟨ht, ht, pk_b (fun c2 => pk_b (fun c3 => ?_) (fun c3 => h1 (fun q => c3 q.2.1))) (fun c2 => h1 (fun q => c2 ((cs_sq hI hs).mpr q.1)))⟩
    refine ⟨fun c4 => ?_, fun c4 => h1 (fun q => c4 q.2.2)⟩
    have c5 := c2
    obtain ⟨i, k, hi, hk, rfl, rfl⟩ := (cs_has hI hs).mp c2
    obtain ⟨f, e, hf, he, e1, e2, e3⟩ := lv_u c3
    rw [e3, e2] at c4 ⊢
    have hfe : f ≤ e := (nI_leI (by omega) (by omega)).mp c4
    have hC := hS.2.2.2.2.2.1.2
    have := h2 s i k f e hs hi hk hf he hfe rfl rfl rfl e1
    exact ct_X4_levelRow (by omega) hL hS hi (by omega) (by omega) (by omega) (fun h' a b => ⟨_, rfl, hL, this.1 h' a b⟩) (fun h' a b c d e => ⟨_, rfl, lv_Lay hL _, this.2 h' a b c d e⟩)
end LE
