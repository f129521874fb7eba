/-! the class's reader: clauses, the whole text -/
set_option maxRecDepth 20000 in
set_option maxHeartbeats 4000000 in
theorem sg_X9_readClause_0 {Γ : pv_C} {d kc ks : Nat} {ty : pv_T} {h : pv_H} {r : pv_R} {g : pv_G} {Q : pv_Q} (x : Int32) (hd : 1 ≤ d) (hL : pv_Lay ty r) (F : pv_CJ Γ (d - 1) mX9_readExpression [.ref 80, .int 0] ty h r g (fun (w1 : Int32) (h1 : pv_H) => ((¬ (h1 80 5) = (-1) → ((¬ (h1 80 6) = (-1) → Q (some (.int w1)) ty h1 r g) ∧ ((h1 80 6) = (-1) → (∀ h2 : pv_H, h2 = pv_up h1 80 6 x → Q (some (.int w1)) ty h2 r g)))) ∧ ((h1 80 5) = (-1) → (rd_ok ty h1 r) ∧ ((¬ (rd_pk h1 (r 80 1)) = 63 → ((¬ (h1 80 6) = (-1) → Q (some (.int w1)) ty h1 r g) ∧ ((h1 80 6) = (-1) → (∀ h3 : pv_H, h3 = pv_up h1 80 6 x → Q (some (.int w1)) ty h3 r g)))) ∧ ((rd_pk h1 (r 80 1)) = 63 → (∀ h4 : pv_H, h4 = pv_up h1 80 3 ((h1 80 3) + 1) → ((w1 = 0 → pv_CJ Γ (d - 1) mX9_readExpression [.ref 80, .int 0] ty h4 r g (fun (w2 : Int32) (h5 : pv_H) => Q (some (.int w2)) ty h5 r g)) ∧ (¬ w1 = 0 → pv_CJ Γ (d - 1) mX9_readExpression [.ref 80, .int 0] ty h4 r g (fun (w3 : Int32) (h6 : pv_H) => ((¬ (h6 80 6) = (-1) → Q (some (.int w3)) ty h6 r g) ∧ ((h6 80 6) = (-1) → (∀ h7 : pv_H, h7 = pv_up h6 80 6 x → Q (some (.int w3)) ty h7 r g))))))))))))) : pv_E Γ d kc ks mX9_readClause 0 [some (.ref 80), some (.int x), none, none] [] ty h r g Q := by
  refine pv_aload_n dX9_readClause_0 rfl ?_
  refine pv_iconst (v := 0) (by decide) dX9_readClause_1 ?_
  refine pv_invV (As := [.int 0]) (d' := d - 1) dX9_readClause_2 moX9_readExpression ml_X9_57 (lt_80 hL) (Or.inl ⟨_, rfl, rfl⟩) (Nat.le_of_ble_eq_true rfl) (by omega) (Nat.zero_le _) (Nat.zero_le _) F (fun v ty' h1 r' g' hq => ?_) rfl
  obtain ⟨e2, e4, e5, w1, e1, F⟩ := hq
  rw [e1, e2, e4, e5]
  refine pv_pc (pc' := 5) rfl ?_
  show pv_E Γ d kc ks mX9_readClause 5 [some (.ref 80), some (.int x), none, none] [.int w1] ty h1 r g Q
  refine pv_istore_n (ls' := [some (.ref 80), some (.int x), some (.int w1), none]) dX9_readClause_5 (by decide) rfl rfl ?_
  refine pv_iconst (v := 1) (by decide) dX9_readClause_6 ?_
  refine pv_istore_n (ls' := [some (.ref 80), some (.int x), some (.int w1), some (.int 1)]) dX9_readClause_7 (by decide) rfl rfl ?_
  refine pv_aload_n dX9_readClause_8 rfl ?_
  refine pv_getI 9 5 dX9_readClause_9 fl_X9_40 rfl (lt_80 hL) ?_
  refine pv_iconst (v := (-1)) (by decide) dX9_readClause_12 ?_
  refine pv_pc (pc' := 13) rfl ?_
  refine pv_icmp_ne (tgt := 51) dX9_readClause_13 (by decide) (fun c1 => ?_) (fun c1 => ?_)
  · have F := F.1 c1
    refine pv_iload_n dX9_readClause_51 rfl ?_
    refine pv_if_eq (tgt := 68) dX9_readClause_52 (by decide) (fun c2 => absurd c2 (by decide)) (fun c2 => ?_)
    refine pv_aload_n dX9_readClause_55 rfl ?_
    refine pv_getI 9 6 dX9_readClause_56 fl_X9_43 rfl (lt_80 hL) ?_
    refine pv_iconst (v := (-1)) (by decide) dX9_readClause_59 ?_
    refine pv_icmp_ne (tgt := 68) dX9_readClause_60 (by decide) (fun c3 => ?_) (fun c3 => ?_)
    · have F := F.1 c3
      refine pv_iload_n dX9_readClause_68 rfl ?_
      exact pv_ireturn dX9_readClause_69 rfl rfl F
    · have F := F.2 c3
      refine pv_aload_n dX9_readClause_63 rfl ?_
      refine pv_iload_n dX9_readClause_64 rfl ?_
      obtain ⟨h2, eh2⟩ : ∃ h2 : pv_H, h2 = pv_up h1 80 6 x := ⟨_, rfl⟩
      have F := F h2 eh2
      refine pv_putI 9 6 dX9_readClause_65 fl_X9_43 ⟨_, rfl, Or.inl rfl⟩ (Or.inl rfl) (lt_80 hL) ?_
      refine pv_hE eh2 ?_
      refine pv_iload_n dX9_readClause_68 rfl ?_
      exact pv_ireturn dX9_readClause_69 rfl rfl F
  · have F := F.2 c1
    refine pv_aload_n dX9_readClause_16 rfl ?_
    obtain ⟨q1, F⟩ := F
    refine pv_invV (As := []) (d' := d - 1) dX9_readClause_17 moX9_peek ml_X9_50 (lt_80 hL) (Or.inl ⟨_, rfl, rfl⟩) (Nat.le_of_ble_eq_true rfl) (by omega) (Nat.zero_le _) (Nat.zero_le _) (ct_X9_peek (by omega) hL q1) (fun v ty' h' r' g' hq => ?_) rfl
    obtain ⟨e1, e2, e3, e4, e5⟩ := hq
    rw [e1, e2, e3, e4, e5]
    refine pv_pc (pc' := 20) rfl ?_
    show pv_E Γ d kc ks mX9_readClause 20 [some (.ref 80), some (.int x), some (.int w1), some (.int 1)] [.int (rd_pk h1 (r 80 1))] ty h1 r g Q
    refine pv_bipush (v := 63) (by decide) dX9_readClause_20 ?_
    refine pv_icmp_ne (tgt := 51) dX9_readClause_22 (by decide) (fun c4 => ?_) (fun c4 => ?_)
    · have F := F.1 c4
      refine pv_iload_n dX9_readClause_51 rfl ?_
      refine pv_if_eq (tgt := 68) dX9_readClause_52 (by decide) (fun c5 => absurd c5 (by decide)) (fun c5 => ?_)
      refine pv_aload_n dX9_readClause_55 rfl ?_
      refine pv_getI 9 6 dX9_readClause_56 fl_X9_43 rfl (lt_80 hL) ?_
      refine pv_iconst (v := (-1)) (by decide) dX9_readClause_59 ?_
      refine pv_icmp_ne (tgt := 68) dX9_readClause_60 (by decide) (fun c6 => ?_) (fun c6 => ?_)
      · have F := F.1 c6
        refine pv_iload_n dX9_readClause_68 rfl ?_
        exact pv_ireturn dX9_readClause_69 rfl rfl F
      · have F := F.2 c6
        refine pv_aload_n dX9_readClause_63 rfl ?_
        refine pv_iload_n dX9_readClause_64 rfl ?_
        obtain ⟨h3, eh3⟩ : ∃ h3 : pv_H, h3 = pv_up h1 80 6 x := ⟨_, rfl⟩
        have F := F h3 eh3
        refine pv_putI 9 6 dX9_readClause_65 fl_X9_43 ⟨_, rfl, Or.inl rfl⟩ (Or.inl rfl) (lt_80 hL) ?_
        refine pv_hE eh3 ?_
        refine pv_iload_n dX9_readClause_68 rfl ?_
        exact pv_ireturn dX9_readClause_69 rfl rfl F
    · have F := F.2 c4
      refine pv_aload_n dX9_readClause_25 rfl ?_
      refine pv_dup rfl dX9_readClause_26 ?_
      refine pv_getI 9 3 dX9_readClause_27 fl_X9_35 rfl (lt_80 hL) ?_
      refine pv_iconst (v := 1) (by decide) dX9_readClause_30 ?_
      refine pv_iadd dX9_readClause_31 ?_
      obtain ⟨h4, eh4⟩ : ∃ h4 : pv_H, h4 = pv_up h1 80 3 ((h1 80 3) + 1) := ⟨_, rfl⟩
      have F := F h4 eh4
      refine pv_putI 9 3 dX9_readClause_32 fl_X9_35 ⟨_, rfl, Or.inl rfl⟩ (Or.inl rfl) (lt_80 hL) ?_
      refine pv_hE eh4 ?_
      refine pv_iload_n dX9_readClause_35 rfl ?_
      refine pv_if_eq (tgt := 43) dX9_readClause_36 (by decide) (fun c7 => ?_) (fun c7 => ?_)
      · have F := F.1 c7
        refine pv_iconst (v := 0) (by decide) dX9_readClause_43 ?_
        refine pv_istore_n (ls' := [some (.ref 80), some (.int x), some (.int w1), some (.int 0)]) dX9_readClause_44 (by decide) rfl rfl ?_
        refine pv_aload_n dX9_readClause_45 rfl ?_
        refine pv_iconst (v := 0) (by decide) dX9_readClause_46 ?_
        refine pv_invV (As := [.int 0]) (d' := d - 1) dX9_readClause_47 moX9_readExpression ml_X9_57 (lt_80 hL) (Or.inl ⟨_, rfl, rfl⟩) (Nat.le_of_ble_eq_true rfl) (by omega) (Nat.zero_le _) (Nat.zero_le _) F (fun v ty' h5 r' g' hq => ?_) rfl
        obtain ⟨e2, e4, e5, w2, e1, F⟩ := hq
        rw [e1, e2, e4, e5]
        refine pv_pc (pc' := 50) rfl ?_
        show pv_E Γ d kc ks mX9_readClause 50 [some (.ref 80), some (.int x), some (.int w1), some (.int 0)] [.int w2] ty h5 r g Q
        refine pv_istore_n (ls' := [some (.ref 80), some (.int x), some (.int w2), some (.int 0)]) dX9_readClause_50 (by decide) rfl rfl ?_
        refine pv_iload_n dX9_readClause_51 rfl ?_
        refine pv_if_eq (tgt := 68) dX9_readClause_52 (by decide) (fun c8 => ?_) (fun c8 => absurd c8 (by decide))
        refine pv_iload_n dX9_readClause_68 rfl ?_
        exact pv_ireturn dX9_readClause_69 rfl rfl F
      · have F := F.2 c7
        refine pv_iconst (v := 1) (by decide) dX9_readClause_39 ?_
        refine pv_goto (tgt := 44) dX9_readClause_40 (by decide) ?_
        refine pv_istore_n (ls' := [some (.ref 80), some (.int x), some (.int w1), some (.int 1)]) dX9_readClause_44 (by decide) rfl rfl ?_
        refine pv_aload_n dX9_readClause_45 rfl ?_
        refine pv_iconst (v := 0) (by decide) dX9_readClause_46 ?_
        refine pv_invV (As := [.int 0]) (d' := d - 1) dX9_readClause_47 moX9_readExpression ml_X9_57 (lt_80 hL) (Or.inl ⟨_, rfl, rfl⟩) (Nat.le_of_ble_eq_true rfl) (by omega) (Nat.zero_le _) (Nat.zero_le _) F (fun v ty' h6 r' g' hq => ?_) rfl
        obtain ⟨e2, e4, e5, w3, e1, F⟩ := hq
        rw [e1, e2, e4, e5]
        refine pv_pc (pc' := 50) rfl ?_
        show pv_E Γ d kc ks mX9_readClause 50 [some (.ref 80), some (.int x), some (.int w1), some (.int 1)] [.int w3] ty h6 r g Q
        refine pv_istore_n (ls' := [some (.ref 80), some (.int x), some (.int w3), some (.int 1)]) dX9_readClause_50 (by decide) rfl rfl ?_
        refine pv_iload_n dX9_readClause_51 rfl ?_
        refine pv_if_eq (tgt := 68) dX9_readClause_52 (by decide) (fun c9 => absurd c9 (by decide)) (fun c9 => ?_)
        refine pv_aload_n dX9_readClause_55 rfl ?_
        refine pv_getI 9 6 dX9_readClause_56 fl_X9_43 rfl (lt_80 hL) ?_
        refine pv_iconst (v := (-1)) (by decide) dX9_readClause_59 ?_
        refine pv_pc (pc' := 60) rfl ?_
        refine pv_icmp_ne (tgt := 68) dX9_readClause_60 (by decide) (fun c10 => ?_) (fun c10 => ?_)
        · have F := F.1 c10
          refine pv_iload_n dX9_readClause_68 rfl ?_
          exact pv_ireturn dX9_readClause_69 rfl rfl F
        · have F := F.2 c10
          refine pv_aload_n dX9_readClause_63 rfl ?_
          refine pv_iload_n dX9_readClause_64 rfl ?_
          obtain ⟨h7, eh7⟩ : ∃ h7 : pv_H, h7 = pv_up h6 80 6 x := ⟨_, rfl⟩
          have F := F h7 eh7
          refine pv_putI 9 6 dX9_readClause_65 fl_X9_43 ⟨_, rfl, Or.inl rfl⟩ (Or.inl rfl) (lt_80 hL) ?_
          refine pv_hE eh7 ?_
          refine pv_iload_n dX9_readClause_68 rfl ?_
          exact pv_ireturn dX9_readClause_69 rfl rfl F
set_option maxRecDepth 20000 in
set_option maxHeartbeats 4000000 in
theorem sg_X9_readText_0 {Γ : pv_C} {d kc ks : Nat} {ty : pv_T} {h : pv_H} {r : pv_R} {g : pv_G} {Q : pv_Q} (x : Nat) (y : Int32) (z : Int32) (hd : 1 ≤ d) (hL : pv_Lay ty r) (F : (∀ r1 : pv_R, r1 = pv_up r 80 1 x → pv_Lay ty r1 ∧ (∃ k1 n1 : Nat, ty x = some (k1, n1) ∧ (20 ≤ k1 ∧ k1 ≤ 27) ∧ (∀ h1 : pv_H, h1 = pv_up h 80 2 (if (nI n1) < y then (nI n1) else y) → (∀ h2 : pv_H, h2 = pv_up h1 80 3 0 → ((¬ z = 0 → ty 3 = some (30, 0) ∧ (∀ r2 : pv_R, r2 = pv_up r1 80 4 3 → pv_Lay ty r2 ∧ (∀ h3 : pv_H, h3 = pv_up h2 80 5 (-1) → (∀ h4 : pv_H, h4 = pv_up h3 80 6 (-1) → pv_E Γ d kc ks mX9_readText 51 [some (.ref 80), none, none, none, some (.int 0), some (.int 0), none] [] ty h4 r2 g Q)))) ∧ (z = 0 → ty 2 = some (30, 0) ∧ (∀ r3 : pv_R, r3 = pv_up r1 80 4 2 → pv_Lay ty r3 ∧ (∀ h5 : pv_H, h5 = pv_up h2 80 5 (-1) → (∀ h6 : pv_H, h6 = pv_up h5 80 6 (-1) → pv_E Γ d kc ks mX9_readText 51 [some (.ref 80), none, none, none, some (.int 0), some (.int 0), none] [] ty h6 r3 g Q)))))))))) : pv_E Γ d kc ks mX9_readText 0 [some (.ref 80), some (.ref x), some (.int y), some (.int z), none, none, none] [] ty h r g Q := by
  refine pv_aload_n dX9_readText_0 rfl ?_
  refine pv_aload_n dX9_readText_1 rfl ?_
  obtain ⟨r1, er1⟩ : ∃ r1 : pv_R, r1 = pv_up r 80 1 x := ⟨_, rfl⟩
  have F := F r1 er1
  refine pv_putR 9 1 dX9_readText_2 fl_X9_15 ⟨_, rfl, Or.inl rfl⟩ rfl (lt_80 hL) ?_
  refine pv_rE er1 ?_
  obtain ⟨hL1, F⟩ := F
  refine pv_aload_n dX9_readText_5 rfl ?_
  refine pv_iload_n dX9_readText_6 rfl ?_
  refine pv_aload_n dX9_readText_7 rfl ?_
  obtain ⟨k1, n1, q1, q1k, F⟩ := F
  refine pv_alen dX9_readText_8 q1 q1k ?_
  refine pv_mmin dX9_readText_9 ml_X9_25 (by omega) (Nat.le_of_ble_eq_true rfl) ?_
  obtain ⟨h1, eh1⟩ : ∃ h1 : pv_H, h1 = pv_up h 80 2 (if (nI n1) < y then (nI n1) else y) := ⟨_, rfl⟩
  have F := F h1 eh1
  refine pv_putI 9 2 dX9_readText_12 fl_X9_31 ⟨_, rfl, Or.inl rfl⟩ (Or.inl rfl) (lt_80 hL1) ?_
  refine pv_hE eh1 ?_
  refine pv_aload_n dX9_readText_15 rfl ?_
  refine pv_iconst (v := 0) (by decide) dX9_readText_16 ?_
  obtain ⟨h2, eh2⟩ : ∃ h2 : pv_H, h2 = pv_up h1 80 3 0 := ⟨_, rfl⟩
  have F := F h2 eh2
  refine pv_putI 9 3 dX9_readText_17 fl_X9_35 ⟨_, rfl, Or.inl rfl⟩ (Or.inl rfl) (lt_80 hL1) ?_
  refine pv_hE eh2 ?_
  refine pv_aload_n dX9_readText_20 rfl ?_
  refine pv_iload_n dX9_readText_21 rfl ?_
  refine pv_if_ne (tgt := 30) dX9_readText_22 (by decide) (fun c1 => ?_) (fun c1 => ?_)
  · have F := F.1 c1
    obtain ⟨q2, F⟩ := F
    refine pv_ldcS 1 (by decide) dX9_readText_30 rfl rfl q2 ?_
    obtain ⟨r2, er2⟩ : ∃ r2 : pv_R, r2 = pv_up r1 80 4 3 := ⟨_, rfl⟩
    have F := F r2 er2
    refine pv_putR 9 4 dX9_readText_32 fl_X9_21 ⟨_, rfl, Or.inl rfl⟩ rfl (lt_80 hL1) ?_
    refine pv_rE er2 ?_
    obtain ⟨hL2, F⟩ := F
    refine pv_aload_n dX9_readText_35 rfl ?_
    refine pv_iconst (v := (-1)) (by decide) dX9_readText_36 ?_
    obtain ⟨h3, eh3⟩ : ∃ h3 : pv_H, h3 = pv_up h2 80 5 (-1) := ⟨_, rfl⟩
    have F := F h3 eh3
    refine pv_putI 9 5 dX9_readText_37 fl_X9_40 ⟨_, rfl, Or.inl rfl⟩ (Or.inl rfl) (lt_80 hL2) ?_
    refine pv_hE eh3 ?_
    refine pv_aload_n dX9_readText_40 rfl ?_
    refine pv_iconst (v := (-1)) (by decide) dX9_readText_41 ?_
    obtain ⟨h4, eh4⟩ : ∃ h4 : pv_H, h4 = pv_up h3 80 6 (-1) := ⟨_, rfl⟩
    have F := F h4 eh4
    refine pv_putI 9 6 dX9_readText_42 fl_X9_43 ⟨_, rfl, Or.inl rfl⟩ (Or.inl rfl) (lt_80 hL2) ?_
    refine pv_hE eh4 ?_
    refine pv_iconst (v := 0) (by decide) dX9_readText_45 ?_
    refine pv_istore (ls' := [some (.ref 80), some (.ref x), some (.int y), some (.int z), some (.int 0), none, none]) dX9_readText_46 (by decide) rfl rfl ?_
    refine pv_iconst (v := 0) (by decide) dX9_readText_48 ?_
    refine pv_istore (ls' := [some (.ref 80), some (.ref x), some (.int y), some (.int z), some (.int 0), some (.int 0), none]) dX9_readText_49 (by decide) rfl rfl ?_
    refine pv_forgetL (ls' := [some (.ref 80), none, none, none, some (.int 0), some (.int 0), none]) (pv_subL_ok ⟨rfl, ⟨rfl, ⟨rfl, trivial⟩⟩⟩) ?_
    exact F
  · have F := F.2 c1
    obtain ⟨q3, F⟩ := F
    refine pv_ldcS 0 (by decide) dX9_readText_25 rfl rfl q3 ?_
    refine pv_goto (tgt := 32) dX9_readText_27 (by decide) ?_
    obtain ⟨r3, er3⟩ : ∃ r3 : pv_R, r3 = pv_up r1 80 4 2 := ⟨_, rfl⟩
    have F := F r3 er3
    refine pv_putR 9 4 dX9_readText_32 fl_X9_21 ⟨_, rfl, Or.inl rfl⟩ rfl (lt_80 hL1) ?_
    refine pv_rE er3 ?_
    obtain ⟨hL3, F⟩ := F
    refine pv_aload_n dX9_readText_35 rfl ?_
    refine pv_iconst (v := (-1)) (by decide) dX9_readText_36 ?_
    obtain ⟨h5, eh5⟩ : ∃ h5 : pv_H, h5 = pv_up h2 80 5 (-1) := ⟨_, rfl⟩
    have F := F h5 eh5
    refine pv_putI 9 5 dX9_readText_37 fl_X9_40 ⟨_, rfl, Or.inl rfl⟩ (Or.inl rfl) (lt_80 hL3) ?_
    refine pv_hE eh5 ?_
    refine pv_aload_n dX9_readText_40 rfl ?_
    refine pv_iconst (v := (-1)) (by decide) dX9_readText_41 ?_
    obtain ⟨h6, eh6⟩ : ∃ h6 : pv_H, h6 = pv_up h5 80 6 (-1) := ⟨_, rfl⟩
    have F := F h6 eh6
    refine pv_putI 9 6 dX9_readText_42 fl_X9_43 ⟨_, rfl, Or.inl rfl⟩ (Or.inl rfl) (lt_80 hL3) ?_
    refine pv_hE eh6 ?_
    refine pv_iconst (v := 0) (by decide) dX9_readText_45 ?_
    refine pv_istore (ls' := [some (.ref 80), some (.ref x), some (.int y), some (.int z), some (.int 0), none, none]) dX9_readText_46 (by decide) rfl rfl ?_
    refine pv_iconst (v := 0) (by decide) dX9_readText_48 ?_
    refine pv_istore (ls' := [some (.ref 80), some (.ref x), some (.int y), some (.int z), some (.int 0), some (.int 0), none]) dX9_readText_49 (by decide) rfl rfl ?_
    refine pv_forgetL (ls' := [some (.ref 80), none, none, none, some (.int 0), some (.int 0), none]) (pv_subL_ok ⟨rfl, ⟨rfl, ⟨rfl, trivial⟩⟩⟩) ?_
    exact F
set_option maxRecDepth 20000 in
set_option maxHeartbeats 4000000 in
theorem sg_X9_readText_51 {Γ : pv_C} {d kc ks : Nat} {ty : pv_T} {h : pv_H} {r : pv_R} {g : pv_G} {Q : pv_Q} (x4 : Int32) (x5 : Int32) (hd : 1 ≤ d) (hL : pv_Lay ty r) (F : ((160 < x5 → Q (some (.int x4)) ty h r g) ∧ (¬ 160 < x5 → pv_CJ Γ (d - 1) mX9_readClause [.ref 80, .int x5] ty h r g (fun (w1 : Int32) (h1 : pv_H) => ((¬ (h1 80 6) = x5 → ((¬ (h1 80 5) = (-1) → Q (some (.int x4)) ty h1 r g) ∧ ((h1 80 5) = (-1) → (rd_ok ty h1 r) ∧ ((¬ (rd_pk h1 (r 80 1)) = (-1) → (rd_ok ty h1 r) ∧ (((rd_pk h1 (r 80 1)) = 59 → (∀ h2 : pv_H, h2 = pv_up h1 80 3 ((h1 80 3) + 1) → (rd_ok ty h2 r) ∧ ((¬ (rd_pk h2 (r 80 1)) = (-1) → pv_E Γ d kc ks mX9_readText 51 [some (.ref 80), none, none, none, some (.int x4), some (.int (x5 + 1)), none] [] ty h2 r g Q) ∧ ((rd_pk h2 (r 80 1)) = (-1) → Q (some (.int x4)) ty h2 r g)))) ∧ (¬ (rd_pk h1 (r 80 1)) = 59 → pv_CW Γ (d - 1) mX9_markFault [.ref 80] ty h1 r g (fun (h3 : pv_H) => Q (some (.int x4)) ty h3 r g)))) ∧ ((rd_pk h1 (r 80 1)) = (-1) → Q (some (.int x4)) ty h1 r g))))) ∧ ((h1 80 6) = x5 → ((¬ (h1 80 5) = (-1) → Q (some (.int w1)) ty h1 r g) ∧ ((h1 80 5) = (-1) → (rd_ok ty h1 r) ∧ ((¬ (rd_pk h1 (r 80 1)) = (-1) → (rd_ok ty h1 r) ∧ (((rd_pk h1 (r 80 1)) = 59 → (∀ h4 : pv_H, h4 = pv_up h1 80 3 ((h1 80 3) + 1) → (rd_ok ty h4 r) ∧ ((¬ (rd_pk h4 (r 80 1)) = (-1) → pv_E Γ d kc ks mX9_readText 51 [some (.ref 80), none, none, none, some (.int w1), some (.int (x5 + 1)), none] [] ty h4 r g Q) ∧ ((rd_pk h4 (r 80 1)) = (-1) → Q (some (.int w1)) ty h4 r g)))) ∧ (¬ (rd_pk h1 (r 80 1)) = 59 → pv_CW Γ (d - 1) mX9_markFault [.ref 80] ty h1 r g (fun (h5 : pv_H) => Q (some (.int w1)) ty h5 r g)))) ∧ ((rd_pk h1 (r 80 1)) = (-1) → Q (some (.int w1)) ty h1 r g)))))))))) : pv_E Γ d kc ks mX9_readText 51 [some (.ref 80), none, none, none, some (.int x4), some (.int x5), none] [] ty h r g Q := by
  refine pv_iload dX9_readText_51 rfl ?_
  refine pv_sipush (v := 160) (by decide) dX9_readText_53 ?_
  refine pv_icmp_gt (tgt := 142) dX9_readText_56 (by decide) (fun c1 => ?_) (fun c1 => ?_)
  · have F := F.1 c1
    refine pv_iload dX9_readText_142 rfl ?_
    exact pv_ireturn dX9_readText_144 rfl rfl F
  · have F := F.2 c1
    refine pv_aload_n dX9_readText_59 rfl ?_
    refine pv_iload dX9_readText_60 rfl ?_
    refine pv_invV (As := [.int x5]) (d' := d - 1) dX9_readText_62 moX9_readClause ml_X9_46 (lt_80 hL) (Or.inl ⟨_, rfl, rfl⟩) (Nat.le_of_ble_eq_true rfl) (by omega) (Nat.zero_le _) (Nat.zero_le _) F (fun v ty' h1 r' g' hq => ?_) rfl
    obtain ⟨e2, e4, e5, w1, e1, F⟩ := hq
    rw [e1, e2, e4, e5]
    refine pv_pc (pc' := 65) rfl ?_
    show pv_E Γ d kc ks mX9_readText 65 [some (.ref 80), none, none, none, some (.int x4), some (.int x5), none] [.int w1] ty h1 r g Q
    refine pv_istore (ls' := [some (.ref 80), none, none, none, some (.int x4), some (.int x5), some (.int w1)]) dX9_readText_65 (by decide) rfl rfl ?_
    refine pv_aload_n dX9_readText_67 rfl ?_
    refine pv_getI 9 6 dX9_readText_68 fl_X9_43 rfl (lt_80 hL) ?_
    refine pv_iload dX9_readText_71 rfl ?_
    refine pv_icmp_ne (tgt := 80) dX9_readText_73 (by decide) (fun c2 => ?_) (fun c2 => ?_)
    · have F := F.1 c2
      refine pv_aload_n dX9_readText_80 rfl ?_
      refine pv_getI 9 5 dX9_readText_81 fl_X9_40 rfl (lt_80 hL) ?_
      refine pv_iconst (v := (-1)) (by decide) dX9_readText_84 ?_
      refine pv_icmp_ne (tgt := 96) dX9_readText_85 (by decide) (fun c3 => ?_) (fun c3 => ?_)
      · have F := F.1 c3
        refine pv_iload dX9_readText_96 rfl ?_
        exact pv_ireturn dX9_readText_98 rfl rfl F
      · have F := F.2 c3
        refine pv_aload_n dX9_readText_88 rfl ?_
        obtain ⟨q1, F⟩ := F
        refine pv_invV (As := []) (d' := d - 1) dX9_readText_89 moX9_peek ml_X9_50 (lt_80 hL) (Or.inl ⟨_, rfl, rfl⟩) (Nat.le_of_ble_eq_true rfl) (by omega) (Nat.zero_le _) (Nat.zero_le _) (ct_X9_peek (by omega) hL q1) (fun v ty' h' r' g' hq => ?_) rfl
        obtain ⟨e1, e2, e3, e4, e5⟩ := hq
        rw [e1, e2, e3, e4, e5]
        refine pv_pc (pc' := 92) rfl ?_
        show pv_E Γ d kc ks mX9_readText 92 [some (.ref 80), none, none, none, some (.int x4), some (.int x5), some (.int w1)] [.int (rd_pk h1 (r 80 1))] ty h1 r g Q
        refine pv_iconst (v := (-1)) (by decide) dX9_readText_92 ?_
        refine pv_icmp_ne (tgt := 99) dX9_readText_93 (by decide) (fun c4 => ?_) (fun c4 => ?_)
        · have F := F.1 c4
          refine pv_aload_n dX9_readText_99 rfl ?_
          obtain ⟨q2, F⟩ := F
          refine pv_invV (As := []) (d' := d - 1) dX9_readText_100 moX9_peek ml_X9_50 (lt_80 hL) (Or.inl ⟨_, rfl, rfl⟩) (Nat.le_of_ble_eq_true rfl) (by omega) (Nat.zero_le _) (Nat.zero_le _) (ct_X9_peek (by omega) hL q2) (fun v ty' h' r' g' hq => ?_) rfl
          obtain ⟨e1, e2, e3, e4, e5⟩ := hq
          rw [e1, e2, e3, e4, e5]
          refine pv_pc (pc' := 103) rfl ?_
          show pv_E Γ d kc ks mX9_readText 103 [some (.ref 80), none, none, none, some (.int x4), some (.int x5), some (.int w1)] [.int (rd_pk h1 (r 80 1))] ty h1 r g Q
          refine pv_bipush (v := 59) (by decide) dX9_readText_103 ?_
          refine pv_icmp_eq (tgt := 115) dX9_readText_105 (by decide) (fun c5 => ?_) (fun c5 => ?_)
          · have F := F.1 c5
            refine pv_aload_n dX9_readText_115 rfl ?_
            refine pv_dup rfl dX9_readText_116 ?_
            refine pv_getI 9 3 dX9_readText_117 fl_X9_35 rfl (lt_80 hL) ?_
            refine pv_iconst (v := 1) (by decide) dX9_readText_120 ?_
            refine pv_iadd dX9_readText_121 ?_
            obtain ⟨h2, eh2⟩ : ∃ h2 : pv_H, h2 = pv_up h1 80 3 ((h1 80 3) + 1) := ⟨_, rfl⟩
            have F := F h2 eh2
            refine pv_putI 9 3 dX9_readText_122 fl_X9_35 ⟨_, rfl, Or.inl rfl⟩ (Or.inl rfl) (lt_80 hL) ?_
            refine pv_hE eh2 ?_
            refine pv_aload_n dX9_readText_125 rfl ?_
            obtain ⟨q3, F⟩ := F
            refine pv_invV (As := []) (d' := d - 1) dX9_readText_126 moX9_peek ml_X9_50 (lt_80 hL) (Or.inl ⟨_, rfl, rfl⟩) (Nat.le_of_ble_eq_true rfl) (by omega) (Nat.zero_le _) (Nat.zero_le _) (ct_X9_peek (by omega) hL q3) (fun v ty' h' r' g' hq => ?_) rfl
            obtain ⟨e1, e2, e3, e4, e5⟩ := hq
            rw [e1, e2, e3, e4, e5]
            refine pv_pc (pc' := 129) rfl ?_
            show pv_E Γ d kc ks mX9_readText 129 [some (.ref 80), none, none, none, some (.int x4), some (.int x5), some (.int w1)] [.int (rd_pk h2 (r 80 1))] ty h2 r g Q
            refine pv_iconst (v := (-1)) (by decide) dX9_readText_129 ?_
            refine pv_icmp_ne (tgt := 136) dX9_readText_130 (by decide) (fun c6 => ?_) (fun c6 => ?_)
            · have F := F.1 c6
              refine pv_iinc (v := x5 + 1) (ls' := [some (.ref 80), none, none, none, some (.int x4), some (.int (x5 + 1)), some (.int w1)]) dX9_readText_136 rfl (by rfl) rfl rfl ?_
              refine pv_goto (tgt := 51) dX9_readText_139 (by decide) ?_
              refine pv_forgetL (ls' := [some (.ref 80), none, none, none, some (.int x4), some (.int (x5 + 1)), none]) (pv_subL_ok ⟨rfl, ⟨rfl, ⟨rfl, trivial⟩⟩⟩) ?_
              exact F
            · have F := F.2 c6
              refine pv_iload dX9_readText_133 rfl ?_
              exact pv_ireturn dX9_readText_135 rfl rfl F
          · have F := F.2 c5
            refine pv_aload_n dX9_readText_108 rfl ?_
            refine pv_invV (As := []) (d' := d - 1) dX9_readText_109 moX9_markFault ml_X9_54 (lt_80 hL) (Or.inl ⟨_, rfl, rfl⟩) (Nat.le_of_ble_eq_true rfl) (by omega) (Nat.zero_le _) (Nat.zero_le _) F (fun v ty' h3 r' g' hq => ?_) rfl
            obtain ⟨e2, e4, e5, e1, F⟩ := hq
            rw [e1, e2, e4, e5]
            refine pv_pc (pc' := 112) rfl ?_
            show pv_E Γ d kc ks mX9_readText 112 [some (.ref 80), none, none, none, some (.int x4), some (.int x5), some (.int w1)] [] ty h3 r g Q
            refine pv_iload dX9_readText_112 rfl ?_
            exact pv_ireturn dX9_readText_114 rfl rfl F
        · have F := F.2 c4
          refine pv_iload dX9_readText_96 rfl ?_
          exact pv_ireturn dX9_readText_98 rfl rfl F
    · have F := F.2 c2
      refine pv_iload dX9_readText_76 rfl ?_
      refine pv_istore (ls' := [some (.ref 80), none, none, none, some (.int w1), some (.int x5), some (.int w1)]) dX9_readText_78 (by decide) rfl rfl ?_
      refine pv_aload_n dX9_readText_80 rfl ?_
      refine pv_getI 9 5 dX9_readText_81 fl_X9_40 rfl (lt_80 hL) ?_
      refine pv_iconst (v := (-1)) (by decide) dX9_readText_84 ?_
      refine pv_icmp_ne (tgt := 96) dX9_readText_85 (by decide) (fun c7 => ?_) (fun c7 => ?_)
      · have F := F.1 c7
        refine pv_iload dX9_readText_96 rfl ?_
        exact pv_ireturn dX9_readText_98 rfl rfl F
      · have F := F.2 c7
        refine pv_aload_n dX9_readText_88 rfl ?_
        obtain ⟨q4, F⟩ := F
        refine pv_invV (As := []) (d' := d - 1) dX9_readText_89 moX9_peek ml_X9_50 (lt_80 hL) (Or.inl ⟨_, rfl, rfl⟩) (Nat.le_of_ble_eq_true rfl) (by omega) (Nat.zero_le _) (Nat.zero_le _) (ct_X9_peek (by omega) hL q4) (fun v ty' h' r' g' hq => ?_) rfl
        obtain ⟨e1, e2, e3, e4, e5⟩ := hq
        rw [e1, e2, e3, e4, e5]
        refine pv_pc (pc' := 92) rfl ?_
        show pv_E Γ d kc ks mX9_readText 92 [some (.ref 80), none, none, none, some (.int w1), some (.int x5), some (.int w1)] [.int (rd_pk h1 (r 80 1))] ty h1 r g Q
        refine pv_iconst (v := (-1)) (by decide) dX9_readText_92 ?_
        refine pv_icmp_ne (tgt := 99) dX9_readText_93 (by decide) (fun c8 => ?_) (fun c8 => ?_)
        · have F := F.1 c8
          refine pv_aload_n dX9_readText_99 rfl ?_
          obtain ⟨q5, F⟩ := F
          refine pv_invV (As := []) (d' := d - 1) dX9_readText_100 moX9_peek ml_X9_50 (lt_80 hL) (Or.inl ⟨_, rfl, rfl⟩) (Nat.le_of_ble_eq_true rfl) (by omega) (Nat.zero_le _) (Nat.zero_le _) (ct_X9_peek (by omega) hL q5) (fun v ty' h' r' g' hq => ?_) rfl
          obtain ⟨e1, e2, e3, e4, e5⟩ := hq
          rw [e1, e2, e3, e4, e5]
          refine pv_pc (pc' := 103) rfl ?_
          show pv_E Γ d kc ks mX9_readText 103 [some (.ref 80), none, none, none, some (.int w1), some (.int x5), some (.int w1)] [.int (rd_pk h1 (r 80 1))] ty h1 r g Q
          refine pv_bipush (v := 59) (by decide) dX9_readText_103 ?_
          refine pv_icmp_eq (tgt := 115) dX9_readText_105 (by decide) (fun c9 => ?_) (fun c9 => ?_)
          · have F := F.1 c9
            refine pv_aload_n dX9_readText_115 rfl ?_
            refine pv_dup rfl dX9_readText_116 ?_
            refine pv_getI 9 3 dX9_readText_117 fl_X9_35 rfl (lt_80 hL) ?_
            refine pv_iconst (v := 1) (by decide) dX9_readText_120 ?_
            refine pv_iadd dX9_readText_121 ?_
            obtain ⟨h4, eh4⟩ : ∃ h4 : pv_H, h4 = pv_up h1 80 3 ((h1 80 3) + 1) := ⟨_, rfl⟩
            have F := F h4 eh4
            refine pv_putI 9 3 dX9_readText_122 fl_X9_35 ⟨_, rfl, Or.inl rfl⟩ (Or.inl rfl) (lt_80 hL) ?_
            refine pv_hE eh4 ?_
            refine pv_aload_n dX9_readText_125 rfl ?_
            obtain ⟨q6, F⟩ := F
            refine pv_invV (As := []) (d' := d - 1) dX9_readText_126 moX9_peek ml_X9_50 (lt_80 hL) (Or.inl ⟨_, rfl, rfl⟩) (Nat.le_of_ble_eq_true rfl) (by omega) (Nat.zero_le _) (Nat.zero_le _) (ct_X9_peek (by omega) hL q6) (fun v ty' h' r' g' hq => ?_) rfl
            obtain ⟨e1, e2, e3, e4, e5⟩ := hq
            rw [e1, e2, e3, e4, e5]
            refine pv_pc (pc' := 129) rfl ?_
            show pv_E Γ d kc ks mX9_readText 129 [some (.ref 80), none, none, none, some (.int w1), some (.int x5), some (.int w1)] [.int (rd_pk h4 (r 80 1))] ty h4 r g Q
            refine pv_iconst (v := (-1)) (by decide) dX9_readText_129 ?_
            refine pv_icmp_ne (tgt := 136) dX9_readText_130 (by decide) (fun c10 => ?_) (fun c10 => ?_)
            · have F := F.1 c10
              refine pv_iinc (v := x5 + 1) (ls' := [some (.ref 80), none, none, none, some (.int w1), some (.int (x5 + 1)), some (.int w1)]) dX9_readText_136 rfl (by rfl) rfl rfl ?_
              refine pv_goto (tgt := 51) dX9_readText_139 (by decide) ?_
              refine pv_forgetL (ls' := [some (.ref 80), none, none, none, some (.int w1), some (.int (x5 + 1)), none]) (pv_subL_ok ⟨rfl, ⟨rfl, ⟨rfl, trivial⟩⟩⟩) ?_
              exact F
            · have F := F.2 c10
              refine pv_iload dX9_readText_133 rfl ?_
              exact pv_ireturn dX9_readText_135 rfl rfl F
          · have F := F.2 c9
            refine pv_aload_n dX9_readText_108 rfl ?_
            refine pv_invV (As := []) (d' := d - 1) dX9_readText_109 moX9_markFault ml_X9_54 (lt_80 hL) (Or.inl ⟨_, rfl, rfl⟩) (Nat.le_of_ble_eq_true rfl) (by omega) (Nat.zero_le _) (Nat.zero_le _) F (fun v ty' h5 r' g' hq => ?_) rfl
            obtain ⟨e2, e4, e5, e1, F⟩ := hq
            rw [e1, e2, e4, e5]
            refine pv_pc (pc' := 112) rfl ?_
            show pv_E Γ d kc ks mX9_readText 112 [some (.ref 80), none, none, none, some (.int w1), some (.int x5), some (.int w1)] [] ty h5 r g Q
            refine pv_iload dX9_readText_112 rfl ?_
            exact pv_ireturn dX9_readText_114 rfl rfl F
        · have F := F.2 c8
          refine pv_iload dX9_readText_96 rfl ?_
          exact pv_ireturn dX9_readText_98 rfl rfl F
section RE
variable {Γ : pv_C} {d kc ks : Nat} {ty : pv_T} {h h0 : pv_H} {r : pv_R} {g : pv_G} {Q : pv_Q} {K len n : Nat} {b : Nat → Nat}
abbrev rdG : Nat → Nat → Prop := fun a j => a = 80 ∧ (j = 3 ∨ j = 5 ∨ j = 6)
theorem rdG_of {h' : pv_H} (hf : pv_fr rdA h h') : pv_fr rdG h h' := pv_fr_mono (fun a j q => ⟨q.1, q.2.elim Or.inl (fun z => Or.inr (Or.inl z))⟩) hf
theorem rdS_frG (hL : pv_Lay ty r) {h' : pv_H} (hf : pv_fr rdG h h') (hS : rdS ty r K len b h) : rdS ty r K len b h' := by
  have hne := rd_ne hL hS
  obtain ⟨a1, a2, a3, a4, a5, a6, a7⟩ := hS
  exact ⟨a1, a2, a3, (hf 80 2 (by decide)).trans a4, fun p hp => by rw [hf (r 80 1) p (fun q => hne q.1)]; exact a5 p hp, a6, a7⟩
theorem rd_V_frG {h' : pv_H} (hf : pv_fr rdG h h') : rd_V h' K = rd_V h K := funext fun c => hf 81 _ (fun q => absurd q.1 (by decide))
/-- the clause that gives, one clause on -/
def rd_gc (V : Nat → Int32) (c : tx_C) (gc i : Int32) : Int32 := if gc = -1 then (if tx_gv V c.1 = 0 then -1 else i) else gc
def rd_cq (K : Nat) (h0 : pv_H) (res : tx_R tx_C) (i x : Int32) (h' : pv_H) : Prop := pv_fr rdG h0 h' ∧ (∀ c q, res = .ok (c, q) → x = tx_ev (rd_V h0 K) c.2 ∧ h' 80 3 = nI q ∧ h' 80 5 = -1 ∧ h' 80 6 = rd_gc (rd_V h0 K) c (h0 80 6) i) ∧ (∀ q, res = .error q → h' 80 5 = nI q)
theorem rd_set {h' : pv_H} {i y : Int32} (V : Nat → Int32) (c : tx_C) (hc : ¬ tx_gv V c.1 = 0) {P : Int32 → pv_H → Prop} (hK : ∀ h'', pv_fr (fun a j => a = 80 ∧ j = 6) h' h'' → h'' 80 6 = rd_gc V c (h' 80 6) i → P y h'') : (¬ h' 80 6 = -1 → pv_jq ty r g P (some (.int y)) ty h' r g) ∧ (h' 80 6 = -1 → ∀ h2 : pv_H, h2 = pv_up h' 80 6 i → pv_jq ty r g P (some (.int y)) ty h2 r g) := by
  refine ⟨fun q => pv_jqi (hK h' (pv_fr_refl _ _) ?_), fun q h2 e2 => pv_jqi (hK h2 ?_ ?_)⟩
  · unfold rd_gc; rw [if_neg q]
  · rw [e2]; exact pv_fr_up (pv_fr_refl _ _) ⟨rfl, rfl⟩
  · unfold rd_gc; rw [e2, pv_up_same, if_pos q, if_neg hc]
theorem ct_readClause (hd : 63 ≤ d) (hL : pv_Lay ty r) (hS : rdS ty r K len b h) {p : Nat} (hp : p ≤ len) (h3 : h 80 3 = nI p) (h5 : h 80 5 = -1) {i : Int32} : pv_CJ Γ d mX9_readClause [.ref 80, .int i] ty h r g (rd_cq K h (tx_cl K (tx_pk len b) p) i) := by
  have hl := hS.1
  have h8 := hS.2.2.2.2.2.1
  have hC := rd_all (Γ := Γ) (g := g) (K := K) (b := b) hL hl 10 (d - 1) (by omega) (Nat.le_refl _)
  have hx := fun p hp => tx_exS_f (tx_exp_sp (K := K) (b := b) hl 10 0 rfl) (p := p) hp
  refine pv_fn 2 pn_X9 rfl (Nat.le_of_ble_eq_true rfl) (sg_X9_readClause_0 _ (by omega) hL (pv_CJ.mono (hC h p hS hp h3 h5) (fun x h1 q => ?_)))
  obtain ⟨f1, f2, f3⟩ := q
  have hS1 := rdS_fr hL f1 hS
  have g6 : h1 80 6 = h 80 6 := f1 80 6 (by decide)
  unfold tx_cl
  cases hr : tx_exp K (tx_pk len b) 10 p with
  | error q0 =>
    obtain ⟨k1, p', k2, k3⟩ := f3 q0 hr
    have hq0 := (hx p hp).1 q0 hr
    have hn5 : ¬ h1 80 5 = -1 := by rw [k1]; exact ni_n1 (by omega)
    refine ⟨fun _ => rd_set (fun _ => 0) (none, tx_N 0) (show ¬ (1 : Int32) = 0 by decide) (fun h'' z1 z2 => ⟨?_, fun c q he => (by cases he), fun q he => ?_⟩), fun z => absurd z hn5⟩
    · exact pv_fr_tr (rdG_of f1) (pv_fr_mono (fun a j q => ⟨q.1, Or.inr (Or.inr q.2)⟩) z1)
    · cases he
      rw [z1 80 5 (by decide)]; exact k1
  | ok z0 =>
    obtain ⟨a, q0⟩ := z0
    obtain ⟨k1, k2, k3⟩ := f2 a q0 hr
    obtain ⟨k4, k5⟩ := (hx p hp).2 a q0 hr
    obtain ⟨y1, y2⟩ := rd_peek hS1 k2 (by omega)
    have hle := tx_pk_le (len := len) h8 q0
    rw [k1]
    refine ⟨fun z => absurd k3 z, fun _ => ⟨y1, pi_en _ 63 y2 hle (fun c1 h2 e2 => ?_) (fun c1 => rd_set (rd_V h K) (none, a) (show ¬ (1 : Int32) = 0 by decide) (fun h'' z1 z2 => ⟨?_, fun c q he => ?_, fun q he => ?_⟩))⟩⟩
    · have hlt := tx_pk_ne c1 (by decide)
      rw [k2, nI_1] at e2
      have hf2 : pv_fr rdA h h2 := by rw [e2]; exact rd_fr1 f1
      have hS2 := rdS_fr hL hf2 hS
      have hcall := hC h2 (q0 + 1) hS2 hlt (by rw [e2, pv_up_same]) (by rw [e2, pv_up_j (by decide)]; exact k3)
      have G6 : h2 80 6 = h 80 6 := hf2 80 6 (by decide)
      dsimp only
      rw [if_pos c1]
      refine ⟨fun c2 => pv_CJ.mono hcall (fun y h4 q => ?_), fun c2 => pv_CJ.mono hcall (fun y h4 q => ?_)⟩
      · obtain ⟨j1, j2, j3⟩ := q
        have hf4 := pv_fr_tr hf2 j1
        refine pv_jqi ⟨rdG_of hf4, fun c q he => ?_, fun q he => ?_⟩
        · cases hr2 : tx_exp K (tx_pk len b) 10 (q0 + 1) with
          | error q1 => rw [hr2] at he; cases he
          | ok z1 =>
            obtain ⟨v, q1⟩ := z1
            rw [hr2] at he
            cases he
            obtain ⟨i1, i2, i3⟩ := j2 v _ hr2
            refine ⟨by rw [i1, rd_V_fr hf2], i2, i3, ?_⟩
            unfold rd_gc
            rw [hf4 80 6 (by decide)]
            by_cases z : h 80 6 = -1
            · rw [if_pos z, show tx_gv (rd_V h K) (some a) = 0 from c2, if_pos rfl]; exact z
            · rw [if_neg z]
        · cases hr2 : tx_exp K (tx_pk len b) 10 (q0 + 1) with
          | error q1 =>
            rw [hr2] at he
            cases he
            exact (j3 _ hr2).1
          | ok z1 =>
            obtain ⟨v, q1⟩ := z1
            rw [hr2] at he
            cases he
      · obtain ⟨j1, j2, j3⟩ := q
        have hf4 := pv_fr_tr hf2 j1
        have G4 : h4 80 6 = h 80 6 := hf4 80 6 (by decide)
        refine rd_set (rd_V h K) (some a, a) c2 (fun h'' z1 z2 => ⟨pv_fr_tr (rdG_of hf4) (pv_fr_mono (fun a j q => ⟨q.1, Or.inr (Or.inr q.2)⟩) z1), fun c q he => ?_, fun q he => ?_⟩)
        · cases hr2 : tx_exp K (tx_pk len b) 10 (q0 + 1) with
          | error q1 => rw [hr2] at he; cases he
          | ok z1' =>
            obtain ⟨v, q1⟩ := z1'
            rw [hr2] at he
            cases he
            obtain ⟨i1, i2, i3⟩ := j2 v _ hr2
            refine ⟨by rw [i1, rd_V_fr hf2], by rw [z1 80 3 (by decide)]; exact i2, by rw [z1 80 5 (by decide)]; exact i3, ?_⟩
            rw [z2, G4]
            rfl
        · cases hr2 : tx_exp K (tx_pk len b) 10 (q0 + 1) with
          | error q1 =>
            rw [hr2] at he
            cases he
            rw [z1 80 5 (by decide)]
            exact (j3 _ hr2).1
          | ok z1' =>
            obtain ⟨v, q1⟩ := z1'
            rw [hr2] at he
            cases he
    · exact pv_fr_tr (rdG_of f1) (pv_fr_mono (fun a j q => ⟨q.1, Or.inr (Or.inr q.2)⟩) z1)
    · dsimp only at he
      rw [if_neg c1] at he
      cases he
      exact ⟨rfl, by rw [z1 80 3 (by decide)]; exact k2, by rw [z1 80 5 (by decide)]; exact k3, by rw [z2, g6]⟩
    · dsimp only at he
      rw [if_neg c1] at he
      cases he
/-- what the rest of a text gives, when j clauses are read: x and gc so far -/
def rd_fin (V : Nat → Int32) (cs : List tx_C) (i : Nat) (x gc : Int32) : Int32 × Int32 := if gc = -1 then tx_val V cs i else (x, gc)
def rd_tq (h0 : pv_H) (R : tx_R (List tx_C)) (F : List tx_C → Int32 × Int32) (x : Int32) (h' : pv_H) : Prop := pv_fr rdG h0 h' ∧ (∀ cs q, R = .ok (cs, q) → h' 80 5 = -1 ∧ (x, h' 80 6) = F cs) ∧ (∀ q, R = .error q → h' 80 5 = nI q)
theorem tx_cl_f (hl : len ≤ 160) {p : Nat} (hp : p ≤ len) : (∀ q, tx_cl K (tx_pk len b) p = .error q → q ≤ len) ∧ (∀ c q, tx_cl K (tx_pk len b) p = .ok (c, q) → p < q ∧ q ≤ len) := by
  obtain ⟨h1, h2⟩ := tx_cl_sp (K := K) (b := b) (S := []) (may := false) hl hp (fun z => by cases z)
  exact ⟨fun q e => (h1 q e).2, fun e q he => ⟨(h2 e q he).2.1, (h2 e q he).2.2.1⟩⟩
theorem rd_t51 (hd : 64 ≤ d) (hL : pv_Lay ty r) (hS0 : rdS ty r K len b h0) {R0 : tx_R (List tx_C)} {F0 : List tx_C → Int32 × Int32} (hQ : ∀ x h', rd_tq h0 R0 F0 x h' → Q (some (.int x)) ty h' r g) :
    ∀ (m i p : Nat) (x : Int32) (h : pv_H) (pre : List tx_C), i + m = 161 → i ≤ p → p ≤ len → (∀ q, tx_txt K (tx_pk len b) m p = .error q → R0 = .error q) → (∀ cs q, tx_txt K (tx_pk len b) m p = .ok (cs, q) → R0 = .ok (pre ++ cs, q)) → (∀ cs, F0 (pre ++ cs) = rd_fin (rd_V h0 K) cs i x (h 80 6)) → (h 80 6 = -1 → x = 0) → (∀ j, h 80 6 = nI j → j < 2 ^ 31 → j < i) → pv_fr rdG h0 h → h 80 3 = nI p → h 80 5 = -1 → pv_E Γ d kc ks mX9_readText 51 [some (.ref 80), none, none, none, some (.int x), some (.int (nI i)), none] [] ty h r g Q := by
  have h8 := hS0.2.2.2.2.2.1
  have hl := hS0.1
  intro m
  induction m with
  | zero =>
    intro i p x h pre hi hip hp
    exact absurd hip (by omega)
  | succ m ih =>
    intro i p x h pre hi hip hp hE1 hE2 hF hx0 hj hf h3 h5
    have hS := rdS_frG hL hf hS0
    have hV : rd_V h K = rd_V h0 K := rd_V_frG hf
    refine sg_X9_readText_51 _ _ (by omega) hL (pk_lt 160 i (fun c => absurd c (by omega)) (fun _ => pv_CJ.mono (ct_readClause (by omega) hL hS hp h3 h5) (fun w h1 q => ?_)))
    obtain ⟨f1, f2, f3⟩ := q
    have hf1 := pv_fr_tr hf f1
    have hS1 := rdS_frG hL hf1 hS0
    have hcl := tx_cl_f (K := K) (b := b) hl hp
    unfold tx_txt at hE1 hE2
    cases hr : tx_cl K (tx_pk len b) p with
    | error q0 =>
      rw [hr] at hE1 hE2
      have k1 := f3 q0 hr
      have hq0 := hcl.1 q0 hr
      have hn5 : ¬ h1 80 5 = -1 := by rw [k1]; exact ni_n1 (by omega)
      have hR := hE1 q0 rfl
      have fin : ∀ y, Q (some (.int y)) ty h1 r g := fun y => hQ y h1 ⟨hf1, fun cs q e => (by rw [hR] at e; cases e), fun q e => by rw [hR] at e; cases e; exact k1⟩
      exact ⟨fun _ => ⟨fun _ => fin _, fun z => absurd z hn5⟩, fun _ => ⟨fun _ => fin _, fun z => absurd z hn5⟩⟩
    | ok z0 =>
      obtain ⟨c, q0⟩ := z0
      rw [hr] at hE1 hE2
      obtain ⟨k1, k2, k3, k4⟩ := f2 c q0 hr
      obtain ⟨k5, k6⟩ := hcl.2 c q0 hr
      obtain ⟨y1, y2⟩ := rd_peek hS1 k2 (by omega)
      have hle := tx_pk_le (len := len) h8 q0
      rw [hV] at k1 k4
      -- what is given now
      have key : ∀ y, (h1 80 6 = nI i → y = w) → (¬ h1 80 6 = nI i → y = x) → (∀ cs, F0 (pre ++ c :: cs) = rd_fin (rd_V h0 K) cs (i + 1) y (h1 80 6)) ∧ (h1 80 6 = -1 → y = 0) ∧ (∀ j, h1 80 6 = nI j → j < 2 ^ 31 → j < i + 1) := fun y hy1 hy2 => by
        by_cases z : h 80 6 = -1
        · by_cases z2 : tx_gv (rd_V h0 K) c.1 = 0
          · have e6 : h1 80 6 = -1 := by rw [k4]; unfold rd_gc; rw [if_pos z, if_pos z2]
            have ey : y = x := hy2 (by rw [e6]; exact fun q => ni_n1 (by omega) q.symm)
            refine ⟨fun cs => ?_, fun _ => by rw [ey]; exact hx0 z, fun j e hj' => absurd (e.symm.trans e6) (ni_n1 hj')⟩
            rw [hF]
            unfold rd_fin
            rw [if_pos z, if_pos e6]
            obtain ⟨c1, c2⟩ := c
            exact if_pos z2
          · have e6 : h1 80 6 = nI i := by rw [k4]; unfold rd_gc; rw [if_pos z, if_neg z2]
            refine ⟨fun cs => ?_, fun q => absurd (e6.symm.trans q) (ni_n1 (by omega)), fun j e hj' => by rw [(nI_eq (by omega) hj').mp (e6.symm.trans e)]; omega⟩
            rw [hF]
            unfold rd_fin
            rw [if_pos z, if_neg (by rw [e6]; exact ni_n1 (by omega)), hy1 e6, k1, e6]
            obtain ⟨c1, c2⟩ := c
            exact if_neg z2
        · have e6 : h1 80 6 = h 80 6 := by rw [k4]; unfold rd_gc; rw [if_neg z]
          have hni : ¬ h1 80 6 = nI i := fun q => absurd (hj i (e6.symm.trans q) (by omega)) (by omega)
          refine ⟨fun cs => ?_, fun q => absurd (e6.symm.trans q) z, fun j e hj' => Nat.lt_succ_of_lt (hj j (e6.symm.trans e) hj')⟩
          rw [hF, hy2 hni]
          unfold rd_fin
          rw [e6, if_neg z, if_neg z]
      have rest : ∀ y, (h1 80 6 = nI i → y = w) → (¬ h1 80 6 = nI i → y = x) → ((¬ (h1 80 5) = (-1) → Q (some (.int y)) ty h1 r g) ∧ ((h1 80 5) = (-1) → (rd_ok ty h1 r) ∧ ((¬ (rd_pk h1 (r 80 1)) = (-1) → (rd_ok ty h1 r) ∧ (((rd_pk h1 (r 80 1)) = 59 → (∀ h2 : pv_H, h2 = pv_up h1 80 3 ((h1 80 3) + 1) → (rd_ok ty h2 r) ∧ ((¬ (rd_pk h2 (r 80 1)) = (-1) → pv_E Γ d kc ks mX9_readText 51 [some (.ref 80), none, none, none, some (.int y), some (.int (nI i + 1)), none] [] ty h2 r g Q) ∧ ((rd_pk h2 (r 80 1)) = (-1) → Q (some (.int y)) ty h2 r g)))) ∧ (¬ (rd_pk h1 (r 80 1)) = 59 → pv_CW Γ (d - 1) mX9_markFault [.ref 80] ty h1 r g (fun (h3 : pv_H) => Q (some (.int y)) ty h3 r g)))) ∧ ((rd_pk h1 (r 80 1)) = (-1) → Q (some (.int y)) ty h1 r g)))) := fun y hy1 hy2 => by
        obtain ⟨m1, m2, m3⟩ := key y hy1 hy2
        have m0 : rd_fin (rd_V h0 K) [] (i + 1) y (h1 80 6) = (y, h1 80 6) := by
          unfold rd_fin
          by_cases z : h1 80 6 = -1
          · rw [if_pos z, z, m2 z]; rfl
          · rw [if_neg z]
        refine ⟨fun z => absurd k3 z, fun _ => ⟨y1, pi_m _ y2 hle (fun c1 => ?_) (fun c1 => ⟨y1, pi_eq _ 59 y2 hle (fun c2 h2 e2 => ?_) (fun c2 => ?_)⟩)⟩⟩
        · dsimp only at hE2
          rw [if_pos c1] at hE2
          have hR := hE2 [c] q0 rfl
          refine hQ y h1 ⟨hf1, fun cs q e => ?_, fun q e => (by rw [hR] at e; cases e)⟩
          rw [hR] at e
          cases e
          exact ⟨k3, by rw [m1 [], m0]⟩
        · have hlt := tx_pk_ne c2 (by decide)
          rw [k2, nI_1] at e2
          have hg2 : pv_fr rdG h0 h2 := by rw [e2]; exact pv_fr_up hf1 ⟨rfl, Or.inl rfl⟩
          have a3 : h2 80 3 = nI (q0 + 1) := by rw [e2, pv_up_same]
          have a5 : h2 80 5 = -1 := by rw [e2, pv_up_j (by decide)]; exact k3
          have a6 : h2 80 6 = h1 80 6 := by rw [e2, pv_up_j (by decide)]
          obtain ⟨u1, u2⟩ := rd_peek (rdS_frG hL hg2 hS0) a3 (by omega)
          dsimp only at hE1 hE2
          rw [if_neg c1, if_pos c2] at hE1 hE2
          refine ⟨u1, pi_m _ u2 (tx_pk_le h8 _) (fun c3 => ?_) (fun c3 => ?_)⟩
          · rw [if_pos c3] at hE2
            have hR := hE2 [c] (q0 + 1) rfl
            refine hQ y h2 ⟨hg2, fun cs q e => ?_, fun q e => (by rw [hR] at e; cases e)⟩
            rw [hR] at e
            cases e
            exact ⟨a5, by rw [m1 [], m0, a6]⟩
          · rw [if_neg c3] at hE1 hE2
            rw [nI_1]
            refine ih (i + 1) (q0 + 1) y h2 (pre ++ [c]) (by omega) (by omega) hlt (fun q e => hE1 q (by rw [e])) (fun cs q e => ?_) (fun cs => ?_) (fun z => m2 (a6.symm.trans z)) (fun j e => m3 j (a6.symm.trans e)) hg2 a3 a5
            · have := hE2 (c :: cs) q (by rw [e])
              rw [this]
              simp
            · rw [a6, ← m1 cs]
              simp
        · dsimp only at hE1
          rw [if_neg c1, if_neg c2] at hE1
          have hR := hE1 q0 rfl
          refine pv_CW.mono (ct_X9_mark hL k3) (fun h3' e3 => hQ y h3' ⟨?_, fun cs q e => (by rw [hR] at e; cases e), fun q e => ?_⟩)
          · rw [e3]; exact pv_fr_up hf1 ⟨rfl, Or.inr (Or.inl rfl)⟩
          · rw [hR] at e
            cases e
            rw [e3, pv_up_same]; exact k2
      exact ⟨fun z => rest x (fun q => absurd q z) (fun _ => rfl), fun z => rest w (fun _ => rfl) (fun q => absurd z q)⟩
def tx_b (f : Nat → Int32) (p : Nat) : Nat := (f p).toBitVec.toNat % 256
theorem tx_b_lt (f : Nat → Int32) (p : Nat) : tx_b f p < 256 := Nat.mod_lt _ (by decide)
theorem tx_b_and (f : Nat → Int32) (p : Nat) : f p &&& 255 = nI (tx_b f p) := pk_and (f p) 8 (by decide)
abbrev rdT : Nat → Nat → Prop := fun a j => a = 80 ∧ (j = 2 ∨ j = 3 ∨ j = 5 ∨ j = 6)
/-- what a kind of a text is read as -/
abbrev tx_rd (K len : Nat) (b : Nat → Nat) : tx_R (List tx_C) := tx_txt K (tx_pk len b) 161 0
theorem ct_readText (hd : 64 ≤ d) (hL : pv_Lay ty r) (hK : K < 2) (hs : ∀ i, i < 2 → ty (2 + i) = some (30, 0)) {A n1 : Nat} (hA : ty A = some (21, n1)) (h1 : n1 ≤ 160) (h2 : len ≤ n1) {k : pv_Q} (hk : ∀ x h', pv_fr rdT h h' → (∀ cs q, tx_rd K len (tx_b (h A)) = .ok (cs, q) → h' 80 5 = -1 ∧ (x, h' 80 6) = tx_val (rd_V h K) cs 0) → (∀ q, tx_rd K len (tx_b (h A)) = .error q → h' 80 5 = nI q) → pv_Lay ty (pv_up (pv_up r 80 1 A) 80 4 (2 + K)) → k (some (.int x)) ty h' (pv_up (pv_up r 80 1 A) 80 4 (2 + K)) g) : pv_CT Γ d 0 0 mX9_readText [.ref 80, .ref A, .int (nI len), .int (nI K)] ty h r g k := by
  have hA80 : A ≠ 80 := fun e => by rw [e, lt_80 hL] at hA; cases hA
  have hL1 : ∀ x, pv_Lay ty (pv_up r 80 1 x) := fun x => ⟨hL.1, fun q hq => by
    rw [pv_up, if_neg]
    · exact hL.2 q hq
    · rintro ⟨e1, e2⟩
      have : ∀ q ∈ pv_layR, ¬ (q.1 = 80 ∧ q.2.1 = 1) := by decide +kernel
      exact this q hq ⟨e1, e2⟩⟩
  have hL2 : ∀ x y, pv_Lay ty (pv_up (pv_up r 80 1 x) 80 4 y) := fun x y => ⟨hL.1, fun q hq => by
    rw [pv_up, if_neg]
    · exact (hL1 x).2 q hq
    · rintro ⟨e1, e2⟩
      have : ∀ q ∈ pv_layR, ¬ (q.1 = 80 ∧ q.2.1 = 4) := by decide +kernel
      exact this q hq ⟨e1, e2⟩⟩
  have main : ∀ h4 : pv_H, h4 = pv_up (pv_up (pv_up (pv_up h 80 2 (nI len)) 80 3 0) 80 5 (-1)) 80 6 (-1) → pv_E Γ d 0 0 mX9_readText 51 [some (.ref 80), none, none, none, some (.int 0), some (.int 0), none] [] ty h4 (pv_up (pv_up r 80 1 A) 80 4 (2 + K)) g k := fun h4 e4 => by
    have e80 : ∀ a j, a ≠ 80 → h4 a j = h a j := fun a j ha => by rw [e4, pv_up_a ha, pv_up_a ha, pv_up_a ha, pv_up_a ha]
    have v2 : h4 80 2 = nI len := by rw [e4, pv_up_j (by decide), pv_up_j (by decide), pv_up_j (by decide), pv_up_same]
    have v3 : h4 80 3 = nI 0 := by rw [e4, pv_up_j (by decide), pv_up_j (by decide), pv_up_same]; rfl
    have v5 : h4 80 5 = -1 := by rw [e4, pv_up_j (by decide), pv_up_same]
    have v6 : h4 80 6 = -1 := by rw [e4, pv_up_same]
    have hfT : pv_fr rdT h h4 := by
      rw [e4]
      exact pv_fr_up (pv_fr_up (pv_fr_up (pv_fr_up (pv_fr_refl _ _) ⟨rfl, Or.inl rfl⟩) ⟨rfl, Or.inr (Or.inl rfl)⟩) ⟨rfl, Or.inr (Or.inr (Or.inl rfl))⟩) ⟨rfl, Or.inr (Or.inr (Or.inr rfl))⟩
    have r1 : (pv_up (pv_up r 80 1 A) 80 4 (2 + K)) 80 1 = A := by rw [pv_up_j (by decide), pv_up_same]
    have r4 : (pv_up (pv_up r 80 1 A) 80 4 (2 + K)) 80 4 = 2 + K := pv_up_same _ _ _ _
    have hS : rdS ty (pv_up (pv_up r 80 1 A) 80 4 (2 + K)) K len (tx_b (h A)) h4 := by
      refine ⟨by omega, hK, ⟨n1, by rw [r1]; exact hA, h2, h1⟩, v2, fun p _ => ?_, tx_b_lt _, r4, hs K hK⟩
      rw [r1, e80 A p hA80]
      exact tx_b_and (h A) p
    have hV : rd_V h4 K = rd_V h K := funext fun c => e80 81 _ (by decide)
    refine rd_t51 hd (hL2 _ _) hS (R0 := tx_rd K len (tx_b (h A))) (F0 := fun cs => tx_val (rd_V h K) cs 0) (fun x h' q => hk x h' (pv_fr_tr hfT (pv_fr_mono (fun a j z => ⟨z.1, Or.inr z.2⟩) q.1)) q.2.1 q.2.2 (hL2 _ _)) 161 0 0 0 h4 [] rfl (Nat.le_refl _) (Nat.zero_le _) (fun q e => e) (fun cs q e => e) (fun cs => ?_) (fun _ => rfl) (fun j e hj => absurd (e.symm.trans v6) (ni_n1 hj)) (pv_fr_refl _ _) v3 v5
    unfold rd_fin
    rw [if_pos v6, hV]
    rfl
  have hmin : (if (nI n1) < nI len then (nI n1) else nI len) = nI len := if_neg (nI_nlt h2 (by omega))
  refine pv_fn 3 pn_X9 rfl (Nat.le_of_ble_eq_true rfl) (sg_X9_readText_0 A _ _ (by omega) hL (fun r1 er1 => ?_))
  rw [er1]
  refine ⟨hL1 A, 21, n1, hA, by decide, fun a1 e1 a2 e2 => ?_⟩
  rw [hmin] at e1
  rcases (show K = 0 ∨ K = 1 by omega) with rfl | rfl
  · refine ⟨fun q => absurd rfl q, fun _ => ⟨hs 0 (by decide), fun r3 er3 => ?_⟩⟩
    rw [er3]
    refine ⟨hL2 _ _, fun a5 e5 a6 e6 => main a6 ?_⟩
    rw [e6, e5, e2, e1]
  · refine ⟨fun _ => ⟨hs 1 (by decide), fun r3 er3 => ?_⟩, fun q => absurd q (by decide)⟩
    rw [er3]
    refine ⟨hL2 _ _, fun a5 e5 a6 e6 => main a6 ?_⟩
    rw [e6, e5, e2, e1]
end RE
