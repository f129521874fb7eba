/-! the class's reader: operands, products, sums, expressions -/
set_option maxRecDepth 20000 in
set_option maxHeartbeats 4000000 in
theorem sg_X9_readProduct_0 {Γ : pv_C} {d kc ks : Nat} {ty : pv_T} {h : pv_H} {r : pv_R} {g : pv_G} {Q : pv_Q} (x : Int32) (hd : 1 ≤ d) (hL : pv_Lay ty r) (F : pv_CJ Γ (d - 1) mX9_readOperand [.ref 80, .int x] ty h r g (fun (w1 : Int32) (h1 : pv_H) => pv_E Γ d kc ks mX9_readProduct 8 [some (.ref 80), some (.int x), some (.int w1), some (.int 0), none] [] ty h1 r g Q)) : pv_E Γ d kc ks mX9_readProduct 0 [some (.ref 80), some (.int x), none, none, none] [] ty h r g Q := by
  refine pv_aload_n dX9_readProduct_0 rfl ?_
  refine pv_iload_n dX9_readProduct_1 rfl ?_
  refine pv_invV (As := [.int x]) (d' := d - 1) dX9_readProduct_2 moX9_readOperand ml_X9_66 (lt_80 hL) (Or.inl ⟨_, rfl, rfl⟩) (Nat.le_of_ble_eq_true rfl) (by omega) (Nat.zero_le _) (Nat.zero_le _) F (fun v ty' h1 r' g' hq => ?_) rfl
  obtain ⟨e2, e4, e5, w1, e1, F⟩ := hq
  rw [e1, e2, e4, e5]
  refine pv_pc (pc' := 5) rfl ?_
  show pv_E Γ d kc ks mX9_readProduct 5 [some (.ref 80), some (.int x), none, none, none] [.int w1] ty h1 r g Q
  refine pv_istore_n (ls' := [some (.ref 80), some (.int x), some (.int w1), none, none]) dX9_readProduct_5 (by decide) rfl rfl ?_
  refine pv_iconst (v := 0) (by decide) dX9_readProduct_6 ?_
  refine pv_istore_n (ls' := [some (.ref 80), some (.int x), some (.int w1), some (.int 0), none]) dX9_readProduct_7 (by decide) rfl rfl ?_
  exact F
set_option maxRecDepth 20000 in
set_option maxHeartbeats 4000000 in
theorem sg_X9_readProduct_8 {Γ : pv_C} {d kc ks : Nat} {ty : pv_T} {h : pv_H} {r : pv_R} {g : pv_G} {Q : pv_Q} (x1 : Int32) (x2 : Int32) (x3 : Int32) (hd : 1 ≤ d) (hL : pv_Lay ty r) (F : ((160 ≤ x3 → Q (some (.int x2)) ty h r g) ∧ (¬ 160 ≤ x3 → ((¬ (h 80 5) = (-1) → Q (some (.int x2)) ty h r g) ∧ ((h 80 5) = (-1) → (rd_ok ty h r) ∧ (((rd_pk h (r 80 1)) = 42 → (∀ h1 : pv_H, h1 = pv_up h 80 3 ((h 80 3) + 1) → pv_CJ Γ (d - 1) mX9_readOperand [.ref 80, .int x1] ty h1 r g (fun (w1 : Int32) (h2 : pv_H) => pv_E Γ d kc ks mX9_readProduct 8 [some (.ref 80), some (.int x1), some (.int (rd_mul (rd_pk h (r 80 1)) x2 w1)), some (.int (x3 + 1)), none] [] ty h2 r g Q))) ∧ (¬ (rd_pk h (r 80 1)) = 42 → (((rd_pk h (r 80 1)) = 47 → (∀ h3 : pv_H, h3 = pv_up h 80 3 ((h 80 3) + 1) → pv_CJ Γ (d - 1) mX9_readOperand [.ref 80, .int x1] ty h3 r g (fun (w2 : Int32) (h4 : pv_H) => pv_E Γ d kc ks mX9_readProduct 8 [some (.ref 80), some (.int x1), some (.int (rd_mul (rd_pk h (r 80 1)) x2 w2)), some (.int (x3 + 1)), none] [] ty h4 r g Q))) ∧ (¬ (rd_pk h (r 80 1)) = 47 → (((rd_pk h (r 80 1)) = 37 → (∀ h5 : pv_H, h5 = pv_up h 80 3 ((h 80 3) + 1) → pv_CJ Γ (d - 1) mX9_readOperand [.ref 80, .int x1] ty h5 r g (fun (w3 : Int32) (h6 : pv_H) => pv_E Γ d kc ks mX9_readProduct 8 [some (.ref 80), some (.int x1), some (.int (rd_mul (rd_pk h (r 80 1)) x2 w3)), some (.int (x3 + 1)), none] [] ty h6 r g Q))) ∧ (¬ (rd_pk h (r 80 1)) = 37 → Q (some (.int x2)) ty h r g))))))))))) : pv_E Γ d kc ks mX9_readProduct 8 [some (.ref 80), some (.int x1), some (.int x2), some (.int x3), none] [] ty h r g Q := by
  refine pv_iload_n dX9_readProduct_8 rfl ?_
  refine pv_sipush (v := 160) (by decide) dX9_readProduct_9 ?_
  refine pv_icmp_ge (tgt := 80) dX9_readProduct_12 (by decide) (fun c1 => ?_) (fun c1 => ?_)
  · have F := F.1 c1
    refine pv_iload_n dX9_readProduct_80 rfl ?_
    exact pv_ireturn dX9_readProduct_81 rfl rfl F
  · have F := F.2 c1
    refine pv_aload_n dX9_readProduct_15 rfl ?_
    refine pv_getI 9 5 dX9_readProduct_16 fl_X9_40 rfl (lt_80 hL) ?_
    refine pv_iconst (v := (-1)) (by decide) dX9_readProduct_19 ?_
    refine pv_icmp_ne (tgt := 80) dX9_readProduct_20 (by decide) (fun c2 => ?_) (fun c2 => ?_)
    · have F := F.1 c2
      refine pv_iload_n dX9_readProduct_80 rfl ?_
      exact pv_ireturn dX9_readProduct_81 rfl rfl F
    · have F := F.2 c2
      refine pv_aload_n dX9_readProduct_23 rfl ?_
      obtain ⟨q1, F⟩ := F
      refine pv_invV (As := []) (d' := d - 1) dX9_readProduct_24 moX9_peek ml_X9_50 (lt_80 hL) (Or.inl ⟨_, rfl, rfl⟩) (Nat.le_of_ble_eq_true rfl) (by omega) (Nat.zero_le _) (Nat.zero_le _) (ct_X9_peek (by omega) hL q1) (fun v ty' h' r' g' hq => ?_) rfl
      obtain ⟨e1, e2, e3, e4, e5⟩ := hq
      rw [e1, e2, e3, e4, e5]
      refine pv_pc (pc' := 27) rfl ?_
      show pv_E Γ d kc ks mX9_readProduct 27 [some (.ref 80), some (.int x1), some (.int x2), some (.int x3), none] [.int (rd_pk h (r 80 1))] ty h r g Q
      refine pv_istore (ls' := [some (.ref 80), some (.int x1), some (.int x2), some (.int x3), some (.int (rd_pk h (r 80 1)))]) dX9_readProduct_27 (by decide) rfl rfl ?_
      refine pv_iload dX9_readProduct_29 rfl ?_
      refine pv_bipush (v := 42) (by decide) dX9_readProduct_31 ?_
      refine pv_icmp_eq (tgt := 52) dX9_readProduct_33 (by decide) (fun c3 => ?_) (fun c3 => ?_)
      · have F := F.1 c3
        refine pv_aload_n dX9_readProduct_52 rfl ?_
        refine pv_dup rfl dX9_readProduct_53 ?_
        refine pv_getI 9 3 dX9_readProduct_54 fl_X9_35 rfl (lt_80 hL) ?_
        refine pv_iconst (v := 1) (by decide) dX9_readProduct_57 ?_
        refine pv_iadd dX9_readProduct_58 ?_
        obtain ⟨h1, eh1⟩ : ∃ h1 : pv_H, h1 = pv_up h 80 3 ((h 80 3) + 1) := ⟨_, rfl⟩
        have F := F h1 eh1
        refine pv_putI 9 3 dX9_readProduct_59 fl_X9_35 ⟨_, rfl, Or.inl rfl⟩ (Or.inl rfl) (lt_80 hL) ?_
        refine pv_hE eh1 ?_
        refine pv_iload dX9_readProduct_62 rfl ?_
        refine pv_iload_n dX9_readProduct_64 rfl ?_
        refine pv_aload_n dX9_readProduct_65 rfl ?_
        refine pv_iload_n dX9_readProduct_66 rfl ?_
        refine pv_invV (As := [.int x1]) (d' := d - 1) dX9_readProduct_67 moX9_readOperand ml_X9_66 (lt_80 hL) (Or.inl ⟨_, rfl, rfl⟩) (Nat.le_of_ble_eq_true rfl) (by omega) (Nat.zero_le _) (Nat.zero_le _) F (fun v ty' h2 r' g' hq => ?_) rfl
        obtain ⟨e2, e4, e5, w1, e1, F⟩ := hq
        rw [e1, e2, e4, e5]
        refine pv_pc (pc' := 70) rfl ?_
        show pv_E Γ d kc ks mX9_readProduct 70 [some (.ref 80), some (.int x1), some (.int x2), some (.int x3), some (.int (rd_pk h (r 80 1)))] [.int w1, .int x2, .int (rd_pk h (r 80 1))] ty h2 r g Q
        refine pv_invS (As := [.int (rd_pk h (r 80 1)), .int x2, .int w1]) (d' := d - 1) dX9_readProduct_70 moX9_multiply ml_X9_69 (Nat.le_of_ble_eq_true rfl) (by omega) (Nat.zero_le _) (Nat.zero_le _) (ct_X9_multiply (by omega)) (fun v ty' h' r' g' hq => ?_) rfl
        obtain ⟨e1, e2, e3, e4, e5⟩ := hq
        rw [e1, e2, e3, e4, e5]
        refine pv_pc (pc' := 73) rfl ?_
        show pv_E Γ d kc ks mX9_readProduct 73 [some (.ref 80), some (.int x1), some (.int x2), some (.int x3), some (.int (rd_pk h (r 80 1)))] [.int (rd_mul (rd_pk h (r 80 1)) x2 w1)] ty h2 r g Q
        refine pv_istore_n (ls' := [some (.ref 80), some (.int x1), some (.int (rd_mul (rd_pk h (r 80 1)) x2 w1)), some (.int x3), some (.int (rd_pk h (r 80 1)))]) dX9_readProduct_73 (by decide) rfl rfl ?_
        refine pv_iinc (v := x3 + 1) (ls' := [some (.ref 80), some (.int x1), some (.int (rd_mul (rd_pk h (r 80 1)) x2 w1)), some (.int (x3 + 1)), some (.int (rd_pk h (r 80 1)))]) dX9_readProduct_74 rfl (by rfl) rfl rfl ?_
        refine pv_goto (tgt := 8) dX9_readProduct_77 (by decide) ?_
        refine pv_forgetL (ls' := [some (.ref 80), some (.int x1), some (.int (rd_mul (rd_pk h (r 80 1)) x2 w1)), some (.int (x3 + 1)), none]) (pv_subL_ok ⟨rfl, ⟨rfl, ⟨rfl, ⟨rfl, trivial⟩⟩⟩⟩) ?_
        exact F
      · have F := F.2 c3
        refine pv_iload dX9_readProduct_36 rfl ?_
        refine pv_bipush (v := 47) (by decide) dX9_readProduct_38 ?_
        refine pv_icmp_eq (tgt := 52) dX9_readProduct_40 (by decide) (fun c4 => ?_) (fun c4 => ?_)
        · have F := F.1 c4
          refine pv_aload_n dX9_readProduct_52 rfl ?_
          refine pv_dup rfl dX9_readProduct_53 ?_
          refine pv_getI 9 3 dX9_readProduct_54 fl_X9_35 rfl (lt_80 hL) ?_
          refine pv_iconst (v := 1) (by decide) dX9_readProduct_57 ?_
          refine pv_iadd dX9_readProduct_58 ?_
          obtain ⟨h3, eh3⟩ : ∃ h3 : pv_H, h3 = pv_up h 80 3 ((h 80 3) + 1) := ⟨_, rfl⟩
          have F := F h3 eh3
          refine pv_putI 9 3 dX9_readProduct_59 fl_X9_35 ⟨_, rfl, Or.inl rfl⟩ (Or.inl rfl) (lt_80 hL) ?_
          refine pv_hE eh3 ?_
          refine pv_iload dX9_readProduct_62 rfl ?_
          refine pv_iload_n dX9_readProduct_64 rfl ?_
          refine pv_aload_n dX9_readProduct_65 rfl ?_
          refine pv_iload_n dX9_readProduct_66 rfl ?_
          refine pv_invV (As := [.int x1]) (d' := d - 1) dX9_readProduct_67 moX9_readOperand ml_X9_66 (lt_80 hL) (Or.inl ⟨_, rfl, rfl⟩) (Nat.le_of_ble_eq_true rfl) (by omega) (Nat.zero_le _) (Nat.zero_le _) F (fun v ty' h4 r' g' hq => ?_) rfl
          obtain ⟨e2, e4, e5, w2, e1, F⟩ := hq
          rw [e1, e2, e4, e5]
          refine pv_pc (pc' := 70) rfl ?_
          show pv_E Γ d kc ks mX9_readProduct 70 [some (.ref 80), some (.int x1), some (.int x2), some (.int x3), some (.int (rd_pk h (r 80 1)))] [.int w2, .int x2, .int (rd_pk h (r 80 1))] ty h4 r g Q
          refine pv_invS (As := [.int (rd_pk h (r 80 1)), .int x2, .int w2]) (d' := d - 1) dX9_readProduct_70 moX9_multiply ml_X9_69 (Nat.le_of_ble_eq_true rfl) (by omega) (Nat.zero_le _) (Nat.zero_le _) (ct_X9_multiply (by omega)) (fun v ty' h' r' g' hq => ?_) rfl
          obtain ⟨e1, e2, e3, e4, e5⟩ := hq
          rw [e1, e2, e3, e4, e5]
          refine pv_pc (pc' := 73) rfl ?_
          show pv_E Γ d kc ks mX9_readProduct 73 [some (.ref 80), some (.int x1), some (.int x2), some (.int x3), some (.int (rd_pk h (r 80 1)))] [.int (rd_mul (rd_pk h (r 80 1)) x2 w2)] ty h4 r g Q
          refine pv_istore_n (ls' := [some (.ref 80), some (.int x1), some (.int (rd_mul (rd_pk h (r 80 1)) x2 w2)), some (.int x3), some (.int (rd_pk h (r 80 1)))]) dX9_readProduct_73 (by decide) rfl rfl ?_
          refine pv_iinc (v := x3 + 1) (ls' := [some (.ref 80), some (.int x1), some (.int (rd_mul (rd_pk h (r 80 1)) x2 w2)), some (.int (x3 + 1)), some (.int (rd_pk h (r 80 1)))]) dX9_readProduct_74 rfl (by rfl) rfl rfl ?_
          refine pv_goto (tgt := 8) dX9_readProduct_77 (by decide) ?_
          refine pv_forgetL (ls' := [some (.ref 80), some (.int x1), some (.int (rd_mul (rd_pk h (r 80 1)) x2 w2)), some (.int (x3 + 1)), none]) (pv_subL_ok ⟨rfl, ⟨rfl, ⟨rfl, ⟨rfl, trivial⟩⟩⟩⟩) ?_
          exact F
        · have F := F.2 c4
          refine pv_iload dX9_readProduct_43 rfl ?_
          refine pv_bipush (v := 37) (by decide) dX9_readProduct_45 ?_
          refine pv_icmp_eq (tgt := 52) dX9_readProduct_47 (by decide) (fun c5 => ?_) (fun c5 => ?_)
          · have F := F.1 c5
            refine pv_aload_n dX9_readProduct_52 rfl ?_
            refine pv_dup rfl dX9_readProduct_53 ?_
            refine pv_getI 9 3 dX9_readProduct_54 fl_X9_35 rfl (lt_80 hL) ?_
            refine pv_iconst (v := 1) (by decide) dX9_readProduct_57 ?_
            refine pv_iadd dX9_readProduct_58 ?_
            obtain ⟨h5, eh5⟩ : ∃ h5 : pv_H, h5 = pv_up h 80 3 ((h 80 3) + 1) := ⟨_, rfl⟩
            have F := F h5 eh5
            refine pv_putI 9 3 dX9_readProduct_59 fl_X9_35 ⟨_, rfl, Or.inl rfl⟩ (Or.inl rfl) (lt_80 hL) ?_
            refine pv_hE eh5 ?_
            refine pv_iload dX9_readProduct_62 rfl ?_
            refine pv_iload_n dX9_readProduct_64 rfl ?_
            refine pv_aload_n dX9_readProduct_65 rfl ?_
            refine pv_iload_n dX9_readProduct_66 rfl ?_
            refine pv_invV (As := [.int x1]) (d' := d - 1) dX9_readProduct_67 moX9_readOperand ml_X9_66 (lt_80 hL) (Or.inl ⟨_, rfl, rfl⟩) (Nat.le_of_ble_eq_true rfl) (by omega) (Nat.zero_le _) (Nat.zero_le _) F (fun v ty' h6 r' g' hq => ?_) rfl
            obtain ⟨e2, e4, e5, w3, e1, F⟩ := hq
            rw [e1, e2, e4, e5]
            refine pv_pc (pc' := 70) rfl ?_
            show pv_E Γ d kc ks mX9_readProduct 70 [some (.ref 80), some (.int x1), some (.int x2), some (.int x3), some (.int (rd_pk h (r 80 1)))] [.int w3, .int x2, .int (rd_pk h (r 80 1))] ty h6 r g Q
            refine pv_invS (As := [.int (rd_pk h (r 80 1)), .int x2, .int w3]) (d' := d - 1) dX9_readProduct_70 moX9_multiply ml_X9_69 (Nat.le_of_ble_eq_true rfl) (by omega) (Nat.zero_le _) (Nat.zero_le _) (ct_X9_multiply (by omega)) (fun v ty' h' r' g' hq => ?_) rfl
            obtain ⟨e1, e2, e3, e4, e5⟩ := hq
            rw [e1, e2, e3, e4, e5]
            refine pv_pc (pc' := 73) rfl ?_
            show pv_E Γ d kc ks mX9_readProduct 73 [some (.ref 80), some (.int x1), some (.int x2), some (.int x3), some (.int (rd_pk h (r 80 1)))] [.int (rd_mul (rd_pk h (r 80 1)) x2 w3)] ty h6 r g Q
            refine pv_istore_n (ls' := [some (.ref 80), some (.int x1), some (.int (rd_mul (rd_pk h (r 80 1)) x2 w3)), some (.int x3), some (.int (rd_pk h (r 80 1)))]) dX9_readProduct_73 (by decide) rfl rfl ?_
            refine pv_iinc (v := x3 + 1) (ls' := [some (.ref 80), some (.int x1), some (.int (rd_mul (rd_pk h (r 80 1)) x2 w3)), some (.int (x3 + 1)), some (.int (rd_pk h (r 80 1)))]) dX9_readProduct_74 rfl (by rfl) rfl rfl ?_
            refine pv_goto (tgt := 8) dX9_readProduct_77 (by decide) ?_
            refine pv_forgetL (ls' := [some (.ref 80), some (.int x1), some (.int (rd_mul (rd_pk h (r 80 1)) x2 w3)), some (.int (x3 + 1)), none]) (pv_subL_ok ⟨rfl, ⟨rfl, ⟨rfl, ⟨rfl, trivial⟩⟩⟩⟩) ?_
            exact F
          · have F := F.2 c5
            refine pv_iload_n dX9_readProduct_50 rfl ?_
            exact pv_ireturn dX9_readProduct_51 rfl rfl F
set_option maxRecDepth 20000 in
set_option maxHeartbeats 4000000 in
theorem sg_X9_readSum_0 {Γ : pv_C} {d kc ks : Nat} {ty : pv_T} {h : pv_H} {r : pv_R} {g : pv_G} {Q : pv_Q} (x : Int32) (hd : 1 ≤ d) (hL : pv_Lay ty r) (F : pv_CJ Γ (d - 1) mX9_readProduct [.ref 80, .int x] ty h r g (fun (w1 : Int32) (h1 : pv_H) => pv_E Γ d kc ks mX9_readSum 8 [some (.ref 80), some (.int x), some (.int w1), some (.int 0), none, none] [] ty h1 r g Q)) : pv_E Γ d kc ks mX9_readSum 0 [some (.ref 80), some (.int x), none, none, none, none] [] ty h r g Q := by
  refine pv_aload_n dX9_readSum_0 rfl ?_
  refine pv_iload_n dX9_readSum_1 rfl ?_
  refine pv_invV (As := [.int x]) (d' := d - 1) dX9_readSum_2 moX9_readProduct ml_X9_63 (lt_80 hL) (Or.inl ⟨_, rfl, rfl⟩) (Nat.le_of_ble_eq_true rfl) (by omega) (Nat.zero_le _) (Nat.zero_le _) F (fun v ty' h1 r' g' hq => ?_) rfl
  obtain ⟨e2, e4, e5, w1, e1, F⟩ := hq
  rw [e1, e2, e4, e5]
  refine pv_pc (pc' := 5) rfl ?_
  show pv_E Γ d kc ks mX9_readSum 5 [some (.ref 80), some (.int x), none, none, none, none] [.int w1] ty h1 r g Q
  refine pv_istore_n (ls' := [some (.ref 80), some (.int x), some (.int w1), none, none, none]) dX9_readSum_5 (by decide) rfl rfl ?_
  refine pv_iconst (v := 0) (by decide) dX9_readSum_6 ?_
  refine pv_istore_n (ls' := [some (.ref 80), some (.int x), some (.int w1), some (.int 0), none, none]) dX9_readSum_7 (by decide) rfl rfl ?_
  exact F
set_option maxRecDepth 20000 in
set_option maxHeartbeats 4000000 in
theorem sg_X9_readSum_8 {Γ : pv_C} {d kc ks : Nat} {ty : pv_T} {h : pv_H} {r : pv_R} {g : pv_G} {Q : pv_Q} (x1 : Int32) (x2 : Int32) (x3 : Int32) (hd : 1 ≤ d) (hL : pv_Lay ty r) (F : ((160 ≤ x3 → Q (some (.int x2)) ty h r g) ∧ (¬ 160 ≤ x3 → ((¬ (h 80 5) = (-1) → Q (some (.int x2)) ty h r g) ∧ ((h 80 5) = (-1) → (rd_ok ty h r) ∧ (((rd_pk h (r 80 1)) = 43 → (∀ h1 : pv_H, h1 = pv_up h 80 3 ((h 80 3) + 1) → pv_CJ Γ (d - 1) mX9_readProduct [.ref 80, .int x1] ty h1 r g (fun (w1 : Int32) (h2 : pv_H) => ((¬ (rd_pk h (r 80 1)) = 43 → pv_E Γ d kc ks mX9_readSum 8 [some (.ref 80), some (.int x1), some (.int (x2 - w1)), some (.int (x3 + 1)), none, none] [] ty h2 r g Q) ∧ ((rd_pk h (r 80 1)) = 43 → pv_E Γ d kc ks mX9_readSum 8 [some (.ref 80), some (.int x1), some (.int (x2 + w1)), some (.int (x3 + 1)), none, none] [] ty h2 r g Q))))) ∧ (¬ (rd_pk h (r 80 1)) = 43 → (((rd_pk h (r 80 1)) = 45 → (∀ h3 : pv_H, h3 = pv_up h 80 3 ((h 80 3) + 1) → pv_CJ Γ (d - 1) mX9_readProduct [.ref 80, .int x1] ty h3 r g (fun (w2 : Int32) (h4 : pv_H) => ((¬ (rd_pk h (r 80 1)) = 43 → pv_E Γ d kc ks mX9_readSum 8 [some (.ref 80), some (.int x1), some (.int (x2 - w2)), some (.int (x3 + 1)), none, none] [] ty h4 r g Q) ∧ ((rd_pk h (r 80 1)) = 43 → pv_E Γ d kc ks mX9_readSum 8 [some (.ref 80), some (.int x1), some (.int (x2 + w2)), some (.int (x3 + 1)), none, none] [] ty h4 r g Q))))) ∧ (¬ (rd_pk h (r 80 1)) = 45 → Q (some (.int x2)) ty h r g))))))))) : pv_E Γ d kc ks mX9_readSum 8 [some (.ref 80), some (.int x1), some (.int x2), some (.int x3), none, none] [] ty h r g Q := by
  refine pv_iload_n dX9_readSum_8 rfl ?_
  refine pv_sipush (v := 160) (by decide) dX9_readSum_9 ?_
  refine pv_icmp_ge (tgt := 87) dX9_readSum_12 (by decide) (fun c1 => ?_) (fun c1 => ?_)
  · have F := F.1 c1
    refine pv_iload_n dX9_readSum_87 rfl ?_
    exact pv_ireturn dX9_readSum_88 rfl rfl F
  · have F := F.2 c1
    refine pv_aload_n dX9_readSum_15 rfl ?_
    refine pv_getI 9 5 dX9_readSum_16 fl_X9_40 rfl (lt_80 hL) ?_
    refine pv_iconst (v := (-1)) (by decide) dX9_readSum_19 ?_
    refine pv_icmp_ne (tgt := 87) dX9_readSum_20 (by decide) (fun c2 => ?_) (fun c2 => ?_)
    · have F := F.1 c2
      refine pv_iload_n dX9_readSum_87 rfl ?_
      exact pv_ireturn dX9_readSum_88 rfl rfl F
    · have F := F.2 c2
      refine pv_aload_n dX9_readSum_23 rfl ?_
      obtain ⟨q1, F⟩ := F
      refine pv_invV (As := []) (d' := d - 1) dX9_readSum_24 moX9_peek ml_X9_50 (lt_80 hL) (Or.inl ⟨_, rfl, rfl⟩) (Nat.le_of_ble_eq_true rfl) (by omega) (Nat.zero_le _) (Nat.zero_le _) (ct_X9_peek (by omega) hL q1) (fun v ty' h' r' g' hq => ?_) rfl
      obtain ⟨e1, e2, e3, e4, e5⟩ := hq
      rw [e1, e2, e3, e4, e5]
      refine pv_pc (pc' := 27) rfl ?_
      show pv_E Γ d kc ks mX9_readSum 27 [some (.ref 80), some (.int x1), some (.int x2), some (.int x3), none, none] [.int (rd_pk h (r 80 1))] ty h r g Q
      refine pv_istore (ls' := [some (.ref 80), some (.int x1), some (.int x2), some (.int x3), some (.int (rd_pk h (r 80 1))), none]) dX9_readSum_27 (by decide) rfl rfl ?_
      refine pv_iload dX9_readSum_29 rfl ?_
      refine pv_bipush (v := 43) (by decide) dX9_readSum_31 ?_
      refine pv_icmp_eq (tgt := 45) dX9_readSum_33 (by decide) (fun c3 => ?_) (fun c3 => ?_)
      · have F := F.1 c3
        refine pv_aload_n dX9_readSum_45 rfl ?_
        refine pv_dup rfl dX9_readSum_46 ?_
        refine pv_getI 9 3 dX9_readSum_47 fl_X9_35 rfl (lt_80 hL) ?_
        refine pv_iconst (v := 1) (by decide) dX9_readSum_50 ?_
        refine pv_iadd dX9_readSum_51 ?_
        obtain ⟨h1, eh1⟩ : ∃ h1 : pv_H, h1 = pv_up h 80 3 ((h 80 3) + 1) := ⟨_, rfl⟩
        have F := F h1 eh1
        refine pv_putI 9 3 dX9_readSum_52 fl_X9_35 ⟨_, rfl, Or.inl rfl⟩ (Or.inl rfl) (lt_80 hL) ?_
        refine pv_hE eh1 ?_
        refine pv_aload_n dX9_readSum_55 rfl ?_
        refine pv_iload_n dX9_readSum_56 rfl ?_
        refine pv_invV (As := [.int x1]) (d' := d - 1) dX9_readSum_57 moX9_readProduct ml_X9_63 (lt_80 hL) (Or.inl ⟨_, rfl, rfl⟩) (Nat.le_of_ble_eq_true rfl) (by omega) (Nat.zero_le _) (Nat.zero_le _) F (fun v ty' h2 r' g' hq => ?_) rfl
        obtain ⟨e2, e4, e5, w1, e1, F⟩ := hq
        rw [e1, e2, e4, e5]
        refine pv_pc (pc' := 60) rfl ?_
        show pv_E Γ d kc ks mX9_readSum 60 [some (.ref 80), some (.int x1), some (.int x2), some (.int x3), some (.int (rd_pk h (r 80 1))), none] [.int w1] ty h2 r g Q
        refine pv_istore (ls' := [some (.ref 80), some (.int x1), some (.int x2), some (.int x3), some (.int (rd_pk h (r 80 1))), some (.int w1)]) dX9_readSum_60 (by decide) rfl rfl ?_
        refine pv_iload dX9_readSum_62 rfl ?_
        refine pv_bipush (v := 43) (by decide) dX9_readSum_64 ?_
        refine pv_icmp_ne (tgt := 76) dX9_readSum_66 (by decide) (fun c4 => ?_) (fun c4 => ?_)
        · have F := F.1 c4
          refine pv_iload_n dX9_readSum_76 rfl ?_
          refine pv_iload dX9_readSum_77 rfl ?_
          refine pv_isub dX9_readSum_79 ?_
          refine pv_istore_n (ls' := [some (.ref 80), some (.int x1), some (.int (x2 - w1)), some (.int x3), some (.int (rd_pk h (r 80 1))), some (.int w1)]) dX9_readSum_80 (by decide) rfl rfl ?_
          refine pv_iinc (v := x3 + 1) (ls' := [some (.ref 80), some (.int x1), some (.int (x2 - w1)), some (.int (x3 + 1)), some (.int (rd_pk h (r 80 1))), some (.int w1)]) dX9_readSum_81 rfl (by rfl) rfl rfl ?_
          refine pv_goto (tgt := 8) dX9_readSum_84 (by decide) ?_
          refine pv_forgetL (ls' := [some (.ref 80), some (.int x1), some (.int (x2 - w1)), some (.int (x3 + 1)), none, none]) (pv_subL_ok ⟨rfl, ⟨rfl, ⟨rfl, ⟨rfl, trivial⟩⟩⟩⟩) ?_
          exact F
        · have F := F.2 c4
          refine pv_iload_n dX9_readSum_69 rfl ?_
          refine pv_iload dX9_readSum_70 rfl ?_
          refine pv_iadd dX9_readSum_72 ?_
          refine pv_goto (tgt := 80) dX9_readSum_73 (by decide) ?_
          refine pv_istore_n (ls' := [some (.ref 80), some (.int x1), some (.int (x2 + w1)), some (.int x3), some (.int (rd_pk h (r 80 1))), some (.int w1)]) dX9_readSum_80 (by decide) rfl rfl ?_
          refine pv_iinc (v := x3 + 1) (ls' := [some (.ref 80), some (.int x1), some (.int (x2 + w1)), some (.int (x3 + 1)), some (.int (rd_pk h (r 80 1))), some (.int w1)]) dX9_readSum_81 rfl (by rfl) rfl rfl ?_
          refine pv_goto (tgt := 8) dX9_readSum_84 (by decide) ?_
          refine pv_forgetL (ls' := [some (.ref 80), some (.int x1), some (.int (x2 + w1)), some (.int (x3 + 1)), none, none]) (pv_subL_ok ⟨rfl, ⟨rfl, ⟨rfl, ⟨rfl, trivial⟩⟩⟩⟩) ?_
          exact F
      · have F := F.2 c3
        refine pv_iload dX9_readSum_36 rfl ?_
        refine pv_bipush (v := 45) (by decide) dX9_readSum_38 ?_
        refine pv_icmp_eq (tgt := 45) dX9_readSum_40 (by decide) (fun c5 => ?_) (fun c5 => ?_)
        · have F := F.1 c5
          refine pv_aload_n dX9_readSum_45 rfl ?_
          refine pv_dup rfl dX9_readSum_46 ?_
          refine pv_getI 9 3 dX9_readSum_47 fl_X9_35 rfl (lt_80 hL) ?_
          refine pv_iconst (v := 1) (by decide) dX9_readSum_50 ?_
          refine pv_iadd dX9_readSum_51 ?_
          obtain ⟨h3, eh3⟩ : ∃ h3 : pv_H, h3 = pv_up h 80 3 ((h 80 3) + 1) := ⟨_, rfl⟩
          have F := F h3 eh3
          refine pv_putI 9 3 dX9_readSum_52 fl_X9_35 ⟨_, rfl, Or.inl rfl⟩ (Or.inl rfl) (lt_80 hL) ?_
          refine pv_hE eh3 ?_
          refine pv_aload_n dX9_readSum_55 rfl ?_
          refine pv_iload_n dX9_readSum_56 rfl ?_
          refine pv_invV (As := [.int x1]) (d' := d - 1) dX9_readSum_57 moX9_readProduct ml_X9_63 (lt_80 hL) (Or.inl ⟨_, rfl, rfl⟩) (Nat.le_of_ble_eq_true rfl) (by omega) (Nat.zero_le _) (Nat.zero_le _) F (fun v ty' h4 r' g' hq => ?_) rfl
          obtain ⟨e2, e4, e5, w2, e1, F⟩ := hq
          rw [e1, e2, e4, e5]
          refine pv_pc (pc' := 60) rfl ?_
          show pv_E Γ d kc ks mX9_readSum 60 [some (.ref 80), some (.int x1), some (.int x2), some (.int x3), some (.int (rd_pk h (r 80 1))), none] [.int w2] ty h4 r g Q
          refine pv_istore (ls' := [some (.ref 80), some (.int x1), some (.int x2), some (.int x3), some (.int (rd_pk h (r 80 1))), some (.int w2)]) dX9_readSum_60 (by decide) rfl rfl ?_
          refine pv_iload dX9_readSum_62 rfl ?_
          refine pv_bipush (v := 43) (by decide) dX9_readSum_64 ?_
          refine pv_icmp_ne (tgt := 76) dX9_readSum_66 (by decide) (fun c6 => ?_) (fun c6 => ?_)
          · have F := F.1 c6
            refine pv_iload_n dX9_readSum_76 rfl ?_
            refine pv_iload dX9_readSum_77 rfl ?_
            refine pv_isub dX9_readSum_79 ?_
            refine pv_istore_n (ls' := [some (.ref 80), some (.int x1), some (.int (x2 - w2)), some (.int x3), some (.int (rd_pk h (r 80 1))), some (.int w2)]) dX9_readSum_80 (by decide) rfl rfl ?_
            refine pv_iinc (v := x3 + 1) (ls' := [some (.ref 80), some (.int x1), some (.int (x2 - w2)), some (.int (x3 + 1)), some (.int (rd_pk h (r 80 1))), some (.int w2)]) dX9_readSum_81 rfl (by rfl) rfl rfl ?_
            refine pv_goto (tgt := 8) dX9_readSum_84 (by decide) ?_
            refine pv_forgetL (ls' := [some (.ref 80), some (.int x1), some (.int (x2 - w2)), some (.int (x3 + 1)), none, none]) (pv_subL_ok ⟨rfl, ⟨rfl, ⟨rfl, ⟨rfl, trivial⟩⟩⟩⟩) ?_
            exact F
          · have F := F.2 c6
            refine pv_iload_n dX9_readSum_69 rfl ?_
            refine pv_iload dX9_readSum_70 rfl ?_
            refine pv_iadd dX9_readSum_72 ?_
            refine pv_goto (tgt := 80) dX9_readSum_73 (by decide) ?_
            refine pv_istore_n (ls' := [some (.ref 80), some (.int x1), some (.int (x2 + w2)), some (.int x3), some (.int (rd_pk h (r 80 1))), some (.int w2)]) dX9_readSum_80 (by decide) rfl rfl ?_
            refine pv_iinc (v := x3 + 1) (ls' := [some (.ref 80), some (.int x1), some (.int (x2 + w2)), some (.int (x3 + 1)), some (.int (rd_pk h (r 80 1))), some (.int w2)]) dX9_readSum_81 rfl (by rfl) rfl rfl ?_
            refine pv_goto (tgt := 8) dX9_readSum_84 (by decide) ?_
            refine pv_forgetL (ls' := [some (.ref 80), some (.int x1), some (.int (x2 + w2)), some (.int (x3 + 1)), none, none]) (pv_subL_ok ⟨rfl, ⟨rfl, ⟨rfl, ⟨rfl, trivial⟩⟩⟩⟩) ?_
            exact F
        · have F := F.2 c5
          refine pv_iload_n dX9_readSum_43 rfl ?_
          exact pv_ireturn dX9_readSum_44 rfl rfl F
set_option maxRecDepth 20000 in
set_option maxHeartbeats 4000000 in
theorem sg_X9_readExpression_0 {Γ : pv_C} {d kc ks : Nat} {ty : pv_T} {h : pv_H} {r : pv_R} {g : pv_G} {Q : pv_Q} (x : Int32) (hd : 1 ≤ d) (hL : pv_Lay ty r) (F : pv_CJ Γ (d - 1) mX9_readSum [.ref 80, .int x] ty h r g (fun (w1 : Int32) (h1 : pv_H) => (rd_ok ty h1 r) ∧ ((¬ (h1 80 5) = (-1) → Q (some (.int w1)) ty h1 r g) ∧ ((h1 80 5) = (-1) → (((rd_pk h1 (r 80 1)) = 60 → (∀ h2 : pv_H, h2 = pv_up h1 80 3 ((h1 80 3) + 1) → pv_CJ Γ (d - 1) mX9_readSum [.ref 80, .int x] ty h2 r g (fun (w2 : Int32) (h3 : pv_H) => ((¬ (rd_pk h1 (r 80 1)) = 60 → ((¬ (rd_pk h1 (r 80 1)) = 62 → ((¬ w1 = w2 → Q (some (.int 0)) ty h3 r g) ∧ (w1 = w2 → Q (some (.int 1)) ty h3 r g))) ∧ ((rd_pk h1 (r 80 1)) = 62 → ((w1 ≤ w2 → Q (some (.int 0)) ty h3 r g) ∧ (¬ w1 ≤ w2 → Q (some (.int 1)) ty h3 r g))))) ∧ ((rd_pk h1 (r 80 1)) = 60 → ((w2 ≤ w1 → Q (some (.int 0)) ty h3 r g) ∧ (¬ w2 ≤ w1 → Q (some (.int 1)) ty h3 r g))))))) ∧ (¬ (rd_pk h1 (r 80 1)) = 60 → (((rd_pk h1 (r 80 1)) = 61 → (∀ h4 : pv_H, h4 = pv_up h1 80 3 ((h1 80 3) + 1) → pv_CJ Γ (d - 1) mX9_readSum [.ref 80, .int x] ty h4 r g (fun (w3 : Int32) (h5 : pv_H) => ((¬ (rd_pk h1 (r 80 1)) = 60 → ((¬ (rd_pk h1 (r 80 1)) = 62 → ((¬ w1 = w3 → Q (some (.int 0)) ty h5 r g) ∧ (w1 = w3 → Q (some (.int 1)) ty h5 r g))) ∧ ((rd_pk h1 (r 80 1)) = 62 → ((w1 ≤ w3 → Q (some (.int 0)) ty h5 r g) ∧ (¬ w1 ≤ w3 → Q (some (.int 1)) ty h5 r g))))) ∧ ((rd_pk h1 (r 80 1)) = 60 → ((w3 ≤ w1 → Q (some (.int 0)) ty h5 r g) ∧ (¬ w3 ≤ w1 → Q (some (.int 1)) ty h5 r g))))))) ∧ (¬ (rd_pk h1 (r 80 1)) = 61 → (((rd_pk h1 (r 80 1)) = 62 → (∀ h6 : pv_H, h6 = pv_up h1 80 3 ((h1 80 3) + 1) → pv_CJ Γ (d - 1) mX9_readSum [.ref 80, .int x] ty h6 r g (fun (w4 : Int32) (h7 : pv_H) => ((¬ (rd_pk h1 (r 80 1)) = 60 → ((¬ (rd_pk h1 (r 80 1)) = 62 → ((¬ w1 = w4 → Q (some (.int 0)) ty h7 r g) ∧ (w1 = w4 → Q (some (.int 1)) ty h7 r g))) ∧ ((rd_pk h1 (r 80 1)) = 62 → ((w1 ≤ w4 → Q (some (.int 0)) ty h7 r g) ∧ (¬ w1 ≤ w4 → Q (some (.int 1)) ty h7 r g))))) ∧ ((rd_pk h1 (r 80 1)) = 60 → ((w4 ≤ w1 → Q (some (.int 0)) ty h7 r g) ∧ (¬ w4 ≤ w1 → Q (some (.int 1)) ty h7 r g))))))) ∧ (¬ (rd_pk h1 (r 80 1)) = 62 → Q (some (.int w1)) ty h1 r g)))))))))) : pv_E Γ d kc ks mX9_readExpression 0 [some (.ref 80), some (.int x), none, none, none, none] [] ty h r g Q := by
  refine pv_aload_n dX9_readExpression_0 rfl ?_
  refine pv_iload_n dX9_readExpression_1 rfl ?_
  refine pv_invV (As := [.int x]) (d' := d - 1) dX9_readExpression_2 moX9_readSum ml_X9_60 (lt_80 hL) (Or.inl ⟨_, rfl, rfl⟩) (Nat.le_of_ble_eq_true rfl) (by omega) (Nat.zero_le _) (Nat.zero_le _) F (fun v ty' h1 r' g' hq => ?_) rfl
  obtain ⟨e2, e4, e5, w1, e1, F⟩ := hq
  rw [e1, e2, e4, e5]
  refine pv_pc (pc' := 5) rfl ?_
  show pv_E Γ d kc ks mX9_readExpression 5 [some (.ref 80), some (.int x), none, none, none, none] [.int w1] ty h1 r g Q
  refine pv_istore_n (ls' := [some (.ref 80), some (.int x), some (.int w1), none, none, none]) dX9_readExpression_5 (by decide) rfl rfl ?_
  refine pv_aload_n dX9_readExpression_6 rfl ?_
  obtain ⟨q1, F⟩ := F
  refine pv_invV (As := []) (d' := d - 1) dX9_readExpression_7 moX9_peek ml_X9_50 (lt_80 hL) (Or.inl ⟨_, rfl, rfl⟩) (Nat.le_of_ble_eq_true rfl) (by omega) (Nat.zero_le _) (Nat.zero_le _) (ct_X9_peek (by omega) hL q1) (fun v ty' h' r' g' hq => ?_) rfl
  obtain ⟨e1, e2, e3, e4, e5⟩ := hq
  rw [e1, e2, e3, e4, e5]
  refine pv_pc (pc' := 10) rfl ?_
  show pv_E Γ d kc ks mX9_readExpression 10 [some (.ref 80), some (.int x), some (.int w1), none, none, none] [.int (rd_pk h1 (r 80 1))] ty h1 r g Q
  refine pv_istore_n (ls' := [some (.ref 80), some (.int x), some (.int w1), some (.int (rd_pk h1 (r 80 1))), none, none]) dX9_readExpression_10 (by decide) rfl rfl ?_
  refine pv_aload_n dX9_readExpression_11 rfl ?_
  refine pv_getI 9 5 dX9_readExpression_12 fl_X9_40 rfl (lt_80 hL) ?_
  refine pv_iconst (v := (-1)) (by decide) dX9_readExpression_15 ?_
  refine pv_icmp_ne (tgt := 37) dX9_readExpression_16 (by decide) (fun c1 => ?_) (fun c1 => ?_)
  · have F := F.1 c1
    refine pv_iload_n dX9_readExpression_37 rfl ?_
    exact pv_ireturn dX9_readExpression_38 rfl rfl F
  · have F := F.2 c1
    refine pv_iload_n dX9_readExpression_19 rfl ?_
    refine pv_bipush (v := 60) (by decide) dX9_readExpression_20 ?_
    refine pv_icmp_eq (tgt := 39) dX9_readExpression_22 (by decide) (fun c2 => ?_) (fun c2 => ?_)
    · have F := F.1 c2
      refine pv_aload_n dX9_readExpression_39 rfl ?_
      refine pv_dup rfl dX9_readExpression_40 ?_
      refine pv_getI 9 3 dX9_readExpression_41 fl_X9_35 rfl (lt_80 hL) ?_
      refine pv_iconst (v := 1) (by decide) dX9_readExpression_44 ?_
      refine pv_iadd dX9_readExpression_45 ?_
      obtain ⟨h2, eh2⟩ : ∃ h2 : pv_H, h2 = pv_up h1 80 3 ((h1 80 3) + 1) := ⟨_, rfl⟩
      have F := F h2 eh2
      refine pv_putI 9 3 dX9_readExpression_46 fl_X9_35 ⟨_, rfl, Or.inl rfl⟩ (Or.inl rfl) (lt_80 hL) ?_
      refine pv_hE eh2 ?_
      refine pv_aload_n dX9_readExpression_49 rfl ?_
      refine pv_iload_n dX9_readExpression_50 rfl ?_
      refine pv_invV (As := [.int x]) (d' := d - 1) dX9_readExpression_51 moX9_readSum ml_X9_60 (lt_80 hL) (Or.inl ⟨_, rfl, rfl⟩) (Nat.le_of_ble_eq_true rfl) (by omega) (Nat.zero_le _) (Nat.zero_le _) F (fun v ty' h3 r' g' hq => ?_) rfl
      obtain ⟨e2, e4, e5, w2, e1, F⟩ := hq
      rw [e1, e2, e4, e5]
      refine pv_pc (pc' := 54) rfl ?_
      show pv_E Γ d kc ks mX9_readExpression 54 [some (.ref 80), some (.int x), some (.int w1), some (.int (rd_pk h1 (r 80 1))), none, none] [.int w2] ty h3 r g Q
      refine pv_istore (ls' := [some (.ref 80), some (.int x), some (.int w1), some (.int (rd_pk h1 (r 80 1))), some (.int w2), none]) dX9_readExpression_54 (by decide) rfl rfl ?_
      refine pv_iload_n dX9_readExpression_56 rfl ?_
      refine pv_bipush (v := 60) (by decide) dX9_readExpression_57 ?_
      refine pv_icmp_ne (tgt := 76) dX9_readExpression_59 (by decide) (fun c3 => ?_) (fun c3 => ?_)
      · have F := F.1 c3
        refine pv_iload_n dX9_readExpression_76 rfl ?_
        refine pv_bipush (v := 62) (by decide) dX9_readExpression_77 ?_
        refine pv_icmp_ne (tgt := 96) dX9_readExpression_79 (by decide) (fun c4 => ?_) (fun c4 => ?_)
        · have F := F.1 c4
          refine pv_iload_n dX9_readExpression_96 rfl ?_
          refine pv_iload dX9_readExpression_97 rfl ?_
          refine pv_icmp_ne (tgt := 106) dX9_readExpression_99 (by decide) (fun c5 => ?_) (fun c5 => ?_)
          · have F := F.1 c5
            refine pv_iconst (v := 0) (by decide) dX9_readExpression_106 ?_
            refine pv_istore (ls' := [some (.ref 80), some (.int x), some (.int w1), some (.int (rd_pk h1 (r 80 1))), some (.int w2), some (.int 0)]) dX9_readExpression_107 (by decide) rfl rfl ?_
            refine pv_iload dX9_readExpression_109 rfl ?_
            refine pv_if_eq (tgt := 118) dX9_readExpression_111 (by decide) (fun c6 => ?_) (fun c6 => absurd c6 (by decide))
            refine pv_iconst (v := 0) (by decide) dX9_readExpression_118 ?_
            exact pv_ireturn dX9_readExpression_119 rfl rfl F
          · have F := F.2 c5
            refine pv_iconst (v := 1) (by decide) dX9_readExpression_102 ?_
            refine pv_goto (tgt := 107) dX9_readExpression_103 (by decide) ?_
            refine pv_istore (ls' := [some (.ref 80), some (.int x), some (.int w1), some (.int (rd_pk h1 (r 80 1))), some (.int w2), some (.int 1)]) dX9_readExpression_107 (by decide) rfl rfl ?_
            refine pv_iload dX9_readExpression_109 rfl ?_
            refine pv_if_eq (tgt := 118) dX9_readExpression_111 (by decide) (fun c7 => absurd c7 (by decide)) (fun c7 => ?_)
            refine pv_iconst (v := 1) (by decide) dX9_readExpression_114 ?_
            refine pv_goto (tgt := 119) dX9_readExpression_115 (by decide) ?_
            exact pv_ireturn dX9_readExpression_119 rfl rfl F
        · have F := F.2 c4
          refine pv_iload_n dX9_readExpression_82 rfl ?_
          refine pv_iload dX9_readExpression_83 rfl ?_
          refine pv_icmp_le (tgt := 92) dX9_readExpression_85 (by decide) (fun c8 => ?_) (fun c8 => ?_)
          · have F := F.1 c8
            refine pv_iconst (v := 0) (by decide) dX9_readExpression_92 ?_
            refine pv_goto (tgt := 107) dX9_readExpression_93 (by decide) ?_
            refine pv_istore (ls' := [some (.ref 80), some (.int x), some (.int w1), some (.int (rd_pk h1 (r 80 1))), some (.int w2), some (.int 0)]) dX9_readExpression_107 (by decide) rfl rfl ?_
            refine pv_iload dX9_readExpression_109 rfl ?_
            refine pv_if_eq (tgt := 118) dX9_readExpression_111 (by decide) (fun c9 => ?_) (fun c9 => absurd c9 (by decide))
            refine pv_iconst (v := 0) (by decide) dX9_readExpression_118 ?_
            exact pv_ireturn dX9_readExpression_119 rfl rfl F
          · have F := F.2 c8
            refine pv_iconst (v := 1) (by decide) dX9_readExpression_88 ?_
            refine pv_goto (tgt := 107) dX9_readExpression_89 (by decide) ?_
            refine pv_istore (ls' := [some (.ref 80), some (.int x), some (.int w1), some (.int (rd_pk h1 (r 80 1))), some (.int w2), some (.int 1)]) dX9_readExpression_107 (by decide) rfl rfl ?_
            refine pv_iload dX9_readExpression_109 rfl ?_
            refine pv_if_eq (tgt := 118) dX9_readExpression_111 (by decide) (fun c10 => absurd c10 (by decide)) (fun c10 => ?_)
            refine pv_iconst (v := 1) (by decide) dX9_readExpression_114 ?_
            refine pv_goto (tgt := 119) dX9_readExpression_115 (by decide) ?_
            exact pv_ireturn dX9_readExpression_119 rfl rfl F
      · have F := F.2 c3
        refine pv_iload_n dX9_readExpression_62 rfl ?_
        refine pv_iload dX9_readExpression_63 rfl ?_
        refine pv_icmp_ge (tgt := 72) dX9_readExpression_65 (by decide) (fun c11 => ?_) (fun c11 => ?_)
        · have F := F.1 c11
          refine pv_iconst (v := 0) (by decide) dX9_readExpression_72 ?_
          refine pv_goto (tgt := 107) dX9_readExpression_73 (by decide) ?_
          refine pv_istore (ls' := [some (.ref 80), some (.int x), some (.int w1), some (.int (rd_pk h1 (r 80 1))), some (.int w2), some (.int 0)]) dX9_readExpression_107 (by decide) rfl rfl ?_
          refine pv_iload dX9_readExpression_109 rfl ?_
          refine pv_if_eq (tgt := 118) dX9_readExpression_111 (by decide) (fun c12 => ?_) (fun c12 => absurd c12 (by decide))
          refine pv_iconst (v := 0) (by decide) dX9_readExpression_118 ?_
          exact pv_ireturn dX9_readExpression_119 rfl rfl F
        · have F := F.2 c11
          refine pv_iconst (v := 1) (by decide) dX9_readExpression_68 ?_
          refine pv_goto (tgt := 107) dX9_readExpression_69 (by decide) ?_
          refine pv_istore (ls' := [some (.ref 80), some (.int x), some (.int w1), some (.int (rd_pk h1 (r 80 1))), some (.int w2), some (.int 1)]) dX9_readExpression_107 (by decide) rfl rfl ?_
          refine pv_iload dX9_readExpression_109 rfl ?_
          refine pv_if_eq (tgt := 118) dX9_readExpression_111 (by decide) (fun c13 => absurd c13 (by decide)) (fun c13 => ?_)
          refine pv_iconst (v := 1) (by decide) dX9_readExpression_114 ?_
          refine pv_goto (tgt := 119) dX9_readExpression_115 (by decide) ?_
          exact pv_ireturn dX9_readExpression_119 rfl rfl F
    · have F := F.2 c2
      refine pv_iload_n dX9_readExpression_25 rfl ?_
      refine pv_bipush (v := 61) (by decide) dX9_readExpression_26 ?_
      refine pv_icmp_eq (tgt := 39) dX9_readExpression_28 (by decide) (fun c14 => ?_) (fun c14 => ?_)
      · have F := F.1 c14
        refine pv_aload_n dX9_readExpression_39 rfl ?_
        refine pv_dup rfl dX9_readExpression_40 ?_
        refine pv_getI 9 3 dX9_readExpression_41 fl_X9_35 rfl (lt_80 hL) ?_
        refine pv_iconst (v := 1) (by decide) dX9_readExpression_44 ?_
        refine pv_iadd dX9_readExpression_45 ?_
        obtain ⟨h4, eh4⟩ : ∃ h4 : pv_H, h4 = pv_up h1 80 3 ((h1 80 3) + 1) := ⟨_, rfl⟩
        have F := F h4 eh4
        refine pv_putI 9 3 dX9_readExpression_46 fl_X9_35 ⟨_, rfl, Or.inl rfl⟩ (Or.inl rfl) (lt_80 hL) ?_
        refine pv_hE eh4 ?_
        refine pv_aload_n dX9_readExpression_49 rfl ?_
        refine pv_iload_n dX9_readExpression_50 rfl ?_
        refine pv_invV (As := [.int x]) (d' := d - 1) dX9_readExpression_51 moX9_readSum ml_X9_60 (lt_80 hL) (Or.inl ⟨_, rfl, rfl⟩) (Nat.le_of_ble_eq_true rfl) (by omega) (Nat.zero_le _) (Nat.zero_le _) F (fun v ty' h5 r' g' hq => ?_) rfl
        obtain ⟨e2, e4, e5, w3, e1, F⟩ := hq
        rw [e1, e2, e4, e5]
        refine pv_pc (pc' := 54) rfl ?_
        show pv_E Γ d kc ks mX9_readExpression 54 [some (.ref 80), some (.int x), some (.int w1), some (.int (rd_pk h1 (r 80 1))), none, none] [.int w3] ty h5 r g Q
        refine pv_istore (ls' := [some (.ref 80), some (.int x), some (.int w1), some (.int (rd_pk h1 (r 80 1))), some (.int w3), none]) dX9_readExpression_54 (by decide) rfl rfl ?_
        refine pv_iload_n dX9_readExpression_56 rfl ?_
        refine pv_bipush (v := 60) (by decide) dX9_readExpression_57 ?_
        refine pv_icmp_ne (tgt := 76) dX9_readExpression_59 (by decide) (fun c15 => ?_) (fun c15 => ?_)
        · have F := F.1 c15
          refine pv_iload_n dX9_readExpression_76 rfl ?_
          refine pv_bipush (v := 62) (by decide) dX9_readExpression_77 ?_
          refine pv_icmp_ne (tgt := 96) dX9_readExpression_79 (by decide) (fun c16 => ?_) (fun c16 => ?_)
          · have F := F.1 c16
            refine pv_iload_n dX9_readExpression_96 rfl ?_
            refine pv_iload dX9_readExpression_97 rfl ?_
            refine pv_icmp_ne (tgt := 106) dX9_readExpression_99 (by decide) (fun c17 => ?_) (fun c17 => ?_)
            · have F := F.1 c17
              refine pv_iconst (v := 0) (by decide) dX9_readExpression_106 ?_
              refine pv_istore (ls' := [some (.ref 80), some (.int x), some (.int w1), some (.int (rd_pk h1 (r 80 1))), some (.int w3), some (.int 0)]) dX9_readExpression_107 (by decide) rfl rfl ?_
              refine pv_iload dX9_readExpression_109 rfl ?_
              refine pv_if_eq (tgt := 118) dX9_readExpression_111 (by decide) (fun c18 => ?_) (fun c18 => absurd c18 (by decide))
              refine pv_iconst (v := 0) (by decide) dX9_readExpression_118 ?_
              exact pv_ireturn dX9_readExpression_119 rfl rfl F
            · have F := F.2 c17
              refine pv_iconst (v := 1) (by decide) dX9_readExpression_102 ?_
              refine pv_goto (tgt := 107) dX9_readExpression_103 (by decide) ?_
              refine pv_istore (ls' := [some (.ref 80), some (.int x), some (.int w1), some (.int (rd_pk h1 (r 80 1))), some (.int w3), some (.int 1)]) dX9_readExpression_107 (by decide) rfl rfl ?_
              refine pv_iload dX9_readExpression_109 rfl ?_
              refine pv_if_eq (tgt := 118) dX9_readExpression_111 (by decide) (fun c19 => absurd c19 (by decide)) (fun c19 => ?_)
              refine pv_iconst (v := 1) (by decide) dX9_readExpression_114 ?_
              refine pv_goto (tgt := 119) dX9_readExpression_115 (by decide) ?_
              exact pv_ireturn dX9_readExpression_119 rfl rfl F
          · have F := F.2 c16
            refine pv_iload_n dX9_readExpression_82 rfl ?_
            refine pv_iload dX9_readExpression_83 rfl ?_
            refine pv_icmp_le (tgt := 92) dX9_readExpression_85 (by decide) (fun c20 => ?_) (fun c20 => ?_)
            · have F := F.1 c20
              refine pv_iconst (v := 0) (by decide) dX9_readExpression_92 ?_
              refine pv_goto (tgt := 107) dX9_readExpression_93 (by decide) ?_
              refine pv_istore (ls' := [some (.ref 80), some (.int x), some (.int w1), some (.int (rd_pk h1 (r 80 1))), some (.int w3), some (.int 0)]) dX9_readExpression_107 (by decide) rfl rfl ?_
              refine pv_iload dX9_readExpression_109 rfl ?_
              refine pv_if_eq (tgt := 118) dX9_readExpression_111 (by decide) (fun c21 => ?_) (fun c21 => absurd c21 (by decide))
              refine pv_iconst (v := 0) (by decide) dX9_readExpression_118 ?_
              exact pv_ireturn dX9_readExpression_119 rfl rfl F
            · have F := F.2 c20
              refine pv_iconst (v := 1) (by decide) dX9_readExpression_88 ?_
              refine pv_goto (tgt := 107) dX9_readExpression_89 (by decide) ?_
              refine pv_istore (ls' := [some (.ref 80), some (.int x), some (.int w1), some (.int (rd_pk h1 (r 80 1))), some (.int w3), some (.int 1)]) dX9_readExpression_107 (by decide) rfl rfl ?_
              refine pv_iload dX9_readExpression_109 rfl ?_
              refine pv_if_eq (tgt := 118) dX9_readExpression_111 (by decide) (fun c22 => absurd c22 (by decide)) (fun c22 => ?_)
              refine pv_iconst (v := 1) (by decide) dX9_readExpression_114 ?_
              refine pv_goto (tgt := 119) dX9_readExpression_115 (by decide) ?_
              exact pv_ireturn dX9_readExpression_119 rfl rfl F
        · have F := F.2 c15
          refine pv_iload_n dX9_readExpression_62 rfl ?_
          refine pv_iload dX9_readExpression_63 rfl ?_
          refine pv_icmp_ge (tgt := 72) dX9_readExpression_65 (by decide) (fun c23 => ?_) (fun c23 => ?_)
          · have F := F.1 c23
            refine pv_iconst (v := 0) (by decide) dX9_readExpression_72 ?_
            refine pv_goto (tgt := 107) dX9_readExpression_73 (by decide) ?_
            refine pv_istore (ls' := [some (.ref 80), some (.int x), some (.int w1), some (.int (rd_pk h1 (r 80 1))), some (.int w3), some (.int 0)]) dX9_readExpression_107 (by decide) rfl rfl ?_
            refine pv_iload dX9_readExpression_109 rfl ?_
            refine pv_if_eq (tgt := 118) dX9_readExpression_111 (by decide) (fun c24 => ?_) (fun c24 => absurd c24 (by decide))
            refine pv_iconst (v := 0) (by decide) dX9_readExpression_118 ?_
            exact pv_ireturn dX9_readExpression_119 rfl rfl F
          · have F := F.2 c23
            refine pv_iconst (v := 1) (by decide) dX9_readExpression_68 ?_
            refine pv_goto (tgt := 107) dX9_readExpression_69 (by decide) ?_
            refine pv_istore (ls' := [some (.ref 80), some (.int x), some (.int w1), some (.int (rd_pk h1 (r 80 1))), some (.int w3), some (.int 1)]) dX9_readExpression_107 (by decide) rfl rfl ?_
            refine pv_iload dX9_readExpression_109 rfl ?_
            refine pv_if_eq (tgt := 118) dX9_readExpression_111 (by decide) (fun c25 => absurd c25 (by decide)) (fun c25 => ?_)
            refine pv_iconst (v := 1) (by decide) dX9_readExpression_114 ?_
            refine pv_goto (tgt := 119) dX9_readExpression_115 (by decide) ?_
            exact pv_ireturn dX9_readExpression_119 rfl rfl F
      · have F := F.2 c14
        refine pv_iload_n dX9_readExpression_31 rfl ?_
        refine pv_bipush (v := 62) (by decide) dX9_readExpression_32 ?_
        refine pv_icmp_eq (tgt := 39) dX9_readExpression_34 (by decide) (fun c26 => ?_) (fun c26 => ?_)
        · have F := F.1 c26
          refine pv_aload_n dX9_readExpression_39 rfl ?_
          refine pv_dup rfl dX9_readExpression_40 ?_
          refine pv_getI 9 3 dX9_readExpression_41 fl_X9_35 rfl (lt_80 hL) ?_
          refine pv_iconst (v := 1) (by decide) dX9_readExpression_44 ?_
          refine pv_iadd dX9_readExpression_45 ?_
          obtain ⟨h6, eh6⟩ : ∃ h6 : pv_H, h6 = pv_up h1 80 3 ((h1 80 3) + 1) := ⟨_, rfl⟩
          have F := F h6 eh6
          refine pv_putI 9 3 dX9_readExpression_46 fl_X9_35 ⟨_, rfl, Or.inl rfl⟩ (Or.inl rfl) (lt_80 hL) ?_
          refine pv_hE eh6 ?_
          refine pv_aload_n dX9_readExpression_49 rfl ?_
          refine pv_iload_n dX9_readExpression_50 rfl ?_
          refine pv_invV (As := [.int x]) (d' := d - 1) dX9_readExpression_51 moX9_readSum ml_X9_60 (lt_80 hL) (Or.inl ⟨_, rfl, rfl⟩) (Nat.le_of_ble_eq_true rfl) (by omega) (Nat.zero_le _) (Nat.zero_le _) F (fun v ty' h7 r' g' hq => ?_) rfl
          obtain ⟨e2, e4, e5, w4, e1, F⟩ := hq
          rw [e1, e2, e4, e5]
          refine pv_pc (pc' := 54) rfl ?_
          show pv_E Γ d kc ks mX9_readExpression 54 [some (.ref 80), some (.int x), some (.int w1), some (.int (rd_pk h1 (r 80 1))), none, none] [.int w4] ty h7 r g Q
          refine pv_istore (ls' := [some (.ref 80), some (.int x), some (.int w1), some (.int (rd_pk h1 (r 80 1))), some (.int w4), none]) dX9_readExpression_54 (by decide) rfl rfl ?_
          refine pv_iload_n dX9_readExpression_56 rfl ?_
          refine pv_bipush (v := 60) (by decide) dX9_readExpression_57 ?_
          refine pv_icmp_ne (tgt := 76) dX9_readExpression_59 (by decide) (fun c27 => ?_) (fun c27 => ?_)
          · have F := F.1 c27
            refine pv_iload_n dX9_readExpression_76 rfl ?_
            refine pv_bipush (v := 62) (by decide) dX9_readExpression_77 ?_
            refine pv_icmp_ne (tgt := 96) dX9_readExpression_79 (by decide) (fun c28 => ?_) (fun c28 => ?_)
            · have F := F.1 c28
              refine pv_iload_n dX9_readExpression_96 rfl ?_
              refine pv_iload dX9_readExpression_97 rfl ?_
              refine pv_icmp_ne (tgt := 106) dX9_readExpression_99 (by decide) (fun c29 => ?_) (fun c29 => ?_)
              · have F := F.1 c29
                refine pv_iconst (v := 0) (by decide) dX9_readExpression_106 ?_
                refine pv_istore (ls' := [some (.ref 80), some (.int x), some (.int w1), some (.int (rd_pk h1 (r 80 1))), some (.int w4), some (.int 0)]) dX9_readExpression_107 (by decide) rfl rfl ?_
                refine pv_iload dX9_readExpression_109 rfl ?_
                refine pv_if_eq (tgt := 118) dX9_readExpression_111 (by decide) (fun c30 => ?_) (fun c30 => absurd c30 (by decide))
                refine pv_iconst (v := 0) (by decide) dX9_readExpression_118 ?_
                exact pv_ireturn dX9_readExpression_119 rfl rfl F
              · have F := F.2 c29
                refine pv_iconst (v := 1) (by decide) dX9_readExpression_102 ?_
                refine pv_goto (tgt := 107) dX9_readExpression_103 (by decide) ?_
                refine pv_istore (ls' := [some (.ref 80), some (.int x), some (.int w1), some (.int (rd_pk h1 (r 80 1))), some (.int w4), some (.int 1)]) dX9_readExpression_107 (by decide) rfl rfl ?_
                refine pv_iload dX9_readExpression_109 rfl ?_
                refine pv_if_eq (tgt := 118) dX9_readExpression_111 (by decide) (fun c31 => absurd c31 (by decide)) (fun c31 => ?_)
                refine pv_iconst (v := 1) (by decide) dX9_readExpression_114 ?_
                refine pv_goto (tgt := 119) dX9_readExpression_115 (by decide) ?_
                exact pv_ireturn dX9_readExpression_119 rfl rfl F
            · have F := F.2 c28
              refine pv_iload_n dX9_readExpression_82 rfl ?_
              refine pv_iload dX9_readExpression_83 rfl ?_
              refine pv_icmp_le (tgt := 92) dX9_readExpression_85 (by decide) (fun c32 => ?_) (fun c32 => ?_)
              · have F := F.1 c32
                refine pv_iconst (v := 0) (by decide) dX9_readExpression_92 ?_
                refine pv_goto (tgt := 107) dX9_readExpression_93 (by decide) ?_
                refine pv_istore (ls' := [some (.ref 80), some (.int x), some (.int w1), some (.int (rd_pk h1 (r 80 1))), some (.int w4), some (.int 0)]) dX9_readExpression_107 (by decide) rfl rfl ?_
                refine pv_iload dX9_readExpression_109 rfl ?_
                refine pv_if_eq (tgt := 118) dX9_readExpression_111 (by decide) (fun c33 => ?_) (fun c33 => absurd c33 (by decide))
                refine pv_iconst (v := 0) (by decide) dX9_readExpression_118 ?_
                exact pv_ireturn dX9_readExpression_119 rfl rfl F
              · have F := F.2 c32
                refine pv_iconst (v := 1) (by decide) dX9_readExpression_88 ?_
                refine pv_goto (tgt := 107) dX9_readExpression_89 (by decide) ?_
                refine pv_istore (ls' := [some (.ref 80), some (.int x), some (.int w1), some (.int (rd_pk h1 (r 80 1))), some (.int w4), some (.int 1)]) dX9_readExpression_107 (by decide) rfl rfl ?_
                refine pv_iload dX9_readExpression_109 rfl ?_
                refine pv_if_eq (tgt := 118) dX9_readExpression_111 (by decide) (fun c34 => absurd c34 (by decide)) (fun c34 => ?_)
                refine pv_iconst (v := 1) (by decide) dX9_readExpression_114 ?_
                refine pv_goto (tgt := 119) dX9_readExpression_115 (by decide) ?_
                exact pv_ireturn dX9_readExpression_119 rfl rfl F
          · have F := F.2 c27
            refine pv_iload_n dX9_readExpression_62 rfl ?_
            refine pv_iload dX9_readExpression_63 rfl ?_
            refine pv_icmp_ge (tgt := 72) dX9_readExpression_65 (by decide) (fun c35 => ?_) (fun c35 => ?_)
            · have F := F.1 c35
              refine pv_iconst (v := 0) (by decide) dX9_readExpression_72 ?_
              refine pv_goto (tgt := 107) dX9_readExpression_73 (by decide) ?_
              refine pv_istore (ls' := [some (.ref 80), some (.int x), some (.int w1), some (.int (rd_pk h1 (r 80 1))), some (.int w4), some (.int 0)]) dX9_readExpression_107 (by decide) rfl rfl ?_
              refine pv_iload dX9_readExpression_109 rfl ?_
              refine pv_if_eq (tgt := 118) dX9_readExpression_111 (by decide) (fun c36 => ?_) (fun c36 => absurd c36 (by decide))
              refine pv_iconst (v := 0) (by decide) dX9_readExpression_118 ?_
              exact pv_ireturn dX9_readExpression_119 rfl rfl F
            · have F := F.2 c35
              refine pv_iconst (v := 1) (by decide) dX9_readExpression_68 ?_
              refine pv_goto (tgt := 107) dX9_readExpression_69 (by decide) ?_
              refine pv_istore (ls' := [some (.ref 80), some (.int x), some (.int w1), some (.int (rd_pk h1 (r 80 1))), some (.int w4), some (.int 1)]) dX9_readExpression_107 (by decide) rfl rfl ?_
              refine pv_iload dX9_readExpression_109 rfl ?_
              refine pv_if_eq (tgt := 118) dX9_readExpression_111 (by decide) (fun c37 => absurd c37 (by decide)) (fun c37 => ?_)
              refine pv_iconst (v := 1) (by decide) dX9_readExpression_114 ?_
              refine pv_goto (tgt := 119) dX9_readExpression_115 (by decide) ?_
              exact pv_ireturn dX9_readExpression_119 rfl rfl F
        · have F := F.2 c26
          refine pv_iload_n dX9_readExpression_37 rfl ?_
          exact pv_ireturn dX9_readExpression_38 rfl rfl F
section RC
variable {Γ : pv_C} {d kc ks : Nat} {ty : pv_T} {h h0 : pv_H} {r : pv_R} {g : pv_G} {Q : pv_Q} {K len n : Nat} {b : Nat → Nat}
/-- a method of the reader reads as f does -/
def rdC (Γ : pv_C) (d : Nat) (M : pv_M) (ty : pv_T) (r : pv_R) (g : pv_G) (K len n : Nat) (b : Nat → Nat) (f : Nat → tx_R tx_E) : Prop := ∀ (h : pv_H) (p : Nat), rdS ty r K len b h → p ≤ len → h 80 3 = nI p → h 80 5 = -1 → pv_CJ Γ d M [.ref 80, .int (nI (10 - n))] ty h r g (rd_q K len n h (f p))
theorem rd_name (hK : K < 2) {c : Nat} {w : Int32} {j : Nat} (hj : j < (tx_nm K).length) (hw : w = nI j) (hc : (tx_nm K).getD j 0 = c) : w.toNatClampNeg = (tx_nm K).idxOf c ∧ j < 6 ∧ c ∈ tx_nm K := by
  have h6 := (ix_str hK).2.1
  have e0 : (tx_nm K).getD j 0 = (tx_nm K)[j] := by simp [List.getD, hj]
  rw [e0] at hc
  refine ⟨?_, by omega, by rw [← hc]; exact List.getElem_mem hj⟩
  rw [hw, nI_clamp (by omega), ← hc]
  rcases (show K = 0 ∨ K = 1 by omega) with rfl | rfl
  · have : ∀ j : Fin 6, j.val = (tx_nm 0).idxOf ((tx_nm 0)[j.val]'j.isLt) := by decide +kernel
    exact this ⟨j, hj⟩
  · have : ∀ j : Fin 5, j.val = (tx_nm 1).idxOf ((tx_nm 1)[j.val]'j.isLt) := by decide +kernel
    exact this ⟨j, hj⟩
theorem rd_opnd (hd : 5 * n + 7 ≤ d) (hn : n ≤ 10) (hL : pv_Lay ty r) (hin : ∀ n', n = n' + 1 → rdC Γ (d - 2) mX9_readExpression ty r g K len n' b (tx_exp K (tx_pk len b) n')) : rdC Γ d mX9_readOperand ty r g K len n b (tx_opnd K (tx_pk len b) (tx_in K (tx_pk len b) n)) := by
  intro h p hS hp h3 h5
  have hl := hS.1
  have h8 := hS.2.2.2.2.2.1
  have hK := hS.2.1
  obtain ⟨z1, z2⟩ := rd_peek hS h3 (by omega)
  have hle := tx_pk_le (len := len) h8 p
  have bad : ∀ x : Int32, tx_opnd K (tx_pk len b) (tx_in K (tx_pk len b) n) p = .error p → pv_CW Γ (d - 1) mX9_markFault [.ref 80] ty h r g (fun h1 => pv_jq ty r g (rd_q K len n h (tx_opnd K (tx_pk len b) (tx_in K (tx_pk len b) n) p)) (some (.int x)) ty h1 r g) := fun x e0 => pv_CW.mono (ct_X9_mark hL h5) (fun h' e => by
    rw [e]
    refine pv_jqi ⟨rd_fr2 (pv_fr_refl _ _), fun e q he => ?_, fun q he => ?_⟩
    · rw [e0] at he; cases he
    · rw [e0] at he; cases he
      exact ⟨by rw [pv_up_same]; exact h3, p, by omega, by rw [pv_up_j (by decide)]; exact h3⟩)
  have name : ∀ (_ : ¬ tx_dg (tx_pk len b p)) (_ : tx_pk len b p ≠ 256) (_ : tx_pk len b p = 40 → n = 0), ty (r 80 4) = some (30, 0) ∧ pv_CT Γ (d - 1) 0 0 mJ0_indexOf_0f7a4 [.ref (r 80 4), .int ((((rd_pk h (r 80 1) : Int32)).toUInt32 % 65536).toInt32)] ty h r g (fun (v1 : Option Value) (ty1 : pv_T) (h1 : pv_H) (r1 : pv_R) (g1 : pv_G) => ∃ w1 : Int32, v1 = some (.int w1) ∧ pv_Lay ty1 r1 ∧ ((w1 < 0 → pv_CW Γ (d - 1) mX9_markFault [.ref 80] ty1 h1 r1 g1 (fun (h2 : pv_H) => pv_jq ty r g (rd_q K len n h (tx_opnd K (tx_pk len b) (tx_in K (tx_pk len b) n) p)) (some (.int 0)) ty1 h2 r1 g1)) ∧ (¬ w1 < 0 → ((w1 < (nI 6) → (∀ h3 : pv_H, h3 = pv_up h1 80 3 ((h1 80 3) + 1) → vp_in w1 6 ∧ pv_jq ty r g (rd_q K len n h (tx_opnd K (tx_pk len b) (tx_in K (tx_pk len b) n) p)) (some (.int (h3 81 (Int32.toNatClampNeg w1)))) ty1 h3 r1 g1)) ∧ (¬ w1 < (nI 6) → pv_CW Γ (d - 1) mX9_markFault [.ref 80] ty1 h1 r1 g1 (fun (h4 : pv_H) => pv_jq ty r g (rd_q K len n h (tx_opnd K (tx_pk len b) (tx_in K (tx_pk len b) n) p)) (some (.int 0)) ty1 h4 r1 g1)))))) := fun d1 d2 d3 => by
    obtain ⟨e4, e5⟩ := hS.2.2.2.2.2.2
    have e6 : ((((rd_pk h (r 80 1) : Int32)).toUInt32 % 65536).toInt32) = nI (tx_pk len b p) := by
      rw [z2]
      unfold tx_I
      rw [if_neg d2, pk_char]
      have e7 : (nI (tx_pk len b p)).toBitVec.toNat = tx_pk len b p := by
        show (BitVec.ofNat 32 (tx_pk len b p)).toNat = _
        rw [BitVec.toNat_ofNat]
        omega
      rw [e7]
      congr 1
      omega
    rw [e4, e6]
    refine ⟨e5, ct_indexOf (by omega) hK e5 (by omega) (fun w hw => ⟨w, rfl, hL, ?_⟩)⟩
    have hun : tx_opnd K (tx_pk len b) (tx_in K (tx_pk len b) n) p = if tx_pk len b p ∈ tx_nm K then .ok (tx_V (tx_pk len b p), p + 1) else .error p := by
      unfold tx_opnd
      rw [if_neg d1]
      by_cases d4 : tx_pk len b p = 40
      · have hn0 := d3 d4
        subst hn0
        rw [if_pos d4, if_neg]
        · rfl
        · rw [d4]; unfold tx_nm; split <;> decide
      · rw [if_neg d4]
    rcases hw with ⟨j, hj, rfl, hc⟩ | ⟨rfl, hc⟩
    · obtain ⟨k1, k2, k3⟩ := rd_name hK hj rfl hc
      refine ⟨fun q => absurd q (nI_pos (by omega)), fun _ => ⟨fun _ h4 e => ⟨vp_in_nI k2 (by decide), ?_⟩, fun q => absurd (nI_lt k2 (by decide)) q⟩⟩
      rw [e, h3, nI_1]
      refine pv_jqi ⟨rd_fr1 (pv_fr_refl _ _), fun e q he => ?_, fun q he => ?_⟩
      · rw [hun, if_pos k3] at he
        cases he
        refine ⟨?_, pv_up_same _ _ _ _, by rw [pv_up_j (by decide)]; exact h5⟩
        rw [pv_up_a (by decide), k1]
        rfl
      · rw [hun, if_pos k3] at he; cases he
    · refine ⟨fun _ => bad 0 (by rw [hun, if_neg hc]), fun q => absurd (by decide) q⟩
  refine pv_fn 2 pn_X9 rfl (Nat.le_of_ble_eq_true rfl) (sg_X9_readOperand_0 _ (by omega) hL ⟨z1, pi_dg _ z2 hle (fun d1 => ?_) (fun d1 => pi_en _ 40 z2 hle (fun d3 => pk_le 10 (10 - n) (fun c4 => pi_m _ z2 hle (fun d2 => ?_) (fun d2 => name d1 d2 (fun _ => by omega))) (fun c4 => ?_)) (fun d3 => pi_m _ z2 hle (fun d2 => ?_) (fun d2 => name d1 d2 (fun q => absurd q d3))))⟩)
  · refine pv_CJ.mono (ct_X9_number (by omega) hL hS hp h3 h5) (fun x h' q => ?_)
    obtain ⟨q1, q2, q3, q4, q5⟩ := q
    have hun : tx_opnd K (tx_pk len b) (tx_in K (tx_pk len b) n) p = if tx_dg (tx_pk len b (tx_num (tx_pk len b) 6 0 p).2) then .error (tx_num (tx_pk len b) 6 0 p).2 else .ok (tx_N (tx_num (tx_pk len b) 6 0 p).1, (tx_num (tx_pk len b) 6 0 p).2) := by
      unfold tx_opnd
      rw [if_pos d1]
    have hq := (tx_num_f (len := len) (b := b) 6 0 p 0 (by decide) hp).2.2
    rw [hun]
    by_cases c : tx_dg (tx_pk len b (tx_num (tx_pk len b) 6 0 p).2)
    · rw [if_pos c]
      refine pv_jqi ⟨q1, fun e q he => (by cases he), fun q he => ?_⟩
      cases he
      exact ⟨q5 c, _, by omega, q3⟩
    · rw [if_neg c]
      refine pv_jqi ⟨q1, fun e q he => ?_, fun q he => (by cases he)⟩
      cases he
      exact ⟨q2, q3, q4 c⟩
  · omega
  · -- a parenthesis
    obtain ⟨n', rfl⟩ : ∃ n', n = n' + 1 := ⟨n - 1, by omega⟩
    have hlt := tx_pk_ne d3 (by decide)
    have hun : tx_opnd K (tx_pk len b) (tx_in K (tx_pk len b) (n' + 1)) p = (match tx_exp K (tx_pk len b) n' (p + 1) with | .ok (e, q) => if tx_pk len b q = 41 then .ok (e, q + 1) else .error q | .error q => .error q) := by
      unfold tx_opnd
      rw [if_neg d1, if_pos d3]
      rfl
    have e10 : nI (10 - (n' + 1)) + 1 = nI (10 - n') := by rw [nI_1]; congr 1; omega
    rw [hun, e10]
    refine pv_fn 1 pn_X9 rfl (Nat.le_of_ble_eq_true rfl) (sg_X9_readParenthesis_0 _ (by omega) hL (fun h1 e1 => ?_))
    rw [h3, nI_1] at e1
    have hf1 : pv_fr rdA h h1 := by rw [e1]; exact rd_fr1 (pv_fr_refl _ _)
    have hS1 := rdS_fr hL hf1 hS
    have hV : rd_V h1 K = rd_V h K := rd_V_fr hf1
    have hx := tx_exS_f (tx_exp_sp (K := K) (b := b) hl n' (10 - n') (by omega)) (p := p + 1) hlt
    refine pv_CJ.mono (hin n' rfl h1 (p + 1) hS1 hlt (by rw [e1, pv_up_same]) (by rw [e1, pv_up_j (by decide)]; exact h5)) (fun x h2 q => ?_)
    obtain ⟨f1, f2, f3⟩ := q
    have hf2 := pv_fr_tr hf1 f1
    cases hr : tx_exp K (tx_pk len b) n' (p + 1) with
    | error q0 =>
      obtain ⟨k1, p', k2, k3⟩ := f3 q0 hr
      have hq0 := hx.1 q0 hr
      have hn5 : ¬ h2 80 5 = -1 := by rw [k1]; exact ni_n1 (by omega)
      refine ⟨fun _ h4 e4 => pv_jqi (pv_jqi ⟨?_, fun e q he => (by cases he), fun q he => ?_⟩), fun q => absurd q hn5⟩
      · rw [e4]; exact rd_fr1 hf2
      · cases he
        exact ⟨by rw [e4, pv_up_j (by decide)]; exact k1, p' + 1, by omega, by rw [e4, pv_up_same, k3, nI_1]⟩
    | ok z0 =>
      obtain ⟨e0, q0⟩ := z0
      obtain ⟨k1, k2, k3⟩ := f2 e0 q0 hr
      obtain ⟨k4, k5⟩ := hx.2 e0 q0 hr
      obtain ⟨y1, y2⟩ := rd_peek (rdS_fr hL hf2 hS) k2 (by omega)
      refine ⟨fun q => absurd k3 q, fun _ => ⟨y1, pi_eq _ 41 y2 (tx_pk_le h8 q0) (fun c h4 e4 => ?_) (fun c => ?_)⟩⟩
      · rw [k2, nI_1] at e4
        refine pv_jqi (pv_jqi ⟨by rw [e4]; exact rd_fr1 hf2, fun e q he => ?_, fun q he => ?_⟩)
        · dsimp only at he
          rw [if_pos c] at he
          cases he
          exact ⟨by rw [k1, hV], by rw [e4, pv_up_same], by rw [e4, pv_up_j (by decide)]; exact k3⟩
        · dsimp only at he
          rw [if_pos c] at he
          cases he
      · refine pv_CW.mono (ct_X9_mark hL k3) (fun h5' e5' h6' e6' => pv_jqi (pv_jqi ⟨?_, fun e q he => ?_, fun q he => ?_⟩))
        · rw [e6', e5']; exact rd_fr1 (rd_fr2 hf2)
        · dsimp only at he
          rw [if_neg c] at he
          cases he
        · dsimp only at he
          rw [if_neg c] at he
          cases he
          refine ⟨by rw [e6', pv_up_j (by decide), e5', pv_up_same]; exact k2, q0 + 1, by omega, ?_⟩
          rw [e6', pv_up_same, e5', pv_up_j (by decide), k2, nI_1]
  · exact bad 0 (by
      unfold tx_opnd
      rw [if_neg d1, if_neg d3, if_neg]
      rw [d2]; unfold tx_nm; split <;> decide)
end RC
