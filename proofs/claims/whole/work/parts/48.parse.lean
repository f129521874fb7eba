/-! the reference's table of signs: adds, done, opened, operand -/
set_option maxRecDepth 20000 in
set_option maxHeartbeats 4000000 in
theorem sg_X12_done_0 {Γ : pv_C} {d kc ks : Nat} {ty : pv_T} {h : pv_H} {r : pv_R} {g : pv_G} {Q : pv_Q} (x : Int32) (y : Int32) (hd : 1 ≤ d) (hL : pv_Lay ty r) (F : (((h 200 49) ≤ 0 → Q none ty h r g) ∧ (¬ (h 200 49) ≤ 0 → vp_in ((h 200 49) - 1) 170 ∧ (((h 348 (Int32.toNatClampNeg ((h 200 49) - 1))) = 4 → Q none ty h r g) ∧ (¬ (h 348 (Int32.toNatClampNeg ((h 200 49) - 1))) = 4 → vp_in ((h 200 49) - 1) 170 ∧ ((((h 348 (Int32.toNatClampNeg ((h 200 49) - 1))) / 10) < y → Q none ty h r g) ∧ (¬ ((h 348 (Int32.toNatClampNeg ((h 200 49) - 1))) / 10) < y → (∀ h1 : pv_H, h1 = pv_up h 200 49 ((h 200 49) - 1) → vp_in (h1 200 49) 170 ∧ pv_CW Γ (d - 1) mX12_adds [.ref 200, .int x, .int (h1 348 (Int32.toNatClampNeg (h1 200 49))), .int 0] ty h1 r g (fun (h2 : pv_H) => pv_E Γ d kc ks mX12_done 0 [some (.ref 200), some (.int x), some (.int y)] [] ty h2 r g Q))))))))) : pv_E Γ d kc ks mX12_done 0 [some (.ref 200), some (.int x), some (.int y)] [] ty h r g Q := by
  refine pv_aload_n dX12_done_0 rfl ?_
  refine pv_getI 12 49 dX12_done_1 fl_X12_246 rfl (lt_200 hL) ?_
  refine pv_if_le (tgt := 68) dX12_done_4 (by decide) (fun c1 => ?_) (fun c1 => ?_)
  · have F := F.1 c1
    exact pv_return dX12_done_68 rfl F
  · have F := F.2 c1
    refine pv_aload_n dX12_done_7 rfl ?_
    refine pv_getRk 12 48 dX12_done_8 fl_X12_121 rfl (lt_200 hL) (lr_200_48 hL) ?_
    refine pv_aload_n dX12_done_11 rfl ?_
    refine pv_getI 12 49 dX12_done_12 fl_X12_246 rfl (lt_200 hL) ?_
    refine pv_iconst (v := 1) (by decide) dX12_done_15 ?_
    refine pv_isub dX12_done_16 ?_
    refine pv_pc (pc' := 17) rfl ?_
    obtain ⟨q1, F⟩ := F
    refine pv_iald dX12_done_17 (lt_348 hL) q1 ?_
    refine pv_iconst (v := 4) (by decide) dX12_done_18 ?_
    refine pv_icmp_eq (tgt := 68) dX12_done_19 (by decide) (fun c2 => ?_) (fun c2 => ?_)
    · have F := F.1 c2
      exact pv_return dX12_done_68 rfl F
    · have F := F.2 c2
      refine pv_aload_n dX12_done_22 rfl ?_
      refine pv_getRk 12 48 dX12_done_23 fl_X12_121 rfl (lt_200 hL) (lr_200_48 hL) ?_
      refine pv_aload_n dX12_done_26 rfl ?_
      refine pv_getI 12 49 dX12_done_27 fl_X12_246 rfl (lt_200 hL) ?_
      refine pv_iconst (v := 1) (by decide) dX12_done_30 ?_
      refine pv_isub dX12_done_31 ?_
      refine pv_pc (pc' := 32) rfl ?_
      obtain ⟨q2, F⟩ := F
      refine pv_iald dX12_done_32 (lt_348 hL) q2 ?_
      refine pv_invS (As := [.int (h 348 (Int32.toNatClampNeg ((h 200 49) - 1)))]) (d' := d - 1) dX12_done_33 moX12_tight ml_X12_249 (Nat.le_of_ble_eq_true rfl) (by omega) (Nat.zero_le _) (Nat.zero_le _) (ct_X12_tight (by omega)) (fun v ty' h' r' g' hq => ?_) rfl
      obtain ⟨e1, e2, e3, e4, e5⟩ := hq
      rw [e1, e2, e3, e4, e5]
      refine pv_pc (pc' := 36) rfl ?_
      show pv_E Γ d kc ks mX12_done 36 [some (.ref 200), some (.int x), some (.int y)] [.int ((h 348 (Int32.toNatClampNeg ((h 200 49) - 1))) / 10)] ty h r g Q
      refine pv_iload_n dX12_done_36 rfl ?_
      refine pv_icmp_lt (tgt := 68) dX12_done_37 (by decide) (fun c3 => ?_) (fun c3 => ?_)
      · have F := F.1 c3
        exact pv_return dX12_done_68 rfl F
      · have F := F.2 c3
        refine pv_aload_n dX12_done_40 rfl ?_
        refine pv_dup rfl dX12_done_41 ?_
        refine pv_getI 12 49 dX12_done_42 fl_X12_246 rfl (lt_200 hL) ?_
        refine pv_iconst (v := 1) (by decide) dX12_done_45 ?_
        refine pv_isub dX12_done_46 ?_
        obtain ⟨h1, eh1⟩ : ∃ h1 : pv_H, h1 = pv_up h 200 49 ((h 200 49) - 1) := ⟨_, rfl⟩
        have F := F h1 eh1
        refine pv_putI 12 49 dX12_done_47 fl_X12_246 ⟨_, rfl, Or.inl rfl⟩ (Or.inl rfl) (lt_200 hL) ?_
        refine pv_hE eh1 ?_
        refine pv_aload_n dX12_done_50 rfl ?_
        refine pv_iload_n dX12_done_51 rfl ?_
        refine pv_aload_n dX12_done_52 rfl ?_
        refine pv_getRk 12 48 dX12_done_53 fl_X12_121 rfl (lt_200 hL) (lr_200_48 hL) ?_
        refine pv_aload_n dX12_done_56 rfl ?_
        refine pv_getI 12 49 dX12_done_57 fl_X12_246 rfl (lt_200 hL) ?_
        refine pv_pc (pc' := 60) rfl ?_
        obtain ⟨q3, F⟩ := F
        refine pv_iald dX12_done_60 (lt_348 hL) q3 ?_
        refine pv_iconst (v := 0) (by decide) dX12_done_61 ?_
        refine pv_invV (As := [.int x, .int (h1 348 (Int32.toNatClampNeg (h1 200 49))), .int 0]) (d' := d - 1) dX12_done_62 moX12_adds ml_X12_252 (lt_200 hL) (Or.inl ⟨_, rfl, rfl⟩) (Nat.le_of_ble_eq_true rfl) (by omega) (Nat.zero_le _) (Nat.zero_le _) F (fun v ty' h2 r' g' hq => ?_) rfl
        obtain ⟨e2, e4, e5, e1, F⟩ := hq
        rw [e1, e2, e4, e5]
        refine pv_pc (pc' := 65) rfl ?_
        show pv_E Γ d kc ks mX12_done 65 [some (.ref 200), some (.int x), some (.int y)] [] ty h2 r g Q
        refine pv_goto (tgt := 0) dX12_done_65 (by decide) ?_
        exact F
set_option maxRecDepth 20000 in
set_option maxHeartbeats 4000000 in
theorem sg_X12_opened_0 {Γ : pv_C} {d kc ks : Nat} {ty : pv_T} {h : pv_H} {r : pv_R} {g : pv_G} {Q : pv_Q}  (F : pv_E Γ d kc ks mX12_opened 4 [some (.ref 200), some (.int 0), some (.int 0)] [] ty h r g Q) : pv_E Γ d kc ks mX12_opened 0 [some (.ref 200), none, none] [] ty h r g Q := by
  refine pv_iconst (v := 0) (by decide) dX12_opened_0 ?_
  refine pv_istore_n (ls' := [some (.ref 200), some (.int 0), none]) dX12_opened_1 (by decide) rfl rfl ?_
  refine pv_iconst (v := 0) (by decide) dX12_opened_2 ?_
  refine pv_istore_n (ls' := [some (.ref 200), some (.int 0), some (.int 0)]) dX12_opened_3 (by decide) rfl rfl ?_
  exact F
set_option maxRecDepth 20000 in
set_option maxHeartbeats 4000000 in
theorem sg_X12_opened_4 {Γ : pv_C} {d kc ks : Nat} {ty : pv_T} {h : pv_H} {r : pv_R} {g : pv_G} {Q : pv_Q} (x1 : Int32) (x2 : Int32) (hL : pv_Lay ty r) (F : (((h 200 49) ≤ x2 → Q (some (.int x1)) ty h r g) ∧ (¬ (h 200 49) ≤ x2 → vp_in x2 170 ∧ ((¬ (h 348 (Int32.toNatClampNeg x2)) = 4 → pv_E Γ d kc ks mX12_opened 4 [some (.ref 200), some (.int (x1 + 0)), some (.int (x2 + 1))] [] ty h r g Q) ∧ ((h 348 (Int32.toNatClampNeg x2)) = 4 → pv_E Γ d kc ks mX12_opened 4 [some (.ref 200), some (.int (x1 + 1)), some (.int (x2 + 1))] [] ty h r g Q))))) : pv_E Γ d kc ks mX12_opened 4 [some (.ref 200), some (.int x1), some (.int x2)] [] ty h r g Q := by
  refine pv_iload_n dX12_opened_4 rfl ?_
  refine pv_aload_n dX12_opened_5 rfl ?_
  refine pv_getI 12 49 dX12_opened_6 fl_X12_246 rfl (lt_200 hL) ?_
  refine pv_icmp_ge (tgt := 36) dX12_opened_9 (by decide) (fun c1 => ?_) (fun c1 => ?_)
  · have F := F.1 c1
    refine pv_iload_n dX12_opened_36 rfl ?_
    exact pv_ireturn dX12_opened_37 rfl rfl F
  · have F := F.2 c1
    refine pv_iload_n dX12_opened_12 rfl ?_
    refine pv_aload_n dX12_opened_13 rfl ?_
    refine pv_getRk 12 48 dX12_opened_14 fl_X12_121 rfl (lt_200 hL) (lr_200_48 hL) ?_
    refine pv_iload_n dX12_opened_17 rfl ?_
    obtain ⟨q1, F⟩ := F
    refine pv_iald dX12_opened_18 (lt_348 hL) q1 ?_
    refine pv_iconst (v := 4) (by decide) dX12_opened_19 ?_
    refine pv_icmp_ne (tgt := 27) dX12_opened_20 (by decide) (fun c2 => ?_) (fun c2 => ?_)
    · have F := F.1 c2
      refine pv_iconst (v := 0) (by decide) dX12_opened_27 ?_
      refine pv_iadd dX12_opened_28 ?_
      refine pv_istore_n (ls' := [some (.ref 200), some (.int (x1 + 0)), some (.int x2)]) dX12_opened_29 (by decide) rfl rfl ?_
      refine pv_iinc (v := x2 + 1) (ls' := [some (.ref 200), some (.int (x1 + 0)), some (.int (x2 + 1))]) dX12_opened_30 rfl (by rfl) rfl rfl ?_
      refine pv_goto (tgt := 4) dX12_opened_33 (by decide) ?_
      exact F
    · have F := F.2 c2
      refine pv_iconst (v := 1) (by decide) dX12_opened_23 ?_
      refine pv_goto (tgt := 28) dX12_opened_24 (by decide) ?_
      refine pv_iadd dX12_opened_28 ?_
      refine pv_istore_n (ls' := [some (.ref 200), some (.int (x1 + 1)), some (.int x2)]) dX12_opened_29 (by decide) rfl rfl ?_
      refine pv_iinc (v := x2 + 1) (ls' := [some (.ref 200), some (.int (x1 + 1)), some (.int (x2 + 1))]) dX12_opened_30 rfl (by rfl) rfl rfl ?_
      refine pv_goto (tgt := 4) dX12_opened_33 (by decide) ?_
      exact F
set_option maxRecDepth 20000 in
set_option maxHeartbeats 4000000 in
theorem sg_X12_operand_0 {Γ : pv_C} {d kc ks : Nat} {ty : pv_T} {h : pv_H} {r : pv_R} {g : pv_G} {Q : pv_Q} (x : Int32) (y : Int32) (hd : 1 ≤ d) (hL : pv_Lay ty r) (F : vp_in (h 200 51) 160 ∧ ((¬ (h 339 (Int32.toNatClampNeg (h 200 51))) = 40 → (((mt_n (h 339 (Int32.toNatClampNeg (h 200 51))) y) = 0 → pv_E Γ d kc ks mX12_operand 95 [some (.ref 200), some (.int x), none, none, some (.int 0), some (.int 0)] [] ty h r g Q) ∧ (¬ (mt_n (h 339 (Int32.toNatClampNeg (h 200 51))) y) = 0 → pv_CW Γ (d - 1) mX12_adds [.ref 200, .int x, .int (100 + (h 339 (Int32.toNatClampNeg (h 200 51)))), .int 0] ty h r g (fun (h1 : pv_H) => (∀ h2 : pv_H, h2 = pv_up h1 200 51 ((h1 200 51) + 1) → Q (some (.int 1)) ty h2 r g))))) ∧ ((h 339 (Int32.toNatClampNeg (h 200 51))) = 40 → pv_CJ Γ (d - 1) mX12_opened [.ref 200] ty h r g (fun (w2 : Int32) (h3 : pv_H) => ((¬ w2 = 10 → vp_in (h3 200 49) 170 ∧ (∀ h4 : pv_H, h4 = pv_up h3 348 (Int32.toNatClampNeg (h3 200 49)) 4 → (∀ h5 : pv_H, h5 = pv_up h4 200 49 ((h4 200 49) + 1) → (∀ h6 : pv_H, h6 = pv_up h5 200 51 ((h5 200 51) + 1) → Q (some (.int 1)) ty h6 r g)))) ∧ (w2 = 10 → Q (some (.int 0)) ty h3 r g)))))) : pv_E Γ d kc ks mX12_operand 0 [some (.ref 200), some (.int x), some (.int y), none, none, none] [] ty h r g Q := by
  refine pv_aload_n dX12_operand_0 rfl ?_
  refine pv_getRk 12 39 dX12_operand_1 fl_X12_99 rfl (lt_200 hL) (lr_200_39 hL) ?_
  refine pv_aload_n dX12_operand_4 rfl ?_
  refine pv_getI 12 51 dX12_operand_5 fl_X12_256 rfl (lt_200 hL) ?_
  obtain ⟨q1, F⟩ := F
  refine pv_bald dX12_operand_8 (lt_339 hL) q1 ?_
  refine pv_istore_n (ls' := [some (.ref 200), some (.int x), some (.int y), some (.int (h 339 (Int32.toNatClampNeg (h 200 51)))), none, none]) dX12_operand_9 (by decide) rfl rfl ?_
  refine pv_iload_n dX12_operand_10 rfl ?_
  refine pv_bipush (v := 40) (by decide) dX12_operand_11 ?_
  refine pv_icmp_ne (tgt := 59) dX12_operand_13 (by decide) (fun c1 => ?_) (fun c1 => ?_)
  · have F := F.1 c1
    refine pv_iload_n dX12_operand_59 rfl ?_
    refine pv_iload_n dX12_operand_60 rfl ?_
    refine pv_invS (As := [.int (h 339 (Int32.toNatClampNeg (h 200 51))), .int y]) (d' := d - 1) dX12_operand_61 moX12_isName ml_X12_263 (Nat.le_of_ble_eq_true rfl) (by omega) (Nat.zero_le _) (Nat.zero_le _) (ct_X12_isName (by omega)) (fun v ty' h' r' g' hq => ?_) rfl
    obtain ⟨e1, e2, e3, e4, e5⟩ := hq
    rw [e1, e2, e3, e4, e5]
    refine pv_pc (pc' := 64) rfl ?_
    show pv_E Γ d kc ks mX12_operand 64 [some (.ref 200), some (.int x), some (.int y), some (.int (h 339 (Int32.toNatClampNeg (h 200 51)))), none, none] [.int (mt_n (h 339 (Int32.toNatClampNeg (h 200 51))) y)] ty h r g Q
    refine pv_if_eq (tgt := 89) dX12_operand_64 (by decide) (fun c2 => ?_) (fun c2 => ?_)
    · have F := F.1 c2
      refine pv_iconst (v := 0) (by decide) dX12_operand_89 ?_
      refine pv_istore (ls' := [some (.ref 200), some (.int x), some (.int y), some (.int (h 339 (Int32.toNatClampNeg (h 200 51)))), some (.int 0), none]) dX12_operand_90 (by decide) rfl rfl ?_
      refine pv_iconst (v := 0) (by decide) dX12_operand_92 ?_
      refine pv_istore (ls' := [some (.ref 200), some (.int x), some (.int y), some (.int (h 339 (Int32.toNatClampNeg (h 200 51)))), some (.int 0), some (.int 0)]) dX12_operand_93 (by decide) rfl rfl ?_
      refine pv_forgetL (ls' := [some (.ref 200), some (.int x), none, none, some (.int 0), some (.int 0)]) (pv_subL_ok ⟨rfl, ⟨rfl, ⟨rfl, ⟨rfl, trivial⟩⟩⟩⟩) ?_
      exact F
    · have F := F.2 c2
      refine pv_aload_n dX12_operand_67 rfl ?_
      refine pv_iload_n dX12_operand_68 rfl ?_
      refine pv_bipush (v := 100) (by decide) dX12_operand_69 ?_
      refine pv_iload_n dX12_operand_71 rfl ?_
      refine pv_iadd dX12_operand_72 ?_
      refine pv_iconst (v := 0) (by decide) dX12_operand_73 ?_
      refine pv_pc (pc' := 74) rfl ?_
      refine pv_invV (As := [.int x, .int (100 + (h 339 (Int32.toNatClampNeg (h 200 51)))), .int 0]) (d' := d - 1) dX12_operand_74 moX12_adds ml_X12_252 (lt_200 hL) (Or.inl ⟨_, rfl, rfl⟩) (Nat.le_of_ble_eq_true rfl) (by omega) (Nat.zero_le _) (Nat.zero_le _) F (fun v ty' h1 r' g' hq => ?_) rfl
      obtain ⟨e2, e4, e5, e1, F⟩ := hq
      rw [e1, e2, e4, e5]
      refine pv_pc (pc' := 77) rfl ?_
      show pv_E Γ d kc ks mX12_operand 77 [some (.ref 200), some (.int x), some (.int y), some (.int (h 339 (Int32.toNatClampNeg (h 200 51)))), none, none] [] ty h1 r g Q
      refine pv_aload_n dX12_operand_77 rfl ?_
      refine pv_dup rfl dX12_operand_78 ?_
      refine pv_getI 12 51 dX12_operand_79 fl_X12_256 rfl (lt_200 hL) ?_
      refine pv_iconst (v := 1) (by decide) dX12_operand_82 ?_
      refine pv_iadd dX12_operand_83 ?_
      obtain ⟨h2, eh2⟩ : ∃ h2 : pv_H, h2 = pv_up h1 200 51 ((h1 200 51) + 1) := ⟨_, rfl⟩
      have F := F h2 eh2
      refine pv_putI 12 51 dX12_operand_84 fl_X12_256 ⟨_, rfl, Or.inl rfl⟩ (Or.inl rfl) (lt_200 hL) ?_
      refine pv_hE eh2 ?_
      refine pv_iconst (v := 1) (by decide) dX12_operand_87 ?_
      exact pv_ireturn dX12_operand_88 rfl (by decide) F
  · have F := F.2 c1
    refine pv_aload_n dX12_operand_16 rfl ?_
    refine pv_invV (As := []) (d' := d - 1) dX12_operand_17 moX12_opened ml_X12_259 (lt_200 hL) (Or.inl ⟨_, rfl, rfl⟩) (Nat.le_of_ble_eq_true rfl) (by omega) (Nat.zero_le _) (Nat.zero_le _) F (fun v ty' h3 r' g' hq => ?_) rfl
    obtain ⟨e2, e4, e5, w2, e1, F⟩ := hq
    rw [e1, e2, e4, e5]
    refine pv_pc (pc' := 20) rfl ?_
    show pv_E Γ d kc ks mX12_operand 20 [some (.ref 200), some (.int x), some (.int y), some (.int (h 339 (Int32.toNatClampNeg (h 200 51)))), none, none] [.int w2] ty h3 r g Q
    refine pv_bipush (v := 10) (by decide) dX12_operand_20 ?_
    refine pv_icmp_ne (tgt := 27) dX12_operand_22 (by decide) (fun c3 => ?_) (fun c3 => ?_)
    · have F := F.1 c3
      refine pv_aload_n dX12_operand_27 rfl ?_
      refine pv_getRk 12 48 dX12_operand_28 fl_X12_121 rfl (lt_200 hL) (lr_200_48 hL) ?_
      refine pv_aload_n dX12_operand_31 rfl ?_
      refine pv_getI 12 49 dX12_operand_32 fl_X12_246 rfl (lt_200 hL) ?_
      refine pv_iconst (v := 4) (by decide) dX12_operand_35 ?_
      obtain ⟨q2, F⟩ := F
      obtain ⟨h4, eh4⟩ : ∃ h4 : pv_H, h4 = pv_up h3 348 (Int32.toNatClampNeg (h3 200 49)) 4 := ⟨_, rfl⟩
      have F := F h4 eh4
      refine pv_iast dX12_operand_36 (lt_348 hL) (by decide) q2 ?_
      refine pv_hE eh4 ?_
      refine pv_aload_n dX12_operand_37 rfl ?_
      refine pv_dup rfl dX12_operand_38 ?_
      refine pv_getI 12 49 dX12_operand_39 fl_X12_246 rfl (lt_200 hL) ?_
      refine pv_iconst (v := 1) (by decide) dX12_operand_42 ?_
      refine pv_iadd dX12_operand_43 ?_
      obtain ⟨h5, eh5⟩ : ∃ h5 : pv_H, h5 = pv_up h4 200 49 ((h4 200 49) + 1) := ⟨_, rfl⟩
      have F := F h5 eh5
      refine pv_putI 12 49 dX12_operand_44 fl_X12_246 ⟨_, rfl, Or.inl rfl⟩ (Or.inl rfl) (lt_200 hL) ?_
      refine pv_hE eh5 ?_
      refine pv_aload_n dX12_operand_47 rfl ?_
      refine pv_dup rfl dX12_operand_48 ?_
      refine pv_getI 12 51 dX12_operand_49 fl_X12_256 rfl (lt_200 hL) ?_
      refine pv_iconst (v := 1) (by decide) dX12_operand_52 ?_
      refine pv_iadd dX12_operand_53 ?_
      obtain ⟨h6, eh6⟩ : ∃ h6 : pv_H, h6 = pv_up h5 200 51 ((h5 200 51) + 1) := ⟨_, rfl⟩
      have F := F h6 eh6
      refine pv_putI 12 51 dX12_operand_54 fl_X12_256 ⟨_, rfl, Or.inl rfl⟩ (Or.inl rfl) (lt_200 hL) ?_
      refine pv_hE eh6 ?_
      refine pv_iconst (v := 1) (by decide) dX12_operand_57 ?_
      exact pv_ireturn dX12_operand_58 rfl (by decide) F
    · have F := F.2 c3
      refine pv_iconst (v := 0) (by decide) dX12_operand_25 ?_
      exact pv_ireturn dX12_operand_26 rfl (by decide) F
set_option maxRecDepth 20000 in
set_option maxHeartbeats 4000000 in
theorem sg_X12_operand_95 {Γ : pv_C} {d kc ks : Nat} {ty : pv_T} {h : pv_H} {r : pv_R} {g : pv_G} {Q : pv_Q} (x1 : Int32) (x4 : Int32) (x5 : Int32) (hd : 1 ≤ d) (hL : pv_Lay ty r) (F : (((h 200 40) ≤ (h 200 51) → pv_E Γ d kc ks mX12_operand 164 [some (.ref 200), some (.int x1), none, none, some (.int x4), some (.int x5)] [] ty h r g Q) ∧ (¬ (h 200 40) ≤ (h 200 51) → vp_in (h 200 51) 160 ∧ (((pf_b (48 ≤ (h 339 (Int32.toNatClampNeg (h 200 51))) ∧ (h 339 (Int32.toNatClampNeg (h 200 51))) ≤ 57)) = 0 → pv_E Γ d kc ks mX12_operand 164 [some (.ref 200), some (.int x1), none, none, some (.int x4), some (.int x5)] [] ty h r g Q) ∧ (¬ (pf_b (48 ≤ (h 339 (Int32.toNatClampNeg (h 200 51))) ∧ (h 339 (Int32.toNatClampNeg (h 200 51))) ≤ 57)) = 0 → ((6 ≤ x4 → pv_E Γ d kc ks mX12_operand 164 [some (.ref 200), some (.int x1), none, none, some (.int x4), some (.int x5)] [] ty h r g Q) ∧ (¬ 6 ≤ x4 → vp_in (h 200 51) 160 ∧ (∀ h1 : pv_H, h1 = pv_up h 200 51 ((h 200 51) + 1) → pv_E Γ d kc ks mX12_operand 95 [some (.ref 200), some (.int x1), none, none, some (.int (x4 + 1)), some (.int (((10 * x5) + (h 339 (Int32.toNatClampNeg (h 200 51)))) - 48))] [] ty h1 r g Q)))))))) : pv_E Γ d kc ks mX12_operand 95 [some (.ref 200), some (.int x1), none, none, some (.int x4), some (.int x5)] [] ty h r g Q := by
  refine pv_aload_n dX12_operand_95 rfl ?_
  refine pv_getI 12 51 dX12_operand_96 fl_X12_256 rfl (lt_200 hL) ?_
  refine pv_aload_n dX12_operand_99 rfl ?_
  refine pv_getI 12 40 dX12_operand_100 fl_X12_240 rfl (lt_200 hL) ?_
  refine pv_icmp_ge (tgt := 164) dX12_operand_103 (by decide) (fun c1 => ?_) (fun c1 => ?_)
  · have F := F.1 c1
    exact F
  · have F := F.2 c1
    refine pv_aload_n dX12_operand_106 rfl ?_
    refine pv_getRk 12 39 dX12_operand_107 fl_X12_99 rfl (lt_200 hL) (lr_200_39 hL) ?_
    refine pv_aload_n dX12_operand_110 rfl ?_
    refine pv_getI 12 51 dX12_operand_111 fl_X12_256 rfl (lt_200 hL) ?_
    obtain ⟨q1, F⟩ := F
    refine pv_bald dX12_operand_114 (lt_339 hL) q1 ?_
    refine pv_invS (As := [.int (h 339 (Int32.toNatClampNeg (h 200 51)))]) (d' := d - 1) dX12_operand_115 moX12_isDigit ml_X12_266 (Nat.le_of_ble_eq_true rfl) (by omega) (Nat.zero_le _) (Nat.zero_le _) (ct_X12_isDigit (by omega)) (fun v ty' h' r' g' hq => ?_) rfl
    obtain ⟨e1, e2, e3, e4, e5⟩ := hq
    rw [e1, e2, e3, e4, e5]
    refine pv_pc (pc' := 118) rfl ?_
    show pv_E Γ d kc ks mX12_operand 118 [some (.ref 200), some (.int x1), none, none, some (.int x4), some (.int x5)] [.int (pf_b (48 ≤ (h 339 (Int32.toNatClampNeg (h 200 51))) ∧ (h 339 (Int32.toNatClampNeg (h 200 51))) ≤ 57))] ty h r g Q
    refine pv_if_eq (tgt := 164) dX12_operand_118 (by decide) (fun c2 => ?_) (fun c2 => ?_)
    · have F := F.1 c2
      exact F
    · have F := F.2 c2
      refine pv_iload dX12_operand_121 rfl ?_
      refine pv_bipush (v := 6) (by decide) dX12_operand_123 ?_
      refine pv_icmp_ge (tgt := 164) dX12_operand_125 (by decide) (fun c3 => ?_) (fun c3 => ?_)
      · have F := F.1 c3
        exact F
      · have F := F.2 c3
        refine pv_bipush (v := 10) (by decide) dX12_operand_128 ?_
        refine pv_iload dX12_operand_130 rfl ?_
        refine pv_imul dX12_operand_132 ?_
        refine pv_aload_n dX12_operand_133 rfl ?_
        refine pv_getRk 12 39 dX12_operand_134 fl_X12_99 rfl (lt_200 hL) (lr_200_39 hL) ?_
        refine pv_aload_n dX12_operand_137 rfl ?_
        refine pv_pc (pc' := 138) rfl ?_
        refine pv_getI 12 51 dX12_operand_138 fl_X12_256 rfl (lt_200 hL) ?_
        obtain ⟨q2, F⟩ := F
        refine pv_bald dX12_operand_141 (lt_339 hL) q2 ?_
        refine pv_iadd dX12_operand_142 ?_
        refine pv_bipush (v := 48) (by decide) dX12_operand_143 ?_
        refine pv_isub dX12_operand_145 ?_
        refine pv_istore (ls' := [some (.ref 200), some (.int x1), none, none, some (.int x4), some (.int (((10 * x5) + (h 339 (Int32.toNatClampNeg (h 200 51)))) - 48))]) dX12_operand_146 (by decide) rfl rfl ?_
        refine pv_iinc (v := x4 + 1) (ls' := [some (.ref 200), some (.int x1), none, none, some (.int (x4 + 1)), some (.int (((10 * x5) + (h 339 (Int32.toNatClampNeg (h 200 51)))) - 48))]) dX12_operand_148 rfl (by rfl) rfl rfl ?_
        refine pv_aload_n dX12_operand_151 rfl ?_
        refine pv_pc (pc' := 152) rfl ?_
        refine pv_dup rfl dX12_operand_152 ?_
        refine pv_getI 12 51 dX12_operand_153 fl_X12_256 rfl (lt_200 hL) ?_
        refine pv_iconst (v := 1) (by decide) dX12_operand_156 ?_
        refine pv_iadd dX12_operand_157 ?_
        obtain ⟨h1, eh1⟩ : ∃ h1 : pv_H, h1 = pv_up h 200 51 ((h 200 51) + 1) := ⟨_, rfl⟩
        have F := F h1 eh1
        refine pv_putI 12 51 dX12_operand_158 fl_X12_256 ⟨_, rfl, Or.inl rfl⟩ (Or.inl rfl) (lt_200 hL) ?_
        refine pv_hE eh1 ?_
        refine pv_goto (tgt := 95) dX12_operand_161 (by decide) ?_
        exact F
set_option maxRecDepth 20000 in
set_option maxHeartbeats 4000000 in
theorem sg_X12_operand_164 {Γ : pv_C} {d kc ks : Nat} {ty : pv_T} {h : pv_H} {r : pv_R} {g : pv_G} {Q : pv_Q} (x1 : Int32) (x4 : Int32) (x5 : Int32) (hd : 1 ≤ d) (hL : pv_Lay ty r) (F : ((x4 = 0 → Q (some (.int 0)) ty h r g) ∧ (¬ x4 = 0 → ((¬ x4 = 6 → pv_E Γ d kc ks mX12_operand 204 [some (.ref 200), some (.int x1), none, none, none, some (.int x5)] [] ty h r g Q) ∧ (x4 = 6 → (((h 200 40) ≤ (h 200 51) → pv_E Γ d kc ks mX12_operand 204 [some (.ref 200), some (.int x1), none, none, none, some (.int x5)] [] ty h r g Q) ∧ (¬ (h 200 40) ≤ (h 200 51) → vp_in (h 200 51) 160 ∧ (((pf_b (48 ≤ (h 339 (Int32.toNatClampNeg (h 200 51))) ∧ (h 339 (Int32.toNatClampNeg (h 200 51))) ≤ 57)) = 0 → pv_E Γ d kc ks mX12_operand 204 [some (.ref 200), some (.int x1), none, none, none, some (.int x5)] [] ty h r g Q) ∧ (¬ (pf_b (48 ≤ (h 339 (Int32.toNatClampNeg (h 200 51))) ∧ (h 339 (Int32.toNatClampNeg (h 200 51))) ≤ 57)) = 0 → Q (some (.int 0)) ty h r g))))))))) : pv_E Γ d kc ks mX12_operand 164 [some (.ref 200), some (.int x1), none, none, some (.int x4), some (.int x5)] [] ty h r g Q := by
  refine pv_iload dX12_operand_164 rfl ?_
  refine pv_if_eq (tgt := 202) dX12_operand_166 (by decide) (fun c1 => ?_) (fun c1 => ?_)
  · have F := F.1 c1
    refine pv_iconst (v := 0) (by decide) dX12_operand_202 ?_
    exact pv_ireturn dX12_operand_203 rfl (by decide) F
  · have F := F.2 c1
    refine pv_iload dX12_operand_169 rfl ?_
    refine pv_bipush (v := 6) (by decide) dX12_operand_171 ?_
    refine pv_icmp_ne (tgt := 204) dX12_operand_173 (by decide) (fun c2 => ?_) (fun c2 => ?_)
    · have F := F.1 c2
      refine pv_forgetL (ls' := [some (.ref 200), some (.int x1), none, none, none, some (.int x5)]) (pv_subL_ok ⟨rfl, ⟨rfl, ⟨rfl, trivial⟩⟩⟩) ?_
      exact F
    · have F := F.2 c2
      refine pv_aload_n dX12_operand_176 rfl ?_
      refine pv_getI 12 51 dX12_operand_177 fl_X12_256 rfl (lt_200 hL) ?_
      refine pv_aload_n dX12_operand_180 rfl ?_
      refine pv_getI 12 40 dX12_operand_181 fl_X12_240 rfl (lt_200 hL) ?_
      refine pv_icmp_ge (tgt := 204) dX12_operand_184 (by decide) (fun c3 => ?_) (fun c3 => ?_)
      · have F := F.1 c3
        refine pv_forgetL (ls' := [some (.ref 200), some (.int x1), none, none, none, some (.int x5)]) (pv_subL_ok ⟨rfl, ⟨rfl, ⟨rfl, trivial⟩⟩⟩) ?_
        exact F
      · have F := F.2 c3
        refine pv_aload_n dX12_operand_187 rfl ?_
        refine pv_getRk 12 39 dX12_operand_188 fl_X12_99 rfl (lt_200 hL) (lr_200_39 hL) ?_
        refine pv_aload_n dX12_operand_191 rfl ?_
        refine pv_getI 12 51 dX12_operand_192 fl_X12_256 rfl (lt_200 hL) ?_
        obtain ⟨q1, F⟩ := F
        refine pv_bald dX12_operand_195 (lt_339 hL) q1 ?_
        refine pv_invS (As := [.int (h 339 (Int32.toNatClampNeg (h 200 51)))]) (d' := d - 1) dX12_operand_196 moX12_isDigit ml_X12_266 (Nat.le_of_ble_eq_true rfl) (by omega) (Nat.zero_le _) (Nat.zero_le _) (ct_X12_isDigit (by omega)) (fun v ty' h' r' g' hq => ?_) rfl
        obtain ⟨e1, e2, e3, e4, e5⟩ := hq
        rw [e1, e2, e3, e4, e5]
        refine pv_pc (pc' := 199) rfl ?_
        show pv_E Γ d kc ks mX12_operand 199 [some (.ref 200), some (.int x1), none, none, some (.int x4), some (.int x5)] [.int (pf_b (48 ≤ (h 339 (Int32.toNatClampNeg (h 200 51))) ∧ (h 339 (Int32.toNatClampNeg (h 200 51))) ≤ 57))] ty h r g Q
        refine pv_if_eq (tgt := 204) dX12_operand_199 (by decide) (fun c4 => ?_) (fun c4 => ?_)
        · have F := F.1 c4
          refine pv_forgetL (ls' := [some (.ref 200), some (.int x1), none, none, none, some (.int x5)]) (pv_subL_ok ⟨rfl, ⟨rfl, ⟨rfl, trivial⟩⟩⟩) ?_
          exact F
        · have F := F.2 c4
          refine pv_iconst (v := 0) (by decide) dX12_operand_202 ?_
          exact pv_ireturn dX12_operand_203 rfl (by decide) F
set_option maxRecDepth 20000 in
set_option maxHeartbeats 4000000 in
theorem sg_X12_operand_204 {Γ : pv_C} {d kc ks : Nat} {ty : pv_T} {h : pv_H} {r : pv_R} {g : pv_G} {Q : pv_Q} (x1 : Int32) (x5 : Int32) (hd : 1 ≤ d) (hL : pv_Lay ty r) (F : pv_CW Γ (d - 1) mX12_adds [.ref 200, .int x1, .int 1, .int x5] ty h r g (fun (h1 : pv_H) => Q (some (.int 1)) ty h1 r g)) : pv_E Γ d kc ks mX12_operand 204 [some (.ref 200), some (.int x1), none, none, none, some (.int x5)] [] ty h r g Q := by
  refine pv_aload_n dX12_operand_204 rfl ?_
  refine pv_iload_n dX12_operand_205 rfl ?_
  refine pv_iconst (v := 1) (by decide) dX12_operand_206 ?_
  refine pv_iload dX12_operand_207 rfl ?_
  refine pv_invV (As := [.int x1, .int 1, .int x5]) (d' := d - 1) dX12_operand_209 moX12_adds ml_X12_252 (lt_200 hL) (Or.inl ⟨_, rfl, rfl⟩) (Nat.le_of_ble_eq_true rfl) (by omega) (Nat.zero_le _) (Nat.zero_le _) F (fun v ty' h1 r' g' hq => ?_) rfl
  obtain ⟨e2, e4, e5, e1, F⟩ := hq
  rw [e1, e2, e4, e5]
  refine pv_pc (pc' := 212) rfl ?_
  show pv_E Γ d kc ks mX12_operand 212 [some (.ref 200), some (.int x1), none, none, none, some (.int x5)] [] ty h1 r g Q
  refine pv_iconst (v := 1) (by decide) dX12_operand_212 ?_
  exact pv_ireturn dX12_operand_213 rfl (by decide) F
def ps_w (h : pv_H) : List Nat → Prop
  | [] => True
  | x :: t => h 348 t.length = nI x ∧ ps_w h t
def ps_s (h : pv_H) (o : Nat) : List (Nat × Nat) → Prop
  | [] => True
  | x :: t => (h 346 (170 * o + t.length) = nI x.1 ∧ h 347 (170 * o + t.length) = nI x.2) ∧ ps_s h o t
theorem ps_w_c {h h' : pv_H} : ∀ {w : List Nat}, (∀ j, j < w.length → h' 348 j = h 348 j) → ps_w h w → ps_w h' w
  | [], _, _ => trivial
  | x :: t, hc, hw => ⟨(hc t.length (Nat.lt_succ_self _)).trans hw.1, ps_w_c (fun j hj => hc j (Nat.lt_succ_of_lt hj)) hw.2⟩
theorem ps_s_c {h h' : pv_H} {o : Nat} : ∀ {S : List (Nat × Nat)}, (∀ j, j < S.length → h' 346 (170 * o + j) = h 346 (170 * o + j) ∧ h' 347 (170 * o + j) = h 347 (170 * o + j)) → ps_s h o S → ps_s h' o S
  | [], _, _ => trivial
  | x :: t, hc, hw => ⟨⟨(hc t.length (Nat.lt_succ_self _)).1.trans hw.1.1, (hc t.length (Nat.lt_succ_self _)).2.trans hw.1.2⟩, ps_s_c (fun j hj => hc j (Nat.lt_succ_of_lt hj)) hw.2⟩
theorem ps_w_suf {h : pv_H} : ∀ {u v : List Nat} {x : Nat}, ps_w h (u ++ (x :: v)) → h 348 v.length = nI x
  | [], _, _, hw => hw.1
  | _ :: _, _, _, hw => ps_w_suf hw.2
/-- the reference's table is (w, S), standing at p -/
def ps_R (len o p : Nat) (w : List Nat) (S : List (Nat × Nat)) (h : pv_H) : Prop := (h 200 51 = nI p ∧ h 200 49 = nI w.length ∧ h 200 50 = nI S.length ∧ h 200 40 = nI len) ∧ (ps_w h w ∧ ps_s h o S) ∧ (w.length + S.length ≤ p ∧ p ≤ len ∧ len ≤ 160 ∧ o < 20) ∧ ∀ x ∈ w, x < 100
abbrev pA (o : Nat) : Nat → Nat → Prop := fun a j => (a = 200 ∧ (j = 49 ∨ j = 50 ∨ j = 51)) ∨ a = 348 ∨ ((a = 346 ∨ a = 347) ∧ 170 * o ≤ j ∧ j < 170 * o + 170)
def ps_ad (h : pv_H) (o L : Nat) (a c : Int32) : pv_H := pv_up (pv_up (pv_up h 346 (170 * o + L) a) 347 (170 * o + L) c) 200 50 (nI (L + 1))
theorem ps_ad_200 {h : pv_H} {o L : Nat} {a c : Int32} {j : Nat} (hj : j ≠ 50) : ps_ad h o L a c 200 j = h 200 j := by unfold ps_ad; rw [pv_up_j hj, pv_up_a (by decide), pv_up_a (by decide)]
theorem ps_ad_50 {h : pv_H} {o L : Nat} {a c : Int32} : ps_ad h o L a c 200 50 = nI (L + 1) := pv_up_same _ _ _ _
theorem ps_ad_o {h : pv_H} {o L : Nat} {a c : Int32} {b j : Nat} (h1 : b ≠ 200) (h2 : b ≠ 346) (h3 : b ≠ 347) : ps_ad h o L a c b j = h b j := by unfold ps_ad; rw [pv_up_a h1, pv_up_a h3, pv_up_a h2]
theorem ps_ad_s {h : pv_H} {o : Nat} {S : List (Nat × Nat)} {x c : Nat} (hs : ps_s h o S) : ps_s (ps_ad h o S.length (nI x) (nI c)) o ((x, c) :: S) := by
  refine ⟨⟨?_, ?_⟩, ps_s_c (fun j hj => ⟨?_, ?_⟩) hs⟩
  · unfold ps_ad; rw [pv_up_a (by decide), pv_up_a (by decide), pv_up_same]
  · unfold ps_ad; rw [pv_up_a (by decide), pv_up_same]
  · unfold ps_ad; rw [pv_up_a (by decide), pv_up_a (by decide), pv_up_j (by omega)]
  · unfold ps_ad; rw [pv_up_a (by decide), pv_up_j (by omega), pv_up_a (by decide)]
theorem ps_ad_f {h0 h : pv_H} {o L : Nat} {a c : Int32} (hL : L < 170) (hf : pv_fr (pA o) h0 h) : pv_fr (pA o) h0 (ps_ad h o L a c) := pv_fr_up (pv_fr_up (pv_fr_up hf (Or.inr (Or.inr ⟨Or.inl rfl, by omega, by omega⟩))) (Or.inr (Or.inr ⟨Or.inr rfl, by omega, by omega⟩))) (Or.inl ⟨rfl, Or.inr (Or.inl rfl)⟩)
theorem ps_ad_w {h : pv_H} {o L : Nat} {a c : Int32} {w : List Nat} (hw : ps_w h w) : ps_w (ps_ad h o L a c) w := ps_w_c (fun j _ => ps_ad_o (by decide) (by decide) (by decide)) hw
theorem ni_170 (o L : Nat) : 170 * nI o + nI L = nI (170 * o + L) := by rw [show (170 : Int32) = nI 170 from rfl, pk_mul, nI_add]
theorem pA_51 {o : Nat} {h0 h : pv_H} {x : Int32} (hf : pv_fr (pA o) h0 h) : pv_fr (pA o) h0 (pv_up h 200 51 x) := pv_fr_up hf (Or.inl ⟨rfl, Or.inr (Or.inr rfl)⟩)
theorem pA_49 {o : Nat} {h0 h : pv_H} {x : Int32} (hf : pv_fr (pA o) h0 h) : pv_fr (pA o) h0 (pv_up h 200 49 x) := pv_fr_up hf (Or.inl ⟨rfl, Or.inl rfl⟩)
theorem pA_348 {o j : Nat} {h0 h : pv_H} {x : Int32} (hf : pv_fr (pA o) h0 h) : pv_fr (pA o) h0 (pv_up h 348 j x) := pv_fr_up hf (Or.inr (Or.inl rfl))
section PS
variable {Γ : pv_C} {d kc ks : Nat} {ty : pv_T} {h h0 : pv_H} {r : pv_R} {g : pv_G} {Q : pv_Q} {K len o p : Nat} {b : Nat → Nat}
theorem ct_X12_adds (hL : pv_Lay ty r) {L : Nat} (ho : o < 20) (hl : L < 170) (h50 : h 200 50 = nI L) {a c : Int32} : pv_CW Γ d mX12_adds [.ref 200, .int (nI o), .int a, .int c] ty h r g (fun h' => h' = ps_ad h o L a c) := by
  have e1 : 170 * nI o + h 200 50 = nI (170 * o + L) := by rw [h50, ni_170]
  refine pv_fn 0 pn_X12 rfl (Nat.le_of_ble_eq_true rfl) (sg_X12_adds_0 _ _ _ hL ⟨by rw [e1]; exact vp_in_nI (by omega) (by decide), fun h1 e2 => ?_⟩)
  rw [e1, nI_clamp (by omega)] at e2
  have e3 : h1 200 50 = nI L := by rw [e2, pv_up_a (by decide)]; exact h50
  rw [e3, ni_170, nI_clamp (by omega)]
  refine ⟨vp_in_nI (by omega) (by decide), fun h2 e4 h3 e5 => pv_wqi ?_⟩
  have e6 : h2 200 50 = nI L := by rw [e4, pv_up_a (by decide)]; exact e3
  rw [e6, nI_1] at e5
  rw [e5, e4, e2]
  rfl
theorem pd_0 (hd : 1 ≤ d) (hL : pv_Lay ty r) {f : Nat} (hf7 : f ≤ 7) : ∀ (w : List Nat) (S : List (Nat × Nat)) (h : pv_H), ps_R len o p w S h → pv_fr (pA o) h0 h → (∀ h', pv_fr (pA o) h0 h' → ps_R len o p (tx_done f w S).1 (tx_done f w S).2 h' → Q none ty h' r g) → pv_E Γ d kc ks mX12_done 0 [some (.ref 200), some (.int (nI o)), some (.int (nI f))] [] ty h r g Q
  | [], S, h, hR, hfr, hQ => by
    have e49 : h 200 49 = nI 0 := hR.1.2.1
    exact sg_X12_done_0 _ _ hd hL (pk_le 0 0 (fun _ => hQ h hfr hR) (fun c => absurd c (by omega)) e49)
  | x :: w, S, h, hR, hfr, hQ => by
    obtain ⟨⟨e51, e49, e50, e40⟩, ⟨hw, hs⟩, ⟨b1, b2, b3, b4⟩, hx⟩ := hR
    have e49' : h 200 49 = nI (w.length + 1) := e49
    have b1' : w.length + 1 + S.length ≤ p := b1
    have hx0 := hx x (List.mem_cons_self ..)
    have em : h 200 49 - 1 = nI w.length := by rw [e49', nI_pred]
    have hin : vp_in (h 200 49 - 1) 170 := by rw [em]; exact vp_in_nI (by omega) (by decide)
    have et : h 348 (Int32.toNatClampNeg (h 200 49 - 1)) = nI x := by rw [em, nI_clamp (by omega)]; exact hw.1
    refine sg_X12_done_0 _ _ hd hL (pk_le (w.length + 1) 0 (fun c => absurd c (by omega)) (fun _ => ⟨hin, pk_eq x 4 (fun c1 => ?_) (fun c1 => ⟨hin, pk_lt (x / 10) f (fun c2 => ?_) (fun c2 h1 e1 => ?_) (by rw [et]; exact pk_div (by omega) (by decide) (by decide)) rfl (by omega) (by omega)⟩) et rfl (by omega) (by omega)⟩) e49' rfl (by omega) (by omega))
    · have hu : tx_done f (x :: w) S = (x :: w, S) := by unfold tx_done; rw [if_neg (fun q => q.1 c1)]
      rw [hu] at hQ
      exact hQ h hfr ⟨⟨e51, e49, e50, e40⟩, ⟨hw, hs⟩, ⟨b1, b2, b3, b4⟩, hx⟩
    · have hu : tx_done f (x :: w) S = (x :: w, S) := by unfold tx_done; rw [if_neg (fun q => by omega)]
      rw [hu] at hQ
      exact hQ h hfr ⟨⟨e51, e49, e50, e40⟩, ⟨hw, hs⟩, ⟨b1, b2, b3, b4⟩, hx⟩
    · have hu : tx_done f (x :: w) S = tx_done f w ((x, 0) :: S) := by
        show (if x ≠ 4 ∧ f ≤ x / 10 then _ else _) = _
        rw [if_pos ⟨c1, by omega⟩]
      rw [hu] at hQ
      rw [em] at e1
      have f49 : h1 200 49 = nI w.length := by rw [e1, pv_up_same]
      have f50 : h1 200 50 = nI S.length := by rw [e1, pv_up_j (by decide)]; exact e50
      rw [f49, nI_clamp (by omega)]
      refine ⟨vp_in_nI (by omega) (by decide), pv_CW.mono (ct_X12_adds hL b4 (by omega) f50) (fun h2 e2 => ?_)⟩
      have et2 : h1 348 w.length = nI x := by rw [e1, pv_up_a (by decide)]; exact hw.1
      rw [et2, show (0 : Int32) = nI 0 from rfl] at e2
      refine pd_0 hd hL hf7 w ((x, 0) :: S) h2 ⟨⟨?_, ?_, ?_, ?_⟩, ⟨?_, ?_⟩, ⟨by simp; omega, b2, b3, b4⟩, fun y hy => hx y (List.mem_cons_of_mem _ hy)⟩ ?_ hQ
      · rw [e2, ps_ad_200 (by decide), e1, pv_up_j (by decide)]; exact e51
      · rw [e2, ps_ad_200 (by decide)]; exact f49
      · rw [e2]; exact ps_ad_50
      · rw [e2, ps_ad_200 (by decide), e1, pv_up_j (by decide)]; exact e40
      · rw [e2]
        exact ps_ad_w (ps_w_c (fun j _ => by rw [e1, pv_up_a (by decide)]) hw.2)
      · rw [e2]
        exact ps_ad_s (ps_s_c (fun j _ => by rw [e1, pv_up_a (by decide), pv_up_a (by decide)]; exact ⟨rfl, rfl⟩) hs)
      · rw [e2]
        exact ps_ad_f (by omega) (by rw [e1]; exact pA_49 hfr)
theorem ct_X12_done (hd : 1 ≤ d) (hL : pv_Lay ty r) {f : Nat} (hf7 : f ≤ 7) {w : List Nat} {S : List (Nat × Nat)} (hR : ps_R len o p w S h) : pv_CW Γ d mX12_done [.ref 200, .int (nI o), .int (nI f)] ty h r g (fun h' => pv_fr (pA o) h h' ∧ ps_R len o p (tx_done f w S).1 (tx_done f w S).2 h') :=
  pv_fn 0 pn_X12 rfl (Nat.le_of_ble_eq_true rfl) (pd_0 hd hL hf7 w S h hR (pv_fr_refl _ _) (fun h' f' r' => pv_wqi ⟨f', r'⟩))
theorem tx_c4_le : ∀ w : List Nat, tx_c4 w ≤ w.length
  | [] => Nat.le_refl _
  | x :: w => by
    have := tx_c4_le w
    show tx_c4 w + _ ≤ w.length + 1
    split <;> omega
theorem po_4 (hL : pv_Lay ty r) {w : List Nat} (h49 : h 200 49 = nI w.length) (hl : w.length ≤ 160) (hw : ps_w h w) (hx : ∀ x ∈ w, x < 100) (hQ : Q (some (.int (nI (tx_c4 w)))) ty h r g) : ∀ (n : Nat) (u v : List Nat), u.length = n → w = u ++ v → pv_E Γ d kc ks mX12_opened 4 [some (.ref 200), some (.int (nI (tx_c4 v))), some (.int (nI v.length))] [] ty h r g Q := by
  intro n
  induction n with
  | zero =>
    intro u v hu e
    have : u = [] := List.eq_nil_of_length_eq_zero hu
    subst this
    have e' : w = v := e
    subst e'
    exact sg_X12_opened_4 _ _ hL (pk_le w.length w.length (fun _ => hQ) (fun c => absurd c (by omega)) h49)
  | succ n ih =>
    intro u v hu e
    obtain ⟨u', x, e2⟩ : ∃ u' x, u = u' ++ [x] := by
      rcases List.eq_nil_or_concat u with q | ⟨u', x, q⟩
      · rw [q] at hu; cases hu
      · exact ⟨u', x, q.trans (List.concat_eq_append ..)⟩
    have e3 : w = u' ++ (x :: v) := by rw [e, e2]; simp
    have hlen : w.length = u'.length + (v.length + 1) := by rw [e3]; simp
    have hx0 : x < 100 := hx x (by rw [e3]; simp)
    have hat : h 348 v.length = nI x := ps_w_suf (by rw [← e3]; exact hw)
    have hc4 := tx_c4_le v
    refine sg_X12_opened_4 _ _ hL (pk_le w.length v.length (fun c => absurd c (by omega)) (fun _ => ⟨vp_in_nI (by omega) (by decide), ?_⟩) h49)
    have ih' := ih u' (x :: v) (by rw [e2] at hu; simp at hu; omega) e3
    have hv : tx_c4 (x :: v) = tx_c4 v + (if x = 4 then 1 else 0) := rfl
    rw [hv] at ih'
    rw [nI_clamp (by omega), hat, nI_1]
    refine pj_eq x 4 (fun c => ?_) (fun c => ?_)
    · rw [if_pos c] at ih'
      rw [nI_1]
      exact ih'
    · rw [if_neg c] at ih'
      rw [show (0 : Int32) = nI 0 from rfl, nI_add]
      exact ih'
theorem ct_X12_opened (hL : pv_Lay ty r) {w : List Nat} {S : List (Nat × Nat)} (hR : ps_R len o p w S h) : pv_CJ Γ d mX12_opened [.ref 200] ty h r g (fun x h' => x = nI (tx_c4 w) ∧ h' = h) :=
  pv_fn 2 pn_X12 rfl (Nat.le_of_ble_eq_true rfl) (sg_X12_opened_0 (po_4 hL hR.1.2.1 (by have := hR.2.2.1; omega) hR.2.1.1 hR.2.2.2 (pv_jqi ⟨rfl, rfl⟩) w.length w [] rfl (by simp)))
/-- a number on the tape -/
theorem pn_95 (hL : pv_Lay ty r) (hT : ∀ j, j < len → TB (h0 339 j) (b j)) (hl : len ≤ 160) (h40 : h0 200 40 = nI len) {n : Nat} (hE : ∀ k v q h, k ≤ 6 → (v, q) = tx_num (tx_pk len b) 6 0 n → (k = 0 → q = n) → (k ≠ 0 → tx_dg (tx_pk len b n)) → (k < 6 → ¬ tx_dg (tx_pk len b q)) → v < 10 ^ 6 → q ≤ len → h = pv_up h0 200 51 (nI q) → pv_E Γ d kc ks mX12_operand 164 [some (.ref 200), some (.int (nI o)), none, none, some (.int (nI k)), some (.int (nI v))] [] ty h r g Q) (hd : 1 ≤ d) : ∀ (m k v q : Nat) (h : pv_H), k + m = 6 → v < 10 ^ k → q ≤ len → tx_num (tx_pk len b) m v q = tx_num (tx_pk len b) 6 0 n → (k = 0 → q = n) → (k ≠ 0 → tx_dg (tx_pk len b n)) → h = pv_up h0 200 51 (nI q) → pv_E Γ d kc ks mX12_operand 95 [some (.ref 200), some (.int (nI o)), none, none, some (.int (nI k)), some (.int (nI v))] [] ty h r g Q := by
  intro m
  induction m with
  | zero =>
    intro k v q h hk hv hq he hk0 hkn hh
    have e51 : h 200 51 = nI q := by rw [hh, pv_up_same]
    have e40 : h 200 40 = nI len := by rw [hh, pv_up_j (by decide)]; exact h40
    have fin := hE k v q h (by omega) he hk0 hkn (fun c => absurd c (by omega)) (by rw [show k = 6 by omega] at hv; exact hv) hq hh
    refine sg_X12_operand_95 _ _ _ hd hL (pk_le len q (fun _ => fin) (fun c => ⟨by rw [e51]; exact vp_in_nI (by omega) (by decide), fun _ => fin, fun _ => pk_le 6 k (fun _ => fin) (fun c => absurd c (by omega))⟩) e40 e51)
  | succ m ih =>
    intro k v q h hk hv hq he hk0 hkn hh
    have e51 : h 200 51 = nI q := by rw [hh, pv_up_same]
    have e40 : h 200 40 = nI len := by rw [hh, pv_up_j (by decide)]; exact h40
    have hu : tx_num (tx_pk len b) (m + 1) v q = if tx_dg (tx_pk len b q) then tx_num (tx_pk len b) m (v * 10 + (tx_pk len b q - 48)) (q + 1) else (v, q) := rfl
    rw [hu] at he
    have hv6 : v < 10 ^ 6 := Nat.lt_of_lt_of_le hv (Nat.pow_le_pow_right (by decide) (by omega))
    refine sg_X12_operand_95 _ _ _ hd hL (pk_le len q (fun c => ?_) (fun c => ?_) e40 e51)
    · have nd : ¬ tx_dg (tx_pk len b q) := by rw [tx_pk_ge c]; decide
      rw [if_neg nd] at he
      exact hE k v q h (by omega) he hk0 hkn (fun _ => nd) hv6 hq hh
    · have hb := tx_pk_lt (len := len) (b := b) c
      have hTq := hT q c
      have et : h 339 (Int32.toNatClampNeg (h 200 51)) = h0 339 q := by rw [e51, nI_clamp (by omega), hh, pv_up_a (by decide)]
      have hin : vp_in (h 200 51) 160 := by rw [e51]; exact vp_in_nI (by omega) (by decide)
      rw [et]
      refine ⟨hin, pk_b (fun c1 => ?_) (fun c1 => ?_)⟩
      · have dg : tx_dg (b q) := (TB_dg hTq).mp c1
        have dg' : tx_dg (tx_pk len b q) := by rw [hb]; exact dg
        rw [if_pos dg', hb] at he
        refine pk_le 6 k (fun c2 => absurd c2 (by omega)) (fun _ => ⟨hin, fun h1 e1 => ?_⟩)
        have e4 : 10 * nI v + h0 339 q - 48 = nI (v * 10 + (b q - 48)) := by
          rw [hTq.1 (by have := dg.2; omega), show (10 : Int32) = nI 10 from rfl, pk_mul, nI_add, show (48 : Int32) = nI 48 from rfl, pk_sub (by have := dg.1; omega)]
          congr 1
          have := dg.1
          omega
        rw [e4, nI_1]
        refine ih (k + 1) _ (q + 1) h1 (by omega) ?_ c he (fun z => absurd z (by omega)) (fun _ => ?_) ?_
        · have := dg.2
          have e5 : 10 ^ (k + 1) = 10 ^ k * 10 := Nat.pow_succ ..
          omega
        · by_cases z : k = 0
          · rw [← hk0 z]; exact dg'
          · exact hkn z
        · rw [e1, e51, nI_1, hh]
          funext a j
          unfold pv_up
          split <;> rfl
      · have nd : ¬ tx_dg (tx_pk len b q) := fun z => c1 ((TB_dg hTq).mpr (by rw [← hb]; exact z))
        rw [if_neg nd] at he
        exact hE k v q h (by omega) he hk0 hkn (fun _ => nd) hv6 hq hh
/-- what an operand makes of the table -/
def po_q (K len o p : Nat) (b : Nat → Nat) (w : List Nat) (S : List (Nat × Nat)) (h0 : pv_H) (x : Int32) (h' : pv_H) : Prop := pv_fr (pA o) h0 h' ∧
  (tx_dg (b p) → ¬ tx_dg (tx_pk len b (tx_num (tx_pk len b) 6 0 p).2) → x = 1 ∧ ps_R len o (tx_num (tx_pk len b) 6 0 p).2 w ((1, (tx_num (tx_pk len b) 6 0 p).1) :: S) h') ∧
  (tx_dg (b p) → tx_dg (tx_pk len b (tx_num (tx_pk len b) 6 0 p).2) → x = 0 ∧ h' 200 51 = nI (tx_num (tx_pk len b) 6 0 p).2) ∧
  (b p ∈ tx_nm K → x = 1 ∧ ps_R len o (p + 1) w ((100 + b p, 0) :: S) h') ∧
  (b p = 40 → tx_c4 w < 10 → x = 1 ∧ ps_R len o (p + 1) (4 :: w) S h') ∧
  (¬ tx_dg (b p) → b p ∉ tx_nm K → ¬ (b p = 40 ∧ tx_c4 w < 10) → x = 0 ∧ h' 200 51 = nI p)
theorem tx_nm_dg {K c : Nat} (h : c ∈ tx_nm K) : ¬ tx_dg c ∧ c ≠ 40 ∧ c < 128 := by
  unfold tx_nm at h
  split at h
  · have : ∀ c ∈ [102, 103, 118, 115, 99, 121], ¬ tx_dg c ∧ c ≠ 40 ∧ c < 128 := by decide
    exact this c h
  · have : ∀ c ∈ [100, 108, 119, 115, 110], ¬ tx_dg c ∧ c ≠ 40 ∧ c < 128 := by decide
    exact this c h
theorem ct_X12_operand (hd : 2 ≤ d) (hL : pv_Lay ty r) (hK : K < 2) (hT : ∀ j, j < len → TB (h 339 j) (b j)) {w : List Nat} {S : List (Nat × Nat)} (hR : ps_R len o p w S h) (hp : p < len) (hc : tx_c4 w ≤ 10) : pv_CJ Γ d mX12_operand [.ref 200, .int (nI o), .int (nI K)] ty h r g (po_q K len o p b w S h) := by
  obtain ⟨⟨e51, e49, e50, e40⟩, ⟨hw, hs⟩, ⟨b1, b2, b3, b4⟩, hx⟩ := hR
  have hTp := hT p hp
  have hpk := tx_pk_lt (len := len) (b := b) hp
  have hin : vp_in (h 200 51) 160 := by rw [e51]; exact vp_in_nI (by omega) (by decide)
  have et : h 339 (Int32.toNatClampNeg (h 200 51)) = h 339 p := by rw [e51, nI_clamp (by omega)]
  refine pv_fn 3 pn_X12 rfl (Nat.le_of_ble_eq_true rfl) (sg_X12_operand_0 _ _ (by omega) hL ⟨hin, ?_⟩)
  rw [et]
  refine pt_en (b p) 40 hTp (fun c1 => ?_) (fun c1 => ⟨fun c2 => ?_, fun c2 => ?_⟩)
  · have nn : b p ∉ tx_nm K := fun z => (tx_nm_dg z).2.1 c1
    have nd : ¬ tx_dg (b p) := by rw [c1]; decide
    refine pv_CJ.mono (ct_X12_opened hL ⟨⟨e51, e49, e50, e40⟩, ⟨hw, hs⟩, ⟨b1, b2, b3, b4⟩, hx⟩) (fun x h1 q => ?_)
    obtain ⟨rfl, rfl⟩ := q
    refine pj_eq (tx_c4 w) 10 (fun c3 => pv_jqi ⟨pv_fr_refl _ _, fun q => absurd q nd, fun q => absurd q nd, fun q => absurd q nn, fun _ q => absurd c3 (by omega), fun _ _ _ => ⟨rfl, e51⟩⟩) (fun c3 => ?_)
    rw [e49, nI_clamp (by omega)]
    refine ⟨vp_in_nI (by omega) (by decide), fun h4 e4 h5 e5 h6 e6 => pv_jqi ⟨?_, fun q => absurd q nd, fun q => absurd q nd, fun q => absurd q nn, fun _ _ => ⟨rfl, ?_⟩, fun _ _ q => absurd ⟨c1, by omega⟩ q⟩⟩
    · rw [e6, e5, e4]; exact pA_51 (pA_49 (pA_348 (pv_fr_refl _ _)))
    · have v49 : h4 200 49 = nI w.length := by rw [e4, pv_up_a (by decide)]; exact e49
      have v51 : h5 200 51 = nI p := by rw [e5, pv_up_j (by decide), e4, pv_up_a (by decide)]; exact e51
      rw [v51, nI_1] at e6
      rw [v49, nI_1] at e5
      refine ⟨⟨by rw [e6, pv_up_same], by rw [e6, pv_up_j (by decide), e5, pv_up_same]; rfl, ?_, ?_⟩, ⟨⟨?_, ?_⟩, ?_⟩, ⟨by simp; omega, hp, b3, b4⟩, fun y hy => ?_⟩
      · rw [e6, pv_up_j (by decide), e5, pv_up_j (by decide), e4, pv_up_a (by decide)]; exact e50
      · rw [e6, pv_up_j (by decide), e5, pv_up_j (by decide), e4, pv_up_a (by decide)]; exact e40
      · rw [e6, pv_up_a (by decide), e5, pv_up_a (by decide), e4, pv_up_same]; rfl
      · exact ps_w_c (fun j hj => by rw [e6, pv_up_a (by decide), e5, pv_up_a (by decide), e4, pv_up_j (by omega)]) hw
      · exact ps_s_c (fun j hj => by rw [e6, pv_up_a (by decide), pv_up_a (by decide), e5, pv_up_a (by decide), pv_up_a (by decide), e4, pv_up_a (by decide), pv_up_a (by decide)]; exact ⟨rfl, rfl⟩) hs
      · rcases List.mem_cons.mp hy with rfl | hy
        · decide
        · exact hx y hy
  · have nn : b p ∉ tx_nm K := fun z => (TB_nm hTp hK).mpr z c2
    refine pn_95 hL hT b3 e40 (n := p) (fun k v q h1 hk he hk0 hkn hkd hv hq hh => ?_) (by omega) 6 0 0 p h rfl (by decide) (by omega) rfl (fun _ => rfl) (fun z => absurd rfl z) (by rw [← e51]; funext a j; unfold pv_up; split <;> simp_all)
    have eq1 : (tx_num (tx_pk len b) 6 0 p).1 = v := by rw [← he]
    have eq2 : (tx_num (tx_pk len b) 6 0 p).2 = q := by rw [← he]
    have f51 : h1 200 51 = nI q := by rw [hh, pv_up_same]
    have f40 : h1 200 40 = nI len := by rw [hh, pv_up_j (by decide)]; exact e40
    have f50 : h1 200 50 = nI S.length := by rw [hh, pv_up_j (by decide)]; exact e50
    have fr1 : pv_fr (pA o) h h1 := by rw [hh]; exact pA_51 (pv_fr_refl _ _)
    by_cases k0 : k = 0
    · subst k0
      have hq0 := hk0 rfl
      subst hq0
      have nd : ¬ tx_dg (b q) := by rw [← hpk]; exact hkd (by decide)
      exact sg_X12_operand_164 _ _ _ (by omega) hL ⟨fun _ => pv_jqi ⟨fr1, fun z => absurd z nd, fun z => absurd z nd, fun z => absurd z nn, fun z => absurd z c1, fun _ _ _ => ⟨rfl, f51⟩⟩, fun z => absurd rfl z⟩
    · have dg' := hkn k0
      have dg : tx_dg (b p) := by rw [← hpk]; exact dg'
      have hpq : p < q := by rw [← eq2]; exact tx_num_p dg'
      have n40 : b p ≠ 40 := c1
      have fin : ¬ tx_dg (tx_pk len b q) → pv_E Γ d 0 0 mX12_operand 204 [some (.ref 200), some (.int (nI o)), none, none, none, some (.int (nI v))] [] ty h1 r g (pv_jq ty r g (po_q K len o p b w S h)) := fun nd => by
        refine sg_X12_operand_204 _ _ (by omega) hL (pv_CW.mono (ct_X12_adds hL b4 (by omega) f50) (fun h2 e2 => pv_jqi ⟨?_, fun _ _ => ⟨rfl, ?_⟩, fun _ z => absurd (eq2 ▸ z) nd, fun z => absurd z nn, fun z => absurd z c1, fun z => absurd dg z⟩))
        · rw [e2]; exact ps_ad_f (by omega) fr1
        · rw [eq1, eq2]
          refine ⟨⟨?_, ?_, ?_, ?_⟩, ⟨?_, ?_⟩, ⟨by simp; omega, hq, b3, b4⟩, hx⟩
          · rw [e2, ps_ad_200 (by decide)]; exact f51
          · rw [e2, ps_ad_200 (by decide), hh, pv_up_j (by decide)]; exact e49
          · rw [e2]; exact ps_ad_50
          · rw [e2, ps_ad_200 (by decide)]; exact f40
          · rw [e2]; exact ps_ad_w (ps_w_c (fun j _ => by rw [hh, pv_up_a (by decide)]) hw)
          · rw [e2]
            exact ps_ad_s (x := 1) (c := v) (ps_s_c (fun j _ => by rw [hh, pv_up_a (by decide), pv_up_a (by decide)]; exact ⟨rfl, rfl⟩) hs)
      refine sg_X12_operand_164 _ _ _ (by omega) hL (pk_eq k 0 (fun z => absurd z k0) (fun _ => pj_eq k 6 (fun k6 => pk_le len q (fun z => fin (by rw [tx_pk_ge z]; decide)) (fun z => ?_) f40 f51) (fun k6 => fin (hkd (by omega)))))
      have hpq2 := tx_pk_lt (len := len) (b := b) z
      have et2 : h1 339 (Int32.toNatClampNeg (h1 200 51)) = h 339 q := by rw [f51, nI_clamp (by omega), hh, pv_up_a (by decide)]
      rw [et2]
      refine ⟨by rw [f51]; exact vp_in_nI (by omega) (by decide), pk_b (fun y => ?_) (fun y => fin (fun x => y ((TB_dg (hT q z)).mpr (by rw [← hpq2]; exact x))))⟩
      have dq : tx_dg (tx_pk len b q) := by rw [hpq2]; exact (TB_dg (hT q z)).mp y
      exact pv_jqi ⟨fr1, fun _ x => absurd (eq2 ▸ dq) x, fun _ _ => ⟨rfl, by rw [eq2]; exact f51⟩, fun x => absurd x nn, fun x => absurd x c1, fun x => absurd dg x⟩
  · have nm : b p ∈ tx_nm K := (TB_nm hTp hK).mp c2
    obtain ⟨nd, -, n128⟩ := tx_nm_dg nm
    have e100 : 100 + h 339 p = nI (100 + b p) := by rw [hTp.1 n128, show (100 : Int32) = nI 100 from rfl, nI_add]
    rw [e100]
    refine pv_CW.mono (ct_X12_adds hL b4 (by omega) e50) (fun h1 e1 h2 e2 => pv_jqi ⟨?_, fun z => absurd z nd, fun z => absurd z nd, fun _ => ⟨rfl, ?_⟩, fun z => absurd z c1, fun _ z => absurd nm z⟩)
    · rw [e2, e1]; exact pA_51 (ps_ad_f (by omega) (pv_fr_refl _ _))
    · have v51 : h1 200 51 = nI p := by rw [e1, ps_ad_200 (by decide)]; exact e51
      rw [v51, nI_1] at e2
      refine ⟨⟨?_, ?_, ?_, ?_⟩, ⟨?_, ?_⟩, ⟨by simp; omega, hp, b3, b4⟩, hx⟩
      · rw [e2, pv_up_same]
      · rw [e2, pv_up_j (by decide), e1, ps_ad_200 (by decide)]; exact e49
      · rw [e2, pv_up_j (by decide), e1]; exact ps_ad_50
      · rw [e2, pv_up_j (by decide), e1, ps_ad_200 (by decide)]; exact e40
      · refine ps_w_c (fun j _ => by rw [e2, pv_up_a (by decide)]) (e1 ▸ ps_ad_w hw)
      · refine ps_s_c (h := h1) (fun j _ => by rw [e2, pv_up_a (by decide), pv_up_a (by decide)]; exact ⟨rfl, rfl⟩) ?_
        rw [e1]
        exact ps_ad_s (x := 100 + b p) (c := 0) hs
end PS
