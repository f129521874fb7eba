/-! the reference's parse runs the table -/
set_option maxRecDepth 20000 in
set_option maxHeartbeats 4000000 in
theorem sg_X12_parse_0 {Γ : pv_C} {d kc ks : Nat} {ty : pv_T} {h : pv_H} {r : pv_R} {g : pv_G} {Q : pv_Q} (x : Int32) (y : Int32) (hL : pv_Lay ty r) (F : (∀ h1 : pv_H, h1 = pv_up h 200 51 0 → (∀ h2 : pv_H, h2 = pv_up h1 200 49 0 → (∀ h3 : pv_H, h3 = pv_up h2 200 50 0 → pv_E Γ d kc ks mX12_parse 23 [some (.ref 200), some (.int x), some (.int y), some (.int 1), some (.int 0), some (.int 0), none, none, none] [] ty h3 r g Q)))) : pv_E Γ d kc ks mX12_parse 0 [some (.ref 200), some (.int x), some (.int y), none, none, none, none, none, none] [] ty h r g Q := by
  refine pv_aload_n dX12_parse_0 rfl ?_
  refine pv_iconst (v := 0) (by decide) dX12_parse_1 ?_
  obtain ⟨h1, eh1⟩ : ∃ h1 : pv_H, h1 = pv_up h 200 51 0 := ⟨_, rfl⟩
  have F := F h1 eh1
  refine pv_putI 12 51 dX12_parse_2 fl_X12_256 ⟨_, rfl, Or.inl rfl⟩ (Or.inl rfl) (lt_200 hL) ?_
  refine pv_hE eh1 ?_
  refine pv_aload_n dX12_parse_5 rfl ?_
  refine pv_iconst (v := 0) (by decide) dX12_parse_6 ?_
  obtain ⟨h2, eh2⟩ : ∃ h2 : pv_H, h2 = pv_up h1 200 49 0 := ⟨_, rfl⟩
  have F := F h2 eh2
  refine pv_putI 12 49 dX12_parse_7 fl_X12_246 ⟨_, rfl, Or.inl rfl⟩ (Or.inl rfl) (lt_200 hL) ?_
  refine pv_hE eh2 ?_
  refine pv_aload_n dX12_parse_10 rfl ?_
  refine pv_iconst (v := 0) (by decide) dX12_parse_11 ?_
  obtain ⟨h3, eh3⟩ : ∃ h3 : pv_H, h3 = pv_up h2 200 50 0 := ⟨_, rfl⟩
  have F := F h3 eh3
  refine pv_putI 12 50 dX12_parse_12 fl_X12_243 ⟨_, rfl, Or.inl rfl⟩ (Or.inl rfl) (lt_200 hL) ?_
  refine pv_hE eh3 ?_
  refine pv_iconst (v := 1) (by decide) dX12_parse_15 ?_
  refine pv_istore_n (ls' := [some (.ref 200), some (.int x), some (.int y), some (.int 1), none, none, none, none, none]) dX12_parse_16 (by decide) rfl rfl ?_
  refine pv_iconst (v := 0) (by decide) dX12_parse_17 ?_
  refine pv_istore (ls' := [some (.ref 200), some (.int x), some (.int y), some (.int 1), some (.int 0), none, none, none, none]) dX12_parse_18 (by decide) rfl rfl ?_
  refine pv_iconst (v := 0) (by decide) dX12_parse_20 ?_
  refine pv_istore (ls' := [some (.ref 200), some (.int x), some (.int y), some (.int 1), some (.int 0), some (.int 0), none, none, none]) dX12_parse_21 (by decide) rfl rfl ?_
  exact F
set_option maxRecDepth 20000 in
set_option maxHeartbeats 4000000 in
theorem sg_X12_parse_23 {Γ : pv_C} {d kc ks : Nat} {ty : pv_T} {h : pv_H} {r : pv_R} {g : pv_G} {Q : pv_Q} (x1 : Int32) (x2 : Int32) (x3 : Int32) (x4 : Int32) (x5 : Int32) (hd : 1 ≤ d) (hL : pv_Lay ty r) (F : (((h 200 40) ≤ (h 200 51) → ((x3 = 0 → pv_CW Γ (d - 1) mX12_done [.ref 200, .int x1, .int 1] ty h r g (fun (h1 : pv_H) => (((h1 200 49) ≤ 0 → pv_CW Γ (d - 1) mX12_adds [.ref 200, .int x1, .int 3, .int 0] ty h1 r g (fun (h2 : pv_H) => Q (some (.int (-1))) ty h2 r g)) ∧ (¬ (h1 200 49) ≤ 0 → Q (some (.int (h1 200 40))) ty h1 r g)))) ∧ (¬ x3 = 0 → ((x5 = 0 → Q (some (.int (h 200 40))) ty h r g) ∧ (¬ x5 = 0 → Q (some (.int (-1))) ty h r g))))) ∧ (¬ (h 200 40) ≤ (h 200 51) → vp_in (h 200 51) 160 ∧ ((x3 = 0 → pv_E Γ d kc ks mX12_parse 86 [some (.ref 200), some (.int x1), some (.int x2), some (.int x3), some (.int x4), some (.int x5), some (.int (h 339 (Int32.toNatClampNeg (h 200 51)))), none, none] [] ty h r g Q) ∧ (¬ x3 = 0 → ((¬ (h 339 (Int32.toNatClampNeg (h 200 51))) = 40 → pv_CJ Γ (d - 1) mX12_operand [.ref 200, .int x1, .int x2] ty h r g (fun (w3 : Int32) (h3 : pv_H) => ((¬ w3 = 0 → pv_E Γ d kc ks mX12_parse 23 [some (.ref 200), some (.int x1), some (.int x2), some (.int 0), some (.int x4), some (.int 0), none, none, none] [] ty h3 r g Q) ∧ (w3 = 0 → Q (some (.int (h3 200 51))) ty h3 r g)))) ∧ ((h 339 (Int32.toNatClampNeg (h 200 51))) = 40 → pv_CJ Γ (d - 1) mX12_operand [.ref 200, .int x1, .int x2] ty h r g (fun (w4 : Int32) (h4 : pv_H) => ((¬ w4 = 0 → pv_E Γ d kc ks mX12_parse 23 [some (.ref 200), some (.int x1), some (.int x2), some (.int 1), some (.int x4), some (.int 0), none, none, none] [] ty h4 r g Q) ∧ (w4 = 0 → Q (some (.int (h4 200 51))) ty h4 r g)))))))))) : pv_E Γ d kc ks mX12_parse 23 [some (.ref 200), some (.int x1), some (.int x2), some (.int x3), some (.int x4), some (.int x5), none, none, none] [] ty h r g Q := by
  refine pv_aload_n dX12_parse_23 rfl ?_
  refine pv_getI 12 51 dX12_parse_24 fl_X12_256 rfl (lt_200 hL) ?_
  refine pv_aload_n dX12_parse_27 rfl ?_
  refine pv_getI 12 40 dX12_parse_28 fl_X12_240 rfl (lt_200 hL) ?_
  refine pv_icmp_ge (tgt := 345) dX12_parse_31 (by decide) (fun c1 => ?_) (fun c1 => ?_)
  · have F := F.1 c1
    refine pv_iload_n dX12_parse_345 rfl ?_
    refine pv_if_eq (tgt := 363) dX12_parse_346 (by decide) (fun c2 => ?_) (fun c2 => ?_)
    · have F := F.1 c2
      refine pv_aload_n dX12_parse_363 rfl ?_
      refine pv_iload_n dX12_parse_364 rfl ?_
      refine pv_iconst (v := 1) (by decide) dX12_parse_365 ?_
      refine pv_invV (As := [.int x1, .int 1]) (d' := d - 1) dX12_parse_366 moX12_done ml_X12_275 (lt_200 hL) (Or.inl ⟨_, rfl, rfl⟩) (Nat.le_of_ble_eq_true rfl) (by omega) (Nat.zero_le _) (Nat.zero_le _) F (fun v ty' h1 r' g' hq => ?_) rfl
      obtain ⟨e2, e4, e5, e1, F⟩ := hq
      rw [e1, e2, e4, e5]
      refine pv_pc (pc' := 369) rfl ?_
      show pv_E Γ d kc ks mX12_parse 369 [some (.ref 200), some (.int x1), some (.int x2), some (.int x3), some (.int x4), some (.int x5), none, none, none] [] ty h1 r g Q
      refine pv_aload_n dX12_parse_369 rfl ?_
      refine pv_getI 12 49 dX12_parse_370 fl_X12_246 rfl (lt_200 hL) ?_
      refine pv_if_le (tgt := 381) dX12_parse_373 (by decide) (fun c3 => ?_) (fun c3 => ?_)
      · have F := F.1 c3
        refine pv_aload_n dX12_parse_381 rfl ?_
        refine pv_iload_n dX12_parse_382 rfl ?_
        refine pv_iconst (v := 3) (by decide) dX12_parse_383 ?_
        refine pv_iconst (v := 0) (by decide) dX12_parse_384 ?_
        refine pv_invV (As := [.int x1, .int 3, .int 0]) (d' := d - 1) dX12_parse_385 moX12_adds ml_X12_252 (lt_200 hL) (Or.inl ⟨_, rfl, rfl⟩) (Nat.le_of_ble_eq_true rfl) (by omega) (Nat.zero_le _) (Nat.zero_le _) F (fun v ty' h2 r' g' hq => ?_) rfl
        obtain ⟨e2, e4, e5, e1, F⟩ := hq
        rw [e1, e2, e4, e5]
        refine pv_pc (pc' := 388) rfl ?_
        show pv_E Γ d kc ks mX12_parse 388 [some (.ref 200), some (.int x1), some (.int x2), some (.int x3), some (.int x4), some (.int x5), none, none, none] [] ty h2 r g Q
        refine pv_iconst (v := (-1)) (by decide) dX12_parse_388 ?_
        exact pv_ireturn dX12_parse_389 rfl rfl F
      · have F := F.2 c3
        refine pv_aload_n dX12_parse_376 rfl ?_
        refine pv_getI 12 40 dX12_parse_377 fl_X12_240 rfl (lt_200 hL) ?_
        exact pv_ireturn dX12_parse_380 rfl rfl F
    · have F := F.2 c2
      refine pv_iload dX12_parse_349 rfl ?_
      refine pv_if_eq (tgt := 358) dX12_parse_351 (by decide) (fun c4 => ?_) (fun c4 => ?_)
      · have F := F.1 c4
        refine pv_aload_n dX12_parse_358 rfl ?_
        refine pv_getI 12 40 dX12_parse_359 fl_X12_240 rfl (lt_200 hL) ?_
        exact pv_ireturn dX12_parse_362 rfl rfl F
      · have F := F.2 c4
        refine pv_iconst (v := (-1)) (by decide) dX12_parse_354 ?_
        refine pv_goto (tgt := 362) dX12_parse_355 (by decide) ?_
        exact pv_ireturn dX12_parse_362 rfl rfl F
  · have F := F.2 c1
    refine pv_aload_n dX12_parse_34 rfl ?_
    refine pv_getRk 12 39 dX12_parse_35 fl_X12_99 rfl (lt_200 hL) (lr_200_39 hL) ?_
    refine pv_aload_n dX12_parse_38 rfl ?_
    refine pv_getI 12 51 dX12_parse_39 fl_X12_256 rfl (lt_200 hL) ?_
    obtain ⟨q1, F⟩ := F
    refine pv_bald dX12_parse_42 (lt_339 hL) q1 ?_
    refine pv_istore (ls' := [some (.ref 200), some (.int x1), some (.int x2), some (.int x3), some (.int x4), some (.int x5), some (.int (h 339 (Int32.toNatClampNeg (h 200 51)))), none, none]) dX12_parse_43 (by decide) rfl rfl ?_
    refine pv_iload_n dX12_parse_45 rfl ?_
    refine pv_if_eq (tgt := 86) dX12_parse_46 (by decide) (fun c5 => ?_) (fun c5 => ?_)
    · have F := F.1 c5
      exact F
    · have F := F.2 c5
      refine pv_iload dX12_parse_49 rfl ?_
      refine pv_bipush (v := 40) (by decide) dX12_parse_51 ?_
      refine pv_icmp_ne (tgt := 60) dX12_parse_53 (by decide) (fun c6 => ?_) (fun c6 => ?_)
      · have F := F.1 c6
        refine pv_iconst (v := 0) (by decide) dX12_parse_60 ?_
        refine pv_istore (ls' := [some (.ref 200), some (.int x1), some (.int x2), some (.int x3), some (.int x4), some (.int x5), some (.int (h 339 (Int32.toNatClampNeg (h 200 51)))), some (.int 0), none]) dX12_parse_61 (by decide) rfl rfl ?_
        refine pv_aload_n dX12_parse_63 rfl ?_
        refine pv_iload_n dX12_parse_64 rfl ?_
        refine pv_iload_n dX12_parse_65 rfl ?_
        refine pv_invV (As := [.int x1, .int x2]) (d' := d - 1) dX12_parse_66 moX12_operand ml_X12_269 (lt_200 hL) (Or.inl ⟨_, rfl, rfl⟩) (Nat.le_of_ble_eq_true rfl) (by omega) (Nat.zero_le _) (Nat.zero_le _) F (fun v ty' h3 r' g' hq => ?_) rfl
        obtain ⟨e2, e4, e5, w3, e1, F⟩ := hq
        rw [e1, e2, e4, e5]
        refine pv_pc (pc' := 69) rfl ?_
        show pv_E Γ d kc ks mX12_parse 69 [some (.ref 200), some (.int x1), some (.int x2), some (.int x3), some (.int x4), some (.int x5), some (.int (h 339 (Int32.toNatClampNeg (h 200 51)))), some (.int 0), none] [.int w3] ty h3 r g Q
        refine pv_if_ne (tgt := 77) dX12_parse_69 (by decide) (fun c7 => ?_) (fun c7 => ?_)
        · have F := F.1 c7
          refine pv_iload dX12_parse_77 rfl ?_
          refine pv_istore_n (ls' := [some (.ref 200), some (.int x1), some (.int x2), some (.int 0), some (.int x4), some (.int x5), some (.int (h 339 (Int32.toNatClampNeg (h 200 51)))), some (.int 0), none]) dX12_parse_79 (by decide) rfl rfl ?_
          refine pv_iconst (v := 0) (by decide) dX12_parse_80 ?_
          refine pv_istore (ls' := [some (.ref 200), some (.int x1), some (.int x2), some (.int 0), some (.int x4), some (.int 0), some (.int (h 339 (Int32.toNatClampNeg (h 200 51)))), some (.int 0), none]) dX12_parse_81 (by decide) rfl rfl ?_
          refine pv_goto (tgt := 23) dX12_parse_83 (by decide) ?_
          refine pv_forgetL (ls' := [some (.ref 200), some (.int x1), some (.int x2), some (.int 0), some (.int x4), some (.int 0), none, none, none]) (pv_subL_ok ⟨rfl, ⟨rfl, ⟨rfl, ⟨rfl, ⟨rfl, ⟨rfl, trivial⟩⟩⟩⟩⟩⟩) ?_
          exact F
        · have F := F.2 c7
          refine pv_aload_n dX12_parse_72 rfl ?_
          refine pv_getI 12 51 dX12_parse_73 fl_X12_256 rfl (lt_200 hL) ?_
          exact pv_ireturn dX12_parse_76 rfl rfl F
      · have F := F.2 c6
        refine pv_iconst (v := 1) (by decide) dX12_parse_56 ?_
        refine pv_goto (tgt := 61) dX12_parse_57 (by decide) ?_
        refine pv_istore (ls' := [some (.ref 200), some (.int x1), some (.int x2), some (.int x3), some (.int x4), some (.int x5), some (.int (h 339 (Int32.toNatClampNeg (h 200 51)))), some (.int 1), none]) dX12_parse_61 (by decide) rfl rfl ?_
        refine pv_aload_n dX12_parse_63 rfl ?_
        refine pv_iload_n dX12_parse_64 rfl ?_
        refine pv_iload_n dX12_parse_65 rfl ?_
        refine pv_invV (As := [.int x1, .int x2]) (d' := d - 1) dX12_parse_66 moX12_operand ml_X12_269 (lt_200 hL) (Or.inl ⟨_, rfl, rfl⟩) (Nat.le_of_ble_eq_true rfl) (by omega) (Nat.zero_le _) (Nat.zero_le _) F (fun v ty' h4 r' g' hq => ?_) rfl
        obtain ⟨e2, e4, e5, w4, e1, F⟩ := hq
        rw [e1, e2, e4, e5]
        refine pv_pc (pc' := 69) rfl ?_
        show pv_E Γ d kc ks mX12_parse 69 [some (.ref 200), some (.int x1), some (.int x2), some (.int x3), some (.int x4), some (.int x5), some (.int (h 339 (Int32.toNatClampNeg (h 200 51)))), some (.int 1), none] [.int w4] ty h4 r g Q
        refine pv_if_ne (tgt := 77) dX12_parse_69 (by decide) (fun c8 => ?_) (fun c8 => ?_)
        · have F := F.1 c8
          refine pv_iload dX12_parse_77 rfl ?_
          refine pv_istore_n (ls' := [some (.ref 200), some (.int x1), some (.int x2), some (.int 1), some (.int x4), some (.int x5), some (.int (h 339 (Int32.toNatClampNeg (h 200 51)))), some (.int 1), none]) dX12_parse_79 (by decide) rfl rfl ?_
          refine pv_iconst (v := 0) (by decide) dX12_parse_80 ?_
          refine pv_istore (ls' := [some (.ref 200), some (.int x1), some (.int x2), some (.int 1), some (.int x4), some (.int 0), some (.int (h 339 (Int32.toNatClampNeg (h 200 51)))), some (.int 1), none]) dX12_parse_81 (by decide) rfl rfl ?_
          refine pv_goto (tgt := 23) dX12_parse_83 (by decide) ?_
          refine pv_forgetL (ls' := [some (.ref 200), some (.int x1), some (.int x2), some (.int 1), some (.int x4), some (.int 0), none, none, none]) (pv_subL_ok ⟨rfl, ⟨rfl, ⟨rfl, ⟨rfl, ⟨rfl, ⟨rfl, trivial⟩⟩⟩⟩⟩⟩) ?_
          exact F
        · have F := F.2 c8
          refine pv_aload_n dX12_parse_72 rfl ?_
          refine pv_getI 12 51 dX12_parse_73 fl_X12_256 rfl (lt_200 hL) ?_
          exact pv_ireturn dX12_parse_76 rfl rfl F
set_option maxRecDepth 20000 in
set_option maxHeartbeats 4000000 in
theorem sg_X12_parse_86 {Γ : pv_C} {d kc ks : Nat} {ty : pv_T} {h : pv_H} {r : pv_R} {g : pv_G} {Q : pv_Q} (x1 : Int32) (x2 : Int32) (x3 : Int32) (x4 : Int32) (x5 : Int32) (x6 : Int32) (hd : 1 ≤ d) (hL : pv_Lay ty r) (F : (((mt_sg x6) ≤ 0 → ((¬ x6 = 41 → ((x6 = 63 → pv_E Γ d kc ks mX12_parse 246 [some (.ref 200), some (.int x1), some (.int x2), none, some (.int x4), none, some (.int x6), none, none] [] ty h r g Q) ∧ (¬ x6 = 63 → ((¬ x6 = 59 → Q (some (.int (h 200 51))) ty h r g) ∧ (x6 = 59 → pv_E Γ d kc ks mX12_parse 246 [some (.ref 200), some (.int x1), some (.int x2), none, some (.int x4), none, some (.int x6), none, none] [] ty h r g Q))))) ∧ (x6 = 41 → pv_CW Γ (d - 1) mX12_done [.ref 200, .int x1, .int 1] ty h r g (fun (h1 : pv_H) => ((¬ (h1 200 49) = 0 → (∀ h2 : pv_H, h2 = pv_up h1 200 49 ((h1 200 49) - 1) → pv_E Γ d kc ks mX12_parse 332 [some (.ref 200), some (.int x1), some (.int x2), some (.int x3), some (.int x4), some (.int x5), none, none, none] [] ty h2 r g Q)) ∧ ((h1 200 49) = 0 → Q (some (.int (h1 200 51))) ty h1 r g)))))) ∧ (¬ (mt_sg x6) ≤ 0 → ((¬ ((mt_sg x6) / 10) = 4 → pv_CW Γ (d - 1) mX12_done [.ref 200, .int x1, .int ((mt_sg x6) / 10)] ty h r g (fun (h3 : pv_H) => pv_E Γ d kc ks mX12_parse 168 [some (.ref 200), some (.int x1), some (.int x2), none, some (.int x4), some (.int x5), none, some (.int (mt_sg x6)), none] [] ty h3 r g Q)) ∧ (((mt_sg x6) / 10) = 4 → pv_CW Γ (d - 1) mX12_done [.ref 200, .int x1, .int 5] ty h r g (fun (h4 : pv_H) => (((h4 200 49) ≤ 0 → pv_E Γ d kc ks mX12_parse 168 [some (.ref 200), some (.int x1), some (.int x2), none, some (.int x4), some (.int x5), none, some (.int (mt_sg x6)), none] [] ty h4 r g Q) ∧ (¬ (h4 200 49) ≤ 0 → vp_in ((h4 200 49) - 1) 170 ∧ ((¬ ((h4 348 (Int32.toNatClampNeg ((h4 200 49) - 1))) / 10) = 4 → pv_E Γ d kc ks mX12_parse 168 [some (.ref 200), some (.int x1), some (.int x2), none, some (.int x4), some (.int x5), none, some (.int (mt_sg x6)), none] [] ty h4 r g Q) ∧ (((h4 348 (Int32.toNatClampNeg ((h4 200 49) - 1))) / 10) = 4 → Q (some (.int (h4 200 51))) ty h4 r g)))))))))) : pv_E Γ d kc ks mX12_parse 86 [some (.ref 200), some (.int x1), some (.int x2), some (.int x3), some (.int x4), some (.int x5), some (.int x6), none, none] [] ty h r g Q := by
  refine pv_iload dX12_parse_86 rfl ?_
  refine pv_invS (As := [.int x6]) (d' := d - 1) dX12_parse_88 moX12_signOf ml_X12_272 (Nat.le_of_ble_eq_true rfl) (by omega) (Nat.zero_le _) (Nat.zero_le _) (ct_X12_signOf (by omega)) (fun v ty' h' r' g' hq => ?_) rfl
  obtain ⟨e1, e2, e3, e4, e5⟩ := hq
  rw [e1, e2, e3, e4, e5]
  refine pv_pc (pc' := 91) rfl ?_
  show pv_E Γ d kc ks mX12_parse 91 [some (.ref 200), some (.int x1), some (.int x2), some (.int x3), some (.int x4), some (.int x5), some (.int x6), none, none] [.int (mt_sg x6)] ty h r g Q
  refine pv_istore (ls' := [some (.ref 200), some (.int x1), some (.int x2), some (.int x3), some (.int x4), some (.int x5), some (.int x6), some (.int (mt_sg x6)), none]) dX12_parse_91 (by decide) rfl rfl ?_
  refine pv_iload dX12_parse_93 rfl ?_
  refine pv_if_le (tgt := 194) dX12_parse_95 (by decide) (fun c1 => ?_) (fun c1 => ?_)
  · have F := F.1 c1
    refine pv_iload dX12_parse_194 rfl ?_
    refine pv_bipush (v := 41) (by decide) dX12_parse_196 ?_
    refine pv_icmp_ne (tgt := 232) dX12_parse_198 (by decide) (fun c2 => ?_) (fun c2 => ?_)
    · have F := F.1 c2
      refine pv_iload dX12_parse_232 rfl ?_
      refine pv_bipush (v := 63) (by decide) dX12_parse_234 ?_
      refine pv_icmp_eq (tgt := 246) dX12_parse_236 (by decide) (fun c3 => ?_) (fun c3 => ?_)
      · have F := F.1 c3
        refine pv_forgetL (ls' := [some (.ref 200), some (.int x1), some (.int x2), none, some (.int x4), none, some (.int x6), none, none]) (pv_subL_ok ⟨rfl, ⟨rfl, ⟨rfl, ⟨rfl, ⟨rfl, trivial⟩⟩⟩⟩⟩) ?_
        exact F
      · have F := F.2 c3
        refine pv_iload dX12_parse_239 rfl ?_
        refine pv_bipush (v := 59) (by decide) dX12_parse_241 ?_
        refine pv_icmp_ne (tgt := 327) dX12_parse_243 (by decide) (fun c4 => ?_) (fun c4 => ?_)
        · have F := F.1 c4
          refine pv_aload_n dX12_parse_327 rfl ?_
          refine pv_getI 12 51 dX12_parse_328 fl_X12_256 rfl (lt_200 hL) ?_
          exact pv_ireturn dX12_parse_331 rfl rfl F
        · have F := F.2 c4
          refine pv_forgetL (ls' := [some (.ref 200), some (.int x1), some (.int x2), none, some (.int x4), none, some (.int x6), none, none]) (pv_subL_ok ⟨rfl, ⟨rfl, ⟨rfl, ⟨rfl, ⟨rfl, trivial⟩⟩⟩⟩⟩) ?_
          exact F
    · have F := F.2 c2
      refine pv_aload_n dX12_parse_201 rfl ?_
      refine pv_iload_n dX12_parse_202 rfl ?_
      refine pv_iconst (v := 1) (by decide) dX12_parse_203 ?_
      refine pv_invV (As := [.int x1, .int 1]) (d' := d - 1) dX12_parse_204 moX12_done ml_X12_275 (lt_200 hL) (Or.inl ⟨_, rfl, rfl⟩) (Nat.le_of_ble_eq_true rfl) (by omega) (Nat.zero_le _) (Nat.zero_le _) F (fun v ty' h1 r' g' hq => ?_) rfl
      obtain ⟨e2, e4, e5, e1, F⟩ := hq
      rw [e1, e2, e4, e5]
      refine pv_pc (pc' := 207) rfl ?_
      show pv_E Γ d kc ks mX12_parse 207 [some (.ref 200), some (.int x1), some (.int x2), some (.int x3), some (.int x4), some (.int x5), some (.int x6), some (.int (mt_sg x6)), none] [] ty h1 r g Q
      refine pv_aload_n dX12_parse_207 rfl ?_
      refine pv_getI 12 49 dX12_parse_208 fl_X12_246 rfl (lt_200 hL) ?_
      refine pv_if_ne (tgt := 219) dX12_parse_211 (by decide) (fun c5 => ?_) (fun c5 => ?_)
      · have F := F.1 c5
        refine pv_aload_n dX12_parse_219 rfl ?_
        refine pv_dup rfl dX12_parse_220 ?_
        refine pv_getI 12 49 dX12_parse_221 fl_X12_246 rfl (lt_200 hL) ?_
        refine pv_iconst (v := 1) (by decide) dX12_parse_224 ?_
        refine pv_isub dX12_parse_225 ?_
        obtain ⟨h2, eh2⟩ : ∃ h2 : pv_H, h2 = pv_up h1 200 49 ((h1 200 49) - 1) := ⟨_, rfl⟩
        have F := F h2 eh2
        refine pv_putI 12 49 dX12_parse_226 fl_X12_246 ⟨_, rfl, Or.inl rfl⟩ (Or.inl rfl) (lt_200 hL) ?_
        refine pv_hE eh2 ?_
        refine pv_goto (tgt := 332) dX12_parse_229 (by decide) ?_
        refine pv_forgetL (ls' := [some (.ref 200), some (.int x1), some (.int x2), some (.int x3), some (.int x4), some (.int x5), none, none, none]) (pv_subL_ok ⟨rfl, ⟨rfl, ⟨rfl, ⟨rfl, ⟨rfl, ⟨rfl, trivial⟩⟩⟩⟩⟩⟩) ?_
        exact F
      · have F := F.2 c5
        refine pv_aload_n dX12_parse_214 rfl ?_
        refine pv_getI 12 51 dX12_parse_215 fl_X12_256 rfl (lt_200 hL) ?_
        exact pv_ireturn dX12_parse_218 rfl rfl F
  · have F := F.2 c1
    refine pv_iload dX12_parse_98 rfl ?_
    refine pv_invS (As := [.int (mt_sg x6)]) (d' := d - 1) dX12_parse_100 moX12_tight ml_X12_249 (Nat.le_of_ble_eq_true rfl) (by omega) (Nat.zero_le _) (Nat.zero_le _) (ct_X12_tight (by omega)) (fun v ty' h' r' g' hq => ?_) rfl
    obtain ⟨e1, e2, e3, e4, e5⟩ := hq
    rw [e1, e2, e3, e4, e5]
    refine pv_pc (pc' := 103) rfl ?_
    show pv_E Γ d kc ks mX12_parse 103 [some (.ref 200), some (.int x1), some (.int x2), some (.int x3), some (.int x4), some (.int x5), some (.int x6), some (.int (mt_sg x6)), none] [.int ((mt_sg x6) / 10)] ty h r g Q
    refine pv_iconst (v := 4) (by decide) dX12_parse_103 ?_
    refine pv_icmp_ne (tgt := 111) dX12_parse_104 (by decide) (fun c6 => ?_) (fun c6 => ?_)
    · have F := F.1 c6
      refine pv_iconst (v := 0) (by decide) dX12_parse_111 ?_
      refine pv_istore (ls' := [some (.ref 200), some (.int x1), some (.int x2), some (.int x3), some (.int x4), some (.int x5), some (.int x6), some (.int (mt_sg x6)), some (.int 0)]) dX12_parse_112 (by decide) rfl rfl ?_
      refine pv_aload_n dX12_parse_114 rfl ?_
      refine pv_iload_n dX12_parse_115 rfl ?_
      refine pv_iload dX12_parse_116 rfl ?_
      refine pv_if_eq (tgt := 125) dX12_parse_118 (by decide) (fun c7 => ?_) (fun c7 => absurd c7 (by decide))
      refine pv_iload dX12_parse_125 rfl ?_
      refine pv_invS (As := [.int (mt_sg x6)]) (d' := d - 1) dX12_parse_127 moX12_tight ml_X12_249 (Nat.le_of_ble_eq_true rfl) (by omega) (Nat.zero_le _) (Nat.zero_le _) (ct_X12_tight (by omega)) (fun v ty' h' r' g' hq => ?_) rfl
      obtain ⟨e1, e2, e3, e4, e5⟩ := hq
      rw [e1, e2, e3, e4, e5]
      refine pv_pc (pc' := 130) rfl ?_
      show pv_E Γ d kc ks mX12_parse 130 [some (.ref 200), some (.int x1), some (.int x2), some (.int x3), some (.int x4), some (.int x5), some (.int x6), some (.int (mt_sg x6)), some (.int 0)] [.int ((mt_sg x6) / 10), .int x1, .ref 200] ty h r g Q
      refine pv_invV (As := [.int x1, .int ((mt_sg x6) / 10)]) (d' := d - 1) dX12_parse_130 moX12_done ml_X12_275 (lt_200 hL) (Or.inl ⟨_, rfl, rfl⟩) (Nat.le_of_ble_eq_true rfl) (by omega) (Nat.zero_le _) (Nat.zero_le _) F (fun v ty' h3 r' g' hq => ?_) rfl
      obtain ⟨e2, e4, e5, e1, F⟩ := hq
      rw [e1, e2, e4, e5]
      refine pv_pc (pc' := 133) rfl ?_
      show pv_E Γ d kc ks mX12_parse 133 [some (.ref 200), some (.int x1), some (.int x2), some (.int x3), some (.int x4), some (.int x5), some (.int x6), some (.int (mt_sg x6)), some (.int 0)] [] ty h3 r g Q
      refine pv_iload dX12_parse_133 rfl ?_
      refine pv_if_eq (tgt := 168) dX12_parse_135 (by decide) (fun c8 => ?_) (fun c8 => absurd c8 (by decide))
      refine pv_forgetL (ls' := [some (.ref 200), some (.int x1), some (.int x2), none, some (.int x4), some (.int x5), none, some (.int (mt_sg x6)), none]) (pv_subL_ok ⟨rfl, ⟨rfl, ⟨rfl, ⟨rfl, ⟨rfl, ⟨rfl, trivial⟩⟩⟩⟩⟩⟩) ?_
      exact F
    · have F := F.2 c6
      refine pv_iconst (v := 1) (by decide) dX12_parse_107 ?_
      refine pv_goto (tgt := 112) dX12_parse_108 (by decide) ?_
      refine pv_istore (ls' := [some (.ref 200), some (.int x1), some (.int x2), some (.int x3), some (.int x4), some (.int x5), some (.int x6), some (.int (mt_sg x6)), some (.int 1)]) dX12_parse_112 (by decide) rfl rfl ?_
      refine pv_aload_n dX12_parse_114 rfl ?_
      refine pv_iload_n dX12_parse_115 rfl ?_
      refine pv_iload dX12_parse_116 rfl ?_
      refine pv_if_eq (tgt := 125) dX12_parse_118 (by decide) (fun c9 => absurd c9 (by decide)) (fun c9 => ?_)
      refine pv_iconst (v := 5) (by decide) dX12_parse_121 ?_
      refine pv_pc (pc' := 122) rfl ?_
      refine pv_goto (tgt := 130) dX12_parse_122 (by decide) ?_
      refine pv_invV (As := [.int x1, .int 5]) (d' := d - 1) dX12_parse_130 moX12_done ml_X12_275 (lt_200 hL) (Or.inl ⟨_, rfl, rfl⟩) (Nat.le_of_ble_eq_true rfl) (by omega) (Nat.zero_le _) (Nat.zero_le _) F (fun v ty' h4 r' g' hq => ?_) rfl
      obtain ⟨e2, e4, e5, e1, F⟩ := hq
      rw [e1, e2, e4, e5]
      refine pv_pc (pc' := 133) rfl ?_
      show pv_E Γ d kc ks mX12_parse 133 [some (.ref 200), some (.int x1), some (.int x2), some (.int x3), some (.int x4), some (.int x5), some (.int x6), some (.int (mt_sg x6)), some (.int 1)] [] ty h4 r g Q
      refine pv_iload dX12_parse_133 rfl ?_
      refine pv_if_eq (tgt := 168) dX12_parse_135 (by decide) (fun c10 => absurd c10 (by decide)) (fun c10 => ?_)
      refine pv_aload_n dX12_parse_138 rfl ?_
      refine pv_getI 12 49 dX12_parse_139 fl_X12_246 rfl (lt_200 hL) ?_
      refine pv_if_le (tgt := 168) dX12_parse_142 (by decide) (fun c11 => ?_) (fun c11 => ?_)
      · have F := F.1 c11
        refine pv_forgetL (ls' := [some (.ref 200), some (.int x1), some (.int x2), none, some (.int x4), some (.int x5), none, some (.int (mt_sg x6)), none]) (pv_subL_ok ⟨rfl, ⟨rfl, ⟨rfl, ⟨rfl, ⟨rfl, ⟨rfl, trivial⟩⟩⟩⟩⟩⟩) ?_
        exact F
      · have F := F.2 c11
        refine pv_aload_n dX12_parse_145 rfl ?_
        refine pv_getRk 12 48 dX12_parse_146 fl_X12_121 rfl (lt_200 hL) (lr_200_48 hL) ?_
        refine pv_aload_n dX12_parse_149 rfl ?_
        refine pv_getI 12 49 dX12_parse_150 fl_X12_246 rfl (lt_200 hL) ?_
        refine pv_iconst (v := 1) (by decide) dX12_parse_153 ?_
        refine pv_isub dX12_parse_154 ?_
        refine pv_pc (pc' := 155) rfl ?_
        obtain ⟨q1, F⟩ := F
        refine pv_iald dX12_parse_155 (lt_348 hL) q1 ?_
        refine pv_invS (As := [.int (h4 348 (Int32.toNatClampNeg ((h4 200 49) - 1)))]) (d' := d - 1) dX12_parse_156 moX12_tight ml_X12_249 (Nat.le_of_ble_eq_true rfl) (by omega) (Nat.zero_le _) (Nat.zero_le _) (ct_X12_tight (by omega)) (fun v ty' h' r' g' hq => ?_) rfl
        obtain ⟨e1, e2, e3, e4, e5⟩ := hq
        rw [e1, e2, e3, e4, e5]
        refine pv_pc (pc' := 159) rfl ?_
        show pv_E Γ d kc ks mX12_parse 159 [some (.ref 200), some (.int x1), some (.int x2), some (.int x3), some (.int x4), some (.int x5), some (.int x6), some (.int (mt_sg x6)), some (.int 1)] [.int ((h4 348 (Int32.toNatClampNeg ((h4 200 49) - 1))) / 10)] ty h4 r g Q
        refine pv_iconst (v := 4) (by decide) dX12_parse_159 ?_
        refine pv_icmp_ne (tgt := 168) dX12_parse_160 (by decide) (fun c12 => ?_) (fun c12 => ?_)
        · have F := F.1 c12
          refine pv_forgetL (ls' := [some (.ref 200), some (.int x1), some (.int x2), none, some (.int x4), some (.int x5), none, some (.int (mt_sg x6)), none]) (pv_subL_ok ⟨rfl, ⟨rfl, ⟨rfl, ⟨rfl, ⟨rfl, ⟨rfl, trivial⟩⟩⟩⟩⟩⟩) ?_
          exact F
        · have F := F.2 c12
          refine pv_aload_n dX12_parse_163 rfl ?_
          refine pv_getI 12 51 dX12_parse_164 fl_X12_256 rfl (lt_200 hL) ?_
          exact pv_ireturn dX12_parse_167 rfl rfl F
set_option maxRecDepth 20000 in
set_option maxHeartbeats 4000000 in
theorem sg_X12_parse_168 {Γ : pv_C} {d kc ks : Nat} {ty : pv_T} {h : pv_H} {r : pv_R} {g : pv_G} {Q : pv_Q} (x1 : Int32) (x2 : Int32) (x4 : Int32) (x5 : Int32) (x7 : Int32) (hL : pv_Lay ty r) (F : vp_in (h 200 49) 170 ∧ (∀ h1 : pv_H, h1 = pv_up h 348 (Int32.toNatClampNeg (h 200 49)) x7 → (∀ h2 : pv_H, h2 = pv_up h1 200 49 ((h1 200 49) + 1) → pv_E Γ d kc ks mX12_parse 332 [some (.ref 200), some (.int x1), some (.int x2), some (.int 1), some (.int x4), some (.int x5), none, none, none] [] ty h2 r g Q))) : pv_E Γ d kc ks mX12_parse 168 [some (.ref 200), some (.int x1), some (.int x2), none, some (.int x4), some (.int x5), none, some (.int x7), none] [] ty h r g Q := by
  refine pv_aload_n dX12_parse_168 rfl ?_
  refine pv_getRk 12 48 dX12_parse_169 fl_X12_121 rfl (lt_200 hL) (lr_200_48 hL) ?_
  refine pv_aload_n dX12_parse_172 rfl ?_
  refine pv_getI 12 49 dX12_parse_173 fl_X12_246 rfl (lt_200 hL) ?_
  refine pv_iload dX12_parse_176 rfl ?_
  obtain ⟨q1, F⟩ := F
  obtain ⟨h1, eh1⟩ : ∃ h1 : pv_H, h1 = pv_up h 348 (Int32.toNatClampNeg (h 200 49)) x7 := ⟨_, rfl⟩
  have F := F h1 eh1
  refine pv_iast dX12_parse_178 (lt_348 hL) (by decide) q1 ?_
  refine pv_hE eh1 ?_
  refine pv_aload_n dX12_parse_179 rfl ?_
  refine pv_dup rfl dX12_parse_180 ?_
  refine pv_getI 12 49 dX12_parse_181 fl_X12_246 rfl (lt_200 hL) ?_
  refine pv_iconst (v := 1) (by decide) dX12_parse_184 ?_
  refine pv_iadd dX12_parse_185 ?_
  obtain ⟨h2, eh2⟩ : ∃ h2 : pv_H, h2 = pv_up h1 200 49 ((h1 200 49) + 1) := ⟨_, rfl⟩
  have F := F h2 eh2
  refine pv_putI 12 49 dX12_parse_186 fl_X12_246 ⟨_, rfl, Or.inl rfl⟩ (Or.inl rfl) (lt_200 hL) ?_
  refine pv_hE eh2 ?_
  refine pv_iconst (v := 1) (by decide) dX12_parse_189 ?_
  refine pv_istore_n (ls' := [some (.ref 200), some (.int x1), some (.int x2), some (.int 1), some (.int x4), some (.int x5), none, some (.int x7), none]) dX12_parse_190 (by decide) rfl rfl ?_
  refine pv_goto (tgt := 332) dX12_parse_191 (by decide) ?_
  refine pv_forgetL (ls' := [some (.ref 200), some (.int x1), some (.int x2), some (.int 1), some (.int x4), some (.int x5), none, none, none]) (pv_subL_ok ⟨rfl, ⟨rfl, ⟨rfl, ⟨rfl, ⟨rfl, ⟨rfl, trivial⟩⟩⟩⟩⟩⟩) ?_
  exact F
set_option maxRecDepth 20000 in
set_option maxHeartbeats 4000000 in
theorem sg_X12_parse_246 {Γ : pv_C} {d kc ks : Nat} {ty : pv_T} {h : pv_H} {r : pv_R} {g : pv_G} {Q : pv_Q} (x1 : Int32) (x2 : Int32) (x4 : Int32) (x6 : Int32) (hd : 1 ≤ d) (hL : pv_Lay ty r) (F : pv_CW Γ (d - 1) mX12_done [.ref 200, .int x1, .int 1] ty h r g (fun (h1 : pv_H) => ((0 < (h1 200 49) → Q (some (.int (h1 200 51))) ty h1 r g) ∧ (¬ 0 < (h1 200 49) → ((¬ x6 = 63 → pv_E Γ d kc ks mX12_parse 276 [some (.ref 200), some (.int x1), some (.int x2), none, none, none, some (.int x6), none, none] [] ty h1 r g Q) ∧ (x6 = 63 → ((x4 = 0 → pv_E Γ d kc ks mX12_parse 276 [some (.ref 200), some (.int x1), some (.int x2), none, none, none, some (.int x6), none, none] [] ty h1 r g Q) ∧ (¬ x4 = 0 → Q (some (.int (h1 200 51))) ty h1 r g)))))))) : pv_E Γ d kc ks mX12_parse 246 [some (.ref 200), some (.int x1), some (.int x2), none, some (.int x4), none, some (.int x6), none, none] [] ty h r g Q := by
  refine pv_aload_n dX12_parse_246 rfl ?_
  refine pv_iload_n dX12_parse_247 rfl ?_
  refine pv_iconst (v := 1) (by decide) dX12_parse_248 ?_
  refine pv_invV (As := [.int x1, .int 1]) (d' := d - 1) dX12_parse_249 moX12_done ml_X12_275 (lt_200 hL) (Or.inl ⟨_, rfl, rfl⟩) (Nat.le_of_ble_eq_true rfl) (by omega) (Nat.zero_le _) (Nat.zero_le _) F (fun v ty' h1 r' g' hq => ?_) rfl
  obtain ⟨e2, e4, e5, e1, F⟩ := hq
  rw [e1, e2, e4, e5]
  refine pv_pc (pc' := 252) rfl ?_
  show pv_E Γ d kc ks mX12_parse 252 [some (.ref 200), some (.int x1), some (.int x2), none, some (.int x4), none, some (.int x6), none, none] [] ty h1 r g Q
  refine pv_aload_n dX12_parse_252 rfl ?_
  refine pv_getI 12 49 dX12_parse_253 fl_X12_246 rfl (lt_200 hL) ?_
  refine pv_if_gt (tgt := 271) dX12_parse_256 (by decide) (fun c1 => ?_) (fun c1 => ?_)
  · have F := F.1 c1
    refine pv_aload_n dX12_parse_271 rfl ?_
    refine pv_getI 12 51 dX12_parse_272 fl_X12_256 rfl (lt_200 hL) ?_
    exact pv_ireturn dX12_parse_275 rfl rfl F
  · have F := F.2 c1
    refine pv_iload dX12_parse_259 rfl ?_
    refine pv_bipush (v := 63) (by decide) dX12_parse_261 ?_
    refine pv_icmp_ne (tgt := 276) dX12_parse_263 (by decide) (fun c2 => ?_) (fun c2 => ?_)
    · have F := F.1 c2
      refine pv_forgetL (ls' := [some (.ref 200), some (.int x1), some (.int x2), none, none, none, some (.int x6), none, none]) (pv_subL_ok ⟨rfl, ⟨rfl, ⟨rfl, ⟨rfl, trivial⟩⟩⟩⟩) ?_
      exact F
    · have F := F.2 c2
      refine pv_iload dX12_parse_266 rfl ?_
      refine pv_if_eq (tgt := 276) dX12_parse_268 (by decide) (fun c3 => ?_) (fun c3 => ?_)
      · have F := F.1 c3
        refine pv_forgetL (ls' := [some (.ref 200), some (.int x1), some (.int x2), none, none, none, some (.int x6), none, none]) (pv_subL_ok ⟨rfl, ⟨rfl, ⟨rfl, ⟨rfl, trivial⟩⟩⟩⟩) ?_
        exact F
      · have F := F.2 c3
        refine pv_aload_n dX12_parse_271 rfl ?_
        refine pv_getI 12 51 dX12_parse_272 fl_X12_256 rfl (lt_200 hL) ?_
        exact pv_ireturn dX12_parse_275 rfl rfl F
set_option maxRecDepth 20000 in
set_option maxHeartbeats 4000000 in
theorem sg_X12_parse_332 {Γ : pv_C} {d kc ks : Nat} {ty : pv_T} {h : pv_H} {r : pv_R} {g : pv_G} {Q : pv_Q} (x1 : Int32) (x2 : Int32) (x3 : Int32) (x4 : Int32) (x5 : Int32) (hL : pv_Lay ty r) (F : (∀ h1 : pv_H, h1 = pv_up h 200 51 ((h 200 51) + 1) → pv_E Γ d kc ks mX12_parse 23 [some (.ref 200), some (.int x1), some (.int x2), some (.int x3), some (.int x4), some (.int x5), none, none, none] [] ty h1 r g Q)) : pv_E Γ d kc ks mX12_parse 332 [some (.ref 200), some (.int x1), some (.int x2), some (.int x3), some (.int x4), some (.int x5), none, none, none] [] ty h r g Q := by
  refine pv_aload_n dX12_parse_332 rfl ?_
  refine pv_dup rfl dX12_parse_333 ?_
  refine pv_getI 12 51 dX12_parse_334 fl_X12_256 rfl (lt_200 hL) ?_
  refine pv_iconst (v := 1) (by decide) dX12_parse_337 ?_
  refine pv_iadd dX12_parse_338 ?_
  obtain ⟨h1, eh1⟩ : ∃ h1 : pv_H, h1 = pv_up h 200 51 ((h 200 51) + 1) := ⟨_, rfl⟩
  have F := F h1 eh1
  refine pv_putI 12 51 dX12_parse_339 fl_X12_256 ⟨_, rfl, Or.inl rfl⟩ (Or.inl rfl) (lt_200 hL) ?_
  refine pv_hE eh1 ?_
  refine pv_goto (tgt := 23) dX12_parse_342 (by decide) ?_
  exact F
set_option maxRecDepth 20000 in
set_option maxHeartbeats 4000000 in
theorem sg_X12_parse_276 {Γ : pv_C} {d kc ks : Nat} {ty : pv_T} {h : pv_H} {r : pv_R} {g : pv_G} {Q : pv_Q} (x1 : Int32) (x2 : Int32) (x6 : Int32) (hd : 1 ≤ d) (hL : pv_Lay ty r) (F : ((¬ x6 = 63 → pv_CW Γ (d - 1) mX12_adds [.ref 200, .int x1, .int 3, .int 0] ty h r g (fun (h1 : pv_H) => ((¬ x6 = 63 → ((¬ x6 = 59 → pv_E Γ d kc ks mX12_parse 332 [some (.ref 200), some (.int x1), some (.int x2), some (.int 1), some (.int 0), some (.int 0), none, none, none] [] ty h1 r g Q) ∧ (x6 = 59 → pv_E Γ d kc ks mX12_parse 332 [some (.ref 200), some (.int x1), some (.int x2), some (.int 1), some (.int 0), some (.int 1), none, none, none] [] ty h1 r g Q))) ∧ (x6 = 63 → ((¬ x6 = 59 → pv_E Γ d kc ks mX12_parse 332 [some (.ref 200), some (.int x1), some (.int x2), some (.int 1), some (.int 1), some (.int 0), none, none, none] [] ty h1 r g Q) ∧ (x6 = 59 → pv_E Γ d kc ks mX12_parse 332 [some (.ref 200), some (.int x1), some (.int x2), some (.int 1), some (.int 1), some (.int 1), none, none, none] [] ty h1 r g Q)))))) ∧ (x6 = 63 → pv_CW Γ (d - 1) mX12_adds [.ref 200, .int x1, .int 2, .int 0] ty h r g (fun (h2 : pv_H) => ((¬ x6 = 63 → ((¬ x6 = 59 → pv_E Γ d kc ks mX12_parse 332 [some (.ref 200), some (.int x1), some (.int x2), some (.int 1), some (.int 0), some (.int 0), none, none, none] [] ty h2 r g Q) ∧ (x6 = 59 → pv_E Γ d kc ks mX12_parse 332 [some (.ref 200), some (.int x1), some (.int x2), some (.int 1), some (.int 0), some (.int 1), none, none, none] [] ty h2 r g Q))) ∧ (x6 = 63 → ((¬ x6 = 59 → pv_E Γ d kc ks mX12_parse 332 [some (.ref 200), some (.int x1), some (.int x2), some (.int 1), some (.int 1), some (.int 0), none, none, none] [] ty h2 r g Q) ∧ (x6 = 59 → pv_E Γ d kc ks mX12_parse 332 [some (.ref 200), some (.int x1), some (.int x2), some (.int 1), some (.int 1), some (.int 1), none, none, none] [] ty h2 r g Q)))))))) : pv_E Γ d kc ks mX12_parse 276 [some (.ref 200), some (.int x1), some (.int x2), none, none, none, some (.int x6), none, none] [] ty h r g Q := by
  refine pv_aload_n dX12_parse_276 rfl ?_
  refine pv_iload_n dX12_parse_277 rfl ?_
  refine pv_iload dX12_parse_278 rfl ?_
  refine pv_bipush (v := 63) (by decide) dX12_parse_280 ?_
  refine pv_icmp_ne (tgt := 289) dX12_parse_282 (by decide) (fun c1 => ?_) (fun c1 => ?_)
  · have F := F.1 c1
    refine pv_iconst (v := 3) (by decide) dX12_parse_289 ?_
    refine pv_iconst (v := 0) (by decide) dX12_parse_290 ?_
    refine pv_invV (As := [.int x1, .int 3, .int 0]) (d' := d - 1) dX12_parse_291 moX12_adds ml_X12_252 (lt_200 hL) (Or.inl ⟨_, rfl, rfl⟩) (Nat.le_of_ble_eq_true rfl) (by omega) (Nat.zero_le _) (Nat.zero_le _) F (fun v ty' h1 r' g' hq => ?_) rfl
    obtain ⟨e2, e4, e5, e1, F⟩ := hq
    rw [e1, e2, e4, e5]
    refine pv_pc (pc' := 294) rfl ?_
    show pv_E Γ d kc ks mX12_parse 294 [some (.ref 200), some (.int x1), some (.int x2), none, none, none, some (.int x6), none, none] [] ty h1 r g Q
    refine pv_iload dX12_parse_294 rfl ?_
    refine pv_bipush (v := 63) (by decide) dX12_parse_296 ?_
    refine pv_icmp_ne (tgt := 305) dX12_parse_298 (by decide) (fun c2 => ?_) (fun c2 => ?_)
    · have F := F.1 c2
      refine pv_iconst (v := 0) (by decide) dX12_parse_305 ?_
      refine pv_istore (ls' := [some (.ref 200), some (.int x1), some (.int x2), none, some (.int 0), none, some (.int x6), none, none]) dX12_parse_306 (by decide) rfl rfl ?_
      refine pv_iconst (v := 1) (by decide) dX12_parse_308 ?_
      refine pv_istore_n (ls' := [some (.ref 200), some (.int x1), some (.int x2), some (.int 1), some (.int 0), none, some (.int x6), none, none]) dX12_parse_309 (by decide) rfl rfl ?_
      refine pv_iload dX12_parse_310 rfl ?_
      refine pv_bipush (v := 59) (by decide) dX12_parse_312 ?_
      refine pv_pc (pc' := 314) rfl ?_
      refine pv_icmp_ne (tgt := 321) dX12_parse_314 (by decide) (fun c3 => ?_) (fun c3 => ?_)
      · have F := F.1 c3
        refine pv_iconst (v := 0) (by decide) dX12_parse_321 ?_
        refine pv_istore (ls' := [some (.ref 200), some (.int x1), some (.int x2), some (.int 1), some (.int 0), some (.int 0), some (.int x6), none, none]) dX12_parse_322 (by decide) rfl rfl ?_
        refine pv_goto (tgt := 332) dX12_parse_324 (by decide) ?_
        refine pv_forgetL (ls' := [some (.ref 200), some (.int x1), some (.int x2), some (.int 1), some (.int 0), some (.int 0), none, none, none]) (pv_subL_ok ⟨rfl, ⟨rfl, ⟨rfl, ⟨rfl, ⟨rfl, ⟨rfl, trivial⟩⟩⟩⟩⟩⟩) ?_
        exact F
      · have F := F.2 c3
        refine pv_iconst (v := 1) (by decide) dX12_parse_317 ?_
        refine pv_goto (tgt := 322) dX12_parse_318 (by decide) ?_
        refine pv_istore (ls' := [some (.ref 200), some (.int x1), some (.int x2), some (.int 1), some (.int 0), some (.int 1), some (.int x6), none, none]) dX12_parse_322 (by decide) rfl rfl ?_
        refine pv_goto (tgt := 332) dX12_parse_324 (by decide) ?_
        refine pv_forgetL (ls' := [some (.ref 200), some (.int x1), some (.int x2), some (.int 1), some (.int 0), some (.int 1), none, none, none]) (pv_subL_ok ⟨rfl, ⟨rfl, ⟨rfl, ⟨rfl, ⟨rfl, ⟨rfl, trivial⟩⟩⟩⟩⟩⟩) ?_
        exact F
    · have F := F.2 c2
      refine pv_iconst (v := 1) (by decide) dX12_parse_301 ?_
      refine pv_goto (tgt := 306) dX12_parse_302 (by decide) ?_
      refine pv_istore (ls' := [some (.ref 200), some (.int x1), some (.int x2), none, some (.int 1), none, some (.int x6), none, none]) dX12_parse_306 (by decide) rfl rfl ?_
      refine pv_iconst (v := 1) (by decide) dX12_parse_308 ?_
      refine pv_istore_n (ls' := [some (.ref 200), some (.int x1), some (.int x2), some (.int 1), some (.int 1), none, some (.int x6), none, none]) dX12_parse_309 (by decide) rfl rfl ?_
      refine pv_iload dX12_parse_310 rfl ?_
      refine pv_bipush (v := 59) (by decide) dX12_parse_312 ?_
      refine pv_icmp_ne (tgt := 321) dX12_parse_314 (by decide) (fun c4 => ?_) (fun c4 => ?_)
      · have F := F.1 c4
        refine pv_iconst (v := 0) (by decide) dX12_parse_321 ?_
        refine pv_istore (ls' := [some (.ref 200), some (.int x1), some (.int x2), some (.int 1), some (.int 1), some (.int 0), some (.int x6), none, none]) dX12_parse_322 (by decide) rfl rfl ?_
        refine pv_goto (tgt := 332) dX12_parse_324 (by decide) ?_
        refine pv_forgetL (ls' := [some (.ref 200), some (.int x1), some (.int x2), some (.int 1), some (.int 1), some (.int 0), none, none, none]) (pv_subL_ok ⟨rfl, ⟨rfl, ⟨rfl, ⟨rfl, ⟨rfl, ⟨rfl, trivial⟩⟩⟩⟩⟩⟩) ?_
        exact F
      · have F := F.2 c4
        refine pv_iconst (v := 1) (by decide) dX12_parse_317 ?_
        refine pv_goto (tgt := 322) dX12_parse_318 (by decide) ?_
        refine pv_istore (ls' := [some (.ref 200), some (.int x1), some (.int x2), some (.int 1), some (.int 1), some (.int 1), some (.int x6), none, none]) dX12_parse_322 (by decide) rfl rfl ?_
        refine pv_goto (tgt := 332) dX12_parse_324 (by decide) ?_
        refine pv_forgetL (ls' := [some (.ref 200), some (.int x1), some (.int x2), some (.int 1), some (.int 1), some (.int 1), none, none, none]) (pv_subL_ok ⟨rfl, ⟨rfl, ⟨rfl, ⟨rfl, ⟨rfl, ⟨rfl, trivial⟩⟩⟩⟩⟩⟩) ?_
        exact F
  · have F := F.2 c1
    refine pv_iconst (v := 2) (by decide) dX12_parse_285 ?_
    refine pv_goto (tgt := 290) dX12_parse_286 (by decide) ?_
    refine pv_iconst (v := 0) (by decide) dX12_parse_290 ?_
    refine pv_invV (As := [.int x1, .int 2, .int 0]) (d' := d - 1) dX12_parse_291 moX12_adds ml_X12_252 (lt_200 hL) (Or.inl ⟨_, rfl, rfl⟩) (Nat.le_of_ble_eq_true rfl) (by omega) (Nat.zero_le _) (Nat.zero_le _) F (fun v ty' h2 r' g' hq => ?_) rfl
    obtain ⟨e2, e4, e5, e1, F⟩ := hq
    rw [e1, e2, e4, e5]
    refine pv_pc (pc' := 294) rfl ?_
    show pv_E Γ d kc ks mX12_parse 294 [some (.ref 200), some (.int x1), some (.int x2), none, none, none, some (.int x6), none, none] [] ty h2 r g Q
    refine pv_iload dX12_parse_294 rfl ?_
    refine pv_bipush (v := 63) (by decide) dX12_parse_296 ?_
    refine pv_icmp_ne (tgt := 305) dX12_parse_298 (by decide) (fun c5 => ?_) (fun c5 => ?_)
    · have F := F.1 c5
      refine pv_iconst (v := 0) (by decide) dX12_parse_305 ?_
      refine pv_istore (ls' := [some (.ref 200), some (.int x1), some (.int x2), none, some (.int 0), none, some (.int x6), none, none]) dX12_parse_306 (by decide) rfl rfl ?_
      refine pv_iconst (v := 1) (by decide) dX12_parse_308 ?_
      refine pv_istore_n (ls' := [some (.ref 200), some (.int x1), some (.int x2), some (.int 1), some (.int 0), none, some (.int x6), none, none]) dX12_parse_309 (by decide) rfl rfl ?_
      refine pv_iload dX12_parse_310 rfl ?_
      refine pv_bipush (v := 59) (by decide) dX12_parse_312 ?_
      refine pv_pc (pc' := 314) rfl ?_
      refine pv_icmp_ne (tgt := 321) dX12_parse_314 (by decide) (fun c6 => ?_) (fun c6 => ?_)
      · have F := F.1 c6
        refine pv_iconst (v := 0) (by decide) dX12_parse_321 ?_
        refine pv_istore (ls' := [some (.ref 200), some (.int x1), some (.int x2), some (.int 1), some (.int 0), some (.int 0), some (.int x6), none, none]) dX12_parse_322 (by decide) rfl rfl ?_
        refine pv_goto (tgt := 332) dX12_parse_324 (by decide) ?_
        refine pv_forgetL (ls' := [some (.ref 200), some (.int x1), some (.int x2), some (.int 1), some (.int 0), some (.int 0), none, none, none]) (pv_subL_ok ⟨rfl, ⟨rfl, ⟨rfl, ⟨rfl, ⟨rfl, ⟨rfl, trivial⟩⟩⟩⟩⟩⟩) ?_
        exact F
      · have F := F.2 c6
        refine pv_iconst (v := 1) (by decide) dX12_parse_317 ?_
        refine pv_goto (tgt := 322) dX12_parse_318 (by decide) ?_
        refine pv_istore (ls' := [some (.ref 200), some (.int x1), some (.int x2), some (.int 1), some (.int 0), some (.int 1), some (.int x6), none, none]) dX12_parse_322 (by decide) rfl rfl ?_
        refine pv_goto (tgt := 332) dX12_parse_324 (by decide) ?_
        refine pv_forgetL (ls' := [some (.ref 200), some (.int x1), some (.int x2), some (.int 1), some (.int 0), some (.int 1), none, none, none]) (pv_subL_ok ⟨rfl, ⟨rfl, ⟨rfl, ⟨rfl, ⟨rfl, ⟨rfl, trivial⟩⟩⟩⟩⟩⟩) ?_
        exact F
    · have F := F.2 c5
      refine pv_iconst (v := 1) (by decide) dX12_parse_301 ?_
      refine pv_goto (tgt := 306) dX12_parse_302 (by decide) ?_
      refine pv_istore (ls' := [some (.ref 200), some (.int x1), some (.int x2), none, some (.int 1), none, some (.int x6), none, none]) dX12_parse_306 (by decide) rfl rfl ?_
      refine pv_iconst (v := 1) (by decide) dX12_parse_308 ?_
      refine pv_istore_n (ls' := [some (.ref 200), some (.int x1), some (.int x2), some (.int 1), some (.int 1), none, some (.int x6), none, none]) dX12_parse_309 (by decide) rfl rfl ?_
      refine pv_iload dX12_parse_310 rfl ?_
      refine pv_bipush (v := 59) (by decide) dX12_parse_312 ?_
      refine pv_icmp_ne (tgt := 321) dX12_parse_314 (by decide) (fun c7 => ?_) (fun c7 => ?_)
      · have F := F.1 c7
        refine pv_iconst (v := 0) (by decide) dX12_parse_321 ?_
        refine pv_istore (ls' := [some (.ref 200), some (.int x1), some (.int x2), some (.int 1), some (.int 1), some (.int 0), some (.int x6), none, none]) dX12_parse_322 (by decide) rfl rfl ?_
        refine pv_goto (tgt := 332) dX12_parse_324 (by decide) ?_
        refine pv_forgetL (ls' := [some (.ref 200), some (.int x1), some (.int x2), some (.int 1), some (.int 1), some (.int 0), none, none, none]) (pv_subL_ok ⟨rfl, ⟨rfl, ⟨rfl, ⟨rfl, ⟨rfl, ⟨rfl, trivial⟩⟩⟩⟩⟩⟩) ?_
        exact F
      · have F := F.2 c7
        refine pv_iconst (v := 1) (by decide) dX12_parse_317 ?_
        refine pv_goto (tgt := 322) dX12_parse_318 (by decide) ?_
        refine pv_istore (ls' := [some (.ref 200), some (.int x1), some (.int x2), some (.int 1), some (.int 1), some (.int 1), some (.int x6), none, none]) dX12_parse_322 (by decide) rfl rfl ?_
        refine pv_goto (tgt := 332) dX12_parse_324 (by decide) ?_
        refine pv_forgetL (ls' := [some (.ref 200), some (.int x1), some (.int x2), some (.int 1), some (.int 1), some (.int 1), none, none, none]) (pv_subL_ok ⟨rfl, ⟨rfl, ⟨rfl, ⟨rfl, ⟨rfl, ⟨rfl, trivial⟩⟩⟩⟩⟩⟩) ?_
        exact F
def pb : Bool → Int32
  | true => 1
  | false => 0
theorem tx_done_c4 {f : Nat} : ∀ (w : List Nat) (S : List (Nat × Nat)), tx_c4 (tx_done f w S).1 = tx_c4 w
  | [], _ => rfl
  | x :: w, S => by
    unfold tx_done
    by_cases q : x ≠ 4 ∧ f ≤ x / 10
    · rw [if_pos q, tx_done_c4 w]
      show _ = tx_c4 w + _
      rw [if_neg q.1, Nat.add_zero]
    · rw [if_neg q]
theorem tx_sg_cases (c : Nat) (h : tx_sg c ≠ 0) : (tx_rel c = 0 ∧ (tx_sg c / 10 = 5 ∨ tx_sg c / 10 = 6) ∧ tx_sg c < 100 ∧ tx_sg c ≠ 4) ∨ (tx_rel c ≠ 0 ∧ tx_sg c = tx_rel c ∧ tx_sg c / 10 = 4 ∧ tx_sg c < 100 ∧ tx_sg c ≠ 4) := by
  by_cases q1 : tx_mul c = 0
  · by_cases q2 : tx_add c = 0
    · have e : tx_sg c = tx_rel c := by unfold tx_sg; rw [if_neg (by omega), if_neg (by omega)]
      rw [e] at h ⊢
      obtain ⟨a1, a2, a3⟩ := tx_rel_sg c h
      exact Or.inr ⟨h, rfl, a1, by omega, a2⟩
    · obtain ⟨a1, a2, a3, a4, a5⟩ := tx_add_sg c q2
      rw [a1]
      exact Or.inl ⟨a3, Or.inl a2, by omega, a4⟩
  · obtain ⟨a1, a2, a3, a4, a5⟩ := tx_mul_sg c q1
    rw [a1]
    exact Or.inl ⟨a3, Or.inr a2, by omega, a4⟩
theorem tx_rel_nz {c : Nat} (h : tx_rel c ≠ 0) : tx_sg c ≠ 0 := by
  intro q
  unfold tx_sg at q
  split at q
  · omega
  · split at q <;> omega
section PP
variable {Γ : pv_C} {d kc ks : Nat} {ty : pv_T} {h h0 : pv_H} {r : pv_R} {g : pv_G} {Q : pv_Q} {K len o p : Nat} {b : Nat → Nat} {w : List Nat} {S : List (Nat × Nat)}
/-- parse, standing at p with the table (w, S), comes to O -/
def ps_P (Γ : pv_C) (d kc ks : Nat) (ty : pv_T) (r : pv_R) (g : pv_G) (K len o : Nat) (h0 : pv_H) (Q : pv_Q) (p : Nat) (w : List Nat) (S : List (Nat × Nat)) (wants asked may : Bool) (O : tx_O) : Prop :=
  ∀ h, ps_R len o p w S h → tx_c4 w ≤ 10 → pv_fr (pA o) h0 h → (∀ h', pv_fr (pA o) h0 h' → (∀ q, O = .error q → Q (some (.int (nI q))) ty h' r g) ∧ (∀ S', O = .ok S' → ps_s h' o S' → h' 200 50 = nI S'.length → S'.length ≤ 161 → Q (some (.int (-1))) ty h' r g)) → pv_E Γ d kc ks mX12_parse 23 [some (.ref 200), some (.int (nI o)), some (.int (nI K)), some (.int (pb wants)), some (.int (pb asked)), some (.int (pb may)), none, none, none] [] ty h r g Q
theorem pp_op (hd : 3 ≤ d) (hL : pv_Lay ty r) (hK : K < 2) (hT : ∀ j, j < len → TB (h 339 j) (b j)) (hR : ps_R len o p w S h) (hp : p < len) (hc : tx_c4 w ≤ 10) {x4 x5 : Int32} (hE0 : ∀ h', po_q K len o p b w S h 0 h' → Q (some (.int (h' 200 51))) ty h' r g) (hE1 : ∀ h', po_q K len o p b w S h 1 h' → pv_E Γ d kc ks mX12_parse 23 [some (.ref 200), some (.int (nI o)), some (.int (nI K)), some (.int (if b p = 40 then 1 else 0)), some (.int x4), some (.int 0), none, none, none] [] ty h' r g Q) (h01 : ∀ x h', po_q K len o p b w S h x h' → x = 0 ∨ x = 1) : pv_E Γ d kc ks mX12_parse 23 [some (.ref 200), some (.int (nI o)), some (.int (nI K)), some (.int 1), some (.int x4), some (.int x5), none, none, none] [] ty h r g Q := by
  have hb := hR.2.2.1
  have e51 := hR.1.1
  have e40 := hR.1.2.2.2
  have hin : vp_in (h 200 51) 160 := by rw [e51]; exact vp_in_nI (by omega) (by decide)
  have et : h 339 (Int32.toNatClampNeg (h 200 51)) = h 339 p := by rw [e51, nI_clamp (by omega)]
  have call := ct_X12_operand (Γ := Γ) (d := d - 1) (g := g) (b := b) (by omega) hL hK hT hR hp hc
  refine sg_X12_parse_23 _ _ _ _ _ (by omega) hL (pk_le len p (fun c => absurd c (by omega)) (fun _ => ⟨hin, fun q => absurd q (by decide), fun _ => ?_⟩) e40 e51 (by omega) (by omega))
  rw [et]
  refine pt_en (b p) 40 (hT p hp) (fun c => pv_CJ.mono call (fun x h' q => ?_)) (fun c => pv_CJ.mono call (fun x h' q => ?_))
  · rcases h01 x h' q with rfl | rfl
    · exact ⟨fun z => absurd rfl z, fun _ => hE0 h' q⟩
    · refine ⟨fun _ => ?_, fun z => absurd z (by decide)⟩
      have := hE1 h' q
      rw [if_pos c] at this
      exact this
  · rcases h01 x h' q with rfl | rfl
    · exact ⟨fun z => absurd rfl z, fun _ => hE0 h' q⟩
    · refine ⟨fun _ => ?_, fun z => absurd z (by decide)⟩
      have := hE1 h' q
      rw [if_neg c] at this
      exact this
theorem po_01 {x : Int32} {h' : pv_H} (q : po_q K len o p b w S h x h') : x = 0 ∨ x = 1 := by
  obtain ⟨-, a1, a2, a3, a4, a5⟩ := q
  by_cases c1 : tx_dg (b p)
  · by_cases c2 : tx_dg (tx_pk len b (tx_num (tx_pk len b) 6 0 p).2)
    · exact Or.inl (a2 c1 c2).1
    · exact Or.inr (a1 c1 c2).1
  · by_cases c3 : b p ∈ tx_nm K
    · exact Or.inr (a3 c3).1
    · by_cases c4 : b p = 40 ∧ tx_c4 w < 10
      · exact Or.inr (a4 c4.1 c4.2).1
      · exact Or.inl (a5 c1 c3 c4).1
/-- one place on -/
theorem pp_332 (hL : pv_Lay ty r) {x3 x4 x5 : Int32} (e51 : h 200 51 = nI p) (hE : pv_E Γ d kc ks mX12_parse 23 [some (.ref 200), some (.int (nI o)), some (.int (nI K)), some (.int x3), some (.int x4), some (.int x5), none, none, none] [] ty (pv_up h 200 51 (nI (p + 1))) r g Q) : pv_E Γ d kc ks mX12_parse 332 [some (.ref 200), some (.int (nI o)), some (.int (nI K)), some (.int x3), some (.int x4), some (.int x5), none, none, none] [] ty h r g Q :=
  sg_X12_parse_332 _ _ _ _ _ hL (fun h1 e1 => by rw [e1, e51, nI_1]; exact hE)
/-- a sign waits -/
theorem pp_168 (hL : pv_Lay ty r) {sg : Nat} (hsg : sg < 100) (hR : ps_R len o p w S h) (hp : p < len) {x4 x5 : Int32} (hE : ∀ h', ps_R len o (p + 1) (sg :: w) S h' → pv_fr (pA o) h h' → pv_E Γ d kc ks mX12_parse 23 [some (.ref 200), some (.int (nI o)), some (.int (nI K)), some (.int 1), some (.int x4), some (.int x5), none, none, none] [] ty h' r g Q) : pv_E Γ d kc ks mX12_parse 168 [some (.ref 200), some (.int (nI o)), some (.int (nI K)), none, some (.int x4), some (.int x5), none, some (.int (nI sg)), none] [] ty h r g Q := by
  obtain ⟨⟨e51, e49, e50, e40⟩, ⟨hw, hs⟩, ⟨b1, b2, b3, b4⟩, hx⟩ := hR
  refine sg_X12_parse_168 _ _ _ _ _ hL ⟨by rw [e49]; exact vp_in_nI (by omega) (by decide), fun h1 e1 h2 e2 => ?_⟩
  rw [e49, nI_clamp (by omega)] at e1
  have f49 : h1 200 49 = nI w.length := by rw [e1, pv_up_a (by decide)]; exact e49
  rw [f49, nI_1] at e2
  have f51 : h2 200 51 = nI p := by rw [e2, pv_up_j (by decide), e1, pv_up_a (by decide)]; exact e51
  refine pp_332 hL f51 (hE _ ⟨⟨pv_up_same _ _ _ _, ?_, ?_, ?_⟩, ⟨⟨?_, ?_⟩, ?_⟩, ⟨by simp; omega, hp, b3, b4⟩, fun y hy => ?_⟩ ?_)
  · rw [pv_up_j (by decide), e2, pv_up_same]; rfl
  · rw [pv_up_j (by decide), e2, pv_up_j (by decide), e1, pv_up_a (by decide)]; exact e50
  · rw [pv_up_j (by decide), e2, pv_up_j (by decide), e1, pv_up_a (by decide)]; exact e40
  · rw [pv_up_a (by decide), e2, pv_up_a (by decide), e1, pv_up_same]
  · exact ps_w_c (fun j hj => by rw [pv_up_a (by decide), e2, pv_up_a (by decide), e1, pv_up_j (by omega)]) hw
  · exact ps_s_c (fun j hj => by rw [pv_up_a (by decide), pv_up_a (by decide), e2, pv_up_a (by decide), pv_up_a (by decide), e1, pv_up_a (by decide), pv_up_a (by decide)]; exact ⟨rfl, rfl⟩) hs
  · rcases List.mem_cons.mp hy with rfl | hy
    · exact hsg
    · exact hx y hy
  · rw [e2, e1]; exact pA_51 (pA_49 (pA_348 (pv_fr_refl _ _)))
/-- no operand is wanted: on to the sign -/
theorem pp_23F (hd : 1 ≤ d) (hL : pv_Lay ty r) (hR : ps_R len o p w S h) (hp : p < len) {x4 x5 : Int32} (hE : pv_E Γ d kc ks mX12_parse 86 [some (.ref 200), some (.int (nI o)), some (.int (nI K)), some (.int 0), some (.int x4), some (.int x5), some (.int (h 339 p)), none, none] [] ty h r g Q) : pv_E Γ d kc ks mX12_parse 23 [some (.ref 200), some (.int (nI o)), some (.int (nI K)), some (.int 0), some (.int x4), some (.int x5), none, none, none] [] ty h r g Q := by
  have hb := hR.2.2.1
  have e51 := hR.1.1
  have e40 := hR.1.2.2.2
  have et : h 339 (Int32.toNatClampNeg (h 200 51)) = h 339 p := by rw [e51, nI_clamp (by omega)]
  refine sg_X12_parse_23 _ _ _ _ _ hd hL (pk_le len p (fun c => absurd c (by omega)) (fun _ => ⟨by rw [e51]; exact vp_in_nI (by omega) (by decide), fun _ => ?_, fun q => absurd rfl q⟩) e40 e51 (by omega) (by omega))
  rw [et]
  exact hE
theorem ps_R0 (hR : ps_R len o p w S h) (hw : w = []) : h 200 49 = 0 := by rw [hR.1.2.1, hw]; rfl
theorem ps_R1 (hR : ps_R len o p w S h) {x : Nat} {y : List Nat} (hw : w = x :: y) : h 200 49 = nI (y.length + 1) ∧ y.length + 1 ≤ 160 := by
  have := hR.2.2.1
  rw [hR.1.2.1, hw] at *
  rw [hw] at this
  exact ⟨rfl, by simp at this; omega⟩
end PP
