/-! year, days; stones, of: both sides -/
set_option maxRecDepth 20000 in
set_option maxHeartbeats 4000000 in
theorem sg_X12_year_0 {Γ : pv_C} {d kc ks : Nat} {ty : pv_T} {h : pv_H} {r : pv_R} {g : pv_G} {Q : pv_Q}  (hL : pv_Lay ty r) (F : ((¬ (h 200 19) = 30 → (∀ h1 : pv_H, h1 = pv_up h 200 19 ((h 200 19) + 1) → Q (some (.int (h1 200 19))) ty h1 r g)) ∧ ((h 200 19) = 30 → Q (some (.int (-2))) ty h r g))) : pv_E Γ d kc ks mX12_year 0 [some (.ref 200)] [] ty h r g Q := by
  refine pv_aload_n dX12_year_0 rfl ?_
  refine pv_getI 12 19 dX12_year_1 fl_X12_211 rfl (lt_200 hL) ?_
  refine pv_bipush (v := 30) (by decide) dX12_year_4 ?_
  refine pv_icmp_ne (tgt := 12) dX12_year_6 (by decide) (fun c1 => ?_) (fun c1 => ?_)
  · have F := F.1 c1
    refine pv_aload_n dX12_year_12 rfl ?_
    refine pv_dup rfl dX12_year_13 ?_
    refine pv_getI 12 19 dX12_year_14 fl_X12_211 rfl (lt_200 hL) ?_
    refine pv_iconst (v := 1) (by decide) dX12_year_17 ?_
    refine pv_iadd dX12_year_18 ?_
    obtain ⟨h1, eh1⟩ : ∃ h1 : pv_H, h1 = pv_up h 200 19 ((h 200 19) + 1) := ⟨_, rfl⟩
    have F := F h1 eh1
    refine pv_putI 12 19 dX12_year_19 fl_X12_211 ⟨_, rfl, Or.inl rfl⟩ (Or.inl rfl) (lt_200 hL) ?_
    refine pv_hE eh1 ?_
    refine pv_aload_n dX12_year_22 rfl ?_
    refine pv_getI 12 19 dX12_year_23 fl_X12_211 rfl (lt_200 hL) ?_
    exact pv_ireturn dX12_year_26 rfl rfl F
  · have F := F.2 c1
    refine pv_bipush (v := (-2)) (by decide) dX12_year_9 ?_
    exact pv_ireturn dX12_year_11 rfl rfl F
set_option maxRecDepth 20000 in
set_option maxHeartbeats 4000000 in
theorem sg_X12_days_0 {Γ : pv_C} {d kc ks : Nat} {ty : pv_T} {h : pv_H} {r : pv_R} {g : pv_G} {Q : pv_Q} (x : Int32) (hd : 1 ≤ d) (hL : pv_Lay ty r) (F : (((pf_b (1 ≤ x ∧ x ≤ 100)) = 0 → Q (some (.int (-1))) ty h r g) ∧ (¬ (pf_b (1 ≤ x ∧ x ≤ 100)) = 0 → ((((h 200 32) + x) ≤ 9999 → (∀ h1 : pv_H, h1 = pv_up h 200 32 ((h 200 32) + x) → Q (some (.int (h1 200 32))) ty h1 r g)) ∧ (¬ ((h 200 32) + x) ≤ 9999 → Q (some (.int (-1))) ty h r g))))) : pv_E Γ d kc ks mX12_days 0 [some (.ref 200), some (.int x)] [] ty h r g Q := by
  refine pv_iload_n dX12_days_0 rfl ?_
  refine pv_iconst (v := 1) (by decide) dX12_days_1 ?_
  refine pv_bipush (v := 100) (by decide) dX12_days_2 ?_
  refine pv_invS (As := [.int x, .int 1, .int 100]) (d' := d - 1) dX12_days_4 moX12_in ml_X12_164 (Nat.le_of_ble_eq_true rfl) (by omega) (Nat.zero_le _) (Nat.zero_le _) (ct_X12_in (by omega)) (fun v ty' h' r' g' hq => ?_) rfl
  obtain ⟨e1, e2, e3, e4, e5⟩ := hq
  rw [e1, e2, e3, e4, e5]
  refine pv_pc (pc' := 7) rfl ?_
  show pv_E Γ d kc ks mX12_days 7 [some (.ref 200), some (.int x)] [.int (pf_b (1 ≤ x ∧ x ≤ 100))] ty h r g Q
  refine pv_if_eq (tgt := 22) dX12_days_7 (by decide) (fun c1 => ?_) (fun c1 => ?_)
  · have F := F.1 c1
    refine pv_iconst (v := (-1)) (by decide) dX12_days_22 ?_
    exact pv_ireturn dX12_days_23 rfl rfl F
  · have F := F.2 c1
    refine pv_aload_n dX12_days_10 rfl ?_
    refine pv_getI 12 32 dX12_days_11 fl_X12_237 rfl (lt_200 hL) ?_
    refine pv_iload_n dX12_days_14 rfl ?_
    refine pv_iadd dX12_days_15 ?_
    refine pv_sipush (v := 9999) (by decide) dX12_days_16 ?_
    refine pv_icmp_le (tgt := 24) dX12_days_19 (by decide) (fun c2 => ?_) (fun c2 => ?_)
    · have F := F.1 c2
      refine pv_aload_n dX12_days_24 rfl ?_
      refine pv_dup rfl dX12_days_25 ?_
      refine pv_getI 12 32 dX12_days_26 fl_X12_237 rfl (lt_200 hL) ?_
      refine pv_iload_n dX12_days_29 rfl ?_
      refine pv_iadd dX12_days_30 ?_
      obtain ⟨h1, eh1⟩ : ∃ h1 : pv_H, h1 = pv_up h 200 32 ((h 200 32) + x) := ⟨_, rfl⟩
      have F := F h1 eh1
      refine pv_putI 12 32 dX12_days_31 fl_X12_237 ⟨_, rfl, Or.inl rfl⟩ (Or.inl rfl) (lt_200 hL) ?_
      refine pv_hE eh1 ?_
      refine pv_aload_n dX12_days_34 rfl ?_
      refine pv_getI 12 32 dX12_days_35 fl_X12_237 rfl (lt_200 hL) ?_
      exact pv_ireturn dX12_days_38 rfl rfl F
    · have F := F.2 c2
      refine pv_iconst (v := (-1)) (by decide) dX12_days_22 ?_
      exact pv_ireturn dX12_days_23 rfl rfl F
set_option maxRecDepth 20000 in
set_option maxHeartbeats 4000000 in
theorem sg_X12_stones_0 {Γ : pv_C} {d kc ks : Nat} {ty : pv_T} {h : pv_H} {r : pv_R} {g : pv_G} {Q : pv_Q} (x : Int32) (y : Int32) (hd : 1 ≤ d) (hL : pv_Lay ty r) (F : (((pf_b (1 ≤ x ∧ x ≤ 9)) = 0 → Q (some (.int (-1))) ty h r g) ∧ (¬ (pf_b (1 ≤ x ∧ x ≤ 9)) = 0 → ((¬ (pf_b (1 ≤ y ∧ y ≤ 99)) = 0 → vp_in x 10 ∧ ((((h 314 (Int32.toNatClampNeg x)) + y) ≤ 999 → vp_in x 10 ∧ vp_in x 10 ∧ (∀ h1 : pv_H, h1 = pv_up h 314 (Int32.toNatClampNeg x) ((h 314 (Int32.toNatClampNeg x)) + y) → vp_in x 10 ∧ Q (some (.int (h1 314 (Int32.toNatClampNeg x)))) ty h1 r g)) ∧ (¬ ((h 314 (Int32.toNatClampNeg x)) + y) ≤ 999 → Q (some (.int (-2))) ty h r g))) ∧ ((pf_b (1 ≤ y ∧ y ≤ 99)) = 0 → Q (some (.int (-1))) ty h r g))))) : pv_E Γ d kc ks mX12_stones 0 [some (.ref 200), some (.int x), some (.int y)] [] ty h r g Q := by
  refine pv_iload_n dX12_stones_0 rfl ?_
  refine pv_iconst (v := 1) (by decide) dX12_stones_1 ?_
  refine pv_bipush (v := 9) (by decide) dX12_stones_2 ?_
  refine pv_invS (As := [.int x, .int 1, .int 9]) (d' := d - 1) dX12_stones_4 moX12_in ml_X12_164 (Nat.le_of_ble_eq_true rfl) (by omega) (Nat.zero_le _) (Nat.zero_le _) (ct_X12_in (by omega)) (fun v ty' h' r' g' hq => ?_) rfl
  obtain ⟨e1, e2, e3, e4, e5⟩ := hq
  rw [e1, e2, e3, e4, e5]
  refine pv_pc (pc' := 7) rfl ?_
  show pv_E Γ d kc ks mX12_stones 7 [some (.ref 200), some (.int x), some (.int y)] [.int (pf_b (1 ≤ x ∧ x ≤ 9))] ty h r g Q
  refine pv_if_eq (tgt := 20) dX12_stones_7 (by decide) (fun c1 => ?_) (fun c1 => ?_)
  · have F := F.1 c1
    refine pv_iconst (v := (-1)) (by decide) dX12_stones_20 ?_
    exact pv_ireturn dX12_stones_21 rfl rfl F
  · have F := F.2 c1
    refine pv_iload_n dX12_stones_10 rfl ?_
    refine pv_iconst (v := 1) (by decide) dX12_stones_11 ?_
    refine pv_bipush (v := 99) (by decide) dX12_stones_12 ?_
    refine pv_invS (As := [.int y, .int 1, .int 99]) (d' := d - 1) dX12_stones_14 moX12_in ml_X12_164 (Nat.le_of_ble_eq_true rfl) (by omega) (Nat.zero_le _) (Nat.zero_le _) (ct_X12_in (by omega)) (fun v ty' h' r' g' hq => ?_) rfl
    obtain ⟨e1, e2, e3, e4, e5⟩ := hq
    rw [e1, e2, e3, e4, e5]
    refine pv_pc (pc' := 17) rfl ?_
    show pv_E Γ d kc ks mX12_stones 17 [some (.ref 200), some (.int x), some (.int y)] [.int (pf_b (1 ≤ y ∧ y ≤ 99))] ty h r g Q
    refine pv_if_ne (tgt := 22) dX12_stones_17 (by decide) (fun c2 => ?_) (fun c2 => ?_)
    · have F := F.1 c2
      refine pv_aload_n dX12_stones_22 rfl ?_
      refine pv_getRk 12 14 dX12_stones_23 fl_X12_42 rfl (lt_200 hL) (lr_200_14 hL) ?_
      refine pv_iload_n dX12_stones_26 rfl ?_
      obtain ⟨q1, F⟩ := F
      refine pv_iald dX12_stones_27 (lt_314 hL) q1 ?_
      refine pv_iload_n dX12_stones_28 rfl ?_
      refine pv_iadd dX12_stones_29 ?_
      refine pv_sipush (v := 999) (by decide) dX12_stones_30 ?_
      refine pv_icmp_le (tgt := 39) dX12_stones_33 (by decide) (fun c3 => ?_) (fun c3 => ?_)
      · have F := F.1 c3
        refine pv_aload_n dX12_stones_39 rfl ?_
        refine pv_getRk 12 14 dX12_stones_40 fl_X12_42 rfl (lt_200 hL) (lr_200_14 hL) ?_
        refine pv_iload_n dX12_stones_43 rfl ?_
        refine pv_dup2 rfl rfl dX12_stones_44 ?_
        obtain ⟨q2, F⟩ := F
        refine pv_iald dX12_stones_45 (lt_314 hL) q2 ?_
        refine pv_iload_n dX12_stones_46 rfl ?_
        refine pv_iadd dX12_stones_47 ?_
        obtain ⟨q3, F⟩ := F
        obtain ⟨h1, eh1⟩ : ∃ h1 : pv_H, h1 = pv_up h 314 (Int32.toNatClampNeg x) ((h 314 (Int32.toNatClampNeg x)) + y) := ⟨_, rfl⟩
        have F := F h1 eh1
        refine pv_iast dX12_stones_48 (lt_314 hL) (by decide) q3 ?_
        refine pv_hE eh1 ?_
        refine pv_aload_n dX12_stones_49 rfl ?_
        refine pv_getRk 12 14 dX12_stones_50 fl_X12_42 rfl (lt_200 hL) (lr_200_14 hL) ?_
        refine pv_iload_n dX12_stones_53 rfl ?_
        obtain ⟨q4, F⟩ := F
        refine pv_iald dX12_stones_54 (lt_314 hL) q4 ?_
        exact pv_ireturn dX12_stones_55 rfl rfl F
      · have F := F.2 c3
        refine pv_bipush (v := (-2)) (by decide) dX12_stones_36 ?_
        exact pv_ireturn dX12_stones_38 rfl rfl F
    · have F := F.2 c2
      refine pv_iconst (v := (-1)) (by decide) dX12_stones_20 ?_
      exact pv_ireturn dX12_stones_21 rfl rfl F
set_option maxRecDepth 20000 in
set_option maxHeartbeats 4000000 in
theorem sg_X12_of_0 {Γ : pv_C} {d kc ks : Nat} {ty : pv_T} {h : pv_H} {r : pv_R} {g : pv_G} {Q : pv_Q} (x : Int32) (hd : 1 ≤ d) (hL : pv_Lay ty r) (F : (((h 200 16) = 0 → Q (some (.int (-1))) ty h r g) ∧ (¬ (h 200 16) = 0 → (((pf_b (1 ≤ x ∧ x ≤ 9)) = 0 → Q (some (.int (-1))) ty h r g) ∧ (¬ (pf_b (1 ≤ x ∧ x ≤ 9)) = 0 → vp_in x 10 ∧ Q (some (.int (h 317 (Int32.toNatClampNeg x)))) ty h r g))))) : pv_E Γ d kc ks mX12_of 0 [some (.ref 200), some (.int x)] [] ty h r g Q := by
  refine pv_aload_n dX12_of_0 rfl ?_
  refine pv_getI 12 16 dX12_of_1 fl_X12_208 rfl (lt_200 hL) ?_
  refine pv_if_eq (tgt := 26) dX12_of_4 (by decide) (fun c1 => ?_) (fun c1 => ?_)
  · have F := F.1 c1
    refine pv_iconst (v := (-1)) (by decide) dX12_of_26 ?_
    exact pv_ireturn dX12_of_27 rfl rfl F
  · have F := F.2 c1
    refine pv_iload_n dX12_of_7 rfl ?_
    refine pv_iconst (v := 1) (by decide) dX12_of_8 ?_
    refine pv_bipush (v := 9) (by decide) dX12_of_9 ?_
    refine pv_invS (As := [.int x, .int 1, .int 9]) (d' := d - 1) dX12_of_11 moX12_in ml_X12_164 (Nat.le_of_ble_eq_true rfl) (by omega) (Nat.zero_le _) (Nat.zero_le _) (ct_X12_in (by omega)) (fun v ty' h' r' g' hq => ?_) rfl
    obtain ⟨e1, e2, e3, e4, e5⟩ := hq
    rw [e1, e2, e3, e4, e5]
    refine pv_pc (pc' := 14) rfl ?_
    show pv_E Γ d kc ks mX12_of 14 [some (.ref 200), some (.int x)] [.int (pf_b (1 ≤ x ∧ x ≤ 9))] ty h r g Q
    refine pv_if_eq (tgt := 26) dX12_of_14 (by decide) (fun c2 => ?_) (fun c2 => ?_)
    · have F := F.1 c2
      refine pv_iconst (v := (-1)) (by decide) dX12_of_26 ?_
      exact pv_ireturn dX12_of_27 rfl rfl F
    · have F := F.2 c2
      refine pv_aload_n dX12_of_17 rfl ?_
      refine pv_getRk 12 17 dX12_of_18 fl_X12_48 rfl (lt_200 hL) (lr_200_17 hL) ?_
      refine pv_iload_n dX12_of_21 rfl ?_
      obtain ⟨q1, F⟩ := F
      refine pv_iald dX12_of_22 (lt_317 hL) q1 ?_
      refine pv_goto (tgt := 27) dX12_of_23 (by decide) ?_
      exact pv_ireturn dX12_of_27 rfl rfl F
set_option maxRecDepth 20000 in
set_option maxHeartbeats 4000000 in
theorem sg_X11_year_0 {Γ : pv_C} {d kc ks : Nat} {ty : pv_T} {h : pv_H} {r : pv_R} {g : pv_G} {Q : pv_Q}  (hL : pv_Lay ty r) (F : (((h 100 5) < 30 → (∀ h1 : pv_H, h1 = pv_up h 100 5 ((h 100 5) + 1) → Q (some (.int (h1 100 5))) ty h1 r g)) ∧ (¬ (h 100 5) < 30 → Q (some (.int (-2))) ty h r g))) : pv_E Γ d kc ks mX11_year 0 [some (.ref 100)] [] ty h r g Q := by
  refine pv_aload_n dX11_year_0 rfl ?_
  refine pv_getI 11 5 dX11_year_1 fl_X11_139 rfl (lt_100 hL) ?_
  refine pv_bipush (v := 30) (by decide) dX11_year_4 ?_
  refine pv_icmp_lt (tgt := 12) dX11_year_6 (by decide) (fun c1 => ?_) (fun c1 => ?_)
  · have F := F.1 c1
    refine pv_aload_n dX11_year_12 rfl ?_
    refine pv_dup rfl dX11_year_13 ?_
    refine pv_getI 11 5 dX11_year_14 fl_X11_139 rfl (lt_100 hL) ?_
    refine pv_iconst (v := 1) (by decide) dX11_year_17 ?_
    refine pv_iadd dX11_year_18 ?_
    obtain ⟨h1, eh1⟩ : ∃ h1 : pv_H, h1 = pv_up h 100 5 ((h 100 5) + 1) := ⟨_, rfl⟩
    have F := F h1 eh1
    refine pv_putI 11 5 dX11_year_19 fl_X11_139 ⟨_, rfl, Or.inl rfl⟩ (Or.inl rfl) (lt_100 hL) ?_
    refine pv_hE eh1 ?_
    refine pv_aload_n dX11_year_22 rfl ?_
    refine pv_getI 11 5 dX11_year_23 fl_X11_139 rfl (lt_100 hL) ?_
    exact pv_ireturn dX11_year_26 rfl rfl F
  · have F := F.2 c1
    refine pv_bipush (v := (-2)) (by decide) dX11_year_9 ?_
    exact pv_ireturn dX11_year_11 rfl rfl F
set_option maxRecDepth 20000 in
set_option maxHeartbeats 4000000 in
theorem sg_X11_days_0 {Γ : pv_C} {d kc ks : Nat} {ty : pv_T} {h : pv_H} {r : pv_R} {g : pv_G} {Q : pv_Q} (x : Int32) (hd : 1 ≤ d) (hL : pv_Lay ty r) (F : (((pf_b (1 ≤ x ∧ x ≤ 100)) = 0 → Q (some (.int (-1))) ty h r g) ∧ (¬ (pf_b (1 ≤ x ∧ x ≤ 100)) = 0 → ((((h 100 9) + x) ≤ 9999 → (∀ h1 : pv_H, h1 = pv_up h 100 9 ((h 100 9) + x) → Q (some (.int (h1 100 9))) ty h1 r g)) ∧ (¬ ((h 100 9) + x) ≤ 9999 → Q (some (.int (-1))) ty h r g))))) : pv_E Γ d kc ks mX11_days 0 [some (.ref 100), some (.int x)] [] ty h r g Q := by
  refine pv_iload_n dX11_days_0 rfl ?_
  refine pv_iconst (v := 1) (by decide) dX11_days_1 ?_
  refine pv_bipush (v := 100) (by decide) dX11_days_2 ?_
  refine pv_invS (As := [.int x, .int 1, .int 100]) (d' := d - 1) dX11_days_4 moX11_within ml_X11_69 (Nat.le_of_ble_eq_true rfl) (by omega) (Nat.zero_le _) (Nat.zero_le _) (ct_X11_within (by omega)) (fun v ty' h' r' g' hq => ?_) rfl
  obtain ⟨e1, e2, e3, e4, e5⟩ := hq
  rw [e1, e2, e3, e4, e5]
  refine pv_pc (pc' := 7) rfl ?_
  show pv_E Γ d kc ks mX11_days 7 [some (.ref 100), some (.int x)] [.int (pf_b (1 ≤ x ∧ x ≤ 100))] ty h r g Q
  refine pv_if_eq (tgt := 22) dX11_days_7 (by decide) (fun c1 => ?_) (fun c1 => ?_)
  · have F := F.1 c1
    refine pv_iconst (v := (-1)) (by decide) dX11_days_22 ?_
    exact pv_ireturn dX11_days_23 rfl rfl F
  · have F := F.2 c1
    refine pv_aload_n dX11_days_10 rfl ?_
    refine pv_getI 11 9 dX11_days_11 fl_X11_186 rfl (lt_100 hL) ?_
    refine pv_iload_n dX11_days_14 rfl ?_
    refine pv_iadd dX11_days_15 ?_
    refine pv_sipush (v := 9999) (by decide) dX11_days_16 ?_
    refine pv_icmp_le (tgt := 24) dX11_days_19 (by decide) (fun c2 => ?_) (fun c2 => ?_)
    · have F := F.1 c2
      refine pv_aload_n dX11_days_24 rfl ?_
      refine pv_dup rfl dX11_days_25 ?_
      refine pv_getI 11 9 dX11_days_26 fl_X11_186 rfl (lt_100 hL) ?_
      refine pv_iload_n dX11_days_29 rfl ?_
      refine pv_iadd dX11_days_30 ?_
      obtain ⟨h1, eh1⟩ : ∃ h1 : pv_H, h1 = pv_up h 100 9 ((h 100 9) + x) := ⟨_, rfl⟩
      have F := F h1 eh1
      refine pv_putI 11 9 dX11_days_31 fl_X11_186 ⟨_, rfl, Or.inl rfl⟩ (Or.inl rfl) (lt_100 hL) ?_
      refine pv_hE eh1 ?_
      refine pv_aload_n dX11_days_34 rfl ?_
      refine pv_getI 11 9 dX11_days_35 fl_X11_186 rfl (lt_100 hL) ?_
      exact pv_ireturn dX11_days_38 rfl rfl F
    · have F := F.2 c2
      refine pv_iconst (v := (-1)) (by decide) dX11_days_22 ?_
      exact pv_ireturn dX11_days_23 rfl rfl F
set_option maxRecDepth 20000 in
set_option maxHeartbeats 4000000 in
theorem sg_X10_bring_0 {Γ : pv_C} {d kc ks : Nat} {ty : pv_T} {h : pv_H} {r : pv_R} {g : pv_G} {Q : pv_Q} (x : Int32) (y : Int32) (hL : pv_Lay ty r) (F : vp_in x 10 ∧ ((((h 51 (Int32.toNatClampNeg x)) + y) ≤ 999 → vp_in x 10 ∧ vp_in x 10 ∧ (∀ h1 : pv_H, h1 = pv_up h 51 (Int32.toNatClampNeg x) ((h 51 (Int32.toNatClampNeg x)) + y) → vp_in x 10 ∧ Q (some (.int (h1 51 (Int32.toNatClampNeg x)))) ty h1 r g)) ∧ (¬ ((h 51 (Int32.toNatClampNeg x)) + y) ≤ 999 → Q (some (.int (-2))) ty h r g))) : pv_E Γ d kc ks mX10_bring 0 [some (.ref 50), some (.int x), some (.int y)] [] ty h r g Q := by
  refine pv_aload_n dX10_bring_0 rfl ?_
  refine pv_getRk 10 0 dX10_bring_1 fl_X10_9 rfl (lt_50 hL) (lr_50_0 hL) ?_
  refine pv_iload_n dX10_bring_4 rfl ?_
  obtain ⟨q1, F⟩ := F
  refine pv_iald dX10_bring_5 (lt_51 hL) q1 ?_
  refine pv_iload_n dX10_bring_6 rfl ?_
  refine pv_iadd dX10_bring_7 ?_
  refine pv_sipush (v := 999) (by decide) dX10_bring_8 ?_
  refine pv_icmp_le (tgt := 17) dX10_bring_11 (by decide) (fun c1 => ?_) (fun c1 => ?_)
  · have F := F.1 c1
    refine pv_aload_n dX10_bring_17 rfl ?_
    refine pv_getRk 10 0 dX10_bring_18 fl_X10_9 rfl (lt_50 hL) (lr_50_0 hL) ?_
    refine pv_iload_n dX10_bring_21 rfl ?_
    refine pv_dup2 rfl rfl dX10_bring_22 ?_
    obtain ⟨q2, F⟩ := F
    refine pv_iald dX10_bring_23 (lt_51 hL) q2 ?_
    refine pv_iload_n dX10_bring_24 rfl ?_
    refine pv_iadd dX10_bring_25 ?_
    obtain ⟨q3, F⟩ := F
    obtain ⟨h1, eh1⟩ : ∃ h1 : pv_H, h1 = pv_up h 51 (Int32.toNatClampNeg x) ((h 51 (Int32.toNatClampNeg x)) + y) := ⟨_, rfl⟩
    have F := F h1 eh1
    refine pv_iast dX10_bring_26 (lt_51 hL) (by decide) q3 ?_
    refine pv_hE eh1 ?_
    refine pv_aload_n dX10_bring_27 rfl ?_
    refine pv_getRk 10 0 dX10_bring_28 fl_X10_9 rfl (lt_50 hL) (lr_50_0 hL) ?_
    refine pv_iload_n dX10_bring_31 rfl ?_
    obtain ⟨q4, F⟩ := F
    refine pv_iald dX10_bring_32 (lt_51 hL) q4 ?_
    exact pv_ireturn dX10_bring_33 rfl rfl F
  · have F := F.2 c1
    refine pv_bipush (v := (-2)) (by decide) dX10_bring_14 ?_
    exact pv_ireturn dX10_bring_16 rfl rfl F
set_option maxRecDepth 20000 in
set_option maxHeartbeats 4000000 in
theorem sg_X10_toldOf_0 {Γ : pv_C} {d kc ks : Nat} {ty : pv_T} {h : pv_H} {r : pv_R} {g : pv_G} {Q : pv_Q} (x : Int32) (hL : pv_Lay ty r) (F : (((h 50 4) = 0 → Q (some (.int (-1))) ty h r g) ∧ (¬ (h 50 4) = 0 → vp_in x 10 ∧ Q (some (.int (h 54 (Int32.toNatClampNeg x)))) ty h r g))) : pv_E Γ d kc ks mX10_toldOf 0 [some (.ref 50), some (.int x)] [] ty h r g Q := by
  refine pv_aload_n dX10_toldOf_0 rfl ?_
  refine pv_getI 10 4 dX10_toldOf_1 fl_X10_28 rfl (lt_50 hL) ?_
  refine pv_if_eq (tgt := 16) dX10_toldOf_4 (by decide) (fun c1 => ?_) (fun c1 => ?_)
  · have F := F.1 c1
    refine pv_iconst (v := (-1)) (by decide) dX10_toldOf_16 ?_
    exact pv_ireturn dX10_toldOf_17 rfl rfl F
  · have F := F.2 c1
    refine pv_aload_n dX10_toldOf_7 rfl ?_
    refine pv_getRk 10 3 dX10_toldOf_8 fl_X10_21 rfl (lt_50 hL) (lr_50_3 hL) ?_
    refine pv_iload_n dX10_toldOf_11 rfl ?_
    obtain ⟨q1, F⟩ := F
    refine pv_iald dX10_toldOf_12 (lt_54 hL) q1 ?_
    refine pv_goto (tgt := 17) dX10_toldOf_13 (by decide) ?_
    exact pv_ireturn dX10_toldOf_17 rfl rfl F
set_option maxRecDepth 20000 in
set_option maxHeartbeats 4000000 in
theorem sg_X11_stones_0 {Γ : pv_C} {d kc ks : Nat} {ty : pv_T} {h : pv_H} {r : pv_R} {g : pv_G} {Q : pv_Q} (x : Int32) (y : Int32) (hd : 1 ≤ d) (hL : pv_Lay ty r) (F : (((pf_b (1 ≤ x ∧ x ≤ 9)) = 0 → Q (some (.int (-1))) ty h r g) ∧ (¬ (pf_b (1 ≤ x ∧ x ≤ 9)) = 0 → ((¬ (pf_b (1 ≤ y ∧ y ≤ 99)) = 0 → pv_CJ Γ (d - 1) mX10_bring [.ref 50, .int x, .int y] ty h r g (fun (w1 : Int32) (h1 : pv_H) => Q (some (.int w1)) ty h1 r g)) ∧ ((pf_b (1 ≤ y ∧ y ≤ 99)) = 0 → Q (some (.int (-1))) ty h r g))))) : pv_E Γ d kc ks mX11_stones 0 [some (.ref 100), some (.int x), some (.int y)] [] ty h r g Q := by
  refine pv_iload_n dX11_stones_0 rfl ?_
  refine pv_iconst (v := 1) (by decide) dX11_stones_1 ?_
  refine pv_bipush (v := 9) (by decide) dX11_stones_2 ?_
  refine pv_invS (As := [.int x, .int 1, .int 9]) (d' := d - 1) dX11_stones_4 moX11_within ml_X11_69 (Nat.le_of_ble_eq_true rfl) (by omega) (Nat.zero_le _) (Nat.zero_le _) (ct_X11_within (by omega)) (fun v ty' h' r' g' hq => ?_) rfl
  obtain ⟨e1, e2, e3, e4, e5⟩ := hq
  rw [e1, e2, e3, e4, e5]
  refine pv_pc (pc' := 7) rfl ?_
  show pv_E Γ d kc ks mX11_stones 7 [some (.ref 100), some (.int x), some (.int y)] [.int (pf_b (1 ≤ x ∧ x ≤ 9))] ty h r g Q
  refine pv_if_eq (tgt := 20) dX11_stones_7 (by decide) (fun c1 => ?_) (fun c1 => ?_)
  · have F := F.1 c1
    refine pv_iconst (v := (-1)) (by decide) dX11_stones_20 ?_
    exact pv_ireturn dX11_stones_21 rfl rfl F
  · have F := F.2 c1
    refine pv_iload_n dX11_stones_10 rfl ?_
    refine pv_iconst (v := 1) (by decide) dX11_stones_11 ?_
    refine pv_bipush (v := 99) (by decide) dX11_stones_12 ?_
    refine pv_invS (As := [.int y, .int 1, .int 99]) (d' := d - 1) dX11_stones_14 moX11_within ml_X11_69 (Nat.le_of_ble_eq_true rfl) (by omega) (Nat.zero_le _) (Nat.zero_le _) (ct_X11_within (by omega)) (fun v ty' h' r' g' hq => ?_) rfl
    obtain ⟨e1, e2, e3, e4, e5⟩ := hq
    rw [e1, e2, e3, e4, e5]
    refine pv_pc (pc' := 17) rfl ?_
    show pv_E Γ d kc ks mX11_stones 17 [some (.ref 100), some (.int x), some (.int y)] [.int (pf_b (1 ≤ y ∧ y ≤ 99))] ty h r g Q
    refine pv_if_ne (tgt := 22) dX11_stones_17 (by decide) (fun c2 => ?_) (fun c2 => ?_)
    · have F := F.1 c2
      refine pv_aload_n dX11_stones_22 rfl ?_
      refine pv_getRk 11 4 dX11_stones_23 fl_X11_32 rfl (lt_100 hL) (lr_100_4 hL) ?_
      refine pv_iload_n dX11_stones_26 rfl ?_
      refine pv_iload_n dX11_stones_27 rfl ?_
      refine pv_invV (As := [.int x, .int y]) (d' := d - 1) dX11_stones_28 moX10_bring ml_X11_127 (lt_50 hL) (Or.inl ⟨_, rfl, rfl⟩) (Nat.le_of_ble_eq_true rfl) (by omega) (Nat.zero_le _) (Nat.zero_le _) F (fun v ty' h1 r' g' hq => ?_) rfl
      obtain ⟨e2, e4, e5, w1, e1, F⟩ := hq
      rw [e1, e2, e4, e5]
      refine pv_pc (pc' := 31) rfl ?_
      show pv_E Γ d kc ks mX11_stones 31 [some (.ref 100), some (.int x), some (.int y)] [.int w1] ty h1 r g Q
      exact pv_ireturn dX11_stones_31 rfl rfl F
    · have F := F.2 c2
      refine pv_iconst (v := (-1)) (by decide) dX11_stones_20 ?_
      exact pv_ireturn dX11_stones_21 rfl rfl F
set_option maxRecDepth 20000 in
set_option maxHeartbeats 4000000 in
theorem sg_X11_of_0 {Γ : pv_C} {d kc ks : Nat} {ty : pv_T} {h : pv_H} {r : pv_R} {g : pv_G} {Q : pv_Q} (x : Int32) (hd : 1 ≤ d) (hL : pv_Lay ty r) (F : (((pf_b (1 ≤ x ∧ x ≤ 9)) = 0 → Q (some (.int (-1))) ty h r g) ∧ (¬ (pf_b (1 ≤ x ∧ x ≤ 9)) = 0 → pv_CJ Γ (d - 1) mX10_toldOf [.ref 50, .int x] ty h r g (fun (w1 : Int32) (h1 : pv_H) => Q (some (.int w1)) ty h1 r g)))) : pv_E Γ d kc ks mX11_of 0 [some (.ref 100), some (.int x)] [] ty h r g Q := by
  refine pv_iload_n dX11_of_0 rfl ?_
  refine pv_iconst (v := 1) (by decide) dX11_of_1 ?_
  refine pv_bipush (v := 9) (by decide) dX11_of_2 ?_
  refine pv_invS (As := [.int x, .int 1, .int 9]) (d' := d - 1) dX11_of_4 moX11_within ml_X11_69 (Nat.le_of_ble_eq_true rfl) (by omega) (Nat.zero_le _) (Nat.zero_le _) (ct_X11_within (by omega)) (fun v ty' h' r' g' hq => ?_) rfl
  obtain ⟨e1, e2, e3, e4, e5⟩ := hq
  rw [e1, e2, e3, e4, e5]
  refine pv_pc (pc' := 7) rfl ?_
  show pv_E Γ d kc ks mX11_of 7 [some (.ref 100), some (.int x)] [.int (pf_b (1 ≤ x ∧ x ≤ 9))] ty h r g Q
  refine pv_if_eq (tgt := 21) dX11_of_7 (by decide) (fun c1 => ?_) (fun c1 => ?_)
  · have F := F.1 c1
    refine pv_iconst (v := (-1)) (by decide) dX11_of_21 ?_
    exact pv_ireturn dX11_of_22 rfl rfl F
  · have F := F.2 c1
    refine pv_aload_n dX11_of_10 rfl ?_
    refine pv_getRk 11 4 dX11_of_11 fl_X11_32 rfl (lt_100 hL) (lr_100_4 hL) ?_
    refine pv_iload_n dX11_of_14 rfl ?_
    refine pv_invV (As := [.int x]) (d' := d - 1) dX11_of_15 moX10_toldOf ml_X11_133 (lt_50 hL) (Or.inl ⟨_, rfl, rfl⟩) (Nat.le_of_ble_eq_true rfl) (by omega) (Nat.zero_le _) (Nat.zero_le _) F (fun v ty' h1 r' g' hq => ?_) rfl
    obtain ⟨e2, e4, e5, w1, e1, F⟩ := hq
    rw [e1, e2, e4, e5]
    refine pv_pc (pc' := 18) rfl ?_
    show pv_E Γ d kc ks mX11_of 18 [some (.ref 100), some (.int x)] [.int w1] ty h1 r g Q
    refine pv_goto (tgt := 22) dX11_of_18 (by decide) ?_
    exact pv_ireturn dX11_of_22 rfl rfl F
section SC
variable {Γ : pv_C} {d : Nat} {ty : pv_T} {h : pv_H} {r : pv_R} {g : pv_G}
/-- year(): by the count y -/
def fn_year (y : Int32) : Int32 := if y = 30 then -2 else y + 1
def fp_year (h : pv_H) (a j : Nat) (y : Int32) : pv_H := if y = 30 then h else pv_up h a j (y + 1)
theorem ct_X12_year (hL : pv_Lay ty r) : pv_CJ Γ d mX12_year [.ref 200] ty h r g (fun w h' => w = fn_year (h 200 19) ∧ h' = fp_year h 200 19 (h 200 19)) := by
  refine pv_fn 0 pn_X12 rfl (Nat.le_of_ble_eq_true rfl) (sg_X12_year_0 hL ⟨fun c1 h1 e1 => ?_, fun c1 => ?_⟩)
  · unfold fn_year fp_year
    rw [if_neg c1, if_neg c1, e1, pv_up_same]
    exact pv_jqi ⟨rfl, rfl⟩
  · unfold fn_year fp_year
    rw [if_pos c1, if_pos c1]
    exact pv_jqi ⟨rfl, rfl⟩
theorem ct_X11_year (hL : pv_Lay ty r) (hy : h 100 5 ≤ 30) : pv_CJ Γ d mX11_year [.ref 100] ty h r g (fun w h' => w = fn_year (h 100 5) ∧ h' = fp_year h 100 5 (h 100 5)) := by
  have e30 : h 100 5 < 30 ↔ ¬ h 100 5 = 30 := by grind
  refine pv_fn 0 pn_X11 rfl (Nat.le_of_ble_eq_true rfl) (sg_X11_year_0 hL ⟨fun c0 h1 e1 => ?_, fun c0 => ?_⟩)
  · have c1 := e30.mp c0
    unfold fn_year fp_year
    rw [if_neg c1, if_neg c1, e1, pv_up_same]
    exact pv_jqi ⟨rfl, rfl⟩
  · have c1 : h 100 5 = 30 := Classical.not_not.mp (fun q => c0 (e30.mpr q))
    unfold fn_year fp_year
    rw [if_pos c1, if_pos c1]
    exact pv_jqi ⟨rfl, rfl⟩
/-- days(n): by the count t -/
def fo_days (x t : Int32) : Prop := (1 ≤ x ∧ x ≤ 100) ∧ t + x ≤ 9999
theorem ct_X12_days (hd : 1 ≤ d) (hL : pv_Lay ty r) {x : Int32} : pv_CJ Γ d mX12_days [.ref 200, .int x] ty h r g (fun w h' => (¬ fo_days x (h 200 32) → w = -1 ∧ h' = h) ∧ (fo_days x (h 200 32) → w = h 200 32 + x ∧ h' = pv_up h 200 32 (h 200 32 + x))) := by
  refine pv_fn 0 pn_X12 rfl (Nat.le_of_ble_eq_true rfl) (sg_X12_days_0 x hd hL ?_)
  rw [pf_b_0]
  refine ⟨fun c1 => pv_jqi ⟨fun _ => ⟨rfl, rfl⟩, fun q => absurd q.1 c1⟩, fun c1 => ⟨fun c2 h1 e1 => ?_, fun c2 => pv_jqi ⟨fun _ => ⟨rfl, rfl⟩, fun q => absurd q.2 c2⟩⟩⟩
  rw [e1, pv_up_same]
  exact pv_jqi ⟨fun q => absurd ⟨Classical.not_not.mp c1, c2⟩ q, fun _ => ⟨rfl, rfl⟩⟩
theorem ct_X11_days (hd : 1 ≤ d) (hL : pv_Lay ty r) {x : Int32} : pv_CJ Γ d mX11_days [.ref 100, .int x] ty h r g (fun w h' => (¬ fo_days x (h 100 9) → w = -1 ∧ h' = h) ∧ (fo_days x (h 100 9) → w = h 100 9 + x ∧ h' = pv_up h 100 9 (h 100 9 + x))) := by
  refine pv_fn 0 pn_X11 rfl (Nat.le_of_ble_eq_true rfl) (sg_X11_days_0 x hd hL ?_)
  rw [pf_b_0]
  refine ⟨fun c1 => pv_jqi ⟨fun _ => ⟨rfl, rfl⟩, fun q => absurd q.1 c1⟩, fun c1 => ⟨fun c2 h1 e1 => ?_, fun c2 => pv_jqi ⟨fun _ => ⟨rfl, rfl⟩, fun q => absurd q.2 c2⟩⟩⟩
  rw [e1, pv_up_same]
  exact pv_jqi ⟨fun q => absurd ⟨Classical.not_not.mp c1, c2⟩ q, fun _ => ⟨rfl, rfl⟩⟩
/-- stones(size, n): by the stock's row f -/
def fo_stones (x y : Int32) : Prop := (1 ≤ x ∧ x ≤ 9) ∧ (1 ≤ y ∧ y ≤ 99)
def fq_stones (h : pv_H) (a : Nat) (x y w : Int32) (h' : pv_H) : Prop := (¬ fo_stones x y → w = -1 ∧ h' = h) ∧ (fo_stones x y → (h a x.toNatClampNeg + y ≤ 999 → w = h a x.toNatClampNeg + y ∧ h' = pv_up h a x.toNatClampNeg (h a x.toNatClampNeg + y)) ∧ (¬ h a x.toNatClampNeg + y ≤ 999 → w = -2 ∧ h' = h))
theorem in10 {x : Int32} (q : 1 ≤ x ∧ x ≤ 9) : vp_in x 10 := pv_in_of (m := 10) (by grind) (by grind) rfl (by decide)
theorem ct_X12_stones (hd : 1 ≤ d) (hL : pv_Lay ty r) {x y : Int32} : pv_CJ Γ d mX12_stones [.ref 200, .int x, .int y] ty h r g (fun w h' => fq_stones h 314 x y w h') := by
  refine pv_fn 0 pn_X12 rfl (Nat.le_of_ble_eq_true rfl) (sg_X12_stones_0 x y hd hL ?_)
  simp only [pf_b_0, Classical.not_not]
  refine ⟨fun c1 => pv_jqi ⟨fun _ => ⟨rfl, rfl⟩, fun q => absurd q.1 c1⟩, fun c1 => ⟨fun c2 => ⟨in10 c1, fun c3 => ⟨in10 c1, in10 c1, fun h1 e1 => ⟨in10 c1, ?_⟩⟩, fun c3 => ?_⟩, fun c2 => pv_jqi ⟨fun _ => ⟨rfl, rfl⟩, fun q => absurd q.2 c2⟩⟩⟩
  · rw [e1, pv_up_same]
    exact pv_jqi ⟨fun q => absurd ⟨c1, c2⟩ q, fun _ => ⟨fun _ => ⟨rfl, rfl⟩, fun q => absurd c3 q⟩⟩
  · exact pv_jqi ⟨fun q => absurd ⟨c1, c2⟩ q, fun _ => ⟨fun q => absurd q c3, fun _ => ⟨rfl, rfl⟩⟩⟩
theorem ct_X11_stones (hd : 2 ≤ d) (hL : pv_Lay ty r) {x y : Int32} : pv_CJ Γ d mX11_stones [.ref 100, .int x, .int y] ty h r g (fun w h' => fq_stones h 51 x y w h') := by
  refine pv_fn 0 pn_X11 rfl (Nat.le_of_ble_eq_true rfl) (sg_X11_stones_0 x y (by omega) hL ?_)
  simp only [pf_b_0, Classical.not_not]
  refine ⟨fun c1 => pv_jqi ⟨fun _ => ⟨rfl, rfl⟩, fun q => absurd q.1 c1⟩, fun c1 => ⟨fun c2 => ?_, fun c2 => pv_jqi ⟨fun _ => ⟨rfl, rfl⟩, fun q => absurd q.2 c2⟩⟩⟩
  refine pv_fn 0 pn_X10 rfl (Nat.le_of_ble_eq_true rfl) (sg_X10_bring_0 x y hL ⟨in10 c1, fun c3 => ⟨in10 c1, in10 c1, fun h1 e1 => ⟨in10 c1, ?_⟩⟩, fun c3 => ?_⟩)
  · rw [e1, pv_up_same]
    exact pv_jqi (pv_jqi ⟨fun q => absurd ⟨c1, c2⟩ q, fun _ => ⟨fun _ => ⟨rfl, rfl⟩, fun q => absurd c3 q⟩⟩)
  · exact pv_jqi (pv_jqi ⟨fun q => absurd ⟨c1, c2⟩ q, fun _ => ⟨fun q => absurd q c3, fun _ => ⟨rfl, rfl⟩⟩⟩)
/-- of(size): by 'told' t and the row a -/
def fn_of (h : pv_H) (t : Int32) (a : Nat) (x : Int32) : Int32 := if ¬ t = 0 ∧ (1 ≤ x ∧ x ≤ 9) then h a x.toNatClampNeg else -1
theorem ct_X12_of (hd : 1 ≤ d) (hL : pv_Lay ty r) {x : Int32} : pv_CT Γ d 0 0 mX12_of [.ref 200, .int x] ty h r g (pv_is (.int (fn_of h (h 200 16) 317 x)) ty h r g) := by
  refine pv_fn 0 pn_X12 rfl (Nat.le_of_ble_eq_true rfl) (sg_X12_of_0 x hd hL ?_)
  rw [pf_b_0, Classical.not_not]
  unfold fn_of
  refine ⟨fun c1 => ?_, fun c1 => ⟨fun c2 => ?_, fun c2 => ⟨in10 c2, ?_⟩⟩⟩
  · rw [if_neg (fun q => q.1 c1)]; exact pv_is_refl _ _ _ _ _
  · rw [if_neg (fun q => c2 q.2)]; exact pv_is_refl _ _ _ _ _
  · rw [if_pos ⟨c1, c2⟩]; exact pv_is_refl _ _ _ _ _
theorem ct_X11_of (hd : 2 ≤ d) (hL : pv_Lay ty r) {x : Int32} : pv_CJ Γ d mX11_of [.ref 100, .int x] ty h r g (fun w h' => w = fn_of h (h 50 4) 54 x ∧ h' = h) := by
  refine pv_fn 0 pn_X11 rfl (Nat.le_of_ble_eq_true rfl) (sg_X11_of_0 x (by omega) hL ?_)
  rw [pf_b_0, Classical.not_not]
  unfold fn_of
  refine ⟨fun c1 => ?_, fun c1 => ?_⟩
  · rw [if_neg (fun q => c1 q.2)]; exact pv_jqi ⟨rfl, rfl⟩
  · refine pv_fn 0 pn_X10 rfl (Nat.le_of_ble_eq_true rfl) (sg_X10_toldOf_0 x hL ⟨fun c2 => ?_, fun c2 => ⟨in10 c1, ?_⟩⟩)
    · rw [if_neg (fun q => q.1 c2)]; exact pv_jqi (pv_jqi ⟨rfl, rfl⟩)
    · rw [if_pos ⟨c2, c1⟩]; exact pv_jqi (pv_jqi ⟨rfl, rfl⟩)
end SC
