/-! course, lay: both sides -/
set_option maxRecDepth 20000 in
set_option maxHeartbeats 4000000 in
theorem sg_X10_tellCourse_0 {Γ : pv_C} {d kc ks : Nat} {ty : pv_T} {h : pv_H} {r : pv_R} {g : pv_G} {Q : pv_Q} (x : Int32) (hd : 1 ≤ d) (hL : pv_Lay ty r) (F : pv_CJ Γ (d - 1) mX10_chooseCourse [.ref 50, .int x] ty h r g (fun (w1 : Int32) (h1 : pv_H) => ((¬ w1 = (-2) → pv_E Γ d kc ks mX10_tellCourse 17 [some (.ref 50), none, some (.int w1), some (.int 1)] [] ty h1 r g Q) ∧ (w1 = (-2) → Q (some (.int (-2))) ty h1 r g)))) : pv_E Γ d kc ks mX10_tellCourse 0 [some (.ref 50), some (.int x), none, none] [] ty h r g Q := by
  refine pv_aload_n dX10_tellCourse_0 rfl ?_
  refine pv_iload_n dX10_tellCourse_1 rfl ?_
  refine pv_invV (As := [.int x]) (d' := d - 1) dX10_tellCourse_2 moX10_chooseCourse ml_X10_24 (lt_50 hL) (Or.inl ⟨_, rfl, rfl⟩) (Nat.le_of_ble_eq_true rfl) (by omega) (Nat.zero_le _) (Nat.zero_le _) F (fun v ty' h1 r' g' hq => ?_) rfl
  obtain ⟨e2, e4, e5, w1, e1, F⟩ := hq
  rw [e1, e2, e4, e5]
  refine pv_pc (pc' := 5) rfl ?_
  show pv_E Γ d kc ks mX10_tellCourse 5 [some (.ref 50), some (.int x), none, none] [.int w1] ty h1 r g Q
  refine pv_istore_n (ls' := [some (.ref 50), some (.int x), some (.int w1), none]) dX10_tellCourse_5 (by decide) rfl rfl ?_
  refine pv_iload_n dX10_tellCourse_6 rfl ?_
  refine pv_bipush (v := (-2)) (by decide) dX10_tellCourse_7 ?_
  refine pv_icmp_ne (tgt := 15) dX10_tellCourse_9 (by decide) (fun c1 => ?_) (fun c1 => ?_)
  · have F := F.1 c1
    refine pv_iconst (v := 1) (by decide) dX10_tellCourse_15 ?_
    refine pv_istore_n (ls' := [some (.ref 50), some (.int x), some (.int w1), some (.int 1)]) dX10_tellCourse_16 (by decide) rfl rfl ?_
    refine pv_forgetL (ls' := [some (.ref 50), none, some (.int w1), some (.int 1)]) (pv_subL_ok ⟨rfl, ⟨rfl, ⟨rfl, trivial⟩⟩⟩) ?_
    exact F
  · have F := F.2 c1
    refine pv_bipush (v := (-2)) (by decide) dX10_tellCourse_12 ?_
    exact pv_ireturn dX10_tellCourse_14 rfl rfl F
set_option maxRecDepth 20000 in
set_option maxHeartbeats 4000000 in
theorem sg_X10_tellCourse_17 {Γ : pv_C} {d kc ks : Nat} {ty : pv_T} {h : pv_H} {r : pv_R} {g : pv_G} {Q : pv_Q} (x2 : Int32) (x3 : Int32) (hL : pv_Lay ty r) (F : ((9 < x3 → (∀ h1 : pv_H, h1 = pv_up h 50 4 1 → Q (some (.int x2)) ty h1 r g)) ∧ (¬ 9 < x3 → vp_in x3 10 ∧ vp_in x3 10 ∧ (∀ h2 : pv_H, h2 = pv_up h 54 (Int32.toNatClampNeg x3) (h 53 (Int32.toNatClampNeg x3)) → pv_E Γ d kc ks mX10_tellCourse 17 [some (.ref 50), none, some (.int x2), some (.int (x3 + 1))] [] ty h2 r g Q)))) : pv_E Γ d kc ks mX10_tellCourse 17 [some (.ref 50), none, some (.int x2), some (.int x3)] [] ty h r g Q := by
  refine pv_iload_n dX10_tellCourse_17 rfl ?_
  refine pv_bipush (v := 9) (by decide) dX10_tellCourse_18 ?_
  refine pv_icmp_gt (tgt := 41) dX10_tellCourse_20 (by decide) (fun c1 => ?_) (fun c1 => ?_)
  · have F := F.1 c1
    refine pv_aload_n dX10_tellCourse_41 rfl ?_
    refine pv_iconst (v := 1) (by decide) dX10_tellCourse_42 ?_
    obtain ⟨h1, eh1⟩ : ∃ h1 : pv_H, h1 = pv_up h 50 4 1 := ⟨_, rfl⟩
    have F := F h1 eh1
    refine pv_putI 10 4 dX10_tellCourse_43 fl_X10_28 ⟨_, rfl, Or.inl rfl⟩ (Or.inr ⟨rfl, by decide⟩) (lt_50 hL) ?_
    refine pv_hE eh1 ?_
    refine pv_iload_n dX10_tellCourse_46 rfl ?_
    exact pv_ireturn dX10_tellCourse_47 rfl rfl F
  · have F := F.2 c1
    refine pv_aload_n dX10_tellCourse_23 rfl ?_
    refine pv_getRk 10 3 dX10_tellCourse_24 fl_X10_21 rfl (lt_50 hL) (lr_50_3 hL) ?_
    refine pv_iload_n dX10_tellCourse_27 rfl ?_
    refine pv_aload_n dX10_tellCourse_28 rfl ?_
    refine pv_getRk 10 2 dX10_tellCourse_29 fl_X10_18 rfl (lt_50 hL) (lr_50_2 hL) ?_
    refine pv_iload_n dX10_tellCourse_32 rfl ?_
    refine pv_pc (pc' := 33) rfl ?_
    obtain ⟨q1, F⟩ := F
    refine pv_iald dX10_tellCourse_33 (lt_53 hL) q1 ?_
    obtain ⟨q2, F⟩ := F
    obtain ⟨h2, eh2⟩ : ∃ h2 : pv_H, h2 = pv_up h 54 (Int32.toNatClampNeg x3) (h 53 (Int32.toNatClampNeg x3)) := ⟨_, rfl⟩
    have F := F h2 eh2
    refine pv_iast dX10_tellCourse_34 (lt_54 hL) (by decide) q2 ?_
    refine pv_hE eh2 ?_
    refine pv_iinc (v := x3 + 1) (ls' := [some (.ref 50), none, some (.int x2), some (.int (x3 + 1))]) dX10_tellCourse_35 rfl (by rfl) rfl rfl ?_
    refine pv_goto (tgt := 17) dX10_tellCourse_38 (by decide) ?_
    exact F
set_option maxRecDepth 20000 in
set_option maxHeartbeats 4000000 in
theorem sg_X10_layCourse_0 {Γ : pv_C} {d kc ks : Nat} {ty : pv_T} {h : pv_H} {r : pv_R} {g : pv_G} {Q : pv_Q} (x : Int32) (hd : 1 ≤ d) (hL : pv_Lay ty r) (F : pv_CJ Γ (d - 1) mX10_chooseCourse [.ref 50, .int x] ty h r g (fun (w1 : Int32) (h1 : pv_H) => ((¬ w1 = (-2) → pv_E Γ d kc ks mX10_layCourse 17 [some (.ref 50), none, some (.int w1), some (.int 1)] [] ty h1 r g Q) ∧ (w1 = (-2) → Q (some (.int (-2))) ty h1 r g)))) : pv_E Γ d kc ks mX10_layCourse 0 [some (.ref 50), some (.int x), none, none] [] ty h r g Q := by
  refine pv_aload_n dX10_layCourse_0 rfl ?_
  refine pv_iload_n dX10_layCourse_1 rfl ?_
  refine pv_invV (As := [.int x]) (d' := d - 1) dX10_layCourse_2 moX10_chooseCourse ml_X10_24 (lt_50 hL) (Or.inl ⟨_, rfl, rfl⟩) (Nat.le_of_ble_eq_true rfl) (by omega) (Nat.zero_le _) (Nat.zero_le _) F (fun v ty' h1 r' g' hq => ?_) rfl
  obtain ⟨e2, e4, e5, w1, e1, F⟩ := hq
  rw [e1, e2, e4, e5]
  refine pv_pc (pc' := 5) rfl ?_
  show pv_E Γ d kc ks mX10_layCourse 5 [some (.ref 50), some (.int x), none, none] [.int w1] ty h1 r g Q
  refine pv_istore_n (ls' := [some (.ref 50), some (.int x), some (.int w1), none]) dX10_layCourse_5 (by decide) rfl rfl ?_
  refine pv_iload_n dX10_layCourse_6 rfl ?_
  refine pv_bipush (v := (-2)) (by decide) dX10_layCourse_7 ?_
  refine pv_icmp_ne (tgt := 15) dX10_layCourse_9 (by decide) (fun c1 => ?_) (fun c1 => ?_)
  · have F := F.1 c1
    refine pv_iconst (v := 1) (by decide) dX10_layCourse_15 ?_
    refine pv_istore_n (ls' := [some (.ref 50), some (.int x), some (.int w1), some (.int 1)]) dX10_layCourse_16 (by decide) rfl rfl ?_
    refine pv_forgetL (ls' := [some (.ref 50), none, some (.int w1), some (.int 1)]) (pv_subL_ok ⟨rfl, ⟨rfl, ⟨rfl, trivial⟩⟩⟩) ?_
    exact F
  · have F := F.2 c1
    refine pv_bipush (v := (-2)) (by decide) dX10_layCourse_12 ?_
    exact pv_ireturn dX10_layCourse_14 rfl rfl F
set_option maxRecDepth 20000 in
set_option maxHeartbeats 4000000 in
theorem sg_X10_layCourse_17 {Γ : pv_C} {d kc ks : Nat} {ty : pv_T} {h : pv_H} {r : pv_R} {g : pv_G} {Q : pv_Q} (x2 : Int32) (x3 : Int32) (hL : pv_Lay ty r) (F : ((9 < x3 → Q (some (.int x2)) ty h r g) ∧ (¬ 9 < x3 → vp_in x3 10 ∧ vp_in x3 10 ∧ vp_in x3 10 ∧ (∀ h1 : pv_H, h1 = pv_up h 51 (Int32.toNatClampNeg x3) ((h 51 (Int32.toNatClampNeg x3)) - (h 53 (Int32.toNatClampNeg x3))) → pv_E Γ d kc ks mX10_layCourse 17 [some (.ref 50), none, some (.int x2), some (.int (x3 + 1))] [] ty h1 r g Q)))) : pv_E Γ d kc ks mX10_layCourse 17 [some (.ref 50), none, some (.int x2), some (.int x3)] [] ty h r g Q := by
  refine pv_iload_n dX10_layCourse_17 rfl ?_
  refine pv_bipush (v := 9) (by decide) dX10_layCourse_18 ?_
  refine pv_icmp_gt (tgt := 44) dX10_layCourse_20 (by decide) (fun c1 => ?_) (fun c1 => ?_)
  · have F := F.1 c1
    refine pv_iload_n dX10_layCourse_44 rfl ?_
    exact pv_ireturn dX10_layCourse_45 rfl rfl F
  · have F := F.2 c1
    refine pv_aload_n dX10_layCourse_23 rfl ?_
    refine pv_getRk 10 0 dX10_layCourse_24 fl_X10_9 rfl (lt_50 hL) (lr_50_0 hL) ?_
    refine pv_iload_n dX10_layCourse_27 rfl ?_
    refine pv_dup2 rfl rfl dX10_layCourse_28 ?_
    obtain ⟨q1, F⟩ := F
    refine pv_iald dX10_layCourse_29 (lt_51 hL) q1 ?_
    refine pv_aload_n dX10_layCourse_30 rfl ?_
    refine pv_getRk 10 2 dX10_layCourse_31 fl_X10_18 rfl (lt_50 hL) (lr_50_2 hL) ?_
    refine pv_iload_n dX10_layCourse_34 rfl ?_
    obtain ⟨q2, F⟩ := F
    refine pv_iald dX10_layCourse_35 (lt_53 hL) q2 ?_
    refine pv_isub dX10_layCourse_36 ?_
    obtain ⟨q3, F⟩ := F
    obtain ⟨h1, eh1⟩ : ∃ h1 : pv_H, h1 = pv_up h 51 (Int32.toNatClampNeg x3) ((h 51 (Int32.toNatClampNeg x3)) - (h 53 (Int32.toNatClampNeg x3))) := ⟨_, rfl⟩
    have F := F h1 eh1
    refine pv_iast dX10_layCourse_37 (lt_51 hL) (by decide) q3 ?_
    refine pv_hE eh1 ?_
    refine pv_iinc (v := x3 + 1) (ls' := [some (.ref 50), none, some (.int x2), some (.int (x3 + 1))]) dX10_layCourse_38 rfl (by rfl) rfl rfl ?_
    refine pv_goto (tgt := 17) dX10_layCourse_41 (by decide) ?_
    exact F
set_option maxRecDepth 20000 in
set_option maxHeartbeats 4000000 in
theorem sg_X12_course_0 {Γ : pv_C} {d kc ks : Nat} {ty : pv_T} {h : pv_H} {r : pv_R} {g : pv_G} {Q : pv_Q} (x : Int32) (hd : 1 ≤ d) (hL : pv_Lay ty r) (F : ((¬ (pf_b (1 ≤ x ∧ x ≤ 60)) = 0 → pv_CJ Γ (d - 1) mX12_find [.ref 200, .int x] ty h r g (fun (w1 : Int32) (h1 : pv_H) => ((0 ≤ w1 → (∀ h2 : pv_H, h2 = pv_up h1 200 16 1 → pv_E Γ d kc ks mX12_course 32 [some (.ref 200), none, some (.int w1), some (.int 1)] [] ty h2 r g Q)) ∧ (¬ 0 ≤ w1 → Q (some (.int (-2))) ty h1 r g)))) ∧ ((pf_b (1 ≤ x ∧ x ≤ 60)) = 0 → Q (some (.int (-1))) ty h r g))) : pv_E Γ d kc ks mX12_course 0 [some (.ref 200), some (.int x), none, none] [] ty h r g Q := by
  refine pv_iload_n dX12_course_0 rfl ?_
  refine pv_iconst (v := 1) (by decide) dX12_course_1 ?_
  refine pv_bipush (v := 60) (by decide) dX12_course_2 ?_
  refine pv_invS (As := [.int x, .int 1, .int 60]) (d' := d - 1) dX12_course_4 moX12_in ml_X12_164 (Nat.le_of_ble_eq_true rfl) (by omega) (Nat.zero_le _) (Nat.zero_le _) (ct_X12_in (by omega)) (fun v ty' h' r' g' hq => ?_) rfl
  obtain ⟨e1, e2, e3, e4, e5⟩ := hq
  rw [e1, e2, e3, e4, e5]
  refine pv_pc (pc' := 7) rfl ?_
  show pv_E Γ d kc ks mX12_course 7 [some (.ref 200), some (.int x), none, none] [.int (pf_b (1 ≤ x ∧ x ≤ 60))] ty h r g Q
  refine pv_if_ne (tgt := 12) dX12_course_7 (by decide) (fun c1 => ?_) (fun c1 => ?_)
  · have F := F.1 c1
    refine pv_aload_n dX12_course_12 rfl ?_
    refine pv_iload_n dX12_course_13 rfl ?_
    refine pv_invV (As := [.int x]) (d' := d - 1) dX12_course_14 moX12_find ml_X12_205 (lt_200 hL) (Or.inl ⟨_, rfl, rfl⟩) (Nat.le_of_ble_eq_true rfl) (by omega) (Nat.zero_le _) (Nat.zero_le _) F (fun v ty' h1 r' g' hq => ?_) rfl
    obtain ⟨e2, e4, e5, w1, e1, F⟩ := hq
    rw [e1, e2, e4, e5]
    refine pv_pc (pc' := 17) rfl ?_
    show pv_E Γ d kc ks mX12_course 17 [some (.ref 200), some (.int x), none, none] [.int w1] ty h1 r g Q
    refine pv_istore_n (ls' := [some (.ref 200), some (.int x), some (.int w1), none]) dX12_course_17 (by decide) rfl rfl ?_
    refine pv_iload_n dX12_course_18 rfl ?_
    refine pv_if_ge (tgt := 25) dX12_course_19 (by decide) (fun c2 => ?_) (fun c2 => ?_)
    · have F := F.1 c2
      refine pv_aload_n dX12_course_25 rfl ?_
      refine pv_iconst (v := 1) (by decide) dX12_course_26 ?_
      obtain ⟨h2, eh2⟩ : ∃ h2 : pv_H, h2 = pv_up h1 200 16 1 := ⟨_, rfl⟩
      have F := F h2 eh2
      refine pv_putI 12 16 dX12_course_27 fl_X12_208 ⟨_, rfl, Or.inl rfl⟩ (Or.inr ⟨rfl, by decide⟩) (lt_200 hL) ?_
      refine pv_hE eh2 ?_
      refine pv_iconst (v := 1) (by decide) dX12_course_30 ?_
      refine pv_istore_n (ls' := [some (.ref 200), some (.int x), some (.int w1), some (.int 1)]) dX12_course_31 (by decide) rfl rfl ?_
      refine pv_forgetL (ls' := [some (.ref 200), none, some (.int w1), some (.int 1)]) (pv_subL_ok ⟨rfl, ⟨rfl, ⟨rfl, trivial⟩⟩⟩) ?_
      exact F
    · have F := F.2 c2
      refine pv_bipush (v := (-2)) (by decide) dX12_course_22 ?_
      exact pv_ireturn dX12_course_24 rfl rfl F
  · have F := F.2 c1
    refine pv_iconst (v := (-1)) (by decide) dX12_course_10 ?_
    exact pv_ireturn dX12_course_11 rfl rfl F
set_option maxRecDepth 20000 in
set_option maxHeartbeats 4000000 in
theorem sg_X12_course_32 {Γ : pv_C} {d kc ks : Nat} {ty : pv_T} {h : pv_H} {r : pv_R} {g : pv_G} {Q : pv_Q} (x2 : Int32) (x3 : Int32) (hL : pv_Lay ty r) (F : ((9 < x3 → Q (some (.int x2)) ty h r g) ∧ (¬ 9 < x3 → vp_in x3 10 ∧ vp_in x3 10 ∧ (∀ h1 : pv_H, h1 = pv_up h 317 (Int32.toNatClampNeg x3) (h 315 (Int32.toNatClampNeg x3)) → pv_E Γ d kc ks mX12_course 32 [some (.ref 200), none, some (.int x2), some (.int (x3 + 1))] [] ty h1 r g Q)))) : pv_E Γ d kc ks mX12_course 32 [some (.ref 200), none, some (.int x2), some (.int x3)] [] ty h r g Q := by
  refine pv_iload_n dX12_course_32 rfl ?_
  refine pv_bipush (v := 9) (by decide) dX12_course_33 ?_
  refine pv_icmp_gt (tgt := 56) dX12_course_35 (by decide) (fun c1 => ?_) (fun c1 => ?_)
  · have F := F.1 c1
    refine pv_iload_n dX12_course_56 rfl ?_
    exact pv_ireturn dX12_course_57 rfl rfl F
  · have F := F.2 c1
    refine pv_aload_n dX12_course_38 rfl ?_
    refine pv_getRk 12 17 dX12_course_39 fl_X12_48 rfl (lt_200 hL) (lr_200_17 hL) ?_
    refine pv_iload_n dX12_course_42 rfl ?_
    refine pv_aload_n dX12_course_43 rfl ?_
    refine pv_getRk 12 15 dX12_course_44 fl_X12_45 rfl (lt_200 hL) (lr_200_15 hL) ?_
    refine pv_iload_n dX12_course_47 rfl ?_
    refine pv_pc (pc' := 48) rfl ?_
    obtain ⟨q1, F⟩ := F
    refine pv_iald dX12_course_48 (lt_315 hL) q1 ?_
    obtain ⟨q2, F⟩ := F
    obtain ⟨h1, eh1⟩ : ∃ h1 : pv_H, h1 = pv_up h 317 (Int32.toNatClampNeg x3) (h 315 (Int32.toNatClampNeg x3)) := ⟨_, rfl⟩
    have F := F h1 eh1
    refine pv_iast dX12_course_49 (lt_317 hL) (by decide) q2 ?_
    refine pv_hE eh1 ?_
    refine pv_iinc (v := x3 + 1) (ls' := [some (.ref 200), none, some (.int x2), some (.int (x3 + 1))]) dX12_course_50 rfl (by rfl) rfl rfl ?_
    refine pv_goto (tgt := 32) dX12_course_53 (by decide) ?_
    exact F
set_option maxRecDepth 20000 in
set_option maxHeartbeats 4000000 in
theorem sg_X12_lay_0 {Γ : pv_C} {d kc ks : Nat} {ty : pv_T} {h : pv_H} {r : pv_R} {g : pv_G} {Q : pv_Q} (x : Int32) (hd : 1 ≤ d) (hL : pv_Lay ty r) (F : ((¬ (pf_b (1 ≤ x ∧ x ≤ 60)) = 0 → pv_CJ Γ (d - 1) mX12_find [.ref 200, .int x] ty h r g (fun (w1 : Int32) (h1 : pv_H) => ((0 ≤ w1 → pv_E Γ d kc ks mX12_lay 27 [some (.ref 200), none, some (.int w1), some (.int 1)] [] ty h1 r g Q) ∧ (¬ 0 ≤ w1 → Q (some (.int (-2))) ty h1 r g)))) ∧ ((pf_b (1 ≤ x ∧ x ≤ 60)) = 0 → Q (some (.int (-1))) ty h r g))) : pv_E Γ d kc ks mX12_lay 0 [some (.ref 200), some (.int x), none, none] [] ty h r g Q := by
  refine pv_iload_n dX12_lay_0 rfl ?_
  refine pv_iconst (v := 1) (by decide) dX12_lay_1 ?_
  refine pv_bipush (v := 60) (by decide) dX12_lay_2 ?_
  refine pv_invS (As := [.int x, .int 1, .int 60]) (d' := d - 1) dX12_lay_4 moX12_in ml_X12_164 (Nat.le_of_ble_eq_true rfl) (by omega) (Nat.zero_le _) (Nat.zero_le _) (ct_X12_in (by omega)) (fun v ty' h' r' g' hq => ?_) rfl
  obtain ⟨e1, e2, e3, e4, e5⟩ := hq
  rw [e1, e2, e3, e4, e5]
  refine pv_pc (pc' := 7) rfl ?_
  show pv_E Γ d kc ks mX12_lay 7 [some (.ref 200), some (.int x), none, none] [.int (pf_b (1 ≤ x ∧ x ≤ 60))] ty h r g Q
  refine pv_if_ne (tgt := 12) dX12_lay_7 (by decide) (fun c1 => ?_) (fun c1 => ?_)
  · have F := F.1 c1
    refine pv_aload_n dX12_lay_12 rfl ?_
    refine pv_iload_n dX12_lay_13 rfl ?_
    refine pv_invV (As := [.int x]) (d' := d - 1) dX12_lay_14 moX12_find ml_X12_205 (lt_200 hL) (Or.inl ⟨_, rfl, rfl⟩) (Nat.le_of_ble_eq_true rfl) (by omega) (Nat.zero_le _) (Nat.zero_le _) F (fun v ty' h1 r' g' hq => ?_) rfl
    obtain ⟨e2, e4, e5, w1, e1, F⟩ := hq
    rw [e1, e2, e4, e5]
    refine pv_pc (pc' := 17) rfl ?_
    show pv_E Γ d kc ks mX12_lay 17 [some (.ref 200), some (.int x), none, none] [.int w1] ty h1 r g Q
    refine pv_istore_n (ls' := [some (.ref 200), some (.int x), some (.int w1), none]) dX12_lay_17 (by decide) rfl rfl ?_
    refine pv_iload_n dX12_lay_18 rfl ?_
    refine pv_if_ge (tgt := 25) dX12_lay_19 (by decide) (fun c2 => ?_) (fun c2 => ?_)
    · have F := F.1 c2
      refine pv_iconst (v := 1) (by decide) dX12_lay_25 ?_
      refine pv_istore_n (ls' := [some (.ref 200), some (.int x), some (.int w1), some (.int 1)]) dX12_lay_26 (by decide) rfl rfl ?_
      refine pv_forgetL (ls' := [some (.ref 200), none, some (.int w1), some (.int 1)]) (pv_subL_ok ⟨rfl, ⟨rfl, ⟨rfl, trivial⟩⟩⟩) ?_
      exact F
    · have F := F.2 c2
      refine pv_bipush (v := (-2)) (by decide) dX12_lay_22 ?_
      exact pv_ireturn dX12_lay_24 rfl rfl F
  · have F := F.2 c1
    refine pv_iconst (v := (-1)) (by decide) dX12_lay_10 ?_
    exact pv_ireturn dX12_lay_11 rfl rfl F
set_option maxRecDepth 20000 in
set_option maxHeartbeats 4000000 in
theorem sg_X12_lay_27 {Γ : pv_C} {d kc ks : Nat} {ty : pv_T} {h : pv_H} {r : pv_R} {g : pv_G} {Q : pv_Q} (x2 : Int32) (x3 : Int32) (hL : pv_Lay ty r) (F : ((9 < x3 → Q (some (.int x2)) ty h r g) ∧ (¬ 9 < x3 → vp_in x3 10 ∧ vp_in x3 10 ∧ vp_in x3 10 ∧ (∀ h1 : pv_H, h1 = pv_up h 314 (Int32.toNatClampNeg x3) ((h 314 (Int32.toNatClampNeg x3)) - (h 315 (Int32.toNatClampNeg x3))) → pv_E Γ d kc ks mX12_lay 27 [some (.ref 200), none, some (.int x2), some (.int (x3 + 1))] [] ty h1 r g Q)))) : pv_E Γ d kc ks mX12_lay 27 [some (.ref 200), none, some (.int x2), some (.int x3)] [] ty h r g Q := by
  refine pv_iload_n dX12_lay_27 rfl ?_
  refine pv_bipush (v := 9) (by decide) dX12_lay_28 ?_
  refine pv_icmp_gt (tgt := 54) dX12_lay_30 (by decide) (fun c1 => ?_) (fun c1 => ?_)
  · have F := F.1 c1
    refine pv_iload_n dX12_lay_54 rfl ?_
    exact pv_ireturn dX12_lay_55 rfl rfl F
  · have F := F.2 c1
    refine pv_aload_n dX12_lay_33 rfl ?_
    refine pv_getRk 12 14 dX12_lay_34 fl_X12_42 rfl (lt_200 hL) (lr_200_14 hL) ?_
    refine pv_iload_n dX12_lay_37 rfl ?_
    refine pv_dup2 rfl rfl dX12_lay_38 ?_
    obtain ⟨q1, F⟩ := F
    refine pv_iald dX12_lay_39 (lt_314 hL) q1 ?_
    refine pv_aload_n dX12_lay_40 rfl ?_
    refine pv_getRk 12 15 dX12_lay_41 fl_X12_45 rfl (lt_200 hL) (lr_200_15 hL) ?_
    refine pv_iload_n dX12_lay_44 rfl ?_
    obtain ⟨q2, F⟩ := F
    refine pv_iald dX12_lay_45 (lt_315 hL) q2 ?_
    refine pv_isub dX12_lay_46 ?_
    obtain ⟨q3, F⟩ := F
    obtain ⟨h1, eh1⟩ : ∃ h1 : pv_H, h1 = pv_up h 314 (Int32.toNatClampNeg x3) ((h 314 (Int32.toNatClampNeg x3)) - (h 315 (Int32.toNatClampNeg x3))) := ⟨_, rfl⟩
    have F := F h1 eh1
    refine pv_iast dX12_lay_47 (lt_314 hL) (by decide) q3 ?_
    refine pv_hE eh1 ?_
    refine pv_iinc (v := x3 + 1) (ls' := [some (.ref 200), none, some (.int x2), some (.int (x3 + 1))]) dX12_lay_48 rfl (by rfl) rfl rfl ?_
    refine pv_goto (tgt := 27) dX12_lay_51 (by decide) ?_
    exact F
set_option maxRecDepth 20000 in
set_option maxHeartbeats 4000000 in
theorem sg_X11_course_0 {Γ : pv_C} {d kc ks : Nat} {ty : pv_T} {h : pv_H} {r : pv_R} {g : pv_G} {Q : pv_Q} (x : Int32) (hd : 1 ≤ d) (hL : pv_Lay ty r) (F : (((pf_b (1 ≤ x ∧ x ≤ 60)) = 0 → Q (some (.int (-1))) ty h r g) ∧ (¬ (pf_b (1 ≤ x ∧ x ≤ 60)) = 0 → pv_CJ Γ (d - 1) mX10_tellCourse [.ref 50, .int x] ty h r g (fun (w1 : Int32) (h1 : pv_H) => Q (some (.int w1)) ty h1 r g)))) : pv_E Γ d kc ks mX11_course 0 [some (.ref 100), some (.int x)] [] ty h r g Q := by
  refine pv_iload_n dX11_course_0 rfl ?_
  refine pv_iconst (v := 1) (by decide) dX11_course_1 ?_
  refine pv_bipush (v := 60) (by decide) dX11_course_2 ?_
  refine pv_invS (As := [.int x, .int 1, .int 60]) (d' := d - 1) dX11_course_4 moX11_within ml_X11_69 (Nat.le_of_ble_eq_true rfl) (by omega) (Nat.zero_le _) (Nat.zero_le _) (ct_X11_within (by omega)) (fun v ty' h' r' g' hq => ?_) rfl
  obtain ⟨e1, e2, e3, e4, e5⟩ := hq
  rw [e1, e2, e3, e4, e5]
  refine pv_pc (pc' := 7) rfl ?_
  show pv_E Γ d kc ks mX11_course 7 [some (.ref 100), some (.int x)] [.int (pf_b (1 ≤ x ∧ x ≤ 60))] ty h r g Q
  refine pv_if_eq (tgt := 21) dX11_course_7 (by decide) (fun c1 => ?_) (fun c1 => ?_)
  · have F := F.1 c1
    refine pv_iconst (v := (-1)) (by decide) dX11_course_21 ?_
    exact pv_ireturn dX11_course_22 rfl rfl F
  · have F := F.2 c1
    refine pv_aload_n dX11_course_10 rfl ?_
    refine pv_getRk 11 4 dX11_course_11 fl_X11_32 rfl (lt_100 hL) (lr_100_4 hL) ?_
    refine pv_iload_n dX11_course_14 rfl ?_
    refine pv_invV (As := [.int x]) (d' := d - 1) dX11_course_15 moX10_tellCourse ml_X11_130 (lt_50 hL) (Or.inl ⟨_, rfl, rfl⟩) (Nat.le_of_ble_eq_true rfl) (by omega) (Nat.zero_le _) (Nat.zero_le _) F (fun v ty' h1 r' g' hq => ?_) rfl
    obtain ⟨e2, e4, e5, w1, e1, F⟩ := hq
    rw [e1, e2, e4, e5]
    refine pv_pc (pc' := 18) rfl ?_
    show pv_E Γ d kc ks mX11_course 18 [some (.ref 100), some (.int x)] [.int w1] ty h1 r g Q
    refine pv_goto (tgt := 22) dX11_course_18 (by decide) ?_
    exact pv_ireturn dX11_course_22 rfl rfl F
set_option maxRecDepth 20000 in
set_option maxHeartbeats 4000000 in
theorem sg_X11_lay_0 {Γ : pv_C} {d kc ks : Nat} {ty : pv_T} {h : pv_H} {r : pv_R} {g : pv_G} {Q : pv_Q} (x : Int32) (hd : 1 ≤ d) (hL : pv_Lay ty r) (F : (((pf_b (1 ≤ x ∧ x ≤ 60)) = 0 → Q (some (.int (-1))) ty h r g) ∧ (¬ (pf_b (1 ≤ x ∧ x ≤ 60)) = 0 → pv_CJ Γ (d - 1) mX10_layCourse [.ref 50, .int x] ty h r g (fun (w1 : Int32) (h1 : pv_H) => Q (some (.int w1)) ty h1 r g)))) : pv_E Γ d kc ks mX11_lay 0 [some (.ref 100), some (.int x)] [] ty h r g Q := by
  refine pv_iload_n dX11_lay_0 rfl ?_
  refine pv_iconst (v := 1) (by decide) dX11_lay_1 ?_
  refine pv_bipush (v := 60) (by decide) dX11_lay_2 ?_
  refine pv_invS (As := [.int x, .int 1, .int 60]) (d' := d - 1) dX11_lay_4 moX11_within ml_X11_69 (Nat.le_of_ble_eq_true rfl) (by omega) (Nat.zero_le _) (Nat.zero_le _) (ct_X11_within (by omega)) (fun v ty' h' r' g' hq => ?_) rfl
  obtain ⟨e1, e2, e3, e4, e5⟩ := hq
  rw [e1, e2, e3, e4, e5]
  refine pv_pc (pc' := 7) rfl ?_
  show pv_E Γ d kc ks mX11_lay 7 [some (.ref 100), some (.int x)] [.int (pf_b (1 ≤ x ∧ x ≤ 60))] ty h r g Q
  refine pv_if_eq (tgt := 21) dX11_lay_7 (by decide) (fun c1 => ?_) (fun c1 => ?_)
  · have F := F.1 c1
    refine pv_iconst (v := (-1)) (by decide) dX11_lay_21 ?_
    exact pv_ireturn dX11_lay_22 rfl rfl F
  · have F := F.2 c1
    refine pv_aload_n dX11_lay_10 rfl ?_
    refine pv_getRk 11 4 dX11_lay_11 fl_X11_32 rfl (lt_100 hL) (lr_100_4 hL) ?_
    refine pv_iload_n dX11_lay_14 rfl ?_
    refine pv_invV (As := [.int x]) (d' := d - 1) dX11_lay_15 moX10_layCourse ml_X11_136 (lt_50 hL) (Or.inl ⟨_, rfl, rfl⟩) (Nat.le_of_ble_eq_true rfl) (by omega) (Nat.zero_le _) (Nat.zero_le _) F (fun v ty' h1 r' g' hq => ?_) rfl
    obtain ⟨e2, e4, e5, w1, e1, F⟩ := hq
    rw [e1, e2, e4, e5]
    refine pv_pc (pc' := 18) rfl ?_
    show pv_E Γ d kc ks mX11_lay 18 [some (.ref 100), some (.int x)] [.int w1] ty h1 r g Q
    refine pv_goto (tgt := 22) dX11_lay_18 (by decide) ?_
    exact pv_ireturn dX11_lay_22 rfl rfl F
section YL
variable {Γ : pv_C} {d kc ks : Nat} {ty : pv_T} {h h0 : pv_H} {r : pv_R} {g : pv_G} {Q : pv_Q} {st : Nat → Nat} {w : Nat}
theorem ni_n2 {n : Nat} (hn : n < 2 ^ 31) : ¬ nI n = -2 := fun e => absurd (nI_pos' hn) (by rw [e]; decide)
theorem ni_n1 {n : Nat} (hn : n < 2 ^ 31) : ¬ nI n = -1 := fun e => absurd (nI_pos' hn) (by rw [e]; decide)
abbrev aR (b : Nat) : Nat → Nat → Prop := fun a _ => a = b
def yd_S (st : Nat → Nat) (w s : Nat) : Nat := yd_T st w (9 - s)
theorem yd_S_le (st : Nat → Nat) (w : Nat) {s : Nat} (h1 : 1 ≤ s) (h2 : s < 10) : yd_S st w s ≤ st s := by
  have := (yd_B_le st (8 - (9 - s)) (yd_l st w (9 - s))).1
  rw [show 8 - (9 - s) + 1 = s by omega] at this
  exact this
theorem yd_T_S {f : Nat → Int32} (t : ∀ j, j < 9 → f (9 - j) = nI (yd_T st w j)) : ∀ s, 1 ≤ s → s < 10 → f s = nI (yd_S st w s) := fun s h1 h2 => by
  have := t (9 - s) (by omega)
  rw [show 9 - (9 - s) = s by omega] at this
  exact this
def fq_course (st : Nat → Nat) (h : pv_H) (a j b : Nat) (x w : Int32) (h' : pv_H) : Prop := (¬ (1 ≤ x ∧ x ≤ 60) → w = -1 ∧ h' = h) ∧ ∀ v, v ≤ 60 → 1 ≤ v → x = nI v → (yd_F st 9 v < 1000000 → w = nI (yd_F st 9 v) ∧ h' a j = 1 ∧ ∀ s, 1 ≤ s → s < 10 → h' b s = nI (yd_S st v s)) ∧ (¬ yd_F st 9 v < 1000000 → w = -2 ∧ h' a j = h a j ∧ h' b = h b)
def fq_lay (st : Nat → Nat) (h : pv_H) (b : Nat) (x w : Int32) (h' : pv_H) : Prop := (¬ (1 ≤ x ∧ x ≤ 60) → w = -1 ∧ h' = h) ∧ ∀ v, v ≤ 60 → 1 ≤ v → x = nI v → (yd_F st 9 v < 1000000 → w = nI (yd_F st 9 v) ∧ h' b 0 = h b 0 ∧ ∀ s, 1 ≤ s → s < 10 → h' b s = nI (st s - yd_S st v s)) ∧ (¬ yd_F st 9 v < 1000000 → w = -2 ∧ h' b = h b)
theorem yl_x {x : Int32} (q : 1 ≤ x ∧ x ≤ 60) : ∃ v, v ≤ 60 ∧ 1 ≤ v ∧ x = nI v := by
  obtain ⟨v, h1, rfl⟩ := nI_of (x := x) (by grind)
  exact ⟨v, (nI_leI (b := 60) h1 (by decide)).mp q.2, (nI_leI (a := 1) (by decide) h1).mp q.1, rfl⟩
/-- a row is copied -/
theorem yl_t17 (hL : pv_Lay ty r) {x : Int32} {T : Nat → Int32} (hT : ∀ s, 1 ≤ s → s < 10 → h0 53 s = T s) (hQ : ∀ h', pv_fr (aR 54) h0 h' → (∀ s, 1 ≤ s → s < 10 → h' 54 s = T s) → Q (some (.int x)) ty (pv_up h' 50 4 1) r g) : ∀ (m k : Nat) (h : pv_H), k + m = 10 → 1 ≤ k → pv_fr (aR 54) h0 h → (∀ s, 1 ≤ s → s < k → h 54 s = T s) → pv_E Γ d kc ks mX10_tellCourse 17 [some (.ref 50), none, some (.int x), some (.int (nI k))] [] ty h r g Q := by
  intro m
  induction m with
  | zero =>
    intro k h hk k1 hf t
    refine sg_X10_tellCourse_17 _ _ hL (pk_lt 9 k (fun _ h1 e1 => ?_) (fun c => absurd c (by omega)))
    rw [e1]
    exact hQ h hf (fun s h1 h2 => t s h1 (by omega))
  | succ m ih =>
    intro k h hk k1 hf t
    have hi : vp_in (nI k) 10 := vp_in_nI (by omega) (by decide)
    refine sg_X10_tellCourse_17 _ _ hL (pk_lt 9 k (fun c => absurd c (by omega)) (fun _ => ⟨hi, hi, fun h2 e2 => ?_⟩))
    rw [e2, nI_1, nI_clamp (by omega), hf 53 k (show ¬ 53 = 54 by decide), hT k k1 (by omega)]
    refine ih (k + 1) _ (by omega) (by omega) (pv_fr_up hf rfl) (fun s h1 h2 => ?_)
    by_cases q : s = k
    · rw [q, pv_up_same]
    · rw [pv_up_j q]; exact t s h1 (by omega)
theorem yl_c32 (hL : pv_Lay ty r) {x : Int32} {T : Nat → Int32} (hT : ∀ s, 1 ≤ s → s < 10 → h0 315 s = T s) (hQ : ∀ h', pv_fr (aR 317) h0 h' → (∀ s, 1 ≤ s → s < 10 → h' 317 s = T s) → Q (some (.int x)) ty h' r g) : ∀ (m k : Nat) (h : pv_H), k + m = 10 → 1 ≤ k → pv_fr (aR 317) h0 h → (∀ s, 1 ≤ s → s < k → h 317 s = T s) → pv_E Γ d kc ks mX12_course 32 [some (.ref 200), none, some (.int x), some (.int (nI k))] [] ty h r g Q := by
  intro m
  induction m with
  | zero =>
    intro k h hk k1 hf t
    exact sg_X12_course_32 _ _ hL (pk_lt 9 k (fun _ => hQ h hf (fun s h1 h2 => t s h1 (by omega))) (fun c => absurd c (by omega)))
  | succ m ih =>
    intro k h hk k1 hf t
    have hi : vp_in (nI k) 10 := vp_in_nI (by omega) (by decide)
    refine sg_X12_course_32 _ _ hL (pk_lt 9 k (fun c => absurd c (by omega)) (fun _ => ⟨hi, hi, fun h2 e2 => ?_⟩))
    rw [e2, nI_1, nI_clamp (by omega), hf 315 k (show ¬ 315 = 317 by decide), hT k k1 (by omega)]
    refine ih (k + 1) _ (by omega) (by omega) (pv_fr_up hf rfl) (fun s h1 h2 => ?_)
    by_cases q : s = k
    · rw [q, pv_up_same]
    · rw [pv_up_j q]; exact t s h1 (by omega)
/-- a row is taken off -/
theorem yl_l17 (hL : pv_Lay ty r) {x : Int32} {T st : Nat → Nat} (hT : ∀ s, 1 ≤ s → s < 10 → h0 53 s = nI (T s) ∧ T s ≤ st s) (hst : yd_st st h0 51) (hQ : ∀ h', pv_fr (aR 51) h0 h' → h' 51 0 = h0 51 0 → (∀ s, 1 ≤ s → s < 10 → h' 51 s = nI (st s - T s)) → Q (some (.int x)) ty h' r g) : ∀ (m k : Nat) (h : pv_H), k + m = 10 → 1 ≤ k → pv_fr (aR 51) h0 h → (∀ s, 1 ≤ s → s < k → h 51 s = nI (st s - T s)) → (∀ s, s = 0 ∨ k ≤ s → h 51 s = h0 51 s) → pv_E Γ d kc ks mX10_layCourse 17 [some (.ref 50), none, some (.int x), some (.int (nI k))] [] ty h r g Q := by
  intro m
  induction m with
  | zero =>
    intro k h hk k1 hf t t2
    exact sg_X10_layCourse_17 _ _ hL (pk_lt 9 k (fun _ => hQ h hf (t2 0 (Or.inl rfl)) (fun s h1 h2 => t s h1 (by omega))) (fun c => absurd c (by omega)))
  | succ m ih =>
    intro k h hk k1 hf t t2
    have hi : vp_in (nI k) 10 := vp_in_nI (by omega) (by decide)
    obtain ⟨a1, a2⟩ := hT k k1 (by omega)
    refine sg_X10_layCourse_17 _ _ hL (pk_lt 9 k (fun c => absurd c (by omega)) (fun _ => ⟨hi, hi, hi, fun h2 e2 => ?_⟩))
    rw [e2, nI_1, nI_clamp (by omega), hf 53 k (show ¬ 53 = 51 by decide), a1, t2 k (Or.inr (Nat.le_refl _)), (hst k (by omega)).2, pk_sub a2]
    refine ih (k + 1) _ (by omega) (by omega) (pv_fr_up hf rfl) (fun s h1 h2 => ?_) (fun s h1 => by rw [pv_up_j (by omega)]; exact t2 s (by omega))
    by_cases q : s = k
    · rw [q, pv_up_same]
    · rw [pv_up_j q]; exact t s h1 (by omega)
theorem yl_m27 (hL : pv_Lay ty r) {x : Int32} {T st : Nat → Nat} (hT : ∀ s, 1 ≤ s → s < 10 → h0 315 s = nI (T s) ∧ T s ≤ st s) (hst : yd_st st h0 314) (hQ : ∀ h', pv_fr (aR 314) h0 h' → h' 314 0 = h0 314 0 → (∀ s, 1 ≤ s → s < 10 → h' 314 s = nI (st s - T s)) → Q (some (.int x)) ty h' r g) : ∀ (m k : Nat) (h : pv_H), k + m = 10 → 1 ≤ k → pv_fr (aR 314) h0 h → (∀ s, 1 ≤ s → s < k → h 314 s = nI (st s - T s)) → (∀ s, s = 0 ∨ k ≤ s → h 314 s = h0 314 s) → pv_E Γ d kc ks mX12_lay 27 [some (.ref 200), none, some (.int x), some (.int (nI k))] [] ty h r g Q := by
  intro m
  induction m with
  | zero =>
    intro k h hk k1 hf t t2
    exact sg_X12_lay_27 _ _ hL (pk_lt 9 k (fun _ => hQ h hf (t2 0 (Or.inl rfl)) (fun s h1 h2 => t s h1 (by omega))) (fun c => absurd c (by omega)))
  | succ m ih =>
    intro k h hk k1 hf t t2
    have hi : vp_in (nI k) 10 := vp_in_nI (by omega) (by decide)
    obtain ⟨a1, a2⟩ := hT k k1 (by omega)
    refine sg_X12_lay_27 _ _ hL (pk_lt 9 k (fun c => absurd c (by omega)) (fun _ => ⟨hi, hi, hi, fun h2 e2 => ?_⟩))
    rw [e2, nI_1, nI_clamp (by omega), hf 315 k (show ¬ 315 = 314 by decide), a1, t2 k (Or.inr (Nat.le_refl _)), (hst k (by omega)).2, pk_sub a2]
    refine ih (k + 1) _ (by omega) (by omega) (pv_fr_up hf rfl) (fun s h1 h2 => ?_) (fun s h1 => by rw [pv_up_j (by omega)]; exact t2 s (by omega))
    by_cases q : s = k
    · rw [q, pv_up_same]
    · rw [pv_up_j q]; exact t s h1 (by omega)
abbrev yK : Nat → Nat → Prop := fun a j => a = 52 ∨ a = 53 ∨ a = 54 ∨ (a = 50 ∧ j = 4)
abbrev yM : Nat → Nat → Prop := fun a j => a = 318 ∨ a = 315 ∨ a = 317 ∨ (a = 200 ∧ j = 16)
abbrev yL : Nat → Nat → Prop := fun a _ => a = 51 ∨ a = 52 ∨ a = 53
abbrev yN : Nat → Nat → Prop := fun a _ => a = 318 ∨ a = 315 ∨ a = 314
theorem yl_one {v w : Nat} (h : w ≤ 60) (h2 : v ≤ 60) (e : nI w = nI v) : v = w := ((nI_eq (by omega) (by omega)).mp e).symm
theorem ct_X11_course (hd : 3 ≤ d) (hL : pv_Lay ty r) (hst : yd_st st h 51) {x : Int32} : pv_CJ Γ d mX11_course [.ref 100, .int x] ty h r g (fun w h' => pv_fr yK h h' ∧ fq_course st h 50 4 54 x w h') := by
  refine pv_fn 0 pn_X11 rfl (Nat.le_of_ble_eq_true rfl) (sg_X11_course_0 x (by omega) hL (pk_b (fun c1 => ?_) (fun c1 => pv_jqi ⟨pv_fr_refl _ _, fun _ => ⟨rfl, rfl⟩, fun v h1 h2 e => absurd ?_ c1⟩)))
  · obtain ⟨w, hw, hw1, rfl⟩ := yl_x c1
    refine pv_fn 2 pn_X10 rfl (Nat.le_of_ble_eq_true rfl) (sg_X10_tellCourse_0 _ (by omega) hL (pv_CJ.mono (ct_X10_chooseCourse (by omega) hL hw hst) (fun x h1 q => ?_)))
    obtain ⟨hf, q1, q2⟩ := q
    have b := yd_F_le st 9 w
    by_cases c2 : yd_F st 9 w < 1000000
    · obtain ⟨rfl, t⟩ := q1 c2
      refine ⟨fun _ => ?_, fun e => absurd e (ni_n2 (by omega))⟩
      refine yl_t17 hL (yd_T_S (f := h1 53) t) (fun h' f' t' => pv_jqi (pv_jqi ⟨fun a j z => ?_, fun q => absurd c1 q, fun v h1 h2 e => ?_⟩)) 9 1 h1 rfl (by omega) (pv_fr_refl _ _) (fun s h1 h2 => absurd h1 (by omega))
      · rw [pv_up, if_neg (fun q => z (Or.inr (Or.inr (Or.inr q)))), f' a j (fun q => z (Or.inr (Or.inr (Or.inl q)))), hf a j (fun q => z (q.elim Or.inl (fun q => Or.inr (Or.inl q))))]
      · have e' := yl_one hw h1 e
        subst e'
        exact ⟨fun _ => ⟨rfl, pv_up_same _ _ _ _, fun s h1 h2 => by rw [pv_up_a (by decide)]; exact t' s h1 h2⟩, fun q => absurd c2 q⟩
    · have e2 := q2 c2
      subst e2
      refine ⟨fun q => absurd rfl q, fun _ => pv_jqi (pv_jqi ⟨fun a j z => hf a j (fun q => z (q.elim Or.inl (fun q => Or.inr (Or.inl q)))), fun q => absurd c1 q, fun v h1 h2 e => ?_⟩)⟩
      have e' := yl_one hw h1 e
      subst e'
      exact ⟨fun q => absurd q c2, fun _ => ⟨rfl, hf 50 4 (by decide), pv_fr_r hf (fun j => by simp)⟩⟩
  · rw [e]
    exact ⟨(nI_leI (a := 1) (by decide) (by omega)).mpr h2, (nI_leI (b := 60) (by omega) (by decide)).mpr h1⟩
theorem ct_X11_lay (hd : 3 ≤ d) (hL : pv_Lay ty r) (hst : yd_st st h 51) {x : Int32} : pv_CJ Γ d mX11_lay [.ref 100, .int x] ty h r g (fun w h' => pv_fr yL h h' ∧ fq_lay st h 51 x w h') := by
  refine pv_fn 0 pn_X11 rfl (Nat.le_of_ble_eq_true rfl) (sg_X11_lay_0 x (by omega) hL (pk_b (fun c1 => ?_) (fun c1 => pv_jqi ⟨pv_fr_refl _ _, fun _ => ⟨rfl, rfl⟩, fun v h1 h2 e => absurd ?_ c1⟩)))
  · obtain ⟨w, hw, hw1, rfl⟩ := yl_x c1
    refine pv_fn 2 pn_X10 rfl (Nat.le_of_ble_eq_true rfl) (sg_X10_layCourse_0 _ (by omega) hL (pv_CJ.mono (ct_X10_chooseCourse (by omega) hL hw hst) (fun x h1 q => ?_)))
    obtain ⟨hf, q1, q2⟩ := q
    have b := yd_F_le st 9 w
    by_cases c2 : yd_F st 9 w < 1000000
    · obtain ⟨rfl, t⟩ := q1 c2
      have t2 := yd_T_S (f := h1 53) t
      refine ⟨fun _ => ?_, fun e => absurd e (ni_n2 (by omega))⟩
      refine yl_l17 hL (T := yd_S st w) (fun s a1 a2 => ⟨t2 s a1 a2, yd_S_le st w a1 a2⟩) (yd_st_fr hf (fun j => by simp) hst) (fun h' f' t0 t' => pv_jqi (pv_jqi ⟨fun a j z => ?_, fun q => absurd c1 q, fun v h1 h2 e => ?_⟩)) 9 1 h1 rfl (by omega) (pv_fr_refl _ _) (fun s h1 h2 => absurd h1 (by omega)) (fun s _ => rfl)
      · rw [f' a j (fun q => z (Or.inl q)), hf a j (fun q => z (Or.inr q))]
      · have e' := yl_one hw h1 e
        subst e'
        exact ⟨fun _ => ⟨rfl, t0.trans (hf 51 0 (by decide)), t'⟩, fun q => absurd c2 q⟩
    · have e2 := q2 c2
      subst e2
      refine ⟨fun q => absurd rfl q, fun _ => pv_jqi (pv_jqi ⟨fun a j z => hf a j (fun q => z (Or.inr q)), fun q => absurd c1 q, fun v h1 h2 e => ?_⟩)⟩
      have e' := yl_one hw h1 e
      subst e'
      exact ⟨fun q => absurd q c2, fun _ => ⟨rfl, pv_fr_r hf (fun j => by simp)⟩⟩
  · rw [e]
    exact ⟨(nI_leI (a := 1) (by decide) (by omega)).mpr h2, (nI_leI (b := 60) (by omega) (by decide)).mpr h1⟩
theorem ct_X12_course (hd : 3 ≤ d) (hL : pv_Lay ty r) (hst : yd_st st h 314) {x : Int32} : pv_CJ Γ d mX12_course [.ref 200, .int x] ty h r g (fun w h' => pv_fr yM h h' ∧ fq_course st h 200 16 317 x w h') := by
  refine pv_fn 2 pn_X12 rfl (Nat.le_of_ble_eq_true rfl) (sg_X12_course_0 x (by omega) hL (pj_b (fun c1 => ?_) (fun c1 => pv_jqi ⟨pv_fr_refl _ _, fun _ => ⟨rfl, rfl⟩, fun v h1 h2 e => absurd ?_ c1⟩)))
  · obtain ⟨w, hw, hw1, rfl⟩ := yl_x c1
    refine pv_CJ.mono (ct_X12_find hL hw hst) (fun x h1 q => ?_)
    obtain ⟨hf, q1, q2⟩ := q
    have b := yd_F_le st 9 w
    by_cases c2 : yd_F st 9 w < 1000000
    · obtain ⟨rfl, t⟩ := q1 c2
      refine ⟨fun _ h2 e2 => ?_, fun e => absurd (nI_pos' (by omega)) e⟩
      rw [e2]
      have t2 := yd_T_S (f := h1 315) t
      refine yl_c32 hL (T := fun s => nI (yd_S st w s)) (fun s a1 a2 => by rw [pv_up_a (by decide)]; exact t2 s a1 a2) (fun h' f' t' => pv_jqi ⟨fun a j z => ?_, fun q => absurd c1 q, fun v h1 h2 e => ?_⟩) 9 1 _ rfl (by omega) (pv_fr_refl _ _) (fun s h1 h2 => absurd h1 (by omega))
      · rw [f' a j (fun q => z (Or.inr (Or.inr (Or.inl q)))), pv_up, if_neg (fun q => z (Or.inr (Or.inr (Or.inr q)))), hf a j (fun q => z (q.elim Or.inl (fun q => Or.inr (Or.inl q))))]
      · have e' := yl_one hw h1 e
        subst e'
        exact ⟨fun _ => ⟨rfl, (f' 200 16 (by decide)).trans (pv_up_same _ _ _ _), t'⟩, fun q => absurd c2 q⟩
    · have e2 := q2 c2
      subst e2
      refine ⟨fun q => absurd q (by decide), fun _ => pv_jqi ⟨fun a j z => hf a j (fun q => z (q.elim Or.inl (fun q => Or.inr (Or.inl q)))), fun q => absurd c1 q, fun v h1 h2 e => ?_⟩⟩
      have e' := yl_one hw h1 e
      subst e'
      exact ⟨fun q => absurd q c2, fun _ => ⟨rfl, hf 200 16 (by decide), pv_fr_r hf (fun j => by simp)⟩⟩
  · rw [e]
    exact ⟨(nI_leI (a := 1) (by decide) (by omega)).mpr h2, (nI_leI (b := 60) (by omega) (by decide)).mpr h1⟩
theorem ct_X12_lay (hd : 3 ≤ d) (hL : pv_Lay ty r) (hst : yd_st st h 314) {x : Int32} : pv_CJ Γ d mX12_lay [.ref 200, .int x] ty h r g (fun w h' => pv_fr yN h h' ∧ fq_lay st h 314 x w h') := by
  refine pv_fn 2 pn_X12 rfl (Nat.le_of_ble_eq_true rfl) (sg_X12_lay_0 x (by omega) hL (pj_b (fun c1 => ?_) (fun c1 => pv_jqi ⟨pv_fr_refl _ _, fun _ => ⟨rfl, rfl⟩, fun v h1 h2 e => absurd ?_ c1⟩)))
  · obtain ⟨w, hw, hw1, rfl⟩ := yl_x c1
    refine pv_CJ.mono (ct_X12_find hL hw hst) (fun x h1 q => ?_)
    obtain ⟨hf, q1, q2⟩ := q
    have b := yd_F_le st 9 w
    by_cases c2 : yd_F st 9 w < 1000000
    · obtain ⟨rfl, t⟩ := q1 c2
      refine ⟨fun _ => ?_, fun e => absurd (nI_pos' (by omega)) e⟩
      have t2 := yd_T_S (f := h1 315) t
      refine yl_m27 hL (T := yd_S st w) (fun s a1 a2 => ⟨t2 s a1 a2, yd_S_le st w a1 a2⟩) (yd_st_fr hf (fun j => by simp) hst) (fun h' f' t0 t' => pv_jqi ⟨fun a j z => ?_, fun q => absurd c1 q, fun v h1 h2 e => ?_⟩) 9 1 h1 rfl (by omega) (pv_fr_refl _ _) (fun s h1 h2 => absurd h1 (by omega)) (fun s _ => rfl)
      · rw [f' a j (fun q => z (Or.inr (Or.inr q))), hf a j (fun q => z (q.elim Or.inl (fun q => Or.inr (Or.inl q))))]
      · have e' := yl_one hw h1 e
        subst e'
        exact ⟨fun _ => ⟨rfl, t0.trans (hf 314 0 (by decide)), t'⟩, fun q => absurd c2 q⟩
    · have e2 := q2 c2
      subst e2
      refine ⟨fun q => absurd q (by decide), fun _ => pv_jqi ⟨fun a j z => hf a j (fun q => z (q.elim Or.inl (fun q => Or.inr (Or.inl q)))), fun q => absurd c1 q, fun v h1 h2 e => ?_⟩⟩
      have e' := yl_one hw h1 e
      subst e'
      exact ⟨fun q => absurd q c2, fun _ => ⟨rfl, pv_fr_r hf (fun j => by simp)⟩⟩
  · rw [e]
    exact ⟨(nI_leI (a := 1) (by decide) (by omega)).mpr h2, (nI_leI (b := 60) (by omega) (by decide)).mpr h1⟩
end YL
