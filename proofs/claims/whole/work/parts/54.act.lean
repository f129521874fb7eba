/-! act: both sides -/
def pv_frG {α : Type} (A : Nat → Nat → Prop) (f f' : Nat → Nat → α) : Prop := ∀ a j, ¬ A a j → f' a j = f a j
theorem pv_frG_refl {α : Type} (A : Nat → Nat → Prop) (f : Nat → Nat → α) : pv_frG A f f := fun _ _ _ => rfl
theorem pv_frG_up {α : Type} {A : Nat → Nat → Prop} {f f1 : Nat → Nat → α} {a j : Nat} {x : α} (hf : pv_frG A f f1) (hA : A a j) : pv_frG A f (pv_up f1 a j x) := fun b k q => by
  rw [← hf b k q]
  unfold pv_up
  rw [if_neg]
  rintro ⟨rfl, rfl⟩
  exact q hA
theorem pv_frG_new {α : Type} {A : Nat → Nat → Prop} {f f1 : Nat → Nat → α} {a : Nat} {x : α} (hf : pv_frG A f f1) (hA : ∀ j, A a j) : pv_frG A f (pv_new f1 a x) := fun b k q => by
  rw [← hf b k q]
  unfold pv_new
  rw [if_neg]
  rintro rfl
  exact q (hA k)
theorem pv_lay_R : ∀ q ∈ pv_layR, q.1 < 1000 := by decide +kernel
theorem pv_lay_T : ∀ q ∈ pv_layT, q.1 < 1000 := by decide +kernel
theorem pv_Lay_up {ty : pv_T} {r : pv_R} {a j x : Nat} (hL : pv_Lay ty r) (ha : ∀ q ∈ pv_layR, ¬ (q.1 = a ∧ q.2.1 = j)) : pv_Lay ty (pv_up r a j x) := ⟨hL.1, fun q hq => by
  rw [pv_up, if_neg (ha q hq)]
  exact hL.2 q hq⟩
theorem pv_Lay_new {ty : pv_T} {r : pv_R} {a k n : Nat} (hL : pv_Lay ty r) (ha : 1000 ≤ a) : pv_Lay (pv_newT ty a k n) (pv_new r a 0) := ⟨fun q hq => by
  have := pv_lay_T q hq
  rw [pv_newT, if_neg (by omega)]
  exact hL.1 q hq, fun q hq => by
  have := pv_lay_R q hq
  rw [pv_new, if_neg (by omega)]
  exact hL.2 q hq⟩
theorem pv_Lay_big {ty : pv_T} {r : pv_R} {a j x : Nat} (hL : pv_Lay ty r) (ha : 1000 ≤ a) : pv_Lay ty (pv_up r a j x) := pv_Lay_up hL (fun q hq z => by have := pv_lay_R q hq; omega)
set_option maxRecDepth 20000 in
set_option maxHeartbeats 4000000 in
theorem sg_J7_copyOf_9075b_0 {Γ : pv_C} {d kc ks : Nat} {ty : pv_T} {h : pv_H} {r : pv_R} {g : pv_G} {Q : pv_Q} (x : Nat) (y : Int32) (hd : 1 ≤ d) (F : (∃ k1 n1 : Nat, ty x = some (k1, n1) ∧ (20 ≤ k1 ∧ k1 ≤ 27) ∧ ((¬ y = (nI n1) → (∃ nm1 n2 : Nat, ¬ y < 0 ∧ Int32.toNatClampNeg y = n2 ∧ n2 ≤ 1000000 ∧ 10 ≤ nm1 ∧ ty nm1 = none ∧ 1 ≤ kc ∧ n2 ≤ ks ∧ (∀ (ty1 : pv_T) (h1 : pv_H) (r1 : pv_R) (g1 : pv_G), ty1 = pv_newT ty nm1 21 n2 → h1 = pv_new h nm1 0 → r1 = pv_new r nm1 0 → g1 = pv_new g nm1 0 → (∃ k2 n3 : Nat, ty1 x = some (k2, n3) ∧ (20 ≤ k2 ∧ k2 ≤ 27) ∧ pv_acpOK ty1 x 0 nm1 0 (if y < (nI n3) then y else (nI n3)) ∧ (∀ h2 : pv_H, h2 = pv_cpy h1 x (Int32.toNatClampNeg 0) nm1 (Int32.toNatClampNeg 0) (Int32.toNatClampNeg (if y < (nI n3) then y else (nI n3))) → Q (some (.ref nm1)) ty1 h2 r1 g1))))) ∧ (y = (nI n1) → (∃ nm2 n4 : Nat, 10 ≤ x ∧ ty x = some (21, n4) ∧ 10 ≤ nm2 ∧ ty nm2 = none ∧ 1 ≤ kc ∧ n4 ≤ ks ∧ (∀ (ty2 : pv_T) (h3 : pv_H) (r2 : pv_R) (g2 : pv_G), ty2 = pv_newT ty nm2 21 n4 → h3 = pv_row h nm2 (h x) → r2 = pv_new r nm2 0 → g2 = pv_new g nm2 0 → (∃ n5 : Nat, 10 ≤ nm2 ∧ ty2 nm2 = some (21, n5) ∧ Q (some (.ref nm2)) ty2 h3 r2 g2))))))) : pv_E Γ d kc ks mJ7_copyOf_9075b 0 [some (.ref x), some (.int y), none] [] ty h r g Q := by
  refine pv_iload_n dJ7_copyOf_9075b_0 rfl ?_
  refine pv_aload_n dJ7_copyOf_9075b_1 rfl ?_
  obtain ⟨k1, n1, q1, q1k, F⟩ := F
  refine pv_alen dJ7_copyOf_9075b_2 q1 q1k ?_
  refine pv_icmp_ne (tgt := 14) dJ7_copyOf_9075b_3 (by decide) (fun c1 => ?_) (fun c1 => ?_)
  · have F := F.1 c1
    refine pv_iload_n dJ7_copyOf_9075b_14 rfl ?_
    obtain ⟨nm1, n2, q2n, q2N, q2m, q2a, q2b, q2c, q2d, F⟩ := F
    obtain ⟨ty1, ety1⟩ : ∃ ty1 : pv_T, ty1 = pv_newT ty nm1 21 n2 := ⟨_, rfl⟩
    obtain ⟨h1, eh1⟩ : ∃ h1 : pv_H, h1 = pv_new h nm1 0 := ⟨_, rfl⟩
    obtain ⟨r1, er1⟩ : ∃ r1 : pv_R, r1 = pv_new r nm1 0 := ⟨_, rfl⟩
    obtain ⟨g1, eg1⟩ : ∃ g1 : pv_G, g1 = pv_new g nm1 0 := ⟨_, rfl⟩
    have F := F ty1 h1 r1 g1 ety1 eh1 er1 eg1
    refine pv_newA nm1 21 n2 dJ7_copyOf_9075b_15 rfl (by decide) ac_byte q2n q2N q2m q2a q2b q2c q2d ?_
    refine pv_nE ety1 eh1 er1 eg1 ?_
    refine pv_astore_n (ls' := [some (.ref x), some (.int y), some (.ref nm1)]) dJ7_copyOf_9075b_17 (by decide) rfl rfl ?_
    refine pv_aload_n dJ7_copyOf_9075b_18 rfl ?_
    refine pv_iconst (v := 0) (by decide) dJ7_copyOf_9075b_19 ?_
    refine pv_aload_n dJ7_copyOf_9075b_20 rfl ?_
    refine pv_iconst (v := 0) (by decide) dJ7_copyOf_9075b_21 ?_
    refine pv_aload_n dJ7_copyOf_9075b_22 rfl ?_
    refine pv_pc (pc' := 23) rfl ?_
    obtain ⟨k2, n3, q3, q3k, F⟩ := F
    refine pv_alen dJ7_copyOf_9075b_23 q3 q3k ?_
    refine pv_iload_n dJ7_copyOf_9075b_24 rfl ?_
    refine pv_mmin dJ7_copyOf_9075b_25 ml_J7_304 (by omega) (Nat.le_of_ble_eq_true rfl) ?_
    obtain ⟨q4, F⟩ := F
    obtain ⟨h2, eh2⟩ : ∃ h2 : pv_H, h2 = pv_cpy h1 x (Int32.toNatClampNeg 0) nm1 (Int32.toNatClampNeg 0) (Int32.toNatClampNeg (if y < (nI n3) then y else (nI n3))) := ⟨_, rfl⟩
    have F := F h2 eh2
    refine pv_acopy dJ7_copyOf_9075b_28 ml_J7_150 acp_n acp_s acp_i q4 (by omega) (Nat.le_of_ble_eq_true rfl) ?_
    refine pv_hE eh2 ?_
    refine pv_aload_n dJ7_copyOf_9075b_31 rfl ?_
    exact pv_areturn dJ7_copyOf_9075b_32 rfl (by first | exact Or.inl ⟨_, rfl⟩ | exact Or.inr ⟨_, rfl⟩) F
  · have F := F.2 c1
    refine pv_aload_n dJ7_copyOf_9075b_6 rfl ?_
    obtain ⟨nm2, n4, q5a, q5b, q5c, q5d, q5e, q5f, F⟩ := F
    obtain ⟨ty2, ety2⟩ : ∃ ty2 : pv_T, ty2 = pv_newT ty nm2 21 n4 := ⟨_, rfl⟩
    obtain ⟨h3, eh3⟩ : ∃ h3 : pv_H, h3 = pv_row h nm2 (h x) := ⟨_, rfl⟩
    obtain ⟨r2, er2⟩ : ∃ r2 : pv_R, r2 = pv_new r nm2 0 := ⟨_, rfl⟩
    obtain ⟨g2, eg2⟩ : ∃ g2 : pv_G, g2 = pv_new g nm2 0 := ⟨_, rfl⟩
    have F := F ty2 h3 r2 g2 ety2 eh3 er2 eg2
    refine pv_clone nm2 dJ7_copyOf_9075b_7 rfl q5a q5b q5c q5d q5e q5f (Nat.le_of_ble_eq_true rfl) (by omega) ?_
    refine pv_nE ety2 eh3 er2 eg2 ?_
    obtain ⟨n5, q6a, q6b, F⟩ := F
    refine pv_castB dJ7_copyOf_9075b_10 cl_J7_311 q6a q6b ?_
    exact pv_areturn dJ7_copyOf_9075b_13 rfl (by first | exact Or.inl ⟨_, rfl⟩ | exact Or.inr ⟨_, rfl⟩) F
set_option maxRecDepth 20000 in
set_option maxHeartbeats 4000000 in
theorem sg_X0_init_0 {Γ : pv_C} {d kc ks : Nat} {ty : pv_T} {h : pv_H} {r : pv_R} {g : pv_G} {Q : pv_Q} (a : Nat) (x : Int32) (y : Int32) (z : Int32) (u : Nat) (hd : 1 ≤ d) (F : a ≠ 0 ∧ ty a = some (0, 0) ∧ (∀ h1 : pv_H, h1 = pv_up h a 0 x → ty a = some (0, 0) ∧ (∀ h2 : pv_H, h2 = pv_up h1 a 1 y → ty a = some (0, 0) ∧ (∀ h3 : pv_H, h3 = pv_up h2 a 2 z → ty a = some (0, 0) ∧ (∀ r1 : pv_R, r1 = pv_up r a 3 u → pv_Lay ty r1 ∧ Q none ty h3 r1 g))))) : pv_E Γ d kc ks mX0_init 0 [some (.ref a), some (.int x), some (.int y), some (.int z), some (.ref u)] [] ty h r g Q := by
  refine pv_aload_n dX0_init_0 rfl ?_
  obtain ⟨q1, F⟩ := F
  refine pv_objI dX0_init_1 ml_X0_1 obj_i obj_c q1 (by omega) (Nat.le_of_ble_eq_true rfl) ?_
  refine pv_aload_n dX0_init_4 rfl ?_
  refine pv_iload_n dX0_init_5 rfl ?_
  obtain ⟨q2, F⟩ := F
  obtain ⟨h1, eh1⟩ : ∃ h1 : pv_H, h1 = pv_up h a 0 x := ⟨_, rfl⟩
  have F := F h1 eh1
  refine pv_putI 0 0 dX0_init_6 fl_X0_7 ⟨_, rfl, Or.inr ⟨rfl, rfl, rfl⟩⟩ (Or.inl rfl) q2 ?_
  refine pv_hE eh1 ?_
  refine pv_aload_n dX0_init_9 rfl ?_
  refine pv_iload_n dX0_init_10 rfl ?_
  obtain ⟨q3, F⟩ := F
  obtain ⟨h2, eh2⟩ : ∃ h2 : pv_H, h2 = pv_up h1 a 1 y := ⟨_, rfl⟩
  have F := F h2 eh2
  refine pv_putI 0 1 dX0_init_11 fl_X0_13 ⟨_, rfl, Or.inr ⟨rfl, rfl, rfl⟩⟩ (Or.inl rfl) q3 ?_
  refine pv_hE eh2 ?_
  refine pv_aload_n dX0_init_14 rfl ?_
  refine pv_iload_n dX0_init_15 rfl ?_
  obtain ⟨q4, F⟩ := F
  obtain ⟨h3, eh3⟩ : ∃ h3 : pv_H, h3 = pv_up h2 a 2 z := ⟨_, rfl⟩
  have F := F h3 eh3
  refine pv_putI 0 2 dX0_init_16 fl_X0_16 ⟨_, rfl, Or.inr ⟨rfl, rfl, rfl⟩⟩ (Or.inl rfl) q4 ?_
  refine pv_hE eh3 ?_
  refine pv_aload_n dX0_init_19 rfl ?_
  refine pv_aload dX0_init_20 rfl ?_
  obtain ⟨q5, F⟩ := F
  obtain ⟨r1, er1⟩ : ∃ r1 : pv_R, r1 = pv_up r a 3 u := ⟨_, rfl⟩
  have F := F r1 er1
  refine pv_putR 0 3 dX0_init_22 fl_X0_19 ⟨_, rfl, Or.inr ⟨rfl, rfl, rfl⟩⟩ rfl q5 ?_
  refine pv_rE er1 ?_
  obtain ⟨hL1, F⟩ := F
  exact pv_return dX0_init_25 rfl F
set_option maxRecDepth 20000 in
set_option maxHeartbeats 4000000 in
theorem sg_X1_pass_0 {Γ : pv_C} {d kc ks : Nat} {ty : pv_T} {h : pv_H} {r : pv_R} {g : pv_G} {Q : pv_Q} (x : Int32) (y : Int32) (z : Int32) (hd : 1 ≤ d) (hL : pv_Lay ty r) (F : (((h 70 4) < 20 → (∀ h1 : pv_H, h1 = pv_up h 70 3 0 → pv_CT Γ (d - 1) 0 0 mX9_readText [.ref 80, .ref 71, .int (h 70 3), .int x] ty h1 r g (fun (v1 : Option Value) (ty1 : pv_T) (h2 : pv_H) (r1 : pv_R) (g1 : pv_G) => ∃ w1 : Int32, v1 = some (.int w1) ∧ pv_Lay ty1 r1 ∧ (((h2 80 5) = (-1) → (∃ nm1 : Nat, 10 ≤ nm1 ∧ ty1 nm1 = none ∧ 1 ≤ kc ∧ 4 ≤ ks ∧ (∀ (ty2 : pv_T) (h3 : pv_H) (r2 : pv_R) (g2 : pv_G), ty2 = pv_newT ty1 nm1 0 0 → h3 = pv_new h2 nm1 0 → r2 = pv_new r1 nm1 0 → g2 = pv_new g1 nm1 0 → pv_Lay ty2 r2 ∧ 1 ≤ (kc - 1) ∧ 160 ≤ (ks - 4) ∧ pv_CT Γ (d - 1) 1 160 mJ7_copyOf_9075b [.ref 71, .int (h 70 3)] ty2 h3 r2 g2 (fun (v2 : Option Value) (ty3 : pv_T) (h4 : pv_H) (r3 : pv_R) (g3 : pv_G) => ∃ w2 : Nat, v2 = some (.ref w2) ∧ pv_Lay ty3 r3 ∧ ty3 nm1 = some (0, 0) ∧ pv_CT Γ (d - 1) 0 0 mX0_init [.ref nm1, .int x, .int z, .int y, .ref w2] ty3 h4 r3 g3 (fun (v3 : Option Value) (ty4 : pv_T) (h5 : pv_H) (r4 : pv_R) (g4 : pv_G) => v3 = none ∧ pv_Lay ty4 r4 ∧ vp_in (h2 70 4) 20 ∧ ty4 nm1 = some (0, 0) ∧ (∀ r5 : pv_R, r5 = pv_up r4 72 (Int32.toNatClampNeg (h2 70 4)) nm1 → pv_Lay ty4 r5 ∧ (∀ h6 : pv_H, h6 = pv_up h5 70 4 ((h5 70 4) + 1) → Q (some (.int ((h6 70 4) - 1))) ty4 h6 r5 g4))))))) ∧ (¬ (h2 80 5) = (-1) → Q (some (.int ((-100) - (h2 80 5)))) ty1 h2 r1 g1))))) ∧ (¬ (h 70 4) < 20 → Q (some (.int (-3))) ty h r g))) : pv_E Γ d kc ks mX1_pass 0 [some (.ref 70), some (.int x), some (.int y), some (.int z), none] [] ty h r g Q := by
  refine pv_aload_n dX1_pass_0 rfl ?_
  refine pv_getI 1 4 dX1_pass_1 fl_X1_32 rfl (lt_70 hL) ?_
  refine pv_bipush (v := 20) (by decide) dX1_pass_4 ?_
  refine pv_icmp_lt (tgt := 12) dX1_pass_6 (by decide) (fun c1 => ?_) (fun c1 => ?_)
  · have F := F.1 c1
    refine pv_aload_n dX1_pass_12 rfl ?_
    refine pv_getI 1 3 dX1_pass_13 fl_X1_28 rfl (lt_70 hL) ?_
    refine pv_istore (ls' := [some (.ref 70), some (.int x), some (.int y), some (.int z), some (.int (h 70 3))]) dX1_pass_16 (by decide) rfl rfl ?_
    refine pv_aload_n dX1_pass_18 rfl ?_
    refine pv_iconst (v := 0) (by decide) dX1_pass_19 ?_
    obtain ⟨h1, eh1⟩ : ∃ h1 : pv_H, h1 = pv_up h 70 3 0 := ⟨_, rfl⟩
    have F := F h1 eh1
    refine pv_putI 1 3 dX1_pass_20 fl_X1_28 ⟨_, rfl, Or.inl rfl⟩ (Or.inl rfl) (lt_70 hL) ?_
    refine pv_hE eh1 ?_
    refine pv_aload_n dX1_pass_23 rfl ?_
    refine pv_getRk 1 2 dX1_pass_24 fl_X1_24 rfl (lt_70 hL) (lr_70_2 hL) ?_
    refine pv_aload_n dX1_pass_27 rfl ?_
    refine pv_getRk 1 0 dX1_pass_28 fl_X1_9 rfl (lt_70 hL) (lr_70_0 hL) ?_
    refine pv_iload dX1_pass_31 rfl ?_
    refine pv_iload_n dX1_pass_33 rfl ?_
    refine pv_pc (pc' := 34) rfl ?_
    refine pv_invV (As := [.ref 71, .int (h 70 3), .int x]) (d' := d - 1) dX1_pass_34 moX9_readText ml_X1_35 (lt_80 hL) (Or.inl ⟨_, rfl, rfl⟩) (Nat.le_of_ble_eq_true rfl) (by omega) (Nat.zero_le _) (Nat.zero_le _) F (fun v1 ty1 h2 r1 g1 F => ?_) rfl
    obtain ⟨w1, rfl, F⟩ := F
    obtain ⟨hL1, F⟩ := F
    refine pv_pc (pc' := 37) rfl ?_
    show pv_E Γ d kc ks mX1_pass 37 [some (.ref 70), some (.int x), some (.int y), some (.int z), some (.int (h 70 3))] [.int w1] ty1 h2 r1 g1 Q
    refine pv_pop rfl dX1_pass_37 ?_
    refine pv_aload_n dX1_pass_38 rfl ?_
    refine pv_getRk 1 2 dX1_pass_39 fl_X1_24 rfl (lt_70 hL1) (lr_70_2 hL1) ?_
    refine pv_getI 9 5 dX1_pass_42 fl_X1_39 rfl (lt_80 hL1) ?_
    refine pv_iconst (v := (-1)) (by decide) dX1_pass_45 ?_
    refine pv_icmp_eq (tgt := 60) dX1_pass_46 (by decide) (fun c2 => ?_) (fun c2 => ?_)
    · have F := F.1 c2
      refine pv_aload_n dX1_pass_60 rfl ?_
      refine pv_getRk 1 1 dX1_pass_61 fl_X1_17 rfl (lt_70 hL1) (lr_70_1 hL1) ?_
      refine pv_aload_n dX1_pass_64 rfl ?_
      refine pv_getI 1 4 dX1_pass_65 fl_X1_32 rfl (lt_70 hL1) ?_
      obtain ⟨nm1, q1a, q1b, q1c, q1d, F⟩ := F
      obtain ⟨ty2, ety2⟩ : ∃ ty2 : pv_T, ty2 = pv_newT ty1 nm1 0 0 := ⟨_, rfl⟩
      obtain ⟨h3, eh3⟩ : ∃ h3 : pv_H, h3 = pv_new h2 nm1 0 := ⟨_, rfl⟩
      obtain ⟨r2, er2⟩ : ∃ r2 : pv_R, r2 = pv_new r1 nm1 0 := ⟨_, rfl⟩
      obtain ⟨g2, eg2⟩ : ∃ g2 : pv_G, g2 = pv_new g1 nm1 0 := ⟨_, rfl⟩
      have F := F ty2 h3 r2 g2 ety2 eh3 er2 eg2
      refine pv_newO nm1 0 dX1_pass_68 rfl cl_X1_15 ins_X0 ini_X0 q1a q1b q1c q1d ?_
      refine pv_nE ety2 eh3 er2 eg2 ?_
      obtain ⟨hL2, F⟩ := F
      refine pv_dup rfl dX1_pass_71 ?_
      refine pv_iload_n dX1_pass_72 rfl ?_
      refine pv_iload_n dX1_pass_73 rfl ?_
      refine pv_iload_n dX1_pass_74 rfl ?_
      refine pv_aload_n dX1_pass_75 rfl ?_
      refine pv_getRk 1 0 dX1_pass_76 fl_X1_9 rfl (lt_70 hL2) (lr_70_0 hL2) ?_
      refine pv_pc (pc' := 79) rfl ?_
      refine pv_iload dX1_pass_79 rfl ?_
      obtain ⟨q2a, q2b, F⟩ := F
      refine pv_invS (As := [.ref 71, .int (h 70 3)]) (d' := d - 1) dX1_pass_81 moJ7_copyOf_9075b ml_X1_42 (Nat.le_of_ble_eq_true rfl) (by omega) q2a q2b F (fun v2 ty3 h4 r3 g3 F => ?_) rfl
      obtain ⟨w2, rfl, F⟩ := F
      obtain ⟨hL3, F⟩ := F
      refine pv_pc (pc' := 84) rfl ?_
      show pv_E Γ d ((kc - 1) - 1) ((ks - 4) - 160) mX1_pass 84 [some (.ref 70), some (.int x), some (.int y), some (.int z), some (.int (h 70 3))] [.ref w2, .int y, .int z, .int x, .ref nm1, .ref nm1, .int (h2 70 4), .ref 72] ty3 h4 r3 g3 Q
      obtain ⟨q3, F⟩ := F
      refine pv_invI (As := [.int x, .int z, .int y, .ref w2]) (d' := d - 1) dX1_pass_84 moX0_init ml_X1_48 q3 (Nat.le_of_ble_eq_true rfl) (by omega) (Nat.zero_le _) (Nat.zero_le _) F (fun v3 ty4 h5 r4 g4 F => ?_) rfl
      obtain ⟨rfl, F⟩ := F
      obtain ⟨hL4, F⟩ := F
      refine pv_pc (pc' := 87) rfl ?_
      show pv_E Γ d ((kc - 1) - 1) ((ks - 4) - 160) mX1_pass 87 [some (.ref 70), some (.int x), some (.int y), some (.int z), some (.int (h 70 3))] [.ref nm1, .int (h2 70 4), .ref 72] ty4 h5 r4 g4 Q
      obtain ⟨q4, F⟩ := F
      obtain ⟨q4v, F⟩ := F
      obtain ⟨r5, er5⟩ : ∃ r5 : pv_R, r5 = pv_up r4 72 (Int32.toNatClampNeg (h2 70 4)) nm1 := ⟨_, rfl⟩
      have F := F r5 er5
      refine pv_aast dX1_pass_87 (lt_72 hL4) (by decide) (by decide) q4 q4v ?_
      refine pv_rE er5 ?_
      obtain ⟨hL5, F⟩ := F
      refine pv_aload_n dX1_pass_88 rfl ?_
      refine pv_dup rfl dX1_pass_89 ?_
      refine pv_getI 1 4 dX1_pass_90 fl_X1_32 rfl (lt_70 hL5) ?_
      refine pv_iconst (v := 1) (by decide) dX1_pass_93 ?_
      refine pv_iadd dX1_pass_94 ?_
      obtain ⟨h6, eh6⟩ : ∃ h6 : pv_H, h6 = pv_up h5 70 4 ((h5 70 4) + 1) := ⟨_, rfl⟩
      have F := F h6 eh6
      refine pv_putI 1 4 dX1_pass_95 fl_X1_32 ⟨_, rfl, Or.inl rfl⟩ (Or.inl rfl) (lt_70 hL5) ?_
      refine pv_hE eh6 ?_
      refine pv_aload_n dX1_pass_98 rfl ?_
      refine pv_getI 1 4 dX1_pass_99 fl_X1_32 rfl (lt_70 hL5) ?_
      refine pv_iconst (v := 1) (by decide) dX1_pass_102 ?_
      refine pv_isub dX1_pass_103 ?_
      exact pv_ireturn dX1_pass_104 rfl rfl F
    · have F := F.2 c2
      refine pv_bipush (v := (-100)) (by decide) dX1_pass_49 ?_
      refine pv_aload_n dX1_pass_51 rfl ?_
      refine pv_getRk 1 2 dX1_pass_52 fl_X1_24 rfl (lt_70 hL1) (lr_70_2 hL1) ?_
      refine pv_getI 9 5 dX1_pass_55 fl_X1_39 rfl (lt_80 hL1) ?_
      refine pv_isub dX1_pass_58 ?_
      exact pv_ireturn dX1_pass_59 rfl rfl F
  · have F := F.2 c1
    refine pv_bipush (v := (-3)) (by decide) dX1_pass_9 ?_
    exact pv_ireturn dX1_pass_11 rfl rfl F
set_option maxRecDepth 20000 in
set_option maxHeartbeats 4000000 in
theorem sg_X11_act_0 {Γ : pv_C} {d kc ks : Nat} {ty : pv_T} {h : pv_H} {r : pv_R} {g : pv_G} {Q : pv_Q} (x : Int32) (y : Int32) (hd : 2 ≤ d) (hL : pv_Lay ty r) (F : (((pf_b (0 ≤ x ∧ x ≤ 1)) = 0 → Q (some (.int (-1))) ty h r g) ∧ (¬ (pf_b (0 ≤ x ∧ x ≤ 1)) = 0 → ((¬ (pf_b (0 ≤ y ∧ y ≤ 9999)) = 0 → 2 ≤ kc ∧ 164 ≤ ks ∧ pv_CT Γ (d - 1) 2 164 mX1_pass [.ref 70, .int x, .int y, .int (h 100 9)] ty h r g (fun (v1 : Option Value) (ty1 : pv_T) (h1 : pv_H) (r1 : pv_R) (g1 : pv_G) => ∃ w1 : Int32, v1 = some (.int w1) ∧ pv_Lay ty1 r1 ∧ Q (some (.int w1)) ty1 h1 r1 g1)) ∧ ((pf_b (0 ≤ y ∧ y ≤ 9999)) = 0 → Q (some (.int (-1))) ty h r g))))) : pv_E Γ d kc ks mX11_act 0 [some (.ref 100), some (.int x), some (.int y)] [] ty h r g Q := by
  refine pv_iload_n dX11_act_0 rfl ?_
  refine pv_invS (As := [.int x]) (d' := d - 1) dX11_act_1 moX11_isKind ml_X11_192 (Nat.le_of_ble_eq_true rfl) (by omega) (Nat.zero_le _) (Nat.zero_le _) (ct_X11_isKind (by omega)) (fun v ty' h' r' g' hq => ?_) rfl
  obtain ⟨e1, e2, e3, e4, e5⟩ := hq
  rw [e1, e2, e3, e4, e5]
  refine pv_pc (pc' := 4) rfl ?_
  show pv_E Γ d kc ks mX11_act 4 [some (.ref 100), some (.int x), some (.int y)] [.int (pf_b (0 ≤ x ∧ x ≤ 1))] ty h r g Q
  refine pv_if_eq (tgt := 14) dX11_act_4 (by decide) (fun c1 => ?_) (fun c1 => ?_)
  · have F := F.1 c1
    refine pv_iconst (v := (-1)) (by decide) dX11_act_14 ?_
    exact pv_ireturn dX11_act_15 rfl rfl F
  · have F := F.2 c1
    refine pv_iload_n dX11_act_7 rfl ?_
    refine pv_invS (As := [.int y]) (d' := d - 1) dX11_act_8 moX11_isDay ml_X11_195 (Nat.le_of_ble_eq_true rfl) (by omega) (Nat.zero_le _) (Nat.zero_le _) (ct_X11_isDay (by omega)) (fun v ty' h' r' g' hq => ?_) rfl
    obtain ⟨e1, e2, e3, e4, e5⟩ := hq
    rw [e1, e2, e3, e4, e5]
    refine pv_pc (pc' := 11) rfl ?_
    show pv_E Γ d kc ks mX11_act 11 [some (.ref 100), some (.int x), some (.int y)] [.int (pf_b (0 ≤ y ∧ y ≤ 9999))] ty h r g Q
    refine pv_if_ne (tgt := 16) dX11_act_11 (by decide) (fun c2 => ?_) (fun c2 => ?_)
    · have F := F.1 c2
      refine pv_aload_n dX11_act_16 rfl ?_
      refine pv_getRk 11 10 dX11_act_17 fl_X11_52 rfl (lt_100 hL) (lr_100_10 hL) ?_
      refine pv_iload_n dX11_act_20 rfl ?_
      refine pv_iload_n dX11_act_21 rfl ?_
      refine pv_aload_n dX11_act_22 rfl ?_
      refine pv_getI 11 9 dX11_act_23 fl_X11_186 rfl (lt_100 hL) ?_
      refine pv_pc (pc' := 26) rfl ?_
      obtain ⟨q1a, q1b, F⟩ := F
      refine pv_invV (As := [.int x, .int y, .int (h 100 9)]) (d' := d - 1) dX11_act_26 moX1_pass ml_X11_198 (lt_70 hL) (Or.inl ⟨_, rfl, rfl⟩) (Nat.le_of_ble_eq_true rfl) (by omega) q1a q1b F (fun v1 ty1 h1 r1 g1 F => ?_) rfl
      obtain ⟨w1, rfl, F⟩ := F
      obtain ⟨hL1, F⟩ := F
      refine pv_pc (pc' := 29) rfl ?_
      show pv_E Γ d (kc - 2) (ks - 164) mX11_act 29 [some (.ref 100), some (.int x), some (.int y)] [.int w1] ty1 h1 r1 g1 Q
      exact pv_ireturn dX11_act_29 rfl rfl F
    · have F := F.2 c2
      refine pv_iconst (v := (-1)) (by decide) dX11_act_14 ?_
      exact pv_ireturn dX11_act_15 rfl rfl F
set_option maxRecDepth 20000 in
set_option maxHeartbeats 4000000 in
theorem sg_X12_act_0 {Γ : pv_C} {d kc ks : Nat} {ty : pv_T} {h : pv_H} {r : pv_R} {g : pv_G} {Q : pv_Q} (x : Int32) (y : Int32) (hd : 1 ≤ d) (hL : pv_Lay ty r) (F : (((pf_b (0 ≤ x ∧ x ≤ 1)) = 0 → Q (some (.int (-1))) ty h r g) ∧ (¬ (pf_b (0 ≤ x ∧ x ≤ 1)) = 0 → ((¬ (pf_b (0 ≤ y ∧ y ≤ 9999)) = 0 → ((¬ (h 200 41) = 20 → pv_CJ Γ (d - 1) mX12_parse [.ref 200, .int (h 200 41), .int x] ty h r g (fun (w1 : Int32) (h1 : pv_H) => (∀ h2 : pv_H, h2 = pv_up h1 200 40 0 → ((w1 < 0 → vp_in (h2 200 41) 20 ∧ (∀ h3 : pv_H, h3 = pv_up h2 342 (Int32.toNatClampNeg (h2 200 41)) x → vp_in (h3 200 41) 20 ∧ (∀ h4 : pv_H, h4 = pv_up h3 343 (Int32.toNatClampNeg (h3 200 41)) (h3 200 32) → vp_in (h4 200 41) 20 ∧ (∀ h5 : pv_H, h5 = pv_up h4 344 (Int32.toNatClampNeg (h4 200 41)) y → vp_in (h5 200 41) 20 ∧ (∀ h6 : pv_H, h6 = pv_up h5 345 (Int32.toNatClampNeg (h5 200 41)) (h5 200 50) → (∀ h7 : pv_H, h7 = pv_up h6 200 41 ((h6 200 41) + 1) → Q (some (.int ((h7 200 41) - 1))) ty h7 r g)))))) ∧ (¬ w1 < 0 → Q (some (.int ((-100) - w1))) ty h2 r g))))) ∧ ((h 200 41) = 20 → Q (some (.int (-3))) ty h r g))) ∧ ((pf_b (0 ≤ y ∧ y ≤ 9999)) = 0 → Q (some (.int (-1))) ty h r g))))) : pv_E Γ d kc ks mX12_act 0 [some (.ref 200), some (.int x), some (.int y), none] [] ty h r g Q := by
  refine pv_iload_n dX12_act_0 rfl ?_
  refine pv_iconst (v := 0) (by decide) dX12_act_1 ?_
  refine pv_iconst (v := 1) (by decide) dX12_act_2 ?_
  refine pv_invS (As := [.int x, .int 0, .int 1]) (d' := d - 1) dX12_act_3 moX12_in ml_X12_164 (Nat.le_of_ble_eq_true rfl) (by omega) (Nat.zero_le _) (Nat.zero_le _) (ct_X12_in (by omega)) (fun v ty' h' r' g' hq => ?_) rfl
  obtain ⟨e1, e2, e3, e4, e5⟩ := hq
  rw [e1, e2, e3, e4, e5]
  refine pv_pc (pc' := 6) rfl ?_
  show pv_E Γ d kc ks mX12_act 6 [some (.ref 200), some (.int x), some (.int y), none] [.int (pf_b (0 ≤ x ∧ x ≤ 1))] ty h r g Q
  refine pv_if_eq (tgt := 20) dX12_act_6 (by decide) (fun c1 => ?_) (fun c1 => ?_)
  · have F := F.1 c1
    refine pv_iconst (v := (-1)) (by decide) dX12_act_20 ?_
    exact pv_ireturn dX12_act_21 rfl rfl F
  · have F := F.2 c1
    refine pv_iload_n dX12_act_9 rfl ?_
    refine pv_iconst (v := 0) (by decide) dX12_act_10 ?_
    refine pv_sipush (v := 9999) (by decide) dX12_act_11 ?_
    refine pv_invS (As := [.int y, .int 0, .int 9999]) (d' := d - 1) dX12_act_14 moX12_in ml_X12_164 (Nat.le_of_ble_eq_true rfl) (by omega) (Nat.zero_le _) (Nat.zero_le _) (ct_X12_in (by omega)) (fun v ty' h' r' g' hq => ?_) rfl
    obtain ⟨e1, e2, e3, e4, e5⟩ := hq
    rw [e1, e2, e3, e4, e5]
    refine pv_pc (pc' := 17) rfl ?_
    show pv_E Γ d kc ks mX12_act 17 [some (.ref 200), some (.int x), some (.int y), none] [.int (pf_b (0 ≤ y ∧ y ≤ 9999))] ty h r g Q
    refine pv_if_ne (tgt := 22) dX12_act_17 (by decide) (fun c2 => ?_) (fun c2 => ?_)
    · have F := F.1 c2
      refine pv_aload_n dX12_act_22 rfl ?_
      refine pv_getI 12 41 dX12_act_23 fl_X12_279 rfl (lt_200 hL) ?_
      refine pv_bipush (v := 20) (by decide) dX12_act_26 ?_
      refine pv_icmp_ne (tgt := 34) dX12_act_28 (by decide) (fun c3 => ?_) (fun c3 => ?_)
      · have F := F.1 c3
        refine pv_aload_n dX12_act_34 rfl ?_
        refine pv_aload_n dX12_act_35 rfl ?_
        refine pv_getI 12 41 dX12_act_36 fl_X12_279 rfl (lt_200 hL) ?_
        refine pv_iload_n dX12_act_39 rfl ?_
        refine pv_invV (As := [.int (h 200 41), .int x]) (d' := d - 1) dX12_act_40 moX12_parse ml_X12_282 (lt_200 hL) (Or.inl ⟨_, rfl, rfl⟩) (Nat.le_of_ble_eq_true rfl) (by omega) (Nat.zero_le _) (Nat.zero_le _) F (fun v ty' h1 r' g' hq => ?_) rfl
        obtain ⟨e2, e4, e5, w1, e1, F⟩ := hq
        rw [e1, e2, e4, e5]
        refine pv_pc (pc' := 43) rfl ?_
        show pv_E Γ d kc ks mX12_act 43 [some (.ref 200), some (.int x), some (.int y), none] [.int w1] ty h1 r g Q
        refine pv_istore_n (ls' := [some (.ref 200), some (.int x), some (.int y), some (.int w1)]) dX12_act_43 (by decide) rfl rfl ?_
        refine pv_aload_n dX12_act_44 rfl ?_
        refine pv_iconst (v := 0) (by decide) dX12_act_45 ?_
        obtain ⟨h2, eh2⟩ : ∃ h2 : pv_H, h2 = pv_up h1 200 40 0 := ⟨_, rfl⟩
        have F := F h2 eh2
        refine pv_putI 12 40 dX12_act_46 fl_X12_240 ⟨_, rfl, Or.inl rfl⟩ (Or.inl rfl) (lt_200 hL) ?_
        refine pv_hE eh2 ?_
        refine pv_iload_n dX12_act_49 rfl ?_
        refine pv_if_lt (tgt := 58) dX12_act_50 (by decide) (fun c4 => ?_) (fun c4 => ?_)
        · have F := F.1 c4
          refine pv_aload_n dX12_act_58 rfl ?_
          refine pv_getRk 12 42 dX12_act_59 fl_X12_103 rfl (lt_200 hL) (lr_200_42 hL) ?_
          refine pv_aload_n dX12_act_62 rfl ?_
          refine pv_getI 12 41 dX12_act_63 fl_X12_279 rfl (lt_200 hL) ?_
          refine pv_iload_n dX12_act_66 rfl ?_
          obtain ⟨q1, F⟩ := F
          obtain ⟨h3, eh3⟩ : ∃ h3 : pv_H, h3 = pv_up h2 342 (Int32.toNatClampNeg (h2 200 41)) x := ⟨_, rfl⟩
          have F := F h3 eh3
          refine pv_iast dX12_act_67 (lt_342 hL) (by decide) q1 ?_
          refine pv_hE eh3 ?_
          refine pv_aload_n dX12_act_68 rfl ?_
          refine pv_getRk 12 43 dX12_act_69 fl_X12_106 rfl (lt_200 hL) (lr_200_43 hL) ?_
          refine pv_aload_n dX12_act_72 rfl ?_
          refine pv_getI 12 41 dX12_act_73 fl_X12_279 rfl (lt_200 hL) ?_
          refine pv_aload_n dX12_act_76 rfl ?_
          refine pv_getI 12 32 dX12_act_77 fl_X12_237 rfl (lt_200 hL) ?_
          refine pv_pc (pc' := 80) rfl ?_
          obtain ⟨q2, F⟩ := F
          obtain ⟨h4, eh4⟩ : ∃ h4 : pv_H, h4 = pv_up h3 343 (Int32.toNatClampNeg (h3 200 41)) (h3 200 32) := ⟨_, rfl⟩
          have F := F h4 eh4
          refine pv_iast dX12_act_80 (lt_343 hL) (by decide) q2 ?_
          refine pv_hE eh4 ?_
          refine pv_aload_n dX12_act_81 rfl ?_
          refine pv_getRk 12 44 dX12_act_82 fl_X12_109 rfl (lt_200 hL) (lr_200_44 hL) ?_
          refine pv_aload_n dX12_act_85 rfl ?_
          refine pv_getI 12 41 dX12_act_86 fl_X12_279 rfl (lt_200 hL) ?_
          refine pv_iload_n dX12_act_89 rfl ?_
          obtain ⟨q3, F⟩ := F
          obtain ⟨h5, eh5⟩ : ∃ h5 : pv_H, h5 = pv_up h4 344 (Int32.toNatClampNeg (h4 200 41)) y := ⟨_, rfl⟩
          have F := F h5 eh5
          refine pv_iast dX12_act_90 (lt_344 hL) (by decide) q3 ?_
          refine pv_hE eh5 ?_
          refine pv_aload_n dX12_act_91 rfl ?_
          refine pv_getRk 12 45 dX12_act_92 fl_X12_112 rfl (lt_200 hL) (lr_200_45 hL) ?_
          refine pv_aload_n dX12_act_95 rfl ?_
          refine pv_getI 12 41 dX12_act_96 fl_X12_279 rfl (lt_200 hL) ?_
          refine pv_aload_n dX12_act_99 rfl ?_
          refine pv_getI 12 50 dX12_act_100 fl_X12_243 rfl (lt_200 hL) ?_
          refine pv_pc (pc' := 103) rfl ?_
          obtain ⟨q4, F⟩ := F
          obtain ⟨h6, eh6⟩ : ∃ h6 : pv_H, h6 = pv_up h5 345 (Int32.toNatClampNeg (h5 200 41)) (h5 200 50) := ⟨_, rfl⟩
          have F := F h6 eh6
          refine pv_iast dX12_act_103 (lt_345 hL) (by decide) q4 ?_
          refine pv_hE eh6 ?_
          refine pv_aload_n dX12_act_104 rfl ?_
          refine pv_dup rfl dX12_act_105 ?_
          refine pv_getI 12 41 dX12_act_106 fl_X12_279 rfl (lt_200 hL) ?_
          refine pv_iconst (v := 1) (by decide) dX12_act_109 ?_
          refine pv_iadd dX12_act_110 ?_
          obtain ⟨h7, eh7⟩ : ∃ h7 : pv_H, h7 = pv_up h6 200 41 ((h6 200 41) + 1) := ⟨_, rfl⟩
          have F := F h7 eh7
          refine pv_putI 12 41 dX12_act_111 fl_X12_279 ⟨_, rfl, Or.inl rfl⟩ (Or.inl rfl) (lt_200 hL) ?_
          refine pv_hE eh7 ?_
          refine pv_aload_n dX12_act_114 rfl ?_
          refine pv_getI 12 41 dX12_act_115 fl_X12_279 rfl (lt_200 hL) ?_
          refine pv_iconst (v := 1) (by decide) dX12_act_118 ?_
          refine pv_isub dX12_act_119 ?_
          exact pv_ireturn dX12_act_120 rfl rfl F
        · have F := F.2 c4
          refine pv_bipush (v := (-100)) (by decide) dX12_act_53 ?_
          refine pv_iload_n dX12_act_55 rfl ?_
          refine pv_isub dX12_act_56 ?_
          exact pv_ireturn dX12_act_57 rfl rfl F
      · have F := F.2 c3
        refine pv_bipush (v := (-3)) (by decide) dX12_act_31 ?_
        exact pv_ireturn dX12_act_33 rfl rfl F
    · have F := F.2 c2
      refine pv_iconst (v := (-1)) (by decide) dX12_act_20 ?_
      exact pv_ireturn dX12_act_21 rfl rfl F
section AC
variable {Γ : pv_C} {d kc ks : Nat} {ty : pv_T} {h : pv_H} {r : pv_R} {g : pv_G} {K len : Nat}
theorem ct_copyOf (hd : 2 ≤ d) {A nm : Nat} (hA : ty A = some (21, 160)) (hA10 : 10 ≤ A) (hl : len ≤ 160) (hnm : 10 ≤ nm) (hf : ty nm = none) {k : pv_Q} (hk : ∀ h', (∀ b, b ≠ nm → h' b = h b) → (∀ j, j < len → h' nm j = h A j) → k (some (.ref nm)) (pv_newT ty nm 21 len) h' (pv_new r nm 0) (pv_new g nm 0)) : pv_CT Γ d 1 160 mJ7_copyOf_9075b [.ref A, .int (nI len)] ty h r g k := by
  have hne : A ≠ nm := fun e => by rw [e, hf] at hA; cases hA
  refine pv_fn 1 pn_J7 rfl (Nat.le_of_ble_eq_true rfl) (sg_J7_copyOf_9075b_0 A _ (by omega) ⟨21, 160, hA, by decide, pj_eq len 160 (fun c => ?_) (fun c => ?_)⟩)
  · subst c
    refine ⟨nm, 160, hA10, hA, hnm, hf, Nat.le_refl _, Nat.le_refl _, fun ty2 h3 r2 g2 e1 e2 e3 e4 => ⟨160, hnm, by rw [e1]; simp [pv_newT], ?_⟩⟩
    rw [e1, e3, e4]
    exact hk h3 (fun b hb => by rw [e2, pv_row_ne hb]) (fun j _ => by rw [e2, pv_row_at])
  · refine ⟨nm, len, nI_pos (by omega), nI_clamp (by omega), by omega, hnm, hf, Nat.le_refl _, hl, fun ty1 h1 r1 g1 e1 e2 e3 e4 => ⟨21, 160, by rw [e1, pv_newT, if_neg hne]; exact hA, by decide, ?_⟩⟩
    have hmin : (if nI len < nI 160 then nI len else nI 160) = nI len := if_pos (nI_lt (by omega) (by decide))
    rw [hmin]
    refine ⟨⟨21, 160, len, by rw [e1, pv_newT, if_neg hne]; exact hA, by rw [e1]; simp [pv_newT], Or.inr rfl, hA10, hnm, by decide, by decide, nI_pos' (by omega), ?_, ?_⟩, fun h2 e5 => ?_⟩
    · rw [nI_clamp (by omega)]; show 0 + len ≤ 160; omega
    · rw [nI_clamp (by omega)]; show 0 + len ≤ len; omega
    · rw [nI_clamp (by omega)] at e5
      rw [e1, e3, e4]
      refine hk h2 (fun b hb => ?_) (fun j hj => ?_)
      · funext j
        rw [e5, pv_cpy, if_neg (fun q => hb q.1), e2, pv_new, if_neg hb]
      · rw [e5, pv_cpy, if_pos ⟨rfl, Nat.zero_le _, by show j < 0 + len; omega⟩, e2, pv_new, if_neg hne]
        congr 1
        show 0 + (j - 0) = j
        omega
/-- cells that an act writes on the class's side -/
abbrev acA (na : Nat) : Nat → Nat → Prop := fun a j => (a = 70 ∧ (j = 3 ∨ j = 4)) ∨ (a = 80 ∧ (j = 2 ∨ j = 3 ∨ j = 5 ∨ j = 6)) ∨ a = aA na ∨ a = aA na + 1
abbrev acR (na : Nat) : Nat → Nat → Prop := fun a j => (a = 80 ∧ (j = 1 ∨ j = 4)) ∨ (a = 72 ∧ j = na) ∨ a = aA na ∨ a = aA na + 1
/-- what act does on the class's side -/
def ac_c (K na tl : Nat) (y z : Int32) (ty : pv_T) (h : pv_H) (r : pv_R) (g : pv_G) (w : Int32) (ty' : pv_T) (h' : pv_H) (r' : pv_R) (g' : pv_G) : Prop :=
  pv_Lay ty' r' ∧ pv_fr (acA na) h h' ∧ pv_frG (acR na) r r' ∧ (∀ a, a ≠ aA na → a ≠ aA na + 1 → ty' a = ty a) ∧ (∀ a j, a ≠ aA na → a ≠ aA na + 1 → g' a j = g a j) ∧ h' 70 3 = nI 0 ∧
  (∀ q, tx_rd K tl (tx_b (h 71)) = .error q → w = -100 - nI q ∧ h' 70 4 = nI na ∧ ty' (aA na) = none ∧ ty' (aA na + 1) = none) ∧
  (∀ cs q, tx_rd K tl (tx_b (h 71)) = .ok (cs, q) → w = nI na ∧ h' 70 4 = nI (na + 1) ∧ ty' (aA na) = some (0, 0) ∧ ty' (aA na + 1) = some (21, tl) ∧ r' 72 na = aA na ∧ r' (aA na) 3 = aA na + 1 ∧ h' (aA na) 0 = nI K ∧ h' (aA na) 1 = z ∧ h' (aA na) 2 = y ∧ ∀ j, j < tl → h' (aA na + 1) j = h 71 j)
theorem pv_lay_72 : ∀ q ∈ pv_layR, q.1 ≠ 72 := by decide +kernel
theorem pv_Lay72 {ty : pv_T} {r : pv_R} {j x : Nat} (hL : pv_Lay ty r) : pv_Lay ty (pv_up r 72 j x) := pv_Lay_up hL (fun q hq z => pv_lay_72 q hq z.1)
theorem pv_Lay80 {r : pv_R} (hL : pv_Lay ty r) (x y : Nat) : pv_Lay ty (pv_up (pv_up r 80 1 x) 80 4 y) := pv_Lay_up (pv_Lay_up hL (by decide +kernel)) (by decide +kernel)
theorem ct_pass (hd : 66 ≤ d) (hL : pv_Lay ty r) (hK : K < 2) {na tl : Nat} (hn : na < 20) (htl : tl ≤ 160) (h3 : h 70 3 = nI tl) (h4 : h 70 4 = nI na) (hs : ∀ i, i < 2 → ty (2 + i) = some (30, 0)) (hf1 : ty (aA na) = none) (hf2 : ty (aA na + 1) = none) {y z : Int32} {k : pv_Q} (hk : ∀ w ty' h' r' g', ac_c K na tl y z ty h r g w ty' h' r' g' → k (some (.int w)) ty' h' r' g') : pv_CT Γ d 2 164 mX1_pass [.ref 70, .int (nI K), .int y, .int z] ty h r g k := by
  have hA : 3000 ≤ aA na := by unfold aA; omega
  refine pv_fn 1 pn_X1 rfl (Nat.le_of_ble_eq_true rfl) (sg_X1_pass_0 _ _ _ (by omega) hL (pk_lt na 20 (fun _ h1 e1 => ?_) (fun c => absurd c (by omega)) h4))
  rw [h3]
  have e71 : h1 71 = h 71 := by rw [e1]; funext j; exact pv_up_a (by decide)
  have f1 : pv_fr (acA na) h h1 := by rw [e1]; exact pv_fr_up (pv_fr_refl _ _) (Or.inl ⟨rfl, Or.inl rfl⟩)
  refine ct_readText (by omega) hL hK hs (lt_71 hL) (by decide) htl (fun x h2 f2 g1 g2 hL1 => ⟨x, rfl, hL1, ?_⟩)
  rw [e71] at g1 g2
  have f2' : pv_fr (acA na) h h2 := pv_fr_tr f1 (pv_fr_mono (fun a j q => Or.inr (Or.inl q)) f2)
  have v3 : h2 70 3 = nI 0 := by rw [f2 70 3 (fun q => absurd q.1 (by decide)), e1, pv_up_same]; rfl
  have v4 : h2 70 4 = nI na := by rw [f2 70 4 (fun q => absurd q.1 (by decide)), e1, pv_up_j (by decide)]; exact h4
  have v71 : h2 71 = h 71 := by rw [pv_fr_r f2 (fun j q => absurd q.1 (by decide)), e71]
  have fr1 : pv_frG (acR na) r (pv_up (pv_up r 80 1 71) 80 4 (2 + K)) := pv_frG_up (pv_frG_up (pv_frG_refl _ _) (Or.inl ⟨rfl, Or.inl rfl⟩)) (Or.inl ⟨rfl, Or.inr rfl⟩)
  obtain ⟨r1, er1⟩ : ∃ r1, r1 = pv_up (pv_up r 80 1 71) 80 4 (2 + K) := ⟨_, rfl⟩
  rw [← er1] at hL1 fr1 ⊢
  cases hr : tx_rd K tl (tx_b (h 71)) with
  | error q0 =>
    have h5 := g2 q0 hr
    have hq0 : q0 ≤ tl := ((tx_txt_sp (K := K) (b := tx_b (h 71)) htl (tx_b_lt _) 161 0 [] false (Nat.zero_le _) (fun z => by cases z) (by omega)).1 q0 hr).2
    rw [h5]
    refine ⟨fun q => absurd q (ni_n1 (by omega)), fun _ => hk _ _ _ _ _ ⟨hL1, f2', fr1, fun _ _ _ => rfl, fun _ _ _ _ => rfl, v3, fun q e => ?_, fun cs q e => (by rw [hr] at e; cases e)⟩⟩
    rw [hr] at e
    cases e
    exact ⟨rfl, v4, hf1, hf2⟩
  | ok z0 =>
    obtain ⟨cs, q0⟩ := z0
    obtain ⟨h5, -⟩ := g1 cs q0 hr
    rw [h5]
    refine ⟨fun _ => ⟨aA na, by omega, hf1, by decide, by decide, fun ty2 h3' r2 g2' e2 e3 e4 e5 => ?_⟩, fun q => absurd rfl q⟩
    have hL2 : pv_Lay ty2 r2 := by rw [e2, e4]; exact pv_Lay_new hL1 (by omega)
    have t71 : ty2 71 = some (21, 160) := lt_71 hL2
    have hfr : ty2 (aA na + 1) = none := by rw [e2, pv_newT, if_neg (by omega)]; exact hf2
    have hobj : ty2 (aA na) = some (0, 0) := by rw [e2]; simp [pv_newT]
    refine ⟨hL2, by decide, by decide, ct_copyOf (by omega) t71 (by decide) htl (by omega) hfr (fun h4' b1 b2 => ?_)⟩
    have hobj3 : (pv_newT ty2 (aA na + 1) 21 tl) (aA na) = some (0, 0) := by rw [pv_newT, if_neg (by omega)]; exact hobj
    have hL3 : pv_Lay (pv_newT ty2 (aA na + 1) 21 tl) (pv_new r2 (aA na + 1) 0) := pv_Lay_new hL2 (by omega)
    refine ⟨_, rfl, hL3, hobj3, ?_⟩
    refine pv_fn 0 pn_X0 rfl (Nat.le_of_ble_eq_true rfl) (sg_X0_init_0 (aA na) _ _ _ (aA na + 1) (by omega) ⟨by omega, hobj3, fun i1 ei1 => ⟨hobj3, fun i2 ei2 => ⟨hobj3, fun i3 ei3 => ⟨hobj3, fun r3 er3 => ⟨by rw [er3]; exact pv_Lay_big hL3 (by omega), rfl, by rw [er3]; exact pv_Lay_big hL3 (by omega), ?_⟩⟩⟩⟩⟩)
    rw [v4, nI_clamp (by omega)]
    refine ⟨vp_in_nI (by omega) (by decide), hobj3, fun r5 er5 => ⟨by rw [er5, er3]; exact pv_Lay72 (pv_Lay_big hL3 (by omega)), fun h6 e6 => ?_⟩⟩
    have w4 : i3 70 4 = nI na := by rw [ei3, pv_up_a (by omega), ei2, pv_up_a (by omega), ei1, pv_up_a (by omega), b1 70 (by omega), e3, pv_new, if_neg (by omega)]; exact v4
    rw [w4, nI_1] at e6
    have w6 : h6 70 4 = nI (na + 1) := by rw [e6, pv_up_same]
    have eo : ∀ a, a ≠ aA na → a ≠ aA na + 1 → ∀ j, ¬ (a = 70 ∧ j = 4) → h6 a j = h2 a j := fun a a1 a2 j a3 => by
      rw [e6, pv_up, if_neg a3, ei3, pv_up_a a1, ei2, pv_up_a a1, ei1, pv_up_a a1, b1 a a2, e3, pv_new, if_neg a1]
    rw [w6, nI_pred]
    refine hk _ _ _ _ _ ⟨by rw [er5, er3]; exact pv_Lay72 (pv_Lay_big hL3 (by omega)), fun a j q => ?_, ?_, fun a a1 a2 => ?_, fun a j a1 a2 => ?_, ?_, fun q e => (by rw [hr] at e; cases e), fun cs' q' e => ⟨rfl, w6, hobj3, by simp [pv_newT], ?_, ?_, ?_, ?_, ?_, fun j hj => ?_⟩⟩
    · rw [eo a (fun z => q (Or.inr (Or.inr (Or.inl z)))) (fun z => q (Or.inr (Or.inr (Or.inr z)))) j (fun z => q (Or.inl ⟨z.1, Or.inr z.2⟩))]
      exact f2' a j q
    · rw [er5, er3, e4]
      exact pv_frG_up (pv_frG_up (pv_frG_new (pv_frG_new fr1 (fun j => Or.inr (Or.inr (Or.inl rfl)))) (fun j => Or.inr (Or.inr (Or.inr rfl)))) (Or.inr (Or.inr (Or.inl rfl)))) (Or.inr (Or.inl ⟨rfl, rfl⟩))
    · rw [pv_newT, if_neg a2, e2, pv_newT, if_neg a1]
    · rw [pv_new, if_neg a2, e5, pv_new, if_neg a1]
    · rw [eo 70 (by omega) (by omega) 3 (by decide)]; exact v3
    · rw [er5, pv_up_same]
    · rw [er5, pv_up_a (by omega), er3, pv_up_same]
    · rw [e6, pv_up_a (by omega), ei3, pv_up_j (by decide), ei2, pv_up_j (by decide), ei1, pv_up_same]
    · rw [e6, pv_up_a (by omega), ei3, pv_up_j (by decide), ei2, pv_up_same]
    · rw [e6, pv_up_a (by omega), ei3, pv_up_same]
    · rw [e6, pv_up_a (by omega), ei3, pv_up_a (by omega), ei2, pv_up_a (by omega), ei1, pv_up_a (by omega), b2 j hj, e3, pv_new, if_neg (by omega), v71]
end AC
