/-! the class's reader of texts: numbers, operands -/
def rd_pk (h : pv_H) (A : Nat) : Int32 := if h 80 2 ≤ h 80 3 then -1 else h A (h 80 3).toNatClampNeg &&& 255
def rd_ok (ty : pv_T) (h : pv_H) (r : pv_R) : Prop := ¬ h 80 2 ≤ h 80 3 → pv_inb ty (r 80 1) 21 (h 80 3)
def rd_mul (x y z : Int32) : Int32 := if x = 42 then y * z else if z = 0 then 0 else if x = 47 then y / z else y - y / z * z
set_option maxRecDepth 20000 in
set_option maxHeartbeats 4000000 in
theorem sg_X9_peek_0 {Γ : pv_C} {d kc ks : Nat} {ty : pv_T} {h : pv_H} {r : pv_R} {g : pv_G} {Q : pv_Q}  (hL : pv_Lay ty r) (F : (((h 80 2) ≤ (h 80 3) → Q (some (.int (-1))) ty h r g) ∧ (¬ (h 80 2) ≤ (h 80 3) → pv_inb ty (r 80 1) 21 (h 80 3) ∧ Q (some (.int ((h (r 80 1) (Int32.toNatClampNeg (h 80 3))) &&& 255))) ty h r g))) : pv_E Γ d kc ks mX9_peek 0 [some (.ref 80)] [] ty h r g Q := by
  refine pv_aload_n dX9_peek_0 rfl ?_
  refine pv_getI 9 3 dX9_peek_1 fl_X9_35 rfl (lt_80 hL) ?_
  refine pv_aload_n dX9_peek_4 rfl ?_
  refine pv_getI 9 2 dX9_peek_5 fl_X9_31 rfl (lt_80 hL) ?_
  refine pv_icmp_ge (tgt := 27) dX9_peek_8 (by decide) (fun c1 => ?_) (fun c1 => ?_)
  · have F := F.1 c1
    refine pv_iconst (v := (-1)) (by decide) dX9_peek_27 ?_
    exact pv_ireturn dX9_peek_28 rfl rfl F
  · have F := F.2 c1
    refine pv_aload_n dX9_peek_11 rfl ?_
    refine pv_getR 9 1 dX9_peek_12 fl_X9_15 rfl (lt_80 hL) ?_
    refine pv_aload_n dX9_peek_15 rfl ?_
    refine pv_getI 9 3 dX9_peek_16 fl_X9_35 rfl (lt_80 hL) ?_
    obtain ⟨q1, F⟩ := F
    obtain ⟨q1n, q1t, q1i⟩ := q1
    refine pv_bald dX9_peek_19 q1t q1i ?_
    refine pv_sipush (v := 255) (by decide) dX9_peek_20 ?_
    refine pv_iand dX9_peek_23 ?_
    refine pv_goto (tgt := 28) dX9_peek_24 (by decide) ?_
    exact pv_ireturn dX9_peek_28 rfl rfl F
set_option maxRecDepth 20000 in
set_option maxHeartbeats 4000000 in
theorem sg_X9_isDigit_0 {Γ : pv_C} {d kc ks : Nat} {ty : pv_T} {h : pv_H} {r : pv_R} {g : pv_G} {Q : pv_Q} (x : Int32) (F : ((x < 48 → Q (some (.int 0)) ty h r g) ∧ (¬ x < 48 → ((57 < x → Q (some (.int 0)) ty h r g) ∧ (¬ 57 < x → Q (some (.int 1)) ty h r g))))) : pv_E Γ d kc ks mX9_isDigit 0 [some (.int x)] [] ty h r g Q := by
  refine pv_iload_n dX9_isDigit_0 rfl ?_
  refine pv_bipush (v := 48) (by decide) dX9_isDigit_1 ?_
  refine pv_icmp_lt (tgt := 16) dX9_isDigit_3 (by decide) (fun c1 => ?_) (fun c1 => ?_)
  · have F := F.1 c1
    refine pv_iconst (v := 0) (by decide) dX9_isDigit_16 ?_
    exact pv_ireturn dX9_isDigit_17 rfl (by decide) F
  · have F := F.2 c1
    refine pv_iload_n dX9_isDigit_6 rfl ?_
    refine pv_bipush (v := 57) (by decide) dX9_isDigit_7 ?_
    refine pv_icmp_gt (tgt := 16) dX9_isDigit_9 (by decide) (fun c2 => ?_) (fun c2 => ?_)
    · have F := F.1 c2
      refine pv_iconst (v := 0) (by decide) dX9_isDigit_16 ?_
      exact pv_ireturn dX9_isDigit_17 rfl (by decide) F
    · have F := F.2 c2
      refine pv_iconst (v := 1) (by decide) dX9_isDigit_12 ?_
      refine pv_goto (tgt := 17) dX9_isDigit_13 (by decide) ?_
      exact pv_ireturn dX9_isDigit_17 rfl (by decide) F
set_option maxRecDepth 20000 in
set_option maxHeartbeats 4000000 in
theorem sg_X9_multiply_0 {Γ : pv_C} {d kc ks : Nat} {ty : pv_T} {h : pv_H} {r : pv_R} {g : pv_G} {Q : pv_Q} (x : Int32) (y : Int32) (z : Int32) (F : ((¬ x = 42 → ((¬ z = 0 → ((¬ x = 47 → ¬ z = 0 ∧ Q (some (.int (y - y / z * z))) ty h r g) ∧ (x = 47 → ¬ z = 0 ∧ Q (some (.int (y / z))) ty h r g))) ∧ (z = 0 → Q (some (.int 0)) ty h r g))) ∧ (x = 42 → Q (some (.int (y * z))) ty h r g))) : pv_E Γ d kc ks mX9_multiply 0 [some (.int x), some (.int y), some (.int z)] [] ty h r g Q := by
  refine pv_iload_n dX9_multiply_0 rfl ?_
  refine pv_bipush (v := 42) (by decide) dX9_multiply_1 ?_
  refine pv_icmp_ne (tgt := 10) dX9_multiply_3 (by decide) (fun c1 => ?_) (fun c1 => ?_)
  · have F := F.1 c1
    refine pv_iload_n dX9_multiply_10 rfl ?_
    refine pv_if_ne (tgt := 16) dX9_multiply_11 (by decide) (fun c2 => ?_) (fun c2 => ?_)
    · have F := F.1 c2
      refine pv_iload_n dX9_multiply_16 rfl ?_
      refine pv_bipush (v := 47) (by decide) dX9_multiply_17 ?_
      refine pv_icmp_ne (tgt := 28) dX9_multiply_19 (by decide) (fun c3 => ?_) (fun c3 => ?_)
      · have F := F.1 c3
        refine pv_iload_n dX9_multiply_28 rfl ?_
        refine pv_iload_n dX9_multiply_29 rfl ?_
        obtain ⟨q1, F⟩ := F
        refine pv_irem q1 dX9_multiply_30 ?_
        exact pv_ireturn dX9_multiply_31 rfl rfl F
      · have F := F.2 c3
        refine pv_iload_n dX9_multiply_22 rfl ?_
        refine pv_iload_n dX9_multiply_23 rfl ?_
        obtain ⟨q2, F⟩ := F
        refine pv_idiv q2 dX9_multiply_24 ?_
        refine pv_goto (tgt := 31) dX9_multiply_25 (by decide) ?_
        exact pv_ireturn dX9_multiply_31 rfl rfl F
    · have F := F.2 c2
      refine pv_iconst (v := 0) (by decide) dX9_multiply_14 ?_
      exact pv_ireturn dX9_multiply_15 rfl rfl F
  · have F := F.2 c1
    refine pv_iload_n dX9_multiply_6 rfl ?_
    refine pv_iload_n dX9_multiply_7 rfl ?_
    refine pv_imul dX9_multiply_8 ?_
    exact pv_ireturn dX9_multiply_9 rfl rfl F
set_option maxRecDepth 20000 in
set_option maxHeartbeats 4000000 in
theorem sg_X9_markFault_0 {Γ : pv_C} {d kc ks : Nat} {ty : pv_T} {h : pv_H} {r : pv_R} {g : pv_G} {Q : pv_Q}  (hL : pv_Lay ty r) (F : ((¬ (h 80 5) = (-1) → Q none ty h r g) ∧ ((h 80 5) = (-1) → (∀ h1 : pv_H, h1 = pv_up h 80 5 (h 80 3) → Q none ty h1 r g)))) : pv_E Γ d kc ks mX9_markFault 0 [some (.ref 80)] [] ty h r g Q := by
  refine pv_aload_n dX9_markFault_0 rfl ?_
  refine pv_getI 9 5 dX9_markFault_1 fl_X9_40 rfl (lt_80 hL) ?_
  refine pv_iconst (v := (-1)) (by decide) dX9_markFault_4 ?_
  refine pv_icmp_ne (tgt := 16) dX9_markFault_5 (by decide) (fun c1 => ?_) (fun c1 => ?_)
  · have F := F.1 c1
    exact pv_return dX9_markFault_16 rfl F
  · have F := F.2 c1
    refine pv_aload_n dX9_markFault_8 rfl ?_
    refine pv_aload_n dX9_markFault_9 rfl ?_
    refine pv_getI 9 3 dX9_markFault_10 fl_X9_35 rfl (lt_80 hL) ?_
    obtain ⟨h1, eh1⟩ : ∃ h1 : pv_H, h1 = pv_up h 80 5 (h 80 3) := ⟨_, rfl⟩
    have F := F h1 eh1
    refine pv_putI 9 5 dX9_markFault_13 fl_X9_40 ⟨_, rfl, Or.inl rfl⟩ (Or.inl rfl) (lt_80 hL) ?_
    refine pv_hE eh1 ?_
    exact pv_return dX9_markFault_16 rfl F
section RA
variable {Γ : pv_C} {d : Nat} {ty : pv_T} {h : pv_H} {r : pv_R} {g : pv_G}
theorem ct_X9_peek (_ : 0 ≤ d) (hL : pv_Lay ty r) (ho : rd_ok ty h r) : pv_CT Γ d 0 0 mX9_peek [.ref 80] ty h r g (pv_is (.int (rd_pk h (r 80 1))) ty h r g) := by
  refine pv_fn 0 pn_X9 rfl (Nat.le_of_ble_eq_true rfl) (sg_X9_peek_0 hL ⟨fun c => ?_, fun c => ⟨ho c, ?_⟩⟩)
  · unfold rd_pk
    rw [if_pos c]
    exact pv_is_refl _ _ _ _ _
  · unfold rd_pk
    rw [if_neg c]
    exact pv_is_refl _ _ _ _ _
theorem ct_X9_isDigit {x : Int32} (_ : 0 ≤ d) : pv_CT Γ d 0 0 mX9_isDigit [.int x] ty h r g (pv_is (.int (pf_b (48 ≤ x ∧ x ≤ 57))) ty h r g) := by
  refine pv_fn 0 pn_X9 rfl (Nat.le_of_ble_eq_true rfl) (sg_X9_isDigit_0 x ⟨fun c1 => ?_, fun c1 => ⟨fun c2 => ?_, fun c2 => ?_⟩⟩)
  · rw [pf_b_f (fun q => Int32.not_lt.mpr q.1 c1)]; exact pv_is_refl _ _ _ _ _
  · rw [pf_b_f (fun q => Int32.not_lt.mpr q.2 c2)]; exact pv_is_refl _ _ _ _ _
  · rw [pf_b_t ⟨Int32.not_lt.mp c1, Int32.not_lt.mp c2⟩]; exact pv_is_refl _ _ _ _ _
theorem ct_X9_multiply {x y z : Int32} (_ : 0 ≤ d) : pv_CT Γ d 0 0 mX9_multiply [.int x, .int y, .int z] ty h r g (pv_is (.int (rd_mul x y z)) ty h r g) := by
  refine pv_fn 0 pn_X9 rfl (Nat.le_of_ble_eq_true rfl) (sg_X9_multiply_0 x y z ⟨fun c1 => ⟨fun c2 => ⟨fun c3 => ⟨c2, ?_⟩, fun c3 => ⟨c2, ?_⟩⟩, fun c2 => ?_⟩, fun c1 => ?_⟩)
  · unfold rd_mul; rw [if_neg c1, if_neg c2, if_neg c3]; exact pv_is_refl _ _ _ _ _
  · unfold rd_mul; rw [if_neg c1, if_neg c2, if_pos c3]; exact pv_is_refl _ _ _ _ _
  · unfold rd_mul; rw [if_neg c1, if_pos c2]; exact pv_is_refl _ _ _ _ _
  · unfold rd_mul; rw [if_pos c1]; exact pv_is_refl _ _ _ _ _
theorem ct_X9_mark (hL : pv_Lay ty r) (h5 : h 80 5 = -1) : pv_CW Γ d mX9_markFault [.ref 80] ty h r g (fun h' => h' = pv_up h 80 5 (h 80 3)) :=
  pv_fn 0 pn_X9 rfl (Nat.le_of_ble_eq_true rfl) (sg_X9_markFault_0 hL ⟨fun c => absurd h5 c, fun _ h1 e1 => pv_wqi e1⟩)
end RA
set_option maxRecDepth 20000 in
set_option maxHeartbeats 4000000 in
theorem sg_X9_readNumber_0 {Γ : pv_C} {d kc ks : Nat} {ty : pv_T} {h : pv_H} {r : pv_R} {g : pv_G} {Q : pv_Q}  (F : pv_E Γ d kc ks mX9_readNumber 4 [some (.ref 80), some (.int 0), some (.int 0)] [] ty h r g Q) : pv_E Γ d kc ks mX9_readNumber 0 [some (.ref 80), none, none] [] ty h r g Q := by
  refine pv_iconst (v := 0) (by decide) dX9_readNumber_0 ?_
  refine pv_istore_n (ls' := [some (.ref 80), some (.int 0), none]) dX9_readNumber_1 (by decide) rfl rfl ?_
  refine pv_iconst (v := 0) (by decide) dX9_readNumber_2 ?_
  refine pv_istore_n (ls' := [some (.ref 80), some (.int 0), some (.int 0)]) dX9_readNumber_3 (by decide) rfl rfl ?_
  exact F
set_option maxRecDepth 20000 in
set_option maxHeartbeats 4000000 in
theorem sg_X9_readNumber_4 {Γ : pv_C} {d kc ks : Nat} {ty : pv_T} {h : pv_H} {r : pv_R} {g : pv_G} {Q : pv_Q} (x1 : Int32) (x2 : Int32) (hd : 1 ≤ d) (hL : pv_Lay ty r) (F : ((6 ≤ x2 → (rd_ok ty h r) ∧ (((pf_b (48 ≤ (rd_pk h (r 80 1)) ∧ (rd_pk h (r 80 1)) ≤ 57)) = 0 → Q (some (.int x1)) ty h r g) ∧ (¬ (pf_b (48 ≤ (rd_pk h (r 80 1)) ∧ (rd_pk h (r 80 1)) ≤ 57)) = 0 → pv_CW Γ (d - 1) mX9_markFault [.ref 80] ty h r g (fun (h1 : pv_H) => Q (some (.int x1)) ty h1 r g)))) ∧ (¬ 6 ≤ x2 → (rd_ok ty h r) ∧ (((pf_b (48 ≤ (rd_pk h (r 80 1)) ∧ (rd_pk h (r 80 1)) ≤ 57)) = 0 → (rd_ok ty h r) ∧ (((pf_b (48 ≤ (rd_pk h (r 80 1)) ∧ (rd_pk h (r 80 1)) ≤ 57)) = 0 → Q (some (.int x1)) ty h r g) ∧ (¬ (pf_b (48 ≤ (rd_pk h (r 80 1)) ∧ (rd_pk h (r 80 1)) ≤ 57)) = 0 → pv_CW Γ (d - 1) mX9_markFault [.ref 80] ty h r g (fun (h2 : pv_H) => Q (some (.int x1)) ty h2 r g)))) ∧ (¬ (pf_b (48 ≤ (rd_pk h (r 80 1)) ∧ (rd_pk h (r 80 1)) ≤ 57)) = 0 → (rd_ok ty h r) ∧ (∀ h3 : pv_H, h3 = pv_up h 80 3 ((h 80 3) + 1) → pv_E Γ d kc ks mX9_readNumber 4 [some (.ref 80), some (.int (((x1 * 10) + (rd_pk h (r 80 1))) - 48)), some (.int (x2 + 1))] [] ty h3 r g Q)))))) : pv_E Γ d kc ks mX9_readNumber 4 [some (.ref 80), some (.int x1), some (.int x2)] [] ty h r g Q := by
  refine pv_iload_n dX9_readNumber_4 rfl ?_
  refine pv_bipush (v := 6) (by decide) dX9_readNumber_5 ?_
  refine pv_icmp_ge (tgt := 49) dX9_readNumber_7 (by decide) (fun c1 => ?_) (fun c1 => ?_)
  · have F := F.1 c1
    refine pv_aload_n dX9_readNumber_49 rfl ?_
    obtain ⟨q1, F⟩ := F
    refine pv_invV (As := []) (d' := d - 1) dX9_readNumber_50 moX9_peek ml_X9_50 (lt_80 hL) (Or.inl ⟨_, rfl, rfl⟩) (Nat.le_of_ble_eq_true rfl) (by omega) (Nat.zero_le _) (Nat.zero_le _) (ct_X9_peek (by omega) hL q1) (fun v ty' h' r' g' hq => ?_) rfl
    obtain ⟨e1, e2, e3, e4, e5⟩ := hq
    rw [e1, e2, e3, e4, e5]
    refine pv_pc (pc' := 53) rfl ?_
    show pv_E Γ d kc ks mX9_readNumber 53 [some (.ref 80), some (.int x1), some (.int x2)] [.int (rd_pk h (r 80 1))] ty h r g Q
    refine pv_invS (As := [.int (rd_pk h (r 80 1))]) (d' := d - 1) dX9_readNumber_53 moX9_isDigit ml_X9_73 (Nat.le_of_ble_eq_true rfl) (by omega) (Nat.zero_le _) (Nat.zero_le _) (ct_X9_isDigit (by omega)) (fun v ty' h' r' g' hq => ?_) rfl
    obtain ⟨e1, e2, e3, e4, e5⟩ := hq
    rw [e1, e2, e3, e4, e5]
    refine pv_pc (pc' := 56) rfl ?_
    show pv_E Γ d kc ks mX9_readNumber 56 [some (.ref 80), some (.int x1), some (.int x2)] [.int (pf_b (48 ≤ (rd_pk h (r 80 1)) ∧ (rd_pk h (r 80 1)) ≤ 57))] ty h r g Q
    refine pv_if_eq (tgt := 63) dX9_readNumber_56 (by decide) (fun c2 => ?_) (fun c2 => ?_)
    · have F := F.1 c2
      refine pv_iload_n dX9_readNumber_63 rfl ?_
      exact pv_ireturn dX9_readNumber_64 rfl rfl F
    · have F := F.2 c2
      refine pv_aload_n dX9_readNumber_59 rfl ?_
      refine pv_invV (As := []) (d' := d - 1) dX9_readNumber_60 moX9_markFault ml_X9_54 (lt_80 hL) (Or.inl ⟨_, rfl, rfl⟩) (Nat.le_of_ble_eq_true rfl) (by omega) (Nat.zero_le _) (Nat.zero_le _) F (fun v ty' h1 r' g' hq => ?_) rfl
      obtain ⟨e2, e4, e5, e1, F⟩ := hq
      rw [e1, e2, e4, e5]
      refine pv_pc (pc' := 63) rfl ?_
      show pv_E Γ d kc ks mX9_readNumber 63 [some (.ref 80), some (.int x1), some (.int x2)] [] ty h1 r g Q
      refine pv_iload_n dX9_readNumber_63 rfl ?_
      exact pv_ireturn dX9_readNumber_64 rfl rfl F
  · have F := F.2 c1
    refine pv_aload_n dX9_readNumber_10 rfl ?_
    obtain ⟨q2, F⟩ := F
    refine pv_invV (As := []) (d' := d - 1) dX9_readNumber_11 moX9_peek ml_X9_50 (lt_80 hL) (Or.inl ⟨_, rfl, rfl⟩) (Nat.le_of_ble_eq_true rfl) (by omega) (Nat.zero_le _) (Nat.zero_le _) (ct_X9_peek (by omega) hL q2) (fun v ty' h' r' g' hq => ?_) rfl
    obtain ⟨e1, e2, e3, e4, e5⟩ := hq
    rw [e1, e2, e3, e4, e5]
    refine pv_pc (pc' := 14) rfl ?_
    show pv_E Γ d kc ks mX9_readNumber 14 [some (.ref 80), some (.int x1), some (.int x2)] [.int (rd_pk h (r 80 1))] ty h r g Q
    refine pv_invS (As := [.int (rd_pk h (r 80 1))]) (d' := d - 1) dX9_readNumber_14 moX9_isDigit ml_X9_73 (Nat.le_of_ble_eq_true rfl) (by omega) (Nat.zero_le _) (Nat.zero_le _) (ct_X9_isDigit (by omega)) (fun v ty' h' r' g' hq => ?_) rfl
    obtain ⟨e1, e2, e3, e4, e5⟩ := hq
    rw [e1, e2, e3, e4, e5]
    refine pv_pc (pc' := 17) rfl ?_
    show pv_E Γ d kc ks mX9_readNumber 17 [some (.ref 80), some (.int x1), some (.int x2)] [.int (pf_b (48 ≤ (rd_pk h (r 80 1)) ∧ (rd_pk h (r 80 1)) ≤ 57))] ty h r g Q
    refine pv_if_eq (tgt := 49) dX9_readNumber_17 (by decide) (fun c3 => ?_) (fun c3 => ?_)
    · have F := F.1 c3
      refine pv_aload_n dX9_readNumber_49 rfl ?_
      obtain ⟨q3, F⟩ := F
      refine pv_invV (As := []) (d' := d - 1) dX9_readNumber_50 moX9_peek ml_X9_50 (lt_80 hL) (Or.inl ⟨_, rfl, rfl⟩) (Nat.le_of_ble_eq_true rfl) (by omega) (Nat.zero_le _) (Nat.zero_le _) (ct_X9_peek (by omega) hL q3) (fun v ty' h' r' g' hq => ?_) rfl
      obtain ⟨e1, e2, e3, e4, e5⟩ := hq
      rw [e1, e2, e3, e4, e5]
      refine pv_pc (pc' := 53) rfl ?_
      show pv_E Γ d kc ks mX9_readNumber 53 [some (.ref 80), some (.int x1), some (.int x2)] [.int (rd_pk h (r 80 1))] ty h r g Q
      refine pv_invS (As := [.int (rd_pk h (r 80 1))]) (d' := d - 1) dX9_readNumber_53 moX9_isDigit ml_X9_73 (Nat.le_of_ble_eq_true rfl) (by omega) (Nat.zero_le _) (Nat.zero_le _) (ct_X9_isDigit (by omega)) (fun v ty' h' r' g' hq => ?_) rfl
      obtain ⟨e1, e2, e3, e4, e5⟩ := hq
      rw [e1, e2, e3, e4, e5]
      refine pv_pc (pc' := 56) rfl ?_
      show pv_E Γ d kc ks mX9_readNumber 56 [some (.ref 80), some (.int x1), some (.int x2)] [.int (pf_b (48 ≤ (rd_pk h (r 80 1)) ∧ (rd_pk h (r 80 1)) ≤ 57))] ty h r g Q
      refine pv_if_eq (tgt := 63) dX9_readNumber_56 (by decide) (fun c4 => ?_) (fun c4 => ?_)
      · have F := F.1 c4
        refine pv_iload_n dX9_readNumber_63 rfl ?_
        exact pv_ireturn dX9_readNumber_64 rfl rfl F
      · have F := F.2 c4
        refine pv_aload_n dX9_readNumber_59 rfl ?_
        refine pv_invV (As := []) (d' := d - 1) dX9_readNumber_60 moX9_markFault ml_X9_54 (lt_80 hL) (Or.inl ⟨_, rfl, rfl⟩) (Nat.le_of_ble_eq_true rfl) (by omega) (Nat.zero_le _) (Nat.zero_le _) F (fun v ty' h2 r' g' hq => ?_) rfl
        obtain ⟨e2, e4, e5, e1, F⟩ := hq
        rw [e1, e2, e4, e5]
        refine pv_pc (pc' := 63) rfl ?_
        show pv_E Γ d kc ks mX9_readNumber 63 [some (.ref 80), some (.int x1), some (.int x2)] [] ty h2 r g Q
        refine pv_iload_n dX9_readNumber_63 rfl ?_
        exact pv_ireturn dX9_readNumber_64 rfl rfl F
    · have F := F.2 c3
      refine pv_iload_n dX9_readNumber_20 rfl ?_
      refine pv_bipush (v := 10) (by decide) dX9_readNumber_21 ?_
      refine pv_imul dX9_readNumber_23 ?_
      refine pv_aload_n dX9_readNumber_24 rfl ?_
      obtain ⟨q4, F⟩ := F
      refine pv_invV (As := []) (d' := d - 1) dX9_readNumber_25 moX9_peek ml_X9_50 (lt_80 hL) (Or.inl ⟨_, rfl, rfl⟩) (Nat.le_of_ble_eq_true rfl) (by omega) (Nat.zero_le _) (Nat.zero_le _) (ct_X9_peek (by omega) hL q4) (fun v ty' h' r' g' hq => ?_) rfl
      obtain ⟨e1, e2, e3, e4, e5⟩ := hq
      rw [e1, e2, e3, e4, e5]
      refine pv_pc (pc' := 28) rfl ?_
      show pv_E Γ d kc ks mX9_readNumber 28 [some (.ref 80), some (.int x1), some (.int x2)] [.int (rd_pk h (r 80 1)), .int (x1 * 10)] ty h r g Q
      refine pv_iadd dX9_readNumber_28 ?_
      refine pv_bipush (v := 48) (by decide) dX9_readNumber_29 ?_
      refine pv_isub dX9_readNumber_31 ?_
      refine pv_istore_n (ls' := [some (.ref 80), some (.int (((x1 * 10) + (rd_pk h (r 80 1))) - 48)), some (.int x2)]) dX9_readNumber_32 (by decide) rfl rfl ?_
      refine pv_aload_n dX9_readNumber_33 rfl ?_
      refine pv_dup rfl dX9_readNumber_34 ?_
      refine pv_pc (pc' := 35) rfl ?_
      refine pv_getI 9 3 dX9_readNumber_35 fl_X9_35 rfl (lt_80 hL) ?_
      refine pv_iconst (v := 1) (by decide) dX9_readNumber_38 ?_
      refine pv_iadd dX9_readNumber_39 ?_
      obtain ⟨h3, eh3⟩ : ∃ h3 : pv_H, h3 = pv_up h 80 3 ((h 80 3) + 1) := ⟨_, rfl⟩
      have F := F h3 eh3
      refine pv_putI 9 3 dX9_readNumber_40 fl_X9_35 ⟨_, rfl, Or.inl rfl⟩ (Or.inl rfl) (lt_80 hL) ?_
      refine pv_hE eh3 ?_
      refine pv_iinc (v := x2 + 1) (ls' := [some (.ref 80), some (.int (((x1 * 10) + (rd_pk h (r 80 1))) - 48)), some (.int (x2 + 1))]) dX9_readNumber_43 rfl (by rfl) rfl rfl ?_
      refine pv_goto (tgt := 4) dX9_readNumber_46 (by decide) ?_
      exact F
set_option maxRecDepth 20000 in
set_option maxHeartbeats 4000000 in
theorem sg_X9_readParenthesis_0 {Γ : pv_C} {d kc ks : Nat} {ty : pv_T} {h : pv_H} {r : pv_R} {g : pv_G} {Q : pv_Q} (x : Int32) (hd : 1 ≤ d) (hL : pv_Lay ty r) (F : (∀ h1 : pv_H, h1 = pv_up h 80 3 ((h 80 3) + 1) → pv_CJ Γ (d - 1) mX9_readExpression [.ref 80, .int x] ty h1 r g (fun (w1 : Int32) (h2 : pv_H) => ((¬ (h2 80 5) = (-1) → (∀ h3 : pv_H, h3 = pv_up h2 80 3 ((h2 80 3) + 1) → Q (some (.int w1)) ty h3 r g)) ∧ ((h2 80 5) = (-1) → (rd_ok ty h2 r) ∧ (((rd_pk h2 (r 80 1)) = 41 → (∀ h4 : pv_H, h4 = pv_up h2 80 3 ((h2 80 3) + 1) → Q (some (.int w1)) ty h4 r g)) ∧ (¬ (rd_pk h2 (r 80 1)) = 41 → pv_CW Γ (d - 1) mX9_markFault [.ref 80] ty h2 r g (fun (h5 : pv_H) => (∀ h6 : pv_H, h6 = pv_up h5 80 3 ((h5 80 3) + 1) → Q (some (.int w1)) ty h6 r g))))))))) : pv_E Γ d kc ks mX9_readParenthesis 0 [some (.ref 80), some (.int x), none] [] ty h r g Q := by
  refine pv_aload_n dX9_readParenthesis_0 rfl ?_
  refine pv_dup rfl dX9_readParenthesis_1 ?_
  refine pv_getI 9 3 dX9_readParenthesis_2 fl_X9_35 rfl (lt_80 hL) ?_
  refine pv_iconst (v := 1) (by decide) dX9_readParenthesis_5 ?_
  refine pv_iadd dX9_readParenthesis_6 ?_
  obtain ⟨h1, eh1⟩ : ∃ h1 : pv_H, h1 = pv_up h 80 3 ((h 80 3) + 1) := ⟨_, rfl⟩
  have F := F h1 eh1
  refine pv_putI 9 3 dX9_readParenthesis_7 fl_X9_35 ⟨_, rfl, Or.inl rfl⟩ (Or.inl rfl) (lt_80 hL) ?_
  refine pv_hE eh1 ?_
  refine pv_aload_n dX9_readParenthesis_10 rfl ?_
  refine pv_iload_n dX9_readParenthesis_11 rfl ?_
  refine pv_invV (As := [.int x]) (d' := d - 1) dX9_readParenthesis_12 moX9_readExpression ml_X9_57 (lt_80 hL) (Or.inl ⟨_, rfl, rfl⟩) (Nat.le_of_ble_eq_true rfl) (by omega) (Nat.zero_le _) (Nat.zero_le _) F (fun v ty' h2 r' g' hq => ?_) rfl
  obtain ⟨e2, e4, e5, w1, e1, F⟩ := hq
  rw [e1, e2, e4, e5]
  refine pv_pc (pc' := 15) rfl ?_
  show pv_E Γ d kc ks mX9_readParenthesis 15 [some (.ref 80), some (.int x), none] [.int w1] ty h2 r g Q
  refine pv_istore_n (ls' := [some (.ref 80), some (.int x), some (.int w1)]) dX9_readParenthesis_15 (by decide) rfl rfl ?_
  refine pv_aload_n dX9_readParenthesis_16 rfl ?_
  refine pv_getI 9 5 dX9_readParenthesis_17 fl_X9_40 rfl (lt_80 hL) ?_
  refine pv_iconst (v := (-1)) (by decide) dX9_readParenthesis_20 ?_
  refine pv_icmp_ne (tgt := 37) dX9_readParenthesis_21 (by decide) (fun c1 => ?_) (fun c1 => ?_)
  · have F := F.1 c1
    refine pv_aload_n dX9_readParenthesis_37 rfl ?_
    refine pv_dup rfl dX9_readParenthesis_38 ?_
    refine pv_getI 9 3 dX9_readParenthesis_39 fl_X9_35 rfl (lt_80 hL) ?_
    refine pv_iconst (v := 1) (by decide) dX9_readParenthesis_42 ?_
    refine pv_iadd dX9_readParenthesis_43 ?_
    obtain ⟨h3, eh3⟩ : ∃ h3 : pv_H, h3 = pv_up h2 80 3 ((h2 80 3) + 1) := ⟨_, rfl⟩
    have F := F h3 eh3
    refine pv_putI 9 3 dX9_readParenthesis_44 fl_X9_35 ⟨_, rfl, Or.inl rfl⟩ (Or.inl rfl) (lt_80 hL) ?_
    refine pv_hE eh3 ?_
    refine pv_iload_n dX9_readParenthesis_47 rfl ?_
    exact pv_ireturn dX9_readParenthesis_48 rfl rfl F
  · have F := F.2 c1
    refine pv_aload_n dX9_readParenthesis_24 rfl ?_
    obtain ⟨q1, F⟩ := F
    refine pv_invV (As := []) (d' := d - 1) dX9_readParenthesis_25 moX9_peek ml_X9_50 (lt_80 hL) (Or.inl ⟨_, rfl, rfl⟩) (Nat.le_of_ble_eq_true rfl) (by omega) (Nat.zero_le _) (Nat.zero_le _) (ct_X9_peek (by omega) hL q1) (fun v ty' h' r' g' hq => ?_) rfl
    obtain ⟨e1, e2, e3, e4, e5⟩ := hq
    rw [e1, e2, e3, e4, e5]
    refine pv_pc (pc' := 28) rfl ?_
    show pv_E Γ d kc ks mX9_readParenthesis 28 [some (.ref 80), some (.int x), some (.int w1)] [.int (rd_pk h2 (r 80 1))] ty h2 r g Q
    refine pv_bipush (v := 41) (by decide) dX9_readParenthesis_28 ?_
    refine pv_icmp_eq (tgt := 37) dX9_readParenthesis_30 (by decide) (fun c2 => ?_) (fun c2 => ?_)
    · have F := F.1 c2
      refine pv_aload_n dX9_readParenthesis_37 rfl ?_
      refine pv_dup rfl dX9_readParenthesis_38 ?_
      refine pv_getI 9 3 dX9_readParenthesis_39 fl_X9_35 rfl (lt_80 hL) ?_
      refine pv_iconst (v := 1) (by decide) dX9_readParenthesis_42 ?_
      refine pv_iadd dX9_readParenthesis_43 ?_
      obtain ⟨h4, eh4⟩ : ∃ h4 : pv_H, h4 = pv_up h2 80 3 ((h2 80 3) + 1) := ⟨_, rfl⟩
      have F := F h4 eh4
      refine pv_putI 9 3 dX9_readParenthesis_44 fl_X9_35 ⟨_, rfl, Or.inl rfl⟩ (Or.inl rfl) (lt_80 hL) ?_
      refine pv_hE eh4 ?_
      refine pv_iload_n dX9_readParenthesis_47 rfl ?_
      exact pv_ireturn dX9_readParenthesis_48 rfl rfl F
    · have F := F.2 c2
      refine pv_aload_n dX9_readParenthesis_33 rfl ?_
      refine pv_invV (As := []) (d' := d - 1) dX9_readParenthesis_34 moX9_markFault ml_X9_54 (lt_80 hL) (Or.inl ⟨_, rfl, rfl⟩) (Nat.le_of_ble_eq_true rfl) (by omega) (Nat.zero_le _) (Nat.zero_le _) F (fun v ty' h5 r' g' hq => ?_) rfl
      obtain ⟨e2, e4, e5, e1, F⟩ := hq
      rw [e1, e2, e4, e5]
      refine pv_pc (pc' := 37) rfl ?_
      show pv_E Γ d kc ks mX9_readParenthesis 37 [some (.ref 80), some (.int x), some (.int w1)] [] ty h5 r g Q
      refine pv_aload_n dX9_readParenthesis_37 rfl ?_
      refine pv_dup rfl dX9_readParenthesis_38 ?_
      refine pv_getI 9 3 dX9_readParenthesis_39 fl_X9_35 rfl (lt_80 hL) ?_
      refine pv_iconst (v := 1) (by decide) dX9_readParenthesis_42 ?_
      refine pv_iadd dX9_readParenthesis_43 ?_
      obtain ⟨h6, eh6⟩ : ∃ h6 : pv_H, h6 = pv_up h5 80 3 ((h5 80 3) + 1) := ⟨_, rfl⟩
      have F := F h6 eh6
      refine pv_putI 9 3 dX9_readParenthesis_44 fl_X9_35 ⟨_, rfl, Or.inl rfl⟩ (Or.inl rfl) (lt_80 hL) ?_
      refine pv_hE eh6 ?_
      refine pv_iload_n dX9_readParenthesis_47 rfl ?_
      exact pv_ireturn dX9_readParenthesis_48 rfl rfl F
set_option maxRecDepth 20000 in
set_option maxHeartbeats 4000000 in
theorem sg_X9_readOperand_0 {Γ : pv_C} {d kc ks : Nat} {ty : pv_T} {h : pv_H} {r : pv_R} {g : pv_G} {Q : pv_Q} (x : Int32) (hd : 1 ≤ d) (hL : pv_Lay ty r) (F : (rd_ok ty h r) ∧ (((pf_b (48 ≤ (rd_pk h (r 80 1)) ∧ (rd_pk h (r 80 1)) ≤ 57)) = 0 → ((¬ (rd_pk h (r 80 1)) = 40 → ((¬ (rd_pk h (r 80 1)) = (-1) → ty (r 80 4) = some (30, 0) ∧ pv_CT Γ (d - 1) 0 0 mJ0_indexOf_0f7a4 [.ref (r 80 4), .int ((((rd_pk h (r 80 1) : Int32)).toUInt32 % 65536).toInt32)] ty h r g (fun (v1 : Option Value) (ty1 : pv_T) (h1 : pv_H) (r1 : pv_R) (g1 : pv_G) => ∃ w1 : Int32, v1 = some (.int w1) ∧ pv_Lay ty1 r1 ∧ ((w1 < 0 → pv_CW Γ (d - 1) mX9_markFault [.ref 80] ty1 h1 r1 g1 (fun (h2 : pv_H) => Q (some (.int 0)) ty1 h2 r1 g1)) ∧ (¬ w1 < 0 → ((w1 < (nI 6) → (∀ h3 : pv_H, h3 = pv_up h1 80 3 ((h1 80 3) + 1) → vp_in w1 6 ∧ Q (some (.int (h3 81 (Int32.toNatClampNeg w1)))) ty1 h3 r1 g1)) ∧ (¬ w1 < (nI 6) → pv_CW Γ (d - 1) mX9_markFault [.ref 80] ty1 h1 r1 g1 (fun (h4 : pv_H) => Q (some (.int 0)) ty1 h4 r1 g1))))))) ∧ ((rd_pk h (r 80 1)) = (-1) → pv_CW Γ (d - 1) mX9_markFault [.ref 80] ty h r g (fun (h5 : pv_H) => Q (some (.int 0)) ty h5 r g)))) ∧ ((rd_pk h (r 80 1)) = 40 → ((10 ≤ x → ((¬ (rd_pk h (r 80 1)) = (-1) → ty (r 80 4) = some (30, 0) ∧ pv_CT Γ (d - 1) 0 0 mJ0_indexOf_0f7a4 [.ref (r 80 4), .int ((((rd_pk h (r 80 1) : Int32)).toUInt32 % 65536).toInt32)] ty h r g (fun (v2 : Option Value) (ty2 : pv_T) (h6 : pv_H) (r2 : pv_R) (g2 : pv_G) => ∃ w5 : Int32, v2 = some (.int w5) ∧ pv_Lay ty2 r2 ∧ ((w5 < 0 → pv_CW Γ (d - 1) mX9_markFault [.ref 80] ty2 h6 r2 g2 (fun (h7 : pv_H) => Q (some (.int 0)) ty2 h7 r2 g2)) ∧ (¬ w5 < 0 → ((w5 < (nI 6) → (∀ h8 : pv_H, h8 = pv_up h6 80 3 ((h6 80 3) + 1) → vp_in w5 6 ∧ Q (some (.int (h8 81 (Int32.toNatClampNeg w5)))) ty2 h8 r2 g2)) ∧ (¬ w5 < (nI 6) → pv_CW Γ (d - 1) mX9_markFault [.ref 80] ty2 h6 r2 g2 (fun (h9 : pv_H) => Q (some (.int 0)) ty2 h9 r2 g2))))))) ∧ ((rd_pk h (r 80 1)) = (-1) → pv_CW Γ (d - 1) mX9_markFault [.ref 80] ty h r g (fun (h10 : pv_H) => Q (some (.int 0)) ty h10 r g)))) ∧ (¬ 10 ≤ x → pv_CJ Γ (d - 1) mX9_readParenthesis [.ref 80, .int (x + 1)] ty h r g (fun (w9 : Int32) (h11 : pv_H) => Q (some (.int w9)) ty h11 r g)))))) ∧ (¬ (pf_b (48 ≤ (rd_pk h (r 80 1)) ∧ (rd_pk h (r 80 1)) ≤ 57)) = 0 → pv_CJ Γ (d - 1) mX9_readNumber [.ref 80] ty h r g (fun (w10 : Int32) (h12 : pv_H) => Q (some (.int w10)) ty h12 r g)))) : pv_E Γ d kc ks mX9_readOperand 0 [some (.ref 80), some (.int x), none, none] [] ty h r g Q := by
  refine pv_aload_n dX9_readOperand_0 rfl ?_
  obtain ⟨q1, F⟩ := F
  refine pv_invV (As := []) (d' := d - 1) dX9_readOperand_1 moX9_peek ml_X9_50 (lt_80 hL) (Or.inl ⟨_, rfl, rfl⟩) (Nat.le_of_ble_eq_true rfl) (by omega) (Nat.zero_le _) (Nat.zero_le _) (ct_X9_peek (by omega) hL q1) (fun v ty' h' r' g' hq => ?_) rfl
  obtain ⟨e1, e2, e3, e4, e5⟩ := hq
  rw [e1, e2, e3, e4, e5]
  refine pv_pc (pc' := 4) rfl ?_
  show pv_E Γ d kc ks mX9_readOperand 4 [some (.ref 80), some (.int x), none, none] [.int (rd_pk h (r 80 1))] ty h r g Q
  refine pv_istore_n (ls' := [some (.ref 80), some (.int x), some (.int (rd_pk h (r 80 1))), none]) dX9_readOperand_4 (by decide) rfl rfl ?_
  refine pv_iload_n dX9_readOperand_5 rfl ?_
  refine pv_invS (As := [.int (rd_pk h (r 80 1))]) (d' := d - 1) dX9_readOperand_6 moX9_isDigit ml_X9_73 (Nat.le_of_ble_eq_true rfl) (by omega) (Nat.zero_le _) (Nat.zero_le _) (ct_X9_isDigit (by omega)) (fun v ty' h' r' g' hq => ?_) rfl
  obtain ⟨e1, e2, e3, e4, e5⟩ := hq
  rw [e1, e2, e3, e4, e5]
  refine pv_pc (pc' := 9) rfl ?_
  show pv_E Γ d kc ks mX9_readOperand 9 [some (.ref 80), some (.int x), some (.int (rd_pk h (r 80 1))), none] [.int (pf_b (48 ≤ (rd_pk h (r 80 1)) ∧ (rd_pk h (r 80 1)) ≤ 57))] ty h r g Q
  refine pv_if_eq (tgt := 17) dX9_readOperand_9 (by decide) (fun c1 => ?_) (fun c1 => ?_)
  · have F := F.1 c1
    refine pv_iload_n dX9_readOperand_17 rfl ?_
    refine pv_bipush (v := 40) (by decide) dX9_readOperand_18 ?_
    refine pv_icmp_ne (tgt := 37) dX9_readOperand_20 (by decide) (fun c2 => ?_) (fun c2 => ?_)
    · have F := F.1 c2
      refine pv_iload_n dX9_readOperand_37 rfl ?_
      refine pv_iconst (v := (-1)) (by decide) dX9_readOperand_38 ?_
      refine pv_icmp_ne (tgt := 46) dX9_readOperand_39 (by decide) (fun c3 => ?_) (fun c3 => ?_)
      · have F := F.1 c3
        refine pv_aload_n dX9_readOperand_46 rfl ?_
        refine pv_getR 9 4 dX9_readOperand_47 fl_X9_21 rfl (lt_80 hL) ?_
        refine pv_iload_n dX9_readOperand_50 rfl ?_
        refine pv_i2c dX9_readOperand_51 ?_
        obtain ⟨q2, F⟩ := F
        refine pv_invV (As := [.int ((((rd_pk h (r 80 1) : Int32)).toUInt32 % 65536).toInt32)]) (d' := d - 1) dX9_readOperand_52 moJ0_indexOf_0f7a4 ml_X9_83 q2 (Or.inr ⟨rfl, rfl⟩) (Nat.le_of_ble_eq_true rfl) (by omega) (Nat.zero_le _) (Nat.zero_le _) F (fun v1 ty1 h1 r1 g1 F => ?_) rfl
        obtain ⟨w1, rfl, F⟩ := F
        obtain ⟨hL1, F⟩ := F
        refine pv_pc (pc' := 55) rfl ?_
        show pv_E Γ d kc ks mX9_readOperand 55 [some (.ref 80), some (.int x), some (.int (rd_pk h (r 80 1))), none] [.int w1] ty1 h1 r1 g1 Q
        refine pv_istore_n (ls' := [some (.ref 80), some (.int x), some (.int (rd_pk h (r 80 1))), some (.int w1)]) dX9_readOperand_55 (by decide) rfl rfl ?_
        refine pv_iload_n dX9_readOperand_56 rfl ?_
        refine pv_if_lt (tgt := 69) dX9_readOperand_57 (by decide) (fun c4 => ?_) (fun c4 => ?_)
        · have F := F.1 c4
          refine pv_aload_n dX9_readOperand_69 rfl ?_
          refine pv_invV (As := []) (d' := d - 1) dX9_readOperand_70 moX9_markFault ml_X9_54 (lt_80 hL1) (Or.inl ⟨_, rfl, rfl⟩) (Nat.le_of_ble_eq_true rfl) (by omega) (Nat.zero_le _) (Nat.zero_le _) F (fun v ty' h2 r' g' hq => ?_) rfl
          obtain ⟨e2, e4, e5, e1, F⟩ := hq
          rw [e1, e2, e4, e5]
          refine pv_pc (pc' := 73) rfl ?_
          show pv_E Γ d kc ks mX9_readOperand 73 [some (.ref 80), some (.int x), some (.int (rd_pk h (r 80 1))), some (.int w1)] [] ty1 h2 r1 g1 Q
          refine pv_iconst (v := 0) (by decide) dX9_readOperand_73 ?_
          exact pv_ireturn dX9_readOperand_74 rfl rfl F
        · have F := F.2 c4
          refine pv_iload_n dX9_readOperand_60 rfl ?_
          refine pv_aload_n dX9_readOperand_61 rfl ?_
          refine pv_getRk 9 0 dX9_readOperand_62 fl_X9_11 rfl (lt_80 hL1) (lr_80_0 hL1) ?_
          refine pv_alen dX9_readOperand_65 (lt_81 hL1) (by decide) ?_
          refine pv_icmp_lt (tgt := 75) dX9_readOperand_66 (by decide) (fun c5 => ?_) (fun c5 => ?_)
          · have F := F.1 c5
            refine pv_aload_n dX9_readOperand_75 rfl ?_
            refine pv_dup rfl dX9_readOperand_76 ?_
            refine pv_getI 9 3 dX9_readOperand_77 fl_X9_35 rfl (lt_80 hL1) ?_
            refine pv_iconst (v := 1) (by decide) dX9_readOperand_80 ?_
            refine pv_iadd dX9_readOperand_81 ?_
            obtain ⟨h3, eh3⟩ : ∃ h3 : pv_H, h3 = pv_up h1 80 3 ((h1 80 3) + 1) := ⟨_, rfl⟩
            have F := F h3 eh3
            refine pv_putI 9 3 dX9_readOperand_82 fl_X9_35 ⟨_, rfl, Or.inl rfl⟩ (Or.inl rfl) (lt_80 hL1) ?_
            refine pv_hE eh3 ?_
            refine pv_aload_n dX9_readOperand_85 rfl ?_
            refine pv_getRk 9 0 dX9_readOperand_86 fl_X9_11 rfl (lt_80 hL1) (lr_80_0 hL1) ?_
            refine pv_iload_n dX9_readOperand_89 rfl ?_
            obtain ⟨q3, F⟩ := F
            refine pv_iald dX9_readOperand_90 (lt_81 hL1) q3 ?_
            exact pv_ireturn dX9_readOperand_91 rfl rfl F
          · have F := F.2 c5
            refine pv_aload_n dX9_readOperand_69 rfl ?_
            refine pv_invV (As := []) (d' := d - 1) dX9_readOperand_70 moX9_markFault ml_X9_54 (lt_80 hL1) (Or.inl ⟨_, rfl, rfl⟩) (Nat.le_of_ble_eq_true rfl) (by omega) (Nat.zero_le _) (Nat.zero_le _) F (fun v ty' h4 r' g' hq => ?_) rfl
            obtain ⟨e2, e4, e5, e1, F⟩ := hq
            rw [e1, e2, e4, e5]
            refine pv_pc (pc' := 73) rfl ?_
            show pv_E Γ d kc ks mX9_readOperand 73 [some (.ref 80), some (.int x), some (.int (rd_pk h (r 80 1))), some (.int w1)] [] ty1 h4 r1 g1 Q
            refine pv_iconst (v := 0) (by decide) dX9_readOperand_73 ?_
            exact pv_ireturn dX9_readOperand_74 rfl rfl F
      · have F := F.2 c3
        refine pv_iconst (v := (-1)) (by decide) dX9_readOperand_42 ?_
        refine pv_goto (tgt := 55) dX9_readOperand_43 (by decide) ?_
        refine pv_istore_n (ls' := [some (.ref 80), some (.int x), some (.int (rd_pk h (r 80 1))), some (.int (-1))]) dX9_readOperand_55 (by decide) rfl rfl ?_
        refine pv_iload_n dX9_readOperand_56 rfl ?_
        refine pv_if_lt (tgt := 69) dX9_readOperand_57 (by decide) (fun c6 => ?_) (fun c6 => absurd c6 (by decide))
        refine pv_aload_n dX9_readOperand_69 rfl ?_
        refine pv_invV (As := []) (d' := d - 1) dX9_readOperand_70 moX9_markFault ml_X9_54 (lt_80 hL) (Or.inl ⟨_, rfl, rfl⟩) (Nat.le_of_ble_eq_true rfl) (by omega) (Nat.zero_le _) (Nat.zero_le _) F (fun v ty' h5 r' g' hq => ?_) rfl
        obtain ⟨e2, e4, e5, e1, F⟩ := hq
        rw [e1, e2, e4, e5]
        refine pv_pc (pc' := 73) rfl ?_
        show pv_E Γ d kc ks mX9_readOperand 73 [some (.ref 80), some (.int x), some (.int (rd_pk h (r 80 1))), some (.int (-1))] [] ty h5 r g Q
        refine pv_iconst (v := 0) (by decide) dX9_readOperand_73 ?_
        exact pv_ireturn dX9_readOperand_74 rfl rfl F
    · have F := F.2 c2
      refine pv_iload_n dX9_readOperand_23 rfl ?_
      refine pv_bipush (v := 10) (by decide) dX9_readOperand_24 ?_
      refine pv_icmp_ge (tgt := 37) dX9_readOperand_26 (by decide) (fun c7 => ?_) (fun c7 => ?_)
      · have F := F.1 c7
        refine pv_iload_n dX9_readOperand_37 rfl ?_
        refine pv_iconst (v := (-1)) (by decide) dX9_readOperand_38 ?_
        refine pv_icmp_ne (tgt := 46) dX9_readOperand_39 (by decide) (fun c8 => ?_) (fun c8 => ?_)
        · have F := F.1 c8
          refine pv_aload_n dX9_readOperand_46 rfl ?_
          refine pv_getR 9 4 dX9_readOperand_47 fl_X9_21 rfl (lt_80 hL) ?_
          refine pv_iload_n dX9_readOperand_50 rfl ?_
          refine pv_i2c dX9_readOperand_51 ?_
          obtain ⟨q4, F⟩ := F
          refine pv_invV (As := [.int ((((rd_pk h (r 80 1) : Int32)).toUInt32 % 65536).toInt32)]) (d' := d - 1) dX9_readOperand_52 moJ0_indexOf_0f7a4 ml_X9_83 q4 (Or.inr ⟨rfl, rfl⟩) (Nat.le_of_ble_eq_true rfl) (by omega) (Nat.zero_le _) (Nat.zero_le _) F (fun v2 ty2 h6 r2 g2 F => ?_) rfl
          obtain ⟨w5, rfl, F⟩ := F
          obtain ⟨hL2, F⟩ := F
          refine pv_pc (pc' := 55) rfl ?_
          show pv_E Γ d kc ks mX9_readOperand 55 [some (.ref 80), some (.int x), some (.int (rd_pk h (r 80 1))), none] [.int w5] ty2 h6 r2 g2 Q
          refine pv_istore_n (ls' := [some (.ref 80), some (.int x), some (.int (rd_pk h (r 80 1))), some (.int w5)]) dX9_readOperand_55 (by decide) rfl rfl ?_
          refine pv_iload_n dX9_readOperand_56 rfl ?_
          refine pv_if_lt (tgt := 69) dX9_readOperand_57 (by decide) (fun c9 => ?_) (fun c9 => ?_)
          · have F := F.1 c9
            refine pv_aload_n dX9_readOperand_69 rfl ?_
            refine pv_invV (As := []) (d' := d - 1) dX9_readOperand_70 moX9_markFault ml_X9_54 (lt_80 hL2) (Or.inl ⟨_, rfl, rfl⟩) (Nat.le_of_ble_eq_true rfl) (by omega) (Nat.zero_le _) (Nat.zero_le _) F (fun v ty' h7 r' g' hq => ?_) rfl
            obtain ⟨e2, e4, e5, e1, F⟩ := hq
            rw [e1, e2, e4, e5]
            refine pv_pc (pc' := 73) rfl ?_
            show pv_E Γ d kc ks mX9_readOperand 73 [some (.ref 80), some (.int x), some (.int (rd_pk h (r 80 1))), some (.int w5)] [] ty2 h7 r2 g2 Q
            refine pv_iconst (v := 0) (by decide) dX9_readOperand_73 ?_
            exact pv_ireturn dX9_readOperand_74 rfl rfl F
          · have F := F.2 c9
            refine pv_iload_n dX9_readOperand_60 rfl ?_
            refine pv_aload_n dX9_readOperand_61 rfl ?_
            refine pv_getRk 9 0 dX9_readOperand_62 fl_X9_11 rfl (lt_80 hL2) (lr_80_0 hL2) ?_
            refine pv_alen dX9_readOperand_65 (lt_81 hL2) (by decide) ?_
            refine pv_icmp_lt (tgt := 75) dX9_readOperand_66 (by decide) (fun c10 => ?_) (fun c10 => ?_)
            · have F := F.1 c10
              refine pv_aload_n dX9_readOperand_75 rfl ?_
              refine pv_dup rfl dX9_readOperand_76 ?_
              refine pv_getI 9 3 dX9_readOperand_77 fl_X9_35 rfl (lt_80 hL2) ?_
              refine pv_iconst (v := 1) (by decide) dX9_readOperand_80 ?_
              refine pv_iadd dX9_readOperand_81 ?_
              obtain ⟨h8, eh8⟩ : ∃ h8 : pv_H, h8 = pv_up h6 80 3 ((h6 80 3) + 1) := ⟨_, rfl⟩
              have F := F h8 eh8
              refine pv_putI 9 3 dX9_readOperand_82 fl_X9_35 ⟨_, rfl, Or.inl rfl⟩ (Or.inl rfl) (lt_80 hL2) ?_
              refine pv_hE eh8 ?_
              refine pv_aload_n dX9_readOperand_85 rfl ?_
              refine pv_getRk 9 0 dX9_readOperand_86 fl_X9_11 rfl (lt_80 hL2) (lr_80_0 hL2) ?_
              refine pv_iload_n dX9_readOperand_89 rfl ?_
              obtain ⟨q5, F⟩ := F
              refine pv_iald dX9_readOperand_90 (lt_81 hL2) q5 ?_
              exact pv_ireturn dX9_readOperand_91 rfl rfl F
            · have F := F.2 c10
              refine pv_aload_n dX9_readOperand_69 rfl ?_
              refine pv_invV (As := []) (d' := d - 1) dX9_readOperand_70 moX9_markFault ml_X9_54 (lt_80 hL2) (Or.inl ⟨_, rfl, rfl⟩) (Nat.le_of_ble_eq_true rfl) (by omega) (Nat.zero_le _) (Nat.zero_le _) F (fun v ty' h9 r' g' hq => ?_) rfl
              obtain ⟨e2, e4, e5, e1, F⟩ := hq
              rw [e1, e2, e4, e5]
              refine pv_pc (pc' := 73) rfl ?_
              show pv_E Γ d kc ks mX9_readOperand 73 [some (.ref 80), some (.int x), some (.int (rd_pk h (r 80 1))), some (.int w5)] [] ty2 h9 r2 g2 Q
              refine pv_iconst (v := 0) (by decide) dX9_readOperand_73 ?_
              exact pv_ireturn dX9_readOperand_74 rfl rfl F
        · have F := F.2 c8
          refine pv_iconst (v := (-1)) (by decide) dX9_readOperand_42 ?_
          refine pv_goto (tgt := 55) dX9_readOperand_43 (by decide) ?_
          refine pv_istore_n (ls' := [some (.ref 80), some (.int x), some (.int (rd_pk h (r 80 1))), some (.int (-1))]) dX9_readOperand_55 (by decide) rfl rfl ?_
          refine pv_iload_n dX9_readOperand_56 rfl ?_
          refine pv_if_lt (tgt := 69) dX9_readOperand_57 (by decide) (fun c11 => ?_) (fun c11 => absurd c11 (by decide))
          refine pv_aload_n dX9_readOperand_69 rfl ?_
          refine pv_invV (As := []) (d' := d - 1) dX9_readOperand_70 moX9_markFault ml_X9_54 (lt_80 hL) (Or.inl ⟨_, rfl, rfl⟩) (Nat.le_of_ble_eq_true rfl) (by omega) (Nat.zero_le _) (Nat.zero_le _) F (fun v ty' h10 r' g' hq => ?_) rfl
          obtain ⟨e2, e4, e5, e1, F⟩ := hq
          rw [e1, e2, e4, e5]
          refine pv_pc (pc' := 73) rfl ?_
          show pv_E Γ d kc ks mX9_readOperand 73 [some (.ref 80), some (.int x), some (.int (rd_pk h (r 80 1))), some (.int (-1))] [] ty h10 r g Q
          refine pv_iconst (v := 0) (by decide) dX9_readOperand_73 ?_
          exact pv_ireturn dX9_readOperand_74 rfl rfl F
      · have F := F.2 c7
        refine pv_aload_n dX9_readOperand_29 rfl ?_
        refine pv_iload_n dX9_readOperand_30 rfl ?_
        refine pv_iconst (v := 1) (by decide) dX9_readOperand_31 ?_
        refine pv_iadd dX9_readOperand_32 ?_
        refine pv_invV (As := [.int (x + 1)]) (d' := d - 1) dX9_readOperand_33 moX9_readParenthesis ml_X9_80 (lt_80 hL) (Or.inl ⟨_, rfl, rfl⟩) (Nat.le_of_ble_eq_true rfl) (by omega) (Nat.zero_le _) (Nat.zero_le _) F (fun v ty' h11 r' g' hq => ?_) rfl
        obtain ⟨e2, e4, e5, w9, e1, F⟩ := hq
        rw [e1, e2, e4, e5]
        refine pv_pc (pc' := 36) rfl ?_
        show pv_E Γ d kc ks mX9_readOperand 36 [some (.ref 80), some (.int x), some (.int (rd_pk h (r 80 1))), none] [.int w9] ty h11 r g Q
        exact pv_ireturn dX9_readOperand_36 rfl rfl F
  · have F := F.2 c1
    refine pv_aload_n dX9_readOperand_12 rfl ?_
    refine pv_invV (As := []) (d' := d - 1) dX9_readOperand_13 moX9_readNumber ml_X9_77 (lt_80 hL) (Or.inl ⟨_, rfl, rfl⟩) (Nat.le_of_ble_eq_true rfl) (by omega) (Nat.zero_le _) (Nat.zero_le _) F (fun v ty' h12 r' g' hq => ?_) rfl
    obtain ⟨e2, e4, e5, w10, e1, F⟩ := hq
    rw [e1, e2, e4, e5]
    refine pv_pc (pc' := 16) rfl ?_
    show pv_E Γ d kc ks mX9_readOperand 16 [some (.ref 80), some (.int x), some (.int (rd_pk h (r 80 1))), none] [.int w10] ty h12 r g Q
    exact pv_ireturn dX9_readOperand_16 rfl rfl F
/-- a byte, as the reader tells it -/
def tx_I (x : Nat) : Int32 := if x = 256 then -1 else nI x
theorem tx_I_eq {x k : Nat} (hx : x ≤ 256) (hk : k < 256) : tx_I x = nI k ↔ x = k := by
  unfold tx_I
  by_cases q : x = 256
  · rw [if_pos q]
    exact ⟨fun e => absurd e.symm (ni_n1 (by omega)), fun e => by omega⟩
  · rw [if_neg q]
    exact nI_eq (by omega) (by omega)
theorem tx_I_m {x : Nat} (hx : x ≤ 256) : tx_I x = -1 ↔ x = 256 := by
  unfold tx_I
  by_cases q : x = 256
  · rw [if_pos q]; exact ⟨fun _ => q, fun _ => rfl⟩
  · rw [if_neg q]; exact ⟨fun e => absurd e (ni_n1 (by omega)), fun e => absurd e q⟩
theorem tx_I_dg {x : Nat} (hx : x ≤ 256) : (48 ≤ tx_I x ∧ tx_I x ≤ 57) ↔ tx_dg x := by
  unfold tx_I tx_dg
  by_cases q : x = 256
  · rw [if_pos q, q]; decide
  · rw [if_neg q, show (48 : Int32) = nI 48 from rfl, show (57 : Int32) = nI 57 from rfl, nI_leI (by decide) (by omega), nI_leI (by omega) (by decide)]
theorem pi_eq {y z : Int32} {A B : Prop} (x k : Nat) (hy : y = tx_I x) (hx : x ≤ 256) (f : x = k → A) (g : x ≠ k → B) (hz : z = nI k := by rfl) (hk : k < 256 := by decide) : (y = z → A) ∧ (¬ y = z → B) := by
  rw [hy, hz, tx_I_eq hx hk]
  exact ⟨f, g⟩
theorem pi_en {y z : Int32} {A B : Prop} (x k : Nat) (hy : y = tx_I x) (hx : x ≤ 256) (f : x = k → A) (g : x ≠ k → B) (hz : z = nI k := by rfl) (hk : k < 256 := by decide) : (¬ y = z → B) ∧ (y = z → A) := (pi_eq x k hy hx f g hz hk).symm
theorem pi_m {y : Int32} {A B : Prop} (x : Nat) (hy : y = tx_I x) (hx : x ≤ 256) (f : x = 256 → A) (g : x ≠ 256 → B) : (¬ y = -1 → B) ∧ (y = -1 → A) := by
  rw [hy, tx_I_m hx]
  exact ⟨g, f⟩
theorem pi_dg {y : Int32} {A B : Prop} (x : Nat) (hy : y = tx_I x) (hx : x ≤ 256) (f : tx_dg x → A) (g : ¬ tx_dg x → B) : (pf_b (48 ≤ y ∧ y ≤ 57) = 0 → B) ∧ (¬ pf_b (48 ≤ y ∧ y ≤ 57) = 0 → A) := by
  rw [hy]
  exact pk_b (fun c => f ((tx_I_dg hx).mp c)) (fun c => g (fun q => c ((tx_I_dg hx).mpr q)))
/-- what the reader stands on -/
def rdS (ty : pv_T) (r : pv_R) (K len : Nat) (b : Nat → Nat) (h : pv_H) : Prop := len ≤ 160 ∧ K < 2 ∧ (∃ n, ty (r 80 1) = some (21, n) ∧ len ≤ n ∧ n ≤ 160) ∧ h 80 2 = nI len ∧ (∀ p, p < len → h (r 80 1) p &&& 255 = nI (b p)) ∧ (∀ p, b p < 256) ∧ r 80 4 = 2 + K ∧ ty (2 + K) = some (30, 0)
abbrev rdA : Nat → Nat → Prop := fun a j => a = 80 ∧ (j = 3 ∨ j = 5)
def rd_V (h : pv_H) (K c : Nat) : Int32 := h 81 ((tx_nm K).idxOf c)
def rd_q (K len n : Nat) (h0 : pv_H) (res : tx_R tx_E) (x : Int32) (h' : pv_H) : Prop := pv_fr rdA h0 h' ∧ (∀ e q, res = .ok (e, q) → x = tx_ev (rd_V h0 K) e ∧ h' 80 3 = nI q ∧ h' 80 5 = -1) ∧ (∀ q, res = .error q → h' 80 5 = nI q ∧ ∃ p', p' ≤ len + n ∧ h' 80 3 = nI p')
theorem tx_pk_le {len : Nat} {b : Nat → Nat} (h8 : ∀ p, b p < 256) (p : Nat) : tx_pk len b p ≤ 256 := by
  unfold tx_pk
  split
  · exact Nat.le_of_lt (h8 p)
  · exact Nat.le_refl _
theorem tx_c4_rep : ∀ m, tx_c4 (List.replicate m 4) = m
  | 0 => rfl
  | m + 1 => by show tx_c4 (List.replicate m 4) + 1 = _; rw [tx_c4_rep m]
theorem tx_low_rep (t m : Nat) : tx_low t (List.replicate m 4) := by
  cases m
  · exact trivial
  · exact Or.inl rfl
theorem tx_sp_f {K len : Nat} {b : Nat → Nat} {f : Nat → tx_R tx_E} {t m : Nat} {Z : Nat → Prop} (hs : tx_sp K len b f t m Z) {p : Nat} (hp : p ≤ len) : (∀ q, f p = .error q → q ≤ len) ∧ (∀ e q, f p = .ok (e, q) → p < q ∧ q ≤ len) := by
  obtain ⟨h1, h2⟩ := hs p (List.replicate m 4) [] false false hp (fun z => by cases z) (tx_low_rep t m) (tx_c4_rep m)
  exact ⟨fun q e => (h1 q e).2, fun e q he => ⟨(h2 e q he).2.1, (h2 e q he).2.2.1⟩⟩
theorem tx_exS_f {K len : Nat} {b : Nat → Nat} {f : Nat → tx_R tx_E} {m : Nat} (hs : tx_exS K len b f m) {p : Nat} (hp : p ≤ len) : (∀ q, f p = .error q → q ≤ len) ∧ (∀ e q, f p = .ok (e, q) → p < q ∧ q ≤ len) := by
  obtain ⟨h1, h2⟩ := hs p (List.replicate m 4) [] false false hp (fun z => by cases z) (by cases m; exact Or.inl rfl; exact Or.inr ⟨_, rfl⟩) (tx_c4_rep m)
  exact ⟨fun q e => (h1 q e).2, fun e q he => ⟨(h2 e q he).2.1, (h2 e q he).2.2.1⟩⟩
theorem tx_opnd_s {K len : Nat} {b : Nat → Nat} (hl : len ≤ 160) {n : Nat} (hn : n ≤ 10) : tx_sp K len b (tx_opnd K (tx_pk len b) (tx_in K (tx_pk len b) n)) 7 (10 - n) (fun _ => True) := tx_opnd_sp hl (by omega) (fun n' e => by subst e; exact tx_exp_sp hl n' _ (by omega))
theorem tx_prod_s {K len : Nat} {b : Nat → Nat} (hl : len ≤ 160) {n : Nat} (hn : n ≤ 10) : tx_sp K len b (tx_prod K (tx_pk len b) (tx_in K (tx_pk len b) n)) 6 (10 - n) (fun x => tx_mul x = 0 ∧ True) := tx_chain_sp hl tx_mul_sg rfl (tx_opnd_s hl hn)
theorem tx_sum_s {K len : Nat} {b : Nat → Nat} (hl : len ≤ 160) {n : Nat} (hn : n ≤ 10) : tx_sp K len b (tx_sum K (tx_pk len b) (tx_in K (tx_pk len b) n)) 5 (10 - n) (fun x => tx_add x = 0 ∧ tx_mul x = 0 ∧ True) := tx_chain_sp hl tx_add_sg rfl (tx_prod_s hl hn)
section RB
variable {Γ : pv_C} {d kc ks : Nat} {ty : pv_T} {h h0 : pv_H} {r : pv_R} {g : pv_G} {Q : pv_Q} {K len n : Nat} {b : Nat → Nat}
theorem rd_ne (hL : pv_Lay ty r) (hS : rdS ty r K len b h) : r 80 1 ≠ 80 := fun e => by
  obtain ⟨n, h1, -⟩ := hS.2.2.1
  rw [e, lt_80 hL] at h1
  cases h1
theorem rdS_fr (hL : pv_Lay ty r) {h' : pv_H} (hf : pv_fr rdA h h') (hS : rdS ty r K len b h) : rdS ty r K len b h' := by
  have hne := rd_ne hL hS
  obtain ⟨a1, a2, a3, a4, a5, a6, a7⟩ := hS
  exact ⟨a1, a2, a3, (hf 80 2 (by decide)).trans a4, fun p hp => by rw [hf (r 80 1) p (fun q => hne q.1)]; exact a5 p hp, a6, a7⟩
theorem rd_V_fr {h' : pv_H} (hf : pv_fr rdA h h') : rd_V h' K = rd_V h K := funext fun c => hf 81 _ (fun q => absurd q.1 (by decide))
theorem rd_peek (hS : rdS ty r K len b h) {p : Nat} (hp : h 80 3 = nI p) (hb : p < 2 ^ 30) : rd_ok ty h r ∧ rd_pk h (r 80 1) = tx_I (tx_pk len b p) := by
  obtain ⟨a1, a2, ⟨n, a3, a4, a5⟩, a6, a7, a8, a9⟩ := hS
  unfold rd_ok rd_pk tx_pk
  have hle := nI_leI (a := len) (b := p) (by omega) (by omega)
  rw [hp, a6, nI_clamp (by omega)]
  by_cases c : len ≤ p
  · rw [if_pos (hle.mpr c), if_neg (by omega)]
    exact ⟨fun q => absurd (hle.mpr c) q, rfl⟩
  · rw [if_neg (fun q => c (hle.mp q)), if_pos (by omega), a7 p (by omega)]
    refine ⟨fun _ => ⟨n, a3, vp_in_nI (by omega) (by omega)⟩, ?_⟩
    unfold tx_I
    rw [if_neg (by have := a8 p; omega)]
theorem rd_fr1 (hf : pv_fr rdA h0 h) {x : Int32} : pv_fr rdA h0 (pv_up h 80 3 x) := pv_fr_up hf ⟨rfl, Or.inl rfl⟩
theorem rd_fr2 (hf : pv_fr rdA h0 h) {x : Int32} : pv_fr rdA h0 (pv_up h 80 5 x) := pv_fr_up hf ⟨rfl, Or.inr rfl⟩
/-- a number -/
theorem rd_n4 (hd : 1 ≤ d) (hL : pv_Lay ty r) (hS0 : rdS ty r K len b h0) (hQ : ∀ v q h', pv_fr rdA h0 h' → h' 80 3 = nI q → ((¬ tx_dg (tx_pk len b q) → h' 80 5 = -1) ∧ (tx_dg (tx_pk len b q) → h' 80 5 = nI q)) → (v, q) = tx_num (tx_pk len b) 6 0 n → Q (some (.int (nI v))) ty h' r g) : ∀ (m k v p : Nat) (h : pv_H), k + m = 6 → v < 10 ^ k → p ≤ len → tx_num (tx_pk len b) m v p = tx_num (tx_pk len b) 6 0 n → pv_fr rdA h0 h → h 80 3 = nI p → h 80 5 = -1 → pv_E Γ d kc ks mX9_readNumber 4 [some (.ref 80), some (.int (nI v)), some (.int (nI k))] [] ty h r g Q := by
  have h8 := hS0.2.2.2.2.2.1
  have hl := hS0.1
  have fin : ∀ (v p : Nat) (h : pv_H), p ≤ len → (v, p) = tx_num (tx_pk len b) 6 0 n → pv_fr rdA h0 h → h 80 3 = nI p → h 80 5 = -1 → (rd_ok ty h r) ∧ ((pf_b (48 ≤ (rd_pk h (r 80 1)) ∧ (rd_pk h (r 80 1)) ≤ 57) = 0 → Q (some (.int (nI v))) ty h r g) ∧ (¬ pf_b (48 ≤ (rd_pk h (r 80 1)) ∧ (rd_pk h (r 80 1)) ≤ 57) = 0 → pv_CW Γ (d - 1) mX9_markFault [.ref 80] ty h r g (fun (h1 : pv_H) => Q (some (.int (nI v))) ty h1 r g))) := fun v p h hp he hf h3 h5 => by
    obtain ⟨z1, z2⟩ := rd_peek (rdS_fr hL hf hS0) h3 (by omega)
    refine ⟨z1, pi_dg _ z2 (tx_pk_le h8 p) (fun c => ?_) (fun c => hQ v p h hf h3 ⟨fun _ => h5, fun q => absurd q c⟩ he)⟩
    refine pv_CW.mono (ct_X9_mark hL h5) (fun h' e => ?_)
    rw [e]
    exact hQ v p _ (rd_fr2 hf) (by rw [pv_up_j (by decide)]; exact h3) ⟨fun q => absurd c q, fun _ => by rw [pv_up_same]; exact h3⟩ he
  intro m
  induction m with
  | zero =>
    intro k v p h hk hv hp he hf h3 h5
    exact sg_X9_readNumber_4 _ _ hd hL (pk_le 6 k (fun _ => fin v p h hp he hf h3 h5) (fun c => absurd c (by omega)))
  | succ m ih =>
    intro k v p h hk hv hp he hf h3 h5
    obtain ⟨z1, z2⟩ := rd_peek (rdS_fr hL hf hS0) h3 (by omega)
    have hu : tx_num (tx_pk len b) (m + 1) v p = if tx_dg (tx_pk len b p) then tx_num (tx_pk len b) m (v * 10 + (tx_pk len b p - 48)) (p + 1) else (v, p) := rfl
    refine sg_X9_readNumber_4 _ _ hd hL (pk_le 6 k (fun c => absurd c (by omega)) (fun _ => ⟨z1, pi_dg _ z2 (tx_pk_le h8 p) (fun c => ⟨z1, fun h3' e3 => ?_⟩) (fun c => ?_)⟩))
    · rw [hu, if_pos c] at he
      have hlt := tx_dg_lt c
      have hv2 : v < 10 ^ 6 := Nat.lt_of_lt_of_le hv (Nat.pow_le_pow_right (by decide) (by omega))
      have e4 : nI v * 10 + rd_pk h (r 80 1) - 48 = nI (v * 10 + (tx_pk len b p - 48)) := by
        rw [z2]
        unfold tx_I
        rw [if_neg (by have := c.2; omega), show (10 : Int32) = nI 10 from rfl, pk_mul, nI_add, show (48 : Int32) = nI 48 from rfl, pk_sub (by have := c.1; omega)]
        congr 1
        have := c.1
        omega
      rw [e3, e4, h3, nI_1, nI_1]
      refine ih (k + 1) _ (p + 1) _ (by omega) ?_ hlt he (rd_fr1 hf) (pv_up_same _ _ _ _) (by rw [pv_up_j (by decide)]; exact h5)
      have := c.2
      have e5 : 10 ^ (k + 1) = 10 ^ k * 10 := Nat.pow_succ ..
      omega
    · rw [hu, if_neg c] at he
      exact fin v p h hp he hf h3 h5
theorem ct_X9_number (hd : 1 ≤ d) (hL : pv_Lay ty r) (hS : rdS ty r K len b h) {p : Nat} (hp : p ≤ len) (h3 : h 80 3 = nI p) (h5 : h 80 5 = -1) : pv_CJ Γ d mX9_readNumber [.ref 80] ty h r g (fun x h' => pv_fr rdA h h' ∧ x = nI (tx_num (tx_pk len b) 6 0 p).1 ∧ h' 80 3 = nI (tx_num (tx_pk len b) 6 0 p).2 ∧ (¬ tx_dg (tx_pk len b (tx_num (tx_pk len b) 6 0 p).2) → h' 80 5 = -1) ∧ (tx_dg (tx_pk len b (tx_num (tx_pk len b) 6 0 p).2) → h' 80 5 = nI (tx_num (tx_pk len b) 6 0 p).2)) :=
  pv_fn 2 pn_X9 rfl (Nat.le_of_ble_eq_true rfl) (sg_X9_readNumber_0 (rd_n4 hd hL hS (n := p) (fun v q h' f1 f2 f3 f4 => by rw [← f4]; exact pv_jqi ⟨f1, rfl, f2, f3.1, f3.2⟩) 6 0 0 p h rfl (by decide) hp rfl (pv_fr_refl _ _) h3 h5))
end RB
