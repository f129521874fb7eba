/-! wear: pure; the reference's mean and wearOf; the class's meanWheels and wearAt -/
def mn_s (f : Nat → Int32) : Nat → Int32
  | 0 => 0
  | n + 1 => if f n = -1 then mn_s f n else mn_s f n + f n
def mn_c (f : Nat → Int32) : Nat → Nat
  | 0 => 0
  | n + 1 => if f n = -1 then mn_c f n else mn_c f n + 1
theorem mn_c_le (f : Nat → Int32) : ∀ n, mn_c f n ≤ n
  | 0 => Nat.le_refl 0
  | n + 1 => by
    have := mn_c_le f n
    unfold mn_c
    split <;> omega
/-- the mean of the years that have wheels -/
def mn_v (f : Nat → Int32) (T : Nat) : Int32 := if mn_c f T = 0 then 0 else mn_s f T / nI (mn_c f T)
/-- wear over n years from p on, m where none are told -/
def wr_s (f : Nat → Int32) (m : Int32) (p : Nat) : Nat → Int32
  | 0 => 0
  | n + 1 => wr_s f m p n + (if p + n < 31 ∧ ¬ f (p + n) = -1 then f (p + n) else m)
/-- the reference's wheels as the class has them -/
def wT (h : pv_H) (s y : Nat) : Int32 := if h 320 (31 * s + y) = 0 then -1 else h 321 (31 * s + y)
theorem ni_31 (s y : Nat) : 31 * nI s + nI y = nI (31 * s + y) := by
  rw [show (31 : Int32) = nI 31 from rfl, pk_mul, nI_add]
set_option maxRecDepth 20000 in
set_option maxHeartbeats 4000000 in
theorem sg_X12_mean_0 {Γ : pv_C} {d kc ks : Nat} {ty : pv_T} {h : pv_H} {r : pv_R} {g : pv_G} {Q : pv_Q} (x : Int32) (F : pv_E Γ d kc ks mX12_mean 7 [some (.ref 200), some (.int x), some (.int 0), some (.int 0), some (.int 0)] [] ty h r g Q) : pv_E Γ d kc ks mX12_mean 0 [some (.ref 200), some (.int x), none, none, none] [] ty h r g Q := by
  refine pv_iconst (v := 0) (by decide) dX12_mean_0 ?_
  refine pv_istore_n (ls' := [some (.ref 200), some (.int x), some (.int 0), none, none]) dX12_mean_1 (by decide) rfl rfl ?_
  refine pv_iconst (v := 0) (by decide) dX12_mean_2 ?_
  refine pv_istore_n (ls' := [some (.ref 200), some (.int x), some (.int 0), some (.int 0), none]) dX12_mean_3 (by decide) rfl rfl ?_
  refine pv_iconst (v := 0) (by decide) dX12_mean_4 ?_
  refine pv_istore (ls' := [some (.ref 200), some (.int x), some (.int 0), some (.int 0), some (.int 0)]) dX12_mean_5 (by decide) rfl rfl ?_
  exact F
set_option maxRecDepth 20000 in
set_option maxHeartbeats 4000000 in
theorem sg_X12_mean_7 {Γ : pv_C} {d kc ks : Nat} {ty : pv_T} {h : pv_H} {r : pv_R} {g : pv_G} {Q : pv_Q} (x1 : Int32) (x2 : Int32) (x3 : Int32) (x4 : Int32) (hL : pv_Lay ty r) (F : (((h 200 19) ≤ x4 → ((¬ x3 = 0 → ¬ x3 = 0 ∧ Q (some (.int (x2 / x3))) ty h r g) ∧ (x3 = 0 → Q (some (.int 0)) ty h r g))) ∧ (¬ (h 200 19) ≤ x4 → vp_in ((31 * x1) + x4) 248 ∧ ((¬ (h 320 (Int32.toNatClampNeg ((31 * x1) + x4))) = 0 → vp_in ((31 * x1) + x4) 248 ∧ pv_E Γ d kc ks mX12_mean 7 [some (.ref 200), some (.int x1), some (.int (x2 + (h 321 (Int32.toNatClampNeg ((31 * x1) + x4))))), some (.int (x3 + 1)), some (.int (x4 + 1))] [] ty h r g Q) ∧ ((h 320 (Int32.toNatClampNeg ((31 * x1) + x4))) = 0 → pv_E Γ d kc ks mX12_mean 7 [some (.ref 200), some (.int x1), some (.int x2), some (.int x3), some (.int (x4 + 1))] [] ty h r g Q))))) : pv_E Γ d kc ks mX12_mean 7 [some (.ref 200), some (.int x1), some (.int x2), some (.int x3), some (.int x4)] [] ty h r g Q := by
  refine pv_iload dX12_mean_7 rfl ?_
  refine pv_aload_n dX12_mean_9 rfl ?_
  refine pv_getI 12 19 dX12_mean_10 fl_X12_211 rfl (lt_200 hL) ?_
  refine pv_icmp_ge (tgt := 58) dX12_mean_13 (by decide) (fun c1 => ?_) (fun c1 => ?_)
  · have F := F.1 c1
    refine pv_iload_n dX12_mean_58 rfl ?_
    refine pv_if_ne (tgt := 66) dX12_mean_59 (by decide) (fun c2 => ?_) (fun c2 => ?_)
    · have F := F.1 c2
      refine pv_iload_n dX12_mean_66 rfl ?_
      refine pv_iload_n dX12_mean_67 rfl ?_
      obtain ⟨q1, F⟩ := F
      refine pv_idiv q1 dX12_mean_68 ?_
      exact pv_ireturn dX12_mean_69 rfl rfl F
    · have F := F.2 c2
      refine pv_iconst (v := 0) (by decide) dX12_mean_62 ?_
      refine pv_goto (tgt := 69) dX12_mean_63 (by decide) ?_
      exact pv_ireturn dX12_mean_69 rfl rfl F
  · have F := F.2 c1
    refine pv_aload_n dX12_mean_16 rfl ?_
    refine pv_getRk 12 20 dX12_mean_17 fl_X12_54 rfl (lt_200 hL) (lr_200_20 hL) ?_
    refine pv_bipush (v := 31) (by decide) dX12_mean_20 ?_
    refine pv_iload_n dX12_mean_22 rfl ?_
    refine pv_imul dX12_mean_23 ?_
    refine pv_iload dX12_mean_24 rfl ?_
    refine pv_pc (pc' := 26) rfl ?_
    refine pv_iadd dX12_mean_26 ?_
    obtain ⟨q2, F⟩ := F
    refine pv_zald dX12_mean_27 (lt_320 hL) q2 ?_
    refine pv_if_ne (tgt := 34) dX12_mean_28 (by decide) (fun c3 => ?_) (fun c3 => ?_)
    · have F := F.1 c3
      refine pv_iload_n dX12_mean_34 rfl ?_
      refine pv_aload_n dX12_mean_35 rfl ?_
      refine pv_getRk 12 21 dX12_mean_36 fl_X12_57 rfl (lt_200 hL) (lr_200_21 hL) ?_
      refine pv_bipush (v := 31) (by decide) dX12_mean_39 ?_
      refine pv_iload_n dX12_mean_41 rfl ?_
      refine pv_imul dX12_mean_42 ?_
      refine pv_pc (pc' := 43) rfl ?_
      refine pv_iload dX12_mean_43 rfl ?_
      refine pv_iadd dX12_mean_45 ?_
      obtain ⟨q3, F⟩ := F
      refine pv_iald dX12_mean_46 (lt_321 hL) q3 ?_
      refine pv_iadd dX12_mean_47 ?_
      refine pv_istore_n (ls' := [some (.ref 200), some (.int x1), some (.int (x2 + (h 321 (Int32.toNatClampNeg ((31 * x1) + x4))))), some (.int x3), some (.int x4)]) dX12_mean_48 (by decide) rfl rfl ?_
      refine pv_iinc (v := x3 + 1) (ls' := [some (.ref 200), some (.int x1), some (.int (x2 + (h 321 (Int32.toNatClampNeg ((31 * x1) + x4))))), some (.int (x3 + 1)), some (.int x4)]) dX12_mean_49 rfl (by rfl) rfl rfl ?_
      refine pv_iinc (v := x4 + 1) (ls' := [some (.ref 200), some (.int x1), some (.int (x2 + (h 321 (Int32.toNatClampNeg ((31 * x1) + x4))))), some (.int (x3 + 1)), some (.int (x4 + 1))]) dX12_mean_52 rfl (by rfl) rfl rfl ?_
      refine pv_goto (tgt := 7) dX12_mean_55 (by decide) ?_
      exact F
    · have F := F.2 c3
      refine pv_goto (tgt := 52) dX12_mean_31 (by decide) ?_
      refine pv_iinc (v := x4 + 1) (ls' := [some (.ref 200), some (.int x1), some (.int x2), some (.int x3), some (.int (x4 + 1))]) dX12_mean_52 rfl (by rfl) rfl rfl ?_
      refine pv_goto (tgt := 7) dX12_mean_55 (by decide) ?_
      exact F
set_option maxRecDepth 20000 in
set_option maxHeartbeats 4000000 in
theorem sg_X12_wearOf_0 {Γ : pv_C} {d kc ks : Nat} {ty : pv_T} {h : pv_H} {r : pv_R} {g : pv_G} {Q : pv_Q} (x : Int32) (y : Int32) (hL : pv_Lay ty r) (F : vp_in x 8 ∧ pv_E Γ d kc ks mX12_wearOf 10 [some (.ref 200), some (.int x), some (.int y), some (.int 0), some (.int (h 322 (Int32.toNatClampNeg x)))] [] ty h r g Q) : pv_E Γ d kc ks mX12_wearOf 0 [some (.ref 200), some (.int x), some (.int y), none, none] [] ty h r g Q := by
  refine pv_iconst (v := 0) (by decide) dX12_wearOf_0 ?_
  refine pv_istore_n (ls' := [some (.ref 200), some (.int x), some (.int y), some (.int 0), none]) dX12_wearOf_1 (by decide) rfl rfl ?_
  refine pv_aload_n dX12_wearOf_2 rfl ?_
  refine pv_getRk 12 22 dX12_wearOf_3 fl_X12_60 rfl (lt_200 hL) (lr_200_22 hL) ?_
  refine pv_iload_n dX12_wearOf_6 rfl ?_
  obtain ⟨q1, F⟩ := F
  refine pv_iald dX12_wearOf_7 (lt_322 hL) q1 ?_
  refine pv_istore (ls' := [some (.ref 200), some (.int x), some (.int y), some (.int 0), some (.int (h 322 (Int32.toNatClampNeg x)))]) dX12_wearOf_8 (by decide) rfl rfl ?_
  exact F
set_option maxRecDepth 20000 in
set_option maxHeartbeats 4000000 in
theorem sg_X12_wearOf_10 {Γ : pv_C} {d kc ks : Nat} {ty : pv_T} {h : pv_H} {r : pv_R} {g : pv_G} {Q : pv_Q} (x1 : Int32) (x2 : Int32) (x3 : Int32) (x4 : Int32) (hd : 1 ≤ d) (hL : pv_Lay ty r) (F : ((x2 ≤ x4 → Q (some (.int x3)) ty h r g) ∧ (¬ x2 ≤ x4 → ((31 ≤ x4 → pv_CT Γ (d - 1) 0 0 mX12_mean [.ref 200, .int x1] ty h r g (fun (v1 : Option Value) (ty1 : pv_T) (h1 : pv_H) (r1 : pv_R) (g1 : pv_G) => ∃ w1 : Int32, v1 = some (.int w1) ∧ pv_Lay ty1 r1 ∧ pv_E Γ d kc ks mX12_wearOf 10 [some (.ref 200), some (.int x1), some (.int x2), some (.int (x3 + w1)), some (.int (x4 + 1))] [] ty1 h1 r1 g1 Q)) ∧ (¬ 31 ≤ x4 → vp_in ((31 * x1) + x4) 248 ∧ (((h 320 (Int32.toNatClampNeg ((31 * x1) + x4))) = 0 → pv_CT Γ (d - 1) 0 0 mX12_mean [.ref 200, .int x1] ty h r g (fun (v2 : Option Value) (ty2 : pv_T) (h2 : pv_H) (r2 : pv_R) (g2 : pv_G) => ∃ w2 : Int32, v2 = some (.int w2) ∧ pv_Lay ty2 r2 ∧ pv_E Γ d kc ks mX12_wearOf 10 [some (.ref 200), some (.int x1), some (.int x2), some (.int (x3 + w2)), some (.int (x4 + 1))] [] ty2 h2 r2 g2 Q)) ∧ (¬ (h 320 (Int32.toNatClampNeg ((31 * x1) + x4))) = 0 → vp_in ((31 * x1) + x4) 248 ∧ pv_E Γ d kc ks mX12_wearOf 10 [some (.ref 200), some (.int x1), some (.int x2), some (.int (x3 + (h 321 (Int32.toNatClampNeg ((31 * x1) + x4))))), some (.int (x4 + 1))] [] ty h r g Q))))))) : pv_E Γ d kc ks mX12_wearOf 10 [some (.ref 200), some (.int x1), some (.int x2), some (.int x3), some (.int x4)] [] ty h r g Q := by
  refine pv_iload dX12_wearOf_10 rfl ?_
  refine pv_iload_n dX12_wearOf_12 rfl ?_
  refine pv_icmp_ge (tgt := 67) dX12_wearOf_13 (by decide) (fun c1 => ?_) (fun c1 => ?_)
  · have F := F.1 c1
    refine pv_iload_n dX12_wearOf_67 rfl ?_
    exact pv_ireturn dX12_wearOf_68 rfl rfl F
  · have F := F.2 c1
    refine pv_iload_n dX12_wearOf_16 rfl ?_
    refine pv_iload dX12_wearOf_17 rfl ?_
    refine pv_bipush (v := 31) (by decide) dX12_wearOf_19 ?_
    refine pv_icmp_ge (tgt := 54) dX12_wearOf_21 (by decide) (fun c2 => ?_) (fun c2 => ?_)
    · have F := F.1 c2
      refine pv_aload_n dX12_wearOf_54 rfl ?_
      refine pv_iload_n dX12_wearOf_55 rfl ?_
      refine pv_invV (As := [.int x1]) (d' := d - 1) dX12_wearOf_56 moX12_mean ml_X12_214 (lt_200 hL) (Or.inl ⟨_, rfl, rfl⟩) (Nat.le_of_ble_eq_true rfl) (by omega) (Nat.zero_le _) (Nat.zero_le _) F (fun v1 ty1 h1 r1 g1 F => ?_) rfl
      obtain ⟨w1, rfl, F⟩ := F
      obtain ⟨hL1, F⟩ := F
      refine pv_pc (pc' := 59) rfl ?_
      show pv_E Γ d kc ks mX12_wearOf 59 [some (.ref 200), some (.int x1), some (.int x2), some (.int x3), some (.int x4)] [.int w1, .int x3] ty1 h1 r1 g1 Q
      refine pv_iadd dX12_wearOf_59 ?_
      refine pv_istore_n (ls' := [some (.ref 200), some (.int x1), some (.int x2), some (.int (x3 + w1)), some (.int x4)]) dX12_wearOf_60 (by decide) rfl rfl ?_
      refine pv_iinc (v := x4 + 1) (ls' := [some (.ref 200), some (.int x1), some (.int x2), some (.int (x3 + w1)), some (.int (x4 + 1))]) dX12_wearOf_61 rfl (by rfl) rfl rfl ?_
      refine pv_goto (tgt := 10) dX12_wearOf_64 (by decide) ?_
      exact F
    · have F := F.2 c2
      refine pv_aload_n dX12_wearOf_24 rfl ?_
      refine pv_getRk 12 20 dX12_wearOf_25 fl_X12_54 rfl (lt_200 hL) (lr_200_20 hL) ?_
      refine pv_bipush (v := 31) (by decide) dX12_wearOf_28 ?_
      refine pv_iload_n dX12_wearOf_30 rfl ?_
      refine pv_imul dX12_wearOf_31 ?_
      refine pv_iload dX12_wearOf_32 rfl ?_
      refine pv_pc (pc' := 34) rfl ?_
      refine pv_iadd dX12_wearOf_34 ?_
      obtain ⟨q1, F⟩ := F
      refine pv_zald dX12_wearOf_35 (lt_320 hL) q1 ?_
      refine pv_if_eq (tgt := 54) dX12_wearOf_36 (by decide) (fun c3 => ?_) (fun c3 => ?_)
      · have F := F.1 c3
        refine pv_aload_n dX12_wearOf_54 rfl ?_
        refine pv_iload_n dX12_wearOf_55 rfl ?_
        refine pv_invV (As := [.int x1]) (d' := d - 1) dX12_wearOf_56 moX12_mean ml_X12_214 (lt_200 hL) (Or.inl ⟨_, rfl, rfl⟩) (Nat.le_of_ble_eq_true rfl) (by omega) (Nat.zero_le _) (Nat.zero_le _) F (fun v2 ty2 h2 r2 g2 F => ?_) rfl
        obtain ⟨w2, rfl, F⟩ := F
        obtain ⟨hL2, F⟩ := F
        refine pv_pc (pc' := 59) rfl ?_
        show pv_E Γ d kc ks mX12_wearOf 59 [some (.ref 200), some (.int x1), some (.int x2), some (.int x3), some (.int x4)] [.int w2, .int x3] ty2 h2 r2 g2 Q
        refine pv_iadd dX12_wearOf_59 ?_
        refine pv_istore_n (ls' := [some (.ref 200), some (.int x1), some (.int x2), some (.int (x3 + w2)), some (.int x4)]) dX12_wearOf_60 (by decide) rfl rfl ?_
        refine pv_iinc (v := x4 + 1) (ls' := [some (.ref 200), some (.int x1), some (.int x2), some (.int (x3 + w2)), some (.int (x4 + 1))]) dX12_wearOf_61 rfl (by rfl) rfl rfl ?_
        refine pv_goto (tgt := 10) dX12_wearOf_64 (by decide) ?_
        exact F
      · have F := F.2 c3
        refine pv_aload_n dX12_wearOf_39 rfl ?_
        refine pv_getRk 12 21 dX12_wearOf_40 fl_X12_57 rfl (lt_200 hL) (lr_200_21 hL) ?_
        refine pv_bipush (v := 31) (by decide) dX12_wearOf_43 ?_
        refine pv_iload_n dX12_wearOf_45 rfl ?_
        refine pv_imul dX12_wearOf_46 ?_
        refine pv_iload dX12_wearOf_47 rfl ?_
        refine pv_pc (pc' := 49) rfl ?_
        refine pv_iadd dX12_wearOf_49 ?_
        obtain ⟨q2, F⟩ := F
        refine pv_iald dX12_wearOf_50 (lt_321 hL) q2 ?_
        refine pv_goto (tgt := 59) dX12_wearOf_51 (by decide) ?_
        refine pv_iadd dX12_wearOf_59 ?_
        refine pv_istore_n (ls' := [some (.ref 200), some (.int x1), some (.int x2), some (.int (x3 + (h 321 (Int32.toNatClampNeg ((31 * x1) + x4))))), some (.int x4)]) dX12_wearOf_60 (by decide) rfl rfl ?_
        refine pv_iinc (v := x4 + 1) (ls' := [some (.ref 200), some (.int x1), some (.int x2), some (.int (x3 + (h 321 (Int32.toNatClampNeg ((31 * x1) + x4))))), some (.int (x4 + 1))]) dX12_wearOf_61 rfl (by rfl) rfl rfl ?_
        refine pv_goto (tgt := 10) dX12_wearOf_64 (by decide) ?_
        exact F
set_option maxRecDepth 20000 in
set_option maxHeartbeats 4000000 in
theorem sg_X8_meanWheels_0 {Γ : pv_C} {d kc ks : Nat} {ty : pv_T} {h : pv_H} {r : pv_R} {g : pv_G} {Q : pv_Q} (a : Nat) (x : Int32) (F : pv_E Γ d kc ks mX8_meanWheels 7 [some (.ref a), some (.int x), some (.int 0), some (.int 0), some (.int 0)] [] ty h r g Q) : pv_E Γ d kc ks mX8_meanWheels 0 [some (.ref a), some (.int x), none, none, none] [] ty h r g Q := by
  refine pv_iconst (v := 0) (by decide) dX8_meanWheels_0 ?_
  refine pv_istore_n (ls' := [some (.ref a), some (.int x), some (.int 0), none, none]) dX8_meanWheels_1 (by decide) rfl rfl ?_
  refine pv_iconst (v := 0) (by decide) dX8_meanWheels_2 ?_
  refine pv_istore_n (ls' := [some (.ref a), some (.int x), some (.int 0), some (.int 0), none]) dX8_meanWheels_3 (by decide) rfl rfl ?_
  refine pv_iconst (v := 0) (by decide) dX8_meanWheels_4 ?_
  refine pv_istore (ls' := [some (.ref a), some (.int x), some (.int 0), some (.int 0), some (.int 0)]) dX8_meanWheels_5 (by decide) rfl rfl ?_
  exact F
set_option maxRecDepth 20000 in
set_option maxHeartbeats 4000000 in
theorem sg_X8_meanWheels_7 {Γ : pv_C} {d kc ks : Nat} {ty : pv_T} {h : pv_H} {r : pv_R} {g : pv_G} {Q : pv_Q} (a0 : Nat) (x1 : Int32) (x2 : Int32) (x3 : Int32) (x4 : Int32) (F : ((x1 ≤ x4 → ((¬ x3 = 0 → ¬ x3 = 0 ∧ Q (some (.int (x2 / x3))) ty h r g) ∧ (x3 = 0 → Q (some (.int 0)) ty h r g))) ∧ (¬ x1 ≤ x4 → ty a0 = some (8, 0) ∧ (∃ k1 n1 : Nat, ty (r a0 4) = some (k1, n1) ∧ (20 ≤ k1 ∧ k1 ≤ 27) ∧ (((nI n1) ≤ x4 → ((¬ x3 = 0 → ¬ x3 = 0 ∧ Q (some (.int (x2 / x3))) ty h r g) ∧ (x3 = 0 → Q (some (.int 0)) ty h r g))) ∧ (¬ (nI n1) ≤ x4 → ty a0 = some (8, 0) ∧ pv_inb ty (r a0 4) 20 x4 ∧ (((h (r a0 4) (Int32.toNatClampNeg x4)) = (-1) → pv_E Γ d kc ks mX8_meanWheels 7 [some (.ref a0), some (.int x1), some (.int x2), some (.int x3), some (.int (x4 + 1))] [] ty h r g Q) ∧ (¬ (h (r a0 4) (Int32.toNatClampNeg x4)) = (-1) → ty a0 = some (8, 0) ∧ pv_inb ty (r a0 4) 20 x4 ∧ pv_E Γ d kc ks mX8_meanWheels 7 [some (.ref a0), some (.int x1), some (.int (x2 + (h (r a0 4) (Int32.toNatClampNeg x4)))), some (.int (x3 + 1)), some (.int (x4 + 1))] [] ty h r g Q)))))))) : pv_E Γ d kc ks mX8_meanWheels 7 [some (.ref a0), some (.int x1), some (.int x2), some (.int x3), some (.int x4)] [] ty h r g Q := by
  refine pv_iload dX8_meanWheels_7 rfl ?_
  refine pv_iload_n dX8_meanWheels_9 rfl ?_
  refine pv_icmp_ge (tgt := 53) dX8_meanWheels_10 (by decide) (fun c1 => ?_) (fun c1 => ?_)
  · have F := F.1 c1
    refine pv_iload_n dX8_meanWheels_53 rfl ?_
    refine pv_if_ne (tgt := 61) dX8_meanWheels_54 (by decide) (fun c2 => ?_) (fun c2 => ?_)
    · have F := F.1 c2
      refine pv_iload_n dX8_meanWheels_61 rfl ?_
      refine pv_iload_n dX8_meanWheels_62 rfl ?_
      obtain ⟨q1, F⟩ := F
      refine pv_idiv q1 dX8_meanWheels_63 ?_
      exact pv_ireturn dX8_meanWheels_64 rfl rfl F
    · have F := F.2 c2
      refine pv_iconst (v := 0) (by decide) dX8_meanWheels_57 ?_
      refine pv_goto (tgt := 64) dX8_meanWheels_58 (by decide) ?_
      exact pv_ireturn dX8_meanWheels_64 rfl rfl F
  · have F := F.2 c1
    refine pv_iload dX8_meanWheels_13 rfl ?_
    refine pv_aload_n dX8_meanWheels_15 rfl ?_
    obtain ⟨q2, F⟩ := F
    refine pv_getR 8 4 dX8_meanWheels_16 fl_X8_31 rfl q2 ?_
    obtain ⟨k1, n1, q3, q3k, F⟩ := F
    refine pv_alen dX8_meanWheels_19 q3 q3k ?_
    refine pv_icmp_ge (tgt := 53) dX8_meanWheels_20 (by decide) (fun c3 => ?_) (fun c3 => ?_)
    · have F := F.1 c3
      refine pv_iload_n dX8_meanWheels_53 rfl ?_
      refine pv_if_ne (tgt := 61) dX8_meanWheels_54 (by decide) (fun c4 => ?_) (fun c4 => ?_)
      · have F := F.1 c4
        refine pv_iload_n dX8_meanWheels_61 rfl ?_
        refine pv_iload_n dX8_meanWheels_62 rfl ?_
        obtain ⟨q4, F⟩ := F
        refine pv_idiv q4 dX8_meanWheels_63 ?_
        exact pv_ireturn dX8_meanWheels_64 rfl rfl F
      · have F := F.2 c4
        refine pv_iconst (v := 0) (by decide) dX8_meanWheels_57 ?_
        refine pv_goto (tgt := 64) dX8_meanWheels_58 (by decide) ?_
        exact pv_ireturn dX8_meanWheels_64 rfl rfl F
    · have F := F.2 c3
      refine pv_aload_n dX8_meanWheels_23 rfl ?_
      obtain ⟨q5, F⟩ := F
      refine pv_getR 8 4 dX8_meanWheels_24 fl_X8_31 rfl q5 ?_
      refine pv_iload dX8_meanWheels_27 rfl ?_
      obtain ⟨q6, F⟩ := F
      obtain ⟨q6n, q6t, q6i⟩ := q6
      refine pv_iald dX8_meanWheels_29 q6t q6i ?_
      refine pv_iconst (v := (-1)) (by decide) dX8_meanWheels_30 ?_
      refine pv_icmp_eq (tgt := 47) dX8_meanWheels_31 (by decide) (fun c5 => ?_) (fun c5 => ?_)
      · have F := F.1 c5
        refine pv_iinc (v := x4 + 1) (ls' := [some (.ref a0), some (.int x1), some (.int x2), some (.int x3), some (.int (x4 + 1))]) dX8_meanWheels_47 rfl (by rfl) rfl rfl ?_
        refine pv_goto (tgt := 7) dX8_meanWheels_50 (by decide) ?_
        exact F
      · have F := F.2 c5
        refine pv_iload_n dX8_meanWheels_34 rfl ?_
        refine pv_aload_n dX8_meanWheels_35 rfl ?_
        obtain ⟨q7, F⟩ := F
        refine pv_getR 8 4 dX8_meanWheels_36 fl_X8_31 rfl q7 ?_
        refine pv_iload dX8_meanWheels_39 rfl ?_
        obtain ⟨q8, F⟩ := F
        obtain ⟨q8n, q8t, q8i⟩ := q8
        refine pv_iald dX8_meanWheels_41 q8t q8i ?_
        refine pv_iadd dX8_meanWheels_42 ?_
        refine pv_istore_n (ls' := [some (.ref a0), some (.int x1), some (.int (x2 + (h (r a0 4) (Int32.toNatClampNeg x4)))), some (.int x3), some (.int x4)]) dX8_meanWheels_43 (by decide) rfl rfl ?_
        refine pv_iinc (v := x3 + 1) (ls' := [some (.ref a0), some (.int x1), some (.int (x2 + (h (r a0 4) (Int32.toNatClampNeg x4)))), some (.int (x3 + 1)), some (.int x4)]) dX8_meanWheels_44 rfl (by rfl) rfl rfl ?_
        refine pv_iinc (v := x4 + 1) (ls' := [some (.ref a0), some (.int x1), some (.int (x2 + (h (r a0 4) (Int32.toNatClampNeg x4)))), some (.int (x3 + 1)), some (.int (x4 + 1))]) dX8_meanWheels_47 rfl (by rfl) rfl rfl ?_
        refine pv_goto (tgt := 7) dX8_meanWheels_50 (by decide) ?_
        exact F
set_option maxRecDepth 20000 in
set_option maxHeartbeats 4000000 in
theorem sg_X8_wearAt_0 {Γ : pv_C} {d kc ks : Nat} {ty : pv_T} {h : pv_H} {r : pv_R} {g : pv_G} {Q : pv_Q} (a : Nat) (x : Int32) (y : Int32) (hd : 1 ≤ d) (F : ty a = some (8, 0) ∧ pv_CT Γ (d - 1) 0 0 mX8_meanWheels [.ref a, .int y] ty h r g (fun (v1 : Option Value) (ty1 : pv_T) (h1 : pv_H) (r1 : pv_R) (g1 : pv_G) => ∃ w1 : Int32, v1 = some (.int w1) ∧ ty1 a = some (8, 0) ∧ pv_E Γ d kc ks mX8_wearAt 15 [some (.ref a), some (.int x), none, some (.int w1), some (.int 0), some (.int (h1 a 5)), none] [] ty1 h1 r1 g1 Q)) : pv_E Γ d kc ks mX8_wearAt 0 [some (.ref a), some (.int x), some (.int y), none, none, none, none] [] ty h r g Q := by
  refine pv_aload_n dX8_wearAt_0 rfl ?_
  refine pv_iload_n dX8_wearAt_1 rfl ?_
  obtain ⟨q1, F⟩ := F
  refine pv_invV (As := [.int y]) (d' := d - 1) dX8_wearAt_2 moX8_meanWheels ml_X8_56 q1 (Or.inl ⟨_, rfl, rfl⟩) (Nat.le_of_ble_eq_true rfl) (by omega) (Nat.zero_le _) (Nat.zero_le _) F (fun v1 ty1 h1 r1 g1 F => ?_) rfl
  obtain ⟨w1, rfl, F⟩ := F
  refine pv_pc (pc' := 5) rfl ?_
  show pv_E Γ d kc ks mX8_wearAt 5 [some (.ref a), some (.int x), some (.int y), none, none, none, none] [.int w1] ty1 h1 r1 g1 Q
  refine pv_istore_n (ls' := [some (.ref a), some (.int x), some (.int y), some (.int w1), none, none, none]) dX8_wearAt_5 (by decide) rfl rfl ?_
  refine pv_iconst (v := 0) (by decide) dX8_wearAt_6 ?_
  refine pv_istore (ls' := [some (.ref a), some (.int x), some (.int y), some (.int w1), some (.int 0), none, none]) dX8_wearAt_7 (by decide) rfl rfl ?_
  refine pv_aload_n dX8_wearAt_9 rfl ?_
  obtain ⟨q2, F⟩ := F
  refine pv_getI 8 5 dX8_wearAt_10 fl_X8_59 rfl q2 ?_
  refine pv_istore (ls' := [some (.ref a), some (.int x), some (.int y), some (.int w1), some (.int 0), some (.int (h1 a 5)), none]) dX8_wearAt_13 (by decide) rfl rfl ?_
  refine pv_forgetL (ls' := [some (.ref a), some (.int x), none, some (.int w1), some (.int 0), some (.int (h1 a 5)), none]) (pv_subL_ok ⟨rfl, ⟨rfl, ⟨rfl, ⟨rfl, ⟨rfl, trivial⟩⟩⟩⟩⟩) ?_
  exact F
set_option maxRecDepth 20000 in
set_option maxHeartbeats 4000000 in
theorem sg_X8_wearAt_15 {Γ : pv_C} {d kc ks : Nat} {ty : pv_T} {h : pv_H} {r : pv_R} {g : pv_G} {Q : pv_Q} (a0 : Nat) (x1 : Int32) (x3 : Int32) (x4 : Int32) (x5 : Int32) (F : ((x1 ≤ x5 → Q (some (.int x4)) ty h r g) ∧ (¬ x1 ≤ x5 → ((x5 < 0 → pv_E Γ d kc ks mX8_wearAt 15 [some (.ref a0), some (.int x1), none, some (.int x3), some (.int (x4 + x3)), some (.int (x5 + 1)), none] [] ty h r g Q) ∧ (¬ x5 < 0 → ty a0 = some (8, 0) ∧ (∃ k1 n1 : Nat, ty (r a0 4) = some (k1, n1) ∧ (20 ≤ k1 ∧ k1 ≤ 27) ∧ (((nI n1) ≤ x5 → pv_E Γ d kc ks mX8_wearAt 15 [some (.ref a0), some (.int x1), none, some (.int x3), some (.int (x4 + x3)), some (.int (x5 + 1)), none] [] ty h r g Q) ∧ (¬ (nI n1) ≤ x5 → ty a0 = some (8, 0) ∧ pv_inb ty (r a0 4) 20 x5 ∧ (((h (r a0 4) (Int32.toNatClampNeg x5)) = (-1) → pv_E Γ d kc ks mX8_wearAt 15 [some (.ref a0), some (.int x1), none, some (.int x3), some (.int (x4 + x3)), some (.int (x5 + 1)), none] [] ty h r g Q) ∧ (¬ (h (r a0 4) (Int32.toNatClampNeg x5)) = (-1) → ty a0 = some (8, 0) ∧ pv_inb ty (r a0 4) 20 x5 ∧ pv_E Γ d kc ks mX8_wearAt 15 [some (.ref a0), some (.int x1), none, some (.int x3), some (.int (x4 + (h (r a0 4) (Int32.toNatClampNeg x5)))), some (.int (x5 + 1)), none] [] ty h r g Q)))))))))) : pv_E Γ d kc ks mX8_wearAt 15 [some (.ref a0), some (.int x1), none, some (.int x3), some (.int x4), some (.int x5), none] [] ty h r g Q := by
  refine pv_iload dX8_wearAt_15 rfl ?_
  refine pv_iload_n dX8_wearAt_17 rfl ?_
  refine pv_icmp_ge (tgt := 81) dX8_wearAt_18 (by decide) (fun c1 => ?_) (fun c1 => ?_)
  · have F := F.1 c1
    refine pv_iload dX8_wearAt_81 rfl ?_
    exact pv_ireturn dX8_wearAt_83 rfl rfl F
  · have F := F.2 c1
    refine pv_iload dX8_wearAt_21 rfl ?_
    refine pv_if_lt (tgt := 51) dX8_wearAt_23 (by decide) (fun c2 => ?_) (fun c2 => ?_)
    · have F := F.1 c2
      refine pv_iconst (v := 0) (by decide) dX8_wearAt_51 ?_
      refine pv_istore (ls' := [some (.ref a0), some (.int x1), none, some (.int x3), some (.int x4), some (.int x5), some (.int 0)]) dX8_wearAt_52 (by decide) rfl rfl ?_
      refine pv_iload dX8_wearAt_54 rfl ?_
      refine pv_iload dX8_wearAt_56 rfl ?_
      refine pv_if_eq (tgt := 71) dX8_wearAt_58 (by decide) (fun c3 => ?_) (fun c3 => absurd c3 (by decide))
      refine pv_iload_n dX8_wearAt_71 rfl ?_
      refine pv_iadd dX8_wearAt_72 ?_
      refine pv_istore (ls' := [some (.ref a0), some (.int x1), none, some (.int x3), some (.int (x4 + x3)), some (.int x5), some (.int 0)]) dX8_wearAt_73 (by decide) rfl rfl ?_
      refine pv_iinc (v := x5 + 1) (ls' := [some (.ref a0), some (.int x1), none, some (.int x3), some (.int (x4 + x3)), some (.int (x5 + 1)), some (.int 0)]) dX8_wearAt_75 rfl (by rfl) rfl rfl ?_
      refine pv_goto (tgt := 15) dX8_wearAt_78 (by decide) ?_
      refine pv_forgetL (ls' := [some (.ref a0), some (.int x1), none, some (.int x3), some (.int (x4 + x3)), some (.int (x5 + 1)), none]) (pv_subL_ok ⟨rfl, ⟨rfl, ⟨rfl, ⟨rfl, ⟨rfl, trivial⟩⟩⟩⟩⟩) ?_
      exact F
    · have F := F.2 c2
      refine pv_iload dX8_wearAt_26 rfl ?_
      refine pv_aload_n dX8_wearAt_28 rfl ?_
      obtain ⟨q1, F⟩ := F
      refine pv_getR 8 4 dX8_wearAt_29 fl_X8_31 rfl q1 ?_
      obtain ⟨k1, n1, q2, q2k, F⟩ := F
      refine pv_alen dX8_wearAt_32 q2 q2k ?_
      refine pv_icmp_ge (tgt := 51) dX8_wearAt_33 (by decide) (fun c4 => ?_) (fun c4 => ?_)
      · have F := F.1 c4
        refine pv_iconst (v := 0) (by decide) dX8_wearAt_51 ?_
        refine pv_istore (ls' := [some (.ref a0), some (.int x1), none, some (.int x3), some (.int x4), some (.int x5), some (.int 0)]) dX8_wearAt_52 (by decide) rfl rfl ?_
        refine pv_iload dX8_wearAt_54 rfl ?_
        refine pv_iload dX8_wearAt_56 rfl ?_
        refine pv_if_eq (tgt := 71) dX8_wearAt_58 (by decide) (fun c5 => ?_) (fun c5 => absurd c5 (by decide))
        refine pv_iload_n dX8_wearAt_71 rfl ?_
        refine pv_iadd dX8_wearAt_72 ?_
        refine pv_istore (ls' := [some (.ref a0), some (.int x1), none, some (.int x3), some (.int (x4 + x3)), some (.int x5), some (.int 0)]) dX8_wearAt_73 (by decide) rfl rfl ?_
        refine pv_iinc (v := x5 + 1) (ls' := [some (.ref a0), some (.int x1), none, some (.int x3), some (.int (x4 + x3)), some (.int (x5 + 1)), some (.int 0)]) dX8_wearAt_75 rfl (by rfl) rfl rfl ?_
        refine pv_goto (tgt := 15) dX8_wearAt_78 (by decide) ?_
        refine pv_forgetL (ls' := [some (.ref a0), some (.int x1), none, some (.int x3), some (.int (x4 + x3)), some (.int (x5 + 1)), none]) (pv_subL_ok ⟨rfl, ⟨rfl, ⟨rfl, ⟨rfl, ⟨rfl, trivial⟩⟩⟩⟩⟩) ?_
        exact F
      · have F := F.2 c4
        refine pv_aload_n dX8_wearAt_36 rfl ?_
        obtain ⟨q3, F⟩ := F
        refine pv_getR 8 4 dX8_wearAt_37 fl_X8_31 rfl q3 ?_
        refine pv_iload dX8_wearAt_40 rfl ?_
        obtain ⟨q4, F⟩ := F
        obtain ⟨q4n, q4t, q4i⟩ := q4
        refine pv_iald dX8_wearAt_42 q4t q4i ?_
        refine pv_iconst (v := (-1)) (by decide) dX8_wearAt_43 ?_
        refine pv_icmp_eq (tgt := 51) dX8_wearAt_44 (by decide) (fun c6 => ?_) (fun c6 => ?_)
        · have F := F.1 c6
          refine pv_iconst (v := 0) (by decide) dX8_wearAt_51 ?_
          refine pv_istore (ls' := [some (.ref a0), some (.int x1), none, some (.int x3), some (.int x4), some (.int x5), some (.int 0)]) dX8_wearAt_52 (by decide) rfl rfl ?_
          refine pv_iload dX8_wearAt_54 rfl ?_
          refine pv_iload dX8_wearAt_56 rfl ?_
          refine pv_if_eq (tgt := 71) dX8_wearAt_58 (by decide) (fun c7 => ?_) (fun c7 => absurd c7 (by decide))
          refine pv_iload_n dX8_wearAt_71 rfl ?_
          refine pv_iadd dX8_wearAt_72 ?_
          refine pv_istore (ls' := [some (.ref a0), some (.int x1), none, some (.int x3), some (.int (x4 + x3)), some (.int x5), some (.int 0)]) dX8_wearAt_73 (by decide) rfl rfl ?_
          refine pv_iinc (v := x5 + 1) (ls' := [some (.ref a0), some (.int x1), none, some (.int x3), some (.int (x4 + x3)), some (.int (x5 + 1)), some (.int 0)]) dX8_wearAt_75 rfl (by rfl) rfl rfl ?_
          refine pv_goto (tgt := 15) dX8_wearAt_78 (by decide) ?_
          refine pv_forgetL (ls' := [some (.ref a0), some (.int x1), none, some (.int x3), some (.int (x4 + x3)), some (.int (x5 + 1)), none]) (pv_subL_ok ⟨rfl, ⟨rfl, ⟨rfl, ⟨rfl, ⟨rfl, trivial⟩⟩⟩⟩⟩) ?_
          exact F
        · have F := F.2 c6
          refine pv_iconst (v := 1) (by decide) dX8_wearAt_47 ?_
          refine pv_goto (tgt := 52) dX8_wearAt_48 (by decide) ?_
          refine pv_istore (ls' := [some (.ref a0), some (.int x1), none, some (.int x3), some (.int x4), some (.int x5), some (.int 1)]) dX8_wearAt_52 (by decide) rfl rfl ?_
          refine pv_iload dX8_wearAt_54 rfl ?_
          refine pv_iload dX8_wearAt_56 rfl ?_
          refine pv_if_eq (tgt := 71) dX8_wearAt_58 (by decide) (fun c8 => absurd c8 (by decide)) (fun c8 => ?_)
          refine pv_aload_n dX8_wearAt_61 rfl ?_
          obtain ⟨q5, F⟩ := F
          refine pv_getR 8 4 dX8_wearAt_62 fl_X8_31 rfl q5 ?_
          refine pv_iload dX8_wearAt_65 rfl ?_
          obtain ⟨q6, F⟩ := F
          obtain ⟨q6n, q6t, q6i⟩ := q6
          refine pv_iald dX8_wearAt_67 q6t q6i ?_
          refine pv_goto (tgt := 72) dX8_wearAt_68 (by decide) ?_
          refine pv_iadd dX8_wearAt_72 ?_
          refine pv_istore (ls' := [some (.ref a0), some (.int x1), none, some (.int x3), some (.int (x4 + (h (r a0 4) (Int32.toNatClampNeg x5)))), some (.int x5), some (.int 1)]) dX8_wearAt_73 (by decide) rfl rfl ?_
          refine pv_iinc (v := x5 + 1) (ls' := [some (.ref a0), some (.int x1), none, some (.int x3), some (.int (x4 + (h (r a0 4) (Int32.toNatClampNeg x5)))), some (.int (x5 + 1)), some (.int 1)]) dX8_wearAt_75 rfl (by rfl) rfl rfl ?_
          refine pv_goto (tgt := 15) dX8_wearAt_78 (by decide) ?_
          refine pv_forgetL (ls' := [some (.ref a0), some (.int x1), none, some (.int x3), some (.int (x4 + (h (r a0 4) (Int32.toNatClampNeg x5)))), some (.int (x5 + 1)), none]) (pv_subL_ok ⟨rfl, ⟨rfl, ⟨rfl, ⟨rfl, ⟨rfl, trivial⟩⟩⟩⟩⟩) ?_
          exact F
section YR
variable {Γ : pv_C} {d kc ks : Nat} {ty : pv_T} {h : pv_H} {r : pv_R} {g : pv_G} {Q : pv_Q} {s T : Nat}
theorem yr_7 (hL : pv_Lay ty r) (hs : s < 8) (hT : T ≤ 30) (hn : h 200 19 = nI T) (hw : ∀ y, y < 31 → ¬ h 320 (31 * s + y) = 0 → ¬ h 321 (31 * s + y) = -1) (hQ : Q (some (.int (mn_v (wT h s) T))) ty h r g) : ∀ (m y : Nat), y + m = T → pv_E Γ d kc ks mX12_mean 7 [some (.ref 200), some (.int (nI s)), some (.int (mn_s (wT h s) y)), some (.int (nI (mn_c (wT h s) y))), some (.int (nI y))] [] ty h r g Q := by
  intro m
  induction m with
  | zero =>
    intro y hy
    refine sg_X12_mean_7 _ _ _ _ hL ?_
    have hc := mn_c_le (wT h s) y
    rw [hn, nI_leI (by omega) (by omega)]
    refine ⟨fun _ => ?_, fun c1 => absurd (by omega) c1⟩
    rw [show y = T by omega] at hc ⊢
    have e0 : nI (mn_c (wT h s) T) = 0 ↔ mn_c (wT h s) T = 0 := by
      rw [show (0 : Int32) = nI 0 from rfl, nI_eq (by omega) (by decide)]
    rw [e0]
    unfold mn_v at hQ
    refine ⟨fun c1 => ⟨c1, ?_⟩, fun c1 => ?_⟩
    · rw [if_neg c1] at hQ; exact hQ
    · rw [if_pos c1] at hQ; exact hQ
  | succ m ih =>
    intro y hy
    refine sg_X12_mean_7 _ _ _ _ hL ?_
    rw [hn, nI_leI (by omega) (by omega), ni_31, nI_clamp (by omega), nI_1, nI_1]
    have hi := ih (y + 1) (by omega)
    have e1 : mn_s (wT h s) (y + 1) = if wT h s y = -1 then mn_s (wT h s) y else mn_s (wT h s) y + wT h s y := rfl
    have e2 : mn_c (wT h s) (y + 1) = if wT h s y = -1 then mn_c (wT h s) y else mn_c (wT h s) y + 1 := rfl
    rw [e1, e2] at hi
    have hv : vp_in (nI (31 * s + y)) 248 := vp_in_nI (by omega) (by decide)
    refine ⟨fun c1 => absurd c1 (by omega), fun _ => ⟨hv, fun c1 => ⟨hv, ?_⟩, fun c1 => ?_⟩⟩
    · have e3 : wT h s y = h 321 (31 * s + y) := by unfold wT; rw [if_neg c1]
      have e4 : ¬ wT h s y = -1 := by rw [e3]; exact hw y (by omega) c1
      rw [if_neg e4, if_neg e4, e3] at hi
      exact hi
    · have e3 : wT h s y = -1 := by unfold wT; rw [if_pos c1]
      rw [if_pos e3, if_pos e3] at hi
      exact hi
theorem ct_X12_mean (hL : pv_Lay ty r) (hs : s < 8) (hT : T ≤ 30) (hn : h 200 19 = nI T) (hw : ∀ y, y < 31 → ¬ h 320 (31 * s + y) = 0 → ¬ h 321 (31 * s + y) = -1) : pv_CT Γ d 0 0 mX12_mean [.ref 200, .int (nI s)] ty h r g (pv_is (.int (mn_v (wT h s) T)) ty h r g) :=
  pv_fn 3 pn_X12 rfl (Nat.le_of_ble_eq_true rfl) (sg_X12_mean_0 _ (yr_7 hL hs hT hn hw (pv_is_refl _ _ _ _ _) T 0 (by omega)))
end YR
