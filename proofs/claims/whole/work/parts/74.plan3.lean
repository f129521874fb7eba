/-! plan: the class's streets of a set -/
set_option maxRecDepth 20000 in
set_option maxHeartbeats 4000000 in
theorem sg_J6_bitCount_0f7a4_0 {Γ : pv_C} {d kc ks : Nat} {ty : pv_T} {h : pv_H} {r : pv_R} {g : pv_G} {Q : pv_Q} (x : Int32) (F : Q (some (.int ((((((((x - (((x.toUInt32 >>> (((1 : Int32)).toUInt32 &&& Int32.toUInt32 31)).toInt32) &&& 1431655765)) &&& 858993459) + ((((x - (((x.toUInt32 >>> (((1 : Int32)).toUInt32 &&& Int32.toUInt32 31)).toInt32) &&& 1431655765)).toUInt32 >>> (((2 : Int32)).toUInt32 &&& Int32.toUInt32 31)).toInt32) &&& 858993459)) + (((((x - (((x.toUInt32 >>> (((1 : Int32)).toUInt32 &&& Int32.toUInt32 31)).toInt32) &&& 1431655765)) &&& 858993459) + ((((x - (((x.toUInt32 >>> (((1 : Int32)).toUInt32 &&& Int32.toUInt32 31)).toInt32) &&& 1431655765)).toUInt32 >>> (((2 : Int32)).toUInt32 &&& Int32.toUInt32 31)).toInt32) &&& 858993459)).toUInt32 >>> (((4 : Int32)).toUInt32 &&& Int32.toUInt32 31)).toInt32)) &&& 252645135) + (((((((x - (((x.toUInt32 >>> (((1 : Int32)).toUInt32 &&& Int32.toUInt32 31)).toInt32) &&& 1431655765)) &&& 858993459) + ((((x - (((x.toUInt32 >>> (((1 : Int32)).toUInt32 &&& Int32.toUInt32 31)).toInt32) &&& 1431655765)).toUInt32 >>> (((2 : Int32)).toUInt32 &&& Int32.toUInt32 31)).toInt32) &&& 858993459)) + (((((x - (((x.toUInt32 >>> (((1 : Int32)).toUInt32 &&& Int32.toUInt32 31)).toInt32) &&& 1431655765)) &&& 858993459) + ((((x - (((x.toUInt32 >>> (((1 : Int32)).toUInt32 &&& Int32.toUInt32 31)).toInt32) &&& 1431655765)).toUInt32 >>> (((2 : Int32)).toUInt32 &&& Int32.toUInt32 31)).toInt32) &&& 858993459)).toUInt32 >>> (((4 : Int32)).toUInt32 &&& Int32.toUInt32 31)).toInt32)) &&& 252645135).toUInt32 >>> (((8 : Int32)).toUInt32 &&& Int32.toUInt32 31)).toInt32)) + ((((((((x - (((x.toUInt32 >>> (((1 : Int32)).toUInt32 &&& Int32.toUInt32 31)).toInt32) &&& 1431655765)) &&& 858993459) + ((((x - (((x.toUInt32 >>> (((1 : Int32)).toUInt32 &&& Int32.toUInt32 31)).toInt32) &&& 1431655765)).toUInt32 >>> (((2 : Int32)).toUInt32 &&& Int32.toUInt32 31)).toInt32) &&& 858993459)) + (((((x - (((x.toUInt32 >>> (((1 : Int32)).toUInt32 &&& Int32.toUInt32 31)).toInt32) &&& 1431655765)) &&& 858993459) + ((((x - (((x.toUInt32 >>> (((1 : Int32)).toUInt32 &&& Int32.toUInt32 31)).toInt32) &&& 1431655765)).toUInt32 >>> (((2 : Int32)).toUInt32 &&& Int32.toUInt32 31)).toInt32) &&& 858993459)).toUInt32 >>> (((4 : Int32)).toUInt32 &&& Int32.toUInt32 31)).toInt32)) &&& 252645135) + (((((((x - (((x.toUInt32 >>> (((1 : Int32)).toUInt32 &&& Int32.toUInt32 31)).toInt32) &&& 1431655765)) &&& 858993459) + ((((x - (((x.toUInt32 >>> (((1 : Int32)).toUInt32 &&& Int32.toUInt32 31)).toInt32) &&& 1431655765)).toUInt32 >>> (((2 : Int32)).toUInt32 &&& Int32.toUInt32 31)).toInt32) &&& 858993459)) + (((((x - (((x.toUInt32 >>> (((1 : Int32)).toUInt32 &&& Int32.toUInt32 31)).toInt32) &&& 1431655765)) &&& 858993459) + ((((x - (((x.toUInt32 >>> (((1 : Int32)).toUInt32 &&& Int32.toUInt32 31)).toInt32) &&& 1431655765)).toUInt32 >>> (((2 : Int32)).toUInt32 &&& Int32.toUInt32 31)).toInt32) &&& 858993459)).toUInt32 >>> (((4 : Int32)).toUInt32 &&& Int32.toUInt32 31)).toInt32)) &&& 252645135).toUInt32 >>> (((8 : Int32)).toUInt32 &&& Int32.toUInt32 31)).toInt32)).toUInt32 >>> (((16 : Int32)).toUInt32 &&& Int32.toUInt32 31)).toInt32)) &&& 63))) ty h r g) : pv_E Γ d kc ks mJ6_bitCount_0f7a4 0 [some (.int x)] [] ty h r g Q := by
  refine pv_iload_n dJ6_bitCount_0f7a4_0 rfl ?_
  refine pv_iload_n dJ6_bitCount_0f7a4_1 rfl ?_
  refine pv_iconst (v := 1) (by decide) dJ6_bitCount_0f7a4_2 ?_
  refine pv_iushr dJ6_bitCount_0f7a4_3 ?_
  refine pv_ldcw (v := 1431655765) dJ6_bitCount_0f7a4_4 kc_J6_265 ?_
  refine pv_iand dJ6_bitCount_0f7a4_7 ?_
  refine pv_pc (pc' := 8) rfl ?_
  refine pv_isub dJ6_bitCount_0f7a4_8 ?_
  refine pv_istore_n (ls' := [some (.int (x - (((x.toUInt32 >>> (((1 : Int32)).toUInt32 &&& Int32.toUInt32 31)).toInt32) &&& 1431655765)))]) dJ6_bitCount_0f7a4_9 (by decide) rfl rfl ?_
  refine pv_iload_n dJ6_bitCount_0f7a4_10 rfl ?_
  refine pv_ldcw (v := 858993459) dJ6_bitCount_0f7a4_11 kc_J6_266 ?_
  refine pv_iand dJ6_bitCount_0f7a4_14 ?_
  refine pv_iload_n dJ6_bitCount_0f7a4_15 rfl ?_
  refine pv_pc (pc' := 16) rfl ?_
  refine pv_iconst (v := 2) (by decide) dJ6_bitCount_0f7a4_16 ?_
  refine pv_iushr dJ6_bitCount_0f7a4_17 ?_
  refine pv_ldcw (v := 858993459) dJ6_bitCount_0f7a4_18 kc_J6_266 ?_
  refine pv_iand dJ6_bitCount_0f7a4_21 ?_
  refine pv_iadd dJ6_bitCount_0f7a4_22 ?_
  refine pv_istore_n (ls' := [some (.int (((x - (((x.toUInt32 >>> (((1 : Int32)).toUInt32 &&& Int32.toUInt32 31)).toInt32) &&& 1431655765)) &&& 858993459) + ((((x - (((x.toUInt32 >>> (((1 : Int32)).toUInt32 &&& Int32.toUInt32 31)).toInt32) &&& 1431655765)).toUInt32 >>> (((2 : Int32)).toUInt32 &&& Int32.toUInt32 31)).toInt32) &&& 858993459)))]) dJ6_bitCount_0f7a4_23 (by decide) rfl rfl ?_
  refine pv_pc (pc' := 24) rfl ?_
  refine pv_iload_n dJ6_bitCount_0f7a4_24 rfl ?_
  refine pv_iload_n dJ6_bitCount_0f7a4_25 rfl ?_
  refine pv_iconst (v := 4) (by decide) dJ6_bitCount_0f7a4_26 ?_
  refine pv_iushr dJ6_bitCount_0f7a4_27 ?_
  refine pv_iadd dJ6_bitCount_0f7a4_28 ?_
  refine pv_ldcw (v := 252645135) dJ6_bitCount_0f7a4_29 kc_J6_267 ?_
  refine pv_pc (pc' := 32) rfl ?_
  refine pv_iand dJ6_bitCount_0f7a4_32 ?_
  refine pv_istore_n (ls' := [some (.int (((((x - (((x.toUInt32 >>> (((1 : Int32)).toUInt32 &&& Int32.toUInt32 31)).toInt32) &&& 1431655765)) &&& 858993459) + ((((x - (((x.toUInt32 >>> (((1 : Int32)).toUInt32 &&& Int32.toUInt32 31)).toInt32) &&& 1431655765)).toUInt32 >>> (((2 : Int32)).toUInt32 &&& Int32.toUInt32 31)).toInt32) &&& 858993459)) + (((((x - (((x.toUInt32 >>> (((1 : Int32)).toUInt32 &&& Int32.toUInt32 31)).toInt32) &&& 1431655765)) &&& 858993459) + ((((x - (((x.toUInt32 >>> (((1 : Int32)).toUInt32 &&& Int32.toUInt32 31)).toInt32) &&& 1431655765)).toUInt32 >>> (((2 : Int32)).toUInt32 &&& Int32.toUInt32 31)).toInt32) &&& 858993459)).toUInt32 >>> (((4 : Int32)).toUInt32 &&& Int32.toUInt32 31)).toInt32)) &&& 252645135))]) dJ6_bitCount_0f7a4_33 (by decide) rfl rfl ?_
  refine pv_iload_n dJ6_bitCount_0f7a4_34 rfl ?_
  refine pv_iload_n dJ6_bitCount_0f7a4_35 rfl ?_
  refine pv_bipush (v := 8) (by decide) dJ6_bitCount_0f7a4_36 ?_
  refine pv_iushr dJ6_bitCount_0f7a4_38 ?_
  refine pv_pc (pc' := 39) rfl ?_
  refine pv_iadd dJ6_bitCount_0f7a4_39 ?_
  refine pv_istore_n (ls' := [some (.int ((((((x - (((x.toUInt32 >>> (((1 : Int32)).toUInt32 &&& Int32.toUInt32 31)).toInt32) &&& 1431655765)) &&& 858993459) + ((((x - (((x.toUInt32 >>> (((1 : Int32)).toUInt32 &&& Int32.toUInt32 31)).toInt32) &&& 1431655765)).toUInt32 >>> (((2 : Int32)).toUInt32 &&& Int32.toUInt32 31)).toInt32) &&& 858993459)) + (((((x - (((x.toUInt32 >>> (((1 : Int32)).toUInt32 &&& Int32.toUInt32 31)).toInt32) &&& 1431655765)) &&& 858993459) + ((((x - (((x.toUInt32 >>> (((1 : Int32)).toUInt32 &&& Int32.toUInt32 31)).toInt32) &&& 1431655765)).toUInt32 >>> (((2 : Int32)).toUInt32 &&& Int32.toUInt32 31)).toInt32) &&& 858993459)).toUInt32 >>> (((4 : Int32)).toUInt32 &&& Int32.toUInt32 31)).toInt32)) &&& 252645135) + (((((((x - (((x.toUInt32 >>> (((1 : Int32)).toUInt32 &&& Int32.toUInt32 31)).toInt32) &&& 1431655765)) &&& 858993459) + ((((x - (((x.toUInt32 >>> (((1 : Int32)).toUInt32 &&& Int32.toUInt32 31)).toInt32) &&& 1431655765)).toUInt32 >>> (((2 : Int32)).toUInt32 &&& Int32.toUInt32 31)).toInt32) &&& 858993459)) + (((((x - (((x.toUInt32 >>> (((1 : Int32)).toUInt32 &&& Int32.toUInt32 31)).toInt32) &&& 1431655765)) &&& 858993459) + ((((x - (((x.toUInt32 >>> (((1 : Int32)).toUInt32 &&& Int32.toUInt32 31)).toInt32) &&& 1431655765)).toUInt32 >>> (((2 : Int32)).toUInt32 &&& Int32.toUInt32 31)).toInt32) &&& 858993459)).toUInt32 >>> (((4 : Int32)).toUInt32 &&& Int32.toUInt32 31)).toInt32)) &&& 252645135).toUInt32 >>> (((8 : Int32)).toUInt32 &&& Int32.toUInt32 31)).toInt32)))]) dJ6_bitCount_0f7a4_40 (by decide) rfl rfl ?_
  refine pv_iload_n dJ6_bitCount_0f7a4_41 rfl ?_
  refine pv_iload_n dJ6_bitCount_0f7a4_42 rfl ?_
  refine pv_bipush (v := 16) (by decide) dJ6_bitCount_0f7a4_43 ?_
  refine pv_iushr dJ6_bitCount_0f7a4_45 ?_
  refine pv_pc (pc' := 46) rfl ?_
  refine pv_iadd dJ6_bitCount_0f7a4_46 ?_
  refine pv_istore_n (ls' := [some (.int (((((((x - (((x.toUInt32 >>> (((1 : Int32)).toUInt32 &&& Int32.toUInt32 31)).toInt32) &&& 1431655765)) &&& 858993459) + ((((x - (((x.toUInt32 >>> (((1 : Int32)).toUInt32 &&& Int32.toUInt32 31)).toInt32) &&& 1431655765)).toUInt32 >>> (((2 : Int32)).toUInt32 &&& Int32.toUInt32 31)).toInt32) &&& 858993459)) + (((((x - (((x.toUInt32 >>> (((1 : Int32)).toUInt32 &&& Int32.toUInt32 31)).toInt32) &&& 1431655765)) &&& 858993459) + ((((x - (((x.toUInt32 >>> (((1 : Int32)).toUInt32 &&& Int32.toUInt32 31)).toInt32) &&& 1431655765)).toUInt32 >>> (((2 : Int32)).toUInt32 &&& Int32.toUInt32 31)).toInt32) &&& 858993459)).toUInt32 >>> (((4 : Int32)).toUInt32 &&& Int32.toUInt32 31)).toInt32)) &&& 252645135) + (((((((x - (((x.toUInt32 >>> (((1 : Int32)).toUInt32 &&& Int32.toUInt32 31)).toInt32) &&& 1431655765)) &&& 858993459) + ((((x - (((x.toUInt32 >>> (((1 : Int32)).toUInt32 &&& Int32.toUInt32 31)).toInt32) &&& 1431655765)).toUInt32 >>> (((2 : Int32)).toUInt32 &&& Int32.toUInt32 31)).toInt32) &&& 858993459)) + (((((x - (((x.toUInt32 >>> (((1 : Int32)).toUInt32 &&& Int32.toUInt32 31)).toInt32) &&& 1431655765)) &&& 858993459) + ((((x - (((x.toUInt32 >>> (((1 : Int32)).toUInt32 &&& Int32.toUInt32 31)).toInt32) &&& 1431655765)).toUInt32 >>> (((2 : Int32)).toUInt32 &&& Int32.toUInt32 31)).toInt32) &&& 858993459)).toUInt32 >>> (((4 : Int32)).toUInt32 &&& Int32.toUInt32 31)).toInt32)) &&& 252645135).toUInt32 >>> (((8 : Int32)).toUInt32 &&& Int32.toUInt32 31)).toInt32)) + ((((((((x - (((x.toUInt32 >>> (((1 : Int32)).toUInt32 &&& Int32.toUInt32 31)).toInt32) &&& 1431655765)) &&& 858993459) + ((((x - (((x.toUInt32 >>> (((1 : Int32)).toUInt32 &&& Int32.toUInt32 31)).toInt32) &&& 1431655765)).toUInt32 >>> (((2 : Int32)).toUInt32 &&& Int32.toUInt32 31)).toInt32) &&& 858993459)) + (((((x - (((x.toUInt32 >>> (((1 : Int32)).toUInt32 &&& Int32.toUInt32 31)).toInt32) &&& 1431655765)) &&& 858993459) + ((((x - (((x.toUInt32 >>> (((1 : Int32)).toUInt32 &&& Int32.toUInt32 31)).toInt32) &&& 1431655765)).toUInt32 >>> (((2 : Int32)).toUInt32 &&& Int32.toUInt32 31)).toInt32) &&& 858993459)).toUInt32 >>> (((4 : Int32)).toUInt32 &&& Int32.toUInt32 31)).toInt32)) &&& 252645135) + (((((((x - (((x.toUInt32 >>> (((1 : Int32)).toUInt32 &&& Int32.toUInt32 31)).toInt32) &&& 1431655765)) &&& 858993459) + ((((x - (((x.toUInt32 >>> (((1 : Int32)).toUInt32 &&& Int32.toUInt32 31)).toInt32) &&& 1431655765)).toUInt32 >>> (((2 : Int32)).toUInt32 &&& Int32.toUInt32 31)).toInt32) &&& 858993459)) + (((((x - (((x.toUInt32 >>> (((1 : Int32)).toUInt32 &&& Int32.toUInt32 31)).toInt32) &&& 1431655765)) &&& 858993459) + ((((x - (((x.toUInt32 >>> (((1 : Int32)).toUInt32 &&& Int32.toUInt32 31)).toInt32) &&& 1431655765)).toUInt32 >>> (((2 : Int32)).toUInt32 &&& Int32.toUInt32 31)).toInt32) &&& 858993459)).toUInt32 >>> (((4 : Int32)).toUInt32 &&& Int32.toUInt32 31)).toInt32)) &&& 252645135).toUInt32 >>> (((8 : Int32)).toUInt32 &&& Int32.toUInt32 31)).toInt32)).toUInt32 >>> (((16 : Int32)).toUInt32 &&& Int32.toUInt32 31)).toInt32)))]) dJ6_bitCount_0f7a4_47 (by decide) rfl rfl ?_
  refine pv_iload_n dJ6_bitCount_0f7a4_48 rfl ?_
  refine pv_bipush (v := 63) (by decide) dJ6_bitCount_0f7a4_49 ?_
  refine pv_iand dJ6_bitCount_0f7a4_51 ?_
  exact pv_ireturn dJ6_bitCount_0f7a4_52 rfl rfl F
set_option maxRecDepth 20000 in
set_option maxHeartbeats 4000000 in
theorem sg_X8_costIn_0 {Γ : pv_C} {d kc ks : Nat} {ty : pv_T} {h : pv_H} {r : pv_R} {g : pv_G} {Q : pv_Q} (a : Nat) (x : Int32) (F : ty a = some (8, 0) ∧ ((¬ x = (h a 8) → ty a = some (8, 0) ∧ Q (some (.int (h a 6))) ty h r g) ∧ (x = (h a 8) → ty a = some (8, 0) ∧ ty a = some (8, 0) ∧ Q (some (.int ((h a 6) - (h a 7)))) ty h r g))) : pv_E Γ d kc ks mX8_costIn 0 [some (.ref a), some (.int x)] [] ty h r g Q := by
  refine pv_iload_n dX8_costIn_0 rfl ?_
  refine pv_aload_n dX8_costIn_1 rfl ?_
  obtain ⟨q1, F⟩ := F
  refine pv_getI 8 8 dX8_costIn_2 fl_X8_62 rfl q1 ?_
  refine pv_icmp_ne (tgt := 20) dX8_costIn_5 (by decide) (fun c1 => ?_) (fun c1 => ?_)
  · have F := F.1 c1
    refine pv_aload_n dX8_costIn_20 rfl ?_
    obtain ⟨q2, F⟩ := F
    refine pv_getI 8 6 dX8_costIn_21 fl_X8_65 rfl q2 ?_
    exact pv_ireturn dX8_costIn_24 rfl rfl F
  · have F := F.2 c1
    refine pv_aload_n dX8_costIn_8 rfl ?_
    obtain ⟨q3, F⟩ := F
    refine pv_getI 8 6 dX8_costIn_9 fl_X8_65 rfl q3 ?_
    refine pv_aload_n dX8_costIn_12 rfl ?_
    obtain ⟨q4, F⟩ := F
    refine pv_getI 8 7 dX8_costIn_13 fl_X8_68 rfl q4 ?_
    refine pv_isub dX8_costIn_16 ?_
    refine pv_goto (tgt := 24) dX8_costIn_17 (by decide) ?_
    exact pv_ireturn dX8_costIn_24 rfl rfl F
set_option maxRecDepth 20000 in
set_option maxHeartbeats 4000000 in
theorem sg_X12_costOf_0 {Γ : pv_C} {d kc ks : Nat} {ty : pv_T} {h : pv_H} {r : pv_R} {g : pv_G} {Q : pv_Q} (x : Int32) (y : Int32) (hL : pv_Lay ty r) (F : vp_in x 8 ∧ vp_in x 8 ∧ ((¬ (h 325 (Int32.toNatClampNeg x)) = y → Q (some (.int ((h 323 (Int32.toNatClampNeg x)) - 0))) ty h r g) ∧ ((h 325 (Int32.toNatClampNeg x)) = y → vp_in x 8 ∧ Q (some (.int ((h 323 (Int32.toNatClampNeg x)) - (h 324 (Int32.toNatClampNeg x))))) ty h r g))) : pv_E Γ d kc ks mX12_costOf 0 [some (.ref 200), some (.int x), some (.int y)] [] ty h r g Q := by
  refine pv_aload_n dX12_costOf_0 rfl ?_
  refine pv_getRk 12 23 dX12_costOf_1 fl_X12_63 rfl (lt_200 hL) (lr_200_23 hL) ?_
  refine pv_iload_n dX12_costOf_4 rfl ?_
  obtain ⟨q1, F⟩ := F
  refine pv_iald dX12_costOf_5 (lt_323 hL) q1 ?_
  refine pv_aload_n dX12_costOf_6 rfl ?_
  refine pv_getRk 12 25 dX12_costOf_7 fl_X12_69 rfl (lt_200 hL) (lr_200_25 hL) ?_
  refine pv_iload_n dX12_costOf_10 rfl ?_
  obtain ⟨q2, F⟩ := F
  refine pv_iald dX12_costOf_11 (lt_325 hL) q2 ?_
  refine pv_iload_n dX12_costOf_12 rfl ?_
  refine pv_icmp_ne (tgt := 25) dX12_costOf_13 (by decide) (fun c1 => ?_) (fun c1 => ?_)
  · have F := F.1 c1
    refine pv_iconst (v := 0) (by decide) dX12_costOf_25 ?_
    refine pv_isub dX12_costOf_26 ?_
    exact pv_ireturn dX12_costOf_27 rfl rfl F
  · have F := F.2 c1
    refine pv_aload_n dX12_costOf_16 rfl ?_
    refine pv_getRk 12 24 dX12_costOf_17 fl_X12_66 rfl (lt_200 hL) (lr_200_24 hL) ?_
    refine pv_iload_n dX12_costOf_20 rfl ?_
    obtain ⟨q3, F⟩ := F
    refine pv_iald dX12_costOf_21 (lt_324 hL) q3 ?_
    refine pv_goto (tgt := 26) dX12_costOf_22 (by decide) ?_
    refine pv_isub dX12_costOf_26 ?_
    exact pv_ireturn dX12_costOf_27 rfl rfl F
set_option maxRecDepth 20000 in
set_option maxHeartbeats 4000000 in
theorem sg_X7_begin_0 {Γ : pv_C} {d kc ks : Nat} {ty : pv_T} {h : pv_H} {r : pv_R} {g : pv_G} {Q : pv_Q} (x : Int32) (y : Int32) (z : Int32) (u : Int32) (hL : pv_Lay ty r) (F : (∀ h1 : pv_H, h1 = pv_up h 60 8 x → vp_in 0 3 ∧ (∀ h2 : pv_H, h2 = pv_up h1 64 (Int32.toNatClampNeg 0) y → vp_in 1 3 ∧ (∀ h3 : pv_H, h3 = pv_up h2 64 (Int32.toNatClampNeg 1) z → vp_in 2 3 ∧ (∀ h4 : pv_H, h4 = pv_up h3 64 (Int32.toNatClampNeg 2) u → (∀ h5 : pv_H, h5 = pv_up h4 60 7 0 → (∀ h6 : pv_H, h6 = pv_up h5 60 9 (-1) → (∀ h7 : pv_H, h7 = pv_up h6 60 10 0 → Q none ty h7 r g)))))))) : pv_E Γ d kc ks mX7_begin 0 [some (.ref 60), some (.int x), some (.int y), some (.int z), some (.int u)] [] ty h r g Q := by
  refine pv_aload_n dX7_begin_0 rfl ?_
  refine pv_iload_n dX7_begin_1 rfl ?_
  obtain ⟨h1, eh1⟩ : ∃ h1 : pv_H, h1 = pv_up h 60 8 x := ⟨_, rfl⟩
  have F := F h1 eh1
  refine pv_putI 7 8 dX7_begin_2 fl_X7_39 ⟨_, rfl, Or.inl rfl⟩ (Or.inl rfl) (lt_60 hL) ?_
  refine pv_hE eh1 ?_
  refine pv_aload_n dX7_begin_5 rfl ?_
  refine pv_getRk 7 3 dX7_begin_6 fl_X7_21 rfl (lt_60 hL) (lr_60_3 hL) ?_
  refine pv_iconst (v := 0) (by decide) dX7_begin_9 ?_
  refine pv_iload_n dX7_begin_10 rfl ?_
  obtain ⟨q1, F⟩ := F
  obtain ⟨h2, eh2⟩ : ∃ h2 : pv_H, h2 = pv_up h1 64 (Int32.toNatClampNeg 0) y := ⟨_, rfl⟩
  have F := F h2 eh2
  refine pv_iast dX7_begin_11 (lt_64 hL) (by decide) q1 ?_
  refine pv_hE eh2 ?_
  refine pv_aload_n dX7_begin_12 rfl ?_
  refine pv_getRk 7 3 dX7_begin_13 fl_X7_21 rfl (lt_60 hL) (lr_60_3 hL) ?_
  refine pv_iconst (v := 1) (by decide) dX7_begin_16 ?_
  refine pv_iload_n dX7_begin_17 rfl ?_
  obtain ⟨q2, F⟩ := F
  obtain ⟨h3, eh3⟩ : ∃ h3 : pv_H, h3 = pv_up h2 64 (Int32.toNatClampNeg 1) z := ⟨_, rfl⟩
  have F := F h3 eh3
  refine pv_iast dX7_begin_18 (lt_64 hL) (by decide) q2 ?_
  refine pv_hE eh3 ?_
  refine pv_aload_n dX7_begin_19 rfl ?_
  refine pv_getRk 7 3 dX7_begin_20 fl_X7_21 rfl (lt_60 hL) (lr_60_3 hL) ?_
  refine pv_iconst (v := 2) (by decide) dX7_begin_23 ?_
  refine pv_iload dX7_begin_24 rfl ?_
  obtain ⟨q3, F⟩ := F
  obtain ⟨h4, eh4⟩ : ∃ h4 : pv_H, h4 = pv_up h3 64 (Int32.toNatClampNeg 2) u := ⟨_, rfl⟩
  have F := F h4 eh4
  refine pv_iast dX7_begin_26 (lt_64 hL) (by decide) q3 ?_
  refine pv_hE eh4 ?_
  refine pv_aload_n dX7_begin_27 rfl ?_
  refine pv_iconst (v := 0) (by decide) dX7_begin_28 ?_
  obtain ⟨h5, eh5⟩ : ∃ h5 : pv_H, h5 = pv_up h4 60 7 0 := ⟨_, rfl⟩
  have F := F h5 eh5
  refine pv_putI 7 7 dX7_begin_29 fl_X7_43 ⟨_, rfl, Or.inl rfl⟩ (Or.inl rfl) (lt_60 hL) ?_
  refine pv_hE eh5 ?_
  refine pv_aload_n dX7_begin_32 rfl ?_
  refine pv_iconst (v := (-1)) (by decide) dX7_begin_33 ?_
  obtain ⟨h6, eh6⟩ : ∃ h6 : pv_H, h6 = pv_up h5 60 9 (-1) := ⟨_, rfl⟩
  have F := F h6 eh6
  refine pv_putI 7 9 dX7_begin_34 fl_X7_46 ⟨_, rfl, Or.inl rfl⟩ (Or.inl rfl) (lt_60 hL) ?_
  refine pv_hE eh6 ?_
  refine pv_aload_n dX7_begin_37 rfl ?_
  refine pv_iconst (v := 0) (by decide) dX7_begin_38 ?_
  obtain ⟨h7, eh7⟩ : ∃ h7 : pv_H, h7 = pv_up h6 60 10 0 := ⟨_, rfl⟩
  have F := F h7 eh7
  refine pv_putI 7 10 dX7_begin_39 fl_X7_49 ⟨_, rfl, Or.inl rfl⟩ (Or.inl rfl) (lt_60 hL) ?_
  refine pv_hE eh7 ?_
  exact pv_return dX7_begin_42 rfl F
set_option maxRecDepth 20000 in
set_option maxHeartbeats 4000000 in
theorem sg_X7_join_0 {Γ : pv_C} {d kc ks : Nat} {ty : pv_T} {h : pv_H} {r : pv_R} {g : pv_G} {Q : pv_Q} (x : Int32) (y : Nat) (z : Int32) (hL : pv_Lay ty r) (F : (((h 60 7) < 6 → vp_in (h 60 7) 6 ∧ (∀ h1 : pv_H, h1 = pv_up h 61 (Int32.toNatClampNeg (h 60 7)) x → pv_E Γ d kc ks mX7_join 23 [some (.ref 60), none, some (.ref y), some (.int z), some (.int 0)] [] ty h1 r g Q)) ∧ (¬ (h 60 7) < 6 → Q none ty h r g))) : pv_E Γ d kc ks mX7_join 0 [some (.ref 60), some (.int x), some (.ref y), some (.int z), none] [] ty h r g Q := by
  refine pv_aload_n dX7_join_0 rfl ?_
  refine pv_getI 7 7 dX7_join_1 fl_X7_43 rfl (lt_60 hL) ?_
  refine pv_bipush (v := 6) (by decide) dX7_join_4 ?_
  refine pv_icmp_lt (tgt := 10) dX7_join_6 (by decide) (fun c1 => ?_) (fun c1 => ?_)
  · have F := F.1 c1
    refine pv_aload_n dX7_join_10 rfl ?_
    refine pv_getRk 7 0 dX7_join_11 fl_X7_9 rfl (lt_60 hL) (lr_60_0 hL) ?_
    refine pv_aload_n dX7_join_14 rfl ?_
    refine pv_getI 7 7 dX7_join_15 fl_X7_43 rfl (lt_60 hL) ?_
    refine pv_iload_n dX7_join_18 rfl ?_
    obtain ⟨q1, F⟩ := F
    obtain ⟨h1, eh1⟩ : ∃ h1 : pv_H, h1 = pv_up h 61 (Int32.toNatClampNeg (h 60 7)) x := ⟨_, rfl⟩
    have F := F h1 eh1
    refine pv_iast dX7_join_19 (lt_61 hL) (by decide) q1 ?_
    refine pv_hE eh1 ?_
    refine pv_iconst (v := 0) (by decide) dX7_join_20 ?_
    refine pv_istore (ls' := [some (.ref 60), some (.int x), some (.ref y), some (.int z), some (.int 0)]) dX7_join_21 (by decide) rfl rfl ?_
    refine pv_forgetL (ls' := [some (.ref 60), none, some (.ref y), some (.int z), some (.int 0)]) (pv_subL_ok ⟨rfl, ⟨rfl, ⟨rfl, ⟨rfl, trivial⟩⟩⟩⟩) ?_
    exact F
  · have F := F.2 c1
    exact pv_return dX7_join_9 rfl F
set_option maxRecDepth 20000 in
set_option maxHeartbeats 4000000 in
theorem sg_X7_join_23 {Γ : pv_C} {d kc ks : Nat} {ty : pv_T} {h : pv_H} {r : pv_R} {g : pv_G} {Q : pv_Q} (a2 : Nat) (x3 : Int32) (x4 : Int32) (hd : 1 ≤ d) (hL : pv_Lay ty r) (F : (((h 60 8) ≤ x4 → (∀ h1 : pv_H, h1 = pv_up h 60 7 ((h 60 7) + 1) → Q none ty h1 r g)) ∧ (¬ (h 60 8) ≤ x4 → ty a2 = some (8, 0) ∧ pv_CT Γ (d - 1) 0 0 mX8_wearAt [.ref a2, .int (x3 + x4), .int x3] ty h r g (fun (v1 : Option Value) (ty1 : pv_T) (h2 : pv_H) (r1 : pv_R) (g1 : pv_G) => ∃ w1 : Int32, v1 = some (.int w1) ∧ pv_Lay ty1 r1 ∧ vp_in (((h 60 7) * 3) + x4) 18 ∧ (∀ h3 : pv_H, h3 = pv_up h2 62 (Int32.toNatClampNeg (((h 60 7) * 3) + x4)) w1 → ty1 a2 = some (8, 0) ∧ pv_CT Γ (d - 1) 0 0 mX8_costIn [.ref a2, .int (x3 + x4)] ty1 h3 r1 g1 (fun (v2 : Option Value) (ty2 : pv_T) (h4 : pv_H) (r2 : pv_R) (g2 : pv_G) => ∃ w2 : Int32, v2 = some (.int w2) ∧ pv_Lay ty2 r2 ∧ vp_in (((h3 60 7) * 3) + x4) 18 ∧ (∀ h5 : pv_H, h5 = pv_up h4 63 (Int32.toNatClampNeg (((h3 60 7) * 3) + x4)) w2 → pv_E Γ d kc ks mX7_join 23 [some (.ref 60), none, some (.ref a2), some (.int x3), some (.int (x4 + 1))] [] ty2 h5 r2 g2 Q))))))) : pv_E Γ d kc ks mX7_join 23 [some (.ref 60), none, some (.ref a2), some (.int x3), some (.int x4)] [] ty h r g Q := by
  refine pv_iload dX7_join_23 rfl ?_
  refine pv_aload_n dX7_join_25 rfl ?_
  refine pv_getI 7 8 dX7_join_26 fl_X7_39 rfl (lt_60 hL) ?_
  refine pv_icmp_ge (tgt := 83) dX7_join_29 (by decide) (fun c1 => ?_) (fun c1 => ?_)
  · have F := F.1 c1
    refine pv_aload_n dX7_join_83 rfl ?_
    refine pv_dup rfl dX7_join_84 ?_
    refine pv_getI 7 7 dX7_join_85 fl_X7_43 rfl (lt_60 hL) ?_
    refine pv_iconst (v := 1) (by decide) dX7_join_88 ?_
    refine pv_iadd dX7_join_89 ?_
    obtain ⟨h1, eh1⟩ : ∃ h1 : pv_H, h1 = pv_up h 60 7 ((h 60 7) + 1) := ⟨_, rfl⟩
    have F := F h1 eh1
    refine pv_putI 7 7 dX7_join_90 fl_X7_43 ⟨_, rfl, Or.inl rfl⟩ (Or.inl rfl) (lt_60 hL) ?_
    refine pv_hE eh1 ?_
    exact pv_return dX7_join_93 rfl F
  · have F := F.2 c1
    refine pv_aload_n dX7_join_32 rfl ?_
    refine pv_getRk 7 1 dX7_join_33 fl_X7_15 rfl (lt_60 hL) (lr_60_1 hL) ?_
    refine pv_aload_n dX7_join_36 rfl ?_
    refine pv_getI 7 7 dX7_join_37 fl_X7_43 rfl (lt_60 hL) ?_
    refine pv_iconst (v := 3) (by decide) dX7_join_40 ?_
    refine pv_imul dX7_join_41 ?_
    refine pv_pc (pc' := 42) rfl ?_
    refine pv_iload dX7_join_42 rfl ?_
    refine pv_iadd dX7_join_44 ?_
    refine pv_aload_n dX7_join_45 rfl ?_
    refine pv_iload_n dX7_join_46 rfl ?_
    refine pv_iload dX7_join_47 rfl ?_
    refine pv_iadd dX7_join_49 ?_
    refine pv_pc (pc' := 50) rfl ?_
    refine pv_iload_n dX7_join_50 rfl ?_
    obtain ⟨q1, F⟩ := F
    refine pv_invV (As := [.int (x3 + x4), .int x3]) (d' := d - 1) dX7_join_51 moX8_wearAt ml_X7_52 q1 (Or.inl ⟨_, rfl, rfl⟩) (Nat.le_of_ble_eq_true rfl) (by omega) (Nat.zero_le _) (Nat.zero_le _) F (fun v1 ty1 h2 r1 g1 F => ?_) rfl
    obtain ⟨w1, rfl, F⟩ := F
    obtain ⟨hL1, F⟩ := F
    refine pv_pc (pc' := 54) rfl ?_
    show pv_E Γ d kc ks mX7_join 54 [some (.ref 60), none, some (.ref a2), some (.int x3), some (.int x4)] [.int w1, .int (((h 60 7) * 3) + x4), .ref 62] ty1 h2 r1 g1 Q
    obtain ⟨q2, F⟩ := F
    obtain ⟨h3, eh3⟩ : ∃ h3 : pv_H, h3 = pv_up h2 62 (Int32.toNatClampNeg (((h 60 7) * 3) + x4)) w1 := ⟨_, rfl⟩
    have F := F h3 eh3
    refine pv_iast dX7_join_54 (lt_62 hL1) (by decide) q2 ?_
    refine pv_hE eh3 ?_
    refine pv_aload_n dX7_join_55 rfl ?_
    refine pv_getRk 7 2 dX7_join_56 fl_X7_18 rfl (lt_60 hL1) (lr_60_2 hL1) ?_
    refine pv_aload_n dX7_join_59 rfl ?_
    refine pv_getI 7 7 dX7_join_60 fl_X7_43 rfl (lt_60 hL1) ?_
    refine pv_iconst (v := 3) (by decide) dX7_join_63 ?_
    refine pv_imul dX7_join_64 ?_
    refine pv_pc (pc' := 65) rfl ?_
    refine pv_iload dX7_join_65 rfl ?_
    refine pv_iadd dX7_join_67 ?_
    refine pv_aload_n dX7_join_68 rfl ?_
    refine pv_iload_n dX7_join_69 rfl ?_
    refine pv_iload dX7_join_70 rfl ?_
    refine pv_iadd dX7_join_72 ?_
    refine pv_pc (pc' := 73) rfl ?_
    obtain ⟨q3, F⟩ := F
    refine pv_invV (As := [.int (x3 + x4)]) (d' := d - 1) dX7_join_73 moX8_costIn ml_X7_58 q3 (Or.inl ⟨_, rfl, rfl⟩) (Nat.le_of_ble_eq_true rfl) (by omega) (Nat.zero_le _) (Nat.zero_le _) F (fun v2 ty2 h4 r2 g2 F => ?_) rfl
    obtain ⟨w2, rfl, F⟩ := F
    obtain ⟨hL2, F⟩ := F
    refine pv_pc (pc' := 76) rfl ?_
    show pv_E Γ d kc ks mX7_join 76 [some (.ref 60), none, some (.ref a2), some (.int x3), some (.int x4)] [.int w2, .int (((h3 60 7) * 3) + x4), .ref 63] ty2 h4 r2 g2 Q
    obtain ⟨q4, F⟩ := F
    obtain ⟨h5, eh5⟩ : ∃ h5 : pv_H, h5 = pv_up h4 63 (Int32.toNatClampNeg (((h3 60 7) * 3) + x4)) w2 := ⟨_, rfl⟩
    have F := F h5 eh5
    refine pv_iast dX7_join_76 (lt_63 hL2) (by decide) q4 ?_
    refine pv_hE eh5 ?_
    refine pv_iinc (v := x4 + 1) (ls' := [some (.ref 60), none, some (.ref a2), some (.int x3), some (.int (x4 + 1))]) dX7_join_77 rfl (by rfl) rfl rfl ?_
    refine pv_goto (tgt := 23) dX7_join_80 (by decide) ?_
    exact F
set_option maxRecDepth 20000 in
set_option maxHeartbeats 4000000 in
theorem sg_X7_findBest_0 {Γ : pv_C} {d kc ks : Nat} {ty : pv_T} {h : pv_H} {r : pv_R} {g : pv_G} {Q : pv_Q} (x : Int32) (hd : 1 ≤ d) (hL : pv_Lay ty r) (F : pv_CW Γ (d - 1) mX7_tryFrom [.ref 60, .int 0, .int 0, .int 0] ty h r g (fun (h1 : pv_H) => pv_CW Γ (d - 1) mJ7_fill_53178 [.ref 67, .int (-1)] ty h1 r g (fun (h2 : pv_H) => pv_E Γ d kc ks mX7_findBest 17 [some (.ref 60), some (.int x), some (.int 0)] [] ty h2 r g Q))) : pv_E Γ d kc ks mX7_findBest 0 [some (.ref 60), some (.int x), none] [] ty h r g Q := by
  refine pv_aload_n dX7_findBest_0 rfl ?_
  refine pv_iconst (v := 0) (by decide) dX7_findBest_1 ?_
  refine pv_iconst (v := 0) (by decide) dX7_findBest_2 ?_
  refine pv_iconst (v := 0) (by decide) dX7_findBest_3 ?_
  refine pv_invV (As := [.int 0, .int 0, .int 0]) (d' := d - 1) dX7_findBest_4 moX7_tryFrom ml_X7_62 (lt_60 hL) (Or.inl ⟨_, rfl, rfl⟩) (Nat.le_of_ble_eq_true rfl) (by omega) (Nat.zero_le _) (Nat.zero_le _) F (fun v ty' h1 r' g' hq => ?_) rfl
  obtain ⟨e2, e4, e5, e1, F⟩ := hq
  rw [e1, e2, e4, e5]
  refine pv_pc (pc' := 7) rfl ?_
  show pv_E Γ d kc ks mX7_findBest 7 [some (.ref 60), some (.int x), none] [] ty h1 r g Q
  refine pv_aload_n dX7_findBest_7 rfl ?_
  refine pv_getRk 7 6 dX7_findBest_8 fl_X7_30 rfl (lt_60 hL) (lr_60_6 hL) ?_
  refine pv_iconst (v := (-1)) (by decide) dX7_findBest_11 ?_
  refine pv_invS (As := [.ref 67, .int (-1)]) (d' := d - 1) dX7_findBest_12 moJ7_fill_53178 ml_X7_33 (Nat.le_of_ble_eq_true rfl) (by omega) (Nat.zero_le _) (Nat.zero_le _) F (fun v ty' h2 r' g' hq => ?_) rfl
  obtain ⟨e2, e4, e5, e1, F⟩ := hq
  rw [e1, e2, e4, e5]
  refine pv_pc (pc' := 15) rfl ?_
  show pv_E Γ d kc ks mX7_findBest 15 [some (.ref 60), some (.int x), none] [] ty h2 r g Q
  refine pv_iconst (v := 0) (by decide) dX7_findBest_15 ?_
  refine pv_istore_n (ls' := [some (.ref 60), some (.int x), some (.int 0)]) dX7_findBest_16 (by decide) rfl rfl ?_
  exact F
set_option maxRecDepth 20000 in
set_option maxHeartbeats 4000000 in
theorem sg_X7_findBest_17 {Γ : pv_C} {d kc ks : Nat} {ty : pv_T} {h : pv_H} {r : pv_R} {g : pv_G} {Q : pv_Q} (x1 : Int32) (x2 : Int32) (hL : pv_Lay ty r) (F : (((h 60 7) ≤ x2 → Q (some (.int (h 60 9))) ty h r g) ∧ (¬ (h 60 7) ≤ x2 → vp_in x2 6 ∧ vp_in x2 6 ∧ ((¬ (h 66 (Int32.toNatClampNeg x2)) = (h 60 8) → vp_in x2 6 ∧ vp_in (h 61 (Int32.toNatClampNeg x2)) 8 ∧ (∀ h1 : pv_H, h1 = pv_up h 67 (Int32.toNatClampNeg (h 61 (Int32.toNatClampNeg x2))) (x1 + (h 66 (Int32.toNatClampNeg x2))) → pv_E Γ d kc ks mX7_findBest 17 [some (.ref 60), some (.int x1), some (.int (x2 + 1))] [] ty h1 r g Q)) ∧ ((h 66 (Int32.toNatClampNeg x2)) = (h 60 8) → vp_in (h 61 (Int32.toNatClampNeg x2)) 8 ∧ (∀ h2 : pv_H, h2 = pv_up h 67 (Int32.toNatClampNeg (h 61 (Int32.toNatClampNeg x2))) (-2) → pv_E Γ d kc ks mX7_findBest 17 [some (.ref 60), some (.int x1), some (.int (x2 + 1))] [] ty h2 r g Q)))))) : pv_E Γ d kc ks mX7_findBest 17 [some (.ref 60), some (.int x1), some (.int x2)] [] ty h r g Q := by
  refine pv_iload_n dX7_findBest_17 rfl ?_
  refine pv_aload_n dX7_findBest_18 rfl ?_
  refine pv_getI 7 7 dX7_findBest_19 fl_X7_43 rfl (lt_60 hL) ?_
  refine pv_icmp_ge (tgt := 68) dX7_findBest_22 (by decide) (fun c1 => ?_) (fun c1 => ?_)
  · have F := F.1 c1
    refine pv_aload_n dX7_findBest_68 rfl ?_
    refine pv_getI 7 9 dX7_findBest_69 fl_X7_46 rfl (lt_60 hL) ?_
    exact pv_ireturn dX7_findBest_72 rfl rfl F
  · have F := F.2 c1
    refine pv_aload_n dX7_findBest_25 rfl ?_
    refine pv_getRk 7 6 dX7_findBest_26 fl_X7_30 rfl (lt_60 hL) (lr_60_6 hL) ?_
    refine pv_aload_n dX7_findBest_29 rfl ?_
    refine pv_getRk 7 0 dX7_findBest_30 fl_X7_9 rfl (lt_60 hL) (lr_60_0 hL) ?_
    refine pv_iload_n dX7_findBest_33 rfl ?_
    obtain ⟨q1, F⟩ := F
    refine pv_iald dX7_findBest_34 (lt_61 hL) q1 ?_
    refine pv_aload_n dX7_findBest_35 rfl ?_
    refine pv_getRk 7 5 dX7_findBest_36 fl_X7_27 rfl (lt_60 hL) (lr_60_5 hL) ?_
    refine pv_iload_n dX7_findBest_39 rfl ?_
    obtain ⟨q2, F⟩ := F
    refine pv_iald dX7_findBest_40 (lt_66 hL) q2 ?_
    refine pv_aload_n dX7_findBest_41 rfl ?_
    refine pv_getI 7 8 dX7_findBest_42 fl_X7_39 rfl (lt_60 hL) ?_
    refine pv_icmp_ne (tgt := 53) dX7_findBest_45 (by decide) (fun c2 => ?_) (fun c2 => ?_)
    · have F := F.1 c2
      refine pv_iload_n dX7_findBest_53 rfl ?_
      refine pv_aload_n dX7_findBest_54 rfl ?_
      refine pv_getRk 7 5 dX7_findBest_55 fl_X7_27 rfl (lt_60 hL) (lr_60_5 hL) ?_
      refine pv_iload_n dX7_findBest_58 rfl ?_
      obtain ⟨q3, F⟩ := F
      refine pv_iald dX7_findBest_59 (lt_66 hL) q3 ?_
      refine pv_iadd dX7_findBest_60 ?_
      obtain ⟨q4, F⟩ := F
      obtain ⟨h1, eh1⟩ : ∃ h1 : pv_H, h1 = pv_up h 67 (Int32.toNatClampNeg (h 61 (Int32.toNatClampNeg x2))) (x1 + (h 66 (Int32.toNatClampNeg x2))) := ⟨_, rfl⟩
      have F := F h1 eh1
      refine pv_iast dX7_findBest_61 (lt_67 hL) (by decide) q4 ?_
      refine pv_hE eh1 ?_
      refine pv_iinc (v := x2 + 1) (ls' := [some (.ref 60), some (.int x1), some (.int (x2 + 1))]) dX7_findBest_62 rfl (by rfl) rfl rfl ?_
      refine pv_goto (tgt := 17) dX7_findBest_65 (by decide) ?_
      exact F
    · have F := F.2 c2
      refine pv_bipush (v := (-2)) (by decide) dX7_findBest_48 ?_
      refine pv_goto (tgt := 61) dX7_findBest_50 (by decide) ?_
      obtain ⟨q5, F⟩ := F
      obtain ⟨h2, eh2⟩ : ∃ h2 : pv_H, h2 = pv_up h 67 (Int32.toNatClampNeg (h 61 (Int32.toNatClampNeg x2))) (-2) := ⟨_, rfl⟩
      have F := F h2 eh2
      refine pv_iast dX7_findBest_61 (lt_67 hL) (by decide) q5 ?_
      refine pv_hE eh2 ?_
      refine pv_iinc (v := x2 + 1) (ls' := [some (.ref 60), some (.int x1), some (.int (x2 + 1))]) dX7_findBest_62 rfl (by rfl) rfl rfl ?_
      refine pv_goto (tgt := 17) dX7_findBest_65 (by decide) ?_
      exact F
set_option maxRecDepth 20000 in
set_option maxHeartbeats 4000000 in
theorem sg_X7_yearOf_0 {Γ : pv_C} {d kc ks : Nat} {ty : pv_T} {h : pv_H} {r : pv_R} {g : pv_G} {Q : pv_Q} (x : Int32) (hL : pv_Lay ty r) (F : ((x < 0 → Q (some (.int (-1))) ty h r g) ∧ (¬ x < 0 → (((nI 8) ≤ x → Q (some (.int (-1))) ty h r g) ∧ (¬ (nI 8) ≤ x → vp_in x 8 ∧ Q (some (.int (h 67 (Int32.toNatClampNeg x)))) ty h r g))))) : pv_E Γ d kc ks mX7_yearOf 0 [some (.ref 60), some (.int x)] [] ty h r g Q := by
  refine pv_iload_n dX7_yearOf_0 rfl ?_
  refine pv_if_lt (tgt := 22) dX7_yearOf_1 (by decide) (fun c1 => ?_) (fun c1 => ?_)
  · have F := F.1 c1
    refine pv_iconst (v := (-1)) (by decide) dX7_yearOf_22 ?_
    exact pv_ireturn dX7_yearOf_23 rfl rfl F
  · have F := F.2 c1
    refine pv_iload_n dX7_yearOf_4 rfl ?_
    refine pv_aload_n dX7_yearOf_5 rfl ?_
    refine pv_getRk 7 6 dX7_yearOf_6 fl_X7_30 rfl (lt_60 hL) (lr_60_6 hL) ?_
    refine pv_alen dX7_yearOf_9 (lt_67 hL) (by decide) ?_
    refine pv_icmp_ge (tgt := 22) dX7_yearOf_10 (by decide) (fun c2 => ?_) (fun c2 => ?_)
    · have F := F.1 c2
      refine pv_iconst (v := (-1)) (by decide) dX7_yearOf_22 ?_
      exact pv_ireturn dX7_yearOf_23 rfl rfl F
    · have F := F.2 c2
      refine pv_aload_n dX7_yearOf_13 rfl ?_
      refine pv_getRk 7 6 dX7_yearOf_14 fl_X7_30 rfl (lt_60 hL) (lr_60_6 hL) ?_
      refine pv_iload_n dX7_yearOf_17 rfl ?_
      obtain ⟨q1, F⟩ := F
      refine pv_iald dX7_yearOf_18 (lt_67 hL) q1 ?_
      refine pv_goto (tgt := 23) dX7_yearOf_19 (by decide) ?_
      exact pv_ireturn dX7_yearOf_23 rfl rfl F
set_option maxRecDepth 20000 in
set_option maxHeartbeats 4000000 in
theorem sg_X11_isPlanSet_0 {Γ : pv_C} {d kc ks : Nat} {ty : pv_T} {h : pv_H} {r : pv_R} {g : pv_G} {Q : pv_Q} (x : Int32) (hd : 1 ≤ d) (hL : pv_Lay ty r) (F : ((x < 0 → Q (some (.int 0)) ty h r g) ∧ (¬ x < 0 → ((¬ (x >>> ((h 100 1) &&& 31)) = 0 → Q (some (.int 0)) ty h r g) ∧ ((x >>> ((h 100 1) &&& 31)) = 0 → pv_CT Γ (d - 1) 0 0 mJ6_bitCount_0f7a4 [.int x] ty h r g (fun (v1 : Option Value) (ty1 : pv_T) (h1 : pv_H) (r1 : pv_R) (g1 : pv_G) => ∃ w1 : Int32, v1 = some (.int w1) ∧ pv_Lay ty1 r1 ∧ ((¬ (pf_b (1 ≤ w1 ∧ w1 ≤ 6)) = 0 → pv_E Γ d kc ks mX11_isPlanSet 30 [some (.ref 100), some (.int x), some (.int 0), none] [] ty1 h1 r1 g1 Q) ∧ ((pf_b (1 ≤ w1 ∧ w1 ≤ 6)) = 0 → Q (some (.int 0)) ty1 h1 r1 g1)))))))) : pv_E Γ d kc ks mX11_isPlanSet 0 [some (.ref 100), some (.int x), none, none] [] ty h r g Q := by
  refine pv_iload_n dX11_isPlanSet_0 rfl ?_
  refine pv_if_lt (tgt := 26) dX11_isPlanSet_1 (by decide) (fun c1 => ?_) (fun c1 => ?_)
  · have F := F.1 c1
    refine pv_iconst (v := 0) (by decide) dX11_isPlanSet_26 ?_
    exact pv_ireturn dX11_isPlanSet_27 rfl (by decide) F
  · have F := F.2 c1
    refine pv_iload_n dX11_isPlanSet_4 rfl ?_
    refine pv_aload_n dX11_isPlanSet_5 rfl ?_
    refine pv_getI 11 1 dX11_isPlanSet_6 fl_X11_73 rfl (lt_100 hL) ?_
    refine pv_ishr dX11_isPlanSet_9 ?_
    refine pv_if_ne (tgt := 26) dX11_isPlanSet_10 (by decide) (fun c2 => ?_) (fun c2 => ?_)
    · have F := F.1 c2
      refine pv_iconst (v := 0) (by decide) dX11_isPlanSet_26 ?_
      exact pv_ireturn dX11_isPlanSet_27 rfl (by decide) F
    · have F := F.2 c2
      refine pv_iload_n dX11_isPlanSet_13 rfl ?_
      refine pv_invS (As := [.int x]) (d' := d - 1) dX11_isPlanSet_14 moJ6_bitCount_0f7a4 ml_X11_306 (Nat.le_of_ble_eq_true rfl) (by omega) (Nat.zero_le _) (Nat.zero_le _) F (fun v1 ty1 h1 r1 g1 F => ?_) rfl
      obtain ⟨w1, rfl, F⟩ := F
      obtain ⟨hL1, F⟩ := F
      refine pv_pc (pc' := 17) rfl ?_
      show pv_E Γ d kc ks mX11_isPlanSet 17 [some (.ref 100), some (.int x), none, none] [.int w1] ty1 h1 r1 g1 Q
      refine pv_iconst (v := 1) (by decide) dX11_isPlanSet_17 ?_
      refine pv_bipush (v := 6) (by decide) dX11_isPlanSet_18 ?_
      refine pv_invS (As := [.int w1, .int 1, .int 6]) (d' := d - 1) dX11_isPlanSet_20 moX11_within ml_X11_69 (Nat.le_of_ble_eq_true rfl) (by omega) (Nat.zero_le _) (Nat.zero_le _) (ct_X11_within (by omega)) (fun v ty' h' r' g' hq => ?_) rfl
      obtain ⟨e1, e2, e3, e4, e5⟩ := hq
      rw [e1, e2, e3, e4, e5]
      refine pv_pc (pc' := 23) rfl ?_
      show pv_E Γ d kc ks mX11_isPlanSet 23 [some (.ref 100), some (.int x), none, none] [.int (pf_b (1 ≤ w1 ∧ w1 ≤ 6))] ty1 h1 r1 g1 Q
      refine pv_if_ne (tgt := 28) dX11_isPlanSet_23 (by decide) (fun c3 => ?_) (fun c3 => ?_)
      · have F := F.1 c3
        refine pv_iconst (v := 0) (by decide) dX11_isPlanSet_28 ?_
        refine pv_istore_n (ls' := [some (.ref 100), some (.int x), some (.int 0), none]) dX11_isPlanSet_29 (by decide) rfl rfl ?_
        exact F
      · have F := F.2 c3
        refine pv_iconst (v := 0) (by decide) dX11_isPlanSet_26 ?_
        exact pv_ireturn dX11_isPlanSet_27 rfl (by decide) F
set_option maxRecDepth 20000 in
set_option maxHeartbeats 4000000 in
theorem sg_X11_isPlanSet_30 {Γ : pv_C} {d kc ks : Nat} {ty : pv_T} {h : pv_H} {r : pv_R} {g : pv_G} {Q : pv_Q} (x1 : Int32) (x2 : Int32) (hL : pv_Lay ty r) (F : (((h 100 1) ≤ x2 → Q (some (.int 1)) ty h r g) ∧ (¬ (h 100 1) ≤ x2 → vp_in x2 8 ∧ ((¬ ((x1 >>> (x2 &&& 31)) &&& 1) = 1 → pv_E Γ d kc ks mX11_isPlanSet 30 [some (.ref 100), some (.int x1), some (.int (x2 + 1)), none] [] ty h r g Q) ∧ (((x1 >>> (x2 &&& 31)) &&& 1) = 1 → (((r 110 (Int32.toNatClampNeg x2)) = 0 → Q (some (.int 0)) ty h r g) ∧ (¬ (r 110 (Int32.toNatClampNeg x2)) = 0 → ty (r 110 (Int32.toNatClampNeg x2)) = some (8, 0) ∧ ((¬ (h (r 110 (Int32.toNatClampNeg x2)) 6) = 0 → pv_E Γ d kc ks mX11_isPlanSet 30 [some (.ref 100), some (.int x1), some (.int (x2 + 1)), none] [] ty h r g Q) ∧ ((h (r 110 (Int32.toNatClampNeg x2)) 6) = 0 → Q (some (.int 0)) ty h r g))))))))) : pv_E Γ d kc ks mX11_isPlanSet 30 [some (.ref 100), some (.int x1), some (.int x2), none] [] ty h r g Q := by
  refine pv_iload_n dX11_isPlanSet_30 rfl ?_
  refine pv_aload_n dX11_isPlanSet_31 rfl ?_
  refine pv_getI 11 1 dX11_isPlanSet_32 fl_X11_73 rfl (lt_100 hL) ?_
  refine pv_icmp_ge (tgt := 73) dX11_isPlanSet_35 (by decide) (fun c1 => ?_) (fun c1 => ?_)
  · have F := F.1 c1
    refine pv_iconst (v := 1) (by decide) dX11_isPlanSet_73 ?_
    exact pv_ireturn dX11_isPlanSet_74 rfl (by decide) F
  · have F := F.2 c1
    refine pv_aload_n dX11_isPlanSet_38 rfl ?_
    refine pv_getRk 11 0 dX11_isPlanSet_39 fl_X11_11 rfl (lt_100 hL) (lr_100_0 hL) ?_
    refine pv_iload_n dX11_isPlanSet_42 rfl ?_
    obtain ⟨q1, F⟩ := F
    refine pv_aald dX11_isPlanSet_43 (lt_110 hL) (by decide) q1 ?_
    refine pv_astore_n (ls' := [some (.ref 100), some (.int x1), some (.int x2), some (.ref (r 110 (Int32.toNatClampNeg x2)))]) dX11_isPlanSet_44 (by decide) rfl rfl ?_
    refine pv_iload_n dX11_isPlanSet_45 rfl ?_
    refine pv_iload_n dX11_isPlanSet_46 rfl ?_
    refine pv_ishr dX11_isPlanSet_47 ?_
    refine pv_iconst (v := 1) (by decide) dX11_isPlanSet_48 ?_
    refine pv_iand dX11_isPlanSet_49 ?_
    refine pv_pc (pc' := 50) rfl ?_
    refine pv_iconst (v := 1) (by decide) dX11_isPlanSet_50 ?_
    refine pv_icmp_ne (tgt := 67) dX11_isPlanSet_51 (by decide) (fun c2 => ?_) (fun c2 => ?_)
    · have F := F.1 c2
      refine pv_iinc (v := x2 + 1) (ls' := [some (.ref 100), some (.int x1), some (.int (x2 + 1)), some (.ref (r 110 (Int32.toNatClampNeg x2)))]) dX11_isPlanSet_67 rfl (by rfl) rfl rfl ?_
      refine pv_goto (tgt := 30) dX11_isPlanSet_70 (by decide) ?_
      refine pv_forgetL (ls' := [some (.ref 100), some (.int x1), some (.int (x2 + 1)), none]) (pv_subL_ok ⟨rfl, ⟨rfl, ⟨rfl, trivial⟩⟩⟩) ?_
      exact F
    · have F := F.2 c2
      refine pv_aload_n dX11_isPlanSet_54 rfl ?_
      refine pv_ifnull (tgt := 65) dX11_isPlanSet_55 (by decide) (fun c3 => ?_) (fun c3 => ?_)
      · have F := F.1 c3
        refine pv_iconst (v := 0) (by decide) dX11_isPlanSet_65 ?_
        exact pv_ireturn dX11_isPlanSet_66 rfl (by decide) F
      · have F := F.2 c3
        refine pv_aload_n dX11_isPlanSet_58 rfl ?_
        obtain ⟨q2, F⟩ := F
        refine pv_getI 8 6 dX11_isPlanSet_59 fl_X11_151 rfl q2 ?_
        refine pv_if_ne (tgt := 67) dX11_isPlanSet_62 (by decide) (fun c4 => ?_) (fun c4 => ?_)
        · have F := F.1 c4
          refine pv_iinc (v := x2 + 1) (ls' := [some (.ref 100), some (.int x1), some (.int (x2 + 1)), some (.ref (r 110 (Int32.toNatClampNeg x2)))]) dX11_isPlanSet_67 rfl (by rfl) rfl rfl ?_
          refine pv_goto (tgt := 30) dX11_isPlanSet_70 (by decide) ?_
          refine pv_forgetL (ls' := [some (.ref 100), some (.int x1), some (.int (x2 + 1)), none]) (pv_subL_ok ⟨rfl, ⟨rfl, ⟨rfl, trivial⟩⟩⟩) ?_
          exact F
        · have F := F.2 c4
          refine pv_iconst (v := 0) (by decide) dX11_isPlanSet_65 ?_
          exact pv_ireturn dX11_isPlanSet_66 rfl (by decide) F
set_option maxRecDepth 20000 in
set_option maxHeartbeats 4000000 in
theorem sg_X11_plan_0 {Γ : pv_C} {d kc ks : Nat} {ty : pv_T} {h : pv_H} {r : pv_R} {g : pv_G} {Q : pv_Q} (x : Int32) (y : Int32) (z : Int32) (u : Int32) (t : Int32) (hd : 1 ≤ d) (hL : pv_Lay ty r) (F : pv_CT Γ (d - 1) 0 0 mX11_isPlanSet [.ref 100, .int x] ty h r g (fun (v1 : Option Value) (ty1 : pv_T) (h1 : pv_H) (r1 : pv_R) (g1 : pv_G) => ∃ w1 : Int32, v1 = some (.int w1) ∧ pv_Lay ty1 r1 ∧ ((w1 = 0 → Q (some (.int (-1))) ty1 h1 r1 g1) ∧ (¬ w1 = 0 → (((pf_b (1 ≤ y ∧ y ≤ 3)) = 0 → Q (some (.int (-1))) ty1 h1 r1 g1) ∧ (¬ (pf_b (1 ≤ y ∧ y ≤ 3)) = 0 → (((pf_b (0 ≤ z ∧ z ≤ 99999)) = 0 → Q (some (.int (-1))) ty1 h1 r1 g1) ∧ (¬ (pf_b (0 ≤ z ∧ z ≤ 99999)) = 0 → ((y < 2 → (((pf_b (0 ≤ u ∧ u ≤ 0)) = 0 → Q (some (.int (-1))) ty1 h1 r1 g1) ∧ (¬ (pf_b (0 ≤ u ∧ u ≤ 0)) = 0 → ((y < 3 → ((¬ (pf_b (0 ≤ t ∧ t ≤ 0)) = 0 → pv_CW Γ (d - 1) mX7_begin [.ref 60, .int y, .int z, .int u, .int t] ty1 h1 r1 g1 (fun (h2 : pv_H) => pv_E Γ d kc ks mX11_plan 85 [some (.ref 100), some (.int x), none, none, none, none, some (.int 0), none] [] ty1 h2 r1 g1 Q)) ∧ ((pf_b (0 ≤ t ∧ t ≤ 0)) = 0 → Q (some (.int (-1))) ty1 h1 r1 g1))) ∧ (¬ y < 3 → ((¬ (pf_b (0 ≤ t ∧ t ≤ 99999)) = 0 → pv_CW Γ (d - 1) mX7_begin [.ref 60, .int y, .int z, .int u, .int t] ty1 h1 r1 g1 (fun (h3 : pv_H) => pv_E Γ d kc ks mX11_plan 85 [some (.ref 100), some (.int x), none, none, none, none, some (.int 0), none] [] ty1 h3 r1 g1 Q)) ∧ ((pf_b (0 ≤ t ∧ t ≤ 99999)) = 0 → Q (some (.int (-1))) ty1 h1 r1 g1))))))) ∧ (¬ y < 2 → (((pf_b (0 ≤ u ∧ u ≤ 99999)) = 0 → Q (some (.int (-1))) ty1 h1 r1 g1) ∧ (¬ (pf_b (0 ≤ u ∧ u ≤ 99999)) = 0 → ((y < 3 → ((¬ (pf_b (0 ≤ t ∧ t ≤ 0)) = 0 → pv_CW Γ (d - 1) mX7_begin [.ref 60, .int y, .int z, .int u, .int t] ty1 h1 r1 g1 (fun (h4 : pv_H) => pv_E Γ d kc ks mX11_plan 85 [some (.ref 100), some (.int x), none, none, none, none, some (.int 0), none] [] ty1 h4 r1 g1 Q)) ∧ ((pf_b (0 ≤ t ∧ t ≤ 0)) = 0 → Q (some (.int (-1))) ty1 h1 r1 g1))) ∧ (¬ y < 3 → ((¬ (pf_b (0 ≤ t ∧ t ≤ 99999)) = 0 → pv_CW Γ (d - 1) mX7_begin [.ref 60, .int y, .int z, .int u, .int t] ty1 h1 r1 g1 (fun (h5 : pv_H) => pv_E Γ d kc ks mX11_plan 85 [some (.ref 100), some (.int x), none, none, none, none, some (.int 0), none] [] ty1 h5 r1 g1 Q)) ∧ ((pf_b (0 ≤ t ∧ t ≤ 99999)) = 0 → Q (some (.int (-1))) ty1 h1 r1 g1)))))))))))))))) : pv_E Γ d kc ks mX11_plan 0 [some (.ref 100), some (.int x), some (.int y), some (.int z), some (.int u), some (.int t), none, none] [] ty h r g Q := by
  refine pv_aload_n dX11_plan_0 rfl ?_
  refine pv_iload_n dX11_plan_1 rfl ?_
  refine pv_invV (As := [.int x]) (d' := d - 1) dX11_plan_2 moX11_isPlanSet ml_X11_160 (lt_100 hL) (Or.inl ⟨_, rfl, rfl⟩) (Nat.le_of_ble_eq_true rfl) (by omega) (Nat.zero_le _) (Nat.zero_le _) F (fun v1 ty1 h1 r1 g1 F => ?_) rfl
  obtain ⟨w1, rfl, F⟩ := F
  obtain ⟨hL1, F⟩ := F
  refine pv_pc (pc' := 5) rfl ?_
  show pv_E Γ d kc ks mX11_plan 5 [some (.ref 100), some (.int x), some (.int y), some (.int z), some (.int u), some (.int t), none, none] [.int w1] ty1 h1 r1 g1 Q
  refine pv_if_eq (tgt := 67) dX11_plan_5 (by decide) (fun c1 => ?_) (fun c1 => ?_)
  · have F := F.1 c1
    refine pv_iconst (v := (-1)) (by decide) dX11_plan_67 ?_
    exact pv_ireturn dX11_plan_68 rfl rfl F
  · have F := F.2 c1
    refine pv_iload_n dX11_plan_8 rfl ?_
    refine pv_iconst (v := 1) (by decide) dX11_plan_9 ?_
    refine pv_iconst (v := 3) (by decide) dX11_plan_10 ?_
    refine pv_invS (As := [.int y, .int 1, .int 3]) (d' := d - 1) dX11_plan_11 moX11_within ml_X11_69 (Nat.le_of_ble_eq_true rfl) (by omega) (Nat.zero_le _) (Nat.zero_le _) (ct_X11_within (by omega)) (fun v ty' h' r' g' hq => ?_) rfl
    obtain ⟨e1, e2, e3, e4, e5⟩ := hq
    rw [e1, e2, e3, e4, e5]
    refine pv_pc (pc' := 14) rfl ?_
    show pv_E Γ d kc ks mX11_plan 14 [some (.ref 100), some (.int x), some (.int y), some (.int z), some (.int u), some (.int t), none, none] [.int (pf_b (1 ≤ y ∧ y ≤ 3))] ty1 h1 r1 g1 Q
    refine pv_if_eq (tgt := 67) dX11_plan_14 (by decide) (fun c2 => ?_) (fun c2 => ?_)
    · have F := F.1 c2
      refine pv_iconst (v := (-1)) (by decide) dX11_plan_67 ?_
      exact pv_ireturn dX11_plan_68 rfl rfl F
    · have F := F.2 c2
      refine pv_iload_n dX11_plan_17 rfl ?_
      refine pv_iconst (v := 0) (by decide) dX11_plan_18 ?_
      refine pv_ldc (v := 99999) dX11_plan_19 kc_X11_164 ?_
      refine pv_invS (As := [.int z, .int 0, .int 99999]) (d' := d - 1) dX11_plan_21 moX11_within ml_X11_69 (Nat.le_of_ble_eq_true rfl) (by omega) (Nat.zero_le _) (Nat.zero_le _) (ct_X11_within (by omega)) (fun v ty' h' r' g' hq => ?_) rfl
      obtain ⟨e1, e2, e3, e4, e5⟩ := hq
      rw [e1, e2, e3, e4, e5]
      refine pv_pc (pc' := 24) rfl ?_
      show pv_E Γ d kc ks mX11_plan 24 [some (.ref 100), some (.int x), some (.int y), some (.int z), some (.int u), some (.int t), none, none] [.int (pf_b (0 ≤ z ∧ z ≤ 99999))] ty1 h1 r1 g1 Q
      refine pv_if_eq (tgt := 67) dX11_plan_24 (by decide) (fun c3 => ?_) (fun c3 => ?_)
      · have F := F.1 c3
        refine pv_iconst (v := (-1)) (by decide) dX11_plan_67 ?_
        exact pv_ireturn dX11_plan_68 rfl rfl F
      · have F := F.2 c3
        refine pv_iload dX11_plan_27 rfl ?_
        refine pv_iconst (v := 0) (by decide) dX11_plan_29 ?_
        refine pv_iload_n dX11_plan_30 rfl ?_
        refine pv_iconst (v := 2) (by decide) dX11_plan_31 ?_
        refine pv_icmp_lt (tgt := 40) dX11_plan_32 (by decide) (fun c4 => ?_) (fun c4 => ?_)
        · have F := F.1 c4
          refine pv_iconst (v := 0) (by decide) dX11_plan_40 ?_
          refine pv_invS (As := [.int u, .int 0, .int 0]) (d' := d - 1) dX11_plan_41 moX11_within ml_X11_69 (Nat.le_of_ble_eq_true rfl) (by omega) (Nat.zero_le _) (Nat.zero_le _) (ct_X11_within (by omega)) (fun v ty' h' r' g' hq => ?_) rfl
          obtain ⟨e1, e2, e3, e4, e5⟩ := hq
          rw [e1, e2, e3, e4, e5]
          refine pv_pc (pc' := 44) rfl ?_
          show pv_E Γ d kc ks mX11_plan 44 [some (.ref 100), some (.int x), some (.int y), some (.int z), some (.int u), some (.int t), none, none] [.int (pf_b (0 ≤ u ∧ u ≤ 0))] ty1 h1 r1 g1 Q
          refine pv_if_eq (tgt := 67) dX11_plan_44 (by decide) (fun c5 => ?_) (fun c5 => ?_)
          · have F := F.1 c5
            refine pv_iconst (v := (-1)) (by decide) dX11_plan_67 ?_
            exact pv_ireturn dX11_plan_68 rfl rfl F
          · have F := F.2 c5
            refine pv_iload dX11_plan_47 rfl ?_
            refine pv_iconst (v := 0) (by decide) dX11_plan_49 ?_
            refine pv_iload_n dX11_plan_50 rfl ?_
            refine pv_iconst (v := 3) (by decide) dX11_plan_51 ?_
            refine pv_icmp_lt (tgt := 60) dX11_plan_52 (by decide) (fun c6 => ?_) (fun c6 => ?_)
            · have F := F.1 c6
              refine pv_iconst (v := 0) (by decide) dX11_plan_60 ?_
              refine pv_invS (As := [.int t, .int 0, .int 0]) (d' := d - 1) dX11_plan_61 moX11_within ml_X11_69 (Nat.le_of_ble_eq_true rfl) (by omega) (Nat.zero_le _) (Nat.zero_le _) (ct_X11_within (by omega)) (fun v ty' h' r' g' hq => ?_) rfl
              obtain ⟨e1, e2, e3, e4, e5⟩ := hq
              rw [e1, e2, e3, e4, e5]
              refine pv_pc (pc' := 64) rfl ?_
              show pv_E Γ d kc ks mX11_plan 64 [some (.ref 100), some (.int x), some (.int y), some (.int z), some (.int u), some (.int t), none, none] [.int (pf_b (0 ≤ t ∧ t ≤ 0))] ty1 h1 r1 g1 Q
              refine pv_if_ne (tgt := 69) dX11_plan_64 (by decide) (fun c7 => ?_) (fun c7 => ?_)
              · have F := F.1 c7
                refine pv_aload_n dX11_plan_69 rfl ?_
                refine pv_getRk 11 6 dX11_plan_70 fl_X11_39 rfl (lt_100 hL1) (lr_100_6 hL1) ?_
                refine pv_iload_n dX11_plan_73 rfl ?_
                refine pv_iload_n dX11_plan_74 rfl ?_
                refine pv_iload dX11_plan_75 rfl ?_
                refine pv_iload dX11_plan_77 rfl ?_
                refine pv_pc (pc' := 79) rfl ?_
                refine pv_invV (As := [.int y, .int z, .int u, .int t]) (d' := d - 1) dX11_plan_79 moX7_begin ml_X11_165 (lt_60 hL1) (Or.inl ⟨_, rfl, rfl⟩) (Nat.le_of_ble_eq_true rfl) (by omega) (Nat.zero_le _) (Nat.zero_le _) F (fun v ty' h2 r' g' hq => ?_) rfl
                obtain ⟨e2, e4, e5, e1, F⟩ := hq
                rw [e1, e2, e4, e5]
                refine pv_pc (pc' := 82) rfl ?_
                show pv_E Γ d kc ks mX11_plan 82 [some (.ref 100), some (.int x), some (.int y), some (.int z), some (.int u), some (.int t), none, none] [] ty1 h2 r1 g1 Q
                refine pv_iconst (v := 0) (by decide) dX11_plan_82 ?_
                refine pv_istore (ls' := [some (.ref 100), some (.int x), some (.int y), some (.int z), some (.int u), some (.int t), some (.int 0), none]) dX11_plan_83 (by decide) rfl rfl ?_
                refine pv_forgetL (ls' := [some (.ref 100), some (.int x), none, none, none, none, some (.int 0), none]) (pv_subL_ok ⟨rfl, ⟨rfl, ⟨rfl, trivial⟩⟩⟩) ?_
                exact F
              · have F := F.2 c7
                refine pv_iconst (v := (-1)) (by decide) dX11_plan_67 ?_
                exact pv_ireturn dX11_plan_68 rfl rfl F
            · have F := F.2 c6
              refine pv_ldc (v := 99999) dX11_plan_55 kc_X11_164 ?_
              refine pv_goto (tgt := 61) dX11_plan_57 (by decide) ?_
              refine pv_invS (As := [.int t, .int 0, .int 99999]) (d' := d - 1) dX11_plan_61 moX11_within ml_X11_69 (Nat.le_of_ble_eq_true rfl) (by omega) (Nat.zero_le _) (Nat.zero_le _) (ct_X11_within (by omega)) (fun v ty' h' r' g' hq => ?_) rfl
              obtain ⟨e1, e2, e3, e4, e5⟩ := hq
              rw [e1, e2, e3, e4, e5]
              refine pv_pc (pc' := 64) rfl ?_
              show pv_E Γ d kc ks mX11_plan 64 [some (.ref 100), some (.int x), some (.int y), some (.int z), some (.int u), some (.int t), none, none] [.int (pf_b (0 ≤ t ∧ t ≤ 99999))] ty1 h1 r1 g1 Q
              refine pv_if_ne (tgt := 69) dX11_plan_64 (by decide) (fun c8 => ?_) (fun c8 => ?_)
              · have F := F.1 c8
                refine pv_aload_n dX11_plan_69 rfl ?_
                refine pv_getRk 11 6 dX11_plan_70 fl_X11_39 rfl (lt_100 hL1) (lr_100_6 hL1) ?_
                refine pv_iload_n dX11_plan_73 rfl ?_
                refine pv_iload_n dX11_plan_74 rfl ?_
                refine pv_iload dX11_plan_75 rfl ?_
                refine pv_iload dX11_plan_77 rfl ?_
                refine pv_pc (pc' := 79) rfl ?_
                refine pv_invV (As := [.int y, .int z, .int u, .int t]) (d' := d - 1) dX11_plan_79 moX7_begin ml_X11_165 (lt_60 hL1) (Or.inl ⟨_, rfl, rfl⟩) (Nat.le_of_ble_eq_true rfl) (by omega) (Nat.zero_le _) (Nat.zero_le _) F (fun v ty' h3 r' g' hq => ?_) rfl
                obtain ⟨e2, e4, e5, e1, F⟩ := hq
                rw [e1, e2, e4, e5]
                refine pv_pc (pc' := 82) rfl ?_
                show pv_E Γ d kc ks mX11_plan 82 [some (.ref 100), some (.int x), some (.int y), some (.int z), some (.int u), some (.int t), none, none] [] ty1 h3 r1 g1 Q
                refine pv_iconst (v := 0) (by decide) dX11_plan_82 ?_
                refine pv_istore (ls' := [some (.ref 100), some (.int x), some (.int y), some (.int z), some (.int u), some (.int t), some (.int 0), none]) dX11_plan_83 (by decide) rfl rfl ?_
                refine pv_forgetL (ls' := [some (.ref 100), some (.int x), none, none, none, none, some (.int 0), none]) (pv_subL_ok ⟨rfl, ⟨rfl, ⟨rfl, trivial⟩⟩⟩) ?_
                exact F
              · have F := F.2 c8
                refine pv_iconst (v := (-1)) (by decide) dX11_plan_67 ?_
                exact pv_ireturn dX11_plan_68 rfl rfl F
        · have F := F.2 c4
          refine pv_ldc (v := 99999) dX11_plan_35 kc_X11_164 ?_
          refine pv_goto (tgt := 41) dX11_plan_37 (by decide) ?_
          refine pv_invS (As := [.int u, .int 0, .int 99999]) (d' := d - 1) dX11_plan_41 moX11_within ml_X11_69 (Nat.le_of_ble_eq_true rfl) (by omega) (Nat.zero_le _) (Nat.zero_le _) (ct_X11_within (by omega)) (fun v ty' h' r' g' hq => ?_) rfl
          obtain ⟨e1, e2, e3, e4, e5⟩ := hq
          rw [e1, e2, e3, e4, e5]
          refine pv_pc (pc' := 44) rfl ?_
          show pv_E Γ d kc ks mX11_plan 44 [some (.ref 100), some (.int x), some (.int y), some (.int z), some (.int u), some (.int t), none, none] [.int (pf_b (0 ≤ u ∧ u ≤ 99999))] ty1 h1 r1 g1 Q
          refine pv_if_eq (tgt := 67) dX11_plan_44 (by decide) (fun c9 => ?_) (fun c9 => ?_)
          · have F := F.1 c9
            refine pv_iconst (v := (-1)) (by decide) dX11_plan_67 ?_
            exact pv_ireturn dX11_plan_68 rfl rfl F
          · have F := F.2 c9
            refine pv_iload dX11_plan_47 rfl ?_
            refine pv_iconst (v := 0) (by decide) dX11_plan_49 ?_
            refine pv_iload_n dX11_plan_50 rfl ?_
            refine pv_iconst (v := 3) (by decide) dX11_plan_51 ?_
            refine pv_icmp_lt (tgt := 60) dX11_plan_52 (by decide) (fun c10 => ?_) (fun c10 => ?_)
            · have F := F.1 c10
              refine pv_iconst (v := 0) (by decide) dX11_plan_60 ?_
              refine pv_invS (As := [.int t, .int 0, .int 0]) (d' := d - 1) dX11_plan_61 moX11_within ml_X11_69 (Nat.le_of_ble_eq_true rfl) (by omega) (Nat.zero_le _) (Nat.zero_le _) (ct_X11_within (by omega)) (fun v ty' h' r' g' hq => ?_) rfl
              obtain ⟨e1, e2, e3, e4, e5⟩ := hq
              rw [e1, e2, e3, e4, e5]
              refine pv_pc (pc' := 64) rfl ?_
              show pv_E Γ d kc ks mX11_plan 64 [some (.ref 100), some (.int x), some (.int y), some (.int z), some (.int u), some (.int t), none, none] [.int (pf_b (0 ≤ t ∧ t ≤ 0))] ty1 h1 r1 g1 Q
              refine pv_if_ne (tgt := 69) dX11_plan_64 (by decide) (fun c11 => ?_) (fun c11 => ?_)
              · have F := F.1 c11
                refine pv_aload_n dX11_plan_69 rfl ?_
                refine pv_getRk 11 6 dX11_plan_70 fl_X11_39 rfl (lt_100 hL1) (lr_100_6 hL1) ?_
                refine pv_iload_n dX11_plan_73 rfl ?_
                refine pv_iload_n dX11_plan_74 rfl ?_
                refine pv_iload dX11_plan_75 rfl ?_
                refine pv_iload dX11_plan_77 rfl ?_
                refine pv_pc (pc' := 79) rfl ?_
                refine pv_invV (As := [.int y, .int z, .int u, .int t]) (d' := d - 1) dX11_plan_79 moX7_begin ml_X11_165 (lt_60 hL1) (Or.inl ⟨_, rfl, rfl⟩) (Nat.le_of_ble_eq_true rfl) (by omega) (Nat.zero_le _) (Nat.zero_le _) F (fun v ty' h4 r' g' hq => ?_) rfl
                obtain ⟨e2, e4, e5, e1, F⟩ := hq
                rw [e1, e2, e4, e5]
                refine pv_pc (pc' := 82) rfl ?_
                show pv_E Γ d kc ks mX11_plan 82 [some (.ref 100), some (.int x), some (.int y), some (.int z), some (.int u), some (.int t), none, none] [] ty1 h4 r1 g1 Q
                refine pv_iconst (v := 0) (by decide) dX11_plan_82 ?_
                refine pv_istore (ls' := [some (.ref 100), some (.int x), some (.int y), some (.int z), some (.int u), some (.int t), some (.int 0), none]) dX11_plan_83 (by decide) rfl rfl ?_
                refine pv_forgetL (ls' := [some (.ref 100), some (.int x), none, none, none, none, some (.int 0), none]) (pv_subL_ok ⟨rfl, ⟨rfl, ⟨rfl, trivial⟩⟩⟩) ?_
                exact F
              · have F := F.2 c11
                refine pv_iconst (v := (-1)) (by decide) dX11_plan_67 ?_
                exact pv_ireturn dX11_plan_68 rfl rfl F
            · have F := F.2 c10
              refine pv_ldc (v := 99999) dX11_plan_55 kc_X11_164 ?_
              refine pv_goto (tgt := 61) dX11_plan_57 (by decide) ?_
              refine pv_invS (As := [.int t, .int 0, .int 99999]) (d' := d - 1) dX11_plan_61 moX11_within ml_X11_69 (Nat.le_of_ble_eq_true rfl) (by omega) (Nat.zero_le _) (Nat.zero_le _) (ct_X11_within (by omega)) (fun v ty' h' r' g' hq => ?_) rfl
              obtain ⟨e1, e2, e3, e4, e5⟩ := hq
              rw [e1, e2, e3, e4, e5]
              refine pv_pc (pc' := 64) rfl ?_
              show pv_E Γ d kc ks mX11_plan 64 [some (.ref 100), some (.int x), some (.int y), some (.int z), some (.int u), some (.int t), none, none] [.int (pf_b (0 ≤ t ∧ t ≤ 99999))] ty1 h1 r1 g1 Q
              refine pv_if_ne (tgt := 69) dX11_plan_64 (by decide) (fun c12 => ?_) (fun c12 => ?_)
              · have F := F.1 c12
                refine pv_aload_n dX11_plan_69 rfl ?_
                refine pv_getRk 11 6 dX11_plan_70 fl_X11_39 rfl (lt_100 hL1) (lr_100_6 hL1) ?_
                refine pv_iload_n dX11_plan_73 rfl ?_
                refine pv_iload_n dX11_plan_74 rfl ?_
                refine pv_iload dX11_plan_75 rfl ?_
                refine pv_iload dX11_plan_77 rfl ?_
                refine pv_pc (pc' := 79) rfl ?_
                refine pv_invV (As := [.int y, .int z, .int u, .int t]) (d' := d - 1) dX11_plan_79 moX7_begin ml_X11_165 (lt_60 hL1) (Or.inl ⟨_, rfl, rfl⟩) (Nat.le_of_ble_eq_true rfl) (by omega) (Nat.zero_le _) (Nat.zero_le _) F (fun v ty' h5 r' g' hq => ?_) rfl
                obtain ⟨e2, e4, e5, e1, F⟩ := hq
                rw [e1, e2, e4, e5]
                refine pv_pc (pc' := 82) rfl ?_
                show pv_E Γ d kc ks mX11_plan 82 [some (.ref 100), some (.int x), some (.int y), some (.int z), some (.int u), some (.int t), none, none] [] ty1 h5 r1 g1 Q
                refine pv_iconst (v := 0) (by decide) dX11_plan_82 ?_
                refine pv_istore (ls' := [some (.ref 100), some (.int x), some (.int y), some (.int z), some (.int u), some (.int t), some (.int 0), none]) dX11_plan_83 (by decide) rfl rfl ?_
                refine pv_forgetL (ls' := [some (.ref 100), some (.int x), none, none, none, none, some (.int 0), none]) (pv_subL_ok ⟨rfl, ⟨rfl, ⟨rfl, trivial⟩⟩⟩) ?_
                exact F
              · have F := F.2 c12
                refine pv_iconst (v := (-1)) (by decide) dX11_plan_67 ?_
                exact pv_ireturn dX11_plan_68 rfl rfl F
set_option maxRecDepth 20000 in
set_option maxHeartbeats 4000000 in
theorem sg_X11_plan_85 {Γ : pv_C} {d kc ks : Nat} {ty : pv_T} {h : pv_H} {r : pv_R} {g : pv_G} {Q : pv_Q} (x1 : Int32) (x6 : Int32) (hd : 1 ≤ d) (hL : pv_Lay ty r) (F : (((h 100 1) ≤ x6 → pv_CJ Γ (d - 1) mX7_findBest [.ref 60, .int (h 100 5)] ty h r g (fun (w1 : Int32) (h1 : pv_H) => Q (some (.int w1)) ty h1 r g)) ∧ (¬ (h 100 1) ≤ x6 → vp_in x6 8 ∧ ((¬ ((x1 >>> (x6 &&& 31)) &&& 1) = 1 → pv_E Γ d kc ks mX11_plan 85 [some (.ref 100), some (.int x1), none, none, none, none, some (.int (x6 + 1)), none] [] ty h r g Q) ∧ (((x1 >>> (x6 &&& 31)) &&& 1) = 1 → (((r 110 (Int32.toNatClampNeg x6)) = 0 → pv_E Γ d kc ks mX11_plan 85 [some (.ref 100), some (.int x1), none, none, none, none, some (.int (x6 + 1)), none] [] ty h r g Q) ∧ (¬ (r 110 (Int32.toNatClampNeg x6)) = 0 → pv_CW Γ (d - 1) mX7_join [.ref 60, .int x6, .ref (r 110 (Int32.toNatClampNeg x6)), .int (h 100 5)] ty h r g (fun (h2 : pv_H) => pv_E Γ d kc ks mX11_plan 85 [some (.ref 100), some (.int x1), none, none, none, none, some (.int (x6 + 1)), none] [] ty h2 r g Q)))))))) : pv_E Γ d kc ks mX11_plan 85 [some (.ref 100), some (.int x1), none, none, none, none, some (.int x6), none] [] ty h r g Q := by
  refine pv_iload dX11_plan_85 rfl ?_
  refine pv_aload_n dX11_plan_87 rfl ?_
  refine pv_getI 11 1 dX11_plan_88 fl_X11_73 rfl (lt_100 hL) ?_
  refine pv_icmp_ge (tgt := 139) dX11_plan_91 (by decide) (fun c1 => ?_) (fun c1 => ?_)
  · have F := F.1 c1
    refine pv_aload_n dX11_plan_139 rfl ?_
    refine pv_getRk 11 6 dX11_plan_140 fl_X11_39 rfl (lt_100 hL) (lr_100_6 hL) ?_
    refine pv_aload_n dX11_plan_143 rfl ?_
    refine pv_getI 11 5 dX11_plan_144 fl_X11_139 rfl (lt_100 hL) ?_
    refine pv_invV (As := [.int (h 100 5)]) (d' := d - 1) dX11_plan_147 moX7_findBest ml_X11_173 (lt_60 hL) (Or.inl ⟨_, rfl, rfl⟩) (Nat.le_of_ble_eq_true rfl) (by omega) (Nat.zero_le _) (Nat.zero_le _) F (fun v ty' h1 r' g' hq => ?_) rfl
    obtain ⟨e2, e4, e5, w1, e1, F⟩ := hq
    rw [e1, e2, e4, e5]
    refine pv_pc (pc' := 150) rfl ?_
    show pv_E Γ d kc ks mX11_plan 150 [some (.ref 100), some (.int x1), none, none, none, none, some (.int x6), none] [.int w1] ty h1 r g Q
    exact pv_ireturn dX11_plan_150 rfl rfl F
  · have F := F.2 c1
    refine pv_aload_n dX11_plan_94 rfl ?_
    refine pv_getRk 11 0 dX11_plan_95 fl_X11_11 rfl (lt_100 hL) (lr_100_0 hL) ?_
    refine pv_iload dX11_plan_98 rfl ?_
    obtain ⟨q1, F⟩ := F
    refine pv_aald dX11_plan_100 (lt_110 hL) (by decide) q1 ?_
    refine pv_astore (ls' := [some (.ref 100), some (.int x1), none, none, none, none, some (.int x6), some (.ref (r 110 (Int32.toNatClampNeg x6)))]) dX11_plan_101 (by decide) rfl rfl ?_
    refine pv_iload_n dX11_plan_103 rfl ?_
    refine pv_iload dX11_plan_104 rfl ?_
    refine pv_ishr dX11_plan_106 ?_
    refine pv_iconst (v := 1) (by decide) dX11_plan_107 ?_
    refine pv_iand dX11_plan_108 ?_
    refine pv_pc (pc' := 109) rfl ?_
    refine pv_iconst (v := 1) (by decide) dX11_plan_109 ?_
    refine pv_icmp_ne (tgt := 133) dX11_plan_110 (by decide) (fun c2 => ?_) (fun c2 => ?_)
    · have F := F.1 c2
      refine pv_iinc (v := x6 + 1) (ls' := [some (.ref 100), some (.int x1), none, none, none, none, some (.int (x6 + 1)), some (.ref (r 110 (Int32.toNatClampNeg x6)))]) dX11_plan_133 rfl (by rfl) rfl rfl ?_
      refine pv_goto (tgt := 85) dX11_plan_136 (by decide) ?_
      refine pv_forgetL (ls' := [some (.ref 100), some (.int x1), none, none, none, none, some (.int (x6 + 1)), none]) (pv_subL_ok ⟨rfl, ⟨rfl, ⟨rfl, trivial⟩⟩⟩) ?_
      exact F
    · have F := F.2 c2
      refine pv_aload dX11_plan_113 rfl ?_
      refine pv_ifnull (tgt := 133) dX11_plan_115 (by decide) (fun c3 => ?_) (fun c3 => ?_)
      · have F := F.1 c3
        refine pv_iinc (v := x6 + 1) (ls' := [some (.ref 100), some (.int x1), none, none, none, none, some (.int (x6 + 1)), some (.ref (r 110 (Int32.toNatClampNeg x6)))]) dX11_plan_133 rfl (by rfl) rfl rfl ?_
        refine pv_goto (tgt := 85) dX11_plan_136 (by decide) ?_
        refine pv_forgetL (ls' := [some (.ref 100), some (.int x1), none, none, none, none, some (.int (x6 + 1)), none]) (pv_subL_ok ⟨rfl, ⟨rfl, ⟨rfl, trivial⟩⟩⟩) ?_
        exact F
      · have F := F.2 c3
        refine pv_aload_n dX11_plan_118 rfl ?_
        refine pv_getRk 11 6 dX11_plan_119 fl_X11_39 rfl (lt_100 hL) (lr_100_6 hL) ?_
        refine pv_iload dX11_plan_122 rfl ?_
        refine pv_aload dX11_plan_124 rfl ?_
        refine pv_aload_n dX11_plan_126 rfl ?_
        refine pv_getI 11 5 dX11_plan_127 fl_X11_139 rfl (lt_100 hL) ?_
        refine pv_pc (pc' := 130) rfl ?_
        refine pv_invV (As := [.int x6, .ref (r 110 (Int32.toNatClampNeg x6)), .int (h 100 5)]) (d' := d - 1) dX11_plan_130 moX7_join ml_X11_169 (lt_60 hL) (Or.inl ⟨_, rfl, rfl⟩) (Nat.le_of_ble_eq_true rfl) (by omega) (Nat.zero_le _) (Nat.zero_le _) F (fun v ty' h2 r' g' hq => ?_) rfl
        obtain ⟨e2, e4, e5, e1, F⟩ := hq
        rw [e1, e2, e4, e5]
        refine pv_pc (pc' := 133) rfl ?_
        show pv_E Γ d kc ks mX11_plan 133 [some (.ref 100), some (.int x1), none, none, none, none, some (.int x6), some (.ref (r 110 (Int32.toNatClampNeg x6)))] [] ty h2 r g Q
        refine pv_iinc (v := x6 + 1) (ls' := [some (.ref 100), some (.int x1), none, none, none, none, some (.int (x6 + 1)), some (.ref (r 110 (Int32.toNatClampNeg x6)))]) dX11_plan_133 rfl (by rfl) rfl rfl ?_
        refine pv_goto (tgt := 85) dX11_plan_136 (by decide) ?_
        refine pv_forgetL (ls' := [some (.ref 100), some (.int x1), none, none, none, none, some (.int (x6 + 1)), none]) (pv_subL_ok ⟨rfl, ⟨rfl, ⟨rfl, trivial⟩⟩⟩) ?_
        exact F
set_option maxRecDepth 20000 in
set_option maxHeartbeats 4000000 in
theorem sg_X11_planned_0 {Γ : pv_C} {d kc ks : Nat} {ty : pv_T} {h : pv_H} {r : pv_R} {g : pv_G} {Q : pv_Q} (x : Int32) (hd : 1 ≤ d) (hL : pv_Lay ty r) (F : pv_CT Γ (d - 1) 0 0 mX7_yearOf [.ref 60, .int x] ty h r g (fun (v1 : Option Value) (ty1 : pv_T) (h1 : pv_H) (r1 : pv_R) (g1 : pv_G) => ∃ w1 : Int32, v1 = some (.int w1) ∧ pv_Lay ty1 r1 ∧ Q (some (.int w1)) ty1 h1 r1 g1)) : pv_E Γ d kc ks mX11_planned 0 [some (.ref 100), some (.int x)] [] ty h r g Q := by
  refine pv_aload_n dX11_planned_0 rfl ?_
  refine pv_getRk 11 6 dX11_planned_1 fl_X11_39 rfl (lt_100 hL) (lr_100_6 hL) ?_
  refine pv_iload_n dX11_planned_4 rfl ?_
  refine pv_invV (As := [.int x]) (d' := d - 1) dX11_planned_5 moX7_yearOf ml_X11_176 (lt_60 hL) (Or.inl ⟨_, rfl, rfl⟩) (Nat.le_of_ble_eq_true rfl) (by omega) (Nat.zero_le _) (Nat.zero_le _) F (fun v1 ty1 h1 r1 g1 F => ?_) rfl
  obtain ⟨w1, rfl, F⟩ := F
  obtain ⟨hL1, F⟩ := F
  refine pv_pc (pc' := 8) rfl ?_
  show pv_E Γ d kc ks mX11_planned 8 [some (.ref 100), some (.int x)] [.int w1] ty1 h1 r1 g1 Q
  exact pv_ireturn dX11_planned_8 rfl rfl F
def pB (N i : Nat) : Bool := decide ((nI N >>> (nI i &&& 31)) &&& 1 = 1)
def bc1 (x : Int32) : Int32 := x - (((x.toUInt32 >>> (((1 : Int32)).toUInt32 &&& Int32.toUInt32 31)).toInt32) &&& 1431655765)
def bc2 (y : Int32) : Int32 := (y &&& 858993459) + (((y.toUInt32 >>> (((2 : Int32)).toUInt32 &&& Int32.toUInt32 31)).toInt32) &&& 858993459)
def bc3 (y : Int32) : Int32 := (y + ((y.toUInt32 >>> (((4 : Int32)).toUInt32 &&& Int32.toUInt32 31)).toInt32)) &&& 252645135
def bc4 (y : Int32) : Int32 := y + ((y.toUInt32 >>> (((8 : Int32)).toUInt32 &&& Int32.toUInt32 31)).toInt32)
def bc5 (y : Int32) : Int32 := (y + ((y.toUInt32 >>> (((16 : Int32)).toUInt32 &&& Int32.toUInt32 31)).toInt32)) &&& 63
theorem bc_ok : ∀ N, N < 256 → bc5 (bc4 (bc3 (bc2 (bc1 (nI N))))) = nI (qp_n (pB N) 8) := by decide +kernel
theorem pb_hi : ∀ N, N < 256 → ∀ k, k ≤ 8 → ((nI N >>> (nI k &&& 31) = 0) ↔ ∀ i, i < 8 → k ≤ i → pB N i = false) := by decide +kernel
theorem pb_01 : ∀ N, N < 256 → ∀ i, i < 8 → (((nI N >>> (nI i &&& 31)) &&& 1 = 0) ↔ pB N i = false) := by decide +kernel
theorem pb_1 : ∀ N, N < 256 → (N = 0 ↔ qp_n (pB N) 8 = 0) := by decide +kernel
theorem pb_big {N k : Nat} (hN : N < 2 ^ 31) (hk : k ≤ 8) (h : nI N >>> (nI k &&& 31) = 0) : N < 256 := by
  have h1 : (nI N >>> (nI k &&& 31)).toInt = 0 := by rw [h]; rfl
  have h2 : ((nI k &&& 31).toBitVec.smod 32).toNat = k := by
    have : ∀ k, k ≤ 8 → ((nI k &&& 31).toBitVec.smod 32).toNat = k := by decide +kernel
    exact this k hk
  have h3 : (nI N >>> (nI k &&& 31)).toInt = (nI N).toInt >>> k := by
    show (nI N >>> (nI k &&& 31)).toBitVec.toInt = _
    rw [Int32.toBitVec_shiftRight, BitVec.sshiftRight_eq', BitVec.toInt_sshiftRight, h2]
    rfl
  rw [h3, nI_toInt hN, Int.shiftRight_eq_div_pow, ← Int.natCast_ediv] at h1
  have h4 : N / 2 ^ k = 0 := Int.ofNat.inj h1
  have h5 := Nat.lt_of_div_eq_zero (Nat.two_pow_pos k) h4
  have h6 : 2 ^ k ≤ 2 ^ 8 := Nat.pow_le_pow_right (by decide) hk
  omega
theorem ct_bitCount {Γ : pv_C} {d : Nat} {ty : pv_T} {h : pv_H} {r : pv_R} {g : pv_G} {N : Nat} (hN : N < 256) {K : pv_Q} (hK : K (some (.int (nI (qp_n (pB N) 8)))) ty h r g) : pv_CT Γ d 0 0 mJ6_bitCount_0f7a4 [.int (nI N)] ty h r g K := by
  refine pv_fn 0 pn_J6 rfl (Nat.le_of_ble_eq_true rfl) (sg_J6_bitCount_0f7a4_0 _ ?_)
  rw [← bc_ok N hN] at hK
  exact hK
/-- costs -/
def cpC (h : pv_H) : Prop := ∀ s, s < 8 → ∃ a b, b ≤ a ∧ a ≤ 9999 ∧ h 323 s = nI a ∧ h 324 s = nI b
def mCost (h : pv_H) (s Y : Nat) : Int32 := if h 325 s = nI Y then h 323 s - h 324 s else h 323 s
theorem mCost_b {h : pv_H} (hC : cpC h) {s : Nat} (hs : s < 8) (Y : Nat) : (mCost h s Y).toNatClampNeg ≤ 9999 ∧ mCost h s Y = nI (mCost h s Y).toNatClampNeg := by
  obtain ⟨a, b, h1, h2, h3, h4⟩ := hC s hs
  unfold mCost
  rw [h3, h4, pk_sub h1]
  split
  · rw [nI_clamp (by omega)]; exact ⟨by omega, rfl⟩
  · rw [nI_clamp (by omega)]; exact ⟨by omega, rfl⟩
abbrev qp_W (h : pv_H) (T : Nat) : Nat → Nat → Int32 := fun i y => mWear h i (T + y)
abbrev qp_P (h : pv_H) (T : Nat) : Nat → Nat → Nat := fun i y => (mCost h i (T + y)).toNatClampNeg
theorem cpY_frame {h h' : pv_H} {ns T : Nat} (hI : cpY h ns T) (e1 : h' 200 19 = h 200 19) (e2 : h' 100 5 = h 100 5) (e3 : ∀ a, 320 ≤ a → a ≤ 325 → h' a = h a) (e4 : ∀ s, s < ns → h' (cA s) = h (cA s) ∧ h' (cA s + 3) = h (cA s + 3)) : cpY h' ns T := by
  obtain ⟨⟨a1, a2, a3⟩, b1, b2⟩ := hI
  have w : ∀ s y, wT h' s y = wT h s y := fun s y => by unfold wT; rw [e3 320 (by decide) (by decide), e3 321 (by decide) (by decide)]
  refine ⟨⟨a1, e1.trans a2, fun s hs => ?_⟩, e2.trans b1, fun s hs => ?_⟩
  · rw [e3 320 (by decide) (by decide), e3 321 (by decide) (by decide), e3 322 (by decide) (by decide)]
    exact a3 s hs
  · obtain ⟨g1, g2⟩ := e4 s hs
    rw [g1, g2, e3 322 (by decide) (by decide), e3 323 (by decide) (by decide), e3 324 (by decide) (by decide), e3 325 (by decide) (by decide)]
    obtain ⟨c1, c2⟩ := b2 s hs
    exact ⟨fun y hy => (c1 y hy).trans (w s y).symm, c2⟩
theorem mWear_c {h h' : pv_H} (e1 : h' 200 19 = h 200 19) (e3 : ∀ a, 320 ≤ a → a ≤ 325 → h' a = h a) (s Y : Nat) : mWear h' s Y = mWear h s Y := by
  have w : wT h' s = wT h s := funext fun y => by unfold wT; rw [e3 320 (by decide) (by decide), e3 321 (by decide) (by decide)]
  unfold mWear
  rw [e1, w, e3 322 (by decide) (by decide)]
theorem mCost_c {h h' : pv_H} (e3 : ∀ a, 320 ≤ a → a ≤ 325 → h' a = h a) (s Y : Nat) : mCost h' s Y = mCost h s Y := by
  unfold mCost
  rw [e3 323 (by decide) (by decide), e3 324 (by decide) (by decide), e3 325 (by decide) (by decide)]
section PLJ
variable {Γ : pv_C} {d kc ks : Nat} {ty : pv_T} {h h0 : pv_H} {r : pv_R} {g : pv_G} {Q : pv_Q} {ns T : Nat} {B : Nat → Bool} {n : Nat} {W : Nat → Nat → Int32} {P : Nat → Nat → Nat}
theorem ct_ccost (hS : cpS ty h r ns) (hI : cpY h ns T) {s Y : Nat} (hs : s < ns) {K : pv_Q} (hK : K (some (.int (mCost h s Y))) ty h r g) : pv_CT Γ d 0 0 mX8_costIn [.ref (cA s), .int (nI Y)] ty h r g K := by
  obtain ⟨-, hS', -⟩ := hS.2.2 s hs
  obtain ⟨-, -, b6, b7, b8⟩ := hI.2.2 s hs
  refine pv_fn 0 pn_X8 rfl (Nat.le_of_ble_eq_true rfl) (sg_X8_costIn_0 _ _ ⟨hS'.2.1, ?_⟩)
  rw [b6, b7, b8]
  unfold mCost at hK
  refine ⟨fun q => ⟨hS'.2.1, ?_⟩, fun q => ⟨hS'.2.1, hS'.2.1, ?_⟩⟩
  · rw [if_neg (fun z => q z.symm)] at hK; exact hK
  · rw [if_pos q.symm] at hK; exact hK
theorem ct_mcost (hL : pv_Lay ty r) {s Y : Nat} (hs : s < 8) {K : pv_Q} (hK : K (some (.int (mCost h s Y))) ty h r g) : pv_CT Γ d 0 0 mX12_costOf [.ref 200, .int (nI s), .int (nI Y)] ty h r g K := by
  have hi : vp_in (nI s) 8 := vp_in_nI hs (by decide)
  refine pv_fn 0 pn_X12 rfl (Nat.le_of_ble_eq_true rfl) (sg_X12_costOf_0 _ _ hL ⟨hi, hi, ?_⟩)
  rw [nI_clamp (by omega)]
  unfold mCost at hK
  refine ⟨fun q => ?_, fun q => ⟨hi, ?_⟩⟩
  · rw [if_neg q] at hK; rw [Int32.sub_zero]; exact hK
  · rw [if_pos q] at hK; exact hK
abbrev qpJ : Nat → Nat → Prop := fun a j => (60 ≤ a ∧ a ≤ 64) ∧ (a = 60 → j = 7) ∧ a ≠ 64
theorem qpJ_60 : qpJ 60 7 := ⟨⟨by decide, by decide⟩, fun _ => rfl, by decide⟩
theorem qpJ_6 {a : Nat} (h1 : 61 ≤ a) (h2 : a ≤ 63) (j : Nat) : qpJ a j := ⟨⟨by omega, by omega⟩, fun e => by omega, by omega⟩
def qp_jn (B : Nat → Bool) (n : Nat) (W : Nat → Nat → Int32) (P : Nat → Nat → Nat) (h : pv_H) (i : Nat) : Prop := h 60 7 = nI (qp_n B i) ∧ h 60 8 = nI n ∧ ∀ k, k < i → B k = true → h 61 (qp_n B k) = nI k ∧ ∀ y, y < n → h 62 (3 * qp_n B k + y) = W k y ∧ h 63 (3 * qp_n B k + y) = nI (P k y)
theorem qpJ_S (hS : cpS ty h0 r ns) (f : pv_fr qpJ h0 h) : cpS ty h r ns := cpS_frame hS (f 100 1 (by decide)) (f 200 1 (by decide)) (pv_fr_r f (fun j q => absurd q.1.2 (by decide))) (pv_fr_r f (fun j q => absurd q.1.2 (by decide))) (pv_fr_r f (fun j q => absurd q.1.2 (by decide))) (pv_fr_r f (fun j q => absurd q.1.2 (by decide))) (fun s hs t ht => pv_fr_r f (fun j q => by have : 1000 + 4 * s + t ≤ 64 := q.1.2; omega))
theorem qpJ_e (f : pv_fr qpJ h0 h) : ∀ a, 320 ≤ a → a ≤ 325 → h a = h0 a := fun a h1 h2 => pv_fr_r f (fun j q => by have := q.1.2; omega)
theorem qpJ_Y (hI : cpY h0 ns T) (f : pv_fr qpJ h0 h) : cpY h ns T := cpY_frame hI (f 200 19 (by decide)) (f 100 5 (by decide)) (qpJ_e f) (fun s hs => ⟨pv_fr_r f (fun j q => by have : 1000 + 4 * s ≤ 64 := q.1.2; omega), pv_fr_r f (fun j q => by have : 1000 + 4 * s + 3 ≤ 64 := q.1.2; omega)⟩)
theorem jn_23 {i : Nat} (hd : 2 ≤ d) (hL : pv_Lay ty r) (hS : cpS ty h0 r ns) (hI : cpY h0 ns T) (hC : cpC h0) (hi : i < ns) (hn : n ≤ 3) (hB : B i = true) (h6 : qp_n B 8 ≤ 6) (hQ : ∀ h', pv_fr qpJ h0 h' → qp_jn B n (qp_W h0 T) (qp_P h0 T) h' (i + 1) → Q none ty h' r g) : ∀ (m y : Nat) (h : pv_H), y + m = n → pv_fr qpJ h0 h → qp_jn B n (qp_W h0 T) (qp_P h0 T) h i → h 61 (qp_n B i) = nI i → (∀ y', y' < y → h 62 (3 * qp_n B i + y') = qp_W h0 T i y' ∧ h 63 (3 * qp_n B i + y') = nI (qp_P h0 T i y')) → pv_E Γ d kc ks mX7_join 23 [some (.ref 60), none, some (.ref (cA i)), some (.int (nI T)), some (.int (nI y))] [] ty h r g Q := by
  have h8 := hS.1.1
  have hk6 := qp_n_lt hB (show i < 8 by omega)
  have e1 : qp_n B (i + 1) = qp_n B i + 1 := by show (if _ then _ else _) = _; rw [if_pos hB]
  have hT := hI.1.1
  have hta := (hS.2.2 i hi).2.1.2.1
  intro m
  induction m with
  | zero =>
    intro y h hy f jn j61 jr
    rw [show y = n by omega] at jr ⊢
    refine sg_X7_join_23 _ _ _ (by omega) hL ?_
    rw [jn.2.1, jn.1, nI_1]
    refine pk_le n n (fun _ h1 e => ?_) (fun c => absurd c (by omega))
    subst e
    refine hQ _ (pv_fr_up f qpJ_60) ⟨by rw [pv_up_same, e1], by rw [pv_up_j (by decide)]; exact jn.2.1, fun k hk hBk => ?_⟩
    rw [pv_up_a (by decide)]
    by_cases q : k = i
    · subst q; exact ⟨j61, fun y hy => by rw [pv_up_a (by decide), pv_up_a (by decide)]; exact jr y hy⟩
    · exact ⟨(jn.2.2 k (by omega) hBk).1, fun y hy => by rw [pv_up_a (by decide), pv_up_a (by decide)]; exact (jn.2.2 k (by omega) hBk).2 y hy⟩
  | succ m ih =>
    intro y h hy f jn j61 jr
    have hin : vp_in (nI (3 * qp_n B i + y)) 18 := vp_in_nI (by omega) (by decide)
    refine sg_X7_join_23 _ _ _ (by omega) hL ?_
    rw [jn.2.1, jn.1, nI_add, ni_3r, nI_clamp (by omega), nI_1, nI_1]
    refine pk_le n y (fun c => absurd c (by omega)) (fun _ => ⟨hta, ct_cwear (by omega) (qpJ_S hS f) (qpJ_Y hI f) hi (by omega) ⟨_, rfl, hL, hin, fun h3 e3 => ⟨hta, ?_⟩⟩⟩)
    have f3 : pv_fr qpJ h0 h3 := by rw [e3]; exact pv_fr_up f (qpJ_6 (by decide) (by decide) _)
    refine ct_ccost (qpJ_S hS f3) (qpJ_Y hI f3) hi ⟨_, rfl, hL, ?_⟩
    rw [show h3 60 7 = nI (qp_n B i) by rw [e3, pv_up_a (by decide)]; exact jn.1, ni_3r, nI_clamp (by omega)]
    refine ⟨hin, fun h5 e5 => ?_⟩
    rw [mWear_c (f 200 19 (by decide)) (qpJ_e f)] at e3
    rw [mCost_c (qpJ_e f3), (mCost_b hC (show i < 8 by omega) _).2] at e5
    refine ih (y + 1) h5 (by omega) (by rw [e5]; exact pv_fr_up f3 (qpJ_6 (by decide) (by decide) _)) ⟨by rw [e5, pv_up_a (by decide), e3, pv_up_a (by decide)]; exact jn.1, by rw [e5, pv_up_a (by decide), e3, pv_up_a (by decide)]; exact jn.2.1, fun k hk hBk => ?_⟩ (by rw [e5, pv_up_a (by decide), e3, pv_up_a (by decide)]; exact j61) (fun y' hy' => ?_)
    · have hkk := qp_n_lt hBk hk
      refine ⟨by rw [e5, pv_up_a (by decide), e3, pv_up_a (by decide)]; exact (jn.2.2 k hk hBk).1, fun y' hy' => ?_⟩
      rw [e5, pv_up_a (by decide), e3, pv_up_j (by omega), pv_up_j (by omega), pv_up_a (by decide)]
      exact (jn.2.2 k hk hBk).2 y' hy'
    · by_cases q : y' = y
      · subst q
        rw [e5, pv_up_a (by decide), e3, pv_up_same, pv_up_same]
        exact ⟨rfl, rfl⟩
      · rw [e5, pv_up_a (by decide), e3, pv_up_j (by omega), pv_up_j (by omega), pv_up_a (by decide)]
        exact jr y' (by omega)
theorem ct_X7_join {i : Nat} (hd : 2 ≤ d) (hL : pv_Lay ty r) (hS : cpS ty h0 r ns) (hI : cpY h0 ns T) (hC : cpC h0) (hi : i < ns) (hn : n ≤ 3) (hB : B i = true) (h6 : qp_n B 8 ≤ 6) (f : pv_fr qpJ h0 h) (jn : qp_jn B n (qp_W h0 T) (qp_P h0 T) h i) : pv_CW Γ d mX7_join [.ref 60, .int (nI i), .ref (cA i), .int (nI T)] ty h r g (fun h' => pv_fr qpJ h0 h' ∧ qp_jn B n (qp_W h0 T) (qp_P h0 T) h' (i + 1)) := by
  have h8 := hS.1.1
  have hk6 := qp_n_lt hB (show i < 8 by omega)
  refine pv_fn 1 pn_X7 rfl (Nat.le_of_ble_eq_true rfl) (sg_X7_join_0 _ _ _ hL ?_)
  rw [jn.1, nI_clamp (by omega)]
  refine pk_lt (qp_n B i) 6 (fun _ => ⟨vp_in_nI (by omega) (by decide), fun h1 e1 => ?_⟩) (fun c => absurd c (by omega))
  refine jn_23 hd hL hS hI hC hi hn hB h6 (fun h' a b => pv_wqi ⟨a, b⟩) n 0 h1 (by omega) (by rw [e1]; exact pv_fr_up f (qpJ_6 (by decide) (by decide) _)) ⟨by rw [e1, pv_up_a (by decide)]; exact jn.1, by rw [e1, pv_up_a (by decide)]; exact jn.2.1, fun k hk hBk => ?_⟩ (by rw [e1, pv_up_same]) (fun y' q => absurd q (by omega))
  have hkk := qp_n_lt hBk hk
  rw [e1, pv_up_j (by omega)]
  exact ⟨(jn.2.2 k hk hBk).1, fun y hy => by rw [pv_up_a (by decide), pv_up_a (by decide)]; exact (jn.2.2 k hk hBk).2 y hy⟩
end PLJ
