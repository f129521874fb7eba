/-! the reference's streets: heights, drains, water -/
theorem ni_m1 {n : Nat} (h : 0 < n) : nI n - 1 = nI (n - 1) := by
  obtain ⟨k, rfl⟩ : ∃ k, n = k + 1 := ⟨n - 1, by omega⟩
  exact nI_pred k
theorem ni_m1_le {R a : Nat} (h1 : 0 < R) (h2 : R < 2 ^ 31) (h3 : a < 2 ^ 31) : nI R - 1 ≤ nI a ↔ R ≤ a + 1 := by
  rw [ni_m1 h1, nI_leI (by omega) h3]
  omega
theorem ni_pl (s r c : Nat) : 144 * nI s + 9 * nI r + nI c = nI (144 * s + 9 * r + c) := by
  rw [show (144 : Int32) = nI 144 from rfl, show (9 : Int32) = nI 9 from rfl, pk_mul, pk_mul, nI_add, nI_add]
theorem ni_plc {s r c : Nat} (hs : s < 8) (hr : r < 16) (hc : c < 9) : (144 * nI s + 9 * nI r + nI c).toNatClampNeg = 144 * s + 9 * r + c := by
  rw [ni_pl]; exact nI_clamp (by omega)
theorem ni_pli {s r c : Nat} (hs : s < 8) (hr : r < 16) (hc : c < 9) : vp_in (144 * nI s + 9 * nI r + nI c) 1152 := by
  rw [ni_pl]; exact vp_in_nI (by omega) (by decide)
theorem ni_cd (a c : Nat) : 16 * nI a + nI c = nI (16 * a + c) := by
  rw [show (16 : Int32) = nI 16 from rfl, pk_mul, nI_add]
abbrev mH (h : pv_H) (s r c : Nat) : Int32 := h 304 (144 * s + 9 * r + c)
abbrev mD (h : pv_H) (s r c : Nat) : Int32 := h 305 (144 * s + 9 * r + c)
abbrev cd (p : Nat × Nat) : Int32 := nI (16 * p.1 + p.2)
set_option maxRecDepth 20000 in
set_option maxHeartbeats 4000000 in
theorem sg_X12_goesOn_0 {Γ : pv_C} {d kc ks : Nat} {ty : pv_T} {h : pv_H} {r : pv_R} {g : pv_G} {Q : pv_Q} (x : Int32) (y : Int32) (z : Int32) (hd : 1 ≤ d) (hL : pv_Lay ty r) (F : vp_in (144 * x + 9 * y + z) 1152 ∧ vp_in (144 * x + 9 * y + z) 1152 ∧ (((h 305 (Int32.toNatClampNeg (144 * x + 9 * y + z))) = 0 → ((y ≤ 0 → pv_E Γ d kc ks mX12_goesOn 85 [some (.ref 200), some (.int x), some (.int y), some (.int z), some (.int ((16 * y) + z)), some (.int (h 304 (Int32.toNatClampNeg (144 * x + 9 * y + z))))] [] ty h r g Q) ∧ (¬ y ≤ 0 → vp_in (144 * x + 9 * (y - 1) + z) 1152 ∧ (((h 304 (Int32.toNatClampNeg (144 * x + 9 * y + z))) ≤ (h 304 (Int32.toNatClampNeg (144 * x + 9 * (y - 1) + z))) → pv_E Γ d kc ks mX12_goesOn 85 [some (.ref 200), some (.int x), some (.int y), some (.int z), some (.int ((16 * y) + z)), some (.int (h 304 (Int32.toNatClampNeg (144 * x + 9 * y + z))))] [] ty h r g Q) ∧ (¬ (h 304 (Int32.toNatClampNeg (144 * x + 9 * y + z))) ≤ (h 304 (Int32.toNatClampNeg (144 * x + 9 * (y - 1) + z))) → vp_in (144 * x + 9 * (y - 1) + z) 1152 ∧ pv_E Γ d kc ks mX12_goesOn 85 [some (.ref 200), some (.int x), some (.int y), some (.int z), some (.int ((16 * (y - 1)) + z)), some (.int (h 304 (Int32.toNatClampNeg (144 * x + 9 * (y - 1) + z))))] [] ty h r g Q))))) ∧ (¬ (h 305 (Int32.toNatClampNeg (144 * x + 9 * y + z))) = 0 → Q (some (.int ((16 * y) + z))) ty h r g))) : pv_E Γ d kc ks mX12_goesOn 0 [some (.ref 200), some (.int x), some (.int y), some (.int z), none, none] [] ty h r g Q := by
  refine pv_bipush (v := 16) (by decide) dX12_goesOn_0 ?_
  refine pv_iload_n dX12_goesOn_2 rfl ?_
  refine pv_imul dX12_goesOn_3 ?_
  refine pv_iload_n dX12_goesOn_4 rfl ?_
  refine pv_iadd dX12_goesOn_5 ?_
  refine pv_istore (ls' := [some (.ref 200), some (.int x), some (.int y), some (.int z), some (.int ((16 * y) + z)), none]) dX12_goesOn_6 (by decide) rfl rfl ?_
  refine pv_pc (pc' := 8) rfl ?_
  refine pv_aload_n dX12_goesOn_8 rfl ?_
  refine pv_getRk 12 4 dX12_goesOn_9 fl_X12_16 rfl (lt_200 hL) (lr_200_4 hL) ?_
  refine pv_iload_n dX12_goesOn_12 rfl ?_
  refine pv_iload_n dX12_goesOn_13 rfl ?_
  refine pv_iload_n dX12_goesOn_14 rfl ?_
  refine pv_invS (As := [.int x, .int y, .int z]) (d' := d - 1) dX12_goesOn_15 moX12_place ml_X12_175 (Nat.le_of_ble_eq_true rfl) (by omega) (Nat.zero_le _) (Nat.zero_le _) (ct_X12_place (by omega)) (fun v ty' h' r' g' hq => ?_) rfl
  obtain ⟨e1, e2, e3, e4, e5⟩ := hq
  rw [e1, e2, e3, e4, e5]
  refine pv_pc (pc' := 18) rfl ?_
  show pv_E Γ d kc ks mX12_goesOn 18 [some (.ref 200), some (.int x), some (.int y), some (.int z), some (.int ((16 * y) + z)), none] [.int (144 * x + 9 * y + z), .ref 304] ty h r g Q
  obtain ⟨q1, F⟩ := F
  refine pv_iald dX12_goesOn_18 (lt_304 hL) q1 ?_
  refine pv_istore (ls' := [some (.ref 200), some (.int x), some (.int y), some (.int z), some (.int ((16 * y) + z)), some (.int (h 304 (Int32.toNatClampNeg (144 * x + 9 * y + z))))]) dX12_goesOn_19 (by decide) rfl rfl ?_
  refine pv_aload_n dX12_goesOn_21 rfl ?_
  refine pv_getRk 12 5 dX12_goesOn_22 fl_X12_19 rfl (lt_200 hL) (lr_200_5 hL) ?_
  refine pv_iload_n dX12_goesOn_25 rfl ?_
  refine pv_iload_n dX12_goesOn_26 rfl ?_
  refine pv_iload_n dX12_goesOn_27 rfl ?_
  refine pv_pc (pc' := 28) rfl ?_
  refine pv_invS (As := [.int x, .int y, .int z]) (d' := d - 1) dX12_goesOn_28 moX12_place ml_X12_175 (Nat.le_of_ble_eq_true rfl) (by omega) (Nat.zero_le _) (Nat.zero_le _) (ct_X12_place (by omega)) (fun v ty' h' r' g' hq => ?_) rfl
  obtain ⟨e1, e2, e3, e4, e5⟩ := hq
  rw [e1, e2, e3, e4, e5]
  refine pv_pc (pc' := 31) rfl ?_
  show pv_E Γ d kc ks mX12_goesOn 31 [some (.ref 200), some (.int x), some (.int y), some (.int z), some (.int ((16 * y) + z)), some (.int (h 304 (Int32.toNatClampNeg (144 * x + 9 * y + z))))] [.int (144 * x + 9 * y + z), .ref 305] ty h r g Q
  obtain ⟨q2, F⟩ := F
  refine pv_zald dX12_goesOn_31 (lt_305 hL) q2 ?_
  refine pv_if_eq (tgt := 38) dX12_goesOn_32 (by decide) (fun c1 => ?_) (fun c1 => ?_)
  · have F := F.1 c1
    refine pv_iload_n dX12_goesOn_38 rfl ?_
    refine pv_if_le (tgt := 85) dX12_goesOn_39 (by decide) (fun c2 => ?_) (fun c2 => ?_)
    · have F := F.1 c2
      exact F
    · have F := F.2 c2
      refine pv_aload_n dX12_goesOn_42 rfl ?_
      refine pv_getRk 12 4 dX12_goesOn_43 fl_X12_16 rfl (lt_200 hL) (lr_200_4 hL) ?_
      refine pv_iload_n dX12_goesOn_46 rfl ?_
      refine pv_iload_n dX12_goesOn_47 rfl ?_
      refine pv_iconst (v := 1) (by decide) dX12_goesOn_48 ?_
      refine pv_isub dX12_goesOn_49 ?_
      refine pv_pc (pc' := 50) rfl ?_
      refine pv_iload_n dX12_goesOn_50 rfl ?_
      refine pv_invS (As := [.int x, .int (y - 1), .int z]) (d' := d - 1) dX12_goesOn_51 moX12_place ml_X12_175 (Nat.le_of_ble_eq_true rfl) (by omega) (Nat.zero_le _) (Nat.zero_le _) (ct_X12_place (by omega)) (fun v ty' h' r' g' hq => ?_) rfl
      obtain ⟨e1, e2, e3, e4, e5⟩ := hq
      rw [e1, e2, e3, e4, e5]
      refine pv_pc (pc' := 54) rfl ?_
      show pv_E Γ d kc ks mX12_goesOn 54 [some (.ref 200), some (.int x), some (.int y), some (.int z), some (.int ((16 * y) + z)), some (.int (h 304 (Int32.toNatClampNeg (144 * x + 9 * y + z))))] [.int (144 * x + 9 * (y - 1) + z), .ref 304] ty h r g Q
      obtain ⟨q3, F⟩ := F
      refine pv_iald dX12_goesOn_54 (lt_304 hL) q3 ?_
      refine pv_iload dX12_goesOn_55 rfl ?_
      refine pv_icmp_ge (tgt := 85) dX12_goesOn_57 (by decide) (fun c3 => ?_) (fun c3 => ?_)
      · have F := F.1 c3
        exact F
      · have F := F.2 c3
        refine pv_bipush (v := 16) (by decide) dX12_goesOn_60 ?_
        refine pv_iload_n dX12_goesOn_62 rfl ?_
        refine pv_iconst (v := 1) (by decide) dX12_goesOn_63 ?_
        refine pv_isub dX12_goesOn_64 ?_
        refine pv_imul dX12_goesOn_65 ?_
        refine pv_iload_n dX12_goesOn_66 rfl ?_
        refine pv_pc (pc' := 67) rfl ?_
        refine pv_iadd dX12_goesOn_67 ?_
        refine pv_istore (ls' := [some (.ref 200), some (.int x), some (.int y), some (.int z), some (.int ((16 * (y - 1)) + z)), some (.int (h 304 (Int32.toNatClampNeg (144 * x + 9 * y + z))))]) dX12_goesOn_68 (by decide) rfl rfl ?_
        refine pv_aload_n dX12_goesOn_70 rfl ?_
        refine pv_getRk 12 4 dX12_goesOn_71 fl_X12_16 rfl (lt_200 hL) (lr_200_4 hL) ?_
        refine pv_iload_n dX12_goesOn_74 rfl ?_
        refine pv_iload_n dX12_goesOn_75 rfl ?_
        refine pv_pc (pc' := 76) rfl ?_
        refine pv_iconst (v := 1) (by decide) dX12_goesOn_76 ?_
        refine pv_isub dX12_goesOn_77 ?_
        refine pv_iload_n dX12_goesOn_78 rfl ?_
        refine pv_invS (As := [.int x, .int (y - 1), .int z]) (d' := d - 1) dX12_goesOn_79 moX12_place ml_X12_175 (Nat.le_of_ble_eq_true rfl) (by omega) (Nat.zero_le _) (Nat.zero_le _) (ct_X12_place (by omega)) (fun v ty' h' r' g' hq => ?_) rfl
        obtain ⟨e1, e2, e3, e4, e5⟩ := hq
        rw [e1, e2, e3, e4, e5]
        refine pv_pc (pc' := 82) rfl ?_
        show pv_E Γ d kc ks mX12_goesOn 82 [some (.ref 200), some (.int x), some (.int y), some (.int z), some (.int ((16 * (y - 1)) + z)), some (.int (h 304 (Int32.toNatClampNeg (144 * x + 9 * y + z))))] [.int (144 * x + 9 * (y - 1) + z), .ref 304] ty h r g Q
        obtain ⟨q4, F⟩ := F
        refine pv_iald dX12_goesOn_82 (lt_304 hL) q4 ?_
        refine pv_istore (ls' := [some (.ref 200), some (.int x), some (.int y), some (.int z), some (.int ((16 * (y - 1)) + z)), some (.int (h 304 (Int32.toNatClampNeg (144 * x + 9 * (y - 1) + z))))]) dX12_goesOn_83 (by decide) rfl rfl ?_
        exact F
  · have F := F.2 c1
    refine pv_iload dX12_goesOn_35 rfl ?_
    exact pv_ireturn dX12_goesOn_37 rfl rfl F
set_option maxRecDepth 20000 in
set_option maxHeartbeats 4000000 in
theorem sg_X12_goesOn_85 {Γ : pv_C} {d kc ks : Nat} {ty : pv_T} {h : pv_H} {r : pv_R} {g : pv_G} {Q : pv_Q} (x1 : Int32) (x2 : Int32) (x3 : Int32) (x4 : Int32) (x5 : Int32) (hd : 1 ≤ d) (hL : pv_Lay ty r) (F : ((x3 ≤ 0 → pv_E Γ d kc ks mX12_goesOn 132 [some (.ref 200), some (.int x1), some (.int x2), some (.int x3), some (.int x4), some (.int x5)] [] ty h r g Q) ∧ (¬ x3 ≤ 0 → vp_in (144 * x1 + 9 * x2 + (x3 - 1)) 1152 ∧ ((x5 ≤ (h 304 (Int32.toNatClampNeg (144 * x1 + 9 * x2 + (x3 - 1)))) → pv_E Γ d kc ks mX12_goesOn 132 [some (.ref 200), some (.int x1), some (.int x2), some (.int x3), some (.int x4), some (.int x5)] [] ty h r g Q) ∧ (¬ x5 ≤ (h 304 (Int32.toNatClampNeg (144 * x1 + 9 * x2 + (x3 - 1)))) → vp_in (144 * x1 + 9 * x2 + (x3 - 1)) 1152 ∧ pv_E Γ d kc ks mX12_goesOn 132 [some (.ref 200), some (.int x1), some (.int x2), some (.int x3), some (.int (((16 * x2) + x3) - 1)), some (.int (h 304 (Int32.toNatClampNeg (144 * x1 + 9 * x2 + (x3 - 1)))))] [] ty h r g Q))))) : pv_E Γ d kc ks mX12_goesOn 85 [some (.ref 200), some (.int x1), some (.int x2), some (.int x3), some (.int x4), some (.int x5)] [] ty h r g Q := by
  refine pv_iload_n dX12_goesOn_85 rfl ?_
  refine pv_if_le (tgt := 132) dX12_goesOn_86 (by decide) (fun c1 => ?_) (fun c1 => ?_)
  · have F := F.1 c1
    exact F
  · have F := F.2 c1
    refine pv_aload_n dX12_goesOn_89 rfl ?_
    refine pv_getRk 12 4 dX12_goesOn_90 fl_X12_16 rfl (lt_200 hL) (lr_200_4 hL) ?_
    refine pv_iload_n dX12_goesOn_93 rfl ?_
    refine pv_iload_n dX12_goesOn_94 rfl ?_
    refine pv_iload_n dX12_goesOn_95 rfl ?_
    refine pv_iconst (v := 1) (by decide) dX12_goesOn_96 ?_
    refine pv_pc (pc' := 97) rfl ?_
    refine pv_isub dX12_goesOn_97 ?_
    refine pv_invS (As := [.int x1, .int x2, .int (x3 - 1)]) (d' := d - 1) dX12_goesOn_98 moX12_place ml_X12_175 (Nat.le_of_ble_eq_true rfl) (by omega) (Nat.zero_le _) (Nat.zero_le _) (ct_X12_place (by omega)) (fun v ty' h' r' g' hq => ?_) rfl
    obtain ⟨e1, e2, e3, e4, e5⟩ := hq
    rw [e1, e2, e3, e4, e5]
    refine pv_pc (pc' := 101) rfl ?_
    show pv_E Γ d kc ks mX12_goesOn 101 [some (.ref 200), some (.int x1), some (.int x2), some (.int x3), some (.int x4), some (.int x5)] [.int (144 * x1 + 9 * x2 + (x3 - 1)), .ref 304] ty h r g Q
    obtain ⟨q1, F⟩ := F
    refine pv_iald dX12_goesOn_101 (lt_304 hL) q1 ?_
    refine pv_iload dX12_goesOn_102 rfl ?_
    refine pv_icmp_ge (tgt := 132) dX12_goesOn_104 (by decide) (fun c2 => ?_) (fun c2 => ?_)
    · have F := F.1 c2
      exact F
    · have F := F.2 c2
      refine pv_bipush (v := 16) (by decide) dX12_goesOn_107 ?_
      refine pv_iload_n dX12_goesOn_109 rfl ?_
      refine pv_imul dX12_goesOn_110 ?_
      refine pv_iload_n dX12_goesOn_111 rfl ?_
      refine pv_iadd dX12_goesOn_112 ?_
      refine pv_iconst (v := 1) (by decide) dX12_goesOn_113 ?_
      refine pv_pc (pc' := 114) rfl ?_
      refine pv_isub dX12_goesOn_114 ?_
      refine pv_istore (ls' := [some (.ref 200), some (.int x1), some (.int x2), some (.int x3), some (.int (((16 * x2) + x3) - 1)), some (.int x5)]) dX12_goesOn_115 (by decide) rfl rfl ?_
      refine pv_aload_n dX12_goesOn_117 rfl ?_
      refine pv_getRk 12 4 dX12_goesOn_118 fl_X12_16 rfl (lt_200 hL) (lr_200_4 hL) ?_
      refine pv_iload_n dX12_goesOn_121 rfl ?_
      refine pv_iload_n dX12_goesOn_122 rfl ?_
      refine pv_pc (pc' := 123) rfl ?_
      refine pv_iload_n dX12_goesOn_123 rfl ?_
      refine pv_iconst (v := 1) (by decide) dX12_goesOn_124 ?_
      refine pv_isub dX12_goesOn_125 ?_
      refine pv_invS (As := [.int x1, .int x2, .int (x3 - 1)]) (d' := d - 1) dX12_goesOn_126 moX12_place ml_X12_175 (Nat.le_of_ble_eq_true rfl) (by omega) (Nat.zero_le _) (Nat.zero_le _) (ct_X12_place (by omega)) (fun v ty' h' r' g' hq => ?_) rfl
      obtain ⟨e1, e2, e3, e4, e5⟩ := hq
      rw [e1, e2, e3, e4, e5]
      refine pv_pc (pc' := 129) rfl ?_
      show pv_E Γ d kc ks mX12_goesOn 129 [some (.ref 200), some (.int x1), some (.int x2), some (.int x3), some (.int (((16 * x2) + x3) - 1)), some (.int x5)] [.int (144 * x1 + 9 * x2 + (x3 - 1)), .ref 304] ty h r g Q
      obtain ⟨q2, F⟩ := F
      refine pv_iald dX12_goesOn_129 (lt_304 hL) q2 ?_
      refine pv_istore (ls' := [some (.ref 200), some (.int x1), some (.int x2), some (.int x3), some (.int (((16 * x2) + x3) - 1)), some (.int (h 304 (Int32.toNatClampNeg (144 * x1 + 9 * x2 + (x3 - 1)))))]) dX12_goesOn_130 (by decide) rfl rfl ?_
      exact F
set_option maxRecDepth 20000 in
set_option maxHeartbeats 4000000 in
theorem sg_X12_goesOn_132 {Γ : pv_C} {d kc ks : Nat} {ty : pv_T} {h : pv_H} {r : pv_R} {g : pv_G} {Q : pv_Q} (x1 : Int32) (x2 : Int32) (x3 : Int32) (x4 : Int32) (x5 : Int32) (hd : 1 ≤ d) (hL : pv_Lay ty r) (F : vp_in x1 8 ∧ ((((h 303 (Int32.toNatClampNeg x1)) - 1) ≤ x3 → pv_E Γ d kc ks mX12_goesOn 187 [some (.ref 200), some (.int x1), some (.int x2), some (.int x3), some (.int x4), some (.int x5)] [] ty h r g Q) ∧ (¬ ((h 303 (Int32.toNatClampNeg x1)) - 1) ≤ x3 → vp_in (144 * x1 + 9 * x2 + (x3 + 1)) 1152 ∧ ((x5 ≤ (h 304 (Int32.toNatClampNeg (144 * x1 + 9 * x2 + (x3 + 1)))) → pv_E Γ d kc ks mX12_goesOn 187 [some (.ref 200), some (.int x1), some (.int x2), some (.int x3), some (.int x4), some (.int x5)] [] ty h r g Q) ∧ (¬ x5 ≤ (h 304 (Int32.toNatClampNeg (144 * x1 + 9 * x2 + (x3 + 1)))) → vp_in (144 * x1 + 9 * x2 + (x3 + 1)) 1152 ∧ pv_E Γ d kc ks mX12_goesOn 187 [some (.ref 200), some (.int x1), some (.int x2), some (.int x3), some (.int (((16 * x2) + x3) + 1)), some (.int (h 304 (Int32.toNatClampNeg (144 * x1 + 9 * x2 + (x3 + 1)))))] [] ty h r g Q))))) : pv_E Γ d kc ks mX12_goesOn 132 [some (.ref 200), some (.int x1), some (.int x2), some (.int x3), some (.int x4), some (.int x5)] [] ty h r g Q := by
  refine pv_iload_n dX12_goesOn_132 rfl ?_
  refine pv_aload_n dX12_goesOn_133 rfl ?_
  refine pv_getRk 12 3 dX12_goesOn_134 fl_X12_13 rfl (lt_200 hL) (lr_200_3 hL) ?_
  refine pv_iload_n dX12_goesOn_137 rfl ?_
  obtain ⟨q1, F⟩ := F
  refine pv_iald dX12_goesOn_138 (lt_303 hL) q1 ?_
  refine pv_iconst (v := 1) (by decide) dX12_goesOn_139 ?_
  refine pv_isub dX12_goesOn_140 ?_
  refine pv_icmp_ge (tgt := 187) dX12_goesOn_141 (by decide) (fun c1 => ?_) (fun c1 => ?_)
  · have F := F.1 c1
    exact F
  · have F := F.2 c1
    refine pv_aload_n dX12_goesOn_144 rfl ?_
    refine pv_getRk 12 4 dX12_goesOn_145 fl_X12_16 rfl (lt_200 hL) (lr_200_4 hL) ?_
    refine pv_iload_n dX12_goesOn_148 rfl ?_
    refine pv_iload_n dX12_goesOn_149 rfl ?_
    refine pv_iload_n dX12_goesOn_150 rfl ?_
    refine pv_iconst (v := 1) (by decide) dX12_goesOn_151 ?_
    refine pv_pc (pc' := 152) rfl ?_
    refine pv_iadd dX12_goesOn_152 ?_
    refine pv_invS (As := [.int x1, .int x2, .int (x3 + 1)]) (d' := d - 1) dX12_goesOn_153 moX12_place ml_X12_175 (Nat.le_of_ble_eq_true rfl) (by omega) (Nat.zero_le _) (Nat.zero_le _) (ct_X12_place (by omega)) (fun v ty' h' r' g' hq => ?_) rfl
    obtain ⟨e1, e2, e3, e4, e5⟩ := hq
    rw [e1, e2, e3, e4, e5]
    refine pv_pc (pc' := 156) rfl ?_
    show pv_E Γ d kc ks mX12_goesOn 156 [some (.ref 200), some (.int x1), some (.int x2), some (.int x3), some (.int x4), some (.int x5)] [.int (144 * x1 + 9 * x2 + (x3 + 1)), .ref 304] ty h r g Q
    obtain ⟨q2, F⟩ := F
    refine pv_iald dX12_goesOn_156 (lt_304 hL) q2 ?_
    refine pv_iload dX12_goesOn_157 rfl ?_
    refine pv_icmp_ge (tgt := 187) dX12_goesOn_159 (by decide) (fun c2 => ?_) (fun c2 => ?_)
    · have F := F.1 c2
      exact F
    · have F := F.2 c2
      refine pv_bipush (v := 16) (by decide) dX12_goesOn_162 ?_
      refine pv_iload_n dX12_goesOn_164 rfl ?_
      refine pv_imul dX12_goesOn_165 ?_
      refine pv_iload_n dX12_goesOn_166 rfl ?_
      refine pv_iadd dX12_goesOn_167 ?_
      refine pv_iconst (v := 1) (by decide) dX12_goesOn_168 ?_
      refine pv_pc (pc' := 169) rfl ?_
      refine pv_iadd dX12_goesOn_169 ?_
      refine pv_istore (ls' := [some (.ref 200), some (.int x1), some (.int x2), some (.int x3), some (.int (((16 * x2) + x3) + 1)), some (.int x5)]) dX12_goesOn_170 (by decide) rfl rfl ?_
      refine pv_aload_n dX12_goesOn_172 rfl ?_
      refine pv_getRk 12 4 dX12_goesOn_173 fl_X12_16 rfl (lt_200 hL) (lr_200_4 hL) ?_
      refine pv_iload_n dX12_goesOn_176 rfl ?_
      refine pv_iload_n dX12_goesOn_177 rfl ?_
      refine pv_pc (pc' := 178) rfl ?_
      refine pv_iload_n dX12_goesOn_178 rfl ?_
      refine pv_iconst (v := 1) (by decide) dX12_goesOn_179 ?_
      refine pv_iadd dX12_goesOn_180 ?_
      refine pv_invS (As := [.int x1, .int x2, .int (x3 + 1)]) (d' := d - 1) dX12_goesOn_181 moX12_place ml_X12_175 (Nat.le_of_ble_eq_true rfl) (by omega) (Nat.zero_le _) (Nat.zero_le _) (ct_X12_place (by omega)) (fun v ty' h' r' g' hq => ?_) rfl
      obtain ⟨e1, e2, e3, e4, e5⟩ := hq
      rw [e1, e2, e3, e4, e5]
      refine pv_pc (pc' := 184) rfl ?_
      show pv_E Γ d kc ks mX12_goesOn 184 [some (.ref 200), some (.int x1), some (.int x2), some (.int x3), some (.int (((16 * x2) + x3) + 1)), some (.int x5)] [.int (144 * x1 + 9 * x2 + (x3 + 1)), .ref 304] ty h r g Q
      obtain ⟨q3, F⟩ := F
      refine pv_iald dX12_goesOn_184 (lt_304 hL) q3 ?_
      refine pv_istore (ls' := [some (.ref 200), some (.int x1), some (.int x2), some (.int x3), some (.int (((16 * x2) + x3) + 1)), some (.int (h 304 (Int32.toNatClampNeg (144 * x1 + 9 * x2 + (x3 + 1)))))]) dX12_goesOn_185 (by decide) rfl rfl ?_
      exact F
set_option maxRecDepth 20000 in
set_option maxHeartbeats 4000000 in
theorem sg_X12_goesOn_187 {Γ : pv_C} {d kc ks : Nat} {ty : pv_T} {h : pv_H} {r : pv_R} {g : pv_G} {Q : pv_Q} (x1 : Int32) (x2 : Int32) (x3 : Int32) (x4 : Int32) (x5 : Int32) (hd : 1 ≤ d) (hL : pv_Lay ty r) (F : vp_in x1 8 ∧ ((((h 302 (Int32.toNatClampNeg x1)) - 1) ≤ x2 → Q (some (.int x4)) ty h r g) ∧ (¬ ((h 302 (Int32.toNatClampNeg x1)) - 1) ≤ x2 → vp_in (144 * x1 + 9 * (x2 + 1) + x3) 1152 ∧ ((x5 ≤ (h 304 (Int32.toNatClampNeg (144 * x1 + 9 * (x2 + 1) + x3))) → Q (some (.int x4)) ty h r g) ∧ (¬ x5 ≤ (h 304 (Int32.toNatClampNeg (144 * x1 + 9 * (x2 + 1) + x3))) → Q (some (.int ((16 * (x2 + 1)) + x3))) ty h r g))))) : pv_E Γ d kc ks mX12_goesOn 187 [some (.ref 200), some (.int x1), some (.int x2), some (.int x3), some (.int x4), some (.int x5)] [] ty h r g Q := by
  refine pv_iload_n dX12_goesOn_187 rfl ?_
  refine pv_aload_n dX12_goesOn_188 rfl ?_
  refine pv_getRk 12 2 dX12_goesOn_189 fl_X12_7 rfl (lt_200 hL) (lr_200_2 hL) ?_
  refine pv_iload_n dX12_goesOn_192 rfl ?_
  obtain ⟨q1, F⟩ := F
  refine pv_iald dX12_goesOn_193 (lt_302 hL) q1 ?_
  refine pv_iconst (v := 1) (by decide) dX12_goesOn_194 ?_
  refine pv_isub dX12_goesOn_195 ?_
  refine pv_icmp_ge (tgt := 227) dX12_goesOn_196 (by decide) (fun c1 => ?_) (fun c1 => ?_)
  · have F := F.1 c1
    refine pv_iload dX12_goesOn_227 rfl ?_
    exact pv_ireturn dX12_goesOn_229 rfl rfl F
  · have F := F.2 c1
    refine pv_aload_n dX12_goesOn_199 rfl ?_
    refine pv_getRk 12 4 dX12_goesOn_200 fl_X12_16 rfl (lt_200 hL) (lr_200_4 hL) ?_
    refine pv_iload_n dX12_goesOn_203 rfl ?_
    refine pv_iload_n dX12_goesOn_204 rfl ?_
    refine pv_iconst (v := 1) (by decide) dX12_goesOn_205 ?_
    refine pv_iadd dX12_goesOn_206 ?_
    refine pv_pc (pc' := 207) rfl ?_
    refine pv_iload_n dX12_goesOn_207 rfl ?_
    refine pv_invS (As := [.int x1, .int (x2 + 1), .int x3]) (d' := d - 1) dX12_goesOn_208 moX12_place ml_X12_175 (Nat.le_of_ble_eq_true rfl) (by omega) (Nat.zero_le _) (Nat.zero_le _) (ct_X12_place (by omega)) (fun v ty' h' r' g' hq => ?_) rfl
    obtain ⟨e1, e2, e3, e4, e5⟩ := hq
    rw [e1, e2, e3, e4, e5]
    refine pv_pc (pc' := 211) rfl ?_
    show pv_E Γ d kc ks mX12_goesOn 211 [some (.ref 200), some (.int x1), some (.int x2), some (.int x3), some (.int x4), some (.int x5)] [.int (144 * x1 + 9 * (x2 + 1) + x3), .ref 304] ty h r g Q
    obtain ⟨q2, F⟩ := F
    refine pv_iald dX12_goesOn_211 (lt_304 hL) q2 ?_
    refine pv_iload dX12_goesOn_212 rfl ?_
    refine pv_icmp_ge (tgt := 227) dX12_goesOn_214 (by decide) (fun c2 => ?_) (fun c2 => ?_)
    · have F := F.1 c2
      refine pv_iload dX12_goesOn_227 rfl ?_
      exact pv_ireturn dX12_goesOn_229 rfl rfl F
    · have F := F.2 c2
      refine pv_bipush (v := 16) (by decide) dX12_goesOn_217 ?_
      refine pv_iload_n dX12_goesOn_219 rfl ?_
      refine pv_iconst (v := 1) (by decide) dX12_goesOn_220 ?_
      refine pv_iadd dX12_goesOn_221 ?_
      refine pv_imul dX12_goesOn_222 ?_
      refine pv_iload_n dX12_goesOn_223 rfl ?_
      refine pv_pc (pc' := 224) rfl ?_
      refine pv_iadd dX12_goesOn_224 ?_
      refine pv_istore (ls' := [some (.ref 200), some (.int x1), some (.int x2), some (.int x3), some (.int ((16 * (x2 + 1)) + x3)), some (.int x5)]) dX12_goesOn_225 (by decide) rfl rfl ?_
      refine pv_iload dX12_goesOn_227 rfl ?_
      exact pv_ireturn dX12_goesOn_229 rfl rfl F
section MG
variable {Γ : pv_C} {d kc ks : Nat} {ty : pv_T} {h : pv_H} {r : pv_R} {g : pv_G} {Q : pv_Q} {s R C a c : Nat} {b : Nat × Nat}
theorem mg_187 (hd : 1 ≤ d) (hL : pv_Lay ty r) (hs : s < 8) (hR : h 302 s = nI R) (hRb : R ≤ 16) (hCb : C ≤ 9) (ha : a < R) (hc : c < C) (hQ : Q (some (.int (cd (if a + 1 < R ∧ mH h s (a + 1) c < mH h s b.1 b.2 then (a + 1, c) else b)))) ty h r g) : pv_E Γ d kc ks mX12_goesOn 187 [some (.ref 200), some (.int (nI s)), some (.int (nI a)), some (.int (nI c)), some (.int (cd b)), some (.int (mH h s b.1 b.2))] [] ty h r g Q := by
  refine sg_X12_goesOn_187 _ _ _ _ _ hd hL ⟨vp_in_nI hs (by decide), ?_⟩
  rw [nI_clamp (by omega), hR, ni_m1_le (by omega) (by omega) (by omega), nI_1]
  refine ⟨fun c1 => ?_, fun c1 => ⟨ni_pli hs (by omega) (by omega), fun c2 => ?_, fun c2 => ?_⟩⟩
  · rw [if_neg (by omega)] at hQ; exact hQ
  · rw [ni_plc hs (by omega) (by omega)] at c2
    rw [if_neg (fun q => Int32.not_lt.mpr c2 q.2)] at hQ; exact hQ
  · rw [ni_plc hs (by omega) (by omega)] at c2
    rw [if_pos ⟨by omega, Int32.not_le.mp c2⟩] at hQ
    rw [ni_cd]; exact hQ
theorem mg_132 (hd : 1 ≤ d) (hL : pv_Lay ty r) (hs : s < 8) (hC : h 303 s = nI C) (hRb : R ≤ 16) (hCb : C ≤ 9) (ha : a < R) (hc : c < C) (hQ : ∀ b', b' = (if c + 1 < C ∧ mH h s a (c + 1) < mH h s b.1 b.2 then (a, c + 1) else b) → pv_E Γ d kc ks mX12_goesOn 187 [some (.ref 200), some (.int (nI s)), some (.int (nI a)), some (.int (nI c)), some (.int (cd b')), some (.int (mH h s b'.1 b'.2))] [] ty h r g Q) : pv_E Γ d kc ks mX12_goesOn 132 [some (.ref 200), some (.int (nI s)), some (.int (nI a)), some (.int (nI c)), some (.int (cd b)), some (.int (mH h s b.1 b.2))] [] ty h r g Q := by
  refine sg_X12_goesOn_132 _ _ _ _ _ hd hL ⟨vp_in_nI hs (by decide), ?_⟩
  rw [nI_clamp (by omega), hC, ni_m1_le (by omega) (by omega) (by omega), nI_1, ni_cd, nI_1]
  refine ⟨fun c1 => ?_, fun c1 => ⟨ni_pli hs (by omega) (by omega), fun c2 => ?_, fun c2 => ⟨ni_pli hs (by omega) (by omega), ?_⟩⟩⟩
  · exact hQ b (by rw [if_neg (by omega)])
  · rw [ni_plc hs (by omega) (by omega)] at c2
    exact hQ b (by rw [if_neg (fun q => Int32.not_lt.mpr c2 q.2)])
  · rw [ni_plc hs (by omega) (by omega)] at c2 ⊢
    exact hQ (a, c + 1) (by rw [if_pos ⟨by omega, Int32.not_le.mp c2⟩])
theorem mg_85 (hd : 1 ≤ d) (hL : pv_Lay ty r) (hs : s < 8) (ha : a < 16) (hc : c < 9) (hQ : ∀ b', b' = (if 0 < c ∧ mH h s a (c - 1) < mH h s b.1 b.2 then (a, c - 1) else b) → pv_E Γ d kc ks mX12_goesOn 132 [some (.ref 200), some (.int (nI s)), some (.int (nI a)), some (.int (nI c)), some (.int (cd b')), some (.int (mH h s b'.1 b'.2))] [] ty h r g Q) : pv_E Γ d kc ks mX12_goesOn 85 [some (.ref 200), some (.int (nI s)), some (.int (nI a)), some (.int (nI c)), some (.int (cd b)), some (.int (mH h s b.1 b.2))] [] ty h r g Q := by
  refine sg_X12_goesOn_85 _ _ _ _ _ hd hL ?_
  refine ⟨fun c1 => ?_, fun c1 => ?_⟩
  · refine hQ b (by rw [if_neg (fun q => nI_nle q.1 (by omega) c1)])
  · have hc0 : 0 < c := Nat.pos_of_ne_zero (fun z => c1 (by rw [z]; exact Int32.le_refl 0))
    rw [ni_m1 hc0, ni_cd, ni_m1 (by omega)]
    refine ⟨ni_pli hs (by omega) (by omega), fun c2 => ?_, fun c2 => ⟨ni_pli hs (by omega) (by omega), ?_⟩⟩
    · rw [ni_plc hs (by omega) (by omega)] at c2
      exact hQ b (by rw [if_neg (fun q => Int32.not_lt.mpr c2 q.2)])
    · rw [ni_plc hs (by omega) (by omega)] at c2 ⊢
      rw [show 16 * a + c - 1 = 16 * a + (c - 1) by omega]
      exact hQ (a, c - 1) (by rw [if_pos ⟨hc0, Int32.not_le.mp c2⟩])
theorem ct_X12_goesOn (hd : 1 ≤ d) (hL : pv_Lay ty r) (hs : s < 8) (hR : h 302 s = nI R) (hC : h 303 s = nI C) (hRb : R ≤ 16) (hCb : C ≤ 9) (ha : a < R) (hc : c < C) (hD : mD h s a c = 0 ∨ mD h s a c = 1) : pv_CT Γ d 0 0 mX12_goesOn [.ref 200, .int (nI s), .int (nI a), .int (nI c)] ty h r g (pv_is (.int (cd (wt_nx R C (mH h s) (mD h s) (a, c)))) ty h r g) := by
  refine pv_fn 2 pn_X12 rfl (Nat.le_of_ble_eq_true rfl) (sg_X12_goesOn_0 _ _ _ hd hL ⟨ni_pli hs (by omega) (by omega), ni_pli hs (by omega) (by omega), ?_⟩)
  have goal4 : ∀ b1, b1 = wt_b1 (mH h s) (a, c) → ¬ mD h s a c = 1 → pv_E Γ d 0 0 mX12_goesOn 85 [some (.ref 200), some (.int (nI s)), some (.int (nI a)), some (.int (nI c)), some (.int (cd b1)), some (.int (mH h s b1.1 b1.2))] [] ty h r g (pv_is (.int (cd (wt_nx R C (mH h s) (mD h s) (a, c)))) ty h r g) := by
    intro b1 e1 hd1
    refine mg_85 hd hL hs (by omega) (by omega) (fun b2 e2 => ?_)
    refine mg_132 hd hL hs hC hRb hCb ha hc (fun b3 e3 => ?_)
    refine mg_187 hd hL hs hR hRb hCb ha hc ?_
    have e4 : wt_nx R C (mH h s) (mD h s) (a, c) = if a + 1 < R ∧ mH h s (a + 1) c < mH h s b3.1 b3.2 then (a + 1, c) else b3 := by
      unfold wt_nx
      rw [if_neg hd1, e3, e2, e1]
      rfl
    rw [e4]
    exact pv_is_refl _ _ _ _ _
  rw [ni_plc hs (by omega) (by omega)]
  refine ⟨fun c1 => ⟨fun c2 => ?_, fun c2 => ?_⟩, fun c1 => ?_⟩
  · rw [ni_cd]
    refine goal4 (a, c) ?_ (by show ¬ h 305 (144 * s + 9 * a + c) = 1; rw [c1]; decide)
    unfold wt_b1
    rw [if_neg (fun q => nI_nle q.1 (by omega) c2)]
  · have ha0 : 0 < a := Nat.pos_of_ne_zero (fun z => c2 (by rw [z]; exact Int32.le_refl 0))
    rw [ni_m1 ha0, ni_plc hs (by omega) (by omega)]
    refine ⟨ni_pli hs (by omega) (by omega), fun c3 => ?_, fun c3 => ⟨ni_pli hs (by omega) (by omega), ?_⟩⟩
    · rw [ni_cd]
      refine goal4 (a, c) ?_ (by show ¬ h 305 (144 * s + 9 * a + c) = 1; rw [c1]; decide)
      unfold wt_b1
      rw [if_neg (fun q => Int32.not_lt.mpr c3 q.2)]
    · rw [ni_cd]
      refine goal4 (a - 1, c) ?_ (by show ¬ h 305 (144 * s + 9 * a + c) = 1; rw [c1]; decide)
      unfold wt_b1
      rw [if_pos ⟨ha0, Int32.not_le.mp c3⟩]
  · have hd1 : mD h s a c = 1 := hD.resolve_left c1
    have e4 : wt_nx R C (mH h s) (mD h s) (a, c) = (a, c) := by unfold wt_nx; rw [if_pos hd1]
    rw [e4, ni_cd]
    exact pv_is_refl _ _ _ _ _
end MG
