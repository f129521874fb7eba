/-! the reference's find -/
set_option maxRecDepth 20000 in
set_option maxHeartbeats 4000000 in
theorem sg_X12_find_0 {Γ : pv_C} {d kc ks : Nat} {ty : pv_T} {h : pv_H} {r : pv_R} {g : pv_G} {Q : pv_Q} (x : Int32) (F : pv_E Γ d kc ks mX12_find 2 [some (.ref 200), some (.int x), some (.int 0), none, none, none, none] [] ty h r g Q) : pv_E Γ d kc ks mX12_find 0 [some (.ref 200), some (.int x), none, none, none, none, none] [] ty h r g Q := by
  refine pv_iconst (v := 0) (by decide) dX12_find_0 ?_
  refine pv_istore_n (ls' := [some (.ref 200), some (.int x), some (.int 0), none, none, none, none]) dX12_find_1 (by decide) rfl rfl ?_
  exact F
set_option maxRecDepth 20000 in
set_option maxHeartbeats 4000000 in
theorem sg_X12_find_2 {Γ : pv_C} {d kc ks : Nat} {ty : pv_T} {h : pv_H} {r : pv_R} {g : pv_G} {Q : pv_Q} (x1 : Int32) (x2 : Int32) (hL : pv_Lay ty r) (F : ((x1 < x2 → pv_E Γ d kc ks mX12_find 31 [some (.ref 200), some (.int x1), some (.int 1), none, none, none, none] [] ty h r g Q) ∧ (¬ x1 < x2 → ((¬ x2 = 0 → vp_in x2 610 ∧ (∀ h1 : pv_H, h1 = pv_up h 318 (Int32.toNatClampNeg x2) 1000000 → pv_E Γ d kc ks mX12_find 2 [some (.ref 200), some (.int x1), some (.int (x2 + 1)), none, none, none, none] [] ty h1 r g Q)) ∧ (x2 = 0 → vp_in x2 610 ∧ (∀ h2 : pv_H, h2 = pv_up h 318 (Int32.toNatClampNeg x2) 0 → pv_E Γ d kc ks mX12_find 2 [some (.ref 200), some (.int x1), some (.int (x2 + 1)), none, none, none, none] [] ty h2 r g Q)))))) : pv_E Γ d kc ks mX12_find 2 [some (.ref 200), some (.int x1), some (.int x2), none, none, none, none] [] ty h r g Q := by
  refine pv_iload_n dX12_find_2 rfl ?_
  refine pv_iload_n dX12_find_3 rfl ?_
  refine pv_icmp_gt (tgt := 29) dX12_find_4 (by decide) (fun c1 => ?_) (fun c1 => ?_)
  · have F := F.1 c1
    refine pv_iconst (v := 1) (by decide) dX12_find_29 ?_
    refine pv_istore_n (ls' := [some (.ref 200), some (.int x1), some (.int 1), none, none, none, none]) dX12_find_30 (by decide) rfl rfl ?_
    exact F
  · have F := F.2 c1
    refine pv_aload_n dX12_find_7 rfl ?_
    refine pv_getRk 12 18 dX12_find_8 fl_X12_51 rfl (lt_200 hL) (lr_200_18 hL) ?_
    refine pv_iload_n dX12_find_11 rfl ?_
    refine pv_iload_n dX12_find_12 rfl ?_
    refine pv_if_ne (tgt := 20) dX12_find_13 (by decide) (fun c2 => ?_) (fun c2 => ?_)
    · have F := F.1 c2
      refine pv_ldc (v := 1000000) dX12_find_20 kc_X12_189 ?_
      obtain ⟨q1, F⟩ := F
      obtain ⟨h1, eh1⟩ : ∃ h1 : pv_H, h1 = pv_up h 318 (Int32.toNatClampNeg x2) 1000000 := ⟨_, rfl⟩
      have F := F h1 eh1
      refine pv_iast dX12_find_22 (lt_318 hL) (by decide) q1 ?_
      refine pv_hE eh1 ?_
      refine pv_iinc (v := x2 + 1) (ls' := [some (.ref 200), some (.int x1), some (.int (x2 + 1)), none, none, none, none]) dX12_find_23 rfl (by rfl) rfl rfl ?_
      refine pv_goto (tgt := 2) dX12_find_26 (by decide) ?_
      exact F
    · have F := F.2 c2
      refine pv_iconst (v := 0) (by decide) dX12_find_16 ?_
      refine pv_goto (tgt := 22) dX12_find_17 (by decide) ?_
      obtain ⟨q2, F⟩ := F
      obtain ⟨h2, eh2⟩ : ∃ h2 : pv_H, h2 = pv_up h 318 (Int32.toNatClampNeg x2) 0 := ⟨_, rfl⟩
      have F := F h2 eh2
      refine pv_iast dX12_find_22 (lt_318 hL) (by decide) q2 ?_
      refine pv_hE eh2 ?_
      refine pv_iinc (v := x2 + 1) (ls' := [some (.ref 200), some (.int x1), some (.int (x2 + 1)), none, none, none, none]) dX12_find_23 rfl (by rfl) rfl rfl ?_
      refine pv_goto (tgt := 2) dX12_find_26 (by decide) ?_
      exact F
set_option maxRecDepth 20000 in
set_option maxHeartbeats 4000000 in
theorem sg_X12_find_31 {Γ : pv_C} {d kc ks : Nat} {ty : pv_T} {h : pv_H} {r : pv_R} {g : pv_G} {Q : pv_Q} (x1 : Int32) (x2 : Int32) (hL : pv_Lay ty r) (F : ((9 < x2 → vp_in (549 + x1) 610 ∧ (((h 318 (Int32.toNatClampNeg (549 + x1))) < 1000000 → pv_E Γ d kc ks mX12_find 179 [some (.ref 200), none, some (.int (h 318 (Int32.toNatClampNeg (549 + x1)))), some (.int x1), some (.int (h 318 (Int32.toNatClampNeg (549 + x1)))), some (.int 9), none] [] ty h r g Q) ∧ (¬ (h 318 (Int32.toNatClampNeg (549 + x1))) < 1000000 → Q (some (.int (-2))) ty h r g))) ∧ (¬ 9 < x2 → pv_E Γ d kc ks mX12_find 39 [some (.ref 200), some (.int x1), some (.int x2), some (.int 0), none, none, none] [] ty h r g Q))) : pv_E Γ d kc ks mX12_find 31 [some (.ref 200), some (.int x1), some (.int x2), none, none, none, none] [] ty h r g Q := by
  refine pv_iload_n dX12_find_31 rfl ?_
  refine pv_bipush (v := 9) (by decide) dX12_find_32 ?_
  refine pv_icmp_gt (tgt := 150) dX12_find_34 (by decide) (fun c1 => ?_) (fun c1 => ?_)
  · have F := F.1 c1
    refine pv_aload_n dX12_find_150 rfl ?_
    refine pv_getRk 12 18 dX12_find_151 fl_X12_51 rfl (lt_200 hL) (lr_200_18 hL) ?_
    refine pv_sipush (v := 549) (by decide) dX12_find_154 ?_
    refine pv_iload_n dX12_find_157 rfl ?_
    refine pv_iadd dX12_find_158 ?_
    obtain ⟨q1, F⟩ := F
    refine pv_iald dX12_find_159 (lt_318 hL) q1 ?_
    refine pv_istore_n (ls' := [some (.ref 200), some (.int x1), some (.int (h 318 (Int32.toNatClampNeg (549 + x1)))), none, none, none, none]) dX12_find_160 (by decide) rfl rfl ?_
    refine pv_iload_n dX12_find_161 rfl ?_
    refine pv_ldc (v := 1000000) dX12_find_162 kc_X12_189 ?_
    refine pv_icmp_lt (tgt := 170) dX12_find_164 (by decide) (fun c2 => ?_) (fun c2 => ?_)
    · have F := F.1 c2
      refine pv_iload_n dX12_find_170 rfl ?_
      refine pv_istore_n (ls' := [some (.ref 200), some (.int x1), some (.int (h 318 (Int32.toNatClampNeg (549 + x1)))), some (.int x1), none, none, none]) dX12_find_171 (by decide) rfl rfl ?_
      refine pv_iload_n dX12_find_172 rfl ?_
      refine pv_istore (ls' := [some (.ref 200), some (.int x1), some (.int (h 318 (Int32.toNatClampNeg (549 + x1)))), some (.int x1), some (.int (h 318 (Int32.toNatClampNeg (549 + x1)))), none, none]) dX12_find_173 (by decide) rfl rfl ?_
      refine pv_bipush (v := 9) (by decide) dX12_find_175 ?_
      refine pv_istore (ls' := [some (.ref 200), some (.int x1), some (.int (h 318 (Int32.toNatClampNeg (549 + x1)))), some (.int x1), some (.int (h 318 (Int32.toNatClampNeg (549 + x1)))), some (.int 9), none]) dX12_find_177 (by decide) rfl rfl ?_
      refine pv_forgetL (ls' := [some (.ref 200), none, some (.int (h 318 (Int32.toNatClampNeg (549 + x1)))), some (.int x1), some (.int (h 318 (Int32.toNatClampNeg (549 + x1)))), some (.int 9), none]) (pv_subL_ok ⟨rfl, ⟨rfl, ⟨rfl, ⟨rfl, ⟨rfl, trivial⟩⟩⟩⟩⟩) ?_
      exact F
    · have F := F.2 c2
      refine pv_bipush (v := (-2)) (by decide) dX12_find_167 ?_
      exact pv_ireturn dX12_find_169 rfl rfl F
  · have F := F.2 c1
    refine pv_iconst (v := 0) (by decide) dX12_find_37 ?_
    refine pv_istore_n (ls' := [some (.ref 200), some (.int x1), some (.int x2), some (.int 0), none, none, none]) dX12_find_38 (by decide) rfl rfl ?_
    exact F
set_option maxRecDepth 20000 in
set_option maxHeartbeats 4000000 in
theorem sg_X12_find_39 {Γ : pv_C} {d kc ks : Nat} {ty : pv_T} {h : pv_H} {r : pv_R} {g : pv_G} {Q : pv_Q} (x1 : Int32) (x2 : Int32) (x3 : Int32) (F : ((x1 < x3 → pv_E Γ d kc ks mX12_find 31 [some (.ref 200), some (.int x1), some (.int (x2 + 1)), none, none, none, none] [] ty h r g Q) ∧ (¬ x1 < x3 → pv_E Γ d kc ks mX12_find 51 [some (.ref 200), some (.int x1), some (.int x2), some (.int x3), some (.int 1000000), some (.int 0), none] [] ty h r g Q))) : pv_E Γ d kc ks mX12_find 39 [some (.ref 200), some (.int x1), some (.int x2), some (.int x3), none, none, none] [] ty h r g Q := by
  refine pv_iload_n dX12_find_39 rfl ?_
  refine pv_iload_n dX12_find_40 rfl ?_
  refine pv_icmp_gt (tgt := 144) dX12_find_41 (by decide) (fun c1 => ?_) (fun c1 => ?_)
  · have F := F.1 c1
    refine pv_iinc (v := x2 + 1) (ls' := [some (.ref 200), some (.int x1), some (.int (x2 + 1)), some (.int x3), none, none, none]) dX12_find_144 rfl (by rfl) rfl rfl ?_
    refine pv_goto (tgt := 31) dX12_find_147 (by decide) ?_
    refine pv_forgetL (ls' := [some (.ref 200), some (.int x1), some (.int (x2 + 1)), none, none, none, none]) (pv_subL_ok ⟨rfl, ⟨rfl, ⟨rfl, trivial⟩⟩⟩) ?_
    exact F
  · have F := F.2 c1
    refine pv_ldc (v := 1000000) dX12_find_44 kc_X12_189 ?_
    refine pv_istore (ls' := [some (.ref 200), some (.int x1), some (.int x2), some (.int x3), some (.int 1000000), none, none]) dX12_find_46 (by decide) rfl rfl ?_
    refine pv_iconst (v := 0) (by decide) dX12_find_48 ?_
    refine pv_istore (ls' := [some (.ref 200), some (.int x1), some (.int x2), some (.int x3), some (.int 1000000), some (.int 0), none]) dX12_find_49 (by decide) rfl rfl ?_
    exact F
set_option maxRecDepth 20000 in
set_option maxHeartbeats 4000000 in
theorem sg_X12_find_179 {Γ : pv_C} {d kc ks : Nat} {ty : pv_T} {h : pv_H} {r : pv_R} {g : pv_G} {Q : pv_Q} (x2 : Int32) (x3 : Int32) (x4 : Int32) (x5 : Int32) (hL : pv_Lay ty r) (F : ((x5 < 1 → Q (some (.int x2)) ty h r g) ∧ (¬ x5 < 1 → vp_in x5 10 ∧ ¬ x5 = 0 ∧ (((x3 / x5) ≤ (h 314 (Int32.toNatClampNeg x5)) → ¬ x5 = 0 ∧ pv_E Γ d kc ks mX12_find 215 [some (.ref 200), none, some (.int x2), some (.int x3), some (.int x4), some (.int x5), some (.int (x3 / x5))] [] ty h r g Q) ∧ (¬ (x3 / x5) ≤ (h 314 (Int32.toNatClampNeg x5)) → vp_in x5 10 ∧ pv_E Γ d kc ks mX12_find 215 [some (.ref 200), none, some (.int x2), some (.int x3), some (.int x4), some (.int x5), some (.int (h 314 (Int32.toNatClampNeg x5)))] [] ty h r g Q))))) : pv_E Γ d kc ks mX12_find 179 [some (.ref 200), none, some (.int x2), some (.int x3), some (.int x4), some (.int x5), none] [] ty h r g Q := by
  refine pv_iload dX12_find_179 rfl ?_
  refine pv_iconst (v := 1) (by decide) dX12_find_181 ?_
  refine pv_icmp_lt (tgt := 279) dX12_find_182 (by decide) (fun c1 => ?_) (fun c1 => ?_)
  · have F := F.1 c1
    refine pv_iload_n dX12_find_279 rfl ?_
    exact pv_ireturn dX12_find_280 rfl rfl F
  · have F := F.2 c1
    refine pv_aload_n dX12_find_185 rfl ?_
    refine pv_getRk 12 14 dX12_find_186 fl_X12_42 rfl (lt_200 hL) (lr_200_14 hL) ?_
    refine pv_iload dX12_find_189 rfl ?_
    obtain ⟨q1, F⟩ := F
    refine pv_iald dX12_find_191 (lt_314 hL) q1 ?_
    refine pv_iload_n dX12_find_192 rfl ?_
    refine pv_iload dX12_find_193 rfl ?_
    obtain ⟨q2, F⟩ := F
    refine pv_idiv q2 dX12_find_195 ?_
    refine pv_icmp_ge (tgt := 209) dX12_find_196 (by decide) (fun c2 => ?_) (fun c2 => ?_)
    · have F := F.1 c2
      refine pv_iload_n dX12_find_209 rfl ?_
      refine pv_iload dX12_find_210 rfl ?_
      obtain ⟨q3, F⟩ := F
      refine pv_idiv q3 dX12_find_212 ?_
      refine pv_istore (ls' := [some (.ref 200), none, some (.int x2), some (.int x3), some (.int x4), some (.int x5), some (.int (x3 / x5))]) dX12_find_213 (by decide) rfl rfl ?_
      exact F
    · have F := F.2 c2
      refine pv_aload_n dX12_find_199 rfl ?_
      refine pv_getRk 12 14 dX12_find_200 fl_X12_42 rfl (lt_200 hL) (lr_200_14 hL) ?_
      refine pv_iload dX12_find_203 rfl ?_
      obtain ⟨q4, F⟩ := F
      refine pv_iald dX12_find_205 (lt_314 hL) q4 ?_
      refine pv_goto (tgt := 213) dX12_find_206 (by decide) ?_
      refine pv_istore (ls' := [some (.ref 200), none, some (.int x2), some (.int x3), some (.int x4), some (.int x5), some (.int (h 314 (Int32.toNatClampNeg x5)))]) dX12_find_213 (by decide) rfl rfl ?_
      exact F
set_option maxRecDepth 20000 in
set_option maxHeartbeats 4000000 in
theorem sg_X12_find_51 {Γ : pv_C} {d kc ks : Nat} {ty : pv_T} {h : pv_H} {r : pv_R} {g : pv_G} {Q : pv_Q} (x1 : Int32) (x2 : Int32) (x3 : Int32) (x4 : Int32) (x5 : Int32) (hL : pv_Lay ty r) (F : vp_in x2 10 ∧ (((h 314 (Int32.toNatClampNeg x2)) < x5 → vp_in ((61 * x2) + x3) 610 ∧ (∀ h1 : pv_H, h1 = pv_up h 318 (Int32.toNatClampNeg ((61 * x2) + x3)) x4 → pv_E Γ d kc ks mX12_find 39 [some (.ref 200), some (.int x1), some (.int x2), some (.int (x3 + 1)), none, none, none] [] ty h1 r g Q)) ∧ (¬ (h 314 (Int32.toNatClampNeg x2)) < x5 → ((x3 < (x5 * x2) → vp_in ((61 * x2) + x3) 610 ∧ (∀ h2 : pv_H, h2 = pv_up h 318 (Int32.toNatClampNeg ((61 * x2) + x3)) x4 → pv_E Γ d kc ks mX12_find 39 [some (.ref 200), some (.int x1), some (.int x2), some (.int (x3 + 1)), none, none, none] [] ty h2 r g Q)) ∧ (¬ x3 < (x5 * x2) → vp_in (((61 * (x2 - 1)) + x3) - (x5 * x2)) 610 ∧ ((x4 ≤ ((h 318 (Int32.toNatClampNeg (((61 * (x2 - 1)) + x3) - (x5 * x2)))) + x5) → pv_E Γ d kc ks mX12_find 51 [some (.ref 200), some (.int x1), some (.int x2), some (.int x3), some (.int x4), some (.int (x5 + 1)), none] [] ty h r g Q) ∧ (¬ x4 ≤ ((h 318 (Int32.toNatClampNeg (((61 * (x2 - 1)) + x3) - (x5 * x2)))) + x5) → vp_in (((61 * (x2 - 1)) + x3) - (x5 * x2)) 610 ∧ pv_E Γ d kc ks mX12_find 51 [some (.ref 200), some (.int x1), some (.int x2), some (.int x3), some (.int ((h 318 (Int32.toNatClampNeg (((61 * (x2 - 1)) + x3) - (x5 * x2)))) + x5)), some (.int (x5 + 1)), none] [] ty h r g Q))))))) : pv_E Γ d kc ks mX12_find 51 [some (.ref 200), some (.int x1), some (.int x2), some (.int x3), some (.int x4), some (.int x5), none] [] ty h r g Q := by
  refine pv_iload dX12_find_51 rfl ?_
  refine pv_aload_n dX12_find_53 rfl ?_
  refine pv_getRk 12 14 dX12_find_54 fl_X12_42 rfl (lt_200 hL) (lr_200_14 hL) ?_
  refine pv_iload_n dX12_find_57 rfl ?_
  obtain ⟨q1, F⟩ := F
  refine pv_iald dX12_find_58 (lt_314 hL) q1 ?_
  refine pv_icmp_gt (tgt := 125) dX12_find_59 (by decide) (fun c1 => ?_) (fun c1 => ?_)
  · have F := F.1 c1
    refine pv_aload_n dX12_find_125 rfl ?_
    refine pv_getRk 12 18 dX12_find_126 fl_X12_51 rfl (lt_200 hL) (lr_200_18 hL) ?_
    refine pv_bipush (v := 61) (by decide) dX12_find_129 ?_
    refine pv_iload_n dX12_find_131 rfl ?_
    refine pv_imul dX12_find_132 ?_
    refine pv_iload_n dX12_find_133 rfl ?_
    refine pv_pc (pc' := 134) rfl ?_
    refine pv_iadd dX12_find_134 ?_
    refine pv_iload dX12_find_135 rfl ?_
    obtain ⟨q2, F⟩ := F
    obtain ⟨h1, eh1⟩ : ∃ h1 : pv_H, h1 = pv_up h 318 (Int32.toNatClampNeg ((61 * x2) + x3)) x4 := ⟨_, rfl⟩
    have F := F h1 eh1
    refine pv_iast dX12_find_137 (lt_318 hL) (by decide) q2 ?_
    refine pv_hE eh1 ?_
    refine pv_iinc (v := x3 + 1) (ls' := [some (.ref 200), some (.int x1), some (.int x2), some (.int (x3 + 1)), some (.int x4), some (.int x5), none]) dX12_find_138 rfl (by rfl) rfl rfl ?_
    refine pv_goto (tgt := 39) dX12_find_141 (by decide) ?_
    refine pv_forgetL (ls' := [some (.ref 200), some (.int x1), some (.int x2), some (.int (x3 + 1)), none, none, none]) (pv_subL_ok ⟨rfl, ⟨rfl, ⟨rfl, ⟨rfl, trivial⟩⟩⟩⟩) ?_
    exact F
  · have F := F.2 c1
    refine pv_iload dX12_find_62 rfl ?_
    refine pv_iload_n dX12_find_64 rfl ?_
    refine pv_imul dX12_find_65 ?_
    refine pv_iload_n dX12_find_66 rfl ?_
    refine pv_icmp_gt (tgt := 125) dX12_find_67 (by decide) (fun c2 => ?_) (fun c2 => ?_)
    · have F := F.1 c2
      refine pv_aload_n dX12_find_125 rfl ?_
      refine pv_getRk 12 18 dX12_find_126 fl_X12_51 rfl (lt_200 hL) (lr_200_18 hL) ?_
      refine pv_bipush (v := 61) (by decide) dX12_find_129 ?_
      refine pv_iload_n dX12_find_131 rfl ?_
      refine pv_imul dX12_find_132 ?_
      refine pv_iload_n dX12_find_133 rfl ?_
      refine pv_pc (pc' := 134) rfl ?_
      refine pv_iadd dX12_find_134 ?_
      refine pv_iload dX12_find_135 rfl ?_
      obtain ⟨q3, F⟩ := F
      obtain ⟨h2, eh2⟩ : ∃ h2 : pv_H, h2 = pv_up h 318 (Int32.toNatClampNeg ((61 * x2) + x3)) x4 := ⟨_, rfl⟩
      have F := F h2 eh2
      refine pv_iast dX12_find_137 (lt_318 hL) (by decide) q3 ?_
      refine pv_hE eh2 ?_
      refine pv_iinc (v := x3 + 1) (ls' := [some (.ref 200), some (.int x1), some (.int x2), some (.int (x3 + 1)), some (.int x4), some (.int x5), none]) dX12_find_138 rfl (by rfl) rfl rfl ?_
      refine pv_goto (tgt := 39) dX12_find_141 (by decide) ?_
      refine pv_forgetL (ls' := [some (.ref 200), some (.int x1), some (.int x2), some (.int (x3 + 1)), none, none, none]) (pv_subL_ok ⟨rfl, ⟨rfl, ⟨rfl, ⟨rfl, trivial⟩⟩⟩⟩) ?_
      exact F
    · have F := F.2 c2
      refine pv_aload_n dX12_find_70 rfl ?_
      refine pv_getRk 12 18 dX12_find_71 fl_X12_51 rfl (lt_200 hL) (lr_200_18 hL) ?_
      refine pv_bipush (v := 61) (by decide) dX12_find_74 ?_
      refine pv_iload_n dX12_find_76 rfl ?_
      refine pv_iconst (v := 1) (by decide) dX12_find_77 ?_
      refine pv_isub dX12_find_78 ?_
      refine pv_pc (pc' := 79) rfl ?_
      refine pv_imul dX12_find_79 ?_
      refine pv_iload_n dX12_find_80 rfl ?_
      refine pv_iadd dX12_find_81 ?_
      refine pv_iload dX12_find_82 rfl ?_
      refine pv_iload_n dX12_find_84 rfl ?_
      refine pv_imul dX12_find_85 ?_
      refine pv_pc (pc' := 86) rfl ?_
      refine pv_isub dX12_find_86 ?_
      obtain ⟨q4, F⟩ := F
      refine pv_iald dX12_find_87 (lt_318 hL) q4 ?_
      refine pv_iload dX12_find_88 rfl ?_
      refine pv_iadd dX12_find_90 ?_
      refine pv_iload dX12_find_91 rfl ?_
      refine pv_icmp_ge (tgt := 119) dX12_find_93 (by decide) (fun c3 => ?_) (fun c3 => ?_)
      · have F := F.1 c3
        refine pv_iinc (v := x5 + 1) (ls' := [some (.ref 200), some (.int x1), some (.int x2), some (.int x3), some (.int x4), some (.int (x5 + 1)), none]) dX12_find_119 rfl (by rfl) rfl rfl ?_
        refine pv_goto (tgt := 51) dX12_find_122 (by decide) ?_
        exact F
      · have F := F.2 c3
        refine pv_aload_n dX12_find_96 rfl ?_
        refine pv_getRk 12 18 dX12_find_97 fl_X12_51 rfl (lt_200 hL) (lr_200_18 hL) ?_
        refine pv_bipush (v := 61) (by decide) dX12_find_100 ?_
        refine pv_iload_n dX12_find_102 rfl ?_
        refine pv_iconst (v := 1) (by decide) dX12_find_103 ?_
        refine pv_isub dX12_find_104 ?_
        refine pv_pc (pc' := 105) rfl ?_
        refine pv_imul dX12_find_105 ?_
        refine pv_iload_n dX12_find_106 rfl ?_
        refine pv_iadd dX12_find_107 ?_
        refine pv_iload dX12_find_108 rfl ?_
        refine pv_iload_n dX12_find_110 rfl ?_
        refine pv_imul dX12_find_111 ?_
        refine pv_pc (pc' := 112) rfl ?_
        refine pv_isub dX12_find_112 ?_
        obtain ⟨q5, F⟩ := F
        refine pv_iald dX12_find_113 (lt_318 hL) q5 ?_
        refine pv_iload dX12_find_114 rfl ?_
        refine pv_iadd dX12_find_116 ?_
        refine pv_istore (ls' := [some (.ref 200), some (.int x1), some (.int x2), some (.int x3), some (.int ((h 318 (Int32.toNatClampNeg (((61 * (x2 - 1)) + x3) - (x5 * x2)))) + x5)), some (.int x5), none]) dX12_find_117 (by decide) rfl rfl ?_
        refine pv_iinc (v := x5 + 1) (ls' := [some (.ref 200), some (.int x1), some (.int x2), some (.int x3), some (.int ((h 318 (Int32.toNatClampNeg (((61 * (x2 - 1)) + x3) - (x5 * x2)))) + x5)), some (.int (x5 + 1)), none]) dX12_find_119 rfl (by rfl) rfl rfl ?_
        refine pv_goto (tgt := 51) dX12_find_122 (by decide) ?_
        exact F
set_option maxRecDepth 20000 in
set_option maxHeartbeats 4000000 in
theorem sg_X12_find_215 {Γ : pv_C} {d kc ks : Nat} {ty : pv_T} {h : pv_H} {r : pv_R} {g : pv_G} {Q : pv_Q} (x2 : Int32) (x3 : Int32) (x4 : Int32) (x5 : Int32) (x6 : Int32) (hL : pv_Lay ty r) (F : vp_in (((61 * (x5 - 1)) + x3) - (x6 * x5)) 610 ∧ ((((h 318 (Int32.toNatClampNeg (((61 * (x5 - 1)) + x3) - (x6 * x5)))) + x6) = x4 → vp_in x5 10 ∧ (∀ h1 : pv_H, h1 = pv_up h 315 (Int32.toNatClampNeg x5) x6 → pv_E Γ d kc ks mX12_find 179 [some (.ref 200), none, some (.int x2), some (.int (x3 - (x6 * x5))), some (.int (x4 - x6)), some (.int (x5 + (-1))), none] [] ty h1 r g Q)) ∧ (¬ ((h 318 (Int32.toNatClampNeg (((61 * (x5 - 1)) + x3) - (x6 * x5)))) + x6) = x4 → pv_E Γ d kc ks mX12_find 215 [some (.ref 200), none, some (.int x2), some (.int x3), some (.int x4), some (.int x5), some (.int (x6 + (-1)))] [] ty h r g Q))) : pv_E Γ d kc ks mX12_find 215 [some (.ref 200), none, some (.int x2), some (.int x3), some (.int x4), some (.int x5), some (.int x6)] [] ty h r g Q := by
  refine pv_aload_n dX12_find_215 rfl ?_
  refine pv_getRk 12 18 dX12_find_216 fl_X12_51 rfl (lt_200 hL) (lr_200_18 hL) ?_
  refine pv_bipush (v := 61) (by decide) dX12_find_219 ?_
  refine pv_iload dX12_find_221 rfl ?_
  refine pv_iconst (v := 1) (by decide) dX12_find_223 ?_
  refine pv_isub dX12_find_224 ?_
  refine pv_pc (pc' := 225) rfl ?_
  refine pv_imul dX12_find_225 ?_
  refine pv_iload_n dX12_find_226 rfl ?_
  refine pv_iadd dX12_find_227 ?_
  refine pv_iload dX12_find_228 rfl ?_
  refine pv_iload dX12_find_230 rfl ?_
  refine pv_imul dX12_find_232 ?_
  refine pv_pc (pc' := 233) rfl ?_
  refine pv_isub dX12_find_233 ?_
  obtain ⟨q1, F⟩ := F
  refine pv_iald dX12_find_234 (lt_318 hL) q1 ?_
  refine pv_iload dX12_find_235 rfl ?_
  refine pv_iadd dX12_find_237 ?_
  refine pv_iload dX12_find_238 rfl ?_
  refine pv_icmp_eq (tgt := 249) dX12_find_240 (by decide) (fun c1 => ?_) (fun c1 => ?_)
  · have F := F.1 c1
    refine pv_aload_n dX12_find_249 rfl ?_
    refine pv_getRk 12 15 dX12_find_250 fl_X12_45 rfl (lt_200 hL) (lr_200_15 hL) ?_
    refine pv_iload dX12_find_253 rfl ?_
    refine pv_iload dX12_find_255 rfl ?_
    obtain ⟨q2, F⟩ := F
    obtain ⟨h1, eh1⟩ : ∃ h1 : pv_H, h1 = pv_up h 315 (Int32.toNatClampNeg x5) x6 := ⟨_, rfl⟩
    have F := F h1 eh1
    refine pv_iast dX12_find_257 (lt_315 hL) (by decide) q2 ?_
    refine pv_hE eh1 ?_
    refine pv_iload_n dX12_find_258 rfl ?_
    refine pv_iload dX12_find_259 rfl ?_
    refine pv_iload dX12_find_261 rfl ?_
    refine pv_imul dX12_find_263 ?_
    refine pv_isub dX12_find_264 ?_
    refine pv_istore_n (ls' := [some (.ref 200), none, some (.int x2), some (.int (x3 - (x6 * x5))), some (.int x4), some (.int x5), some (.int x6)]) dX12_find_265 (by decide) rfl rfl ?_
    refine pv_pc (pc' := 266) rfl ?_
    refine pv_iload dX12_find_266 rfl ?_
    refine pv_iload dX12_find_268 rfl ?_
    refine pv_isub dX12_find_270 ?_
    refine pv_istore (ls' := [some (.ref 200), none, some (.int x2), some (.int (x3 - (x6 * x5))), some (.int (x4 - x6)), some (.int x5), some (.int x6)]) dX12_find_271 (by decide) rfl rfl ?_
    refine pv_iinc (v := x5 + (-1)) (ls' := [some (.ref 200), none, some (.int x2), some (.int (x3 - (x6 * x5))), some (.int (x4 - x6)), some (.int (x5 + (-1))), some (.int x6)]) dX12_find_273 rfl (by rfl) rfl rfl ?_
    refine pv_goto (tgt := 179) dX12_find_276 (by decide) ?_
    refine pv_forgetL (ls' := [some (.ref 200), none, some (.int x2), some (.int (x3 - (x6 * x5))), some (.int (x4 - x6)), some (.int (x5 + (-1))), none]) (pv_subL_ok ⟨rfl, ⟨rfl, ⟨rfl, ⟨rfl, ⟨rfl, trivial⟩⟩⟩⟩⟩) ?_
    exact F
  · have F := F.2 c1
    refine pv_iinc (v := x6 + (-1)) (ls' := [some (.ref 200), none, some (.int x2), some (.int x3), some (.int x4), some (.int x5), some (.int (x6 + (-1)))]) dX12_find_243 rfl (by rfl) rfl rfl ?_
    refine pv_goto (tgt := 215) dX12_find_246 (by decide) ?_
    exact F
section YF
variable {Γ : pv_C} {d kc ks : Nat} {ty : pv_T} {h h0 : pv_H} {r : pv_R} {g : pv_G} {Q : pv_Q} {st : Nat → Nat} {s v w : Nat}
abbrev yA : Nat → Nat → Prop := fun a _ => a = 318 ∨ a = 315
theorem yd_st_fr {a : Nat} {A : Nat → Nat → Prop} (hf : pv_fr A h0 h) (hA : ∀ j, ¬ A a j) (t : yd_st st h0 a) : yd_st st h a := fun i hi => ⟨(t i hi).1, (hf a i (hA i)).trans (t i hi).2⟩
theorem yf_51 (hL : pv_Lay ty r) (hs : s < 9) (hv : v ≤ w) (hw : w ≤ 60) (hst : yd_st st h 314) (hG : ∀ u, u ≤ w → h 318 (61 * s + u) = nI (yd_F st s u)) (hE : pv_E Γ d kc ks mX12_find 39 [some (.ref 200), some (.int (nI w)), some (.int (nI (s + 1))), some (.int (nI (v + 1))), none, none, none] [] ty (pv_up h 318 (61 * (s + 1) + v) (nI (yd_F st (s + 1) v))) r g Q) : ∀ (m k : Nat), k + m = yd_K st (s + 1) v → pv_E Γ d kc ks mX12_find 51 [some (.ref 200), some (.int (nI w)), some (.int (nI (s + 1))), some (.int (nI v)), some (.int (nI (yd_mn (yd_F st s) (s + 1) v k))), some (.int (nI k)), none] [] ty h r g Q := by
  intro m
  have h314 : h 314 (nI (s + 1)).toNatClampNeg = nI (st (s + 1)) := by rw [nI_clamp (by omega)]; exact (hst (s + 1) (by omega)).2
  have hle := (hst (s + 1) (by omega)).1
  have hi : vp_in (nI (s + 1)) 10 := vp_in_nI (by omega) (by decide)
  have hj : vp_in (61 * nI (s + 1) + nI v) 610 := by rw [ni_61]; exact vp_in_nI (by omega) (by decide)
  have hKb : yd_K st (s + 1) v ≤ 1000 := by unfold yd_K; omega
  have ex : ∀ k, k = yd_K st (s + 1) v → vp_in (61 * nI (s + 1) + nI v) 610 ∧ (∀ h1 : pv_H, h1 = pv_up h 318 (Int32.toNatClampNeg ((61 * nI (s + 1)) + nI v)) (nI (yd_mn (yd_F st s) (s + 1) v k)) → pv_E Γ d kc ks mX12_find 39 [some (.ref 200), some (.int (nI w)), some (.int (nI (s + 1))), some (.int (nI v + 1)), none, none, none] [] ty h1 r g Q) := fun k hk => ⟨hj, fun h1 e1 => by
    rw [e1, ni_61, nI_clamp (by omega), hk, nI_1]; exact hE⟩
  induction m with
  | zero =>
    intro k hk
    have hKi := yd_K_iff (st := st) (s := s) (v := v) (k := k)
    have hks : k * (s + 1) ≤ 1000 * 9 := Nat.mul_le_mul (by omega) (by omega)
    refine sg_X12_find_51 _ _ _ _ _ hL ⟨hi, pk_lt (st (s + 1)) k (fun _ => ex k (by omega)) (fun c1 => pk_lt v (k * (s + 1)) (fun _ => ex k (by omega)) (fun c2 => absurd (hKi.mpr ⟨c1, c2⟩) (by omega)) rfl (pk_mul _ _)) h314⟩
  | succ m ih =>
    intro k hk
    have hKi := (yd_K_iff (st := st) (s := s) (v := v) (k := k)).mp (by omega)
    have hks : k * (s + 1) ≤ 1000 * 9 := Nat.mul_le_mul (by omega) (by omega)
    have hj2 : vp_in (61 * (nI (s + 1) - 1) + nI v - nI k * nI (s + 1)) 610 := by rw [yi_1 hKi.2]; exact vp_in_nI (by omega) (by decide)
    have hi' := ih (k + 1) (by omega)
    have e1 : yd_mn (yd_F st s) (s + 1) v (k + 1) = min (yd_mn (yd_F st s) (s + 1) v k) (yd_F st s (v - k * (s + 1)) + k) := rfl
    have b1 := yd_mn_le (yd_F st s) (s + 1) v k
    have b2 := yd_F_le st s (v - k * (s + 1))
    have e2 : h 318 (Int32.toNatClampNeg (61 * (nI (s + 1) - 1) + nI v - nI k * nI (s + 1))) + nI k = nI (yd_F st s (v - k * (s + 1)) + k) := by
      rw [yi_1 hKi.2, nI_clamp (by omega), hG _ (by omega), nI_add]
    refine sg_X12_find_51 _ _ _ _ _ hL ⟨hi, pk_lt (st (s + 1)) k (fun c1 => absurd hKi.1 (by omega)) (fun c1 => pk_lt v (k * (s + 1)) (fun c2 => absurd hKi.2 (by omega)) (fun c2 => ⟨hj2, ?_⟩) rfl (pk_mul _ _)) h314⟩
    rw [e2, nI_1]
    refine pk_le _ _ (fun c3 => ?_) (fun c3 => ⟨hj2, ?_⟩)
    · rw [e1, Nat.min_eq_left c3] at hi'; exact hi'
    · rw [e1, Nat.min_eq_right (by omega)] at hi'; exact hi'
theorem yf_39 (hL : pv_Lay ty r) (hs : s < 9) (hw : w ≤ 60) (hst : yd_st st h0 314) (hE : ∀ h', pv_fr yA h0 h' → yd_tb st h' 318 w (s + 2) 0 → pv_E Γ d kc ks mX12_find 31 [some (.ref 200), some (.int (nI w)), some (.int (nI (s + 2))), none, none, none, none] [] ty h' r g Q) : ∀ (m v : Nat) (h : pv_H), v + m = w + 1 → pv_fr yA h0 h → yd_tb st h 318 w (s + 1) v → pv_E Γ d kc ks mX12_find 39 [some (.ref 200), some (.int (nI w)), some (.int (nI (s + 1))), some (.int (nI v)), none, none, none] [] ty h r g Q := by
  intro m
  induction m with
  | zero =>
    intro v h hv hf t
    refine sg_X12_find_39 _ _ _ (pk_lt w v (fun _ => ?_) (fun c => absurd hv (by omega)))
    rw [nI_1]
    rw [show v = w + 1 by omega] at t
    exact hE h hf (yd_tb_nx t)
  | succ m ih =>
    intro v h hv hf t
    refine sg_X12_find_39 _ _ _ (pk_lt w v (fun c => absurd c (by omega)) (fun c => ?_))
    exact yf_51 hL hs (by omega) hw (yd_st_fr hf (fun j => by simp) hst) (fun u hu => t.1 s u (by omega) hu) (ih (v + 1) _ (by omega) (pv_fr_up hf (Or.inl rfl)) (yd_tb_up hw (by omega) t)) _ 0 (Nat.zero_add _)
theorem yf_31 (hL : pv_Lay ty r) (hw : w ≤ 60) (hst : yd_st st h0 314) (hE : ∀ h', pv_fr yA h0 h' → yd_tb st h' 318 w 10 0 → pv_E Γ d kc ks mX12_find 31 [some (.ref 200), some (.int (nI w)), some (.int (nI 10)), none, none, none, none] [] ty h' r g Q) : ∀ (m s : Nat) (h : pv_H), s + m = 9 → pv_fr yA h0 h → yd_tb st h 318 w (s + 1) 0 → pv_E Γ d kc ks mX12_find 31 [some (.ref 200), some (.int (nI w)), some (.int (nI (s + 1))), none, none, none, none] [] ty h r g Q := by
  intro m
  induction m with
  | zero =>
    intro s h hs hf t
    rw [show s = 9 by omega] at t ⊢
    exact hE h hf t
  | succ m ih =>
    intro s h hs hf t
    refine sg_X12_find_31 _ _ hL (pk_lt 9 (s + 1) (fun c => absurd c (by omega)) (fun c => ?_))
    exact yf_39 hL (by omega) hw hst (fun h' f' t' => ih (s + 1) h' (by omega) f' t') (w + 1) 0 h (by omega) hf t
theorem yf_2 (hL : pv_Lay ty r) (hw : w ≤ 60) (hE : ∀ h', pv_fr yA h0 h' → yd_tb st h' 318 w 1 0 → pv_E Γ d kc ks mX12_find 31 [some (.ref 200), some (.int (nI w)), some (.int (nI 1)), none, none, none, none] [] ty h' r g Q) : ∀ (m v : Nat) (h : pv_H), v + m = w + 1 → pv_fr yA h0 h → yd_tb st h 318 w 0 v → pv_E Γ d kc ks mX12_find 2 [some (.ref 200), some (.int (nI w)), some (.int (nI v)), none, none, none, none] [] ty h r g Q := by
  intro m
  induction m with
  | zero =>
    intro v h hv hf t
    refine sg_X12_find_2 _ _ hL (pk_lt w v (fun _ => ?_) (fun c => absurd hv (by omega)))
    rw [show v = w + 1 by omega] at t
    exact hE h hf (yd_tb_nx t)
  | succ m ih =>
    intro v h hv hf t
    have hi : vp_in (nI v) 610 := vp_in_nI (by omega) (by decide)
    have t' := yd_tb_up hw (show v ≤ w by omega) t
    have hi' := ih (v + 1) _ (by omega) (pv_fr_up hf (Or.inl rfl)) t'
    rw [Nat.mul_zero, Nat.zero_add] at hi'
    refine sg_X12_find_2 _ _ hL (pk_lt w v (fun c => absurd c (by omega)) (fun c => pj_eq v 0 (fun c1 => ⟨hi, fun h1 e1 => ?_⟩) (fun c1 => ⟨hi, fun h1 e1 => ?_⟩)))
    · rw [e1, nI_1, nI_clamp (by omega)]
      have e2 : yd_F st 0 v = 0 := by unfold yd_F; rw [if_pos c1]
      rw [e2] at hi'; exact hi'
    · rw [e1, nI_1, nI_clamp (by omega)]
      have e2 : yd_F st 0 v = 1000000 := by unfold yd_F; rw [if_neg c1]
      rw [e2] at hi'; exact hi'
/-- the choice -/
theorem yf_215 (hL : pv_Lay ty r) {l : Nat} (hs : s < 9) (hl : l ≤ w) (hw : w ≤ 60) (hst : yd_st st h 314) (hG : ∀ u, u ≤ w → h 318 (61 * s + u) = nI (yd_F st s u)) {x : Int32} (hE : pv_E Γ d kc ks mX12_find 179 [some (.ref 200), none, some (.int x), some (.int (nI (l - yd_B st s l * (s + 1)))), some (.int (nI (yd_F st s (l - yd_B st s l * (s + 1))))), some (.int (nI s)), none] [] ty (pv_up h 315 (s + 1) (nI (yd_B st s l))) r g Q) : ∀ (m : Nat), yd_B st s l + m < yd_K st (s + 1) l → pv_E Γ d kc ks mX12_find 215 [some (.ref 200), none, some (.int x), some (.int (nI l)), some (.int (nI (yd_F st (s + 1) l))), some (.int (nI (s + 1))), some (.int (nI (yd_B st s l + m)))] [] ty h r g Q := by
  intro m
  have hB := yd_F_B st s l
  have hle := (hst (s + 1) (by omega)).1
  have hKb : yd_K st (s + 1) l ≤ 1000 := by unfold yd_K; omega
  have bF := yd_F_le st (s + 1) l
  induction m with
  | zero =>
    intro hm
    have hKi := (yd_K_iff (st := st) (s := s) (v := l)).mp hm
    simp only [Nat.add_zero] at hKi hm ⊢
    have hj2 : vp_in (61 * (nI (s + 1) - 1) + nI l - nI (yd_B st s l) * nI (s + 1)) 610 := by rw [yi_1 hKi.2]; exact vp_in_nI (by omega) (by decide)
    refine sg_X12_find_215 _ _ _ _ _ hL ⟨hj2, ?_⟩
    have e2 : h 318 (Int32.toNatClampNeg (61 * (nI (s + 1) - 1) + nI l - nI (yd_B st s l) * nI (s + 1))) + nI (yd_B st s l) = nI (yd_F st (s + 1) l) := by
      rw [yi_1 hKi.2, nI_clamp (by omega), hG _ (by omega), nI_add, ← hB.1]
    rw [e2]
    refine ⟨fun _ => ⟨vp_in_nI (by omega) (by decide), fun h1 e1 => ?_⟩, fun c => absurd rfl c⟩
    rw [e1, nI_clamp (by omega), pk_mul, pk_sub hKi.2, pk_m1, pk_sub (by omega), show yd_F st (s + 1) l - yd_B st s l = yd_F st s (l - yd_B st s l * (s + 1)) by omega]
    exact hE
  | succ m ih =>
    intro hm
    have hKi := (yd_K_iff (st := st) (s := s) (v := l)).mp hm
    have hj2 : vp_in (61 * (nI (s + 1) - 1) + nI l - nI (yd_B st s l + (m + 1)) * nI (s + 1)) 610 := by rw [yi_1 hKi.2]; exact vp_in_nI (by omega) (by decide)
    have hgt := yd_B_gt (st := st) (s := s) (v := l) (n := yd_B st s l + (m + 1)) (by omega) hm
    have b2 := yd_F_le st s (l - (yd_B st s l + (m + 1)) * (s + 1))
    refine sg_X12_find_215 _ _ _ _ _ hL ⟨hj2, ?_⟩
    have e2 : h 318 (Int32.toNatClampNeg (61 * (nI (s + 1) - 1) + nI l - nI (yd_B st s l + (m + 1)) * nI (s + 1))) + nI (yd_B st s l + (m + 1)) = nI (yd_F st s (l - (yd_B st s l + (m + 1)) * (s + 1)) + (yd_B st s l + (m + 1))) := by
      rw [yi_1 hKi.2, nI_clamp (by omega), hG _ (by omega), nI_add]
    rw [e2, show nI (yd_B st s l + (m + 1)) + (-1) = nI (yd_B st s l + m) from pk_m1 _]
    exact pk_eq (yd_F st s (l - (yd_B st s l + (m + 1)) * (s + 1)) + (yd_B st s l + (m + 1))) (yd_F st (s + 1) l) (fun c => absurd c (by omega)) (fun _ => ih (by omega))
theorem yf_179 (hL : pv_Lay ty r) (hw : w ≤ 60) (hst : yd_st st h0 314) {x : Int32} (hQ : ∀ h', pv_fr yA h0 h' → (∀ j, j < 9 → h' 315 (9 - j) = nI (yd_T st w j)) → Q (some (.int x)) ty h' r g) : ∀ (m j : Nat) (h : pv_H), j + m = 9 → pv_fr yA h0 h → yd_tb st h 318 w 10 0 → (∀ i, i < j → h 315 (9 - i) = nI (yd_T st w i)) → pv_E Γ d kc ks mX12_find 179 [some (.ref 200), none, some (.int x), some (.int (nI (yd_l st w j))), some (.int (nI (yd_F st (9 - j) (yd_l st w j)))), some (.int (nI (9 - j))), none] [] ty h r g Q := by
  intro m
  induction m with
  | zero =>
    intro j h hj hf t hT
    rw [show j = 9 by omega] at hT ⊢
    exact sg_X12_find_179 _ _ _ _ hL (pk_lt 0 1 (fun _ => hQ h hf hT) (fun c => absurd c (by omega)))
  | succ m ih =>
    intro j h hj hf t hT
    have hl := yd_l_le st w j
    rw [show 9 - j = 8 - j + 1 by omega]
    obtain ⟨s, hs⟩ : ∃ s, s = 8 - j := ⟨_, rfl⟩
    have hB := yd_F_B st s (yd_l st w j)
    have hst' := yd_st_fr hf (fun j => by simp) hst
    have hle := (hst' (s + 1) (by omega)).1
    have hi : vp_in (nI (s + 1)) 10 := vp_in_nI (by omega) (by decide)
    have hn0 : ¬ nI (s + 1) = 0 := nI_ne0 (by omega) (by omega)
    have h314 : h 314 (nI (s + 1)).toNatClampNeg = nI (st (s + 1)) := by rw [nI_clamp (by omega)]; exact (hst' (s + 1) (by omega)).2
    have hd : yd_l st w j / (s + 1) ≤ 60 := Nat.le_trans (Nat.div_le_self _ _) (by omega)
    have key : pv_E Γ d kc ks mX12_find 215 [some (.ref 200), none, some (.int x), some (.int (nI (yd_l st w j))), some (.int (nI (yd_F st (s + 1) (yd_l st w j)))), some (.int (nI (s + 1))), some (.int (nI (min (st (s + 1)) (yd_l st w j / (s + 1)))))] [] ty h r g Q := by
      have hK : yd_K st (s + 1) (yd_l st w j) = min (st (s + 1)) (yd_l st w j / (s + 1)) + 1 := rfl
      have k1 := yf_215 (Γ := Γ) (d := d) (kc := kc) (ks := ks) (Q := Q) (g := g) (h := h) hL (s := s) (l := yd_l st w j) (by omega) hl hw hst' (fun u hu => t.1 s u (by omega) hu) (x := x) (by
        have h1 := ih (j + 1) (pv_up h 315 (s + 1) (nI (yd_B st s (yd_l st w j)))) (by omega) (pv_fr_up hf (Or.inr rfl)) ⟨fun s' u a b => by rw [pv_up_a (by decide)]; exact t.1 s' u a b, fun u hu => absurd hu (by omega)⟩ (fun i hi => by
          by_cases q : i = j
          · rw [q, show 9 - j = s + 1 by omega, pv_up_same, hs]; rfl
          · rw [pv_up_j (by omega)]; exact hT i (by omega))
        have e3 : yd_l st w (j + 1) = yd_l st w j - yd_B st s (yd_l st w j) * (s + 1) := by rw [hs]; rfl
        rw [e3, show 9 - (j + 1) = s by omega] at h1
        exact h1) (min (st (s + 1)) (yd_l st w j / (s + 1)) - yd_B st s (yd_l st w j)) (by omega)
      rw [show yd_B st s (yd_l st w j) + (min (st (s + 1)) (yd_l st w j / (s + 1)) - yd_B st s (yd_l st w j)) = min (st (s + 1)) (yd_l st w j / (s + 1)) by omega] at k1
      exact k1
    rw [← hs]
    refine sg_X12_find_179 _ _ _ _ hL (pk_lt (s + 1) 1 (fun c => absurd c (by omega)) (fun _ => ⟨hi, hn0, ?_⟩))
    rw [h314, pk_div (by omega) (by omega) (by omega)]
    refine pk_le _ _ (fun c => ⟨hn0, ?_⟩) (fun c => ⟨hi, ?_⟩)
    · rw [Nat.min_eq_right c] at key; exact key
    · rw [Nat.min_eq_left (by omega)] at key; exact key
theorem ct_X12_find (hL : pv_Lay ty r) (hw : w ≤ 60) (hst : yd_st st h 314) : pv_CJ Γ d mX12_find [.ref 200, .int (nI w)] ty h r g (fun x h' => pv_fr yA h h' ∧ (yd_F st 9 w < 1000000 → x = nI (yd_F st 9 w) ∧ ∀ j, j < 9 → h' 315 (9 - j) = nI (yd_T st w j)) ∧ (¬ yd_F st 9 w < 1000000 → x = -2)) := by
  refine pv_fn 5 pn_X12 rfl (Nat.le_of_ble_eq_true rfl) (sg_X12_find_0 _ (yf_2 hL hw (fun h1 f1 t1 => yf_31 hL hw hst (fun h2 f2 t2 => ?_) 9 0 h1 rfl f1 t1) (w + 1) 0 h (by omega) (pv_fr_refl _ _) ⟨fun s' u a _ => absurd a (by omega), fun u hu => absurd hu (by omega)⟩))
  have e1 : h2 318 (549 + nI w).toNatClampNeg = nI (yd_F st 9 w) := by
    rw [show (549 : Int32) = nI 549 from rfl, nI_add, nI_clamp (by omega)]
    exact t2.1 9 w (by omega) (Nat.le_refl _)
  have b := yd_F_le st 9 w
  refine sg_X12_find_31 _ _ hL (pk_lt 9 10 (fun _ => ⟨?_, ?_⟩) (fun c => absurd c (by omega)))
  · rw [show (549 : Int32) = nI 549 from rfl, nI_add]; exact vp_in_nI (by omega) (by decide)
  · rw [e1]
    refine pk_lt (yd_F st 9 w) 1000000 (fun c => ?_) (fun c => pv_jqi ⟨f2, fun q => absurd q (by omega), fun _ => rfl⟩)
    exact yf_179 hL hw hst (fun h' f' hT => pv_jqi ⟨f', fun _ => ⟨rfl, hT⟩, fun q => absurd c q⟩) 9 0 h2 rfl f2 t2 (fun i hi => absurd hi (by omega))
end YF
