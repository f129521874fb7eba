/-! the reference's says: what the steps give -/
set_option maxRecDepth 20000 in
set_option maxHeartbeats 4000000 in
theorem sg_X12_says_0 {Γ : pv_C} {d kc ks : Nat} {ty : pv_T} {h : pv_H} {r : pv_R} {g : pv_G} {Q : pv_Q} (x : Int32) (hL : pv_Lay ty r) (F : (∀ h1 : pv_H, h1 = pv_up h 200 54 (-1) → pv_E Γ d kc ks mX12_says 19 [some (.ref 200), some (.int x), some (.int 0), some (.int 0), some (.int 0), some (.int (170 * x)), none] [] ty h1 r g Q)) : pv_E Γ d kc ks mX12_says 0 [some (.ref 200), some (.int x), none, none, none, none, none] [] ty h r g Q := by
  refine pv_iconst (v := 0) (by decide) dX12_says_0 ?_
  refine pv_istore_n (ls' := [some (.ref 200), some (.int x), some (.int 0), none, none, none, none]) dX12_says_1 (by decide) rfl rfl ?_
  refine pv_iconst (v := 0) (by decide) dX12_says_2 ?_
  refine pv_istore_n (ls' := [some (.ref 200), some (.int x), some (.int 0), some (.int 0), none, none, none]) dX12_says_3 (by decide) rfl rfl ?_
  refine pv_iconst (v := 0) (by decide) dX12_says_4 ?_
  refine pv_istore (ls' := [some (.ref 200), some (.int x), some (.int 0), some (.int 0), some (.int 0), none, none]) dX12_says_5 (by decide) rfl rfl ?_
  refine pv_pc (pc' := 7) rfl ?_
  refine pv_aload_n dX12_says_7 rfl ?_
  refine pv_iconst (v := (-1)) (by decide) dX12_says_8 ?_
  obtain ⟨h1, eh1⟩ : ∃ h1 : pv_H, h1 = pv_up h 200 54 (-1) := ⟨_, rfl⟩
  have F := F h1 eh1
  refine pv_putI 12 54 dX12_says_9 fl_X12_291 ⟨_, rfl, Or.inl rfl⟩ (Or.inl rfl) (lt_200 hL) ?_
  refine pv_hE eh1 ?_
  refine pv_sipush (v := 170) (by decide) dX12_says_12 ?_
  refine pv_iload_n dX12_says_15 rfl ?_
  refine pv_imul dX12_says_16 ?_
  refine pv_istore (ls' := [some (.ref 200), some (.int x), some (.int 0), some (.int 0), some (.int 0), some (.int (170 * x)), none]) dX12_says_17 (by decide) rfl rfl ?_
  exact F
set_option maxRecDepth 20000 in
set_option maxHeartbeats 4000000 in
theorem sg_X12_says_19 {Γ : pv_C} {d kc ks : Nat} {ty : pv_T} {h : pv_H} {r : pv_R} {g : pv_G} {Q : pv_Q} (x1 : Int32) (x2 : Int32) (x3 : Int32) (x4 : Int32) (x5 : Int32) (hd : 1 ≤ d) (hL : pv_Lay ty r) (F : vp_in x1 20 ∧ ((((170 * x1) + (h 345 (Int32.toNatClampNeg x1))) ≤ x5 → Q (some (.int 0)) ty h r g) ∧ (¬ ((170 * x1) + (h 345 (Int32.toNatClampNeg x1))) ≤ x5 → vp_in x5 3400 ∧ ((¬ (h 346 (Int32.toNatClampNeg x5)) = 3 → ((¬ (h 346 (Int32.toNatClampNeg x5)) = 2 → (((h 346 (Int32.toNatClampNeg x5)) = 1 → ((¬ (h 346 (Int32.toNatClampNeg x5)) = 1 → vp_in ((h 346 (Int32.toNatClampNeg x5)) - 100) 128 ∧ vp_in x2 170 ∧ (∀ h1 : pv_H, h1 = pv_up h 353 (Int32.toNatClampNeg x2) (h 352 (Int32.toNatClampNeg ((h 346 (Int32.toNatClampNeg x5)) - 100))) → pv_E Γ d kc ks mX12_says 19 [some (.ref 200), some (.int x1), some (.int (x2 + 1)), some (.int x3), some (.int x4), some (.int (x5 + 1)), none] [] ty h1 r g Q)) ∧ ((h 346 (Int32.toNatClampNeg x5)) = 1 → vp_in x5 3400 ∧ vp_in x2 170 ∧ (∀ h2 : pv_H, h2 = pv_up h 353 (Int32.toNatClampNeg x2) (h 347 (Int32.toNatClampNeg x5)) → pv_E Γ d kc ks mX12_says 19 [some (.ref 200), some (.int x1), some (.int (x2 + 1)), some (.int x3), some (.int x4), some (.int (x5 + 1)), none] [] ty h2 r g Q)))) ∧ (¬ (h 346 (Int32.toNatClampNeg x5)) = 1 → (((h 346 (Int32.toNatClampNeg x5)) < 100 → vp_in ((x2 + (-1)) - 1) 170 ∧ vp_in (x2 + (-1)) 170 ∧ pv_CJ Γ (d - 1) mX12_both [.int (h 346 (Int32.toNatClampNeg x5)), .int (h 353 (Int32.toNatClampNeg ((x2 + (-1)) - 1))), .int (h 353 (Int32.toNatClampNeg (x2 + (-1))))] ty h r g (fun (w1 : Int32) (h3 : pv_H) => vp_in ((x2 + (-1)) - 1) 170 ∧ (∀ h4 : pv_H, h4 = pv_up h3 353 (Int32.toNatClampNeg ((x2 + (-1)) - 1)) w1 → pv_E Γ d kc ks mX12_says 19 [some (.ref 200), some (.int x1), some (.int (x2 + (-1))), some (.int x3), some (.int x4), some (.int (x5 + 1)), none] [] ty h4 r g Q))) ∧ (¬ (h 346 (Int32.toNatClampNeg x5)) < 100 → ((¬ (h 346 (Int32.toNatClampNeg x5)) = 1 → vp_in ((h 346 (Int32.toNatClampNeg x5)) - 100) 128 ∧ vp_in x2 170 ∧ (∀ h5 : pv_H, h5 = pv_up h 353 (Int32.toNatClampNeg x2) (h 352 (Int32.toNatClampNeg ((h 346 (Int32.toNatClampNeg x5)) - 100))) → pv_E Γ d kc ks mX12_says 19 [some (.ref 200), some (.int x1), some (.int (x2 + 1)), some (.int x3), some (.int x4), some (.int (x5 + 1)), none] [] ty h5 r g Q)) ∧ ((h 346 (Int32.toNatClampNeg x5)) = 1 → vp_in x5 3400 ∧ vp_in x2 170 ∧ (∀ h6 : pv_H, h6 = pv_up h 353 (Int32.toNatClampNeg x2) (h 347 (Int32.toNatClampNeg x5)) → pv_E Γ d kc ks mX12_says 19 [some (.ref 200), some (.int x1), some (.int (x2 + 1)), some (.int x3), some (.int x4), some (.int (x5 + 1)), none] [] ty h6 r g Q)))))))) ∧ ((h 346 (Int32.toNatClampNeg x5)) = 2 → vp_in 0 170 ∧ ((¬ (h 353 (Int32.toNatClampNeg 0)) = 0 → pv_E Γ d kc ks mX12_says 19 [some (.ref 200), some (.int x1), some (.int 0), some (.int x3), some (.int 0), some (.int (x5 + 1)), none] [] ty h r g Q) ∧ ((h 353 (Int32.toNatClampNeg 0)) = 0 → pv_E Γ d kc ks mX12_says 19 [some (.ref 200), some (.int x1), some (.int 0), some (.int x3), some (.int 1), some (.int (x5 + 1)), none] [] ty h r g Q))))) ∧ ((h 346 (Int32.toNatClampNeg x5)) = 3 → ((¬ x4 = 0 → pv_E Γ d kc ks mX12_says 19 [some (.ref 200), some (.int x1), some (.int 0), some (.int (x3 + 1)), some (.int 0), some (.int (x5 + 1)), none] [] ty h r g Q) ∧ (x4 = 0 → (∀ h7 : pv_H, h7 = pv_up h 200 54 x3 → vp_in 0 170 ∧ Q (some (.int (h7 353 (Int32.toNatClampNeg 0)))) ty h7 r g)))))))) : pv_E Γ d kc ks mX12_says 19 [some (.ref 200), some (.int x1), some (.int x2), some (.int x3), some (.int x4), some (.int x5), none] [] ty h r g Q := by
  refine pv_iload dX12_says_19 rfl ?_
  refine pv_sipush (v := 170) (by decide) dX12_says_21 ?_
  refine pv_iload_n dX12_says_24 rfl ?_
  refine pv_imul dX12_says_25 ?_
  refine pv_aload_n dX12_says_26 rfl ?_
  refine pv_getRk 12 45 dX12_says_27 fl_X12_112 rfl (lt_200 hL) (lr_200_45 hL) ?_
  refine pv_pc (pc' := 30) rfl ?_
  refine pv_iload_n dX12_says_30 rfl ?_
  obtain ⟨q1, F⟩ := F
  refine pv_iald dX12_says_31 (lt_345 hL) q1 ?_
  refine pv_iadd dX12_says_32 ?_
  refine pv_icmp_ge (tgt := 193) dX12_says_33 (by decide) (fun c1 => ?_) (fun c1 => ?_)
  · have F := F.1 c1
    refine pv_iconst (v := 0) (by decide) dX12_says_193 ?_
    exact pv_ireturn dX12_says_194 rfl rfl F
  · have F := F.2 c1
    refine pv_aload_n dX12_says_36 rfl ?_
    refine pv_getRk 12 46 dX12_says_37 fl_X12_115 rfl (lt_200 hL) (lr_200_46 hL) ?_
    refine pv_iload dX12_says_40 rfl ?_
    obtain ⟨q2, F⟩ := F
    refine pv_iald dX12_says_42 (lt_346 hL) q2 ?_
    refine pv_istore (ls' := [some (.ref 200), some (.int x1), some (.int x2), some (.int x3), some (.int x4), some (.int x5), some (.int (h 346 (Int32.toNatClampNeg x5)))]) dX12_says_43 (by decide) rfl rfl ?_
    refine pv_iload dX12_says_45 rfl ?_
    refine pv_iconst (v := 3) (by decide) dX12_says_47 ?_
    refine pv_icmp_ne (tgt := 79) dX12_says_48 (by decide) (fun c2 => ?_) (fun c2 => ?_)
    · have F := F.1 c2
      refine pv_iload dX12_says_79 rfl ?_
      refine pv_iconst (v := 2) (by decide) dX12_says_81 ?_
      refine pv_icmp_ne (tgt := 106) dX12_says_82 (by decide) (fun c3 => ?_) (fun c3 => ?_)
      · have F := F.1 c3
        refine pv_iload dX12_says_106 rfl ?_
        refine pv_iconst (v := 1) (by decide) dX12_says_108 ?_
        refine pv_icmp_eq (tgt := 119) dX12_says_109 (by decide) (fun c4 => ?_) (fun c4 => ?_)
        · have F := F.1 c4
          refine pv_aload_n dX12_says_119 rfl ?_
          refine pv_getRk 12 53 dX12_says_120 fl_X12_127 rfl (lt_200 hL) (lr_200_53 hL) ?_
          refine pv_iload_n dX12_says_123 rfl ?_
          refine pv_iload dX12_says_124 rfl ?_
          refine pv_iconst (v := 1) (by decide) dX12_says_126 ?_
          refine pv_icmp_ne (tgt := 140) dX12_says_127 (by decide) (fun c5 => ?_) (fun c5 => ?_)
          · have F := F.1 c5
            refine pv_aload_n dX12_says_140 rfl ?_
            refine pv_getRk 12 52 dX12_says_141 fl_X12_124 rfl (lt_200 hL) (lr_200_52 hL) ?_
            refine pv_iload dX12_says_144 rfl ?_
            refine pv_bipush (v := 100) (by decide) dX12_says_146 ?_
            refine pv_isub dX12_says_148 ?_
            obtain ⟨q3, F⟩ := F
            refine pv_iald dX12_says_149 (lt_352 hL) q3 ?_
            obtain ⟨q4, F⟩ := F
            obtain ⟨h1, eh1⟩ : ∃ h1 : pv_H, h1 = pv_up h 353 (Int32.toNatClampNeg x2) (h 352 (Int32.toNatClampNeg ((h 346 (Int32.toNatClampNeg x5)) - 100))) := ⟨_, rfl⟩
            have F := F h1 eh1
            refine pv_iast dX12_says_150 (lt_353 hL) (by decide) q4 ?_
            refine pv_hE eh1 ?_
            refine pv_iinc (v := x2 + 1) (ls' := [some (.ref 200), some (.int x1), some (.int (x2 + 1)), some (.int x3), some (.int x4), some (.int x5), some (.int (h 346 (Int32.toNatClampNeg x5)))]) dX12_says_151 rfl (by rfl) rfl rfl ?_
            refine pv_goto (tgt := 187) dX12_says_154 (by decide) ?_
            refine pv_iinc (v := x5 + 1) (ls' := [some (.ref 200), some (.int x1), some (.int (x2 + 1)), some (.int x3), some (.int x4), some (.int (x5 + 1)), some (.int (h 346 (Int32.toNatClampNeg x5)))]) dX12_says_187 rfl (by rfl) rfl rfl ?_
            refine pv_goto (tgt := 19) dX12_says_190 (by decide) ?_
            refine pv_forgetL (ls' := [some (.ref 200), some (.int x1), some (.int (x2 + 1)), some (.int x3), some (.int x4), some (.int (x5 + 1)), none]) (pv_subL_ok ⟨rfl, ⟨rfl, ⟨rfl, ⟨rfl, ⟨rfl, ⟨rfl, trivial⟩⟩⟩⟩⟩⟩) ?_
            exact F
          · have F := F.2 c5
            refine pv_aload_n dX12_says_130 rfl ?_
            refine pv_getRk 12 47 dX12_says_131 fl_X12_118 rfl (lt_200 hL) (lr_200_47 hL) ?_
            refine pv_iload dX12_says_134 rfl ?_
            obtain ⟨q5, F⟩ := F
            refine pv_iald dX12_says_136 (lt_347 hL) q5 ?_
            refine pv_goto (tgt := 150) dX12_says_137 (by decide) ?_
            obtain ⟨q6, F⟩ := F
            obtain ⟨h2, eh2⟩ : ∃ h2 : pv_H, h2 = pv_up h 353 (Int32.toNatClampNeg x2) (h 347 (Int32.toNatClampNeg x5)) := ⟨_, rfl⟩
            have F := F h2 eh2
            refine pv_iast dX12_says_150 (lt_353 hL) (by decide) q6 ?_
            refine pv_hE eh2 ?_
            refine pv_iinc (v := x2 + 1) (ls' := [some (.ref 200), some (.int x1), some (.int (x2 + 1)), some (.int x3), some (.int x4), some (.int x5), some (.int (h 346 (Int32.toNatClampNeg x5)))]) dX12_says_151 rfl (by rfl) rfl rfl ?_
            refine pv_goto (tgt := 187) dX12_says_154 (by decide) ?_
            refine pv_iinc (v := x5 + 1) (ls' := [some (.ref 200), some (.int x1), some (.int (x2 + 1)), some (.int x3), some (.int x4), some (.int (x5 + 1)), some (.int (h 346 (Int32.toNatClampNeg x5)))]) dX12_says_187 rfl (by rfl) rfl rfl ?_
            refine pv_goto (tgt := 19) dX12_says_190 (by decide) ?_
            refine pv_forgetL (ls' := [some (.ref 200), some (.int x1), some (.int (x2 + 1)), some (.int x3), some (.int x4), some (.int (x5 + 1)), none]) (pv_subL_ok ⟨rfl, ⟨rfl, ⟨rfl, ⟨rfl, ⟨rfl, ⟨rfl, trivial⟩⟩⟩⟩⟩⟩) ?_
            exact F
        · have F := F.2 c4
          refine pv_iload dX12_says_112 rfl ?_
          refine pv_bipush (v := 100) (by decide) dX12_says_114 ?_
          refine pv_icmp_lt (tgt := 157) dX12_says_116 (by decide) (fun c6 => ?_) (fun c6 => ?_)
          · have F := F.1 c6
            refine pv_iinc (v := x2 + (-1)) (ls' := [some (.ref 200), some (.int x1), some (.int (x2 + (-1))), some (.int x3), some (.int x4), some (.int x5), some (.int (h 346 (Int32.toNatClampNeg x5)))]) dX12_says_157 rfl (by rfl) rfl rfl ?_
            refine pv_aload_n dX12_says_160 rfl ?_
            refine pv_getRk 12 53 dX12_says_161 fl_X12_127 rfl (lt_200 hL) (lr_200_53 hL) ?_
            refine pv_iload_n dX12_says_164 rfl ?_
            refine pv_iconst (v := 1) (by decide) dX12_says_165 ?_
            refine pv_isub dX12_says_166 ?_
            refine pv_pc (pc' := 167) rfl ?_
            refine pv_iload dX12_says_167 rfl ?_
            refine pv_aload_n dX12_says_169 rfl ?_
            refine pv_getRk 12 53 dX12_says_170 fl_X12_127 rfl (lt_200 hL) (lr_200_53 hL) ?_
            refine pv_iload_n dX12_says_173 rfl ?_
            refine pv_iconst (v := 1) (by decide) dX12_says_174 ?_
            refine pv_isub dX12_says_175 ?_
            refine pv_pc (pc' := 176) rfl ?_
            obtain ⟨q7, F⟩ := F
            refine pv_iald dX12_says_176 (lt_353 hL) q7 ?_
            refine pv_aload_n dX12_says_177 rfl ?_
            refine pv_getRk 12 53 dX12_says_178 fl_X12_127 rfl (lt_200 hL) (lr_200_53 hL) ?_
            refine pv_iload_n dX12_says_181 rfl ?_
            obtain ⟨q8, F⟩ := F
            refine pv_iald dX12_says_182 (lt_353 hL) q8 ?_
            refine pv_invS (As := [.int (h 346 (Int32.toNatClampNeg x5)), .int (h 353 (Int32.toNatClampNeg ((x2 + (-1)) - 1))), .int (h 353 (Int32.toNatClampNeg (x2 + (-1))))]) (d' := d - 1) dX12_says_183 moX12_both ml_X12_294 (Nat.le_of_ble_eq_true rfl) (by omega) (Nat.zero_le _) (Nat.zero_le _) F (fun v ty' h3 r' g' hq => ?_) rfl
            obtain ⟨e2, e4, e5, w1, e1, F⟩ := hq
            rw [e1, e2, e4, e5]
            refine pv_pc (pc' := 186) rfl ?_
            show pv_E Γ d kc ks mX12_says 186 [some (.ref 200), some (.int x1), some (.int (x2 + (-1))), some (.int x3), some (.int x4), some (.int x5), some (.int (h 346 (Int32.toNatClampNeg x5)))] [.int w1, .int ((x2 + (-1)) - 1), .ref 353] ty h3 r g Q
            obtain ⟨q9, F⟩ := F
            obtain ⟨h4, eh4⟩ : ∃ h4 : pv_H, h4 = pv_up h3 353 (Int32.toNatClampNeg ((x2 + (-1)) - 1)) w1 := ⟨_, rfl⟩
            have F := F h4 eh4
            refine pv_iast dX12_says_186 (lt_353 hL) (by decide) q9 ?_
            refine pv_hE eh4 ?_
            refine pv_iinc (v := x5 + 1) (ls' := [some (.ref 200), some (.int x1), some (.int (x2 + (-1))), some (.int x3), some (.int x4), some (.int (x5 + 1)), some (.int (h 346 (Int32.toNatClampNeg x5)))]) dX12_says_187 rfl (by rfl) rfl rfl ?_
            refine pv_goto (tgt := 19) dX12_says_190 (by decide) ?_
            refine pv_forgetL (ls' := [some (.ref 200), some (.int x1), some (.int (x2 + (-1))), some (.int x3), some (.int x4), some (.int (x5 + 1)), none]) (pv_subL_ok ⟨rfl, ⟨rfl, ⟨rfl, ⟨rfl, ⟨rfl, ⟨rfl, trivial⟩⟩⟩⟩⟩⟩) ?_
            exact F
          · have F := F.2 c6
            refine pv_aload_n dX12_says_119 rfl ?_
            refine pv_getRk 12 53 dX12_says_120 fl_X12_127 rfl (lt_200 hL) (lr_200_53 hL) ?_
            refine pv_iload_n dX12_says_123 rfl ?_
            refine pv_iload dX12_says_124 rfl ?_
            refine pv_iconst (v := 1) (by decide) dX12_says_126 ?_
            refine pv_icmp_ne (tgt := 140) dX12_says_127 (by decide) (fun c7 => ?_) (fun c7 => ?_)
            · have F := F.1 c7
              refine pv_aload_n dX12_says_140 rfl ?_
              refine pv_getRk 12 52 dX12_says_141 fl_X12_124 rfl (lt_200 hL) (lr_200_52 hL) ?_
              refine pv_iload dX12_says_144 rfl ?_
              refine pv_bipush (v := 100) (by decide) dX12_says_146 ?_
              refine pv_isub dX12_says_148 ?_
              obtain ⟨q10, F⟩ := F
              refine pv_iald dX12_says_149 (lt_352 hL) q10 ?_
              obtain ⟨q11, F⟩ := F
              obtain ⟨h5, eh5⟩ : ∃ h5 : pv_H, h5 = pv_up h 353 (Int32.toNatClampNeg x2) (h 352 (Int32.toNatClampNeg ((h 346 (Int32.toNatClampNeg x5)) - 100))) := ⟨_, rfl⟩
              have F := F h5 eh5
              refine pv_iast dX12_says_150 (lt_353 hL) (by decide) q11 ?_
              refine pv_hE eh5 ?_
              refine pv_iinc (v := x2 + 1) (ls' := [some (.ref 200), some (.int x1), some (.int (x2 + 1)), some (.int x3), some (.int x4), some (.int x5), some (.int (h 346 (Int32.toNatClampNeg x5)))]) dX12_says_151 rfl (by rfl) rfl rfl ?_
              refine pv_goto (tgt := 187) dX12_says_154 (by decide) ?_
              refine pv_iinc (v := x5 + 1) (ls' := [some (.ref 200), some (.int x1), some (.int (x2 + 1)), some (.int x3), some (.int x4), some (.int (x5 + 1)), some (.int (h 346 (Int32.toNatClampNeg x5)))]) dX12_says_187 rfl (by rfl) rfl rfl ?_
              refine pv_goto (tgt := 19) dX12_says_190 (by decide) ?_
              refine pv_forgetL (ls' := [some (.ref 200), some (.int x1), some (.int (x2 + 1)), some (.int x3), some (.int x4), some (.int (x5 + 1)), none]) (pv_subL_ok ⟨rfl, ⟨rfl, ⟨rfl, ⟨rfl, ⟨rfl, ⟨rfl, trivial⟩⟩⟩⟩⟩⟩) ?_
              exact F
            · have F := F.2 c7
              refine pv_aload_n dX12_says_130 rfl ?_
              refine pv_getRk 12 47 dX12_says_131 fl_X12_118 rfl (lt_200 hL) (lr_200_47 hL) ?_
              refine pv_iload dX12_says_134 rfl ?_
              obtain ⟨q12, F⟩ := F
              refine pv_iald dX12_says_136 (lt_347 hL) q12 ?_
              refine pv_goto (tgt := 150) dX12_says_137 (by decide) ?_
              obtain ⟨q13, F⟩ := F
              obtain ⟨h6, eh6⟩ : ∃ h6 : pv_H, h6 = pv_up h 353 (Int32.toNatClampNeg x2) (h 347 (Int32.toNatClampNeg x5)) := ⟨_, rfl⟩
              have F := F h6 eh6
              refine pv_iast dX12_says_150 (lt_353 hL) (by decide) q13 ?_
              refine pv_hE eh6 ?_
              refine pv_iinc (v := x2 + 1) (ls' := [some (.ref 200), some (.int x1), some (.int (x2 + 1)), some (.int x3), some (.int x4), some (.int x5), some (.int (h 346 (Int32.toNatClampNeg x5)))]) dX12_says_151 rfl (by rfl) rfl rfl ?_
              refine pv_goto (tgt := 187) dX12_says_154 (by decide) ?_
              refine pv_iinc (v := x5 + 1) (ls' := [some (.ref 200), some (.int x1), some (.int (x2 + 1)), some (.int x3), some (.int x4), some (.int (x5 + 1)), some (.int (h 346 (Int32.toNatClampNeg x5)))]) dX12_says_187 rfl (by rfl) rfl rfl ?_
              refine pv_goto (tgt := 19) dX12_says_190 (by decide) ?_
              refine pv_forgetL (ls' := [some (.ref 200), some (.int x1), some (.int (x2 + 1)), some (.int x3), some (.int x4), some (.int (x5 + 1)), none]) (pv_subL_ok ⟨rfl, ⟨rfl, ⟨rfl, ⟨rfl, ⟨rfl, ⟨rfl, trivial⟩⟩⟩⟩⟩⟩) ?_
              exact F
      · have F := F.2 c3
        refine pv_aload_n dX12_says_85 rfl ?_
        refine pv_getRk 12 53 dX12_says_86 fl_X12_127 rfl (lt_200 hL) (lr_200_53 hL) ?_
        refine pv_iconst (v := 0) (by decide) dX12_says_89 ?_
        obtain ⟨q14, F⟩ := F
        refine pv_iald dX12_says_90 (lt_353 hL) q14 ?_
        refine pv_if_ne (tgt := 98) dX12_says_91 (by decide) (fun c8 => ?_) (fun c8 => ?_)
        · have F := F.1 c8
          refine pv_iconst (v := 0) (by decide) dX12_says_98 ?_
          refine pv_istore (ls' := [some (.ref 200), some (.int x1), some (.int x2), some (.int x3), some (.int 0), some (.int x5), some (.int (h 346 (Int32.toNatClampNeg x5)))]) dX12_says_99 (by decide) rfl rfl ?_
          refine pv_iconst (v := 0) (by decide) dX12_says_101 ?_
          refine pv_istore_n (ls' := [some (.ref 200), some (.int x1), some (.int 0), some (.int x3), some (.int 0), some (.int x5), some (.int (h 346 (Int32.toNatClampNeg x5)))]) dX12_says_102 (by decide) rfl rfl ?_
          refine pv_goto (tgt := 187) dX12_says_103 (by decide) ?_
          refine pv_iinc (v := x5 + 1) (ls' := [some (.ref 200), some (.int x1), some (.int 0), some (.int x3), some (.int 0), some (.int (x5 + 1)), some (.int (h 346 (Int32.toNatClampNeg x5)))]) dX12_says_187 rfl (by rfl) rfl rfl ?_
          refine pv_goto (tgt := 19) dX12_says_190 (by decide) ?_
          refine pv_forgetL (ls' := [some (.ref 200), some (.int x1), some (.int 0), some (.int x3), some (.int 0), some (.int (x5 + 1)), none]) (pv_subL_ok ⟨rfl, ⟨rfl, ⟨rfl, ⟨rfl, ⟨rfl, ⟨rfl, trivial⟩⟩⟩⟩⟩⟩) ?_
          exact F
        · have F := F.2 c8
          refine pv_iconst (v := 1) (by decide) dX12_says_94 ?_
          refine pv_goto (tgt := 99) dX12_says_95 (by decide) ?_
          refine pv_istore (ls' := [some (.ref 200), some (.int x1), some (.int x2), some (.int x3), some (.int 1), some (.int x5), some (.int (h 346 (Int32.toNatClampNeg x5)))]) dX12_says_99 (by decide) rfl rfl ?_
          refine pv_iconst (v := 0) (by decide) dX12_says_101 ?_
          refine pv_istore_n (ls' := [some (.ref 200), some (.int x1), some (.int 0), some (.int x3), some (.int 1), some (.int x5), some (.int (h 346 (Int32.toNatClampNeg x5)))]) dX12_says_102 (by decide) rfl rfl ?_
          refine pv_goto (tgt := 187) dX12_says_103 (by decide) ?_
          refine pv_iinc (v := x5 + 1) (ls' := [some (.ref 200), some (.int x1), some (.int 0), some (.int x3), some (.int 1), some (.int (x5 + 1)), some (.int (h 346 (Int32.toNatClampNeg x5)))]) dX12_says_187 rfl (by rfl) rfl rfl ?_
          refine pv_goto (tgt := 19) dX12_says_190 (by decide) ?_
          refine pv_forgetL (ls' := [some (.ref 200), some (.int x1), some (.int 0), some (.int x3), some (.int 1), some (.int (x5 + 1)), none]) (pv_subL_ok ⟨rfl, ⟨rfl, ⟨rfl, ⟨rfl, ⟨rfl, ⟨rfl, trivial⟩⟩⟩⟩⟩⟩) ?_
          exact F
    · have F := F.2 c2
      refine pv_iload dX12_says_51 rfl ?_
      refine pv_if_ne (tgt := 68) dX12_says_53 (by decide) (fun c9 => ?_) (fun c9 => ?_)
      · have F := F.1 c9
        refine pv_iconst (v := 0) (by decide) dX12_says_68 ?_
        refine pv_istore (ls' := [some (.ref 200), some (.int x1), some (.int x2), some (.int x3), some (.int 0), some (.int x5), some (.int (h 346 (Int32.toNatClampNeg x5)))]) dX12_says_69 (by decide) rfl rfl ?_
        refine pv_iinc (v := x3 + 1) (ls' := [some (.ref 200), some (.int x1), some (.int x2), some (.int (x3 + 1)), some (.int 0), some (.int x5), some (.int (h 346 (Int32.toNatClampNeg x5)))]) dX12_says_71 rfl (by rfl) rfl rfl ?_
        refine pv_iconst (v := 0) (by decide) dX12_says_74 ?_
        refine pv_istore_n (ls' := [some (.ref 200), some (.int x1), some (.int 0), some (.int (x3 + 1)), some (.int 0), some (.int x5), some (.int (h 346 (Int32.toNatClampNeg x5)))]) dX12_says_75 (by decide) rfl rfl ?_
        refine pv_goto (tgt := 187) dX12_says_76 (by decide) ?_
        refine pv_iinc (v := x5 + 1) (ls' := [some (.ref 200), some (.int x1), some (.int 0), some (.int (x3 + 1)), some (.int 0), some (.int (x5 + 1)), some (.int (h 346 (Int32.toNatClampNeg x5)))]) dX12_says_187 rfl (by rfl) rfl rfl ?_
        refine pv_goto (tgt := 19) dX12_says_190 (by decide) ?_
        refine pv_forgetL (ls' := [some (.ref 200), some (.int x1), some (.int 0), some (.int (x3 + 1)), some (.int 0), some (.int (x5 + 1)), none]) (pv_subL_ok ⟨rfl, ⟨rfl, ⟨rfl, ⟨rfl, ⟨rfl, ⟨rfl, trivial⟩⟩⟩⟩⟩⟩) ?_
        exact F
      · have F := F.2 c9
        refine pv_aload_n dX12_says_56 rfl ?_
        refine pv_iload_n dX12_says_57 rfl ?_
        obtain ⟨h7, eh7⟩ : ∃ h7 : pv_H, h7 = pv_up h 200 54 x3 := ⟨_, rfl⟩
        have F := F h7 eh7
        refine pv_putI 12 54 dX12_says_58 fl_X12_291 ⟨_, rfl, Or.inl rfl⟩ (Or.inl rfl) (lt_200 hL) ?_
        refine pv_hE eh7 ?_
        refine pv_aload_n dX12_says_61 rfl ?_
        refine pv_getRk 12 53 dX12_says_62 fl_X12_127 rfl (lt_200 hL) (lr_200_53 hL) ?_
        refine pv_iconst (v := 0) (by decide) dX12_says_65 ?_
        obtain ⟨q15, F⟩ := F
        refine pv_iald dX12_says_66 (lt_353 hL) q15 ?_
        exact pv_ireturn dX12_says_67 rfl rfl F
abbrev sA : Nat → Nat → Prop := fun a j => a = 353 ∨ (a = 200 ∧ j = 54)
theorem ps_s_suf {h : pv_H} {o : Nat} : ∀ {u v : List (Nat × Nat)} {x : Nat × Nat}, ps_s h o (u ++ (x :: v)) → h 346 (170 * o + v.length) = nI x.1 ∧ h 347 (170 * o + v.length) = nI x.2
  | [], _, _, hw => hw.1
  | _ :: _, _, _, hw => ps_s_suf hw.2
section SY
variable {Γ : pv_C} {d kc ks : Nat} {ty : pv_T} {h h0 : pv_H} {r : pv_R} {g : pv_G} {Q : pv_Q} {K o : Nat} {S : List (Nat × Nat)}
/-- says, standing behind the steps B with n on the pile -/
abbrev sy_E (Γ : pv_C) (d kc ks : Nat) (ty : pv_T) (h : pv_H) (r : pv_R) (g : pv_G) (Q : pv_Q) (o n i : Nat) (sk : Int32) (B : List (Nat × Nat)) : Prop := pv_E Γ d kc ks mX12_says 19 [some (.ref 200), some (.int (nI o)), some (.int (nI n)), some (.int (nI i)), some (.int sk), some (.int (nI (170 * o + B.length))), none] [] ty h r g Q
theorem sy_in {A B : List (Nat × Nat)} {x : Nat × Nat} (ho : o < 20) (hS : S = A ++ (x :: B)) (hl : S.length ≤ 161) (h45 : h 345 o = nI S.length) (hs : ps_s h o S) : B.length < S.length ∧ B.length < 161 ∧ 170 * nI o + h 345 (nI o).toNatClampNeg = nI (170 * o + S.length) ∧ h 346 (170 * o + B.length) = nI x.1 ∧ h 347 (170 * o + B.length) = nI x.2 := by
  have e : S.length = A.length + (B.length + 1) := by rw [hS]; simp
  refine ⟨by omega, by omega, ?_, ps_s_suf (by rw [← hS]; exact hs)⟩
  rw [nI_clamp (by omega), h45, ni_170]
/-- one step x is read -/
theorem sy_step (hd : 1 ≤ d) (hL : pv_Lay ty r) {A B : List (Nat × Nat)} {x : Nat × Nat} (ho : o < 20) (hS : S = A ++ (x :: B)) (hl : S.length ≤ 161) (h45 : h 345 o = nI S.length) (hs : ps_s h o S) {n i : Nat} {sk : Int32} (hn : n ≤ B.length)
    (k1 : x.1 = 1 → sy_E Γ d kc ks ty (pv_up h 353 n (nI x.2)) r g Q o (n + 1) i sk (x :: B))
    (k100 : 100 ≤ x.1 → x.1 < 228 ∧ sy_E Γ d kc ks ty (pv_up h 353 n (h 352 (x.1 - 100))) r g Q o (n + 1) i sk (x :: B))
    (kop : 3 < x.1 → x.1 < 100 → tx_os x.1 ∧ ∃ m, n = m + 2 ∧ sy_E Γ d kc ks ty (pv_up h 353 m (tx_op x.1 (h 353 m) (h 353 (m + 1)))) r g Q o (m + 1) i sk (x :: B))
    (k2 : x.1 = 2 → sy_E Γ d kc ks ty h r g Q o 0 i (if h 353 0 = 0 then 1 else 0) (x :: B))
    (k3 : x.1 = 3 → (¬ sk = 0 → sy_E Γ d kc ks ty h r g Q o 0 (i + 1) 0 (x :: B)) ∧ (sk = 0 → Q (some (.int (h 353 0))) ty (pv_up h 200 54 (nI i)) r g)) (hb : x.1 < 1000) (h0 : 0 < x.1) : sy_E Γ d kc ks ty h r g Q o n i sk B := by
  obtain ⟨c1, c2, c3, c4, c5⟩ := sy_in ho hS hl h45 hs
  have hlen : (x :: B).length = B.length + 1 := rfl
  have hix : vp_in (nI (170 * o + B.length)) 3400 := vp_in_nI (by omega) (by decide)
  have hin : vp_in (nI n) 170 := vp_in_nI (by omega) (by decide)
  have hcl : (nI (170 * o + B.length)).toNatClampNeg = 170 * o + B.length := nI_clamp (by omega)
  have hcn : (nI n).toNatClampNeg = n := nI_clamp (by omega)
  unfold sy_E at *
  rw [hlen, ← Nat.add_assoc] at k1 k100 kop k2 k3
  refine sg_X12_says_19 _ _ _ _ _ hd hL ⟨vp_in_nI ho (by decide), pk_le (170 * o + S.length) (170 * o + B.length) (fun c => absurd c (by omega)) (fun _ => ⟨hix, ?_⟩) c3 rfl (by omega) (by omega)⟩
  rw [hcl, hcn, c4, c5, nI_1, nI_1, nI_1]
  refine pj_eq x.1 3 (fun q => ?_) (fun q3 => pj_eq x.1 2 (fun q => ?_) (fun q2 => pk_eq x.1 1 (fun q => ?_) (fun q1 => pk_lt x.1 100 (fun q => ?_) (fun q => ?_))))
  · refine ⟨(k3 q).1, fun z h7 e7 => ⟨vp_in_nI (n := 0) (by decide) (by decide), ?_⟩⟩
    rw [e7, pv_up_a (by decide)]
    exact (k3 q).2 z
  · have := k2 q
    refine ⟨vp_in_nI (n := 0) (by decide) (by decide), fun z => ?_, fun z => ?_⟩
    · rw [if_neg (show ¬ h 353 0 = 0 from z)] at this; exact this
    · rw [if_pos (show h 353 0 = 0 from z)] at this; exact this
  · refine pj_eq x.1 1 (fun _ => ⟨hix, hin, fun h2 e2 => ?_⟩) (fun z => absurd q z)
    rw [e2]
    exact k1 q
  · obtain ⟨a1, m, rfl, a2⟩ := kop (by omega) q
    have e1 : nI (m + 2) + (-1) = nI (m + 1) := pk_m1 (m + 1)
    have e2 : nI (m + 2) + (-1) - 1 = nI m := by rw [e1, nI_pred]
    rw [e2, e1, nI_clamp (by omega), nI_clamp (by omega)]
    have hm : vp_in (nI m) 170 := vp_in_nI (by omega) (by decide)
    refine ⟨hm, vp_in_nI (by omega) (by decide), pv_CT.mono (ct_X12_both a1 (Nat.zero_le _)) (fun v ty' h' r' g' z => ?_)⟩
    obtain ⟨z1, z2, z3, z4, z5⟩ := z
    refine ⟨z2, z4, z5, _, z1, hm, fun h4 e4 => ?_⟩
    rw [e4, z3]
    exact a2
  · refine pj_eq x.1 1 (fun z => absurd z q1) (fun _ => ?_)
    obtain ⟨a1, a2⟩ := k100 q
    rw [show (100 : Int32) = nI 100 from rfl, pk_sub q, nI_clamp (by omega)]
    refine ⟨vp_in_nI (by omega) (by decide), hin, fun h5 e5 => ?_⟩
    rw [e5]
    exact a2
def sy_S (o : Nat) (S : List (Nat × Nat)) (h : pv_H) : Prop := h 345 o = nI S.length ∧ ps_s h o S
theorem sy_S_up {n : Nat} {x : Int32} (hS : sy_S o S h) : sy_S o S (pv_up h 353 n x) := ⟨by rw [pv_up_a (by decide)]; exact hS.1, ps_s_c (fun j _ => by rw [pv_up_a (by decide), pv_up_a (by decide)]; exact ⟨rfl, rfl⟩) hS.2⟩
/-- an expression's steps: its value comes on the pile -/
def sy_P (Γ : pv_C) (d kc ks : Nat) (ty : pv_T) (r : pv_R) (g : pv_G) (Q : pv_Q) (o : Nat) (S : List (Nat × Nat)) (V : Nat → Int32) (e : tx_E) : Prop := 1 ≤ (tx_rr e).length ∧ ∀ (A B : List (Nat × Nat)) (n i : Nat) (sk : Int32) (h : pv_H), S = A ++ (tx_rr e ++ B) → n ≤ B.length → sy_S o S h → (∀ c, c < 128 → h 352 c = V c) → (∀ h', pv_fr (fun a j => a = 353 ∧ n ≤ j) h h' → sy_S o S h' → h' 353 n = tx_ev V e → sy_E Γ d kc ks ty h' r g Q o (n + 1) i sk (tx_rr e ++ B)) → sy_E Γ d kc ks ty h r g Q o n i sk B
theorem sy_e (hd : 1 ≤ d) (hL : pv_Lay ty r) (ho : o < 20) (hl : S.length ≤ 161) {V : Nat → Int32} {e : tx_E} (hw : tx_wf K e) : sy_P Γ d kc ks ty r g Q o S V e := by
  refine hw (sy_P Γ d kc ks ty r g Q o S V) (fun v hv => ⟨Nat.le_refl _, fun A B n i sk h hS hn hR hV hk => ?_⟩) (fun c hc => ⟨Nat.le_refl _, fun A B n i sk h hS hn hR hV hk => ?_⟩) (fun p a b hp ha hb => ⟨?_, fun A B n i sk h hS hn hR hV hk => ?_⟩)
  · refine sy_step hd hL (x := (1, v)) ho hS hl hR.1 hR.2 hn (fun _ => ?_) (fun z => absurd z (show ¬ 100 ≤ 1 by decide)) (fun z => absurd z (show ¬ 3 < 1 by decide)) (fun z => absurd z (show ¬ 1 = 2 by decide)) (fun z => absurd z (show ¬ 1 = 3 by decide)) (show 1 < 1000 by decide) (show 0 < 1 by decide)
    exact hk _ (pv_fr_up (pv_fr_refl _ _) ⟨rfl, Nat.le_refl _⟩) (sy_S_up hR) (pv_up_same _ _ _ _)
  · obtain ⟨-, -, c128⟩ := tx_nm_dg hc
    refine sy_step hd hL (x := (100 + c, 0)) ho hS hl hR.1 hR.2 hn (fun z => absurd z (by show ¬ 100 + c = 1; omega)) (fun _ => ⟨by show 100 + c < 228; omega, ?_⟩) (fun _ z => absurd z (by show ¬ 100 + c < 100; omega)) (fun z => absurd z (by show ¬ 100 + c = 2; omega)) (fun z => absurd z (by show ¬ 100 + c = 3; omega)) (by show 100 + c < 1000; omega) (by show 0 < 100 + c; omega)
    refine hk _ (pv_fr_up (pv_fr_refl _ _) ⟨rfl, Nat.le_refl _⟩) (sy_S_up hR) ?_
    rw [pv_up_same]
    show h 352 (100 + c - 100) = _
    rw [Nat.add_sub_cancel_left]
    exact hV c c128
  · show 1 ≤ (_ :: _).length
    simp
  · have e1 : tx_rr (tx_B p a b) = (p, 0) :: (tx_rr b ++ tx_rr a) := rfl
    rw [e1] at hS hk
    have p3 : 3 < p ∧ p < 100 := by rcases hp with z | z | z | z | z | z | z | z <;> omega
    refine ha.2 (A ++ ((p, 0) :: tx_rr b)) B n i sk h (by rw [hS]; simp) hn hR hV (fun h1 f1 R1 v1 => ?_)
    refine hb.2 (A ++ [(p, 0)]) (tx_rr a ++ B) (n + 1) i sk h1 (by rw [hS]; simp) (by have := ha.1; simp; omega) R1 (fun c hc => by rw [f1 352 c (fun z => absurd z.1 (by decide))]; exact hV c hc) (fun h2 f2 R2 v2 => ?_)
    have v1' : h2 353 n = tx_ev V a := by rw [f2 353 n (fun z => absurd z.2 (by omega))]; exact v1
    refine sy_step hd hL (x := (p, 0)) ho (A := A) (by rw [hS]; simp) hl R2.1 R2.2 (by have := ha.1; have := hb.1; simp; omega) (fun z => absurd z (by show ¬ p = 1; omega)) (fun z => absurd z (by show ¬ 100 ≤ p; omega)) (fun _ _ => ⟨hp, n, rfl, ?_⟩) (fun z => absurd z (by show ¬ p = 2; omega)) (fun z => absurd z (by show ¬ p = 3; omega)) (by show p < 1000; omega) (by show 0 < p; omega)
    rw [v1', v2]
    have := hk (pv_up h2 353 n (tx_op p (tx_ev V a) (tx_ev V b))) ?_ (sy_S_up R2) (pv_up_same _ _ _ _)
    · rw [show ((p, 0) :: (tx_rr b ++ tx_rr a)) ++ B = (p, 0) :: (tx_rr b ++ (tx_rr a ++ B)) by simp] at this
      exact this
    · exact pv_fr_up (pv_fr_tr f1 (pv_fr_mono (fun a j z => ⟨z.1, by omega⟩) f2)) ⟨rfl, Nat.le_refl _⟩
theorem sy_t (hd : 1 ≤ d) (hL : pv_Lay ty r) (ho : o < 20) (hl : S.length ≤ 161) {V : Nat → Int32} {F : Int32 × Int32} (hQ : ∀ x h', pv_fr sA h0 h' → (x, h' 200 54) = F → Q (some (.int x)) ty h' r g) : ∀ (t : List tx_C) (B : List (Nat × Nat)) (i : Nat) (h : pv_H), S = tx_rt t ++ B → (∀ c ∈ t, tx_wfC K c) → sy_S o S h → (∀ c, c < 128 → h 352 c = V c) → pv_fr sA h0 h → h 200 54 = -1 → tx_val V t i = F → sy_E Γ d kc ks ty h r g Q o 0 i 0 B
  | [], B, i, h, hS, hw, hR, hV, hf, h54, hF => by
    have hB : S = B := hS
    have e45 : 170 * nI o + h 345 (nI o).toNatClampNeg = nI (170 * o + S.length) := by rw [nI_clamp (by omega), hR.1, ni_170]
    refine sg_X12_says_19 _ _ _ _ _ hd hL ⟨vp_in_nI ho (by decide), pk_le (170 * o + S.length) (170 * o + B.length) (fun _ => hQ 0 h hf ?_) (fun c => absurd c (by rw [hB]; omega)) e45 rfl (by omega) (by rw [← hB]; omega)⟩
    rw [h54, ← hF]
    rfl
  | (c, v) :: t, B, i, h, hS, hw, hR, hV, hf, h54, hF => by
    have e0 : tx_rt ((c, v) :: t) = tx_rt t ++ tx_rc (c, v) := rfl
    rw [e0] at hS
    obtain ⟨w1, w2⟩ := hw (c, v) (List.mem_cons_self ..)
    have hev : sy_P Γ d kc ks ty r g Q o S V v := sy_e (Γ := Γ) (d := d) (kc := kc) (ks := ks) (ty := ty) (r := r) (g := g) (Q := Q) (o := o) (S := S) (V := V) hd hL ho hl w2
    have hFu : tx_val V ((c, v) :: t) i = if tx_gv V c = 0 then tx_val V t (i + 1) else (tx_ev V v, nI i) := rfl
    rw [hFu] at hF
    -- behind the value: the clause's end
    have fin : ∀ (B1 : List (Nat × Nat)) (h2 : pv_H) (sk : Int32) (n : Nat), S = tx_rt t ++ ((3, 0) :: B1) → pv_fr sA h0 h2 → h2 200 54 = -1 → sy_S o S h2 → (∀ c, c < 128 → h2 352 c = V c) → h2 353 0 = tx_ev V v → (sk = 0 ↔ ¬ tx_gv V c = 0) → n ≤ B1.length → sy_E Γ d kc ks ty h2 r g Q o n i sk B1 := fun B1 h2 sk n hS1 f2 g54 R2 V2 hv hsk hn => by
      refine sy_step hd hL (x := (3, 0)) ho hS1 hl R2.1 R2.2 hn (fun z => absurd z (by decide)) (fun z => absurd z (by decide)) (fun z => absurd z (by decide)) (fun z => absurd z (by decide)) (fun _ => ⟨fun z => ?_, fun z => ?_⟩) (by decide) (by decide)
      · have hg : tx_gv V c = 0 := Classical.not_not.mp (fun y => z (hsk.mpr y))
        rw [if_pos hg] at hF
        exact sy_t hd hL ho hl hQ t ((3, 0) :: B1) (i + 1) h2 hS1 (fun c hc => hw c (List.mem_cons_of_mem _ hc)) R2 V2 f2 g54 hF
      · rw [if_neg (hsk.mp z)] at hF
        refine hQ _ _ (pv_fr_up f2 (Or.inr ⟨rfl, rfl⟩)) ?_
        rw [pv_up_same, hv, hF]
    cases c with
    | none =>
      have hrc : tx_rc (none, v) = (3, 0) :: tx_rr v := rfl
      rw [hrc] at hS
      refine hev.2 (tx_rt t ++ [(3, 0)]) B 0 i 0 h (by rw [hS]; simp) (Nat.zero_le _) hR hV (fun h2 f2 R2 v2 => ?_)
      have f2' : pv_fr sA h h2 := pv_fr_mono (fun a j z => Or.inl z.1) f2
      exact fin (tx_rr v ++ B) h2 0 1 (by rw [hS]; simp) (pv_fr_tr hf f2') (by rw [f2 200 54 (fun z => absurd z.1 (by decide))]; exact h54) R2 (fun c hc => by rw [f2 352 c (fun z => absurd z.1 (by decide))]; exact hV c hc) v2 ⟨fun _ => by show ¬ (1 : Int32) = 0; decide, fun _ => rfl⟩ (by have := hev.1; simp; omega)
    | some a =>
      have hrc : tx_rc (some a, v) = (3, 0) :: (tx_rr v ++ (2, 0) :: tx_rr a) := rfl
      rw [hrc] at hS
      have hea := sy_e (Γ := Γ) (d := d) (kc := kc) (ks := ks) (ty := ty) (r := r) (g := g) (Q := Q) (o := o) (S := S) (V := V) hd hL ho hl (w1 a rfl)
      refine hea.2 (tx_rt t ++ ((3, 0) :: (tx_rr v ++ [(2, 0)]))) B 0 i 0 h (by rw [hS]; simp) (Nat.zero_le _) hR hV (fun h1 f1 R1 v1 => ?_)
      have f1' : pv_fr sA h h1 := pv_fr_mono (fun a j z => Or.inl z.1) f1
      have V1 : ∀ c, c < 128 → h1 352 c = V c := fun c hc => by rw [f1 352 c (fun z => absurd z.1 (by decide))]; exact hV c hc
      refine sy_step hd hL (x := (2, 0)) ho (A := tx_rt t ++ ((3, 0) :: tx_rr v)) (by rw [hS]; simp) hl R1.1 R1.2 (by have := hea.1; simp; omega) (fun z => absurd z (by decide)) (fun z => absurd z (by decide)) (fun z => absurd z (by decide)) (fun _ => ?_) (fun z => absurd z (by decide)) (by decide) (by decide)
      refine hev.2 (tx_rt t ++ [(3, 0)]) ((2, 0) :: (tx_rr a ++ B)) 0 i _ h1 (by rw [hS]; simp) (Nat.zero_le _) R1 V1 (fun h2 f2 R2 v2 => ?_)
      have f2' : pv_fr sA h1 h2 := pv_fr_mono (fun a j z => Or.inl z.1) f2
      refine fin (tx_rr v ++ (2, 0) :: (tx_rr a ++ B)) h2 _ 1 (by rw [hS]; simp) (pv_fr_tr hf (pv_fr_tr f1' f2')) (by rw [f2 200 54 (fun z => absurd z.1 (by decide)), f1 200 54 (fun z => absurd z.1 (by decide))]; exact h54) R2 (fun c hc => by rw [f2 352 c (fun z => absurd z.1 (by decide))]; exact V1 c hc) v2 ?_ (by have := hev.1; simp; omega)
      rw [v1]
      show _ ↔ ¬ tx_ev V a = 0
      by_cases z : tx_ev V a = 0
      · rw [if_pos z]; exact ⟨fun y => absurd y (by decide), fun y => absurd z y⟩
      · rw [if_neg z]; exact ⟨fun _ => z, fun _ => rfl⟩
theorem ct_X12_says (hd : 1 ≤ d) (hL : pv_Lay ty r) (ho : o < 20) {cs : List tx_C} (hl : (tx_rt cs).length ≤ 161) (hw : ∀ c ∈ cs, tx_wfC K c) (hS : sy_S o (tx_rt cs) h) : pv_CJ Γ d mX12_says [.ref 200, .int (nI o)] ty h r g (fun x h' => pv_fr sA h h' ∧ (x, h' 200 54) = tx_val (h 352) cs 0) := by
  refine pv_fn 5 pn_X12 rfl (Nat.le_of_ble_eq_true rfl) (sg_X12_says_0 _ hL (fun h1 e1 => ?_))
  have f1 : pv_fr sA h h1 := by rw [e1]; exact pv_fr_up (pv_fr_refl _ _) (Or.inr ⟨rfl, rfl⟩)
  have := sy_t (Γ := Γ) (d := d) (kc := 0) (ks := 0) (g := g) (Q := pv_jq ty r g (fun x h' => pv_fr sA h h' ∧ (x, h' 200 54) = tx_val (h 352) cs 0)) hd hL ho hl (h0 := h) (V := h 352) (F := tx_val (h 352) cs 0) (fun x h' a1 a2 => pv_jqi ⟨a1, a2⟩) cs [] 0 h1 (by simp) hw ⟨by rw [e1, pv_up_a (by decide)]; exact hS.1, ps_s_c (fun j _ => by rw [e1, pv_up_a (by decide), pv_up_a (by decide)]; exact ⟨rfl, rfl⟩) hS.2⟩ (fun c _ => by rw [e1, pv_up_a (by decide)]) f1 (by rw [e1, pv_up_same]) rfl
  rw [show 170 * nI o = nI (170 * o + ([] : List (Nat × Nat)).length) by rw [show (170 : Int32) = nI 170 from rfl, pk_mul]; rfl]
  exact this
end SY
