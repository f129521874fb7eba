/-! the reference's says: what the steps give -/
set_option maxRecDepth 20000 in
set_option maxHeartbeats 4000000 in
theorem sg_X12_says_0 {Γ : pv_C} {d kc ks : Nat} {ty : pv_T} {h : pv_H} {r : pv_R} {g : pv_G} {Q : pv_Q} (x : Int32) (hL : pv_Lay ty r) (F : (∀ h1 : pv_H, h1 = pv_up h 200 54 (-1) → pv_E Γ d kc ks mX12_says 19 [some (.ref 200), some (.int x), some (.int 0), some (.int 0), some (.int 0), some (.int (170 * x)), none] [] ty h1 r g Q)) : pv_E Γ d kc ks mX12_says 0 [some (.ref 200), some (.int x), none, none, none, none, none] [] ty h r g Q := by
  refine pv_iconst (v := 0) (by decide) dX12_says_0 ?_
  refine pv_istore_n (ls' := [some (.ref 200), some (.int x), some (.int 0), none, none, none, none]) dX12_says_1 (by decide) rfl rfl ?_
  refine pv_iconst (v := 0) (by decide) dX12_says_2 ?_
  refine pv_istore_n (ls' := [some (.ref 200), some (.int x), some (.int 0), some (.int 0), none, none, none]) dX12_says_3 (by decide) rfl rfl ?_
  refine pv_iconst (v := 0) (by decide) dX12_says_4 ?_
  refine pv_istore (ls' := [some (.ref 200), some (.int x), some (.int 0), some (.int 0), some (.int 0), none, none]) dX12_says_5 (by decide) rfl rfl ?_
  refine pv_pc (pc' := 7) rfl ?_
  refine pv_aload_n dX12_says_7 rfl ?_
  refine pv_iconst (v := (-1)) (by decide) dX12_says_8 ?_
  obtain ⟨h1, eh1⟩ : ∃ h1 : pv_H, h1 = pv_up h 200 54 (-1) := ⟨_, rfl⟩
  have F := F h1 eh1
  refine pv_putI 12 54 dX12_says_9 fl_X12_291 ⟨_, rfl, Or.inl rfl⟩ (Or.inl rfl) (lt_200 hL) ?_
  refine pv_hE eh1 ?_
  refine pv_sipush (v := 170) (by decide) dX12_says_12 ?_
  refine pv_iload_n dX12_says_15 rfl ?_
  refine pv_imul dX12_says_16 ?_
  refine pv_istore (ls' := [some (.ref 200), some (.int x), some (.int 0), some (.int 0), some (.int 0), some (.int (170 * x)), none]) dX12_says_17 (by decide) rfl rfl ?_
  exact F
set_option maxRecDepth 20000 in
set_option maxHeartbeats 4000000 in
theorem sg_X12_says_19 {Γ : pv_C} {d kc ks : Nat} {ty : pv_T} {h : pv_H} {r : pv_R} {g : pv_G} {Q : pv_Q} (x1 : Int32) (x2 : Int32) (x3 : Int32) (x4 : Int32) (x5 : Int32) (hd : 1 ≤ d) (hL : pv_Lay ty r) (F : vp_in x1 20 ∧ ((((170 * x1) + (h 345 (Int32.toNatClampNeg x1))) ≤ x5 → Q (some (.int 0)) ty h r g) ∧ (¬ ((170 * x1) + (h 345 (Int32.toNatClampNeg x1))) ≤ x5 → vp_in x5 3400 ∧ ((¬ (h 346 (Int32.toNatClampNeg x5)) = 3 → ((¬ (h 346 (Int32.toNatClampNeg x5)) = 2 → (((h 346 (Int32.toNatClampNeg x5)) = 1 → ((¬ (h 346 (Int32.toNatClampNeg x5)) = 1 → vp_in ((h 346 (Int32.toNatClampNeg x5)) - 100) 128 ∧ vp_in x2 170 ∧ (∀ h1 : pv_H, h1 = pv_up h 353 (Int32.toNatClampNeg x2) (h 352 (Int32.toNatClampNeg ((h 346 (Int32.toNatClampNeg x5)) - 100))) → pv_E Γ d kc ks mX12_says 19 [some (.ref 200), some (.int x1), some (.int (x2 + 1)), some (.int x3), some (.int x4), some (.int (x5 + 1)), none] [] ty h1 r g Q)) ∧ ((h 346 (Int32.toNatClampNeg x5)) = 1 → vp_in x5 3400 ∧ vp_in x2 170 ∧ (∀ h2 : pv_H, h2 = pv_up h 353 (Int32.toNatClampNeg x2) (h 347 (Int32.toNatClampNeg x5)) → pv_E Γ d kc ks mX12_says 19 [some (.ref 200), some (.int x1), some (.int (x2 + 1)), some (.int x3), some (.int x4), some (.int (x5 + 1)), none] [] ty h2 r g Q)))) ∧ (¬ (h 346 (Int32.toNatClampNeg x5)) = 1 → (((h 346 (Int32.toNatClampNeg x5)) < 100 → vp_in ((x2 + (-1)) - 1) 170 ∧ vp_in (x2 + (-1)) 170 ∧ pv_CJ Γ (d - 1) mX12_both [.int (h 346 (Int32.toNatClampNeg x5)), .int (h 353 (Int32.toNatClampNeg ((x2 + (-1)) - 1))), .int (h 353 (Int32.toNatClampNeg (x2 + (-1))))] ty h r g (fun (w1 : Int32) (h3 : pv_H) => vp_in ((x2 + (-1)) - 1) 170 ∧ (∀ h4 : pv_H, h4 = pv_up h3 353 (Int32.toNatClampNeg ((x2 + (-1)) - 1)) w1 → pv_E Γ d kc ks mX12_says 19 [some (.ref 200), some (.int x1), some (.int (x2 + (-1))), some (.int x3), some (.int x4), some (.int (x5 + 1)), none] [] ty h4 r g Q))) ∧ (¬ (h 346 (Int32.toNatClampNeg x5)) < 100 → ((¬ (h 346 (Int32.toNatClampNeg x5)) = 1 → vp_in ((h 346 (Int32.toNatClampNeg x5)) - 100) 128 ∧ vp_in x2 170 ∧ (∀ h5 : pv_H, h5 = pv_up h 353 (Int32.toNatClampNeg x2) (h 352 (Int32.toNatClampNeg ((h 346 (Int32.toNatClampNeg x5)) - 100))) → pv_E Γ d kc ks mX12_says 19 [some (.ref 200), some (.int x1), some (.int (x2 + 1)), some (.int x3), some (.int x4), some (.int (x5 + 1)), none] [] ty h5 r g Q)) ∧ ((h 346 (Int32.toNatClampNeg x5)) = 1 → vp_in x5 3400 ∧ vp_in x2 170 ∧ (∀ h6 : pv_H, h6 = pv_up h 353 (Int32.toNatClampNeg x2) (h 347 (Int32.toNatClampNeg x5)) → pv_E Γ d kc ks mX12_says 19 [some (.ref 200), some (.int x1), some (.int (x2 + 1)), some (.int x3), some (.int x4), some (.int (x5 + 1)), none] [] ty h6 r g Q)))))))) ∧ ((h 346 (Int32.toNatClampNeg x5)) = 2 → vp_in 0 170 ∧ ((¬ (h 353 (Int32.toNatClampNeg 0)) = 0 → pv_E Γ d kc ks mX12_says 19 [some (.ref 200), some (.int x1), some (.int 0), some (.int x3), some (.int 0), some (.int (x5 + 1)), none] [] ty h r g Q) ∧ ((h 353 (Int32.toNatClampNeg 0)) = 0 → pv_E Γ d kc ks mX12_says 19 [some (.ref 200), some (.int x1), some (.int 0), some (.int x3), some (.int 1), some (.int (x5 + 1)), none] [] ty h r g Q))))) ∧ ((h 346 (Int32.toNatClampNeg x5)) = 3 → ((¬ x4 = 0 → pv_E Γ d kc ks mX12_says 19 [some (.ref 200), some (.int x1), some (.int 0), some (.int (x3 + 1)), some (.int 0), some (.int (x5 + 1)), none] [] ty h r g Q) ∧ (x4 = 0 → (∀ h7 : pv_H, h7 = pv_up h 200 54 x3 → vp_in 0 170 ∧ Q (some (.int (h7 353 (Int32.toNatClampNeg 0)))) ty h7 r g)))))))) : pv_E Γ d kc ks mX12_says 19 [some (.ref 200), some (.int x1), some (.int x2), some (.int x3), some (.int x4), some (.int x5), none] [] ty h r g Q := by
  refine pv_iload dX12_says_19 rfl ?_
  refine pv_sipush (v := 170) (by decide) dX12_says_21 ?_
  refine pv_iload_n dX12_says_24 rfl ?_
  refine pv_imul dX12_says_25 ?_
  refine pv_aload_n dX12_says_26 rfl ?_
  refine pv_getRk 12 45 dX12_says_27 fl_X12_112 rfl (lt_200 hL) (lr_200_45 hL) ?_
  refine pv_pc (pc' := 30) rfl ?_
  refine pv_iload_n dX12_says_30 rfl ?_
  obtain ⟨q1, F⟩ := F
  refine pv_iald dX12_says_31 (lt_345 hL) q1 ?_
  refine pv_iadd dX12_says_32 ?_
  refine pv_icmp_ge (tgt := 193) dX12_says_33 (by decide) (fun c1 => ?_) (fun c1 => ?_)
  · have F := F.1 c1
    refine pv_iconst (v := 0) (by decide) dX12_says_193 ?_
    exact pv_ireturn dX12_says_194 rfl rfl F
  · have F := F.2 c1
    refine pv_aload_n dX12_says_36 rfl ?_
    refine pv_getRk 12 46 dX12_says_37 fl_X12_115 rfl (lt_200 hL) (lr_200_46 hL) ?_
    refine pv_iload dX12_says_40 rfl ?_
    obtain ⟨q2, F⟩ := F
    refine pv_iald dX12_says_42 (lt_346 hL) q2 ?_
    refine pv_istore (ls' := [some (.ref 200), some (.int x1), some (.int x2), some (.int x3), some (.int x4), some (.int x5), some (.int (h 346 (Int32.toNatClampNeg x5)))]) dX12_says_43 (by decide) rfl rfl ?_
    refine pv_iload dX12_says_45 rfl ?_
    refine pv_iconst (v := 3) (by decide) dX12_says_47 ?_
    refine pv_icmp_ne (tgt := 79) dX12_says_48 (by decide) (fun c2 => ?_) (fun c2 => ?_)
    · have F := F.1 c2
      refine pv_iload dX12_says_79 rfl ?_
      refine pv_iconst (v := 2) (by decide) dX12_says_81 ?_
      refine pv_icmp_ne (tgt := 106) dX12_says_82 (by decide) (fun c3 => ?_) (fun c3 => ?_)
      · have F := F.1 c3
        refine pv_iload dX12_says_106 rfl ?_
        refine pv_iconst (v := 1) (by decide) dX12_says_108 ?_
        refine pv_icmp_eq (tgt := 119) dX12_says_109 (by decide) (fun c4 => ?_) (fun c4 => ?_)
        · have F := F.1 c4
          refine pv_aload_n dX12_says_119 rfl ?_
          refine pv_getRk 12 53 dX12_says_120 fl_X12_127 rfl (lt_200 hL) (lr_200_53 hL) ?_
          refine pv_iload_n dX12_says_123 rfl ?_
          refine pv_iload dX12_says_124 rfl ?_
          refine pv_iconst (v := 1) (by decide) dX12_says_126 ?_
          refine pv_icmp_ne (tgt := 140) dX12_says_127 (by decide) (fun c5 => ?_) (fun c5 => ?_)
          · have F := F.1 c5
            refine pv_aload_n dX12_says_140 rfl ?_
            refine pv_getRk 12 52 dX12_says_141 fl_X12_124 rfl (lt_200 hL) (lr_200_52 hL) ?_
            refine pv_iload dX12_says_144 rfl ?_
            refine pv_bipush (v := 100) (by decide) dX12_says_146 ?_
            refine pv_isub dX12_says_148 ?_
            obtain ⟨q3, F⟩ := F
            refine pv_iald dX12_says_149 (lt_352 hL) q3 ?_
            obtain ⟨q4, F⟩ := F
            obtain ⟨h1, eh1⟩ : ∃ h1 : pv_H, h1 = pv_up h 353 (Int32.toNatClampNeg x2) (h 352 (Int32.toNatClampNeg ((h 346 (Int32.toNatClampNeg x5)) - 100))) := ⟨_, rfl⟩
            have F := F h1 eh1
            refine pv_iast dX12_says_150 (lt_353 hL) (by decide) q4 ?_
            refine pv_hE eh1 ?_
            refine pv_iinc (v := x2 + 1) (ls' := [some (.ref 200), some (.int x1), some (.int (x2 + 1)), some (.int x3), some (.int x4), some (.int x5), some (.int (h 346 (Int32.toNatClampNeg x5)))]) dX12_says_151 rfl (by rfl) rfl rfl ?_
            refine pv_goto (tgt := 187) dX12_says_154 (by decide) ?_
            refine pv_iinc (v := x5 + 1) (ls' := [some (.ref 200), some (.int x1), some (.int (x2 + 1)), some (.int x3), some (.int x4), some (.int (x5 + 1)), some (.int (h 346 (Int32.toNatClampNeg x5)))]) dX12_says_187 rfl (by rfl) rfl rfl ?_
            refine pv_goto (tgt := 19) dX12_says_190 (by decide) ?_
            refine pv_forgetL (ls' := [some (.ref 200), some (.int x1), some (.int (x2 + 1)), some (.int x3), some (.int x4), some (.int (x5 + 1)), none]) (pv_subL_ok ⟨rfl, ⟨rfl, ⟨rfl, ⟨rfl, ⟨rfl, ⟨rfl, trivial⟩⟩⟩⟩⟩⟩) ?_
            exact F
          · have F := F.2 c5
            refine pv_aload_n dX12_says_130 rfl ?_
            refine pv_getRk 12 47 dX12_says_131 fl_X12_118 rfl (lt_200 hL) (lr_200_47 hL) ?_
            refine pv_iload dX12_says_134 rfl ?_
            obtain ⟨q5, F⟩ := F
            refine pv_iald dX12_says_136 (lt_347 hL) q5 ?_
            refine pv_goto (tgt := 150) dX12_says_137 (by decide) ?_
            obtain ⟨q6, F⟩ := F
            obtain ⟨h2, eh2⟩ : ∃ h2 : pv_H, h2 = pv_up h 353 (Int32.toNatClampNeg x2) (h 347 (Int32.toNatClampNeg x5)) := ⟨_, rfl⟩
            have F := F h2 eh2
            refine pv_iast dX12_says_150 (lt_353 hL) (by decide) q6 ?_
            refine pv_hE eh2 ?_
            refine pv_iinc (v := x2 + 1) (ls' := [some (.ref 200), some (.int x1), some (.int (x2 + 1)), some (.int x3), some (.int x4), some (.int x5), some (.int (h 346 (Int32.toNatClampNeg x5)))]) dX12_says_151 rfl (by rfl) rfl rfl ?_
            refine pv_goto (tgt := 187) dX12_says_154 (by decide) ?_
            refine pv_iinc (v := x5 + 1) (ls' := [some (.ref 200), some (.int x1), some (.int (x2 + 1)), some (.int x3), some (.int x4), some (.int (x5 + 1)), some (.int (h 346 (Int32.toNatClampNeg x5)))]) dX12_says_187 rfl (by rfl) rfl rfl ?_
            refine pv_goto (tgt := 19) dX12_says_190 (by decide) ?_
            refine pv_forgetL (ls' := [some (.ref 200), some (.int x1), some (.int (x2 + 1)), some (.int x3), some (.int x4), some (.int (x5 + 1)), none]) (pv_subL_ok ⟨rfl, ⟨rfl, ⟨rfl, ⟨rfl, ⟨rfl, ⟨rfl, trivial⟩⟩⟩⟩⟩⟩) ?_
            exact F
        · have F := F.2 c4
          refine pv_iload dX12_says_112 rfl ?_
          refine pv_bipush (v := 100) (by decide) dX12_says_114 ?_
          refine pv_icmp_lt (tgt := 157) dX12_says_116 (by decide) (fun c6 => ?_) (fun c6 => ?_)
          · have F := F.1 c6
            refine pv_iinc (v := x2 + (-1)) (ls' := [some (.ref 200), some (.int x1), some (.int (x2 + (-1))), some (.int x3), some (.int x4), some (.int x5), some (.int (h 346 (Int32.toNatClampNeg x5)))]) dX12_says_157 rfl (by rfl) rfl rfl ?_
            refine pv_aload_n dX12_says_160 rfl ?_
            refine pv_getRk 12 53 dX12_says_161 fl_X12_127 rfl (lt_200 hL) (lr_200_53 hL) ?_
            refine pv_iload_n dX12_says_164 rfl ?_
            refine pv_iconst (v := 1) (by decide) dX12_says_165 ?_
            refine pv_isub dX12_says_166 ?_
            refine pv_pc (pc' := 167) rfl ?_
            refine pv_iload dX12_says_167 rfl ?_
            refine pv_aload_n dX12_says_169 rfl ?_
            refine pv_getRk 12 53 dX12_says_170 fl_X12_127 rfl (lt_200 hL) (lr_200_53 hL) ?_
            refine pv_iload_n dX12_says_173 rfl ?_
            refine pv_iconst (v := 1) (by decide) dX12_says_174 ?_
            refine pv_isub dX12_says_175 ?_
            refine pv_pc (pc' := 176) rfl ?_
            obtain ⟨q7, F⟩ := F
            refine pv_iald dX12_says_176 (lt_353 hL) q7 ?_
            refine pv_aload_n dX12_says_177 rfl ?_
            refine pv_getRk 12 53 dX12_says_178 fl_X12_127 rfl (lt_200 hL) (lr_200_53 hL) ?_
            refine pv_iload_n dX12_says_181 rfl ?_
            obtain ⟨q8, F⟩ := F
            refine pv_iald dX12_says_182 (lt_353 hL) q8 ?_
            refine pv_invS (As := [.int (h 346 (Int32.toNatClampNeg x5)), .int (h 353 (Int32.toNatClampNeg ((x2 + (-1)) - 1))), .int (h 353 (Int32.toNatClampNeg (x2 + (-1))))]) (d' := d - 1) dX12_says_183 moX12_both ml_X12_294 (Nat.le_of_ble_eq_true rfl) (by omega) (Nat.zero_le _) (Nat.zero_le _) F (fun v ty' h3 r' g' hq => ?_) rfl
            obtain ⟨e2, e4, e5, w1, e1, F⟩ := hq
            rw [e1, e2, e4, e5]
            refine pv_pc (pc' := 186) rfl ?_
            show pv_E Γ d kc ks mX12_says 186 [some (.ref 200), some (.int x1), some (.int (x2 + (-1))), some (.int x3), some (.int x4), some (.int x5), some (.int (h 346 (Int32.toNatClampNeg x5)))] [.int w1, .int ((x2 + (-1)) - 1), .ref 353] ty h3 r g Q
            obtain ⟨q9, F⟩ := F
            obtain ⟨h4, eh4⟩ : ∃ h4 : pv_H, h4 = pv_up h3 353 (Int32.toNatClampNeg ((x2 + (-1)) - 1)) w1 := ⟨_, rfl⟩
            have F := F h4 eh4
            refine pv_iast dX12_says_186 (lt_353 hL) (by decide) q9 ?_
            refine pv_hE eh4 ?_
            refine pv_iinc (v := x5 + 1) (ls' := [some (.ref 200), some (.int x1), some (.int (x2 + (-1))), some (.int x3), some (.int x4), some (.int (x5 + 1)), some (.int (h 346 (Int32.toNatClampNeg x5)))]) dX12_says_187 rfl (by rfl) rfl rfl ?_
            refine pv_goto (tgt := 19) dX12_says_190 (by decide) ?_
            refine pv_forgetL (ls' := [some (.ref 200), some (.int x1), some (.int (x2 + (-1))), some (.int x3), some (.int x4), some (.int (x5 + 1)), none]) (pv_subL_ok ⟨rfl, ⟨rfl, ⟨rfl, ⟨rfl, ⟨rfl, ⟨rfl, trivial⟩⟩⟩⟩⟩⟩) ?_
            exact F
          · have F := F.2 c6
            refine pv_aload_n dX12_says_119 rfl ?_
            refine pv_getRk 12 53 dX12_says_120 fl_X12_127 rfl (lt_200 hL) (lr_200_53 hL) ?_
            refine pv_iload_n dX12_says_123 rfl ?_
            refine pv_iload dX12_says_124 rfl ?_
            refine pv_iconst (v := 1) (by decide) dX12_says_126 ?_
            refine pv_icmp_ne (tgt := 140) dX12_says_127 (by decide) (fun c7 => ?_) (fun c7 => ?_)
            · have F := F.1 c7
              refine pv_aload_n dX12_says_140 rfl ?_
              refine pv_getRk 12 52 dX12_says_141 fl_X12_124 rfl (lt_200 hL) (lr_200_52 hL) ?_
              refine pv_iload dX12_says_144 rfl ?_
              refine pv_bipush (v := 100) (by decide) dX12_says_146 ?_
              refine pv_isub dX12_says_148 ?_
              obtain ⟨q10, F⟩ := F
              refine pv_iald dX12_says_149 (lt_352 hL) q10 ?_
              obtain ⟨q11, F⟩ := F
              obtain ⟨h5, eh5⟩ : ∃ h5 : pv_H, h5 = pv_up h 353 (Int32.toNatClampNeg x2) (h 352 (Int32.toNatClampNeg ((h 346 (Int32.toNatClampNeg x5)) - 100))) := ⟨_, rfl⟩
              have F := F h5 eh5
              refine pv_iast dX12_says_150 (lt_353 hL) (by decide) q11 ?_
              refine pv_hE eh5 ?_
              refine pv_iinc (v := x2 + 1) (ls' := [some (.ref 200), some (.int x1), some (.int (x2 + 1)), some (.int x3), some (.int x4), some (.int x5), some (.int (h 346 (Int32.toNatClampNeg x5)))]) dX12_says_151 rfl (by rfl) rfl rfl ?_
              refine pv_goto (tgt := 187) dX12_says_154 (by decide) ?_
              refine pv_iinc (v := x5 + 1) (ls' := [some (.ref 200), some (.int x1), some (.int (x2 + 1)), some (.int x3), some (.int x4), some (.int (x5 + 1)), some (.int (h 346 (Int32.toNatClampNeg x5)))]) dX12_says_187 rfl (by rfl) rfl rfl ?_
              refine pv_goto (tgt := 19) dX12_says_190 (by decide) ?_
              refine pv_forgetL (ls' := [some (.ref 200), some (.int x1), some (.int (x2 + 1)), some (.int x3), some (.int x4), some (.int (x5 + 1)), none]) (pv_subL_ok ⟨rfl, ⟨rfl, ⟨rfl, ⟨rfl, ⟨rfl, ⟨rfl, trivial⟩⟩⟩⟩⟩⟩) ?_
              exact F
            · have F := F.2 c7
              refine pv_aload_n dX12_says_130 rfl ?_
              refine pv_getRk 12 47 dX12_says_131 fl_X12_118 rfl (lt_200 hL) (lr_200_47 hL) ?_
              refine pv_iload dX12_says_134 rfl ?_
              obtain ⟨q12, F⟩ := F
              refine pv_iald dX12_says_136 (lt_347 hL) q12 ?_
              refine pv_goto (tgt := 150) dX12_says_137 (by decide) ?_
              obtain ⟨q13, F⟩ := F
              obtain ⟨h6, eh6⟩ : ∃ h6 : pv_H, h6 = pv_up h 353 (Int32.toNatClampNeg x2) (h 347 (Int32.toNatClampNeg x5)) := ⟨_, rfl⟩
              have F := F h6 eh6
              refine pv_iast dX12_says_150 (lt_353 hL) (by decide) q13 ?_
              refine pv_hE eh6 ?_
              refine pv_iinc (v := x2 + 1) (ls' := [some (.ref 200), some (.int x1), some (.int (x2 + 1)), some (.int x3), some (.int x4), some (.int x5), some (.int (h 346 (Int32.toNatClampNeg x5)))]) dX12_says_151 rfl (by rfl) rfl rfl ?_
              refine pv_goto (tgt := 187) dX12_says_154 (by decide) ?_
              refine pv_iinc (v := x5 + 1) (ls' := [some (.ref 200), some (.int x1), some (.int (x2 + 1)), some (.int x3), some (.int x4), some (.int (x5 + 1)), some (.int (h 346 (Int32.toNatClampNeg x5)))]) dX12_says_187 rfl (by rfl) rfl rfl ?_
              refine pv_goto (tgt := 19) dX12_says_190 (by decide) ?_
              refine pv_forgetL (ls' := [some (.ref 200), some (.int x1), some (.int (x2 + 1)), some (.int x3), some (.int x4), some (.int (x5 + 1)), none]) (pv_subL_ok ⟨rfl, ⟨rfl, ⟨rfl, ⟨rfl, ⟨rfl, ⟨rfl, trivial⟩⟩⟩⟩⟩⟩) ?_
              exact F
      · have F := F.2 c3
        refine pv_aload_n dX12_says_85 rfl ?_
        refine pv_getRk 12 53 dX12_says_86 fl_X12_127 rfl (lt_200 hL) (lr_200_53 hL) ?_
        refine pv_iconst (v := 0) (by decide) dX12_says_89 ?_
        obtain ⟨q14, F⟩ := F
        refine pv_iald dX12_says_90 (lt_353 hL) q14 ?_
        refine pv_if_ne (tgt := 98) dX12_says_91 (by decide) (fun c8 => ?_) (fun c8 => ?_)
        · have F := F.1 c8
          refine pv_iconst (v := 0) (by decide) dX12_says_98 ?_
          refine pv_istore (ls' := [some (.ref 200), some (.int x1), some (.int x2), some (.int x3), some (.int 0), some (.int x5), some (.int (h 346 (Int32.toNatClampNeg x5)))]) dX12_says_99 (by decide) rfl rfl ?_
          refine pv_iconst (v := 0) (by decide) dX12_says_101 ?_
          refine pv_istore_n (ls' := [some (.ref 200), some (.int x1), some (.int 0), some (.int x3), some (.int 0), some (.int x5), some (.int (h 346 (Int32.toNatClampNeg x5)))]) dX12_says_102 (by decide) rfl rfl ?_
          refine pv_goto (tgt := 187) dX12_says_103 (by decide) ?_
          refine pv_iinc (v := x5 + 1) (ls' := [some (.ref 200), some (.int x1), some (.int 0), some (.int x3), some (.int 0), some (.int (x5 + 1)), some (.int (h 346 (Int32.toNatClampNeg x5)))]) dX12_says_187 rfl (by rfl) rfl rfl ?_
          refine pv_goto (tgt := 19) dX12_says_190 (by decide) ?_
          refine pv_forgetL (ls' := [some (.ref 200), some (.int x1), some (.int 0), some (.int x3), some (.int 0), some (.int (x5 + 1)), none]) (pv_subL_ok ⟨rfl, ⟨rfl, ⟨rfl, ⟨rfl, ⟨rfl, ⟨rfl, trivial⟩⟩⟩⟩⟩⟩) ?_
          exact F
        · have F := F.2 c8
          refine pv_iconst (v := 1) (by decide) dX12_says_94 ?_
          refine pv_goto (tgt := 99) dX12_says_95 (by decide) ?_
          refine pv_istore (ls' := [some (.ref 200), some (.int x1), some (.int x2), some (.int x3), some (.int 1), some (.int x5), some (.int (h 346 (Int32.toNatClampNeg x5)))]) dX12_says_99 (by decide) rfl rfl ?_
          refine pv_iconst (v := 0) (by decide) dX12_says_101 ?_
          refine pv_istore_n (ls' := [some (.ref 200), some (.int x1), some (.int 0), some (.int x3), some (.int 1), some (.int x5), some (.int (h 346 (Int32.toNatClampNeg x5)))]) dX12_says_102 (by decide) rfl rfl ?_
          refine pv_goto (tgt := 187) dX12_says_103 (by decide) ?_
          refine pv_iinc (v := x5 + 1) (ls' := [some (.ref 200), some (.int x1), some (.int 0), some (.int x3), some (.int 1), some (.int (x5 + 1)), some (.int (h 346 (Int32.toNatClampNeg x5)))]) dX12_says_187 rfl (by rfl) rfl rfl ?_
          refine pv_goto (tgt := 19) dX12_says_190 (by decide) ?_
          refine pv_forgetL (ls' := [some (.ref 200), some (.int x1), some (.int 0), some (.int x3), some (.int 1), some (.int (x5 + 1)), none]) (pv_subL_ok ⟨rfl, ⟨rfl, ⟨rfl, ⟨rfl, ⟨rfl, ⟨rfl, trivial⟩⟩⟩⟩⟩⟩) ?_
          exact F
    · have F := F.2 c2
      refine pv_iload dX12_says_51 rfl ?_
      refine pv_if_ne (tgt := 68) dX12_says_53 (by decide) (fun c9 => ?_) (fun c9 => ?_)
      · have F := F.1 c9
        refine pv_iconst (v := 0) (by decide) dX12_says_68 ?_
        refine pv_istore (ls' := [some (.ref 200), some (.int x1), some (.int x2), some (.int x3), some (.int 0), some (.int x5), some (.int (h 346 (Int32.toNatClampNeg x5)))]) dX12_says_69 (by decide) rfl rfl ?_
        refine pv_iinc (v := x3 + 1) (ls' := [some (.ref 200), some (.int x1), some (.int x2), some (.int (x3 + 1)), some (.int 0), some (.int x5), some (.int (h 346 (Int32.toNatClampNeg x5)))]) dX12_says_71 rfl (by rfl) rfl rfl ?_
        refine pv_iconst (v := 0) (by decide) dX12_says_74 ?_
        refine pv_istore_n (ls' := [some (.ref 200), some (.int x1), some (.int 0), some (.int (x3 + 1)), some (.int 0), some (.int x5), some (.int (h 346 (Int32.toNatClampNeg x5)))]) dX12_says_75 (by decide) rfl rfl ?_
        refine pv_goto (tgt := 187) dX12_says_76 (by decide) ?_
        refine pv_iinc (v := x5 + 1) (ls' := [some (.ref 200), some (.int x1), some (.int 0), some (.int (x3 + 1)), some (.int 0), some (.int (x5 + 1)), some (.int (h 346 (Int32.toNatClampNeg x5)))]) dX12_says_187 rfl (by rfl) rfl rfl ?_
        refine pv_goto (tgt := 19) dX12_says_190 (by decide) ?_
        refine pv_forgetL (ls' := [some (.ref 200), some (.int x1), some (.int 0), some (.int (x3 + 1)), some (.int 0), some (.int (x5 + 1)), none]) (pv_subL_ok ⟨rfl, ⟨rfl, ⟨rfl, ⟨rfl, ⟨rfl, ⟨rfl, trivial⟩⟩⟩⟩⟩⟩) ?_
        exact F
      · have F := F.2 c9
        refine pv_aload_n dX12_says_56 rfl ?_
        refine pv_iload_n dX12_says_57 rfl ?_
        obtain ⟨h7, eh7⟩ : ∃ h7 : pv_H, h7 = pv_up h 200 54 x3 := ⟨_, rfl⟩
        have F := F h7 eh7
        refine pv_putI 12 54 dX12_says_58 fl_X12_291 ⟨_, rfl, Or.inl rfl⟩ (Or.inl rfl) (lt_200 hL) ?_
        refine pv_hE eh7 ?_
        refine pv_aload_n dX12_says_61 rfl ?_
        refine pv_getRk 12 53 dX12_says_62 fl_X12_127 rfl (lt_200 hL) (lr_200_53 hL) ?_
        refine pv_iconst (v := 0) (by decide) dX12_says_65 ?_
        obtain ⟨q15, F⟩ := F
        refine pv_iald dX12_says_66 (lt_353 hL) q15 ?_
        exact pv_ireturn dX12_says_67 rfl rfl F
