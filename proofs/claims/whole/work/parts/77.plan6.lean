/-! plan, planned: the reference -/
set_option maxRecDepth 20000 in
set_option maxHeartbeats 4000000 in
theorem sg_X12_plan_0 {Γ : pv_C} {d kc ks : Nat} {ty : pv_T} {h : pv_H} {r : pv_R} {g : pv_G} {Q : pv_Q} (x : Int32) (y : Int32) (z : Int32) (u : Int32) (t : Int32) (hd : 1 ≤ d) (F : (((pf_b (1 ≤ x ∧ x ≤ 255)) = 0 → Q (some (.int (-1))) ty h r g) ∧ (¬ (pf_b (1 ≤ x ∧ x ≤ 255)) = 0 → (((pf_b (1 ≤ y ∧ y ≤ 3)) = 0 → Q (some (.int (-1))) ty h r g) ∧ (¬ (pf_b (1 ≤ y ∧ y ≤ 3)) = 0 → (((pf_b (0 ≤ z ∧ z ≤ 99999)) = 0 → Q (some (.int (-1))) ty h r g) ∧ (¬ (pf_b (0 ≤ z ∧ z ≤ 99999)) = 0 → (((pf_b (0 ≤ u ∧ u ≤ 99999)) = 0 → Q (some (.int (-1))) ty h r g) ∧ (¬ (pf_b (0 ≤ u ∧ u ≤ 99999)) = 0 → (((pf_b (0 ≤ t ∧ t ≤ 99999)) = 0 → Q (some (.int (-1))) ty h r g) ∧ (¬ (pf_b (0 ≤ t ∧ t ≤ 99999)) = 0 → ((2 ≤ y → ((3 ≤ y → pv_E Γ d kc ks mX12_plan 80 [some (.ref 200), some (.int x), some (.int y), some (.int z), some (.int u), some (.int t), some (.int 0), some (.int 0), none, none, none, none, none, none] [] ty h r g Q) ∧ (¬ 3 ≤ y → ((t = 0 → pv_E Γ d kc ks mX12_plan 80 [some (.ref 200), some (.int x), some (.int y), some (.int z), some (.int u), some (.int t), some (.int 0), some (.int 0), none, none, none, none, none, none] [] ty h r g Q) ∧ (¬ t = 0 → Q (some (.int (-1))) ty h r g))))) ∧ (¬ 2 ≤ y → ((¬ u = 0 → Q (some (.int (-1))) ty h r g) ∧ (u = 0 → ((3 ≤ y → pv_E Γ d kc ks mX12_plan 80 [some (.ref 200), some (.int x), some (.int y), some (.int z), some (.int u), some (.int t), some (.int 0), some (.int 0), none, none, none, none, none, none] [] ty h r g Q) ∧ (¬ 3 ≤ y → ((t = 0 → pv_E Γ d kc ks mX12_plan 80 [some (.ref 200), some (.int x), some (.int y), some (.int z), some (.int u), some (.int t), some (.int 0), some (.int 0), none, none, none, none, none, none] [] ty h r g Q) ∧ (¬ t = 0 → Q (some (.int (-1))) ty h r g))))))))))))))))))) : pv_E Γ d kc ks mX12_plan 0 [some (.ref 200), some (.int x), some (.int y), some (.int z), some (.int u), some (.int t), none, none, none, none, none, none, none, none] [] ty h r g Q := by
  refine pv_iload_n dX12_plan_0 rfl ?_
  refine pv_iconst (v := 1) (by decide) dX12_plan_1 ?_
  refine pv_sipush (v := 255) (by decide) dX12_plan_2 ?_
  refine pv_invS (As := [.int x, .int 1, .int 255]) (d' := d - 1) dX12_plan_5 moX12_in ml_X12_164 (Nat.le_of_ble_eq_true rfl) (by omega) (Nat.zero_le _) (Nat.zero_le _) (ct_X12_in (by omega)) (fun v ty' h' r' g' hq => ?_) rfl
  obtain ⟨e1, e2, e3, e4, e5⟩ := hq
  rw [e1, e2, e3, e4, e5]
  refine pv_pc (pc' := 8) rfl ?_
  show pv_E Γ d kc ks mX12_plan 8 [some (.ref 200), some (.int x), some (.int y), some (.int z), some (.int u), some (.int t), none, none, none, none, none, none, none, none] [.int (pf_b (1 ≤ x ∧ x ≤ 255))] ty h r g Q
  refine pv_if_eq (tgt := 72) dX12_plan_8 (by decide) (fun c1 => ?_) (fun c1 => ?_)
  · have F := F.1 c1
    refine pv_iconst (v := (-1)) (by decide) dX12_plan_72 ?_
    exact pv_ireturn dX12_plan_73 rfl rfl F
  · have F := F.2 c1
    refine pv_iload_n dX12_plan_11 rfl ?_
    refine pv_iconst (v := 1) (by decide) dX12_plan_12 ?_
    refine pv_iconst (v := 3) (by decide) dX12_plan_13 ?_
    refine pv_invS (As := [.int y, .int 1, .int 3]) (d' := d - 1) dX12_plan_14 moX12_in ml_X12_164 (Nat.le_of_ble_eq_true rfl) (by omega) (Nat.zero_le _) (Nat.zero_le _) (ct_X12_in (by omega)) (fun v ty' h' r' g' hq => ?_) rfl
    obtain ⟨e1, e2, e3, e4, e5⟩ := hq
    rw [e1, e2, e3, e4, e5]
    refine pv_pc (pc' := 17) rfl ?_
    show pv_E Γ d kc ks mX12_plan 17 [some (.ref 200), some (.int x), some (.int y), some (.int z), some (.int u), some (.int t), none, none, none, none, none, none, none, none] [.int (pf_b (1 ≤ y ∧ y ≤ 3))] ty h r g Q
    refine pv_if_eq (tgt := 72) dX12_plan_17 (by decide) (fun c2 => ?_) (fun c2 => ?_)
    · have F := F.1 c2
      refine pv_iconst (v := (-1)) (by decide) dX12_plan_72 ?_
      exact pv_ireturn dX12_plan_73 rfl rfl F
    · have F := F.2 c2
      refine pv_iload_n dX12_plan_20 rfl ?_
      refine pv_iconst (v := 0) (by decide) dX12_plan_21 ?_
      refine pv_ldc (v := 99999) dX12_plan_22 kc_X12_221 ?_
      refine pv_invS (As := [.int z, .int 0, .int 99999]) (d' := d - 1) dX12_plan_24 moX12_in ml_X12_164 (Nat.le_of_ble_eq_true rfl) (by omega) (Nat.zero_le _) (Nat.zero_le _) (ct_X12_in (by omega)) (fun v ty' h' r' g' hq => ?_) rfl
      obtain ⟨e1, e2, e3, e4, e5⟩ := hq
      rw [e1, e2, e3, e4, e5]
      refine pv_pc (pc' := 27) rfl ?_
      show pv_E Γ d kc ks mX12_plan 27 [some (.ref 200), some (.int x), some (.int y), some (.int z), some (.int u), some (.int t), none, none, none, none, none, none, none, none] [.int (pf_b (0 ≤ z ∧ z ≤ 99999))] ty h r g Q
      refine pv_if_eq (tgt := 72) dX12_plan_27 (by decide) (fun c3 => ?_) (fun c3 => ?_)
      · have F := F.1 c3
        refine pv_iconst (v := (-1)) (by decide) dX12_plan_72 ?_
        exact pv_ireturn dX12_plan_73 rfl rfl F
      · have F := F.2 c3
        refine pv_iload dX12_plan_30 rfl ?_
        refine pv_iconst (v := 0) (by decide) dX12_plan_32 ?_
        refine pv_ldc (v := 99999) dX12_plan_33 kc_X12_221 ?_
        refine pv_invS (As := [.int u, .int 0, .int 99999]) (d' := d - 1) dX12_plan_35 moX12_in ml_X12_164 (Nat.le_of_ble_eq_true rfl) (by omega) (Nat.zero_le _) (Nat.zero_le _) (ct_X12_in (by omega)) (fun v ty' h' r' g' hq => ?_) rfl
        obtain ⟨e1, e2, e3, e4, e5⟩ := hq
        rw [e1, e2, e3, e4, e5]
        refine pv_pc (pc' := 38) rfl ?_
        show pv_E Γ d kc ks mX12_plan 38 [some (.ref 200), some (.int x), some (.int y), some (.int z), some (.int u), some (.int t), none, none, none, none, none, none, none, none] [.int (pf_b (0 ≤ u ∧ u ≤ 99999))] ty h r g Q
        refine pv_if_eq (tgt := 72) dX12_plan_38 (by decide) (fun c4 => ?_) (fun c4 => ?_)
        · have F := F.1 c4
          refine pv_iconst (v := (-1)) (by decide) dX12_plan_72 ?_
          exact pv_ireturn dX12_plan_73 rfl rfl F
        · have F := F.2 c4
          refine pv_iload dX12_plan_41 rfl ?_
          refine pv_iconst (v := 0) (by decide) dX12_plan_43 ?_
          refine pv_ldc (v := 99999) dX12_plan_44 kc_X12_221 ?_
          refine pv_invS (As := [.int t, .int 0, .int 99999]) (d' := d - 1) dX12_plan_46 moX12_in ml_X12_164 (Nat.le_of_ble_eq_true rfl) (by omega) (Nat.zero_le _) (Nat.zero_le _) (ct_X12_in (by omega)) (fun v ty' h' r' g' hq => ?_) rfl
          obtain ⟨e1, e2, e3, e4, e5⟩ := hq
          rw [e1, e2, e3, e4, e5]
          refine pv_pc (pc' := 49) rfl ?_
          show pv_E Γ d kc ks mX12_plan 49 [some (.ref 200), some (.int x), some (.int y), some (.int z), some (.int u), some (.int t), none, none, none, none, none, none, none, none] [.int (pf_b (0 ≤ t ∧ t ≤ 99999))] ty h r g Q
          refine pv_if_eq (tgt := 72) dX12_plan_49 (by decide) (fun c5 => ?_) (fun c5 => ?_)
          · have F := F.1 c5
            refine pv_iconst (v := (-1)) (by decide) dX12_plan_72 ?_
            exact pv_ireturn dX12_plan_73 rfl rfl F
          · have F := F.2 c5
            refine pv_iload_n dX12_plan_52 rfl ?_
            refine pv_iconst (v := 2) (by decide) dX12_plan_53 ?_
            refine pv_icmp_ge (tgt := 62) dX12_plan_54 (by decide) (fun c6 => ?_) (fun c6 => ?_)
            · have F := F.1 c6
              refine pv_iload_n dX12_plan_62 rfl ?_
              refine pv_iconst (v := 3) (by decide) dX12_plan_63 ?_
              refine pv_icmp_ge (tgt := 74) dX12_plan_64 (by decide) (fun c7 => ?_) (fun c7 => ?_)
              · have F := F.1 c7
                refine pv_iconst (v := 0) (by decide) dX12_plan_74 ?_
                refine pv_istore (ls' := [some (.ref 200), some (.int x), some (.int y), some (.int z), some (.int u), some (.int t), some (.int 0), none, none, none, none, none, none, none]) dX12_plan_75 (by decide) rfl rfl ?_
                refine pv_iconst (v := 0) (by decide) dX12_plan_77 ?_
                refine pv_istore (ls' := [some (.ref 200), some (.int x), some (.int y), some (.int z), some (.int u), some (.int t), some (.int 0), some (.int 0), none, none, none, none, none, none]) dX12_plan_78 (by decide) rfl rfl ?_
                exact F
              · have F := F.2 c7
                refine pv_iload dX12_plan_67 rfl ?_
                refine pv_if_eq (tgt := 74) dX12_plan_69 (by decide) (fun c8 => ?_) (fun c8 => ?_)
                · have F := F.1 c8
                  refine pv_iconst (v := 0) (by decide) dX12_plan_74 ?_
                  refine pv_istore (ls' := [some (.ref 200), some (.int x), some (.int y), some (.int z), some (.int u), some (.int t), some (.int 0), none, none, none, none, none, none, none]) dX12_plan_75 (by decide) rfl rfl ?_
                  refine pv_iconst (v := 0) (by decide) dX12_plan_77 ?_
                  refine pv_istore (ls' := [some (.ref 200), some (.int x), some (.int y), some (.int z), some (.int u), some (.int t), some (.int 0), some (.int 0), none, none, none, none, none, none]) dX12_plan_78 (by decide) rfl rfl ?_
                  exact F
                · have F := F.2 c8
                  refine pv_iconst (v := (-1)) (by decide) dX12_plan_72 ?_
                  exact pv_ireturn dX12_plan_73 rfl rfl F
            · have F := F.2 c6
              refine pv_iload dX12_plan_57 rfl ?_
              refine pv_if_ne (tgt := 72) dX12_plan_59 (by decide) (fun c9 => ?_) (fun c9 => ?_)
              · have F := F.1 c9
                refine pv_iconst (v := (-1)) (by decide) dX12_plan_72 ?_
                exact pv_ireturn dX12_plan_73 rfl rfl F
              · have F := F.2 c9
                refine pv_iload_n dX12_plan_62 rfl ?_
                refine pv_iconst (v := 3) (by decide) dX12_plan_63 ?_
                refine pv_icmp_ge (tgt := 74) dX12_plan_64 (by decide) (fun c10 => ?_) (fun c10 => ?_)
                · have F := F.1 c10
                  refine pv_iconst (v := 0) (by decide) dX12_plan_74 ?_
                  refine pv_istore (ls' := [some (.ref 200), some (.int x), some (.int y), some (.int z), some (.int u), some (.int t), some (.int 0), none, none, none, none, none, none, none]) dX12_plan_75 (by decide) rfl rfl ?_
                  refine pv_iconst (v := 0) (by decide) dX12_plan_77 ?_
                  refine pv_istore (ls' := [some (.ref 200), some (.int x), some (.int y), some (.int z), some (.int u), some (.int t), some (.int 0), some (.int 0), none, none, none, none, none, none]) dX12_plan_78 (by decide) rfl rfl ?_
                  exact F
                · have F := F.2 c10
                  refine pv_iload dX12_plan_67 rfl ?_
                  refine pv_if_eq (tgt := 74) dX12_plan_69 (by decide) (fun c11 => ?_) (fun c11 => ?_)
                  · have F := F.1 c11
                    refine pv_iconst (v := 0) (by decide) dX12_plan_74 ?_
                    refine pv_istore (ls' := [some (.ref 200), some (.int x), some (.int y), some (.int z), some (.int u), some (.int t), some (.int 0), none, none, none, none, none, none, none]) dX12_plan_75 (by decide) rfl rfl ?_
                    refine pv_iconst (v := 0) (by decide) dX12_plan_77 ?_
                    refine pv_istore (ls' := [some (.ref 200), some (.int x), some (.int y), some (.int z), some (.int u), some (.int t), some (.int 0), some (.int 0), none, none, none, none, none, none]) dX12_plan_78 (by decide) rfl rfl ?_
                    exact F
                  · have F := F.2 c11
                    refine pv_iconst (v := (-1)) (by decide) dX12_plan_72 ?_
                    exact pv_ireturn dX12_plan_73 rfl rfl F
set_option maxRecDepth 20000 in
set_option maxHeartbeats 4000000 in
theorem sg_X12_plan_80 {Γ : pv_C} {d kc ks : Nat} {ty : pv_T} {h : pv_H} {r : pv_R} {g : pv_G} {Q : pv_Q} (x1 : Int32) (x2 : Int32) (x3 : Int32) (x4 : Int32) (x5 : Int32) (x6 : Int32) (x7 : Int32) (hd : 2 ≤ d) (hL : pv_Lay ty r) (F : ((8 ≤ x7 → ((x6 ≤ 6 → vp_in 0 3 ∧ (∀ h1 : pv_H, h1 = pv_up h 330 (Int32.toNatClampNeg 0) x3 → vp_in 1 3 ∧ (∀ h2 : pv_H, h2 = pv_up h1 330 (Int32.toNatClampNeg 1) x4 → vp_in 2 3 ∧ (∀ h3 : pv_H, h3 = pv_up h2 330 (Int32.toNatClampNeg 2) x5 → pv_E Γ d kc ks mX12_plan 170 [some (.ref 200), some (.int x1), some (.int x2), some (.int x3), some (.int x4), some (.int x5), none, some (.int (-1)), some (.int 0), some (.int 0), none, none, none, none] [] ty h3 r g Q)))) ∧ (¬ x6 ≤ 6 → Q (some (.int (-1))) ty h r g))) ∧ (¬ 8 ≤ x7 → ((¬ ((x1 >>> (x7 &&& 31)) &&& 1) = 0 → (((pf_b (0 ≤ x7 ∧ x7 ≤ h 200 1 - 1)) = 0 → Q (some (.int (-1))) ty h r g) ∧ (¬ (pf_b (0 ≤ x7 ∧ x7 ≤ h 200 1 - 1)) = 0 → vp_in x7 8 ∧ ((¬ (h 323 (Int32.toNatClampNeg x7)) = 0 → pv_E Γ d kc ks mX12_plan 80 [some (.ref 200), some (.int x1), some (.int x2), some (.int x3), some (.int x4), some (.int x5), some (.int (x6 + 1)), some (.int (x7 + 1)), none, none, none, none, none, none] [] ty h r g Q) ∧ ((h 323 (Int32.toNatClampNeg x7)) = 0 → Q (some (.int (-1))) ty h r g))))) ∧ (((x1 >>> (x7 &&& 31)) &&& 1) = 0 → pv_E Γ d kc ks mX12_plan 80 [some (.ref 200), some (.int x1), some (.int x2), some (.int x3), some (.int x4), some (.int x5), some (.int x6), some (.int (x7 + 1)), none, none, none, none, none, none] [] ty h r g Q))))) : pv_E Γ d kc ks mX12_plan 80 [some (.ref 200), some (.int x1), some (.int x2), some (.int x3), some (.int x4), some (.int x5), some (.int x6), some (.int x7), none, none, none, none, none, none] [] ty h r g Q := by
  refine pv_iload dX12_plan_80 rfl ?_
  refine pv_bipush (v := 8) (by decide) dX12_plan_82 ?_
  refine pv_icmp_ge (tgt := 129) dX12_plan_84 (by decide) (fun c1 => ?_) (fun c1 => ?_)
  · have F := F.1 c1
    refine pv_iload dX12_plan_129 rfl ?_
    refine pv_bipush (v := 6) (by decide) dX12_plan_131 ?_
    refine pv_icmp_le (tgt := 138) dX12_plan_133 (by decide) (fun c2 => ?_) (fun c2 => ?_)
    · have F := F.1 c2
      refine pv_aload_n dX12_plan_138 rfl ?_
      refine pv_getRk 12 30 dX12_plan_139 fl_X12_78 rfl (lt_200 hL) (lr_200_30 hL) ?_
      refine pv_iconst (v := 0) (by decide) dX12_plan_142 ?_
      refine pv_iload_n dX12_plan_143 rfl ?_
      obtain ⟨q1, F⟩ := F
      obtain ⟨h1, eh1⟩ : ∃ h1 : pv_H, h1 = pv_up h 330 (Int32.toNatClampNeg 0) x3 := ⟨_, rfl⟩
      have F := F h1 eh1
      refine pv_iast dX12_plan_144 (lt_330 hL) (by decide) q1 ?_
      refine pv_hE eh1 ?_
      refine pv_aload_n dX12_plan_145 rfl ?_
      refine pv_getRk 12 30 dX12_plan_146 fl_X12_78 rfl (lt_200 hL) (lr_200_30 hL) ?_
      refine pv_iconst (v := 1) (by decide) dX12_plan_149 ?_
      refine pv_iload dX12_plan_150 rfl ?_
      obtain ⟨q2, F⟩ := F
      obtain ⟨h2, eh2⟩ : ∃ h2 : pv_H, h2 = pv_up h1 330 (Int32.toNatClampNeg 1) x4 := ⟨_, rfl⟩
      have F := F h2 eh2
      refine pv_iast dX12_plan_152 (lt_330 hL) (by decide) q2 ?_
      refine pv_hE eh2 ?_
      refine pv_aload_n dX12_plan_153 rfl ?_
      refine pv_getRk 12 30 dX12_plan_154 fl_X12_78 rfl (lt_200 hL) (lr_200_30 hL) ?_
      refine pv_iconst (v := 2) (by decide) dX12_plan_157 ?_
      refine pv_iload dX12_plan_158 rfl ?_
      obtain ⟨q3, F⟩ := F
      obtain ⟨h3, eh3⟩ : ∃ h3 : pv_H, h3 = pv_up h2 330 (Int32.toNatClampNeg 2) x5 := ⟨_, rfl⟩
      have F := F h3 eh3
      refine pv_iast dX12_plan_160 (lt_330 hL) (by decide) q3 ?_
      refine pv_hE eh3 ?_
      refine pv_iconst (v := (-1)) (by decide) dX12_plan_161 ?_
      refine pv_istore (ls' := [some (.ref 200), some (.int x1), some (.int x2), some (.int x3), some (.int x4), some (.int x5), some (.int x6), some (.int (-1)), none, none, none, none, none, none]) dX12_plan_162 (by decide) rfl rfl ?_
      refine pv_iconst (v := 0) (by decide) dX12_plan_164 ?_
      refine pv_istore (ls' := [some (.ref 200), some (.int x1), some (.int x2), some (.int x3), some (.int x4), some (.int x5), some (.int x6), some (.int (-1)), some (.int 0), none, none, none, none, none]) dX12_plan_165 (by decide) rfl rfl ?_
      refine pv_iconst (v := 0) (by decide) dX12_plan_167 ?_
      refine pv_istore (ls' := [some (.ref 200), some (.int x1), some (.int x2), some (.int x3), some (.int x4), some (.int x5), some (.int x6), some (.int (-1)), some (.int 0), some (.int 0), none, none, none, none]) dX12_plan_168 (by decide) rfl rfl ?_
      refine pv_forgetL (ls' := [some (.ref 200), some (.int x1), some (.int x2), some (.int x3), some (.int x4), some (.int x5), none, some (.int (-1)), some (.int 0), some (.int 0), none, none, none, none]) (pv_subL_ok ⟨rfl, ⟨rfl, ⟨rfl, ⟨rfl, ⟨rfl, ⟨rfl, ⟨rfl, ⟨rfl, ⟨rfl, trivial⟩⟩⟩⟩⟩⟩⟩⟩⟩) ?_
      exact F
    · have F := F.2 c2
      refine pv_iconst (v := (-1)) (by decide) dX12_plan_136 ?_
      exact pv_ireturn dX12_plan_137 rfl rfl F
  · have F := F.2 c1
    refine pv_iload_n dX12_plan_87 rfl ?_
    refine pv_iload dX12_plan_88 rfl ?_
    refine pv_ishr dX12_plan_90 ?_
    refine pv_iconst (v := 1) (by decide) dX12_plan_91 ?_
    refine pv_iand dX12_plan_92 ?_
    refine pv_if_ne (tgt := 99) dX12_plan_93 (by decide) (fun c3 => ?_) (fun c3 => ?_)
    · have F := F.1 c3
      refine pv_aload_n dX12_plan_99 rfl ?_
      refine pv_iload dX12_plan_100 rfl ?_
      refine pv_invV (As := [.int x7]) (d' := d - 1) dX12_plan_102 moX12_isStreet ml_X12_168 (lt_200 hL) (Or.inl ⟨_, rfl, rfl⟩) (Nat.le_of_ble_eq_true rfl) (by omega) (Nat.zero_le _) (Nat.zero_le _) (ct_X12_isStreet (by omega) hL) (fun v ty' h' r' g' hq => ?_) rfl
      obtain ⟨e1, e2, e3, e4, e5⟩ := hq
      rw [e1, e2, e3, e4, e5]
      refine pv_pc (pc' := 105) rfl ?_
      show pv_E Γ d kc ks mX12_plan 105 [some (.ref 200), some (.int x1), some (.int x2), some (.int x3), some (.int x4), some (.int x5), some (.int x6), some (.int x7), none, none, none, none, none, none] [.int (pf_b (0 ≤ x7 ∧ x7 ≤ h 200 1 - 1))] ty h r g Q
      refine pv_if_eq (tgt := 118) dX12_plan_105 (by decide) (fun c4 => ?_) (fun c4 => ?_)
      · have F := F.1 c4
        refine pv_iconst (v := (-1)) (by decide) dX12_plan_118 ?_
        exact pv_ireturn dX12_plan_119 rfl rfl F
      · have F := F.2 c4
        refine pv_aload_n dX12_plan_108 rfl ?_
        refine pv_getRk 12 23 dX12_plan_109 fl_X12_63 rfl (lt_200 hL) (lr_200_23 hL) ?_
        refine pv_iload dX12_plan_112 rfl ?_
        obtain ⟨q4, F⟩ := F
        refine pv_iald dX12_plan_114 (lt_323 hL) q4 ?_
        refine pv_if_ne (tgt := 120) dX12_plan_115 (by decide) (fun c5 => ?_) (fun c5 => ?_)
        · have F := F.1 c5
          refine pv_iinc (v := x6 + 1) (ls' := [some (.ref 200), some (.int x1), some (.int x2), some (.int x3), some (.int x4), some (.int x5), some (.int (x6 + 1)), some (.int x7), none, none, none, none, none, none]) dX12_plan_120 rfl (by rfl) rfl rfl ?_
          refine pv_iinc (v := x7 + 1) (ls' := [some (.ref 200), some (.int x1), some (.int x2), some (.int x3), some (.int x4), some (.int x5), some (.int (x6 + 1)), some (.int (x7 + 1)), none, none, none, none, none, none]) dX12_plan_123 rfl (by rfl) rfl rfl ?_
          refine pv_goto (tgt := 80) dX12_plan_126 (by decide) ?_
          exact F
        · have F := F.2 c5
          refine pv_iconst (v := (-1)) (by decide) dX12_plan_118 ?_
          exact pv_ireturn dX12_plan_119 rfl rfl F
    · have F := F.2 c3
      refine pv_goto (tgt := 123) dX12_plan_96 (by decide) ?_
      refine pv_iinc (v := x7 + 1) (ls' := [some (.ref 200), some (.int x1), some (.int x2), some (.int x3), some (.int x4), some (.int x5), some (.int x6), some (.int (x7 + 1)), none, none, none, none, none, none]) dX12_plan_123 rfl (by rfl) rfl rfl ?_
      refine pv_goto (tgt := 80) dX12_plan_126 (by decide) ?_
      exact F
set_option maxRecDepth 20000 in
set_option maxHeartbeats 4000000 in
theorem sg_X12_plan_170 {Γ : pv_C} {d kc ks : Nat} {ty : pv_T} {h : pv_H} {r : pv_R} {g : pv_G} {Q : pv_Q} (x1 : Int32) (x2 : Int32) (x3 : Int32) (x4 : Int32) (x5 : Int32) (x7 : Int32) (x8 : Int32) (x9 : Int32) (hL : pv_Lay ty r) (F : ((8 ≤ x9 → pv_E Γ d kc ks mX12_plan 194 [some (.ref 200), some (.int x1), some (.int x2), some (.int x3), some (.int x4), some (.int x5), none, some (.int x7), some (.int x8), some (.int 1), none, none, none, none] [] ty h r g Q) ∧ (¬ 8 ≤ x9 → vp_in x9 8 ∧ (∀ h1 : pv_H, h1 = pv_up h 329 (Int32.toNatClampNeg x9) 0 → pv_E Γ d kc ks mX12_plan 170 [some (.ref 200), some (.int x1), some (.int x2), some (.int x3), some (.int x4), some (.int x5), none, some (.int x7), some (.int x8), some (.int (x9 + 1)), none, none, none, none] [] ty h1 r g Q)))) : pv_E Γ d kc ks mX12_plan 170 [some (.ref 200), some (.int x1), some (.int x2), some (.int x3), some (.int x4), some (.int x5), none, some (.int x7), some (.int x8), some (.int x9), none, none, none, none] [] ty h r g Q := by
  refine pv_iload dX12_plan_170 rfl ?_
  refine pv_bipush (v := 8) (by decide) dX12_plan_172 ?_
  refine pv_icmp_ge (tgt := 191) dX12_plan_174 (by decide) (fun c1 => ?_) (fun c1 => ?_)
  · have F := F.1 c1
    refine pv_iconst (v := 1) (by decide) dX12_plan_191 ?_
    refine pv_istore (ls' := [some (.ref 200), some (.int x1), some (.int x2), some (.int x3), some (.int x4), some (.int x5), none, some (.int x7), some (.int x8), some (.int 1), none, none, none, none]) dX12_plan_192 (by decide) rfl rfl ?_
    exact F
  · have F := F.2 c1
    refine pv_aload_n dX12_plan_177 rfl ?_
    refine pv_getRk 12 29 dX12_plan_178 fl_X12_75 rfl (lt_200 hL) (lr_200_29 hL) ?_
    refine pv_iload dX12_plan_181 rfl ?_
    refine pv_iconst (v := 0) (by decide) dX12_plan_183 ?_
    obtain ⟨q1, F⟩ := F
    obtain ⟨h1, eh1⟩ : ∃ h1 : pv_H, h1 = pv_up h 329 (Int32.toNatClampNeg x9) 0 := ⟨_, rfl⟩
    have F := F h1 eh1
    refine pv_iast dX12_plan_184 (lt_329 hL) (by decide) q1 ?_
    refine pv_hE eh1 ?_
    refine pv_iinc (v := x9 + 1) (ls' := [some (.ref 200), some (.int x1), some (.int x2), some (.int x3), some (.int x4), some (.int x5), none, some (.int x7), some (.int x8), some (.int (x9 + 1)), none, none, none, none]) dX12_plan_185 rfl (by rfl) rfl rfl ?_
    refine pv_goto (tgt := 170) dX12_plan_188 (by decide) ?_
    exact F
set_option maxRecDepth 20000 in
set_option maxHeartbeats 4000000 in
theorem sg_X12_plan_194 {Γ : pv_C} {d kc ks : Nat} {ty : pv_T} {h : pv_H} {r : pv_R} {g : pv_G} {Q : pv_Q} (x1 : Int32) (x2 : Int32) (x3 : Int32) (x4 : Int32) (x5 : Int32) (x7 : Int32) (x8 : Int32) (x9 : Int32) (hL : pv_Lay ty r) (F : ((x9 = 0 → (∀ h1 : pv_H, h1 = pv_up h 200 26 1 → (∀ h2 : pv_H, h2 = pv_up h1 200 27 x1 → Q (some (.int x7)) ty h2 r g))) ∧ (¬ x9 = 0 → pv_E Γ d kc ks mX12_plan 202 [some (.ref 200), some (.int x1), some (.int x2), some (.int x3), some (.int x4), some (.int x5), none, some (.int x7), some (.int x8), none, some (.int 0), none, none, none] [] ty h r g Q))) : pv_E Γ d kc ks mX12_plan 194 [some (.ref 200), some (.int x1), some (.int x2), some (.int x3), some (.int x4), some (.int x5), none, some (.int x7), some (.int x8), some (.int x9), none, none, none, none] [] ty h r g Q := by
  refine pv_iload dX12_plan_194 rfl ?_
  refine pv_if_eq (tgt := 540) dX12_plan_196 (by decide) (fun c1 => ?_) (fun c1 => ?_)
  · have F := F.1 c1
    refine pv_aload_n dX12_plan_540 rfl ?_
    refine pv_iconst (v := 1) (by decide) dX12_plan_541 ?_
    obtain ⟨h1, eh1⟩ : ∃ h1 : pv_H, h1 = pv_up h 200 26 1 := ⟨_, rfl⟩
    have F := F h1 eh1
    refine pv_putI 12 26 dX12_plan_542 fl_X12_225 ⟨_, rfl, Or.inl rfl⟩ (Or.inr ⟨rfl, by decide⟩) (lt_200 hL) ?_
    refine pv_hE eh1 ?_
    refine pv_aload_n dX12_plan_545 rfl ?_
    refine pv_iload_n dX12_plan_546 rfl ?_
    obtain ⟨h2, eh2⟩ : ∃ h2 : pv_H, h2 = pv_up h1 200 27 x1 := ⟨_, rfl⟩
    have F := F h2 eh2
    refine pv_putI 12 27 dX12_plan_547 fl_X12_228 ⟨_, rfl, Or.inl rfl⟩ (Or.inl rfl) (lt_200 hL) ?_
    refine pv_hE eh2 ?_
    refine pv_iload dX12_plan_550 rfl ?_
    exact pv_ireturn dX12_plan_552 rfl rfl F
  · have F := F.2 c1
    refine pv_iconst (v := 0) (by decide) dX12_plan_199 ?_
    refine pv_istore (ls' := [some (.ref 200), some (.int x1), some (.int x2), some (.int x3), some (.int x4), some (.int x5), none, some (.int x7), some (.int x8), some (.int x9), some (.int 0), none, none, none]) dX12_plan_200 (by decide) rfl rfl ?_
    refine pv_forgetL (ls' := [some (.ref 200), some (.int x1), some (.int x2), some (.int x3), some (.int x4), some (.int x5), none, some (.int x7), some (.int x8), none, some (.int 0), none, none, none]) (pv_subL_ok ⟨rfl, ⟨rfl, ⟨rfl, ⟨rfl, ⟨rfl, ⟨rfl, ⟨rfl, ⟨rfl, ⟨rfl, trivial⟩⟩⟩⟩⟩⟩⟩⟩⟩) ?_
    exact F
set_option maxRecDepth 20000 in
set_option maxHeartbeats 4000000 in
theorem sg_X12_plan_202 {Γ : pv_C} {d kc ks : Nat} {ty : pv_T} {h : pv_H} {r : pv_R} {g : pv_G} {Q : pv_Q} (x1 : Int32) (x2 : Int32) (x3 : Int32) (x4 : Int32) (x5 : Int32) (x7 : Int32) (x8 : Int32) (x10 : Int32) (hL : pv_Lay ty r) (F : ((3 ≤ x10 → pv_E Γ d kc ks mX12_plan 228 [some (.ref 200), some (.int x1), some (.int x2), some (.int x3), some (.int x4), some (.int x5), none, some (.int x7), some (.int x8), none, some (.int 0), some (.int 0), none, none] [] ty h r g Q) ∧ (¬ 3 ≤ x10 → vp_in x10 3 ∧ (∀ h1 : pv_H, h1 = pv_up h 331 (Int32.toNatClampNeg x10) 0 → pv_E Γ d kc ks mX12_plan 202 [some (.ref 200), some (.int x1), some (.int x2), some (.int x3), some (.int x4), some (.int x5), none, some (.int x7), some (.int x8), none, some (.int (x10 + 1)), none, none, none] [] ty h1 r g Q)))) : pv_E Γ d kc ks mX12_plan 202 [some (.ref 200), some (.int x1), some (.int x2), some (.int x3), some (.int x4), some (.int x5), none, some (.int x7), some (.int x8), none, some (.int x10), none, none, none] [] ty h r g Q := by
  refine pv_iload dX12_plan_202 rfl ?_
  refine pv_iconst (v := 3) (by decide) dX12_plan_204 ?_
  refine pv_icmp_ge (tgt := 222) dX12_plan_205 (by decide) (fun c1 => ?_) (fun c1 => ?_)
  · have F := F.1 c1
    refine pv_iconst (v := 0) (by decide) dX12_plan_222 ?_
    refine pv_istore (ls' := [some (.ref 200), some (.int x1), some (.int x2), some (.int x3), some (.int x4), some (.int x5), none, some (.int x7), some (.int x8), none, some (.int 0), none, none, none]) dX12_plan_223 (by decide) rfl rfl ?_
    refine pv_iconst (v := 0) (by decide) dX12_plan_225 ?_
    refine pv_istore (ls' := [some (.ref 200), some (.int x1), some (.int x2), some (.int x3), some (.int x4), some (.int x5), none, some (.int x7), some (.int x8), none, some (.int 0), some (.int 0), none, none]) dX12_plan_226 (by decide) rfl rfl ?_
    exact F
  · have F := F.2 c1
    refine pv_aload_n dX12_plan_208 rfl ?_
    refine pv_getRk 12 31 dX12_plan_209 fl_X12_81 rfl (lt_200 hL) (lr_200_31 hL) ?_
    refine pv_iload dX12_plan_212 rfl ?_
    refine pv_iconst (v := 0) (by decide) dX12_plan_214 ?_
    obtain ⟨q1, F⟩ := F
    obtain ⟨h1, eh1⟩ : ∃ h1 : pv_H, h1 = pv_up h 331 (Int32.toNatClampNeg x10) 0 := ⟨_, rfl⟩
    have F := F h1 eh1
    refine pv_iast dX12_plan_215 (lt_331 hL) (by decide) q1 ?_
    refine pv_hE eh1 ?_
    refine pv_iinc (v := x10 + 1) (ls' := [some (.ref 200), some (.int x1), some (.int x2), some (.int x3), some (.int x4), some (.int x5), none, some (.int x7), some (.int x8), none, some (.int (x10 + 1)), none, none, none]) dX12_plan_216 rfl (by rfl) rfl rfl ?_
    refine pv_goto (tgt := 202) dX12_plan_219 (by decide) ?_
    exact F
set_option maxRecDepth 20000 in
set_option maxHeartbeats 4000000 in
theorem sg_X12_plan_228 {Γ : pv_C} {d kc ks : Nat} {ty : pv_T} {h : pv_H} {r : pv_R} {g : pv_G} {Q : pv_Q} (x1 : Int32) (x2 : Int32) (x3 : Int32) (x4 : Int32) (x5 : Int32) (x7 : Int32) (x8 : Int32) (x10 : Int32) (x11 : Int32) (hd : 1 ≤ d) (hL : pv_Lay ty r) (F : ((8 ≤ x11 → vp_in 0 3 ∧ vp_in 1 3 ∧ vp_in 2 3 ∧ vp_in 0 3 ∧ ((x3 < (h 331 (Int32.toNatClampNeg 0)) → pv_E Γ d kc ks mX12_plan 470 [some (.ref 200), some (.int x1), some (.int x2), some (.int x3), some (.int x4), some (.int x5), none, some (.int x7), some (.int x8), none, none, none, none, some (.int 7)] [] ty h r g Q) ∧ (¬ x3 < (h 331 (Int32.toNatClampNeg 0)) → vp_in 1 3 ∧ ((x4 < (h 331 (Int32.toNatClampNeg 1)) → pv_E Γ d kc ks mX12_plan 470 [some (.ref 200), some (.int x1), some (.int x2), some (.int x3), some (.int x4), some (.int x5), none, some (.int x7), some (.int x8), none, none, none, none, some (.int 7)] [] ty h r g Q) ∧ (¬ x4 < (h 331 (Int32.toNatClampNeg 1)) → vp_in 2 3 ∧ ((x5 < (h 331 (Int32.toNatClampNeg 2)) → pv_E Γ d kc ks mX12_plan 470 [some (.ref 200), some (.int x1), some (.int x2), some (.int x3), some (.int x4), some (.int x5), none, some (.int x7), some (.int x8), none, none, none, none, some (.int 7)] [] ty h r g Q) ∧ (¬ x5 < (h 331 (Int32.toNatClampNeg 2)) → ((x7 < x10 → pv_E Γ d kc ks mX12_plan 418 [some (.ref 200), some (.int x1), some (.int x2), some (.int x3), some (.int x4), some (.int x5), none, some (.int x10), some (.int (((h 331 (Int32.toNatClampNeg 0)) + (h 331 (Int32.toNatClampNeg 1))) + (h 331 (Int32.toNatClampNeg 2)))), none, none, none, none, some (.int 0)] [] ty h r g Q) ∧ (¬ x7 < x10 → ((¬ x10 = x7 → pv_E Γ d kc ks mX12_plan 470 [some (.ref 200), some (.int x1), some (.int x2), some (.int x3), some (.int x4), some (.int x5), none, some (.int x7), some (.int x8), none, none, none, none, some (.int 7)] [] ty h r g Q) ∧ (x10 = x7 → ((x8 ≤ (((h 331 (Int32.toNatClampNeg 0)) + (h 331 (Int32.toNatClampNeg 1))) + (h 331 (Int32.toNatClampNeg 2))) → pv_E Γ d kc ks mX12_plan 470 [some (.ref 200), some (.int x1), some (.int x2), some (.int x3), some (.int x4), some (.int x5), none, some (.int x7), some (.int x8), none, none, none, none, some (.int 7)] [] ty h r g Q) ∧ (¬ x8 ≤ (((h 331 (Int32.toNatClampNeg 0)) + (h 331 (Int32.toNatClampNeg 1))) + (h 331 (Int32.toNatClampNeg 2))) → pv_E Γ d kc ks mX12_plan 418 [some (.ref 200), some (.int x1), some (.int x2), some (.int x3), some (.int x4), some (.int x5), none, some (.int x10), some (.int (((h 331 (Int32.toNatClampNeg 0)) + (h 331 (Int32.toNatClampNeg 1))) + (h 331 (Int32.toNatClampNeg 2)))), none, none, none, none, some (.int 0)] [] ty h r g Q))))))))))))) ∧ (¬ 8 ≤ x11 → ((((x1 >>> (x11 &&& 31)) &&& 1) = 0 → pv_E Γ d kc ks mX12_plan 228 [some (.ref 200), some (.int x1), some (.int x2), some (.int x3), some (.int x4), some (.int x5), none, some (.int x7), some (.int x8), none, some (.int x10), some (.int (x11 + 1)), none, none] [] ty h r g Q) ∧ (¬ ((x1 >>> (x11 &&& 31)) &&& 1) = 0 → vp_in x11 8 ∧ ((¬ (h 329 (Int32.toNatClampNeg x11)) = x2 → vp_in x11 8 ∧ pv_CT Γ (d - 1) 0 0 mX12_wearOf [.ref 200, .int x11, .int ((h 200 19) + (h 329 (Int32.toNatClampNeg x11)))] ty h r g (fun (v1 : Option Value) (ty1 : pv_T) (h1 : pv_H) (r1 : pv_R) (g1 : pv_G) => ∃ w1 : Int32, v1 = some (.int w1) ∧ pv_Lay ty1 r1 ∧ vp_in x11 8 ∧ vp_in (h1 329 (Int32.toNatClampNeg x11)) 3 ∧ vp_in x11 8 ∧ pv_CT Γ (d - 1) 0 0 mX12_costOf [.ref 200, .int x11, .int ((h1 200 19) + (h1 329 (Int32.toNatClampNeg x11)))] ty1 h1 r1 g1 (fun (v2 : Option Value) (ty2 : pv_T) (h2 : pv_H) (r2 : pv_R) (g2 : pv_G) => ∃ w2 : Int32, v2 = some (.int w2) ∧ pv_Lay ty2 r2 ∧ vp_in (h1 329 (Int32.toNatClampNeg x11)) 3 ∧ (∀ h3 : pv_H, h3 = pv_up h2 331 (Int32.toNatClampNeg (h1 329 (Int32.toNatClampNeg x11))) ((h1 331 (Int32.toNatClampNeg (h1 329 (Int32.toNatClampNeg x11)))) + w2) → pv_E Γ d kc ks mX12_plan 228 [some (.ref 200), some (.int x1), some (.int x2), some (.int x3), some (.int x4), some (.int x5), none, some (.int x7), some (.int x8), none, some (.int (x10 + w1)), some (.int (x11 + 1)), none, none] [] ty2 h3 r2 g2 Q)))) ∧ ((h 329 (Int32.toNatClampNeg x11)) = x2 → pv_E Γ d kc ks mX12_plan 228 [some (.ref 200), some (.int x1), some (.int x2), some (.int x3), some (.int x4), some (.int x5), none, some (.int x7), some (.int x8), none, some (.int x10), some (.int (x11 + 1)), none, none] [] ty h r g Q))))))) : pv_E Γ d kc ks mX12_plan 228 [some (.ref 200), some (.int x1), some (.int x2), some (.int x3), some (.int x4), some (.int x5), none, some (.int x7), some (.int x8), none, some (.int x10), some (.int x11), none, none] [] ty h r g Q := by
  refine pv_iload dX12_plan_228 rfl ?_
  refine pv_bipush (v := 8) (by decide) dX12_plan_230 ?_
  refine pv_icmp_ge (tgt := 320) dX12_plan_232 (by decide) (fun c1 => ?_) (fun c1 => ?_)
  · have F := F.1 c1
    refine pv_aload_n dX12_plan_320 rfl ?_
    refine pv_getRk 12 31 dX12_plan_321 fl_X12_81 rfl (lt_200 hL) (lr_200_31 hL) ?_
    refine pv_iconst (v := 0) (by decide) dX12_plan_324 ?_
    obtain ⟨q1, F⟩ := F
    refine pv_iald dX12_plan_325 (lt_331 hL) q1 ?_
    refine pv_aload_n dX12_plan_326 rfl ?_
    refine pv_getRk 12 31 dX12_plan_327 fl_X12_81 rfl (lt_200 hL) (lr_200_31 hL) ?_
    refine pv_iconst (v := 1) (by decide) dX12_plan_330 ?_
    obtain ⟨q2, F⟩ := F
    refine pv_iald dX12_plan_331 (lt_331 hL) q2 ?_
    refine pv_iadd dX12_plan_332 ?_
    refine pv_aload_n dX12_plan_333 rfl ?_
    refine pv_getRk 12 31 dX12_plan_334 fl_X12_81 rfl (lt_200 hL) (lr_200_31 hL) ?_
    refine pv_iconst (v := 2) (by decide) dX12_plan_337 ?_
    obtain ⟨q3, F⟩ := F
    refine pv_iald dX12_plan_338 (lt_331 hL) q3 ?_
    refine pv_iadd dX12_plan_339 ?_
    refine pv_istore (ls' := [some (.ref 200), some (.int x1), some (.int x2), some (.int x3), some (.int x4), some (.int x5), none, some (.int x7), some (.int x8), none, some (.int x10), some (.int (((h 331 (Int32.toNatClampNeg 0)) + (h 331 (Int32.toNatClampNeg 1))) + (h 331 (Int32.toNatClampNeg 2)))), none, none]) dX12_plan_340 (by decide) rfl rfl ?_
    refine pv_aload_n dX12_plan_342 rfl ?_
    refine pv_getRk 12 31 dX12_plan_343 fl_X12_81 rfl (lt_200 hL) (lr_200_31 hL) ?_
    refine pv_iconst (v := 0) (by decide) dX12_plan_346 ?_
    obtain ⟨q4, F⟩ := F
    refine pv_iald dX12_plan_347 (lt_331 hL) q4 ?_
    refine pv_iload_n dX12_plan_348 rfl ?_
    refine pv_icmp_gt (tgt := 378) dX12_plan_349 (by decide) (fun c2 => ?_) (fun c2 => ?_)
    · have F := F.1 c2
      refine pv_iconst (v := 0) (by decide) dX12_plan_378 ?_
      refine pv_istore (ls' := [some (.ref 200), some (.int x1), some (.int x2), some (.int x3), some (.int x4), some (.int x5), none, some (.int x7), some (.int x8), none, some (.int x10), some (.int (((h 331 (Int32.toNatClampNeg 0)) + (h 331 (Int32.toNatClampNeg 1))) + (h 331 (Int32.toNatClampNeg 2)))), some (.int 0), none]) dX12_plan_379 (by decide) rfl rfl ?_
      refine pv_iload dX12_plan_381 rfl ?_
      refine pv_if_eq (tgt := 466) dX12_plan_383 (by decide) (fun c3 => ?_) (fun c3 => absurd c3 (by decide))
      refine pv_bipush (v := 7) (by decide) dX12_plan_466 ?_
      refine pv_istore (ls' := [some (.ref 200), some (.int x1), some (.int x2), some (.int x3), some (.int x4), some (.int x5), none, some (.int x7), some (.int x8), none, some (.int x10), some (.int (((h 331 (Int32.toNatClampNeg 0)) + (h 331 (Int32.toNatClampNeg 1))) + (h 331 (Int32.toNatClampNeg 2)))), some (.int 0), some (.int 7)]) dX12_plan_468 (by decide) rfl rfl ?_
      refine pv_forgetL (ls' := [some (.ref 200), some (.int x1), some (.int x2), some (.int x3), some (.int x4), some (.int x5), none, some (.int x7), some (.int x8), none, none, none, none, some (.int 7)]) (pv_subL_ok ⟨rfl, ⟨rfl, ⟨rfl, ⟨rfl, ⟨rfl, ⟨rfl, ⟨rfl, ⟨rfl, ⟨rfl, trivial⟩⟩⟩⟩⟩⟩⟩⟩⟩) ?_
      exact F
    · have F := F.2 c2
      refine pv_aload_n dX12_plan_352 rfl ?_
      refine pv_getRk 12 31 dX12_plan_353 fl_X12_81 rfl (lt_200 hL) (lr_200_31 hL) ?_
      refine pv_iconst (v := 1) (by decide) dX12_plan_356 ?_
      obtain ⟨q5, F⟩ := F
      refine pv_iald dX12_plan_357 (lt_331 hL) q5 ?_
      refine pv_iload dX12_plan_358 rfl ?_
      refine pv_icmp_gt (tgt := 378) dX12_plan_360 (by decide) (fun c4 => ?_) (fun c4 => ?_)
      · have F := F.1 c4
        refine pv_iconst (v := 0) (by decide) dX12_plan_378 ?_
        refine pv_istore (ls' := [some (.ref 200), some (.int x1), some (.int x2), some (.int x3), some (.int x4), some (.int x5), none, some (.int x7), some (.int x8), none, some (.int x10), some (.int (((h 331 (Int32.toNatClampNeg 0)) + (h 331 (Int32.toNatClampNeg 1))) + (h 331 (Int32.toNatClampNeg 2)))), some (.int 0), none]) dX12_plan_379 (by decide) rfl rfl ?_
        refine pv_iload dX12_plan_381 rfl ?_
        refine pv_if_eq (tgt := 466) dX12_plan_383 (by decide) (fun c5 => ?_) (fun c5 => absurd c5 (by decide))
        refine pv_bipush (v := 7) (by decide) dX12_plan_466 ?_
        refine pv_istore (ls' := [some (.ref 200), some (.int x1), some (.int x2), some (.int x3), some (.int x4), some (.int x5), none, some (.int x7), some (.int x8), none, some (.int x10), some (.int (((h 331 (Int32.toNatClampNeg 0)) + (h 331 (Int32.toNatClampNeg 1))) + (h 331 (Int32.toNatClampNeg 2)))), some (.int 0), some (.int 7)]) dX12_plan_468 (by decide) rfl rfl ?_
        refine pv_forgetL (ls' := [some (.ref 200), some (.int x1), some (.int x2), some (.int x3), some (.int x4), some (.int x5), none, some (.int x7), some (.int x8), none, none, none, none, some (.int 7)]) (pv_subL_ok ⟨rfl, ⟨rfl, ⟨rfl, ⟨rfl, ⟨rfl, ⟨rfl, ⟨rfl, ⟨rfl, ⟨rfl, trivial⟩⟩⟩⟩⟩⟩⟩⟩⟩) ?_
        exact F
      · have F := F.2 c4
        refine pv_aload_n dX12_plan_363 rfl ?_
        refine pv_getRk 12 31 dX12_plan_364 fl_X12_81 rfl (lt_200 hL) (lr_200_31 hL) ?_
        refine pv_iconst (v := 2) (by decide) dX12_plan_367 ?_
        obtain ⟨q6, F⟩ := F
        refine pv_iald dX12_plan_368 (lt_331 hL) q6 ?_
        refine pv_iload dX12_plan_369 rfl ?_
        refine pv_icmp_gt (tgt := 378) dX12_plan_371 (by decide) (fun c6 => ?_) (fun c6 => ?_)
        · have F := F.1 c6
          refine pv_iconst (v := 0) (by decide) dX12_plan_378 ?_
          refine pv_istore (ls' := [some (.ref 200), some (.int x1), some (.int x2), some (.int x3), some (.int x4), some (.int x5), none, some (.int x7), some (.int x8), none, some (.int x10), some (.int (((h 331 (Int32.toNatClampNeg 0)) + (h 331 (Int32.toNatClampNeg 1))) + (h 331 (Int32.toNatClampNeg 2)))), some (.int 0), none]) dX12_plan_379 (by decide) rfl rfl ?_
          refine pv_iload dX12_plan_381 rfl ?_
          refine pv_if_eq (tgt := 466) dX12_plan_383 (by decide) (fun c7 => ?_) (fun c7 => absurd c7 (by decide))
          refine pv_bipush (v := 7) (by decide) dX12_plan_466 ?_
          refine pv_istore (ls' := [some (.ref 200), some (.int x1), some (.int x2), some (.int x3), some (.int x4), some (.int x5), none, some (.int x7), some (.int x8), none, some (.int x10), some (.int (((h 331 (Int32.toNatClampNeg 0)) + (h 331 (Int32.toNatClampNeg 1))) + (h 331 (Int32.toNatClampNeg 2)))), some (.int 0), some (.int 7)]) dX12_plan_468 (by decide) rfl rfl ?_
          refine pv_forgetL (ls' := [some (.ref 200), some (.int x1), some (.int x2), some (.int x3), some (.int x4), some (.int x5), none, some (.int x7), some (.int x8), none, none, none, none, some (.int 7)]) (pv_subL_ok ⟨rfl, ⟨rfl, ⟨rfl, ⟨rfl, ⟨rfl, ⟨rfl, ⟨rfl, ⟨rfl, ⟨rfl, trivial⟩⟩⟩⟩⟩⟩⟩⟩⟩) ?_
          exact F
        · have F := F.2 c6
          refine pv_iconst (v := 1) (by decide) dX12_plan_374 ?_
          refine pv_goto (tgt := 379) dX12_plan_375 (by decide) ?_
          refine pv_istore (ls' := [some (.ref 200), some (.int x1), some (.int x2), some (.int x3), some (.int x4), some (.int x5), none, some (.int x7), some (.int x8), none, some (.int x10), some (.int (((h 331 (Int32.toNatClampNeg 0)) + (h 331 (Int32.toNatClampNeg 1))) + (h 331 (Int32.toNatClampNeg 2)))), some (.int 1), none]) dX12_plan_379 (by decide) rfl rfl ?_
          refine pv_iload dX12_plan_381 rfl ?_
          refine pv_if_eq (tgt := 466) dX12_plan_383 (by decide) (fun c8 => absurd c8 (by decide)) (fun c8 => ?_)
          refine pv_iload dX12_plan_386 rfl ?_
          refine pv_iload dX12_plan_388 rfl ?_
          refine pv_icmp_gt (tgt := 407) dX12_plan_390 (by decide) (fun c9 => ?_) (fun c9 => ?_)
          · have F := F.1 c9
            refine pv_iload dX12_plan_407 rfl ?_
            refine pv_istore (ls' := [some (.ref 200), some (.int x1), some (.int x2), some (.int x3), some (.int x4), some (.int x5), none, some (.int x10), some (.int x8), none, some (.int x10), some (.int (((h 331 (Int32.toNatClampNeg 0)) + (h 331 (Int32.toNatClampNeg 1))) + (h 331 (Int32.toNatClampNeg 2)))), some (.int 1), none]) dX12_plan_409 (by decide) rfl rfl ?_
            refine pv_iload dX12_plan_411 rfl ?_
            refine pv_istore (ls' := [some (.ref 200), some (.int x1), some (.int x2), some (.int x3), some (.int x4), some (.int x5), none, some (.int x10), some (.int (((h 331 (Int32.toNatClampNeg 0)) + (h 331 (Int32.toNatClampNeg 1))) + (h 331 (Int32.toNatClampNeg 2)))), none, some (.int x10), some (.int (((h 331 (Int32.toNatClampNeg 0)) + (h 331 (Int32.toNatClampNeg 1))) + (h 331 (Int32.toNatClampNeg 2)))), some (.int 1), none]) dX12_plan_413 (by decide) rfl rfl ?_
            refine pv_iconst (v := 0) (by decide) dX12_plan_415 ?_
            refine pv_istore (ls' := [some (.ref 200), some (.int x1), some (.int x2), some (.int x3), some (.int x4), some (.int x5), none, some (.int x10), some (.int (((h 331 (Int32.toNatClampNeg 0)) + (h 331 (Int32.toNatClampNeg 1))) + (h 331 (Int32.toNatClampNeg 2)))), none, some (.int x10), some (.int (((h 331 (Int32.toNatClampNeg 0)) + (h 331 (Int32.toNatClampNeg 1))) + (h 331 (Int32.toNatClampNeg 2)))), some (.int 1), some (.int 0)]) dX12_plan_416 (by decide) rfl rfl ?_
            refine pv_forgetL (ls' := [some (.ref 200), some (.int x1), some (.int x2), some (.int x3), some (.int x4), some (.int x5), none, some (.int x10), some (.int (((h 331 (Int32.toNatClampNeg 0)) + (h 331 (Int32.toNatClampNeg 1))) + (h 331 (Int32.toNatClampNeg 2)))), none, none, none, none, some (.int 0)]) (pv_subL_ok ⟨rfl, ⟨rfl, ⟨rfl, ⟨rfl, ⟨rfl, ⟨rfl, ⟨rfl, ⟨rfl, ⟨rfl, trivial⟩⟩⟩⟩⟩⟩⟩⟩⟩) ?_
            exact F
          · have F := F.2 c9
            refine pv_iload dX12_plan_393 rfl ?_
            refine pv_iload dX12_plan_395 rfl ?_
            refine pv_icmp_ne (tgt := 466) dX12_plan_397 (by decide) (fun c10 => ?_) (fun c10 => ?_)
            · have F := F.1 c10
              refine pv_bipush (v := 7) (by decide) dX12_plan_466 ?_
              refine pv_istore (ls' := [some (.ref 200), some (.int x1), some (.int x2), some (.int x3), some (.int x4), some (.int x5), none, some (.int x7), some (.int x8), none, some (.int x10), some (.int (((h 331 (Int32.toNatClampNeg 0)) + (h 331 (Int32.toNatClampNeg 1))) + (h 331 (Int32.toNatClampNeg 2)))), some (.int 1), some (.int 7)]) dX12_plan_468 (by decide) rfl rfl ?_
              refine pv_forgetL (ls' := [some (.ref 200), some (.int x1), some (.int x2), some (.int x3), some (.int x4), some (.int x5), none, some (.int x7), some (.int x8), none, none, none, none, some (.int 7)]) (pv_subL_ok ⟨rfl, ⟨rfl, ⟨rfl, ⟨rfl, ⟨rfl, ⟨rfl, ⟨rfl, ⟨rfl, ⟨rfl, trivial⟩⟩⟩⟩⟩⟩⟩⟩⟩) ?_
              exact F
            · have F := F.2 c10
              refine pv_iload dX12_plan_400 rfl ?_
              refine pv_iload dX12_plan_402 rfl ?_
              refine pv_icmp_ge (tgt := 466) dX12_plan_404 (by decide) (fun c11 => ?_) (fun c11 => ?_)
              · have F := F.1 c11
                refine pv_bipush (v := 7) (by decide) dX12_plan_466 ?_
                refine pv_istore (ls' := [some (.ref 200), some (.int x1), some (.int x2), some (.int x3), some (.int x4), some (.int x5), none, some (.int x7), some (.int x8), none, some (.int x10), some (.int (((h 331 (Int32.toNatClampNeg 0)) + (h 331 (Int32.toNatClampNeg 1))) + (h 331 (Int32.toNatClampNeg 2)))), some (.int 1), some (.int 7)]) dX12_plan_468 (by decide) rfl rfl ?_
                refine pv_forgetL (ls' := [some (.ref 200), some (.int x1), some (.int x2), some (.int x3), some (.int x4), some (.int x5), none, some (.int x7), some (.int x8), none, none, none, none, some (.int 7)]) (pv_subL_ok ⟨rfl, ⟨rfl, ⟨rfl, ⟨rfl, ⟨rfl, ⟨rfl, ⟨rfl, ⟨rfl, ⟨rfl, trivial⟩⟩⟩⟩⟩⟩⟩⟩⟩) ?_
                exact F
              · have F := F.2 c11
                refine pv_iload dX12_plan_407 rfl ?_
                refine pv_istore (ls' := [some (.ref 200), some (.int x1), some (.int x2), some (.int x3), some (.int x4), some (.int x5), none, some (.int x10), some (.int x8), none, some (.int x10), some (.int (((h 331 (Int32.toNatClampNeg 0)) + (h 331 (Int32.toNatClampNeg 1))) + (h 331 (Int32.toNatClampNeg 2)))), some (.int 1), none]) dX12_plan_409 (by decide) rfl rfl ?_
                refine pv_iload dX12_plan_411 rfl ?_
                refine pv_istore (ls' := [some (.ref 200), some (.int x1), some (.int x2), some (.int x3), some (.int x4), some (.int x5), none, some (.int x10), some (.int (((h 331 (Int32.toNatClampNeg 0)) + (h 331 (Int32.toNatClampNeg 1))) + (h 331 (Int32.toNatClampNeg 2)))), none, some (.int x10), some (.int (((h 331 (Int32.toNatClampNeg 0)) + (h 331 (Int32.toNatClampNeg 1))) + (h 331 (Int32.toNatClampNeg 2)))), some (.int 1), none]) dX12_plan_413 (by decide) rfl rfl ?_
                refine pv_iconst (v := 0) (by decide) dX12_plan_415 ?_
                refine pv_istore (ls' := [some (.ref 200), some (.int x1), some (.int x2), some (.int x3), some (.int x4), some (.int x5), none, some (.int x10), some (.int (((h 331 (Int32.toNatClampNeg 0)) + (h 331 (Int32.toNatClampNeg 1))) + (h 331 (Int32.toNatClampNeg 2)))), none, some (.int x10), some (.int (((h 331 (Int32.toNatClampNeg 0)) + (h 331 (Int32.toNatClampNeg 1))) + (h 331 (Int32.toNatClampNeg 2)))), some (.int 1), some (.int 0)]) dX12_plan_416 (by decide) rfl rfl ?_
                refine pv_forgetL (ls' := [some (.ref 200), some (.int x1), some (.int x2), some (.int x3), some (.int x4), some (.int x5), none, some (.int x10), some (.int (((h 331 (Int32.toNatClampNeg 0)) + (h 331 (Int32.toNatClampNeg 1))) + (h 331 (Int32.toNatClampNeg 2)))), none, none, none, none, some (.int 0)]) (pv_subL_ok ⟨rfl, ⟨rfl, ⟨rfl, ⟨rfl, ⟨rfl, ⟨rfl, ⟨rfl, ⟨rfl, ⟨rfl, trivial⟩⟩⟩⟩⟩⟩⟩⟩⟩) ?_
                exact F
  · have F := F.2 c1
    refine pv_iload_n dX12_plan_235 rfl ?_
    refine pv_iload dX12_plan_236 rfl ?_
    refine pv_ishr dX12_plan_238 ?_
    refine pv_iconst (v := 1) (by decide) dX12_plan_239 ?_
    refine pv_iand dX12_plan_240 ?_
    refine pv_if_eq (tgt := 314) dX12_plan_241 (by decide) (fun c12 => ?_) (fun c12 => ?_)
    · have F := F.1 c12
      refine pv_iinc (v := x11 + 1) (ls' := [some (.ref 200), some (.int x1), some (.int x2), some (.int x3), some (.int x4), some (.int x5), none, some (.int x7), some (.int x8), none, some (.int x10), some (.int (x11 + 1)), none, none]) dX12_plan_314 rfl (by rfl) rfl rfl ?_
      refine pv_goto (tgt := 228) dX12_plan_317 (by decide) ?_
      exact F
    · have F := F.2 c12
      refine pv_aload_n dX12_plan_244 rfl ?_
      refine pv_getRk 12 29 dX12_plan_245 fl_X12_75 rfl (lt_200 hL) (lr_200_29 hL) ?_
      refine pv_iload dX12_plan_248 rfl ?_
      obtain ⟨q7, F⟩ := F
      refine pv_iald dX12_plan_250 (lt_329 hL) q7 ?_
      refine pv_iload_n dX12_plan_251 rfl ?_
      refine pv_icmp_ne (tgt := 258) dX12_plan_252 (by decide) (fun c13 => ?_) (fun c13 => ?_)
      · have F := F.1 c13
        refine pv_iload dX12_plan_258 rfl ?_
        refine pv_aload_n dX12_plan_260 rfl ?_
        refine pv_iload dX12_plan_261 rfl ?_
        refine pv_aload_n dX12_plan_263 rfl ?_
        refine pv_getI 12 19 dX12_plan_264 fl_X12_211 rfl (lt_200 hL) ?_
        refine pv_aload_n dX12_plan_267 rfl ?_
        refine pv_pc (pc' := 268) rfl ?_
        refine pv_getRk 12 29 dX12_plan_268 fl_X12_75 rfl (lt_200 hL) (lr_200_29 hL) ?_
        refine pv_iload dX12_plan_271 rfl ?_
        obtain ⟨q8, F⟩ := F
        refine pv_iald dX12_plan_273 (lt_329 hL) q8 ?_
        refine pv_iadd dX12_plan_274 ?_
        refine pv_invV (As := [.int x11, .int ((h 200 19) + (h 329 (Int32.toNatClampNeg x11)))]) (d' := d - 1) dX12_plan_275 moX12_wearOf ml_X12_217 (lt_200 hL) (Or.inl ⟨_, rfl, rfl⟩) (Nat.le_of_ble_eq_true rfl) (by omega) (Nat.zero_le _) (Nat.zero_le _) F (fun v1 ty1 h1 r1 g1 F => ?_) rfl
        obtain ⟨w1, rfl, F⟩ := F
        obtain ⟨hL1, F⟩ := F
        refine pv_pc (pc' := 278) rfl ?_
        show pv_E Γ d kc ks mX12_plan 278 [some (.ref 200), some (.int x1), some (.int x2), some (.int x3), some (.int x4), some (.int x5), none, some (.int x7), some (.int x8), none, some (.int x10), some (.int x11), none, none] [.int w1, .int x10] ty1 h1 r1 g1 Q
        refine pv_iadd dX12_plan_278 ?_
        refine pv_istore (ls' := [some (.ref 200), some (.int x1), some (.int x2), some (.int x3), some (.int x4), some (.int x5), none, some (.int x7), some (.int x8), none, some (.int (x10 + w1)), some (.int x11), none, none]) dX12_plan_279 (by decide) rfl rfl ?_
        refine pv_aload_n dX12_plan_281 rfl ?_
        refine pv_getRk 12 31 dX12_plan_282 fl_X12_81 rfl (lt_200 hL1) (lr_200_31 hL1) ?_
        refine pv_aload_n dX12_plan_285 rfl ?_
        refine pv_getRk 12 29 dX12_plan_286 fl_X12_75 rfl (lt_200 hL1) (lr_200_29 hL1) ?_
        refine pv_pc (pc' := 289) rfl ?_
        refine pv_iload dX12_plan_289 rfl ?_
        obtain ⟨q9, F⟩ := F
        refine pv_iald dX12_plan_291 (lt_329 hL1) q9 ?_
        refine pv_dup2 rfl rfl dX12_plan_292 ?_
        obtain ⟨q10, F⟩ := F
        refine pv_iald dX12_plan_293 (lt_331 hL1) q10 ?_
        refine pv_aload_n dX12_plan_294 rfl ?_
        refine pv_iload dX12_plan_295 rfl ?_
        refine pv_aload_n dX12_plan_297 rfl ?_
        refine pv_getI 12 19 dX12_plan_298 fl_X12_211 rfl (lt_200 hL1) ?_
        refine pv_aload_n dX12_plan_301 rfl ?_
        refine pv_getRk 12 29 dX12_plan_302 fl_X12_75 rfl (lt_200 hL1) (lr_200_29 hL1) ?_
        refine pv_pc (pc' := 305) rfl ?_
        refine pv_iload dX12_plan_305 rfl ?_
        obtain ⟨q11, F⟩ := F
        refine pv_iald dX12_plan_307 (lt_329 hL1) q11 ?_
        refine pv_iadd dX12_plan_308 ?_
        refine pv_invV (As := [.int x11, .int ((h1 200 19) + (h1 329 (Int32.toNatClampNeg x11)))]) (d' := d - 1) dX12_plan_309 moX12_costOf ml_X12_222 (lt_200 hL1) (Or.inl ⟨_, rfl, rfl⟩) (Nat.le_of_ble_eq_true rfl) (by omega) (Nat.zero_le _) (Nat.zero_le _) F (fun v2 ty2 h2 r2 g2 F => ?_) rfl
        obtain ⟨w2, rfl, F⟩ := F
        obtain ⟨hL2, F⟩ := F
        refine pv_pc (pc' := 312) rfl ?_
        show pv_E Γ d kc ks mX12_plan 312 [some (.ref 200), some (.int x1), some (.int x2), some (.int x3), some (.int x4), some (.int x5), none, some (.int x7), some (.int x8), none, some (.int (x10 + w1)), some (.int x11), none, none] [.int w2, .int (h1 331 (Int32.toNatClampNeg (h1 329 (Int32.toNatClampNeg x11)))), .int (h1 329 (Int32.toNatClampNeg x11)), .ref 331] ty2 h2 r2 g2 Q
        refine pv_iadd dX12_plan_312 ?_
        obtain ⟨q12, F⟩ := F
        obtain ⟨h3, eh3⟩ : ∃ h3 : pv_H, h3 = pv_up h2 331 (Int32.toNatClampNeg (h1 329 (Int32.toNatClampNeg x11))) ((h1 331 (Int32.toNatClampNeg (h1 329 (Int32.toNatClampNeg x11)))) + w2) := ⟨_, rfl⟩
        have F := F h3 eh3
        refine pv_iast dX12_plan_313 (lt_331 hL2) (by decide) q12 ?_
        refine pv_hE eh3 ?_
        refine pv_iinc (v := x11 + 1) (ls' := [some (.ref 200), some (.int x1), some (.int x2), some (.int x3), some (.int x4), some (.int x5), none, some (.int x7), some (.int x8), none, some (.int (x10 + w1)), some (.int (x11 + 1)), none, none]) dX12_plan_314 rfl (by rfl) rfl rfl ?_
        refine pv_goto (tgt := 228) dX12_plan_317 (by decide) ?_
        exact F
      · have F := F.2 c13
        refine pv_goto (tgt := 314) dX12_plan_255 (by decide) ?_
        refine pv_iinc (v := x11 + 1) (ls' := [some (.ref 200), some (.int x1), some (.int x2), some (.int x3), some (.int x4), some (.int x5), none, some (.int x7), some (.int x8), none, some (.int x10), some (.int (x11 + 1)), none, none]) dX12_plan_314 rfl (by rfl) rfl rfl ?_
        refine pv_goto (tgt := 228) dX12_plan_317 (by decide) ?_
        exact F
set_option maxRecDepth 20000 in
set_option maxHeartbeats 4000000 in
theorem sg_X12_plan_418 {Γ : pv_C} {d kc ks : Nat} {ty : pv_T} {h : pv_H} {r : pv_R} {g : pv_G} {Q : pv_Q} (x1 : Int32) (x2 : Int32) (x3 : Int32) (x4 : Int32) (x5 : Int32) (x7 : Int32) (x8 : Int32) (x13 : Int32) (hL : pv_Lay ty r) (F : ((8 ≤ x13 → pv_E Γ d kc ks mX12_plan 470 [some (.ref 200), some (.int x1), some (.int x2), some (.int x3), some (.int x4), some (.int x5), none, some (.int x7), some (.int x8), none, none, none, none, some (.int 7)] [] ty h r g Q) ∧ (¬ 8 ≤ x13 → vp_in x13 8 ∧ ((¬ (h 329 (Int32.toNatClampNeg x13)) = x2 → vp_in x13 8 ∧ vp_in x13 8 ∧ (∀ h1 : pv_H, h1 = pv_up h 328 (Int32.toNatClampNeg x13) ((h 200 19) + (h 329 (Int32.toNatClampNeg x13))) → pv_E Γ d kc ks mX12_plan 418 [some (.ref 200), some (.int x1), some (.int x2), some (.int x3), some (.int x4), some (.int x5), none, some (.int x7), some (.int x8), none, none, none, none, some (.int (x13 + 1))] [] ty h1 r g Q)) ∧ ((h 329 (Int32.toNatClampNeg x13)) = x2 → vp_in x13 8 ∧ (∀ h2 : pv_H, h2 = pv_up h 328 (Int32.toNatClampNeg x13) (-2) → pv_E Γ d kc ks mX12_plan 418 [some (.ref 200), some (.int x1), some (.int x2), some (.int x3), some (.int x4), some (.int x5), none, some (.int x7), some (.int x8), none, none, none, none, some (.int (x13 + 1))] [] ty h2 r g Q)))))) : pv_E Γ d kc ks mX12_plan 418 [some (.ref 200), some (.int x1), some (.int x2), some (.int x3), some (.int x4), some (.int x5), none, some (.int x7), some (.int x8), none, none, none, none, some (.int x13)] [] ty h r g Q := by
  refine pv_iload dX12_plan_418 rfl ?_
  refine pv_bipush (v := 8) (by decide) dX12_plan_420 ?_
  refine pv_icmp_ge (tgt := 466) dX12_plan_422 (by decide) (fun c1 => ?_) (fun c1 => ?_)
  · have F := F.1 c1
    refine pv_bipush (v := 7) (by decide) dX12_plan_466 ?_
    refine pv_istore (ls' := [some (.ref 200), some (.int x1), some (.int x2), some (.int x3), some (.int x4), some (.int x5), none, some (.int x7), some (.int x8), none, none, none, none, some (.int 7)]) dX12_plan_468 (by decide) rfl rfl ?_
    exact F
  · have F := F.2 c1
    refine pv_aload_n dX12_plan_425 rfl ?_
    refine pv_getRk 12 28 dX12_plan_426 fl_X12_72 rfl (lt_200 hL) (lr_200_28 hL) ?_
    refine pv_iload dX12_plan_429 rfl ?_
    refine pv_aload_n dX12_plan_431 rfl ?_
    refine pv_getRk 12 29 dX12_plan_432 fl_X12_75 rfl (lt_200 hL) (lr_200_29 hL) ?_
    refine pv_iload dX12_plan_435 rfl ?_
    refine pv_pc (pc' := 437) rfl ?_
    obtain ⟨q1, F⟩ := F
    refine pv_iald dX12_plan_437 (lt_329 hL) q1 ?_
    refine pv_iload_n dX12_plan_438 rfl ?_
    refine pv_icmp_ne (tgt := 447) dX12_plan_439 (by decide) (fun c2 => ?_) (fun c2 => ?_)
    · have F := F.1 c2
      refine pv_aload_n dX12_plan_447 rfl ?_
      refine pv_getI 12 19 dX12_plan_448 fl_X12_211 rfl (lt_200 hL) ?_
      refine pv_aload_n dX12_plan_451 rfl ?_
      refine pv_getRk 12 29 dX12_plan_452 fl_X12_75 rfl (lt_200 hL) (lr_200_29 hL) ?_
      refine pv_iload dX12_plan_455 rfl ?_
      obtain ⟨q2, F⟩ := F
      refine pv_iald dX12_plan_457 (lt_329 hL) q2 ?_
      refine pv_iadd dX12_plan_458 ?_
      obtain ⟨q3, F⟩ := F
      obtain ⟨h1, eh1⟩ : ∃ h1 : pv_H, h1 = pv_up h 328 (Int32.toNatClampNeg x13) ((h 200 19) + (h 329 (Int32.toNatClampNeg x13))) := ⟨_, rfl⟩
      have F := F h1 eh1
      refine pv_iast dX12_plan_459 (lt_328 hL) (by decide) q3 ?_
      refine pv_hE eh1 ?_
      refine pv_iinc (v := x13 + 1) (ls' := [some (.ref 200), some (.int x1), some (.int x2), some (.int x3), some (.int x4), some (.int x5), none, some (.int x7), some (.int x8), none, none, none, none, some (.int (x13 + 1))]) dX12_plan_460 rfl (by rfl) rfl rfl ?_
      refine pv_goto (tgt := 418) dX12_plan_463 (by decide) ?_
      exact F
    · have F := F.2 c2
      refine pv_bipush (v := (-2)) (by decide) dX12_plan_442 ?_
      refine pv_goto (tgt := 459) dX12_plan_444 (by decide) ?_
      obtain ⟨q4, F⟩ := F
      obtain ⟨h2, eh2⟩ : ∃ h2 : pv_H, h2 = pv_up h 328 (Int32.toNatClampNeg x13) (-2) := ⟨_, rfl⟩
      have F := F h2 eh2
      refine pv_iast dX12_plan_459 (lt_328 hL) (by decide) q4 ?_
      refine pv_hE eh2 ?_
      refine pv_iinc (v := x13 + 1) (ls' := [some (.ref 200), some (.int x1), some (.int x2), some (.int x3), some (.int x4), some (.int x5), none, some (.int x7), some (.int x8), none, none, none, none, some (.int (x13 + 1))]) dX12_plan_460 rfl (by rfl) rfl rfl ?_
      refine pv_goto (tgt := 418) dX12_plan_463 (by decide) ?_
      exact F
set_option maxRecDepth 20000 in
set_option maxHeartbeats 4000000 in
theorem sg_X12_plan_470 {Γ : pv_C} {d kc ks : Nat} {ty : pv_T} {h : pv_H} {r : pv_R} {g : pv_G} {Q : pv_Q} (x1 : Int32) (x2 : Int32) (x3 : Int32) (x4 : Int32) (x5 : Int32) (x7 : Int32) (x8 : Int32) (x13 : Int32) (hL : pv_Lay ty r) (F : ((x13 < 0 → ((x13 < 0 → pv_E Γ d kc ks mX12_plan 194 [some (.ref 200), some (.int x1), some (.int x2), some (.int x3), some (.int x4), some (.int x5), none, some (.int x7), some (.int x8), some (.int 0), none, none, none, none] [] ty h r g Q) ∧ (¬ x13 < 0 → vp_in x13 8 ∧ vp_in x13 8 ∧ (∀ h1 : pv_H, h1 = pv_up h 329 (Int32.toNatClampNeg x13) ((h 329 (Int32.toNatClampNeg x13)) + 1) → pv_E Γ d kc ks mX12_plan 194 [some (.ref 200), some (.int x1), some (.int x2), some (.int x3), some (.int x4), some (.int x5), none, some (.int x7), some (.int x8), some (.int 1), none, none, none, none] [] ty h1 r g Q)))) ∧ (¬ x13 < 0 → ((((x1 >>> (x13 &&& 31)) &&& 1) = 0 → vp_in x13 8 ∧ (∀ h2 : pv_H, h2 = pv_up h 329 (Int32.toNatClampNeg x13) 0 → pv_E Γ d kc ks mX12_plan 470 [some (.ref 200), some (.int x1), some (.int x2), some (.int x3), some (.int x4), some (.int x5), none, some (.int x7), some (.int x8), none, none, none, none, some (.int (x13 + (-1)))] [] ty h2 r g Q)) ∧ (¬ ((x1 >>> (x13 &&& 31)) &&& 1) = 0 → vp_in x13 8 ∧ ((¬ (h 329 (Int32.toNatClampNeg x13)) = x2 → ((x13 < 0 → pv_E Γ d kc ks mX12_plan 194 [some (.ref 200), some (.int x1), some (.int x2), some (.int x3), some (.int x4), some (.int x5), none, some (.int x7), some (.int x8), some (.int 0), none, none, none, none] [] ty h r g Q) ∧ (¬ x13 < 0 → vp_in x13 8 ∧ vp_in x13 8 ∧ (∀ h3 : pv_H, h3 = pv_up h 329 (Int32.toNatClampNeg x13) ((h 329 (Int32.toNatClampNeg x13)) + 1) → pv_E Γ d kc ks mX12_plan 194 [some (.ref 200), some (.int x1), some (.int x2), some (.int x3), some (.int x4), some (.int x5), none, some (.int x7), some (.int x8), some (.int 1), none, none, none, none] [] ty h3 r g Q)))) ∧ ((h 329 (Int32.toNatClampNeg x13)) = x2 → vp_in x13 8 ∧ (∀ h4 : pv_H, h4 = pv_up h 329 (Int32.toNatClampNeg x13) 0 → pv_E Γ d kc ks mX12_plan 470 [some (.ref 200), some (.int x1), some (.int x2), some (.int x3), some (.int x4), some (.int x5), none, some (.int x7), some (.int x8), none, none, none, none, some (.int (x13 + (-1)))] [] ty h4 r g Q)))))))) : pv_E Γ d kc ks mX12_plan 470 [some (.ref 200), some (.int x1), some (.int x2), some (.int x3), some (.int x4), some (.int x5), none, some (.int x7), some (.int x8), none, none, none, none, some (.int x13)] [] ty h r g Q := by
  refine pv_iload dX12_plan_470 rfl ?_
  refine pv_if_lt (tgt := 509) dX12_plan_472 (by decide) (fun c1 => ?_) (fun c1 => ?_)
  · have F := F.1 c1
    refine pv_iload dX12_plan_509 rfl ?_
    refine pv_if_lt (tgt := 518) dX12_plan_511 (by decide) (fun c2 => ?_) (fun c2 => ?_)
    · have F := F.1 c2
      refine pv_iconst (v := 0) (by decide) dX12_plan_518 ?_
      refine pv_istore (ls' := [some (.ref 200), some (.int x1), some (.int x2), some (.int x3), some (.int x4), some (.int x5), none, some (.int x7), some (.int x8), some (.int 0), none, none, none, some (.int x13)]) dX12_plan_519 (by decide) rfl rfl ?_
      refine pv_iload dX12_plan_521 rfl ?_
      refine pv_if_eq (tgt := 537) dX12_plan_523 (by decide) (fun c3 => ?_) (fun c3 => absurd c3 (by decide))
      refine pv_goto (tgt := 194) dX12_plan_537 (by decide) ?_
      refine pv_forgetL (ls' := [some (.ref 200), some (.int x1), some (.int x2), some (.int x3), some (.int x4), some (.int x5), none, some (.int x7), some (.int x8), some (.int 0), none, none, none, none]) (pv_subL_ok ⟨rfl, ⟨rfl, ⟨rfl, ⟨rfl, ⟨rfl, ⟨rfl, ⟨rfl, ⟨rfl, ⟨rfl, trivial⟩⟩⟩⟩⟩⟩⟩⟩⟩) ?_
      exact F
    · have F := F.2 c2
      refine pv_iconst (v := 1) (by decide) dX12_plan_514 ?_
      refine pv_goto (tgt := 519) dX12_plan_515 (by decide) ?_
      refine pv_istore (ls' := [some (.ref 200), some (.int x1), some (.int x2), some (.int x3), some (.int x4), some (.int x5), none, some (.int x7), some (.int x8), some (.int 1), none, none, none, some (.int x13)]) dX12_plan_519 (by decide) rfl rfl ?_
      refine pv_iload dX12_plan_521 rfl ?_
      refine pv_if_eq (tgt := 537) dX12_plan_523 (by decide) (fun c4 => absurd c4 (by decide)) (fun c4 => ?_)
      refine pv_aload_n dX12_plan_526 rfl ?_
      refine pv_getRk 12 29 dX12_plan_527 fl_X12_75 rfl (lt_200 hL) (lr_200_29 hL) ?_
      refine pv_iload dX12_plan_530 rfl ?_
      refine pv_pc (pc' := 532) rfl ?_
      refine pv_dup2 rfl rfl dX12_plan_532 ?_
      obtain ⟨q1, F⟩ := F
      refine pv_iald dX12_plan_533 (lt_329 hL) q1 ?_
      refine pv_iconst (v := 1) (by decide) dX12_plan_534 ?_
      refine pv_iadd dX12_plan_535 ?_
      obtain ⟨q2, F⟩ := F
      obtain ⟨h1, eh1⟩ : ∃ h1 : pv_H, h1 = pv_up h 329 (Int32.toNatClampNeg x13) ((h 329 (Int32.toNatClampNeg x13)) + 1) := ⟨_, rfl⟩
      have F := F h1 eh1
      refine pv_iast dX12_plan_536 (lt_329 hL) (by decide) q2 ?_
      refine pv_hE eh1 ?_
      refine pv_goto (tgt := 194) dX12_plan_537 (by decide) ?_
      refine pv_forgetL (ls' := [some (.ref 200), some (.int x1), some (.int x2), some (.int x3), some (.int x4), some (.int x5), none, some (.int x7), some (.int x8), some (.int 1), none, none, none, none]) (pv_subL_ok ⟨rfl, ⟨rfl, ⟨rfl, ⟨rfl, ⟨rfl, ⟨rfl, ⟨rfl, ⟨rfl, ⟨rfl, trivial⟩⟩⟩⟩⟩⟩⟩⟩⟩) ?_
      exact F
  · have F := F.2 c1
    refine pv_iload_n dX12_plan_475 rfl ?_
    refine pv_iload dX12_plan_476 rfl ?_
    refine pv_ishr dX12_plan_478 ?_
    refine pv_iconst (v := 1) (by decide) dX12_plan_479 ?_
    refine pv_iand dX12_plan_480 ?_
    refine pv_if_eq (tgt := 495) dX12_plan_481 (by decide) (fun c5 => ?_) (fun c5 => ?_)
    · have F := F.1 c5
      refine pv_aload_n dX12_plan_495 rfl ?_
      refine pv_getRk 12 29 dX12_plan_496 fl_X12_75 rfl (lt_200 hL) (lr_200_29 hL) ?_
      refine pv_iload dX12_plan_499 rfl ?_
      refine pv_iconst (v := 0) (by decide) dX12_plan_501 ?_
      obtain ⟨q3, F⟩ := F
      obtain ⟨h2, eh2⟩ : ∃ h2 : pv_H, h2 = pv_up h 329 (Int32.toNatClampNeg x13) 0 := ⟨_, rfl⟩
      have F := F h2 eh2
      refine pv_iast dX12_plan_502 (lt_329 hL) (by decide) q3 ?_
      refine pv_hE eh2 ?_
      refine pv_iinc (v := x13 + (-1)) (ls' := [some (.ref 200), some (.int x1), some (.int x2), some (.int x3), some (.int x4), some (.int x5), none, some (.int x7), some (.int x8), none, none, none, none, some (.int (x13 + (-1)))]) dX12_plan_503 rfl (by rfl) rfl rfl ?_
      refine pv_goto (tgt := 470) dX12_plan_506 (by decide) ?_
      exact F
    · have F := F.2 c5
      refine pv_aload_n dX12_plan_484 rfl ?_
      refine pv_getRk 12 29 dX12_plan_485 fl_X12_75 rfl (lt_200 hL) (lr_200_29 hL) ?_
      refine pv_iload dX12_plan_488 rfl ?_
      obtain ⟨q4, F⟩ := F
      refine pv_iald dX12_plan_490 (lt_329 hL) q4 ?_
      refine pv_iload_n dX12_plan_491 rfl ?_
      refine pv_icmp_ne (tgt := 509) dX12_plan_492 (by decide) (fun c6 => ?_) (fun c6 => ?_)
      · have F := F.1 c6
        refine pv_iload dX12_plan_509 rfl ?_
        refine pv_if_lt (tgt := 518) dX12_plan_511 (by decide) (fun c7 => ?_) (fun c7 => ?_)
        · have F := F.1 c7
          refine pv_iconst (v := 0) (by decide) dX12_plan_518 ?_
          refine pv_istore (ls' := [some (.ref 200), some (.int x1), some (.int x2), some (.int x3), some (.int x4), some (.int x5), none, some (.int x7), some (.int x8), some (.int 0), none, none, none, some (.int x13)]) dX12_plan_519 (by decide) rfl rfl ?_
          refine pv_iload dX12_plan_521 rfl ?_
          refine pv_if_eq (tgt := 537) dX12_plan_523 (by decide) (fun c8 => ?_) (fun c8 => absurd c8 (by decide))
          refine pv_goto (tgt := 194) dX12_plan_537 (by decide) ?_
          refine pv_forgetL (ls' := [some (.ref 200), some (.int x1), some (.int x2), some (.int x3), some (.int x4), some (.int x5), none, some (.int x7), some (.int x8), some (.int 0), none, none, none, none]) (pv_subL_ok ⟨rfl, ⟨rfl, ⟨rfl, ⟨rfl, ⟨rfl, ⟨rfl, ⟨rfl, ⟨rfl, ⟨rfl, trivial⟩⟩⟩⟩⟩⟩⟩⟩⟩) ?_
          exact F
        · have F := F.2 c7
          refine pv_iconst (v := 1) (by decide) dX12_plan_514 ?_
          refine pv_goto (tgt := 519) dX12_plan_515 (by decide) ?_
          refine pv_istore (ls' := [some (.ref 200), some (.int x1), some (.int x2), some (.int x3), some (.int x4), some (.int x5), none, some (.int x7), some (.int x8), some (.int 1), none, none, none, some (.int x13)]) dX12_plan_519 (by decide) rfl rfl ?_
          refine pv_iload dX12_plan_521 rfl ?_
          refine pv_if_eq (tgt := 537) dX12_plan_523 (by decide) (fun c9 => absurd c9 (by decide)) (fun c9 => ?_)
          refine pv_aload_n dX12_plan_526 rfl ?_
          refine pv_getRk 12 29 dX12_plan_527 fl_X12_75 rfl (lt_200 hL) (lr_200_29 hL) ?_
          refine pv_iload dX12_plan_530 rfl ?_
          refine pv_pc (pc' := 532) rfl ?_
          refine pv_dup2 rfl rfl dX12_plan_532 ?_
          obtain ⟨q5, F⟩ := F
          refine pv_iald dX12_plan_533 (lt_329 hL) q5 ?_
          refine pv_iconst (v := 1) (by decide) dX12_plan_534 ?_
          refine pv_iadd dX12_plan_535 ?_
          obtain ⟨q6, F⟩ := F
          obtain ⟨h3, eh3⟩ : ∃ h3 : pv_H, h3 = pv_up h 329 (Int32.toNatClampNeg x13) ((h 329 (Int32.toNatClampNeg x13)) + 1) := ⟨_, rfl⟩
          have F := F h3 eh3
          refine pv_iast dX12_plan_536 (lt_329 hL) (by decide) q6 ?_
          refine pv_hE eh3 ?_
          refine pv_goto (tgt := 194) dX12_plan_537 (by decide) ?_
          refine pv_forgetL (ls' := [some (.ref 200), some (.int x1), some (.int x2), some (.int x3), some (.int x4), some (.int x5), none, some (.int x7), some (.int x8), some (.int 1), none, none, none, none]) (pv_subL_ok ⟨rfl, ⟨rfl, ⟨rfl, ⟨rfl, ⟨rfl, ⟨rfl, ⟨rfl, ⟨rfl, ⟨rfl, trivial⟩⟩⟩⟩⟩⟩⟩⟩⟩) ?_
          exact F
      · have F := F.2 c6
        refine pv_aload_n dX12_plan_495 rfl ?_
        refine pv_getRk 12 29 dX12_plan_496 fl_X12_75 rfl (lt_200 hL) (lr_200_29 hL) ?_
        refine pv_iload dX12_plan_499 rfl ?_
        refine pv_iconst (v := 0) (by decide) dX12_plan_501 ?_
        obtain ⟨q7, F⟩ := F
        obtain ⟨h4, eh4⟩ : ∃ h4 : pv_H, h4 = pv_up h 329 (Int32.toNatClampNeg x13) 0 := ⟨_, rfl⟩
        have F := F h4 eh4
        refine pv_iast dX12_plan_502 (lt_329 hL) (by decide) q7 ?_
        refine pv_hE eh4 ?_
        refine pv_iinc (v := x13 + (-1)) (ls' := [some (.ref 200), some (.int x1), some (.int x2), some (.int x3), some (.int x4), some (.int x5), none, some (.int x7), some (.int x8), none, none, none, none, some (.int (x13 + (-1)))]) dX12_plan_503 rfl (by rfl) rfl rfl ?_
        refine pv_goto (tgt := 470) dX12_plan_506 (by decide) ?_
        exact F
set_option maxRecDepth 20000 in
set_option maxHeartbeats 4000000 in
theorem sg_X12_planned_0 {Γ : pv_C} {d kc ks : Nat} {ty : pv_T} {h : pv_H} {r : pv_R} {g : pv_G} {Q : pv_Q} (x : Int32) (hd : 1 ≤ d) (hL : pv_Lay ty r) (F : (((h 200 26) = 0 → Q (some (.int (-1))) ty h r g) ∧ (¬ (h 200 26) = 0 → (((pf_b (0 ≤ x ∧ x ≤ 7)) = 0 → Q (some (.int (-1))) ty h r g) ∧ (¬ (pf_b (0 ≤ x ∧ x ≤ 7)) = 0 → ((¬ (((h 200 27) >>> (x &&& 31)) &&& 1) = 1 → Q (some (.int (-1))) ty h r g) ∧ ((((h 200 27) >>> (x &&& 31)) &&& 1) = 1 → vp_in x 8 ∧ Q (some (.int (h 328 (Int32.toNatClampNeg x)))) ty h r g))))))) : pv_E Γ d kc ks mX12_planned 0 [some (.ref 200), some (.int x)] [] ty h r g Q := by
  refine pv_aload_n dX12_planned_0 rfl ?_
  refine pv_getI 12 26 dX12_planned_1 fl_X12_225 rfl (lt_200 hL) ?_
  refine pv_if_eq (tgt := 38) dX12_planned_4 (by decide) (fun c1 => ?_) (fun c1 => ?_)
  · have F := F.1 c1
    refine pv_iconst (v := (-1)) (by decide) dX12_planned_38 ?_
    exact pv_ireturn dX12_planned_39 rfl rfl F
  · have F := F.2 c1
    refine pv_iload_n dX12_planned_7 rfl ?_
    refine pv_iconst (v := 0) (by decide) dX12_planned_8 ?_
    refine pv_bipush (v := 7) (by decide) dX12_planned_9 ?_
    refine pv_invS (As := [.int x, .int 0, .int 7]) (d' := d - 1) dX12_planned_11 moX12_in ml_X12_164 (Nat.le_of_ble_eq_true rfl) (by omega) (Nat.zero_le _) (Nat.zero_le _) (ct_X12_in (by omega)) (fun v ty' h' r' g' hq => ?_) rfl
    obtain ⟨e1, e2, e3, e4, e5⟩ := hq
    rw [e1, e2, e3, e4, e5]
    refine pv_pc (pc' := 14) rfl ?_
    show pv_E Γ d kc ks mX12_planned 14 [some (.ref 200), some (.int x)] [.int (pf_b (0 ≤ x ∧ x ≤ 7))] ty h r g Q
    refine pv_if_eq (tgt := 38) dX12_planned_14 (by decide) (fun c2 => ?_) (fun c2 => ?_)
    · have F := F.1 c2
      refine pv_iconst (v := (-1)) (by decide) dX12_planned_38 ?_
      exact pv_ireturn dX12_planned_39 rfl rfl F
    · have F := F.2 c2
      refine pv_aload_n dX12_planned_17 rfl ?_
      refine pv_getI 12 27 dX12_planned_18 fl_X12_228 rfl (lt_200 hL) ?_
      refine pv_iload_n dX12_planned_21 rfl ?_
      refine pv_ishr dX12_planned_22 ?_
      refine pv_iconst (v := 1) (by decide) dX12_planned_23 ?_
      refine pv_iand dX12_planned_24 ?_
      refine pv_pc (pc' := 25) rfl ?_
      refine pv_iconst (v := 1) (by decide) dX12_planned_25 ?_
      refine pv_icmp_ne (tgt := 38) dX12_planned_26 (by decide) (fun c3 => ?_) (fun c3 => ?_)
      · have F := F.1 c3
        refine pv_iconst (v := (-1)) (by decide) dX12_planned_38 ?_
        exact pv_ireturn dX12_planned_39 rfl rfl F
      · have F := F.2 c3
        refine pv_aload_n dX12_planned_29 rfl ?_
        refine pv_getRk 12 28 dX12_planned_30 fl_X12_72 rfl (lt_200 hL) (lr_200_28 hL) ?_
        refine pv_iload_n dX12_planned_33 rfl ?_
        obtain ⟨q1, F⟩ := F
        refine pv_iald dX12_planned_34 (lt_328 hL) q1 ?_
        refine pv_goto (tgt := 39) dX12_planned_35 (by decide) ?_
        exact pv_ireturn dX12_planned_39 rfl rfl F
abbrev qpR : Nat → Nat → Prop := fun a _ => 328 ≤ a ∧ a ≤ 331
def qp_tl (T n : Nat) (c : Nat → Nat) (i : Nat) : Int32 := if c i = n then -2 else nI T + nI (c i)
def qp_bm (T n : Nat) (h : pv_H) (b : qp_b) : Prop := b.1 ≠ -1 → ∀ i, i < 8 → h 328 i = qp_tl T n b.2.2 i
def qp_ch (h : pv_H) (c : Nat → Nat) : Prop := ∀ i, i < 8 → h 329 i = nI (c i)
theorem mYr_c {h h' : pv_H} {T : Nat} (e1 : h' 200 19 = h 200 19) (e3 : ∀ a, 320 ≤ a → a ≤ 325 → h' a = h a) (hM : mYr h T) : mYr h' T := by
  unfold mYr
  rw [e1, e3 320 (by decide) (by decide), e3 321 (by decide) (by decide), e3 322 (by decide) (by decide)]
  exact hM
theorem qpR_e {h h0 : pv_H} (f : pv_fr qpR h0 h) : ∀ a, 320 ≤ a → a ≤ 325 → h a = h0 a := fun a h1 h2 => pv_fr_r f (fun j q => by have := q.1; omega)
theorem qp_s_b {B : Nat → Bool} {n : Nat} {P : Nat → Nat → Nat} {c : Nat → Nat} {y : Nat} (hP : ∀ i y, i < 8 → P i y ≤ 9999) : ∀ i, i ≤ 8 → qp_s B n P c y i ≤ 9999 * i
  | 0, _ => Nat.le_refl _
  | i + 1, hi => by
    have := qp_s_b (B := B) (n := n) (c := c) (y := y) hP i (by omega)
    have := hP i y (by omega)
    show (if B i = true ∧ c i ≠ n ∧ c i = y then qp_s B n P c y i + P i y else qp_s B n P c y i) ≤ _
    split <;> omega
section PLR
variable {Γ : pv_C} {d kc ks : Nat} {ty : pv_T} {h h0 h1 : pv_H} {r : pv_R} {g : pv_G} {Q : pv_Q} {T N n : Nat} {z u t : Int32} {c : Nat → Nat} {b : qp_b}
theorem pl_418 (hL : pv_Lay ty r) (hT : h1 200 19 = nI T) (hn : n ≤ 3) (hc : ∀ i, c i ≤ n) (hch : qp_ch h1 c) {w x : Int32} (hQ : ∀ h', pv_fr (aR 328) h1 h' → (∀ i, i < 8 → h' 328 i = qp_tl T n c i) → pv_E Γ d kc ks mX12_plan 470 [some (.ref 200), some (.int (nI N)), some (.int (nI n)), some (.int z), some (.int u), some (.int t), none, some (.int (w)), some (.int (x)), none, none, none, none, some (.int (7))] [] ty h' r g Q) : ∀ (m i : Nat) (h : pv_H), i + m = 8 → pv_fr (aR 328) h1 h → (∀ k, k < i → h 328 k = qp_tl T n c k) → pv_E Γ d kc ks mX12_plan 418 [some (.ref 200), some (.int (nI N)), some (.int (nI n)), some (.int z), some (.int u), some (.int t), none, some (.int (w)), some (.int (x)), none, none, none, none, some (.int (nI i))] [] ty h r g Q := by
  intro m
  induction m with
  | zero =>
    intro i h hi f p
    refine sg_X12_plan_418 _ _ _ _ _ _ _ _ hL ?_
    exact pk_le 8 i (fun _ => hQ h f (fun k hk => p k (by omega))) (fun c => absurd c (by omega))
  | succ m ih =>
    intro i h hi f p
    have hin : vp_in (nI i) 8 := vp_in_nI (by omega) (by decide)
    have e9 : h 329 i = nI (c i) := by rw [f 329 i (show ¬ 329 = 328 by decide)]; exact hch i (by omega)
    have hci := hc i
    have fin : ∀ h2 : pv_H, h2 = pv_up h 328 i (qp_tl T n c i) → pv_E Γ d kc ks mX12_plan 418 [some (.ref 200), some (.int (nI N)), some (.int (nI n)), some (.int z), some (.int u), some (.int t), none, some (.int (w)), some (.int (x)), none, none, none, none, some (.int (nI (i + 1)))] [] ty h2 r g Q := fun h2 e2 => ih (i + 1) h2 (by omega) (by rw [e2]; exact pv_fr_up f rfl) (fun k hk => by
      rw [e2]
      by_cases q : k = i
      · rw [q, pv_up_same]
      · rw [pv_up_j q]; exact p k (by omega))
    unfold qp_tl at fin
    refine sg_X12_plan_418 _ _ _ _ _ _ _ _ hL ?_
    rw [nI_clamp (by omega), f 200 19 (show ¬ 200 = 328 by decide), hT, e9, nI_1]
    refine pk_le 8 i (fun c => absurd c (by omega)) (fun _ => ⟨hin, pj_eq (c i) n (fun q => ⟨hin, fun h2 e2 => ?_⟩) (fun q => ⟨hin, hin, fun h2 e2 => ?_⟩)⟩)
    · rw [if_pos q] at fin; exact fin h2 e2
    · rw [if_neg q] at fin; exact fin h2 e2
theorem pl_228 (hd : 2 ≤ d) (hL : pv_Lay ty r) (hM : mYr h0 T) (hC : cpC h0) (hN : N < 256) (hn : n ≤ 3) (hz : 0 ≤ z ∧ z ≤ 99999) (hu : 0 ≤ u ∧ u ≤ 99999) (ht : 0 ≤ t ∧ t ≤ 99999) (hc : ∀ i, c i ≤ n) (f0 : pv_fr qpR h0 h1) (hch : qp_ch h1 c) (hb : qp_bm T n h1 b) (hQ : ∀ h', pv_fr qpR h0 h' → qp_ch h' c → qp_bm T n h' (qp_ev (pB N) n (qp_W h0 T) (qp_P h0 T) (qp_M z u t) c b) → pv_E Γ d kc ks mX12_plan 470 [some (.ref 200), some (.int (nI N)), some (.int (nI n)), some (.int z), some (.int u), some (.int t), none, some (.int ((qp_ev (pB N) n (qp_W h0 T) (qp_P h0 T) (qp_M z u t) c b).1)), some (.int ((qp_ev (pB N) n (qp_W h0 T) (qp_P h0 T) (qp_M z u t) c b).2.1)), none, none, none, none, some (.int (7))] [] ty h' r g Q) : ∀ (m i : Nat) (h : pv_H), i + m = 8 → pv_fr (aR 331) h1 h → (∀ y, y < 3 → h 331 y = nI (qp_s (pB N) n (qp_P h0 T) c y i)) → pv_E Γ d kc ks mX12_plan 228 [some (.ref 200), some (.int (nI N)), some (.int (nI n)), some (.int z), some (.int u), some (.int t), none, some (.int (b.1)), some (.int (b.2.1)), none, some (.int (qp_w (pB N) n (qp_W h0 T) c i)), some (.int (nI i)), none, none] [] ty h r g Q := by
  have hPb : ∀ i y, i < 8 → qp_P h0 T i y ≤ 9999 := fun i y hi => (mCost_b hC hi (T + y)).1
  have hT := hM.1
  intro m
  induction m with
  | zero =>
    intro i h hi f s
    rw [show i = 8 by omega] at s ⊢
    have b0 := qp_s_b (B := (pB N)) (n := n) (c := c) (y := 0) hPb 8 (Nat.le_refl _)
    have b1 := qp_s_b (B := (pB N)) (n := n) (c := c) (y := 1) hPb 8 (Nat.le_refl _)
    have b2 := qp_s_b (B := (pB N)) (n := n) (c := c) (y := 2) hPb 8 (Nat.le_refl _)
    have m0 : z = nI (qp_M z u t 0) := ni_cl hz.1
    have m1 : u = nI (qp_M z u t 1) := ni_cl hu.1
    have m2 : t = nI (qp_M z u t 2) := ni_cl ht.1
    have n0 := qp_M_b hz hu ht 0
    have n1 := qp_M_b hz hu ht 1
    have n2 := qp_M_b hz hu ht 2
    have fh : pv_fr qpR h0 h := pv_fr_tr f0 (pv_fr_mono (fun a j q => by rw [q]; exact ⟨by decide, by decide⟩) f)
    have ch' : qp_ch h c := fun i hi => by rw [f 329 i (show ¬ 329 = 331 by decide)]; exact hch i hi
    have no : (qp_ev (pB N) n (qp_W h0 T) (qp_P h0 T) (qp_M z u t) c b) = b → pv_E Γ d kc ks mX12_plan 470 [some (.ref 200), some (.int (nI N)), some (.int (nI n)), some (.int z), some (.int u), some (.int t), none, some (.int (b.1)), some (.int (b.2.1)), none, none, none, none, some (.int (7))] [] ty h r g Q := fun e => by
      have := hQ h fh ch' (by rw [e]; exact fun q i hi => by rw [f 328 i (show ¬ 328 = 331 by decide)]; exact hb q i hi)
      rw [e] at this
      exact this
    have yes : qp_s (pB N) n (qp_P h0 T) c 0 8 ≤ qp_M z u t 0 ∧ qp_s (pB N) n (qp_P h0 T) c 1 8 ≤ qp_M z u t 1 ∧ qp_s (pB N) n (qp_P h0 T) c 2 8 ≤ qp_M z u t 2 → (b.1 < qp_w (pB N) n (qp_W h0 T) c 8 ∨ (qp_w (pB N) n (qp_W h0 T) c 8 = b.1 ∧ nI (qp_x (pB N) n (qp_P h0 T) c 8) < b.2.1)) → pv_E Γ d kc ks mX12_plan 418 [some (.ref 200), some (.int (nI N)), some (.int (nI n)), some (.int z), some (.int u), some (.int t), none, some (.int (qp_w (pB N) n (qp_W h0 T) c 8)), some (.int (nI (qp_x (pB N) n (qp_P h0 T) c 8))), none, none, none, none, some (.int (0))] [] ty h r g Q := fun q1 q2 => by
      have e : (qp_ev (pB N) n (qp_W h0 T) (qp_P h0 T) (qp_M z u t) c b) = (qp_w (pB N) n (qp_W h0 T) c 8, nI (qp_x (pB N) n (qp_P h0 T) c 8), c) := by unfold qp_ev qp_keep; rw [if_pos q1, if_pos q2]
      rw [e] at hQ
      refine pl_418 hL (by rw [fh 200 19 (by decide)]; exact hM.2.1) hn hc ch' (fun h' f' p' => ?_) 8 0 h (by omega) (pv_fr_refl _ _) (fun k q => absurd q (by omega))
      exact hQ h' (pv_fr_tr fh (pv_fr_mono (fun a j q => by rw [q]; exact ⟨by decide, by decide⟩) f')) (fun i hi => by rw [f' 329 i (show ¬ 329 = 328 by decide)]; exact ch' i hi) (fun _ => p')
    refine sg_X12_plan_228 _ _ _ _ _ _ _ _ _ (by omega) hL ?_
    rw [show Int32.toNatClampNeg 0 = 0 from rfl, show Int32.toNatClampNeg 1 = 1 from rfl, show Int32.toNatClampNeg 2 = 2 from rfl, s 0 (by decide), s 1 (by decide), s 2 (by decide), nI_add, nI_add]
    have i0 : vp_in 0 3 := (show vp_in (nI 0) 3 from vp_in_nI (by decide) (by decide))
    have i1 : vp_in 1 3 := (show vp_in (nI 1) 3 from vp_in_nI (by decide) (by decide))
    have i2 : vp_in 2 3 := (show vp_in (nI 2) 3 from vp_in_nI (by decide) (by decide))
    have hno : ¬ (qp_s (pB N) n (qp_P h0 T) c 0 8 ≤ qp_M z u t 0 ∧ qp_s (pB N) n (qp_P h0 T) c 1 8 ≤ qp_M z u t 1 ∧ qp_s (pB N) n (qp_P h0 T) c 2 8 ≤ qp_M z u t 2) → (qp_ev (pB N) n (qp_W h0 T) (qp_P h0 T) (qp_M z u t) c b) = b := fun q => by unfold qp_ev; rw [if_neg q]
    refine pk_le 8 8 (fun _ => ⟨i0, i1, i2, i0, pk_lt (qp_M z u t 0) (qp_s (pB N) n (qp_P h0 T) c 0 8) (fun q => no (hno (fun w => absurd w.1 (by omega)))) (fun q0 => ⟨i1, pk_lt (qp_M z u t 1) (qp_s (pB N) n (qp_P h0 T) c 1 8) (fun q => no (hno (fun w => absurd w.2.1 (by omega)))) (fun q1 => ⟨i2, pk_lt (qp_M z u t 2) (qp_s (pB N) n (qp_P h0 T) c 2 8) (fun q => no (hno (fun w => absurd w.2.2 (by omega)))) (fun q2 => ?_) m2 rfl⟩) m1 rfl⟩) m0 rfl⟩) (fun c => absurd c (by omega))
    have all := And.intro q0 (And.intro q1 q2)
    have hk : ¬ (b.1 < qp_w (pB N) n (qp_W h0 T) c 8 ∨ (qp_w (pB N) n (qp_W h0 T) c 8 = b.1 ∧ nI (qp_x (pB N) n (qp_P h0 T) c 8) < b.2.1)) → (qp_ev (pB N) n (qp_W h0 T) (qp_P h0 T) (qp_M z u t) c b) = b := fun q => by unfold qp_ev qp_keep; rw [if_pos all, if_neg q]
    refine ⟨fun c1 => yes all (Or.inl c1), fun c1 => ⟨fun c2 => no (hk (fun q => q.elim c1 (fun q => c2 q.1))), fun c2 => ⟨fun c3 => no (hk (fun q => q.elim c1 (fun q => absurd q.2 (Int32.not_lt.mpr c3)))), fun c3 => yes all (Or.inr ⟨c2, Int32.not_le.mp c3⟩)⟩⟩⟩
  | succ m ih =>
    intro i h hi f s
    have hin : vp_in (nI i) 8 := vp_in_nI (by omega) (by decide)
    have fh : pv_fr qpR h0 h := pv_fr_tr f0 (pv_fr_mono (fun a j q => by rw [q]; exact ⟨by decide, by decide⟩) f)
    have e9 : h 329 i = nI (c i) := by rw [f 329 i (show ¬ 329 = 331 by decide)]; exact hch i (by omega)
    have e19 : h 200 19 = nI T := by rw [fh 200 19 (by decide)]; exact hM.2.1
    have hci := hc i
    have skip : ¬ (pB N i = true ∧ c i ≠ n) → pv_E Γ d kc ks mX12_plan 228 [some (.ref 200), some (.int (nI N)), some (.int (nI n)), some (.int z), some (.int u), some (.int t), none, some (.int (b.1)), some (.int (b.2.1)), none, some (.int (qp_w (pB N) n (qp_W h0 T) c i)), some (.int (nI (i + 1))), none, none] [] ty h r g Q := fun q => by
      have := ih (i + 1) h (by omega) f (fun y hy => by
        rw [s y hy]
        show _ = nI (if pB N i = true ∧ c i ≠ n ∧ c i = y then _ else _)
        rw [if_neg (fun w => q ⟨w.1, w.2.1⟩)])
      have e : qp_w (pB N) n (qp_W h0 T) c (i + 1) = qp_w (pB N) n (qp_W h0 T) c i := by show (if _ then _ else _) = _; rw [if_neg q]
      rw [e] at this
      exact this
    refine sg_X12_plan_228 _ _ _ _ _ _ _ _ _ (by omega) hL ?_
    rw [nI_clamp (by omega), e9, e19, nI_1, nI_add]
    refine pk_le 8 i (fun c => absurd c (by omega)) (fun _ => ⟨fun c1 => skip (fun q => absurd q.1 (by rw [(pb_01 N hN i (by omega)).mp c1]; decide)), fun c1 => ⟨hin, pj_eq (c i) n (fun q => skip (fun w => w.2 q)) (fun q => ⟨hin, ?_⟩)⟩⟩)
    have hB : pB N i = true := by
      rw [← Bool.not_eq_false]
      exact fun w => c1 ((pb_01 N hN i (by omega)).mpr w)
    have e3 := qpR_e fh
    refine ct_mwear (by omega) hL (mYr_c (fh 200 19 (by decide)) e3 hM) (by omega) (by omega) ⟨_, rfl, hL, hin, ?_⟩
    rw [e9, e19, nI_add, nI_clamp (show c i < 2 ^ 31 by omega)]
    have hin3 : vp_in (nI (c i)) 3 := vp_in_nI (by omega) (by decide)
    refine ⟨hin3, hin, ct_mcost hL (by omega) ⟨_, rfl, hL, hin3, fun h3 e5 => ?_⟩⟩
    rw [mWear_c (fh 200 19 (by decide)) e3]
    rw [mCost_c e3, (mCost_b hC (show i < 8 by omega) _).2, s (c i) (by omega), nI_add] at e5
    have := ih (i + 1) h3 (by omega) (by rw [e5]; exact pv_fr_up f rfl) (fun y hy => by
      show _ = nI (if pB N i = true ∧ c i ≠ n ∧ c i = y then qp_s (pB N) n (qp_P h0 T) c y i + qp_P h0 T i y else qp_s (pB N) n (qp_P h0 T) c y i)
      rw [e5]
      by_cases w : c i = y
      · rw [if_pos ⟨hB, q, w⟩, ← w, pv_up_same]
      · rw [if_neg (fun v => w v.2.2), pv_up_j (fun v => w v.symm)]; exact s y hy)
    have e : qp_w (pB N) n (qp_W h0 T) c (i + 1) = qp_w (pB N) n (qp_W h0 T) c i + qp_W h0 T i (c i) := by show (if _ then _ else _) = _; rw [if_pos ⟨hB, q⟩]
    rw [e] at this
    exact this
theorem pl_202 (hL : pv_Lay ty r) {x7 x8 : Int32} (hQ : ∀ h', pv_fr (aR 331) h1 h' → (∀ y, y < 3 → h' 331 y = 0) → pv_E Γ d kc ks mX12_plan 228 [some (.ref 200), some (.int (nI N)), some (.int (nI n)), some (.int z), some (.int u), some (.int t), none, some (.int (x7)), some (.int (x8)), none, some (.int (0)), some (.int (0)), none, none] [] ty h' r g Q) : ∀ (m i : Nat) (h : pv_H), i + m = 3 → pv_fr (aR 331) h1 h → (∀ y, y < i → h 331 y = 0) → pv_E Γ d kc ks mX12_plan 202 [some (.ref 200), some (.int (nI N)), some (.int (nI n)), some (.int z), some (.int u), some (.int t), none, some (.int (x7)), some (.int (x8)), none, some (.int (nI i)), none, none, none] [] ty h r g Q := by
  intro m
  induction m with
  | zero =>
    intro i h hi f p
    refine sg_X12_plan_202 _ _ _ _ _ _ _ _ hL ?_
    exact pk_le 3 i (fun _ => hQ h f (fun y hy => p y (by omega))) (fun c => absurd c (by omega))
  | succ m ih =>
    intro i h hi f p
    refine sg_X12_plan_202 _ _ _ _ _ _ _ _ hL ?_
    rw [nI_clamp (by omega), nI_1]
    refine pk_le 3 i (fun c => absurd c (by omega)) (fun _ => ⟨vp_in_nI (by omega) (by decide), fun h2 e2 => ih (i + 1) h2 (by omega) (by rw [e2]; exact pv_fr_up f rfl) (fun k hk => ?_)⟩)
    rw [e2]
    by_cases q : k = i
    · rw [q, pv_up_same]
    · rw [pv_up_j q]; exact p k (by omega)
theorem pl_194 (hd : 2 ≤ d) (hL : pv_Lay ty r) (hM : mYr h0 T) (hC : cpC h0) (hN : N < 256) (hn : n ≤ 3) (hz : 0 ≤ z ∧ z ≤ 99999) (hu : 0 ≤ u ∧ u ≤ 99999) (ht : 0 ≤ t ∧ t ≤ 99999) (hc : ∀ i, c i ≤ n) (f0 : pv_fr qpR h0 h1) (hch : qp_ch h1 c) (hb : qp_bm T n h1 b) (hQ : ∀ h', pv_fr qpR h0 h' → qp_ch h' c → qp_bm T n h' (qp_ev (pB N) n (qp_W h0 T) (qp_P h0 T) (qp_M z u t) c b) → pv_E Γ d kc ks mX12_plan 470 [some (.ref 200), some (.int (nI N)), some (.int (nI n)), some (.int z), some (.int u), some (.int t), none, some (.int ((qp_ev (pB N) n (qp_W h0 T) (qp_P h0 T) (qp_M z u t) c b).1)), some (.int ((qp_ev (pB N) n (qp_W h0 T) (qp_P h0 T) (qp_M z u t) c b).2.1)), none, none, none, none, some (.int (7))] [] ty h' r g Q) : pv_E Γ d kc ks mX12_plan 194 [some (.ref 200), some (.int (nI N)), some (.int (nI n)), some (.int z), some (.int u), some (.int t), none, some (.int (b.1)), some (.int (b.2.1)), some (.int (1)), none, none, none, none] [] ty h1 r g Q := by
  refine sg_X12_plan_194 _ _ _ _ _ _ _ _ hL ⟨fun q => absurd q (by decide), fun _ => ?_⟩
  refine pl_202 (h1 := h1) hL (fun h' f' p' => ?_) 3 0 h1 (by omega) (pv_fr_refl _ _) (fun y q => absurd q (by omega))
  exact pl_228 hd hL hM hC hN hn hz hu ht hc (pv_fr_tr f0 (pv_fr_mono (fun a j q => by rw [q]; exact ⟨by decide, by decide⟩) f')) (fun i hi => by rw [f' 329 i (show ¬ 329 = 331 by decide)]; exact hch i hi) (fun q i hi => by rw [f' 328 i (show ¬ 328 = 331 by decide)]; exact hb q i hi) hQ 8 0 h' (by omega) (pv_fr_refl _ _) (fun y hy => by rw [p' y hy]; rfl)
theorem qp_ch_u {i : Nat} (e : c i = 0) (q : qp_ch h c) : qp_ch h (qp_u c i 0) := fun k hk => by
  unfold qp_u
  split
  · rename_i w; rw [w, ← e, ← w]; exact q k hk
  · exact q k hk
theorem pl_odo (hd : 2 ≤ d) (hL : pv_Lay ty r) (hM : mYr h0 T) (hC : cpC h0) (hN : N < 256) (hn : n ≤ 3) (hz : 0 ≤ z ∧ z ≤ 99999) (hu : 0 ≤ u ∧ u ≤ 99999) (ht : 0 ≤ t ∧ t ≤ 99999) : ∀ (j : Nat), j ≤ 8 → ∀ (c : Nat → Nat) (b : qp_b) (h : pv_H), (∀ i, c i ≤ n) → (∀ i, 8 - j ≤ i → c i = 0) → pv_fr qpR h0 h → qp_ch h c → qp_bm T n h b → (∀ h' x, x = nI (8 - j) + (-1) → pv_fr qpR h0 h' → qp_ch h' c → qp_bm T n h' (qp_r (pB N) n (qp_W h0 T) (qp_P h0 T) (qp_M z u t) j c b) → pv_E Γ d kc ks mX12_plan 470 [some (.ref 200), some (.int (nI N)), some (.int (nI n)), some (.int z), some (.int u), some (.int t), none, some (.int ((qp_r (pB N) n (qp_W h0 T) (qp_P h0 T) (qp_M z u t) j c b).1)), some (.int ((qp_r (pB N) n (qp_W h0 T) (qp_P h0 T) (qp_M z u t) j c b).2.1)), none, none, none, none, some (.int (x))] [] ty h' r g Q) → pv_E Γ d kc ks mX12_plan 194 [some (.ref 200), some (.int (nI N)), some (.int (nI n)), some (.int z), some (.int u), some (.int t), none, some (.int (b.1)), some (.int (b.2.1)), some (.int (1)), none, none, none, none] [] ty h r g Q := by
  intro j
  induction j with
  | zero =>
    intro _ c b h hc h0' f hch hb hQ
    exact pl_194 hd hL hM hC hN hn hz hu ht hc f hch hb (fun h' f' c' b' => hQ h' 7 (by decide) f' c' b')
  | succ j ih =>
    intro hj c b h hc hz0 f hch hb hQ
    obtain ⟨i, hi⟩ : ∃ i, i = 7 - j := ⟨_, rfl⟩
    have e8 : 8 - (j + 1) = i := by omega
    have e9 : 8 - j = i + 1 := by omega
    rw [e8] at hz0 hQ
    rw [e9] at ih
    have er : qp_r (pB N) n (qp_W h0 T) (qp_P h0 T) (qp_M z u t) (j + 1) c b = if pB N i = true then (qp_f (fun y b => qp_r (pB N) n (qp_W h0 T) (qp_P h0 T) (qp_M z u t) j (qp_u c i y) b) (n + 1) b) else qp_r (pB N) n (qp_W h0 T) (qp_P h0 T) (qp_M z u t) j (qp_u c i 0) b := by subst hi; rfl
    rw [er] at hQ
    have hci : c i = 0 := hz0 i (Nat.le_refl _)
    have hin : vp_in (nI i) 8 := vp_in_nI (by omega) (by decide)
    have hub : ∀ y, y ≤ n → ∀ k, qp_u c i y k ≤ n := fun y hy k => by
      unfold qp_u
      split
      · exact hy
      · exact hc k
    have huz : ∀ y k, i + 1 ≤ k → qp_u c i y k = 0 := fun y k hk => by rw [qp_u_n (by omega)]; exact hz0 k (by omega)
    have ng : ¬ nI i < 0 := nI_pos (by omega)
    by_cases hB : pB N i = true
    · rw [if_pos hB] at hQ
      have hbit : ¬ ((nI N >>> (nI i &&& 31)) &&& 1) = 0 := fun q => by rw [(pb_01 N hN i (by omega)).mp q] at hB; exact absurd hB (by decide)
      have go : ∀ (m y : Nat) (h : pv_H), y + m = n → pv_fr qpR h0 h → qp_ch h (qp_u c i y) → qp_bm T n h (qp_f (fun y b => qp_r (pB N) n (qp_W h0 T) (qp_P h0 T) (qp_M z u t) j (qp_u c i y) b) y b) → pv_E Γ d kc ks mX12_plan 194 [some (.ref 200), some (.int (nI N)), some (.int (nI n)), some (.int z), some (.int u), some (.int t), none, some (.int ((qp_f (fun y b => qp_r (pB N) n (qp_W h0 T) (qp_P h0 T) (qp_M z u t) j (qp_u c i y) b) y b).1)), some (.int ((qp_f (fun y b => qp_r (pB N) n (qp_W h0 T) (qp_P h0 T) (qp_M z u t) j (qp_u c i y) b) y b).2.1)), some (.int (1)), none, none, none, none] [] ty h r g Q := by
        intro m
        induction m with
        | zero =>
          intro y h hy f hch hb
          rw [show y = n by omega] at hch hb ⊢
          refine ih (by omega) (qp_u c i n) (qp_f (fun y b => qp_r (pB N) n (qp_W h0 T) (qp_P h0 T) (qp_M z u t) j (qp_u c i y) b) n b) h (hub n (Nat.le_refl _)) (huz n) f hch hb (fun h' x ex f' c' b' => ?_)
          rw [pk_m1] at ex
          subst ex
          refine sg_X12_plan_470 _ _ _ _ _ _ _ _ hL ?_
          rw [nI_clamp (by omega), c' i (by omega), qp_u_s]
          refine ⟨fun q => absurd q ng, fun _ => ⟨fun q => absurd q hbit, fun _ => ⟨hin, fun q => absurd rfl q, fun _ => ⟨hin, fun h4 e4 => ?_⟩⟩⟩⟩
          refine hQ h4 _ rfl (by rw [e4]; exact pv_fr_up f' ⟨by decide, by decide⟩) (fun k hk => ?_) (by rw [e4]; exact fun q k hk => by rw [pv_up_a (by decide)]; exact b' q k hk)
          rw [e4]
          by_cases q : k = i
          · rw [q, pv_up_same, hci]; rfl
          · rw [pv_up_j q, c' k hk, qp_u_n q]
        | succ m ihm =>
          intro y h hy f hch hb
          refine ih (by omega) (qp_u c i y) (qp_f (fun y b => qp_r (pB N) n (qp_W h0 T) (qp_P h0 T) (qp_M z u t) j (qp_u c i y) b) y b) h (hub y (by omega)) (huz y) f hch hb (fun h' x ex f' c' b' => ?_)
          rw [pk_m1] at ex
          subst ex
          refine sg_X12_plan_470 _ _ _ _ _ _ _ _ hL ?_
          rw [nI_clamp (by omega), c' i (by omega), qp_u_s, nI_1]
          refine ⟨fun q => absurd q ng, fun _ => ⟨fun q => absurd q hbit, fun _ => ⟨hin, fun _ => ⟨fun q => absurd q ng, fun _ => ⟨hin, hin, fun h4 e4 => ?_⟩⟩, fun q => absurd ((nI_eq (by omega) (by omega)).mp q) (by omega)⟩⟩⟩
          refine ihm (y + 1) h4 (by omega) (by rw [e4]; exact pv_fr_up f' ⟨by decide, by decide⟩) (fun k hk => ?_) (by rw [e4]; exact fun q k hk => by rw [pv_up_a (by decide)]; exact b' q k hk)
          rw [e4]
          by_cases q : k = i
          · rw [q, pv_up_same, qp_u_s]
          · rw [pv_up_j q, c' k hk, qp_u_n q, qp_u_n q]
      exact go n 0 h (by omega) f (qp_ch_u hci hch) hb
    · rw [if_neg hB] at hQ
      have hbit : ((nI N >>> (nI i &&& 31)) &&& 1) = 0 := (pb_01 N hN i (by omega)).mpr (Bool.not_eq_true _ ▸ hB)
      refine ih (by omega) (qp_u c i 0) b h (hub 0 (by omega)) (huz 0) f (qp_ch_u hci hch) hb (fun h' x ex f' c' b' => ?_)
      rw [pk_m1] at ex
      subst ex
      refine sg_X12_plan_470 _ _ _ _ _ _ _ _ hL ?_
      rw [nI_clamp (by omega)]
      refine ⟨fun q => absurd q ng, fun _ => ⟨fun _ => ⟨hin, fun h4 e4 => ?_⟩, fun q => absurd hbit q⟩⟩
      refine hQ h4 _ rfl (by rw [e4]; exact pv_fr_up f' ⟨by decide, by decide⟩) (fun k hk => ?_) (by rw [e4]; exact fun q k hk => by rw [pv_up_a (by decide)]; exact b' q k hk)
      rw [e4]
      by_cases q : k = i
      · rw [q, pv_up_same, hci]; rfl
      · rw [pv_up_j q, c' k hk, qp_u_n q]
theorem pl_170 (hL : pv_Lay ty r) (hQ : ∀ h', pv_fr (aR 329) h1 h' → (∀ y, y < 8 → h' 329 y = 0) → pv_E Γ d kc ks mX12_plan 194 [some (.ref 200), some (.int (nI N)), some (.int (nI n)), some (.int z), some (.int u), some (.int t), none, some (.int (-1)), some (.int (0)), some (.int (1)), none, none, none, none] [] ty h' r g Q) : ∀ (m i : Nat) (h : pv_H), i + m = 8 → pv_fr (aR 329) h1 h → (∀ y, y < i → h 329 y = 0) → pv_E Γ d kc ks mX12_plan 170 [some (.ref 200), some (.int (nI N)), some (.int (nI n)), some (.int z), some (.int u), some (.int t), none, some (.int (-1)), some (.int (0)), some (.int (nI i)), none, none, none, none] [] ty h r g Q := by
  intro m
  induction m with
  | zero =>
    intro i h hi f p
    refine sg_X12_plan_170 _ _ _ _ _ _ _ _ hL ?_
    exact pk_le 8 i (fun _ => hQ h f (fun y hy => p y (by omega))) (fun c => absurd c (by omega))
  | succ m ih =>
    intro i h hi f p
    refine sg_X12_plan_170 _ _ _ _ _ _ _ _ hL ?_
    rw [nI_clamp (by omega), nI_1]
    refine pk_le 8 i (fun c => absurd c (by omega)) (fun _ => ⟨vp_in_nI (by omega) (by decide), fun h2 e2 => ih (i + 1) h2 (by omega) (by rw [e2]; exact pv_fr_up f rfl) (fun k hk => ?_)⟩)
    rw [e2]
    by_cases q : k = i
    · rw [q, pv_up_same]
    · rw [pv_up_j q]; exact p k (by omega)
abbrev qpZ : Nat → Nat → Prop := fun a j => (328 ≤ a ∧ a ≤ 331) ∨ (a = 200 ∧ (j = 26 ∨ j = 27))
def E80 (Γ : pv_C) (d kc ks : Nat) (ty : pv_T) (h : pv_H) (r : pv_R) (g : pv_G) (Q : pv_Q) (N n : Nat) (z u t x6 x7 : Int32) : Prop := pv_E Γ d kc ks mX12_plan 80 [some (.ref 200), some (.int (nI N)), some (.int (nI n)), some (.int z), some (.int u), some (.int t), some (.int x6), some (.int x7), none, none, none, none, none, none] [] ty h r g Q
theorem pl_80 {ns : Nat} (hd : 2 ≤ d) (hL : pv_Lay ty r) (hS : mStreets h ns) (hM : mYr h T) (hC : cpC h) (hN1 : 1 ≤ N) (hN : N < 256) (hn : n ≤ 3) (hz : 0 ≤ z ∧ z ≤ 99999) (hu : 0 ≤ u ∧ u ≤ 99999) (ht : 0 ≤ t ∧ t ≤ 99999) (hno : ¬ qp_ok h ns N → Q (some (.int (-1))) ty h r g) (hQ : qp_ok h ns N → ∀ h', pv_fr qpZ h h' → h' 200 26 = 1 → h' 200 27 = nI N → (∀ i, i < 8 → h' 328 i = qp_tl T n (qp_B h T N n z u t).2.2 i) → Q (some (.int (qp_B h T N n z u t).1)) ty h' r g) : ∀ (m i : Nat), i + m = 8 → (∀ k, k < i → pB N k = true → k < ns ∧ ¬ h 323 k = 0) → E80 Γ d kc ks ty h r g Q N n z u t (nI (qp_n (pB N) i)) (nI i) := by
  have h8 := hS.1
  have hle : ∀ i, qp_n (pB N) i ≤ i := fun i => by
    induction i with
    | zero => exact Nat.le_refl _
    | succ i ih =>
      show (if pB N i = true then qp_n (pB N) i + 1 else qp_n (pB N) i) ≤ i + 1
      split <;> omega
  intro m
  unfold E80
  induction m with
  | zero =>
    intro i hi p
    rw [show i = 8 by omega] at p ⊢
    have := hle 8
    refine sg_X12_plan_80 _ _ _ _ _ _ _ (by omega) hL ?_
    refine pk_le 8 8 (fun _ => pk_le (qp_n (pB N) 8) 6 (fun q => ?_) (fun q => hno (fun w => absurd w.2.2.1 (by omega)))) (fun c => absurd c (by omega))
    have hok : qp_ok h ns N := ⟨hN, by have := pb_1 N hN; omega, q, p⟩
    refine ⟨(show vp_in (nI 0) 3 from vp_in_nI (by decide) (by decide)), fun h1 e1 => ⟨(show vp_in (nI 1) 3 from vp_in_nI (by decide) (by decide)), fun h2 e2 => ⟨(show vp_in (nI 2) 3 from vp_in_nI (by decide) (by decide)), fun h3 e3 => ?_⟩⟩⟩
    have f3 : pv_fr qpR h h3 := by rw [e3, e2, e1]; exact pv_fr_up (pv_fr_up (pv_fr_up (pv_fr_refl _ _) ⟨by decide, by decide⟩) ⟨by decide, by decide⟩) ⟨by decide, by decide⟩
    refine pl_170 (h1 := h3) hL (fun h4 f4 p4 => ?_) 8 0 h3 (by omega) (pv_fr_refl _ _) (fun y q => absurd q (by omega))
    have f4' : pv_fr qpR h h4 := pv_fr_tr f3 (pv_fr_mono (fun a j q => by rw [q]; exact ⟨by decide, by decide⟩) f4)
    refine pl_odo (h0 := h) (T := T) hd hL hM hC hN hn hz hu ht 8 (Nat.le_refl _) (fun _ => 0) (-1, 0, fun _ => 0) h4 (fun _ => Nat.zero_le _) (fun _ _ => rfl) f4' (fun i hi => p4 i hi) (fun q => absurd rfl q) (fun h5 x ex f5 c5 b5 => ?_)
    have hx : x = -1 := ex
    subst hx
    refine sg_X12_plan_470 _ _ _ _ _ _ _ _ hL ⟨fun _ => ⟨fun _ => ?_, fun q => absurd (by decide) q⟩, fun q => absurd (by decide) q⟩
    refine sg_X12_plan_194 _ _ _ _ _ _ _ _ hL ⟨fun _ h6 e6 h7 e7 => ?_, fun q => absurd rfl q⟩
    have hge : 0 ≤ (qp_B h T N n z u t).1 := qp_r_0 8 _ _ (Nat.le_refl _) (fun i hi => absurd hi (by omega))
    have hne : (qp_B h T N n z u t).1 ≠ -1 := fun e => by rw [e] at hge; exact absurd hge (by decide)
    refine hQ hok h7 (fun a j w => ?_) ?_ ?_ (fun i hi => ?_)
    · rw [e7, pv_up, if_neg (fun v => w (Or.inr ⟨v.1, Or.inr v.2⟩)), e6, pv_up, if_neg (fun v => w (Or.inr ⟨v.1, Or.inl v.2⟩))]
      exact f5 a j (fun v => w (Or.inl v))
    · rw [e7, pv_up_j (by decide), e6, pv_up_same]
    · rw [e7, pv_up_same]
    · rw [e7, pv_up_a (by decide), e6, pv_up_a (by decide)]
      exact b5 hne i hi
  | succ m ih =>
    intro i hi p
    have hi' := hle i
    refine sg_X12_plan_80 _ _ _ _ _ _ _ (by omega) hL ?_
    rw [nI_clamp (by omega), nI_1, nI_1, hS.2.1]
    have skip : ¬ pB N i = true → qp_n (pB N) (i + 1) = qp_n (pB N) i := fun q => by show (if _ then _ else _) = _; rw [if_neg q]
    have step : pB N i = true → qp_n (pB N) (i + 1) = qp_n (pB N) i + 1 := fun q => by show (if _ then _ else _) = _; rw [if_pos q]
    refine pk_le 8 i (fun c => absurd c (by omega)) (fun _ => ⟨fun c1 => ?_, fun c1 => ?_⟩)
    · have hB : pB N i = true := by
        rw [← Bool.not_eq_false]
        exact fun w => c1 ((pb_01 N hN i (by omega)).mpr w)
      refine pk_b (fun c2 => ⟨vp_in_nI (by omega) (by decide), fun c3 => ?_, fun c3 => hno (fun w => (w.2.2.2 i (by omega) hB).2 c3)⟩) (fun c2 => hno (fun w => c2 ((ni_valid (by omega)).mpr ⟨i, (w.2.2.2 i (by omega) hB).1, rfl⟩)))
      obtain ⟨s, hs, es⟩ := (ni_valid (by omega)).mp c2
      have hs' : i < ns := by rw [(nI_eq (by omega) (by omega)).mp es]; exact hs
      have := ih (i + 1) (by omega) (fun k hk hBk => by
        by_cases q : k = i
        · rw [q]; exact ⟨hs', c3⟩
        · exact p k (by omega) hBk)
      rw [step hB] at this
      exact this
    · have hB : ¬ pB N i = true := by rw [(pb_01 N hN i (by omega)).mp c1]; decide
      have := ih (i + 1) (by omega) (fun k hk hBk => p k (by have : k ≠ i := fun e => hB (e ▸ hBk); omega) hBk)
      rw [skip hB] at this
      exact this
theorem ct_X12_plan {ns : Nat} (hd : 3 ≤ d) (hL : pv_Lay ty r) (hS : mStreets h ns) (hM : mYr h T) (hC : cpC h) {x y z u v : Int32} {K : pv_Q} (h1 : ¬ fo_plan h ns x y z u v → K (some (.int (-1))) ty h r g) (h2 : fo_plan h ns x y z u v → ∀ N n, x = nI N → qp_ok h ns N → y = nI n → 1 ≤ n → n ≤ 3 → ∀ h', pv_fr qpZ h h' → h' 200 26 = 1 → h' 200 27 = nI N → (∀ i, i < 8 → h' 328 i = qp_tl T n (qp_B h T N n z u v).2.2 i) → K (some (.int (qp_B h T N n z u v).1)) ty h' r g) : pv_CT Γ d 0 0 mX12_plan [.ref 200, .int x, .int y, .int z, .int u, .int v] ty h r g K := by
  have go : (1 ≤ x ∧ x ≤ 255) → (1 ≤ y ∧ y ≤ 3) → (0 ≤ z ∧ z ≤ 99999) → (0 ≤ u ∧ u ≤ 99999) → (0 ≤ v ∧ v ≤ 99999) → (y < 2 → u = 0) → (y < 3 → v = 0) → pv_E Γ d 0 0 mX12_plan 80 [some (.ref 200), some (.int x), some (.int y), some (.int z), some (.int u), some (.int v), some (.int 0), some (.int 0), none, none, none, none, none, none] [] ty h r g K := fun hx hy hz hu hv hu0 hv0 => by
    obtain ⟨N, hN, rfl⟩ := nI_of (x := x) (Int32.not_lt.mpr (Int32.le_trans (by decide) hx.1))
    obtain ⟨n, hn, rfl⟩ := nI_of (x := y) (Int32.not_lt.mpr (Int32.le_trans (by decide) hy.1))
    have n1 : 1 ≤ n := (nI_leI (a := 1) (by decide) hn).mp hy.1
    have n3 : n ≤ 3 := (nI_leI (b := 3) hn (by decide)).mp hy.2
    have N1 : 1 ≤ N := (nI_leI (a := 1) (by decide) hN).mp hx.1
    have N2 : N ≤ 255 := (nI_leI (b := 255) hN (by decide)).mp hx.2
    refine pl_80 (by omega) hL hS hM hC N1 (by omega) n3 hz hu hv (fun q => h1 ?_) (fun q => h2 ⟨⟨N, rfl, q⟩, hy, hz, hu, hv, hu0, hv0⟩ N n rfl q rfl n1 n3) 8 0 (by omega) (fun k q => absurd q (by omega))
    rintro ⟨⟨N', e, w⟩, -⟩
    rw [(nI_eq hN (by have := w.1; omega)).mp e] at q
    exact q w
  refine pv_fn 8 pn_X12 rfl (Nat.le_of_ble_eq_true rfl) (sg_X12_plan_0 x y z u v (by omega) ?_)
  refine pk_b (fun c1 => pk_b (fun c2 => pk_b (fun c3 => pk_b (fun c4 => pk_b (fun c5 => ⟨fun c6 => ⟨fun c7 => go c1 c2 c3 c4 c5 (fun q => absurd c6 (Int32.not_le.mpr q)) (fun q => absurd c7 (Int32.not_le.mpr q)), fun c7 => ⟨fun c8 => go c1 c2 c3 c4 c5 (fun q => absurd c6 (Int32.not_le.mpr q)) (fun _ => c8), fun c8 => h1 (fun q => c8 (q.2.2.2.2.2.2 (Int32.not_le.mp c7)))⟩⟩, fun c6 => ⟨fun c7 => h1 (fun q => c7 (q.2.2.2.2.2.1 (Int32.not_le.mp c6))), fun c7 => ⟨fun c8 => go c1 c2 c3 c4 c5 (fun _ => c7) (fun q => absurd c8 (Int32.not_le.mpr q)), fun c8 => ⟨fun c9 => go c1 c2 c3 c4 c5 (fun _ => c7) (fun _ => c9), fun c9 => h1 (fun q => c9 (q.2.2.2.2.2.2 (Int32.not_le.mp c8)))⟩⟩⟩⟩) (fun c => h1 (fun q => c q.2.2.2.2.1))) (fun c => h1 (fun q => c q.2.2.2.1))) (fun c => h1 (fun q => c q.2.2.1))) (fun c => h1 (fun q => c q.2.1))) (fun c => h1 (fun q => ?_))
  obtain ⟨N, rfl, w⟩ := q.1
  refine c ⟨(nI_leI (a := 1) (by decide) (by have := w.1; omega)).mpr ?_, (nI_leI (b := 255) (by have := w.1; omega) (by decide)).mpr (by have := w.1; omega)⟩
  have := pb_1 N w.1
  have := w.2.1
  omega
theorem ct_X12_planned (hd : 1 ≤ d) (hL : pv_Lay ty r) (hP : cpP h) {x : Int32} : pv_CT Γ d 0 0 mX12_planned [.ref 200, .int x] ty h r g (pv_is (.int (fn_planned h x)) ty h r g) := by
  refine pv_fn 0 pn_X12 rfl (Nat.le_of_ble_eq_true rfl) (sg_X12_planned_0 x (by omega) hL ?_)
  unfold fn_planned
  rcases hP with ⟨p1, p2⟩ | ⟨p1, N, hN, p2, p3⟩
  · refine ⟨fun _ => ?_, fun q => absurd p1 q⟩
    by_cases q : 0 ≤ x ∧ x ≤ 7
    · rw [if_pos q]
      obtain ⟨s, hs, rfl⟩ := nI_of (x := x) (Int32.not_lt.mpr q.1)
      have := (nI_leI (b := 7) hs (by decide)).mp q.2
      rw [nI_clamp hs, p2 s (by omega)]
      exact pv_is_refl _ _ _ _ _
    · rw [if_neg q]; exact pv_is_refl _ _ _ _ _
  · refine ⟨fun q => absurd q (by rw [p1]; decide), fun _ => pk_b (fun q => ?_) (fun q => by rw [if_neg q]; exact pv_is_refl _ _ _ _ _)⟩
    rw [if_pos q]
    obtain ⟨s, hs, rfl⟩ := nI_of (x := x) (Int32.not_lt.mpr q.1)
    have h7 := (nI_leI (b := 7) hs (by decide)).mp q.2
    rw [nI_clamp hs, p3 s (by omega), p2]
    refine ⟨fun w => ?_, fun w => ⟨vp_in_nI (by omega) (by decide), ?_⟩⟩
    · rw [if_neg (show ¬ pB N s = true from fun v => w (of_decide_eq_true v))]; exact pv_is_refl _ _ _ _ _
    · rw [if_pos (show pB N s = true from decide_eq_true w)]; exact pv_is_refl _ _ _ _ _
/-- both plans made: the coupling -/
theorem cpP_made {N n : Nat} (hN : N < 256) (p26 : h 200 26 = 1) (p27 : h 200 27 = nI N) {b : qp_b} (pc : ∀ i, i < 8 → h 67 i = qp_told T N n b i) (pm : ∀ i, i < 8 → h 328 i = qp_tl T n b.2.2 i) : cpP h := Or.inr ⟨p26, N, hN, p27, fun i hi => by rw [pc i hi, pm i hi]; rfl⟩
end PLR
