/-! the reference's texts: bytes, names, signs; adds, done, opened -/
theorem pv_ne {x k : Int32} {n : Int} (h : ¬ x = k) (hk : k.toInt = n) : x.toInt ≠ n := fun e => h (Int32.toInt_inj.mp (e.trans hk.symm))
section MB
variable {Γ : pv_C} {d kc ks : Nat} {M : pv_M} {pc : Nat} {ls : List (Option Value)} {st : List Value} {ty : pv_T} {h : pv_H} {r : pv_R} {g : pv_G} {Q : pv_Q}
/-- what lies in a byte array fits a byte -/
theorem pv_Bof {a n : Nat} (ha : 10 ≤ a) (hta : ty a = some (21, n)) (k : (∀ j, j < n → -128 ≤ h a j ∧ h a j ≤ 127) → pv_E Γ d kc ks M pc ls st ty h r g Q) : pv_E Γ d kc ks M pc ls st ty h r g Q := by
  intro p e R s m args below meth c' H locs cells slots ρ lz Z hK
  refine k (fun j hj => ?_) p e R s m args below meth c' H locs cells slots ρ lz Z hK
  rcases (hK.2.2.1.2.1 a 21 n hta ha).2 with ⟨y, -⟩ | ⟨-, -, cA, -, -, -, y⟩
  · omega
  · have := y j hj
    have e1 : pv_eV ρ h r g a 21 j = .int (h a j) := rfl
    rw [e1] at this
    have h2 : (decide (-128 ≤ h a j) && decide (h a j ≤ 127)) = true := this
    rw [Bool.and_eq_true, decide_eq_true_eq, decide_eq_true_eq] at h2
    exact h2
end MB
/-- a byte t of the tape is the number c -/
def TB (t : Int32) (c : Nat) : Prop := (c < 128 → t = nI c) ∧ (128 ≤ c → t < 0) ∧ c < 256
theorem TB_of {t : Int32} (h : -128 ≤ t ∧ t ≤ 127) : TB t (t.toBitVec.toNat % 256) := by
  have h1 : (-128 : Int) ≤ t.toInt := by have := Int32.le_iff_toInt_le.mp h.1; simpa using this
  have h2 : t.toInt ≤ (127 : Int) := by have := Int32.le_iff_toInt_le.mp h.2; simpa using this
  have e : t.toInt = if 2 * t.toBitVec.toNat < 2 ^ 32 then (t.toBitVec.toNat : Int) else (t.toBitVec.toNat : Int) - (2 ^ 32 : Nat) := BitVec.toInt_eq_toNat_cond t.toBitVec
  have hb := t.toBitVec.isLt
  by_cases q : 2 * t.toBitVec.toNat < 2 ^ 32
  · rw [if_pos q] at e
    have e3 : t = nI t.toBitVec.toNat := by
      apply Int32.toInt_inj.mp
      rw [nI_toInt (by omega), e]
    refine ⟨fun _ => ?_, fun z => absurd z (by omega), by omega⟩
    rw [show t.toBitVec.toNat % 256 = t.toBitVec.toNat by omega]
    exact e3
  · rw [if_neg q] at e
    refine ⟨fun z => absurd z (by omega), fun _ => ?_, by omega⟩
    rw [Int32.lt_iff_toInt_lt]
    show t.toInt < 0
    omega
theorem TB_eq {t : Int32} {c k : Nat} (h : TB t c) (hk : k < 128) : t = nI k ↔ c = k := by
  obtain ⟨h1, h2, h3⟩ := h
  by_cases q : c < 128
  · rw [h1 q]; exact nI_eq (by omega) (by omega)
  · refine ⟨fun e => ?_, fun e => absurd e (by omega)⟩
    have := h2 (by omega)
    rw [e] at this
    exact absurd this (nI_pos (by omega))
theorem pt_eq {t z : Int32} {A B : Prop} (c k : Nat) (h : TB t c) (f : c = k → A) (g : c ≠ k → B) (hz : z = nI k := by rfl) (hk : k < 128 := by decide) : (t = z → A) ∧ (¬ t = z → B) := by
  rw [hz, TB_eq h hk]
  exact ⟨f, g⟩
theorem pt_en {t z : Int32} {A B : Prop} (c k : Nat) (h : TB t c) (f : c = k → A) (g : c ≠ k → B) (hz : z = nI k := by rfl) (hk : k < 128 := by decide) : (¬ t = z → B) ∧ (t = z → A) := (pt_eq c k h f g hz hk).symm
theorem TB_dg {t : Int32} {c : Nat} (h : TB t c) : (48 ≤ t ∧ t ≤ 57) ↔ tx_dg c := by
  obtain ⟨h1, h2, h3⟩ := h
  by_cases q : c < 128
  · rw [h1 q, show (48 : Int32) = nI 48 from rfl, show (57 : Int32) = nI 57 from rfl, nI_leI (by decide) (by omega), nI_leI (by omega) (by decide)]
  · refine ⟨fun e => ?_, fun e => ?_⟩
    · have := h2 (by omega)
      exact absurd this (by grind)
    · unfold tx_dg at e
      omega
set_option maxRecDepth 20000 in
set_option maxHeartbeats 4000000 in
theorem sg_X12_isDigit_0 {Γ : pv_C} {d kc ks : Nat} {ty : pv_T} {h : pv_H} {r : pv_R} {g : pv_G} {Q : pv_Q} (x : Int32) (F : ((x < 48 → Q (some (.int 0)) ty h r g) ∧ (¬ x < 48 → ((57 < x → Q (some (.int 0)) ty h r g) ∧ (¬ 57 < x → Q (some (.int 1)) ty h r g))))) : pv_E Γ d kc ks mX12_isDigit 0 [some (.int x)] [] ty h r g Q := by
  refine pv_iload_n dX12_isDigit_0 rfl ?_
  refine pv_bipush (v := 48) (by decide) dX12_isDigit_1 ?_
  refine pv_icmp_lt (tgt := 16) dX12_isDigit_3 (by decide) (fun c1 => ?_) (fun c1 => ?_)
  · have F := F.1 c1
    refine pv_iconst (v := 0) (by decide) dX12_isDigit_16 ?_
    exact pv_ireturn dX12_isDigit_17 rfl (by decide) F
  · have F := F.2 c1
    refine pv_iload_n dX12_isDigit_6 rfl ?_
    refine pv_bipush (v := 57) (by decide) dX12_isDigit_7 ?_
    refine pv_icmp_gt (tgt := 16) dX12_isDigit_9 (by decide) (fun c2 => ?_) (fun c2 => ?_)
    · have F := F.1 c2
      refine pv_iconst (v := 0) (by decide) dX12_isDigit_16 ?_
      exact pv_ireturn dX12_isDigit_17 rfl (by decide) F
    · have F := F.2 c2
      refine pv_iconst (v := 1) (by decide) dX12_isDigit_12 ?_
      refine pv_goto (tgt := 17) dX12_isDigit_13 (by decide) ?_
      exact pv_ireturn dX12_isDigit_17 rfl (by decide) F
set_option maxRecDepth 20000 in
set_option maxHeartbeats 4000000 in
theorem sg_X12_isName_0 {Γ : pv_C} {d kc ks : Nat} {ty : pv_T} {h : pv_H} {r : pv_R} {g : pv_G} {Q : pv_Q} (x : Int32) (y : Int32) (F : ((¬ x = 115 → ((¬ y = 0 → ((x = 100 → Q (some (.int 1)) ty h r g) ∧ (¬ x = 100 → ((x = 108 → Q (some (.int 1)) ty h r g) ∧ (¬ x = 108 → ((x = 119 → Q (some (.int 1)) ty h r g) ∧ (¬ x = 119 → ((¬ x = 110 → Q (some (.int 0)) ty h r g) ∧ (x = 110 → Q (some (.int 1)) ty h r g))))))))) ∧ (y = 0 → ((x = 102 → Q (some (.int 1)) ty h r g) ∧ (¬ x = 102 → ((x = 103 → Q (some (.int 1)) ty h r g) ∧ (¬ x = 103 → ((x = 118 → Q (some (.int 1)) ty h r g) ∧ (¬ x = 118 → ((x = 99 → Q (some (.int 1)) ty h r g) ∧ (¬ x = 99 → ((¬ x = 121 → Q (some (.int 0)) ty h r g) ∧ (x = 121 → Q (some (.int 1)) ty h r g))))))))))))) ∧ (x = 115 → Q (some (.int 1)) ty h r g))) : pv_E Γ d kc ks mX12_isName 0 [some (.int x), some (.int y)] [] ty h r g Q := by
  refine pv_iload_n dX12_isName_0 rfl ?_
  refine pv_bipush (v := 115) (by decide) dX12_isName_1 ?_
  refine pv_icmp_ne (tgt := 8) dX12_isName_3 (by decide) (fun c1 => ?_) (fun c1 => ?_)
  · have F := F.1 c1
    refine pv_iload_n dX12_isName_8 rfl ?_
    refine pv_if_ne (tgt := 50) dX12_isName_9 (by decide) (fun c2 => ?_) (fun c2 => ?_)
    · have F := F.1 c2
      refine pv_iload_n dX12_isName_50 rfl ?_
      refine pv_bipush (v := 100) (by decide) dX12_isName_51 ?_
      refine pv_icmp_eq (tgt := 74) dX12_isName_53 (by decide) (fun c3 => ?_) (fun c3 => ?_)
      · have F := F.1 c3
        refine pv_iconst (v := 1) (by decide) dX12_isName_74 ?_
        refine pv_goto (tgt := 79) dX12_isName_75 (by decide) ?_
        exact pv_ireturn dX12_isName_79 rfl (by decide) F
      · have F := F.2 c3
        refine pv_iload_n dX12_isName_56 rfl ?_
        refine pv_bipush (v := 108) (by decide) dX12_isName_57 ?_
        refine pv_icmp_eq (tgt := 74) dX12_isName_59 (by decide) (fun c4 => ?_) (fun c4 => ?_)
        · have F := F.1 c4
          refine pv_iconst (v := 1) (by decide) dX12_isName_74 ?_
          refine pv_goto (tgt := 79) dX12_isName_75 (by decide) ?_
          exact pv_ireturn dX12_isName_79 rfl (by decide) F
        · have F := F.2 c4
          refine pv_iload_n dX12_isName_62 rfl ?_
          refine pv_bipush (v := 119) (by decide) dX12_isName_63 ?_
          refine pv_icmp_eq (tgt := 74) dX12_isName_65 (by decide) (fun c5 => ?_) (fun c5 => ?_)
          · have F := F.1 c5
            refine pv_iconst (v := 1) (by decide) dX12_isName_74 ?_
            refine pv_goto (tgt := 79) dX12_isName_75 (by decide) ?_
            exact pv_ireturn dX12_isName_79 rfl (by decide) F
          · have F := F.2 c5
            refine pv_iload_n dX12_isName_68 rfl ?_
            refine pv_bipush (v := 110) (by decide) dX12_isName_69 ?_
            refine pv_icmp_ne (tgt := 78) dX12_isName_71 (by decide) (fun c6 => ?_) (fun c6 => ?_)
            · have F := F.1 c6
              refine pv_iconst (v := 0) (by decide) dX12_isName_78 ?_
              exact pv_ireturn dX12_isName_79 rfl (by decide) F
            · have F := F.2 c6
              refine pv_iconst (v := 1) (by decide) dX12_isName_74 ?_
              refine pv_goto (tgt := 79) dX12_isName_75 (by decide) ?_
              exact pv_ireturn dX12_isName_79 rfl (by decide) F
    · have F := F.2 c2
      refine pv_iload_n dX12_isName_12 rfl ?_
      refine pv_bipush (v := 102) (by decide) dX12_isName_13 ?_
      refine pv_icmp_eq (tgt := 42) dX12_isName_15 (by decide) (fun c7 => ?_) (fun c7 => ?_)
      · have F := F.1 c7
        refine pv_iconst (v := 1) (by decide) dX12_isName_42 ?_
        refine pv_goto (tgt := 79) dX12_isName_43 (by decide) ?_
        exact pv_ireturn dX12_isName_79 rfl (by decide) F
      · have F := F.2 c7
        refine pv_iload_n dX12_isName_18 rfl ?_
        refine pv_bipush (v := 103) (by decide) dX12_isName_19 ?_
        refine pv_icmp_eq (tgt := 42) dX12_isName_21 (by decide) (fun c8 => ?_) (fun c8 => ?_)
        · have F := F.1 c8
          refine pv_iconst (v := 1) (by decide) dX12_isName_42 ?_
          refine pv_goto (tgt := 79) dX12_isName_43 (by decide) ?_
          exact pv_ireturn dX12_isName_79 rfl (by decide) F
        · have F := F.2 c8
          refine pv_iload_n dX12_isName_24 rfl ?_
          refine pv_bipush (v := 118) (by decide) dX12_isName_25 ?_
          refine pv_icmp_eq (tgt := 42) dX12_isName_27 (by decide) (fun c9 => ?_) (fun c9 => ?_)
          · have F := F.1 c9
            refine pv_iconst (v := 1) (by decide) dX12_isName_42 ?_
            refine pv_goto (tgt := 79) dX12_isName_43 (by decide) ?_
            exact pv_ireturn dX12_isName_79 rfl (by decide) F
          · have F := F.2 c9
            refine pv_iload_n dX12_isName_30 rfl ?_
            refine pv_bipush (v := 99) (by decide) dX12_isName_31 ?_
            refine pv_icmp_eq (tgt := 42) dX12_isName_33 (by decide) (fun c10 => ?_) (fun c10 => ?_)
            · have F := F.1 c10
              refine pv_iconst (v := 1) (by decide) dX12_isName_42 ?_
              refine pv_goto (tgt := 79) dX12_isName_43 (by decide) ?_
              exact pv_ireturn dX12_isName_79 rfl (by decide) F
            · have F := F.2 c10
              refine pv_iload_n dX12_isName_36 rfl ?_
              refine pv_bipush (v := 121) (by decide) dX12_isName_37 ?_
              refine pv_icmp_ne (tgt := 46) dX12_isName_39 (by decide) (fun c11 => ?_) (fun c11 => ?_)
              · have F := F.1 c11
                refine pv_iconst (v := 0) (by decide) dX12_isName_46 ?_
                refine pv_goto (tgt := 79) dX12_isName_47 (by decide) ?_
                exact pv_ireturn dX12_isName_79 rfl (by decide) F
              · have F := F.2 c11
                refine pv_iconst (v := 1) (by decide) dX12_isName_42 ?_
                refine pv_goto (tgt := 79) dX12_isName_43 (by decide) ?_
                exact pv_ireturn dX12_isName_79 rfl (by decide) F
  · have F := F.2 c1
    refine pv_iconst (v := 1) (by decide) dX12_isName_6 ?_
    exact pv_ireturn dX12_isName_7 rfl (by decide) F
set_option maxRecDepth 20000 in
set_option maxHeartbeats 4000000 in
theorem sg_X12_signOf_0 {Γ : pv_C} {d kc ks : Nat} {ty : pv_T} {h : pv_H} {r : pv_R} {g : pv_G} {Q : pv_Q} (x : Int32) (F : ((x = 37 → Q (some (.int 62)) ty h r g) ∧ (x = 42 → Q (some (.int 60)) ty h r g) ∧ (x = 43 → Q (some (.int 50)) ty h r g) ∧ (x = 45 → Q (some (.int 51)) ty h r g) ∧ (x = 47 → Q (some (.int 61)) ty h r g) ∧ (x = 60 → Q (some (.int 40)) ty h r g) ∧ (x = 61 → Q (some (.int 41)) ty h r g) ∧ (x = 62 → Q (some (.int 42)) ty h r g) ∧ (¬ x = 37 → ¬ x = 42 → ¬ x = 43 → ¬ x = 45 → ¬ x = 47 → ¬ x = 60 → ¬ x = 61 → ¬ x = 62 → Q (some (.int 0)) ty h r g))) : pv_E Γ d kc ks mX12_signOf 0 [some (.int x)] [] ty h r g Q := by
  refine pv_iload_n dX12_signOf_0 rfl ?_
  by_cases c1_37 : x = 37
  · refine pv_tableIn (tgt := 141) dX12_signOf_1 (by rw [c1_37]; decide) (by rw [c1_37]; decide) (by rw [c1_37]; rfl) (by decide) ?_
    have F := F.1 c1_37
    refine pv_bipush (v := 62) (by decide) dX12_signOf_141 ?_
    exact pv_ireturn dX12_signOf_143 rfl rfl F
  · skip
    by_cases c1_38 : x = 38
    · refine pv_tableIn (tgt := 144) dX12_signOf_1 (by rw [c1_38]; decide) (by rw [c1_38]; decide) (by rw [c1_38]; rfl) (by decide) ?_
      have F := F.2.2.2.2.2.2.2.2 (by rw [c1_38]; decide) (by rw [c1_38]; decide) (by rw [c1_38]; decide) (by rw [c1_38]; decide) (by rw [c1_38]; decide) (by rw [c1_38]; decide) (by rw [c1_38]; decide) (by rw [c1_38]; decide)
      refine pv_iconst (v := 0) (by decide) dX12_signOf_144 ?_
      exact pv_ireturn dX12_signOf_145 rfl rfl F
    · skip
      by_cases c1_39 : x = 39
      · refine pv_tableIn (tgt := 144) dX12_signOf_1 (by rw [c1_39]; decide) (by rw [c1_39]; decide) (by rw [c1_39]; rfl) (by decide) ?_
        have F := F.2.2.2.2.2.2.2.2 (by rw [c1_39]; decide) (by rw [c1_39]; decide) (by rw [c1_39]; decide) (by rw [c1_39]; decide) (by rw [c1_39]; decide) (by rw [c1_39]; decide) (by rw [c1_39]; decide) (by rw [c1_39]; decide)
        refine pv_iconst (v := 0) (by decide) dX12_signOf_144 ?_
        exact pv_ireturn dX12_signOf_145 rfl rfl F
      · skip
        by_cases c1_40 : x = 40
        · refine pv_tableIn (tgt := 144) dX12_signOf_1 (by rw [c1_40]; decide) (by rw [c1_40]; decide) (by rw [c1_40]; rfl) (by decide) ?_
          have F := F.2.2.2.2.2.2.2.2 (by rw [c1_40]; decide) (by rw [c1_40]; decide) (by rw [c1_40]; decide) (by rw [c1_40]; decide) (by rw [c1_40]; decide) (by rw [c1_40]; decide) (by rw [c1_40]; decide) (by rw [c1_40]; decide)
          refine pv_iconst (v := 0) (by decide) dX12_signOf_144 ?_
          exact pv_ireturn dX12_signOf_145 rfl rfl F
        · skip
          by_cases c1_41 : x = 41
          · refine pv_tableIn (tgt := 144) dX12_signOf_1 (by rw [c1_41]; decide) (by rw [c1_41]; decide) (by rw [c1_41]; rfl) (by decide) ?_
            have F := F.2.2.2.2.2.2.2.2 (by rw [c1_41]; decide) (by rw [c1_41]; decide) (by rw [c1_41]; decide) (by rw [c1_41]; decide) (by rw [c1_41]; decide) (by rw [c1_41]; decide) (by rw [c1_41]; decide) (by rw [c1_41]; decide)
            refine pv_iconst (v := 0) (by decide) dX12_signOf_144 ?_
            exact pv_ireturn dX12_signOf_145 rfl rfl F
          · skip
            by_cases c1_42 : x = 42
            · refine pv_tableIn (tgt := 135) dX12_signOf_1 (by rw [c1_42]; decide) (by rw [c1_42]; decide) (by rw [c1_42]; rfl) (by decide) ?_
              have F := F.2.1 c1_42
              refine pv_bipush (v := 60) (by decide) dX12_signOf_135 ?_
              exact pv_ireturn dX12_signOf_137 rfl rfl F
            · skip
              by_cases c1_43 : x = 43
              · refine pv_tableIn (tgt := 129) dX12_signOf_1 (by rw [c1_43]; decide) (by rw [c1_43]; decide) (by rw [c1_43]; rfl) (by decide) ?_
                have F := F.2.2.1 c1_43
                refine pv_bipush (v := 50) (by decide) dX12_signOf_129 ?_
                exact pv_ireturn dX12_signOf_131 rfl rfl F
              · skip
                by_cases c1_44 : x = 44
                · refine pv_tableIn (tgt := 144) dX12_signOf_1 (by rw [c1_44]; decide) (by rw [c1_44]; decide) (by rw [c1_44]; rfl) (by decide) ?_
                  have F := F.2.2.2.2.2.2.2.2 (by rw [c1_44]; decide) (by rw [c1_44]; decide) (by rw [c1_44]; decide) (by rw [c1_44]; decide) (by rw [c1_44]; decide) (by rw [c1_44]; decide) (by rw [c1_44]; decide) (by rw [c1_44]; decide)
                  refine pv_iconst (v := 0) (by decide) dX12_signOf_144 ?_
                  exact pv_ireturn dX12_signOf_145 rfl rfl F
                · skip
                  by_cases c1_45 : x = 45
                  · refine pv_tableIn (tgt := 132) dX12_signOf_1 (by rw [c1_45]; decide) (by rw [c1_45]; decide) (by rw [c1_45]; rfl) (by decide) ?_
                    have F := F.2.2.2.1 c1_45
                    refine pv_bipush (v := 51) (by decide) dX12_signOf_132 ?_
                    exact pv_ireturn dX12_signOf_134 rfl rfl F
                  · skip
                    by_cases c1_46 : x = 46
                    · refine pv_tableIn (tgt := 144) dX12_signOf_1 (by rw [c1_46]; decide) (by rw [c1_46]; decide) (by rw [c1_46]; rfl) (by decide) ?_
                      have F := F.2.2.2.2.2.2.2.2 (by rw [c1_46]; decide) (by rw [c1_46]; decide) (by rw [c1_46]; decide) (by rw [c1_46]; decide) (by rw [c1_46]; decide) (by rw [c1_46]; decide) (by rw [c1_46]; decide) (by rw [c1_46]; decide)
                      refine pv_iconst (v := 0) (by decide) dX12_signOf_144 ?_
                      exact pv_ireturn dX12_signOf_145 rfl rfl F
                    · skip
                      by_cases c1_47 : x = 47
                      · refine pv_tableIn (tgt := 138) dX12_signOf_1 (by rw [c1_47]; decide) (by rw [c1_47]; decide) (by rw [c1_47]; rfl) (by decide) ?_
                        have F := F.2.2.2.2.1 c1_47
                        refine pv_bipush (v := 61) (by decide) dX12_signOf_138 ?_
                        exact pv_ireturn dX12_signOf_140 rfl rfl F
                      · skip
                        by_cases c1_48 : x = 48
                        · refine pv_tableIn (tgt := 144) dX12_signOf_1 (by rw [c1_48]; decide) (by rw [c1_48]; decide) (by rw [c1_48]; rfl) (by decide) ?_
                          have F := F.2.2.2.2.2.2.2.2 (by rw [c1_48]; decide) (by rw [c1_48]; decide) (by rw [c1_48]; decide) (by rw [c1_48]; decide) (by rw [c1_48]; decide) (by rw [c1_48]; decide) (by rw [c1_48]; decide) (by rw [c1_48]; decide)
                          refine pv_iconst (v := 0) (by decide) dX12_signOf_144 ?_
                          exact pv_ireturn dX12_signOf_145 rfl rfl F
                        · skip
                          by_cases c1_49 : x = 49
                          · refine pv_tableIn (tgt := 144) dX12_signOf_1 (by rw [c1_49]; decide) (by rw [c1_49]; decide) (by rw [c1_49]; rfl) (by decide) ?_
                            have F := F.2.2.2.2.2.2.2.2 (by rw [c1_49]; decide) (by rw [c1_49]; decide) (by rw [c1_49]; decide) (by rw [c1_49]; decide) (by rw [c1_49]; decide) (by rw [c1_49]; decide) (by rw [c1_49]; decide) (by rw [c1_49]; decide)
                            refine pv_iconst (v := 0) (by decide) dX12_signOf_144 ?_
                            exact pv_ireturn dX12_signOf_145 rfl rfl F
                          · skip
                            by_cases c1_50 : x = 50
                            · refine pv_tableIn (tgt := 144) dX12_signOf_1 (by rw [c1_50]; decide) (by rw [c1_50]; decide) (by rw [c1_50]; rfl) (by decide) ?_
                              have F := F.2.2.2.2.2.2.2.2 (by rw [c1_50]; decide) (by rw [c1_50]; decide) (by rw [c1_50]; decide) (by rw [c1_50]; decide) (by rw [c1_50]; decide) (by rw [c1_50]; decide) (by rw [c1_50]; decide) (by rw [c1_50]; decide)
                              refine pv_iconst (v := 0) (by decide) dX12_signOf_144 ?_
                              exact pv_ireturn dX12_signOf_145 rfl rfl F
                            · skip
                              by_cases c1_51 : x = 51
                              · refine pv_tableIn (tgt := 144) dX12_signOf_1 (by rw [c1_51]; decide) (by rw [c1_51]; decide) (by rw [c1_51]; rfl) (by decide) ?_
                                have F := F.2.2.2.2.2.2.2.2 (by rw [c1_51]; decide) (by rw [c1_51]; decide) (by rw [c1_51]; decide) (by rw [c1_51]; decide) (by rw [c1_51]; decide) (by rw [c1_51]; decide) (by rw [c1_51]; decide) (by rw [c1_51]; decide)
                                refine pv_iconst (v := 0) (by decide) dX12_signOf_144 ?_
                                exact pv_ireturn dX12_signOf_145 rfl rfl F
                              · skip
                                by_cases c1_52 : x = 52
                                · refine pv_tableIn (tgt := 144) dX12_signOf_1 (by rw [c1_52]; decide) (by rw [c1_52]; decide) (by rw [c1_52]; rfl) (by decide) ?_
                                  have F := F.2.2.2.2.2.2.2.2 (by rw [c1_52]; decide) (by rw [c1_52]; decide) (by rw [c1_52]; decide) (by rw [c1_52]; decide) (by rw [c1_52]; decide) (by rw [c1_52]; decide) (by rw [c1_52]; decide) (by rw [c1_52]; decide)
                                  refine pv_iconst (v := 0) (by decide) dX12_signOf_144 ?_
                                  exact pv_ireturn dX12_signOf_145 rfl rfl F
                                · skip
                                  by_cases c1_53 : x = 53
                                  · refine pv_tableIn (tgt := 144) dX12_signOf_1 (by rw [c1_53]; decide) (by rw [c1_53]; decide) (by rw [c1_53]; rfl) (by decide) ?_
                                    have F := F.2.2.2.2.2.2.2.2 (by rw [c1_53]; decide) (by rw [c1_53]; decide) (by rw [c1_53]; decide) (by rw [c1_53]; decide) (by rw [c1_53]; decide) (by rw [c1_53]; decide) (by rw [c1_53]; decide) (by rw [c1_53]; decide)
                                    refine pv_iconst (v := 0) (by decide) dX12_signOf_144 ?_
                                    exact pv_ireturn dX12_signOf_145 rfl rfl F
                                  · skip
                                    by_cases c1_54 : x = 54
                                    · refine pv_tableIn (tgt := 144) dX12_signOf_1 (by rw [c1_54]; decide) (by rw [c1_54]; decide) (by rw [c1_54]; rfl) (by decide) ?_
                                      have F := F.2.2.2.2.2.2.2.2 (by rw [c1_54]; decide) (by rw [c1_54]; decide) (by rw [c1_54]; decide) (by rw [c1_54]; decide) (by rw [c1_54]; decide) (by rw [c1_54]; decide) (by rw [c1_54]; decide) (by rw [c1_54]; decide)
                                      refine pv_iconst (v := 0) (by decide) dX12_signOf_144 ?_
                                      exact pv_ireturn dX12_signOf_145 rfl rfl F
                                    · skip
                                      by_cases c1_55 : x = 55
                                      · refine pv_tableIn (tgt := 144) dX12_signOf_1 (by rw [c1_55]; decide) (by rw [c1_55]; decide) (by rw [c1_55]; rfl) (by decide) ?_
                                        have F := F.2.2.2.2.2.2.2.2 (by rw [c1_55]; decide) (by rw [c1_55]; decide) (by rw [c1_55]; decide) (by rw [c1_55]; decide) (by rw [c1_55]; decide) (by rw [c1_55]; decide) (by rw [c1_55]; decide) (by rw [c1_55]; decide)
                                        refine pv_iconst (v := 0) (by decide) dX12_signOf_144 ?_
                                        exact pv_ireturn dX12_signOf_145 rfl rfl F
                                      · skip
                                        by_cases c1_56 : x = 56
                                        · refine pv_tableIn (tgt := 144) dX12_signOf_1 (by rw [c1_56]; decide) (by rw [c1_56]; decide) (by rw [c1_56]; rfl) (by decide) ?_
                                          have F := F.2.2.2.2.2.2.2.2 (by rw [c1_56]; decide) (by rw [c1_56]; decide) (by rw [c1_56]; decide) (by rw [c1_56]; decide) (by rw [c1_56]; decide) (by rw [c1_56]; decide) (by rw [c1_56]; decide) (by rw [c1_56]; decide)
                                          refine pv_iconst (v := 0) (by decide) dX12_signOf_144 ?_
                                          exact pv_ireturn dX12_signOf_145 rfl rfl F
                                        · skip
                                          by_cases c1_57 : x = 57
                                          · refine pv_tableIn (tgt := 144) dX12_signOf_1 (by rw [c1_57]; decide) (by rw [c1_57]; decide) (by rw [c1_57]; rfl) (by decide) ?_
                                            have F := F.2.2.2.2.2.2.2.2 (by rw [c1_57]; decide) (by rw [c1_57]; decide) (by rw [c1_57]; decide) (by rw [c1_57]; decide) (by rw [c1_57]; decide) (by rw [c1_57]; decide) (by rw [c1_57]; decide) (by rw [c1_57]; decide)
                                            refine pv_iconst (v := 0) (by decide) dX12_signOf_144 ?_
                                            exact pv_ireturn dX12_signOf_145 rfl rfl F
                                          · skip
                                            by_cases c1_58 : x = 58
                                            · refine pv_tableIn (tgt := 144) dX12_signOf_1 (by rw [c1_58]; decide) (by rw [c1_58]; decide) (by rw [c1_58]; rfl) (by decide) ?_
                                              have F := F.2.2.2.2.2.2.2.2 (by rw [c1_58]; decide) (by rw [c1_58]; decide) (by rw [c1_58]; decide) (by rw [c1_58]; decide) (by rw [c1_58]; decide) (by rw [c1_58]; decide) (by rw [c1_58]; decide) (by rw [c1_58]; decide)
                                              refine pv_iconst (v := 0) (by decide) dX12_signOf_144 ?_
                                              exact pv_ireturn dX12_signOf_145 rfl rfl F
                                            · skip
                                              by_cases c1_59 : x = 59
                                              · refine pv_tableIn (tgt := 144) dX12_signOf_1 (by rw [c1_59]; decide) (by rw [c1_59]; decide) (by rw [c1_59]; rfl) (by decide) ?_
                                                have F := F.2.2.2.2.2.2.2.2 (by rw [c1_59]; decide) (by rw [c1_59]; decide) (by rw [c1_59]; decide) (by rw [c1_59]; decide) (by rw [c1_59]; decide) (by rw [c1_59]; decide) (by rw [c1_59]; decide) (by rw [c1_59]; decide)
                                                refine pv_iconst (v := 0) (by decide) dX12_signOf_144 ?_
                                                exact pv_ireturn dX12_signOf_145 rfl rfl F
                                              · skip
                                                by_cases c1_60 : x = 60
                                                · refine pv_tableIn (tgt := 120) dX12_signOf_1 (by rw [c1_60]; decide) (by rw [c1_60]; decide) (by rw [c1_60]; rfl) (by decide) ?_
                                                  have F := F.2.2.2.2.2.1 c1_60
                                                  refine pv_bipush (v := 40) (by decide) dX12_signOf_120 ?_
                                                  exact pv_ireturn dX12_signOf_122 rfl rfl F
                                                · skip
                                                  by_cases c1_61 : x = 61
                                                  · refine pv_tableIn (tgt := 123) dX12_signOf_1 (by rw [c1_61]; decide) (by rw [c1_61]; decide) (by rw [c1_61]; rfl) (by decide) ?_
                                                    have F := F.2.2.2.2.2.2.1 c1_61
                                                    refine pv_bipush (v := 41) (by decide) dX12_signOf_123 ?_
                                                    exact pv_ireturn dX12_signOf_125 rfl rfl F
                                                  · skip
                                                    by_cases c1_62 : x = 62
                                                    · refine pv_tableIn (tgt := 126) dX12_signOf_1 (by rw [c1_62]; decide) (by rw [c1_62]; decide) (by rw [c1_62]; rfl) (by decide) ?_
                                                      have F := F.2.2.2.2.2.2.2.1 c1_62
                                                      refine pv_bipush (v := 42) (by decide) dX12_signOf_126 ?_
                                                      exact pv_ireturn dX12_signOf_128 rfl rfl F
                                                    · skip
                                                      refine pv_tableOut (tgt := 144) dX12_signOf_1 (by have z0 := pv_ne c1_37 (n := 37) (by decide); have z1 := pv_ne c1_38 (n := 38) (by decide); have z2 := pv_ne c1_39 (n := 39) (by decide); have z3 := pv_ne c1_40 (n := 40) (by decide); have z4 := pv_ne c1_41 (n := 41) (by decide); have z5 := pv_ne c1_42 (n := 42) (by decide); have z6 := pv_ne c1_43 (n := 43) (by decide); have z7 := pv_ne c1_44 (n := 44) (by decide); have z8 := pv_ne c1_45 (n := 45) (by decide); have z9 := pv_ne c1_46 (n := 46) (by decide); have z10 := pv_ne c1_47 (n := 47) (by decide); have z11 := pv_ne c1_48 (n := 48) (by decide); have z12 := pv_ne c1_49 (n := 49) (by decide); have z13 := pv_ne c1_50 (n := 50) (by decide); have z14 := pv_ne c1_51 (n := 51) (by decide); have z15 := pv_ne c1_52 (n := 52) (by decide); have z16 := pv_ne c1_53 (n := 53) (by decide); have z17 := pv_ne c1_54 (n := 54) (by decide); have z18 := pv_ne c1_55 (n := 55) (by decide); have z19 := pv_ne c1_56 (n := 56) (by decide); have z20 := pv_ne c1_57 (n := 57) (by decide); have z21 := pv_ne c1_58 (n := 58) (by decide); have z22 := pv_ne c1_59 (n := 59) (by decide); have z23 := pv_ne c1_60 (n := 60) (by decide); have z24 := pv_ne c1_61 (n := 61) (by decide); have z25 := pv_ne c1_62 (n := 62) (by decide); omega) (by decide) ?_
                                                      have F := F.2.2.2.2.2.2.2.2 c1_37 c1_42 c1_43 c1_45 c1_47 c1_60 c1_61 c1_62
                                                      refine pv_iconst (v := 0) (by decide) dX12_signOf_144 ?_
                                                      exact pv_ireturn dX12_signOf_145 rfl rfl F
set_option maxRecDepth 20000 in
set_option maxHeartbeats 4000000 in
theorem sg_X12_tight_0 {Γ : pv_C} {d kc ks : Nat} {ty : pv_T} {h : pv_H} {r : pv_R} {g : pv_G} {Q : pv_Q} (x : Int32) (F : Q (some (.int (x / 10))) ty h r g) : pv_E Γ d kc ks mX12_tight 0 [some (.int x)] [] ty h r g Q := by
  refine pv_iload_n dX12_tight_0 rfl ?_
  refine pv_bipush (v := 10) (by decide) dX12_tight_1 ?_
  refine pv_idiv (by decide) dX12_tight_3 ?_
  exact pv_ireturn dX12_tight_4 rfl rfl F
set_option maxRecDepth 20000 in
set_option maxHeartbeats 4000000 in
theorem sg_X12_both_0 {Γ : pv_C} {d kc ks : Nat} {ty : pv_T} {h : pv_H} {r : pv_R} {g : pv_G} {Q : pv_Q} (x : Int32) (y : Int32) (z : Int32) (F : ((x = 40 → ((z ≤ y → Q (some (.int 0)) ty h r g) ∧ (¬ z ≤ y → Q (some (.int 1)) ty h r g))) ∧ (x = 41 → ((¬ y = z → Q (some (.int 0)) ty h r g) ∧ (y = z → Q (some (.int 1)) ty h r g))) ∧ (x = 42 → ((y ≤ z → Q (some (.int 0)) ty h r g) ∧ (¬ y ≤ z → Q (some (.int 1)) ty h r g))) ∧ (x = 50 → Q (some (.int (y + z))) ty h r g) ∧ (x = 51 → Q (some (.int (y - z))) ty h r g) ∧ (x = 60 → Q (some (.int (y * z))) ty h r g) ∧ (x = 61 → ((¬ z = 0 → ((¬ z = (-1) → ¬ z = 0 ∧ Q (some (.int (y / z))) ty h r g) ∧ (z = (-1) → Q (some (.int (-y))) ty h r g))) ∧ (z = 0 → Q (some (.int 0)) ty h r g))) ∧ (¬ x = 40 → ¬ x = 41 → ¬ x = 42 → ¬ x = 50 → ¬ x = 51 → ¬ x = 60 → ¬ x = 61 → ((z = 0 → Q (some (.int 0)) ty h r g) ∧ (¬ z = 0 → ((¬ z = (-1) → ¬ z = 0 ∧ Q (some (.int (y - y / z * z))) ty h r g) ∧ (z = (-1) → Q (some (.int 0)) ty h r g))))))) : pv_E Γ d kc ks mX12_both 0 [some (.int x), some (.int y), some (.int z)] [] ty h r g Q := by
  refine pv_iload_n dX12_both_0 rfl ?_
  by_cases c1_40 : x = 40
  · refine pv_tableIn (tgt := 104) dX12_both_1 (by rw [c1_40]; decide) (by rw [c1_40]; decide) (by rw [c1_40]; rfl) (by decide) ?_
    have F := F.1 c1_40
    refine pv_iload_n dX12_both_104 rfl ?_
    refine pv_iload_n dX12_both_105 rfl ?_
    refine pv_icmp_ge (tgt := 113) dX12_both_106 (by decide) (fun c2 => ?_) (fun c2 => ?_)
    · have F := F.1 c2
      refine pv_iconst (v := 0) (by decide) dX12_both_113 ?_
      exact pv_ireturn dX12_both_114 rfl rfl F
    · have F := F.2 c2
      refine pv_iconst (v := 1) (by decide) dX12_both_109 ?_
      refine pv_goto (tgt := 114) dX12_both_110 (by decide) ?_
      exact pv_ireturn dX12_both_114 rfl rfl F
  · skip
    by_cases c1_41 : x = 41
    · refine pv_tableIn (tgt := 115) dX12_both_1 (by rw [c1_41]; decide) (by rw [c1_41]; decide) (by rw [c1_41]; rfl) (by decide) ?_
      have F := F.2.1 c1_41
      refine pv_iload_n dX12_both_115 rfl ?_
      refine pv_iload_n dX12_both_116 rfl ?_
      refine pv_icmp_ne (tgt := 124) dX12_both_117 (by decide) (fun c3 => ?_) (fun c3 => ?_)
      · have F := F.1 c3
        refine pv_iconst (v := 0) (by decide) dX12_both_124 ?_
        exact pv_ireturn dX12_both_125 rfl rfl F
      · have F := F.2 c3
        refine pv_iconst (v := 1) (by decide) dX12_both_120 ?_
        refine pv_goto (tgt := 125) dX12_both_121 (by decide) ?_
        exact pv_ireturn dX12_both_125 rfl rfl F
    · skip
      by_cases c1_42 : x = 42
      · refine pv_tableIn (tgt := 126) dX12_both_1 (by rw [c1_42]; decide) (by rw [c1_42]; decide) (by rw [c1_42]; rfl) (by decide) ?_
        have F := F.2.2.1 c1_42
        refine pv_iload_n dX12_both_126 rfl ?_
        refine pv_iload_n dX12_both_127 rfl ?_
        refine pv_icmp_le (tgt := 135) dX12_both_128 (by decide) (fun c4 => ?_) (fun c4 => ?_)
        · have F := F.1 c4
          refine pv_iconst (v := 0) (by decide) dX12_both_135 ?_
          exact pv_ireturn dX12_both_136 rfl rfl F
        · have F := F.2 c4
          refine pv_iconst (v := 1) (by decide) dX12_both_131 ?_
          refine pv_goto (tgt := 136) dX12_both_132 (by decide) ?_
          exact pv_ireturn dX12_both_136 rfl rfl F
      · skip
        by_cases c1_43 : x = 43
        · refine pv_tableIn (tgt := 171) dX12_both_1 (by rw [c1_43]; decide) (by rw [c1_43]; decide) (by rw [c1_43]; rfl) (by decide) ?_
          have F := F.2.2.2.2.2.2.2 (by rw [c1_43]; decide) (by rw [c1_43]; decide) (by rw [c1_43]; decide) (by rw [c1_43]; decide) (by rw [c1_43]; decide) (by rw [c1_43]; decide) (by rw [c1_43]; decide)
          refine pv_iload_n dX12_both_171 rfl ?_
          refine pv_if_eq (tgt := 180) dX12_both_172 (by decide) (fun c5 => ?_) (fun c5 => ?_)
          · have F := F.1 c5
            refine pv_iconst (v := 0) (by decide) dX12_both_180 ?_
            refine pv_goto (tgt := 187) dX12_both_181 (by decide) ?_
            exact pv_ireturn dX12_both_187 rfl rfl F
          · have F := F.2 c5
            refine pv_iload_n dX12_both_175 rfl ?_
            refine pv_iconst (v := (-1)) (by decide) dX12_both_176 ?_
            refine pv_icmp_ne (tgt := 184) dX12_both_177 (by decide) (fun c6 => ?_) (fun c6 => ?_)
            · have F := F.1 c6
              refine pv_iload_n dX12_both_184 rfl ?_
              refine pv_iload_n dX12_both_185 rfl ?_
              obtain ⟨q1, F⟩ := F
              refine pv_irem q1 dX12_both_186 ?_
              exact pv_ireturn dX12_both_187 rfl rfl F
            · have F := F.2 c6
              refine pv_iconst (v := 0) (by decide) dX12_both_180 ?_
              refine pv_goto (tgt := 187) dX12_both_181 (by decide) ?_
              exact pv_ireturn dX12_both_187 rfl rfl F
        · skip
          by_cases c1_44 : x = 44
          · refine pv_tableIn (tgt := 171) dX12_both_1 (by rw [c1_44]; decide) (by rw [c1_44]; decide) (by rw [c1_44]; rfl) (by decide) ?_
            have F := F.2.2.2.2.2.2.2 (by rw [c1_44]; decide) (by rw [c1_44]; decide) (by rw [c1_44]; decide) (by rw [c1_44]; decide) (by rw [c1_44]; decide) (by rw [c1_44]; decide) (by rw [c1_44]; decide)
            refine pv_iload_n dX12_both_171 rfl ?_
            refine pv_if_eq (tgt := 180) dX12_both_172 (by decide) (fun c7 => ?_) (fun c7 => ?_)
            · have F := F.1 c7
              refine pv_iconst (v := 0) (by decide) dX12_both_180 ?_
              refine pv_goto (tgt := 187) dX12_both_181 (by decide) ?_
              exact pv_ireturn dX12_both_187 rfl rfl F
            · have F := F.2 c7
              refine pv_iload_n dX12_both_175 rfl ?_
              refine pv_iconst (v := (-1)) (by decide) dX12_both_176 ?_
              refine pv_icmp_ne (tgt := 184) dX12_both_177 (by decide) (fun c8 => ?_) (fun c8 => ?_)
              · have F := F.1 c8
                refine pv_iload_n dX12_both_184 rfl ?_
                refine pv_iload_n dX12_both_185 rfl ?_
                obtain ⟨q2, F⟩ := F
                refine pv_irem q2 dX12_both_186 ?_
                exact pv_ireturn dX12_both_187 rfl rfl F
              · have F := F.2 c8
                refine pv_iconst (v := 0) (by decide) dX12_both_180 ?_
                refine pv_goto (tgt := 187) dX12_both_181 (by decide) ?_
                exact pv_ireturn dX12_both_187 rfl rfl F
          · skip
            by_cases c1_45 : x = 45
            · refine pv_tableIn (tgt := 171) dX12_both_1 (by rw [c1_45]; decide) (by rw [c1_45]; decide) (by rw [c1_45]; rfl) (by decide) ?_
              have F := F.2.2.2.2.2.2.2 (by rw [c1_45]; decide) (by rw [c1_45]; decide) (by rw [c1_45]; decide) (by rw [c1_45]; decide) (by rw [c1_45]; decide) (by rw [c1_45]; decide) (by rw [c1_45]; decide)
              refine pv_iload_n dX12_both_171 rfl ?_
              refine pv_if_eq (tgt := 180) dX12_both_172 (by decide) (fun c9 => ?_) (fun c9 => ?_)
              · have F := F.1 c9
                refine pv_iconst (v := 0) (by decide) dX12_both_180 ?_
                refine pv_goto (tgt := 187) dX12_both_181 (by decide) ?_
                exact pv_ireturn dX12_both_187 rfl rfl F
              · have F := F.2 c9
                refine pv_iload_n dX12_both_175 rfl ?_
                refine pv_iconst (v := (-1)) (by decide) dX12_both_176 ?_
                refine pv_icmp_ne (tgt := 184) dX12_both_177 (by decide) (fun c10 => ?_) (fun c10 => ?_)
                · have F := F.1 c10
                  refine pv_iload_n dX12_both_184 rfl ?_
                  refine pv_iload_n dX12_both_185 rfl ?_
                  obtain ⟨q3, F⟩ := F
                  refine pv_irem q3 dX12_both_186 ?_
                  exact pv_ireturn dX12_both_187 rfl rfl F
                · have F := F.2 c10
                  refine pv_iconst (v := 0) (by decide) dX12_both_180 ?_
                  refine pv_goto (tgt := 187) dX12_both_181 (by decide) ?_
                  exact pv_ireturn dX12_both_187 rfl rfl F
            · skip
              by_cases c1_46 : x = 46
              · refine pv_tableIn (tgt := 171) dX12_both_1 (by rw [c1_46]; decide) (by rw [c1_46]; decide) (by rw [c1_46]; rfl) (by decide) ?_
                have F := F.2.2.2.2.2.2.2 (by rw [c1_46]; decide) (by rw [c1_46]; decide) (by rw [c1_46]; decide) (by rw [c1_46]; decide) (by rw [c1_46]; decide) (by rw [c1_46]; decide) (by rw [c1_46]; decide)
                refine pv_iload_n dX12_both_171 rfl ?_
                refine pv_if_eq (tgt := 180) dX12_both_172 (by decide) (fun c11 => ?_) (fun c11 => ?_)
                · have F := F.1 c11
                  refine pv_iconst (v := 0) (by decide) dX12_both_180 ?_
                  refine pv_goto (tgt := 187) dX12_both_181 (by decide) ?_
                  exact pv_ireturn dX12_both_187 rfl rfl F
                · have F := F.2 c11
                  refine pv_iload_n dX12_both_175 rfl ?_
                  refine pv_iconst (v := (-1)) (by decide) dX12_both_176 ?_
                  refine pv_icmp_ne (tgt := 184) dX12_both_177 (by decide) (fun c12 => ?_) (fun c12 => ?_)
                  · have F := F.1 c12
                    refine pv_iload_n dX12_both_184 rfl ?_
                    refine pv_iload_n dX12_both_185 rfl ?_
                    obtain ⟨q4, F⟩ := F
                    refine pv_irem q4 dX12_both_186 ?_
                    exact pv_ireturn dX12_both_187 rfl rfl F
                  · have F := F.2 c12
                    refine pv_iconst (v := 0) (by decide) dX12_both_180 ?_
                    refine pv_goto (tgt := 187) dX12_both_181 (by decide) ?_
                    exact pv_ireturn dX12_both_187 rfl rfl F
              · skip
                by_cases c1_47 : x = 47
                · refine pv_tableIn (tgt := 171) dX12_both_1 (by rw [c1_47]; decide) (by rw [c1_47]; decide) (by rw [c1_47]; rfl) (by decide) ?_
                  have F := F.2.2.2.2.2.2.2 (by rw [c1_47]; decide) (by rw [c1_47]; decide) (by rw [c1_47]; decide) (by rw [c1_47]; decide) (by rw [c1_47]; decide) (by rw [c1_47]; decide) (by rw [c1_47]; decide)
                  refine pv_iload_n dX12_both_171 rfl ?_
                  refine pv_if_eq (tgt := 180) dX12_both_172 (by decide) (fun c13 => ?_) (fun c13 => ?_)
                  · have F := F.1 c13
                    refine pv_iconst (v := 0) (by decide) dX12_both_180 ?_
                    refine pv_goto (tgt := 187) dX12_both_181 (by decide) ?_
                    exact pv_ireturn dX12_both_187 rfl rfl F
                  · have F := F.2 c13
                    refine pv_iload_n dX12_both_175 rfl ?_
                    refine pv_iconst (v := (-1)) (by decide) dX12_both_176 ?_
                    refine pv_icmp_ne (tgt := 184) dX12_both_177 (by decide) (fun c14 => ?_) (fun c14 => ?_)
                    · have F := F.1 c14
                      refine pv_iload_n dX12_both_184 rfl ?_
                      refine pv_iload_n dX12_both_185 rfl ?_
                      obtain ⟨q5, F⟩ := F
                      refine pv_irem q5 dX12_both_186 ?_
                      exact pv_ireturn dX12_both_187 rfl rfl F
                    · have F := F.2 c14
                      refine pv_iconst (v := 0) (by decide) dX12_both_180 ?_
                      refine pv_goto (tgt := 187) dX12_both_181 (by decide) ?_
                      exact pv_ireturn dX12_both_187 rfl rfl F
                · skip
                  by_cases c1_48 : x = 48
                  · refine pv_tableIn (tgt := 171) dX12_both_1 (by rw [c1_48]; decide) (by rw [c1_48]; decide) (by rw [c1_48]; rfl) (by decide) ?_
                    have F := F.2.2.2.2.2.2.2 (by rw [c1_48]; decide) (by rw [c1_48]; decide) (by rw [c1_48]; decide) (by rw [c1_48]; decide) (by rw [c1_48]; decide) (by rw [c1_48]; decide) (by rw [c1_48]; decide)
                    refine pv_iload_n dX12_both_171 rfl ?_
                    refine pv_if_eq (tgt := 180) dX12_both_172 (by decide) (fun c15 => ?_) (fun c15 => ?_)
                    · have F := F.1 c15
                      refine pv_iconst (v := 0) (by decide) dX12_both_180 ?_
                      refine pv_goto (tgt := 187) dX12_both_181 (by decide) ?_
                      exact pv_ireturn dX12_both_187 rfl rfl F
                    · have F := F.2 c15
                      refine pv_iload_n dX12_both_175 rfl ?_
                      refine pv_iconst (v := (-1)) (by decide) dX12_both_176 ?_
                      refine pv_icmp_ne (tgt := 184) dX12_both_177 (by decide) (fun c16 => ?_) (fun c16 => ?_)
                      · have F := F.1 c16
                        refine pv_iload_n dX12_both_184 rfl ?_
                        refine pv_iload_n dX12_both_185 rfl ?_
                        obtain ⟨q6, F⟩ := F
                        refine pv_irem q6 dX12_both_186 ?_
                        exact pv_ireturn dX12_both_187 rfl rfl F
                      · have F := F.2 c16
                        refine pv_iconst (v := 0) (by decide) dX12_both_180 ?_
                        refine pv_goto (tgt := 187) dX12_both_181 (by decide) ?_
                        exact pv_ireturn dX12_both_187 rfl rfl F
                  · skip
                    by_cases c1_49 : x = 49
                    · refine pv_tableIn (tgt := 171) dX12_both_1 (by rw [c1_49]; decide) (by rw [c1_49]; decide) (by rw [c1_49]; rfl) (by decide) ?_
                      have F := F.2.2.2.2.2.2.2 (by rw [c1_49]; decide) (by rw [c1_49]; decide) (by rw [c1_49]; decide) (by rw [c1_49]; decide) (by rw [c1_49]; decide) (by rw [c1_49]; decide) (by rw [c1_49]; decide)
                      refine pv_iload_n dX12_both_171 rfl ?_
                      refine pv_if_eq (tgt := 180) dX12_both_172 (by decide) (fun c17 => ?_) (fun c17 => ?_)
                      · have F := F.1 c17
                        refine pv_iconst (v := 0) (by decide) dX12_both_180 ?_
                        refine pv_goto (tgt := 187) dX12_both_181 (by decide) ?_
                        exact pv_ireturn dX12_both_187 rfl rfl F
                      · have F := F.2 c17
                        refine pv_iload_n dX12_both_175 rfl ?_
                        refine pv_iconst (v := (-1)) (by decide) dX12_both_176 ?_
                        refine pv_icmp_ne (tgt := 184) dX12_both_177 (by decide) (fun c18 => ?_) (fun c18 => ?_)
                        · have F := F.1 c18
                          refine pv_iload_n dX12_both_184 rfl ?_
                          refine pv_iload_n dX12_both_185 rfl ?_
                          obtain ⟨q7, F⟩ := F
                          refine pv_irem q7 dX12_both_186 ?_
                          exact pv_ireturn dX12_both_187 rfl rfl F
                        · have F := F.2 c18
                          refine pv_iconst (v := 0) (by decide) dX12_both_180 ?_
                          refine pv_goto (tgt := 187) dX12_both_181 (by decide) ?_
                          exact pv_ireturn dX12_both_187 rfl rfl F
                    · skip
                      by_cases c1_50 : x = 50
                      · refine pv_tableIn (tgt := 137) dX12_both_1 (by rw [c1_50]; decide) (by rw [c1_50]; decide) (by rw [c1_50]; rfl) (by decide) ?_
                        have F := F.2.2.2.1 c1_50
                        refine pv_iload_n dX12_both_137 rfl ?_
                        refine pv_iload_n dX12_both_138 rfl ?_
                        refine pv_iadd dX12_both_139 ?_
                        exact pv_ireturn dX12_both_140 rfl rfl F
                      · skip
                        by_cases c1_51 : x = 51
                        · refine pv_tableIn (tgt := 141) dX12_both_1 (by rw [c1_51]; decide) (by rw [c1_51]; decide) (by rw [c1_51]; rfl) (by decide) ?_
                          have F := F.2.2.2.2.1 c1_51
                          refine pv_iload_n dX12_both_141 rfl ?_
                          refine pv_iload_n dX12_both_142 rfl ?_
                          refine pv_isub dX12_both_143 ?_
                          exact pv_ireturn dX12_both_144 rfl rfl F
                        · skip
                          by_cases c1_52 : x = 52
                          · refine pv_tableIn (tgt := 171) dX12_both_1 (by rw [c1_52]; decide) (by rw [c1_52]; decide) (by rw [c1_52]; rfl) (by decide) ?_
                            have F := F.2.2.2.2.2.2.2 (by rw [c1_52]; decide) (by rw [c1_52]; decide) (by rw [c1_52]; decide) (by rw [c1_52]; decide) (by rw [c1_52]; decide) (by rw [c1_52]; decide) (by rw [c1_52]; decide)
                            refine pv_iload_n dX12_both_171 rfl ?_
                            refine pv_if_eq (tgt := 180) dX12_both_172 (by decide) (fun c19 => ?_) (fun c19 => ?_)
                            · have F := F.1 c19
                              refine pv_iconst (v := 0) (by decide) dX12_both_180 ?_
                              refine pv_goto (tgt := 187) dX12_both_181 (by decide) ?_
                              exact pv_ireturn dX12_both_187 rfl rfl F
                            · have F := F.2 c19
                              refine pv_iload_n dX12_both_175 rfl ?_
                              refine pv_iconst (v := (-1)) (by decide) dX12_both_176 ?_
                              refine pv_icmp_ne (tgt := 184) dX12_both_177 (by decide) (fun c20 => ?_) (fun c20 => ?_)
                              · have F := F.1 c20
                                refine pv_iload_n dX12_both_184 rfl ?_
                                refine pv_iload_n dX12_both_185 rfl ?_
                                obtain ⟨q8, F⟩ := F
                                refine pv_irem q8 dX12_both_186 ?_
                                exact pv_ireturn dX12_both_187 rfl rfl F
                              · have F := F.2 c20
                                refine pv_iconst (v := 0) (by decide) dX12_both_180 ?_
                                refine pv_goto (tgt := 187) dX12_both_181 (by decide) ?_
                                exact pv_ireturn dX12_both_187 rfl rfl F
                          · skip
                            by_cases c1_53 : x = 53
                            · refine pv_tableIn (tgt := 171) dX12_both_1 (by rw [c1_53]; decide) (by rw [c1_53]; decide) (by rw [c1_53]; rfl) (by decide) ?_
                              have F := F.2.2.2.2.2.2.2 (by rw [c1_53]; decide) (by rw [c1_53]; decide) (by rw [c1_53]; decide) (by rw [c1_53]; decide) (by rw [c1_53]; decide) (by rw [c1_53]; decide) (by rw [c1_53]; decide)
                              refine pv_iload_n dX12_both_171 rfl ?_
                              refine pv_if_eq (tgt := 180) dX12_both_172 (by decide) (fun c21 => ?_) (fun c21 => ?_)
                              · have F := F.1 c21
                                refine pv_iconst (v := 0) (by decide) dX12_both_180 ?_
                                refine pv_goto (tgt := 187) dX12_both_181 (by decide) ?_
                                exact pv_ireturn dX12_both_187 rfl rfl F
                              · have F := F.2 c21
                                refine pv_iload_n dX12_both_175 rfl ?_
                                refine pv_iconst (v := (-1)) (by decide) dX12_both_176 ?_
                                refine pv_icmp_ne (tgt := 184) dX12_both_177 (by decide) (fun c22 => ?_) (fun c22 => ?_)
                                · have F := F.1 c22
                                  refine pv_iload_n dX12_both_184 rfl ?_
                                  refine pv_iload_n dX12_both_185 rfl ?_
                                  obtain ⟨q9, F⟩ := F
                                  refine pv_irem q9 dX12_both_186 ?_
                                  exact pv_ireturn dX12_both_187 rfl rfl F
                                · have F := F.2 c22
                                  refine pv_iconst (v := 0) (by decide) dX12_both_180 ?_
                                  refine pv_goto (tgt := 187) dX12_both_181 (by decide) ?_
                                  exact pv_ireturn dX12_both_187 rfl rfl F
                            · skip
                              by_cases c1_54 : x = 54
                              · refine pv_tableIn (tgt := 171) dX12_both_1 (by rw [c1_54]; decide) (by rw [c1_54]; decide) (by rw [c1_54]; rfl) (by decide) ?_
                                have F := F.2.2.2.2.2.2.2 (by rw [c1_54]; decide) (by rw [c1_54]; decide) (by rw [c1_54]; decide) (by rw [c1_54]; decide) (by rw [c1_54]; decide) (by rw [c1_54]; decide) (by rw [c1_54]; decide)
                                refine pv_iload_n dX12_both_171 rfl ?_
                                refine pv_if_eq (tgt := 180) dX12_both_172 (by decide) (fun c23 => ?_) (fun c23 => ?_)
                                · have F := F.1 c23
                                  refine pv_iconst (v := 0) (by decide) dX12_both_180 ?_
                                  refine pv_goto (tgt := 187) dX12_both_181 (by decide) ?_
                                  exact pv_ireturn dX12_both_187 rfl rfl F
                                · have F := F.2 c23
                                  refine pv_iload_n dX12_both_175 rfl ?_
                                  refine pv_iconst (v := (-1)) (by decide) dX12_both_176 ?_
                                  refine pv_icmp_ne (tgt := 184) dX12_both_177 (by decide) (fun c24 => ?_) (fun c24 => ?_)
                                  · have F := F.1 c24
                                    refine pv_iload_n dX12_both_184 rfl ?_
                                    refine pv_iload_n dX12_both_185 rfl ?_
                                    obtain ⟨q10, F⟩ := F
                                    refine pv_irem q10 dX12_both_186 ?_
                                    exact pv_ireturn dX12_both_187 rfl rfl F
                                  · have F := F.2 c24
                                    refine pv_iconst (v := 0) (by decide) dX12_both_180 ?_
                                    refine pv_goto (tgt := 187) dX12_both_181 (by decide) ?_
                                    exact pv_ireturn dX12_both_187 rfl rfl F
                              · skip
                                by_cases c1_55 : x = 55
                                · refine pv_tableIn (tgt := 171) dX12_both_1 (by rw [c1_55]; decide) (by rw [c1_55]; decide) (by rw [c1_55]; rfl) (by decide) ?_
                                  have F := F.2.2.2.2.2.2.2 (by rw [c1_55]; decide) (by rw [c1_55]; decide) (by rw [c1_55]; decide) (by rw [c1_55]; decide) (by rw [c1_55]; decide) (by rw [c1_55]; decide) (by rw [c1_55]; decide)
                                  refine pv_iload_n dX12_both_171 rfl ?_
                                  refine pv_if_eq (tgt := 180) dX12_both_172 (by decide) (fun c25 => ?_) (fun c25 => ?_)
                                  · have F := F.1 c25
                                    refine pv_iconst (v := 0) (by decide) dX12_both_180 ?_
                                    refine pv_goto (tgt := 187) dX12_both_181 (by decide) ?_
                                    exact pv_ireturn dX12_both_187 rfl rfl F
                                  · have F := F.2 c25
                                    refine pv_iload_n dX12_both_175 rfl ?_
                                    refine pv_iconst (v := (-1)) (by decide) dX12_both_176 ?_
                                    refine pv_icmp_ne (tgt := 184) dX12_both_177 (by decide) (fun c26 => ?_) (fun c26 => ?_)
                                    · have F := F.1 c26
                                      refine pv_iload_n dX12_both_184 rfl ?_
                                      refine pv_iload_n dX12_both_185 rfl ?_
                                      obtain ⟨q11, F⟩ := F
                                      refine pv_irem q11 dX12_both_186 ?_
                                      exact pv_ireturn dX12_both_187 rfl rfl F
                                    · have F := F.2 c26
                                      refine pv_iconst (v := 0) (by decide) dX12_both_180 ?_
                                      refine pv_goto (tgt := 187) dX12_both_181 (by decide) ?_
                                      exact pv_ireturn dX12_both_187 rfl rfl F
                                · skip
                                  by_cases c1_56 : x = 56
                                  · refine pv_tableIn (tgt := 171) dX12_both_1 (by rw [c1_56]; decide) (by rw [c1_56]; decide) (by rw [c1_56]; rfl) (by decide) ?_
                                    have F := F.2.2.2.2.2.2.2 (by rw [c1_56]; decide) (by rw [c1_56]; decide) (by rw [c1_56]; decide) (by rw [c1_56]; decide) (by rw [c1_56]; decide) (by rw [c1_56]; decide) (by rw [c1_56]; decide)
                                    refine pv_iload_n dX12_both_171 rfl ?_
                                    refine pv_if_eq (tgt := 180) dX12_both_172 (by decide) (fun c27 => ?_) (fun c27 => ?_)
                                    · have F := F.1 c27
                                      refine pv_iconst (v := 0) (by decide) dX12_both_180 ?_
                                      refine pv_goto (tgt := 187) dX12_both_181 (by decide) ?_
                                      exact pv_ireturn dX12_both_187 rfl rfl F
                                    · have F := F.2 c27
                                      refine pv_iload_n dX12_both_175 rfl ?_
                                      refine pv_iconst (v := (-1)) (by decide) dX12_both_176 ?_
                                      refine pv_icmp_ne (tgt := 184) dX12_both_177 (by decide) (fun c28 => ?_) (fun c28 => ?_)
                                      · have F := F.1 c28
                                        refine pv_iload_n dX12_both_184 rfl ?_
                                        refine pv_iload_n dX12_both_185 rfl ?_
                                        obtain ⟨q12, F⟩ := F
                                        refine pv_irem q12 dX12_both_186 ?_
                                        exact pv_ireturn dX12_both_187 rfl rfl F
                                      · have F := F.2 c28
                                        refine pv_iconst (v := 0) (by decide) dX12_both_180 ?_
                                        refine pv_goto (tgt := 187) dX12_both_181 (by decide) ?_
                                        exact pv_ireturn dX12_both_187 rfl rfl F
                                  · skip
                                    by_cases c1_57 : x = 57
                                    · refine pv_tableIn (tgt := 171) dX12_both_1 (by rw [c1_57]; decide) (by rw [c1_57]; decide) (by rw [c1_57]; rfl) (by decide) ?_
                                      have F := F.2.2.2.2.2.2.2 (by rw [c1_57]; decide) (by rw [c1_57]; decide) (by rw [c1_57]; decide) (by rw [c1_57]; decide) (by rw [c1_57]; decide) (by rw [c1_57]; decide) (by rw [c1_57]; decide)
                                      refine pv_iload_n dX12_both_171 rfl ?_
                                      refine pv_if_eq (tgt := 180) dX12_both_172 (by decide) (fun c29 => ?_) (fun c29 => ?_)
                                      · have F := F.1 c29
                                        refine pv_iconst (v := 0) (by decide) dX12_both_180 ?_
                                        refine pv_goto (tgt := 187) dX12_both_181 (by decide) ?_
                                        exact pv_ireturn dX12_both_187 rfl rfl F
                                      · have F := F.2 c29
                                        refine pv_iload_n dX12_both_175 rfl ?_
                                        refine pv_iconst (v := (-1)) (by decide) dX12_both_176 ?_
                                        refine pv_icmp_ne (tgt := 184) dX12_both_177 (by decide) (fun c30 => ?_) (fun c30 => ?_)
                                        · have F := F.1 c30
                                          refine pv_iload_n dX12_both_184 rfl ?_
                                          refine pv_iload_n dX12_both_185 rfl ?_
                                          obtain ⟨q13, F⟩ := F
                                          refine pv_irem q13 dX12_both_186 ?_
                                          exact pv_ireturn dX12_both_187 rfl rfl F
                                        · have F := F.2 c30
                                          refine pv_iconst (v := 0) (by decide) dX12_both_180 ?_
                                          refine pv_goto (tgt := 187) dX12_both_181 (by decide) ?_
                                          exact pv_ireturn dX12_both_187 rfl rfl F
                                    · skip
                                      by_cases c1_58 : x = 58
                                      · refine pv_tableIn (tgt := 171) dX12_both_1 (by rw [c1_58]; decide) (by rw [c1_58]; decide) (by rw [c1_58]; rfl) (by decide) ?_
                                        have F := F.2.2.2.2.2.2.2 (by rw [c1_58]; decide) (by rw [c1_58]; decide) (by rw [c1_58]; decide) (by rw [c1_58]; decide) (by rw [c1_58]; decide) (by rw [c1_58]; decide) (by rw [c1_58]; decide)
                                        refine pv_iload_n dX12_both_171 rfl ?_
                                        refine pv_if_eq (tgt := 180) dX12_both_172 (by decide) (fun c31 => ?_) (fun c31 => ?_)
                                        · have F := F.1 c31
                                          refine pv_iconst (v := 0) (by decide) dX12_both_180 ?_
                                          refine pv_goto (tgt := 187) dX12_both_181 (by decide) ?_
                                          exact pv_ireturn dX12_both_187 rfl rfl F
                                        · have F := F.2 c31
                                          refine pv_iload_n dX12_both_175 rfl ?_
                                          refine pv_iconst (v := (-1)) (by decide) dX12_both_176 ?_
                                          refine pv_icmp_ne (tgt := 184) dX12_both_177 (by decide) (fun c32 => ?_) (fun c32 => ?_)
                                          · have F := F.1 c32
                                            refine pv_iload_n dX12_both_184 rfl ?_
                                            refine pv_iload_n dX12_both_185 rfl ?_
                                            obtain ⟨q14, F⟩ := F
                                            refine pv_irem q14 dX12_both_186 ?_
                                            exact pv_ireturn dX12_both_187 rfl rfl F
                                          · have F := F.2 c32
                                            refine pv_iconst (v := 0) (by decide) dX12_both_180 ?_
                                            refine pv_goto (tgt := 187) dX12_both_181 (by decide) ?_
                                            exact pv_ireturn dX12_both_187 rfl rfl F
                                      · skip
                                        by_cases c1_59 : x = 59
                                        · refine pv_tableIn (tgt := 171) dX12_both_1 (by rw [c1_59]; decide) (by rw [c1_59]; decide) (by rw [c1_59]; rfl) (by decide) ?_
                                          have F := F.2.2.2.2.2.2.2 (by rw [c1_59]; decide) (by rw [c1_59]; decide) (by rw [c1_59]; decide) (by rw [c1_59]; decide) (by rw [c1_59]; decide) (by rw [c1_59]; decide) (by rw [c1_59]; decide)
                                          refine pv_iload_n dX12_both_171 rfl ?_
                                          refine pv_if_eq (tgt := 180) dX12_both_172 (by decide) (fun c33 => ?_) (fun c33 => ?_)
                                          · have F := F.1 c33
                                            refine pv_iconst (v := 0) (by decide) dX12_both_180 ?_
                                            refine pv_goto (tgt := 187) dX12_both_181 (by decide) ?_
                                            exact pv_ireturn dX12_both_187 rfl rfl F
                                          · have F := F.2 c33
                                            refine pv_iload_n dX12_both_175 rfl ?_
                                            refine pv_iconst (v := (-1)) (by decide) dX12_both_176 ?_
                                            refine pv_icmp_ne (tgt := 184) dX12_both_177 (by decide) (fun c34 => ?_) (fun c34 => ?_)
                                            · have F := F.1 c34
                                              refine pv_iload_n dX12_both_184 rfl ?_
                                              refine pv_iload_n dX12_both_185 rfl ?_
                                              obtain ⟨q15, F⟩ := F
                                              refine pv_irem q15 dX12_both_186 ?_
                                              exact pv_ireturn dX12_both_187 rfl rfl F
                                            · have F := F.2 c34
                                              refine pv_iconst (v := 0) (by decide) dX12_both_180 ?_
                                              refine pv_goto (tgt := 187) dX12_both_181 (by decide) ?_
                                              exact pv_ireturn dX12_both_187 rfl rfl F
                                        · skip
                                          by_cases c1_60 : x = 60
                                          · refine pv_tableIn (tgt := 145) dX12_both_1 (by rw [c1_60]; decide) (by rw [c1_60]; decide) (by rw [c1_60]; rfl) (by decide) ?_
                                            have F := F.2.2.2.2.2.1 c1_60
                                            refine pv_iload_n dX12_both_145 rfl ?_
                                            refine pv_iload_n dX12_both_146 rfl ?_
                                            refine pv_imul dX12_both_147 ?_
                                            exact pv_ireturn dX12_both_148 rfl rfl F
                                          · skip
                                            by_cases c1_61 : x = 61
                                            · refine pv_tableIn (tgt := 149) dX12_both_1 (by rw [c1_61]; decide) (by rw [c1_61]; decide) (by rw [c1_61]; rfl) (by decide) ?_
                                              have F := F.2.2.2.2.2.2.1 c1_61
                                              refine pv_iload_n dX12_both_149 rfl ?_
                                              refine pv_if_ne (tgt := 157) dX12_both_150 (by decide) (fun c35 => ?_) (fun c35 => ?_)
                                              · have F := F.1 c35
                                                refine pv_iload_n dX12_both_157 rfl ?_
                                                refine pv_iconst (v := (-1)) (by decide) dX12_both_158 ?_
                                                refine pv_icmp_ne (tgt := 167) dX12_both_159 (by decide) (fun c36 => ?_) (fun c36 => ?_)
                                                · have F := F.1 c36
                                                  refine pv_iload_n dX12_both_167 rfl ?_
                                                  refine pv_iload_n dX12_both_168 rfl ?_
                                                  obtain ⟨q16, F⟩ := F
                                                  refine pv_idiv q16 dX12_both_169 ?_
                                                  exact pv_ireturn dX12_both_170 rfl rfl F
                                                · have F := F.2 c36
                                                  refine pv_iload_n dX12_both_162 rfl ?_
                                                  refine pv_ineg dX12_both_163 ?_
                                                  refine pv_goto (tgt := 170) dX12_both_164 (by decide) ?_
                                                  exact pv_ireturn dX12_both_170 rfl rfl F
                                              · have F := F.2 c35
                                                refine pv_iconst (v := 0) (by decide) dX12_both_153 ?_
                                                refine pv_goto (tgt := 170) dX12_both_154 (by decide) ?_
                                                exact pv_ireturn dX12_both_170 rfl rfl F
                                            · skip
                                              refine pv_tableOut (tgt := 171) dX12_both_1 (by have z0 := pv_ne c1_40 (n := 40) (by decide); have z1 := pv_ne c1_41 (n := 41) (by decide); have z2 := pv_ne c1_42 (n := 42) (by decide); have z3 := pv_ne c1_43 (n := 43) (by decide); have z4 := pv_ne c1_44 (n := 44) (by decide); have z5 := pv_ne c1_45 (n := 45) (by decide); have z6 := pv_ne c1_46 (n := 46) (by decide); have z7 := pv_ne c1_47 (n := 47) (by decide); have z8 := pv_ne c1_48 (n := 48) (by decide); have z9 := pv_ne c1_49 (n := 49) (by decide); have z10 := pv_ne c1_50 (n := 50) (by decide); have z11 := pv_ne c1_51 (n := 51) (by decide); have z12 := pv_ne c1_52 (n := 52) (by decide); have z13 := pv_ne c1_53 (n := 53) (by decide); have z14 := pv_ne c1_54 (n := 54) (by decide); have z15 := pv_ne c1_55 (n := 55) (by decide); have z16 := pv_ne c1_56 (n := 56) (by decide); have z17 := pv_ne c1_57 (n := 57) (by decide); have z18 := pv_ne c1_58 (n := 58) (by decide); have z19 := pv_ne c1_59 (n := 59) (by decide); have z20 := pv_ne c1_60 (n := 60) (by decide); have z21 := pv_ne c1_61 (n := 61) (by decide); omega) (by decide) ?_
                                              have F := F.2.2.2.2.2.2.2 c1_40 c1_41 c1_42 c1_50 c1_51 c1_60 c1_61
                                              refine pv_iload_n dX12_both_171 rfl ?_
                                              refine pv_if_eq (tgt := 180) dX12_both_172 (by decide) (fun c37 => ?_) (fun c37 => ?_)
                                              · have F := F.1 c37
                                                refine pv_iconst (v := 0) (by decide) dX12_both_180 ?_
                                                refine pv_goto (tgt := 187) dX12_both_181 (by decide) ?_
                                                exact pv_ireturn dX12_both_187 rfl rfl F
                                              · have F := F.2 c37
                                                refine pv_iload_n dX12_both_175 rfl ?_
                                                refine pv_iconst (v := (-1)) (by decide) dX12_both_176 ?_
                                                refine pv_icmp_ne (tgt := 184) dX12_both_177 (by decide) (fun c38 => ?_) (fun c38 => ?_)
                                                · have F := F.1 c38
                                                  refine pv_iload_n dX12_both_184 rfl ?_
                                                  refine pv_iload_n dX12_both_185 rfl ?_
                                                  obtain ⟨q17, F⟩ := F
                                                  refine pv_irem q17 dX12_both_186 ?_
                                                  exact pv_ireturn dX12_both_187 rfl rfl F
                                                · have F := F.2 c38
                                                  refine pv_iconst (v := 0) (by decide) dX12_both_180 ?_
                                                  refine pv_goto (tgt := 187) dX12_both_181 (by decide) ?_
                                                  exact pv_ireturn dX12_both_187 rfl rfl F
set_option maxRecDepth 20000 in
set_option maxHeartbeats 4000000 in
theorem sg_X12_adds_0 {Γ : pv_C} {d kc ks : Nat} {ty : pv_T} {h : pv_H} {r : pv_R} {g : pv_G} {Q : pv_Q} (x : Int32) (y : Int32) (z : Int32) (hL : pv_Lay ty r) (F : vp_in ((170 * x) + (h 200 50)) 3400 ∧ (∀ h1 : pv_H, h1 = pv_up h 346 (Int32.toNatClampNeg ((170 * x) + (h 200 50))) y → vp_in ((170 * x) + (h1 200 50)) 3400 ∧ (∀ h2 : pv_H, h2 = pv_up h1 347 (Int32.toNatClampNeg ((170 * x) + (h1 200 50))) z → (∀ h3 : pv_H, h3 = pv_up h2 200 50 ((h2 200 50) + 1) → Q none ty h3 r g)))) : pv_E Γ d kc ks mX12_adds 0 [some (.ref 200), some (.int x), some (.int y), some (.int z)] [] ty h r g Q := by
  refine pv_aload_n dX12_adds_0 rfl ?_
  refine pv_getRk 12 46 dX12_adds_1 fl_X12_115 rfl (lt_200 hL) (lr_200_46 hL) ?_
  refine pv_sipush (v := 170) (by decide) dX12_adds_4 ?_
  refine pv_iload_n dX12_adds_7 rfl ?_
  refine pv_imul dX12_adds_8 ?_
  refine pv_aload_n dX12_adds_9 rfl ?_
  refine pv_pc (pc' := 10) rfl ?_
  refine pv_getI 12 50 dX12_adds_10 fl_X12_243 rfl (lt_200 hL) ?_
  refine pv_iadd dX12_adds_13 ?_
  refine pv_iload_n dX12_adds_14 rfl ?_
  obtain ⟨q1, F⟩ := F
  obtain ⟨h1, eh1⟩ : ∃ h1 : pv_H, h1 = pv_up h 346 (Int32.toNatClampNeg ((170 * x) + (h 200 50))) y := ⟨_, rfl⟩
  have F := F h1 eh1
  refine pv_iast dX12_adds_15 (lt_346 hL) (by decide) q1 ?_
  refine pv_hE eh1 ?_
  refine pv_aload_n dX12_adds_16 rfl ?_
  refine pv_getRk 12 47 dX12_adds_17 fl_X12_118 rfl (lt_200 hL) (lr_200_47 hL) ?_
  refine pv_sipush (v := 170) (by decide) dX12_adds_20 ?_
  refine pv_iload_n dX12_adds_23 rfl ?_
  refine pv_imul dX12_adds_24 ?_
  refine pv_aload_n dX12_adds_25 rfl ?_
  refine pv_pc (pc' := 26) rfl ?_
  refine pv_getI 12 50 dX12_adds_26 fl_X12_243 rfl (lt_200 hL) ?_
  refine pv_iadd dX12_adds_29 ?_
  refine pv_iload_n dX12_adds_30 rfl ?_
  obtain ⟨q2, F⟩ := F
  obtain ⟨h2, eh2⟩ : ∃ h2 : pv_H, h2 = pv_up h1 347 (Int32.toNatClampNeg ((170 * x) + (h1 200 50))) z := ⟨_, rfl⟩
  have F := F h2 eh2
  refine pv_iast dX12_adds_31 (lt_347 hL) (by decide) q2 ?_
  refine pv_hE eh2 ?_
  refine pv_aload_n dX12_adds_32 rfl ?_
  refine pv_dup rfl dX12_adds_33 ?_
  refine pv_getI 12 50 dX12_adds_34 fl_X12_243 rfl (lt_200 hL) ?_
  refine pv_iconst (v := 1) (by decide) dX12_adds_37 ?_
  refine pv_iadd dX12_adds_38 ?_
  obtain ⟨h3, eh3⟩ : ∃ h3 : pv_H, h3 = pv_up h2 200 50 ((h2 200 50) + 1) := ⟨_, rfl⟩
  have F := F h3 eh3
  refine pv_putI 12 50 dX12_adds_39 fl_X12_243 ⟨_, rfl, Or.inl rfl⟩ (Or.inl rfl) (lt_200 hL) ?_
  refine pv_hE eh3 ?_
  exact pv_return dX12_adds_42 rfl F
def mt_N (x y : Int32) : Prop := x = 115 ∨ (if y = 0 then x = 102 ∨ x = 103 ∨ x = 118 ∨ x = 99 ∨ x = 121 else x = 100 ∨ x = 108 ∨ x = 119 ∨ x = 110)
def mt_n (x y : Int32) : Int32 := if x = 115 then 1 else if y = 0 then (if x = 102 then 1 else if x = 103 then 1 else if x = 118 then 1 else if x = 99 then 1 else if x = 121 then 1 else 0) else (if x = 100 then 1 else if x = 108 then 1 else if x = 119 then 1 else if x = 110 then 1 else 0)
def mt_sg (x : Int32) : Int32 := if x = 37 then 62 else if x = 42 then 60 else if x = 43 then 50 else if x = 45 then 51 else if x = 47 then 61 else if x = 60 then 40 else if x = 61 then 41 else if x = 62 then 42 else 0
theorem TB_sg {t : Int32} {c : Nat} (h : TB t c) : mt_sg t = nI (tx_sg c) := by
  have e : ∀ k : Nat, k < 128 → (t = nI k ↔ c = k) := fun k hk => TB_eq h hk
  unfold mt_sg
  simp only [show (37 : Int32) = nI 37 from rfl, show (42 : Int32) = nI 42 from rfl, show (43 : Int32) = nI 43 from rfl, show (45 : Int32) = nI 45 from rfl, show (47 : Int32) = nI 47 from rfl, show (60 : Int32) = nI 60 from rfl, show (61 : Int32) = nI 61 from rfl, show (62 : Int32) = nI 62 from rfl, e 37 (by decide), e 42 (by decide), e 43 (by decide), e 45 (by decide), e 47 (by decide), e 60 (by decide), e 61 (by decide), e 62 (by decide)]
  by_cases q1 : c = 37
  · subst q1; rfl
  by_cases q2 : c = 42
  · subst q2; rfl
  by_cases q3 : c = 43
  · subst q3; rfl
  by_cases q4 : c = 45
  · subst q4; rfl
  by_cases q5 : c = 47
  · subst q5; rfl
  by_cases q6 : c = 60
  · subst q6; rfl
  by_cases q7 : c = 61
  · subst q7; rfl
  by_cases q8 : c = 62
  · subst q8; rfl
  have e0 : tx_sg c = 0 := tx_stop (by unfold tx_mul; rw [if_neg q2, if_neg q5, if_neg q1]) (by unfold tx_add; rw [if_neg q3, if_neg q4]) (by unfold tx_rel; rw [if_neg q6, if_neg q7, if_neg q8])
  rw [e0, if_neg q1, if_neg q2, if_neg q3, if_neg q4, if_neg q5, if_neg q6, if_neg q7, if_neg q8]
  rfl
theorem TB_nm {t : Int32} {c K : Nat} (h : TB t c) (hK : K < 2) : (¬ mt_n t (nI K) = 0) ↔ c ∈ tx_nm K := by
  have e : ∀ k : Nat, k < 128 → (t = nI k ↔ c = k) := fun k hk => TB_eq h hk
  unfold mt_n
  simp only [show (115 : Int32) = nI 115 from rfl, show (102 : Int32) = nI 102 from rfl, show (103 : Int32) = nI 103 from rfl, show (118 : Int32) = nI 118 from rfl, show (99 : Int32) = nI 99 from rfl, show (121 : Int32) = nI 121 from rfl, show (100 : Int32) = nI 100 from rfl, show (108 : Int32) = nI 108 from rfl, show (119 : Int32) = nI 119 from rfl, show (110 : Int32) = nI 110 from rfl, e 115 (by decide), e 102 (by decide), e 103 (by decide), e 118 (by decide), e 99 (by decide), e 121 (by decide), e 100 (by decide), e 108 (by decide), e 119 (by decide), e 110 (by decide)]
  rcases (show K = 0 ∨ K = 1 by omega) with rfl | rfl
  · have e1 : tx_nm 0 = [102, 103, 118, 115, 99, 121] := rfl
    have e2 : nI 0 = 0 := rfl
    simp only [e1, e2, if_true, List.mem_cons, List.not_mem_nil, or_false]
    by_cases q1 : c = 115
    · simp [q1]
    by_cases q2 : c = 102
    · simp [q2]
    by_cases q3 : c = 103
    · simp [q3]
    by_cases q4 : c = 118
    · simp [q4]
    by_cases q5 : c = 99
    · simp [q5]
    by_cases q6 : c = 121
    · simp [q6]
    simp [q1, q2, q3, q4, q5, q6]
  · have e1 : tx_nm 1 = [100, 108, 119, 115, 110] := rfl
    have e2 : ¬ nI 1 = 0 := by decide
    simp only [e1, e2, if_false, List.mem_cons, List.not_mem_nil, or_false]
    by_cases q1 : c = 115
    · simp [q1]
    by_cases q2 : c = 100
    · simp [q2]
    by_cases q3 : c = 108
    · simp [q3]
    by_cases q4 : c = 119
    · simp [q4]
    by_cases q5 : c = 110
    · simp [q5]
    simp [q1, q2, q3, q4, q5]
section MC
variable {Γ : pv_C} {d : Nat} {ty : pv_T} {h : pv_H} {r : pv_R} {g : pv_G}
theorem ct_X12_isDigit {x : Int32} (_ : 0 ≤ d) : pv_CT Γ d 0 0 mX12_isDigit [.int x] ty h r g (pv_is (.int (pf_b (48 ≤ x ∧ x ≤ 57))) ty h r g) := by
  refine pv_fn 0 pn_X12 rfl (Nat.le_of_ble_eq_true rfl) (sg_X12_isDigit_0 x ⟨fun c1 => ?_, fun c1 => ⟨fun c2 => ?_, fun c2 => ?_⟩⟩)
  · rw [pf_b_f (fun q => Int32.not_lt.mpr q.1 c1)]; exact pv_is_refl _ _ _ _ _
  · rw [pf_b_f (fun q => Int32.not_lt.mpr q.2 c2)]; exact pv_is_refl _ _ _ _ _
  · rw [pf_b_t ⟨Int32.not_lt.mp c1, Int32.not_lt.mp c2⟩]; exact pv_is_refl _ _ _ _ _
theorem ct_X12_isName {x y : Int32} (_ : 0 ≤ d) : pv_CT Γ d 0 0 mX12_isName [.int x, .int y] ty h r g (pv_is (.int (mt_n x y)) ty h r g) := by
  have k : ∀ v, mt_n x y = v → pv_is (.int (mt_n x y)) ty h r g (some (.int v)) ty h r g := fun v e => by rw [e]; exact pv_is_refl _ _ _ _ _
  refine pv_fn 0 pn_X12 rfl (Nat.le_of_ble_eq_true rfl) (sg_X12_isName_0 x y ⟨fun c1 => ⟨fun c2 => ⟨fun c3 => k _ ?_, fun c3 => ⟨fun c4 => k _ ?_, fun c4 => ⟨fun c5 => k _ ?_, fun c5 => ⟨fun c6 => k _ ?_, fun c6 => k _ ?_⟩⟩⟩⟩, fun c2 => ⟨fun c3 => k _ ?_, fun c3 => ⟨fun c4 => k _ ?_, fun c4 => ⟨fun c5 => k _ ?_, fun c5 => ⟨fun c6 => k _ ?_, fun c6 => ⟨fun c7 => k _ ?_, fun c7 => k _ ?_⟩⟩⟩⟩⟩⟩, fun c1 => k _ ?_⟩)
  all_goals unfold mt_n
  all_goals (try simp only [*, if_true, if_false])
  all_goals (first | rfl | decide)
theorem ct_X12_signOf {x : Int32} (_ : 0 ≤ d) : pv_CT Γ d 0 0 mX12_signOf [.int x] ty h r g (pv_is (.int (mt_sg x)) ty h r g) := by
  have k : ∀ v, mt_sg x = v → pv_is (.int (mt_sg x)) ty h r g (some (.int v)) ty h r g := fun v e => by rw [e]; exact pv_is_refl _ _ _ _ _
  refine pv_fn 0 pn_X12 rfl (Nat.le_of_ble_eq_true rfl) (sg_X12_signOf_0 x ⟨fun c => k _ ?_, fun c => k _ ?_, fun c => k _ ?_, fun c => k _ ?_, fun c => k _ ?_, fun c => k _ ?_, fun c => k _ ?_, fun c => k _ ?_, fun c1 c2 c3 c4 c5 c6 c7 c8 => k _ ?_⟩)
  · rw [c]; rfl
  · rw [c]; rfl
  · rw [c]; rfl
  · rw [c]; rfl
  · rw [c]; rfl
  · rw [c]; rfl
  · rw [c]; rfl
  · rw [c]; rfl
  · unfold mt_sg
    rw [if_neg c1, if_neg c2, if_neg c3, if_neg c4, if_neg c5, if_neg c6, if_neg c7, if_neg c8]
theorem ct_X12_tight {x : Int32} (_ : 0 ≤ d) : pv_CT Γ d 0 0 mX12_tight [.int x] ty h r g (pv_is (.int (x / 10)) ty h r g) := pv_fn 0 pn_X12 rfl (Nat.le_of_ble_eq_true rfl) (sg_X12_tight_0 x (pv_is_refl _ _ _ _ _))
theorem mt_m1 (y : Int32) : -y = y / -1 := by
  apply Int32.toInt_inj.mp
  rw [Int32.toInt_neg, Int32.toInt_div]
  show _ = (y.toInt.tdiv (-1)).bmod (2 ^ 32)
  rw [Int.tdiv_neg, Int.tdiv_one]
theorem mt_r1 (y : Int32) : y - y / -1 * -1 = 0 := by
  rw [← mt_m1]
  grind
theorem ct_X12_both {o : Nat} (ho : tx_os o) {y z : Int32} (_ : 0 ≤ d) : pv_CT Γ d 0 0 mX12_both [.int (nI o), .int y, .int z] ty h r g (pv_is (.int (tx_op o y z)) ty h r g) := by
  have k : ∀ v, tx_op o y z = v → pv_is (.int (tx_op o y z)) ty h r g (some (.int v)) ty h r g := fun v e => by rw [e]; exact pv_is_refl _ _ _ _ _
  have hb : o < 100 := by rcases ho with q | q | q | q | q | q | q | q <;> omega
  have e : ∀ j : Nat, j < 100 → (nI o = nI j ↔ o = j) := fun j hj => nI_eq (by omega) (by omega)
  have c40 := e 40 (by decide)
  have c41 := e 41 (by decide)
  have c42 := e 42 (by decide)
  have c50 := e 50 (by decide)
  have c51 := e 51 (by decide)
  have c60 := e 60 (by decide)
  have c61 := e 61 (by decide)
  refine pv_fn 0 pn_X12 rfl (Nat.le_of_ble_eq_true rfl) (sg_X12_both_0 (nI o) y z ⟨fun c => ?_, fun c => ?_, fun c => ?_, fun c => ?_, fun c => ?_, fun c => ?_, fun c => ?_, fun a1 a2 a3 a4 a5 a6 a7 => ?_⟩)
  · have c' := c40.mp c
    subst c'
    exact ⟨fun q => k _ (if_neg (Int32.not_lt.mpr q)), fun q => k _ (if_pos (Int32.not_le.mp q))⟩
  · have c' := c41.mp c
    subst c'
    exact ⟨fun q => k _ (if_neg q), fun q => k _ (if_pos q)⟩
  · have c' := c42.mp c
    subst c'
    exact ⟨fun q => k _ (if_neg (Int32.not_lt.mpr q)), fun q => k _ (if_pos (Int32.not_le.mp q))⟩
  · have c' := c50.mp c
    subst c'
    exact k _ rfl
  · have c' := c51.mp c
    subst c'
    exact k _ rfl
  · have c' := c60.mp c
    subst c'
    exact k _ rfl
  · have c' := c61.mp c
    subst c'
    refine ⟨fun q => ⟨fun q2 => ⟨q, k _ (if_neg q)⟩, fun q2 => k _ ?_⟩, fun q => k _ (if_pos q)⟩
    rw [mt_m1, ← q2]
    exact if_neg q
  · have h62 : o = 62 := by
      have b1 : ¬ o = 40 := fun q => a1 (c40.mpr q)
      have b2 : ¬ o = 41 := fun q => a2 (c41.mpr q)
      have b3 : ¬ o = 42 := fun q => a3 (c42.mpr q)
      have b4 : ¬ o = 50 := fun q => a4 (c50.mpr q)
      have b5 : ¬ o = 51 := fun q => a5 (c51.mpr q)
      have b6 : ¬ o = 60 := fun q => a6 (c60.mpr q)
      have b7 : ¬ o = 61 := fun q => a7 (c61.mpr q)
      rcases ho with q | q | q | q | q | q | q | q <;> omega
    subst h62
    refine ⟨fun q => k _ (if_pos q), fun q => ⟨fun q2 => ⟨q, k _ (if_neg q)⟩, fun q2 => k _ ?_⟩⟩
    rw [show tx_op 62 y z = y - y / z * z from if_neg q, q2]
    exact mt_r1 y
end MC
