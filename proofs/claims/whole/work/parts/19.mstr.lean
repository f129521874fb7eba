/-! the reference: street -/
set_option maxRecDepth 20000 in
set_option maxHeartbeats 4000000 in
theorem sg_X12_street_0 {Γ : pv_C} {d kc ks : Nat} {ty : pv_T} {h : pv_H} {r : pv_R} {g : pv_G} {Q : pv_Q} (x : Int32) (y : Int32) (z : Int32) (hd : 1 ≤ d) (hL : pv_Lay ty r) (F : (((pf_b (1 ≤ x ∧ x ≤ 16)) = 0 → Q (some (.int (-1))) ty h r g) ∧ (¬ (pf_b (1 ≤ x ∧ x ≤ 16)) = 0 → (((pf_b (1 ≤ y ∧ y ≤ 9)) = 0 → Q (some (.int (-1))) ty h r g) ∧ (¬ (pf_b (1 ≤ y ∧ y ≤ 9)) = 0 → ((¬ (pf_b (0 ≤ z ∧ z ≤ 99)) = 0 → ((¬ (h 200 1) = 8 → vp_in (h 200 1) 8 ∧ (∀ h1 : pv_H, h1 = pv_up h 302 (Int32.toNatClampNeg (h 200 1)) x → vp_in (h1 200 1) 8 ∧ (∀ h2 : pv_H, h2 = pv_up h1 303 (Int32.toNatClampNeg (h1 200 1)) y → pv_E Γ d kc ks mX12_street 67 [some (.ref 200), none, none, some (.int z), some (.int 0)] [] ty h2 r g Q))) ∧ ((h 200 1) = 8 → Q (some (.int (-3))) ty h r g))) ∧ ((pf_b (0 ≤ z ∧ z ≤ 99)) = 0 → Q (some (.int (-1))) ty h r g))))))) : pv_E Γ d kc ks mX12_street 0 [some (.ref 200), some (.int x), some (.int y), some (.int z), none] [] ty h r g Q := by
  refine pv_iload_n dX12_street_0 rfl ?_
  refine pv_iconst (v := 1) (by decide) dX12_street_1 ?_
  refine pv_bipush (v := 16) (by decide) dX12_street_2 ?_
  refine pv_invS (As := [.int x, .int 1, .int 16]) (d' := d - 1) dX12_street_4 moX12_in ml_X12_164 (Nat.le_of_ble_eq_true rfl) (by omega) (Nat.zero_le _) (Nat.zero_le _) (ct_X12_in (by omega)) (fun v ty' h' r' g' hq => ?_) rfl
  obtain ⟨e1, e2, e3, e4, e5⟩ := hq
  rw [e1, e2, e3, e4, e5]
  refine pv_pc (pc' := 7) rfl ?_
  show pv_E Γ d kc ks mX12_street 7 [some (.ref 200), some (.int x), some (.int y), some (.int z), none] [.int (pf_b (1 ≤ x ∧ x ≤ 16))] ty h r g Q
  refine pv_if_eq (tgt := 30) dX12_street_7 (by decide) (fun c1 => ?_) (fun c1 => ?_)
  · have F := F.1 c1
    refine pv_iconst (v := (-1)) (by decide) dX12_street_30 ?_
    exact pv_ireturn dX12_street_31 rfl rfl F
  · have F := F.2 c1
    refine pv_iload_n dX12_street_10 rfl ?_
    refine pv_iconst (v := 1) (by decide) dX12_street_11 ?_
    refine pv_bipush (v := 9) (by decide) dX12_street_12 ?_
    refine pv_invS (As := [.int y, .int 1, .int 9]) (d' := d - 1) dX12_street_14 moX12_in ml_X12_164 (Nat.le_of_ble_eq_true rfl) (by omega) (Nat.zero_le _) (Nat.zero_le _) (ct_X12_in (by omega)) (fun v ty' h' r' g' hq => ?_) rfl
    obtain ⟨e1, e2, e3, e4, e5⟩ := hq
    rw [e1, e2, e3, e4, e5]
    refine pv_pc (pc' := 17) rfl ?_
    show pv_E Γ d kc ks mX12_street 17 [some (.ref 200), some (.int x), some (.int y), some (.int z), none] [.int (pf_b (1 ≤ y ∧ y ≤ 9))] ty h r g Q
    refine pv_if_eq (tgt := 30) dX12_street_17 (by decide) (fun c2 => ?_) (fun c2 => ?_)
    · have F := F.1 c2
      refine pv_iconst (v := (-1)) (by decide) dX12_street_30 ?_
      exact pv_ireturn dX12_street_31 rfl rfl F
    · have F := F.2 c2
      refine pv_iload_n dX12_street_20 rfl ?_
      refine pv_iconst (v := 0) (by decide) dX12_street_21 ?_
      refine pv_bipush (v := 99) (by decide) dX12_street_22 ?_
      refine pv_invS (As := [.int z, .int 0, .int 99]) (d' := d - 1) dX12_street_24 moX12_in ml_X12_164 (Nat.le_of_ble_eq_true rfl) (by omega) (Nat.zero_le _) (Nat.zero_le _) (ct_X12_in (by omega)) (fun v ty' h' r' g' hq => ?_) rfl
      obtain ⟨e1, e2, e3, e4, e5⟩ := hq
      rw [e1, e2, e3, e4, e5]
      refine pv_pc (pc' := 27) rfl ?_
      show pv_E Γ d kc ks mX12_street 27 [some (.ref 200), some (.int x), some (.int y), some (.int z), none] [.int (pf_b (0 ≤ z ∧ z ≤ 99))] ty h r g Q
      refine pv_if_ne (tgt := 32) dX12_street_27 (by decide) (fun c3 => ?_) (fun c3 => ?_)
      · have F := F.1 c3
        refine pv_aload_n dX12_street_32 rfl ?_
        refine pv_getI 12 1 dX12_street_33 fl_X12_161 rfl (lt_200 hL) ?_
        refine pv_bipush (v := 8) (by decide) dX12_street_36 ?_
        refine pv_icmp_ne (tgt := 44) dX12_street_38 (by decide) (fun c4 => ?_) (fun c4 => ?_)
        · have F := F.1 c4
          refine pv_aload_n dX12_street_44 rfl ?_
          refine pv_getRk 12 2 dX12_street_45 fl_X12_7 rfl (lt_200 hL) (lr_200_2 hL) ?_
          refine pv_aload_n dX12_street_48 rfl ?_
          refine pv_getI 12 1 dX12_street_49 fl_X12_161 rfl (lt_200 hL) ?_
          refine pv_iload_n dX12_street_52 rfl ?_
          obtain ⟨q1, F⟩ := F
          obtain ⟨h1, eh1⟩ : ∃ h1 : pv_H, h1 = pv_up h 302 (Int32.toNatClampNeg (h 200 1)) x := ⟨_, rfl⟩
          have F := F h1 eh1
          refine pv_iast dX12_street_53 (lt_302 hL) (by decide) q1 ?_
          refine pv_hE eh1 ?_
          refine pv_aload_n dX12_street_54 rfl ?_
          refine pv_getRk 12 3 dX12_street_55 fl_X12_13 rfl (lt_200 hL) (lr_200_3 hL) ?_
          refine pv_aload_n dX12_street_58 rfl ?_
          refine pv_getI 12 1 dX12_street_59 fl_X12_161 rfl (lt_200 hL) ?_
          refine pv_iload_n dX12_street_62 rfl ?_
          obtain ⟨q2, F⟩ := F
          obtain ⟨h2, eh2⟩ : ∃ h2 : pv_H, h2 = pv_up h1 303 (Int32.toNatClampNeg (h1 200 1)) y := ⟨_, rfl⟩
          have F := F h2 eh2
          refine pv_iast dX12_street_63 (lt_303 hL) (by decide) q2 ?_
          refine pv_hE eh2 ?_
          refine pv_iconst (v := 0) (by decide) dX12_street_64 ?_
          refine pv_istore (ls' := [some (.ref 200), some (.int x), some (.int y), some (.int z), some (.int 0)]) dX12_street_65 (by decide) rfl rfl ?_
          refine pv_forgetL (ls' := [some (.ref 200), none, none, some (.int z), some (.int 0)]) (pv_subL_ok ⟨rfl, ⟨rfl, ⟨rfl, trivial⟩⟩⟩) ?_
          exact F
        · have F := F.2 c4
          refine pv_bipush (v := (-3)) (by decide) dX12_street_41 ?_
          exact pv_ireturn dX12_street_43 rfl rfl F
      · have F := F.2 c3
        refine pv_iconst (v := (-1)) (by decide) dX12_street_30 ?_
        exact pv_ireturn dX12_street_31 rfl rfl F
set_option maxRecDepth 20000 in
set_option maxHeartbeats 4000000 in
theorem sg_X12_street_67 {Γ : pv_C} {d kc ks : Nat} {ty : pv_T} {h : pv_H} {r : pv_R} {g : pv_G} {Q : pv_Q} (x3 : Int32) (x4 : Int32) (hL : pv_Lay ty r) (F : ((144 ≤ x4 → (∀ h1 : pv_H, h1 = pv_up h 200 1 ((h 200 1) + 1) → Q (some (.int ((h1 200 1) - 1))) ty h1 r g)) ∧ (¬ 144 ≤ x4 → vp_in ((144 * (h 200 1)) + x4) 1152 ∧ (∀ h2 : pv_H, h2 = pv_up h 304 (Int32.toNatClampNeg ((144 * (h 200 1)) + x4)) x3 → pv_E Γ d kc ks mX12_street 67 [some (.ref 200), none, none, some (.int x3), some (.int (x4 + 1))] [] ty h2 r g Q)))) : pv_E Γ d kc ks mX12_street 67 [some (.ref 200), none, none, some (.int x3), some (.int x4)] [] ty h r g Q := by
  refine pv_iload dX12_street_67 rfl ?_
  refine pv_sipush (v := 144) (by decide) dX12_street_69 ?_
  refine pv_icmp_ge (tgt := 98) dX12_street_72 (by decide) (fun c1 => ?_) (fun c1 => ?_)
  · have F := F.1 c1
    refine pv_aload_n dX12_street_98 rfl ?_
    refine pv_dup rfl dX12_street_99 ?_
    refine pv_getI 12 1 dX12_street_100 fl_X12_161 rfl (lt_200 hL) ?_
    refine pv_iconst (v := 1) (by decide) dX12_street_103 ?_
    refine pv_iadd dX12_street_104 ?_
    obtain ⟨h1, eh1⟩ : ∃ h1 : pv_H, h1 = pv_up h 200 1 ((h 200 1) + 1) := ⟨_, rfl⟩
    have F := F h1 eh1
    refine pv_putI 12 1 dX12_street_105 fl_X12_161 ⟨_, rfl, Or.inl rfl⟩ (Or.inl rfl) (lt_200 hL) ?_
    refine pv_hE eh1 ?_
    refine pv_aload_n dX12_street_108 rfl ?_
    refine pv_getI 12 1 dX12_street_109 fl_X12_161 rfl (lt_200 hL) ?_
    refine pv_iconst (v := 1) (by decide) dX12_street_112 ?_
    refine pv_isub dX12_street_113 ?_
    exact pv_ireturn dX12_street_114 rfl rfl F
  · have F := F.2 c1
    refine pv_aload_n dX12_street_75 rfl ?_
    refine pv_getRk 12 4 dX12_street_76 fl_X12_16 rfl (lt_200 hL) (lr_200_4 hL) ?_
    refine pv_sipush (v := 144) (by decide) dX12_street_79 ?_
    refine pv_aload_n dX12_street_82 rfl ?_
    refine pv_getI 12 1 dX12_street_83 fl_X12_161 rfl (lt_200 hL) ?_
    refine pv_imul dX12_street_86 ?_
    refine pv_pc (pc' := 87) rfl ?_
    refine pv_iload dX12_street_87 rfl ?_
    refine pv_iadd dX12_street_89 ?_
    refine pv_iload_n dX12_street_90 rfl ?_
    obtain ⟨q1, F⟩ := F
    obtain ⟨h2, eh2⟩ : ∃ h2 : pv_H, h2 = pv_up h 304 (Int32.toNatClampNeg ((144 * (h 200 1)) + x4)) x3 := ⟨_, rfl⟩
    have F := F h2 eh2
    refine pv_iast dX12_street_91 (lt_304 hL) (by decide) q1 ?_
    refine pv_hE eh2 ?_
    refine pv_iinc (v := x4 + 1) (ls' := [some (.ref 200), none, none, some (.int x3), some (.int (x4 + 1))]) dX12_street_92 rfl (by rfl) rfl rfl ?_
    refine pv_goto (tgt := 67) dX12_street_95 (by decide) ?_
    exact F
def pf_fill (h : pv_H) (a lo n : Nat) (v : Int32) : pv_H := fun b j => if b = a ∧ lo ≤ j ∧ j < lo + n then v else h b j
theorem pf_fill_0 (h : pv_H) (a lo : Nat) (v : Int32) : pf_fill h a lo 0 v = h := by
  funext b j
  unfold pf_fill
  rw [if_neg (by omega)]
theorem pf_fill_s {h : pv_H} {a lo n : Nat} {v : Int32} : pv_up (pf_fill h a lo n v) a (lo + n) v = pf_fill h a lo (n + 1) v := by
  funext b j
  unfold pv_up pf_fill
  by_cases e1 : b = a
  · by_cases e2 : j = lo + n
    · rw [if_pos ⟨e1, e2⟩, if_pos ⟨e1, by omega, by omega⟩]
    · rw [if_neg (fun q => e2 q.2)]
      by_cases e3 : lo ≤ j ∧ j < lo + n
      · rw [if_pos ⟨e1, e3⟩, if_pos ⟨e1, e3.1, by omega⟩]
      · rw [if_neg (fun q => e3 q.2), if_neg (fun q => e3 ⟨q.2.1, by omega⟩)]
  · rw [if_neg (fun q => e1 q.1), if_neg (fun q => e1 q.1), if_neg (fun q => e1 q.1)]
theorem pf_fill_ne {h : pv_H} {a b lo n : Nat} {v : Int32} (hb : b ≠ a) : pf_fill h a lo n v b = h b := by
  funext j
  unfold pf_fill
  rw [if_neg (fun q => hb q.1)]
/-- what street() writes in the reference -/
def fp_street (h : pv_H) (n : Nat) (x y z : Int32) : pv_H := pv_up (pf_fill (pv_up (pv_up h 302 n x) 303 n y) 304 (144 * n) 144 z) 200 1 (nI (n + 1))
def fo_street (x y z : Int32) : Prop := (1 ≤ x ∧ x ≤ 16) ∧ (1 ≤ y ∧ y ≤ 9) ∧ (0 ≤ z ∧ z ≤ 99)
section MX
variable {Γ : pv_C} {d kc ks : Nat} {ty : pv_T} {h : pv_H} {r : pv_R} {g : pv_G} {Q : pv_Q}
theorem mx_67 (hL : pv_Lay ty r) {ns : Nat} {z : Int32} (h8 : ns < 8) (hn : h 200 1 = nI ns) (hQ : Q (some (.int (nI ns))) ty (pv_up (pf_fill h 304 (144 * ns) 144 z) 200 1 (nI (ns + 1))) r g) : ∀ (m k : Nat), k + m = 144 → pv_E Γ d kc ks mX12_street 67 [some (.ref 200), none, none, some (.int z), some (.int (nI k))] [] ty (pf_fill h 304 (144 * ns) k z) r g Q := by
  intro m
  have e144 : (144 : Int32) = nI 144 := rfl
  have hn' : ∀ k, pf_fill h 304 (144 * ns) k z 200 1 = nI ns := fun k => by rw [pf_fill_ne (by decide)]; exact hn
  induction m with
  | zero =>
    intro k hk
    refine sg_X12_street_67 _ _ hL ?_
    rw [hn', e144, nI_leI (by omega) (by omega), nI_1]
    refine ⟨fun _ h1 e1 => ?_, fun c1 => absurd (by omega) c1⟩
    rw [e1, pv_up_same, nI_pred]
    rw [show k = 144 by omega]
    exact hQ
  | succ m ih =>
    intro k hk
    refine sg_X12_street_67 _ _ hL ?_
    rw [hn', e144, nI_leI (by omega) (by omega), pk_mul, nI_add, nI_clamp (by omega)]
    refine ⟨fun c1 => absurd c1 (by omega), fun _ => ⟨vp_in_nI (by omega) (by decide), fun h1 e1 => ?_⟩⟩
    rw [e1, pf_fill_s, nI_1]
    exact ih (k + 1) (by omega)
theorem ct_X12_street {ns : Nat} (hd : 2 ≤ d) (hL : pv_Lay ty r) (h8 : ns ≤ 8) (hn : h 200 1 = nI ns) {x y z : Int32} : pv_CJ Γ d mX12_street [.ref 200, .int x, .int y, .int z] ty h r g (fun w h' => (¬ fo_street x y z → w = -1 ∧ h' = h) ∧ (fo_street x y z → (ns = 8 → w = -3 ∧ h' = h) ∧ (ns < 8 → w = nI ns ∧ h' = fp_street h ns x y z))) := by
  refine pv_fn 1 pn_X12 rfl (Nat.le_of_ble_eq_true rfl) (sg_X12_street_0 _ _ _ (by omega) hL ?_)
  have e8 : (8 : Int32) = nI 8 := rfl
  simp only [pf_b_0, Classical.not_not]
  rw [hn, e8, nI_eq (by omega) (by omega), nI_clamp (by omega)]
  refine ⟨fun c1 => pv_jqi ⟨fun _ => ⟨rfl, rfl⟩, fun q => absurd q.1 c1⟩, fun c1 => ⟨fun c2 => pv_jqi ⟨fun _ => ⟨rfl, rfl⟩, fun q => absurd q.2.1 c2⟩, fun c2 => ⟨fun c3 => ⟨fun c4 => ?_, fun c4 => ?_⟩, fun c3 => pv_jqi ⟨fun _ => ⟨rfl, rfl⟩, fun q => absurd q.2.2 c3⟩⟩⟩⟩
  · have hns : ns < 8 := by omega
    refine ⟨vp_in_nI hns (by decide), fun h1 e1 => ?_⟩
    have hn1 : h1 200 1 = nI ns := by rw [e1, pv_up_a (by decide)]; exact hn
    rw [hn1, nI_clamp (by omega)]
    refine ⟨vp_in_nI hns (by decide), fun h2 e2 => ?_⟩
    have hn2 : h2 200 1 = nI ns := by rw [e2, pv_up_a (by decide)]; exact hn1
    have k1 := mx_67 (Γ := Γ) (d := d) (kc := 0) (ks := 0) (g := g) (z := z) (Q := pv_jq ty r g (fun w h' => (¬ fo_street x y z → w = -1 ∧ h' = h) ∧ (fo_street x y z → (ns = 8 → w = -3 ∧ h' = h) ∧ (ns < 8 → w = nI ns ∧ h' = fp_street h ns x y z)))) hL hns hn2 (pv_jqi ⟨fun q => absurd ⟨c1, c2, c3⟩ q, fun _ => ⟨fun q => absurd q (by omega), fun _ => ⟨rfl, by rw [e2, e1]; rfl⟩⟩⟩) 144 0 (by omega)
    rw [pf_fill_0] at k1
    exact k1
  · exact pv_jqi ⟨fun q => absurd ⟨c1, c2, c3⟩ q, fun _ => ⟨fun _ => ⟨rfl, rfl⟩, fun q => absurd q (by omega)⟩⟩
end MX
