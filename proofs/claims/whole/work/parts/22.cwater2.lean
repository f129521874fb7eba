/-! the class: endOfWater, Flow -/
theorem pl_inj {R C : Nat} {p q : Nat × Nat} (hR : R ≤ 16) (hC : C ≤ 9) (hp : wt_on R C p) (hq : wt_on R C q) (h : pl C p = pl C q) : p = q := by
  have h1 := pl_lt hp
  have h2 := pl_lt hq
  have h3 := pl_b hR hC
  have e := (nI_eq (by omega) (by omega)).mp h
  have a1 := st_at (a := p.1) hp.2
  have a2 := st_at (a := q.1) hq.2
  rw [e] at a1
  have b1 := a1.1.symm.trans a2.1
  have b2 := a1.2.symm.trans a2.2
  exact Prod.ext b1 b2
abbrev cNx (h : pv_H) (a R C : Nat) (p : Nat × Nat) : Nat × Nat := wt_nx R C (cH h a C) (cD h a C) p
abbrev cEnd (h : pv_H) (a R C : Nat) (p : Nat × Nat) : Nat × Nat := wt_end R C (cH h a C) (cD h a C) p
section CE
variable {Γ : pv_C} {d kc ks : Nat} {ty : pv_T} {h : pv_H} {r : pv_R} {g : pv_G} {Q : pv_Q} {a R C : Nat}
theorem ce_4 (hd : 4 ≤ d) (hS : cStr ty h r a R C) {p : Nat × Nat} (hp : wt_on R C p) (hQ : Q (some (.int (pl C (cEnd h a R C p)))) ty h r g) : ∀ (m k : Nat), k + m = 144 → pv_E Γ d kc ks mX8_endOfWater 4 [some (.ref a), none, some (.int (pl C (wt_it (cNx h a R C) k p))), some (.int (nI k)), none] [] ty h r g Q := by
  intro m
  have e144 : (144 : Int32) = nI 144 := rfl
  have hok := hS.2.2.2.2.2.2.2.2
  have hRb := hS.2.2.2.2.1
  have hCb := hS.2.2.2.2.2.1
  induction m with
  | zero =>
    intro k hk
    refine sg_X8_endOfWater_4 a _ _ (by omega) ?_
    rw [e144, nI_leI (by omega) (by omega)]
    refine ⟨fun _ => ?_, fun c1 => absurd (by omega) c1⟩
    have e1 := wt_end_ge (D := cD h a C) hok hp (m := k) (by omega)
    have e2 : wt_it (cNx h a R C) k p = cEnd h a R C p := e1
    rw [e2]; exact hQ
  | succ m ih =>
    intro k hk
    refine sg_X8_endOfWater_4 a _ _ (by omega) ?_
    rw [e144, nI_leI (by omega) (by omega)]
    have hk' : wt_on R C (wt_it (cNx h a R C) k p) := wt_it_on k hp
    refine ⟨fun c1 => absurd c1 (by omega), fun _ => ⟨hS.2.1, pv_CT.use (ct_X8_nextOfWater (by omega) hS hk') ⟨_, rfl, fun c1 => ?_, fun c1 => ?_⟩⟩⟩
    · have e1 : wt_nx R C (cH h a C) (cD h a C) (wt_it (cNx h a R C) k p) = wt_it (cNx h a R C) (k + 1) p := (wt_it_s (cNx h a R C) k p).symm
      rw [e1, nI_1]
      exact ih (k + 1) (by omega)
    · have e1 : cNx h a R C (wt_it (cNx h a R C) k p) = wt_it (cNx h a R C) k p := pl_inj hRb.2 hCb.2 (wt_nx_on hk') hk' c1
      have e2 : wt_it (cNx h a R C) k p = cEnd h a R C p := wt_end_of hok hp e1
      rw [e2]; exact hQ
theorem ct_X8_endOfWater (hd : 4 ≤ d) (hS : cStr ty h r a R C) {p : Nat × Nat} (hp : wt_on R C p) : pv_CT Γ d 0 0 mX8_endOfWater [.ref a, .int (pl C p)] ty h r g (pv_is (.int (pl C (cEnd h a R C p))) ty h r g) :=
  pv_fn 3 pn_X8 rfl (Nat.le_of_ble_eq_true rfl) (sg_X8_endOfWater_0 a _ (ce_4 hd hS hp (pv_is_refl _ _ _ _ _) 144 0 (by omega)))
end CE
set_option maxRecDepth 20000 in
set_option maxHeartbeats 4000000 in
theorem sg_X2_findEnds_0 {Γ : pv_C} {d kc ks : Nat} {ty : pv_T} {h : pv_H} {r : pv_R} {g : pv_G} {Q : pv_Q} (x : Nat) (F : pv_E Γ d kc ks mX2_findEnds 2 [some (.ref 30), some (.ref x), some (.int 0), none] [] ty h r g Q) : pv_E Γ d kc ks mX2_findEnds 0 [some (.ref 30), some (.ref x), none, none] [] ty h r g Q := by
  refine pv_iconst (v := 0) (by decide) dX2_findEnds_0 ?_
  refine pv_istore_n (ls' := [some (.ref 30), some (.ref x), some (.int 0), none]) dX2_findEnds_1 (by decide) rfl rfl ?_
  exact F
set_option maxRecDepth 20000 in
set_option maxHeartbeats 4000000 in
theorem sg_X2_findEnds_2 {Γ : pv_C} {d kc ks : Nat} {ty : pv_T} {h : pv_H} {r : pv_R} {g : pv_G} {Q : pv_Q} (a1 : Nat) (x2 : Int32) (hd : 1 ≤ d) (hL : pv_Lay ty r) (F : ty a1 = some (8, 0) ∧ (∃ k1 n1 : Nat, ty (r a1 2) = some (k1, n1) ∧ (20 ≤ k1 ∧ k1 ≤ 27) ∧ (((nI n1) ≤ x2 → pv_E Γ d kc ks mX2_findEnds 30 [some (.ref 30), some (.ref a1), some (.int 1), none] [] ty h r g Q) ∧ (¬ (nI n1) ≤ x2 → ty a1 = some (8, 0) ∧ pv_CT Γ (d - 1) 0 0 mX8_nextOfWater [.ref a1, .int x2] ty h r g (fun (v1 : Option Value) (ty1 : pv_T) (h1 : pv_H) (r1 : pv_R) (g1 : pv_G) => ∃ w1 : Int32, v1 = some (.int w1) ∧ pv_Lay ty1 r1 ∧ vp_in x2 144 ∧ (∀ h2 : pv_H, h2 = pv_up h1 31 (Int32.toNatClampNeg x2) w1 → pv_E Γ d kc ks mX2_findEnds 2 [some (.ref 30), some (.ref a1), some (.int (x2 + 1)), none] [] ty1 h2 r1 g1 Q)))))) : pv_E Γ d kc ks mX2_findEnds 2 [some (.ref 30), some (.ref a1), some (.int x2), none] [] ty h r g Q := by
  refine pv_iload_n dX2_findEnds_2 rfl ?_
  refine pv_aload_n dX2_findEnds_3 rfl ?_
  obtain ⟨q1, F⟩ := F
  refine pv_getR 8 2 dX2_findEnds_4 fl_X2_22 rfl q1 ?_
  obtain ⟨k1, n1, q2, q2k, F⟩ := F
  refine pv_alen dX2_findEnds_7 q2 q2k ?_
  refine pv_icmp_ge (tgt := 28) dX2_findEnds_8 (by decide) (fun c1 => ?_) (fun c1 => ?_)
  · have F := F.1 c1
    refine pv_iconst (v := 1) (by decide) dX2_findEnds_28 ?_
    refine pv_istore_n (ls' := [some (.ref 30), some (.ref a1), some (.int 1), none]) dX2_findEnds_29 (by decide) rfl rfl ?_
    exact F
  · have F := F.2 c1
    refine pv_aload_n dX2_findEnds_11 rfl ?_
    refine pv_getRk 2 0 dX2_findEnds_12 fl_X2_9 rfl (lt_30 hL) (lr_30_0 hL) ?_
    refine pv_iload_n dX2_findEnds_15 rfl ?_
    refine pv_aload_n dX2_findEnds_16 rfl ?_
    refine pv_iload_n dX2_findEnds_17 rfl ?_
    obtain ⟨q3, F⟩ := F
    refine pv_invV (As := [.int x2]) (d' := d - 1) dX2_findEnds_18 moX8_nextOfWater ml_X2_42 q3 (Or.inl ⟨_, rfl, rfl⟩) (Nat.le_of_ble_eq_true rfl) (by omega) (Nat.zero_le _) (Nat.zero_le _) F (fun v1 ty1 h1 r1 g1 F => ?_) rfl
    obtain ⟨w1, rfl, F⟩ := F
    obtain ⟨hL1, F⟩ := F
    refine pv_pc (pc' := 21) rfl ?_
    show pv_E Γ d kc ks mX2_findEnds 21 [some (.ref 30), some (.ref a1), some (.int x2), none] [.int w1, .int x2, .ref 31] ty1 h1 r1 g1 Q
    obtain ⟨q4, F⟩ := F
    obtain ⟨h2, eh2⟩ : ∃ h2 : pv_H, h2 = pv_up h1 31 (Int32.toNatClampNeg x2) w1 := ⟨_, rfl⟩
    have F := F h2 eh2
    refine pv_iast dX2_findEnds_21 (lt_31 hL1) (by decide) q4 ?_
    refine pv_hE eh2 ?_
    refine pv_iinc (v := x2 + 1) (ls' := [some (.ref 30), some (.ref a1), some (.int (x2 + 1)), none]) dX2_findEnds_22 rfl (by rfl) rfl rfl ?_
    refine pv_goto (tgt := 2) dX2_findEnds_25 (by decide) ?_
    exact F
set_option maxRecDepth 20000 in
set_option maxHeartbeats 4000000 in
theorem sg_X2_findEnds_30 {Γ : pv_C} {d kc ks : Nat} {ty : pv_T} {h : pv_H} {r : pv_R} {g : pv_G} {Q : pv_Q} (a1 : Nat) (x2 : Int32) (F : ((144 ≤ x2 → Q none ty h r g) ∧ (¬ 144 ≤ x2 → pv_E Γ d kc ks mX2_findEnds 39 [some (.ref 30), some (.ref a1), some (.int x2), some (.int 0)] [] ty h r g Q))) : pv_E Γ d kc ks mX2_findEnds 30 [some (.ref 30), some (.ref a1), some (.int x2), none] [] ty h r g Q := by
  refine pv_iload_n dX2_findEnds_30 rfl ?_
  refine pv_sipush (v := 144) (by decide) dX2_findEnds_31 ?_
  refine pv_icmp_ge (tgt := 78) dX2_findEnds_34 (by decide) (fun c1 => ?_) (fun c1 => ?_)
  · have F := F.1 c1
    exact pv_return dX2_findEnds_78 rfl F
  · have F := F.2 c1
    refine pv_iconst (v := 0) (by decide) dX2_findEnds_37 ?_
    refine pv_istore_n (ls' := [some (.ref 30), some (.ref a1), some (.int x2), some (.int 0)]) dX2_findEnds_38 (by decide) rfl rfl ?_
    exact F
set_option maxRecDepth 20000 in
set_option maxHeartbeats 4000000 in
theorem sg_X2_findEnds_39 {Γ : pv_C} {d kc ks : Nat} {ty : pv_T} {h : pv_H} {r : pv_R} {g : pv_G} {Q : pv_Q} (a1 : Nat) (x2 : Int32) (x3 : Int32) (hL : pv_Lay ty r) (F : ty a1 = some (8, 0) ∧ (∃ k1 n1 : Nat, ty (r a1 2) = some (k1, n1) ∧ (20 ≤ k1 ∧ k1 ≤ 27) ∧ (((nI n1) ≤ x3 → pv_E Γ d kc ks mX2_findEnds 30 [some (.ref 30), some (.ref a1), some (.int (x2 * 2)), none] [] ty h r g Q) ∧ (¬ (nI n1) ≤ x3 → vp_in x3 144 ∧ vp_in (h 31 (Int32.toNatClampNeg x3)) 144 ∧ vp_in x3 144 ∧ (∀ h1 : pv_H, h1 = pv_up h 31 (Int32.toNatClampNeg x3) (h 31 (Int32.toNatClampNeg (h 31 (Int32.toNatClampNeg x3)))) → pv_E Γ d kc ks mX2_findEnds 39 [some (.ref 30), some (.ref a1), some (.int x2), some (.int (x3 + 1))] [] ty h1 r g Q))))) : pv_E Γ d kc ks mX2_findEnds 39 [some (.ref 30), some (.ref a1), some (.int x2), some (.int x3)] [] ty h r g Q := by
  refine pv_iload_n dX2_findEnds_39 rfl ?_
  refine pv_aload_n dX2_findEnds_40 rfl ?_
  obtain ⟨q1, F⟩ := F
  refine pv_getR 8 2 dX2_findEnds_41 fl_X2_22 rfl q1 ?_
  obtain ⟨k1, n1, q2, q2k, F⟩ := F
  refine pv_alen dX2_findEnds_44 q2 q2k ?_
  refine pv_icmp_ge (tgt := 71) dX2_findEnds_45 (by decide) (fun c1 => ?_) (fun c1 => ?_)
  · have F := F.1 c1
    refine pv_iload_n dX2_findEnds_71 rfl ?_
    refine pv_iconst (v := 2) (by decide) dX2_findEnds_72 ?_
    refine pv_imul dX2_findEnds_73 ?_
    refine pv_istore_n (ls' := [some (.ref 30), some (.ref a1), some (.int (x2 * 2)), some (.int x3)]) dX2_findEnds_74 (by decide) rfl rfl ?_
    refine pv_goto (tgt := 30) dX2_findEnds_75 (by decide) ?_
    refine pv_forgetL (ls' := [some (.ref 30), some (.ref a1), some (.int (x2 * 2)), none]) (pv_subL_ok ⟨rfl, ⟨rfl, ⟨rfl, trivial⟩⟩⟩) ?_
    exact F
  · have F := F.2 c1
    refine pv_aload_n dX2_findEnds_48 rfl ?_
    refine pv_getRk 2 0 dX2_findEnds_49 fl_X2_9 rfl (lt_30 hL) (lr_30_0 hL) ?_
    refine pv_iload_n dX2_findEnds_52 rfl ?_
    refine pv_aload_n dX2_findEnds_53 rfl ?_
    refine pv_getRk 2 0 dX2_findEnds_54 fl_X2_9 rfl (lt_30 hL) (lr_30_0 hL) ?_
    refine pv_aload_n dX2_findEnds_57 rfl ?_
    refine pv_pc (pc' := 58) rfl ?_
    refine pv_getRk 2 0 dX2_findEnds_58 fl_X2_9 rfl (lt_30 hL) (lr_30_0 hL) ?_
    refine pv_iload_n dX2_findEnds_61 rfl ?_
    obtain ⟨q3, F⟩ := F
    refine pv_iald dX2_findEnds_62 (lt_31 hL) q3 ?_
    obtain ⟨q4, F⟩ := F
    refine pv_iald dX2_findEnds_63 (lt_31 hL) q4 ?_
    obtain ⟨q5, F⟩ := F
    obtain ⟨h1, eh1⟩ : ∃ h1 : pv_H, h1 = pv_up h 31 (Int32.toNatClampNeg x3) (h 31 (Int32.toNatClampNeg (h 31 (Int32.toNatClampNeg x3)))) := ⟨_, rfl⟩
    have F := F h1 eh1
    refine pv_iast dX2_findEnds_64 (lt_31 hL) (by decide) q5 ?_
    refine pv_hE eh1 ?_
    refine pv_iinc (v := x3 + 1) (ls' := [some (.ref 30), some (.ref a1), some (.int x2), some (.int (x3 + 1))]) dX2_findEnds_65 rfl (by rfl) rfl rfl ?_
    refine pv_goto (tgt := 39) dX2_findEnds_68 (by decide) ?_
    exact F
