/-! house: both sides -/
abbrev fo_pl (h : pv_H) (x : Int32) : Prop := ¬ x < 0 ∧ (0 ≤ x / 100 ∧ x / 100 ≤ h 200 1 - 1) ∧ ¬ x - x / 100 * 100 ≤ 0
set_option maxRecDepth 20000 in
set_option maxHeartbeats 4000000 in
theorem sg_X11_isFrontage_0 {Γ : pv_C} {d kc ks : Nat} {ty : pv_T} {h : pv_H} {r : pv_R} {g : pv_G} {Q : pv_Q} (x : Int32) (hd : 1 ≤ d) (hL : pv_Lay ty r) (F : ((x < 0 → Q (some (.int 0)) ty h r g) ∧ (¬ x < 0 → pv_CT Γ (d - 1) 0 0 mX11_findStreet [.ref 100, .int (x / 100)] ty h r g (fun (v1 : Option Value) (ty1 : pv_T) (h1 : pv_H) (r1 : pv_R) (g1 : pv_G) => ∃ w1 : Nat, v1 = some (.ref w1) ∧ pv_Lay ty1 r1 ∧ ((w1 = 0 → Q (some (.int 0)) ty1 h1 r1 g1) ∧ (¬ w1 = 0 → (((x - x / 100 * 100) = 0 → Q (some (.int 0)) ty1 h1 r1 g1) ∧ (¬ (x - x / 100 * 100) = 0 → Q (some (.int 1)) ty1 h1 r1 g1)))))))) : pv_E Γ d kc ks mX11_isFrontage 0 [some (.ref 100), some (.int x)] [] ty h r g Q := by
  refine pv_iload_n dX11_isFrontage_0 rfl ?_
  refine pv_if_lt (tgt := 26) dX11_isFrontage_1 (by decide) (fun c1 => ?_) (fun c1 => ?_)
  · have F := F.1 c1
    refine pv_iconst (v := 0) (by decide) dX11_isFrontage_26 ?_
    exact pv_ireturn dX11_isFrontage_27 rfl (by decide) F
  · have F := F.2 c1
    refine pv_aload_n dX11_isFrontage_4 rfl ?_
    refine pv_iload_n dX11_isFrontage_5 rfl ?_
    refine pv_bipush (v := 100) (by decide) dX11_isFrontage_6 ?_
    refine pv_idiv (by decide) dX11_isFrontage_8 ?_
    refine pv_invV (As := [.int (x / 100)]) (d' := d - 1) dX11_isFrontage_9 moX11_findStreet ml_X11_80 (lt_100 hL) (Or.inl ⟨_, rfl, rfl⟩) (Nat.le_of_ble_eq_true rfl) (by omega) (Nat.zero_le _) (Nat.zero_le _) F (fun v1 ty1 h1 r1 g1 F => ?_) rfl
    obtain ⟨w1, rfl, F⟩ := F
    obtain ⟨hL1, F⟩ := F
    refine pv_pc (pc' := 12) rfl ?_
    show pv_E Γ d kc ks mX11_isFrontage 12 [some (.ref 100), some (.int x)] [.ref w1] ty1 h1 r1 g1 Q
    refine pv_ifnull (tgt := 26) dX11_isFrontage_12 (by decide) (fun c2 => ?_) (fun c2 => ?_)
    · have F := F.1 c2
      refine pv_iconst (v := 0) (by decide) dX11_isFrontage_26 ?_
      exact pv_ireturn dX11_isFrontage_27 rfl (by decide) F
    · have F := F.2 c2
      refine pv_iload_n dX11_isFrontage_15 rfl ?_
      refine pv_bipush (v := 100) (by decide) dX11_isFrontage_16 ?_
      refine pv_irem (by decide) dX11_isFrontage_18 ?_
      refine pv_if_eq (tgt := 26) dX11_isFrontage_19 (by decide) (fun c3 => ?_) (fun c3 => ?_)
      · have F := F.1 c3
        refine pv_iconst (v := 0) (by decide) dX11_isFrontage_26 ?_
        exact pv_ireturn dX11_isFrontage_27 rfl (by decide) F
      · have F := F.2 c3
        refine pv_iconst (v := 1) (by decide) dX11_isFrontage_22 ?_
        refine pv_goto (tgt := 27) dX11_isFrontage_23 (by decide) ?_
        exact pv_ireturn dX11_isFrontage_27 rfl (by decide) F
set_option maxRecDepth 20000 in
set_option maxHeartbeats 4000000 in
theorem sg_X12_isPlace_0 {Γ : pv_C} {d kc ks : Nat} {ty : pv_T} {h : pv_H} {r : pv_R} {g : pv_G} {Q : pv_Q} (x : Int32) (hd : 2 ≤ d) (hL : pv_Lay ty r) (F : ((x < 0 → Q (some (.int 0)) ty h r g) ∧ (¬ x < 0 → (((pf_b (0 ≤ (x / 100) ∧ (x / 100) ≤ h 200 1 - 1)) = 0 → Q (some (.int 0)) ty h r g) ∧ (¬ (pf_b (0 ≤ (x / 100) ∧ (x / 100) ≤ h 200 1 - 1)) = 0 → (((x - x / 100 * 100) ≤ 0 → Q (some (.int 0)) ty h r g) ∧ (¬ (x - x / 100 * 100) ≤ 0 → Q (some (.int 1)) ty h r g))))))) : pv_E Γ d kc ks mX12_isPlace 0 [some (.ref 200), some (.int x)] [] ty h r g Q := by
  refine pv_iload_n dX12_isPlace_0 rfl ?_
  refine pv_if_lt (tgt := 26) dX12_isPlace_1 (by decide) (fun c1 => ?_) (fun c1 => ?_)
  · have F := F.1 c1
    refine pv_iconst (v := 0) (by decide) dX12_isPlace_26 ?_
    exact pv_ireturn dX12_isPlace_27 rfl (by decide) F
  · have F := F.2 c1
    refine pv_aload_n dX12_isPlace_4 rfl ?_
    refine pv_iload_n dX12_isPlace_5 rfl ?_
    refine pv_bipush (v := 100) (by decide) dX12_isPlace_6 ?_
    refine pv_idiv (by decide) dX12_isPlace_8 ?_
    refine pv_invV (As := [.int (x / 100)]) (d' := d - 1) dX12_isPlace_9 moX12_isStreet ml_X12_168 (lt_200 hL) (Or.inl ⟨_, rfl, rfl⟩) (Nat.le_of_ble_eq_true rfl) (by omega) (Nat.zero_le _) (Nat.zero_le _) (ct_X12_isStreet (by omega) hL) (fun v ty' h' r' g' hq => ?_) rfl
    obtain ⟨e1, e2, e3, e4, e5⟩ := hq
    rw [e1, e2, e3, e4, e5]
    refine pv_pc (pc' := 12) rfl ?_
    show pv_E Γ d kc ks mX12_isPlace 12 [some (.ref 200), some (.int x)] [.int (pf_b (0 ≤ (x / 100) ∧ (x / 100) ≤ h 200 1 - 1))] ty h r g Q
    refine pv_if_eq (tgt := 26) dX12_isPlace_12 (by decide) (fun c2 => ?_) (fun c2 => ?_)
    · have F := F.1 c2
      refine pv_iconst (v := 0) (by decide) dX12_isPlace_26 ?_
      exact pv_ireturn dX12_isPlace_27 rfl (by decide) F
    · have F := F.2 c2
      refine pv_iload_n dX12_isPlace_15 rfl ?_
      refine pv_bipush (v := 100) (by decide) dX12_isPlace_16 ?_
      refine pv_irem (by decide) dX12_isPlace_18 ?_
      refine pv_if_le (tgt := 26) dX12_isPlace_19 (by decide) (fun c3 => ?_) (fun c3 => ?_)
      · have F := F.1 c3
        refine pv_iconst (v := 0) (by decide) dX12_isPlace_26 ?_
        exact pv_ireturn dX12_isPlace_27 rfl (by decide) F
      · have F := F.2 c3
        refine pv_iconst (v := 1) (by decide) dX12_isPlace_22 ?_
        refine pv_goto (tgt := 27) dX12_isPlace_23 (by decide) ?_
        exact pv_ireturn dX12_isPlace_27 rfl (by decide) F
set_option maxRecDepth 20000 in
set_option maxHeartbeats 4000000 in
theorem sg_X11_findHouse_0 {Γ : pv_C} {d kc ks : Nat} {ty : pv_T} {h : pv_H} {r : pv_R} {g : pv_G} {Q : pv_Q} (x : Int32) (hL : pv_Lay ty r) (F : ((x < 0 → Q (some (.ref 0)) ty h r g) ∧ (¬ x < 0 → (((h 100 8) ≤ x → Q (some (.ref 0)) ty h r g) ∧ (¬ (h 100 8) ≤ x → vp_in x 60 ∧ Q (some (.ref (r 117 (Int32.toNatClampNeg x)))) ty h r g))))) : pv_E Γ d kc ks mX11_findHouse 0 [some (.ref 100), some (.int x)] [] ty h r g Q := by
  refine pv_iload_n dX11_findHouse_0 rfl ?_
  refine pv_if_lt (tgt := 21) dX11_findHouse_1 (by decide) (fun c1 => ?_) (fun c1 => ?_)
  · have F := F.1 c1
    refine pv_null dX11_findHouse_21 ?_
    exact pv_areturn dX11_findHouse_22 rfl (by first | exact Or.inl ⟨_, rfl⟩ | exact Or.inr ⟨_, rfl⟩) F
  · have F := F.2 c1
    refine pv_iload_n dX11_findHouse_4 rfl ?_
    refine pv_aload_n dX11_findHouse_5 rfl ?_
    refine pv_getI 11 8 dX11_findHouse_6 fl_X11_182 rfl (lt_100 hL) ?_
    refine pv_icmp_ge (tgt := 21) dX11_findHouse_9 (by decide) (fun c2 => ?_) (fun c2 => ?_)
    · have F := F.1 c2
      refine pv_null dX11_findHouse_21 ?_
      exact pv_areturn dX11_findHouse_22 rfl (by first | exact Or.inl ⟨_, rfl⟩ | exact Or.inr ⟨_, rfl⟩) F
    · have F := F.2 c2
      refine pv_aload_n dX11_findHouse_12 rfl ?_
      refine pv_getRk 11 7 dX11_findHouse_13 fl_X11_45 rfl (lt_100 hL) (lr_100_7 hL) ?_
      refine pv_iload_n dX11_findHouse_16 rfl ?_
      obtain ⟨q1, F⟩ := F
      refine pv_aald dX11_findHouse_17 (lt_117 hL) (by decide) q1 ?_
      refine pv_goto (tgt := 22) dX11_findHouse_18 (by decide) ?_
      exact pv_areturn dX11_findHouse_22 rfl (by first | exact Or.inl ⟨_, rfl⟩ | exact Or.inr ⟨_, rfl⟩) F
set_option maxRecDepth 20000 in
set_option maxHeartbeats 4000000 in
theorem sg_X12_isHouse_0 {Γ : pv_C} {d kc ks : Nat} {ty : pv_T} {h : pv_H} {r : pv_R} {g : pv_G} {Q : pv_Q} (x : Int32) (hd : 1 ≤ d) (hL : pv_Lay ty r) (F : (narrow .boolean (.int (pf_b (0 ≤ x ∧ x ≤ ((h 200 33) - 1)))) = .int (pf_b (0 ≤ x ∧ x ≤ ((h 200 33) - 1))) ∧ Q (some (.int (pf_b (0 ≤ x ∧ x ≤ ((h 200 33) - 1))))) ty h r g)) : pv_E Γ d kc ks mX12_isHouse 0 [some (.ref 200), some (.int x)] [] ty h r g Q := by
  refine pv_iload_n dX12_isHouse_0 rfl ?_
  refine pv_iconst (v := 0) (by decide) dX12_isHouse_1 ?_
  refine pv_aload_n dX12_isHouse_2 rfl ?_
  refine pv_getI 12 33 dX12_isHouse_3 fl_X12_234 rfl (lt_200 hL) ?_
  refine pv_iconst (v := 1) (by decide) dX12_isHouse_6 ?_
  refine pv_isub dX12_isHouse_7 ?_
  refine pv_pc (pc' := 8) rfl ?_
  refine pv_invS (As := [.int x, .int 0, .int ((h 200 33) - 1)]) (d' := d - 1) dX12_isHouse_8 moX12_in ml_X12_164 (Nat.le_of_ble_eq_true rfl) (by omega) (Nat.zero_le _) (Nat.zero_le _) (ct_X12_in (by omega)) (fun v ty' h' r' g' hq => ?_) rfl
  obtain ⟨e1, e2, e3, e4, e5⟩ := hq
  rw [e1, e2, e3, e4, e5]
  refine pv_pc (pc' := 11) rfl ?_
  show pv_E Γ d kc ks mX12_isHouse 11 [some (.ref 200), some (.int x)] [.int (pf_b (0 ≤ x ∧ x ≤ ((h 200 33) - 1)))] ty h r g Q
  exact pv_ireturn dX12_isHouse_11 rfl F.1 F.2
section HA
variable {Γ : pv_C} {d : Nat} {ty : pv_T} {h : pv_H} {r : pv_R} {g : pv_G} {x : Int32}
theorem ct_X12_isHouse (hd : 1 ≤ d) (hL : pv_Lay ty r) : pv_CT Γ d 0 0 mX12_isHouse [.ref 200, .int x] ty h r g (pv_is (.int (pf_b (0 ≤ x ∧ x ≤ h 200 33 - 1))) ty h r g) := pv_fn 0 pn_X12 rfl (Nat.le_of_ble_eq_true rfl) (sg_X12_isHouse_0 x hd hL ⟨pf_b_n, pv_is_refl _ _ _ _ _⟩)
theorem ct_X12_isPlace (hd : 2 ≤ d) (hL : pv_Lay ty r) : pv_CT Γ d 0 0 mX12_isPlace [.ref 200, .int x] ty h r g (pv_is (.int (pf_b (fo_pl h x))) ty h r g) := by
  refine pv_fn 0 pn_X12 rfl (Nat.le_of_ble_eq_true rfl) (sg_X12_isPlace_0 x (by omega) hL ⟨fun c => ?_, fun c => pk_b (fun c2 => ⟨fun c3 => ?_, fun c3 => ?_⟩) (fun c2 => ?_)⟩)
  · rw [pf_b_f (fun q => q.1 c)]; exact pv_is_refl _ _ _ _ _
  · rw [pf_b_f (fun q => q.2.2 c3)]; exact pv_is_refl _ _ _ _ _
  · rw [pf_b_t ⟨c, c2, c3⟩]; exact pv_is_refl _ _ _ _ _
  · rw [pf_b_f (fun q => c2 q.2.1)]; exact pv_is_refl _ _ _ _ _
theorem pl_rem (c : ¬ x < 0) : x - x / 100 * 100 = 0 ↔ x - x / 100 * 100 ≤ 0 := by
  obtain ⟨n, hn, rfl⟩ := nI_of c
  have e : nI n - nI n / 100 * 100 = nI (n % 100) := by
    rw [show (100 : Int32) = nI 100 from rfl, pk_div hn (by decide) (by decide), pk_mul, pk_sub (by have := Nat.div_mul_le_self n 100; omega)]
    congr 1
    omega
  rw [e, show (0 : Int32) = nI 0 from rfl, nI_eq (by omega) (by decide), nI_leI (by omega) (by decide)]
  omega
theorem ct_X11_isFrontage (hd : 1 ≤ d) (hL : pv_Lay ty r) (hS : ∃ ns, cpS ty h r ns) : pv_CT Γ d 0 0 mX11_isFrontage [.ref 100, .int x] ty h r g (pv_is (.int (pf_b (fo_pl h x))) ty h r g) := by
  obtain ⟨ns, hI⟩ := hS
  have hn := hI.1.1
  refine pv_fn 0 pn_X11 rfl (Nat.le_of_ble_eq_true rfl) (sg_X11_isFrontage_0 x (by omega) hL ⟨fun c => ?_, fun c => ct_find hL hI (fun hf => ⟨_, rfl, hL, fun _ => ?_, fun q => absurd rfl q⟩) (fun s hs e => ⟨_, rfl, hL, fun q => absurd q (cA_ne s), fun _ => ⟨fun c3 => ?_, fun c3 => ?_⟩⟩)⟩)
  · rw [pf_b_f (fun q => q.1 c)]; exact pv_is_refl _ _ _ _ _
  · rw [pf_b_f (fun q => hf q.2.1)]; exact pv_is_refl _ _ _ _ _
  · rw [pf_b_f (fun q => q.2.2 ((pl_rem c).mp c3))]; exact pv_is_refl _ _ _ _ _
  · rw [pf_b_t ⟨c, by rw [hI.1.2.1, ni_valid (by omega)]; exact ⟨s, hs, e⟩, fun q => c3 ((pl_rem c).mpr q)⟩]; exact pv_is_refl _ _ _ _ _
end HA
