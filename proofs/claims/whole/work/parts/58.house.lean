/-! house: both sides -/
abbrev fo_pl (h : pv_H) (x : Int32) : Prop := ¬ x < 0 ∧ (0 ≤ x / 100 ∧ x / 100 ≤ h 200 1 - 1) ∧ ¬ x - x / 100 * 100 ≤ 0
set_option maxRecDepth 20000 in
set_option maxHeartbeats 4000000 in
theorem sg_X11_isFrontage_0 {Γ : pv_C} {d kc ks : Nat} {ty : pv_T} {h : pv_H} {r : pv_R} {g : pv_G} {Q : pv_Q} (x : Int32) (hd : 1 ≤ d) (hL : pv_Lay ty r) (F : ((x < 0 → Q (some (.int 0)) ty h r g) ∧ (¬ x < 0 → pv_CT Γ (d - 1) 0 0 mX11_findStreet [.ref 100, .int (x / 100)] ty h r g (fun (v1 : Option Value) (ty1 : pv_T) (h1 : pv_H) (r1 : pv_R) (g1 : pv_G) => ∃ w1 : Nat, v1 = some (.ref w1) ∧ pv_Lay ty1 r1 ∧ ((w1 = 0 → Q (some (.int 0)) ty1 h1 r1 g1) ∧ (¬ w1 = 0 → (((x - x / 100 * 100) = 0 → Q (some (.int 0)) ty1 h1 r1 g1) ∧ (¬ (x - x / 100 * 100) = 0 → Q (some (.int 1)) ty1 h1 r1 g1)))))))) : pv_E Γ d kc ks mX11_isFrontage 0 [some (.ref 100), some (.int x)] [] ty h r g Q := by
  refine pv_iload_n dX11_isFrontage_0 rfl ?_
  refine pv_if_lt (tgt := 26) dX11_isFrontage_1 (by decide) (fun c1 => ?_) (fun c1 => ?_)
  · have F := F.1 c1
    refine pv_iconst (v := 0) (by decide) dX11_isFrontage_26 ?_
    exact pv_ireturn dX11_isFrontage_27 rfl (by decide) F
  · have F := F.2 c1
    refine pv_aload_n dX11_isFrontage_4 rfl ?_
    refine pv_iload_n dX11_isFrontage_5 rfl ?_
    refine pv_bipush (v := 100) (by decide) dX11_isFrontage_6 ?_
    refine pv_idiv (by decide) dX11_isFrontage_8 ?_
    refine pv_invV (As := [.int (x / 100)]) (d' := d - 1) dX11_isFrontage_9 moX11_findStreet ml_X11_80 (lt_100 hL) (Or.inl ⟨_, rfl, rfl⟩) (Nat.le_of_ble_eq_true rfl) (by omega) (Nat.zero_le _) (Nat.zero_le _) F (fun v1 ty1 h1 r1 g1 F => ?_) rfl
    obtain ⟨w1, rfl, F⟩ := F
    obtain ⟨hL1, F⟩ := F
    refine pv_pc (pc' := 12) rfl ?_
    show pv_E Γ d kc ks mX11_isFrontage 12 [some (.ref 100), some (.int x)] [.ref w1] ty1 h1 r1 g1 Q
    refine pv_ifnull (tgt := 26) dX11_isFrontage_12 (by decide) (fun c2 => ?_) (fun c2 => ?_)
    · have F := F.1 c2
      refine pv_iconst (v := 0) (by decide) dX11_isFrontage_26 ?_
      exact pv_ireturn dX11_isFrontage_27 rfl (by decide) F
    · have F := F.2 c2
      refine pv_iload_n dX11_isFrontage_15 rfl ?_
      refine pv_bipush (v := 100) (by decide) dX11_isFrontage_16 ?_
      refine pv_irem (by decide) dX11_isFrontage_18 ?_
      refine pv_if_eq (tgt := 26) dX11_isFrontage_19 (by decide) (fun c3 => ?_) (fun c3 => ?_)
      · have F := F.1 c3
        refine pv_iconst (v := 0) (by decide) dX11_isFrontage_26 ?_
        exact pv_ireturn dX11_isFrontage_27 rfl (by decide) F
      · have F := F.2 c3
        refine pv_iconst (v := 1) (by decide) dX11_isFrontage_22 ?_
        refine pv_goto (tgt := 27) dX11_isFrontage_23 (by decide) ?_
        exact pv_ireturn dX11_isFrontage_27 rfl (by decide) F
set_option maxRecDepth 20000 in
set_option maxHeartbeats 4000000 in
theorem sg_X12_isPlace_0 {Γ : pv_C} {d kc ks : Nat} {ty : pv_T} {h : pv_H} {r : pv_R} {g : pv_G} {Q : pv_Q} (x : Int32) (hd : 2 ≤ d) (hL : pv_Lay ty r) (F : ((x < 0 → Q (some (.int 0)) ty h r g) ∧ (¬ x < 0 → (((pf_b (0 ≤ (x / 100) ∧ (x / 100) ≤ h 200 1 - 1)) = 0 → Q (some (.int 0)) ty h r g) ∧ (¬ (pf_b (0 ≤ (x / 100) ∧ (x / 100) ≤ h 200 1 - 1)) = 0 → (((x - x / 100 * 100) ≤ 0 → Q (some (.int 0)) ty h r g) ∧ (¬ (x - x / 100 * 100) ≤ 0 → Q (some (.int 1)) ty h r g))))))) : pv_E Γ d kc ks mX12_isPlace 0 [some (.ref 200), some (.int x)] [] ty h r g Q := by
  refine pv_iload_n dX12_isPlace_0 rfl ?_
  refine pv_if_lt (tgt := 26) dX12_isPlace_1 (by decide) (fun c1 => ?_) (fun c1 => ?_)
  · have F := F.1 c1
    refine pv_iconst (v := 0) (by decide) dX12_isPlace_26 ?_
    exact pv_ireturn dX12_isPlace_27 rfl (by decide) F
  · have F := F.2 c1
    refine pv_aload_n dX12_isPlace_4 rfl ?_
    refine pv_iload_n dX12_isPlace_5 rfl ?_
    refine pv_bipush (v := 100) (by decide) dX12_isPlace_6 ?_
    refine pv_idiv (by decide) dX12_isPlace_8 ?_
    refine pv_invV (As := [.int (x / 100)]) (d' := d - 1) dX12_isPlace_9 moX12_isStreet ml_X12_168 (lt_200 hL) (Or.inl ⟨_, rfl, rfl⟩) (Nat.le_of_ble_eq_true rfl) (by omega) (Nat.zero_le _) (Nat.zero_le _) (ct_X12_isStreet (by omega) hL) (fun v ty' h' r' g' hq => ?_) rfl
    obtain ⟨e1, e2, e3, e4, e5⟩ := hq
    rw [e1, e2, e3, e4, e5]
    refine pv_pc (pc' := 12) rfl ?_
    show pv_E Γ d kc ks mX12_isPlace 12 [some (.ref 200), some (.int x)] [.int (pf_b (0 ≤ (x / 100) ∧ (x / 100) ≤ h 200 1 - 1))] ty h r g Q
    refine pv_if_eq (tgt := 26) dX12_isPlace_12 (by decide) (fun c2 => ?_) (fun c2 => ?_)
    · have F := F.1 c2
      refine pv_iconst (v := 0) (by decide) dX12_isPlace_26 ?_
      exact pv_ireturn dX12_isPlace_27 rfl (by decide) F
    · have F := F.2 c2
      refine pv_iload_n dX12_isPlace_15 rfl ?_
      refine pv_bipush (v := 100) (by decide) dX12_isPlace_16 ?_
      refine pv_irem (by decide) dX12_isPlace_18 ?_
      refine pv_if_le (tgt := 26) dX12_isPlace_19 (by decide) (fun c3 => ?_) (fun c3 => ?_)
      · have F := F.1 c3
        refine pv_iconst (v := 0) (by decide) dX12_isPlace_26 ?_
        exact pv_ireturn dX12_isPlace_27 rfl (by decide) F
      · have F := F.2 c3
        refine pv_iconst (v := 1) (by decide) dX12_isPlace_22 ?_
        refine pv_goto (tgt := 27) dX12_isPlace_23 (by decide) ?_
        exact pv_ireturn dX12_isPlace_27 rfl (by decide) F
set_option maxRecDepth 20000 in
set_option maxHeartbeats 4000000 in
theorem sg_X11_findHouse_0 {Γ : pv_C} {d kc ks : Nat} {ty : pv_T} {h : pv_H} {r : pv_R} {g : pv_G} {Q : pv_Q} (x : Int32) (hL : pv_Lay ty r) (F : ((x < 0 → Q (some (.ref 0)) ty h r g) ∧ (¬ x < 0 → (((h 100 8) ≤ x → Q (some (.ref 0)) ty h r g) ∧ (¬ (h 100 8) ≤ x → vp_in x 60 ∧ Q (some (.ref (r 117 (Int32.toNatClampNeg x)))) ty h r g))))) : pv_E Γ d kc ks mX11_findHouse 0 [some (.ref 100), some (.int x)] [] ty h r g Q := by
  refine pv_iload_n dX11_findHouse_0 rfl ?_
  refine pv_if_lt (tgt := 21) dX11_findHouse_1 (by decide) (fun c1 => ?_) (fun c1 => ?_)
  · have F := F.1 c1
    refine pv_null dX11_findHouse_21 ?_
    exact pv_areturn dX11_findHouse_22 rfl (by first | exact Or.inl ⟨_, rfl⟩ | exact Or.inr ⟨_, rfl⟩) F
  · have F := F.2 c1
    refine pv_iload_n dX11_findHouse_4 rfl ?_
    refine pv_aload_n dX11_findHouse_5 rfl ?_
    refine pv_getI 11 8 dX11_findHouse_6 fl_X11_182 rfl (lt_100 hL) ?_
    refine pv_icmp_ge (tgt := 21) dX11_findHouse_9 (by decide) (fun c2 => ?_) (fun c2 => ?_)
    · have F := F.1 c2
      refine pv_null dX11_findHouse_21 ?_
      exact pv_areturn dX11_findHouse_22 rfl (by first | exact Or.inl ⟨_, rfl⟩ | exact Or.inr ⟨_, rfl⟩) F
    · have F := F.2 c2
      refine pv_aload_n dX11_findHouse_12 rfl ?_
      refine pv_getRk 11 7 dX11_findHouse_13 fl_X11_45 rfl (lt_100 hL) (lr_100_7 hL) ?_
      refine pv_iload_n dX11_findHouse_16 rfl ?_
      obtain ⟨q1, F⟩ := F
      refine pv_aald dX11_findHouse_17 (lt_117 hL) (by decide) q1 ?_
      refine pv_goto (tgt := 22) dX11_findHouse_18 (by decide) ?_
      exact pv_areturn dX11_findHouse_22 rfl (by first | exact Or.inl ⟨_, rfl⟩ | exact Or.inr ⟨_, rfl⟩) F
set_option maxRecDepth 20000 in
set_option maxHeartbeats 4000000 in
theorem sg_X12_isHouse_0 {Γ : pv_C} {d kc ks : Nat} {ty : pv_T} {h : pv_H} {r : pv_R} {g : pv_G} {Q : pv_Q} (x : Int32) (hd : 1 ≤ d) (hL : pv_Lay ty r) (F : (narrow .boolean (.int (pf_b (0 ≤ x ∧ x ≤ ((h 200 33) - 1)))) = .int (pf_b (0 ≤ x ∧ x ≤ ((h 200 33) - 1))) ∧ Q (some (.int (pf_b (0 ≤ x ∧ x ≤ ((h 200 33) - 1))))) ty h r g)) : pv_E Γ d kc ks mX12_isHouse 0 [some (.ref 200), some (.int x)] [] ty h r g Q := by
  refine pv_iload_n dX12_isHouse_0 rfl ?_
  refine pv_iconst (v := 0) (by decide) dX12_isHouse_1 ?_
  refine pv_aload_n dX12_isHouse_2 rfl ?_
  refine pv_getI 12 33 dX12_isHouse_3 fl_X12_234 rfl (lt_200 hL) ?_
  refine pv_iconst (v := 1) (by decide) dX12_isHouse_6 ?_
  refine pv_isub dX12_isHouse_7 ?_
  refine pv_pc (pc' := 8) rfl ?_
  refine pv_invS (As := [.int x, .int 0, .int ((h 200 33) - 1)]) (d' := d - 1) dX12_isHouse_8 moX12_in ml_X12_164 (Nat.le_of_ble_eq_true rfl) (by omega) (Nat.zero_le _) (Nat.zero_le _) (ct_X12_in (by omega)) (fun v ty' h' r' g' hq => ?_) rfl
  obtain ⟨e1, e2, e3, e4, e5⟩ := hq
  rw [e1, e2, e3, e4, e5]
  refine pv_pc (pc' := 11) rfl ?_
  show pv_E Γ d kc ks mX12_isHouse 11 [some (.ref 200), some (.int x)] [.int (pf_b (0 ≤ x ∧ x ≤ ((h 200 33) - 1)))] ty h r g Q
  exact pv_ireturn dX12_isHouse_11 rfl F.1 F.2
section HA
variable {Γ : pv_C} {d : Nat} {ty : pv_T} {h : pv_H} {r : pv_R} {g : pv_G} {x : Int32}
theorem ct_X12_isHouse (hd : 1 ≤ d) (hL : pv_Lay ty r) : pv_CT Γ d 0 0 mX12_isHouse [.ref 200, .int x] ty h r g (pv_is (.int (pf_b (0 ≤ x ∧ x ≤ h 200 33 - 1))) ty h r g) := pv_fn 0 pn_X12 rfl (Nat.le_of_ble_eq_true rfl) (sg_X12_isHouse_0 x hd hL ⟨pf_b_n, pv_is_refl _ _ _ _ _⟩)
theorem ct_X12_isPlace (hd : 2 ≤ d) (hL : pv_Lay ty r) : pv_CT Γ d 0 0 mX12_isPlace [.ref 200, .int x] ty h r g (pv_is (.int (pf_b (fo_pl h x))) ty h r g) := by
  refine pv_fn 0 pn_X12 rfl (Nat.le_of_ble_eq_true rfl) (sg_X12_isPlace_0 x (by omega) hL ⟨fun c => ?_, fun c => pk_b (fun c2 => ⟨fun c3 => ?_, fun c3 => ?_⟩) (fun c2 => ?_)⟩)
  · rw [pf_b_f (fun q => q.1 c)]; exact pv_is_refl _ _ _ _ _
  · rw [pf_b_f (fun q => q.2.2 c3)]; exact pv_is_refl _ _ _ _ _
  · rw [pf_b_t ⟨c, c2, c3⟩]; exact pv_is_refl _ _ _ _ _
  · rw [pf_b_f (fun q => c2 q.2.1)]; exact pv_is_refl _ _ _ _ _
theorem pl_rem (c : ¬ x < 0) : x - x / 100 * 100 = 0 ↔ x - x / 100 * 100 ≤ 0 := by
  obtain ⟨n, hn, rfl⟩ := nI_of c
  have e : nI n - nI n / 100 * 100 = nI (n % 100) := by
    rw [show (100 : Int32) = nI 100 from rfl, pk_div hn (by decide) (by decide), pk_mul, pk_sub (by have := Nat.div_mul_le_self n 100; omega)]
    congr 1
    omega
  rw [e, show (0 : Int32) = nI 0 from rfl, nI_eq (by omega) (by decide), nI_leI (by omega) (by decide)]
  omega
theorem ct_X11_isFrontage (hd : 1 ≤ d) (hL : pv_Lay ty r) (hS : ∃ ns, cpS ty h r ns) : pv_CT Γ d 0 0 mX11_isFrontage [.ref 100, .int x] ty h r g (pv_is (.int (pf_b (fo_pl h x))) ty h r g) := by
  obtain ⟨ns, hI⟩ := hS
  have hn := hI.1.1
  refine pv_fn 0 pn_X11 rfl (Nat.le_of_ble_eq_true rfl) (sg_X11_isFrontage_0 x (by omega) hL ⟨fun c => ?_, fun c => ct_find hL hI (fun hf => ⟨_, rfl, hL, fun _ => ?_, fun q => absurd rfl q⟩) (fun s hs e => ⟨_, rfl, hL, fun q => absurd q (cA_ne s), fun _ => ⟨fun c3 => ?_, fun c3 => ?_⟩⟩)⟩)
  · rw [pf_b_f (fun q => q.1 c)]; exact pv_is_refl _ _ _ _ _
  · rw [pf_b_f (fun q => hf q.2.1)]; exact pv_is_refl _ _ _ _ _
  · rw [pf_b_f (fun q => q.2.2 ((pl_rem c).mp c3))]; exact pv_is_refl _ _ _ _ _
  · rw [pf_b_t ⟨c, by rw [hI.1.2.1, ni_valid (by omega)]; exact ⟨s, hs, e⟩, fun q => c3 ((pl_rem c).mpr q)⟩]; exact pv_is_refl _ _ _ _ _
end HA
abbrev hA (i : Nat) : Nat := 2000 + i
def hs_ok (h : pv_H) (i : Nat) : Prop := 0 ≤ h 334 i ∧ (h 336 i = -1 ∨ 0 ≤ h 336 i) ∧ ¬ h 334 i = h 336 i
/-- THE HOUSES of both sides -/
def cpH (ty : pv_T) (h : pv_H) (r : pv_R) (nh : Nat) : Prop := (nh ≤ 60 ∧ h 200 33 = nI nh ∧ h 100 8 = nI nh) ∧ ∀ i, i < nh → r 117 i = hA i ∧ ty (hA i) = some (3, 0) ∧ (∀ j, j < 5 → h (hA i) j = h (334 + j) i) ∧ hs_ok h i
set_option maxRecDepth 20000 in
set_option maxHeartbeats 4000000 in
theorem sg_X3_init_0 {Γ : pv_C} {d kc ks : Nat} {ty : pv_T} {h : pv_H} {r : pv_R} {g : pv_G} {Q : pv_Q} (a : Nat) (x : Int32) (y : Int32) (z : Int32) (hd : 1 ≤ d) (F : a ≠ 0 ∧ ty a = some (3, 0) ∧ (∀ h1 : pv_H, h1 = pv_up h a 0 (x / 100) → ty a = some (3, 0) ∧ (∀ h2 : pv_H, h2 = pv_up h1 a 1 (x - x / 100 * 100) → ((¬ y = (-1) → ty a = some (3, 0) ∧ (∀ h3 : pv_H, h3 = pv_up h2 a 2 (y / 100) → ((¬ y = (-1) → ty a = some (3, 0) ∧ (∀ h4 : pv_H, h4 = pv_up h3 a 3 (y - y / 100 * 100) → ty a = some (3, 0) ∧ (∀ h5 : pv_H, h5 = pv_up h4 a 4 z → Q none ty h5 r g))) ∧ (y = (-1) → ty a = some (3, 0) ∧ (∀ h6 : pv_H, h6 = pv_up h3 a 3 0 → ty a = some (3, 0) ∧ (∀ h7 : pv_H, h7 = pv_up h6 a 4 z → Q none ty h7 r g)))))) ∧ (y = (-1) → ty a = some (3, 0) ∧ (∀ h8 : pv_H, h8 = pv_up h2 a 2 (-1) → ((¬ y = (-1) → ty a = some (3, 0) ∧ (∀ h9 : pv_H, h9 = pv_up h8 a 3 (y - y / 100 * 100) → ty a = some (3, 0) ∧ (∀ h10 : pv_H, h10 = pv_up h9 a 4 z → Q none ty h10 r g))) ∧ (y = (-1) → ty a = some (3, 0) ∧ (∀ h11 : pv_H, h11 = pv_up h8 a 3 0 → ty a = some (3, 0) ∧ (∀ h12 : pv_H, h12 = pv_up h11 a 4 z → Q none ty h12 r g)))))))))) : pv_E Γ d kc ks mX3_init 0 [some (.ref a), some (.int x), some (.int y), some (.int z)] [] ty h r g Q := by
  refine pv_aload_n dX3_init_0 rfl ?_
  obtain ⟨q1, F⟩ := F
  refine pv_objI dX3_init_1 ml_X3_3 obj_i obj_c q1 (by omega) (Nat.le_of_ble_eq_true rfl) ?_
  refine pv_aload_n dX3_init_4 rfl ?_
  refine pv_iload_n dX3_init_5 rfl ?_
  refine pv_bipush (v := 100) (by decide) dX3_init_6 ?_
  refine pv_idiv (by decide) dX3_init_8 ?_
  obtain ⟨q2, F⟩ := F
  obtain ⟨h1, eh1⟩ : ∃ h1 : pv_H, h1 = pv_up h a 0 (x / 100) := ⟨_, rfl⟩
  have F := F h1 eh1
  refine pv_putI 3 0 dX3_init_9 fl_X3_9 ⟨_, rfl, Or.inr ⟨rfl, rfl, rfl⟩⟩ (Or.inl rfl) q2 ?_
  refine pv_hE eh1 ?_
  refine pv_aload_n dX3_init_12 rfl ?_
  refine pv_iload_n dX3_init_13 rfl ?_
  refine pv_bipush (v := 100) (by decide) dX3_init_14 ?_
  refine pv_irem (by decide) dX3_init_16 ?_
  obtain ⟨q3, F⟩ := F
  obtain ⟨h2, eh2⟩ : ∃ h2 : pv_H, h2 = pv_up h1 a 1 (x - x / 100 * 100) := ⟨_, rfl⟩
  have F := F h2 eh2
  refine pv_putI 3 1 dX3_init_17 fl_X3_15 ⟨_, rfl, Or.inr ⟨rfl, rfl, rfl⟩⟩ (Or.inl rfl) q3 ?_
  refine pv_hE eh2 ?_
  refine pv_aload_n dX3_init_20 rfl ?_
  refine pv_iload_n dX3_init_21 rfl ?_
  refine pv_iconst (v := (-1)) (by decide) dX3_init_22 ?_
  refine pv_icmp_ne (tgt := 30) dX3_init_23 (by decide) (fun c1 => ?_) (fun c1 => ?_)
  · have F := F.1 c1
    refine pv_iload_n dX3_init_30 rfl ?_
    refine pv_bipush (v := 100) (by decide) dX3_init_31 ?_
    refine pv_idiv (by decide) dX3_init_33 ?_
    obtain ⟨q4, F⟩ := F
    obtain ⟨h3, eh3⟩ : ∃ h3 : pv_H, h3 = pv_up h2 a 2 (y / 100) := ⟨_, rfl⟩
    have F := F h3 eh3
    refine pv_putI 3 2 dX3_init_34 fl_X3_18 ⟨_, rfl, Or.inr ⟨rfl, rfl, rfl⟩⟩ (Or.inl rfl) q4 ?_
    refine pv_hE eh3 ?_
    refine pv_aload_n dX3_init_37 rfl ?_
    refine pv_iload_n dX3_init_38 rfl ?_
    refine pv_iconst (v := (-1)) (by decide) dX3_init_39 ?_
    refine pv_icmp_ne (tgt := 47) dX3_init_40 (by decide) (fun c2 => ?_) (fun c2 => ?_)
    · have F := F.1 c2
      refine pv_iload_n dX3_init_47 rfl ?_
      refine pv_bipush (v := 100) (by decide) dX3_init_48 ?_
      refine pv_irem (by decide) dX3_init_50 ?_
      obtain ⟨q5, F⟩ := F
      obtain ⟨h4, eh4⟩ : ∃ h4 : pv_H, h4 = pv_up h3 a 3 (y - y / 100 * 100) := ⟨_, rfl⟩
      have F := F h4 eh4
      refine pv_putI 3 3 dX3_init_51 fl_X3_21 ⟨_, rfl, Or.inr ⟨rfl, rfl, rfl⟩⟩ (Or.inl rfl) q5 ?_
      refine pv_hE eh4 ?_
      refine pv_aload_n dX3_init_54 rfl ?_
      refine pv_iload_n dX3_init_55 rfl ?_
      obtain ⟨q6, F⟩ := F
      obtain ⟨h5, eh5⟩ : ∃ h5 : pv_H, h5 = pv_up h4 a 4 z := ⟨_, rfl⟩
      have F := F h5 eh5
      refine pv_putI 3 4 dX3_init_56 fl_X3_24 ⟨_, rfl, Or.inr ⟨rfl, rfl, rfl⟩⟩ (Or.inl rfl) q6 ?_
      refine pv_hE eh5 ?_
      exact pv_return dX3_init_59 rfl F
    · have F := F.2 c2
      refine pv_iconst (v := 0) (by decide) dX3_init_43 ?_
      refine pv_goto (tgt := 51) dX3_init_44 (by decide) ?_
      obtain ⟨q7, F⟩ := F
      obtain ⟨h6, eh6⟩ : ∃ h6 : pv_H, h6 = pv_up h3 a 3 0 := ⟨_, rfl⟩
      have F := F h6 eh6
      refine pv_putI 3 3 dX3_init_51 fl_X3_21 ⟨_, rfl, Or.inr ⟨rfl, rfl, rfl⟩⟩ (Or.inl rfl) q7 ?_
      refine pv_hE eh6 ?_
      refine pv_aload_n dX3_init_54 rfl ?_
      refine pv_iload_n dX3_init_55 rfl ?_
      obtain ⟨q8, F⟩ := F
      obtain ⟨h7, eh7⟩ : ∃ h7 : pv_H, h7 = pv_up h6 a 4 z := ⟨_, rfl⟩
      have F := F h7 eh7
      refine pv_putI 3 4 dX3_init_56 fl_X3_24 ⟨_, rfl, Or.inr ⟨rfl, rfl, rfl⟩⟩ (Or.inl rfl) q8 ?_
      refine pv_hE eh7 ?_
      exact pv_return dX3_init_59 rfl F
  · have F := F.2 c1
    refine pv_iconst (v := (-1)) (by decide) dX3_init_26 ?_
    refine pv_goto (tgt := 34) dX3_init_27 (by decide) ?_
    obtain ⟨q9, F⟩ := F
    obtain ⟨h8, eh8⟩ : ∃ h8 : pv_H, h8 = pv_up h2 a 2 (-1) := ⟨_, rfl⟩
    have F := F h8 eh8
    refine pv_putI 3 2 dX3_init_34 fl_X3_18 ⟨_, rfl, Or.inr ⟨rfl, rfl, rfl⟩⟩ (Or.inl rfl) q9 ?_
    refine pv_hE eh8 ?_
    refine pv_aload_n dX3_init_37 rfl ?_
    refine pv_iload_n dX3_init_38 rfl ?_
    refine pv_iconst (v := (-1)) (by decide) dX3_init_39 ?_
    refine pv_icmp_ne (tgt := 47) dX3_init_40 (by decide) (fun c3 => ?_) (fun c3 => ?_)
    · have F := F.1 c3
      refine pv_iload_n dX3_init_47 rfl ?_
      refine pv_bipush (v := 100) (by decide) dX3_init_48 ?_
      refine pv_irem (by decide) dX3_init_50 ?_
      obtain ⟨q10, F⟩ := F
      obtain ⟨h9, eh9⟩ : ∃ h9 : pv_H, h9 = pv_up h8 a 3 (y - y / 100 * 100) := ⟨_, rfl⟩
      have F := F h9 eh9
      refine pv_putI 3 3 dX3_init_51 fl_X3_21 ⟨_, rfl, Or.inr ⟨rfl, rfl, rfl⟩⟩ (Or.inl rfl) q10 ?_
      refine pv_hE eh9 ?_
      refine pv_aload_n dX3_init_54 rfl ?_
      refine pv_iload_n dX3_init_55 rfl ?_
      obtain ⟨q11, F⟩ := F
      obtain ⟨h10, eh10⟩ : ∃ h10 : pv_H, h10 = pv_up h9 a 4 z := ⟨_, rfl⟩
      have F := F h10 eh10
      refine pv_putI 3 4 dX3_init_56 fl_X3_24 ⟨_, rfl, Or.inr ⟨rfl, rfl, rfl⟩⟩ (Or.inl rfl) q11 ?_
      refine pv_hE eh10 ?_
      exact pv_return dX3_init_59 rfl F
    · have F := F.2 c3
      refine pv_iconst (v := 0) (by decide) dX3_init_43 ?_
      refine pv_goto (tgt := 51) dX3_init_44 (by decide) ?_
      obtain ⟨q12, F⟩ := F
      obtain ⟨h11, eh11⟩ : ∃ h11 : pv_H, h11 = pv_up h8 a 3 0 := ⟨_, rfl⟩
      have F := F h11 eh11
      refine pv_putI 3 3 dX3_init_51 fl_X3_21 ⟨_, rfl, Or.inr ⟨rfl, rfl, rfl⟩⟩ (Or.inl rfl) q12 ?_
      refine pv_hE eh11 ?_
      refine pv_aload_n dX3_init_54 rfl ?_
      refine pv_iload_n dX3_init_55 rfl ?_
      obtain ⟨q13, F⟩ := F
      obtain ⟨h12, eh12⟩ : ∃ h12 : pv_H, h12 = pv_up h11 a 4 z := ⟨_, rfl⟩
      have F := F h12 eh12
      refine pv_putI 3 4 dX3_init_56 fl_X3_24 ⟨_, rfl, Or.inr ⟨rfl, rfl, rfl⟩⟩ (Or.inl rfl) q13 ?_
      refine pv_hE eh12 ?_
      exact pv_return dX3_init_59 rfl F
set_option maxRecDepth 20000 in
set_option maxHeartbeats 4000000 in
theorem sg_X11_house_0 {Γ : pv_C} {d kc ks : Nat} {ty : pv_T} {h : pv_H} {r : pv_R} {g : pv_G} {Q : pv_Q} (x : Int32) (y : Int32) (z : Int32) (hd : 2 ≤ d) (hL : pv_Lay ty r) (F : (∃ ns, cpS ty h r ns) ∧ (((pf_b (fo_pl h x)) = 0 → Q (some (.int (-1))) ty h r g) ∧ (¬ (pf_b (fo_pl h x)) = 0 → ((¬ (pf_b (0 ≤ z ∧ z ≤ 999)) = 0 → ((y = (-1) → pv_E Γ d kc ks mX11_house 47 [some (.ref 100), some (.int x), some (.int y), some (.int z)] [] ty h r g Q) ∧ (¬ y = (-1) → (∃ ns, cpS ty h r ns) ∧ (((pf_b (fo_pl h y)) = 0 → Q (some (.int (-1))) ty h r g) ∧ (¬ (pf_b (fo_pl h y)) = 0 → ((¬ (y / 100) = (x / 100) → pv_E Γ d kc ks mX11_house 47 [some (.ref 100), some (.int x), some (.int y), some (.int z)] [] ty h r g Q) ∧ ((y / 100) = (x / 100) → Q (some (.int (-1))) ty h r g))))))) ∧ ((pf_b (0 ≤ z ∧ z ≤ 999)) = 0 → Q (some (.int (-1))) ty h r g))))) : pv_E Γ d kc ks mX11_house 0 [some (.ref 100), some (.int x), some (.int y), some (.int z)] [] ty h r g Q := by
  refine pv_aload_n dX11_house_0 rfl ?_
  refine pv_iload_n dX11_house_1 rfl ?_
  obtain ⟨q1, F⟩ := F
  refine pv_invV (As := [.int x]) (d' := d - 1) dX11_house_2 moX11_isFrontage ml_X11_179 (lt_100 hL) (Or.inl ⟨_, rfl, rfl⟩) (Nat.le_of_ble_eq_true rfl) (by omega) (Nat.zero_le _) (Nat.zero_le _) (ct_X11_isFrontage (by omega) hL q1) (fun v ty' h' r' g' hq => ?_) rfl
  obtain ⟨e1, e2, e3, e4, e5⟩ := hq
  rw [e1, e2, e3, e4, e5]
  refine pv_pc (pc' := 5) rfl ?_
  show pv_E Γ d kc ks mX11_house 5 [some (.ref 100), some (.int x), some (.int y), some (.int z)] [.int (pf_b (fo_pl h x))] ty h r g Q
  refine pv_if_eq (tgt := 19) dX11_house_5 (by decide) (fun c1 => ?_) (fun c1 => ?_)
  · have F := F.1 c1
    refine pv_iconst (v := (-1)) (by decide) dX11_house_19 ?_
    exact pv_ireturn dX11_house_20 rfl rfl F
  · have F := F.2 c1
    refine pv_iload_n dX11_house_8 rfl ?_
    refine pv_iconst (v := 0) (by decide) dX11_house_9 ?_
    refine pv_sipush (v := 999) (by decide) dX11_house_10 ?_
    refine pv_invS (As := [.int z, .int 0, .int 999]) (d' := d - 1) dX11_house_13 moX11_within ml_X11_69 (Nat.le_of_ble_eq_true rfl) (by omega) (Nat.zero_le _) (Nat.zero_le _) (ct_X11_within (by omega)) (fun v ty' h' r' g' hq => ?_) rfl
    obtain ⟨e1, e2, e3, e4, e5⟩ := hq
    rw [e1, e2, e3, e4, e5]
    refine pv_pc (pc' := 16) rfl ?_
    show pv_E Γ d kc ks mX11_house 16 [some (.ref 100), some (.int x), some (.int y), some (.int z)] [.int (pf_b (0 ≤ z ∧ z ≤ 999))] ty h r g Q
    refine pv_if_ne (tgt := 21) dX11_house_16 (by decide) (fun c2 => ?_) (fun c2 => ?_)
    · have F := F.1 c2
      refine pv_iload_n dX11_house_21 rfl ?_
      refine pv_iconst (v := (-1)) (by decide) dX11_house_22 ?_
      refine pv_icmp_eq (tgt := 47) dX11_house_23 (by decide) (fun c3 => ?_) (fun c3 => ?_)
      · have F := F.1 c3
        exact F
      · have F := F.2 c3
        refine pv_aload_n dX11_house_26 rfl ?_
        refine pv_iload_n dX11_house_27 rfl ?_
        obtain ⟨q2, F⟩ := F
        refine pv_invV (As := [.int y]) (d' := d - 1) dX11_house_28 moX11_isFrontage ml_X11_179 (lt_100 hL) (Or.inl ⟨_, rfl, rfl⟩) (Nat.le_of_ble_eq_true rfl) (by omega) (Nat.zero_le _) (Nat.zero_le _) (ct_X11_isFrontage (by omega) hL q2) (fun v ty' h' r' g' hq => ?_) rfl
        obtain ⟨e1, e2, e3, e4, e5⟩ := hq
        rw [e1, e2, e3, e4, e5]
        refine pv_pc (pc' := 31) rfl ?_
        show pv_E Γ d kc ks mX11_house 31 [some (.ref 100), some (.int x), some (.int y), some (.int z)] [.int (pf_b (fo_pl h y))] ty h r g Q
        refine pv_if_eq (tgt := 45) dX11_house_31 (by decide) (fun c4 => ?_) (fun c4 => ?_)
        · have F := F.1 c4
          refine pv_iconst (v := (-1)) (by decide) dX11_house_45 ?_
          exact pv_ireturn dX11_house_46 rfl rfl F
        · have F := F.2 c4
          refine pv_iload_n dX11_house_34 rfl ?_
          refine pv_bipush (v := 100) (by decide) dX11_house_35 ?_
          refine pv_idiv (by decide) dX11_house_37 ?_
          refine pv_iload_n dX11_house_38 rfl ?_
          refine pv_bipush (v := 100) (by decide) dX11_house_39 ?_
          refine pv_idiv (by decide) dX11_house_41 ?_
          refine pv_pc (pc' := 42) rfl ?_
          refine pv_icmp_ne (tgt := 47) dX11_house_42 (by decide) (fun c5 => ?_) (fun c5 => ?_)
          · have F := F.1 c5
            exact F
          · have F := F.2 c5
            refine pv_iconst (v := (-1)) (by decide) dX11_house_45 ?_
            exact pv_ireturn dX11_house_46 rfl rfl F
    · have F := F.2 c2
      refine pv_iconst (v := (-1)) (by decide) dX11_house_19 ?_
      exact pv_ireturn dX11_house_20 rfl rfl F
set_option maxRecDepth 20000 in
set_option maxHeartbeats 4000000 in
theorem sg_X11_house_47 {Γ : pv_C} {d kc ks : Nat} {ty : pv_T} {h : pv_H} {r : pv_R} {g : pv_G} {Q : pv_Q} (x1 : Int32) (x2 : Int32) (x3 : Int32) (hd : 1 ≤ d) (hL : pv_Lay ty r) (F : (((h 100 8) < 60 → (∃ nm1 : Nat, 10 ≤ nm1 ∧ ty nm1 = none ∧ 1 ≤ kc ∧ 5 ≤ ks ∧ (∀ (ty1 : pv_T) (h1 : pv_H) (r1 : pv_R) (g1 : pv_G), ty1 = pv_newT ty nm1 3 0 → h1 = pv_new h nm1 0 → r1 = pv_new r nm1 0 → g1 = pv_new g nm1 0 → pv_Lay ty1 r1 ∧ ty1 nm1 = some (3, 0) ∧ pv_CT Γ (d - 1) 0 0 mX3_init [.ref nm1, .int x1, .int x2, .int x3] ty1 h1 r1 g1 (fun (v1 : Option Value) (ty2 : pv_T) (h2 : pv_H) (r2 : pv_R) (g2 : pv_G) => v1 = none ∧ pv_Lay ty2 r2 ∧ vp_in (h 100 8) 60 ∧ ty2 nm1 = some (3, 0) ∧ (∀ r3 : pv_R, r3 = pv_up r2 117 (Int32.toNatClampNeg (h 100 8)) nm1 → pv_Lay ty2 r3 ∧ (∀ h3 : pv_H, h3 = pv_up h2 100 8 ((h2 100 8) + 1) → Q (some (.int ((h3 100 8) - 1))) ty2 h3 r3 g2)))))) ∧ (¬ (h 100 8) < 60 → Q (some (.int (-3))) ty h r g))) : pv_E Γ d kc ks mX11_house 47 [some (.ref 100), some (.int x1), some (.int x2), some (.int x3)] [] ty h r g Q := by
  refine pv_aload_n dX11_house_47 rfl ?_
  refine pv_getI 11 8 dX11_house_48 fl_X11_182 rfl (lt_100 hL) ?_
  refine pv_bipush (v := 60) (by decide) dX11_house_51 ?_
  refine pv_icmp_lt (tgt := 59) dX11_house_53 (by decide) (fun c1 => ?_) (fun c1 => ?_)
  · have F := F.1 c1
    refine pv_aload_n dX11_house_59 rfl ?_
    refine pv_getRk 11 7 dX11_house_60 fl_X11_45 rfl (lt_100 hL) (lr_100_7 hL) ?_
    refine pv_aload_n dX11_house_63 rfl ?_
    refine pv_getI 11 8 dX11_house_64 fl_X11_182 rfl (lt_100 hL) ?_
    obtain ⟨nm1, q1a, q1b, q1c, q1d, F⟩ := F
    obtain ⟨ty1, ety1⟩ : ∃ ty1 : pv_T, ty1 = pv_newT ty nm1 3 0 := ⟨_, rfl⟩
    obtain ⟨h1, eh1⟩ : ∃ h1 : pv_H, h1 = pv_new h nm1 0 := ⟨_, rfl⟩
    obtain ⟨r1, er1⟩ : ∃ r1 : pv_R, r1 = pv_new r nm1 0 := ⟨_, rfl⟩
    obtain ⟨g1, eg1⟩ : ∃ g1 : pv_G, g1 = pv_new g nm1 0 := ⟨_, rfl⟩
    have F := F ty1 h1 r1 g1 ety1 eh1 er1 eg1
    refine pv_newO nm1 3 dX11_house_67 rfl cl_X11_43 ins_X3 ini_X3 q1a q1b q1c q1d ?_
    refine pv_nE ety1 eh1 er1 eg1 ?_
    obtain ⟨hL1, F⟩ := F
    refine pv_dup rfl dX11_house_70 ?_
    refine pv_iload_n dX11_house_71 rfl ?_
    refine pv_iload_n dX11_house_72 rfl ?_
    refine pv_iload_n dX11_house_73 rfl ?_
    obtain ⟨q2, F⟩ := F
    refine pv_invI (As := [.int x1, .int x2, .int x3]) (d' := d - 1) dX11_house_74 moX3_init ml_X11_185 q2 (Nat.le_of_ble_eq_true rfl) (by omega) (Nat.zero_le _) (Nat.zero_le _) F (fun v1 ty2 h2 r2 g2 F => ?_) rfl
    obtain ⟨rfl, F⟩ := F
    obtain ⟨hL2, F⟩ := F
    refine pv_pc (pc' := 77) rfl ?_
    show pv_E Γ d (kc - 1) (ks - 5) mX11_house 77 [some (.ref 100), some (.int x1), some (.int x2), some (.int x3)] [.ref nm1, .int (h 100 8), .ref 117] ty2 h2 r2 g2 Q
    obtain ⟨q3, F⟩ := F
    obtain ⟨q3v, F⟩ := F
    obtain ⟨r3, er3⟩ : ∃ r3 : pv_R, r3 = pv_up r2 117 (Int32.toNatClampNeg (h 100 8)) nm1 := ⟨_, rfl⟩
    have F := F r3 er3
    refine pv_aast dX11_house_77 (lt_117 hL2) (by decide) (by decide) q3 q3v ?_
    refine pv_rE er3 ?_
    obtain ⟨hL3, F⟩ := F
    refine pv_aload_n dX11_house_78 rfl ?_
    refine pv_dup rfl dX11_house_79 ?_
    refine pv_getI 11 8 dX11_house_80 fl_X11_182 rfl (lt_100 hL3) ?_
    refine pv_iconst (v := 1) (by decide) dX11_house_83 ?_
    refine pv_iadd dX11_house_84 ?_
    obtain ⟨h3, eh3⟩ : ∃ h3 : pv_H, h3 = pv_up h2 100 8 ((h2 100 8) + 1) := ⟨_, rfl⟩
    have F := F h3 eh3
    refine pv_putI 11 8 dX11_house_85 fl_X11_182 ⟨_, rfl, Or.inl rfl⟩ (Or.inl rfl) (lt_100 hL3) ?_
    refine pv_hE eh3 ?_
    refine pv_aload_n dX11_house_88 rfl ?_
    refine pv_getI 11 8 dX11_house_89 fl_X11_182 rfl (lt_100 hL3) ?_
    refine pv_iconst (v := 1) (by decide) dX11_house_92 ?_
    refine pv_isub dX11_house_93 ?_
    exact pv_ireturn dX11_house_94 rfl rfl F
  · have F := F.2 c1
    refine pv_bipush (v := (-3)) (by decide) dX11_house_56 ?_
    exact pv_ireturn dX11_house_58 rfl rfl F
set_option maxRecDepth 20000 in
set_option maxHeartbeats 4000000 in
theorem sg_X12_house_0 {Γ : pv_C} {d kc ks : Nat} {ty : pv_T} {h : pv_H} {r : pv_R} {g : pv_G} {Q : pv_Q} (x : Int32) (y : Int32) (z : Int32) (hd : 3 ≤ d) (hL : pv_Lay ty r) (F : (((pf_b (fo_pl h x)) = 0 → Q (some (.int (-1))) ty h r g) ∧ (¬ (pf_b (fo_pl h x)) = 0 → ((y = (-1) → ((¬ (pf_b (0 ≤ z ∧ z ≤ 999)) = 0 → pv_E Γ d kc ks mX12_house 45 [some (.ref 200), some (.int x), some (.int y), some (.int z)] [] ty h r g Q) ∧ ((pf_b (0 ≤ z ∧ z ≤ 999)) = 0 → Q (some (.int (-1))) ty h r g))) ∧ (¬ y = (-1) → (((pf_b (fo_pl h y)) = 0 → Q (some (.int (-1))) ty h r g) ∧ (¬ (pf_b (fo_pl h y)) = 0 → (((y / 100) = (x / 100) → Q (some (.int (-1))) ty h r g) ∧ (¬ (y / 100) = (x / 100) → ((¬ (pf_b (0 ≤ z ∧ z ≤ 999)) = 0 → pv_E Γ d kc ks mX12_house 45 [some (.ref 200), some (.int x), some (.int y), some (.int z)] [] ty h r g Q) ∧ ((pf_b (0 ≤ z ∧ z ≤ 999)) = 0 → Q (some (.int (-1))) ty h r g))))))))))) : pv_E Γ d kc ks mX12_house 0 [some (.ref 200), some (.int x), some (.int y), some (.int z)] [] ty h r g Q := by
  refine pv_aload_n dX12_house_0 rfl ?_
  refine pv_iload_n dX12_house_1 rfl ?_
  refine pv_invV (As := [.int x]) (d' := d - 1) dX12_house_2 moX12_isPlace ml_X12_231 (lt_200 hL) (Or.inl ⟨_, rfl, rfl⟩) (Nat.le_of_ble_eq_true rfl) (by omega) (Nat.zero_le _) (Nat.zero_le _) (ct_X12_isPlace (by omega) hL) (fun v ty' h' r' g' hq => ?_) rfl
  obtain ⟨e1, e2, e3, e4, e5⟩ := hq
  rw [e1, e2, e3, e4, e5]
  refine pv_pc (pc' := 5) rfl ?_
  show pv_E Γ d kc ks mX12_house 5 [some (.ref 200), some (.int x), some (.int y), some (.int z)] [.int (pf_b (fo_pl h x))] ty h r g Q
  refine pv_if_eq (tgt := 43) dX12_house_5 (by decide) (fun c1 => ?_) (fun c1 => ?_)
  · have F := F.1 c1
    refine pv_iconst (v := (-1)) (by decide) dX12_house_43 ?_
    exact pv_ireturn dX12_house_44 rfl rfl F
  · have F := F.2 c1
    refine pv_iload_n dX12_house_8 rfl ?_
    refine pv_iconst (v := (-1)) (by decide) dX12_house_9 ?_
    refine pv_icmp_eq (tgt := 32) dX12_house_10 (by decide) (fun c2 => ?_) (fun c2 => ?_)
    · have F := F.1 c2
      refine pv_iload_n dX12_house_32 rfl ?_
      refine pv_iconst (v := 0) (by decide) dX12_house_33 ?_
      refine pv_sipush (v := 999) (by decide) dX12_house_34 ?_
      refine pv_invS (As := [.int z, .int 0, .int 999]) (d' := d - 1) dX12_house_37 moX12_in ml_X12_164 (Nat.le_of_ble_eq_true rfl) (by omega) (Nat.zero_le _) (Nat.zero_le _) (ct_X12_in (by omega)) (fun v ty' h' r' g' hq => ?_) rfl
      obtain ⟨e1, e2, e3, e4, e5⟩ := hq
      rw [e1, e2, e3, e4, e5]
      refine pv_pc (pc' := 40) rfl ?_
      show pv_E Γ d kc ks mX12_house 40 [some (.ref 200), some (.int x), some (.int y), some (.int z)] [.int (pf_b (0 ≤ z ∧ z ≤ 999))] ty h r g Q
      refine pv_if_ne (tgt := 45) dX12_house_40 (by decide) (fun c3 => ?_) (fun c3 => ?_)
      · have F := F.1 c3
        exact F
      · have F := F.2 c3
        refine pv_iconst (v := (-1)) (by decide) dX12_house_43 ?_
        exact pv_ireturn dX12_house_44 rfl rfl F
    · have F := F.2 c2
      refine pv_aload_n dX12_house_13 rfl ?_
      refine pv_iload_n dX12_house_14 rfl ?_
      refine pv_invV (As := [.int y]) (d' := d - 1) dX12_house_15 moX12_isPlace ml_X12_231 (lt_200 hL) (Or.inl ⟨_, rfl, rfl⟩) (Nat.le_of_ble_eq_true rfl) (by omega) (Nat.zero_le _) (Nat.zero_le _) (ct_X12_isPlace (by omega) hL) (fun v ty' h' r' g' hq => ?_) rfl
      obtain ⟨e1, e2, e3, e4, e5⟩ := hq
      rw [e1, e2, e3, e4, e5]
      refine pv_pc (pc' := 18) rfl ?_
      show pv_E Γ d kc ks mX12_house 18 [some (.ref 200), some (.int x), some (.int y), some (.int z)] [.int (pf_b (fo_pl h y))] ty h r g Q
      refine pv_if_eq (tgt := 43) dX12_house_18 (by decide) (fun c4 => ?_) (fun c4 => ?_)
      · have F := F.1 c4
        refine pv_iconst (v := (-1)) (by decide) dX12_house_43 ?_
        exact pv_ireturn dX12_house_44 rfl rfl F
      · have F := F.2 c4
        refine pv_iload_n dX12_house_21 rfl ?_
        refine pv_bipush (v := 100) (by decide) dX12_house_22 ?_
        refine pv_idiv (by decide) dX12_house_24 ?_
        refine pv_iload_n dX12_house_25 rfl ?_
        refine pv_bipush (v := 100) (by decide) dX12_house_26 ?_
        refine pv_idiv (by decide) dX12_house_28 ?_
        refine pv_pc (pc' := 29) rfl ?_
        refine pv_icmp_eq (tgt := 43) dX12_house_29 (by decide) (fun c5 => ?_) (fun c5 => ?_)
        · have F := F.1 c5
          refine pv_iconst (v := (-1)) (by decide) dX12_house_43 ?_
          exact pv_ireturn dX12_house_44 rfl rfl F
        · have F := F.2 c5
          refine pv_iload_n dX12_house_32 rfl ?_
          refine pv_iconst (v := 0) (by decide) dX12_house_33 ?_
          refine pv_sipush (v := 999) (by decide) dX12_house_34 ?_
          refine pv_invS (As := [.int z, .int 0, .int 999]) (d' := d - 1) dX12_house_37 moX12_in ml_X12_164 (Nat.le_of_ble_eq_true rfl) (by omega) (Nat.zero_le _) (Nat.zero_le _) (ct_X12_in (by omega)) (fun v ty' h' r' g' hq => ?_) rfl
          obtain ⟨e1, e2, e3, e4, e5⟩ := hq
          rw [e1, e2, e3, e4, e5]
          refine pv_pc (pc' := 40) rfl ?_
          show pv_E Γ d kc ks mX12_house 40 [some (.ref 200), some (.int x), some (.int y), some (.int z)] [.int (pf_b (0 ≤ z ∧ z ≤ 999))] ty h r g Q
          refine pv_if_ne (tgt := 45) dX12_house_40 (by decide) (fun c6 => ?_) (fun c6 => ?_)
          · have F := F.1 c6
            exact F
          · have F := F.2 c6
            refine pv_iconst (v := (-1)) (by decide) dX12_house_43 ?_
            exact pv_ireturn dX12_house_44 rfl rfl F
set_option maxRecDepth 20000 in
set_option maxHeartbeats 4000000 in
theorem sg_X12_house_45 {Γ : pv_C} {d kc ks : Nat} {ty : pv_T} {h : pv_H} {r : pv_R} {g : pv_G} {Q : pv_Q} (x1 : Int32) (x2 : Int32) (x3 : Int32) (hL : pv_Lay ty r) (F : ((¬ (h 200 33) = 60 → vp_in (h 200 33) 60 ∧ (∀ h1 : pv_H, h1 = pv_up h 334 (Int32.toNatClampNeg (h 200 33)) (x1 / 100) → vp_in (h1 200 33) 60 ∧ (∀ h2 : pv_H, h2 = pv_up h1 335 (Int32.toNatClampNeg (h1 200 33)) (x1 - x1 / 100 * 100) → ((0 ≤ x2 → vp_in (h2 200 33) 60 ∧ (∀ h3 : pv_H, h3 = pv_up h2 336 (Int32.toNatClampNeg (h2 200 33)) (x2 / 100) → ((0 ≤ x2 → vp_in (h3 200 33) 60 ∧ (∀ h4 : pv_H, h4 = pv_up h3 337 (Int32.toNatClampNeg (h3 200 33)) (x2 - x2 / 100 * 100) → vp_in (h4 200 33) 60 ∧ (∀ h5 : pv_H, h5 = pv_up h4 338 (Int32.toNatClampNeg (h4 200 33)) x3 → (∀ h6 : pv_H, h6 = pv_up h5 200 33 ((h5 200 33) + 1) → Q (some (.int ((h6 200 33) - 1))) ty h6 r g)))) ∧ (¬ 0 ≤ x2 → vp_in (h3 200 33) 60 ∧ (∀ h7 : pv_H, h7 = pv_up h3 337 (Int32.toNatClampNeg (h3 200 33)) 0 → vp_in (h7 200 33) 60 ∧ (∀ h8 : pv_H, h8 = pv_up h7 338 (Int32.toNatClampNeg (h7 200 33)) x3 → (∀ h9 : pv_H, h9 = pv_up h8 200 33 ((h8 200 33) + 1) → Q (some (.int ((h9 200 33) - 1))) ty h9 r g))))))) ∧ (¬ 0 ≤ x2 → vp_in (h2 200 33) 60 ∧ (∀ h10 : pv_H, h10 = pv_up h2 336 (Int32.toNatClampNeg (h2 200 33)) (-1) → ((0 ≤ x2 → vp_in (h10 200 33) 60 ∧ (∀ h11 : pv_H, h11 = pv_up h10 337 (Int32.toNatClampNeg (h10 200 33)) (x2 - x2 / 100 * 100) → vp_in (h11 200 33) 60 ∧ (∀ h12 : pv_H, h12 = pv_up h11 338 (Int32.toNatClampNeg (h11 200 33)) x3 → (∀ h13 : pv_H, h13 = pv_up h12 200 33 ((h12 200 33) + 1) → Q (some (.int ((h13 200 33) - 1))) ty h13 r g)))) ∧ (¬ 0 ≤ x2 → vp_in (h10 200 33) 60 ∧ (∀ h14 : pv_H, h14 = pv_up h10 337 (Int32.toNatClampNeg (h10 200 33)) 0 → vp_in (h14 200 33) 60 ∧ (∀ h15 : pv_H, h15 = pv_up h14 338 (Int32.toNatClampNeg (h14 200 33)) x3 → (∀ h16 : pv_H, h16 = pv_up h15 200 33 ((h15 200 33) + 1) → Q (some (.int ((h16 200 33) - 1))) ty h16 r g))))))))))) ∧ ((h 200 33) = 60 → Q (some (.int (-3))) ty h r g))) : pv_E Γ d kc ks mX12_house 45 [some (.ref 200), some (.int x1), some (.int x2), some (.int x3)] [] ty h r g Q := by
  refine pv_aload_n dX12_house_45 rfl ?_
  refine pv_getI 12 33 dX12_house_46 fl_X12_234 rfl (lt_200 hL) ?_
  refine pv_bipush (v := 60) (by decide) dX12_house_49 ?_
  refine pv_icmp_ne (tgt := 57) dX12_house_51 (by decide) (fun c1 => ?_) (fun c1 => ?_)
  · have F := F.1 c1
    refine pv_aload_n dX12_house_57 rfl ?_
    refine pv_getRk 12 34 dX12_house_58 fl_X12_84 rfl (lt_200 hL) (lr_200_34 hL) ?_
    refine pv_aload_n dX12_house_61 rfl ?_
    refine pv_getI 12 33 dX12_house_62 fl_X12_234 rfl (lt_200 hL) ?_
    refine pv_iload_n dX12_house_65 rfl ?_
    refine pv_bipush (v := 100) (by decide) dX12_house_66 ?_
    refine pv_pc (pc' := 68) rfl ?_
    refine pv_idiv (by decide) dX12_house_68 ?_
    obtain ⟨q1, F⟩ := F
    obtain ⟨h1, eh1⟩ : ∃ h1 : pv_H, h1 = pv_up h 334 (Int32.toNatClampNeg (h 200 33)) (x1 / 100) := ⟨_, rfl⟩
    have F := F h1 eh1
    refine pv_iast dX12_house_69 (lt_334 hL) (by decide) q1 ?_
    refine pv_hE eh1 ?_
    refine pv_aload_n dX12_house_70 rfl ?_
    refine pv_getRk 12 35 dX12_house_71 fl_X12_87 rfl (lt_200 hL) (lr_200_35 hL) ?_
    refine pv_aload_n dX12_house_74 rfl ?_
    refine pv_getI 12 33 dX12_house_75 fl_X12_234 rfl (lt_200 hL) ?_
    refine pv_iload_n dX12_house_78 rfl ?_
    refine pv_bipush (v := 100) (by decide) dX12_house_79 ?_
    refine pv_pc (pc' := 81) rfl ?_
    refine pv_irem (by decide) dX12_house_81 ?_
    obtain ⟨q2, F⟩ := F
    obtain ⟨h2, eh2⟩ : ∃ h2 : pv_H, h2 = pv_up h1 335 (Int32.toNatClampNeg (h1 200 33)) (x1 - x1 / 100 * 100) := ⟨_, rfl⟩
    have F := F h2 eh2
    refine pv_iast dX12_house_82 (lt_335 hL) (by decide) q2 ?_
    refine pv_hE eh2 ?_
    refine pv_aload_n dX12_house_83 rfl ?_
    refine pv_getRk 12 36 dX12_house_84 fl_X12_90 rfl (lt_200 hL) (lr_200_36 hL) ?_
    refine pv_aload_n dX12_house_87 rfl ?_
    refine pv_getI 12 33 dX12_house_88 fl_X12_234 rfl (lt_200 hL) ?_
    refine pv_iload_n dX12_house_91 rfl ?_
    refine pv_if_ge (tgt := 99) dX12_house_92 (by decide) (fun c2 => ?_) (fun c2 => ?_)
    · have F := F.1 c2
      refine pv_iload_n dX12_house_99 rfl ?_
      refine pv_bipush (v := 100) (by decide) dX12_house_100 ?_
      refine pv_idiv (by decide) dX12_house_102 ?_
      obtain ⟨q3, F⟩ := F
      obtain ⟨h3, eh3⟩ : ∃ h3 : pv_H, h3 = pv_up h2 336 (Int32.toNatClampNeg (h2 200 33)) (x2 / 100) := ⟨_, rfl⟩
      have F := F h3 eh3
      refine pv_iast dX12_house_103 (lt_336 hL) (by decide) q3 ?_
      refine pv_hE eh3 ?_
      refine pv_aload_n dX12_house_104 rfl ?_
      refine pv_getRk 12 37 dX12_house_105 fl_X12_93 rfl (lt_200 hL) (lr_200_37 hL) ?_
      refine pv_aload_n dX12_house_108 rfl ?_
      refine pv_getI 12 33 dX12_house_109 fl_X12_234 rfl (lt_200 hL) ?_
      refine pv_iload_n dX12_house_112 rfl ?_
      refine pv_if_ge (tgt := 120) dX12_house_113 (by decide) (fun c3 => ?_) (fun c3 => ?_)
      · have F := F.1 c3
        refine pv_iload_n dX12_house_120 rfl ?_
        refine pv_bipush (v := 100) (by decide) dX12_house_121 ?_
        refine pv_irem (by decide) dX12_house_123 ?_
        obtain ⟨q4, F⟩ := F
        obtain ⟨h4, eh4⟩ : ∃ h4 : pv_H, h4 = pv_up h3 337 (Int32.toNatClampNeg (h3 200 33)) (x2 - x2 / 100 * 100) := ⟨_, rfl⟩
        have F := F h4 eh4
        refine pv_iast dX12_house_124 (lt_337 hL) (by decide) q4 ?_
        refine pv_hE eh4 ?_
        refine pv_aload_n dX12_house_125 rfl ?_
        refine pv_getRk 12 38 dX12_house_126 fl_X12_96 rfl (lt_200 hL) (lr_200_38 hL) ?_
        refine pv_aload_n dX12_house_129 rfl ?_
        refine pv_getI 12 33 dX12_house_130 fl_X12_234 rfl (lt_200 hL) ?_
        refine pv_iload_n dX12_house_133 rfl ?_
        obtain ⟨q5, F⟩ := F
        obtain ⟨h5, eh5⟩ : ∃ h5 : pv_H, h5 = pv_up h4 338 (Int32.toNatClampNeg (h4 200 33)) x3 := ⟨_, rfl⟩
        have F := F h5 eh5
        refine pv_iast dX12_house_134 (lt_338 hL) (by decide) q5 ?_
        refine pv_hE eh5 ?_
        refine pv_aload_n dX12_house_135 rfl ?_
        refine pv_dup rfl dX12_house_136 ?_
        refine pv_getI 12 33 dX12_house_137 fl_X12_234 rfl (lt_200 hL) ?_
        refine pv_iconst (v := 1) (by decide) dX12_house_140 ?_
        refine pv_iadd dX12_house_141 ?_
        obtain ⟨h6, eh6⟩ : ∃ h6 : pv_H, h6 = pv_up h5 200 33 ((h5 200 33) + 1) := ⟨_, rfl⟩
        have F := F h6 eh6
        refine pv_putI 12 33 dX12_house_142 fl_X12_234 ⟨_, rfl, Or.inl rfl⟩ (Or.inl rfl) (lt_200 hL) ?_
        refine pv_hE eh6 ?_
        refine pv_aload_n dX12_house_145 rfl ?_
        refine pv_getI 12 33 dX12_house_146 fl_X12_234 rfl (lt_200 hL) ?_
        refine pv_iconst (v := 1) (by decide) dX12_house_149 ?_
        refine pv_isub dX12_house_150 ?_
        exact pv_ireturn dX12_house_151 rfl rfl F
      · have F := F.2 c3
        refine pv_iconst (v := 0) (by decide) dX12_house_116 ?_
        refine pv_goto (tgt := 124) dX12_house_117 (by decide) ?_
        obtain ⟨q6, F⟩ := F
        obtain ⟨h7, eh7⟩ : ∃ h7 : pv_H, h7 = pv_up h3 337 (Int32.toNatClampNeg (h3 200 33)) 0 := ⟨_, rfl⟩
        have F := F h7 eh7
        refine pv_iast dX12_house_124 (lt_337 hL) (by decide) q6 ?_
        refine pv_hE eh7 ?_
        refine pv_aload_n dX12_house_125 rfl ?_
        refine pv_getRk 12 38 dX12_house_126 fl_X12_96 rfl (lt_200 hL) (lr_200_38 hL) ?_
        refine pv_aload_n dX12_house_129 rfl ?_
        refine pv_getI 12 33 dX12_house_130 fl_X12_234 rfl (lt_200 hL) ?_
        refine pv_iload_n dX12_house_133 rfl ?_
        obtain ⟨q7, F⟩ := F
        obtain ⟨h8, eh8⟩ : ∃ h8 : pv_H, h8 = pv_up h7 338 (Int32.toNatClampNeg (h7 200 33)) x3 := ⟨_, rfl⟩
        have F := F h8 eh8
        refine pv_iast dX12_house_134 (lt_338 hL) (by decide) q7 ?_
        refine pv_hE eh8 ?_
        refine pv_aload_n dX12_house_135 rfl ?_
        refine pv_dup rfl dX12_house_136 ?_
        refine pv_getI 12 33 dX12_house_137 fl_X12_234 rfl (lt_200 hL) ?_
        refine pv_iconst (v := 1) (by decide) dX12_house_140 ?_
        refine pv_iadd dX12_house_141 ?_
        obtain ⟨h9, eh9⟩ : ∃ h9 : pv_H, h9 = pv_up h8 200 33 ((h8 200 33) + 1) := ⟨_, rfl⟩
        have F := F h9 eh9
        refine pv_putI 12 33 dX12_house_142 fl_X12_234 ⟨_, rfl, Or.inl rfl⟩ (Or.inl rfl) (lt_200 hL) ?_
        refine pv_hE eh9 ?_
        refine pv_aload_n dX12_house_145 rfl ?_
        refine pv_getI 12 33 dX12_house_146 fl_X12_234 rfl (lt_200 hL) ?_
        refine pv_iconst (v := 1) (by decide) dX12_house_149 ?_
        refine pv_isub dX12_house_150 ?_
        exact pv_ireturn dX12_house_151 rfl rfl F
    · have F := F.2 c2
      refine pv_iconst (v := (-1)) (by decide) dX12_house_95 ?_
      refine pv_goto (tgt := 103) dX12_house_96 (by decide) ?_
      obtain ⟨q8, F⟩ := F
      obtain ⟨h10, eh10⟩ : ∃ h10 : pv_H, h10 = pv_up h2 336 (Int32.toNatClampNeg (h2 200 33)) (-1) := ⟨_, rfl⟩
      have F := F h10 eh10
      refine pv_iast dX12_house_103 (lt_336 hL) (by decide) q8 ?_
      refine pv_hE eh10 ?_
      refine pv_aload_n dX12_house_104 rfl ?_
      refine pv_getRk 12 37 dX12_house_105 fl_X12_93 rfl (lt_200 hL) (lr_200_37 hL) ?_
      refine pv_aload_n dX12_house_108 rfl ?_
      refine pv_getI 12 33 dX12_house_109 fl_X12_234 rfl (lt_200 hL) ?_
      refine pv_iload_n dX12_house_112 rfl ?_
      refine pv_if_ge (tgt := 120) dX12_house_113 (by decide) (fun c4 => ?_) (fun c4 => ?_)
      · have F := F.1 c4
        refine pv_iload_n dX12_house_120 rfl ?_
        refine pv_bipush (v := 100) (by decide) dX12_house_121 ?_
        refine pv_irem (by decide) dX12_house_123 ?_
        obtain ⟨q9, F⟩ := F
        obtain ⟨h11, eh11⟩ : ∃ h11 : pv_H, h11 = pv_up h10 337 (Int32.toNatClampNeg (h10 200 33)) (x2 - x2 / 100 * 100) := ⟨_, rfl⟩
        have F := F h11 eh11
        refine pv_iast dX12_house_124 (lt_337 hL) (by decide) q9 ?_
        refine pv_hE eh11 ?_
        refine pv_aload_n dX12_house_125 rfl ?_
        refine pv_getRk 12 38 dX12_house_126 fl_X12_96 rfl (lt_200 hL) (lr_200_38 hL) ?_
        refine pv_aload_n dX12_house_129 rfl ?_
        refine pv_getI 12 33 dX12_house_130 fl_X12_234 rfl (lt_200 hL) ?_
        refine pv_iload_n dX12_house_133 rfl ?_
        obtain ⟨q10, F⟩ := F
        obtain ⟨h12, eh12⟩ : ∃ h12 : pv_H, h12 = pv_up h11 338 (Int32.toNatClampNeg (h11 200 33)) x3 := ⟨_, rfl⟩
        have F := F h12 eh12
        refine pv_iast dX12_house_134 (lt_338 hL) (by decide) q10 ?_
        refine pv_hE eh12 ?_
        refine pv_aload_n dX12_house_135 rfl ?_
        refine pv_dup rfl dX12_house_136 ?_
        refine pv_getI 12 33 dX12_house_137 fl_X12_234 rfl (lt_200 hL) ?_
        refine pv_iconst (v := 1) (by decide) dX12_house_140 ?_
        refine pv_iadd dX12_house_141 ?_
        obtain ⟨h13, eh13⟩ : ∃ h13 : pv_H, h13 = pv_up h12 200 33 ((h12 200 33) + 1) := ⟨_, rfl⟩
        have F := F h13 eh13
        refine pv_putI 12 33 dX12_house_142 fl_X12_234 ⟨_, rfl, Or.inl rfl⟩ (Or.inl rfl) (lt_200 hL) ?_
        refine pv_hE eh13 ?_
        refine pv_aload_n dX12_house_145 rfl ?_
        refine pv_getI 12 33 dX12_house_146 fl_X12_234 rfl (lt_200 hL) ?_
        refine pv_iconst (v := 1) (by decide) dX12_house_149 ?_
        refine pv_isub dX12_house_150 ?_
        exact pv_ireturn dX12_house_151 rfl rfl F
      · have F := F.2 c4
        refine pv_iconst (v := 0) (by decide) dX12_house_116 ?_
        refine pv_goto (tgt := 124) dX12_house_117 (by decide) ?_
        obtain ⟨q11, F⟩ := F
        obtain ⟨h14, eh14⟩ : ∃ h14 : pv_H, h14 = pv_up h10 337 (Int32.toNatClampNeg (h10 200 33)) 0 := ⟨_, rfl⟩
        have F := F h14 eh14
        refine pv_iast dX12_house_124 (lt_337 hL) (by decide) q11 ?_
        refine pv_hE eh14 ?_
        refine pv_aload_n dX12_house_125 rfl ?_
        refine pv_getRk 12 38 dX12_house_126 fl_X12_96 rfl (lt_200 hL) (lr_200_38 hL) ?_
        refine pv_aload_n dX12_house_129 rfl ?_
        refine pv_getI 12 33 dX12_house_130 fl_X12_234 rfl (lt_200 hL) ?_
        refine pv_iload_n dX12_house_133 rfl ?_
        obtain ⟨q12, F⟩ := F
        obtain ⟨h15, eh15⟩ : ∃ h15 : pv_H, h15 = pv_up h14 338 (Int32.toNatClampNeg (h14 200 33)) x3 := ⟨_, rfl⟩
        have F := F h15 eh15
        refine pv_iast dX12_house_134 (lt_338 hL) (by decide) q12 ?_
        refine pv_hE eh15 ?_
        refine pv_aload_n dX12_house_135 rfl ?_
        refine pv_dup rfl dX12_house_136 ?_
        refine pv_getI 12 33 dX12_house_137 fl_X12_234 rfl (lt_200 hL) ?_
        refine pv_iconst (v := 1) (by decide) dX12_house_140 ?_
        refine pv_iadd dX12_house_141 ?_
        obtain ⟨h16, eh16⟩ : ∃ h16 : pv_H, h16 = pv_up h15 200 33 ((h15 200 33) + 1) := ⟨_, rfl⟩
        have F := F h16 eh16
        refine pv_putI 12 33 dX12_house_142 fl_X12_234 ⟨_, rfl, Or.inl rfl⟩ (Or.inl rfl) (lt_200 hL) ?_
        refine pv_hE eh16 ?_
        refine pv_aload_n dX12_house_145 rfl ?_
        refine pv_getI 12 33 dX12_house_146 fl_X12_234 rfl (lt_200 hL) ?_
        refine pv_iconst (v := 1) (by decide) dX12_house_149 ?_
        refine pv_isub dX12_house_150 ?_
        exact pv_ireturn dX12_house_151 rfl rfl F
  · have F := F.2 c1
    refine pv_bipush (v := (-3)) (by decide) dX12_house_54 ?_
    exact pv_ireturn dX12_house_56 rfl rfl F
section HB
variable {Γ : pv_C} {d kc ks : Nat} {ty : pv_T} {h : pv_H} {r : pv_R} {g : pv_G} {Q : pv_Q} {nh ns : Nat} {x y z : Int32}
def fo_house (h : pv_H) (x y z : Int32) : Prop := fo_pl h x ∧ (y = -1 ∨ (fo_pl h y ∧ ¬ y / 100 = x / 100)) ∧ (0 ≤ z ∧ z ≤ 999)
def hcS (y : Int32) : Int32 := if y = -1 then -1 else y / 100
def hcF (y : Int32) : Int32 := if y = -1 then 0 else y - y / 100 * 100
theorem ct_findH (hL : pv_Lay ty r) (hH : cpH ty h r nh) {K : pv_Q} (hf : ¬ (0 ≤ x ∧ x ≤ h 200 33 - 1) → K (some (.ref 0)) ty h r g) (ht : ∀ i, i < nh → x = nI i → K (some (.ref (hA i))) ty h r g) : pv_CT Γ d 0 0 mX11_findHouse [.ref 100, .int x] ty h r g K := by
  obtain ⟨⟨h2, h3, h4⟩, hc⟩ := hH
  rw [h3, ni_valid (by omega)] at hf
  refine pv_fn 0 pn_X11 rfl (Nat.le_of_ble_eq_true rfl) (sg_X11_findHouse_0 x hL ⟨fun c => hf (fun ⟨s, _, e⟩ => ?_), fun c => ?_⟩)
  · rw [e] at c; exact absurd c (nI_pos (by omega))
  · obtain ⟨i, hi, rfl⟩ := nI_of c
    refine pk_le nh i (fun c2 => hf (fun ⟨s, hs, e⟩ => ?_)) (fun c2 => ?_) h4
    · have := (nI_eq (by omega) (by omega)).mp e
      omega
    · rw [nI_clamp (by omega), (hc i c2).1]
      exact ⟨vp_in_nI (by omega) (by decide), ht i c2 rfl⟩
theorem hm_45 (hL : pv_Lay ty r) (hn : nh ≤ 60) (h33 : h 200 33 = nI nh) (hy : y = -1 ∨ ¬ y < 0) (hfull : nh = 60 → Q (some (.int (-3))) ty h r g) (hok : nh < 60 → Q (some (.int (nI nh))) ty (pv_up (pv_up (pv_up (pv_up (pv_up (pv_up h 334 nh (x / 100)) 335 nh (x - x / 100 * 100)) 336 nh (hcS y)) 337 nh (hcF y)) 338 nh z) 200 33 (nI (nh + 1))) r g) : pv_E Γ d kc ks mX12_house 45 [some (.ref 200), some (.int x), some (.int y), some (.int z)] [] ty h r g Q := by
  refine sg_X12_house_45 _ _ _ hL (pj_eq nh 60 (fun c => hfull c) (fun c => ?_) h33)
  have hi : vp_in (nI nh) 60 := vp_in_nI (by omega) (by decide)
  have hok' := hok (by omega)
  rw [h33, nI_clamp (by omega)]
  refine ⟨hi, fun h2 e2 => ?_⟩
  have a2 : h2 200 33 = nI nh := by rw [e2, pv_up_a (by decide)]; exact h33
  rw [a2, nI_clamp (by omega)]
  refine ⟨hi, fun h3 e3 => ?_⟩
  have a3 : h3 200 33 = nI nh := by rw [e3, pv_up_a (by decide)]; exact a2
  rw [a3, nI_clamp (by omega)]
  have tail : ∀ h4, h4 = pv_up h3 336 nh (hcS y) → ∀ (v : Int32), v = hcF y → vp_in (h4 200 33) 60 ∧ (∀ h5 : pv_H, h5 = pv_up h4 337 (Int32.toNatClampNeg (h4 200 33)) v → vp_in (h5 200 33) 60 ∧ (∀ h6 : pv_H, h6 = pv_up h5 338 (Int32.toNatClampNeg (h5 200 33)) z → (∀ h7 : pv_H, h7 = pv_up h6 200 33 ((h6 200 33) + 1) → Q (some (.int ((h7 200 33) - 1))) ty h7 r g))) := fun h4 e4 v hv => by
    have a4 : h4 200 33 = nI nh := by rw [e4, pv_up_a (by decide)]; exact a3
    rw [a4, nI_clamp (by omega)]
    refine ⟨hi, fun h5 e5 => ?_⟩
    have a5 : h5 200 33 = nI nh := by rw [e5, pv_up_a (by decide)]; exact a4
    rw [a5, nI_clamp (by omega)]
    refine ⟨hi, fun h6 e6 h7 e7 => ?_⟩
    have a6 : h6 200 33 = nI nh := by rw [e6, pv_up_a (by decide)]; exact a5
    rw [a6, nI_1] at e7
    have a7 : h7 200 33 = nI (nh + 1) := by rw [e7, pv_up_same]
    rw [a7, nI_pred, e7, e6, e5, e4, e3, e2, hv]
    exact hok'
  rcases hy with rfl | hy
  · exact ⟨fun q => absurd q (by decide), fun _ => ⟨hi, fun h11 e11 => ⟨fun q => absurd q (by decide), fun _ => tail h11 e11 0 rfl⟩⟩⟩
  · have hne : ¬ y = -1 := fun q => hy (by rw [q]; decide)
    have hge := Int32.not_lt.mp hy
    exact ⟨fun _ => ⟨hi, fun h4 e4 => ⟨fun _ => tail h4 (by rw [e4]; unfold hcS; rw [if_neg hne]) _ (by unfold hcF; rw [if_neg hne]), fun q => absurd hge q⟩⟩, fun q => absurd hge q⟩
theorem ct_X12_house (hd : 3 ≤ d) (hL : pv_Lay ty r) (hn : nh ≤ 60) (h33 : h 200 33 = nI nh) : pv_CJ Γ d mX12_house [.ref 200, .int x, .int y, .int z] ty h r g (fun w h' => (¬ fo_house h x y z → w = -1 ∧ h' = h) ∧ (fo_house h x y z → (nh = 60 → w = -3 ∧ h' = h) ∧ (nh < 60 → w = nI nh ∧ h' = pv_up (pv_up (pv_up (pv_up (pv_up (pv_up h 334 nh (x / 100)) 335 nh (x - x / 100 * 100)) 336 nh (hcS y)) 337 nh (hcF y)) 338 nh z) 200 33 (nI (nh + 1))))) := by
  have fin : fo_house h x y z → pv_E Γ d 0 0 mX12_house 45 [some (.ref 200), some (.int x), some (.int y), some (.int z)] [] ty h r g (pv_jq ty r g (fun w h' => (¬ fo_house h x y z → w = -1 ∧ h' = h) ∧ (fo_house h x y z → (nh = 60 → w = -3 ∧ h' = h) ∧ (nh < 60 → w = nI nh ∧ h' = pv_up (pv_up (pv_up (pv_up (pv_up (pv_up h 334 nh (x / 100)) 335 nh (x - x / 100 * 100)) 336 nh (hcS y)) 337 nh (hcF y)) 338 nh z) 200 33 (nI (nh + 1)))))) := fun hok => hm_45 hL hn h33 (hok.2.1.imp id (fun q => q.1.1)) (fun c => pv_jqi ⟨fun q => absurd hok q, fun _ => ⟨fun _ => ⟨rfl, rfl⟩, fun q => absurd c (by omega)⟩⟩) (fun c => pv_jqi ⟨fun q => absurd hok q, fun _ => ⟨fun q => absurd q (by omega), fun _ => ⟨rfl, rfl⟩⟩⟩)
  refine pv_fn 0 pn_X12 rfl (Nat.le_of_ble_eq_true rfl) (sg_X12_house_0 _ _ _ (by omega) hL (pk_b (fun c1 => ⟨fun c2 => pj_b (fun c3 => fin ⟨c1, Or.inl c2, c3⟩) (fun c3 => pv_jqi ⟨fun _ => ⟨rfl, rfl⟩, fun q => absurd q.2.2 c3⟩), fun c2 => pk_b (fun c3 => ⟨fun c4 => pv_jqi ⟨fun _ => ⟨rfl, rfl⟩, fun q => absurd q.2.1 ?_⟩, fun c4 => pj_b (fun c5 => fin ⟨c1, Or.inr ⟨c3, c4⟩, c5⟩) (fun c5 => pv_jqi ⟨fun _ => ⟨rfl, rfl⟩, fun q => absurd q.2.2 c5⟩)⟩) (fun c3 => pv_jqi ⟨fun _ => ⟨rfl, rfl⟩, fun q => absurd q.2.1 ?_⟩)⟩) (fun c1 => pv_jqi ⟨fun _ => ⟨rfl, rfl⟩, fun q => absurd q.1 c1⟩)))
  · rintro (q | q)
    · exact c2 q
    · exact q.2 c4
  · rintro (q | q)
    · exact c2 q
    · exact c3 q.1
/-- what house makes on the class's side -/
def hs_c (nh : Nat) (x y z : Int32) (ty : pv_T) (h : pv_H) (r : pv_R) (g : pv_G) (ty' : pv_T) (h' : pv_H) (r' : pv_R) (g' : pv_G) : Prop := pv_Lay ty' r' ∧ ty' = pv_newT ty (hA nh) 3 0 ∧ r' = pv_up (pv_new r (hA nh) 0) 117 nh (hA nh) ∧ g' = pv_new g (hA nh) 0 ∧ (∀ a j, a ≠ hA nh → ¬ (a = 100 ∧ j = 8) → h' a j = h a j) ∧ h' 100 8 = nI (nh + 1) ∧ h' (hA nh) 0 = x / 100 ∧ h' (hA nh) 1 = x - x / 100 * 100 ∧ h' (hA nh) 2 = hcS y ∧ h' (hA nh) 3 = hcF y ∧ h' (hA nh) 4 = z
theorem pv_lay_117 : ∀ q ∈ pv_layR, q.1 ≠ 117 := by decide +kernel
theorem hc_47 (hd : 3 ≤ d) (hkc : 1 ≤ kc) (hks : 5 ≤ ks) (hL : pv_Lay ty r) (hn : nh ≤ 60) (h8 : h 100 8 = nI nh) (hfr : nh < 60 → ty (hA nh) = none) (hfull : nh = 60 → Q (some (.int (-3))) ty h r g) (hok : nh < 60 → ∀ ty' h' r' g', hs_c nh x y z ty h r g ty' h' r' g' → Q (some (.int (nI nh))) ty' h' r' g') : pv_E Γ d kc ks mX11_house 47 [some (.ref 100), some (.int x), some (.int y), some (.int z)] [] ty h r g Q := by
  have hA' : 2000 ≤ hA nh := by unfold hA; omega
  refine sg_X11_house_47 _ _ _ (by omega) hL (pk_lt nh 60 (fun c => ?_) (fun c => hfull (by omega)) h8)
  refine ⟨hA nh, by omega, hfr c, hkc, hks, fun ty1 h2' r1 g1 e1 e2 e3 e4 => ?_⟩
  have hL1 : pv_Lay ty1 r1 := by rw [e1, e3]; exact pv_Lay_new hL (by omega)
  have ht : ty1 (hA nh) = some (3, 0) := by rw [e1]; simp [pv_newT]
  have hL3 : pv_Lay ty1 (pv_up r1 117 nh (hA nh)) := pv_Lay_up hL1 (fun q hq z => pv_lay_117 q hq z.1)
  have fin : ∀ (a1 a2 a3 a4 a5 : pv_H), a1 = pv_up h2' (hA nh) 0 (x / 100) → a2 = pv_up a1 (hA nh) 1 (x - x / 100 * 100) → a3 = pv_up a2 (hA nh) 2 (hcS y) → a4 = pv_up a3 (hA nh) 3 (hcF y) → a5 = pv_up a4 (hA nh) 4 z → vp_in (h 100 8) 60 ∧ ty1 (hA nh) = some (3, 0) ∧ (∀ r4 : pv_R, r4 = pv_up r1 117 (Int32.toNatClampNeg (h 100 8)) (hA nh) → pv_Lay ty1 r4 ∧ (∀ h4 : pv_H, h4 = pv_up a5 100 8 ((a5 100 8) + 1) → Q (some (.int ((h4 100 8) - 1))) ty1 h4 r4 g1)) := fun a1 a2 a3 a4 a5 f1 f2 f3 f4 f5 => by
    rw [h8, nI_clamp (by omega)]
    refine ⟨vp_in_nI (by omega) (by decide), ht, fun r3 e5 => ⟨by rw [e5]; exact hL3, fun h4' e6 => ?_⟩⟩
    have b1 : ∀ a j, a ≠ hA nh → a5 a j = h a j := fun a j ha => by rw [f5, pv_up_a ha, f4, pv_up_a ha, f3, pv_up_a ha, f2, pv_up_a ha, f1, pv_up_a ha, e2, pv_new, if_neg ha]
    have b2 : a5 100 8 = nI nh := by rw [b1 100 8 (by omega)]; exact h8
    rw [b2, nI_1] at e6
    have b3 : h4' 100 8 = nI (nh + 1) := by rw [e6, pv_up_same]
    rw [b3, nI_pred]
    refine hok c _ _ _ _ ⟨by rw [e5]; exact hL3, e1, by rw [e5, e3], e4, fun a j ha hb => ?_, b3, ?_, ?_, ?_, ?_, ?_⟩
    · rw [e6, pv_up, if_neg hb]; exact b1 a j ha
    · rw [e6, pv_up_a (by omega), f5, pv_up_j (by decide), f4, pv_up_j (by decide), f3, pv_up_j (by decide), f2, pv_up_j (by decide), f1, pv_up_same]
    · rw [e6, pv_up_a (by omega), f5, pv_up_j (by decide), f4, pv_up_j (by decide), f3, pv_up_j (by decide), f2, pv_up_same]
    · rw [e6, pv_up_a (by omega), f5, pv_up_j (by decide), f4, pv_up_j (by decide), f3, pv_up_same]
    · rw [e6, pv_up_a (by omega), f5, pv_up_j (by decide), f4, pv_up_same]
    · rw [e6, pv_up_a (by omega), f5, pv_up_same]
  refine ⟨hL1, ht, pv_fn 0 pn_X3 rfl (Nat.le_of_ble_eq_true rfl) (sg_X3_init_0 (hA nh) _ _ _ (by omega) ⟨by omega, ht, fun a1 f1 => ⟨ht, fun a2 f2 => ⟨fun c1 => ⟨ht, fun a3 f3 => ⟨fun _ => ⟨ht, fun a4 f4 => ⟨ht, fun a5 f5 => ⟨rfl, hL1, ?_⟩⟩⟩, fun q => absurd q c1⟩⟩, fun c1 => ⟨ht, fun a3 f3 => ⟨fun q => absurd c1 q, fun _ => ⟨ht, fun a4 f4 => ⟨ht, fun a5 f5 => ⟨rfl, hL1, ?_⟩⟩⟩⟩⟩⟩⟩⟩)⟩
  · exact fin a1 a2 a3 a4 a5 f1 f2 (by rw [f3]; unfold hcS; rw [if_neg c1]) (by rw [f4]; unfold hcF; rw [if_neg c1]) f5
  · exact fin a1 a2 a3 a4 a5 f1 f2 (by rw [f3]; unfold hcS; rw [if_pos c1]) (by rw [f4]; unfold hcF; rw [if_pos c1]) f5
theorem ct_X11_house (hd : 3 ≤ d) (hL : pv_Lay ty r) (hS : cpS ty h r ns) (hH : cpH ty h r nh) (hfr : nh < 60 → ty (hA nh) = none) {k : pv_Q} (h1 : ¬ fo_house h x y z → k (some (.int (-1))) ty h r g) (h3 : fo_house h x y z → nh = 60 → k (some (.int (-3))) ty h r g) (h4 : fo_house h x y z → nh < 60 → ∀ ty' h' r' g', hs_c nh x y z ty h r g ty' h' r' g' → k (some (.int (nI nh))) ty' h' r' g') : pv_CT Γ d 1 5 mX11_house [.ref 100, .int x, .int y, .int z] ty h r g k := by
  have fin : fo_house h x y z → pv_E Γ d 1 5 mX11_house 47 [some (.ref 100), some (.int x), some (.int y), some (.int z)] [] ty h r g k := fun hok => hc_47 hd (Nat.le_refl _) (Nat.le_refl _) hL hH.1.1 hH.1.2.2 hfr (h3 hok) (h4 hok)
  refine pv_fn 0 pn_X11 rfl (Nat.le_of_ble_eq_true rfl) (sg_X11_house_0 _ _ _ (by omega) hL ⟨⟨ns, hS⟩, pk_b (fun c1 => pj_b (fun c3 => ⟨fun c2 => fin ⟨c1, Or.inl c2, c3⟩, fun c2 => ⟨⟨ns, hS⟩, pk_b (fun c4 => ⟨fun c5 => fin ⟨c1, Or.inr ⟨c4, c5⟩, c3⟩, fun c5 => h1 (fun q => q.2.1.elim c2 (fun z => z.2 c5))⟩) (fun c4 => h1 (fun q => q.2.1.elim c2 (fun z => c4 z.1)))⟩⟩) (fun c3 => h1 (fun q => c3 q.2.2))) (fun c1 => h1 (fun q => c1 q.1))⟩)
end HB
