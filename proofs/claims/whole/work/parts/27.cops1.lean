/-! the class's calls on heights -/
theorem cA_ne (s : Nat) : ¬ cA s = 0 := by show ¬ 1000 + 4 * s = 0; omega
set_option maxRecDepth 20000 in
set_option maxHeartbeats 4000000 in
theorem sg_X11_findStreet_0 {Γ : pv_C} {d kc ks : Nat} {ty : pv_T} {h : pv_H} {r : pv_R} {g : pv_G} {Q : pv_Q} (x : Int32) (hL : pv_Lay ty r) (F : ((x < 0 → Q (some (.ref 0)) ty h r g) ∧ (¬ x < 0 → (((h 100 1) ≤ x → Q (some (.ref 0)) ty h r g) ∧ (¬ (h 100 1) ≤ x → vp_in x 8 ∧ Q (some (.ref (r 110 (Int32.toNatClampNeg x)))) ty h r g))))) : pv_E Γ d kc ks mX11_findStreet 0 [some (.ref 100), some (.int x)] [] ty h r g Q := by
  refine pv_iload_n dX11_findStreet_0 rfl ?_
  refine pv_if_lt (tgt := 21) dX11_findStreet_1 (by decide) (fun c1 => ?_) (fun c1 => ?_)
  · have F := F.1 c1
    refine pv_null dX11_findStreet_21 ?_
    exact pv_areturn dX11_findStreet_22 rfl (by first | exact Or.inl ⟨_, rfl⟩ | exact Or.inr ⟨_, rfl⟩) F
  · have F := F.2 c1
    refine pv_iload_n dX11_findStreet_4 rfl ?_
    refine pv_aload_n dX11_findStreet_5 rfl ?_
    refine pv_getI 11 1 dX11_findStreet_6 fl_X11_73 rfl (lt_100 hL) ?_
    refine pv_icmp_ge (tgt := 21) dX11_findStreet_9 (by decide) (fun c2 => ?_) (fun c2 => ?_)
    · have F := F.1 c2
      refine pv_null dX11_findStreet_21 ?_
      exact pv_areturn dX11_findStreet_22 rfl (by first | exact Or.inl ⟨_, rfl⟩ | exact Or.inr ⟨_, rfl⟩) F
    · have F := F.2 c2
      refine pv_aload_n dX11_findStreet_12 rfl ?_
      refine pv_getRk 11 0 dX11_findStreet_13 fl_X11_11 rfl (lt_100 hL) (lr_100_0 hL) ?_
      refine pv_iload_n dX11_findStreet_16 rfl ?_
      obtain ⟨q1, F⟩ := F
      refine pv_aald dX11_findStreet_17 (lt_110 hL) (by decide) q1 ?_
      refine pv_goto (tgt := 22) dX11_findStreet_18 (by decide) ?_
      exact pv_areturn dX11_findStreet_22 rfl (by first | exact Or.inl ⟨_, rfl⟩ | exact Or.inr ⟨_, rfl⟩) F
section CR
variable {Γ : pv_C} {d : Nat} {ty : pv_T} {h : pv_H} {r : pv_R} {g : pv_G} {ns : Nat}
theorem ct_find (hL : pv_Lay ty r) (hI : cpS ty h r ns) {x : Int32} {K : pv_Q} (hf : ¬ (0 ≤ x ∧ x ≤ h 200 1 - 1) → K (some (.ref 0)) ty h r g) (ht : ∀ s, s < ns → x = nI s → K (some (.ref (cA s))) ty h r g) : pv_CT Γ d 0 0 mX11_findStreet [.ref 100, .int x] ty h r g K := by
  have h8 := hI.1.1
  have hn := hI.1.2.1
  refine pv_fn 0 pn_X11 rfl (Nat.le_of_ble_eq_true rfl) (sg_X11_findStreet_0 x hL ⟨fun c1 => hf (fun q => Int32.not_lt.mpr q.1 c1), fun c1 => ?_⟩)
  obtain ⟨s, hs, rfl⟩ := nI_of c1
  rw [hI.2.1, nI_leI (by omega) hs, nI_clamp hs]
  refine ⟨fun c2 => hf (fun q => ?_), fun c2 => ⟨vp_in_nI (by omega) (by decide), ?_⟩⟩
  · rw [hn, ni_valid (by omega)] at q
    obtain ⟨s', h1, h2⟩ := q
    have := (nI_eq hs (by omega)).mp h2
    omega
  · rw [(hI.2.2 s (by omega)).1]
    exact ht s (by omega) rfl
end CR
set_option maxRecDepth 20000 in
set_option maxHeartbeats 4000000 in
theorem sg_X11_read_0 {Γ : pv_C} {d kc ks : Nat} {ty : pv_T} {h : pv_H} {r : pv_R} {g : pv_G} {Q : pv_Q} (x : Int32) (y : Int32) (z : Int32) (hd : 1 ≤ d) (hL : pv_Lay ty r) (F : pv_CT Γ (d - 1) 0 0 mX11_findStreet [.ref 100, .int x] ty h r g (fun (v1 : Option Value) (ty1 : pv_T) (h1 : pv_H) (r1 : pv_R) (g1 : pv_G) => ∃ w1 : Nat, v1 = some (.ref w1) ∧ pv_Lay ty1 r1 ∧ ((w1 = 0 → Q (some (.int (-1))) ty1 h1 r1 g1) ∧ (¬ w1 = 0 → ty1 w1 = some (8, 0) ∧ (ty1 w1 = some (8, 0)) ∧ ((¬ (pf_b ((0 ≤ y ∧ y < h1 w1 0) ∧ (0 ≤ z ∧ z < h1 w1 1))) = 0 → ty1 w1 = some (8, 0) ∧ ty1 w1 = some (8, 0) ∧ (ty1 w1 = some (8, 0)) ∧ pv_inb ty1 (r1 w1 2) 20 (y * h1 w1 1 + z) ∧ Q (some (.int (h1 (r1 w1 2) (Int32.toNatClampNeg (y * h1 w1 1 + z))))) ty1 h1 r1 g1) ∧ ((pf_b ((0 ≤ y ∧ y < h1 w1 0) ∧ (0 ≤ z ∧ z < h1 w1 1))) = 0 → Q (some (.int (-1))) ty1 h1 r1 g1)))))) : pv_E Γ d kc ks mX11_read 0 [some (.ref 100), some (.int x), some (.int y), some (.int z), none] [] ty h r g Q := by
  refine pv_aload_n dX11_read_0 rfl ?_
  refine pv_iload_n dX11_read_1 rfl ?_
  refine pv_invV (As := [.int x]) (d' := d - 1) dX11_read_2 moX11_findStreet ml_X11_80 (lt_100 hL) (Or.inl ⟨_, rfl, rfl⟩) (Nat.le_of_ble_eq_true rfl) (by omega) (Nat.zero_le _) (Nat.zero_le _) F (fun v1 ty1 h1 r1 g1 F => ?_) rfl
  obtain ⟨w1, rfl, F⟩ := F
  obtain ⟨hL1, F⟩ := F
  refine pv_pc (pc' := 5) rfl ?_
  show pv_E Γ d kc ks mX11_read 5 [some (.ref 100), some (.int x), some (.int y), some (.int z), none] [.ref w1] ty1 h1 r1 g1 Q
  refine pv_astore (ls' := [some (.ref 100), some (.int x), some (.int y), some (.int z), some (.ref w1)]) dX11_read_5 (by decide) rfl rfl ?_
  refine pv_aload dX11_read_7 rfl ?_
  refine pv_ifnull (tgt := 22) dX11_read_9 (by decide) (fun c1 => ?_) (fun c1 => ?_)
  · have F := F.1 c1
    refine pv_iconst (v := (-1)) (by decide) dX11_read_22 ?_
    exact pv_ireturn dX11_read_23 rfl rfl F
  · have F := F.2 c1
    refine pv_aload dX11_read_12 rfl ?_
    refine pv_iload_n dX11_read_14 rfl ?_
    refine pv_iload_n dX11_read_15 rfl ?_
    obtain ⟨q1, F⟩ := F
    obtain ⟨q2, F⟩ := F
    refine pv_invV (As := [.int y, .int z]) (d' := d - 1) dX11_read_16 moX8_has ml_X11_84 q1 (Or.inl ⟨_, rfl, rfl⟩) (Nat.le_of_ble_eq_true rfl) (by omega) (Nat.zero_le _) (Nat.zero_le _) (ct_X8_has (by omega) q2) (fun v ty' h' r' g' hq => ?_) rfl
    obtain ⟨e1, e2, e3, e4, e5⟩ := hq
    rw [e1, e2, e3, e4, e5]
    refine pv_pc (pc' := 19) rfl ?_
    show pv_E Γ d kc ks mX11_read 19 [some (.ref 100), some (.int x), some (.int y), some (.int z), some (.ref w1)] [.int (pf_b ((0 ≤ y ∧ y < h1 w1 0) ∧ (0 ≤ z ∧ z < h1 w1 1)))] ty1 h1 r1 g1 Q
    refine pv_if_ne (tgt := 24) dX11_read_19 (by decide) (fun c2 => ?_) (fun c2 => ?_)
    · have F := F.1 c2
      refine pv_aload dX11_read_24 rfl ?_
      obtain ⟨q3, F⟩ := F
      refine pv_getR 8 2 dX11_read_26 fl_X11_92 rfl q3 ?_
      refine pv_aload dX11_read_29 rfl ?_
      refine pv_iload_n dX11_read_31 rfl ?_
      refine pv_iload_n dX11_read_32 rfl ?_
      obtain ⟨q4, F⟩ := F
      obtain ⟨q5, F⟩ := F
      refine pv_invV (As := [.int y, .int z]) (d' := d - 1) dX11_read_33 moX8_placeOf ml_X11_88 q4 (Or.inl ⟨_, rfl, rfl⟩) (Nat.le_of_ble_eq_true rfl) (by omega) (Nat.zero_le _) (Nat.zero_le _) (ct_X8_placeOf (by omega) q5) (fun v ty' h' r' g' hq => ?_) rfl
      obtain ⟨e1, e2, e3, e4, e5⟩ := hq
      rw [e1, e2, e3, e4, e5]
      refine pv_pc (pc' := 36) rfl ?_
      show pv_E Γ d kc ks mX11_read 36 [some (.ref 100), some (.int x), some (.int y), some (.int z), some (.ref w1)] [.int (y * h1 w1 1 + z), .ref (r1 w1 2)] ty1 h1 r1 g1 Q
      obtain ⟨q6, F⟩ := F
      obtain ⟨q6n, q6t, q6i⟩ := q6
      refine pv_iald dX11_read_36 q6t q6i ?_
      exact pv_ireturn dX11_read_37 rfl rfl F
    · have F := F.2 c2
      refine pv_iconst (v := (-1)) (by decide) dX11_read_22 ?_
      exact pv_ireturn dX11_read_23 rfl rfl F
set_option maxRecDepth 20000 in
set_option maxHeartbeats 4000000 in
theorem sg_X11_height_0 {Γ : pv_C} {d kc ks : Nat} {ty : pv_T} {h : pv_H} {r : pv_R} {g : pv_G} {Q : pv_Q} (x : Int32) (y : Int32) (z : Int32) (u : Int32) (hd : 1 ≤ d) (hL : pv_Lay ty r) (F : pv_CT Γ (d - 1) 0 0 mX11_findStreet [.ref 100, .int x] ty h r g (fun (v1 : Option Value) (ty1 : pv_T) (h1 : pv_H) (r1 : pv_R) (g1 : pv_G) => ∃ w1 : Nat, v1 = some (.ref w1) ∧ pv_Lay ty1 r1 ∧ ((w1 = 0 → Q (some (.int (-1))) ty1 h1 r1 g1) ∧ (¬ w1 = 0 → ty1 w1 = some (8, 0) ∧ (ty1 w1 = some (8, 0)) ∧ (((pf_b ((0 ≤ y ∧ y < h1 w1 0) ∧ (0 ≤ z ∧ z < h1 w1 1))) = 0 → Q (some (.int (-1))) ty1 h1 r1 g1) ∧ (¬ (pf_b ((0 ≤ y ∧ y < h1 w1 0) ∧ (0 ≤ z ∧ z < h1 w1 1))) = 0 → ((¬ (pf_b (0 ≤ u ∧ u ≤ 99)) = 0 → ty1 w1 = some (8, 0) ∧ (ty1 w1 = some (8, 0)) ∧ ty1 w1 = some (8, 0) ∧ pv_inb ty1 (r1 w1 2) 20 (y * h1 w1 1 + z) ∧ ty1 w1 = some (8, 0) ∧ pv_inb ty1 (r1 w1 2) 20 (y * h1 w1 1 + z) ∧ 10 ≤ (r1 w1 2) ∧ (∀ h2 : pv_H, h2 = pv_up h1 (r1 w1 2) (Int32.toNatClampNeg (y * h1 w1 1 + z)) u → Q (some (.int (h1 (r1 w1 2) (Int32.toNatClampNeg (y * h1 w1 1 + z))))) ty1 h2 r1 g1)) ∧ ((pf_b (0 ≤ u ∧ u ≤ 99)) = 0 → Q (some (.int (-1))) ty1 h1 r1 g1)))))))) : pv_E Γ d kc ks mX11_height 0 [some (.ref 100), some (.int x), some (.int y), some (.int z), some (.int u), none, none, none] [] ty h r g Q := by
  refine pv_aload_n dX11_height_0 rfl ?_
  refine pv_iload_n dX11_height_1 rfl ?_
  refine pv_invV (As := [.int x]) (d' := d - 1) dX11_height_2 moX11_findStreet ml_X11_80 (lt_100 hL) (Or.inl ⟨_, rfl, rfl⟩) (Nat.le_of_ble_eq_true rfl) (by omega) (Nat.zero_le _) (Nat.zero_le _) F (fun v1 ty1 h1 r1 g1 F => ?_) rfl
  obtain ⟨w1, rfl, F⟩ := F
  obtain ⟨hL1, F⟩ := F
  refine pv_pc (pc' := 5) rfl ?_
  show pv_E Γ d kc ks mX11_height 5 [some (.ref 100), some (.int x), some (.int y), some (.int z), some (.int u), none, none, none] [.ref w1] ty1 h1 r1 g1 Q
  refine pv_astore (ls' := [some (.ref 100), some (.int x), some (.int y), some (.int z), some (.int u), some (.ref w1), none, none]) dX11_height_5 (by decide) rfl rfl ?_
  refine pv_aload dX11_height_7 rfl ?_
  refine pv_ifnull (tgt := 33) dX11_height_9 (by decide) (fun c1 => ?_) (fun c1 => ?_)
  · have F := F.1 c1
    refine pv_iconst (v := (-1)) (by decide) dX11_height_33 ?_
    exact pv_ireturn dX11_height_34 rfl rfl F
  · have F := F.2 c1
    refine pv_aload dX11_height_12 rfl ?_
    refine pv_iload_n dX11_height_14 rfl ?_
    refine pv_iload_n dX11_height_15 rfl ?_
    obtain ⟨q1, F⟩ := F
    obtain ⟨q2, F⟩ := F
    refine pv_invV (As := [.int y, .int z]) (d' := d - 1) dX11_height_16 moX8_has ml_X11_84 q1 (Or.inl ⟨_, rfl, rfl⟩) (Nat.le_of_ble_eq_true rfl) (by omega) (Nat.zero_le _) (Nat.zero_le _) (ct_X8_has (by omega) q2) (fun v ty' h' r' g' hq => ?_) rfl
    obtain ⟨e1, e2, e3, e4, e5⟩ := hq
    rw [e1, e2, e3, e4, e5]
    refine pv_pc (pc' := 19) rfl ?_
    show pv_E Γ d kc ks mX11_height 19 [some (.ref 100), some (.int x), some (.int y), some (.int z), some (.int u), some (.ref w1), none, none] [.int (pf_b ((0 ≤ y ∧ y < h1 w1 0) ∧ (0 ≤ z ∧ z < h1 w1 1)))] ty1 h1 r1 g1 Q
    refine pv_if_eq (tgt := 33) dX11_height_19 (by decide) (fun c2 => ?_) (fun c2 => ?_)
    · have F := F.1 c2
      refine pv_iconst (v := (-1)) (by decide) dX11_height_33 ?_
      exact pv_ireturn dX11_height_34 rfl rfl F
    · have F := F.2 c2
      refine pv_iload dX11_height_22 rfl ?_
      refine pv_iconst (v := 0) (by decide) dX11_height_24 ?_
      refine pv_bipush (v := 99) (by decide) dX11_height_25 ?_
      refine pv_invS (As := [.int u, .int 0, .int 99]) (d' := d - 1) dX11_height_27 moX11_within ml_X11_69 (Nat.le_of_ble_eq_true rfl) (by omega) (Nat.zero_le _) (Nat.zero_le _) (ct_X11_within (by omega)) (fun v ty' h' r' g' hq => ?_) rfl
      obtain ⟨e1, e2, e3, e4, e5⟩ := hq
      rw [e1, e2, e3, e4, e5]
      refine pv_pc (pc' := 30) rfl ?_
      show pv_E Γ d kc ks mX11_height 30 [some (.ref 100), some (.int x), some (.int y), some (.int z), some (.int u), some (.ref w1), none, none] [.int (pf_b (0 ≤ u ∧ u ≤ 99))] ty1 h1 r1 g1 Q
      refine pv_if_ne (tgt := 35) dX11_height_30 (by decide) (fun c3 => ?_) (fun c3 => ?_)
      · have F := F.1 c3
        refine pv_aload dX11_height_35 rfl ?_
        refine pv_iload_n dX11_height_37 rfl ?_
        refine pv_iload_n dX11_height_38 rfl ?_
        obtain ⟨q3, F⟩ := F
        obtain ⟨q4, F⟩ := F
        refine pv_invV (As := [.int y, .int z]) (d' := d - 1) dX11_height_39 moX8_placeOf ml_X11_88 q3 (Or.inl ⟨_, rfl, rfl⟩) (Nat.le_of_ble_eq_true rfl) (by omega) (Nat.zero_le _) (Nat.zero_le _) (ct_X8_placeOf (by omega) q4) (fun v ty' h' r' g' hq => ?_) rfl
        obtain ⟨e1, e2, e3, e4, e5⟩ := hq
        rw [e1, e2, e3, e4, e5]
        refine pv_pc (pc' := 42) rfl ?_
        show pv_E Γ d kc ks mX11_height 42 [some (.ref 100), some (.int x), some (.int y), some (.int z), some (.int u), some (.ref w1), none, none] [.int (y * h1 w1 1 + z)] ty1 h1 r1 g1 Q
        refine pv_istore (ls' := [some (.ref 100), some (.int x), some (.int y), some (.int z), some (.int u), some (.ref w1), some (.int (y * h1 w1 1 + z)), none]) dX11_height_42 (by decide) rfl rfl ?_
        refine pv_aload dX11_height_44 rfl ?_
        obtain ⟨q5, F⟩ := F
        refine pv_getR 8 2 dX11_height_46 fl_X11_92 rfl q5 ?_
        refine pv_iload dX11_height_49 rfl ?_
        obtain ⟨q6, F⟩ := F
        obtain ⟨q6n, q6t, q6i⟩ := q6
        refine pv_iald dX11_height_51 q6t q6i ?_
        refine pv_istore (ls' := [some (.ref 100), some (.int x), some (.int y), some (.int z), some (.int u), some (.ref w1), some (.int (y * h1 w1 1 + z)), some (.int (h1 (r1 w1 2) (Int32.toNatClampNeg (y * h1 w1 1 + z))))]) dX11_height_52 (by decide) rfl rfl ?_
        refine pv_aload dX11_height_54 rfl ?_
        obtain ⟨q7, F⟩ := F
        refine pv_getR 8 2 dX11_height_56 fl_X11_92 rfl q7 ?_
        refine pv_iload dX11_height_59 rfl ?_
        refine pv_iload dX11_height_61 rfl ?_
        obtain ⟨q8, F⟩ := F
        obtain ⟨q8n, q8t, q8i⟩ := q8
        obtain ⟨q8w, F⟩ := F
        obtain ⟨h2, eh2⟩ : ∃ h2 : pv_H, h2 = pv_up h1 (r1 w1 2) (Int32.toNatClampNeg (y * h1 w1 1 + z)) u := ⟨_, rfl⟩
        have F := F h2 eh2
        refine pv_iast dX11_height_63 q8t q8w q8i ?_
        refine pv_hE eh2 ?_
        refine pv_iload dX11_height_64 rfl ?_
        exact pv_ireturn dX11_height_66 rfl rfl F
      · have F := F.2 c3
        refine pv_iconst (v := (-1)) (by decide) dX11_height_33 ?_
        exact pv_ireturn dX11_height_34 rfl rfl F
set_option maxRecDepth 20000 in
set_option maxHeartbeats 4000000 in
theorem sg_X11_drain_0 {Γ : pv_C} {d kc ks : Nat} {ty : pv_T} {h : pv_H} {r : pv_R} {g : pv_G} {Q : pv_Q} (x : Int32) (y : Int32) (z : Int32) (u : Int32) (hd : 1 ≤ d) (hL : pv_Lay ty r) (F : pv_CT Γ (d - 1) 0 0 mX11_findStreet [.ref 100, .int x] ty h r g (fun (v1 : Option Value) (ty1 : pv_T) (h1 : pv_H) (r1 : pv_R) (g1 : pv_G) => ∃ w1 : Nat, v1 = some (.ref w1) ∧ pv_Lay ty1 r1 ∧ ((w1 = 0 → Q (some (.int (-1))) ty1 h1 r1 g1) ∧ (¬ w1 = 0 → ty1 w1 = some (8, 0) ∧ (ty1 w1 = some (8, 0)) ∧ (((pf_b ((0 ≤ y ∧ y < h1 w1 0) ∧ (0 ≤ z ∧ z < h1 w1 1))) = 0 → Q (some (.int (-1))) ty1 h1 r1 g1) ∧ (¬ (pf_b ((0 ≤ y ∧ y < h1 w1 0) ∧ (0 ≤ z ∧ z < h1 w1 1))) = 0 → ((¬ (pf_b (0 ≤ u ∧ u ≤ 1)) = 0 → ty1 w1 = some (8, 0) ∧ (ty1 w1 = some (8, 0)) ∧ ty1 w1 = some (8, 0) ∧ pv_inb ty1 (r1 w1 3) 20 (y * h1 w1 1 + z) ∧ ty1 w1 = some (8, 0) ∧ pv_inb ty1 (r1 w1 3) 20 (y * h1 w1 1 + z) ∧ 10 ≤ (r1 w1 3) ∧ (∀ h2 : pv_H, h2 = pv_up h1 (r1 w1 3) (Int32.toNatClampNeg (y * h1 w1 1 + z)) u → Q (some (.int (h1 (r1 w1 3) (Int32.toNatClampNeg (y * h1 w1 1 + z))))) ty1 h2 r1 g1)) ∧ ((pf_b (0 ≤ u ∧ u ≤ 1)) = 0 → Q (some (.int (-1))) ty1 h1 r1 g1)))))))) : pv_E Γ d kc ks mX11_drain 0 [some (.ref 100), some (.int x), some (.int y), some (.int z), some (.int u), none, none, none] [] ty h r g Q := by
  refine pv_aload_n dX11_drain_0 rfl ?_
  refine pv_iload_n dX11_drain_1 rfl ?_
  refine pv_invV (As := [.int x]) (d' := d - 1) dX11_drain_2 moX11_findStreet ml_X11_80 (lt_100 hL) (Or.inl ⟨_, rfl, rfl⟩) (Nat.le_of_ble_eq_true rfl) (by omega) (Nat.zero_le _) (Nat.zero_le _) F (fun v1 ty1 h1 r1 g1 F => ?_) rfl
  obtain ⟨w1, rfl, F⟩ := F
  obtain ⟨hL1, F⟩ := F
  refine pv_pc (pc' := 5) rfl ?_
  show pv_E Γ d kc ks mX11_drain 5 [some (.ref 100), some (.int x), some (.int y), some (.int z), some (.int u), none, none, none] [.ref w1] ty1 h1 r1 g1 Q
  refine pv_astore (ls' := [some (.ref 100), some (.int x), some (.int y), some (.int z), some (.int u), some (.ref w1), none, none]) dX11_drain_5 (by decide) rfl rfl ?_
  refine pv_aload dX11_drain_7 rfl ?_
  refine pv_ifnull (tgt := 32) dX11_drain_9 (by decide) (fun c1 => ?_) (fun c1 => ?_)
  · have F := F.1 c1
    refine pv_iconst (v := (-1)) (by decide) dX11_drain_32 ?_
    exact pv_ireturn dX11_drain_33 rfl rfl F
  · have F := F.2 c1
    refine pv_aload dX11_drain_12 rfl ?_
    refine pv_iload_n dX11_drain_14 rfl ?_
    refine pv_iload_n dX11_drain_15 rfl ?_
    obtain ⟨q1, F⟩ := F
    obtain ⟨q2, F⟩ := F
    refine pv_invV (As := [.int y, .int z]) (d' := d - 1) dX11_drain_16 moX8_has ml_X11_84 q1 (Or.inl ⟨_, rfl, rfl⟩) (Nat.le_of_ble_eq_true rfl) (by omega) (Nat.zero_le _) (Nat.zero_le _) (ct_X8_has (by omega) q2) (fun v ty' h' r' g' hq => ?_) rfl
    obtain ⟨e1, e2, e3, e4, e5⟩ := hq
    rw [e1, e2, e3, e4, e5]
    refine pv_pc (pc' := 19) rfl ?_
    show pv_E Γ d kc ks mX11_drain 19 [some (.ref 100), some (.int x), some (.int y), some (.int z), some (.int u), some (.ref w1), none, none] [.int (pf_b ((0 ≤ y ∧ y < h1 w1 0) ∧ (0 ≤ z ∧ z < h1 w1 1)))] ty1 h1 r1 g1 Q
    refine pv_if_eq (tgt := 32) dX11_drain_19 (by decide) (fun c2 => ?_) (fun c2 => ?_)
    · have F := F.1 c2
      refine pv_iconst (v := (-1)) (by decide) dX11_drain_32 ?_
      exact pv_ireturn dX11_drain_33 rfl rfl F
    · have F := F.2 c2
      refine pv_iload dX11_drain_22 rfl ?_
      refine pv_iconst (v := 0) (by decide) dX11_drain_24 ?_
      refine pv_iconst (v := 1) (by decide) dX11_drain_25 ?_
      refine pv_invS (As := [.int u, .int 0, .int 1]) (d' := d - 1) dX11_drain_26 moX11_within ml_X11_69 (Nat.le_of_ble_eq_true rfl) (by omega) (Nat.zero_le _) (Nat.zero_le _) (ct_X11_within (by omega)) (fun v ty' h' r' g' hq => ?_) rfl
      obtain ⟨e1, e2, e3, e4, e5⟩ := hq
      rw [e1, e2, e3, e4, e5]
      refine pv_pc (pc' := 29) rfl ?_
      show pv_E Γ d kc ks mX11_drain 29 [some (.ref 100), some (.int x), some (.int y), some (.int z), some (.int u), some (.ref w1), none, none] [.int (pf_b (0 ≤ u ∧ u ≤ 1))] ty1 h1 r1 g1 Q
      refine pv_if_ne (tgt := 34) dX11_drain_29 (by decide) (fun c3 => ?_) (fun c3 => ?_)
      · have F := F.1 c3
        refine pv_aload dX11_drain_34 rfl ?_
        refine pv_iload_n dX11_drain_36 rfl ?_
        refine pv_iload_n dX11_drain_37 rfl ?_
        obtain ⟨q3, F⟩ := F
        obtain ⟨q4, F⟩ := F
        refine pv_invV (As := [.int y, .int z]) (d' := d - 1) dX11_drain_38 moX8_placeOf ml_X11_88 q3 (Or.inl ⟨_, rfl, rfl⟩) (Nat.le_of_ble_eq_true rfl) (by omega) (Nat.zero_le _) (Nat.zero_le _) (ct_X8_placeOf (by omega) q4) (fun v ty' h' r' g' hq => ?_) rfl
        obtain ⟨e1, e2, e3, e4, e5⟩ := hq
        rw [e1, e2, e3, e4, e5]
        refine pv_pc (pc' := 41) rfl ?_
        show pv_E Γ d kc ks mX11_drain 41 [some (.ref 100), some (.int x), some (.int y), some (.int z), some (.int u), some (.ref w1), none, none] [.int (y * h1 w1 1 + z)] ty1 h1 r1 g1 Q
        refine pv_istore (ls' := [some (.ref 100), some (.int x), some (.int y), some (.int z), some (.int u), some (.ref w1), some (.int (y * h1 w1 1 + z)), none]) dX11_drain_41 (by decide) rfl rfl ?_
        refine pv_aload dX11_drain_43 rfl ?_
        obtain ⟨q5, F⟩ := F
        refine pv_getR 8 3 dX11_drain_45 fl_X11_96 rfl q5 ?_
        refine pv_iload dX11_drain_48 rfl ?_
        obtain ⟨q6, F⟩ := F
        obtain ⟨q6n, q6t, q6i⟩ := q6
        refine pv_iald dX11_drain_50 q6t q6i ?_
        refine pv_istore (ls' := [some (.ref 100), some (.int x), some (.int y), some (.int z), some (.int u), some (.ref w1), some (.int (y * h1 w1 1 + z)), some (.int (h1 (r1 w1 3) (Int32.toNatClampNeg (y * h1 w1 1 + z))))]) dX11_drain_51 (by decide) rfl rfl ?_
        refine pv_aload dX11_drain_53 rfl ?_
        obtain ⟨q7, F⟩ := F
        refine pv_getR 8 3 dX11_drain_55 fl_X11_96 rfl q7 ?_
        refine pv_iload dX11_drain_58 rfl ?_
        refine pv_iload dX11_drain_60 rfl ?_
        obtain ⟨q8, F⟩ := F
        obtain ⟨q8n, q8t, q8i⟩ := q8
        obtain ⟨q8w, F⟩ := F
        obtain ⟨h2, eh2⟩ : ∃ h2 : pv_H, h2 = pv_up h1 (r1 w1 3) (Int32.toNatClampNeg (y * h1 w1 1 + z)) u := ⟨_, rfl⟩
        have F := F h2 eh2
        refine pv_iast dX11_drain_62 q8t q8w q8i ?_
        refine pv_hE eh2 ?_
        refine pv_iload dX11_drain_63 rfl ?_
        exact pv_ireturn dX11_drain_65 rfl rfl F
      · have F := F.2 c3
        refine pv_iconst (v := (-1)) (by decide) dX11_drain_32 ?_
        exact pv_ireturn dX11_drain_33 rfl rfl F
set_option maxRecDepth 20000 in
set_option maxHeartbeats 4000000 in
theorem sg_X11_water_0 {Γ : pv_C} {d kc ks : Nat} {ty : pv_T} {h : pv_H} {r : pv_R} {g : pv_G} {Q : pv_Q} (x : Int32) (y : Int32) (z : Int32) (hd : 1 ≤ d) (hL : pv_Lay ty r) (F : pv_CT Γ (d - 1) 0 0 mX11_findStreet [.ref 100, .int x] ty h r g (fun (v1 : Option Value) (ty1 : pv_T) (h1 : pv_H) (r1 : pv_R) (g1 : pv_G) => ∃ w1 : Nat, v1 = some (.ref w1) ∧ pv_Lay ty1 r1 ∧ ((w1 = 0 → Q (some (.int (-1))) ty1 h1 r1 g1) ∧ (¬ w1 = 0 → ty1 w1 = some (8, 0) ∧ (ty1 w1 = some (8, 0)) ∧ ((¬ (pf_b ((0 ≤ y ∧ y < h1 w1 0) ∧ (0 ≤ z ∧ z < h1 w1 1))) = 0 → ty1 w1 = some (8, 0) ∧ (ty1 w1 = some (8, 0)) ∧ ty1 w1 = some (8, 0) ∧ pv_CT Γ (d - 1) 0 0 mX8_endOfWater [.ref w1, .int (y * h1 w1 1 + z)] ty1 h1 r1 g1 (fun (v2 : Option Value) (ty2 : pv_T) (h2 : pv_H) (r2 : pv_R) (g2 : pv_G) => ∃ w2 : Int32, v2 = some (.int w2) ∧ pv_Lay ty2 r2 ∧ ty2 w1 = some (8, 0) ∧ (ty2 w1 = some (8, 0)) ∧ (¬ h2 w1 1 = 0) ∧ ty2 w1 = some (8, 0) ∧ (ty2 w1 = some (8, 0)) ∧ (¬ h2 w1 1 = 0) ∧ ty2 w1 = some (8, 0) ∧ pv_inb ty2 (r2 w1 3) 20 w2 ∧ ((¬ (h2 (r2 w1 3) (Int32.toNatClampNeg w2)) = 1 → Q (some (.int ((16 * (w2 / h2 w1 1)) + (w2 - w2 / h2 w1 1 * h2 w1 1)))) ty2 h2 r2 g2) ∧ ((h2 (r2 w1 3) (Int32.toNatClampNeg w2)) = 1 → Q (some (.int (((16 * (w2 / h2 w1 1)) + (w2 - w2 / h2 w1 1 * h2 w1 1)) + 1000))) ty2 h2 r2 g2)))) ∧ ((pf_b ((0 ≤ y ∧ y < h1 w1 0) ∧ (0 ≤ z ∧ z < h1 w1 1))) = 0 → Q (some (.int (-1))) ty1 h1 r1 g1)))))) : pv_E Γ d kc ks mX11_water 0 [some (.ref 100), some (.int x), some (.int y), some (.int z), none, none, none] [] ty h r g Q := by
  refine pv_aload_n dX11_water_0 rfl ?_
  refine pv_iload_n dX11_water_1 rfl ?_
  refine pv_invV (As := [.int x]) (d' := d - 1) dX11_water_2 moX11_findStreet ml_X11_80 (lt_100 hL) (Or.inl ⟨_, rfl, rfl⟩) (Nat.le_of_ble_eq_true rfl) (by omega) (Nat.zero_le _) (Nat.zero_le _) F (fun v1 ty1 h1 r1 g1 F => ?_) rfl
  obtain ⟨w1, rfl, F⟩ := F
  obtain ⟨hL1, F⟩ := F
  refine pv_pc (pc' := 5) rfl ?_
  show pv_E Γ d kc ks mX11_water 5 [some (.ref 100), some (.int x), some (.int y), some (.int z), none, none, none] [.ref w1] ty1 h1 r1 g1 Q
  refine pv_astore (ls' := [some (.ref 100), some (.int x), some (.int y), some (.int z), some (.ref w1), none, none]) dX11_water_5 (by decide) rfl rfl ?_
  refine pv_aload dX11_water_7 rfl ?_
  refine pv_ifnull (tgt := 22) dX11_water_9 (by decide) (fun c1 => ?_) (fun c1 => ?_)
  · have F := F.1 c1
    refine pv_iconst (v := (-1)) (by decide) dX11_water_22 ?_
    exact pv_ireturn dX11_water_23 rfl rfl F
  · have F := F.2 c1
    refine pv_aload dX11_water_12 rfl ?_
    refine pv_iload_n dX11_water_14 rfl ?_
    refine pv_iload_n dX11_water_15 rfl ?_
    obtain ⟨q1, F⟩ := F
    obtain ⟨q2, F⟩ := F
    refine pv_invV (As := [.int y, .int z]) (d' := d - 1) dX11_water_16 moX8_has ml_X11_84 q1 (Or.inl ⟨_, rfl, rfl⟩) (Nat.le_of_ble_eq_true rfl) (by omega) (Nat.zero_le _) (Nat.zero_le _) (ct_X8_has (by omega) q2) (fun v ty' h' r' g' hq => ?_) rfl
    obtain ⟨e1, e2, e3, e4, e5⟩ := hq
    rw [e1, e2, e3, e4, e5]
    refine pv_pc (pc' := 19) rfl ?_
    show pv_E Γ d kc ks mX11_water 19 [some (.ref 100), some (.int x), some (.int y), some (.int z), some (.ref w1), none, none] [.int (pf_b ((0 ≤ y ∧ y < h1 w1 0) ∧ (0 ≤ z ∧ z < h1 w1 1)))] ty1 h1 r1 g1 Q
    refine pv_if_ne (tgt := 24) dX11_water_19 (by decide) (fun c2 => ?_) (fun c2 => ?_)
    · have F := F.1 c2
      refine pv_aload dX11_water_24 rfl ?_
      refine pv_aload dX11_water_26 rfl ?_
      refine pv_iload_n dX11_water_28 rfl ?_
      refine pv_iload_n dX11_water_29 rfl ?_
      obtain ⟨q3, F⟩ := F
      obtain ⟨q4, F⟩ := F
      refine pv_invV (As := [.int y, .int z]) (d' := d - 1) dX11_water_30 moX8_placeOf ml_X11_88 q3 (Or.inl ⟨_, rfl, rfl⟩) (Nat.le_of_ble_eq_true rfl) (by omega) (Nat.zero_le _) (Nat.zero_le _) (ct_X8_placeOf (by omega) q4) (fun v ty' h' r' g' hq => ?_) rfl
      obtain ⟨e1, e2, e3, e4, e5⟩ := hq
      rw [e1, e2, e3, e4, e5]
      refine pv_pc (pc' := 33) rfl ?_
      show pv_E Γ d kc ks mX11_water 33 [some (.ref 100), some (.int x), some (.int y), some (.int z), some (.ref w1), none, none] [.int (y * h1 w1 1 + z), .ref w1] ty1 h1 r1 g1 Q
      obtain ⟨q5, F⟩ := F
      refine pv_invV (As := [.int (y * h1 w1 1 + z)]) (d' := d - 1) dX11_water_33 moX8_endOfWater ml_X11_99 q5 (Or.inl ⟨_, rfl, rfl⟩) (Nat.le_of_ble_eq_true rfl) (by omega) (Nat.zero_le _) (Nat.zero_le _) F (fun v2 ty2 h2 r2 g2 F => ?_) rfl
      obtain ⟨w2, rfl, F⟩ := F
      obtain ⟨hL2, F⟩ := F
      refine pv_pc (pc' := 36) rfl ?_
      show pv_E Γ d kc ks mX11_water 36 [some (.ref 100), some (.int x), some (.int y), some (.int z), some (.ref w1), none, none] [.int w2] ty2 h2 r2 g2 Q
      refine pv_istore (ls' := [some (.ref 100), some (.int x), some (.int y), some (.int z), some (.ref w1), some (.int w2), none]) dX11_water_36 (by decide) rfl rfl ?_
      refine pv_bipush (v := 16) (by decide) dX11_water_38 ?_
      refine pv_aload dX11_water_40 rfl ?_
      refine pv_iload dX11_water_42 rfl ?_
      obtain ⟨q6, F⟩ := F
      obtain ⟨q7, F⟩ := F
      obtain ⟨q8, F⟩ := F
      refine pv_invV (As := [.int w2]) (d' := d - 1) dX11_water_44 moX8_rowOf ml_X11_103 q6 (Or.inl ⟨_, rfl, rfl⟩) (Nat.le_of_ble_eq_true rfl) (by omega) (Nat.zero_le _) (Nat.zero_le _) (ct_X8_rowOf (by omega) q7 q8) (fun v ty' h' r' g' hq => ?_) rfl
      obtain ⟨e1, e2, e3, e4, e5⟩ := hq
      rw [e1, e2, e3, e4, e5]
      refine pv_pc (pc' := 47) rfl ?_
      show pv_E Γ d kc ks mX11_water 47 [some (.ref 100), some (.int x), some (.int y), some (.int z), some (.ref w1), some (.int w2), none] [.int (w2 / h2 w1 1), .int 16] ty2 h2 r2 g2 Q
      refine pv_imul dX11_water_47 ?_
      refine pv_aload dX11_water_48 rfl ?_
      refine pv_iload dX11_water_50 rfl ?_
      obtain ⟨q9, F⟩ := F
      obtain ⟨q10, F⟩ := F
      obtain ⟨q11, F⟩ := F
      refine pv_invV (As := [.int w2]) (d' := d - 1) dX11_water_52 moX8_columnOf ml_X11_106 q9 (Or.inl ⟨_, rfl, rfl⟩) (Nat.le_of_ble_eq_true rfl) (by omega) (Nat.zero_le _) (Nat.zero_le _) (ct_X8_columnOf (by omega) q10 q11) (fun v ty' h' r' g' hq => ?_) rfl
      obtain ⟨e1, e2, e3, e4, e5⟩ := hq
      rw [e1, e2, e3, e4, e5]
      refine pv_pc (pc' := 55) rfl ?_
      show pv_E Γ d kc ks mX11_water 55 [some (.ref 100), some (.int x), some (.int y), some (.int z), some (.ref w1), some (.int w2), none] [.int (w2 - w2 / h2 w1 1 * h2 w1 1), .int (16 * (w2 / h2 w1 1))] ty2 h2 r2 g2 Q
      refine pv_iadd dX11_water_55 ?_
      refine pv_istore (ls' := [some (.ref 100), some (.int x), some (.int y), some (.int z), some (.ref w1), some (.int w2), some (.int ((16 * (w2 / h2 w1 1)) + (w2 - w2 / h2 w1 1 * h2 w1 1)))]) dX11_water_56 (by decide) rfl rfl ?_
      refine pv_aload dX11_water_58 rfl ?_
      obtain ⟨q12, F⟩ := F
      refine pv_getR 8 3 dX11_water_60 fl_X11_96 rfl q12 ?_
      refine pv_iload dX11_water_63 rfl ?_
      obtain ⟨q13, F⟩ := F
      obtain ⟨q13n, q13t, q13i⟩ := q13
      refine pv_iald dX11_water_65 q13t q13i ?_
      refine pv_iconst (v := 1) (by decide) dX11_water_66 ?_
      refine pv_icmp_ne (tgt := 79) dX11_water_67 (by decide) (fun c3 => ?_) (fun c3 => ?_)
      · have F := F.1 c3
        refine pv_iload dX11_water_79 rfl ?_
        exact pv_ireturn dX11_water_81 rfl rfl F
      · have F := F.2 c3
        refine pv_iload dX11_water_70 rfl ?_
        refine pv_sipush (v := 1000) (by decide) dX11_water_72 ?_
        refine pv_iadd dX11_water_75 ?_
        refine pv_goto (tgt := 81) dX11_water_76 (by decide) ?_
        exact pv_ireturn dX11_water_81 rfl rfl F
    · have F := F.2 c2
      refine pv_iconst (v := (-1)) (by decide) dX11_water_22 ?_
      exact pv_ireturn dX11_water_23 rfl rfl F
set_option maxRecDepth 20000 in
set_option maxHeartbeats 4000000 in
theorem sg_X11_standing_0 {Γ : pv_C} {d kc ks : Nat} {ty : pv_T} {h : pv_H} {r : pv_R} {g : pv_G} {Q : pv_Q} (x : Int32) (hd : 1 ≤ d) (hL : pv_Lay ty r) (F : pv_CT Γ (d - 1) 0 0 mX11_findStreet [.ref 100, .int x] ty h r g (fun (v1 : Option Value) (ty1 : pv_T) (h1 : pv_H) (r1 : pv_R) (g1 : pv_G) => ∃ w1 : Nat, v1 = some (.ref w1) ∧ pv_Lay ty1 r1 ∧ ((¬ w1 = 0 → pv_CJ Γ (d - 1) mX2_countStanding [.ref 30, .ref w1] ty1 h1 r1 g1 (fun (w2 : Int32) (h2 : pv_H) => Q (some (.int w2)) ty1 h2 r1 g1)) ∧ (w1 = 0 → Q (some (.int (-1))) ty1 h1 r1 g1)))) : pv_E Γ d kc ks mX11_standing 0 [some (.ref 100), some (.int x), none] [] ty h r g Q := by
  refine pv_aload_n dX11_standing_0 rfl ?_
  refine pv_iload_n dX11_standing_1 rfl ?_
  refine pv_invV (As := [.int x]) (d' := d - 1) dX11_standing_2 moX11_findStreet ml_X11_80 (lt_100 hL) (Or.inl ⟨_, rfl, rfl⟩) (Nat.le_of_ble_eq_true rfl) (by omega) (Nat.zero_le _) (Nat.zero_le _) F (fun v1 ty1 h1 r1 g1 F => ?_) rfl
  obtain ⟨w1, rfl, F⟩ := F
  obtain ⟨hL1, F⟩ := F
  refine pv_pc (pc' := 5) rfl ?_
  show pv_E Γ d kc ks mX11_standing 5 [some (.ref 100), some (.int x), none] [.ref w1] ty1 h1 r1 g1 Q
  refine pv_astore_n (ls' := [some (.ref 100), some (.int x), some (.ref w1)]) dX11_standing_5 (by decide) rfl rfl ?_
  refine pv_aload_n dX11_standing_6 rfl ?_
  refine pv_ifnonnull (tgt := 14) dX11_standing_7 (by decide) (fun c1 => ?_) (fun c1 => ?_)
  · have F := F.1 c1
    refine pv_aload_n dX11_standing_14 rfl ?_
    refine pv_getRk 11 2 dX11_standing_15 fl_X11_18 rfl (lt_100 hL1) (lr_100_2 hL1) ?_
    refine pv_aload_n dX11_standing_18 rfl ?_
    refine pv_invV (As := [.ref w1]) (d' := d - 1) dX11_standing_19 moX2_countStanding ml_X11_109 (lt_30 hL1) (Or.inl ⟨_, rfl, rfl⟩) (Nat.le_of_ble_eq_true rfl) (by omega) (Nat.zero_le _) (Nat.zero_le _) F (fun v ty' h2 r' g' hq => ?_) rfl
    obtain ⟨e2, e4, e5, w2, e1, F⟩ := hq
    rw [e1, e2, e4, e5]
    refine pv_pc (pc' := 22) rfl ?_
    show pv_E Γ d kc ks mX11_standing 22 [some (.ref 100), some (.int x), some (.ref w1)] [.int w2] ty1 h2 r1 g1 Q
    exact pv_ireturn dX11_standing_22 rfl rfl F
  · have F := F.2 c1
    refine pv_iconst (v := (-1)) (by decide) dX11_standing_10 ?_
    refine pv_goto (tgt := 22) dX11_standing_11 (by decide) ?_
    exact pv_ireturn dX11_standing_22 rfl rfl F
set_option maxRecDepth 20000 in
set_option maxHeartbeats 4000000 in
theorem sg_X11_most_0 {Γ : pv_C} {d kc ks : Nat} {ty : pv_T} {h : pv_H} {r : pv_R} {g : pv_G} {Q : pv_Q} (x : Int32) (hd : 1 ≤ d) (hL : pv_Lay ty r) (F : pv_CT Γ (d - 1) 0 0 mX11_findStreet [.ref 100, .int x] ty h r g (fun (v1 : Option Value) (ty1 : pv_T) (h1 : pv_H) (r1 : pv_R) (g1 : pv_G) => ∃ w1 : Nat, v1 = some (.ref w1) ∧ pv_Lay ty1 r1 ∧ ((¬ w1 = 0 → pv_CJ Γ (d - 1) mX2_countMost [.ref 30, .ref w1] ty1 h1 r1 g1 (fun (w2 : Int32) (h2 : pv_H) => Q (some (.int w2)) ty1 h2 r1 g1)) ∧ (w1 = 0 → Q (some (.int (-1))) ty1 h1 r1 g1)))) : pv_E Γ d kc ks mX11_most 0 [some (.ref 100), some (.int x), none] [] ty h r g Q := by
  refine pv_aload_n dX11_most_0 rfl ?_
  refine pv_iload_n dX11_most_1 rfl ?_
  refine pv_invV (As := [.int x]) (d' := d - 1) dX11_most_2 moX11_findStreet ml_X11_80 (lt_100 hL) (Or.inl ⟨_, rfl, rfl⟩) (Nat.le_of_ble_eq_true rfl) (by omega) (Nat.zero_le _) (Nat.zero_le _) F (fun v1 ty1 h1 r1 g1 F => ?_) rfl
  obtain ⟨w1, rfl, F⟩ := F
  obtain ⟨hL1, F⟩ := F
  refine pv_pc (pc' := 5) rfl ?_
  show pv_E Γ d kc ks mX11_most 5 [some (.ref 100), some (.int x), none] [.ref w1] ty1 h1 r1 g1 Q
  refine pv_astore_n (ls' := [some (.ref 100), some (.int x), some (.ref w1)]) dX11_most_5 (by decide) rfl rfl ?_
  refine pv_aload_n dX11_most_6 rfl ?_
  refine pv_ifnonnull (tgt := 14) dX11_most_7 (by decide) (fun c1 => ?_) (fun c1 => ?_)
  · have F := F.1 c1
    refine pv_aload_n dX11_most_14 rfl ?_
    refine pv_getRk 11 2 dX11_most_15 fl_X11_18 rfl (lt_100 hL1) (lr_100_2 hL1) ?_
    refine pv_aload_n dX11_most_18 rfl ?_
    refine pv_invV (As := [.ref w1]) (d' := d - 1) dX11_most_19 moX2_countMost ml_X11_113 (lt_30 hL1) (Or.inl ⟨_, rfl, rfl⟩) (Nat.le_of_ble_eq_true rfl) (by omega) (Nat.zero_le _) (Nat.zero_le _) F (fun v ty' h2 r' g' hq => ?_) rfl
    obtain ⟨e2, e4, e5, w2, e1, F⟩ := hq
    rw [e1, e2, e4, e5]
    refine pv_pc (pc' := 22) rfl ?_
    show pv_E Γ d kc ks mX11_most 22 [some (.ref 100), some (.int x), some (.ref w1)] [.int w2] ty1 h2 r1 g1 Q
    exact pv_ireturn dX11_most_22 rfl rfl F
  · have F := F.2 c1
    refine pv_iconst (v := (-1)) (by decide) dX11_most_10 ?_
    refine pv_goto (tgt := 22) dX11_most_11 (by decide) ?_
    exact pv_ireturn dX11_most_22 rfl rfl F
section CS
variable {Γ : pv_C} {d : Nat} {ty : pv_T} {h : pv_H} {r : pv_R} {g : pv_G} {ns : Nat}
theorem cs_has (hI : cpS ty h r ns) {s : Nat} (hs : s < ns) {y z : Int32} : ((0 ≤ y ∧ y < h (cA s) 0) ∧ (0 ≤ z ∧ z < h (cA s) 1)) ↔ ∃ i j, i < mR h s ∧ j < mC h s ∧ y = nI i ∧ z = nI j := by
  obtain ⟨-, hS, -⟩ := hI.2.2 s hs
  have hRb := hS.2.2.2.2.1
  have hCb := hS.2.2.2.2.2.1
  rw [hS.2.2.1, hS.2.2.2.1]
  constructor
  · rintro ⟨⟨a1, a2⟩, b1, b2⟩
    obtain ⟨i, hi, rfl⟩ := nI_of (Int32.not_lt.mpr a1)
    obtain ⟨j, hj, rfl⟩ := nI_of (Int32.not_lt.mpr b1)
    exact ⟨i, j, (nI_ltI hi (by omega)).mp a2, (nI_ltI hj (by omega)).mp b2, rfl, rfl⟩
  · rintro ⟨i, j, hi, hj, rfl, rfl⟩
    exact ⟨⟨nI_pos' (by omega), (nI_ltI (by omega) (by omega)).mpr hi⟩, nI_pos' (by omega), (nI_ltI (by omega) (by omega)).mpr hj⟩
theorem cs_sq (hI : cpS ty h r ns) {s : Nat} (hs : s < ns) {y z : Int32} : ((0 ≤ y ∧ y < h (cA s) 0) ∧ (0 ≤ z ∧ z < h (cA s) 1)) ↔ pf_sq h (nI s) y z := by
  rw [cs_has hI hs, mSq hI.1]
  have h8 := hI.1.1
  constructor
  · rintro ⟨i, j, hi, hj, e1, e2⟩
    exact ⟨s, i, j, hs, hi, hj, rfl, e1, e2⟩
  · rintro ⟨s', i, j, hs', hi, hj, e0, e1, e2⟩
    have := (nI_eq (by omega) (by omega)).mp e0
    subst this
    exact ⟨i, j, hi, hj, e1, e2⟩
theorem ct_X11_read (hd : 1 ≤ d) (hL : pv_Lay ty r) (hI : cpS ty h r ns) {x y z : Int32} : pv_CT Γ d 0 0 mX11_read [.ref 100, .int x, .int y, .int z] ty h r g (pv_is (.int (fn_read h x y z)) ty h r g) := by
  refine pv_fn 1 pn_X11 rfl (Nat.le_of_ble_eq_true rfl) (sg_X11_read_0 x y z hd hL (ct_find hL hI (fun hf => ⟨_, rfl, hL, fun _ => ?_, fun q => absurd rfl q⟩) (fun s hs e => ⟨_, rfl, hL, fun q => absurd q (cA_ne s), fun _ => ?_⟩)))
  · unfold fn_read
    rw [if_neg (fun q => hf q.1)]
    exact pv_is_refl _ _ _ _ _
  · subst e
    obtain ⟨-, hS, hq⟩ := hI.2.2 s hs
    have ht := hS.2.1
    refine ⟨ht, ht, fun c1 => ⟨ht, ht, ht, ?_⟩, fun c1 => ?_⟩
    · have c2 := Classical.not_not.mp (fun z => c1 (pf_b_0.mpr z))
      have c3 := (cs_sq hI hs).mp c2
      obtain ⟨i, j, hi, hj, rfl, rfl⟩ := (cs_has hI hs).mp c2
      have hon : wt_on (mR h s) (mC h s) (i, j) := ⟨hi, hj⟩
      have hm := hI.1.2.2 s hs
      unfold fn_read
      rw [if_pos c3, hS.2.2.2.1, pl_mk, hS.2.2.2.2.2.2.1.1, pl_cl hS.2.2.2.2.1.2 hS.2.2.2.2.2.1.2 hon, ni_plc hm.1 (by have := hm.2.2.2.1; omega) (by have := hm.2.2.2.2.1; omega)]
      refine ⟨⟨_, hS.2.2.2.2.2.2.2.1.1, pl_in hS.2.2.2.2.1.2 hS.2.2.2.2.2.1.2 hon⟩, ?_⟩
      rw [show h (cA s + 1) (i * mC h s + j) = mH h s i j from (hq (i, j) hon).1]
      exact pv_is_refl _ _ _ _ _
    · unfold fn_read
      rw [if_neg (fun q => pf_b_0.mp c1 ((cs_sq hI hs).mpr q))]
      exact pv_is_refl _ _ _ _ _
theorem ct_X11_water (hd : 5 ≤ d) (hL : pv_Lay ty r) (hI : cpS ty h r ns) {x y z : Int32} : pv_CT Γ d 0 0 mX11_water [.ref 100, .int x, .int y, .int z] ty h r g (pv_is (.int (fn_water h x y z)) ty h r g) := by
  refine pv_fn 3 pn_X11 rfl (Nat.le_of_ble_eq_true rfl) (sg_X11_water_0 x y z (by omega) hL (ct_find hL hI (fun hf => ⟨_, rfl, hL, fun _ => ?_, fun q => absurd rfl q⟩) (fun s hs e => ⟨_, rfl, hL, fun q => absurd q (cA_ne s), fun _ => ?_⟩)))
  · unfold fn_water
    rw [if_neg (fun q => hf q.1)]
    exact pv_is_refl _ _ _ _ _
  · subst e
    obtain ⟨-, hS, hq⟩ := hI.2.2 s hs
    have ht := hS.2.1
    have h8 := hI.1.1
    refine ⟨ht, ht, fun c1 => ⟨ht, ht, ht, ?_⟩, fun c1 => ?_⟩
    · have c2 := Classical.not_not.mp (fun z => c1 (pf_b_0.mpr z))
      have c3 := (cs_sq hI hs).mp c2
      obtain ⟨i, j, hi, hj, rfl, rfl⟩ := (cs_has hI hs).mp c2
      have hon : wt_on (mR h s) (mC h s) (i, j) := ⟨hi, hj⟩
      have hm := hI.1.2.2 s hs
      have hRb := hS.2.2.2.2.1
      have hCb := hS.2.2.2.2.2.1
      have hnz : ¬ h (cA s) 1 = 0 := by rw [hS.2.2.2.1]; exact nI_ne0 (by omega) (by omega)
      rw [hS.2.2.2.1, pl_mk]
      have hce := cp_end hI hs hon
      have hend : wt_on (mR h s) (mC h s) (cEnd h (cA s) (mR h s) (mC h s) (i, j)) := wt_end_on hon
      refine pv_CT.use (ct_X8_endOfWater (by omega) hS hon) ⟨_, rfl, hL, ht, ht, hnz, ht, ht, hnz, ht, ?_⟩
      obtain ⟨d1, d2⟩ := pl_dm hRb.2 hCb.2 hend
      rw [hS.2.2.2.1, d2, d1, hS.2.2.2.2.2.2.1.2.1, pl_cl hRb.2 hCb.2 hend, ni_cd]
      refine ⟨⟨_, hS.2.2.2.2.2.2.2.1.2.1, pl_in hRb.2 hCb.2 hend⟩, ?_⟩
      have hd0 : cD h (cA s) (mC h s) (cEnd h (cA s) (mR h s) (mC h s) (i, j)).1 (cEnd h (cA s) (mR h s) (mC h s) (i, j)).2 = mD h s (mEnd h s (mR h s) (mC h s) (i, j)).1 (mEnd h s (mR h s) (mC h s) (i, j)).2 := by
        rw [(hq _ hend).2, hce]
      have hd1 : h (cA s + 2) ((cEnd h (cA s) (mR h s) (mC h s) (i, j)).1 * mC h s + (cEnd h (cA s) (mR h s) (mC h s) (i, j)).2) = mD h s (mEnd h s (mR h s) (mC h s) (i, j)).1 (mEnd h s (mR h s) (mC h s) (i, j)).2 := hd0
      have hz := hm.2.2.2.2.2.2 _ _ (wt_end_on (H := mH h s) (D := mD h s) hon).1 (wt_end_on (H := mH h s) (D := mD h s) hon).2
      have hz' : mD h s (mEnd h s (mR h s) (mC h s) (i, j)).1 (mEnd h s (mR h s) (mC h s) (i, j)).2 = 0 ∨ mD h s (mEnd h s (mR h s) (mC h s) (i, j)).1 (mEnd h s (mR h s) (mC h s) (i, j)).2 = 1 := hz
      unfold fn_water
      rw [if_pos c3, nI_clamp (by omega), nI_clamp (by omega), nI_clamp (by omega), hd1, hce]
      dsimp only
      refine ⟨fun c4 => ?_, fun c4 => ?_⟩
      · rw [if_pos (hz'.resolve_right c4)]; exact pv_is_refl _ _ _ _ _
      · rw [if_neg (by rw [c4]; decide)]; exact pv_is_refl _ _ _ _ _
    · unfold fn_water
      rw [if_neg (fun q => pf_b_0.mp c1 ((cs_sq hI hs).mpr q))]
      exact pv_is_refl _ _ _ _ _
theorem ct_X11_standing (hd : 7 ≤ d) (hL : pv_Lay ty r) (hI : cpS ty h r ns) {x : Int32} : pv_CJ Γ d mX11_standing [.ref 100, .int x] ty h r g (fun w h' => w = fn_standing h x ∧ ∃ f, h' = pv_row h 31 f) := by
  refine pv_fn 1 pn_X11 rfl (Nat.le_of_ble_eq_true rfl) (sg_X11_standing_0 x (by omega) hL (ct_find hL hI (fun hf => ⟨_, rfl, hL, fun q => absurd rfl q, fun _ => ?_⟩) (fun s hs e => ⟨_, rfl, hL, fun _ => ?_, fun q => absurd q (cA_ne s)⟩)))
  · unfold fn_standing
    rw [if_neg hf]
    exact pv_jqi ⟨rfl, h 31, (pv_row_self h 31).symm⟩
  · subst e
    have h8 := hI.1.1
    obtain ⟨-, hS, hq⟩ := hI.2.2 s hs
    refine pv_CJ.mono (ct_X2_countStanding (by omega) hL hS) (fun w h' q => ?_)
    obtain ⟨e1, f, e2⟩ := q
    have hv : 0 ≤ nI s ∧ nI s ≤ h 200 1 - 1 := by rw [hI.1.2.1, ni_valid (by omega)]; exact ⟨s, hs, rfl⟩
    refine pv_jqi ⟨?_, f, e2⟩
    unfold fn_standing
    rw [if_pos hv, nI_clamp (by omega), e1]
    congr 1
    refine st_congr (fun k hk => ?_)
    have hon := ps_on (R := mR h s) hS.2.2.2.2.2.1.1 hk
    have hend : wt_on (mR h s) (mC h s) (cEnd h (cA s) (mR h s) (mC h s) (ps (mC h s) k)) := wt_end_on hon
    show decide (_ = _) = decide (_ = _)
    rw [decide_eq_decide, (hq _ hend).2, cp_end hI hs hon]
theorem ct_X11_most (hd : 7 ≤ d) (hL : pv_Lay ty r) (hI : cpS ty h r ns) {x : Int32} : pv_CJ Γ d mX11_most [.ref 100, .int x] ty h r g (fun w h' => w = fn_most h x ∧ ∃ f k, h' = pv_row (pv_row h 31 f) 32 k) := by
  refine pv_fn 1 pn_X11 rfl (Nat.le_of_ble_eq_true rfl) (sg_X11_most_0 x (by omega) hL (ct_find hL hI (fun hf => ⟨_, rfl, hL, fun q => absurd rfl q, fun _ => ?_⟩) (fun s hs e => ⟨_, rfl, hL, fun _ => ?_, fun q => absurd q (cA_ne s)⟩)))
  · unfold fn_most
    rw [if_neg hf]
    exact pv_jqi ⟨rfl, h 31, h 32, by rw [pv_row_self, pv_row_self]⟩
  · subst e
    have h8 := hI.1.1
    obtain ⟨-, hS, hq⟩ := hI.2.2 s hs
    refine pv_CJ.mono (ct_X2_countMost (by omega) hL hS) (fun w h' q => ?_)
    obtain ⟨e1, f, k, e2⟩ := q
    have hv : 0 ≤ nI s ∧ nI s ≤ h 200 1 - 1 := by rw [hI.1.2.1, ni_valid (by omega)]; exact ⟨s, hs, rfl⟩
    refine pv_jqi ⟨?_, f, k, e2⟩
    unfold fn_most
    rw [if_pos hv, nI_clamp (by omega), e1]
    congr 1
    exact st_mx_c (fun k hk => cp_end hI hs (ps_on (R := mR h s) hS.2.2.2.2.2.1.1 hk))
end CS
