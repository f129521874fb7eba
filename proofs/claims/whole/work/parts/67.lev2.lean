/-! level: the leveller's columns -/
theorem lv_si {a b : Nat} (ha : a < 1000) (hb : b < 1000) : (nI a - nI b).toInt = (a : Int) - b := by
  rw [Int32.toInt_sub, nI_toInt (by omega), nI_toInt (by omega), Int.bmod_eq_of_le (by omega) (by omega)]
theorem lv_s1 {a b c : Nat} (ha : a < 1000) (hb : b < 1000) (hc : c < 1000) : nI a - nI b ≤ nI c ↔ a ≤ c + b := by
  rw [Int32.le_iff_toInt_le, lv_si ha hb, nI_toInt (by omega)]; omega
theorem lv_s2 {a b c : Nat} (ha : a < 1000) (hb : b < 1000) (hc : c < 1000) : nI c ≤ nI a - nI b ↔ c + b ≤ a := by
  rw [Int32.le_iff_toInt_le, lv_si ha hb, nI_toInt (by omega)]; omega
def lv_lo (h : pv_H) (x y : Int32) : Int32 := if h 40 6 ≤ x then y + h 40 7 else y - h 40 8
def lv_hi (h : pv_H) (x y : Int32) : Int32 := if h 40 6 ≤ x then y + h 40 8 else y - h 40 7
def lv_par (h : pv_H) (k f e : Nat) : Prop := h 40 6 = nI k ∧ h 40 7 = nI f ∧ h 40 8 = nI e ∧ k < 100 ∧ f < 100 ∧ e < 100
theorem lv_int {h : pv_H} {k f e c a b : Nat} (hp : lv_par h k f e) (hc : c < 100) (ha : a < 100) (hb : b < 100) : lv_ok k f e c a b = true ↔ (lv_lo h (nI c) (nI a) ≤ nI b ∧ nI b ≤ lv_hi h (nI c) (nI a)) := by
  obtain ⟨p1, p2, p3, p4, p5, p6⟩ := hp
  unfold lv_ok lv_lo lv_hi
  rw [p1, p2, p3]
  by_cases q : k ≤ c
  · have q' : nI k ≤ nI c := (nI_leI (by omega) (by omega)).mpr q
    rw [if_pos q, if_pos q', if_pos q', nI_add, nI_add, nI_leI (by omega) (by omega), nI_leI (by omega) (by omega), decide_eq_true_iff]
  · have q' : ¬ nI k ≤ nI c := fun z => q ((nI_leI (by omega) (by omega)).mp z)
    rw [if_neg q, if_neg q', if_neg q', decide_eq_true_iff, lv_s1 (by omega) (by omega) (by omega), lv_s2 (by omega) (by omega) (by omega)]
    omega
theorem ni_100r (n k : Nat) : nI n * 100 + nI k = nI (100 * n + k) := by rw [show (100 : Int32) = nI 100 from rfl, pk_mul, nI_add, Nat.mul_comm]
theorem ni_100l (n k : Nat) : 100 * nI n + nI k = nI (100 * n + k) := by rw [show (100 : Int32) = nI 100 from rfl, pk_mul, nI_add]
set_option maxRecDepth 20000 in
set_option maxHeartbeats 4000000 in
theorem sg_X4_lowestBehind_0 {Γ : pv_C} {d kc ks : Nat} {ty : pv_T} {h : pv_H} {r : pv_R} {g : pv_G} {Q : pv_Q} (x : Int32) (y : Int32) (hL : pv_Lay ty r) (F : (((h 40 6) ≤ x → Q (some (.int (y + (h 40 7)))) ty h r g) ∧ (¬ (h 40 6) ≤ x → Q (some (.int (y - (h 40 8)))) ty h r g))) : pv_E Γ d kc ks mX4_lowestBehind 0 [some (.ref 40), some (.int x), some (.int y)] [] ty h r g Q := by
  refine pv_iload_n dX4_lowestBehind_0 rfl ?_
  refine pv_aload_n dX4_lowestBehind_1 rfl ?_
  refine pv_getI 4 6 dX4_lowestBehind_2 fl_X4_21 rfl (lt_40 hL) ?_
  refine pv_icmp_ge (tgt := 17) dX4_lowestBehind_5 (by decide) (fun c1 => ?_) (fun c1 => ?_)
  · have F := F.1 c1
    refine pv_iload_n dX4_lowestBehind_17 rfl ?_
    refine pv_aload_n dX4_lowestBehind_18 rfl ?_
    refine pv_getI 4 7 dX4_lowestBehind_19 fl_X4_25 rfl (lt_40 hL) ?_
    refine pv_iadd dX4_lowestBehind_22 ?_
    exact pv_ireturn dX4_lowestBehind_23 rfl rfl F
  · have F := F.2 c1
    refine pv_iload_n dX4_lowestBehind_8 rfl ?_
    refine pv_aload_n dX4_lowestBehind_9 rfl ?_
    refine pv_getI 4 8 dX4_lowestBehind_10 fl_X4_28 rfl (lt_40 hL) ?_
    refine pv_isub dX4_lowestBehind_13 ?_
    refine pv_goto (tgt := 23) dX4_lowestBehind_14 (by decide) ?_
    exact pv_ireturn dX4_lowestBehind_23 rfl rfl F
set_option maxRecDepth 20000 in
set_option maxHeartbeats 4000000 in
theorem sg_X4_highestBehind_0 {Γ : pv_C} {d kc ks : Nat} {ty : pv_T} {h : pv_H} {r : pv_R} {g : pv_G} {Q : pv_Q} (x : Int32) (y : Int32) (hL : pv_Lay ty r) (F : (((h 40 6) ≤ x → Q (some (.int (y + (h 40 8)))) ty h r g) ∧ (¬ (h 40 6) ≤ x → Q (some (.int (y - (h 40 7)))) ty h r g))) : pv_E Γ d kc ks mX4_highestBehind 0 [some (.ref 40), some (.int x), some (.int y)] [] ty h r g Q := by
  refine pv_iload_n dX4_highestBehind_0 rfl ?_
  refine pv_aload_n dX4_highestBehind_1 rfl ?_
  refine pv_getI 4 6 dX4_highestBehind_2 fl_X4_21 rfl (lt_40 hL) ?_
  refine pv_icmp_ge (tgt := 17) dX4_highestBehind_5 (by decide) (fun c1 => ?_) (fun c1 => ?_)
  · have F := F.1 c1
    refine pv_iload_n dX4_highestBehind_17 rfl ?_
    refine pv_aload_n dX4_highestBehind_18 rfl ?_
    refine pv_getI 4 8 dX4_highestBehind_19 fl_X4_28 rfl (lt_40 hL) ?_
    refine pv_iadd dX4_highestBehind_22 ?_
    exact pv_ireturn dX4_highestBehind_23 rfl rfl F
  · have F := F.2 c1
    refine pv_iload_n dX4_highestBehind_8 rfl ?_
    refine pv_aload_n dX4_highestBehind_9 rfl ?_
    refine pv_getI 4 7 dX4_highestBehind_10 fl_X4_25 rfl (lt_40 hL) ?_
    refine pv_isub dX4_highestBehind_13 ?_
    refine pv_goto (tgt := 23) dX4_highestBehind_14 (by decide) ?_
    exact pv_ireturn dX4_highestBehind_23 rfl rfl F
theorem ct_X4_lowest {Γ : pv_C} {d : Nat} {ty : pv_T} {h : pv_H} {r : pv_R} {g : pv_G} {x y : Int32} (_ : 0 ≤ d) (hL : pv_Lay ty r) : pv_CT Γ d 0 0 mX4_lowestBehind [.ref 40, .int x, .int y] ty h r g (pv_is (.int (lv_lo h x y)) ty h r g) := by
  refine pv_fn 0 pn_X4 rfl (Nat.le_of_ble_eq_true rfl) (sg_X4_lowestBehind_0 x y hL ⟨fun c => ?_, fun c => ?_⟩)
  · unfold lv_lo; rw [if_pos c]; exact pv_is_refl _ _ _ _ _
  · unfold lv_lo; rw [if_neg c]; exact pv_is_refl _ _ _ _ _
theorem ct_X4_highest {Γ : pv_C} {d : Nat} {ty : pv_T} {h : pv_H} {r : pv_R} {g : pv_G} {x y : Int32} (_ : 0 ≤ d) (hL : pv_Lay ty r) : pv_CT Γ d 0 0 mX4_highestBehind [.ref 40, .int x, .int y] ty h r g (pv_is (.int (lv_hi h x y)) ty h r g) := by
  refine pv_fn 0 pn_X4 rfl (Nat.le_of_ble_eq_true rfl) (sg_X4_highestBehind_0 x y hL ⟨fun c => ?_, fun c => ?_⟩)
  · unfold lv_hi; rw [if_pos c]; exact pv_is_refl _ _ _ _ _
  · unfold lv_hi; rw [if_neg c]; exact pv_is_refl _ _ _ _ _
set_option maxRecDepth 20000 in
set_option maxHeartbeats 4000000 in
theorem sg_X4_bestHeight_0 {Γ : pv_C} {d kc ks : Nat} {ty : pv_T} {h : pv_H} {r : pv_R} {g : pv_G} {Q : pv_Q} (x : Int32) (y : Int32) (z : Int32) (hd : 1 ≤ d) (F : pv_E Γ d kc ks mX4_bestHeight 22 [some (.ref 40), some (.int x), none, none, some (.int (-1)), some (.int 1000000), some (.int (if 99 < z then 99 else z)), some (.int (if y < 0 then 0 else y)), none] [] ty h r g Q) : pv_E Γ d kc ks mX4_bestHeight 0 [some (.ref 40), some (.int x), some (.int y), some (.int z), none, none, none, none, none] [] ty h r g Q := by
  refine pv_iconst (v := (-1)) (by decide) dX4_bestHeight_0 ?_
  refine pv_istore (ls' := [some (.ref 40), some (.int x), some (.int y), some (.int z), some (.int (-1)), none, none, none, none]) dX4_bestHeight_1 (by decide) rfl rfl ?_
  refine pv_ldc (v := 1000000) dX4_bestHeight_3 kc_X4_77 ?_
  refine pv_istore (ls' := [some (.ref 40), some (.int x), some (.int y), some (.int z), some (.int (-1)), some (.int 1000000), none, none, none]) dX4_bestHeight_5 (by decide) rfl rfl ?_
  refine pv_iload_n dX4_bestHeight_7 rfl ?_
  refine pv_bipush (v := 99) (by decide) dX4_bestHeight_8 ?_
  refine pv_pc (pc' := 10) rfl ?_
  refine pv_mmin dX4_bestHeight_10 ml_X4_78 (by omega) (Nat.le_of_ble_eq_true rfl) ?_
  refine pv_istore (ls' := [some (.ref 40), some (.int x), some (.int y), some (.int z), some (.int (-1)), some (.int 1000000), some (.int (if 99 < z then 99 else z)), none, none]) dX4_bestHeight_13 (by decide) rfl rfl ?_
  refine pv_iload_n dX4_bestHeight_15 rfl ?_
  refine pv_iconst (v := 0) (by decide) dX4_bestHeight_16 ?_
  refine pv_mmax dX4_bestHeight_17 ml_X4_81 (by omega) (Nat.le_of_ble_eq_true rfl) ?_
  refine pv_istore (ls' := [some (.ref 40), some (.int x), some (.int y), some (.int z), some (.int (-1)), some (.int 1000000), some (.int (if 99 < z then 99 else z)), some (.int (if y < 0 then 0 else y)), none]) dX4_bestHeight_20 (by decide) rfl rfl ?_
  refine pv_forgetL (ls' := [some (.ref 40), some (.int x), none, none, some (.int (-1)), some (.int 1000000), some (.int (if 99 < z then 99 else z)), some (.int (if y < 0 then 0 else y)), none]) (pv_subL_ok ⟨rfl, ⟨rfl, ⟨rfl, ⟨rfl, ⟨rfl, ⟨rfl, trivial⟩⟩⟩⟩⟩⟩) ?_
  exact F
set_option maxRecDepth 20000 in
set_option maxHeartbeats 4000000 in
theorem sg_X4_bestHeight_22 {Γ : pv_C} {d kc ks : Nat} {ty : pv_T} {h : pv_H} {r : pv_R} {g : pv_G} {Q : pv_Q} (x1 : Int32) (x4 : Int32) (x5 : Int32) (x6 : Int32) (x7 : Int32) (hL : pv_Lay ty r) (F : ((x6 < x7 → Q (some (.int x4)) ty h r g) ∧ (¬ x6 < x7 → vp_in ((x1 * 100) + x7) 900 ∧ ((x5 ≤ (h 41 (Int32.toNatClampNeg ((x1 * 100) + x7))) → pv_E Γ d kc ks mX4_bestHeight 22 [some (.ref 40), some (.int x1), none, none, some (.int x4), some (.int x5), some (.int x6), some (.int (x7 + 1)), none] [] ty h r g Q) ∧ (¬ x5 ≤ (h 41 (Int32.toNatClampNeg ((x1 * 100) + x7))) → pv_E Γ d kc ks mX4_bestHeight 22 [some (.ref 40), some (.int x1), none, none, some (.int x7), some (.int (h 41 (Int32.toNatClampNeg ((x1 * 100) + x7)))), some (.int x6), some (.int (x7 + 1)), none] [] ty h r g Q))))) : pv_E Γ d kc ks mX4_bestHeight 22 [some (.ref 40), some (.int x1), none, none, some (.int x4), some (.int x5), some (.int x6), some (.int x7), none] [] ty h r g Q := by
  refine pv_iload dX4_bestHeight_22 rfl ?_
  refine pv_iload dX4_bestHeight_24 rfl ?_
  refine pv_icmp_gt (tgt := 64) dX4_bestHeight_26 (by decide) (fun c1 => ?_) (fun c1 => ?_)
  · have F := F.1 c1
    refine pv_iload dX4_bestHeight_64 rfl ?_
    exact pv_ireturn dX4_bestHeight_66 rfl rfl F
  · have F := F.2 c1
    refine pv_aload_n dX4_bestHeight_29 rfl ?_
    refine pv_getRk 4 0 dX4_bestHeight_30 fl_X4_11 rfl (lt_40 hL) (lr_40_0 hL) ?_
    refine pv_iload_n dX4_bestHeight_33 rfl ?_
    refine pv_bipush (v := 100) (by decide) dX4_bestHeight_34 ?_
    refine pv_imul dX4_bestHeight_36 ?_
    refine pv_iload dX4_bestHeight_37 rfl ?_
    refine pv_pc (pc' := 39) rfl ?_
    refine pv_iadd dX4_bestHeight_39 ?_
    obtain ⟨q1, F⟩ := F
    refine pv_iald dX4_bestHeight_40 (lt_41 hL) q1 ?_
    refine pv_istore (ls' := [some (.ref 40), some (.int x1), none, none, some (.int x4), some (.int x5), some (.int x6), some (.int x7), some (.int (h 41 (Int32.toNatClampNeg ((x1 * 100) + x7))))]) dX4_bestHeight_41 (by decide) rfl rfl ?_
    refine pv_iload dX4_bestHeight_43 rfl ?_
    refine pv_iload dX4_bestHeight_45 rfl ?_
    refine pv_icmp_ge (tgt := 58) dX4_bestHeight_47 (by decide) (fun c2 => ?_) (fun c2 => ?_)
    · have F := F.1 c2
      refine pv_iinc (v := x7 + 1) (ls' := [some (.ref 40), some (.int x1), none, none, some (.int x4), some (.int x5), some (.int x6), some (.int (x7 + 1)), some (.int (h 41 (Int32.toNatClampNeg ((x1 * 100) + x7))))]) dX4_bestHeight_58 rfl (by rfl) rfl rfl ?_
      refine pv_goto (tgt := 22) dX4_bestHeight_61 (by decide) ?_
      refine pv_forgetL (ls' := [some (.ref 40), some (.int x1), none, none, some (.int x4), some (.int x5), some (.int x6), some (.int (x7 + 1)), none]) (pv_subL_ok ⟨rfl, ⟨rfl, ⟨rfl, ⟨rfl, ⟨rfl, ⟨rfl, trivial⟩⟩⟩⟩⟩⟩) ?_
      exact F
    · have F := F.2 c2
      refine pv_iload dX4_bestHeight_50 rfl ?_
      refine pv_istore (ls' := [some (.ref 40), some (.int x1), none, none, some (.int x7), some (.int x5), some (.int x6), some (.int x7), some (.int (h 41 (Int32.toNatClampNeg ((x1 * 100) + x7))))]) dX4_bestHeight_52 (by decide) rfl rfl ?_
      refine pv_iload dX4_bestHeight_54 rfl ?_
      refine pv_istore (ls' := [some (.ref 40), some (.int x1), none, none, some (.int x7), some (.int (h 41 (Int32.toNatClampNeg ((x1 * 100) + x7)))), some (.int x6), some (.int x7), some (.int (h 41 (Int32.toNatClampNeg ((x1 * 100) + x7))))]) dX4_bestHeight_56 (by decide) rfl rfl ?_
      refine pv_iinc (v := x7 + 1) (ls' := [some (.ref 40), some (.int x1), none, none, some (.int x7), some (.int (h 41 (Int32.toNatClampNeg ((x1 * 100) + x7)))), some (.int x6), some (.int (x7 + 1)), some (.int (h 41 (Int32.toNatClampNeg ((x1 * 100) + x7))))]) dX4_bestHeight_58 rfl (by rfl) rfl rfl ?_
      refine pv_goto (tgt := 22) dX4_bestHeight_61 (by decide) ?_
      refine pv_forgetL (ls' := [some (.ref 40), some (.int x1), none, none, some (.int x7), some (.int (h 41 (Int32.toNatClampNeg ((x1 * 100) + x7)))), some (.int x6), some (.int (x7 + 1)), none]) (pv_subL_ok ⟨rfl, ⟨rfl, ⟨rfl, ⟨rfl, ⟨rfl, ⟨rfl, trivial⟩⟩⟩⟩⟩⟩) ?_
      exact F
section LC
variable {Γ : pv_C} {d kc ks : Nat} {ty : pv_T} {h h0 : pv_H} {r : pv_R} {g : pv_G} {Q : pv_Q} {P : Nat → Bool} {G : Nat → Int32} {c : Nat}
theorem lv_22 (hL : pv_Lay ty r) (hc : c < 9) (hG : ∀ b, b < 100 → h 41 (100 * c + b) = G b) {x6 : Int32} (h6 : x6 ≤ 99) {lo : Nat} (hP : ∀ b, lo ≤ b → b < 100 → (P b = true ↔ nI b ≤ x6)) (hQ : Q (some (.int (lv_a P G 100))) ty h r g) : ∀ (m b : Nat), b + m = 100 → lo ≤ b → pv_E Γ d kc ks mX4_bestHeight 22 [some (.ref 40), some (.int (nI c)), none, none, some (.int (lv_a P G b)), some (.int (lv_m P G b)), some (.int x6), some (.int (nI b)), none] [] ty h r g Q := by
  intro m
  induction m with
  | zero =>
    intro b hb hl
    rw [show b = 100 by omega]
    refine sg_X4_bestHeight_22 _ _ _ _ _ hL ⟨fun _ => hQ, fun q => absurd (Int32.lt_of_le_of_lt h6 (show (99 : Int32) < nI 100 by decide)) q⟩
  | succ m ih =>
    intro b hb hl
    have hin : vp_in (nI (100 * c + b)) 900 := vp_in_nI (by omega) (by decide)
    refine sg_X4_bestHeight_22 _ _ _ _ _ hL ⟨fun q => ?_, fun q => ?_⟩
    · have := (lv_skip (P := P) (G := G) (n := b) (m + 1) (fun b' h1 h2 => by
        rw [← Bool.not_eq_true]
        intro z
        have z1 := (hP b' (by omega) (by omega)).mp z
        have z2 : nI b ≤ nI b' := (nI_leI (by omega) (by omega)).mpr h1
        exact Int32.not_lt.mpr (Int32.le_trans z2 z1) q)).2
      rw [hb] at this
      rw [← this]
      exact hQ
    · have hPb : P b = true := (hP b hl (by omega)).mpr (Int32.not_lt.mp q)
      have ih' := ih (b + 1) (by omega) (by omega)
      have e1 : lv_m P G (b + 1) = if P b = true ∧ G b < lv_m P G b then G b else lv_m P G b := rfl
      have e2 : lv_a P G (b + 1) = if P b = true ∧ G b < lv_m P G b then nI b else lv_a P G b := rfl
      rw [ni_100r, nI_clamp (by omega), hG b (by omega), nI_1]
      refine ⟨hin, fun c1 => ?_, fun c1 => ?_⟩
      · rw [e1, e2, if_neg (fun z => Int32.not_lt.mpr c1 z.2), if_neg (fun z => Int32.not_lt.mpr c1 z.2)] at ih'; exact ih'
      · have c2 := Int32.not_le.mp c1
        rw [e1, e2, if_pos ⟨hPb, c2⟩, if_pos ⟨hPb, c2⟩] at ih'; exact ih'
theorem ct_X4_bestHeight (hd : 1 ≤ d) (hL : pv_Lay ty r) (hc : c < 9) (hG : ∀ b, b < 100 → h 41 (100 * c + b) = G b) {x y : Int32} (hP : ∀ b, b < 100 → (P b = true ↔ (x ≤ nI b ∧ nI b ≤ y))) : pv_CJ Γ d mX4_bestHeight [.ref 40, .int (nI c), .int x, .int y] ty h r g (fun w h' => w = lv_a P G 100 ∧ h' = h) := by
  refine pv_fn 5 pn_X4 rfl (Nat.le_of_ble_eq_true rfl) (sg_X4_bestHeight_0 _ _ _ hd ?_)
  have hx6 : (if 99 < y then 99 else y) ≤ 99 := by split; exact Int32.le_refl _; exact Int32.not_lt.mp (by assumption)
  have hy : ∀ b, b < 100 → (nI b ≤ y ↔ nI b ≤ (if 99 < y then 99 else y)) := fun b hb => by
    have hb9 : nI b ≤ 99 := (nI_leI (b := 99) (by omega) (by decide)).mpr (by omega)
    split
    · rename_i z
      exact ⟨fun _ => hb9, fun _ => Int32.le_trans hb9 (Int32.le_of_lt z)⟩
    · exact Iff.rfl
  have hQ : pv_jq ty r g (fun w h' => w = lv_a P G 100 ∧ h' = h) (some (.int (lv_a P G 100))) ty h r g := pv_jqi ⟨rfl, rfl⟩
  by_cases c0 : 99 < x
  · have hno : lv_a P G 100 = -1 := by
      have := (lv_skip (P := P) (G := G) (n := 0) 100 (fun b h1 h2 => by
        rw [← Bool.not_eq_true]
        intro z
        have z1 := (hP b (by omega)).mp z
        have hb9 : nI b ≤ 99 := (nI_leI (b := 99) (by omega) (by decide)).mpr (by omega)
        exact Int32.not_lt.mpr (Int32.le_trans z1.1 hb9) c0)).2
      rw [Nat.zero_add] at this
      exact this
    have e : ¬ x < 0 := Int32.not_lt.mpr (Int32.le_trans (by decide) (Int32.le_of_lt c0))
    rw [if_neg e]
    refine sg_X4_bestHeight_22 _ _ _ _ _ hL ⟨fun _ => ?_, fun q => absurd (Int32.lt_of_le_of_lt hx6 c0) q⟩
    rw [← hno]; exact hQ
  · by_cases c1 : x < 0
    · rw [if_pos c1]
      exact lv_22 (P := P) (G := G) hL hc hG hx6 (lo := 0) (fun b _ hb => by
        rw [hP b hb, ← hy b hb]
        exact ⟨fun z => z.2, fun z => ⟨Int32.le_trans (Int32.le_of_lt c1) (nI_pos' (by omega)), z⟩⟩) hQ 100 0 rfl (Nat.le_refl _)
    · rw [if_neg c1]
      obtain ⟨n, hn, rfl⟩ := nI_of c1
      have hn9 : n ≤ 99 := (nI_leI (b := 99) hn (by decide)).mp (Int32.not_lt.mp c0)
      have s0 := lv_skip (P := P) (G := G) (n := 0) n (fun b h1 h2 => by
        rw [← Bool.not_eq_true]
        intro z
        have z1 := (nI_leI (by omega) (by omega)).mp ((hP b (by omega)).mp z).1
        omega)
      rw [Nat.zero_add] at s0
      have := lv_22 (Γ := Γ) (d := d) (kc := 0) (ks := 0) (P := P) (G := G) hL hc hG hx6 (lo := n) (fun b hl hb => by
        rw [hP b hb, ← hy b hb]
        exact ⟨fun z => z.2, fun z => ⟨(nI_leI (by omega) (by omega)).mpr hl, z⟩⟩) hQ (100 - n) n (by omega) (Nat.le_refl _)
      rw [s0.1, s0.2] at this
      exact this
end LC
set_option maxRecDepth 20000 in
set_option maxHeartbeats 4000000 in
theorem sg_X4_weighColumn_0 {Γ : pv_C} {d kc ks : Nat} {ty : pv_T} {h : pv_H} {r : pv_R} {g : pv_G} {Q : pv_Q} (x : Nat) (y : Int32) (z : Int32) (F : pv_E Γ d kc ks mX4_weighColumn 3 [some (.ref 40), some (.ref x), some (.int y), some (.int z), some (.int 0), none, none] [] ty h r g Q) : pv_E Γ d kc ks mX4_weighColumn 0 [some (.ref 40), some (.ref x), some (.int y), some (.int z), none, none, none] [] ty h r g Q := by
  refine pv_iconst (v := 0) (by decide) dX4_weighColumn_0 ?_
  refine pv_istore (ls' := [some (.ref 40), some (.ref x), some (.int y), some (.int z), some (.int 0), none, none]) dX4_weighColumn_1 (by decide) rfl rfl ?_
  exact F
set_option maxRecDepth 20000 in
set_option maxHeartbeats 4000000 in
theorem sg_X4_weighColumn_3 {Γ : pv_C} {d kc ks : Nat} {ty : pv_T} {h : pv_H} {r : pv_R} {g : pv_G} {Q : pv_Q} (a1 : Nat) (x2 : Int32) (x3 : Int32) (x4 : Int32) (hd : 1 ≤ d) (hL : pv_Lay ty r) (F : ((100 ≤ x4 → Q none ty h r g) ∧ (¬ 100 ≤ x4 → ty a1 = some (8, 0) ∧ (((h a1 1) ≤ (x2 + 1) → vp_in ((x2 * 100) + x4) 900 ∧ (∀ h1 : pv_H, h1 = pv_up h 41 (Int32.toNatClampNeg ((x2 * 100) + x4)) (if 0 ≤ (x4 - x3) then (x4 - x3) else 0 - (x4 - x3)) → pv_E Γ d kc ks mX4_weighColumn 3 [some (.ref 40), some (.ref a1), some (.int x2), some (.int x3), some (.int (x4 + 1)), none, none] [] ty h1 r g Q)) ∧ (¬ (h a1 1) ≤ (x2 + 1) → pv_CJ Γ (d - 1) mX4_bestHeight [.ref 40, .int (x2 + 1), .int (lv_lo h x2 x4), .int (lv_hi h x2 x4)] ty h r g (fun (w1 : Int32) (h2 : pv_H) => ((¬ w1 = (-1) → vp_in (((x2 + 1) * 100) + w1) 900 ∧ vp_in ((x2 * 100) + x4) 900 ∧ (∀ h3 : pv_H, h3 = pv_up h2 41 (Int32.toNatClampNeg ((x2 * 100) + x4)) ((if 0 ≤ (x4 - x3) then (x4 - x3) else 0 - (x4 - x3)) + (h2 41 (Int32.toNatClampNeg (((x2 + 1) * 100) + w1)))) → pv_E Γ d kc ks mX4_weighColumn 3 [some (.ref 40), some (.ref a1), some (.int x2), some (.int x3), some (.int (x4 + 1)), none, none] [] ty h3 r g Q)) ∧ (w1 = (-1) → vp_in ((x2 * 100) + x4) 900 ∧ (∀ h4 : pv_H, h4 = pv_up h2 41 (Int32.toNatClampNeg ((x2 * 100) + x4)) 1000000 → pv_E Γ d kc ks mX4_weighColumn 3 [some (.ref 40), some (.ref a1), some (.int x2), some (.int x3), some (.int (x4 + 1)), none, none] [] ty h4 r g Q))))))))) : pv_E Γ d kc ks mX4_weighColumn 3 [some (.ref 40), some (.ref a1), some (.int x2), some (.int x3), some (.int x4), none, none] [] ty h r g Q := by
  refine pv_iload dX4_weighColumn_3 rfl ?_
  refine pv_bipush (v := 100) (by decide) dX4_weighColumn_5 ?_
  refine pv_icmp_ge (tgt := 102) dX4_weighColumn_7 (by decide) (fun c1 => ?_) (fun c1 => ?_)
  · have F := F.1 c1
    exact pv_return dX4_weighColumn_102 rfl F
  · have F := F.2 c1
    refine pv_iload dX4_weighColumn_10 rfl ?_
    refine pv_iload_n dX4_weighColumn_12 rfl ?_
    refine pv_isub dX4_weighColumn_13 ?_
    refine pv_mabs dX4_weighColumn_14 ml_X4_65 (by omega) (Nat.le_of_ble_eq_true rfl) ?_
    refine pv_istore (ls' := [some (.ref 40), some (.ref a1), some (.int x2), some (.int x3), some (.int x4), some (.int (if 0 ≤ (x4 - x3) then (x4 - x3) else 0 - (x4 - x3))), none]) dX4_weighColumn_17 (by decide) rfl rfl ?_
    refine pv_iload_n dX4_weighColumn_19 rfl ?_
    refine pv_pc (pc' := 20) rfl ?_
    refine pv_iconst (v := 1) (by decide) dX4_weighColumn_20 ?_
    refine pv_iadd dX4_weighColumn_21 ?_
    refine pv_aload_n dX4_weighColumn_22 rfl ?_
    obtain ⟨q1, F⟩ := F
    refine pv_getI 8 1 dX4_weighColumn_23 fl_X4_31 rfl q1 ?_
    refine pv_icmp_ge (tgt := 82) dX4_weighColumn_26 (by decide) (fun c2 => ?_) (fun c2 => ?_)
    · have F := F.1 c2
      refine pv_aload_n dX4_weighColumn_82 rfl ?_
      refine pv_getRk 4 0 dX4_weighColumn_83 fl_X4_11 rfl (lt_40 hL) (lr_40_0 hL) ?_
      refine pv_iload_n dX4_weighColumn_86 rfl ?_
      refine pv_bipush (v := 100) (by decide) dX4_weighColumn_87 ?_
      refine pv_imul dX4_weighColumn_89 ?_
      refine pv_iload dX4_weighColumn_90 rfl ?_
      refine pv_pc (pc' := 92) rfl ?_
      refine pv_iadd dX4_weighColumn_92 ?_
      refine pv_iload dX4_weighColumn_93 rfl ?_
      obtain ⟨q2, F⟩ := F
      obtain ⟨h1, eh1⟩ : ∃ h1 : pv_H, h1 = pv_up h 41 (Int32.toNatClampNeg ((x2 * 100) + x4)) (if 0 ≤ (x4 - x3) then (x4 - x3) else 0 - (x4 - x3)) := ⟨_, rfl⟩
      have F := F h1 eh1
      refine pv_iast dX4_weighColumn_95 (lt_41 hL) (by decide) q2 ?_
      refine pv_hE eh1 ?_
      refine pv_iinc (v := x4 + 1) (ls' := [some (.ref 40), some (.ref a1), some (.int x2), some (.int x3), some (.int (x4 + 1)), some (.int (if 0 ≤ (x4 - x3) then (x4 - x3) else 0 - (x4 - x3))), none]) dX4_weighColumn_96 rfl (by rfl) rfl rfl ?_
      refine pv_goto (tgt := 3) dX4_weighColumn_99 (by decide) ?_
      refine pv_forgetL (ls' := [some (.ref 40), some (.ref a1), some (.int x2), some (.int x3), some (.int (x4 + 1)), none, none]) (pv_subL_ok ⟨rfl, ⟨rfl, ⟨rfl, ⟨rfl, ⟨rfl, trivial⟩⟩⟩⟩⟩) ?_
      exact F
    · have F := F.2 c2
      refine pv_aload_n dX4_weighColumn_29 rfl ?_
      refine pv_iload_n dX4_weighColumn_30 rfl ?_
      refine pv_iconst (v := 1) (by decide) dX4_weighColumn_31 ?_
      refine pv_iadd dX4_weighColumn_32 ?_
      refine pv_aload_n dX4_weighColumn_33 rfl ?_
      refine pv_iload_n dX4_weighColumn_34 rfl ?_
      refine pv_pc (pc' := 35) rfl ?_
      refine pv_iload dX4_weighColumn_35 rfl ?_
      refine pv_invV (As := [.int x2, .int x4]) (d' := d - 1) dX4_weighColumn_37 moX4_lowestBehind ml_X4_71 (lt_40 hL) (Or.inl ⟨_, rfl, rfl⟩) (Nat.le_of_ble_eq_true rfl) (by omega) (Nat.zero_le _) (Nat.zero_le _) (ct_X4_lowest (by omega) hL) (fun v ty' h' r' g' hq => ?_) rfl
      obtain ⟨e1, e2, e3, e4, e5⟩ := hq
      rw [e1, e2, e3, e4, e5]
      refine pv_pc (pc' := 40) rfl ?_
      show pv_E Γ d kc ks mX4_weighColumn 40 [some (.ref 40), some (.ref a1), some (.int x2), some (.int x3), some (.int x4), some (.int (if 0 ≤ (x4 - x3) then (x4 - x3) else 0 - (x4 - x3))), none] [.int (lv_lo h x2 x4), .int (x2 + 1), .ref 40] ty h r g Q
      refine pv_aload_n dX4_weighColumn_40 rfl ?_
      refine pv_iload_n dX4_weighColumn_41 rfl ?_
      refine pv_iload dX4_weighColumn_42 rfl ?_
      refine pv_invV (As := [.int x2, .int x4]) (d' := d - 1) dX4_weighColumn_44 moX4_highestBehind ml_X4_74 (lt_40 hL) (Or.inl ⟨_, rfl, rfl⟩) (Nat.le_of_ble_eq_true rfl) (by omega) (Nat.zero_le _) (Nat.zero_le _) (ct_X4_highest (by omega) hL) (fun v ty' h' r' g' hq => ?_) rfl
      obtain ⟨e1, e2, e3, e4, e5⟩ := hq
      rw [e1, e2, e3, e4, e5]
      refine pv_pc (pc' := 47) rfl ?_
      show pv_E Γ d kc ks mX4_weighColumn 47 [some (.ref 40), some (.ref a1), some (.int x2), some (.int x3), some (.int x4), some (.int (if 0 ≤ (x4 - x3) then (x4 - x3) else 0 - (x4 - x3))), none] [.int (lv_hi h x2 x4), .int (lv_lo h x2 x4), .int (x2 + 1), .ref 40] ty h r g Q
      refine pv_invV (As := [.int (x2 + 1), .int (lv_lo h x2 x4), .int (lv_hi h x2 x4)]) (d' := d - 1) dX4_weighColumn_47 moX4_bestHeight ml_X4_47 (lt_40 hL) (Or.inl ⟨_, rfl, rfl⟩) (Nat.le_of_ble_eq_true rfl) (by omega) (Nat.zero_le _) (Nat.zero_le _) F (fun v ty' h2 r' g' hq => ?_) rfl
      obtain ⟨e2, e4, e5, w1, e1, F⟩ := hq
      rw [e1, e2, e4, e5]
      refine pv_pc (pc' := 50) rfl ?_
      show pv_E Γ d kc ks mX4_weighColumn 50 [some (.ref 40), some (.ref a1), some (.int x2), some (.int x3), some (.int x4), some (.int (if 0 ≤ (x4 - x3) then (x4 - x3) else 0 - (x4 - x3))), none] [.int w1] ty h2 r g Q
      refine pv_istore (ls' := [some (.ref 40), some (.ref a1), some (.int x2), some (.int x3), some (.int x4), some (.int (if 0 ≤ (x4 - x3) then (x4 - x3) else 0 - (x4 - x3))), some (.int w1)]) dX4_weighColumn_50 (by decide) rfl rfl ?_
      refine pv_iload dX4_weighColumn_52 rfl ?_
      refine pv_iconst (v := (-1)) (by decide) dX4_weighColumn_54 ?_
      refine pv_icmp_ne (tgt := 63) dX4_weighColumn_55 (by decide) (fun c3 => ?_) (fun c3 => ?_)
      · have F := F.1 c3
        refine pv_iload dX4_weighColumn_63 rfl ?_
        refine pv_aload_n dX4_weighColumn_65 rfl ?_
        refine pv_getRk 4 0 dX4_weighColumn_66 fl_X4_11 rfl (lt_40 hL) (lr_40_0 hL) ?_
        refine pv_iload_n dX4_weighColumn_69 rfl ?_
        refine pv_iconst (v := 1) (by decide) dX4_weighColumn_70 ?_
        refine pv_iadd dX4_weighColumn_71 ?_
        refine pv_pc (pc' := 72) rfl ?_
        refine pv_bipush (v := 100) (by decide) dX4_weighColumn_72 ?_
        refine pv_imul dX4_weighColumn_74 ?_
        refine pv_iload dX4_weighColumn_75 rfl ?_
        refine pv_iadd dX4_weighColumn_77 ?_
        obtain ⟨q3, F⟩ := F
        refine pv_iald dX4_weighColumn_78 (lt_41 hL) q3 ?_
        refine pv_iadd dX4_weighColumn_79 ?_
        refine pv_istore (ls' := [some (.ref 40), some (.ref a1), some (.int x2), some (.int x3), some (.int x4), some (.int ((if 0 ≤ (x4 - x3) then (x4 - x3) else 0 - (x4 - x3)) + (h2 41 (Int32.toNatClampNeg (((x2 + 1) * 100) + w1))))), some (.int w1)]) dX4_weighColumn_80 (by decide) rfl rfl ?_
        refine pv_aload_n dX4_weighColumn_82 rfl ?_
        refine pv_getRk 4 0 dX4_weighColumn_83 fl_X4_11 rfl (lt_40 hL) (lr_40_0 hL) ?_
        refine pv_iload_n dX4_weighColumn_86 rfl ?_
        refine pv_bipush (v := 100) (by decide) dX4_weighColumn_87 ?_
        refine pv_pc (pc' := 89) rfl ?_
        refine pv_imul dX4_weighColumn_89 ?_
        refine pv_iload dX4_weighColumn_90 rfl ?_
        refine pv_iadd dX4_weighColumn_92 ?_
        refine pv_iload dX4_weighColumn_93 rfl ?_
        obtain ⟨q4, F⟩ := F
        obtain ⟨h3, eh3⟩ : ∃ h3 : pv_H, h3 = pv_up h2 41 (Int32.toNatClampNeg ((x2 * 100) + x4)) ((if 0 ≤ (x4 - x3) then (x4 - x3) else 0 - (x4 - x3)) + (h2 41 (Int32.toNatClampNeg (((x2 + 1) * 100) + w1)))) := ⟨_, rfl⟩
        have F := F h3 eh3
        refine pv_iast dX4_weighColumn_95 (lt_41 hL) (by decide) q4 ?_
        refine pv_hE eh3 ?_
        refine pv_iinc (v := x4 + 1) (ls' := [some (.ref 40), some (.ref a1), some (.int x2), some (.int x3), some (.int (x4 + 1)), some (.int ((if 0 ≤ (x4 - x3) then (x4 - x3) else 0 - (x4 - x3)) + (h2 41 (Int32.toNatClampNeg (((x2 + 1) * 100) + w1))))), some (.int w1)]) dX4_weighColumn_96 rfl (by rfl) rfl rfl ?_
        refine pv_goto (tgt := 3) dX4_weighColumn_99 (by decide) ?_
        refine pv_forgetL (ls' := [some (.ref 40), some (.ref a1), some (.int x2), some (.int x3), some (.int (x4 + 1)), none, none]) (pv_subL_ok ⟨rfl, ⟨rfl, ⟨rfl, ⟨rfl, ⟨rfl, trivial⟩⟩⟩⟩⟩) ?_
        exact F
      · have F := F.2 c3
        refine pv_ldc (v := 1000000) dX4_weighColumn_58 kc_X4_77 ?_
        refine pv_goto (tgt := 80) dX4_weighColumn_60 (by decide) ?_
        refine pv_istore (ls' := [some (.ref 40), some (.ref a1), some (.int x2), some (.int x3), some (.int x4), some (.int 1000000), some (.int w1)]) dX4_weighColumn_80 (by decide) rfl rfl ?_
        refine pv_aload_n dX4_weighColumn_82 rfl ?_
        refine pv_getRk 4 0 dX4_weighColumn_83 fl_X4_11 rfl (lt_40 hL) (lr_40_0 hL) ?_
        refine pv_iload_n dX4_weighColumn_86 rfl ?_
        refine pv_bipush (v := 100) (by decide) dX4_weighColumn_87 ?_
        refine pv_imul dX4_weighColumn_89 ?_
        refine pv_pc (pc' := 90) rfl ?_
        refine pv_iload dX4_weighColumn_90 rfl ?_
        refine pv_iadd dX4_weighColumn_92 ?_
        refine pv_iload dX4_weighColumn_93 rfl ?_
        obtain ⟨q5, F⟩ := F
        obtain ⟨h4, eh4⟩ : ∃ h4 : pv_H, h4 = pv_up h2 41 (Int32.toNatClampNeg ((x2 * 100) + x4)) 1000000 := ⟨_, rfl⟩
        have F := F h4 eh4
        refine pv_iast dX4_weighColumn_95 (lt_41 hL) (by decide) q5 ?_
        refine pv_hE eh4 ?_
        refine pv_iinc (v := x4 + 1) (ls' := [some (.ref 40), some (.ref a1), some (.int x2), some (.int x3), some (.int (x4 + 1)), some (.int 1000000), some (.int w1)]) dX4_weighColumn_96 rfl (by rfl) rfl rfl ?_
        refine pv_goto (tgt := 3) dX4_weighColumn_99 (by decide) ?_
        refine pv_forgetL (ls' := [some (.ref 40), some (.ref a1), some (.int x2), some (.int x3), some (.int (x4 + 1)), none, none]) (pv_subL_ok ⟨rfl, ⟨rfl, ⟨rfl, ⟨rfl, ⟨rfl, trivial⟩⟩⟩⟩⟩) ?_
        exact F
set_option maxRecDepth 20000 in
set_option maxHeartbeats 4000000 in
theorem sg_X4_keepHeights_0 {Γ : pv_C} {d kc ks : Nat} {ty : pv_T} {h : pv_H} {r : pv_R} {g : pv_G} {Q : pv_Q} (x : Nat) (y : Int32) (F : pv_E Γ d kc ks mX4_keepHeights 5 [some (.ref 40), some (.ref x), none, some (.int y), some (.int 0)] [] ty h r g Q) : pv_E Γ d kc ks mX4_keepHeights 0 [some (.ref 40), some (.ref x), some (.int y), none, none] [] ty h r g Q := by
  refine pv_iload_n dX4_keepHeights_0 rfl ?_
  refine pv_istore_n (ls' := [some (.ref 40), some (.ref x), some (.int y), some (.int y), none]) dX4_keepHeights_1 (by decide) rfl rfl ?_
  refine pv_iconst (v := 0) (by decide) dX4_keepHeights_2 ?_
  refine pv_istore (ls' := [some (.ref 40), some (.ref x), some (.int y), some (.int y), some (.int 0)]) dX4_keepHeights_3 (by decide) rfl rfl ?_
  refine pv_forgetL (ls' := [some (.ref 40), some (.ref x), none, some (.int y), some (.int 0)]) (pv_subL_ok ⟨rfl, ⟨rfl, ⟨rfl, ⟨rfl, trivial⟩⟩⟩⟩) ?_
  exact F
set_option maxRecDepth 20000 in
set_option maxHeartbeats 4000000 in
theorem sg_X4_keepHeights_5 {Γ : pv_C} {d kc ks : Nat} {ty : pv_T} {h : pv_H} {r : pv_R} {g : pv_G} {Q : pv_Q} (a1 : Nat) (x3 : Int32) (x4 : Int32) (hd : 1 ≤ d) (hL : pv_Lay ty r) (F : ty a1 = some (8, 0) ∧ (((h a1 1) ≤ x4 → Q none ty h r g) ∧ (¬ (h a1 1) ≤ x4 → ((x4 ≤ 0 → ty a1 = some (8, 0) ∧ ty a1 = some (8, 0) ∧ (ty a1 = some (8, 0)) ∧ pv_inb ty (r a1 2) 20 ((h 40 4) * h a1 1 + x4) ∧ vp_in x4 9 ∧ (∀ h1 : pv_H, h1 = pv_up h 42 (Int32.toNatClampNeg x4) (h (r a1 2) (Int32.toNatClampNeg ((h 40 4) * h a1 1 + x4))) → vp_in x4 9 ∧ (∀ h2 : pv_H, h2 = pv_up h1 43 (Int32.toNatClampNeg x4) x3 → pv_E Γ d kc ks mX4_keepHeights 5 [some (.ref 40), some (.ref a1), none, some (.int x3), some (.int (x4 + 1))] [] ty h2 r g Q))) ∧ (¬ x4 ≤ 0 → pv_CJ Γ (d - 1) mX4_bestHeight [.ref 40, .int x4, .int (lv_lo h (x4 - 1) x3), .int (lv_hi h (x4 - 1) x3)] ty h r g (fun (w1 : Int32) (h3 : pv_H) => ty a1 = some (8, 0) ∧ ty a1 = some (8, 0) ∧ (ty a1 = some (8, 0)) ∧ pv_inb ty (r a1 2) 20 ((h3 40 4) * h3 a1 1 + x4) ∧ vp_in x4 9 ∧ (∀ h4 : pv_H, h4 = pv_up h3 42 (Int32.toNatClampNeg x4) (h3 (r a1 2) (Int32.toNatClampNeg ((h3 40 4) * h3 a1 1 + x4))) → vp_in x4 9 ∧ (∀ h5 : pv_H, h5 = pv_up h4 43 (Int32.toNatClampNeg x4) w1 → pv_E Γ d kc ks mX4_keepHeights 5 [some (.ref 40), some (.ref a1), none, some (.int w1), some (.int (x4 + 1))] [] ty h5 r g Q)))))))) : pv_E Γ d kc ks mX4_keepHeights 5 [some (.ref 40), some (.ref a1), none, some (.int x3), some (.int x4)] [] ty h r g Q := by
  refine pv_iload dX4_keepHeights_5 rfl ?_
  refine pv_aload_n dX4_keepHeights_7 rfl ?_
  obtain ⟨q1, F⟩ := F
  refine pv_getI 8 1 dX4_keepHeights_8 fl_X4_31 rfl q1 ?_
  refine pv_icmp_ge (tgt := 80) dX4_keepHeights_11 (by decide) (fun c1 => ?_) (fun c1 => ?_)
  · have F := F.1 c1
    exact pv_return dX4_keepHeights_80 rfl F
  · have F := F.2 c1
    refine pv_iload dX4_keepHeights_14 rfl ?_
    refine pv_if_le (tgt := 44) dX4_keepHeights_16 (by decide) (fun c2 => ?_) (fun c2 => ?_)
    · have F := F.1 c2
      refine pv_aload_n dX4_keepHeights_44 rfl ?_
      refine pv_getRk 4 1 dX4_keepHeights_45 fl_X4_15 rfl (lt_40 hL) (lr_40_1 hL) ?_
      refine pv_iload dX4_keepHeights_48 rfl ?_
      refine pv_aload_n dX4_keepHeights_50 rfl ?_
      obtain ⟨q2, F⟩ := F
      refine pv_getR 8 2 dX4_keepHeights_51 fl_X4_36 rfl q2 ?_
      refine pv_aload_n dX4_keepHeights_54 rfl ?_
      refine pv_aload_n dX4_keepHeights_55 rfl ?_
      refine pv_getI 4 4 dX4_keepHeights_56 fl_X4_55 rfl (lt_40 hL) ?_
      refine pv_iload dX4_keepHeights_59 rfl ?_
      obtain ⟨q3, F⟩ := F
      obtain ⟨q4, F⟩ := F
      refine pv_invV (As := [.int (h 40 4), .int x4]) (d' := d - 1) dX4_keepHeights_61 moX8_placeOf ml_X4_39 q3 (Or.inl ⟨_, rfl, rfl⟩) (Nat.le_of_ble_eq_true rfl) (by omega) (Nat.zero_le _) (Nat.zero_le _) (ct_X8_placeOf (by omega) q4) (fun v ty' h' r' g' hq => ?_) rfl
      obtain ⟨e1, e2, e3, e4, e5⟩ := hq
      rw [e1, e2, e3, e4, e5]
      refine pv_pc (pc' := 64) rfl ?_
      show pv_E Γ d kc ks mX4_keepHeights 64 [some (.ref 40), some (.ref a1), none, some (.int x3), some (.int x4)] [.int ((h 40 4) * h a1 1 + x4), .ref (r a1 2), .int x4, .ref 42] ty h r g Q
      obtain ⟨q5, F⟩ := F
      obtain ⟨q5n, q5t, q5i⟩ := q5
      refine pv_iald dX4_keepHeights_64 q5t q5i ?_
      obtain ⟨q6, F⟩ := F
      obtain ⟨h1, eh1⟩ : ∃ h1 : pv_H, h1 = pv_up h 42 (Int32.toNatClampNeg x4) (h (r a1 2) (Int32.toNatClampNeg ((h 40 4) * h a1 1 + x4))) := ⟨_, rfl⟩
      have F := F h1 eh1
      refine pv_iast dX4_keepHeights_65 (lt_42 hL) (by decide) q6 ?_
      refine pv_hE eh1 ?_
      refine pv_aload_n dX4_keepHeights_66 rfl ?_
      refine pv_getRk 4 2 dX4_keepHeights_67 fl_X4_18 rfl (lt_40 hL) (lr_40_2 hL) ?_
      refine pv_iload dX4_keepHeights_70 rfl ?_
      refine pv_iload_n dX4_keepHeights_72 rfl ?_
      obtain ⟨q7, F⟩ := F
      obtain ⟨h2, eh2⟩ : ∃ h2 : pv_H, h2 = pv_up h1 43 (Int32.toNatClampNeg x4) x3 := ⟨_, rfl⟩
      have F := F h2 eh2
      refine pv_iast dX4_keepHeights_73 (lt_43 hL) (by decide) q7 ?_
      refine pv_hE eh2 ?_
      refine pv_iinc (v := x4 + 1) (ls' := [some (.ref 40), some (.ref a1), none, some (.int x3), some (.int (x4 + 1))]) dX4_keepHeights_74 rfl (by rfl) rfl rfl ?_
      refine pv_goto (tgt := 5) dX4_keepHeights_77 (by decide) ?_
      exact F
    · have F := F.2 c2
      refine pv_aload_n dX4_keepHeights_19 rfl ?_
      refine pv_iload dX4_keepHeights_20 rfl ?_
      refine pv_aload_n dX4_keepHeights_22 rfl ?_
      refine pv_iload dX4_keepHeights_23 rfl ?_
      refine pv_iconst (v := 1) (by decide) dX4_keepHeights_25 ?_
      refine pv_isub dX4_keepHeights_26 ?_
      refine pv_pc (pc' := 27) rfl ?_
      refine pv_iload_n dX4_keepHeights_27 rfl ?_
      refine pv_invV (As := [.int (x4 - 1), .int x3]) (d' := d - 1) dX4_keepHeights_28 moX4_lowestBehind ml_X4_71 (lt_40 hL) (Or.inl ⟨_, rfl, rfl⟩) (Nat.le_of_ble_eq_true rfl) (by omega) (Nat.zero_le _) (Nat.zero_le _) (ct_X4_lowest (by omega) hL) (fun v ty' h' r' g' hq => ?_) rfl
      obtain ⟨e1, e2, e3, e4, e5⟩ := hq
      rw [e1, e2, e3, e4, e5]
      refine pv_pc (pc' := 31) rfl ?_
      show pv_E Γ d kc ks mX4_keepHeights 31 [some (.ref 40), some (.ref a1), none, some (.int x3), some (.int x4)] [.int (lv_lo h (x4 - 1) x3), .int x4, .ref 40] ty h r g Q
      refine pv_aload_n dX4_keepHeights_31 rfl ?_
      refine pv_iload dX4_keepHeights_32 rfl ?_
      refine pv_iconst (v := 1) (by decide) dX4_keepHeights_34 ?_
      refine pv_isub dX4_keepHeights_35 ?_
      refine pv_iload_n dX4_keepHeights_36 rfl ?_
      refine pv_invV (As := [.int (x4 - 1), .int x3]) (d' := d - 1) dX4_keepHeights_37 moX4_highestBehind ml_X4_74 (lt_40 hL) (Or.inl ⟨_, rfl, rfl⟩) (Nat.le_of_ble_eq_true rfl) (by omega) (Nat.zero_le _) (Nat.zero_le _) (ct_X4_highest (by omega) hL) (fun v ty' h' r' g' hq => ?_) rfl
      obtain ⟨e1, e2, e3, e4, e5⟩ := hq
      rw [e1, e2, e3, e4, e5]
      refine pv_pc (pc' := 40) rfl ?_
      show pv_E Γ d kc ks mX4_keepHeights 40 [some (.ref 40), some (.ref a1), none, some (.int x3), some (.int x4)] [.int (lv_hi h (x4 - 1) x3), .int (lv_lo h (x4 - 1) x3), .int x4, .ref 40] ty h r g Q
      refine pv_invV (As := [.int x4, .int (lv_lo h (x4 - 1) x3), .int (lv_hi h (x4 - 1) x3)]) (d' := d - 1) dX4_keepHeights_40 moX4_bestHeight ml_X4_47 (lt_40 hL) (Or.inl ⟨_, rfl, rfl⟩) (Nat.le_of_ble_eq_true rfl) (by omega) (Nat.zero_le _) (Nat.zero_le _) F (fun v ty' h3 r' g' hq => ?_) rfl
      obtain ⟨e2, e4, e5, w1, e1, F⟩ := hq
      rw [e1, e2, e4, e5]
      refine pv_pc (pc' := 43) rfl ?_
      show pv_E Γ d kc ks mX4_keepHeights 43 [some (.ref 40), some (.ref a1), none, some (.int x3), some (.int x4)] [.int w1] ty h3 r g Q
      refine pv_istore_n (ls' := [some (.ref 40), some (.ref a1), none, some (.int w1), some (.int x4)]) dX4_keepHeights_43 (by decide) rfl rfl ?_
      refine pv_aload_n dX4_keepHeights_44 rfl ?_
      refine pv_getRk 4 1 dX4_keepHeights_45 fl_X4_15 rfl (lt_40 hL) (lr_40_1 hL) ?_
      refine pv_iload dX4_keepHeights_48 rfl ?_
      refine pv_aload_n dX4_keepHeights_50 rfl ?_
      obtain ⟨q8, F⟩ := F
      refine pv_getR 8 2 dX4_keepHeights_51 fl_X4_36 rfl q8 ?_
      refine pv_aload_n dX4_keepHeights_54 rfl ?_
      refine pv_aload_n dX4_keepHeights_55 rfl ?_
      refine pv_getI 4 4 dX4_keepHeights_56 fl_X4_55 rfl (lt_40 hL) ?_
      refine pv_iload dX4_keepHeights_59 rfl ?_
      obtain ⟨q9, F⟩ := F
      obtain ⟨q10, F⟩ := F
      refine pv_invV (As := [.int (h3 40 4), .int x4]) (d' := d - 1) dX4_keepHeights_61 moX8_placeOf ml_X4_39 q9 (Or.inl ⟨_, rfl, rfl⟩) (Nat.le_of_ble_eq_true rfl) (by omega) (Nat.zero_le _) (Nat.zero_le _) (ct_X8_placeOf (by omega) q10) (fun v ty' h' r' g' hq => ?_) rfl
      obtain ⟨e1, e2, e3, e4, e5⟩ := hq
      rw [e1, e2, e3, e4, e5]
      refine pv_pc (pc' := 64) rfl ?_
      show pv_E Γ d kc ks mX4_keepHeights 64 [some (.ref 40), some (.ref a1), none, some (.int w1), some (.int x4)] [.int ((h3 40 4) * h3 a1 1 + x4), .ref (r a1 2), .int x4, .ref 42] ty h3 r g Q
      obtain ⟨q11, F⟩ := F
      obtain ⟨q11n, q11t, q11i⟩ := q11
      refine pv_iald dX4_keepHeights_64 q11t q11i ?_
      obtain ⟨q12, F⟩ := F
      obtain ⟨h4, eh4⟩ : ∃ h4 : pv_H, h4 = pv_up h3 42 (Int32.toNatClampNeg x4) (h3 (r a1 2) (Int32.toNatClampNeg ((h3 40 4) * h3 a1 1 + x4))) := ⟨_, rfl⟩
      have F := F h4 eh4
      refine pv_iast dX4_keepHeights_65 (lt_42 hL) (by decide) q12 ?_
      refine pv_hE eh4 ?_
      refine pv_aload_n dX4_keepHeights_66 rfl ?_
      refine pv_getRk 4 2 dX4_keepHeights_67 fl_X4_18 rfl (lt_40 hL) (lr_40_2 hL) ?_
      refine pv_iload dX4_keepHeights_70 rfl ?_
      refine pv_iload_n dX4_keepHeights_72 rfl ?_
      obtain ⟨q13, F⟩ := F
      obtain ⟨h5, eh5⟩ : ∃ h5 : pv_H, h5 = pv_up h4 43 (Int32.toNatClampNeg x4) w1 := ⟨_, rfl⟩
      have F := F h5 eh5
      refine pv_iast dX4_keepHeights_73 (lt_43 hL) (by decide) q13 ?_
      refine pv_hE eh5 ?_
      refine pv_iinc (v := x4 + 1) (ls' := [some (.ref 40), some (.ref a1), none, some (.int w1), some (.int (x4 + 1))]) dX4_keepHeights_74 rfl (by rfl) rfl rfl ?_
      refine pv_goto (tgt := 5) dX4_keepHeights_77 (by decide) ?_
      exact F
set_option maxRecDepth 20000 in
set_option maxHeartbeats 4000000 in
theorem sg_X4_isRowAsBefore_0 {Γ : pv_C} {d kc ks : Nat} {ty : pv_T} {h : pv_H} {r : pv_R} {g : pv_G} {Q : pv_Q} (x : Nat) (F : pv_E Γ d kc ks mX4_isRowAsBefore 2 [some (.ref 40), some (.ref x), some (.int 0)] [] ty h r g Q) : pv_E Γ d kc ks mX4_isRowAsBefore 0 [some (.ref 40), some (.ref x), none] [] ty h r g Q := by
  refine pv_iconst (v := 0) (by decide) dX4_isRowAsBefore_0 ?_
  refine pv_istore_n (ls' := [some (.ref 40), some (.ref x), some (.int 0)]) dX4_isRowAsBefore_1 (by decide) rfl rfl ?_
  exact F
set_option maxRecDepth 20000 in
set_option maxHeartbeats 4000000 in
theorem sg_X4_isRowAsBefore_2 {Γ : pv_C} {d kc ks : Nat} {ty : pv_T} {h : pv_H} {r : pv_R} {g : pv_G} {Q : pv_Q} (a1 : Nat) (x2 : Int32) (hd : 1 ≤ d) (hL : pv_Lay ty r) (F : ty a1 = some (8, 0) ∧ (((h a1 1) ≤ x2 → Q (some (.int 1)) ty h r g) ∧ (¬ (h a1 1) ≤ x2 → ty a1 = some (8, 0) ∧ ty a1 = some (8, 0) ∧ (ty a1 = some (8, 0)) ∧ pv_inb ty (r a1 2) 20 ((h 40 4) * h a1 1 + x2) ∧ vp_in x2 9 ∧ (((h (r a1 2) (Int32.toNatClampNeg ((h 40 4) * h a1 1 + x2))) = (h 42 (Int32.toNatClampNeg x2)) → pv_E Γ d kc ks mX4_isRowAsBefore 2 [some (.ref 40), some (.ref a1), some (.int (x2 + 1))] [] ty h r g Q) ∧ (¬ (h (r a1 2) (Int32.toNatClampNeg ((h 40 4) * h a1 1 + x2))) = (h 42 (Int32.toNatClampNeg x2)) → Q (some (.int 0)) ty h r g))))) : pv_E Γ d kc ks mX4_isRowAsBefore 2 [some (.ref 40), some (.ref a1), some (.int x2)] [] ty h r g Q := by
  refine pv_iload_n dX4_isRowAsBefore_2 rfl ?_
  refine pv_aload_n dX4_isRowAsBefore_3 rfl ?_
  obtain ⟨q1, F⟩ := F
  refine pv_getI 8 1 dX4_isRowAsBefore_4 fl_X4_31 rfl q1 ?_
  refine pv_icmp_ge (tgt := 41) dX4_isRowAsBefore_7 (by decide) (fun c1 => ?_) (fun c1 => ?_)
  · have F := F.1 c1
    refine pv_iconst (v := 1) (by decide) dX4_isRowAsBefore_41 ?_
    exact pv_ireturn dX4_isRowAsBefore_42 rfl (by decide) F
  · have F := F.2 c1
    refine pv_aload_n dX4_isRowAsBefore_10 rfl ?_
    obtain ⟨q2, F⟩ := F
    refine pv_getR 8 2 dX4_isRowAsBefore_11 fl_X4_36 rfl q2 ?_
    refine pv_aload_n dX4_isRowAsBefore_14 rfl ?_
    refine pv_aload_n dX4_isRowAsBefore_15 rfl ?_
    refine pv_getI 4 4 dX4_isRowAsBefore_16 fl_X4_55 rfl (lt_40 hL) ?_
    refine pv_iload_n dX4_isRowAsBefore_19 rfl ?_
    obtain ⟨q3, F⟩ := F
    obtain ⟨q4, F⟩ := F
    refine pv_invV (As := [.int (h 40 4), .int x2]) (d' := d - 1) dX4_isRowAsBefore_20 moX8_placeOf ml_X4_39 q3 (Or.inl ⟨_, rfl, rfl⟩) (Nat.le_of_ble_eq_true rfl) (by omega) (Nat.zero_le _) (Nat.zero_le _) (ct_X8_placeOf (by omega) q4) (fun v ty' h' r' g' hq => ?_) rfl
    obtain ⟨e1, e2, e3, e4, e5⟩ := hq
    rw [e1, e2, e3, e4, e5]
    refine pv_pc (pc' := 23) rfl ?_
    show pv_E Γ d kc ks mX4_isRowAsBefore 23 [some (.ref 40), some (.ref a1), some (.int x2)] [.int ((h 40 4) * h a1 1 + x2), .ref (r a1 2)] ty h r g Q
    obtain ⟨q5, F⟩ := F
    obtain ⟨q5n, q5t, q5i⟩ := q5
    refine pv_iald dX4_isRowAsBefore_23 q5t q5i ?_
    refine pv_aload_n dX4_isRowAsBefore_24 rfl ?_
    refine pv_getRk 4 1 dX4_isRowAsBefore_25 fl_X4_15 rfl (lt_40 hL) (lr_40_1 hL) ?_
    refine pv_iload_n dX4_isRowAsBefore_28 rfl ?_
    obtain ⟨q6, F⟩ := F
    refine pv_iald dX4_isRowAsBefore_29 (lt_42 hL) q6 ?_
    refine pv_icmp_eq (tgt := 35) dX4_isRowAsBefore_30 (by decide) (fun c2 => ?_) (fun c2 => ?_)
    · have F := F.1 c2
      refine pv_iinc (v := x2 + 1) (ls' := [some (.ref 40), some (.ref a1), some (.int (x2 + 1))]) dX4_isRowAsBefore_35 rfl (by rfl) rfl rfl ?_
      refine pv_goto (tgt := 2) dX4_isRowAsBefore_38 (by decide) ?_
      exact F
    · have F := F.2 c2
      refine pv_iconst (v := 0) (by decide) dX4_isRowAsBefore_33 ?_
      exact pv_ireturn dX4_isRowAsBefore_34 rfl (by decide) F
theorem lv_ab (x : Int32) : (if 0 ≤ x then x else 0 - x) = pf_abs x := by unfold pf_abs; rw [Int32.zero_sub]
section LD
variable {Γ : pv_C} {d kc ks : Nat} {ty : pv_T} {h h0 : pv_H} {r : pv_R} {g : pv_G} {Q : pv_Q} {O : Nat → Int32} {C k f e c a R i : Nat}
theorem lv_par_fr {A : Nat → Nat → Prop} (hf : pv_fr A h0 h) (hA : ∀ j, 6 ≤ j → ¬ A 40 j) (hp : lv_par h0 k f e) : lv_par h k f e := by
  obtain ⟨p1, p2, p3, p4⟩ := hp
  exact ⟨(hf 40 6 (hA 6 (by decide))).trans p1, (hf 40 7 (hA 7 (by decide))).trans p2, (hf 40 8 (hA 8 (by decide))).trans p3, p4⟩
theorem lv_w3 (hd : 2 ≤ d) (hL : pv_Lay ty r) (hp : lv_par h0 k f e) (ha : 1000 ≤ a) (hta : ty a = some (8, 0)) (hC : h0 a 1 = nI C) (hc : c < C) (h9 : C ≤ 9) (hQ : ∀ h', pv_fr (aR 41) h0 h' → lv_tb O C k f e h' 41 c 100 → Q none ty h' r g) : ∀ (m n : Nat) (h : pv_H), n + m = 100 → pv_fr (aR 41) h0 h → lv_tb O C k f e h 41 c n → pv_E Γ d kc ks mX4_weighColumn 3 [some (.ref 40), some (.ref a), some (.int (nI c)), some (.int (O c)), some (.int (nI n)), none, none] [] ty h r g Q := by
  intro m
  induction m with
  | zero =>
    intro n h hn hf t
    rw [show n = 100 by omega] at t ⊢
    exact sg_X4_weighColumn_3 _ _ _ _ (by omega) hL (pk_le 100 100 (fun _ => hQ h hf t) (fun c => absurd c (by omega)))
  | succ m ih =>
    intro n h hn hf t
    have hin : vp_in (nI c * 100 + nI n) 900 := by rw [ni_100r]; exact vp_in_nI (by omega) (by decide)
    have hC' : h a 1 = nI C := (hf a 1 (show ¬ a = 41 by omega)).trans hC
    have hx : Int32.toNatClampNeg (nI c * 100 + nI n) = 100 * c + n := by rw [ni_100r]; exact nI_clamp (by omega)
    refine sg_X4_weighColumn_3 _ _ _ _ (by omega) hL (pk_le 100 n (fun c => absurd c (by omega)) (fun _ => ⟨hta, ?_⟩))
    rw [hC', nI_1, nI_1, lv_ab, hx]
    refine pk_le C (c + 1) (fun c1 => ⟨hin, fun h1 e1 => ?_⟩) (fun c1 => ?_)
    · rw [e1]
      exact ih (n + 1) _ (by omega) (pv_fr_up hf rfl) (lv_tb_up (by omega) t (lv_G_l (by omega) n).symm)
    · have hp' := lv_par_fr hf (fun j _ => by simp) hp
      refine pv_CJ.mono (ct_X4_bestHeight (P := lv_ok k f e c n) (G := lv_G O C k f e (c + 1)) (by omega) hL (by omega) (fun b hb => t.1 (c + 1) b (by omega) c1 hb) (fun b hb => lv_int hp' (by omega) (by omega) hb)) (fun w h' q => ?_)
      obtain ⟨rfl, rfl⟩ := q
      have eg := lv_G_s (O := O) (k := k) (f := f) (e := e) c1 n
      refine ⟨fun c2 => ?_, fun c2 => ⟨hin, fun h1 e1 => ?_⟩⟩
      · rcases (lv_all (lv_ok k f e c n) (lv_G O C k f e (c + 1)) 100).2.2 with ⟨q1, _⟩ | ⟨q1, b, hb⟩
        · exact absurd q1 c2
        · rw [hb.2.1, ni_100r, nI_clamp (by have := hb.1; omega), t.1 (c + 1) b (by omega) c1 hb.1, hb.2.2.2.1]
          refine ⟨vp_in_nI (by have := hb.1; omega) (by decide), hin, fun h1 e1 => ?_⟩
          rw [if_neg (fun z => absurd (z ▸ q1) Int32.lt_irrefl)] at eg
          rw [e1]
          exact ih (n + 1) _ (by omega) (pv_fr_up hf rfl) (lv_tb_up (by omega) t (by rw [eg, Int32.add_comm]))
      · rw [if_pos ((lv_a_m _ _ 100 (by decide)).mp c2)] at eg
        rw [e1]
        exact ih (n + 1) _ (by omega) (pv_fr_up hf rfl) (lv_tb_up (by omega) t eg.symm)
theorem ct_X4_weigh (hd : 2 ≤ d) (hL : pv_Lay ty r) (hp : lv_par h k f e) (ha : 1000 ≤ a) (hta : ty a = some (8, 0)) (hC : h a 1 = nI C) (hc : c < C) (h9 : C ≤ 9) (t : lv_tb O C k f e h 41 c 0) : pv_CW Γ d mX4_weighColumn [.ref 40, .ref a, .int (nI c), .int (O c)] ty h r g (fun h' => pv_fr (aR 41) h h' ∧ lv_tb O C k f e h' 41 c 100) :=
  pv_fn 3 pn_X4 rfl (Nat.le_of_ble_eq_true rfl) (sg_X4_weighColumn_0 _ _ _ (lv_w3 hd hL hp ha hta hC hc h9 (fun h' f' t' => pv_wqi ⟨f', t'⟩) 100 0 h rfl (pv_fr_refl _ _) t))
abbrev lvK : Nat → Nat → Prop := fun a _ => a = 42 ∨ a = 43
def lv_rows (O : Nat → Int32) (C k f e : Nat) (h : pv_H) (A B c : Nat) : Prop := ∀ c', c' < c → h A c' = O c' ∧ h B c' = nI (lv_p O C k f e c')
theorem lv_rows_up {h : pv_H} {A B : Nat} (hAB : A ≠ B) (t : lv_rows O C k f e h A B c) : lv_rows O C k f e (pv_up (pv_up h A c (O c)) B c (nI (lv_p O C k f e c))) A B (c + 1) := fun c' hc => by
  by_cases q : c' = c
  · rw [q, pv_up_same, pv_up_a hAB, pv_up_same]; exact ⟨rfl, rfl⟩
  · rw [pv_up_j q, pv_up_j q, pv_up_j q, pv_up_j q]; exact t c' (by omega)
abbrev lvO (h : pv_H) (a C i : Nat) : Nat → Int32 := fun c => h (a + 1) (i * C + c)
theorem lv_k5 (hd : 2 ≤ d) (hL : pv_Lay ty r) (hp : lv_par h0 k f e) (hS : cStr ty h0 r a R C) (hi : i < R) (h4 : h0 40 4 = nI i) (t : lv_tb (lvO h0 a C i) C k f e h0 41 0 100) (hm : lv_m (fun _ => true) (lv_G (lvO h0 a C i) C k f e 0) 100 < 1000000) (hQ : ∀ h', pv_fr lvK h0 h' → lv_rows (lvO h0 a C i) C k f e h' 42 43 C → Q none ty h' r g) : ∀ (m c : Nat) (h : pv_H), c + m = C → pv_fr lvK h0 h → lv_rows (lvO h0 a C i) C k f e h 42 43 c → pv_E Γ d kc ks mX4_keepHeights 5 [some (.ref 40), some (.ref a), none, some (.int (nI (lv_p (lvO h0 a C i) C k f e (c - 1)))), some (.int (nI c))] [] ty h r g Q := by
  obtain ⟨ha, hta, hR0, hC, hR, h9, ⟨r2, -⟩, ⟨t1, -⟩, -⟩ := hS
  intro m
  induction m with
  | zero =>
    intro c h hc hf tr
    rw [show c = C by omega] at tr ⊢
    refine sg_X4_keepHeights_5 _ _ _ (by omega) hL ⟨hta, ?_⟩
    rw [(hf a 1 (by omega)).trans hC]
    exact pk_le C C (fun _ => hQ h hf tr) (fun c => absurd c (by omega))
  | succ m ih =>
    intro c h hc hf tr
    have hC' : h a 1 = nI C := (hf a 1 (by omega)).trans hC
    have h4' : h 40 4 = nI i := (hf 40 4 (by decide)).trans h4
    have hon : wt_on R C (i, c) := ⟨hi, by show c < C; omega⟩
    have hin : pv_inb ty (a + 1) 20 (pl C (i, c)) := ⟨_, t1, pl_in hR.2 h9.2 hon⟩
    have hv : h (a + 1) (i * C + c) = lvO h0 a C i c := hf (a + 1) _ (by omega)
    have h9i : vp_in (nI c) 9 := vp_in_nI (by omega) (by decide)
    refine sg_X4_keepHeights_5 _ _ _ (by omega) hL ⟨hta, ?_⟩
    rw [hC', h4', pl_mk, r2, pl_cl hR.2 h9.2 hon]
    refine pk_le C c (fun c1 => absurd c1 (by omega)) (fun c1 => pk_le c 0 (fun c2 => ⟨hta, hta, hta, hin, h9i, fun h1 e1 => ⟨h9i, fun h2 e2 => ?_⟩⟩) (fun c2 => ?_))
    · rw [nI_clamp (by omega)] at e1 e2
      rw [e2, e1, hv, nI_1]
      have := ih (c + 1) _ (by omega) (pv_fr_up (pv_fr_up hf (Or.inl rfl)) (Or.inr rfl)) (lv_rows_up (by decide) tr)
      rw [show c + 1 - 1 = c by omega] at this
      rw [show c - 1 = c by omega]
      exact this
    · obtain ⟨c', rfl⟩ : ∃ c', c = c' + 1 := ⟨c - 1, by omega⟩
      have hp' := lv_par_fr hf (fun j _ => by simp) hp
      have hpc := lv_p_c hm c' (by omega)
      rw [show c' + 1 - 1 = c' by omega, nI_pred]
      refine pv_CJ.mono (ct_X4_bestHeight (P := lv_ok k f e c' (lv_p (lvO h0 a C i) C k f e c')) (G := lv_G (lvO h0 a C i) C k f e (c' + 1)) (by omega) hL (by omega) (fun b hb => (hf 41 _ (by simp)).trans (t.1 (c' + 1) b (by omega) (by omega) hb)) (fun b hb => lv_int hp' (by omega) (by omega) hb)) (fun w h' q => ?_)
      obtain ⟨rfl, rfl⟩ := q
      have hps := lv_p_s (by omega) hpc.2
      rw [hC', h4', pl_mk, pl_cl hR.2 h9.2 hon, hps.1.2.1]
      refine ⟨hta, hta, hta, hin, h9i, fun h1 e1 => ⟨h9i, fun h2 e2 => ?_⟩⟩
      rw [nI_clamp (by omega)] at e1 e2
      rw [e2, e1, hv, nI_1]
      exact ih (c' + 1 + 1) _ (by omega) (pv_fr_up (pv_fr_up hf (Or.inl rfl)) (Or.inr rfl)) (lv_rows_up (by decide) tr)
theorem ct_X4_keep (hd : 2 ≤ d) (hL : pv_Lay ty r) (hp : lv_par h k f e) (hS : cStr ty h r a R C) (hi : i < R) (h4 : h 40 4 = nI i) (t : lv_tb (lvO h a C i) C k f e h 41 0 100) (hm : lv_m (fun _ => true) (lv_G (lvO h a C i) C k f e 0) 100 < 1000000) : pv_CW Γ d mX4_keepHeights [.ref 40, .ref a, .int (nI (lv_p (lvO h a C i) C k f e 0))] ty h r g (fun h' => pv_fr lvK h h' ∧ lv_rows (lvO h a C i) C k f e h' 42 43 C) :=
  pv_fn 2 pn_X4 rfl (Nat.le_of_ble_eq_true rfl) (sg_X4_keepHeights_0 _ _ (lv_k5 hd hL hp hS hi h4 t hm (fun h' f' t' => pv_wqi ⟨f', t'⟩) C 0 h (Nat.zero_add _) (pv_fr_refl _ _) (fun _ q => absurd q (by omega))))
end LD
