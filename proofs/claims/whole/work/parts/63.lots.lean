/-! lots, the pure side -/
def dr_st (z : Int32) : Nat → Int32
  | 0 => z
  | i + 1 => dr_st z i * 1103515245 + 12345
def dr_p (z : Int32) (N i : Nat) : Nat := (dr_st z (i + 1)).toBitVec.toNat / 256 % (N - i)
def dr_er (p : Nat) (f : Nat → Nat) : Nat → Nat := fun j => if j < p then f j else f (j + 1)
def dr_f (z : Int32) (N : Nat) : Nat → Nat → Nat
  | 0 => fun j => j
  | i + 1 => dr_er (dr_p z N i) (dr_f z N i)
def dr_c (z : Int32) (N i : Nat) : Nat := dr_f z N i (dr_p z N i)
def dr_ok (n N : Nat) (f : Nat → Nat) : Prop := (∀ a b, a < b → b < n → f a < f b) ∧ ∀ a, a < n → f a < N
theorem dr_ok_er {n N p : Nat} {f : Nat → Nat} (h : dr_ok (n + 1) N f) : dr_ok n N (dr_er p f) := by
  refine ⟨fun a b h1 h2 => ?_, fun a h1 => ?_⟩
  · unfold dr_er
    split
    · split
      · exact h.1 a b h1 (by omega)
      · exact h.1 a (b + 1) (by omega) (by omega)
    · split
      · omega
      · exact h.1 (a + 1) (b + 1) (by omega) (by omega)
  · unfold dr_er
    split
    · exact h.2 a (by omega)
    · exact h.2 (a + 1) (by omega)
theorem dr_f_ok (z : Int32) (N : Nat) : ∀ i, i ≤ N → dr_ok (N - i) N (dr_f z N i)
  | 0, _ => ⟨fun a b h1 _ => h1, fun a h1 => by have h2 : a < N - 0 := h1; show a < N; omega⟩
  | i + 1, hi => by
    have := dr_f_ok z N i (by omega)
    rw [show N - i = N - (i + 1) + 1 by omega] at this
    exact dr_ok_er this
theorem dr_p_lt (z : Int32) {N i : Nat} (h : i < N) : dr_p z N i < N - i := Nat.mod_lt _ (by omega)
/-- which are not yet drawn -/
def dr_D (n N : Nat) (f : Nat → Nat) (D : Nat → Prop) : Prop := ∀ k, k < N → (D k ↔ ∃ a, a < n ∧ f a = k)
theorem dr_D_er {n N p : Nat} {f : Nat → Nat} {D : Nat → Prop} (hf : dr_ok (n + 1) N f) (hp : p < n + 1) (h : dr_D (n + 1) N f D) : dr_D n N (dr_er p f) (fun k => D k ∧ k ≠ f p) := by
  intro k hk
  show (D k ∧ k ≠ f p) ↔ _
  rw [h k hk]
  constructor
  · rintro ⟨⟨a, ha, e⟩, hne⟩
    by_cases q : a < p
    · exact ⟨a, by omega, by unfold dr_er; rw [if_pos q]; exact e⟩
    · have q2 : p < a := by
        rcases Nat.lt_or_ge p a with q3 | q3
        · exact q3
        · have : a = p := by omega
          rw [this] at e
          exact absurd e.symm hne
      exact ⟨a - 1, by omega, by unfold dr_er; rw [if_neg (by omega), show a - 1 + 1 = a by omega]; exact e⟩
  · rintro ⟨a, ha, e⟩
    unfold dr_er at e
    by_cases q : a < p
    · rw [if_pos q] at e
      exact ⟨⟨a, by omega, e⟩, by rw [← e]; exact Nat.ne_of_lt (hf.1 a p q hp)⟩
    · rw [if_neg q] at e
      exact ⟨⟨a + 1, by omega, e⟩, by rw [← e]; exact Nat.ne_of_gt (hf.1 p (a + 1) (by omega) (by omega))⟩
def cW : Nat → Nat → Int64
  | 0, 0 => 1
  | 0, _ + 1 => 0
  | _ + 1, 0 => 1
  | n + 1, k + 1 => cW n k + cW n (k + 1)
theorem cW_gt : ∀ (n k : Nat), n < k → cW n k = 0
  | 0, 0, h => absurd h (by omega)
  | 0, k + 1, _ => rfl
  | n + 1, 0, h => absurd h (by omega)
  | n + 1, k + 1, h => by
    show cW n k + cW n (k + 1) = 0
    rw [cW_gt n k (by omega), cW_gt n (k + 1) (by omega)]
    rfl
theorem cW_0 : ∀ n, cW n 0 = 1
  | 0 => rfl
  | _ + 1 => rfl
theorem cW_n : ∀ n, cW n n = 1
  | 0 => rfl
  | n + 1 => by
    show cW n n + cW n (n + 1) = 1
    rw [cW_n n, cW_gt n (n + 1) (by omega)]
    rfl
/-- ways with few bad ones; the most bad -/
def bd_s (N n B : Nat) : Nat → Int64
  | 0 => 0
  | k + 1 => bd_s N n B k + cW B k * cW (N - B) (n - k)
def bd_f (N n b : Nat) (p : Int32) : Nat → Int32
  | 0 => nI b
  | m + 1 => if lg_cmp (10000 * bd_s N n (b + m + 1) (b + 1)) (p.toInt64 * cW N n) < 0 then bd_f N n b p m else nI (b + m + 1)
set_option maxRecDepth 20000 in
set_option maxHeartbeats 4000000 in
theorem sg_X5_lotAt_0 {Γ : pv_C} {d kc ks : Nat} {ty : pv_T} {h : pv_H} {r : pv_R} {g : pv_G} {Q : pv_Q} (x : Int32) (hL : pv_Lay ty r) (F : ((x < 0 → Q (some (.int (-1))) ty h r g) ∧ (¬ x < 0 → (((h 90 3) ≤ x → Q (some (.int (-1))) ty h r g) ∧ (¬ (h 90 3) ≤ x → vp_in x 40 ∧ Q (some (.int (h 93 (Int32.toNatClampNeg x)))) ty h r g))))) : pv_E Γ d kc ks mX5_lotAt 0 [some (.ref 90), some (.int x)] [] ty h r g Q := by
  refine pv_iload_n dX5_lotAt_0 rfl ?_
  refine pv_if_lt (tgt := 21) dX5_lotAt_1 (by decide) (fun c1 => ?_) (fun c1 => ?_)
  · have F := F.1 c1
    refine pv_iconst (v := (-1)) (by decide) dX5_lotAt_21 ?_
    exact pv_ireturn dX5_lotAt_22 rfl rfl F
  · have F := F.2 c1
    refine pv_iload_n dX5_lotAt_4 rfl ?_
    refine pv_aload_n dX5_lotAt_5 rfl ?_
    refine pv_getI 5 3 dX5_lotAt_6 fl_X5_29 rfl (lt_90 hL) ?_
    refine pv_icmp_ge (tgt := 21) dX5_lotAt_9 (by decide) (fun c2 => ?_) (fun c2 => ?_)
    · have F := F.1 c2
      refine pv_iconst (v := (-1)) (by decide) dX5_lotAt_21 ?_
      exact pv_ireturn dX5_lotAt_22 rfl rfl F
    · have F := F.2 c2
      refine pv_aload_n dX5_lotAt_12 rfl ?_
      refine pv_getRk 5 2 dX5_lotAt_13 fl_X5_15 rfl (lt_90 hL) (lr_90_2 hL) ?_
      refine pv_iload_n dX5_lotAt_16 rfl ?_
      obtain ⟨q1, F⟩ := F
      refine pv_iald dX5_lotAt_17 (lt_93 hL) q1 ?_
      refine pv_goto (tgt := 22) dX5_lotAt_18 (by decide) ?_
      exact pv_ireturn dX5_lotAt_22 rfl rfl F
set_option maxRecDepth 20000 in
set_option maxHeartbeats 4000000 in
theorem sg_X5_drawLots_0 {Γ : pv_C} {d kc ks : Nat} {ty : pv_T} {h : pv_H} {r : pv_R} {g : pv_G} {Q : pv_Q} (x : Int32) (y : Int32) (z : Int32) (F : pv_E Γ d kc ks mX5_drawLots 3 [some (.ref 90), some (.int x), some (.int y), some (.int z), some (.int 0), none, none] [] ty h r g Q) : pv_E Γ d kc ks mX5_drawLots 0 [some (.ref 90), some (.int x), some (.int y), some (.int z), none, none, none] [] ty h r g Q := by
  refine pv_iconst (v := 0) (by decide) dX5_drawLots_0 ?_
  refine pv_istore (ls' := [some (.ref 90), some (.int x), some (.int y), some (.int z), some (.int 0), none, none]) dX5_drawLots_1 (by decide) rfl rfl ?_
  exact F
set_option maxRecDepth 20000 in
set_option maxHeartbeats 4000000 in
theorem sg_X5_drawLots_3 {Γ : pv_C} {d kc ks : Nat} {ty : pv_T} {h : pv_H} {r : pv_R} {g : pv_G} {Q : pv_Q} (x1 : Int32) (x2 : Int32) (x3 : Int32) (x4 : Int32) (hL : pv_Lay ty r) (F : ((x1 ≤ x4 → pv_E Γ d kc ks mX5_drawLots 30 [some (.ref 90), some (.int x1), some (.int x2), none, some (.int x3), some (.int 0), none] [] ty h r g Q) ∧ (¬ x1 ≤ x4 → vp_in x4 40 ∧ (∀ h1 : pv_H, h1 = pv_up h 92 (Int32.toNatClampNeg x4) x4 → pv_E Γ d kc ks mX5_drawLots 3 [some (.ref 90), some (.int x1), some (.int x2), some (.int x3), some (.int (x4 + 1)), none, none] [] ty h1 r g Q)))) : pv_E Γ d kc ks mX5_drawLots 3 [some (.ref 90), some (.int x1), some (.int x2), some (.int x3), some (.int x4), none, none] [] ty h r g Q := by
  refine pv_iload dX5_drawLots_3 rfl ?_
  refine pv_iload_n dX5_drawLots_5 rfl ?_
  refine pv_icmp_ge (tgt := 24) dX5_drawLots_6 (by decide) (fun c1 => ?_) (fun c1 => ?_)
  · have F := F.1 c1
    refine pv_iload_n dX5_drawLots_24 rfl ?_
    refine pv_istore (ls' := [some (.ref 90), some (.int x1), some (.int x2), some (.int x3), some (.int x3), none, none]) dX5_drawLots_25 (by decide) rfl rfl ?_
    refine pv_iconst (v := 0) (by decide) dX5_drawLots_27 ?_
    refine pv_istore (ls' := [some (.ref 90), some (.int x1), some (.int x2), some (.int x3), some (.int x3), some (.int 0), none]) dX5_drawLots_28 (by decide) rfl rfl ?_
    refine pv_forgetL (ls' := [some (.ref 90), some (.int x1), some (.int x2), none, some (.int x3), some (.int 0), none]) (pv_subL_ok ⟨rfl, ⟨rfl, ⟨rfl, ⟨rfl, ⟨rfl, trivial⟩⟩⟩⟩⟩) ?_
    exact F
  · have F := F.2 c1
    refine pv_aload_n dX5_drawLots_9 rfl ?_
    refine pv_getRk 5 1 dX5_drawLots_10 fl_X5_9 rfl (lt_90 hL) (lr_90_1 hL) ?_
    refine pv_iload dX5_drawLots_13 rfl ?_
    refine pv_iload dX5_drawLots_15 rfl ?_
    obtain ⟨q1, F⟩ := F
    obtain ⟨h1, eh1⟩ : ∃ h1 : pv_H, h1 = pv_up h 92 (Int32.toNatClampNeg x4) x4 := ⟨_, rfl⟩
    have F := F h1 eh1
    refine pv_iast dX5_drawLots_17 (lt_92 hL) (by decide) q1 ?_
    refine pv_hE eh1 ?_
    refine pv_iinc (v := x4 + 1) (ls' := [some (.ref 90), some (.int x1), some (.int x2), some (.int x3), some (.int (x4 + 1)), none, none]) dX5_drawLots_18 rfl (by rfl) rfl rfl ?_
    refine pv_goto (tgt := 3) dX5_drawLots_21 (by decide) ?_
    exact F
set_option maxRecDepth 20000 in
set_option maxHeartbeats 4000000 in
theorem sg_X5_drawLots_30 {Γ : pv_C} {d kc ks : Nat} {ty : pv_T} {h : pv_H} {r : pv_R} {g : pv_G} {Q : pv_Q} (x1 : Int32) (x2 : Int32) (x4 : Int32) (x5 : Int32) (hd : 1 ≤ d) (hL : pv_Lay ty r) (F : ((x2 ≤ x5 → (∀ h1 : pv_H, h1 = pv_up h 90 3 x2 → Q (some (.int x2)) ty h1 r g)) ∧ (¬ x2 ≤ x5 → ((x1 ≤ x5 → (∀ h2 : pv_H, h2 = pv_up h 90 3 x2 → Q (some (.int x2)) ty h2 r g)) ∧ (¬ x1 ≤ x5 → ¬ (x1 - x5) = 0 ∧ vp_in (((((x4 * 1103515245) + 12345).toUInt32 >>> (((8 : Int32)).toUInt32 &&& Int32.toUInt32 31)).toInt32) - ((((x4 * 1103515245) + 12345).toUInt32 >>> (((8 : Int32)).toUInt32 &&& Int32.toUInt32 31)).toInt32) / (x1 - x5) * (x1 - x5)) 40 ∧ vp_in x5 40 ∧ (∀ h3 : pv_H, h3 = pv_up h 93 (Int32.toNatClampNeg x5) (h 92 (Int32.toNatClampNeg (((((x4 * 1103515245) + 12345).toUInt32 >>> (((8 : Int32)).toUInt32 &&& Int32.toUInt32 31)).toInt32) - ((((x4 * 1103515245) + 12345).toUInt32 >>> (((8 : Int32)).toUInt32 &&& Int32.toUInt32 31)).toInt32) / (x1 - x5) * (x1 - x5)))) → pv_acpOK ty 92 ((((((x4 * 1103515245) + 12345).toUInt32 >>> (((8 : Int32)).toUInt32 &&& Int32.toUInt32 31)).toInt32) - ((((x4 * 1103515245) + 12345).toUInt32 >>> (((8 : Int32)).toUInt32 &&& Int32.toUInt32 31)).toInt32) / (x1 - x5) * (x1 - x5)) + 1) 92 (((((x4 * 1103515245) + 12345).toUInt32 >>> (((8 : Int32)).toUInt32 &&& Int32.toUInt32 31)).toInt32) - ((((x4 * 1103515245) + 12345).toUInt32 >>> (((8 : Int32)).toUInt32 &&& Int32.toUInt32 31)).toInt32) / (x1 - x5) * (x1 - x5)) (((x1 - x5) - 1) - (((((x4 * 1103515245) + 12345).toUInt32 >>> (((8 : Int32)).toUInt32 &&& Int32.toUInt32 31)).toInt32) - ((((x4 * 1103515245) + 12345).toUInt32 >>> (((8 : Int32)).toUInt32 &&& Int32.toUInt32 31)).toInt32) / (x1 - x5) * (x1 - x5))) ∧ (∀ h4 : pv_H, h4 = pv_cpy h3 92 (Int32.toNatClampNeg ((((((x4 * 1103515245) + 12345).toUInt32 >>> (((8 : Int32)).toUInt32 &&& Int32.toUInt32 31)).toInt32) - ((((x4 * 1103515245) + 12345).toUInt32 >>> (((8 : Int32)).toUInt32 &&& Int32.toUInt32 31)).toInt32) / (x1 - x5) * (x1 - x5)) + 1)) 92 (Int32.toNatClampNeg (((((x4 * 1103515245) + 12345).toUInt32 >>> (((8 : Int32)).toUInt32 &&& Int32.toUInt32 31)).toInt32) - ((((x4 * 1103515245) + 12345).toUInt32 >>> (((8 : Int32)).toUInt32 &&& Int32.toUInt32 31)).toInt32) / (x1 - x5) * (x1 - x5))) (Int32.toNatClampNeg (((x1 - x5) - 1) - (((((x4 * 1103515245) + 12345).toUInt32 >>> (((8 : Int32)).toUInt32 &&& Int32.toUInt32 31)).toInt32) - ((((x4 * 1103515245) + 12345).toUInt32 >>> (((8 : Int32)).toUInt32 &&& Int32.toUInt32 31)).toInt32) / (x1 - x5) * (x1 - x5)))) → pv_E Γ d kc ks mX5_drawLots 30 [some (.ref 90), some (.int x1), some (.int x2), none, some (.int ((x4 * 1103515245) + 12345)), some (.int (x5 + 1)), none] [] ty h4 r g Q))))))) : pv_E Γ d kc ks mX5_drawLots 30 [some (.ref 90), some (.int x1), some (.int x2), none, some (.int x4), some (.int x5), none] [] ty h r g Q := by
  refine pv_iload dX5_drawLots_30 rfl ?_
  refine pv_iload_n dX5_drawLots_32 rfl ?_
  refine pv_icmp_ge (tgt := 111) dX5_drawLots_33 (by decide) (fun c1 => ?_) (fun c1 => ?_)
  · have F := F.1 c1
    refine pv_aload_n dX5_drawLots_111 rfl ?_
    refine pv_iload_n dX5_drawLots_112 rfl ?_
    obtain ⟨h1, eh1⟩ : ∃ h1 : pv_H, h1 = pv_up h 90 3 x2 := ⟨_, rfl⟩
    have F := F h1 eh1
    refine pv_putI 5 3 dX5_drawLots_113 fl_X5_29 ⟨_, rfl, Or.inl rfl⟩ (Or.inl rfl) (lt_90 hL) ?_
    refine pv_hE eh1 ?_
    refine pv_iload_n dX5_drawLots_116 rfl ?_
    exact pv_ireturn dX5_drawLots_117 rfl rfl F
  · have F := F.2 c1
    refine pv_iload dX5_drawLots_36 rfl ?_
    refine pv_iload_n dX5_drawLots_38 rfl ?_
    refine pv_icmp_ge (tgt := 111) dX5_drawLots_39 (by decide) (fun c2 => ?_) (fun c2 => ?_)
    · have F := F.1 c2
      refine pv_aload_n dX5_drawLots_111 rfl ?_
      refine pv_iload_n dX5_drawLots_112 rfl ?_
      obtain ⟨h2, eh2⟩ : ∃ h2 : pv_H, h2 = pv_up h 90 3 x2 := ⟨_, rfl⟩
      have F := F h2 eh2
      refine pv_putI 5 3 dX5_drawLots_113 fl_X5_29 ⟨_, rfl, Or.inl rfl⟩ (Or.inl rfl) (lt_90 hL) ?_
      refine pv_hE eh2 ?_
      refine pv_iload_n dX5_drawLots_116 rfl ?_
      exact pv_ireturn dX5_drawLots_117 rfl rfl F
    · have F := F.2 c2
      refine pv_iload dX5_drawLots_42 rfl ?_
      refine pv_ldc (v := 1103515245) dX5_drawLots_44 kc_X5_22 ?_
      refine pv_imul dX5_drawLots_46 ?_
      refine pv_sipush (v := 12345) (by decide) dX5_drawLots_47 ?_
      refine pv_iadd dX5_drawLots_50 ?_
      refine pv_istore (ls' := [some (.ref 90), some (.int x1), some (.int x2), none, some (.int ((x4 * 1103515245) + 12345)), some (.int x5), none]) dX5_drawLots_51 (by decide) rfl rfl ?_
      refine pv_pc (pc' := 53) rfl ?_
      refine pv_iload dX5_drawLots_53 rfl ?_
      refine pv_bipush (v := 8) (by decide) dX5_drawLots_55 ?_
      refine pv_iushr dX5_drawLots_57 ?_
      refine pv_iload_n dX5_drawLots_58 rfl ?_
      refine pv_iload dX5_drawLots_59 rfl ?_
      refine pv_isub dX5_drawLots_61 ?_
      refine pv_pc (pc' := 62) rfl ?_
      obtain ⟨q1, F⟩ := F
      refine pv_irem q1 dX5_drawLots_62 ?_
      refine pv_istore (ls' := [some (.ref 90), some (.int x1), some (.int x2), none, some (.int ((x4 * 1103515245) + 12345)), some (.int x5), some (.int (((((x4 * 1103515245) + 12345).toUInt32 >>> (((8 : Int32)).toUInt32 &&& Int32.toUInt32 31)).toInt32) - ((((x4 * 1103515245) + 12345).toUInt32 >>> (((8 : Int32)).toUInt32 &&& Int32.toUInt32 31)).toInt32) / (x1 - x5) * (x1 - x5)))]) dX5_drawLots_63 (by decide) rfl rfl ?_
      refine pv_aload_n dX5_drawLots_65 rfl ?_
      refine pv_getRk 5 2 dX5_drawLots_66 fl_X5_15 rfl (lt_90 hL) (lr_90_2 hL) ?_
      refine pv_iload dX5_drawLots_69 rfl ?_
      refine pv_aload_n dX5_drawLots_71 rfl ?_
      refine pv_getRk 5 1 dX5_drawLots_72 fl_X5_9 rfl (lt_90 hL) (lr_90_1 hL) ?_
      refine pv_pc (pc' := 75) rfl ?_
      refine pv_iload dX5_drawLots_75 rfl ?_
      obtain ⟨q2, F⟩ := F
      refine pv_iald dX5_drawLots_77 (lt_92 hL) q2 ?_
      obtain ⟨q3, F⟩ := F
      obtain ⟨h3, eh3⟩ : ∃ h3 : pv_H, h3 = pv_up h 93 (Int32.toNatClampNeg x5) (h 92 (Int32.toNatClampNeg (((((x4 * 1103515245) + 12345).toUInt32 >>> (((8 : Int32)).toUInt32 &&& Int32.toUInt32 31)).toInt32) - ((((x4 * 1103515245) + 12345).toUInt32 >>> (((8 : Int32)).toUInt32 &&& Int32.toUInt32 31)).toInt32) / (x1 - x5) * (x1 - x5)))) := ⟨_, rfl⟩
      have F := F h3 eh3
      refine pv_iast dX5_drawLots_78 (lt_93 hL) (by decide) q3 ?_
      refine pv_hE eh3 ?_
      refine pv_aload_n dX5_drawLots_79 rfl ?_
      refine pv_getRk 5 1 dX5_drawLots_80 fl_X5_9 rfl (lt_90 hL) (lr_90_1 hL) ?_
      refine pv_iload dX5_drawLots_83 rfl ?_
      refine pv_iconst (v := 1) (by decide) dX5_drawLots_85 ?_
      refine pv_iadd dX5_drawLots_86 ?_
      refine pv_aload_n dX5_drawLots_87 rfl ?_
      refine pv_pc (pc' := 88) rfl ?_
      refine pv_getRk 5 1 dX5_drawLots_88 fl_X5_9 rfl (lt_90 hL) (lr_90_1 hL) ?_
      refine pv_iload dX5_drawLots_91 rfl ?_
      refine pv_iload_n dX5_drawLots_93 rfl ?_
      refine pv_iload dX5_drawLots_94 rfl ?_
      refine pv_isub dX5_drawLots_96 ?_
      refine pv_iconst (v := 1) (by decide) dX5_drawLots_97 ?_
      refine pv_pc (pc' := 98) rfl ?_
      refine pv_isub dX5_drawLots_98 ?_
      refine pv_iload dX5_drawLots_99 rfl ?_
      refine pv_isub dX5_drawLots_101 ?_
      obtain ⟨q4, F⟩ := F
      obtain ⟨h4, eh4⟩ : ∃ h4 : pv_H, h4 = pv_cpy h3 92 (Int32.toNatClampNeg ((((((x4 * 1103515245) + 12345).toUInt32 >>> (((8 : Int32)).toUInt32 &&& Int32.toUInt32 31)).toInt32) - ((((x4 * 1103515245) + 12345).toUInt32 >>> (((8 : Int32)).toUInt32 &&& Int32.toUInt32 31)).toInt32) / (x1 - x5) * (x1 - x5)) + 1)) 92 (Int32.toNatClampNeg (((((x4 * 1103515245) + 12345).toUInt32 >>> (((8 : Int32)).toUInt32 &&& Int32.toUInt32 31)).toInt32) - ((((x4 * 1103515245) + 12345).toUInt32 >>> (((8 : Int32)).toUInt32 &&& Int32.toUInt32 31)).toInt32) / (x1 - x5) * (x1 - x5))) (Int32.toNatClampNeg (((x1 - x5) - 1) - (((((x4 * 1103515245) + 12345).toUInt32 >>> (((8 : Int32)).toUInt32 &&& Int32.toUInt32 31)).toInt32) - ((((x4 * 1103515245) + 12345).toUInt32 >>> (((8 : Int32)).toUInt32 &&& Int32.toUInt32 31)).toInt32) / (x1 - x5) * (x1 - x5)))) := ⟨_, rfl⟩
      have F := F h4 eh4
      refine pv_acopy dX5_drawLots_102 ml_X5_23 acp_n acp_s acp_i q4 (by omega) (Nat.le_of_ble_eq_true rfl) ?_
      refine pv_hE eh4 ?_
      refine pv_iinc (v := x5 + 1) (ls' := [some (.ref 90), some (.int x1), some (.int x2), none, some (.int ((x4 * 1103515245) + 12345)), some (.int (x5 + 1)), some (.int (((((x4 * 1103515245) + 12345).toUInt32 >>> (((8 : Int32)).toUInt32 &&& Int32.toUInt32 31)).toInt32) - ((((x4 * 1103515245) + 12345).toUInt32 >>> (((8 : Int32)).toUInt32 &&& Int32.toUInt32 31)).toInt32) / (x1 - x5) * (x1 - x5)))]) dX5_drawLots_105 rfl (by rfl) rfl rfl ?_
      refine pv_goto (tgt := 30) dX5_drawLots_108 (by decide) ?_
      refine pv_forgetL (ls' := [some (.ref 90), some (.int x1), some (.int x2), none, some (.int ((x4 * 1103515245) + 12345)), some (.int (x5 + 1)), none]) (pv_subL_ok ⟨rfl, ⟨rfl, ⟨rfl, ⟨rfl, ⟨rfl, trivial⟩⟩⟩⟩⟩) ?_
      exact F
set_option maxRecDepth 20000 in
set_option maxHeartbeats 4000000 in
theorem sg_X12_draw_0 {Γ : pv_C} {d kc ks : Nat} {ty : pv_T} {h : pv_H} {r : pv_R} {g : pv_G} {Q : pv_Q} (x : Int32) (y : Int32) (z : Int32) (hd : 1 ≤ d) (F : (((pf_b (1 ≤ x ∧ x ≤ 40)) = 0 → Q (some (.int (-1))) ty h r g) ∧ (¬ (pf_b (1 ≤ x ∧ x ≤ 40)) = 0 → ((¬ (pf_b (1 ≤ y ∧ y ≤ x)) = 0 → pv_E Γ d kc ks mX12_draw 24 [some (.ref 200), some (.int x), some (.int y), some (.int z), some (.int 0), none, none, none] [] ty h r g Q) ∧ ((pf_b (1 ≤ y ∧ y ≤ x)) = 0 → Q (some (.int (-1))) ty h r g))))) : pv_E Γ d kc ks mX12_draw 0 [some (.ref 200), some (.int x), some (.int y), some (.int z), none, none, none, none] [] ty h r g Q := by
  refine pv_iload_n dX12_draw_0 rfl ?_
  refine pv_iconst (v := 1) (by decide) dX12_draw_1 ?_
  refine pv_bipush (v := 40) (by decide) dX12_draw_2 ?_
  refine pv_invS (As := [.int x, .int 1, .int 40]) (d' := d - 1) dX12_draw_4 moX12_in ml_X12_164 (Nat.le_of_ble_eq_true rfl) (by omega) (Nat.zero_le _) (Nat.zero_le _) (ct_X12_in (by omega)) (fun v ty' h' r' g' hq => ?_) rfl
  obtain ⟨e1, e2, e3, e4, e5⟩ := hq
  rw [e1, e2, e3, e4, e5]
  refine pv_pc (pc' := 7) rfl ?_
  show pv_E Γ d kc ks mX12_draw 7 [some (.ref 200), some (.int x), some (.int y), some (.int z), none, none, none, none] [.int (pf_b (1 ≤ x ∧ x ≤ 40))] ty h r g Q
  refine pv_if_eq (tgt := 19) dX12_draw_7 (by decide) (fun c1 => ?_) (fun c1 => ?_)
  · have F := F.1 c1
    refine pv_iconst (v := (-1)) (by decide) dX12_draw_19 ?_
    exact pv_ireturn dX12_draw_20 rfl rfl F
  · have F := F.2 c1
    refine pv_iload_n dX12_draw_10 rfl ?_
    refine pv_iconst (v := 1) (by decide) dX12_draw_11 ?_
    refine pv_iload_n dX12_draw_12 rfl ?_
    refine pv_invS (As := [.int y, .int 1, .int x]) (d' := d - 1) dX12_draw_13 moX12_in ml_X12_164 (Nat.le_of_ble_eq_true rfl) (by omega) (Nat.zero_le _) (Nat.zero_le _) (ct_X12_in (by omega)) (fun v ty' h' r' g' hq => ?_) rfl
    obtain ⟨e1, e2, e3, e4, e5⟩ := hq
    rw [e1, e2, e3, e4, e5]
    refine pv_pc (pc' := 16) rfl ?_
    show pv_E Γ d kc ks mX12_draw 16 [some (.ref 200), some (.int x), some (.int y), some (.int z), none, none, none, none] [.int (pf_b (1 ≤ y ∧ y ≤ x))] ty h r g Q
    refine pv_if_ne (tgt := 21) dX12_draw_16 (by decide) (fun c2 => ?_) (fun c2 => ?_)
    · have F := F.1 c2
      refine pv_iconst (v := 0) (by decide) dX12_draw_21 ?_
      refine pv_istore (ls' := [some (.ref 200), some (.int x), some (.int y), some (.int z), some (.int 0), none, none, none]) dX12_draw_22 (by decide) rfl rfl ?_
      exact F
    · have F := F.2 c2
      refine pv_iconst (v := (-1)) (by decide) dX12_draw_19 ?_
      exact pv_ireturn dX12_draw_20 rfl rfl F
set_option maxRecDepth 20000 in
set_option maxHeartbeats 4000000 in
theorem sg_X12_draw_24 {Γ : pv_C} {d kc ks : Nat} {ty : pv_T} {h : pv_H} {r : pv_R} {g : pv_G} {Q : pv_Q} (x1 : Int32) (x2 : Int32) (x3 : Int32) (x4 : Int32) (hL : pv_Lay ty r) (F : ((x1 ≤ x4 → pv_E Γ d kc ks mX12_draw 50 [some (.ref 200), some (.int x1), some (.int x2), none, some (.int x3), some (.int 0), none, none] [] ty h r g Q) ∧ (¬ x1 ≤ x4 → vp_in x4 40 ∧ (∀ h1 : pv_H, h1 = pv_up h 364 (Int32.toNatClampNeg x4) (0 &&& 1) → pv_E Γ d kc ks mX12_draw 24 [some (.ref 200), some (.int x1), some (.int x2), some (.int x3), some (.int (x4 + 1)), none, none, none] [] ty h1 r g Q)))) : pv_E Γ d kc ks mX12_draw 24 [some (.ref 200), some (.int x1), some (.int x2), some (.int x3), some (.int x4), none, none, none] [] ty h r g Q := by
  refine pv_iload dX12_draw_24 rfl ?_
  refine pv_iload_n dX12_draw_26 rfl ?_
  refine pv_icmp_ge (tgt := 44) dX12_draw_27 (by decide) (fun c1 => ?_) (fun c1 => ?_)
  · have F := F.1 c1
    refine pv_iload_n dX12_draw_44 rfl ?_
    refine pv_istore (ls' := [some (.ref 200), some (.int x1), some (.int x2), some (.int x3), some (.int x3), none, none, none]) dX12_draw_45 (by decide) rfl rfl ?_
    refine pv_iconst (v := 0) (by decide) dX12_draw_47 ?_
    refine pv_istore (ls' := [some (.ref 200), some (.int x1), some (.int x2), some (.int x3), some (.int x3), some (.int 0), none, none]) dX12_draw_48 (by decide) rfl rfl ?_
    refine pv_forgetL (ls' := [some (.ref 200), some (.int x1), some (.int x2), none, some (.int x3), some (.int 0), none, none]) (pv_subL_ok ⟨rfl, ⟨rfl, ⟨rfl, ⟨rfl, ⟨rfl, trivial⟩⟩⟩⟩⟩) ?_
    exact F
  · have F := F.2 c1
    refine pv_aload_n dX12_draw_30 rfl ?_
    refine pv_getRk 12 64 dX12_draw_31 fl_X12_151 rfl (lt_200 hL) (lr_200_64 hL) ?_
    refine pv_iload dX12_draw_34 rfl ?_
    refine pv_iconst (v := 0) (by decide) dX12_draw_36 ?_
    obtain ⟨q1, F⟩ := F
    obtain ⟨h1, eh1⟩ : ∃ h1 : pv_H, h1 = pv_up h 364 (Int32.toNatClampNeg x4) (0 &&& 1) := ⟨_, rfl⟩
    have F := F h1 eh1
    refine pv_zast dX12_draw_37 (lt_364 hL) (by decide) q1 ?_
    refine pv_hE eh1 ?_
    refine pv_iinc (v := x4 + 1) (ls' := [some (.ref 200), some (.int x1), some (.int x2), some (.int x3), some (.int (x4 + 1)), none, none, none]) dX12_draw_38 rfl (by rfl) rfl rfl ?_
    refine pv_goto (tgt := 24) dX12_draw_41 (by decide) ?_
    exact F
set_option maxRecDepth 20000 in
set_option maxHeartbeats 4000000 in
theorem sg_X12_draw_50 {Γ : pv_C} {d kc ks : Nat} {ty : pv_T} {h : pv_H} {r : pv_R} {g : pv_G} {Q : pv_Q} (x1 : Int32) (x2 : Int32) (x4 : Int32) (x5 : Int32) (hL : pv_Lay ty r) (F : ((x2 ≤ x5 → (∀ h1 : pv_H, h1 = pv_up h 200 62 x2 → Q (some (.int x2)) ty h1 r g)) ∧ (¬ x2 ≤ x5 → ¬ (x1 - x5) = 0 ∧ pv_E Γ d kc ks mX12_draw 83 [some (.ref 200), some (.int x1), some (.int x2), none, some (.int ((x4 * 1103515245) + 12345)), some (.int x5), some (.int (((((x4 * 1103515245) + 12345).toUInt32 >>> (((8 : Int32)).toUInt32 &&& Int32.toUInt32 31)).toInt32) - ((((x4 * 1103515245) + 12345).toUInt32 >>> (((8 : Int32)).toUInt32 &&& Int32.toUInt32 31)).toInt32) / (x1 - x5) * (x1 - x5))), some (.int 0)] [] ty h r g Q))) : pv_E Γ d kc ks mX12_draw 50 [some (.ref 200), some (.int x1), some (.int x2), none, some (.int x4), some (.int x5), none, none] [] ty h r g Q := by
  refine pv_iload dX12_draw_50 rfl ?_
  refine pv_iload_n dX12_draw_52 rfl ?_
  refine pv_icmp_ge (tgt := 147) dX12_draw_53 (by decide) (fun c1 => ?_) (fun c1 => ?_)
  · have F := F.1 c1
    refine pv_aload_n dX12_draw_147 rfl ?_
    refine pv_iload_n dX12_draw_148 rfl ?_
    obtain ⟨h1, eh1⟩ : ∃ h1 : pv_H, h1 = pv_up h 200 62 x2 := ⟨_, rfl⟩
    have F := F h1 eh1
    refine pv_putI 12 62 dX12_draw_149 fl_X12_324 ⟨_, rfl, Or.inl rfl⟩ (Or.inl rfl) (lt_200 hL) ?_
    refine pv_hE eh1 ?_
    refine pv_iload_n dX12_draw_152 rfl ?_
    exact pv_ireturn dX12_draw_153 rfl rfl F
  · have F := F.2 c1
    refine pv_iload dX12_draw_56 rfl ?_
    refine pv_ldcw (v := 1103515245) dX12_draw_58 kc_X12_323 ?_
    refine pv_imul dX12_draw_61 ?_
    refine pv_sipush (v := 12345) (by decide) dX12_draw_62 ?_
    refine pv_iadd dX12_draw_65 ?_
    refine pv_istore (ls' := [some (.ref 200), some (.int x1), some (.int x2), none, some (.int ((x4 * 1103515245) + 12345)), some (.int x5), none, none]) dX12_draw_66 (by decide) rfl rfl ?_
    refine pv_pc (pc' := 68) rfl ?_
    refine pv_iload dX12_draw_68 rfl ?_
    refine pv_bipush (v := 8) (by decide) dX12_draw_70 ?_
    refine pv_iushr dX12_draw_72 ?_
    refine pv_iload_n dX12_draw_73 rfl ?_
    refine pv_iload dX12_draw_74 rfl ?_
    refine pv_isub dX12_draw_76 ?_
    refine pv_pc (pc' := 77) rfl ?_
    obtain ⟨q1, F⟩ := F
    refine pv_irem q1 dX12_draw_77 ?_
    refine pv_istore (ls' := [some (.ref 200), some (.int x1), some (.int x2), none, some (.int ((x4 * 1103515245) + 12345)), some (.int x5), some (.int (((((x4 * 1103515245) + 12345).toUInt32 >>> (((8 : Int32)).toUInt32 &&& Int32.toUInt32 31)).toInt32) - ((((x4 * 1103515245) + 12345).toUInt32 >>> (((8 : Int32)).toUInt32 &&& Int32.toUInt32 31)).toInt32) / (x1 - x5) * (x1 - x5))), none]) dX12_draw_78 (by decide) rfl rfl ?_
    refine pv_iconst (v := 0) (by decide) dX12_draw_80 ?_
    refine pv_istore (ls' := [some (.ref 200), some (.int x1), some (.int x2), none, some (.int ((x4 * 1103515245) + 12345)), some (.int x5), some (.int (((((x4 * 1103515245) + 12345).toUInt32 >>> (((8 : Int32)).toUInt32 &&& Int32.toUInt32 31)).toInt32) - ((((x4 * 1103515245) + 12345).toUInt32 >>> (((8 : Int32)).toUInt32 &&& Int32.toUInt32 31)).toInt32) / (x1 - x5) * (x1 - x5))), some (.int 0)]) dX12_draw_81 (by decide) rfl rfl ?_
    exact F
set_option maxRecDepth 20000 in
set_option maxHeartbeats 4000000 in
theorem sg_X12_draw_83 {Γ : pv_C} {d kc ks : Nat} {ty : pv_T} {h : pv_H} {r : pv_R} {g : pv_G} {Q : pv_Q} (x1 : Int32) (x2 : Int32) (x4 : Int32) (x5 : Int32) (x6 : Int32) (x7 : Int32) (hL : pv_Lay ty r) (F : vp_in x7 40 ∧ ((¬ (h 364 (Int32.toNatClampNeg x7)) = 0 → vp_in x7 40 ∧ (((h 364 (Int32.toNatClampNeg x7)) = 0 → pv_E Γ d kc ks mX12_draw 83 [some (.ref 200), some (.int x1), some (.int x2), none, some (.int x4), some (.int x5), some (.int (x6 - 1)), some (.int (x7 + 1))] [] ty h r g Q) ∧ (¬ (h 364 (Int32.toNatClampNeg x7)) = 0 → pv_E Γ d kc ks mX12_draw 83 [some (.ref 200), some (.int x1), some (.int x2), none, some (.int x4), some (.int x5), some (.int (x6 - 0)), some (.int (x7 + 1))] [] ty h r g Q))) ∧ ((h 364 (Int32.toNatClampNeg x7)) = 0 → ((x6 ≤ 0 → vp_in x7 40 ∧ (∀ h1 : pv_H, h1 = pv_up h 364 (Int32.toNatClampNeg x7) (1 &&& 1) → vp_in x5 40 ∧ (∀ h2 : pv_H, h2 = pv_up h1 363 (Int32.toNatClampNeg x5) x7 → pv_E Γ d kc ks mX12_draw 50 [some (.ref 200), some (.int x1), some (.int x2), none, some (.int x4), some (.int (x5 + 1)), none, none] [] ty h2 r g Q))) ∧ (¬ x6 ≤ 0 → vp_in x7 40 ∧ (((h 364 (Int32.toNatClampNeg x7)) = 0 → pv_E Γ d kc ks mX12_draw 83 [some (.ref 200), some (.int x1), some (.int x2), none, some (.int x4), some (.int x5), some (.int (x6 - 1)), some (.int (x7 + 1))] [] ty h r g Q) ∧ (¬ (h 364 (Int32.toNatClampNeg x7)) = 0 → pv_E Γ d kc ks mX12_draw 83 [some (.ref 200), some (.int x1), some (.int x2), none, some (.int x4), some (.int x5), some (.int (x6 - 0)), some (.int (x7 + 1))] [] ty h r g Q))))))) : pv_E Γ d kc ks mX12_draw 83 [some (.ref 200), some (.int x1), some (.int x2), none, some (.int x4), some (.int x5), some (.int x6), some (.int x7)] [] ty h r g Q := by
  refine pv_aload_n dX12_draw_83 rfl ?_
  refine pv_getRk 12 64 dX12_draw_84 fl_X12_151 rfl (lt_200 hL) (lr_200_64 hL) ?_
  refine pv_iload dX12_draw_87 rfl ?_
  obtain ⟨q1, F⟩ := F
  refine pv_zald dX12_draw_89 (lt_364 hL) q1 ?_
  refine pv_if_ne (tgt := 98) dX12_draw_90 (by decide) (fun c1 => ?_) (fun c1 => ?_)
  · have F := F.1 c1
    refine pv_iload dX12_draw_98 rfl ?_
    refine pv_aload_n dX12_draw_100 rfl ?_
    refine pv_getRk 12 64 dX12_draw_101 fl_X12_151 rfl (lt_200 hL) (lr_200_64 hL) ?_
    refine pv_iload dX12_draw_104 rfl ?_
    obtain ⟨q2, F⟩ := F
    refine pv_zald dX12_draw_106 (lt_364 hL) q2 ?_
    refine pv_if_eq (tgt := 114) dX12_draw_107 (by decide) (fun c2 => ?_) (fun c2 => ?_)
    · have F := F.1 c2
      refine pv_iconst (v := 1) (by decide) dX12_draw_114 ?_
      refine pv_isub dX12_draw_115 ?_
      refine pv_istore (ls' := [some (.ref 200), some (.int x1), some (.int x2), none, some (.int x4), some (.int x5), some (.int (x6 - 1)), some (.int x7)]) dX12_draw_116 (by decide) rfl rfl ?_
      refine pv_iinc (v := x7 + 1) (ls' := [some (.ref 200), some (.int x1), some (.int x2), none, some (.int x4), some (.int x5), some (.int (x6 - 1)), some (.int (x7 + 1))]) dX12_draw_118 rfl (by rfl) rfl rfl ?_
      refine pv_goto (tgt := 83) dX12_draw_121 (by decide) ?_
      exact F
    · have F := F.2 c2
      refine pv_iconst (v := 0) (by decide) dX12_draw_110 ?_
      refine pv_goto (tgt := 115) dX12_draw_111 (by decide) ?_
      refine pv_isub dX12_draw_115 ?_
      refine pv_istore (ls' := [some (.ref 200), some (.int x1), some (.int x2), none, some (.int x4), some (.int x5), some (.int (x6 - 0)), some (.int x7)]) dX12_draw_116 (by decide) rfl rfl ?_
      refine pv_iinc (v := x7 + 1) (ls' := [some (.ref 200), some (.int x1), some (.int x2), none, some (.int x4), some (.int x5), some (.int (x6 - 0)), some (.int (x7 + 1))]) dX12_draw_118 rfl (by rfl) rfl rfl ?_
      refine pv_goto (tgt := 83) dX12_draw_121 (by decide) ?_
      exact F
  · have F := F.2 c1
    refine pv_iload dX12_draw_93 rfl ?_
    refine pv_if_le (tgt := 124) dX12_draw_95 (by decide) (fun c3 => ?_) (fun c3 => ?_)
    · have F := F.1 c3
      refine pv_aload_n dX12_draw_124 rfl ?_
      refine pv_getRk 12 64 dX12_draw_125 fl_X12_151 rfl (lt_200 hL) (lr_200_64 hL) ?_
      refine pv_iload dX12_draw_128 rfl ?_
      refine pv_iconst (v := 1) (by decide) dX12_draw_130 ?_
      obtain ⟨q3, F⟩ := F
      obtain ⟨h1, eh1⟩ : ∃ h1 : pv_H, h1 = pv_up h 364 (Int32.toNatClampNeg x7) (1 &&& 1) := ⟨_, rfl⟩
      have F := F h1 eh1
      refine pv_zast dX12_draw_131 (lt_364 hL) (by decide) q3 ?_
      refine pv_hE eh1 ?_
      refine pv_aload_n dX12_draw_132 rfl ?_
      refine pv_getRk 12 63 dX12_draw_133 fl_X12_148 rfl (lt_200 hL) (lr_200_63 hL) ?_
      refine pv_iload dX12_draw_136 rfl ?_
      refine pv_iload dX12_draw_138 rfl ?_
      obtain ⟨q4, F⟩ := F
      obtain ⟨h2, eh2⟩ : ∃ h2 : pv_H, h2 = pv_up h1 363 (Int32.toNatClampNeg x5) x7 := ⟨_, rfl⟩
      have F := F h2 eh2
      refine pv_iast dX12_draw_140 (lt_363 hL) (by decide) q4 ?_
      refine pv_hE eh2 ?_
      refine pv_iinc (v := x5 + 1) (ls' := [some (.ref 200), some (.int x1), some (.int x2), none, some (.int x4), some (.int (x5 + 1)), some (.int x6), some (.int x7)]) dX12_draw_141 rfl (by rfl) rfl rfl ?_
      refine pv_goto (tgt := 50) dX12_draw_144 (by decide) ?_
      refine pv_forgetL (ls' := [some (.ref 200), some (.int x1), some (.int x2), none, some (.int x4), some (.int (x5 + 1)), none, none]) (pv_subL_ok ⟨rfl, ⟨rfl, ⟨rfl, ⟨rfl, ⟨rfl, trivial⟩⟩⟩⟩⟩) ?_
      exact F
    · have F := F.2 c3
      refine pv_iload dX12_draw_98 rfl ?_
      refine pv_aload_n dX12_draw_100 rfl ?_
      refine pv_getRk 12 64 dX12_draw_101 fl_X12_151 rfl (lt_200 hL) (lr_200_64 hL) ?_
      refine pv_iload dX12_draw_104 rfl ?_
      obtain ⟨q5, F⟩ := F
      refine pv_zald dX12_draw_106 (lt_364 hL) q5 ?_
      refine pv_if_eq (tgt := 114) dX12_draw_107 (by decide) (fun c4 => ?_) (fun c4 => ?_)
      · have F := F.1 c4
        refine pv_iconst (v := 1) (by decide) dX12_draw_114 ?_
        refine pv_isub dX12_draw_115 ?_
        refine pv_istore (ls' := [some (.ref 200), some (.int x1), some (.int x2), none, some (.int x4), some (.int x5), some (.int (x6 - 1)), some (.int x7)]) dX12_draw_116 (by decide) rfl rfl ?_
        refine pv_iinc (v := x7 + 1) (ls' := [some (.ref 200), some (.int x1), some (.int x2), none, some (.int x4), some (.int x5), some (.int (x6 - 1)), some (.int (x7 + 1))]) dX12_draw_118 rfl (by rfl) rfl rfl ?_
        refine pv_goto (tgt := 83) dX12_draw_121 (by decide) ?_
        exact F
      · have F := F.2 c4
        refine pv_iconst (v := 0) (by decide) dX12_draw_110 ?_
        refine pv_goto (tgt := 115) dX12_draw_111 (by decide) ?_
        refine pv_isub dX12_draw_115 ?_
        refine pv_istore (ls' := [some (.ref 200), some (.int x1), some (.int x2), none, some (.int x4), some (.int x5), some (.int (x6 - 0)), some (.int x7)]) dX12_draw_116 (by decide) rfl rfl ?_
        refine pv_iinc (v := x7 + 1) (ls' := [some (.ref 200), some (.int x1), some (.int x2), none, some (.int x4), some (.int x5), some (.int (x6 - 0)), some (.int (x7 + 1))]) dX12_draw_118 rfl (by rfl) rfl rfl ?_
        refine pv_goto (tgt := 83) dX12_draw_121 (by decide) ?_
        exact F
set_option maxRecDepth 20000 in
set_option maxHeartbeats 4000000 in
theorem sg_X12_drawn_0 {Γ : pv_C} {d kc ks : Nat} {ty : pv_T} {h : pv_H} {r : pv_R} {g : pv_G} {Q : pv_Q} (x : Int32) (hd : 1 ≤ d) (hL : pv_Lay ty r) (F : (((pf_b (0 ≤ x ∧ x ≤ ((h 200 62) - 1))) = 0 → Q (some (.int (-1))) ty h r g) ∧ (¬ (pf_b (0 ≤ x ∧ x ≤ ((h 200 62) - 1))) = 0 → vp_in x 40 ∧ Q (some (.int (h 363 (Int32.toNatClampNeg x)))) ty h r g))) : pv_E Γ d kc ks mX12_drawn 0 [some (.ref 200), some (.int x)] [] ty h r g Q := by
  refine pv_iload_n dX12_drawn_0 rfl ?_
  refine pv_iconst (v := 0) (by decide) dX12_drawn_1 ?_
  refine pv_aload_n dX12_drawn_2 rfl ?_
  refine pv_getI 12 62 dX12_drawn_3 fl_X12_324 rfl (lt_200 hL) ?_
  refine pv_iconst (v := 1) (by decide) dX12_drawn_6 ?_
  refine pv_isub dX12_drawn_7 ?_
  refine pv_pc (pc' := 8) rfl ?_
  refine pv_invS (As := [.int x, .int 0, .int ((h 200 62) - 1)]) (d' := d - 1) dX12_drawn_8 moX12_in ml_X12_164 (Nat.le_of_ble_eq_true rfl) (by omega) (Nat.zero_le _) (Nat.zero_le _) (ct_X12_in (by omega)) (fun v ty' h' r' g' hq => ?_) rfl
  obtain ⟨e1, e2, e3, e4, e5⟩ := hq
  rw [e1, e2, e3, e4, e5]
  refine pv_pc (pc' := 11) rfl ?_
  show pv_E Γ d kc ks mX12_drawn 11 [some (.ref 200), some (.int x)] [.int (pf_b (0 ≤ x ∧ x ≤ ((h 200 62) - 1)))] ty h r g Q
  refine pv_if_eq (tgt := 23) dX12_drawn_11 (by decide) (fun c1 => ?_) (fun c1 => ?_)
  · have F := F.1 c1
    refine pv_iconst (v := (-1)) (by decide) dX12_drawn_23 ?_
    exact pv_ireturn dX12_drawn_24 rfl rfl F
  · have F := F.2 c1
    refine pv_aload_n dX12_drawn_14 rfl ?_
    refine pv_getRk 12 63 dX12_drawn_15 fl_X12_148 rfl (lt_200 hL) (lr_200_63 hL) ?_
    refine pv_iload_n dX12_drawn_18 rfl ?_
    obtain ⟨q1, F⟩ := F
    refine pv_iald dX12_drawn_19 (lt_363 hL) q1 ?_
    refine pv_goto (tgt := 24) dX12_drawn_20 (by decide) ?_
    exact pv_ireturn dX12_drawn_24 rfl rfl F
set_option maxRecDepth 20000 in
set_option maxHeartbeats 4000000 in
theorem sg_X12_choose_0 {Γ : pv_C} {d kc ks : Nat} {ty : pv_T} {h : pv_H} {r : pv_R} {g : pv_G} {Q : pv_Q} (x : Int32) (y : Int32) (hL : pv_Lay ty r) (F : ((y < 0 → Q (some (.long 0)) ty h r g) ∧ (¬ y < 0 → ((y ≤ x → vp_in ((41 * x) + y) 1681 ∧ Q (some (.long (g 365 (Int32.toNatClampNeg ((41 * x) + y))))) ty h r g) ∧ (¬ y ≤ x → Q (some (.long 0)) ty h r g))))) : pv_E Γ d kc ks mX12_choose 0 [some (.ref 200), some (.int x), some (.int y)] [] ty h r g Q := by
  refine pv_iload_n dX12_choose_0 rfl ?_
  refine pv_if_lt (tgt := 9) dX12_choose_1 (by decide) (fun c1 => ?_) (fun c1 => ?_)
  · have F := F.1 c1
    refine pv_lconst (v := 0) (by decide) dX12_choose_9 ?_
    refine pv_goto (tgt := 24) dX12_choose_10 (by decide) ?_
    exact pv_lreturn dX12_choose_24 rfl F
  · have F := F.2 c1
    refine pv_iload_n dX12_choose_4 rfl ?_
    refine pv_iload_n dX12_choose_5 rfl ?_
    refine pv_icmp_le (tgt := 13) dX12_choose_6 (by decide) (fun c2 => ?_) (fun c2 => ?_)
    · have F := F.1 c2
      refine pv_aload_n dX12_choose_13 rfl ?_
      refine pv_getRk 12 65 dX12_choose_14 fl_X12_154 rfl (lt_200 hL) (lr_200_65 hL) ?_
      refine pv_bipush (v := 41) (by decide) dX12_choose_17 ?_
      refine pv_iload_n dX12_choose_19 rfl ?_
      refine pv_imul dX12_choose_20 ?_
      refine pv_iload_n dX12_choose_21 rfl ?_
      refine pv_pc (pc' := 22) rfl ?_
      refine pv_iadd dX12_choose_22 ?_
      obtain ⟨q1, F⟩ := F
      refine pv_lald dX12_choose_23 (lt_365 hL) q1 ?_
      exact pv_lreturn dX12_choose_24 rfl F
    · have F := F.2 c2
      refine pv_lconst (v := 0) (by decide) dX12_choose_9 ?_
      refine pv_goto (tgt := 24) dX12_choose_10 (by decide) ?_
      exact pv_lreturn dX12_choose_24 rfl F
set_option maxRecDepth 20000 in
set_option maxHeartbeats 4000000 in
theorem sg_X5_waysWithFew_0 {Γ : pv_C} {d kc ks : Nat} {ty : pv_T} {h : pv_H} {r : pv_R} {g : pv_G} {Q : pv_Q} (x : Int32) (y : Int32) (z : Int32) (u : Int32) (F : pv_E Γ d kc ks mX5_waysWithFew 6 [some (.ref 90), some (.int x), some (.int y), some (.int z), some (.int u), some (.long 0), none, some (.int 0)] [] ty h r g Q) : pv_E Γ d kc ks mX5_waysWithFew 0 [some (.ref 90), some (.int x), some (.int y), some (.int z), some (.int u), none, none, none] [] ty h r g Q := by
  refine pv_lconst (v := 0) (by decide) dX5_waysWithFew_0 ?_
  refine pv_lstore (ls' := [some (.ref 90), some (.int x), some (.int y), some (.int z), some (.int u), some (.long 0), none, none]) dX5_waysWithFew_1 (by decide) rfl rfl ?_
  refine pv_iconst (v := 0) (by decide) dX5_waysWithFew_3 ?_
  refine pv_istore (ls' := [some (.ref 90), some (.int x), some (.int y), some (.int z), some (.int u), some (.long 0), none, some (.int 0)]) dX5_waysWithFew_4 (by decide) rfl rfl ?_
  exact F
set_option maxRecDepth 20000 in
set_option maxHeartbeats 4000000 in
theorem sg_X5_waysWithFew_6 {Γ : pv_C} {d kc ks : Nat} {ty : pv_T} {h : pv_H} {r : pv_R} {g : pv_G} {Q : pv_Q} (x1 : Int32) (x2 : Int32) (x3 : Int32) (x4 : Int32) (l5 : Int64) (x7 : Int32) (hL : pv_Lay ty r) (F : ((x3 < x7 → Q (some (.long l5)) ty h r g) ∧ (¬ x3 < x7 → vp_in ((x4 * 41) + x7) 1681 ∧ vp_in ((((x1 - x4) * 41) + x2) - x7) 1681 ∧ pv_E Γ d kc ks mX5_waysWithFew 6 [some (.ref 90), some (.int x1), some (.int x2), some (.int x3), some (.int x4), some (.long (l5 + ((g 91 (Int32.toNatClampNeg ((x4 * 41) + x7))) * (g 91 (Int32.toNatClampNeg ((((x1 - x4) * 41) + x2) - x7)))))), none, some (.int (x7 + 1))] [] ty h r g Q))) : pv_E Γ d kc ks mX5_waysWithFew 6 [some (.ref 90), some (.int x1), some (.int x2), some (.int x3), some (.int x4), some (.long l5), none, some (.int x7)] [] ty h r g Q := by
  refine pv_iload dX5_waysWithFew_6 rfl ?_
  refine pv_iload_n dX5_waysWithFew_8 rfl ?_
  refine pv_icmp_gt (tgt := 54) dX5_waysWithFew_9 (by decide) (fun c1 => ?_) (fun c1 => ?_)
  · have F := F.1 c1
    refine pv_lload dX5_waysWithFew_54 rfl ?_
    exact pv_lreturn dX5_waysWithFew_56 rfl F
  · have F := F.2 c1
    refine pv_lload dX5_waysWithFew_12 rfl ?_
    refine pv_aload_n dX5_waysWithFew_14 rfl ?_
    refine pv_getRk 5 0 dX5_waysWithFew_15 fl_X5_18 rfl (lt_90 hL) (lr_90_0 hL) ?_
    refine pv_iload dX5_waysWithFew_18 rfl ?_
    refine pv_bipush (v := 41) (by decide) dX5_waysWithFew_20 ?_
    refine pv_imul dX5_waysWithFew_22 ?_
    refine pv_pc (pc' := 23) rfl ?_
    refine pv_iload dX5_waysWithFew_23 rfl ?_
    refine pv_iadd dX5_waysWithFew_25 ?_
    obtain ⟨q1, F⟩ := F
    refine pv_lald dX5_waysWithFew_26 (lt_91 hL) q1 ?_
    refine pv_aload_n dX5_waysWithFew_27 rfl ?_
    refine pv_getRk 5 0 dX5_waysWithFew_28 fl_X5_18 rfl (lt_90 hL) (lr_90_0 hL) ?_
    refine pv_iload_n dX5_waysWithFew_31 rfl ?_
    refine pv_iload dX5_waysWithFew_32 rfl ?_
    refine pv_isub dX5_waysWithFew_34 ?_
    refine pv_bipush (v := 41) (by decide) dX5_waysWithFew_35 ?_
    refine pv_pc (pc' := 37) rfl ?_
    refine pv_imul dX5_waysWithFew_37 ?_
    refine pv_iload_n dX5_waysWithFew_38 rfl ?_
    refine pv_iadd dX5_waysWithFew_39 ?_
    refine pv_iload dX5_waysWithFew_40 rfl ?_
    refine pv_isub dX5_waysWithFew_42 ?_
    obtain ⟨q2, F⟩ := F
    refine pv_lald dX5_waysWithFew_43 (lt_91 hL) q2 ?_
    refine pv_lmul dX5_waysWithFew_44 ?_
    refine pv_ladd dX5_waysWithFew_45 ?_
    refine pv_lstore (ls' := [some (.ref 90), some (.int x1), some (.int x2), some (.int x3), some (.int x4), some (.long (l5 + ((g 91 (Int32.toNatClampNeg ((x4 * 41) + x7))) * (g 91 (Int32.toNatClampNeg ((((x1 - x4) * 41) + x2) - x7)))))), none, some (.int x7)]) dX5_waysWithFew_46 (by decide) rfl rfl ?_
    refine pv_iinc (v := x7 + 1) (ls' := [some (.ref 90), some (.int x1), some (.int x2), some (.int x3), some (.int x4), some (.long (l5 + ((g 91 (Int32.toNatClampNeg ((x4 * 41) + x7))) * (g 91 (Int32.toNatClampNeg ((((x1 - x4) * 41) + x2) - x7)))))), none, some (.int (x7 + 1))]) dX5_waysWithFew_48 rfl (by rfl) rfl rfl ?_
    refine pv_goto (tgt := 6) dX5_waysWithFew_51 (by decide) ?_
    exact F
def ch_v (g : pv_G) (x y : Int32) : Int64 := if y < 0 then 0 else if y ≤ x then g 365 (Int32.toNatClampNeg (41 * x + y)) else 0
section LA
variable {Γ : pv_C} {d : Nat} {ty : pv_T} {h : pv_H} {r : pv_R} {g : pv_G} {x y : Int32}
theorem ct_X12_choose (_ : 0 ≤ d) (hL : pv_Lay ty r) (hi : ¬ y < 0 → y ≤ x → vp_in (41 * x + y) 1681) : pv_CT Γ d 0 0 mX12_choose [.ref 200, .int x, .int y] ty h r g (pv_is (.long (ch_v g x y)) ty h r g) := by
  unfold ch_v
  refine pv_fn 0 pn_X12 rfl (Nat.le_of_ble_eq_true rfl) (sg_X12_choose_0 _ _ hL ⟨fun c => ?_, fun c => ⟨fun c2 => ⟨hi c c2, ?_⟩, fun c2 => ?_⟩⟩)
  · rw [if_pos c]; exact pv_is_refl _ _ _ _ _
  · rw [if_neg c, if_pos c2]; exact pv_is_refl _ _ _ _ _
  · rw [if_neg c, if_neg c2]; exact pv_is_refl _ _ _ _ _
end LA
set_option maxRecDepth 20000 in
set_option maxHeartbeats 4000000 in
theorem sg_X5_mostBad_0 {Γ : pv_C} {d kc ks : Nat} {ty : pv_T} {h : pv_H} {r : pv_R} {g : pv_G} {Q : pv_Q} (x : Int32) (y : Int32) (z : Int32) (u : Int32) (F : pv_E Γ d kc ks mX5_mostBad 7 [some (.ref 90), some (.int x), some (.int y), some (.int z), some (.int u), some (.int ((x - y) + z))] [] ty h r g Q) : pv_E Γ d kc ks mX5_mostBad 0 [some (.ref 90), some (.int x), some (.int y), some (.int z), some (.int u), none] [] ty h r g Q := by
  refine pv_iload_n dX5_mostBad_0 rfl ?_
  refine pv_iload_n dX5_mostBad_1 rfl ?_
  refine pv_isub dX5_mostBad_2 ?_
  refine pv_iload_n dX5_mostBad_3 rfl ?_
  refine pv_iadd dX5_mostBad_4 ?_
  refine pv_istore (ls' := [some (.ref 90), some (.int x), some (.int y), some (.int z), some (.int u), some (.int ((x - y) + z))]) dX5_mostBad_5 (by decide) rfl rfl ?_
  exact F
set_option maxRecDepth 20000 in
set_option maxHeartbeats 4000000 in
theorem sg_X5_mostBad_7 {Γ : pv_C} {d kc ks : Nat} {ty : pv_T} {h : pv_H} {r : pv_R} {g : pv_G} {Q : pv_Q} (x1 : Int32) (x2 : Int32) (x3 : Int32) (x4 : Int32) (x5 : Int32) (hd : 1 ≤ d) (hL : pv_Lay ty r) (F : ((x5 ≤ x3 → Q (some (.int x3)) ty h r g) ∧ (¬ x5 ≤ x3 → pv_CT Γ (d - 1) 0 0 mX5_waysWithFew [.ref 90, .int x1, .int x2, .int x3, .int x5] ty h r g (fun (v1 : Option Value) (ty1 : pv_T) (h1 : pv_H) (r1 : pv_R) (g1 : pv_G) => ∃ w1 : Int64, v1 = some (.long w1) ∧ pv_Lay ty1 r1 ∧ vp_in ((x1 * 41) + x2) 1681 ∧ (((lg_cmp (10000 * w1) ((((x4 : Int32)).toInt64) * (g1 91 (Int32.toNatClampNeg ((x1 * 41) + x2))))) < 0 → pv_E Γ d kc ks mX5_mostBad 7 [some (.ref 90), some (.int x1), some (.int x2), some (.int x3), some (.int x4), some (.int (x5 + (-1)))] [] ty1 h1 r1 g1 Q) ∧ (¬ (lg_cmp (10000 * w1) ((((x4 : Int32)).toInt64) * (g1 91 (Int32.toNatClampNeg ((x1 * 41) + x2))))) < 0 → Q (some (.int x5)) ty1 h1 r1 g1)))))) : pv_E Γ d kc ks mX5_mostBad 7 [some (.ref 90), some (.int x1), some (.int x2), some (.int x3), some (.int x4), some (.int x5)] [] ty h r g Q := by
  refine pv_iload dX5_mostBad_7 rfl ?_
  refine pv_iload_n dX5_mostBad_9 rfl ?_
  refine pv_icmp_le (tgt := 54) dX5_mostBad_10 (by decide) (fun c1 => ?_) (fun c1 => ?_)
  · have F := F.1 c1
    refine pv_iload_n dX5_mostBad_54 rfl ?_
    exact pv_ireturn dX5_mostBad_55 rfl rfl F
  · have F := F.2 c1
    refine pv_ldc2 (v := 10000) dX5_mostBad_13 kc_X5_33 ?_
    refine pv_aload_n dX5_mostBad_16 rfl ?_
    refine pv_iload_n dX5_mostBad_17 rfl ?_
    refine pv_iload_n dX5_mostBad_18 rfl ?_
    refine pv_iload_n dX5_mostBad_19 rfl ?_
    refine pv_iload dX5_mostBad_20 rfl ?_
    refine pv_pc (pc' := 22) rfl ?_
    refine pv_invV (As := [.int x1, .int x2, .int x3, .int x5]) (d' := d - 1) dX5_mostBad_22 moX5_waysWithFew ml_X5_35 (lt_90 hL) (Or.inl ⟨_, rfl, rfl⟩) (Nat.le_of_ble_eq_true rfl) (by omega) (Nat.zero_le _) (Nat.zero_le _) F (fun v1 ty1 h1 r1 g1 F => ?_) rfl
    obtain ⟨w1, rfl, F⟩ := F
    obtain ⟨hL1, F⟩ := F
    refine pv_pc (pc' := 25) rfl ?_
    show pv_E Γ d kc ks mX5_mostBad 25 [some (.ref 90), some (.int x1), some (.int x2), some (.int x3), some (.int x4), some (.int x5)] [.long w1, .long 10000] ty1 h1 r1 g1 Q
    refine pv_lmul dX5_mostBad_25 ?_
    refine pv_iload dX5_mostBad_26 rfl ?_
    refine pv_i2l dX5_mostBad_28 ?_
    refine pv_aload_n dX5_mostBad_29 rfl ?_
    refine pv_getRk 5 0 dX5_mostBad_30 fl_X5_18 rfl (lt_90 hL1) (lr_90_0 hL1) ?_
    refine pv_iload_n dX5_mostBad_33 rfl ?_
    refine pv_pc (pc' := 34) rfl ?_
    refine pv_bipush (v := 41) (by decide) dX5_mostBad_34 ?_
    refine pv_imul dX5_mostBad_36 ?_
    refine pv_iload_n dX5_mostBad_37 rfl ?_
    refine pv_iadd dX5_mostBad_38 ?_
    obtain ⟨q1, F⟩ := F
    refine pv_lald dX5_mostBad_39 (lt_91 hL1) q1 ?_
    refine pv_lmul dX5_mostBad_40 ?_
    refine pv_lcmp dX5_mostBad_41 ?_
    refine pv_if_lt (tgt := 48) dX5_mostBad_42 (by decide) (fun c2 => ?_) (fun c2 => ?_)
    · have F := F.1 c2
      refine pv_iinc (v := x5 + (-1)) (ls' := [some (.ref 90), some (.int x1), some (.int x2), some (.int x3), some (.int x4), some (.int (x5 + (-1)))]) dX5_mostBad_48 rfl (by rfl) rfl rfl ?_
      refine pv_goto (tgt := 7) dX5_mostBad_51 (by decide) ?_
      exact F
    · have F := F.2 c2
      refine pv_iload dX5_mostBad_45 rfl ?_
      exact pv_ireturn dX5_mostBad_47 rfl rfl F
set_option maxRecDepth 20000 in
set_option maxHeartbeats 4000000 in
theorem sg_X12_bad_0 {Γ : pv_C} {d kc ks : Nat} {ty : pv_T} {h : pv_H} {r : pv_R} {g : pv_G} {Q : pv_Q} (x : Int32) (y : Int32) (z : Int32) (u : Int32) (hd : 1 ≤ d) (F : (((pf_b (1 ≤ x ∧ x ≤ 40)) = 0 → Q (some (.int (-1))) ty h r g) ∧ (¬ (pf_b (1 ≤ x ∧ x ≤ 40)) = 0 → (((pf_b (1 ≤ y ∧ y ≤ x)) = 0 → Q (some (.int (-1))) ty h r g) ∧ (¬ (pf_b (1 ≤ y ∧ y ≤ x)) = 0 → (((pf_b (0 ≤ z ∧ z ≤ y)) = 0 → Q (some (.int (-1))) ty h r g) ∧ (¬ (pf_b (0 ≤ z ∧ z ≤ y)) = 0 → ((¬ (pf_b (1 ≤ u ∧ u ≤ 9999)) = 0 → pv_E Γ d kc ks mX12_bad 45 [some (.ref 200), some (.int x), some (.int y), some (.int z), some (.int u), some (.int 0), none, none, none] [] ty h r g Q) ∧ ((pf_b (1 ≤ u ∧ u ≤ 9999)) = 0 → Q (some (.int (-1))) ty h r g))))))))) : pv_E Γ d kc ks mX12_bad 0 [some (.ref 200), some (.int x), some (.int y), some (.int z), some (.int u), none, none, none, none] [] ty h r g Q := by
  refine pv_iload_n dX12_bad_0 rfl ?_
  refine pv_iconst (v := 1) (by decide) dX12_bad_1 ?_
  refine pv_bipush (v := 40) (by decide) dX12_bad_2 ?_
  refine pv_invS (As := [.int x, .int 1, .int 40]) (d' := d - 1) dX12_bad_4 moX12_in ml_X12_164 (Nat.le_of_ble_eq_true rfl) (by omega) (Nat.zero_le _) (Nat.zero_le _) (ct_X12_in (by omega)) (fun v ty' h' r' g' hq => ?_) rfl
  obtain ⟨e1, e2, e3, e4, e5⟩ := hq
  rw [e1, e2, e3, e4, e5]
  refine pv_pc (pc' := 7) rfl ?_
  show pv_E Γ d kc ks mX12_bad 7 [some (.ref 200), some (.int x), some (.int y), some (.int z), some (.int u), none, none, none, none] [.int (pf_b (1 ≤ x ∧ x ≤ 40))] ty h r g Q
  refine pv_if_eq (tgt := 40) dX12_bad_7 (by decide) (fun c1 => ?_) (fun c1 => ?_)
  · have F := F.1 c1
    refine pv_iconst (v := (-1)) (by decide) dX12_bad_40 ?_
    exact pv_ireturn dX12_bad_41 rfl rfl F
  · have F := F.2 c1
    refine pv_iload_n dX12_bad_10 rfl ?_
    refine pv_iconst (v := 1) (by decide) dX12_bad_11 ?_
    refine pv_iload_n dX12_bad_12 rfl ?_
    refine pv_invS (As := [.int y, .int 1, .int x]) (d' := d - 1) dX12_bad_13 moX12_in ml_X12_164 (Nat.le_of_ble_eq_true rfl) (by omega) (Nat.zero_le _) (Nat.zero_le _) (ct_X12_in (by omega)) (fun v ty' h' r' g' hq => ?_) rfl
    obtain ⟨e1, e2, e3, e4, e5⟩ := hq
    rw [e1, e2, e3, e4, e5]
    refine pv_pc (pc' := 16) rfl ?_
    show pv_E Γ d kc ks mX12_bad 16 [some (.ref 200), some (.int x), some (.int y), some (.int z), some (.int u), none, none, none, none] [.int (pf_b (1 ≤ y ∧ y ≤ x))] ty h r g Q
    refine pv_if_eq (tgt := 40) dX12_bad_16 (by decide) (fun c2 => ?_) (fun c2 => ?_)
    · have F := F.1 c2
      refine pv_iconst (v := (-1)) (by decide) dX12_bad_40 ?_
      exact pv_ireturn dX12_bad_41 rfl rfl F
    · have F := F.2 c2
      refine pv_iload_n dX12_bad_19 rfl ?_
      refine pv_iconst (v := 0) (by decide) dX12_bad_20 ?_
      refine pv_iload_n dX12_bad_21 rfl ?_
      refine pv_invS (As := [.int z, .int 0, .int y]) (d' := d - 1) dX12_bad_22 moX12_in ml_X12_164 (Nat.le_of_ble_eq_true rfl) (by omega) (Nat.zero_le _) (Nat.zero_le _) (ct_X12_in (by omega)) (fun v ty' h' r' g' hq => ?_) rfl
      obtain ⟨e1, e2, e3, e4, e5⟩ := hq
      rw [e1, e2, e3, e4, e5]
      refine pv_pc (pc' := 25) rfl ?_
      show pv_E Γ d kc ks mX12_bad 25 [some (.ref 200), some (.int x), some (.int y), some (.int z), some (.int u), none, none, none, none] [.int (pf_b (0 ≤ z ∧ z ≤ y))] ty h r g Q
      refine pv_if_eq (tgt := 40) dX12_bad_25 (by decide) (fun c3 => ?_) (fun c3 => ?_)
      · have F := F.1 c3
        refine pv_iconst (v := (-1)) (by decide) dX12_bad_40 ?_
        exact pv_ireturn dX12_bad_41 rfl rfl F
      · have F := F.2 c3
        refine pv_iload dX12_bad_28 rfl ?_
        refine pv_iconst (v := 1) (by decide) dX12_bad_30 ?_
        refine pv_sipush (v := 9999) (by decide) dX12_bad_31 ?_
        refine pv_invS (As := [.int u, .int 1, .int 9999]) (d' := d - 1) dX12_bad_34 moX12_in ml_X12_164 (Nat.le_of_ble_eq_true rfl) (by omega) (Nat.zero_le _) (Nat.zero_le _) (ct_X12_in (by omega)) (fun v ty' h' r' g' hq => ?_) rfl
        obtain ⟨e1, e2, e3, e4, e5⟩ := hq
        rw [e1, e2, e3, e4, e5]
        refine pv_pc (pc' := 37) rfl ?_
        show pv_E Γ d kc ks mX12_bad 37 [some (.ref 200), some (.int x), some (.int y), some (.int z), some (.int u), none, none, none, none] [.int (pf_b (1 ≤ u ∧ u ≤ 9999))] ty h r g Q
        refine pv_if_ne (tgt := 42) dX12_bad_37 (by decide) (fun c4 => ?_) (fun c4 => ?_)
        · have F := F.1 c4
          refine pv_iconst (v := 0) (by decide) dX12_bad_42 ?_
          refine pv_istore (ls' := [some (.ref 200), some (.int x), some (.int y), some (.int z), some (.int u), some (.int 0), none, none, none]) dX12_bad_43 (by decide) rfl rfl ?_
          exact F
        · have F := F.2 c4
          refine pv_iconst (v := (-1)) (by decide) dX12_bad_40 ?_
          exact pv_ireturn dX12_bad_41 rfl rfl F
set_option maxRecDepth 20000 in
set_option maxHeartbeats 4000000 in
theorem sg_X12_bad_45 {Γ : pv_C} {d kc ks : Nat} {ty : pv_T} {h : pv_H} {r : pv_R} {g : pv_G} {Q : pv_Q} (x1 : Int32) (x2 : Int32) (x3 : Int32) (x4 : Int32) (x5 : Int32) (F : ((40 < x5 → pv_E Γ d kc ks mX12_bad 143 [some (.ref 200), some (.int x1), some (.int x2), some (.int x3), some (.int x4), some (.int ((x1 - x2) + x3)), none, none, none] [] ty h r g Q) ∧ (¬ 40 < x5 → pv_E Γ d kc ks mX12_bad 55 [some (.ref 200), some (.int x1), some (.int x2), some (.int x3), some (.int x4), some (.int x5), some (.int 0), none, none] [] ty h r g Q))) : pv_E Γ d kc ks mX12_bad 45 [some (.ref 200), some (.int x1), some (.int x2), some (.int x3), some (.int x4), some (.int x5), none, none, none] [] ty h r g Q := by
  refine pv_iload dX12_bad_45 rfl ?_
  refine pv_bipush (v := 40) (by decide) dX12_bad_47 ?_
  refine pv_icmp_gt (tgt := 136) dX12_bad_49 (by decide) (fun c1 => ?_) (fun c1 => ?_)
  · have F := F.1 c1
    refine pv_iload_n dX12_bad_136 rfl ?_
    refine pv_iload_n dX12_bad_137 rfl ?_
    refine pv_isub dX12_bad_138 ?_
    refine pv_iload_n dX12_bad_139 rfl ?_
    refine pv_iadd dX12_bad_140 ?_
    refine pv_istore (ls' := [some (.ref 200), some (.int x1), some (.int x2), some (.int x3), some (.int x4), some (.int ((x1 - x2) + x3)), none, none, none]) dX12_bad_141 (by decide) rfl rfl ?_
    exact F
  · have F := F.2 c1
    refine pv_iconst (v := 0) (by decide) dX12_bad_52 ?_
    refine pv_istore (ls' := [some (.ref 200), some (.int x1), some (.int x2), some (.int x3), some (.int x4), some (.int x5), some (.int 0), none, none]) dX12_bad_53 (by decide) rfl rfl ?_
    exact F
set_option maxRecDepth 20000 in
set_option maxHeartbeats 4000000 in
theorem sg_X12_bad_55 {Γ : pv_C} {d kc ks : Nat} {ty : pv_T} {h : pv_H} {r : pv_R} {g : pv_G} {Q : pv_Q} (x1 : Int32) (x2 : Int32) (x3 : Int32) (x4 : Int32) (x5 : Int32) (x6 : Int32) (hL : pv_Lay ty r) (F : ((x5 < x6 → pv_E Γ d kc ks mX12_bad 45 [some (.ref 200), some (.int x1), some (.int x2), some (.int x3), some (.int x4), some (.int (x5 + 1)), none, none, none] [] ty h r g Q) ∧ (¬ x5 < x6 → ((x6 = 0 → vp_in ((41 * x5) + x6) 1681 ∧ (∀ g1 : pv_G, g1 = pv_up g 365 (Int32.toNatClampNeg ((41 * x5) + x6)) 1 → pv_E Γ d kc ks mX12_bad 55 [some (.ref 200), some (.int x1), some (.int x2), some (.int x3), some (.int x4), some (.int x5), some (.int (x6 + 1)), none, none] [] ty h r g1 Q)) ∧ (¬ x6 = 0 → ((¬ x6 = x5 → vp_in (((41 * (x5 - 1)) + x6) - 1) 1681 ∧ vp_in ((41 * (x5 - 1)) + x6) 1681 ∧ vp_in ((41 * x5) + x6) 1681 ∧ (∀ g2 : pv_G, g2 = pv_up g 365 (Int32.toNatClampNeg ((41 * x5) + x6)) ((g 365 (Int32.toNatClampNeg (((41 * (x5 - 1)) + x6) - 1))) + (g 365 (Int32.toNatClampNeg ((41 * (x5 - 1)) + x6)))) → pv_E Γ d kc ks mX12_bad 55 [some (.ref 200), some (.int x1), some (.int x2), some (.int x3), some (.int x4), some (.int x5), some (.int (x6 + 1)), none, none] [] ty h r g2 Q)) ∧ (x6 = x5 → vp_in ((41 * x5) + x6) 1681 ∧ (∀ g3 : pv_G, g3 = pv_up g 365 (Int32.toNatClampNeg ((41 * x5) + x6)) 1 → pv_E Γ d kc ks mX12_bad 55 [some (.ref 200), some (.int x1), some (.int x2), some (.int x3), some (.int x4), some (.int x5), some (.int (x6 + 1)), none, none] [] ty h r g3 Q)))))))) : pv_E Γ d kc ks mX12_bad 55 [some (.ref 200), some (.int x1), some (.int x2), some (.int x3), some (.int x4), some (.int x5), some (.int x6), none, none] [] ty h r g Q := by
  refine pv_iload dX12_bad_55 rfl ?_
  refine pv_iload dX12_bad_57 rfl ?_
  refine pv_icmp_gt (tgt := 130) dX12_bad_59 (by decide) (fun c1 => ?_) (fun c1 => ?_)
  · have F := F.1 c1
    refine pv_iinc (v := x5 + 1) (ls' := [some (.ref 200), some (.int x1), some (.int x2), some (.int x3), some (.int x4), some (.int (x5 + 1)), some (.int x6), none, none]) dX12_bad_130 rfl (by rfl) rfl rfl ?_
    refine pv_goto (tgt := 45) dX12_bad_133 (by decide) ?_
    refine pv_forgetL (ls' := [some (.ref 200), some (.int x1), some (.int x2), some (.int x3), some (.int x4), some (.int (x5 + 1)), none, none, none]) (pv_subL_ok ⟨rfl, ⟨rfl, ⟨rfl, ⟨rfl, ⟨rfl, ⟨rfl, trivial⟩⟩⟩⟩⟩⟩) ?_
    exact F
  · have F := F.2 c1
    refine pv_aload_n dX12_bad_62 rfl ?_
    refine pv_getRk 12 65 dX12_bad_63 fl_X12_154 rfl (lt_200 hL) (lr_200_65 hL) ?_
    refine pv_bipush (v := 41) (by decide) dX12_bad_66 ?_
    refine pv_iload dX12_bad_68 rfl ?_
    refine pv_imul dX12_bad_70 ?_
    refine pv_iload dX12_bad_71 rfl ?_
    refine pv_pc (pc' := 73) rfl ?_
    refine pv_iadd dX12_bad_73 ?_
    refine pv_iload dX12_bad_74 rfl ?_
    refine pv_if_eq (tgt := 86) dX12_bad_76 (by decide) (fun c2 => ?_) (fun c2 => ?_)
    · have F := F.1 c2
      refine pv_lconst (v := 1) (by decide) dX12_bad_86 ?_
      refine pv_goto (tgt := 123) dX12_bad_87 (by decide) ?_
      obtain ⟨q1, F⟩ := F
      obtain ⟨g1, eg1⟩ : ∃ g1 : pv_G, g1 = pv_up g 365 (Int32.toNatClampNeg ((41 * x5) + x6)) 1 := ⟨_, rfl⟩
      have F := F g1 eg1
      refine pv_last dX12_bad_123 (lt_365 hL) (by decide) q1 ?_
      refine pv_gE eg1 ?_
      refine pv_iinc (v := x6 + 1) (ls' := [some (.ref 200), some (.int x1), some (.int x2), some (.int x3), some (.int x4), some (.int x5), some (.int (x6 + 1)), none, none]) dX12_bad_124 rfl (by rfl) rfl rfl ?_
      refine pv_goto (tgt := 55) dX12_bad_127 (by decide) ?_
      exact F
    · have F := F.2 c2
      refine pv_iload dX12_bad_79 rfl ?_
      refine pv_iload dX12_bad_81 rfl ?_
      refine pv_icmp_ne (tgt := 90) dX12_bad_83 (by decide) (fun c3 => ?_) (fun c3 => ?_)
      · have F := F.1 c3
        refine pv_aload_n dX12_bad_90 rfl ?_
        refine pv_getRk 12 65 dX12_bad_91 fl_X12_154 rfl (lt_200 hL) (lr_200_65 hL) ?_
        refine pv_bipush (v := 41) (by decide) dX12_bad_94 ?_
        refine pv_iload dX12_bad_96 rfl ?_
        refine pv_iconst (v := 1) (by decide) dX12_bad_98 ?_
        refine pv_isub dX12_bad_99 ?_
        refine pv_pc (pc' := 100) rfl ?_
        refine pv_imul dX12_bad_100 ?_
        refine pv_iload dX12_bad_101 rfl ?_
        refine pv_iadd dX12_bad_103 ?_
        refine pv_iconst (v := 1) (by decide) dX12_bad_104 ?_
        refine pv_isub dX12_bad_105 ?_
        obtain ⟨q2, F⟩ := F
        refine pv_lald dX12_bad_106 (lt_365 hL) q2 ?_
        refine pv_aload_n dX12_bad_107 rfl ?_
        refine pv_getRk 12 65 dX12_bad_108 fl_X12_154 rfl (lt_200 hL) (lr_200_65 hL) ?_
        refine pv_bipush (v := 41) (by decide) dX12_bad_111 ?_
        refine pv_iload dX12_bad_113 rfl ?_
        refine pv_iconst (v := 1) (by decide) dX12_bad_115 ?_
        refine pv_isub dX12_bad_116 ?_
        refine pv_pc (pc' := 117) rfl ?_
        refine pv_imul dX12_bad_117 ?_
        refine pv_iload dX12_bad_118 rfl ?_
        refine pv_iadd dX12_bad_120 ?_
        obtain ⟨q3, F⟩ := F
        refine pv_lald dX12_bad_121 (lt_365 hL) q3 ?_
        refine pv_ladd dX12_bad_122 ?_
        obtain ⟨q4, F⟩ := F
        obtain ⟨g2, eg2⟩ : ∃ g2 : pv_G, g2 = pv_up g 365 (Int32.toNatClampNeg ((41 * x5) + x6)) ((g 365 (Int32.toNatClampNeg (((41 * (x5 - 1)) + x6) - 1))) + (g 365 (Int32.toNatClampNeg ((41 * (x5 - 1)) + x6)))) := ⟨_, rfl⟩
        have F := F g2 eg2
        refine pv_last dX12_bad_123 (lt_365 hL) (by decide) q4 ?_
        refine pv_gE eg2 ?_
        refine pv_iinc (v := x6 + 1) (ls' := [some (.ref 200), some (.int x1), some (.int x2), some (.int x3), some (.int x4), some (.int x5), some (.int (x6 + 1)), none, none]) dX12_bad_124 rfl (by rfl) rfl rfl ?_
        refine pv_goto (tgt := 55) dX12_bad_127 (by decide) ?_
        exact F
      · have F := F.2 c3
        refine pv_lconst (v := 1) (by decide) dX12_bad_86 ?_
        refine pv_goto (tgt := 123) dX12_bad_87 (by decide) ?_
        obtain ⟨q5, F⟩ := F
        obtain ⟨g3, eg3⟩ : ∃ g3 : pv_G, g3 = pv_up g 365 (Int32.toNatClampNeg ((41 * x5) + x6)) 1 := ⟨_, rfl⟩
        have F := F g3 eg3
        refine pv_last dX12_bad_123 (lt_365 hL) (by decide) q5 ?_
        refine pv_gE eg3 ?_
        refine pv_iinc (v := x6 + 1) (ls' := [some (.ref 200), some (.int x1), some (.int x2), some (.int x3), some (.int x4), some (.int x5), some (.int (x6 + 1)), none, none]) dX12_bad_124 rfl (by rfl) rfl rfl ?_
        refine pv_goto (tgt := 55) dX12_bad_127 (by decide) ?_
        exact F
set_option maxRecDepth 20000 in
set_option maxHeartbeats 4000000 in
theorem sg_X12_bad_143 {Γ : pv_C} {d kc ks : Nat} {ty : pv_T} {h : pv_H} {r : pv_R} {g : pv_G} {Q : pv_Q} (x1 : Int32) (x2 : Int32) (x3 : Int32) (x4 : Int32) (x5 : Int32) (F : ((x5 ≤ x3 → Q (some (.int x3)) ty h r g) ∧ (¬ x5 ≤ x3 → pv_E Γ d kc ks mX12_bad 155 [some (.ref 200), some (.int x1), some (.int x2), some (.int x3), some (.int x4), some (.int x5), some (.long 0), none, some (.int 0)] [] ty h r g Q))) : pv_E Γ d kc ks mX12_bad 143 [some (.ref 200), some (.int x1), some (.int x2), some (.int x3), some (.int x4), some (.int x5), none, none, none] [] ty h r g Q := by
  refine pv_iload dX12_bad_143 rfl ?_
  refine pv_iload_n dX12_bad_145 rfl ?_
  refine pv_icmp_le (tgt := 222) dX12_bad_146 (by decide) (fun c1 => ?_) (fun c1 => ?_)
  · have F := F.1 c1
    refine pv_iload_n dX12_bad_222 rfl ?_
    exact pv_ireturn dX12_bad_223 rfl rfl F
  · have F := F.2 c1
    refine pv_lconst (v := 0) (by decide) dX12_bad_149 ?_
    refine pv_lstore (ls' := [some (.ref 200), some (.int x1), some (.int x2), some (.int x3), some (.int x4), some (.int x5), some (.long 0), none, none]) dX12_bad_150 (by decide) rfl rfl ?_
    refine pv_iconst (v := 0) (by decide) dX12_bad_152 ?_
    refine pv_istore (ls' := [some (.ref 200), some (.int x1), some (.int x2), some (.int x3), some (.int x4), some (.int x5), some (.long 0), none, some (.int 0)]) dX12_bad_153 (by decide) rfl rfl ?_
    exact F
set_option maxRecDepth 20000 in
set_option maxHeartbeats 4000000 in
theorem sg_X12_bad_155 {Γ : pv_C} {d kc ks : Nat} {ty : pv_T} {h : pv_H} {r : pv_R} {g : pv_G} {Q : pv_Q} (x1 : Int32) (x2 : Int32) (x3 : Int32) (x4 : Int32) (x5 : Int32) (l6 : Int64) (x8 : Int32) (hd : 1 ≤ d) (hL : pv_Lay ty r) (F : ((x3 < x8 → (¬ x2 < 0 → x2 ≤ x1 → vp_in (41 * x1 + x2) 1681) ∧ (((lg_cmp (10000 * l6) ((((x4 : Int32)).toInt64) * (ch_v g x1 x2))) < 0 → pv_E Γ d kc ks mX12_bad 143 [some (.ref 200), some (.int x1), some (.int x2), some (.int x3), some (.int x4), some (.int (x5 + (-1))), none, none, none] [] ty h r g Q) ∧ (¬ (lg_cmp (10000 * l6) ((((x4 : Int32)).toInt64) * (ch_v g x1 x2))) < 0 → Q (some (.int x5)) ty h r g))) ∧ (¬ x3 < x8 → (¬ x8 < 0 → x8 ≤ x5 → vp_in (41 * x5 + x8) 1681) ∧ (¬ (x2 - x8) < 0 → (x2 - x8) ≤ (x1 - x5) → vp_in (41 * (x1 - x5) + (x2 - x8)) 1681) ∧ pv_E Γ d kc ks mX12_bad 155 [some (.ref 200), some (.int x1), some (.int x2), some (.int x3), some (.int x4), some (.int x5), some (.long (l6 + ((ch_v g x5 x8) * (ch_v g (x1 - x5) (x2 - x8))))), none, some (.int (x8 + 1))] [] ty h r g Q))) : pv_E Γ d kc ks mX12_bad 155 [some (.ref 200), some (.int x1), some (.int x2), some (.int x3), some (.int x4), some (.int x5), some (.long l6), none, some (.int x8)] [] ty h r g Q := by
  refine pv_iload dX12_bad_155 rfl ?_
  refine pv_iload_n dX12_bad_157 rfl ?_
  refine pv_icmp_gt (tgt := 193) dX12_bad_158 (by decide) (fun c1 => ?_) (fun c1 => ?_)
  · have F := F.1 c1
    refine pv_ldc2 (v := 10000) dX12_bad_193 kc_X12_331 ?_
    refine pv_lload dX12_bad_196 rfl ?_
    refine pv_lmul dX12_bad_198 ?_
    refine pv_iload dX12_bad_199 rfl ?_
    refine pv_i2l dX12_bad_201 ?_
    refine pv_aload_n dX12_bad_202 rfl ?_
    refine pv_pc (pc' := 203) rfl ?_
    refine pv_iload_n dX12_bad_203 rfl ?_
    refine pv_iload_n dX12_bad_204 rfl ?_
    obtain ⟨q1, F⟩ := F
    refine pv_invV (As := [.int x1, .int x2]) (d' := d - 1) dX12_bad_205 moX12_choose ml_X12_327 (lt_200 hL) (Or.inl ⟨_, rfl, rfl⟩) (Nat.le_of_ble_eq_true rfl) (by omega) (Nat.zero_le _) (Nat.zero_le _) (ct_X12_choose (by omega) hL q1) (fun v ty' h' r' g' hq => ?_) rfl
    obtain ⟨e1, e2, e3, e4, e5⟩ := hq
    rw [e1, e2, e3, e4, e5]
    refine pv_pc (pc' := 208) rfl ?_
    show pv_E Γ d kc ks mX12_bad 208 [some (.ref 200), some (.int x1), some (.int x2), some (.int x3), some (.int x4), some (.int x5), some (.long l6), none, some (.int x8)] [.long (ch_v g x1 x2), .long (((x4 : Int32)).toInt64), .long (10000 * l6)] ty h r g Q
    refine pv_lmul dX12_bad_208 ?_
    refine pv_lcmp dX12_bad_209 ?_
    refine pv_if_lt (tgt := 216) dX12_bad_210 (by decide) (fun c2 => ?_) (fun c2 => ?_)
    · have F := F.1 c2
      refine pv_iinc (v := x5 + (-1)) (ls' := [some (.ref 200), some (.int x1), some (.int x2), some (.int x3), some (.int x4), some (.int (x5 + (-1))), some (.long l6), none, some (.int x8)]) dX12_bad_216 rfl (by rfl) rfl rfl ?_
      refine pv_goto (tgt := 143) dX12_bad_219 (by decide) ?_
      refine pv_forgetL (ls' := [some (.ref 200), some (.int x1), some (.int x2), some (.int x3), some (.int x4), some (.int (x5 + (-1))), none, none, none]) (pv_subL_ok ⟨rfl, ⟨rfl, ⟨rfl, ⟨rfl, ⟨rfl, ⟨rfl, trivial⟩⟩⟩⟩⟩⟩) ?_
      exact F
    · have F := F.2 c2
      refine pv_iload dX12_bad_213 rfl ?_
      exact pv_ireturn dX12_bad_215 rfl rfl F
  · have F := F.2 c1
    refine pv_lload dX12_bad_161 rfl ?_
    refine pv_aload_n dX12_bad_163 rfl ?_
    refine pv_iload dX12_bad_164 rfl ?_
    refine pv_iload dX12_bad_166 rfl ?_
    obtain ⟨q2, F⟩ := F
    refine pv_invV (As := [.int x5, .int x8]) (d' := d - 1) dX12_bad_168 moX12_choose ml_X12_327 (lt_200 hL) (Or.inl ⟨_, rfl, rfl⟩) (Nat.le_of_ble_eq_true rfl) (by omega) (Nat.zero_le _) (Nat.zero_le _) (ct_X12_choose (by omega) hL q2) (fun v ty' h' r' g' hq => ?_) rfl
    obtain ⟨e1, e2, e3, e4, e5⟩ := hq
    rw [e1, e2, e3, e4, e5]
    refine pv_pc (pc' := 171) rfl ?_
    show pv_E Γ d kc ks mX12_bad 171 [some (.ref 200), some (.int x1), some (.int x2), some (.int x3), some (.int x4), some (.int x5), some (.long l6), none, some (.int x8)] [.long (ch_v g x5 x8), .long l6] ty h r g Q
    refine pv_aload_n dX12_bad_171 rfl ?_
    refine pv_iload_n dX12_bad_172 rfl ?_
    refine pv_iload dX12_bad_173 rfl ?_
    refine pv_isub dX12_bad_175 ?_
    refine pv_iload_n dX12_bad_176 rfl ?_
    refine pv_iload dX12_bad_177 rfl ?_
    refine pv_pc (pc' := 179) rfl ?_
    refine pv_isub dX12_bad_179 ?_
    obtain ⟨q3, F⟩ := F
    refine pv_invV (As := [.int (x1 - x5), .int (x2 - x8)]) (d' := d - 1) dX12_bad_180 moX12_choose ml_X12_327 (lt_200 hL) (Or.inl ⟨_, rfl, rfl⟩) (Nat.le_of_ble_eq_true rfl) (by omega) (Nat.zero_le _) (Nat.zero_le _) (ct_X12_choose (by omega) hL q3) (fun v ty' h' r' g' hq => ?_) rfl
    obtain ⟨e1, e2, e3, e4, e5⟩ := hq
    rw [e1, e2, e3, e4, e5]
    refine pv_pc (pc' := 183) rfl ?_
    show pv_E Γ d kc ks mX12_bad 183 [some (.ref 200), some (.int x1), some (.int x2), some (.int x3), some (.int x4), some (.int x5), some (.long l6), none, some (.int x8)] [.long (ch_v g (x1 - x5) (x2 - x8)), .long (ch_v g x5 x8), .long l6] ty h r g Q
    refine pv_lmul dX12_bad_183 ?_
    refine pv_ladd dX12_bad_184 ?_
    refine pv_lstore (ls' := [some (.ref 200), some (.int x1), some (.int x2), some (.int x3), some (.int x4), some (.int x5), some (.long (l6 + ((ch_v g x5 x8) * (ch_v g (x1 - x5) (x2 - x8))))), none, some (.int x8)]) dX12_bad_185 (by decide) rfl rfl ?_
    refine pv_iinc (v := x8 + 1) (ls' := [some (.ref 200), some (.int x1), some (.int x2), some (.int x3), some (.int x4), some (.int x5), some (.long (l6 + ((ch_v g x5 x8) * (ch_v g (x1 - x5) (x2 - x8))))), none, some (.int (x8 + 1))]) dX12_bad_187 rfl (by rfl) rfl rfl ?_
    refine pv_goto (tgt := 155) dX12_bad_190 (by decide) ?_
    exact F
set_option maxRecDepth 20000 in
set_option maxHeartbeats 4000000 in
theorem sg_X11_draw_0 {Γ : pv_C} {d kc ks : Nat} {ty : pv_T} {h : pv_H} {r : pv_R} {g : pv_G} {Q : pv_Q} (x : Int32) (y : Int32) (z : Int32) (hd : 1 ≤ d) (hL : pv_Lay ty r) (F : (((pf_b (1 ≤ x ∧ x ≤ 40)) = 0 → Q (some (.int (-1))) ty h r g) ∧ (¬ (pf_b (1 ≤ x ∧ x ≤ 40)) = 0 → ((¬ (pf_b (1 ≤ y ∧ y ≤ x)) = 0 → pv_CJ Γ (d - 1) mX5_drawLots [.ref 90, .int x, .int y, .int z] ty h r g (fun (w1 : Int32) (h1 : pv_H) => Q (some (.int w1)) ty h1 r g)) ∧ ((pf_b (1 ≤ y ∧ y ≤ x)) = 0 → Q (some (.int (-1))) ty h r g))))) : pv_E Γ d kc ks mX11_draw 0 [some (.ref 100), some (.int x), some (.int y), some (.int z)] [] ty h r g Q := by
  refine pv_iload_n dX11_draw_0 rfl ?_
  refine pv_iconst (v := 1) (by decide) dX11_draw_1 ?_
  refine pv_bipush (v := 40) (by decide) dX11_draw_2 ?_
  refine pv_invS (As := [.int x, .int 1, .int 40]) (d' := d - 1) dX11_draw_4 moX11_within ml_X11_69 (Nat.le_of_ble_eq_true rfl) (by omega) (Nat.zero_le _) (Nat.zero_le _) (ct_X11_within (by omega)) (fun v ty' h' r' g' hq => ?_) rfl
  obtain ⟨e1, e2, e3, e4, e5⟩ := hq
  rw [e1, e2, e3, e4, e5]
  refine pv_pc (pc' := 7) rfl ?_
  show pv_E Γ d kc ks mX11_draw 7 [some (.ref 100), some (.int x), some (.int y), some (.int z)] [.int (pf_b (1 ≤ x ∧ x ≤ 40))] ty h r g Q
  refine pv_if_eq (tgt := 19) dX11_draw_7 (by decide) (fun c1 => ?_) (fun c1 => ?_)
  · have F := F.1 c1
    refine pv_iconst (v := (-1)) (by decide) dX11_draw_19 ?_
    exact pv_ireturn dX11_draw_20 rfl rfl F
  · have F := F.2 c1
    refine pv_iload_n dX11_draw_10 rfl ?_
    refine pv_iconst (v := 1) (by decide) dX11_draw_11 ?_
    refine pv_iload_n dX11_draw_12 rfl ?_
    refine pv_invS (As := [.int y, .int 1, .int x]) (d' := d - 1) dX11_draw_13 moX11_within ml_X11_69 (Nat.le_of_ble_eq_true rfl) (by omega) (Nat.zero_le _) (Nat.zero_le _) (ct_X11_within (by omega)) (fun v ty' h' r' g' hq => ?_) rfl
    obtain ⟨e1, e2, e3, e4, e5⟩ := hq
    rw [e1, e2, e3, e4, e5]
    refine pv_pc (pc' := 16) rfl ?_
    show pv_E Γ d kc ks mX11_draw 16 [some (.ref 100), some (.int x), some (.int y), some (.int z)] [.int (pf_b (1 ≤ y ∧ y ≤ x))] ty h r g Q
    refine pv_if_ne (tgt := 21) dX11_draw_16 (by decide) (fun c2 => ?_) (fun c2 => ?_)
    · have F := F.1 c2
      refine pv_aload_n dX11_draw_21 rfl ?_
      refine pv_getRk 11 13 dX11_draw_22 fl_X11_65 rfl (lt_100 hL) (lr_100_13 hL) ?_
      refine pv_iload_n dX11_draw_25 rfl ?_
      refine pv_iload_n dX11_draw_26 rfl ?_
      refine pv_iload_n dX11_draw_27 rfl ?_
      refine pv_invV (As := [.int x, .int y, .int z]) (d' := d - 1) dX11_draw_28 moX5_drawLots ml_X11_284 (lt_90 hL) (Or.inl ⟨_, rfl, rfl⟩) (Nat.le_of_ble_eq_true rfl) (by omega) (Nat.zero_le _) (Nat.zero_le _) F (fun v ty' h1 r' g' hq => ?_) rfl
      obtain ⟨e2, e4, e5, w1, e1, F⟩ := hq
      rw [e1, e2, e4, e5]
      refine pv_pc (pc' := 31) rfl ?_
      show pv_E Γ d kc ks mX11_draw 31 [some (.ref 100), some (.int x), some (.int y), some (.int z)] [.int w1] ty h1 r g Q
      exact pv_ireturn dX11_draw_31 rfl rfl F
    · have F := F.2 c2
      refine pv_iconst (v := (-1)) (by decide) dX11_draw_19 ?_
      exact pv_ireturn dX11_draw_20 rfl rfl F
set_option maxRecDepth 20000 in
set_option maxHeartbeats 4000000 in
theorem sg_X11_drawn_0 {Γ : pv_C} {d kc ks : Nat} {ty : pv_T} {h : pv_H} {r : pv_R} {g : pv_G} {Q : pv_Q} (x : Int32) (hd : 1 ≤ d) (hL : pv_Lay ty r) (F : pv_CJ Γ (d - 1) mX5_lotAt [.ref 90, .int x] ty h r g (fun (w1 : Int32) (h1 : pv_H) => Q (some (.int w1)) ty h1 r g)) : pv_E Γ d kc ks mX11_drawn 0 [some (.ref 100), some (.int x)] [] ty h r g Q := by
  refine pv_aload_n dX11_drawn_0 rfl ?_
  refine pv_getRk 11 13 dX11_drawn_1 fl_X11_65 rfl (lt_100 hL) (lr_100_13 hL) ?_
  refine pv_iload_n dX11_drawn_4 rfl ?_
  refine pv_invV (As := [.int x]) (d' := d - 1) dX11_drawn_5 moX5_lotAt ml_X11_287 (lt_90 hL) (Or.inl ⟨_, rfl, rfl⟩) (Nat.le_of_ble_eq_true rfl) (by omega) (Nat.zero_le _) (Nat.zero_le _) F (fun v ty' h1 r' g' hq => ?_) rfl
  obtain ⟨e2, e4, e5, w1, e1, F⟩ := hq
  rw [e1, e2, e4, e5]
  refine pv_pc (pc' := 8) rfl ?_
  show pv_E Γ d kc ks mX11_drawn 8 [some (.ref 100), some (.int x)] [.int w1] ty h1 r g Q
  exact pv_ireturn dX11_drawn_8 rfl rfl F
set_option maxRecDepth 20000 in
set_option maxHeartbeats 4000000 in
theorem sg_X11_bad_0 {Γ : pv_C} {d kc ks : Nat} {ty : pv_T} {h : pv_H} {r : pv_R} {g : pv_G} {Q : pv_Q} (x : Int32) (y : Int32) (z : Int32) (u : Int32) (hd : 1 ≤ d) (hL : pv_Lay ty r) (F : (((pf_b (1 ≤ x ∧ x ≤ 40)) = 0 → Q (some (.int (-1))) ty h r g) ∧ (¬ (pf_b (1 ≤ x ∧ x ≤ 40)) = 0 → (((pf_b (1 ≤ y ∧ y ≤ x)) = 0 → Q (some (.int (-1))) ty h r g) ∧ (¬ (pf_b (1 ≤ y ∧ y ≤ x)) = 0 → (((pf_b (0 ≤ z ∧ z ≤ y)) = 0 → Q (some (.int (-1))) ty h r g) ∧ (¬ (pf_b (0 ≤ z ∧ z ≤ y)) = 0 → ((¬ (pf_b (1 ≤ u ∧ u ≤ 9999)) = 0 → pv_CT Γ (d - 1) 0 0 mX5_mostBad [.ref 90, .int x, .int y, .int z, .int u] ty h r g (fun (v1 : Option Value) (ty1 : pv_T) (h1 : pv_H) (r1 : pv_R) (g1 : pv_G) => ∃ w1 : Int32, v1 = some (.int w1) ∧ pv_Lay ty1 r1 ∧ Q (some (.int w1)) ty1 h1 r1 g1)) ∧ ((pf_b (1 ≤ u ∧ u ≤ 9999)) = 0 → Q (some (.int (-1))) ty h r g))))))))) : pv_E Γ d kc ks mX11_bad 0 [some (.ref 100), some (.int x), some (.int y), some (.int z), some (.int u)] [] ty h r g Q := by
  refine pv_iload_n dX11_bad_0 rfl ?_
  refine pv_iconst (v := 1) (by decide) dX11_bad_1 ?_
  refine pv_bipush (v := 40) (by decide) dX11_bad_2 ?_
  refine pv_invS (As := [.int x, .int 1, .int 40]) (d' := d - 1) dX11_bad_4 moX11_within ml_X11_69 (Nat.le_of_ble_eq_true rfl) (by omega) (Nat.zero_le _) (Nat.zero_le _) (ct_X11_within (by omega)) (fun v ty' h' r' g' hq => ?_) rfl
  obtain ⟨e1, e2, e3, e4, e5⟩ := hq
  rw [e1, e2, e3, e4, e5]
  refine pv_pc (pc' := 7) rfl ?_
  show pv_E Γ d kc ks mX11_bad 7 [some (.ref 100), some (.int x), some (.int y), some (.int z), some (.int u)] [.int (pf_b (1 ≤ x ∧ x ≤ 40))] ty h r g Q
  refine pv_if_eq (tgt := 40) dX11_bad_7 (by decide) (fun c1 => ?_) (fun c1 => ?_)
  · have F := F.1 c1
    refine pv_iconst (v := (-1)) (by decide) dX11_bad_40 ?_
    exact pv_ireturn dX11_bad_41 rfl rfl F
  · have F := F.2 c1
    refine pv_iload_n dX11_bad_10 rfl ?_
    refine pv_iconst (v := 1) (by decide) dX11_bad_11 ?_
    refine pv_iload_n dX11_bad_12 rfl ?_
    refine pv_invS (As := [.int y, .int 1, .int x]) (d' := d - 1) dX11_bad_13 moX11_within ml_X11_69 (Nat.le_of_ble_eq_true rfl) (by omega) (Nat.zero_le _) (Nat.zero_le _) (ct_X11_within (by omega)) (fun v ty' h' r' g' hq => ?_) rfl
    obtain ⟨e1, e2, e3, e4, e5⟩ := hq
    rw [e1, e2, e3, e4, e5]
    refine pv_pc (pc' := 16) rfl ?_
    show pv_E Γ d kc ks mX11_bad 16 [some (.ref 100), some (.int x), some (.int y), some (.int z), some (.int u)] [.int (pf_b (1 ≤ y ∧ y ≤ x))] ty h r g Q
    refine pv_if_eq (tgt := 40) dX11_bad_16 (by decide) (fun c2 => ?_) (fun c2 => ?_)
    · have F := F.1 c2
      refine pv_iconst (v := (-1)) (by decide) dX11_bad_40 ?_
      exact pv_ireturn dX11_bad_41 rfl rfl F
    · have F := F.2 c2
      refine pv_iload_n dX11_bad_19 rfl ?_
      refine pv_iconst (v := 0) (by decide) dX11_bad_20 ?_
      refine pv_iload_n dX11_bad_21 rfl ?_
      refine pv_invS (As := [.int z, .int 0, .int y]) (d' := d - 1) dX11_bad_22 moX11_within ml_X11_69 (Nat.le_of_ble_eq_true rfl) (by omega) (Nat.zero_le _) (Nat.zero_le _) (ct_X11_within (by omega)) (fun v ty' h' r' g' hq => ?_) rfl
      obtain ⟨e1, e2, e3, e4, e5⟩ := hq
      rw [e1, e2, e3, e4, e5]
      refine pv_pc (pc' := 25) rfl ?_
      show pv_E Γ d kc ks mX11_bad 25 [some (.ref 100), some (.int x), some (.int y), some (.int z), some (.int u)] [.int (pf_b (0 ≤ z ∧ z ≤ y))] ty h r g Q
      refine pv_if_eq (tgt := 40) dX11_bad_25 (by decide) (fun c3 => ?_) (fun c3 => ?_)
      · have F := F.1 c3
        refine pv_iconst (v := (-1)) (by decide) dX11_bad_40 ?_
        exact pv_ireturn dX11_bad_41 rfl rfl F
      · have F := F.2 c3
        refine pv_iload dX11_bad_28 rfl ?_
        refine pv_iconst (v := 1) (by decide) dX11_bad_30 ?_
        refine pv_sipush (v := 9999) (by decide) dX11_bad_31 ?_
        refine pv_invS (As := [.int u, .int 1, .int 9999]) (d' := d - 1) dX11_bad_34 moX11_within ml_X11_69 (Nat.le_of_ble_eq_true rfl) (by omega) (Nat.zero_le _) (Nat.zero_le _) (ct_X11_within (by omega)) (fun v ty' h' r' g' hq => ?_) rfl
        obtain ⟨e1, e2, e3, e4, e5⟩ := hq
        rw [e1, e2, e3, e4, e5]
        refine pv_pc (pc' := 37) rfl ?_
        show pv_E Γ d kc ks mX11_bad 37 [some (.ref 100), some (.int x), some (.int y), some (.int z), some (.int u)] [.int (pf_b (1 ≤ u ∧ u ≤ 9999))] ty h r g Q
        refine pv_if_ne (tgt := 42) dX11_bad_37 (by decide) (fun c4 => ?_) (fun c4 => ?_)
        · have F := F.1 c4
          refine pv_aload_n dX11_bad_42 rfl ?_
          refine pv_getRk 11 13 dX11_bad_43 fl_X11_65 rfl (lt_100 hL) (lr_100_13 hL) ?_
          refine pv_iload_n dX11_bad_46 rfl ?_
          refine pv_iload_n dX11_bad_47 rfl ?_
          refine pv_iload_n dX11_bad_48 rfl ?_
          refine pv_iload dX11_bad_49 rfl ?_
          refine pv_pc (pc' := 51) rfl ?_
          refine pv_invV (As := [.int x, .int y, .int z, .int u]) (d' := d - 1) dX11_bad_51 moX5_mostBad ml_X11_290 (lt_90 hL) (Or.inl ⟨_, rfl, rfl⟩) (Nat.le_of_ble_eq_true rfl) (by omega) (Nat.zero_le _) (Nat.zero_le _) F (fun v1 ty1 h1 r1 g1 F => ?_) rfl
          obtain ⟨w1, rfl, F⟩ := F
          obtain ⟨hL1, F⟩ := F
          refine pv_pc (pc' := 54) rfl ?_
          show pv_E Γ d kc ks mX11_bad 54 [some (.ref 100), some (.int x), some (.int y), some (.int z), some (.int u)] [.int w1] ty1 h1 r1 g1 Q
          exact pv_ireturn dX11_bad_54 rfl rfl F
        · have F := F.2 c4
          refine pv_iconst (v := (-1)) (by decide) dX11_bad_40 ?_
          exact pv_ireturn dX11_bad_41 rfl rfl F
