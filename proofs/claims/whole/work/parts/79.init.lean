/-! the constructors of both sides (by program: wip/gen/mkinit.py) -/
def tyX (t : pv_T) : List (Nat × Nat × Nat) → pv_T
  | [] => t
  | q :: l => pv_newT (tyX t l) q.1 q.2.1 q.2.2
def rX (r : pv_R) : List (Nat × Nat × Nat) → pv_R
  | [] => r
  | q :: l => pv_up (rX r l) q.1 q.2.1 q.2.2
/-- the script's length L; the two text constants and their bytes -/
def iT (L : Nat) : pv_T := fun a => if a = 1 then some (20, L) else if a = 2 then some (30, 0) else if a = 3 then some (30, 0) else if a = 4 then some (21, 6) else if a = 5 then some (21, 5) else none
def iR : pv_R := fun a _ => if a = 2 then 4 else if a = 3 then 5 else 0
def iz (h : pv_H) (g : pv_G) (a : Nat) : Prop := (∀ j, h a j = 0) ∧ ∀ j, g a j = 0
theorem pv_new_0 {α : Type} {f : Nat → Nat → α} {a : Nat} {x : α} (q : ∀ j, f a j = x) : pv_new f a x = f := by
  funext b j
  unfold pv_new
  split
  · rename_i e; rw [e, q j]
  · rfl
theorem pi_A (nm k n : Nat) {v : Int32} {ty : pv_T} {h : pv_H} {r : pv_R} {g : pv_G} {kc ks : Nat} (hv : ¬ v < 0) (hn : v.toNatClampNeg = n) (hn2 : n ≤ 1000000) (h10 : 10 ≤ nm) (hf : ty nm = none) (hkc : 1 ≤ kc) (hks : n ≤ ks) (hz : iz h g nm) (hr : ∀ j, r nm j = 0) {X : Nat → Nat → pv_T → pv_H → pv_R → pv_G → Prop} (F : X nm n (pv_newT ty nm k n) h r g) : ∃ nm1 n1 : Nat, ¬ v < 0 ∧ Int32.toNatClampNeg v = n1 ∧ n1 ≤ 1000000 ∧ 10 ≤ nm1 ∧ ty nm1 = none ∧ 1 ≤ kc ∧ n1 ≤ ks ∧ (∀ (ty1 : pv_T) (h1 : pv_H) (r1 : pv_R) (g1 : pv_G), ty1 = pv_newT ty nm1 k n1 → h1 = pv_new h nm1 0 → r1 = pv_new r nm1 0 → g1 = pv_new g nm1 0 → X nm1 n1 ty1 h1 r1 g1) := by
  refine ⟨nm, n, hv, hn, hn2, h10, hf, hkc, hks, fun ty1 h1 r1 g1 e1 e2 e3 e4 => ?_⟩
  rw [pv_new_0 hz.1] at e2
  rw [pv_new_0 hr] at e3
  rw [pv_new_0 hz.2] at e4
  rw [e1, e2, e3, e4]
  exact F
theorem pi_O (nm k s : Nat) {ty : pv_T} {h : pv_H} {r : pv_R} {g : pv_G} {kc ks : Nat} (h10 : 10 ≤ nm) (hf : ty nm = none) (hkc : 1 ≤ kc) (hks : s ≤ ks) (hz : iz h g nm) (hr : ∀ j, r nm j = 0) {X : Nat → pv_T → pv_H → pv_R → pv_G → Prop} (F : X nm (pv_newT ty nm k 0) h r g) : ∃ nm1 : Nat, 10 ≤ nm1 ∧ ty nm1 = none ∧ 1 ≤ kc ∧ s ≤ ks ∧ (∀ (ty1 : pv_T) (h1 : pv_H) (r1 : pv_R) (g1 : pv_G), ty1 = pv_newT ty nm1 k 0 → h1 = pv_new h nm1 0 → r1 = pv_new r nm1 0 → g1 = pv_new g nm1 0 → X nm1 ty1 h1 r1 g1) := by
  refine ⟨nm, h10, hf, hkc, hks, fun ty1 h1 r1 g1 e1 e2 e3 e4 => ?_⟩
  rw [pv_new_0 hz.1] at e2
  rw [pv_new_0 hr] at e3
  rw [pv_new_0 hz.2] at e4
  rw [e1, e2, e3, e4]
  exact F
set_option maxRecDepth 20000 in
set_option maxHeartbeats 4000000 in
theorem sg_X2_init_0 {Γ : pv_C} {d kc ks : Nat} {ty : pv_T} {h : pv_H} {r : pv_R} {g : pv_G} {Q : pv_Q} (a : Nat) (hd : 1 ≤ d) (F : a ≠ 0 ∧ pv_E Γ d kc ks mX2_init 4 [some (.ref a)] [] ty h r g Q) : pv_E Γ d kc ks mX2_init 0 [some (.ref a)] [] ty h r g Q := by
  refine pv_aload_n dX2_init_0 rfl ?_
  obtain ⟨q1, F⟩ := F
  refine pv_objI dX2_init_1 ml_X2_3 obj_i obj_c q1 (by omega) (Nat.le_of_ble_eq_true rfl) ?_
  exact F
set_option maxRecDepth 20000 in
set_option maxHeartbeats 4000000 in
theorem sg_X2_init_4 {Γ : pv_C} {d kc ks : Nat} {ty : pv_T} {h : pv_H} {r : pv_R} {g : pv_G} {Q : pv_Q} (a0 : Nat) (F : (∃ nm1 n1 : Nat, ¬ (144 : Int32) < 0 ∧ Int32.toNatClampNeg 144 = n1 ∧ n1 ≤ 1000000 ∧ 10 ≤ nm1 ∧ ty nm1 = none ∧ 1 ≤ kc ∧ n1 ≤ ks ∧ (∀ (ty1 : pv_T) (h1 : pv_H) (r1 : pv_R) (g1 : pv_G), ty1 = pv_newT ty nm1 20 n1 → h1 = pv_new h nm1 0 → r1 = pv_new r nm1 0 → g1 = pv_new g nm1 0 → ty1 a0 = some (2, 0) ∧ (∀ r2 : pv_R, r2 = pv_up r1 a0 0 nm1 → pv_E Γ d (kc - 1) (ks - n1) mX2_init 13 [some (.ref a0)] [] ty1 h1 r2 g1 Q)))) : pv_E Γ d kc ks mX2_init 4 [some (.ref a0)] [] ty h r g Q := by
  refine pv_aload_n dX2_init_4 rfl ?_
  refine pv_sipush (v := 144) (by decide) dX2_init_5 ?_
  obtain ⟨nm1, n1, q1n, q1N, q1m, q1a, q1b, q1c, q1d, F⟩ := F
  obtain ⟨ty1, ety1⟩ : ∃ ty1 : pv_T, ty1 = pv_newT ty nm1 20 n1 := ⟨_, rfl⟩
  obtain ⟨h1, eh1⟩ : ∃ h1 : pv_H, h1 = pv_new h nm1 0 := ⟨_, rfl⟩
  obtain ⟨r1, er1⟩ : ∃ r1 : pv_R, r1 = pv_new r nm1 0 := ⟨_, rfl⟩
  obtain ⟨g1, eg1⟩ : ∃ g1 : pv_G, g1 = pv_new g nm1 0 := ⟨_, rfl⟩
  have F := F ty1 h1 r1 g1 ety1 eh1 er1 eg1
  refine pv_newA nm1 20 n1 dX2_init_8 rfl (by decide) ac_int q1n q1N q1m q1a q1b q1c q1d ?_
  refine pv_nE ety1 eh1 er1 eg1 ?_
  obtain ⟨q2, F⟩ := F
  obtain ⟨r2, er2⟩ : ∃ r2 : pv_R, r2 = pv_up r1 a0 0 nm1 := ⟨_, rfl⟩
  have F := F r2 er2
  refine pv_putR 2 0 dX2_init_10 fl_X2_9 ⟨_, rfl, Or.inr ⟨rfl, rfl, rfl⟩⟩ rfl q2 ?_
  refine pv_rE er2 ?_
  exact F
set_option maxRecDepth 20000 in
set_option maxHeartbeats 4000000 in
theorem sg_X2_init_13 {Γ : pv_C} {d kc ks : Nat} {ty : pv_T} {h : pv_H} {r : pv_R} {g : pv_G} {Q : pv_Q} (a0 : Nat) (F : (∃ nm1 n1 : Nat, ¬ (144 : Int32) < 0 ∧ Int32.toNatClampNeg 144 = n1 ∧ n1 ≤ 1000000 ∧ 10 ≤ nm1 ∧ ty nm1 = none ∧ 1 ≤ kc ∧ n1 ≤ ks ∧ (∀ (ty1 : pv_T) (h1 : pv_H) (r1 : pv_R) (g1 : pv_G), ty1 = pv_newT ty nm1 20 n1 → h1 = pv_new h nm1 0 → r1 = pv_new r nm1 0 → g1 = pv_new g nm1 0 → ty1 a0 = some (2, 0) ∧ (∀ r2 : pv_R, r2 = pv_up r1 a0 1 nm1 → Q none ty1 h1 r2 g1)))) : pv_E Γ d kc ks mX2_init 13 [some (.ref a0)] [] ty h r g Q := by
  refine pv_aload_n dX2_init_13 rfl ?_
  refine pv_sipush (v := 144) (by decide) dX2_init_14 ?_
  obtain ⟨nm1, n1, q1n, q1N, q1m, q1a, q1b, q1c, q1d, F⟩ := F
  obtain ⟨ty1, ety1⟩ : ∃ ty1 : pv_T, ty1 = pv_newT ty nm1 20 n1 := ⟨_, rfl⟩
  obtain ⟨h1, eh1⟩ : ∃ h1 : pv_H, h1 = pv_new h nm1 0 := ⟨_, rfl⟩
  obtain ⟨r1, er1⟩ : ∃ r1 : pv_R, r1 = pv_new r nm1 0 := ⟨_, rfl⟩
  obtain ⟨g1, eg1⟩ : ∃ g1 : pv_G, g1 = pv_new g nm1 0 := ⟨_, rfl⟩
  have F := F ty1 h1 r1 g1 ety1 eh1 er1 eg1
  refine pv_newA nm1 20 n1 dX2_init_17 rfl (by decide) ac_int q1n q1N q1m q1a q1b q1c q1d ?_
  refine pv_nE ety1 eh1 er1 eg1 ?_
  obtain ⟨q2, F⟩ := F
  obtain ⟨r2, er2⟩ : ∃ r2 : pv_R, r2 = pv_up r1 a0 1 nm1 := ⟨_, rfl⟩
  have F := F r2 er2
  refine pv_putR 2 1 dX2_init_19 fl_X2_15 ⟨_, rfl, Or.inr ⟨rfl, rfl, rfl⟩⟩ rfl q2 ?_
  refine pv_rE er2 ?_
  exact pv_return dX2_init_22 rfl F
set_option maxRecDepth 20000 in
set_option maxHeartbeats 4000000 in
theorem sg_X4_init_0 {Γ : pv_C} {d kc ks : Nat} {ty : pv_T} {h : pv_H} {r : pv_R} {g : pv_G} {Q : pv_Q} (a : Nat) (hd : 1 ≤ d) (F : a ≠ 0 ∧ pv_E Γ d kc ks mX4_init 4 [some (.ref a)] [] ty h r g Q) : pv_E Γ d kc ks mX4_init 0 [some (.ref a)] [] ty h r g Q := by
  refine pv_aload_n dX4_init_0 rfl ?_
  obtain ⟨q1, F⟩ := F
  refine pv_objI dX4_init_1 ml_X4_3 obj_i obj_c q1 (by omega) (Nat.le_of_ble_eq_true rfl) ?_
  exact F
set_option maxRecDepth 20000 in
set_option maxHeartbeats 4000000 in
theorem sg_X4_init_4 {Γ : pv_C} {d kc ks : Nat} {ty : pv_T} {h : pv_H} {r : pv_R} {g : pv_G} {Q : pv_Q} (a0 : Nat) (F : (∃ nm1 n1 : Nat, ¬ (900 : Int32) < 0 ∧ Int32.toNatClampNeg 900 = n1 ∧ n1 ≤ 1000000 ∧ 10 ≤ nm1 ∧ ty nm1 = none ∧ 1 ≤ kc ∧ n1 ≤ ks ∧ (∀ (ty1 : pv_T) (h1 : pv_H) (r1 : pv_R) (g1 : pv_G), ty1 = pv_newT ty nm1 20 n1 → h1 = pv_new h nm1 0 → r1 = pv_new r nm1 0 → g1 = pv_new g nm1 0 → ty1 a0 = some (4, 0) ∧ (∀ r2 : pv_R, r2 = pv_up r1 a0 0 nm1 → pv_E Γ d (kc - 1) (ks - n1) mX4_init 13 [some (.ref a0)] [] ty1 h1 r2 g1 Q)))) : pv_E Γ d kc ks mX4_init 4 [some (.ref a0)] [] ty h r g Q := by
  refine pv_aload_n dX4_init_4 rfl ?_
  refine pv_sipush (v := 900) (by decide) dX4_init_5 ?_
  obtain ⟨nm1, n1, q1n, q1N, q1m, q1a, q1b, q1c, q1d, F⟩ := F
  obtain ⟨ty1, ety1⟩ : ∃ ty1 : pv_T, ty1 = pv_newT ty nm1 20 n1 := ⟨_, rfl⟩
  obtain ⟨h1, eh1⟩ : ∃ h1 : pv_H, h1 = pv_new h nm1 0 := ⟨_, rfl⟩
  obtain ⟨r1, er1⟩ : ∃ r1 : pv_R, r1 = pv_new r nm1 0 := ⟨_, rfl⟩
  obtain ⟨g1, eg1⟩ : ∃ g1 : pv_G, g1 = pv_new g nm1 0 := ⟨_, rfl⟩
  have F := F ty1 h1 r1 g1 ety1 eh1 er1 eg1
  refine pv_newA nm1 20 n1 dX4_init_8 rfl (by decide) ac_int q1n q1N q1m q1a q1b q1c q1d ?_
  refine pv_nE ety1 eh1 er1 eg1 ?_
  obtain ⟨q2, F⟩ := F
  obtain ⟨r2, er2⟩ : ∃ r2 : pv_R, r2 = pv_up r1 a0 0 nm1 := ⟨_, rfl⟩
  have F := F r2 er2
  refine pv_putR 4 0 dX4_init_10 fl_X4_11 ⟨_, rfl, Or.inr ⟨rfl, rfl, rfl⟩⟩ rfl q2 ?_
  refine pv_rE er2 ?_
  exact F
set_option maxRecDepth 20000 in
set_option maxHeartbeats 4000000 in
theorem sg_X4_init_13 {Γ : pv_C} {d kc ks : Nat} {ty : pv_T} {h : pv_H} {r : pv_R} {g : pv_G} {Q : pv_Q} (a0 : Nat) (F : (∃ nm1 n1 : Nat, ¬ (9 : Int32) < 0 ∧ Int32.toNatClampNeg 9 = n1 ∧ n1 ≤ 1000000 ∧ 10 ≤ nm1 ∧ ty nm1 = none ∧ 1 ≤ kc ∧ n1 ≤ ks ∧ (∀ (ty1 : pv_T) (h1 : pv_H) (r1 : pv_R) (g1 : pv_G), ty1 = pv_newT ty nm1 20 n1 → h1 = pv_new h nm1 0 → r1 = pv_new r nm1 0 → g1 = pv_new g nm1 0 → ty1 a0 = some (4, 0) ∧ (∀ r2 : pv_R, r2 = pv_up r1 a0 1 nm1 → pv_E Γ d (kc - 1) (ks - n1) mX4_init 21 [some (.ref a0)] [] ty1 h1 r2 g1 Q)))) : pv_E Γ d kc ks mX4_init 13 [some (.ref a0)] [] ty h r g Q := by
  refine pv_aload_n dX4_init_13 rfl ?_
  refine pv_bipush (v := 9) (by decide) dX4_init_14 ?_
  obtain ⟨nm1, n1, q1n, q1N, q1m, q1a, q1b, q1c, q1d, F⟩ := F
  obtain ⟨ty1, ety1⟩ : ∃ ty1 : pv_T, ty1 = pv_newT ty nm1 20 n1 := ⟨_, rfl⟩
  obtain ⟨h1, eh1⟩ : ∃ h1 : pv_H, h1 = pv_new h nm1 0 := ⟨_, rfl⟩
  obtain ⟨r1, er1⟩ : ∃ r1 : pv_R, r1 = pv_new r nm1 0 := ⟨_, rfl⟩
  obtain ⟨g1, eg1⟩ : ∃ g1 : pv_G, g1 = pv_new g nm1 0 := ⟨_, rfl⟩
  have F := F ty1 h1 r1 g1 ety1 eh1 er1 eg1
  refine pv_newA nm1 20 n1 dX4_init_16 rfl (by decide) ac_int q1n q1N q1m q1a q1b q1c q1d ?_
  refine pv_nE ety1 eh1 er1 eg1 ?_
  obtain ⟨q2, F⟩ := F
  obtain ⟨r2, er2⟩ : ∃ r2 : pv_R, r2 = pv_up r1 a0 1 nm1 := ⟨_, rfl⟩
  have F := F r2 er2
  refine pv_putR 4 1 dX4_init_18 fl_X4_15 ⟨_, rfl, Or.inr ⟨rfl, rfl, rfl⟩⟩ rfl q2 ?_
  refine pv_rE er2 ?_
  exact F
set_option maxRecDepth 20000 in
set_option maxHeartbeats 4000000 in
theorem sg_X4_init_21 {Γ : pv_C} {d kc ks : Nat} {ty : pv_T} {h : pv_H} {r : pv_R} {g : pv_G} {Q : pv_Q} (a0 : Nat) (F : (∃ nm1 n1 : Nat, ¬ (9 : Int32) < 0 ∧ Int32.toNatClampNeg 9 = n1 ∧ n1 ≤ 1000000 ∧ 10 ≤ nm1 ∧ ty nm1 = none ∧ 1 ≤ kc ∧ n1 ≤ ks ∧ (∀ (ty1 : pv_T) (h1 : pv_H) (r1 : pv_R) (g1 : pv_G), ty1 = pv_newT ty nm1 20 n1 → h1 = pv_new h nm1 0 → r1 = pv_new r nm1 0 → g1 = pv_new g nm1 0 → ty1 a0 = some (4, 0) ∧ (∀ r2 : pv_R, r2 = pv_up r1 a0 2 nm1 → Q none ty1 h1 r2 g1)))) : pv_E Γ d kc ks mX4_init 21 [some (.ref a0)] [] ty h r g Q := by
  refine pv_aload_n dX4_init_21 rfl ?_
  refine pv_bipush (v := 9) (by decide) dX4_init_22 ?_
  obtain ⟨nm1, n1, q1n, q1N, q1m, q1a, q1b, q1c, q1d, F⟩ := F
  obtain ⟨ty1, ety1⟩ : ∃ ty1 : pv_T, ty1 = pv_newT ty nm1 20 n1 := ⟨_, rfl⟩
  obtain ⟨h1, eh1⟩ : ∃ h1 : pv_H, h1 = pv_new h nm1 0 := ⟨_, rfl⟩
  obtain ⟨r1, er1⟩ : ∃ r1 : pv_R, r1 = pv_new r nm1 0 := ⟨_, rfl⟩
  obtain ⟨g1, eg1⟩ : ∃ g1 : pv_G, g1 = pv_new g nm1 0 := ⟨_, rfl⟩
  have F := F ty1 h1 r1 g1 ety1 eh1 er1 eg1
  refine pv_newA nm1 20 n1 dX4_init_24 rfl (by decide) ac_int q1n q1N q1m q1a q1b q1c q1d ?_
  refine pv_nE ety1 eh1 er1 eg1 ?_
  obtain ⟨q2, F⟩ := F
  obtain ⟨r2, er2⟩ : ∃ r2 : pv_R, r2 = pv_up r1 a0 2 nm1 := ⟨_, rfl⟩
  have F := F r2 er2
  refine pv_putR 4 2 dX4_init_26 fl_X4_18 ⟨_, rfl, Or.inr ⟨rfl, rfl, rfl⟩⟩ rfl q2 ?_
  refine pv_rE er2 ?_
  exact pv_return dX4_init_29 rfl F
set_option maxRecDepth 20000 in
set_option maxHeartbeats 4000000 in
theorem sg_X10_init_0 {Γ : pv_C} {d kc ks : Nat} {ty : pv_T} {h : pv_H} {r : pv_R} {g : pv_G} {Q : pv_Q} (a : Nat) (hd : 1 ≤ d) (F : a ≠ 0 ∧ pv_E Γ d kc ks mX10_init 4 [some (.ref a)] [] ty h r g Q) : pv_E Γ d kc ks mX10_init 0 [some (.ref a)] [] ty h r g Q := by
  refine pv_aload_n dX10_init_0 rfl ?_
  obtain ⟨q1, F⟩ := F
  refine pv_objI dX10_init_1 ml_X10_3 obj_i obj_c q1 (by omega) (Nat.le_of_ble_eq_true rfl) ?_
  exact F
set_option maxRecDepth 20000 in
set_option maxHeartbeats 4000000 in
theorem sg_X10_init_4 {Γ : pv_C} {d kc ks : Nat} {ty : pv_T} {h : pv_H} {r : pv_R} {g : pv_G} {Q : pv_Q} (a0 : Nat) (F : (∃ nm1 n1 : Nat, ¬ (10 : Int32) < 0 ∧ Int32.toNatClampNeg 10 = n1 ∧ n1 ≤ 1000000 ∧ 10 ≤ nm1 ∧ ty nm1 = none ∧ 1 ≤ kc ∧ n1 ≤ ks ∧ (∀ (ty1 : pv_T) (h1 : pv_H) (r1 : pv_R) (g1 : pv_G), ty1 = pv_newT ty nm1 20 n1 → h1 = pv_new h nm1 0 → r1 = pv_new r nm1 0 → g1 = pv_new g nm1 0 → ty1 a0 = some (10, 0) ∧ (∀ r2 : pv_R, r2 = pv_up r1 a0 0 nm1 → pv_E Γ d (kc - 1) (ks - n1) mX10_init 12 [some (.ref a0)] [] ty1 h1 r2 g1 Q)))) : pv_E Γ d kc ks mX10_init 4 [some (.ref a0)] [] ty h r g Q := by
  refine pv_aload_n dX10_init_4 rfl ?_
  refine pv_bipush (v := 10) (by decide) dX10_init_5 ?_
  obtain ⟨nm1, n1, q1n, q1N, q1m, q1a, q1b, q1c, q1d, F⟩ := F
  obtain ⟨ty1, ety1⟩ : ∃ ty1 : pv_T, ty1 = pv_newT ty nm1 20 n1 := ⟨_, rfl⟩
  obtain ⟨h1, eh1⟩ : ∃ h1 : pv_H, h1 = pv_new h nm1 0 := ⟨_, rfl⟩
  obtain ⟨r1, er1⟩ : ∃ r1 : pv_R, r1 = pv_new r nm1 0 := ⟨_, rfl⟩
  obtain ⟨g1, eg1⟩ : ∃ g1 : pv_G, g1 = pv_new g nm1 0 := ⟨_, rfl⟩
  have F := F ty1 h1 r1 g1 ety1 eh1 er1 eg1
  refine pv_newA nm1 20 n1 dX10_init_7 rfl (by decide) ac_int q1n q1N q1m q1a q1b q1c q1d ?_
  refine pv_nE ety1 eh1 er1 eg1 ?_
  obtain ⟨q2, F⟩ := F
  obtain ⟨r2, er2⟩ : ∃ r2 : pv_R, r2 = pv_up r1 a0 0 nm1 := ⟨_, rfl⟩
  have F := F r2 er2
  refine pv_putR 10 0 dX10_init_9 fl_X10_9 ⟨_, rfl, Or.inr ⟨rfl, rfl, rfl⟩⟩ rfl q2 ?_
  refine pv_rE er2 ?_
  exact F
set_option maxRecDepth 20000 in
set_option maxHeartbeats 4000000 in
theorem sg_X10_init_12 {Γ : pv_C} {d kc ks : Nat} {ty : pv_T} {h : pv_H} {r : pv_R} {g : pv_G} {Q : pv_Q} (a0 : Nat) (F : (∃ nm1 n1 : Nat, ¬ (610 : Int32) < 0 ∧ Int32.toNatClampNeg 610 = n1 ∧ n1 ≤ 1000000 ∧ 10 ≤ nm1 ∧ ty nm1 = none ∧ 1 ≤ kc ∧ n1 ≤ ks ∧ (∀ (ty1 : pv_T) (h1 : pv_H) (r1 : pv_R) (g1 : pv_G), ty1 = pv_newT ty nm1 20 n1 → h1 = pv_new h nm1 0 → r1 = pv_new r nm1 0 → g1 = pv_new g nm1 0 → ty1 a0 = some (10, 0) ∧ (∀ r2 : pv_R, r2 = pv_up r1 a0 1 nm1 → pv_E Γ d (kc - 1) (ks - n1) mX10_init 21 [some (.ref a0)] [] ty1 h1 r2 g1 Q)))) : pv_E Γ d kc ks mX10_init 12 [some (.ref a0)] [] ty h r g Q := by
  refine pv_aload_n dX10_init_12 rfl ?_
  refine pv_sipush (v := 610) (by decide) dX10_init_13 ?_
  obtain ⟨nm1, n1, q1n, q1N, q1m, q1a, q1b, q1c, q1d, F⟩ := F
  obtain ⟨ty1, ety1⟩ : ∃ ty1 : pv_T, ty1 = pv_newT ty nm1 20 n1 := ⟨_, rfl⟩
  obtain ⟨h1, eh1⟩ : ∃ h1 : pv_H, h1 = pv_new h nm1 0 := ⟨_, rfl⟩
  obtain ⟨r1, er1⟩ : ∃ r1 : pv_R, r1 = pv_new r nm1 0 := ⟨_, rfl⟩
  obtain ⟨g1, eg1⟩ : ∃ g1 : pv_G, g1 = pv_new g nm1 0 := ⟨_, rfl⟩
  have F := F ty1 h1 r1 g1 ety1 eh1 er1 eg1
  refine pv_newA nm1 20 n1 dX10_init_16 rfl (by decide) ac_int q1n q1N q1m q1a q1b q1c q1d ?_
  refine pv_nE ety1 eh1 er1 eg1 ?_
  obtain ⟨q2, F⟩ := F
  obtain ⟨r2, er2⟩ : ∃ r2 : pv_R, r2 = pv_up r1 a0 1 nm1 := ⟨_, rfl⟩
  have F := F r2 er2
  refine pv_putR 10 1 dX10_init_18 fl_X10_15 ⟨_, rfl, Or.inr ⟨rfl, rfl, rfl⟩⟩ rfl q2 ?_
  refine pv_rE er2 ?_
  exact F
set_option maxRecDepth 20000 in
set_option maxHeartbeats 4000000 in
theorem sg_X10_init_21 {Γ : pv_C} {d kc ks : Nat} {ty : pv_T} {h : pv_H} {r : pv_R} {g : pv_G} {Q : pv_Q} (a0 : Nat) (F : (∃ nm1 n1 : Nat, ¬ (10 : Int32) < 0 ∧ Int32.toNatClampNeg 10 = n1 ∧ n1 ≤ 1000000 ∧ 10 ≤ nm1 ∧ ty nm1 = none ∧ 1 ≤ kc ∧ n1 ≤ ks ∧ (∀ (ty1 : pv_T) (h1 : pv_H) (r1 : pv_R) (g1 : pv_G), ty1 = pv_newT ty nm1 20 n1 → h1 = pv_new h nm1 0 → r1 = pv_new r nm1 0 → g1 = pv_new g nm1 0 → ty1 a0 = some (10, 0) ∧ (∀ r2 : pv_R, r2 = pv_up r1 a0 2 nm1 → pv_E Γ d (kc - 1) (ks - n1) mX10_init 29 [some (.ref a0)] [] ty1 h1 r2 g1 Q)))) : pv_E Γ d kc ks mX10_init 21 [some (.ref a0)] [] ty h r g Q := by
  refine pv_aload_n dX10_init_21 rfl ?_
  refine pv_bipush (v := 10) (by decide) dX10_init_22 ?_
  obtain ⟨nm1, n1, q1n, q1N, q1m, q1a, q1b, q1c, q1d, F⟩ := F
  obtain ⟨ty1, ety1⟩ : ∃ ty1 : pv_T, ty1 = pv_newT ty nm1 20 n1 := ⟨_, rfl⟩
  obtain ⟨h1, eh1⟩ : ∃ h1 : pv_H, h1 = pv_new h nm1 0 := ⟨_, rfl⟩
  obtain ⟨r1, er1⟩ : ∃ r1 : pv_R, r1 = pv_new r nm1 0 := ⟨_, rfl⟩
  obtain ⟨g1, eg1⟩ : ∃ g1 : pv_G, g1 = pv_new g nm1 0 := ⟨_, rfl⟩
  have F := F ty1 h1 r1 g1 ety1 eh1 er1 eg1
  refine pv_newA nm1 20 n1 dX10_init_24 rfl (by decide) ac_int q1n q1N q1m q1a q1b q1c q1d ?_
  refine pv_nE ety1 eh1 er1 eg1 ?_
  obtain ⟨q2, F⟩ := F
  obtain ⟨r2, er2⟩ : ∃ r2 : pv_R, r2 = pv_up r1 a0 2 nm1 := ⟨_, rfl⟩
  have F := F r2 er2
  refine pv_putR 10 2 dX10_init_26 fl_X10_18 ⟨_, rfl, Or.inr ⟨rfl, rfl, rfl⟩⟩ rfl q2 ?_
  refine pv_rE er2 ?_
  exact F
set_option maxRecDepth 20000 in
set_option maxHeartbeats 4000000 in
theorem sg_X10_init_29 {Γ : pv_C} {d kc ks : Nat} {ty : pv_T} {h : pv_H} {r : pv_R} {g : pv_G} {Q : pv_Q} (a0 : Nat) (F : (∃ nm1 n1 : Nat, ¬ (10 : Int32) < 0 ∧ Int32.toNatClampNeg 10 = n1 ∧ n1 ≤ 1000000 ∧ 10 ≤ nm1 ∧ ty nm1 = none ∧ 1 ≤ kc ∧ n1 ≤ ks ∧ (∀ (ty1 : pv_T) (h1 : pv_H) (r1 : pv_R) (g1 : pv_G), ty1 = pv_newT ty nm1 20 n1 → h1 = pv_new h nm1 0 → r1 = pv_new r nm1 0 → g1 = pv_new g nm1 0 → ty1 a0 = some (10, 0) ∧ (∀ r2 : pv_R, r2 = pv_up r1 a0 3 nm1 → Q none ty1 h1 r2 g1)))) : pv_E Γ d kc ks mX10_init 29 [some (.ref a0)] [] ty h r g Q := by
  refine pv_aload_n dX10_init_29 rfl ?_
  refine pv_bipush (v := 10) (by decide) dX10_init_30 ?_
  obtain ⟨nm1, n1, q1n, q1N, q1m, q1a, q1b, q1c, q1d, F⟩ := F
  obtain ⟨ty1, ety1⟩ : ∃ ty1 : pv_T, ty1 = pv_newT ty nm1 20 n1 := ⟨_, rfl⟩
  obtain ⟨h1, eh1⟩ : ∃ h1 : pv_H, h1 = pv_new h nm1 0 := ⟨_, rfl⟩
  obtain ⟨r1, er1⟩ : ∃ r1 : pv_R, r1 = pv_new r nm1 0 := ⟨_, rfl⟩
  obtain ⟨g1, eg1⟩ : ∃ g1 : pv_G, g1 = pv_new g nm1 0 := ⟨_, rfl⟩
  have F := F ty1 h1 r1 g1 ety1 eh1 er1 eg1
  refine pv_newA nm1 20 n1 dX10_init_32 rfl (by decide) ac_int q1n q1N q1m q1a q1b q1c q1d ?_
  refine pv_nE ety1 eh1 er1 eg1 ?_
  obtain ⟨q2, F⟩ := F
  obtain ⟨r2, er2⟩ : ∃ r2 : pv_R, r2 = pv_up r1 a0 3 nm1 := ⟨_, rfl⟩
  have F := F r2 er2
  refine pv_putR 10 3 dX10_init_34 fl_X10_21 ⟨_, rfl, Or.inr ⟨rfl, rfl, rfl⟩⟩ rfl q2 ?_
  refine pv_rE er2 ?_
  exact pv_return dX10_init_37 rfl F
set_option maxRecDepth 20000 in
set_option maxHeartbeats 4000000 in
theorem sg_X7_init_0 {Γ : pv_C} {d kc ks : Nat} {ty : pv_T} {h : pv_H} {r : pv_R} {g : pv_G} {Q : pv_Q} (a : Nat) (hd : 1 ≤ d) (F : a ≠ 0 ∧ pv_E Γ d kc ks mX7_init 4 [some (.ref a)] [] ty h r g Q) : pv_E Γ d kc ks mX7_init 0 [some (.ref a)] [] ty h r g Q := by
  refine pv_aload_n dX7_init_0 rfl ?_
  obtain ⟨q1, F⟩ := F
  refine pv_objI dX7_init_1 ml_X7_3 obj_i obj_c q1 (by omega) (Nat.le_of_ble_eq_true rfl) ?_
  exact F
set_option maxRecDepth 20000 in
set_option maxHeartbeats 4000000 in
theorem sg_X7_init_4 {Γ : pv_C} {d kc ks : Nat} {ty : pv_T} {h : pv_H} {r : pv_R} {g : pv_G} {Q : pv_Q} (a0 : Nat) (F : (∃ nm1 n1 : Nat, ¬ (6 : Int32) < 0 ∧ Int32.toNatClampNeg 6 = n1 ∧ n1 ≤ 1000000 ∧ 10 ≤ nm1 ∧ ty nm1 = none ∧ 1 ≤ kc ∧ n1 ≤ ks ∧ (∀ (ty1 : pv_T) (h1 : pv_H) (r1 : pv_R) (g1 : pv_G), ty1 = pv_newT ty nm1 20 n1 → h1 = pv_new h nm1 0 → r1 = pv_new r nm1 0 → g1 = pv_new g nm1 0 → ty1 a0 = some (7, 0) ∧ (∀ r2 : pv_R, r2 = pv_up r1 a0 0 nm1 → pv_E Γ d (kc - 1) (ks - n1) mX7_init 12 [some (.ref a0)] [] ty1 h1 r2 g1 Q)))) : pv_E Γ d kc ks mX7_init 4 [some (.ref a0)] [] ty h r g Q := by
  refine pv_aload_n dX7_init_4 rfl ?_
  refine pv_bipush (v := 6) (by decide) dX7_init_5 ?_
  obtain ⟨nm1, n1, q1n, q1N, q1m, q1a, q1b, q1c, q1d, F⟩ := F
  obtain ⟨ty1, ety1⟩ : ∃ ty1 : pv_T, ty1 = pv_newT ty nm1 20 n1 := ⟨_, rfl⟩
  obtain ⟨h1, eh1⟩ : ∃ h1 : pv_H, h1 = pv_new h nm1 0 := ⟨_, rfl⟩
  obtain ⟨r1, er1⟩ : ∃ r1 : pv_R, r1 = pv_new r nm1 0 := ⟨_, rfl⟩
  obtain ⟨g1, eg1⟩ : ∃ g1 : pv_G, g1 = pv_new g nm1 0 := ⟨_, rfl⟩
  have F := F ty1 h1 r1 g1 ety1 eh1 er1 eg1
  refine pv_newA nm1 20 n1 dX7_init_7 rfl (by decide) ac_int q1n q1N q1m q1a q1b q1c q1d ?_
  refine pv_nE ety1 eh1 er1 eg1 ?_
  obtain ⟨q2, F⟩ := F
  obtain ⟨r2, er2⟩ : ∃ r2 : pv_R, r2 = pv_up r1 a0 0 nm1 := ⟨_, rfl⟩
  have F := F r2 er2
  refine pv_putR 7 0 dX7_init_9 fl_X7_9 ⟨_, rfl, Or.inr ⟨rfl, rfl, rfl⟩⟩ rfl q2 ?_
  refine pv_rE er2 ?_
  exact F
set_option maxRecDepth 20000 in
set_option maxHeartbeats 4000000 in
theorem sg_X7_init_12 {Γ : pv_C} {d kc ks : Nat} {ty : pv_T} {h : pv_H} {r : pv_R} {g : pv_G} {Q : pv_Q} (a0 : Nat) (F : (∃ nm1 n1 : Nat, ¬ (18 : Int32) < 0 ∧ Int32.toNatClampNeg 18 = n1 ∧ n1 ≤ 1000000 ∧ 10 ≤ nm1 ∧ ty nm1 = none ∧ 1 ≤ kc ∧ n1 ≤ ks ∧ (∀ (ty1 : pv_T) (h1 : pv_H) (r1 : pv_R) (g1 : pv_G), ty1 = pv_newT ty nm1 20 n1 → h1 = pv_new h nm1 0 → r1 = pv_new r nm1 0 → g1 = pv_new g nm1 0 → ty1 a0 = some (7, 0) ∧ (∀ r2 : pv_R, r2 = pv_up r1 a0 1 nm1 → pv_E Γ d (kc - 1) (ks - n1) mX7_init 20 [some (.ref a0)] [] ty1 h1 r2 g1 Q)))) : pv_E Γ d kc ks mX7_init 12 [some (.ref a0)] [] ty h r g Q := by
  refine pv_aload_n dX7_init_12 rfl ?_
  refine pv_bipush (v := 18) (by decide) dX7_init_13 ?_
  obtain ⟨nm1, n1, q1n, q1N, q1m, q1a, q1b, q1c, q1d, F⟩ := F
  obtain ⟨ty1, ety1⟩ : ∃ ty1 : pv_T, ty1 = pv_newT ty nm1 20 n1 := ⟨_, rfl⟩
  obtain ⟨h1, eh1⟩ : ∃ h1 : pv_H, h1 = pv_new h nm1 0 := ⟨_, rfl⟩
  obtain ⟨r1, er1⟩ : ∃ r1 : pv_R, r1 = pv_new r nm1 0 := ⟨_, rfl⟩
  obtain ⟨g1, eg1⟩ : ∃ g1 : pv_G, g1 = pv_new g nm1 0 := ⟨_, rfl⟩
  have F := F ty1 h1 r1 g1 ety1 eh1 er1 eg1
  refine pv_newA nm1 20 n1 dX7_init_15 rfl (by decide) ac_int q1n q1N q1m q1a q1b q1c q1d ?_
  refine pv_nE ety1 eh1 er1 eg1 ?_
  obtain ⟨q2, F⟩ := F
  obtain ⟨r2, er2⟩ : ∃ r2 : pv_R, r2 = pv_up r1 a0 1 nm1 := ⟨_, rfl⟩
  have F := F r2 er2
  refine pv_putR 7 1 dX7_init_17 fl_X7_15 ⟨_, rfl, Or.inr ⟨rfl, rfl, rfl⟩⟩ rfl q2 ?_
  refine pv_rE er2 ?_
  exact F
set_option maxRecDepth 20000 in
set_option maxHeartbeats 4000000 in
theorem sg_X7_init_20 {Γ : pv_C} {d kc ks : Nat} {ty : pv_T} {h : pv_H} {r : pv_R} {g : pv_G} {Q : pv_Q} (a0 : Nat) (F : (∃ nm1 n1 : Nat, ¬ (18 : Int32) < 0 ∧ Int32.toNatClampNeg 18 = n1 ∧ n1 ≤ 1000000 ∧ 10 ≤ nm1 ∧ ty nm1 = none ∧ 1 ≤ kc ∧ n1 ≤ ks ∧ (∀ (ty1 : pv_T) (h1 : pv_H) (r1 : pv_R) (g1 : pv_G), ty1 = pv_newT ty nm1 20 n1 → h1 = pv_new h nm1 0 → r1 = pv_new r nm1 0 → g1 = pv_new g nm1 0 → ty1 a0 = some (7, 0) ∧ (∀ r2 : pv_R, r2 = pv_up r1 a0 2 nm1 → pv_E Γ d (kc - 1) (ks - n1) mX7_init 28 [some (.ref a0)] [] ty1 h1 r2 g1 Q)))) : pv_E Γ d kc ks mX7_init 20 [some (.ref a0)] [] ty h r g Q := by
  refine pv_aload_n dX7_init_20 rfl ?_
  refine pv_bipush (v := 18) (by decide) dX7_init_21 ?_
  obtain ⟨nm1, n1, q1n, q1N, q1m, q1a, q1b, q1c, q1d, F⟩ := F
  obtain ⟨ty1, ety1⟩ : ∃ ty1 : pv_T, ty1 = pv_newT ty nm1 20 n1 := ⟨_, rfl⟩
  obtain ⟨h1, eh1⟩ : ∃ h1 : pv_H, h1 = pv_new h nm1 0 := ⟨_, rfl⟩
  obtain ⟨r1, er1⟩ : ∃ r1 : pv_R, r1 = pv_new r nm1 0 := ⟨_, rfl⟩
  obtain ⟨g1, eg1⟩ : ∃ g1 : pv_G, g1 = pv_new g nm1 0 := ⟨_, rfl⟩
  have F := F ty1 h1 r1 g1 ety1 eh1 er1 eg1
  refine pv_newA nm1 20 n1 dX7_init_23 rfl (by decide) ac_int q1n q1N q1m q1a q1b q1c q1d ?_
  refine pv_nE ety1 eh1 er1 eg1 ?_
  obtain ⟨q2, F⟩ := F
  obtain ⟨r2, er2⟩ : ∃ r2 : pv_R, r2 = pv_up r1 a0 2 nm1 := ⟨_, rfl⟩
  have F := F r2 er2
  refine pv_putR 7 2 dX7_init_25 fl_X7_18 ⟨_, rfl, Or.inr ⟨rfl, rfl, rfl⟩⟩ rfl q2 ?_
  refine pv_rE er2 ?_
  exact F
set_option maxRecDepth 20000 in
set_option maxHeartbeats 4000000 in
theorem sg_X7_init_28 {Γ : pv_C} {d kc ks : Nat} {ty : pv_T} {h : pv_H} {r : pv_R} {g : pv_G} {Q : pv_Q} (a0 : Nat) (F : (∃ nm1 n1 : Nat, ¬ (3 : Int32) < 0 ∧ Int32.toNatClampNeg 3 = n1 ∧ n1 ≤ 1000000 ∧ 10 ≤ nm1 ∧ ty nm1 = none ∧ 1 ≤ kc ∧ n1 ≤ ks ∧ (∀ (ty1 : pv_T) (h1 : pv_H) (r1 : pv_R) (g1 : pv_G), ty1 = pv_newT ty nm1 20 n1 → h1 = pv_new h nm1 0 → r1 = pv_new r nm1 0 → g1 = pv_new g nm1 0 → ty1 a0 = some (7, 0) ∧ (∀ r2 : pv_R, r2 = pv_up r1 a0 3 nm1 → pv_E Γ d (kc - 1) (ks - n1) mX7_init 35 [some (.ref a0)] [] ty1 h1 r2 g1 Q)))) : pv_E Γ d kc ks mX7_init 28 [some (.ref a0)] [] ty h r g Q := by
  refine pv_aload_n dX7_init_28 rfl ?_
  refine pv_iconst (v := 3) (by decide) dX7_init_29 ?_
  obtain ⟨nm1, n1, q1n, q1N, q1m, q1a, q1b, q1c, q1d, F⟩ := F
  obtain ⟨ty1, ety1⟩ : ∃ ty1 : pv_T, ty1 = pv_newT ty nm1 20 n1 := ⟨_, rfl⟩
  obtain ⟨h1, eh1⟩ : ∃ h1 : pv_H, h1 = pv_new h nm1 0 := ⟨_, rfl⟩
  obtain ⟨r1, er1⟩ : ∃ r1 : pv_R, r1 = pv_new r nm1 0 := ⟨_, rfl⟩
  obtain ⟨g1, eg1⟩ : ∃ g1 : pv_G, g1 = pv_new g nm1 0 := ⟨_, rfl⟩
  have F := F ty1 h1 r1 g1 ety1 eh1 er1 eg1
  refine pv_newA nm1 20 n1 dX7_init_30 rfl (by decide) ac_int q1n q1N q1m q1a q1b q1c q1d ?_
  refine pv_nE ety1 eh1 er1 eg1 ?_
  obtain ⟨q2, F⟩ := F
  obtain ⟨r2, er2⟩ : ∃ r2 : pv_R, r2 = pv_up r1 a0 3 nm1 := ⟨_, rfl⟩
  have F := F r2 er2
  refine pv_putR 7 3 dX7_init_32 fl_X7_21 ⟨_, rfl, Or.inr ⟨rfl, rfl, rfl⟩⟩ rfl q2 ?_
  refine pv_rE er2 ?_
  exact F
set_option maxRecDepth 20000 in
set_option maxHeartbeats 4000000 in
theorem sg_X7_init_35 {Γ : pv_C} {d kc ks : Nat} {ty : pv_T} {h : pv_H} {r : pv_R} {g : pv_G} {Q : pv_Q} (a0 : Nat) (F : (∃ nm1 n1 : Nat, ¬ (6 : Int32) < 0 ∧ Int32.toNatClampNeg 6 = n1 ∧ n1 ≤ 1000000 ∧ 10 ≤ nm1 ∧ ty nm1 = none ∧ 1 ≤ kc ∧ n1 ≤ ks ∧ (∀ (ty1 : pv_T) (h1 : pv_H) (r1 : pv_R) (g1 : pv_G), ty1 = pv_newT ty nm1 20 n1 → h1 = pv_new h nm1 0 → r1 = pv_new r nm1 0 → g1 = pv_new g nm1 0 → ty1 a0 = some (7, 0) ∧ (∀ r2 : pv_R, r2 = pv_up r1 a0 4 nm1 → pv_E Γ d (kc - 1) (ks - n1) mX7_init 43 [some (.ref a0)] [] ty1 h1 r2 g1 Q)))) : pv_E Γ d kc ks mX7_init 35 [some (.ref a0)] [] ty h r g Q := by
  refine pv_aload_n dX7_init_35 rfl ?_
  refine pv_bipush (v := 6) (by decide) dX7_init_36 ?_
  obtain ⟨nm1, n1, q1n, q1N, q1m, q1a, q1b, q1c, q1d, F⟩ := F
  obtain ⟨ty1, ety1⟩ : ∃ ty1 : pv_T, ty1 = pv_newT ty nm1 20 n1 := ⟨_, rfl⟩
  obtain ⟨h1, eh1⟩ : ∃ h1 : pv_H, h1 = pv_new h nm1 0 := ⟨_, rfl⟩
  obtain ⟨r1, er1⟩ : ∃ r1 : pv_R, r1 = pv_new r nm1 0 := ⟨_, rfl⟩
  obtain ⟨g1, eg1⟩ : ∃ g1 : pv_G, g1 = pv_new g nm1 0 := ⟨_, rfl⟩
  have F := F ty1 h1 r1 g1 ety1 eh1 er1 eg1
  refine pv_newA nm1 20 n1 dX7_init_38 rfl (by decide) ac_int q1n q1N q1m q1a q1b q1c q1d ?_
  refine pv_nE ety1 eh1 er1 eg1 ?_
  obtain ⟨q2, F⟩ := F
  obtain ⟨r2, er2⟩ : ∃ r2 : pv_R, r2 = pv_up r1 a0 4 nm1 := ⟨_, rfl⟩
  have F := F r2 er2
  refine pv_putR 7 4 dX7_init_40 fl_X7_24 ⟨_, rfl, Or.inr ⟨rfl, rfl, rfl⟩⟩ rfl q2 ?_
  refine pv_rE er2 ?_
  exact F
set_option maxRecDepth 20000 in
set_option maxHeartbeats 4000000 in
theorem sg_X7_init_43 {Γ : pv_C} {d kc ks : Nat} {ty : pv_T} {h : pv_H} {r : pv_R} {g : pv_G} {Q : pv_Q} (a0 : Nat) (F : (∃ nm1 n1 : Nat, ¬ (6 : Int32) < 0 ∧ Int32.toNatClampNeg 6 = n1 ∧ n1 ≤ 1000000 ∧ 10 ≤ nm1 ∧ ty nm1 = none ∧ 1 ≤ kc ∧ n1 ≤ ks ∧ (∀ (ty1 : pv_T) (h1 : pv_H) (r1 : pv_R) (g1 : pv_G), ty1 = pv_newT ty nm1 20 n1 → h1 = pv_new h nm1 0 → r1 = pv_new r nm1 0 → g1 = pv_new g nm1 0 → ty1 a0 = some (7, 0) ∧ (∀ r2 : pv_R, r2 = pv_up r1 a0 5 nm1 → pv_E Γ d (kc - 1) (ks - n1) mX7_init 51 [some (.ref a0)] [] ty1 h1 r2 g1 Q)))) : pv_E Γ d kc ks mX7_init 43 [some (.ref a0)] [] ty h r g Q := by
  refine pv_aload_n dX7_init_43 rfl ?_
  refine pv_bipush (v := 6) (by decide) dX7_init_44 ?_
  obtain ⟨nm1, n1, q1n, q1N, q1m, q1a, q1b, q1c, q1d, F⟩ := F
  obtain ⟨ty1, ety1⟩ : ∃ ty1 : pv_T, ty1 = pv_newT ty nm1 20 n1 := ⟨_, rfl⟩
  obtain ⟨h1, eh1⟩ : ∃ h1 : pv_H, h1 = pv_new h nm1 0 := ⟨_, rfl⟩
  obtain ⟨r1, er1⟩ : ∃ r1 : pv_R, r1 = pv_new r nm1 0 := ⟨_, rfl⟩
  obtain ⟨g1, eg1⟩ : ∃ g1 : pv_G, g1 = pv_new g nm1 0 := ⟨_, rfl⟩
  have F := F ty1 h1 r1 g1 ety1 eh1 er1 eg1
  refine pv_newA nm1 20 n1 dX7_init_46 rfl (by decide) ac_int q1n q1N q1m q1a q1b q1c q1d ?_
  refine pv_nE ety1 eh1 er1 eg1 ?_
  obtain ⟨q2, F⟩ := F
  obtain ⟨r2, er2⟩ : ∃ r2 : pv_R, r2 = pv_up r1 a0 5 nm1 := ⟨_, rfl⟩
  have F := F r2 er2
  refine pv_putR 7 5 dX7_init_48 fl_X7_27 ⟨_, rfl, Or.inr ⟨rfl, rfl, rfl⟩⟩ rfl q2 ?_
  refine pv_rE er2 ?_
  exact F
set_option maxRecDepth 20000 in
set_option maxHeartbeats 4000000 in
theorem sg_X7_init_51 {Γ : pv_C} {d kc ks : Nat} {ty : pv_T} {h : pv_H} {r : pv_R} {g : pv_G} {Q : pv_Q} (a0 : Nat) (F : (∃ nm1 n1 : Nat, ¬ (8 : Int32) < 0 ∧ Int32.toNatClampNeg 8 = n1 ∧ n1 ≤ 1000000 ∧ 10 ≤ nm1 ∧ ty nm1 = none ∧ 1 ≤ kc ∧ n1 ≤ ks ∧ (∀ (ty1 : pv_T) (h1 : pv_H) (r1 : pv_R) (g1 : pv_G), ty1 = pv_newT ty nm1 20 n1 → h1 = pv_new h nm1 0 → r1 = pv_new r nm1 0 → g1 = pv_new g nm1 0 → ty1 a0 = some (7, 0) ∧ (∀ r2 : pv_R, r2 = pv_up r1 a0 6 nm1 → pv_E Γ d (kc - 1) (ks - n1) mX7_init 59 [some (.ref a0)] [] ty1 h1 r2 g1 Q)))) : pv_E Γ d kc ks mX7_init 51 [some (.ref a0)] [] ty h r g Q := by
  refine pv_aload_n dX7_init_51 rfl ?_
  refine pv_bipush (v := 8) (by decide) dX7_init_52 ?_
  obtain ⟨nm1, n1, q1n, q1N, q1m, q1a, q1b, q1c, q1d, F⟩ := F
  obtain ⟨ty1, ety1⟩ : ∃ ty1 : pv_T, ty1 = pv_newT ty nm1 20 n1 := ⟨_, rfl⟩
  obtain ⟨h1, eh1⟩ : ∃ h1 : pv_H, h1 = pv_new h nm1 0 := ⟨_, rfl⟩
  obtain ⟨r1, er1⟩ : ∃ r1 : pv_R, r1 = pv_new r nm1 0 := ⟨_, rfl⟩
  obtain ⟨g1, eg1⟩ : ∃ g1 : pv_G, g1 = pv_new g nm1 0 := ⟨_, rfl⟩
  have F := F ty1 h1 r1 g1 ety1 eh1 er1 eg1
  refine pv_newA nm1 20 n1 dX7_init_54 rfl (by decide) ac_int q1n q1N q1m q1a q1b q1c q1d ?_
  refine pv_nE ety1 eh1 er1 eg1 ?_
  obtain ⟨q2, F⟩ := F
  obtain ⟨r2, er2⟩ : ∃ r2 : pv_R, r2 = pv_up r1 a0 6 nm1 := ⟨_, rfl⟩
  have F := F r2 er2
  refine pv_putR 7 6 dX7_init_56 fl_X7_30 ⟨_, rfl, Or.inr ⟨rfl, rfl, rfl⟩⟩ rfl q2 ?_
  refine pv_rE er2 ?_
  exact F
set_option maxRecDepth 20000 in
set_option maxHeartbeats 4000000 in
theorem sg_X7_init_59 {Γ : pv_C} {d kc ks : Nat} {ty : pv_T} {h : pv_H} {r : pv_R} {g : pv_G} {Q : pv_Q} (a0 : Nat) (hd : 1 ≤ d) (F : ty a0 = some (7, 0) ∧ pv_CW Γ (d - 1) mJ7_fill_53178 [.ref (r a0 6), .int (-1)] ty h r g (fun (h1 : pv_H) => Q none ty h1 r g)) : pv_E Γ d kc ks mX7_init 59 [some (.ref a0)] [] ty h r g Q := by
  refine pv_aload_n dX7_init_59 rfl ?_
  obtain ⟨q1, F⟩ := F
  refine pv_getR 7 6 dX7_init_60 fl_X7_30 rfl q1 ?_
  refine pv_iconst (v := (-1)) (by decide) dX7_init_63 ?_
  refine pv_invS (As := [.ref (r a0 6), .int (-1)]) (d' := d - 1) dX7_init_64 moJ7_fill_53178 ml_X7_33 (Nat.le_of_ble_eq_true rfl) (by omega) (Nat.zero_le _) (Nat.zero_le _) F (fun v ty' h1 r' g' hq => ?_) rfl
  obtain ⟨e2, e4, e5, e1, F⟩ := hq
  rw [e1, e2, e4, e5]
  refine pv_pc (pc' := 67) rfl ?_
  show pv_E Γ d kc ks mX7_init 67 [some (.ref a0)] [] ty h1 r g Q
  exact pv_return dX7_init_67 rfl F
set_option maxRecDepth 20000 in
set_option maxHeartbeats 4000000 in
theorem sg_X9_init_0 {Γ : pv_C} {d kc ks : Nat} {ty : pv_T} {h : pv_H} {r : pv_R} {g : pv_G} {Q : pv_Q} (a : Nat) (hd : 1 ≤ d) (F : a ≠ 0 ∧ pv_E Γ d kc ks mX9_init 4 [some (.ref a)] [] ty h r g Q) : pv_E Γ d kc ks mX9_init 0 [some (.ref a)] [] ty h r g Q := by
  refine pv_aload_n dX9_init_0 rfl ?_
  obtain ⟨q1, F⟩ := F
  refine pv_objI dX9_init_1 ml_X9_3 obj_i obj_c q1 (by omega) (Nat.le_of_ble_eq_true rfl) ?_
  exact F
set_option maxRecDepth 20000 in
set_option maxHeartbeats 4000000 in
theorem sg_X9_init_4 {Γ : pv_C} {d kc ks : Nat} {ty : pv_T} {h : pv_H} {r : pv_R} {g : pv_G} {Q : pv_Q} (a0 : Nat) (F : (∃ nm1 n1 : Nat, ¬ (6 : Int32) < 0 ∧ Int32.toNatClampNeg 6 = n1 ∧ n1 ≤ 1000000 ∧ 10 ≤ nm1 ∧ ty nm1 = none ∧ 1 ≤ kc ∧ n1 ≤ ks ∧ (∀ (ty1 : pv_T) (h1 : pv_H) (r1 : pv_R) (g1 : pv_G), ty1 = pv_newT ty nm1 20 n1 → h1 = pv_new h nm1 0 → r1 = pv_new r nm1 0 → g1 = pv_new g nm1 0 → ty1 a0 = some (9, 0) ∧ (∀ r2 : pv_R, r2 = pv_up r1 a0 0 nm1 → pv_E Γ d (kc - 1) (ks - n1) mX9_init 12 [some (.ref a0)] [] ty1 h1 r2 g1 Q)))) : pv_E Γ d kc ks mX9_init 4 [some (.ref a0)] [] ty h r g Q := by
  refine pv_aload_n dX9_init_4 rfl ?_
  refine pv_bipush (v := 6) (by decide) dX9_init_5 ?_
  obtain ⟨nm1, n1, q1n, q1N, q1m, q1a, q1b, q1c, q1d, F⟩ := F
  obtain ⟨ty1, ety1⟩ : ∃ ty1 : pv_T, ty1 = pv_newT ty nm1 20 n1 := ⟨_, rfl⟩
  obtain ⟨h1, eh1⟩ : ∃ h1 : pv_H, h1 = pv_new h nm1 0 := ⟨_, rfl⟩
  obtain ⟨r1, er1⟩ : ∃ r1 : pv_R, r1 = pv_new r nm1 0 := ⟨_, rfl⟩
  obtain ⟨g1, eg1⟩ : ∃ g1 : pv_G, g1 = pv_new g nm1 0 := ⟨_, rfl⟩
  have F := F ty1 h1 r1 g1 ety1 eh1 er1 eg1
  refine pv_newA nm1 20 n1 dX9_init_7 rfl (by decide) ac_int q1n q1N q1m q1a q1b q1c q1d ?_
  refine pv_nE ety1 eh1 er1 eg1 ?_
  obtain ⟨q2, F⟩ := F
  obtain ⟨r2, er2⟩ : ∃ r2 : pv_R, r2 = pv_up r1 a0 0 nm1 := ⟨_, rfl⟩
  have F := F r2 er2
  refine pv_putR 9 0 dX9_init_9 fl_X9_11 ⟨_, rfl, Or.inr ⟨rfl, rfl, rfl⟩⟩ rfl q2 ?_
  refine pv_rE er2 ?_
  exact F
set_option maxRecDepth 20000 in
set_option maxHeartbeats 4000000 in
theorem sg_X9_init_12 {Γ : pv_C} {d kc ks : Nat} {ty : pv_T} {h : pv_H} {r : pv_R} {g : pv_G} {Q : pv_Q} (a0 : Nat) (F : (∃ nm1 n1 : Nat, ¬ (0 : Int32) < 0 ∧ Int32.toNatClampNeg 0 = n1 ∧ n1 ≤ 1000000 ∧ 10 ≤ nm1 ∧ ty nm1 = none ∧ 1 ≤ kc ∧ n1 ≤ ks ∧ (∀ (ty1 : pv_T) (h1 : pv_H) (r1 : pv_R) (g1 : pv_G), ty1 = pv_newT ty nm1 21 n1 → h1 = pv_new h nm1 0 → r1 = pv_new r nm1 0 → g1 = pv_new g nm1 0 → ty1 a0 = some (9, 0) ∧ (∀ r2 : pv_R, r2 = pv_up r1 a0 1 nm1 → pv_E Γ d (kc - 1) (ks - n1) mX9_init 19 [some (.ref a0)] [] ty1 h1 r2 g1 Q)))) : pv_E Γ d kc ks mX9_init 12 [some (.ref a0)] [] ty h r g Q := by
  refine pv_aload_n dX9_init_12 rfl ?_
  refine pv_iconst (v := 0) (by decide) dX9_init_13 ?_
  obtain ⟨nm1, n1, q1n, q1N, q1m, q1a, q1b, q1c, q1d, F⟩ := F
  obtain ⟨ty1, ety1⟩ : ∃ ty1 : pv_T, ty1 = pv_newT ty nm1 21 n1 := ⟨_, rfl⟩
  obtain ⟨h1, eh1⟩ : ∃ h1 : pv_H, h1 = pv_new h nm1 0 := ⟨_, rfl⟩
  obtain ⟨r1, er1⟩ : ∃ r1 : pv_R, r1 = pv_new r nm1 0 := ⟨_, rfl⟩
  obtain ⟨g1, eg1⟩ : ∃ g1 : pv_G, g1 = pv_new g nm1 0 := ⟨_, rfl⟩
  have F := F ty1 h1 r1 g1 ety1 eh1 er1 eg1
  refine pv_newA nm1 21 n1 dX9_init_14 rfl (by decide) ac_byte q1n q1N q1m q1a q1b q1c q1d ?_
  refine pv_nE ety1 eh1 er1 eg1 ?_
  obtain ⟨q2, F⟩ := F
  obtain ⟨r2, er2⟩ : ∃ r2 : pv_R, r2 = pv_up r1 a0 1 nm1 := ⟨_, rfl⟩
  have F := F r2 er2
  refine pv_putR 9 1 dX9_init_16 fl_X9_15 ⟨_, rfl, Or.inl rfl⟩ rfl q2 ?_
  refine pv_rE er2 ?_
  exact F
set_option maxRecDepth 20000 in
set_option maxHeartbeats 4000000 in
theorem sg_X9_init_19 {Γ : pv_C} {d kc ks : Nat} {ty : pv_T} {h : pv_H} {r : pv_R} {g : pv_G} {Q : pv_Q} (a0 : Nat) (F : ty 2 = some (30, 0) ∧ ty a0 = some (9, 0) ∧ (∀ r1 : pv_R, r1 = pv_up r a0 4 2 → Q none ty h r1 g)) : pv_E Γ d kc ks mX9_init 19 [some (.ref a0)] [] ty h r g Q := by
  refine pv_aload_n dX9_init_19 rfl ?_
  obtain ⟨q1, F⟩ := F
  refine pv_ldcS 0 (by decide) dX9_init_20 rfl rfl q1 ?_
  obtain ⟨q2, F⟩ := F
  obtain ⟨r1, er1⟩ : ∃ r1 : pv_R, r1 = pv_up r a0 4 2 := ⟨_, rfl⟩
  have F := F r1 er1
  refine pv_putR 9 4 dX9_init_22 fl_X9_21 ⟨_, rfl, Or.inl rfl⟩ rfl q2 ?_
  refine pv_rE er1 ?_
  exact pv_return dX9_init_25 rfl F
set_option maxRecDepth 20000 in
set_option maxHeartbeats 4000000 in
theorem sg_X1_init_0 {Γ : pv_C} {d kc ks : Nat} {ty : pv_T} {h : pv_H} {r : pv_R} {g : pv_G} {Q : pv_Q} (a : Nat) (hd : 1 ≤ d) (F : a ≠ 0 ∧ pv_E Γ d kc ks mX1_init 4 [some (.ref a)] [] ty h r g Q) : pv_E Γ d kc ks mX1_init 0 [some (.ref a)] [] ty h r g Q := by
  refine pv_aload_n dX1_init_0 rfl ?_
  obtain ⟨q1, F⟩ := F
  refine pv_objI dX1_init_1 ml_X1_3 obj_i obj_c q1 (by omega) (Nat.le_of_ble_eq_true rfl) ?_
  exact F
set_option maxRecDepth 20000 in
set_option maxHeartbeats 4000000 in
theorem sg_X1_init_4 {Γ : pv_C} {d kc ks : Nat} {ty : pv_T} {h : pv_H} {r : pv_R} {g : pv_G} {Q : pv_Q} (a0 : Nat) (F : (∃ nm1 n1 : Nat, ¬ (160 : Int32) < 0 ∧ Int32.toNatClampNeg 160 = n1 ∧ n1 ≤ 1000000 ∧ 10 ≤ nm1 ∧ ty nm1 = none ∧ 1 ≤ kc ∧ n1 ≤ ks ∧ (∀ (ty1 : pv_T) (h1 : pv_H) (r1 : pv_R) (g1 : pv_G), ty1 = pv_newT ty nm1 21 n1 → h1 = pv_new h nm1 0 → r1 = pv_new r nm1 0 → g1 = pv_new g nm1 0 → ty1 a0 = some (1, 0) ∧ (∀ r2 : pv_R, r2 = pv_up r1 a0 0 nm1 → pv_E Γ d (kc - 1) (ks - n1) mX1_init 13 [some (.ref a0)] [] ty1 h1 r2 g1 Q)))) : pv_E Γ d kc ks mX1_init 4 [some (.ref a0)] [] ty h r g Q := by
  refine pv_aload_n dX1_init_4 rfl ?_
  refine pv_sipush (v := 160) (by decide) dX1_init_5 ?_
  obtain ⟨nm1, n1, q1n, q1N, q1m, q1a, q1b, q1c, q1d, F⟩ := F
  obtain ⟨ty1, ety1⟩ : ∃ ty1 : pv_T, ty1 = pv_newT ty nm1 21 n1 := ⟨_, rfl⟩
  obtain ⟨h1, eh1⟩ : ∃ h1 : pv_H, h1 = pv_new h nm1 0 := ⟨_, rfl⟩
  obtain ⟨r1, er1⟩ : ∃ r1 : pv_R, r1 = pv_new r nm1 0 := ⟨_, rfl⟩
  obtain ⟨g1, eg1⟩ : ∃ g1 : pv_G, g1 = pv_new g nm1 0 := ⟨_, rfl⟩
  have F := F ty1 h1 r1 g1 ety1 eh1 er1 eg1
  refine pv_newA nm1 21 n1 dX1_init_8 rfl (by decide) ac_byte q1n q1N q1m q1a q1b q1c q1d ?_
  refine pv_nE ety1 eh1 er1 eg1 ?_
  obtain ⟨q2, F⟩ := F
  obtain ⟨r2, er2⟩ : ∃ r2 : pv_R, r2 = pv_up r1 a0 0 nm1 := ⟨_, rfl⟩
  have F := F r2 er2
  refine pv_putR 1 0 dX1_init_10 fl_X1_9 ⟨_, rfl, Or.inr ⟨rfl, rfl, rfl⟩⟩ rfl q2 ?_
  refine pv_rE er2 ?_
  exact F
set_option maxRecDepth 20000 in
set_option maxHeartbeats 4000000 in
theorem sg_X1_init_13 {Γ : pv_C} {d kc ks : Nat} {ty : pv_T} {h : pv_H} {r : pv_R} {g : pv_G} {Q : pv_Q} (a0 : Nat) (F : (∃ nm1 n1 : Nat, ¬ (20 : Int32) < 0 ∧ Int32.toNatClampNeg 20 = n1 ∧ n1 ≤ 1000000 ∧ 10 ≤ nm1 ∧ ty nm1 = none ∧ 1 ≤ kc ∧ n1 ≤ ks ∧ (∀ (ty1 : pv_T) (h1 : pv_H) (r1 : pv_R) (g1 : pv_G), ty1 = pv_newT ty nm1 26 n1 → h1 = pv_new h nm1 0 → r1 = pv_new r nm1 0 → g1 = pv_new g nm1 0 → ty1 a0 = some (1, 0) ∧ (∀ r2 : pv_R, r2 = pv_up r1 a0 1 nm1 → pv_E Γ d (kc - 1) (ks - n1) mX1_init 22 [some (.ref a0)] [] ty1 h1 r2 g1 Q)))) : pv_E Γ d kc ks mX1_init 13 [some (.ref a0)] [] ty h r g Q := by
  refine pv_aload_n dX1_init_13 rfl ?_
  refine pv_bipush (v := 20) (by decide) dX1_init_14 ?_
  obtain ⟨nm1, n1, q1n, q1N, q1m, q1a, q1b, q1c, q1d, F⟩ := F
  obtain ⟨ty1, ety1⟩ : ∃ ty1 : pv_T, ty1 = pv_newT ty nm1 26 n1 := ⟨_, rfl⟩
  obtain ⟨h1, eh1⟩ : ∃ h1 : pv_H, h1 = pv_new h nm1 0 := ⟨_, rfl⟩
  obtain ⟨r1, er1⟩ : ∃ r1 : pv_R, r1 = pv_new r nm1 0 := ⟨_, rfl⟩
  obtain ⟨g1, eg1⟩ : ∃ g1 : pv_G, g1 = pv_new g nm1 0 := ⟨_, rfl⟩
  have F := F ty1 h1 r1 g1 ety1 eh1 er1 eg1
  refine pv_newQ nm1 26 n1 RX0 dX1_init_16 rfl (by decide) cl_X1_15 (by simp) q1n q1N q1m q1a q1b q1c q1d ?_
  refine pv_nE ety1 eh1 er1 eg1 ?_
  obtain ⟨q2, F⟩ := F
  obtain ⟨r2, er2⟩ : ∃ r2 : pv_R, r2 = pv_up r1 a0 1 nm1 := ⟨_, rfl⟩
  have F := F r2 er2
  refine pv_putR 1 1 dX1_init_19 fl_X1_17 ⟨_, rfl, Or.inr ⟨rfl, rfl, rfl⟩⟩ rfl q2 ?_
  refine pv_rE er2 ?_
  exact F
set_option maxRecDepth 20000 in
set_option maxHeartbeats 4000000 in
theorem sg_X1_init_22 {Γ : pv_C} {d kc ks : Nat} {ty : pv_T} {h : pv_H} {r : pv_R} {g : pv_G} {Q : pv_Q} (a0 : Nat) (hd : 1 ≤ d) (F : (∃ nm1 : Nat, 10 ≤ nm1 ∧ ty nm1 = none ∧ 1 ≤ kc ∧ 7 ≤ ks ∧ (∀ (ty1 : pv_T) (h1 : pv_H) (r1 : pv_R) (g1 : pv_G), ty1 = pv_newT ty nm1 9 0 → h1 = pv_new h nm1 0 → r1 = pv_new r nm1 0 → g1 = pv_new g nm1 0 → ty1 nm1 = some (9, 0) ∧ 2 ≤ (kc - 1) ∧ 6 ≤ (ks - 7) ∧ pv_CT Γ (d - 1) 2 6 mX9_init [.ref nm1] ty1 h1 r1 g1 (fun (v1 : Option Value) (ty2 : pv_T) (h2 : pv_H) (r2 : pv_R) (g2 : pv_G) => v1 = none ∧ ty2 a0 = some (1, 0) ∧ (∀ r3 : pv_R, r3 = pv_up r2 a0 2 nm1 → Q none ty2 h2 r3 g2))))) : pv_E Γ d kc ks mX1_init 22 [some (.ref a0)] [] ty h r g Q := by
  refine pv_aload_n dX1_init_22 rfl ?_
  obtain ⟨nm1, q1a, q1b, q1c, q1d, F⟩ := F
  obtain ⟨ty1, ety1⟩ : ∃ ty1 : pv_T, ty1 = pv_newT ty nm1 9 0 := ⟨_, rfl⟩
  obtain ⟨h1, eh1⟩ : ∃ h1 : pv_H, h1 = pv_new h nm1 0 := ⟨_, rfl⟩
  obtain ⟨r1, er1⟩ : ∃ r1 : pv_R, r1 = pv_new r nm1 0 := ⟨_, rfl⟩
  obtain ⟨g1, eg1⟩ : ∃ g1 : pv_G, g1 = pv_new g nm1 0 := ⟨_, rfl⟩
  have F := F ty1 h1 r1 g1 ety1 eh1 er1 eg1
  refine pv_newO nm1 9 dX1_init_23 rfl cl_X1_21 ins_X9 ini_X9 q1a q1b q1c q1d ?_
  refine pv_nE ety1 eh1 er1 eg1 ?_
  refine pv_dup rfl dX1_init_26 ?_
  obtain ⟨q2, F⟩ := F
  obtain ⟨q3a, q3b, F⟩ := F
  refine pv_invI (As := []) (d' := d - 1) dX1_init_27 moX9_init ml_X1_23 q2 (Nat.le_of_ble_eq_true rfl) (by omega) q3a q3b F (fun v1 ty2 h2 r2 g2 F => ?_) rfl
  obtain ⟨rfl, F⟩ := F
  refine pv_pc (pc' := 30) rfl ?_
  show pv_E Γ d ((kc - 1) - 2) ((ks - 7) - 6) mX1_init 30 [some (.ref a0)] [.ref nm1, .ref a0] ty2 h2 r2 g2 Q
  obtain ⟨q4, F⟩ := F
  obtain ⟨r3, er3⟩ : ∃ r3 : pv_R, r3 = pv_up r2 a0 2 nm1 := ⟨_, rfl⟩
  have F := F r3 er3
  refine pv_putR 1 2 dX1_init_30 fl_X1_24 ⟨_, rfl, Or.inr ⟨rfl, rfl, rfl⟩⟩ rfl q4 ?_
  refine pv_rE er3 ?_
  exact pv_return dX1_init_33 rfl F
set_option maxRecDepth 20000 in
set_option maxHeartbeats 4000000 in
theorem sg_X5_init_0 {Γ : pv_C} {d kc ks : Nat} {ty : pv_T} {h : pv_H} {r : pv_R} {g : pv_G} {Q : pv_Q} (a : Nat) (hd : 1 ≤ d) (F : a ≠ 0 ∧ pv_E Γ d kc ks mX5_init 4 [some (.ref a), none, none] [] ty h r g Q) : pv_E Γ d kc ks mX5_init 0 [some (.ref a), none, none] [] ty h r g Q := by
  refine pv_aload_n dX5_init_0 rfl ?_
  obtain ⟨q1, F⟩ := F
  refine pv_objI dX5_init_1 ml_X5_3 obj_i obj_c q1 (by omega) (Nat.le_of_ble_eq_true rfl) ?_
  exact F
set_option maxRecDepth 20000 in
set_option maxHeartbeats 4000000 in
theorem sg_X5_init_4 {Γ : pv_C} {d kc ks : Nat} {ty : pv_T} {h : pv_H} {r : pv_R} {g : pv_G} {Q : pv_Q} (a0 : Nat) (F : (∃ nm1 n1 : Nat, ¬ (40 : Int32) < 0 ∧ Int32.toNatClampNeg 40 = n1 ∧ n1 ≤ 1000000 ∧ 10 ≤ nm1 ∧ ty nm1 = none ∧ 1 ≤ kc ∧ n1 ≤ ks ∧ (∀ (ty1 : pv_T) (h1 : pv_H) (r1 : pv_R) (g1 : pv_G), ty1 = pv_newT ty nm1 20 n1 → h1 = pv_new h nm1 0 → r1 = pv_new r nm1 0 → g1 = pv_new g nm1 0 → ty1 a0 = some (5, 0) ∧ (∀ r2 : pv_R, r2 = pv_up r1 a0 1 nm1 → pv_E Γ d (kc - 1) (ks - n1) mX5_init 12 [some (.ref a0), none, none] [] ty1 h1 r2 g1 Q)))) : pv_E Γ d kc ks mX5_init 4 [some (.ref a0), none, none] [] ty h r g Q := by
  refine pv_aload_n dX5_init_4 rfl ?_
  refine pv_bipush (v := 40) (by decide) dX5_init_5 ?_
  obtain ⟨nm1, n1, q1n, q1N, q1m, q1a, q1b, q1c, q1d, F⟩ := F
  obtain ⟨ty1, ety1⟩ : ∃ ty1 : pv_T, ty1 = pv_newT ty nm1 20 n1 := ⟨_, rfl⟩
  obtain ⟨h1, eh1⟩ : ∃ h1 : pv_H, h1 = pv_new h nm1 0 := ⟨_, rfl⟩
  obtain ⟨r1, er1⟩ : ∃ r1 : pv_R, r1 = pv_new r nm1 0 := ⟨_, rfl⟩
  obtain ⟨g1, eg1⟩ : ∃ g1 : pv_G, g1 = pv_new g nm1 0 := ⟨_, rfl⟩
  have F := F ty1 h1 r1 g1 ety1 eh1 er1 eg1
  refine pv_newA nm1 20 n1 dX5_init_7 rfl (by decide) ac_int q1n q1N q1m q1a q1b q1c q1d ?_
  refine pv_nE ety1 eh1 er1 eg1 ?_
  obtain ⟨q2, F⟩ := F
  obtain ⟨r2, er2⟩ : ∃ r2 : pv_R, r2 = pv_up r1 a0 1 nm1 := ⟨_, rfl⟩
  have F := F r2 er2
  refine pv_putR 5 1 dX5_init_9 fl_X5_9 ⟨_, rfl, Or.inr ⟨rfl, rfl, rfl⟩⟩ rfl q2 ?_
  refine pv_rE er2 ?_
  exact F
set_option maxRecDepth 20000 in
set_option maxHeartbeats 4000000 in
theorem sg_X5_init_12 {Γ : pv_C} {d kc ks : Nat} {ty : pv_T} {h : pv_H} {r : pv_R} {g : pv_G} {Q : pv_Q} (a0 : Nat) (F : (∃ nm1 n1 : Nat, ¬ (40 : Int32) < 0 ∧ Int32.toNatClampNeg 40 = n1 ∧ n1 ≤ 1000000 ∧ 10 ≤ nm1 ∧ ty nm1 = none ∧ 1 ≤ kc ∧ n1 ≤ ks ∧ (∀ (ty1 : pv_T) (h1 : pv_H) (r1 : pv_R) (g1 : pv_G), ty1 = pv_newT ty nm1 20 n1 → h1 = pv_new h nm1 0 → r1 = pv_new r nm1 0 → g1 = pv_new g nm1 0 → ty1 a0 = some (5, 0) ∧ (∀ r2 : pv_R, r2 = pv_up r1 a0 2 nm1 → pv_E Γ d (kc - 1) (ks - n1) mX5_init 20 [some (.ref a0), none, none] [] ty1 h1 r2 g1 Q)))) : pv_E Γ d kc ks mX5_init 12 [some (.ref a0), none, none] [] ty h r g Q := by
  refine pv_aload_n dX5_init_12 rfl ?_
  refine pv_bipush (v := 40) (by decide) dX5_init_13 ?_
  obtain ⟨nm1, n1, q1n, q1N, q1m, q1a, q1b, q1c, q1d, F⟩ := F
  obtain ⟨ty1, ety1⟩ : ∃ ty1 : pv_T, ty1 = pv_newT ty nm1 20 n1 := ⟨_, rfl⟩
  obtain ⟨h1, eh1⟩ : ∃ h1 : pv_H, h1 = pv_new h nm1 0 := ⟨_, rfl⟩
  obtain ⟨r1, er1⟩ : ∃ r1 : pv_R, r1 = pv_new r nm1 0 := ⟨_, rfl⟩
  obtain ⟨g1, eg1⟩ : ∃ g1 : pv_G, g1 = pv_new g nm1 0 := ⟨_, rfl⟩
  have F := F ty1 h1 r1 g1 ety1 eh1 er1 eg1
  refine pv_newA nm1 20 n1 dX5_init_15 rfl (by decide) ac_int q1n q1N q1m q1a q1b q1c q1d ?_
  refine pv_nE ety1 eh1 er1 eg1 ?_
  obtain ⟨q2, F⟩ := F
  obtain ⟨r2, er2⟩ : ∃ r2 : pv_R, r2 = pv_up r1 a0 2 nm1 := ⟨_, rfl⟩
  have F := F r2 er2
  refine pv_putR 5 2 dX5_init_17 fl_X5_15 ⟨_, rfl, Or.inr ⟨rfl, rfl, rfl⟩⟩ rfl q2 ?_
  refine pv_rE er2 ?_
  exact F
set_option maxRecDepth 20000 in
set_option maxHeartbeats 4000000 in
theorem sg_X5_init_20 {Γ : pv_C} {d kc ks : Nat} {ty : pv_T} {h : pv_H} {r : pv_R} {g : pv_G} {Q : pv_Q} (a0 : Nat) (F : (∃ nm1 n1 : Nat, ¬ (1681 : Int32) < 0 ∧ Int32.toNatClampNeg 1681 = n1 ∧ n1 ≤ 1000000 ∧ 10 ≤ nm1 ∧ ty nm1 = none ∧ 1 ≤ kc ∧ n1 ≤ ks ∧ (∀ (ty1 : pv_T) (h1 : pv_H) (r1 : pv_R) (g1 : pv_G), ty1 = pv_newT ty nm1 23 n1 → h1 = pv_new h nm1 0 → r1 = pv_new r nm1 0 → g1 = pv_new g nm1 0 → ty1 a0 = some (5, 0) ∧ (∀ r2 : pv_R, r2 = pv_up r1 a0 0 nm1 → pv_E Γ d (kc - 1) (ks - n1) mX5_init 29 [some (.ref a0), none, none] [] ty1 h1 r2 g1 Q)))) : pv_E Γ d kc ks mX5_init 20 [some (.ref a0), none, none] [] ty h r g Q := by
  refine pv_aload_n dX5_init_20 rfl ?_
  refine pv_sipush (v := 1681) (by decide) dX5_init_21 ?_
  obtain ⟨nm1, n1, q1n, q1N, q1m, q1a, q1b, q1c, q1d, F⟩ := F
  obtain ⟨ty1, ety1⟩ : ∃ ty1 : pv_T, ty1 = pv_newT ty nm1 23 n1 := ⟨_, rfl⟩
  obtain ⟨h1, eh1⟩ : ∃ h1 : pv_H, h1 = pv_new h nm1 0 := ⟨_, rfl⟩
  obtain ⟨r1, er1⟩ : ∃ r1 : pv_R, r1 = pv_new r nm1 0 := ⟨_, rfl⟩
  obtain ⟨g1, eg1⟩ : ∃ g1 : pv_G, g1 = pv_new g nm1 0 := ⟨_, rfl⟩
  have F := F ty1 h1 r1 g1 ety1 eh1 er1 eg1
  refine pv_newA nm1 23 n1 dX5_init_24 rfl (by decide) ac_long q1n q1N q1m q1a q1b q1c q1d ?_
  refine pv_nE ety1 eh1 er1 eg1 ?_
  obtain ⟨q2, F⟩ := F
  obtain ⟨r2, er2⟩ : ∃ r2 : pv_R, r2 = pv_up r1 a0 0 nm1 := ⟨_, rfl⟩
  have F := F r2 er2
  refine pv_putR 5 0 dX5_init_26 fl_X5_18 ⟨_, rfl, Or.inr ⟨rfl, rfl, rfl⟩⟩ rfl q2 ?_
  refine pv_rE er2 ?_
  exact F
set_option maxRecDepth 20000 in
set_option maxHeartbeats 4000000 in
theorem sg_X5_init_29 {Γ : pv_C} {d kc ks : Nat} {ty : pv_T} {h : pv_H} {r : pv_R} {g : pv_G} {Q : pv_Q} (a0 : Nat) (F : ty a0 = some (5, 0) ∧ pv_inb ty (r a0 0) 23 0 ∧ 10 ≤ (r a0 0) ∧ (∀ g1 : pv_G, g1 = pv_up g (r a0 0) (Int32.toNatClampNeg 0) 1 → pv_E Γ d kc ks mX5_init 38 [some (.ref a0), some (.int 1), none] [] ty h r g1 Q)) : pv_E Γ d kc ks mX5_init 29 [some (.ref a0), none, none] [] ty h r g Q := by
  refine pv_aload_n dX5_init_29 rfl ?_
  obtain ⟨q1, F⟩ := F
  refine pv_getR 5 0 dX5_init_30 fl_X5_18 rfl q1 ?_
  refine pv_iconst (v := 0) (by decide) dX5_init_33 ?_
  refine pv_lconst (v := 1) (by decide) dX5_init_34 ?_
  obtain ⟨q2, F⟩ := F
  obtain ⟨q2n, q2t, q2i⟩ := q2
  obtain ⟨q2w, F⟩ := F
  obtain ⟨g1, eg1⟩ : ∃ g1 : pv_G, g1 = pv_up g (r a0 0) (Int32.toNatClampNeg 0) 1 := ⟨_, rfl⟩
  have F := F g1 eg1
  refine pv_last dX5_init_35 q2t q2w q2i ?_
  refine pv_gE eg1 ?_
  refine pv_iconst (v := 1) (by decide) dX5_init_36 ?_
  refine pv_istore_n (ls' := [some (.ref a0), some (.int 1), none]) dX5_init_37 (by decide) rfl rfl ?_
  exact F
set_option maxRecDepth 20000 in
set_option maxHeartbeats 4000000 in
theorem sg_X5_init_38 {Γ : pv_C} {d kc ks : Nat} {ty : pv_T} {h : pv_H} {r : pv_R} {g : pv_G} {Q : pv_Q} (a0 : Nat) (x1 : Int32) (F : ((41 ≤ x1 → Q none ty h r g) ∧ (¬ 41 ≤ x1 → ty a0 = some (5, 0) ∧ pv_inb ty (r a0 0) 23 (x1 * 41) ∧ 10 ≤ (r a0 0) ∧ (∀ g1 : pv_G, g1 = pv_up g (r a0 0) (Int32.toNatClampNeg (x1 * 41)) 1 → pv_E Γ d kc ks mX5_init 56 [some (.ref a0), some (.int x1), some (.int 1)] [] ty h r g1 Q)))) : pv_E Γ d kc ks mX5_init 38 [some (.ref a0), some (.int x1), none] [] ty h r g Q := by
  refine pv_iload_n dX5_init_38 rfl ?_
  refine pv_bipush (v := 41) (by decide) dX5_init_39 ?_
  refine pv_icmp_ge (tgt := 113) dX5_init_41 (by decide) (fun c1 => ?_) (fun c1 => ?_)
  · have F := F.1 c1
    exact pv_return dX5_init_113 rfl F
  · have F := F.2 c1
    refine pv_aload_n dX5_init_44 rfl ?_
    obtain ⟨q1, F⟩ := F
    refine pv_getR 5 0 dX5_init_45 fl_X5_18 rfl q1 ?_
    refine pv_iload_n dX5_init_48 rfl ?_
    refine pv_bipush (v := 41) (by decide) dX5_init_49 ?_
    refine pv_imul dX5_init_51 ?_
    refine pv_lconst (v := 1) (by decide) dX5_init_52 ?_
    obtain ⟨q2, F⟩ := F
    obtain ⟨q2n, q2t, q2i⟩ := q2
    obtain ⟨q2w, F⟩ := F
    obtain ⟨g1, eg1⟩ : ∃ g1 : pv_G, g1 = pv_up g (r a0 0) (Int32.toNatClampNeg (x1 * 41)) 1 := ⟨_, rfl⟩
    have F := F g1 eg1
    refine pv_last dX5_init_53 q2t q2w q2i ?_
    refine pv_gE eg1 ?_
    refine pv_iconst (v := 1) (by decide) dX5_init_54 ?_
    refine pv_istore_n (ls' := [some (.ref a0), some (.int x1), some (.int 1)]) dX5_init_55 (by decide) rfl rfl ?_
    exact F
set_option maxRecDepth 20000 in
set_option maxHeartbeats 4000000 in
theorem sg_X5_init_56 {Γ : pv_C} {d kc ks : Nat} {ty : pv_T} {h : pv_H} {r : pv_R} {g : pv_G} {Q : pv_Q} (a0 : Nat) (x1 : Int32) (x2 : Int32) (F : ((x1 < x2 → pv_E Γ d kc ks mX5_init 38 [some (.ref a0), some (.int (x1 + 1)), none] [] ty h r g Q) ∧ (¬ x1 < x2 → ty a0 = some (5, 0) ∧ ty a0 = some (5, 0) ∧ pv_inb ty (r a0 0) 23 ((((x1 - 1) * 41) + x2) - 1) ∧ ty a0 = some (5, 0) ∧ pv_inb ty (r a0 0) 23 (((x1 - 1) * 41) + x2) ∧ pv_inb ty (r a0 0) 23 ((x1 * 41) + x2) ∧ 10 ≤ (r a0 0) ∧ (∀ g1 : pv_G, g1 = pv_up g (r a0 0) (Int32.toNatClampNeg ((x1 * 41) + x2)) ((g (r a0 0) (Int32.toNatClampNeg ((((x1 - 1) * 41) + x2) - 1))) + (g (r a0 0) (Int32.toNatClampNeg (((x1 - 1) * 41) + x2)))) → pv_E Γ d kc ks mX5_init 56 [some (.ref a0), some (.int x1), some (.int (x2 + 1))] [] ty h r g1 Q)))) : pv_E Γ d kc ks mX5_init 56 [some (.ref a0), some (.int x1), some (.int x2)] [] ty h r g Q := by
  refine pv_iload_n dX5_init_56 rfl ?_
  refine pv_iload_n dX5_init_57 rfl ?_
  refine pv_icmp_gt (tgt := 107) dX5_init_58 (by decide) (fun c1 => ?_) (fun c1 => ?_)
  · have F := F.1 c1
    refine pv_iinc (v := x1 + 1) (ls' := [some (.ref a0), some (.int (x1 + 1)), some (.int x2)]) dX5_init_107 rfl (by rfl) rfl rfl ?_
    refine pv_goto (tgt := 38) dX5_init_110 (by decide) ?_
    refine pv_forgetL (ls' := [some (.ref a0), some (.int (x1 + 1)), none]) (pv_subL_ok ⟨rfl, ⟨rfl, trivial⟩⟩) ?_
    exact F
  · have F := F.2 c1
    refine pv_aload_n dX5_init_61 rfl ?_
    obtain ⟨q1, F⟩ := F
    refine pv_getR 5 0 dX5_init_62 fl_X5_18 rfl q1 ?_
    refine pv_iload_n dX5_init_65 rfl ?_
    refine pv_bipush (v := 41) (by decide) dX5_init_66 ?_
    refine pv_imul dX5_init_68 ?_
    refine pv_iload_n dX5_init_69 rfl ?_
    refine pv_iadd dX5_init_70 ?_
    refine pv_aload_n dX5_init_71 rfl ?_
    refine pv_pc (pc' := 72) rfl ?_
    obtain ⟨q2, F⟩ := F
    refine pv_getR 5 0 dX5_init_72 fl_X5_18 rfl q2 ?_
    refine pv_iload_n dX5_init_75 rfl ?_
    refine pv_iconst (v := 1) (by decide) dX5_init_76 ?_
    refine pv_isub dX5_init_77 ?_
    refine pv_bipush (v := 41) (by decide) dX5_init_78 ?_
    refine pv_imul dX5_init_80 ?_
    refine pv_iload_n dX5_init_81 rfl ?_
    refine pv_pc (pc' := 82) rfl ?_
    refine pv_iadd dX5_init_82 ?_
    refine pv_iconst (v := 1) (by decide) dX5_init_83 ?_
    refine pv_isub dX5_init_84 ?_
    obtain ⟨q3, F⟩ := F
    obtain ⟨q3n, q3t, q3i⟩ := q3
    refine pv_lald dX5_init_85 q3t q3i ?_
    refine pv_aload_n dX5_init_86 rfl ?_
    obtain ⟨q4, F⟩ := F
    refine pv_getR 5 0 dX5_init_87 fl_X5_18 rfl q4 ?_
    refine pv_iload_n dX5_init_90 rfl ?_
    refine pv_iconst (v := 1) (by decide) dX5_init_91 ?_
    refine pv_isub dX5_init_92 ?_
    refine pv_bipush (v := 41) (by decide) dX5_init_93 ?_
    refine pv_imul dX5_init_95 ?_
    refine pv_iload_n dX5_init_96 rfl ?_
    refine pv_pc (pc' := 97) rfl ?_
    refine pv_iadd dX5_init_97 ?_
    obtain ⟨q5, F⟩ := F
    obtain ⟨q5n, q5t, q5i⟩ := q5
    refine pv_lald dX5_init_98 q5t q5i ?_
    refine pv_ladd dX5_init_99 ?_
    obtain ⟨q6, F⟩ := F
    obtain ⟨q6n, q6t, q6i⟩ := q6
    obtain ⟨q6w, F⟩ := F
    obtain ⟨g1, eg1⟩ : ∃ g1 : pv_G, g1 = pv_up g (r a0 0) (Int32.toNatClampNeg ((x1 * 41) + x2)) ((g (r a0 0) (Int32.toNatClampNeg ((((x1 - 1) * 41) + x2) - 1))) + (g (r a0 0) (Int32.toNatClampNeg (((x1 - 1) * 41) + x2)))) := ⟨_, rfl⟩
    have F := F g1 eg1
    refine pv_last dX5_init_100 q6t q6w q6i ?_
    refine pv_gE eg1 ?_
    refine pv_iinc (v := x2 + 1) (ls' := [some (.ref a0), some (.int x1), some (.int (x2 + 1))]) dX5_init_101 rfl (by rfl) rfl rfl ?_
    refine pv_goto (tgt := 56) dX5_init_104 (by decide) ?_
    exact F
set_option maxRecDepth 20000 in
set_option maxHeartbeats 4000000 in
theorem sg_X11_init_0 {Γ : pv_C} {d kc ks : Nat} {ty : pv_T} {h : pv_H} {r : pv_R} {g : pv_G} {Q : pv_Q} (a : Nat) (hd : 1 ≤ d) (F : a ≠ 0 ∧ pv_E Γ d kc ks mX11_init 4 [some (.ref a)] [] ty h r g Q) : pv_E Γ d kc ks mX11_init 0 [some (.ref a)] [] ty h r g Q := by
  refine pv_aload_n dX11_init_0 rfl ?_
  obtain ⟨q1, F⟩ := F
  refine pv_objI dX11_init_1 ml_X11_3 obj_i obj_c q1 (by omega) (Nat.le_of_ble_eq_true rfl) ?_
  exact F
set_option maxRecDepth 20000 in
set_option maxHeartbeats 4000000 in
theorem sg_X11_init_4 {Γ : pv_C} {d kc ks : Nat} {ty : pv_T} {h : pv_H} {r : pv_R} {g : pv_G} {Q : pv_Q} (a0 : Nat) (F : (∃ nm1 n1 : Nat, ¬ (8 : Int32) < 0 ∧ Int32.toNatClampNeg 8 = n1 ∧ n1 ≤ 1000000 ∧ 10 ≤ nm1 ∧ ty nm1 = none ∧ 1 ≤ kc ∧ n1 ≤ ks ∧ (∀ (ty1 : pv_T) (h1 : pv_H) (r1 : pv_R) (g1 : pv_G), ty1 = pv_newT ty nm1 24 n1 → h1 = pv_new h nm1 0 → r1 = pv_new r nm1 0 → g1 = pv_new g nm1 0 → ty1 a0 = some (11, 0) ∧ (∀ r2 : pv_R, r2 = pv_up r1 a0 0 nm1 → pv_E Γ d (kc - 1) (ks - n1) mX11_init 13 [some (.ref a0)] [] ty1 h1 r2 g1 Q)))) : pv_E Γ d kc ks mX11_init 4 [some (.ref a0)] [] ty h r g Q := by
  refine pv_aload_n dX11_init_4 rfl ?_
  refine pv_bipush (v := 8) (by decide) dX11_init_5 ?_
  obtain ⟨nm1, n1, q1n, q1N, q1m, q1a, q1b, q1c, q1d, F⟩ := F
  obtain ⟨ty1, ety1⟩ : ∃ ty1 : pv_T, ty1 = pv_newT ty nm1 24 n1 := ⟨_, rfl⟩
  obtain ⟨h1, eh1⟩ : ∃ h1 : pv_H, h1 = pv_new h nm1 0 := ⟨_, rfl⟩
  obtain ⟨r1, er1⟩ : ∃ r1 : pv_R, r1 = pv_new r nm1 0 := ⟨_, rfl⟩
  obtain ⟨g1, eg1⟩ : ∃ g1 : pv_G, g1 = pv_new g nm1 0 := ⟨_, rfl⟩
  have F := F ty1 h1 r1 g1 ety1 eh1 er1 eg1
  refine pv_newQ nm1 24 n1 RX8 dX11_init_7 rfl (by decide) cl_X11_9 (by simp) q1n q1N q1m q1a q1b q1c q1d ?_
  refine pv_nE ety1 eh1 er1 eg1 ?_
  obtain ⟨q2, F⟩ := F
  obtain ⟨r2, er2⟩ : ∃ r2 : pv_R, r2 = pv_up r1 a0 0 nm1 := ⟨_, rfl⟩
  have F := F r2 er2
  refine pv_putR 11 0 dX11_init_10 fl_X11_11 ⟨_, rfl, Or.inr ⟨rfl, rfl, rfl⟩⟩ rfl q2 ?_
  refine pv_rE er2 ?_
  exact F
set_option maxRecDepth 20000 in
set_option maxHeartbeats 4000000 in
theorem sg_X11_init_13 {Γ : pv_C} {d kc ks : Nat} {ty : pv_T} {h : pv_H} {r : pv_R} {g : pv_G} {Q : pv_Q} (a0 : Nat) (hd : 1 ≤ d) (F : (∃ nm1 : Nat, 10 ≤ nm1 ∧ ty nm1 = none ∧ 1 ≤ kc ∧ 2 ≤ ks ∧ (∀ (ty1 : pv_T) (h1 : pv_H) (r1 : pv_R) (g1 : pv_G), ty1 = pv_newT ty nm1 2 0 → h1 = pv_new h nm1 0 → r1 = pv_new r nm1 0 → g1 = pv_new g nm1 0 → ty1 nm1 = some (2, 0) ∧ 2 ≤ (kc - 1) ∧ 288 ≤ (ks - 2) ∧ pv_CT Γ (d - 1) 2 288 mX2_init [.ref nm1] ty1 h1 r1 g1 (fun (v1 : Option Value) (ty2 : pv_T) (h2 : pv_H) (r2 : pv_R) (g2 : pv_G) => v1 = none ∧ ty2 a0 = some (11, 0) ∧ (∀ r3 : pv_R, r3 = pv_up r2 a0 2 nm1 → pv_E Γ d ((kc - 1) - 2) ((ks - 2) - 288) mX11_init 24 [some (.ref a0)] [] ty2 h2 r3 g2 Q))))) : pv_E Γ d kc ks mX11_init 13 [some (.ref a0)] [] ty h r g Q := by
  refine pv_aload_n dX11_init_13 rfl ?_
  obtain ⟨nm1, q1a, q1b, q1c, q1d, F⟩ := F
  obtain ⟨ty1, ety1⟩ : ∃ ty1 : pv_T, ty1 = pv_newT ty nm1 2 0 := ⟨_, rfl⟩
  obtain ⟨h1, eh1⟩ : ∃ h1 : pv_H, h1 = pv_new h nm1 0 := ⟨_, rfl⟩
  obtain ⟨r1, er1⟩ : ∃ r1 : pv_R, r1 = pv_new r nm1 0 := ⟨_, rfl⟩
  obtain ⟨g1, eg1⟩ : ∃ g1 : pv_G, g1 = pv_new g nm1 0 := ⟨_, rfl⟩
  have F := F ty1 h1 r1 g1 ety1 eh1 er1 eg1
  refine pv_newO nm1 2 dX11_init_14 rfl cl_X11_15 ins_X2 ini_X2 q1a q1b q1c q1d ?_
  refine pv_nE ety1 eh1 er1 eg1 ?_
  refine pv_dup rfl dX11_init_17 ?_
  obtain ⟨q2, F⟩ := F
  obtain ⟨q3a, q3b, F⟩ := F
  refine pv_invI (As := []) (d' := d - 1) dX11_init_18 moX2_init ml_X11_17 q2 (Nat.le_of_ble_eq_true rfl) (by omega) q3a q3b F (fun v1 ty2 h2 r2 g2 F => ?_) rfl
  obtain ⟨rfl, F⟩ := F
  refine pv_pc (pc' := 21) rfl ?_
  show pv_E Γ d ((kc - 1) - 2) ((ks - 2) - 288) mX11_init 21 [some (.ref a0)] [.ref nm1, .ref a0] ty2 h2 r2 g2 Q
  obtain ⟨q4, F⟩ := F
  obtain ⟨r3, er3⟩ : ∃ r3 : pv_R, r3 = pv_up r2 a0 2 nm1 := ⟨_, rfl⟩
  have F := F r3 er3
  refine pv_putR 11 2 dX11_init_21 fl_X11_18 ⟨_, rfl, Or.inr ⟨rfl, rfl, rfl⟩⟩ rfl q4 ?_
  refine pv_rE er3 ?_
  exact F
set_option maxRecDepth 20000 in
set_option maxHeartbeats 4000000 in
theorem sg_X11_init_24 {Γ : pv_C} {d kc ks : Nat} {ty : pv_T} {h : pv_H} {r : pv_R} {g : pv_G} {Q : pv_Q} (a0 : Nat) (hd : 1 ≤ d) (F : (∃ nm1 : Nat, 10 ≤ nm1 ∧ ty nm1 = none ∧ 1 ≤ kc ∧ 9 ≤ ks ∧ (∀ (ty1 : pv_T) (h1 : pv_H) (r1 : pv_R) (g1 : pv_G), ty1 = pv_newT ty nm1 4 0 → h1 = pv_new h nm1 0 → r1 = pv_new r nm1 0 → g1 = pv_new g nm1 0 → ty1 nm1 = some (4, 0) ∧ 3 ≤ (kc - 1) ∧ 918 ≤ (ks - 9) ∧ pv_CT Γ (d - 1) 3 918 mX4_init [.ref nm1] ty1 h1 r1 g1 (fun (v1 : Option Value) (ty2 : pv_T) (h2 : pv_H) (r2 : pv_R) (g2 : pv_G) => v1 = none ∧ ty2 a0 = some (11, 0) ∧ (∀ r3 : pv_R, r3 = pv_up r2 a0 3 nm1 → pv_E Γ d ((kc - 1) - 3) ((ks - 9) - 918) mX11_init 35 [some (.ref a0)] [] ty2 h2 r3 g2 Q))))) : pv_E Γ d kc ks mX11_init 24 [some (.ref a0)] [] ty h r g Q := by
  refine pv_aload_n dX11_init_24 rfl ?_
  obtain ⟨nm1, q1a, q1b, q1c, q1d, F⟩ := F
  obtain ⟨ty1, ety1⟩ : ∃ ty1 : pv_T, ty1 = pv_newT ty nm1 4 0 := ⟨_, rfl⟩
  obtain ⟨h1, eh1⟩ : ∃ h1 : pv_H, h1 = pv_new h nm1 0 := ⟨_, rfl⟩
  obtain ⟨r1, er1⟩ : ∃ r1 : pv_R, r1 = pv_new r nm1 0 := ⟨_, rfl⟩
  obtain ⟨g1, eg1⟩ : ∃ g1 : pv_G, g1 = pv_new g nm1 0 := ⟨_, rfl⟩
  have F := F ty1 h1 r1 g1 ety1 eh1 er1 eg1
  refine pv_newO nm1 4 dX11_init_25 rfl cl_X11_22 ins_X4 ini_X4 q1a q1b q1c q1d ?_
  refine pv_nE ety1 eh1 er1 eg1 ?_
  refine pv_dup rfl dX11_init_28 ?_
  obtain ⟨q2, F⟩ := F
  obtain ⟨q3a, q3b, F⟩ := F
  refine pv_invI (As := []) (d' := d - 1) dX11_init_29 moX4_init ml_X11_24 q2 (Nat.le_of_ble_eq_true rfl) (by omega) q3a q3b F (fun v1 ty2 h2 r2 g2 F => ?_) rfl
  obtain ⟨rfl, F⟩ := F
  refine pv_pc (pc' := 32) rfl ?_
  show pv_E Γ d ((kc - 1) - 3) ((ks - 9) - 918) mX11_init 32 [some (.ref a0)] [.ref nm1, .ref a0] ty2 h2 r2 g2 Q
  obtain ⟨q4, F⟩ := F
  obtain ⟨r3, er3⟩ : ∃ r3 : pv_R, r3 = pv_up r2 a0 3 nm1 := ⟨_, rfl⟩
  have F := F r3 er3
  refine pv_putR 11 3 dX11_init_32 fl_X11_25 ⟨_, rfl, Or.inr ⟨rfl, rfl, rfl⟩⟩ rfl q4 ?_
  refine pv_rE er3 ?_
  exact F
set_option maxRecDepth 20000 in
set_option maxHeartbeats 4000000 in
theorem sg_X11_init_35 {Γ : pv_C} {d kc ks : Nat} {ty : pv_T} {h : pv_H} {r : pv_R} {g : pv_G} {Q : pv_Q} (a0 : Nat) (hd : 1 ≤ d) (F : (∃ nm1 : Nat, 10 ≤ nm1 ∧ ty nm1 = none ∧ 1 ≤ kc ∧ 5 ≤ ks ∧ (∀ (ty1 : pv_T) (h1 : pv_H) (r1 : pv_R) (g1 : pv_G), ty1 = pv_newT ty nm1 10 0 → h1 = pv_new h nm1 0 → r1 = pv_new r nm1 0 → g1 = pv_new g nm1 0 → ty1 nm1 = some (10, 0) ∧ 4 ≤ (kc - 1) ∧ 640 ≤ (ks - 5) ∧ pv_CT Γ (d - 1) 4 640 mX10_init [.ref nm1] ty1 h1 r1 g1 (fun (v1 : Option Value) (ty2 : pv_T) (h2 : pv_H) (r2 : pv_R) (g2 : pv_G) => v1 = none ∧ ty2 a0 = some (11, 0) ∧ (∀ r3 : pv_R, r3 = pv_up r2 a0 4 nm1 → pv_E Γ d ((kc - 1) - 4) ((ks - 5) - 640) mX11_init 46 [some (.ref a0)] [] ty2 h2 r3 g2 Q))))) : pv_E Γ d kc ks mX11_init 35 [some (.ref a0)] [] ty h r g Q := by
  refine pv_aload_n dX11_init_35 rfl ?_
  obtain ⟨nm1, q1a, q1b, q1c, q1d, F⟩ := F
  obtain ⟨ty1, ety1⟩ : ∃ ty1 : pv_T, ty1 = pv_newT ty nm1 10 0 := ⟨_, rfl⟩
  obtain ⟨h1, eh1⟩ : ∃ h1 : pv_H, h1 = pv_new h nm1 0 := ⟨_, rfl⟩
  obtain ⟨r1, er1⟩ : ∃ r1 : pv_R, r1 = pv_new r nm1 0 := ⟨_, rfl⟩
  obtain ⟨g1, eg1⟩ : ∃ g1 : pv_G, g1 = pv_new g nm1 0 := ⟨_, rfl⟩
  have F := F ty1 h1 r1 g1 ety1 eh1 er1 eg1
  refine pv_newO nm1 10 dX11_init_36 rfl cl_X11_29 ins_X10 ini_X10 q1a q1b q1c q1d ?_
  refine pv_nE ety1 eh1 er1 eg1 ?_
  refine pv_dup rfl dX11_init_39 ?_
  obtain ⟨q2, F⟩ := F
  obtain ⟨q3a, q3b, F⟩ := F
  refine pv_invI (As := []) (d' := d - 1) dX11_init_40 moX10_init ml_X11_31 q2 (Nat.le_of_ble_eq_true rfl) (by omega) q3a q3b F (fun v1 ty2 h2 r2 g2 F => ?_) rfl
  obtain ⟨rfl, F⟩ := F
  refine pv_pc (pc' := 43) rfl ?_
  show pv_E Γ d ((kc - 1) - 4) ((ks - 5) - 640) mX11_init 43 [some (.ref a0)] [.ref nm1, .ref a0] ty2 h2 r2 g2 Q
  obtain ⟨q4, F⟩ := F
  obtain ⟨r3, er3⟩ : ∃ r3 : pv_R, r3 = pv_up r2 a0 4 nm1 := ⟨_, rfl⟩
  have F := F r3 er3
  refine pv_putR 11 4 dX11_init_43 fl_X11_32 ⟨_, rfl, Or.inr ⟨rfl, rfl, rfl⟩⟩ rfl q4 ?_
  refine pv_rE er3 ?_
  exact F
set_option maxRecDepth 20000 in
set_option maxHeartbeats 4000000 in
theorem sg_X11_init_46 {Γ : pv_C} {d kc ks : Nat} {ty : pv_T} {h : pv_H} {r : pv_R} {g : pv_G} {Q : pv_Q} (a0 : Nat) (hd : 1 ≤ d) (F : (∃ nm1 : Nat, 10 ≤ nm1 ∧ ty nm1 = none ∧ 1 ≤ kc ∧ 11 ≤ ks ∧ (∀ (ty1 : pv_T) (h1 : pv_H) (r1 : pv_R) (g1 : pv_G), ty1 = pv_newT ty nm1 7 0 → h1 = pv_new h nm1 0 → r1 = pv_new r nm1 0 → g1 = pv_new g nm1 0 → ty1 nm1 = some (7, 0) ∧ 7 ≤ (kc - 1) ∧ 65 ≤ (ks - 11) ∧ pv_CT Γ (d - 1) 7 65 mX7_init [.ref nm1] ty1 h1 r1 g1 (fun (v1 : Option Value) (ty2 : pv_T) (h2 : pv_H) (r2 : pv_R) (g2 : pv_G) => v1 = none ∧ ty2 a0 = some (11, 0) ∧ (∀ r3 : pv_R, r3 = pv_up r2 a0 6 nm1 → pv_E Γ d ((kc - 1) - 7) ((ks - 11) - 65) mX11_init 57 [some (.ref a0)] [] ty2 h2 r3 g2 Q))))) : pv_E Γ d kc ks mX11_init 46 [some (.ref a0)] [] ty h r g Q := by
  refine pv_aload_n dX11_init_46 rfl ?_
  obtain ⟨nm1, q1a, q1b, q1c, q1d, F⟩ := F
  obtain ⟨ty1, ety1⟩ : ∃ ty1 : pv_T, ty1 = pv_newT ty nm1 7 0 := ⟨_, rfl⟩
  obtain ⟨h1, eh1⟩ : ∃ h1 : pv_H, h1 = pv_new h nm1 0 := ⟨_, rfl⟩
  obtain ⟨r1, er1⟩ : ∃ r1 : pv_R, r1 = pv_new r nm1 0 := ⟨_, rfl⟩
  obtain ⟨g1, eg1⟩ : ∃ g1 : pv_G, g1 = pv_new g nm1 0 := ⟨_, rfl⟩
  have F := F ty1 h1 r1 g1 ety1 eh1 er1 eg1
  refine pv_newO nm1 7 dX11_init_47 rfl cl_X11_36 ins_X7 ini_X7 q1a q1b q1c q1d ?_
  refine pv_nE ety1 eh1 er1 eg1 ?_
  refine pv_dup rfl dX11_init_50 ?_
  obtain ⟨q2, F⟩ := F
  obtain ⟨q3a, q3b, F⟩ := F
  refine pv_invI (As := []) (d' := d - 1) dX11_init_51 moX7_init ml_X11_38 q2 (Nat.le_of_ble_eq_true rfl) (by omega) q3a q3b F (fun v1 ty2 h2 r2 g2 F => ?_) rfl
  obtain ⟨rfl, F⟩ := F
  refine pv_pc (pc' := 54) rfl ?_
  show pv_E Γ d ((kc - 1) - 7) ((ks - 11) - 65) mX11_init 54 [some (.ref a0)] [.ref nm1, .ref a0] ty2 h2 r2 g2 Q
  obtain ⟨q4, F⟩ := F
  obtain ⟨r3, er3⟩ : ∃ r3 : pv_R, r3 = pv_up r2 a0 6 nm1 := ⟨_, rfl⟩
  have F := F r3 er3
  refine pv_putR 11 6 dX11_init_54 fl_X11_39 ⟨_, rfl, Or.inr ⟨rfl, rfl, rfl⟩⟩ rfl q4 ?_
  refine pv_rE er3 ?_
  exact F
set_option maxRecDepth 20000 in
set_option maxHeartbeats 4000000 in
theorem sg_X11_init_57 {Γ : pv_C} {d kc ks : Nat} {ty : pv_T} {h : pv_H} {r : pv_R} {g : pv_G} {Q : pv_Q} (a0 : Nat) (F : (∃ nm1 n1 : Nat, ¬ (60 : Int32) < 0 ∧ Int32.toNatClampNeg 60 = n1 ∧ n1 ≤ 1000000 ∧ 10 ≤ nm1 ∧ ty nm1 = none ∧ 1 ≤ kc ∧ n1 ≤ ks ∧ (∀ (ty1 : pv_T) (h1 : pv_H) (r1 : pv_R) (g1 : pv_G), ty1 = pv_newT ty nm1 25 n1 → h1 = pv_new h nm1 0 → r1 = pv_new r nm1 0 → g1 = pv_new g nm1 0 → ty1 a0 = some (11, 0) ∧ (∀ r2 : pv_R, r2 = pv_up r1 a0 7 nm1 → pv_E Γ d (kc - 1) (ks - n1) mX11_init 66 [some (.ref a0)] [] ty1 h1 r2 g1 Q)))) : pv_E Γ d kc ks mX11_init 57 [some (.ref a0)] [] ty h r g Q := by
  refine pv_aload_n dX11_init_57 rfl ?_
  refine pv_bipush (v := 60) (by decide) dX11_init_58 ?_
  obtain ⟨nm1, n1, q1n, q1N, q1m, q1a, q1b, q1c, q1d, F⟩ := F
  obtain ⟨ty1, ety1⟩ : ∃ ty1 : pv_T, ty1 = pv_newT ty nm1 25 n1 := ⟨_, rfl⟩
  obtain ⟨h1, eh1⟩ : ∃ h1 : pv_H, h1 = pv_new h nm1 0 := ⟨_, rfl⟩
  obtain ⟨r1, er1⟩ : ∃ r1 : pv_R, r1 = pv_new r nm1 0 := ⟨_, rfl⟩
  obtain ⟨g1, eg1⟩ : ∃ g1 : pv_G, g1 = pv_new g nm1 0 := ⟨_, rfl⟩
  have F := F ty1 h1 r1 g1 ety1 eh1 er1 eg1
  refine pv_newQ nm1 25 n1 RX3 dX11_init_60 rfl (by decide) cl_X11_43 (by simp) q1n q1N q1m q1a q1b q1c q1d ?_
  refine pv_nE ety1 eh1 er1 eg1 ?_
  obtain ⟨q2, F⟩ := F
  obtain ⟨r2, er2⟩ : ∃ r2 : pv_R, r2 = pv_up r1 a0 7 nm1 := ⟨_, rfl⟩
  have F := F r2 er2
  refine pv_putR 11 7 dX11_init_63 fl_X11_45 ⟨_, rfl, Or.inr ⟨rfl, rfl, rfl⟩⟩ rfl q2 ?_
  refine pv_rE er2 ?_
  exact F
set_option maxRecDepth 20000 in
set_option maxHeartbeats 4000000 in
theorem sg_X11_init_66 {Γ : pv_C} {d kc ks : Nat} {ty : pv_T} {h : pv_H} {r : pv_R} {g : pv_G} {Q : pv_Q} (a0 : Nat) (hd : 1 ≤ d) (F : (∃ nm1 : Nat, 10 ≤ nm1 ∧ ty nm1 = none ∧ 1 ≤ kc ∧ 5 ≤ ks ∧ (∀ (ty1 : pv_T) (h1 : pv_H) (r1 : pv_R) (g1 : pv_G), ty1 = pv_newT ty nm1 1 0 → h1 = pv_new h nm1 0 → r1 = pv_new r nm1 0 → g1 = pv_new g nm1 0 → ty1 nm1 = some (1, 0) ∧ 5 ≤ (kc - 1) ∧ 193 ≤ (ks - 5) ∧ pv_CT Γ (d - 1) 5 193 mX1_init [.ref nm1] ty1 h1 r1 g1 (fun (v1 : Option Value) (ty2 : pv_T) (h2 : pv_H) (r2 : pv_R) (g2 : pv_G) => v1 = none ∧ ty2 a0 = some (11, 0) ∧ (∀ r3 : pv_R, r3 = pv_up r2 a0 10 nm1 → pv_E Γ d ((kc - 1) - 5) ((ks - 5) - 193) mX11_init 77 [some (.ref a0)] [] ty2 h2 r3 g2 Q))))) : pv_E Γ d kc ks mX11_init 66 [some (.ref a0)] [] ty h r g Q := by
  refine pv_aload_n dX11_init_66 rfl ?_
  obtain ⟨nm1, q1a, q1b, q1c, q1d, F⟩ := F
  obtain ⟨ty1, ety1⟩ : ∃ ty1 : pv_T, ty1 = pv_newT ty nm1 1 0 := ⟨_, rfl⟩
  obtain ⟨h1, eh1⟩ : ∃ h1 : pv_H, h1 = pv_new h nm1 0 := ⟨_, rfl⟩
  obtain ⟨r1, er1⟩ : ∃ r1 : pv_R, r1 = pv_new r nm1 0 := ⟨_, rfl⟩
  obtain ⟨g1, eg1⟩ : ∃ g1 : pv_G, g1 = pv_new g nm1 0 := ⟨_, rfl⟩
  have F := F ty1 h1 r1 g1 ety1 eh1 er1 eg1
  refine pv_newO nm1 1 dX11_init_67 rfl cl_X11_49 ins_X1 ini_X1 q1a q1b q1c q1d ?_
  refine pv_nE ety1 eh1 er1 eg1 ?_
  refine pv_dup rfl dX11_init_70 ?_
  obtain ⟨q2, F⟩ := F
  obtain ⟨q3a, q3b, F⟩ := F
  refine pv_invI (As := []) (d' := d - 1) dX11_init_71 moX1_init ml_X11_51 q2 (Nat.le_of_ble_eq_true rfl) (by omega) q3a q3b F (fun v1 ty2 h2 r2 g2 F => ?_) rfl
  obtain ⟨rfl, F⟩ := F
  refine pv_pc (pc' := 74) rfl ?_
  show pv_E Γ d ((kc - 1) - 5) ((ks - 5) - 193) mX11_init 74 [some (.ref a0)] [.ref nm1, .ref a0] ty2 h2 r2 g2 Q
  obtain ⟨q4, F⟩ := F
  obtain ⟨r3, er3⟩ : ∃ r3 : pv_R, r3 = pv_up r2 a0 10 nm1 := ⟨_, rfl⟩
  have F := F r3 er3
  refine pv_putR 11 10 dX11_init_74 fl_X11_52 ⟨_, rfl, Or.inr ⟨rfl, rfl, rfl⟩⟩ rfl q4 ?_
  refine pv_rE er3 ?_
  exact F
set_option maxRecDepth 20000 in
set_option maxHeartbeats 4000000 in
theorem sg_X11_init_77 {Γ : pv_C} {d kc ks : Nat} {ty : pv_T} {h : pv_H} {r : pv_R} {g : pv_G} {Q : pv_Q} (a0 : Nat) (F : (∃ nm1 n1 : Nat, ¬ (200 : Int32) < 0 ∧ Int32.toNatClampNeg 200 = n1 ∧ n1 ≤ 1000000 ∧ 10 ≤ nm1 ∧ ty nm1 = none ∧ 1 ≤ kc ∧ n1 ≤ ks ∧ (∀ (ty1 : pv_T) (h1 : pv_H) (r1 : pv_R) (g1 : pv_G), ty1 = pv_newT ty nm1 27 n1 → h1 = pv_new h nm1 0 → r1 = pv_new r nm1 0 → g1 = pv_new g nm1 0 → ty1 a0 = some (11, 0) ∧ (∀ r2 : pv_R, r2 = pv_up r1 a0 11 nm1 → pv_E Γ d (kc - 1) (ks - n1) mX11_init 87 [some (.ref a0)] [] ty1 h1 r2 g1 Q)))) : pv_E Γ d kc ks mX11_init 77 [some (.ref a0)] [] ty h r g Q := by
  refine pv_aload_n dX11_init_77 rfl ?_
  refine pv_sipush (v := 200) (by decide) dX11_init_78 ?_
  obtain ⟨nm1, n1, q1n, q1N, q1m, q1a, q1b, q1c, q1d, F⟩ := F
  obtain ⟨ty1, ety1⟩ : ∃ ty1 : pv_T, ty1 = pv_newT ty nm1 27 n1 := ⟨_, rfl⟩
  obtain ⟨h1, eh1⟩ : ∃ h1 : pv_H, h1 = pv_new h nm1 0 := ⟨_, rfl⟩
  obtain ⟨r1, er1⟩ : ∃ r1 : pv_R, r1 = pv_new r nm1 0 := ⟨_, rfl⟩
  obtain ⟨g1, eg1⟩ : ∃ g1 : pv_G, g1 = pv_new g nm1 0 := ⟨_, rfl⟩
  have F := F ty1 h1 r1 g1 ety1 eh1 er1 eg1
  refine pv_newQ nm1 27 n1 RX6 dX11_init_81 rfl (by decide) cl_X11_56 (by simp) q1n q1N q1m q1a q1b q1c q1d ?_
  refine pv_nE ety1 eh1 er1 eg1 ?_
  obtain ⟨q2, F⟩ := F
  obtain ⟨r2, er2⟩ : ∃ r2 : pv_R, r2 = pv_up r1 a0 11 nm1 := ⟨_, rfl⟩
  have F := F r2 er2
  refine pv_putR 11 11 dX11_init_84 fl_X11_58 ⟨_, rfl, Or.inr ⟨rfl, rfl, rfl⟩⟩ rfl q2 ?_
  refine pv_rE er2 ?_
  exact F
set_option maxRecDepth 20000 in
set_option maxHeartbeats 4000000 in
theorem sg_X11_init_87 {Γ : pv_C} {d kc ks : Nat} {ty : pv_T} {h : pv_H} {r : pv_R} {g : pv_G} {Q : pv_Q} (a0 : Nat) (hd : 1 ≤ d) (F : (∃ nm1 : Nat, 10 ≤ nm1 ∧ ty nm1 = none ∧ 1 ≤ kc ∧ 4 ≤ ks ∧ (∀ (ty1 : pv_T) (h1 : pv_H) (r1 : pv_R) (g1 : pv_G), ty1 = pv_newT ty nm1 5 0 → h1 = pv_new h nm1 0 → r1 = pv_new r nm1 0 → g1 = pv_new g nm1 0 → ty1 nm1 = some (5, 0) ∧ 3 ≤ (kc - 1) ∧ 1761 ≤ (ks - 4) ∧ pv_CT Γ (d - 1) 3 1761 mX5_init [.ref nm1] ty1 h1 r1 g1 (fun (v1 : Option Value) (ty2 : pv_T) (h2 : pv_H) (r2 : pv_R) (g2 : pv_G) => v1 = none ∧ ty2 a0 = some (11, 0) ∧ (∀ r3 : pv_R, r3 = pv_up r2 a0 13 nm1 → Q none ty2 h2 r3 g2))))) : pv_E Γ d kc ks mX11_init 87 [some (.ref a0)] [] ty h r g Q := by
  refine pv_aload_n dX11_init_87 rfl ?_
  obtain ⟨nm1, q1a, q1b, q1c, q1d, F⟩ := F
  obtain ⟨ty1, ety1⟩ : ∃ ty1 : pv_T, ty1 = pv_newT ty nm1 5 0 := ⟨_, rfl⟩
  obtain ⟨h1, eh1⟩ : ∃ h1 : pv_H, h1 = pv_new h nm1 0 := ⟨_, rfl⟩
  obtain ⟨r1, er1⟩ : ∃ r1 : pv_R, r1 = pv_new r nm1 0 := ⟨_, rfl⟩
  obtain ⟨g1, eg1⟩ : ∃ g1 : pv_G, g1 = pv_new g nm1 0 := ⟨_, rfl⟩
  have F := F ty1 h1 r1 g1 ety1 eh1 er1 eg1
  refine pv_newO nm1 5 dX11_init_88 rfl cl_X11_62 ins_X5 ini_X5 q1a q1b q1c q1d ?_
  refine pv_nE ety1 eh1 er1 eg1 ?_
  refine pv_dup rfl dX11_init_91 ?_
  obtain ⟨q2, F⟩ := F
  obtain ⟨q3a, q3b, F⟩ := F
  refine pv_invI (As := []) (d' := d - 1) dX11_init_92 moX5_init ml_X11_64 q2 (Nat.le_of_ble_eq_true rfl) (by omega) q3a q3b F (fun v1 ty2 h2 r2 g2 F => ?_) rfl
  obtain ⟨rfl, F⟩ := F
  refine pv_pc (pc' := 95) rfl ?_
  show pv_E Γ d ((kc - 1) - 3) ((ks - 4) - 1761) mX11_init 95 [some (.ref a0)] [.ref nm1, .ref a0] ty2 h2 r2 g2 Q
  obtain ⟨q4, F⟩ := F
  obtain ⟨r3, er3⟩ : ∃ r3 : pv_R, r3 = pv_up r2 a0 13 nm1 := ⟨_, rfl⟩
  have F := F r3 er3
  refine pv_putR 11 13 dX11_init_95 fl_X11_65 ⟨_, rfl, Or.inr ⟨rfl, rfl, rfl⟩⟩ rfl q4 ?_
  refine pv_rE er3 ?_
  exact pv_return dX11_init_98 rfl F
set_option maxRecDepth 20000 in
set_option maxHeartbeats 4000000 in
theorem sg_X12_init_0 {Γ : pv_C} {d kc ks : Nat} {ty : pv_T} {h : pv_H} {r : pv_R} {g : pv_G} {Q : pv_Q} (a : Nat) (hd : 1 ≤ d) (F : a ≠ 0 ∧ pv_E Γ d kc ks mX12_init 4 [some (.ref a)] [] ty h r g Q) : pv_E Γ d kc ks mX12_init 0 [some (.ref a)] [] ty h r g Q := by
  refine pv_aload_n dX12_init_0 rfl ?_
  obtain ⟨q1, F⟩ := F
  refine pv_objI dX12_init_1 ml_X12_1 obj_i obj_c q1 (by omega) (Nat.le_of_ble_eq_true rfl) ?_
  exact F
set_option maxRecDepth 20000 in
set_option maxHeartbeats 4000000 in
theorem sg_X12_init_4 {Γ : pv_C} {d kc ks : Nat} {ty : pv_T} {h : pv_H} {r : pv_R} {g : pv_G} {Q : pv_Q} (a0 : Nat) (F : (∃ nm1 n1 : Nat, ¬ (8 : Int32) < 0 ∧ Int32.toNatClampNeg 8 = n1 ∧ n1 ≤ 1000000 ∧ 10 ≤ nm1 ∧ ty nm1 = none ∧ 1 ≤ kc ∧ n1 ≤ ks ∧ (∀ (ty1 : pv_T) (h1 : pv_H) (r1 : pv_R) (g1 : pv_G), ty1 = pv_newT ty nm1 20 n1 → h1 = pv_new h nm1 0 → r1 = pv_new r nm1 0 → g1 = pv_new g nm1 0 → ty1 a0 = some (12, 0) ∧ (∀ r2 : pv_R, r2 = pv_up r1 a0 2 nm1 → pv_E Γ d (kc - 1) (ks - n1) mX12_init 12 [some (.ref a0)] [] ty1 h1 r2 g1 Q)))) : pv_E Γ d kc ks mX12_init 4 [some (.ref a0)] [] ty h r g Q := by
  refine pv_aload_n dX12_init_4 rfl ?_
  refine pv_bipush (v := 8) (by decide) dX12_init_5 ?_
  obtain ⟨nm1, n1, q1n, q1N, q1m, q1a, q1b, q1c, q1d, F⟩ := F
  obtain ⟨ty1, ety1⟩ : ∃ ty1 : pv_T, ty1 = pv_newT ty nm1 20 n1 := ⟨_, rfl⟩
  obtain ⟨h1, eh1⟩ : ∃ h1 : pv_H, h1 = pv_new h nm1 0 := ⟨_, rfl⟩
  obtain ⟨r1, er1⟩ : ∃ r1 : pv_R, r1 = pv_new r nm1 0 := ⟨_, rfl⟩
  obtain ⟨g1, eg1⟩ : ∃ g1 : pv_G, g1 = pv_new g nm1 0 := ⟨_, rfl⟩
  have F := F ty1 h1 r1 g1 ety1 eh1 er1 eg1
  refine pv_newA nm1 20 n1 dX12_init_7 rfl (by decide) ac_int q1n q1N q1m q1a q1b q1c q1d ?_
  refine pv_nE ety1 eh1 er1 eg1 ?_
  obtain ⟨q2, F⟩ := F
  obtain ⟨r2, er2⟩ : ∃ r2 : pv_R, r2 = pv_up r1 a0 2 nm1 := ⟨_, rfl⟩
  have F := F r2 er2
  refine pv_putR 12 2 dX12_init_9 fl_X12_7 ⟨_, rfl, Or.inr ⟨rfl, rfl, rfl⟩⟩ rfl q2 ?_
  refine pv_rE er2 ?_
  exact F
set_option maxRecDepth 20000 in
set_option maxHeartbeats 4000000 in
theorem sg_X12_init_12 {Γ : pv_C} {d kc ks : Nat} {ty : pv_T} {h : pv_H} {r : pv_R} {g : pv_G} {Q : pv_Q} (a0 : Nat) (F : (∃ nm1 n1 : Nat, ¬ (8 : Int32) < 0 ∧ Int32.toNatClampNeg 8 = n1 ∧ n1 ≤ 1000000 ∧ 10 ≤ nm1 ∧ ty nm1 = none ∧ 1 ≤ kc ∧ n1 ≤ ks ∧ (∀ (ty1 : pv_T) (h1 : pv_H) (r1 : pv_R) (g1 : pv_G), ty1 = pv_newT ty nm1 20 n1 → h1 = pv_new h nm1 0 → r1 = pv_new r nm1 0 → g1 = pv_new g nm1 0 → ty1 a0 = some (12, 0) ∧ (∀ r2 : pv_R, r2 = pv_up r1 a0 3 nm1 → pv_E Γ d (kc - 1) (ks - n1) mX12_init 20 [some (.ref a0)] [] ty1 h1 r2 g1 Q)))) : pv_E Γ d kc ks mX12_init 12 [some (.ref a0)] [] ty h r g Q := by
  refine pv_aload_n dX12_init_12 rfl ?_
  refine pv_bipush (v := 8) (by decide) dX12_init_13 ?_
  obtain ⟨nm1, n1, q1n, q1N, q1m, q1a, q1b, q1c, q1d, F⟩ := F
  obtain ⟨ty1, ety1⟩ : ∃ ty1 : pv_T, ty1 = pv_newT ty nm1 20 n1 := ⟨_, rfl⟩
  obtain ⟨h1, eh1⟩ : ∃ h1 : pv_H, h1 = pv_new h nm1 0 := ⟨_, rfl⟩
  obtain ⟨r1, er1⟩ : ∃ r1 : pv_R, r1 = pv_new r nm1 0 := ⟨_, rfl⟩
  obtain ⟨g1, eg1⟩ : ∃ g1 : pv_G, g1 = pv_new g nm1 0 := ⟨_, rfl⟩
  have F := F ty1 h1 r1 g1 ety1 eh1 er1 eg1
  refine pv_newA nm1 20 n1 dX12_init_15 rfl (by decide) ac_int q1n q1N q1m q1a q1b q1c q1d ?_
  refine pv_nE ety1 eh1 er1 eg1 ?_
  obtain ⟨q2, F⟩ := F
  obtain ⟨r2, er2⟩ : ∃ r2 : pv_R, r2 = pv_up r1 a0 3 nm1 := ⟨_, rfl⟩
  have F := F r2 er2
  refine pv_putR 12 3 dX12_init_17 fl_X12_13 ⟨_, rfl, Or.inr ⟨rfl, rfl, rfl⟩⟩ rfl q2 ?_
  refine pv_rE er2 ?_
  exact F
set_option maxRecDepth 20000 in
set_option maxHeartbeats 4000000 in
theorem sg_X12_init_20 {Γ : pv_C} {d kc ks : Nat} {ty : pv_T} {h : pv_H} {r : pv_R} {g : pv_G} {Q : pv_Q} (a0 : Nat) (F : (∃ nm1 n1 : Nat, ¬ (1152 : Int32) < 0 ∧ Int32.toNatClampNeg 1152 = n1 ∧ n1 ≤ 1000000 ∧ 10 ≤ nm1 ∧ ty nm1 = none ∧ 1 ≤ kc ∧ n1 ≤ ks ∧ (∀ (ty1 : pv_T) (h1 : pv_H) (r1 : pv_R) (g1 : pv_G), ty1 = pv_newT ty nm1 20 n1 → h1 = pv_new h nm1 0 → r1 = pv_new r nm1 0 → g1 = pv_new g nm1 0 → ty1 a0 = some (12, 0) ∧ (∀ r2 : pv_R, r2 = pv_up r1 a0 4 nm1 → pv_E Γ d (kc - 1) (ks - n1) mX12_init 29 [some (.ref a0)] [] ty1 h1 r2 g1 Q)))) : pv_E Γ d kc ks mX12_init 20 [some (.ref a0)] [] ty h r g Q := by
  refine pv_aload_n dX12_init_20 rfl ?_
  refine pv_sipush (v := 1152) (by decide) dX12_init_21 ?_
  obtain ⟨nm1, n1, q1n, q1N, q1m, q1a, q1b, q1c, q1d, F⟩ := F
  obtain ⟨ty1, ety1⟩ : ∃ ty1 : pv_T, ty1 = pv_newT ty nm1 20 n1 := ⟨_, rfl⟩
  obtain ⟨h1, eh1⟩ : ∃ h1 : pv_H, h1 = pv_new h nm1 0 := ⟨_, rfl⟩
  obtain ⟨r1, er1⟩ : ∃ r1 : pv_R, r1 = pv_new r nm1 0 := ⟨_, rfl⟩
  obtain ⟨g1, eg1⟩ : ∃ g1 : pv_G, g1 = pv_new g nm1 0 := ⟨_, rfl⟩
  have F := F ty1 h1 r1 g1 ety1 eh1 er1 eg1
  refine pv_newA nm1 20 n1 dX12_init_24 rfl (by decide) ac_int q1n q1N q1m q1a q1b q1c q1d ?_
  refine pv_nE ety1 eh1 er1 eg1 ?_
  obtain ⟨q2, F⟩ := F
  obtain ⟨r2, er2⟩ : ∃ r2 : pv_R, r2 = pv_up r1 a0 4 nm1 := ⟨_, rfl⟩
  have F := F r2 er2
  refine pv_putR 12 4 dX12_init_26 fl_X12_16 ⟨_, rfl, Or.inr ⟨rfl, rfl, rfl⟩⟩ rfl q2 ?_
  refine pv_rE er2 ?_
  exact F
set_option maxRecDepth 20000 in
set_option maxHeartbeats 4000000 in
theorem sg_X12_init_29 {Γ : pv_C} {d kc ks : Nat} {ty : pv_T} {h : pv_H} {r : pv_R} {g : pv_G} {Q : pv_Q} (a0 : Nat) (F : (∃ nm1 n1 : Nat, ¬ (1152 : Int32) < 0 ∧ Int32.toNatClampNeg 1152 = n1 ∧ n1 ≤ 1000000 ∧ 10 ≤ nm1 ∧ ty nm1 = none ∧ 1 ≤ kc ∧ n1 ≤ ks ∧ (∀ (ty1 : pv_T) (h1 : pv_H) (r1 : pv_R) (g1 : pv_G), ty1 = pv_newT ty nm1 22 n1 → h1 = pv_new h nm1 0 → r1 = pv_new r nm1 0 → g1 = pv_new g nm1 0 → ty1 a0 = some (12, 0) ∧ (∀ r2 : pv_R, r2 = pv_up r1 a0 5 nm1 → pv_E Γ d (kc - 1) (ks - n1) mX12_init 38 [some (.ref a0)] [] ty1 h1 r2 g1 Q)))) : pv_E Γ d kc ks mX12_init 29 [some (.ref a0)] [] ty h r g Q := by
  refine pv_aload_n dX12_init_29 rfl ?_
  refine pv_sipush (v := 1152) (by decide) dX12_init_30 ?_
  obtain ⟨nm1, n1, q1n, q1N, q1m, q1a, q1b, q1c, q1d, F⟩ := F
  obtain ⟨ty1, ety1⟩ : ∃ ty1 : pv_T, ty1 = pv_newT ty nm1 22 n1 := ⟨_, rfl⟩
  obtain ⟨h1, eh1⟩ : ∃ h1 : pv_H, h1 = pv_new h nm1 0 := ⟨_, rfl⟩
  obtain ⟨r1, er1⟩ : ∃ r1 : pv_R, r1 = pv_new r nm1 0 := ⟨_, rfl⟩
  obtain ⟨g1, eg1⟩ : ∃ g1 : pv_G, g1 = pv_new g nm1 0 := ⟨_, rfl⟩
  have F := F ty1 h1 r1 g1 ety1 eh1 er1 eg1
  refine pv_newA nm1 22 n1 dX12_init_33 rfl (by decide) ac_boolean q1n q1N q1m q1a q1b q1c q1d ?_
  refine pv_nE ety1 eh1 er1 eg1 ?_
  obtain ⟨q2, F⟩ := F
  obtain ⟨r2, er2⟩ : ∃ r2 : pv_R, r2 = pv_up r1 a0 5 nm1 := ⟨_, rfl⟩
  have F := F r2 er2
  refine pv_putR 12 5 dX12_init_35 fl_X12_19 ⟨_, rfl, Or.inr ⟨rfl, rfl, rfl⟩⟩ rfl q2 ?_
  refine pv_rE er2 ?_
  exact F
set_option maxRecDepth 20000 in
set_option maxHeartbeats 4000000 in
theorem sg_X12_init_38 {Γ : pv_C} {d kc ks : Nat} {ty : pv_T} {h : pv_H} {r : pv_R} {g : pv_G} {Q : pv_Q} (a0 : Nat) (F : (∃ nm1 n1 : Nat, ¬ (256 : Int32) < 0 ∧ Int32.toNatClampNeg 256 = n1 ∧ n1 ≤ 1000000 ∧ 10 ≤ nm1 ∧ ty nm1 = none ∧ 1 ≤ kc ∧ n1 ≤ ks ∧ (∀ (ty1 : pv_T) (h1 : pv_H) (r1 : pv_R) (g1 : pv_G), ty1 = pv_newT ty nm1 20 n1 → h1 = pv_new h nm1 0 → r1 = pv_new r nm1 0 → g1 = pv_new g nm1 0 → ty1 a0 = some (12, 0) ∧ (∀ r2 : pv_R, r2 = pv_up r1 a0 6 nm1 → pv_E Γ d (kc - 1) (ks - n1) mX12_init 47 [some (.ref a0)] [] ty1 h1 r2 g1 Q)))) : pv_E Γ d kc ks mX12_init 38 [some (.ref a0)] [] ty h r g Q := by
  refine pv_aload_n dX12_init_38 rfl ?_
  refine pv_sipush (v := 256) (by decide) dX12_init_39 ?_
  obtain ⟨nm1, n1, q1n, q1N, q1m, q1a, q1b, q1c, q1d, F⟩ := F
  obtain ⟨ty1, ety1⟩ : ∃ ty1 : pv_T, ty1 = pv_newT ty nm1 20 n1 := ⟨_, rfl⟩
  obtain ⟨h1, eh1⟩ : ∃ h1 : pv_H, h1 = pv_new h nm1 0 := ⟨_, rfl⟩
  obtain ⟨r1, er1⟩ : ∃ r1 : pv_R, r1 = pv_new r nm1 0 := ⟨_, rfl⟩
  obtain ⟨g1, eg1⟩ : ∃ g1 : pv_G, g1 = pv_new g nm1 0 := ⟨_, rfl⟩
  have F := F ty1 h1 r1 g1 ety1 eh1 er1 eg1
  refine pv_newA nm1 20 n1 dX12_init_42 rfl (by decide) ac_int q1n q1N q1m q1a q1b q1c q1d ?_
  refine pv_nE ety1 eh1 er1 eg1 ?_
  obtain ⟨q2, F⟩ := F
  obtain ⟨r2, er2⟩ : ∃ r2 : pv_R, r2 = pv_up r1 a0 6 nm1 := ⟨_, rfl⟩
  have F := F r2 er2
  refine pv_putR 12 6 dX12_init_44 fl_X12_23 ⟨_, rfl, Or.inr ⟨rfl, rfl, rfl⟩⟩ rfl q2 ?_
  refine pv_rE er2 ?_
  exact F
set_option maxRecDepth 20000 in
set_option maxHeartbeats 4000000 in
theorem sg_X12_init_47 {Γ : pv_C} {d kc ks : Nat} {ty : pv_T} {h : pv_H} {r : pv_R} {g : pv_G} {Q : pv_Q} (a0 : Nat) (F : ty a0 = some (12, 0) ∧ (∀ h1 : pv_H, h1 = pv_up h a0 7 (-1) → pv_E Γ d kc ks mX12_init 52 [some (.ref a0)] [] ty h1 r g Q)) : pv_E Γ d kc ks mX12_init 47 [some (.ref a0)] [] ty h r g Q := by
  refine pv_aload_n dX12_init_47 rfl ?_
  refine pv_iconst (v := (-1)) (by decide) dX12_init_48 ?_
  obtain ⟨q1, F⟩ := F
  obtain ⟨h1, eh1⟩ : ∃ h1 : pv_H, h1 = pv_up h a0 7 (-1) := ⟨_, rfl⟩
  have F := F h1 eh1
  refine pv_putI 12 7 dX12_init_49 fl_X12_26 ⟨_, rfl, Or.inl rfl⟩ (Or.inl rfl) q1 ?_
  refine pv_hE eh1 ?_
  exact F
set_option maxRecDepth 20000 in
set_option maxHeartbeats 4000000 in
theorem sg_X12_init_52 {Γ : pv_C} {d kc ks : Nat} {ty : pv_T} {h : pv_H} {r : pv_R} {g : pv_G} {Q : pv_Q} (a0 : Nat) (F : ty a0 = some (12, 0) ∧ (∀ h1 : pv_H, h1 = pv_up h a0 8 (-1) → pv_E Γ d kc ks mX12_init 57 [some (.ref a0)] [] ty h1 r g Q)) : pv_E Γ d kc ks mX12_init 52 [some (.ref a0)] [] ty h r g Q := by
  refine pv_aload_n dX12_init_52 rfl ?_
  refine pv_iconst (v := (-1)) (by decide) dX12_init_53 ?_
  obtain ⟨q1, F⟩ := F
  obtain ⟨h1, eh1⟩ : ∃ h1 : pv_H, h1 = pv_up h a0 8 (-1) := ⟨_, rfl⟩
  have F := F h1 eh1
  refine pv_putI 12 8 dX12_init_54 fl_X12_30 ⟨_, rfl, Or.inl rfl⟩ (Or.inl rfl) q1 ?_
  refine pv_hE eh1 ?_
  exact F
set_option maxRecDepth 20000 in
set_option maxHeartbeats 4000000 in
theorem sg_X12_init_57 {Γ : pv_C} {d kc ks : Nat} {ty : pv_T} {h : pv_H} {r : pv_R} {g : pv_G} {Q : pv_Q} (a0 : Nat) (F : (∃ nm1 n1 : Nat, ¬ (9 : Int32) < 0 ∧ Int32.toNatClampNeg 9 = n1 ∧ n1 ≤ 1000000 ∧ 10 ≤ nm1 ∧ ty nm1 = none ∧ 1 ≤ kc ∧ n1 ≤ ks ∧ (∀ (ty1 : pv_T) (h1 : pv_H) (r1 : pv_R) (g1 : pv_G), ty1 = pv_newT ty nm1 20 n1 → h1 = pv_new h nm1 0 → r1 = pv_new r nm1 0 → g1 = pv_new g nm1 0 → ty1 a0 = some (12, 0) ∧ (∀ r2 : pv_R, r2 = pv_up r1 a0 11 nm1 → pv_E Γ d (kc - 1) (ks - n1) mX12_init 65 [some (.ref a0)] [] ty1 h1 r2 g1 Q)))) : pv_E Γ d kc ks mX12_init 57 [some (.ref a0)] [] ty h r g Q := by
  refine pv_aload_n dX12_init_57 rfl ?_
  refine pv_bipush (v := 9) (by decide) dX12_init_58 ?_
  obtain ⟨nm1, n1, q1n, q1N, q1m, q1a, q1b, q1c, q1d, F⟩ := F
  obtain ⟨ty1, ety1⟩ : ∃ ty1 : pv_T, ty1 = pv_newT ty nm1 20 n1 := ⟨_, rfl⟩
  obtain ⟨h1, eh1⟩ : ∃ h1 : pv_H, h1 = pv_new h nm1 0 := ⟨_, rfl⟩
  obtain ⟨r1, er1⟩ : ∃ r1 : pv_R, r1 = pv_new r nm1 0 := ⟨_, rfl⟩
  obtain ⟨g1, eg1⟩ : ∃ g1 : pv_G, g1 = pv_new g nm1 0 := ⟨_, rfl⟩
  have F := F ty1 h1 r1 g1 ety1 eh1 er1 eg1
  refine pv_newA nm1 20 n1 dX12_init_60 rfl (by decide) ac_int q1n q1N q1m q1a q1b q1c q1d ?_
  refine pv_nE ety1 eh1 er1 eg1 ?_
  obtain ⟨q2, F⟩ := F
  obtain ⟨r2, er2⟩ : ∃ r2 : pv_R, r2 = pv_up r1 a0 11 nm1 := ⟨_, rfl⟩
  have F := F r2 er2
  refine pv_putR 12 11 dX12_init_62 fl_X12_33 ⟨_, rfl, Or.inr ⟨rfl, rfl, rfl⟩⟩ rfl q2 ?_
  refine pv_rE er2 ?_
  exact F
set_option maxRecDepth 20000 in
set_option maxHeartbeats 4000000 in
theorem sg_X12_init_65 {Γ : pv_C} {d kc ks : Nat} {ty : pv_T} {h : pv_H} {r : pv_R} {g : pv_G} {Q : pv_Q} (a0 : Nat) (F : (∃ nm1 n1 : Nat, ¬ (9 : Int32) < 0 ∧ Int32.toNatClampNeg 9 = n1 ∧ n1 ≤ 1000000 ∧ 10 ≤ nm1 ∧ ty nm1 = none ∧ 1 ≤ kc ∧ n1 ≤ ks ∧ (∀ (ty1 : pv_T) (h1 : pv_H) (r1 : pv_R) (g1 : pv_G), ty1 = pv_newT ty nm1 20 n1 → h1 = pv_new h nm1 0 → r1 = pv_new r nm1 0 → g1 = pv_new g nm1 0 → ty1 a0 = some (12, 0) ∧ (∀ r2 : pv_R, r2 = pv_up r1 a0 12 nm1 → pv_E Γ d (kc - 1) (ks - n1) mX12_init 73 [some (.ref a0)] [] ty1 h1 r2 g1 Q)))) : pv_E Γ d kc ks mX12_init 65 [some (.ref a0)] [] ty h r g Q := by
  refine pv_aload_n dX12_init_65 rfl ?_
  refine pv_bipush (v := 9) (by decide) dX12_init_66 ?_
  obtain ⟨nm1, n1, q1n, q1N, q1m, q1a, q1b, q1c, q1d, F⟩ := F
  obtain ⟨ty1, ety1⟩ : ∃ ty1 : pv_T, ty1 = pv_newT ty nm1 20 n1 := ⟨_, rfl⟩
  obtain ⟨h1, eh1⟩ : ∃ h1 : pv_H, h1 = pv_new h nm1 0 := ⟨_, rfl⟩
  obtain ⟨r1, er1⟩ : ∃ r1 : pv_R, r1 = pv_new r nm1 0 := ⟨_, rfl⟩
  obtain ⟨g1, eg1⟩ : ∃ g1 : pv_G, g1 = pv_new g nm1 0 := ⟨_, rfl⟩
  have F := F ty1 h1 r1 g1 ety1 eh1 er1 eg1
  refine pv_newA nm1 20 n1 dX12_init_68 rfl (by decide) ac_int q1n q1N q1m q1a q1b q1c q1d ?_
  refine pv_nE ety1 eh1 er1 eg1 ?_
  obtain ⟨q2, F⟩ := F
  obtain ⟨r2, er2⟩ : ∃ r2 : pv_R, r2 = pv_up r1 a0 12 nm1 := ⟨_, rfl⟩
  have F := F r2 er2
  refine pv_putR 12 12 dX12_init_70 fl_X12_36 ⟨_, rfl, Or.inr ⟨rfl, rfl, rfl⟩⟩ rfl q2 ?_
  refine pv_rE er2 ?_
  exact F
set_option maxRecDepth 20000 in
set_option maxHeartbeats 4000000 in
theorem sg_X12_init_73 {Γ : pv_C} {d kc ks : Nat} {ty : pv_T} {h : pv_H} {r : pv_R} {g : pv_G} {Q : pv_Q} (a0 : Nat) (F : (∃ nm1 n1 : Nat, ¬ (900 : Int32) < 0 ∧ Int32.toNatClampNeg 900 = n1 ∧ n1 ≤ 1000000 ∧ 10 ≤ nm1 ∧ ty nm1 = none ∧ 1 ≤ kc ∧ n1 ≤ ks ∧ (∀ (ty1 : pv_T) (h1 : pv_H) (r1 : pv_R) (g1 : pv_G), ty1 = pv_newT ty nm1 20 n1 → h1 = pv_new h nm1 0 → r1 = pv_new r nm1 0 → g1 = pv_new g nm1 0 → ty1 a0 = some (12, 0) ∧ (∀ r2 : pv_R, r2 = pv_up r1 a0 13 nm1 → pv_E Γ d (kc - 1) (ks - n1) mX12_init 82 [some (.ref a0)] [] ty1 h1 r2 g1 Q)))) : pv_E Γ d kc ks mX12_init 73 [some (.ref a0)] [] ty h r g Q := by
  refine pv_aload_n dX12_init_73 rfl ?_
  refine pv_sipush (v := 900) (by decide) dX12_init_74 ?_
  obtain ⟨nm1, n1, q1n, q1N, q1m, q1a, q1b, q1c, q1d, F⟩ := F
  obtain ⟨ty1, ety1⟩ : ∃ ty1 : pv_T, ty1 = pv_newT ty nm1 20 n1 := ⟨_, rfl⟩
  obtain ⟨h1, eh1⟩ : ∃ h1 : pv_H, h1 = pv_new h nm1 0 := ⟨_, rfl⟩
  obtain ⟨r1, er1⟩ : ∃ r1 : pv_R, r1 = pv_new r nm1 0 := ⟨_, rfl⟩
  obtain ⟨g1, eg1⟩ : ∃ g1 : pv_G, g1 = pv_new g nm1 0 := ⟨_, rfl⟩
  have F := F ty1 h1 r1 g1 ety1 eh1 er1 eg1
  refine pv_newA nm1 20 n1 dX12_init_77 rfl (by decide) ac_int q1n q1N q1m q1a q1b q1c q1d ?_
  refine pv_nE ety1 eh1 er1 eg1 ?_
  obtain ⟨q2, F⟩ := F
  obtain ⟨r2, er2⟩ : ∃ r2 : pv_R, r2 = pv_up r1 a0 13 nm1 := ⟨_, rfl⟩
  have F := F r2 er2
  refine pv_putR 12 13 dX12_init_79 fl_X12_39 ⟨_, rfl, Or.inr ⟨rfl, rfl, rfl⟩⟩ rfl q2 ?_
  refine pv_rE er2 ?_
  exact F
set_option maxRecDepth 20000 in
set_option maxHeartbeats 4000000 in
theorem sg_X12_init_82 {Γ : pv_C} {d kc ks : Nat} {ty : pv_T} {h : pv_H} {r : pv_R} {g : pv_G} {Q : pv_Q} (a0 : Nat) (F : (∃ nm1 n1 : Nat, ¬ (10 : Int32) < 0 ∧ Int32.toNatClampNeg 10 = n1 ∧ n1 ≤ 1000000 ∧ 10 ≤ nm1 ∧ ty nm1 = none ∧ 1 ≤ kc ∧ n1 ≤ ks ∧ (∀ (ty1 : pv_T) (h1 : pv_H) (r1 : pv_R) (g1 : pv_G), ty1 = pv_newT ty nm1 20 n1 → h1 = pv_new h nm1 0 → r1 = pv_new r nm1 0 → g1 = pv_new g nm1 0 → ty1 a0 = some (12, 0) ∧ (∀ r2 : pv_R, r2 = pv_up r1 a0 14 nm1 → pv_E Γ d (kc - 1) (ks - n1) mX12_init 90 [some (.ref a0)] [] ty1 h1 r2 g1 Q)))) : pv_E Γ d kc ks mX12_init 82 [some (.ref a0)] [] ty h r g Q := by
  refine pv_aload_n dX12_init_82 rfl ?_
  refine pv_bipush (v := 10) (by decide) dX12_init_83 ?_
  obtain ⟨nm1, n1, q1n, q1N, q1m, q1a, q1b, q1c, q1d, F⟩ := F
  obtain ⟨ty1, ety1⟩ : ∃ ty1 : pv_T, ty1 = pv_newT ty nm1 20 n1 := ⟨_, rfl⟩
  obtain ⟨h1, eh1⟩ : ∃ h1 : pv_H, h1 = pv_new h nm1 0 := ⟨_, rfl⟩
  obtain ⟨r1, er1⟩ : ∃ r1 : pv_R, r1 = pv_new r nm1 0 := ⟨_, rfl⟩
  obtain ⟨g1, eg1⟩ : ∃ g1 : pv_G, g1 = pv_new g nm1 0 := ⟨_, rfl⟩
  have F := F ty1 h1 r1 g1 ety1 eh1 er1 eg1
  refine pv_newA nm1 20 n1 dX12_init_85 rfl (by decide) ac_int q1n q1N q1m q1a q1b q1c q1d ?_
  refine pv_nE ety1 eh1 er1 eg1 ?_
  obtain ⟨q2, F⟩ := F
  obtain ⟨r2, er2⟩ : ∃ r2 : pv_R, r2 = pv_up r1 a0 14 nm1 := ⟨_, rfl⟩
  have F := F r2 er2
  refine pv_putR 12 14 dX12_init_87 fl_X12_42 ⟨_, rfl, Or.inr ⟨rfl, rfl, rfl⟩⟩ rfl q2 ?_
  refine pv_rE er2 ?_
  exact F
set_option maxRecDepth 20000 in
set_option maxHeartbeats 4000000 in
theorem sg_X12_init_90 {Γ : pv_C} {d kc ks : Nat} {ty : pv_T} {h : pv_H} {r : pv_R} {g : pv_G} {Q : pv_Q} (a0 : Nat) (F : (∃ nm1 n1 : Nat, ¬ (10 : Int32) < 0 ∧ Int32.toNatClampNeg 10 = n1 ∧ n1 ≤ 1000000 ∧ 10 ≤ nm1 ∧ ty nm1 = none ∧ 1 ≤ kc ∧ n1 ≤ ks ∧ (∀ (ty1 : pv_T) (h1 : pv_H) (r1 : pv_R) (g1 : pv_G), ty1 = pv_newT ty nm1 20 n1 → h1 = pv_new h nm1 0 → r1 = pv_new r nm1 0 → g1 = pv_new g nm1 0 → ty1 a0 = some (12, 0) ∧ (∀ r2 : pv_R, r2 = pv_up r1 a0 15 nm1 → pv_E Γ d (kc - 1) (ks - n1) mX12_init 98 [some (.ref a0)] [] ty1 h1 r2 g1 Q)))) : pv_E Γ d kc ks mX12_init 90 [some (.ref a0)] [] ty h r g Q := by
  refine pv_aload_n dX12_init_90 rfl ?_
  refine pv_bipush (v := 10) (by decide) dX12_init_91 ?_
  obtain ⟨nm1, n1, q1n, q1N, q1m, q1a, q1b, q1c, q1d, F⟩ := F
  obtain ⟨ty1, ety1⟩ : ∃ ty1 : pv_T, ty1 = pv_newT ty nm1 20 n1 := ⟨_, rfl⟩
  obtain ⟨h1, eh1⟩ : ∃ h1 : pv_H, h1 = pv_new h nm1 0 := ⟨_, rfl⟩
  obtain ⟨r1, er1⟩ : ∃ r1 : pv_R, r1 = pv_new r nm1 0 := ⟨_, rfl⟩
  obtain ⟨g1, eg1⟩ : ∃ g1 : pv_G, g1 = pv_new g nm1 0 := ⟨_, rfl⟩
  have F := F ty1 h1 r1 g1 ety1 eh1 er1 eg1
  refine pv_newA nm1 20 n1 dX12_init_93 rfl (by decide) ac_int q1n q1N q1m q1a q1b q1c q1d ?_
  refine pv_nE ety1 eh1 er1 eg1 ?_
  obtain ⟨q2, F⟩ := F
  obtain ⟨r2, er2⟩ : ∃ r2 : pv_R, r2 = pv_up r1 a0 15 nm1 := ⟨_, rfl⟩
  have F := F r2 er2
  refine pv_putR 12 15 dX12_init_95 fl_X12_45 ⟨_, rfl, Or.inr ⟨rfl, rfl, rfl⟩⟩ rfl q2 ?_
  refine pv_rE er2 ?_
  exact F
set_option maxRecDepth 20000 in
set_option maxHeartbeats 4000000 in
theorem sg_X12_init_98 {Γ : pv_C} {d kc ks : Nat} {ty : pv_T} {h : pv_H} {r : pv_R} {g : pv_G} {Q : pv_Q} (a0 : Nat) (F : (∃ nm1 n1 : Nat, ¬ (10 : Int32) < 0 ∧ Int32.toNatClampNeg 10 = n1 ∧ n1 ≤ 1000000 ∧ 10 ≤ nm1 ∧ ty nm1 = none ∧ 1 ≤ kc ∧ n1 ≤ ks ∧ (∀ (ty1 : pv_T) (h1 : pv_H) (r1 : pv_R) (g1 : pv_G), ty1 = pv_newT ty nm1 20 n1 → h1 = pv_new h nm1 0 → r1 = pv_new r nm1 0 → g1 = pv_new g nm1 0 → ty1 a0 = some (12, 0) ∧ (∀ r2 : pv_R, r2 = pv_up r1 a0 17 nm1 → pv_E Γ d (kc - 1) (ks - n1) mX12_init 106 [some (.ref a0)] [] ty1 h1 r2 g1 Q)))) : pv_E Γ d kc ks mX12_init 98 [some (.ref a0)] [] ty h r g Q := by
  refine pv_aload_n dX12_init_98 rfl ?_
  refine pv_bipush (v := 10) (by decide) dX12_init_99 ?_
  obtain ⟨nm1, n1, q1n, q1N, q1m, q1a, q1b, q1c, q1d, F⟩ := F
  obtain ⟨ty1, ety1⟩ : ∃ ty1 : pv_T, ty1 = pv_newT ty nm1 20 n1 := ⟨_, rfl⟩
  obtain ⟨h1, eh1⟩ : ∃ h1 : pv_H, h1 = pv_new h nm1 0 := ⟨_, rfl⟩
  obtain ⟨r1, er1⟩ : ∃ r1 : pv_R, r1 = pv_new r nm1 0 := ⟨_, rfl⟩
  obtain ⟨g1, eg1⟩ : ∃ g1 : pv_G, g1 = pv_new g nm1 0 := ⟨_, rfl⟩
  have F := F ty1 h1 r1 g1 ety1 eh1 er1 eg1
  refine pv_newA nm1 20 n1 dX12_init_101 rfl (by decide) ac_int q1n q1N q1m q1a q1b q1c q1d ?_
  refine pv_nE ety1 eh1 er1 eg1 ?_
  obtain ⟨q2, F⟩ := F
  obtain ⟨r2, er2⟩ : ∃ r2 : pv_R, r2 = pv_up r1 a0 17 nm1 := ⟨_, rfl⟩
  have F := F r2 er2
  refine pv_putR 12 17 dX12_init_103 fl_X12_48 ⟨_, rfl, Or.inr ⟨rfl, rfl, rfl⟩⟩ rfl q2 ?_
  refine pv_rE er2 ?_
  exact F
set_option maxRecDepth 20000 in
set_option maxHeartbeats 4000000 in
theorem sg_X12_init_106 {Γ : pv_C} {d kc ks : Nat} {ty : pv_T} {h : pv_H} {r : pv_R} {g : pv_G} {Q : pv_Q} (a0 : Nat) (F : (∃ nm1 n1 : Nat, ¬ (610 : Int32) < 0 ∧ Int32.toNatClampNeg 610 = n1 ∧ n1 ≤ 1000000 ∧ 10 ≤ nm1 ∧ ty nm1 = none ∧ 1 ≤ kc ∧ n1 ≤ ks ∧ (∀ (ty1 : pv_T) (h1 : pv_H) (r1 : pv_R) (g1 : pv_G), ty1 = pv_newT ty nm1 20 n1 → h1 = pv_new h nm1 0 → r1 = pv_new r nm1 0 → g1 = pv_new g nm1 0 → ty1 a0 = some (12, 0) ∧ (∀ r2 : pv_R, r2 = pv_up r1 a0 18 nm1 → pv_E Γ d (kc - 1) (ks - n1) mX12_init 115 [some (.ref a0)] [] ty1 h1 r2 g1 Q)))) : pv_E Γ d kc ks mX12_init 106 [some (.ref a0)] [] ty h r g Q := by
  refine pv_aload_n dX12_init_106 rfl ?_
  refine pv_sipush (v := 610) (by decide) dX12_init_107 ?_
  obtain ⟨nm1, n1, q1n, q1N, q1m, q1a, q1b, q1c, q1d, F⟩ := F
  obtain ⟨ty1, ety1⟩ : ∃ ty1 : pv_T, ty1 = pv_newT ty nm1 20 n1 := ⟨_, rfl⟩
  obtain ⟨h1, eh1⟩ : ∃ h1 : pv_H, h1 = pv_new h nm1 0 := ⟨_, rfl⟩
  obtain ⟨r1, er1⟩ : ∃ r1 : pv_R, r1 = pv_new r nm1 0 := ⟨_, rfl⟩
  obtain ⟨g1, eg1⟩ : ∃ g1 : pv_G, g1 = pv_new g nm1 0 := ⟨_, rfl⟩
  have F := F ty1 h1 r1 g1 ety1 eh1 er1 eg1
  refine pv_newA nm1 20 n1 dX12_init_110 rfl (by decide) ac_int q1n q1N q1m q1a q1b q1c q1d ?_
  refine pv_nE ety1 eh1 er1 eg1 ?_
  obtain ⟨q2, F⟩ := F
  obtain ⟨r2, er2⟩ : ∃ r2 : pv_R, r2 = pv_up r1 a0 18 nm1 := ⟨_, rfl⟩
  have F := F r2 er2
  refine pv_putR 12 18 dX12_init_112 fl_X12_51 ⟨_, rfl, Or.inr ⟨rfl, rfl, rfl⟩⟩ rfl q2 ?_
  refine pv_rE er2 ?_
  exact F
set_option maxRecDepth 20000 in
set_option maxHeartbeats 4000000 in
theorem sg_X12_init_115 {Γ : pv_C} {d kc ks : Nat} {ty : pv_T} {h : pv_H} {r : pv_R} {g : pv_G} {Q : pv_Q} (a0 : Nat) (F : (∃ nm1 n1 : Nat, ¬ (248 : Int32) < 0 ∧ Int32.toNatClampNeg 248 = n1 ∧ n1 ≤ 1000000 ∧ 10 ≤ nm1 ∧ ty nm1 = none ∧ 1 ≤ kc ∧ n1 ≤ ks ∧ (∀ (ty1 : pv_T) (h1 : pv_H) (r1 : pv_R) (g1 : pv_G), ty1 = pv_newT ty nm1 22 n1 → h1 = pv_new h nm1 0 → r1 = pv_new r nm1 0 → g1 = pv_new g nm1 0 → ty1 a0 = some (12, 0) ∧ (∀ r2 : pv_R, r2 = pv_up r1 a0 20 nm1 → pv_E Γ d (kc - 1) (ks - n1) mX12_init 124 [some (.ref a0)] [] ty1 h1 r2 g1 Q)))) : pv_E Γ d kc ks mX12_init 115 [some (.ref a0)] [] ty h r g Q := by
  refine pv_aload_n dX12_init_115 rfl ?_
  refine pv_sipush (v := 248) (by decide) dX12_init_116 ?_
  obtain ⟨nm1, n1, q1n, q1N, q1m, q1a, q1b, q1c, q1d, F⟩ := F
  obtain ⟨ty1, ety1⟩ : ∃ ty1 : pv_T, ty1 = pv_newT ty nm1 22 n1 := ⟨_, rfl⟩
  obtain ⟨h1, eh1⟩ : ∃ h1 : pv_H, h1 = pv_new h nm1 0 := ⟨_, rfl⟩
  obtain ⟨r1, er1⟩ : ∃ r1 : pv_R, r1 = pv_new r nm1 0 := ⟨_, rfl⟩
  obtain ⟨g1, eg1⟩ : ∃ g1 : pv_G, g1 = pv_new g nm1 0 := ⟨_, rfl⟩
  have F := F ty1 h1 r1 g1 ety1 eh1 er1 eg1
  refine pv_newA nm1 22 n1 dX12_init_119 rfl (by decide) ac_boolean q1n q1N q1m q1a q1b q1c q1d ?_
  refine pv_nE ety1 eh1 er1 eg1 ?_
  obtain ⟨q2, F⟩ := F
  obtain ⟨r2, er2⟩ : ∃ r2 : pv_R, r2 = pv_up r1 a0 20 nm1 := ⟨_, rfl⟩
  have F := F r2 er2
  refine pv_putR 12 20 dX12_init_121 fl_X12_54 ⟨_, rfl, Or.inr ⟨rfl, rfl, rfl⟩⟩ rfl q2 ?_
  refine pv_rE er2 ?_
  exact F
set_option maxRecDepth 20000 in
set_option maxHeartbeats 4000000 in
theorem sg_X12_init_124 {Γ : pv_C} {d kc ks : Nat} {ty : pv_T} {h : pv_H} {r : pv_R} {g : pv_G} {Q : pv_Q} (a0 : Nat) (F : (∃ nm1 n1 : Nat, ¬ (248 : Int32) < 0 ∧ Int32.toNatClampNeg 248 = n1 ∧ n1 ≤ 1000000 ∧ 10 ≤ nm1 ∧ ty nm1 = none ∧ 1 ≤ kc ∧ n1 ≤ ks ∧ (∀ (ty1 : pv_T) (h1 : pv_H) (r1 : pv_R) (g1 : pv_G), ty1 = pv_newT ty nm1 20 n1 → h1 = pv_new h nm1 0 → r1 = pv_new r nm1 0 → g1 = pv_new g nm1 0 → ty1 a0 = some (12, 0) ∧ (∀ r2 : pv_R, r2 = pv_up r1 a0 21 nm1 → pv_E Γ d (kc - 1) (ks - n1) mX12_init 133 [some (.ref a0)] [] ty1 h1 r2 g1 Q)))) : pv_E Γ d kc ks mX12_init 124 [some (.ref a0)] [] ty h r g Q := by
  refine pv_aload_n dX12_init_124 rfl ?_
  refine pv_sipush (v := 248) (by decide) dX12_init_125 ?_
  obtain ⟨nm1, n1, q1n, q1N, q1m, q1a, q1b, q1c, q1d, F⟩ := F
  obtain ⟨ty1, ety1⟩ : ∃ ty1 : pv_T, ty1 = pv_newT ty nm1 20 n1 := ⟨_, rfl⟩
  obtain ⟨h1, eh1⟩ : ∃ h1 : pv_H, h1 = pv_new h nm1 0 := ⟨_, rfl⟩
  obtain ⟨r1, er1⟩ : ∃ r1 : pv_R, r1 = pv_new r nm1 0 := ⟨_, rfl⟩
  obtain ⟨g1, eg1⟩ : ∃ g1 : pv_G, g1 = pv_new g nm1 0 := ⟨_, rfl⟩
  have F := F ty1 h1 r1 g1 ety1 eh1 er1 eg1
  refine pv_newA nm1 20 n1 dX12_init_128 rfl (by decide) ac_int q1n q1N q1m q1a q1b q1c q1d ?_
  refine pv_nE ety1 eh1 er1 eg1 ?_
  obtain ⟨q2, F⟩ := F
  obtain ⟨r2, er2⟩ : ∃ r2 : pv_R, r2 = pv_up r1 a0 21 nm1 := ⟨_, rfl⟩
  have F := F r2 er2
  refine pv_putR 12 21 dX12_init_130 fl_X12_57 ⟨_, rfl, Or.inr ⟨rfl, rfl, rfl⟩⟩ rfl q2 ?_
  refine pv_rE er2 ?_
  exact F
set_option maxRecDepth 20000 in
set_option maxHeartbeats 4000000 in
theorem sg_X12_init_133 {Γ : pv_C} {d kc ks : Nat} {ty : pv_T} {h : pv_H} {r : pv_R} {g : pv_G} {Q : pv_Q} (a0 : Nat) (F : (∃ nm1 n1 : Nat, ¬ (8 : Int32) < 0 ∧ Int32.toNatClampNeg 8 = n1 ∧ n1 ≤ 1000000 ∧ 10 ≤ nm1 ∧ ty nm1 = none ∧ 1 ≤ kc ∧ n1 ≤ ks ∧ (∀ (ty1 : pv_T) (h1 : pv_H) (r1 : pv_R) (g1 : pv_G), ty1 = pv_newT ty nm1 20 n1 → h1 = pv_new h nm1 0 → r1 = pv_new r nm1 0 → g1 = pv_new g nm1 0 → ty1 a0 = some (12, 0) ∧ (∀ r2 : pv_R, r2 = pv_up r1 a0 22 nm1 → pv_E Γ d (kc - 1) (ks - n1) mX12_init 141 [some (.ref a0)] [] ty1 h1 r2 g1 Q)))) : pv_E Γ d kc ks mX12_init 133 [some (.ref a0)] [] ty h r g Q := by
  refine pv_aload_n dX12_init_133 rfl ?_
  refine pv_bipush (v := 8) (by decide) dX12_init_134 ?_
  obtain ⟨nm1, n1, q1n, q1N, q1m, q1a, q1b, q1c, q1d, F⟩ := F
  obtain ⟨ty1, ety1⟩ : ∃ ty1 : pv_T, ty1 = pv_newT ty nm1 20 n1 := ⟨_, rfl⟩
  obtain ⟨h1, eh1⟩ : ∃ h1 : pv_H, h1 = pv_new h nm1 0 := ⟨_, rfl⟩
  obtain ⟨r1, er1⟩ : ∃ r1 : pv_R, r1 = pv_new r nm1 0 := ⟨_, rfl⟩
  obtain ⟨g1, eg1⟩ : ∃ g1 : pv_G, g1 = pv_new g nm1 0 := ⟨_, rfl⟩
  have F := F ty1 h1 r1 g1 ety1 eh1 er1 eg1
  refine pv_newA nm1 20 n1 dX12_init_136 rfl (by decide) ac_int q1n q1N q1m q1a q1b q1c q1d ?_
  refine pv_nE ety1 eh1 er1 eg1 ?_
  obtain ⟨q2, F⟩ := F
  obtain ⟨r2, er2⟩ : ∃ r2 : pv_R, r2 = pv_up r1 a0 22 nm1 := ⟨_, rfl⟩
  have F := F r2 er2
  refine pv_putR 12 22 dX12_init_138 fl_X12_60 ⟨_, rfl, Or.inr ⟨rfl, rfl, rfl⟩⟩ rfl q2 ?_
  refine pv_rE er2 ?_
  exact F
set_option maxRecDepth 20000 in
set_option maxHeartbeats 4000000 in
theorem sg_X12_init_141 {Γ : pv_C} {d kc ks : Nat} {ty : pv_T} {h : pv_H} {r : pv_R} {g : pv_G} {Q : pv_Q} (a0 : Nat) (F : (∃ nm1 n1 : Nat, ¬ (8 : Int32) < 0 ∧ Int32.toNatClampNeg 8 = n1 ∧ n1 ≤ 1000000 ∧ 10 ≤ nm1 ∧ ty nm1 = none ∧ 1 ≤ kc ∧ n1 ≤ ks ∧ (∀ (ty1 : pv_T) (h1 : pv_H) (r1 : pv_R) (g1 : pv_G), ty1 = pv_newT ty nm1 20 n1 → h1 = pv_new h nm1 0 → r1 = pv_new r nm1 0 → g1 = pv_new g nm1 0 → ty1 a0 = some (12, 0) ∧ (∀ r2 : pv_R, r2 = pv_up r1 a0 23 nm1 → pv_E Γ d (kc - 1) (ks - n1) mX12_init 149 [some (.ref a0)] [] ty1 h1 r2 g1 Q)))) : pv_E Γ d kc ks mX12_init 141 [some (.ref a0)] [] ty h r g Q := by
  refine pv_aload_n dX12_init_141 rfl ?_
  refine pv_bipush (v := 8) (by decide) dX12_init_142 ?_
  obtain ⟨nm1, n1, q1n, q1N, q1m, q1a, q1b, q1c, q1d, F⟩ := F
  obtain ⟨ty1, ety1⟩ : ∃ ty1 : pv_T, ty1 = pv_newT ty nm1 20 n1 := ⟨_, rfl⟩
  obtain ⟨h1, eh1⟩ : ∃ h1 : pv_H, h1 = pv_new h nm1 0 := ⟨_, rfl⟩
  obtain ⟨r1, er1⟩ : ∃ r1 : pv_R, r1 = pv_new r nm1 0 := ⟨_, rfl⟩
  obtain ⟨g1, eg1⟩ : ∃ g1 : pv_G, g1 = pv_new g nm1 0 := ⟨_, rfl⟩
  have F := F ty1 h1 r1 g1 ety1 eh1 er1 eg1
  refine pv_newA nm1 20 n1 dX12_init_144 rfl (by decide) ac_int q1n q1N q1m q1a q1b q1c q1d ?_
  refine pv_nE ety1 eh1 er1 eg1 ?_
  obtain ⟨q2, F⟩ := F
  obtain ⟨r2, er2⟩ : ∃ r2 : pv_R, r2 = pv_up r1 a0 23 nm1 := ⟨_, rfl⟩
  have F := F r2 er2
  refine pv_putR 12 23 dX12_init_146 fl_X12_63 ⟨_, rfl, Or.inr ⟨rfl, rfl, rfl⟩⟩ rfl q2 ?_
  refine pv_rE er2 ?_
  exact F
set_option maxRecDepth 20000 in
set_option maxHeartbeats 4000000 in
theorem sg_X12_init_149 {Γ : pv_C} {d kc ks : Nat} {ty : pv_T} {h : pv_H} {r : pv_R} {g : pv_G} {Q : pv_Q} (a0 : Nat) (F : (∃ nm1 n1 : Nat, ¬ (8 : Int32) < 0 ∧ Int32.toNatClampNeg 8 = n1 ∧ n1 ≤ 1000000 ∧ 10 ≤ nm1 ∧ ty nm1 = none ∧ 1 ≤ kc ∧ n1 ≤ ks ∧ (∀ (ty1 : pv_T) (h1 : pv_H) (r1 : pv_R) (g1 : pv_G), ty1 = pv_newT ty nm1 20 n1 → h1 = pv_new h nm1 0 → r1 = pv_new r nm1 0 → g1 = pv_new g nm1 0 → ty1 a0 = some (12, 0) ∧ (∀ r2 : pv_R, r2 = pv_up r1 a0 24 nm1 → pv_E Γ d (kc - 1) (ks - n1) mX12_init 157 [some (.ref a0)] [] ty1 h1 r2 g1 Q)))) : pv_E Γ d kc ks mX12_init 149 [some (.ref a0)] [] ty h r g Q := by
  refine pv_aload_n dX12_init_149 rfl ?_
  refine pv_bipush (v := 8) (by decide) dX12_init_150 ?_
  obtain ⟨nm1, n1, q1n, q1N, q1m, q1a, q1b, q1c, q1d, F⟩ := F
  obtain ⟨ty1, ety1⟩ : ∃ ty1 : pv_T, ty1 = pv_newT ty nm1 20 n1 := ⟨_, rfl⟩
  obtain ⟨h1, eh1⟩ : ∃ h1 : pv_H, h1 = pv_new h nm1 0 := ⟨_, rfl⟩
  obtain ⟨r1, er1⟩ : ∃ r1 : pv_R, r1 = pv_new r nm1 0 := ⟨_, rfl⟩
  obtain ⟨g1, eg1⟩ : ∃ g1 : pv_G, g1 = pv_new g nm1 0 := ⟨_, rfl⟩
  have F := F ty1 h1 r1 g1 ety1 eh1 er1 eg1
  refine pv_newA nm1 20 n1 dX12_init_152 rfl (by decide) ac_int q1n q1N q1m q1a q1b q1c q1d ?_
  refine pv_nE ety1 eh1 er1 eg1 ?_
  obtain ⟨q2, F⟩ := F
  obtain ⟨r2, er2⟩ : ∃ r2 : pv_R, r2 = pv_up r1 a0 24 nm1 := ⟨_, rfl⟩
  have F := F r2 er2
  refine pv_putR 12 24 dX12_init_154 fl_X12_66 ⟨_, rfl, Or.inr ⟨rfl, rfl, rfl⟩⟩ rfl q2 ?_
  refine pv_rE er2 ?_
  exact F
set_option maxRecDepth 20000 in
set_option maxHeartbeats 4000000 in
theorem sg_X12_init_157 {Γ : pv_C} {d kc ks : Nat} {ty : pv_T} {h : pv_H} {r : pv_R} {g : pv_G} {Q : pv_Q} (a0 : Nat) (F : (∃ nm1 n1 : Nat, ¬ (8 : Int32) < 0 ∧ Int32.toNatClampNeg 8 = n1 ∧ n1 ≤ 1000000 ∧ 10 ≤ nm1 ∧ ty nm1 = none ∧ 1 ≤ kc ∧ n1 ≤ ks ∧ (∀ (ty1 : pv_T) (h1 : pv_H) (r1 : pv_R) (g1 : pv_G), ty1 = pv_newT ty nm1 20 n1 → h1 = pv_new h nm1 0 → r1 = pv_new r nm1 0 → g1 = pv_new g nm1 0 → ty1 a0 = some (12, 0) ∧ (∀ r2 : pv_R, r2 = pv_up r1 a0 25 nm1 → pv_E Γ d (kc - 1) (ks - n1) mX12_init 165 [some (.ref a0)] [] ty1 h1 r2 g1 Q)))) : pv_E Γ d kc ks mX12_init 157 [some (.ref a0)] [] ty h r g Q := by
  refine pv_aload_n dX12_init_157 rfl ?_
  refine pv_bipush (v := 8) (by decide) dX12_init_158 ?_
  obtain ⟨nm1, n1, q1n, q1N, q1m, q1a, q1b, q1c, q1d, F⟩ := F
  obtain ⟨ty1, ety1⟩ : ∃ ty1 : pv_T, ty1 = pv_newT ty nm1 20 n1 := ⟨_, rfl⟩
  obtain ⟨h1, eh1⟩ : ∃ h1 : pv_H, h1 = pv_new h nm1 0 := ⟨_, rfl⟩
  obtain ⟨r1, er1⟩ : ∃ r1 : pv_R, r1 = pv_new r nm1 0 := ⟨_, rfl⟩
  obtain ⟨g1, eg1⟩ : ∃ g1 : pv_G, g1 = pv_new g nm1 0 := ⟨_, rfl⟩
  have F := F ty1 h1 r1 g1 ety1 eh1 er1 eg1
  refine pv_newA nm1 20 n1 dX12_init_160 rfl (by decide) ac_int q1n q1N q1m q1a q1b q1c q1d ?_
  refine pv_nE ety1 eh1 er1 eg1 ?_
  obtain ⟨q2, F⟩ := F
  obtain ⟨r2, er2⟩ : ∃ r2 : pv_R, r2 = pv_up r1 a0 25 nm1 := ⟨_, rfl⟩
  have F := F r2 er2
  refine pv_putR 12 25 dX12_init_162 fl_X12_69 ⟨_, rfl, Or.inr ⟨rfl, rfl, rfl⟩⟩ rfl q2 ?_
  refine pv_rE er2 ?_
  exact F
set_option maxRecDepth 20000 in
set_option maxHeartbeats 4000000 in
theorem sg_X12_init_165 {Γ : pv_C} {d kc ks : Nat} {ty : pv_T} {h : pv_H} {r : pv_R} {g : pv_G} {Q : pv_Q} (a0 : Nat) (F : (∃ nm1 n1 : Nat, ¬ (8 : Int32) < 0 ∧ Int32.toNatClampNeg 8 = n1 ∧ n1 ≤ 1000000 ∧ 10 ≤ nm1 ∧ ty nm1 = none ∧ 1 ≤ kc ∧ n1 ≤ ks ∧ (∀ (ty1 : pv_T) (h1 : pv_H) (r1 : pv_R) (g1 : pv_G), ty1 = pv_newT ty nm1 20 n1 → h1 = pv_new h nm1 0 → r1 = pv_new r nm1 0 → g1 = pv_new g nm1 0 → ty1 a0 = some (12, 0) ∧ (∀ r2 : pv_R, r2 = pv_up r1 a0 28 nm1 → pv_E Γ d (kc - 1) (ks - n1) mX12_init 173 [some (.ref a0)] [] ty1 h1 r2 g1 Q)))) : pv_E Γ d kc ks mX12_init 165 [some (.ref a0)] [] ty h r g Q := by
  refine pv_aload_n dX12_init_165 rfl ?_
  refine pv_bipush (v := 8) (by decide) dX12_init_166 ?_
  obtain ⟨nm1, n1, q1n, q1N, q1m, q1a, q1b, q1c, q1d, F⟩ := F
  obtain ⟨ty1, ety1⟩ : ∃ ty1 : pv_T, ty1 = pv_newT ty nm1 20 n1 := ⟨_, rfl⟩
  obtain ⟨h1, eh1⟩ : ∃ h1 : pv_H, h1 = pv_new h nm1 0 := ⟨_, rfl⟩
  obtain ⟨r1, er1⟩ : ∃ r1 : pv_R, r1 = pv_new r nm1 0 := ⟨_, rfl⟩
  obtain ⟨g1, eg1⟩ : ∃ g1 : pv_G, g1 = pv_new g nm1 0 := ⟨_, rfl⟩
  have F := F ty1 h1 r1 g1 ety1 eh1 er1 eg1
  refine pv_newA nm1 20 n1 dX12_init_168 rfl (by decide) ac_int q1n q1N q1m q1a q1b q1c q1d ?_
  refine pv_nE ety1 eh1 er1 eg1 ?_
  obtain ⟨q2, F⟩ := F
  obtain ⟨r2, er2⟩ : ∃ r2 : pv_R, r2 = pv_up r1 a0 28 nm1 := ⟨_, rfl⟩
  have F := F r2 er2
  refine pv_putR 12 28 dX12_init_170 fl_X12_72 ⟨_, rfl, Or.inr ⟨rfl, rfl, rfl⟩⟩ rfl q2 ?_
  refine pv_rE er2 ?_
  exact F
set_option maxRecDepth 20000 in
set_option maxHeartbeats 4000000 in
theorem sg_X12_init_173 {Γ : pv_C} {d kc ks : Nat} {ty : pv_T} {h : pv_H} {r : pv_R} {g : pv_G} {Q : pv_Q} (a0 : Nat) (F : (∃ nm1 n1 : Nat, ¬ (8 : Int32) < 0 ∧ Int32.toNatClampNeg 8 = n1 ∧ n1 ≤ 1000000 ∧ 10 ≤ nm1 ∧ ty nm1 = none ∧ 1 ≤ kc ∧ n1 ≤ ks ∧ (∀ (ty1 : pv_T) (h1 : pv_H) (r1 : pv_R) (g1 : pv_G), ty1 = pv_newT ty nm1 20 n1 → h1 = pv_new h nm1 0 → r1 = pv_new r nm1 0 → g1 = pv_new g nm1 0 → ty1 a0 = some (12, 0) ∧ (∀ r2 : pv_R, r2 = pv_up r1 a0 29 nm1 → pv_E Γ d (kc - 1) (ks - n1) mX12_init 181 [some (.ref a0)] [] ty1 h1 r2 g1 Q)))) : pv_E Γ d kc ks mX12_init 173 [some (.ref a0)] [] ty h r g Q := by
  refine pv_aload_n dX12_init_173 rfl ?_
  refine pv_bipush (v := 8) (by decide) dX12_init_174 ?_
  obtain ⟨nm1, n1, q1n, q1N, q1m, q1a, q1b, q1c, q1d, F⟩ := F
  obtain ⟨ty1, ety1⟩ : ∃ ty1 : pv_T, ty1 = pv_newT ty nm1 20 n1 := ⟨_, rfl⟩
  obtain ⟨h1, eh1⟩ : ∃ h1 : pv_H, h1 = pv_new h nm1 0 := ⟨_, rfl⟩
  obtain ⟨r1, er1⟩ : ∃ r1 : pv_R, r1 = pv_new r nm1 0 := ⟨_, rfl⟩
  obtain ⟨g1, eg1⟩ : ∃ g1 : pv_G, g1 = pv_new g nm1 0 := ⟨_, rfl⟩
  have F := F ty1 h1 r1 g1 ety1 eh1 er1 eg1
  refine pv_newA nm1 20 n1 dX12_init_176 rfl (by decide) ac_int q1n q1N q1m q1a q1b q1c q1d ?_
  refine pv_nE ety1 eh1 er1 eg1 ?_
  obtain ⟨q2, F⟩ := F
  obtain ⟨r2, er2⟩ : ∃ r2 : pv_R, r2 = pv_up r1 a0 29 nm1 := ⟨_, rfl⟩
  have F := F r2 er2
  refine pv_putR 12 29 dX12_init_178 fl_X12_75 ⟨_, rfl, Or.inr ⟨rfl, rfl, rfl⟩⟩ rfl q2 ?_
  refine pv_rE er2 ?_
  exact F
set_option maxRecDepth 20000 in
set_option maxHeartbeats 4000000 in
theorem sg_X12_init_181 {Γ : pv_C} {d kc ks : Nat} {ty : pv_T} {h : pv_H} {r : pv_R} {g : pv_G} {Q : pv_Q} (a0 : Nat) (F : (∃ nm1 n1 : Nat, ¬ (3 : Int32) < 0 ∧ Int32.toNatClampNeg 3 = n1 ∧ n1 ≤ 1000000 ∧ 10 ≤ nm1 ∧ ty nm1 = none ∧ 1 ≤ kc ∧ n1 ≤ ks ∧ (∀ (ty1 : pv_T) (h1 : pv_H) (r1 : pv_R) (g1 : pv_G), ty1 = pv_newT ty nm1 20 n1 → h1 = pv_new h nm1 0 → r1 = pv_new r nm1 0 → g1 = pv_new g nm1 0 → ty1 a0 = some (12, 0) ∧ (∀ r2 : pv_R, r2 = pv_up r1 a0 30 nm1 → pv_E Γ d (kc - 1) (ks - n1) mX12_init 188 [some (.ref a0)] [] ty1 h1 r2 g1 Q)))) : pv_E Γ d kc ks mX12_init 181 [some (.ref a0)] [] ty h r g Q := by
  refine pv_aload_n dX12_init_181 rfl ?_
  refine pv_iconst (v := 3) (by decide) dX12_init_182 ?_
  obtain ⟨nm1, n1, q1n, q1N, q1m, q1a, q1b, q1c, q1d, F⟩ := F
  obtain ⟨ty1, ety1⟩ : ∃ ty1 : pv_T, ty1 = pv_newT ty nm1 20 n1 := ⟨_, rfl⟩
  obtain ⟨h1, eh1⟩ : ∃ h1 : pv_H, h1 = pv_new h nm1 0 := ⟨_, rfl⟩
  obtain ⟨r1, er1⟩ : ∃ r1 : pv_R, r1 = pv_new r nm1 0 := ⟨_, rfl⟩
  obtain ⟨g1, eg1⟩ : ∃ g1 : pv_G, g1 = pv_new g nm1 0 := ⟨_, rfl⟩
  have F := F ty1 h1 r1 g1 ety1 eh1 er1 eg1
  refine pv_newA nm1 20 n1 dX12_init_183 rfl (by decide) ac_int q1n q1N q1m q1a q1b q1c q1d ?_
  refine pv_nE ety1 eh1 er1 eg1 ?_
  obtain ⟨q2, F⟩ := F
  obtain ⟨r2, er2⟩ : ∃ r2 : pv_R, r2 = pv_up r1 a0 30 nm1 := ⟨_, rfl⟩
  have F := F r2 er2
  refine pv_putR 12 30 dX12_init_185 fl_X12_78 ⟨_, rfl, Or.inr ⟨rfl, rfl, rfl⟩⟩ rfl q2 ?_
  refine pv_rE er2 ?_
  exact F
set_option maxRecDepth 20000 in
set_option maxHeartbeats 4000000 in
theorem sg_X12_init_188 {Γ : pv_C} {d kc ks : Nat} {ty : pv_T} {h : pv_H} {r : pv_R} {g : pv_G} {Q : pv_Q} (a0 : Nat) (F : (∃ nm1 n1 : Nat, ¬ (3 : Int32) < 0 ∧ Int32.toNatClampNeg 3 = n1 ∧ n1 ≤ 1000000 ∧ 10 ≤ nm1 ∧ ty nm1 = none ∧ 1 ≤ kc ∧ n1 ≤ ks ∧ (∀ (ty1 : pv_T) (h1 : pv_H) (r1 : pv_R) (g1 : pv_G), ty1 = pv_newT ty nm1 20 n1 → h1 = pv_new h nm1 0 → r1 = pv_new r nm1 0 → g1 = pv_new g nm1 0 → ty1 a0 = some (12, 0) ∧ (∀ r2 : pv_R, r2 = pv_up r1 a0 31 nm1 → pv_E Γ d (kc - 1) (ks - n1) mX12_init 195 [some (.ref a0)] [] ty1 h1 r2 g1 Q)))) : pv_E Γ d kc ks mX12_init 188 [some (.ref a0)] [] ty h r g Q := by
  refine pv_aload_n dX12_init_188 rfl ?_
  refine pv_iconst (v := 3) (by decide) dX12_init_189 ?_
  obtain ⟨nm1, n1, q1n, q1N, q1m, q1a, q1b, q1c, q1d, F⟩ := F
  obtain ⟨ty1, ety1⟩ : ∃ ty1 : pv_T, ty1 = pv_newT ty nm1 20 n1 := ⟨_, rfl⟩
  obtain ⟨h1, eh1⟩ : ∃ h1 : pv_H, h1 = pv_new h nm1 0 := ⟨_, rfl⟩
  obtain ⟨r1, er1⟩ : ∃ r1 : pv_R, r1 = pv_new r nm1 0 := ⟨_, rfl⟩
  obtain ⟨g1, eg1⟩ : ∃ g1 : pv_G, g1 = pv_new g nm1 0 := ⟨_, rfl⟩
  have F := F ty1 h1 r1 g1 ety1 eh1 er1 eg1
  refine pv_newA nm1 20 n1 dX12_init_190 rfl (by decide) ac_int q1n q1N q1m q1a q1b q1c q1d ?_
  refine pv_nE ety1 eh1 er1 eg1 ?_
  obtain ⟨q2, F⟩ := F
  obtain ⟨r2, er2⟩ : ∃ r2 : pv_R, r2 = pv_up r1 a0 31 nm1 := ⟨_, rfl⟩
  have F := F r2 er2
  refine pv_putR 12 31 dX12_init_192 fl_X12_81 ⟨_, rfl, Or.inr ⟨rfl, rfl, rfl⟩⟩ rfl q2 ?_
  refine pv_rE er2 ?_
  exact F
set_option maxRecDepth 20000 in
set_option maxHeartbeats 4000000 in
theorem sg_X12_init_195 {Γ : pv_C} {d kc ks : Nat} {ty : pv_T} {h : pv_H} {r : pv_R} {g : pv_G} {Q : pv_Q} (a0 : Nat) (F : (∃ nm1 n1 : Nat, ¬ (60 : Int32) < 0 ∧ Int32.toNatClampNeg 60 = n1 ∧ n1 ≤ 1000000 ∧ 10 ≤ nm1 ∧ ty nm1 = none ∧ 1 ≤ kc ∧ n1 ≤ ks ∧ (∀ (ty1 : pv_T) (h1 : pv_H) (r1 : pv_R) (g1 : pv_G), ty1 = pv_newT ty nm1 20 n1 → h1 = pv_new h nm1 0 → r1 = pv_new r nm1 0 → g1 = pv_new g nm1 0 → ty1 a0 = some (12, 0) ∧ (∀ r2 : pv_R, r2 = pv_up r1 a0 34 nm1 → pv_E Γ d (kc - 1) (ks - n1) mX12_init 203 [some (.ref a0)] [] ty1 h1 r2 g1 Q)))) : pv_E Γ d kc ks mX12_init 195 [some (.ref a0)] [] ty h r g Q := by
  refine pv_aload_n dX12_init_195 rfl ?_
  refine pv_bipush (v := 60) (by decide) dX12_init_196 ?_
  obtain ⟨nm1, n1, q1n, q1N, q1m, q1a, q1b, q1c, q1d, F⟩ := F
  obtain ⟨ty1, ety1⟩ : ∃ ty1 : pv_T, ty1 = pv_newT ty nm1 20 n1 := ⟨_, rfl⟩
  obtain ⟨h1, eh1⟩ : ∃ h1 : pv_H, h1 = pv_new h nm1 0 := ⟨_, rfl⟩
  obtain ⟨r1, er1⟩ : ∃ r1 : pv_R, r1 = pv_new r nm1 0 := ⟨_, rfl⟩
  obtain ⟨g1, eg1⟩ : ∃ g1 : pv_G, g1 = pv_new g nm1 0 := ⟨_, rfl⟩
  have F := F ty1 h1 r1 g1 ety1 eh1 er1 eg1
  refine pv_newA nm1 20 n1 dX12_init_198 rfl (by decide) ac_int q1n q1N q1m q1a q1b q1c q1d ?_
  refine pv_nE ety1 eh1 er1 eg1 ?_
  obtain ⟨q2, F⟩ := F
  obtain ⟨r2, er2⟩ : ∃ r2 : pv_R, r2 = pv_up r1 a0 34 nm1 := ⟨_, rfl⟩
  have F := F r2 er2
  refine pv_putR 12 34 dX12_init_200 fl_X12_84 ⟨_, rfl, Or.inr ⟨rfl, rfl, rfl⟩⟩ rfl q2 ?_
  refine pv_rE er2 ?_
  exact F
set_option maxRecDepth 20000 in
set_option maxHeartbeats 4000000 in
theorem sg_X12_init_203 {Γ : pv_C} {d kc ks : Nat} {ty : pv_T} {h : pv_H} {r : pv_R} {g : pv_G} {Q : pv_Q} (a0 : Nat) (F : (∃ nm1 n1 : Nat, ¬ (60 : Int32) < 0 ∧ Int32.toNatClampNeg 60 = n1 ∧ n1 ≤ 1000000 ∧ 10 ≤ nm1 ∧ ty nm1 = none ∧ 1 ≤ kc ∧ n1 ≤ ks ∧ (∀ (ty1 : pv_T) (h1 : pv_H) (r1 : pv_R) (g1 : pv_G), ty1 = pv_newT ty nm1 20 n1 → h1 = pv_new h nm1 0 → r1 = pv_new r nm1 0 → g1 = pv_new g nm1 0 → ty1 a0 = some (12, 0) ∧ (∀ r2 : pv_R, r2 = pv_up r1 a0 35 nm1 → pv_E Γ d (kc - 1) (ks - n1) mX12_init 211 [some (.ref a0)] [] ty1 h1 r2 g1 Q)))) : pv_E Γ d kc ks mX12_init 203 [some (.ref a0)] [] ty h r g Q := by
  refine pv_aload_n dX12_init_203 rfl ?_
  refine pv_bipush (v := 60) (by decide) dX12_init_204 ?_
  obtain ⟨nm1, n1, q1n, q1N, q1m, q1a, q1b, q1c, q1d, F⟩ := F
  obtain ⟨ty1, ety1⟩ : ∃ ty1 : pv_T, ty1 = pv_newT ty nm1 20 n1 := ⟨_, rfl⟩
  obtain ⟨h1, eh1⟩ : ∃ h1 : pv_H, h1 = pv_new h nm1 0 := ⟨_, rfl⟩
  obtain ⟨r1, er1⟩ : ∃ r1 : pv_R, r1 = pv_new r nm1 0 := ⟨_, rfl⟩
  obtain ⟨g1, eg1⟩ : ∃ g1 : pv_G, g1 = pv_new g nm1 0 := ⟨_, rfl⟩
  have F := F ty1 h1 r1 g1 ety1 eh1 er1 eg1
  refine pv_newA nm1 20 n1 dX12_init_206 rfl (by decide) ac_int q1n q1N q1m q1a q1b q1c q1d ?_
  refine pv_nE ety1 eh1 er1 eg1 ?_
  obtain ⟨q2, F⟩ := F
  obtain ⟨r2, er2⟩ : ∃ r2 : pv_R, r2 = pv_up r1 a0 35 nm1 := ⟨_, rfl⟩
  have F := F r2 er2
  refine pv_putR 12 35 dX12_init_208 fl_X12_87 ⟨_, rfl, Or.inr ⟨rfl, rfl, rfl⟩⟩ rfl q2 ?_
  refine pv_rE er2 ?_
  exact F
set_option maxRecDepth 20000 in
set_option maxHeartbeats 4000000 in
theorem sg_X12_init_211 {Γ : pv_C} {d kc ks : Nat} {ty : pv_T} {h : pv_H} {r : pv_R} {g : pv_G} {Q : pv_Q} (a0 : Nat) (F : (∃ nm1 n1 : Nat, ¬ (60 : Int32) < 0 ∧ Int32.toNatClampNeg 60 = n1 ∧ n1 ≤ 1000000 ∧ 10 ≤ nm1 ∧ ty nm1 = none ∧ 1 ≤ kc ∧ n1 ≤ ks ∧ (∀ (ty1 : pv_T) (h1 : pv_H) (r1 : pv_R) (g1 : pv_G), ty1 = pv_newT ty nm1 20 n1 → h1 = pv_new h nm1 0 → r1 = pv_new r nm1 0 → g1 = pv_new g nm1 0 → ty1 a0 = some (12, 0) ∧ (∀ r2 : pv_R, r2 = pv_up r1 a0 36 nm1 → pv_E Γ d (kc - 1) (ks - n1) mX12_init 219 [some (.ref a0)] [] ty1 h1 r2 g1 Q)))) : pv_E Γ d kc ks mX12_init 211 [some (.ref a0)] [] ty h r g Q := by
  refine pv_aload_n dX12_init_211 rfl ?_
  refine pv_bipush (v := 60) (by decide) dX12_init_212 ?_
  obtain ⟨nm1, n1, q1n, q1N, q1m, q1a, q1b, q1c, q1d, F⟩ := F
  obtain ⟨ty1, ety1⟩ : ∃ ty1 : pv_T, ty1 = pv_newT ty nm1 20 n1 := ⟨_, rfl⟩
  obtain ⟨h1, eh1⟩ : ∃ h1 : pv_H, h1 = pv_new h nm1 0 := ⟨_, rfl⟩
  obtain ⟨r1, er1⟩ : ∃ r1 : pv_R, r1 = pv_new r nm1 0 := ⟨_, rfl⟩
  obtain ⟨g1, eg1⟩ : ∃ g1 : pv_G, g1 = pv_new g nm1 0 := ⟨_, rfl⟩
  have F := F ty1 h1 r1 g1 ety1 eh1 er1 eg1
  refine pv_newA nm1 20 n1 dX12_init_214 rfl (by decide) ac_int q1n q1N q1m q1a q1b q1c q1d ?_
  refine pv_nE ety1 eh1 er1 eg1 ?_
  obtain ⟨q2, F⟩ := F
  obtain ⟨r2, er2⟩ : ∃ r2 : pv_R, r2 = pv_up r1 a0 36 nm1 := ⟨_, rfl⟩
  have F := F r2 er2
  refine pv_putR 12 36 dX12_init_216 fl_X12_90 ⟨_, rfl, Or.inr ⟨rfl, rfl, rfl⟩⟩ rfl q2 ?_
  refine pv_rE er2 ?_
  exact F
set_option maxRecDepth 20000 in
set_option maxHeartbeats 4000000 in
theorem sg_X12_init_219 {Γ : pv_C} {d kc ks : Nat} {ty : pv_T} {h : pv_H} {r : pv_R} {g : pv_G} {Q : pv_Q} (a0 : Nat) (F : (∃ nm1 n1 : Nat, ¬ (60 : Int32) < 0 ∧ Int32.toNatClampNeg 60 = n1 ∧ n1 ≤ 1000000 ∧ 10 ≤ nm1 ∧ ty nm1 = none ∧ 1 ≤ kc ∧ n1 ≤ ks ∧ (∀ (ty1 : pv_T) (h1 : pv_H) (r1 : pv_R) (g1 : pv_G), ty1 = pv_newT ty nm1 20 n1 → h1 = pv_new h nm1 0 → r1 = pv_new r nm1 0 → g1 = pv_new g nm1 0 → ty1 a0 = some (12, 0) ∧ (∀ r2 : pv_R, r2 = pv_up r1 a0 37 nm1 → pv_E Γ d (kc - 1) (ks - n1) mX12_init 227 [some (.ref a0)] [] ty1 h1 r2 g1 Q)))) : pv_E Γ d kc ks mX12_init 219 [some (.ref a0)] [] ty h r g Q := by
  refine pv_aload_n dX12_init_219 rfl ?_
  refine pv_bipush (v := 60) (by decide) dX12_init_220 ?_
  obtain ⟨nm1, n1, q1n, q1N, q1m, q1a, q1b, q1c, q1d, F⟩ := F
  obtain ⟨ty1, ety1⟩ : ∃ ty1 : pv_T, ty1 = pv_newT ty nm1 20 n1 := ⟨_, rfl⟩
  obtain ⟨h1, eh1⟩ : ∃ h1 : pv_H, h1 = pv_new h nm1 0 := ⟨_, rfl⟩
  obtain ⟨r1, er1⟩ : ∃ r1 : pv_R, r1 = pv_new r nm1 0 := ⟨_, rfl⟩
  obtain ⟨g1, eg1⟩ : ∃ g1 : pv_G, g1 = pv_new g nm1 0 := ⟨_, rfl⟩
  have F := F ty1 h1 r1 g1 ety1 eh1 er1 eg1
  refine pv_newA nm1 20 n1 dX12_init_222 rfl (by decide) ac_int q1n q1N q1m q1a q1b q1c q1d ?_
  refine pv_nE ety1 eh1 er1 eg1 ?_
  obtain ⟨q2, F⟩ := F
  obtain ⟨r2, er2⟩ : ∃ r2 : pv_R, r2 = pv_up r1 a0 37 nm1 := ⟨_, rfl⟩
  have F := F r2 er2
  refine pv_putR 12 37 dX12_init_224 fl_X12_93 ⟨_, rfl, Or.inr ⟨rfl, rfl, rfl⟩⟩ rfl q2 ?_
  refine pv_rE er2 ?_
  exact F
set_option maxRecDepth 20000 in
set_option maxHeartbeats 4000000 in
theorem sg_X12_init_227 {Γ : pv_C} {d kc ks : Nat} {ty : pv_T} {h : pv_H} {r : pv_R} {g : pv_G} {Q : pv_Q} (a0 : Nat) (F : (∃ nm1 n1 : Nat, ¬ (60 : Int32) < 0 ∧ Int32.toNatClampNeg 60 = n1 ∧ n1 ≤ 1000000 ∧ 10 ≤ nm1 ∧ ty nm1 = none ∧ 1 ≤ kc ∧ n1 ≤ ks ∧ (∀ (ty1 : pv_T) (h1 : pv_H) (r1 : pv_R) (g1 : pv_G), ty1 = pv_newT ty nm1 20 n1 → h1 = pv_new h nm1 0 → r1 = pv_new r nm1 0 → g1 = pv_new g nm1 0 → ty1 a0 = some (12, 0) ∧ (∀ r2 : pv_R, r2 = pv_up r1 a0 38 nm1 → pv_E Γ d (kc - 1) (ks - n1) mX12_init 235 [some (.ref a0)] [] ty1 h1 r2 g1 Q)))) : pv_E Γ d kc ks mX12_init 227 [some (.ref a0)] [] ty h r g Q := by
  refine pv_aload_n dX12_init_227 rfl ?_
  refine pv_bipush (v := 60) (by decide) dX12_init_228 ?_
  obtain ⟨nm1, n1, q1n, q1N, q1m, q1a, q1b, q1c, q1d, F⟩ := F
  obtain ⟨ty1, ety1⟩ : ∃ ty1 : pv_T, ty1 = pv_newT ty nm1 20 n1 := ⟨_, rfl⟩
  obtain ⟨h1, eh1⟩ : ∃ h1 : pv_H, h1 = pv_new h nm1 0 := ⟨_, rfl⟩
  obtain ⟨r1, er1⟩ : ∃ r1 : pv_R, r1 = pv_new r nm1 0 := ⟨_, rfl⟩
  obtain ⟨g1, eg1⟩ : ∃ g1 : pv_G, g1 = pv_new g nm1 0 := ⟨_, rfl⟩
  have F := F ty1 h1 r1 g1 ety1 eh1 er1 eg1
  refine pv_newA nm1 20 n1 dX12_init_230 rfl (by decide) ac_int q1n q1N q1m q1a q1b q1c q1d ?_
  refine pv_nE ety1 eh1 er1 eg1 ?_
  obtain ⟨q2, F⟩ := F
  obtain ⟨r2, er2⟩ : ∃ r2 : pv_R, r2 = pv_up r1 a0 38 nm1 := ⟨_, rfl⟩
  have F := F r2 er2
  refine pv_putR 12 38 dX12_init_232 fl_X12_96 ⟨_, rfl, Or.inr ⟨rfl, rfl, rfl⟩⟩ rfl q2 ?_
  refine pv_rE er2 ?_
  exact F
set_option maxRecDepth 20000 in
set_option maxHeartbeats 4000000 in
theorem sg_X12_init_235 {Γ : pv_C} {d kc ks : Nat} {ty : pv_T} {h : pv_H} {r : pv_R} {g : pv_G} {Q : pv_Q} (a0 : Nat) (F : (∃ nm1 n1 : Nat, ¬ (160 : Int32) < 0 ∧ Int32.toNatClampNeg 160 = n1 ∧ n1 ≤ 1000000 ∧ 10 ≤ nm1 ∧ ty nm1 = none ∧ 1 ≤ kc ∧ n1 ≤ ks ∧ (∀ (ty1 : pv_T) (h1 : pv_H) (r1 : pv_R) (g1 : pv_G), ty1 = pv_newT ty nm1 21 n1 → h1 = pv_new h nm1 0 → r1 = pv_new r nm1 0 → g1 = pv_new g nm1 0 → ty1 a0 = some (12, 0) ∧ (∀ r2 : pv_R, r2 = pv_up r1 a0 39 nm1 → pv_E Γ d (kc - 1) (ks - n1) mX12_init 244 [some (.ref a0)] [] ty1 h1 r2 g1 Q)))) : pv_E Γ d kc ks mX12_init 235 [some (.ref a0)] [] ty h r g Q := by
  refine pv_aload_n dX12_init_235 rfl ?_
  refine pv_sipush (v := 160) (by decide) dX12_init_236 ?_
  obtain ⟨nm1, n1, q1n, q1N, q1m, q1a, q1b, q1c, q1d, F⟩ := F
  obtain ⟨ty1, ety1⟩ : ∃ ty1 : pv_T, ty1 = pv_newT ty nm1 21 n1 := ⟨_, rfl⟩
  obtain ⟨h1, eh1⟩ : ∃ h1 : pv_H, h1 = pv_new h nm1 0 := ⟨_, rfl⟩
  obtain ⟨r1, er1⟩ : ∃ r1 : pv_R, r1 = pv_new r nm1 0 := ⟨_, rfl⟩
  obtain ⟨g1, eg1⟩ : ∃ g1 : pv_G, g1 = pv_new g nm1 0 := ⟨_, rfl⟩
  have F := F ty1 h1 r1 g1 ety1 eh1 er1 eg1
  refine pv_newA nm1 21 n1 dX12_init_239 rfl (by decide) ac_byte q1n q1N q1m q1a q1b q1c q1d ?_
  refine pv_nE ety1 eh1 er1 eg1 ?_
  obtain ⟨q2, F⟩ := F
  obtain ⟨r2, er2⟩ : ∃ r2 : pv_R, r2 = pv_up r1 a0 39 nm1 := ⟨_, rfl⟩
  have F := F r2 er2
  refine pv_putR 12 39 dX12_init_241 fl_X12_99 ⟨_, rfl, Or.inr ⟨rfl, rfl, rfl⟩⟩ rfl q2 ?_
  refine pv_rE er2 ?_
  exact F
set_option maxRecDepth 20000 in
set_option maxHeartbeats 4000000 in
theorem sg_X12_init_244 {Γ : pv_C} {d kc ks : Nat} {ty : pv_T} {h : pv_H} {r : pv_R} {g : pv_G} {Q : pv_Q} (a0 : Nat) (F : (∃ nm1 n1 : Nat, ¬ (20 : Int32) < 0 ∧ Int32.toNatClampNeg 20 = n1 ∧ n1 ≤ 1000000 ∧ 10 ≤ nm1 ∧ ty nm1 = none ∧ 1 ≤ kc ∧ n1 ≤ ks ∧ (∀ (ty1 : pv_T) (h1 : pv_H) (r1 : pv_R) (g1 : pv_G), ty1 = pv_newT ty nm1 20 n1 → h1 = pv_new h nm1 0 → r1 = pv_new r nm1 0 → g1 = pv_new g nm1 0 → ty1 a0 = some (12, 0) ∧ (∀ r2 : pv_R, r2 = pv_up r1 a0 42 nm1 → pv_E Γ d (kc - 1) (ks - n1) mX12_init 252 [some (.ref a0)] [] ty1 h1 r2 g1 Q)))) : pv_E Γ d kc ks mX12_init 244 [some (.ref a0)] [] ty h r g Q := by
  refine pv_aload_n dX12_init_244 rfl ?_
  refine pv_bipush (v := 20) (by decide) dX12_init_245 ?_
  obtain ⟨nm1, n1, q1n, q1N, q1m, q1a, q1b, q1c, q1d, F⟩ := F
  obtain ⟨ty1, ety1⟩ : ∃ ty1 : pv_T, ty1 = pv_newT ty nm1 20 n1 := ⟨_, rfl⟩
  obtain ⟨h1, eh1⟩ : ∃ h1 : pv_H, h1 = pv_new h nm1 0 := ⟨_, rfl⟩
  obtain ⟨r1, er1⟩ : ∃ r1 : pv_R, r1 = pv_new r nm1 0 := ⟨_, rfl⟩
  obtain ⟨g1, eg1⟩ : ∃ g1 : pv_G, g1 = pv_new g nm1 0 := ⟨_, rfl⟩
  have F := F ty1 h1 r1 g1 ety1 eh1 er1 eg1
  refine pv_newA nm1 20 n1 dX12_init_247 rfl (by decide) ac_int q1n q1N q1m q1a q1b q1c q1d ?_
  refine pv_nE ety1 eh1 er1 eg1 ?_
  obtain ⟨q2, F⟩ := F
  obtain ⟨r2, er2⟩ : ∃ r2 : pv_R, r2 = pv_up r1 a0 42 nm1 := ⟨_, rfl⟩
  have F := F r2 er2
  refine pv_putR 12 42 dX12_init_249 fl_X12_103 ⟨_, rfl, Or.inr ⟨rfl, rfl, rfl⟩⟩ rfl q2 ?_
  refine pv_rE er2 ?_
  exact F
set_option maxRecDepth 20000 in
set_option maxHeartbeats 4000000 in
theorem sg_X12_init_252 {Γ : pv_C} {d kc ks : Nat} {ty : pv_T} {h : pv_H} {r : pv_R} {g : pv_G} {Q : pv_Q} (a0 : Nat) (F : (∃ nm1 n1 : Nat, ¬ (20 : Int32) < 0 ∧ Int32.toNatClampNeg 20 = n1 ∧ n1 ≤ 1000000 ∧ 10 ≤ nm1 ∧ ty nm1 = none ∧ 1 ≤ kc ∧ n1 ≤ ks ∧ (∀ (ty1 : pv_T) (h1 : pv_H) (r1 : pv_R) (g1 : pv_G), ty1 = pv_newT ty nm1 20 n1 → h1 = pv_new h nm1 0 → r1 = pv_new r nm1 0 → g1 = pv_new g nm1 0 → ty1 a0 = some (12, 0) ∧ (∀ r2 : pv_R, r2 = pv_up r1 a0 43 nm1 → pv_E Γ d (kc - 1) (ks - n1) mX12_init 260 [some (.ref a0)] [] ty1 h1 r2 g1 Q)))) : pv_E Γ d kc ks mX12_init 252 [some (.ref a0)] [] ty h r g Q := by
  refine pv_aload_n dX12_init_252 rfl ?_
  refine pv_bipush (v := 20) (by decide) dX12_init_253 ?_
  obtain ⟨nm1, n1, q1n, q1N, q1m, q1a, q1b, q1c, q1d, F⟩ := F
  obtain ⟨ty1, ety1⟩ : ∃ ty1 : pv_T, ty1 = pv_newT ty nm1 20 n1 := ⟨_, rfl⟩
  obtain ⟨h1, eh1⟩ : ∃ h1 : pv_H, h1 = pv_new h nm1 0 := ⟨_, rfl⟩
  obtain ⟨r1, er1⟩ : ∃ r1 : pv_R, r1 = pv_new r nm1 0 := ⟨_, rfl⟩
  obtain ⟨g1, eg1⟩ : ∃ g1 : pv_G, g1 = pv_new g nm1 0 := ⟨_, rfl⟩
  have F := F ty1 h1 r1 g1 ety1 eh1 er1 eg1
  refine pv_newA nm1 20 n1 dX12_init_255 rfl (by decide) ac_int q1n q1N q1m q1a q1b q1c q1d ?_
  refine pv_nE ety1 eh1 er1 eg1 ?_
  obtain ⟨q2, F⟩ := F
  obtain ⟨r2, er2⟩ : ∃ r2 : pv_R, r2 = pv_up r1 a0 43 nm1 := ⟨_, rfl⟩
  have F := F r2 er2
  refine pv_putR 12 43 dX12_init_257 fl_X12_106 ⟨_, rfl, Or.inr ⟨rfl, rfl, rfl⟩⟩ rfl q2 ?_
  refine pv_rE er2 ?_
  exact F
set_option maxRecDepth 20000 in
set_option maxHeartbeats 4000000 in
theorem sg_X12_init_260 {Γ : pv_C} {d kc ks : Nat} {ty : pv_T} {h : pv_H} {r : pv_R} {g : pv_G} {Q : pv_Q} (a0 : Nat) (F : (∃ nm1 n1 : Nat, ¬ (20 : Int32) < 0 ∧ Int32.toNatClampNeg 20 = n1 ∧ n1 ≤ 1000000 ∧ 10 ≤ nm1 ∧ ty nm1 = none ∧ 1 ≤ kc ∧ n1 ≤ ks ∧ (∀ (ty1 : pv_T) (h1 : pv_H) (r1 : pv_R) (g1 : pv_G), ty1 = pv_newT ty nm1 20 n1 → h1 = pv_new h nm1 0 → r1 = pv_new r nm1 0 → g1 = pv_new g nm1 0 → ty1 a0 = some (12, 0) ∧ (∀ r2 : pv_R, r2 = pv_up r1 a0 44 nm1 → pv_E Γ d (kc - 1) (ks - n1) mX12_init 268 [some (.ref a0)] [] ty1 h1 r2 g1 Q)))) : pv_E Γ d kc ks mX12_init 260 [some (.ref a0)] [] ty h r g Q := by
  refine pv_aload_n dX12_init_260 rfl ?_
  refine pv_bipush (v := 20) (by decide) dX12_init_261 ?_
  obtain ⟨nm1, n1, q1n, q1N, q1m, q1a, q1b, q1c, q1d, F⟩ := F
  obtain ⟨ty1, ety1⟩ : ∃ ty1 : pv_T, ty1 = pv_newT ty nm1 20 n1 := ⟨_, rfl⟩
  obtain ⟨h1, eh1⟩ : ∃ h1 : pv_H, h1 = pv_new h nm1 0 := ⟨_, rfl⟩
  obtain ⟨r1, er1⟩ : ∃ r1 : pv_R, r1 = pv_new r nm1 0 := ⟨_, rfl⟩
  obtain ⟨g1, eg1⟩ : ∃ g1 : pv_G, g1 = pv_new g nm1 0 := ⟨_, rfl⟩
  have F := F ty1 h1 r1 g1 ety1 eh1 er1 eg1
  refine pv_newA nm1 20 n1 dX12_init_263 rfl (by decide) ac_int q1n q1N q1m q1a q1b q1c q1d ?_
  refine pv_nE ety1 eh1 er1 eg1 ?_
  obtain ⟨q2, F⟩ := F
  obtain ⟨r2, er2⟩ : ∃ r2 : pv_R, r2 = pv_up r1 a0 44 nm1 := ⟨_, rfl⟩
  have F := F r2 er2
  refine pv_putR 12 44 dX12_init_265 fl_X12_109 ⟨_, rfl, Or.inr ⟨rfl, rfl, rfl⟩⟩ rfl q2 ?_
  refine pv_rE er2 ?_
  exact F
set_option maxRecDepth 20000 in
set_option maxHeartbeats 4000000 in
theorem sg_X12_init_268 {Γ : pv_C} {d kc ks : Nat} {ty : pv_T} {h : pv_H} {r : pv_R} {g : pv_G} {Q : pv_Q} (a0 : Nat) (F : (∃ nm1 n1 : Nat, ¬ (20 : Int32) < 0 ∧ Int32.toNatClampNeg 20 = n1 ∧ n1 ≤ 1000000 ∧ 10 ≤ nm1 ∧ ty nm1 = none ∧ 1 ≤ kc ∧ n1 ≤ ks ∧ (∀ (ty1 : pv_T) (h1 : pv_H) (r1 : pv_R) (g1 : pv_G), ty1 = pv_newT ty nm1 20 n1 → h1 = pv_new h nm1 0 → r1 = pv_new r nm1 0 → g1 = pv_new g nm1 0 → ty1 a0 = some (12, 0) ∧ (∀ r2 : pv_R, r2 = pv_up r1 a0 45 nm1 → pv_E Γ d (kc - 1) (ks - n1) mX12_init 276 [some (.ref a0)] [] ty1 h1 r2 g1 Q)))) : pv_E Γ d kc ks mX12_init 268 [some (.ref a0)] [] ty h r g Q := by
  refine pv_aload_n dX12_init_268 rfl ?_
  refine pv_bipush (v := 20) (by decide) dX12_init_269 ?_
  obtain ⟨nm1, n1, q1n, q1N, q1m, q1a, q1b, q1c, q1d, F⟩ := F
  obtain ⟨ty1, ety1⟩ : ∃ ty1 : pv_T, ty1 = pv_newT ty nm1 20 n1 := ⟨_, rfl⟩
  obtain ⟨h1, eh1⟩ : ∃ h1 : pv_H, h1 = pv_new h nm1 0 := ⟨_, rfl⟩
  obtain ⟨r1, er1⟩ : ∃ r1 : pv_R, r1 = pv_new r nm1 0 := ⟨_, rfl⟩
  obtain ⟨g1, eg1⟩ : ∃ g1 : pv_G, g1 = pv_new g nm1 0 := ⟨_, rfl⟩
  have F := F ty1 h1 r1 g1 ety1 eh1 er1 eg1
  refine pv_newA nm1 20 n1 dX12_init_271 rfl (by decide) ac_int q1n q1N q1m q1a q1b q1c q1d ?_
  refine pv_nE ety1 eh1 er1 eg1 ?_
  obtain ⟨q2, F⟩ := F
  obtain ⟨r2, er2⟩ : ∃ r2 : pv_R, r2 = pv_up r1 a0 45 nm1 := ⟨_, rfl⟩
  have F := F r2 er2
  refine pv_putR 12 45 dX12_init_273 fl_X12_112 ⟨_, rfl, Or.inr ⟨rfl, rfl, rfl⟩⟩ rfl q2 ?_
  refine pv_rE er2 ?_
  exact F
set_option maxRecDepth 20000 in
set_option maxHeartbeats 4000000 in
theorem sg_X12_init_276 {Γ : pv_C} {d kc ks : Nat} {ty : pv_T} {h : pv_H} {r : pv_R} {g : pv_G} {Q : pv_Q} (a0 : Nat) (F : (∃ nm1 n1 : Nat, ¬ (3400 : Int32) < 0 ∧ Int32.toNatClampNeg 3400 = n1 ∧ n1 ≤ 1000000 ∧ 10 ≤ nm1 ∧ ty nm1 = none ∧ 1 ≤ kc ∧ n1 ≤ ks ∧ (∀ (ty1 : pv_T) (h1 : pv_H) (r1 : pv_R) (g1 : pv_G), ty1 = pv_newT ty nm1 20 n1 → h1 = pv_new h nm1 0 → r1 = pv_new r nm1 0 → g1 = pv_new g nm1 0 → ty1 a0 = some (12, 0) ∧ (∀ r2 : pv_R, r2 = pv_up r1 a0 46 nm1 → pv_E Γ d (kc - 1) (ks - n1) mX12_init 285 [some (.ref a0)] [] ty1 h1 r2 g1 Q)))) : pv_E Γ d kc ks mX12_init 276 [some (.ref a0)] [] ty h r g Q := by
  refine pv_aload_n dX12_init_276 rfl ?_
  refine pv_sipush (v := 3400) (by decide) dX12_init_277 ?_
  obtain ⟨nm1, n1, q1n, q1N, q1m, q1a, q1b, q1c, q1d, F⟩ := F
  obtain ⟨ty1, ety1⟩ : ∃ ty1 : pv_T, ty1 = pv_newT ty nm1 20 n1 := ⟨_, rfl⟩
  obtain ⟨h1, eh1⟩ : ∃ h1 : pv_H, h1 = pv_new h nm1 0 := ⟨_, rfl⟩
  obtain ⟨r1, er1⟩ : ∃ r1 : pv_R, r1 = pv_new r nm1 0 := ⟨_, rfl⟩
  obtain ⟨g1, eg1⟩ : ∃ g1 : pv_G, g1 = pv_new g nm1 0 := ⟨_, rfl⟩
  have F := F ty1 h1 r1 g1 ety1 eh1 er1 eg1
  refine pv_newA nm1 20 n1 dX12_init_280 rfl (by decide) ac_int q1n q1N q1m q1a q1b q1c q1d ?_
  refine pv_nE ety1 eh1 er1 eg1 ?_
  obtain ⟨q2, F⟩ := F
  obtain ⟨r2, er2⟩ : ∃ r2 : pv_R, r2 = pv_up r1 a0 46 nm1 := ⟨_, rfl⟩
  have F := F r2 er2
  refine pv_putR 12 46 dX12_init_282 fl_X12_115 ⟨_, rfl, Or.inr ⟨rfl, rfl, rfl⟩⟩ rfl q2 ?_
  refine pv_rE er2 ?_
  exact F
set_option maxRecDepth 20000 in
set_option maxHeartbeats 4000000 in
theorem sg_X12_init_285 {Γ : pv_C} {d kc ks : Nat} {ty : pv_T} {h : pv_H} {r : pv_R} {g : pv_G} {Q : pv_Q} (a0 : Nat) (F : (∃ nm1 n1 : Nat, ¬ (3400 : Int32) < 0 ∧ Int32.toNatClampNeg 3400 = n1 ∧ n1 ≤ 1000000 ∧ 10 ≤ nm1 ∧ ty nm1 = none ∧ 1 ≤ kc ∧ n1 ≤ ks ∧ (∀ (ty1 : pv_T) (h1 : pv_H) (r1 : pv_R) (g1 : pv_G), ty1 = pv_newT ty nm1 20 n1 → h1 = pv_new h nm1 0 → r1 = pv_new r nm1 0 → g1 = pv_new g nm1 0 → ty1 a0 = some (12, 0) ∧ (∀ r2 : pv_R, r2 = pv_up r1 a0 47 nm1 → pv_E Γ d (kc - 1) (ks - n1) mX12_init 294 [some (.ref a0)] [] ty1 h1 r2 g1 Q)))) : pv_E Γ d kc ks mX12_init 285 [some (.ref a0)] [] ty h r g Q := by
  refine pv_aload_n dX12_init_285 rfl ?_
  refine pv_sipush (v := 3400) (by decide) dX12_init_286 ?_
  obtain ⟨nm1, n1, q1n, q1N, q1m, q1a, q1b, q1c, q1d, F⟩ := F
  obtain ⟨ty1, ety1⟩ : ∃ ty1 : pv_T, ty1 = pv_newT ty nm1 20 n1 := ⟨_, rfl⟩
  obtain ⟨h1, eh1⟩ : ∃ h1 : pv_H, h1 = pv_new h nm1 0 := ⟨_, rfl⟩
  obtain ⟨r1, er1⟩ : ∃ r1 : pv_R, r1 = pv_new r nm1 0 := ⟨_, rfl⟩
  obtain ⟨g1, eg1⟩ : ∃ g1 : pv_G, g1 = pv_new g nm1 0 := ⟨_, rfl⟩
  have F := F ty1 h1 r1 g1 ety1 eh1 er1 eg1
  refine pv_newA nm1 20 n1 dX12_init_289 rfl (by decide) ac_int q1n q1N q1m q1a q1b q1c q1d ?_
  refine pv_nE ety1 eh1 er1 eg1 ?_
  obtain ⟨q2, F⟩ := F
  obtain ⟨r2, er2⟩ : ∃ r2 : pv_R, r2 = pv_up r1 a0 47 nm1 := ⟨_, rfl⟩
  have F := F r2 er2
  refine pv_putR 12 47 dX12_init_291 fl_X12_118 ⟨_, rfl, Or.inr ⟨rfl, rfl, rfl⟩⟩ rfl q2 ?_
  refine pv_rE er2 ?_
  exact F
set_option maxRecDepth 20000 in
set_option maxHeartbeats 4000000 in
theorem sg_X12_init_294 {Γ : pv_C} {d kc ks : Nat} {ty : pv_T} {h : pv_H} {r : pv_R} {g : pv_G} {Q : pv_Q} (a0 : Nat) (F : (∃ nm1 n1 : Nat, ¬ (170 : Int32) < 0 ∧ Int32.toNatClampNeg 170 = n1 ∧ n1 ≤ 1000000 ∧ 10 ≤ nm1 ∧ ty nm1 = none ∧ 1 ≤ kc ∧ n1 ≤ ks ∧ (∀ (ty1 : pv_T) (h1 : pv_H) (r1 : pv_R) (g1 : pv_G), ty1 = pv_newT ty nm1 20 n1 → h1 = pv_new h nm1 0 → r1 = pv_new r nm1 0 → g1 = pv_new g nm1 0 → ty1 a0 = some (12, 0) ∧ (∀ r2 : pv_R, r2 = pv_up r1 a0 48 nm1 → pv_E Γ d (kc - 1) (ks - n1) mX12_init 303 [some (.ref a0)] [] ty1 h1 r2 g1 Q)))) : pv_E Γ d kc ks mX12_init 294 [some (.ref a0)] [] ty h r g Q := by
  refine pv_aload_n dX12_init_294 rfl ?_
  refine pv_sipush (v := 170) (by decide) dX12_init_295 ?_
  obtain ⟨nm1, n1, q1n, q1N, q1m, q1a, q1b, q1c, q1d, F⟩ := F
  obtain ⟨ty1, ety1⟩ : ∃ ty1 : pv_T, ty1 = pv_newT ty nm1 20 n1 := ⟨_, rfl⟩
  obtain ⟨h1, eh1⟩ : ∃ h1 : pv_H, h1 = pv_new h nm1 0 := ⟨_, rfl⟩
  obtain ⟨r1, er1⟩ : ∃ r1 : pv_R, r1 = pv_new r nm1 0 := ⟨_, rfl⟩
  obtain ⟨g1, eg1⟩ : ∃ g1 : pv_G, g1 = pv_new g nm1 0 := ⟨_, rfl⟩
  have F := F ty1 h1 r1 g1 ety1 eh1 er1 eg1
  refine pv_newA nm1 20 n1 dX12_init_298 rfl (by decide) ac_int q1n q1N q1m q1a q1b q1c q1d ?_
  refine pv_nE ety1 eh1 er1 eg1 ?_
  obtain ⟨q2, F⟩ := F
  obtain ⟨r2, er2⟩ : ∃ r2 : pv_R, r2 = pv_up r1 a0 48 nm1 := ⟨_, rfl⟩
  have F := F r2 er2
  refine pv_putR 12 48 dX12_init_300 fl_X12_121 ⟨_, rfl, Or.inr ⟨rfl, rfl, rfl⟩⟩ rfl q2 ?_
  refine pv_rE er2 ?_
  exact F
set_option maxRecDepth 20000 in
set_option maxHeartbeats 4000000 in
theorem sg_X12_init_303 {Γ : pv_C} {d kc ks : Nat} {ty : pv_T} {h : pv_H} {r : pv_R} {g : pv_G} {Q : pv_Q} (a0 : Nat) (F : (∃ nm1 n1 : Nat, ¬ (128 : Int32) < 0 ∧ Int32.toNatClampNeg 128 = n1 ∧ n1 ≤ 1000000 ∧ 10 ≤ nm1 ∧ ty nm1 = none ∧ 1 ≤ kc ∧ n1 ≤ ks ∧ (∀ (ty1 : pv_T) (h1 : pv_H) (r1 : pv_R) (g1 : pv_G), ty1 = pv_newT ty nm1 20 n1 → h1 = pv_new h nm1 0 → r1 = pv_new r nm1 0 → g1 = pv_new g nm1 0 → ty1 a0 = some (12, 0) ∧ (∀ r2 : pv_R, r2 = pv_up r1 a0 52 nm1 → pv_E Γ d (kc - 1) (ks - n1) mX12_init 312 [some (.ref a0)] [] ty1 h1 r2 g1 Q)))) : pv_E Γ d kc ks mX12_init 303 [some (.ref a0)] [] ty h r g Q := by
  refine pv_aload_n dX12_init_303 rfl ?_
  refine pv_sipush (v := 128) (by decide) dX12_init_304 ?_
  obtain ⟨nm1, n1, q1n, q1N, q1m, q1a, q1b, q1c, q1d, F⟩ := F
  obtain ⟨ty1, ety1⟩ : ∃ ty1 : pv_T, ty1 = pv_newT ty nm1 20 n1 := ⟨_, rfl⟩
  obtain ⟨h1, eh1⟩ : ∃ h1 : pv_H, h1 = pv_new h nm1 0 := ⟨_, rfl⟩
  obtain ⟨r1, er1⟩ : ∃ r1 : pv_R, r1 = pv_new r nm1 0 := ⟨_, rfl⟩
  obtain ⟨g1, eg1⟩ : ∃ g1 : pv_G, g1 = pv_new g nm1 0 := ⟨_, rfl⟩
  have F := F ty1 h1 r1 g1 ety1 eh1 er1 eg1
  refine pv_newA nm1 20 n1 dX12_init_307 rfl (by decide) ac_int q1n q1N q1m q1a q1b q1c q1d ?_
  refine pv_nE ety1 eh1 er1 eg1 ?_
  obtain ⟨q2, F⟩ := F
  obtain ⟨r2, er2⟩ : ∃ r2 : pv_R, r2 = pv_up r1 a0 52 nm1 := ⟨_, rfl⟩
  have F := F r2 er2
  refine pv_putR 12 52 dX12_init_309 fl_X12_124 ⟨_, rfl, Or.inr ⟨rfl, rfl, rfl⟩⟩ rfl q2 ?_
  refine pv_rE er2 ?_
  exact F
set_option maxRecDepth 20000 in
set_option maxHeartbeats 4000000 in
theorem sg_X12_init_312 {Γ : pv_C} {d kc ks : Nat} {ty : pv_T} {h : pv_H} {r : pv_R} {g : pv_G} {Q : pv_Q} (a0 : Nat) (F : (∃ nm1 n1 : Nat, ¬ (170 : Int32) < 0 ∧ Int32.toNatClampNeg 170 = n1 ∧ n1 ≤ 1000000 ∧ 10 ≤ nm1 ∧ ty nm1 = none ∧ 1 ≤ kc ∧ n1 ≤ ks ∧ (∀ (ty1 : pv_T) (h1 : pv_H) (r1 : pv_R) (g1 : pv_G), ty1 = pv_newT ty nm1 20 n1 → h1 = pv_new h nm1 0 → r1 = pv_new r nm1 0 → g1 = pv_new g nm1 0 → ty1 a0 = some (12, 0) ∧ (∀ r2 : pv_R, r2 = pv_up r1 a0 53 nm1 → pv_E Γ d (kc - 1) (ks - n1) mX12_init 321 [some (.ref a0)] [] ty1 h1 r2 g1 Q)))) : pv_E Γ d kc ks mX12_init 312 [some (.ref a0)] [] ty h r g Q := by
  refine pv_aload_n dX12_init_312 rfl ?_
  refine pv_sipush (v := 170) (by decide) dX12_init_313 ?_
  obtain ⟨nm1, n1, q1n, q1N, q1m, q1a, q1b, q1c, q1d, F⟩ := F
  obtain ⟨ty1, ety1⟩ : ∃ ty1 : pv_T, ty1 = pv_newT ty nm1 20 n1 := ⟨_, rfl⟩
  obtain ⟨h1, eh1⟩ : ∃ h1 : pv_H, h1 = pv_new h nm1 0 := ⟨_, rfl⟩
  obtain ⟨r1, er1⟩ : ∃ r1 : pv_R, r1 = pv_new r nm1 0 := ⟨_, rfl⟩
  obtain ⟨g1, eg1⟩ : ∃ g1 : pv_G, g1 = pv_new g nm1 0 := ⟨_, rfl⟩
  have F := F ty1 h1 r1 g1 ety1 eh1 er1 eg1
  refine pv_newA nm1 20 n1 dX12_init_316 rfl (by decide) ac_int q1n q1N q1m q1a q1b q1c q1d ?_
  refine pv_nE ety1 eh1 er1 eg1 ?_
  obtain ⟨q2, F⟩ := F
  obtain ⟨r2, er2⟩ : ∃ r2 : pv_R, r2 = pv_up r1 a0 53 nm1 := ⟨_, rfl⟩
  have F := F r2 er2
  refine pv_putR 12 53 dX12_init_318 fl_X12_127 ⟨_, rfl, Or.inr ⟨rfl, rfl, rfl⟩⟩ rfl q2 ?_
  refine pv_rE er2 ?_
  exact F
set_option maxRecDepth 20000 in
set_option maxHeartbeats 4000000 in
theorem sg_X12_init_321 {Γ : pv_C} {d kc ks : Nat} {ty : pv_T} {h : pv_H} {r : pv_R} {g : pv_G} {Q : pv_Q} (a0 : Nat) (F : (∃ nm1 n1 : Nat, ¬ (200 : Int32) < 0 ∧ Int32.toNatClampNeg 200 = n1 ∧ n1 ≤ 1000000 ∧ 10 ≤ nm1 ∧ ty nm1 = none ∧ 1 ≤ kc ∧ n1 ≤ ks ∧ (∀ (ty1 : pv_T) (h1 : pv_H) (r1 : pv_R) (g1 : pv_G), ty1 = pv_newT ty nm1 20 n1 → h1 = pv_new h nm1 0 → r1 = pv_new r nm1 0 → g1 = pv_new g nm1 0 → ty1 a0 = some (12, 0) ∧ (∀ r2 : pv_R, r2 = pv_up r1 a0 56 nm1 → pv_E Γ d (kc - 1) (ks - n1) mX12_init 330 [some (.ref a0)] [] ty1 h1 r2 g1 Q)))) : pv_E Γ d kc ks mX12_init 321 [some (.ref a0)] [] ty h r g Q := by
  refine pv_aload_n dX12_init_321 rfl ?_
  refine pv_sipush (v := 200) (by decide) dX12_init_322 ?_
  obtain ⟨nm1, n1, q1n, q1N, q1m, q1a, q1b, q1c, q1d, F⟩ := F
  obtain ⟨ty1, ety1⟩ : ∃ ty1 : pv_T, ty1 = pv_newT ty nm1 20 n1 := ⟨_, rfl⟩
  obtain ⟨h1, eh1⟩ : ∃ h1 : pv_H, h1 = pv_new h nm1 0 := ⟨_, rfl⟩
  obtain ⟨r1, er1⟩ : ∃ r1 : pv_R, r1 = pv_new r nm1 0 := ⟨_, rfl⟩
  obtain ⟨g1, eg1⟩ : ∃ g1 : pv_G, g1 = pv_new g nm1 0 := ⟨_, rfl⟩
  have F := F ty1 h1 r1 g1 ety1 eh1 er1 eg1
  refine pv_newA nm1 20 n1 dX12_init_325 rfl (by decide) ac_int q1n q1N q1m q1a q1b q1c q1d ?_
  refine pv_nE ety1 eh1 er1 eg1 ?_
  obtain ⟨q2, F⟩ := F
  obtain ⟨r2, er2⟩ : ∃ r2 : pv_R, r2 = pv_up r1 a0 56 nm1 := ⟨_, rfl⟩
  have F := F r2 er2
  refine pv_putR 12 56 dX12_init_327 fl_X12_130 ⟨_, rfl, Or.inr ⟨rfl, rfl, rfl⟩⟩ rfl q2 ?_
  refine pv_rE er2 ?_
  exact F
set_option maxRecDepth 20000 in
set_option maxHeartbeats 4000000 in
theorem sg_X12_init_330 {Γ : pv_C} {d kc ks : Nat} {ty : pv_T} {h : pv_H} {r : pv_R} {g : pv_G} {Q : pv_Q} (a0 : Nat) (F : (∃ nm1 n1 : Nat, ¬ (200 : Int32) < 0 ∧ Int32.toNatClampNeg 200 = n1 ∧ n1 ≤ 1000000 ∧ 10 ≤ nm1 ∧ ty nm1 = none ∧ 1 ≤ kc ∧ n1 ≤ ks ∧ (∀ (ty1 : pv_T) (h1 : pv_H) (r1 : pv_R) (g1 : pv_G), ty1 = pv_newT ty nm1 20 n1 → h1 = pv_new h nm1 0 → r1 = pv_new r nm1 0 → g1 = pv_new g nm1 0 → ty1 a0 = some (12, 0) ∧ (∀ r2 : pv_R, r2 = pv_up r1 a0 57 nm1 → pv_E Γ d (kc - 1) (ks - n1) mX12_init 339 [some (.ref a0)] [] ty1 h1 r2 g1 Q)))) : pv_E Γ d kc ks mX12_init 330 [some (.ref a0)] [] ty h r g Q := by
  refine pv_aload_n dX12_init_330 rfl ?_
  refine pv_sipush (v := 200) (by decide) dX12_init_331 ?_
  obtain ⟨nm1, n1, q1n, q1N, q1m, q1a, q1b, q1c, q1d, F⟩ := F
  obtain ⟨ty1, ety1⟩ : ∃ ty1 : pv_T, ty1 = pv_newT ty nm1 20 n1 := ⟨_, rfl⟩
  obtain ⟨h1, eh1⟩ : ∃ h1 : pv_H, h1 = pv_new h nm1 0 := ⟨_, rfl⟩
  obtain ⟨r1, er1⟩ : ∃ r1 : pv_R, r1 = pv_new r nm1 0 := ⟨_, rfl⟩
  obtain ⟨g1, eg1⟩ : ∃ g1 : pv_G, g1 = pv_new g nm1 0 := ⟨_, rfl⟩
  have F := F ty1 h1 r1 g1 ety1 eh1 er1 eg1
  refine pv_newA nm1 20 n1 dX12_init_334 rfl (by decide) ac_int q1n q1N q1m q1a q1b q1c q1d ?_
  refine pv_nE ety1 eh1 er1 eg1 ?_
  obtain ⟨q2, F⟩ := F
  obtain ⟨r2, er2⟩ : ∃ r2 : pv_R, r2 = pv_up r1 a0 57 nm1 := ⟨_, rfl⟩
  have F := F r2 er2
  refine pv_putR 12 57 dX12_init_336 fl_X12_133 ⟨_, rfl, Or.inr ⟨rfl, rfl, rfl⟩⟩ rfl q2 ?_
  refine pv_rE er2 ?_
  exact F
set_option maxRecDepth 20000 in
set_option maxHeartbeats 4000000 in
theorem sg_X12_init_339 {Γ : pv_C} {d kc ks : Nat} {ty : pv_T} {h : pv_H} {r : pv_R} {g : pv_G} {Q : pv_Q} (a0 : Nat) (F : (∃ nm1 n1 : Nat, ¬ (200 : Int32) < 0 ∧ Int32.toNatClampNeg 200 = n1 ∧ n1 ≤ 1000000 ∧ 10 ≤ nm1 ∧ ty nm1 = none ∧ 1 ≤ kc ∧ n1 ≤ ks ∧ (∀ (ty1 : pv_T) (h1 : pv_H) (r1 : pv_R) (g1 : pv_G), ty1 = pv_newT ty nm1 20 n1 → h1 = pv_new h nm1 0 → r1 = pv_new r nm1 0 → g1 = pv_new g nm1 0 → ty1 a0 = some (12, 0) ∧ (∀ r2 : pv_R, r2 = pv_up r1 a0 58 nm1 → pv_E Γ d (kc - 1) (ks - n1) mX12_init 348 [some (.ref a0)] [] ty1 h1 r2 g1 Q)))) : pv_E Γ d kc ks mX12_init 339 [some (.ref a0)] [] ty h r g Q := by
  refine pv_aload_n dX12_init_339 rfl ?_
  refine pv_sipush (v := 200) (by decide) dX12_init_340 ?_
  obtain ⟨nm1, n1, q1n, q1N, q1m, q1a, q1b, q1c, q1d, F⟩ := F
  obtain ⟨ty1, ety1⟩ : ∃ ty1 : pv_T, ty1 = pv_newT ty nm1 20 n1 := ⟨_, rfl⟩
  obtain ⟨h1, eh1⟩ : ∃ h1 : pv_H, h1 = pv_new h nm1 0 := ⟨_, rfl⟩
  obtain ⟨r1, er1⟩ : ∃ r1 : pv_R, r1 = pv_new r nm1 0 := ⟨_, rfl⟩
  obtain ⟨g1, eg1⟩ : ∃ g1 : pv_G, g1 = pv_new g nm1 0 := ⟨_, rfl⟩
  have F := F ty1 h1 r1 g1 ety1 eh1 er1 eg1
  refine pv_newA nm1 20 n1 dX12_init_343 rfl (by decide) ac_int q1n q1N q1m q1a q1b q1c q1d ?_
  refine pv_nE ety1 eh1 er1 eg1 ?_
  obtain ⟨q2, F⟩ := F
  obtain ⟨r2, er2⟩ : ∃ r2 : pv_R, r2 = pv_up r1 a0 58 nm1 := ⟨_, rfl⟩
  have F := F r2 er2
  refine pv_putR 12 58 dX12_init_345 fl_X12_136 ⟨_, rfl, Or.inr ⟨rfl, rfl, rfl⟩⟩ rfl q2 ?_
  refine pv_rE er2 ?_
  exact F
set_option maxRecDepth 20000 in
set_option maxHeartbeats 4000000 in
theorem sg_X12_init_348 {Γ : pv_C} {d kc ks : Nat} {ty : pv_T} {h : pv_H} {r : pv_R} {g : pv_G} {Q : pv_Q} (a0 : Nat) (F : (∃ nm1 n1 : Nat, ¬ (200 : Int32) < 0 ∧ Int32.toNatClampNeg 200 = n1 ∧ n1 ≤ 1000000 ∧ 10 ≤ nm1 ∧ ty nm1 = none ∧ 1 ≤ kc ∧ n1 ≤ ks ∧ (∀ (ty1 : pv_T) (h1 : pv_H) (r1 : pv_R) (g1 : pv_G), ty1 = pv_newT ty nm1 20 n1 → h1 = pv_new h nm1 0 → r1 = pv_new r nm1 0 → g1 = pv_new g nm1 0 → ty1 a0 = some (12, 0) ∧ (∀ r2 : pv_R, r2 = pv_up r1 a0 59 nm1 → pv_E Γ d (kc - 1) (ks - n1) mX12_init 357 [some (.ref a0)] [] ty1 h1 r2 g1 Q)))) : pv_E Γ d kc ks mX12_init 348 [some (.ref a0)] [] ty h r g Q := by
  refine pv_aload_n dX12_init_348 rfl ?_
  refine pv_sipush (v := 200) (by decide) dX12_init_349 ?_
  obtain ⟨nm1, n1, q1n, q1N, q1m, q1a, q1b, q1c, q1d, F⟩ := F
  obtain ⟨ty1, ety1⟩ : ∃ ty1 : pv_T, ty1 = pv_newT ty nm1 20 n1 := ⟨_, rfl⟩
  obtain ⟨h1, eh1⟩ : ∃ h1 : pv_H, h1 = pv_new h nm1 0 := ⟨_, rfl⟩
  obtain ⟨r1, er1⟩ : ∃ r1 : pv_R, r1 = pv_new r nm1 0 := ⟨_, rfl⟩
  obtain ⟨g1, eg1⟩ : ∃ g1 : pv_G, g1 = pv_new g nm1 0 := ⟨_, rfl⟩
  have F := F ty1 h1 r1 g1 ety1 eh1 er1 eg1
  refine pv_newA nm1 20 n1 dX12_init_352 rfl (by decide) ac_int q1n q1N q1m q1a q1b q1c q1d ?_
  refine pv_nE ety1 eh1 er1 eg1 ?_
  obtain ⟨q2, F⟩ := F
  obtain ⟨r2, er2⟩ : ∃ r2 : pv_R, r2 = pv_up r1 a0 59 nm1 := ⟨_, rfl⟩
  have F := F r2 er2
  refine pv_putR 12 59 dX12_init_354 fl_X12_139 ⟨_, rfl, Or.inr ⟨rfl, rfl, rfl⟩⟩ rfl q2 ?_
  refine pv_rE er2 ?_
  exact F
set_option maxRecDepth 20000 in
set_option maxHeartbeats 4000000 in
theorem sg_X12_init_357 {Γ : pv_C} {d kc ks : Nat} {ty : pv_T} {h : pv_H} {r : pv_R} {g : pv_G} {Q : pv_Q} (a0 : Nat) (F : (∃ nm1 n1 : Nat, ¬ (200 : Int32) < 0 ∧ Int32.toNatClampNeg 200 = n1 ∧ n1 ≤ 1000000 ∧ 10 ≤ nm1 ∧ ty nm1 = none ∧ 1 ≤ kc ∧ n1 ≤ ks ∧ (∀ (ty1 : pv_T) (h1 : pv_H) (r1 : pv_R) (g1 : pv_G), ty1 = pv_newT ty nm1 20 n1 → h1 = pv_new h nm1 0 → r1 = pv_new r nm1 0 → g1 = pv_new g nm1 0 → ty1 a0 = some (12, 0) ∧ (∀ r2 : pv_R, r2 = pv_up r1 a0 60 nm1 → pv_E Γ d (kc - 1) (ks - n1) mX12_init 366 [some (.ref a0)] [] ty1 h1 r2 g1 Q)))) : pv_E Γ d kc ks mX12_init 357 [some (.ref a0)] [] ty h r g Q := by
  refine pv_aload_n dX12_init_357 rfl ?_
  refine pv_sipush (v := 200) (by decide) dX12_init_358 ?_
  obtain ⟨nm1, n1, q1n, q1N, q1m, q1a, q1b, q1c, q1d, F⟩ := F
  obtain ⟨ty1, ety1⟩ : ∃ ty1 : pv_T, ty1 = pv_newT ty nm1 20 n1 := ⟨_, rfl⟩
  obtain ⟨h1, eh1⟩ : ∃ h1 : pv_H, h1 = pv_new h nm1 0 := ⟨_, rfl⟩
  obtain ⟨r1, er1⟩ : ∃ r1 : pv_R, r1 = pv_new r nm1 0 := ⟨_, rfl⟩
  obtain ⟨g1, eg1⟩ : ∃ g1 : pv_G, g1 = pv_new g nm1 0 := ⟨_, rfl⟩
  have F := F ty1 h1 r1 g1 ety1 eh1 er1 eg1
  refine pv_newA nm1 20 n1 dX12_init_361 rfl (by decide) ac_int q1n q1N q1m q1a q1b q1c q1d ?_
  refine pv_nE ety1 eh1 er1 eg1 ?_
  obtain ⟨q2, F⟩ := F
  obtain ⟨r2, er2⟩ : ∃ r2 : pv_R, r2 = pv_up r1 a0 60 nm1 := ⟨_, rfl⟩
  have F := F r2 er2
  refine pv_putR 12 60 dX12_init_363 fl_X12_142 ⟨_, rfl, Or.inr ⟨rfl, rfl, rfl⟩⟩ rfl q2 ?_
  refine pv_rE er2 ?_
  exact F
set_option maxRecDepth 20000 in
set_option maxHeartbeats 4000000 in
theorem sg_X12_init_366 {Γ : pv_C} {d kc ks : Nat} {ty : pv_T} {h : pv_H} {r : pv_R} {g : pv_G} {Q : pv_Q} (a0 : Nat) (F : (∃ nm1 n1 : Nat, ¬ (200 : Int32) < 0 ∧ Int32.toNatClampNeg 200 = n1 ∧ n1 ≤ 1000000 ∧ 10 ≤ nm1 ∧ ty nm1 = none ∧ 1 ≤ kc ∧ n1 ≤ ks ∧ (∀ (ty1 : pv_T) (h1 : pv_H) (r1 : pv_R) (g1 : pv_G), ty1 = pv_newT ty nm1 20 n1 → h1 = pv_new h nm1 0 → r1 = pv_new r nm1 0 → g1 = pv_new g nm1 0 → ty1 a0 = some (12, 0) ∧ (∀ r2 : pv_R, r2 = pv_up r1 a0 61 nm1 → pv_E Γ d (kc - 1) (ks - n1) mX12_init 375 [some (.ref a0)] [] ty1 h1 r2 g1 Q)))) : pv_E Γ d kc ks mX12_init 366 [some (.ref a0)] [] ty h r g Q := by
  refine pv_aload_n dX12_init_366 rfl ?_
  refine pv_sipush (v := 200) (by decide) dX12_init_367 ?_
  obtain ⟨nm1, n1, q1n, q1N, q1m, q1a, q1b, q1c, q1d, F⟩ := F
  obtain ⟨ty1, ety1⟩ : ∃ ty1 : pv_T, ty1 = pv_newT ty nm1 20 n1 := ⟨_, rfl⟩
  obtain ⟨h1, eh1⟩ : ∃ h1 : pv_H, h1 = pv_new h nm1 0 := ⟨_, rfl⟩
  obtain ⟨r1, er1⟩ : ∃ r1 : pv_R, r1 = pv_new r nm1 0 := ⟨_, rfl⟩
  obtain ⟨g1, eg1⟩ : ∃ g1 : pv_G, g1 = pv_new g nm1 0 := ⟨_, rfl⟩
  have F := F ty1 h1 r1 g1 ety1 eh1 er1 eg1
  refine pv_newA nm1 20 n1 dX12_init_370 rfl (by decide) ac_int q1n q1N q1m q1a q1b q1c q1d ?_
  refine pv_nE ety1 eh1 er1 eg1 ?_
  obtain ⟨q2, F⟩ := F
  obtain ⟨r2, er2⟩ : ∃ r2 : pv_R, r2 = pv_up r1 a0 61 nm1 := ⟨_, rfl⟩
  have F := F r2 er2
  refine pv_putR 12 61 dX12_init_372 fl_X12_145 ⟨_, rfl, Or.inr ⟨rfl, rfl, rfl⟩⟩ rfl q2 ?_
  refine pv_rE er2 ?_
  exact F
set_option maxRecDepth 20000 in
set_option maxHeartbeats 4000000 in
theorem sg_X12_init_375 {Γ : pv_C} {d kc ks : Nat} {ty : pv_T} {h : pv_H} {r : pv_R} {g : pv_G} {Q : pv_Q} (a0 : Nat) (F : (∃ nm1 n1 : Nat, ¬ (40 : Int32) < 0 ∧ Int32.toNatClampNeg 40 = n1 ∧ n1 ≤ 1000000 ∧ 10 ≤ nm1 ∧ ty nm1 = none ∧ 1 ≤ kc ∧ n1 ≤ ks ∧ (∀ (ty1 : pv_T) (h1 : pv_H) (r1 : pv_R) (g1 : pv_G), ty1 = pv_newT ty nm1 20 n1 → h1 = pv_new h nm1 0 → r1 = pv_new r nm1 0 → g1 = pv_new g nm1 0 → ty1 a0 = some (12, 0) ∧ (∀ r2 : pv_R, r2 = pv_up r1 a0 63 nm1 → pv_E Γ d (kc - 1) (ks - n1) mX12_init 383 [some (.ref a0)] [] ty1 h1 r2 g1 Q)))) : pv_E Γ d kc ks mX12_init 375 [some (.ref a0)] [] ty h r g Q := by
  refine pv_aload_n dX12_init_375 rfl ?_
  refine pv_bipush (v := 40) (by decide) dX12_init_376 ?_
  obtain ⟨nm1, n1, q1n, q1N, q1m, q1a, q1b, q1c, q1d, F⟩ := F
  obtain ⟨ty1, ety1⟩ : ∃ ty1 : pv_T, ty1 = pv_newT ty nm1 20 n1 := ⟨_, rfl⟩
  obtain ⟨h1, eh1⟩ : ∃ h1 : pv_H, h1 = pv_new h nm1 0 := ⟨_, rfl⟩
  obtain ⟨r1, er1⟩ : ∃ r1 : pv_R, r1 = pv_new r nm1 0 := ⟨_, rfl⟩
  obtain ⟨g1, eg1⟩ : ∃ g1 : pv_G, g1 = pv_new g nm1 0 := ⟨_, rfl⟩
  have F := F ty1 h1 r1 g1 ety1 eh1 er1 eg1
  refine pv_newA nm1 20 n1 dX12_init_378 rfl (by decide) ac_int q1n q1N q1m q1a q1b q1c q1d ?_
  refine pv_nE ety1 eh1 er1 eg1 ?_
  obtain ⟨q2, F⟩ := F
  obtain ⟨r2, er2⟩ : ∃ r2 : pv_R, r2 = pv_up r1 a0 63 nm1 := ⟨_, rfl⟩
  have F := F r2 er2
  refine pv_putR 12 63 dX12_init_380 fl_X12_148 ⟨_, rfl, Or.inr ⟨rfl, rfl, rfl⟩⟩ rfl q2 ?_
  refine pv_rE er2 ?_
  exact F
set_option maxRecDepth 20000 in
set_option maxHeartbeats 4000000 in
theorem sg_X12_init_383 {Γ : pv_C} {d kc ks : Nat} {ty : pv_T} {h : pv_H} {r : pv_R} {g : pv_G} {Q : pv_Q} (a0 : Nat) (F : (∃ nm1 n1 : Nat, ¬ (40 : Int32) < 0 ∧ Int32.toNatClampNeg 40 = n1 ∧ n1 ≤ 1000000 ∧ 10 ≤ nm1 ∧ ty nm1 = none ∧ 1 ≤ kc ∧ n1 ≤ ks ∧ (∀ (ty1 : pv_T) (h1 : pv_H) (r1 : pv_R) (g1 : pv_G), ty1 = pv_newT ty nm1 22 n1 → h1 = pv_new h nm1 0 → r1 = pv_new r nm1 0 → g1 = pv_new g nm1 0 → ty1 a0 = some (12, 0) ∧ (∀ r2 : pv_R, r2 = pv_up r1 a0 64 nm1 → pv_E Γ d (kc - 1) (ks - n1) mX12_init 391 [some (.ref a0)] [] ty1 h1 r2 g1 Q)))) : pv_E Γ d kc ks mX12_init 383 [some (.ref a0)] [] ty h r g Q := by
  refine pv_aload_n dX12_init_383 rfl ?_
  refine pv_bipush (v := 40) (by decide) dX12_init_384 ?_
  obtain ⟨nm1, n1, q1n, q1N, q1m, q1a, q1b, q1c, q1d, F⟩ := F
  obtain ⟨ty1, ety1⟩ : ∃ ty1 : pv_T, ty1 = pv_newT ty nm1 22 n1 := ⟨_, rfl⟩
  obtain ⟨h1, eh1⟩ : ∃ h1 : pv_H, h1 = pv_new h nm1 0 := ⟨_, rfl⟩
  obtain ⟨r1, er1⟩ : ∃ r1 : pv_R, r1 = pv_new r nm1 0 := ⟨_, rfl⟩
  obtain ⟨g1, eg1⟩ : ∃ g1 : pv_G, g1 = pv_new g nm1 0 := ⟨_, rfl⟩
  have F := F ty1 h1 r1 g1 ety1 eh1 er1 eg1
  refine pv_newA nm1 22 n1 dX12_init_386 rfl (by decide) ac_boolean q1n q1N q1m q1a q1b q1c q1d ?_
  refine pv_nE ety1 eh1 er1 eg1 ?_
  obtain ⟨q2, F⟩ := F
  obtain ⟨r2, er2⟩ : ∃ r2 : pv_R, r2 = pv_up r1 a0 64 nm1 := ⟨_, rfl⟩
  have F := F r2 er2
  refine pv_putR 12 64 dX12_init_388 fl_X12_151 ⟨_, rfl, Or.inr ⟨rfl, rfl, rfl⟩⟩ rfl q2 ?_
  refine pv_rE er2 ?_
  exact F
set_option maxRecDepth 20000 in
set_option maxHeartbeats 4000000 in
theorem sg_X12_init_391 {Γ : pv_C} {d kc ks : Nat} {ty : pv_T} {h : pv_H} {r : pv_R} {g : pv_G} {Q : pv_Q} (a0 : Nat) (F : (∃ nm1 n1 : Nat, ¬ (1681 : Int32) < 0 ∧ Int32.toNatClampNeg 1681 = n1 ∧ n1 ≤ 1000000 ∧ 10 ≤ nm1 ∧ ty nm1 = none ∧ 1 ≤ kc ∧ n1 ≤ ks ∧ (∀ (ty1 : pv_T) (h1 : pv_H) (r1 : pv_R) (g1 : pv_G), ty1 = pv_newT ty nm1 23 n1 → h1 = pv_new h nm1 0 → r1 = pv_new r nm1 0 → g1 = pv_new g nm1 0 → ty1 a0 = some (12, 0) ∧ (∀ r2 : pv_R, r2 = pv_up r1 a0 65 nm1 → Q none ty1 h1 r2 g1)))) : pv_E Γ d kc ks mX12_init 391 [some (.ref a0)] [] ty h r g Q := by
  refine pv_aload_n dX12_init_391 rfl ?_
  refine pv_sipush (v := 1681) (by decide) dX12_init_392 ?_
  obtain ⟨nm1, n1, q1n, q1N, q1m, q1a, q1b, q1c, q1d, F⟩ := F
  obtain ⟨ty1, ety1⟩ : ∃ ty1 : pv_T, ty1 = pv_newT ty nm1 23 n1 := ⟨_, rfl⟩
  obtain ⟨h1, eh1⟩ : ∃ h1 : pv_H, h1 = pv_new h nm1 0 := ⟨_, rfl⟩
  obtain ⟨r1, er1⟩ : ∃ r1 : pv_R, r1 = pv_new r nm1 0 := ⟨_, rfl⟩
  obtain ⟨g1, eg1⟩ : ∃ g1 : pv_G, g1 = pv_new g nm1 0 := ⟨_, rfl⟩
  have F := F ty1 h1 r1 g1 ety1 eh1 er1 eg1
  refine pv_newA nm1 23 n1 dX12_init_395 rfl (by decide) ac_long q1n q1N q1m q1a q1b q1c q1d ?_
  refine pv_nE ety1 eh1 er1 eg1 ?_
  obtain ⟨q2, F⟩ := F
  obtain ⟨r2, er2⟩ : ∃ r2 : pv_R, r2 = pv_up r1 a0 65 nm1 := ⟨_, rfl⟩
  have F := F r2 er2
  refine pv_putR 12 65 dX12_init_397 fl_X12_154 ⟨_, rfl, Or.inr ⟨rfl, rfl, rfl⟩⟩ rfl q2 ?_
  refine pv_rE er2 ?_
  exact pv_return dX12_init_400 rfl F
section LO
variable {Γ : pv_C} {d kc ks : Nat} {ty : pv_T} {h : pv_H} {r : pv_R} {g0 : pv_G} {Q : pv_Q}
def lt_r (g : pv_G) (i k : Nat) : Prop := (∀ n k', n < i → k' ≤ 40 → g 91 (41 * n + k') = cW n k') ∧ (∀ k', k' < k → g 91 (41 * i + k') = cW i k') ∧ ∀ j, 41 * i + k ≤ j → g 91 j = 0
theorem lo_56 (t90 : ty 90 = some (5, 0)) (r90 : r 90 0 = 91) (t91 : ty 91 = some (23, 1681)) {i : Nat} (i1 : 1 ≤ i) (i2 : i ≤ 40) (hQ : ∀ g', (∀ a, a ≠ 91 → g' a = g0 a) → lt_r g' (i + 1) 0 → pv_E Γ d kc ks mX5_init 38 [some (.ref 90), some (.int (nI (i + 1))), none] [] ty h r g' Q) : ∀ (m k : Nat) (g : pv_G), k + m = i + 1 → 1 ≤ k → (∀ a, a ≠ 91 → g a = g0 a) → lt_r g i k → pv_E Γ d kc ks mX5_init 56 [some (.ref 90), some (.int (nI i)), some (.int (nI k))] [] ty h r g Q := by
  intro m
  induction m with
  | zero =>
    intro k g hk k1 f t
    refine sg_X5_init_56 _ _ _ (pk_lt i k (fun _ => ?_) (fun c => absurd c (by omega)))
    rw [nI_1]
    refine hQ g f ⟨fun n k' hn hk' => ?_, fun k' q => absurd q (by omega), fun j hj => t.2.2 j (by omega)⟩
    by_cases q : n < i
    · exact t.1 n k' q hk'
    · rw [show n = i by omega]
      by_cases q2 : k' < k
      · exact t.2.1 k' q2
      · rw [t.2.2 _ (by omega), cW_gt _ _ (by omega)]
  | succ m ih =>
    intro k g hk k1 f t
    obtain ⟨i', rfl⟩ : ∃ i', i = i' + 1 := ⟨i - 1, by omega⟩
    obtain ⟨k', rfl⟩ : ∃ k', k = k' + 1 := ⟨k - 1, by omega⟩
    refine sg_X5_init_56 _ _ _ ?_
    rw [r90, nI_pred, ni_41, ni_41, nI_1, nI_1, show 41 * i' + (k' + 1) = 41 * i' + k' + 1 by omega, nI_pred, nI_clamp (by omega), nI_clamp (by omega), nI_clamp (by omega)]
    have b : ∀ x, x ≤ 1680 → pv_inb ty 91 23 (nI x) := fun x hx => ⟨1681, t91, vp_in_nI (by omega) (by decide)⟩
    refine pk_lt (i' + 1) (k' + 1) (fun c => absurd c (by omega)) (fun _ => ⟨t90, t90, b _ (by omega), t90, b _ (by omega), b _ (by omega), by decide, fun g1 e1 => ?_⟩)
    rw [t.1 i' k' (by omega) (by omega), show 41 * i' + k' + 1 = 41 * i' + (k' + 1) by omega, t.1 i' (k' + 1) (by omega) (by omega)] at e1
    refine ih (k' + 1 + 1) g1 (by omega) (by omega) (fun a ha => by rw [e1]; funext j; rw [pv_up_a ha, f a ha]) ⟨fun n kk hn hkk => ?_, fun kk hkk => ?_, fun j hj => ?_⟩
    · rw [e1, pv_up_j (by omega)]; exact t.1 n kk hn hkk
    · rw [e1]
      by_cases q : kk = k' + 1
      · rw [q, pv_up_same]; rfl
      · rw [pv_up_j (by omega)]; exact t.2.1 kk (by omega)
    · rw [e1, pv_up_j (by omega)]; exact t.2.2 j (by omega)
theorem lo_38 (t90 : ty 90 = some (5, 0)) (r90 : r 90 0 = 91) (t91 : ty 91 = some (23, 1681)) (hQ : ∀ g', (∀ a, a ≠ 91 → g' a = g0 a) → wy_ok g' → Q none ty h r g') : ∀ (m i : Nat) (g : pv_G), i + m = 41 → 1 ≤ i → (∀ a, a ≠ 91 → g a = g0 a) → lt_r g i 0 → pv_E Γ d kc ks mX5_init 38 [some (.ref 90), some (.int (nI i)), none] [] ty h r g Q := by
  intro m
  induction m with
  | zero =>
    intro i g hi i1 f t
    refine sg_X5_init_38 _ _ (pk_le 41 i (fun _ => hQ g f (fun n k hn hk => t.1 n k (by omega) hk)) (fun c => absurd c (by omega)))
  | succ m ih =>
    intro i g hi i1 f t
    refine sg_X5_init_38 _ _ ?_
    have e41 : nI i * 41 = nI (41 * i) := by rw [show (41 : Int32) = nI 41 from rfl, pk_mul, Nat.mul_comm]
    rw [r90, e41, nI_clamp (by omega)]
    refine pk_le 41 i (fun c => absurd c (by omega)) (fun _ => ⟨t90, ⟨1681, t91, vp_in_nI (by omega) (by decide)⟩, by decide, fun g1 e1 => ?_⟩)
    refine lo_56 (g0 := g0) t90 r90 t91 i1 (by omega) (fun g' f' t' => ih (i + 1) g' (by omega) (by omega) f' t') i 1 g1 (by omega) (Nat.le_refl _) (fun a ha => by rw [e1]; funext j; rw [pv_up_a ha, f a ha]) ⟨fun n kk hn hkk => ?_, fun kk hkk => ?_, fun j hj => ?_⟩
    · rw [e1, pv_up_j (by omega)]; exact t.1 n kk hn hkk
    · rw [e1, show kk = 0 by omega, show 41 * i + 0 = 41 * i by omega, pv_up_same, cW_0]
    · rw [e1, pv_up_j (by omega)]; exact t.2.2 j (by omega)
end LO
theorem ct_X2_init {Γ : pv_C} {d L : Nat} {h : pv_H} {g : pv_G} {k : pv_Q} (hd : 1 ≤ d) (hz : ∀ a, 10 ≤ a → iz h g a) (hk : k none (tyX (iT L) [(32, 20, 144), (31, 20, 144), (30, 2, 0), (110, 24, 8), (100, 11, 0)]) h (rX iR [(30, 1, 32), (30, 0, 31), (100, 0, 110)]) g) : pv_CT Γ d 2 288 mX2_init [.ref 30] (tyX (iT L) [(30, 2, 0), (110, 24, 8), (100, 11, 0)]) h (rX iR [(100, 0, 110)]) g k := by
  refine pv_fn 0 pn_X2 rfl (Nat.le_of_ble_eq_true rfl) (sg_X2_init_0 30 (by omega) ⟨by decide, ?_⟩)
  refine sg_X2_init_4 30 (pi_A 31 20 144 (by decide) (by decide) (by decide) (by decide) rfl (by decide) (by decide) (hz 31 (by decide)) (fun j => rfl) ⟨rfl, fun r1 e1 => ?_⟩)
  subst e1
  refine sg_X2_init_13 30 (pi_A 32 20 144 (by decide) (by decide) (by decide) (by decide) rfl (by decide) (by decide) (hz 32 (by decide)) (fun j => rfl) ⟨rfl, fun r1 e1 => ?_⟩)
  subst e1
  exact hk
theorem ct_X4_init {Γ : pv_C} {d L : Nat} {h : pv_H} {g : pv_G} {k : pv_Q} (hd : 1 ≤ d) (hz : ∀ a, 10 ≤ a → iz h g a) (hk : k none (tyX (iT L) [(43, 20, 9), (42, 20, 9), (41, 20, 900), (40, 4, 0), (32, 20, 144), (31, 20, 144), (30, 2, 0), (110, 24, 8), (100, 11, 0)]) h (rX iR [(40, 2, 43), (40, 1, 42), (40, 0, 41), (100, 2, 30), (30, 1, 32), (30, 0, 31), (100, 0, 110)]) g) : pv_CT Γ d 3 918 mX4_init [.ref 40] (tyX (iT L) [(40, 4, 0), (32, 20, 144), (31, 20, 144), (30, 2, 0), (110, 24, 8), (100, 11, 0)]) h (rX iR [(100, 2, 30), (30, 1, 32), (30, 0, 31), (100, 0, 110)]) g k := by
  refine pv_fn 0 pn_X4 rfl (Nat.le_of_ble_eq_true rfl) (sg_X4_init_0 40 (by omega) ⟨by decide, ?_⟩)
  refine sg_X4_init_4 40 (pi_A 41 20 900 (by decide) (by decide) (by decide) (by decide) rfl (by decide) (by decide) (hz 41 (by decide)) (fun j => rfl) ⟨rfl, fun r1 e1 => ?_⟩)
  subst e1
  refine sg_X4_init_13 40 (pi_A 42 20 9 (by decide) (by decide) (by decide) (by decide) rfl (by decide) (by decide) (hz 42 (by decide)) (fun j => rfl) ⟨rfl, fun r1 e1 => ?_⟩)
  subst e1
  refine sg_X4_init_21 40 (pi_A 43 20 9 (by decide) (by decide) (by decide) (by decide) rfl (by decide) (by decide) (hz 43 (by decide)) (fun j => rfl) ⟨rfl, fun r1 e1 => ?_⟩)
  subst e1
  exact hk
theorem ct_X10_init {Γ : pv_C} {d L : Nat} {h : pv_H} {g : pv_G} {k : pv_Q} (hd : 1 ≤ d) (hz : ∀ a, 10 ≤ a → iz h g a) (hk : k none (tyX (iT L) [(54, 20, 10), (53, 20, 10), (52, 20, 610), (51, 20, 10), (50, 10, 0), (43, 20, 9), (42, 20, 9), (41, 20, 900), (40, 4, 0), (32, 20, 144), (31, 20, 144), (30, 2, 0), (110, 24, 8), (100, 11, 0)]) h (rX iR [(50, 3, 54), (50, 2, 53), (50, 1, 52), (50, 0, 51), (100, 3, 40), (40, 2, 43), (40, 1, 42), (40, 0, 41), (100, 2, 30), (30, 1, 32), (30, 0, 31), (100, 0, 110)]) g) : pv_CT Γ d 4 640 mX10_init [.ref 50] (tyX (iT L) [(50, 10, 0), (43, 20, 9), (42, 20, 9), (41, 20, 900), (40, 4, 0), (32, 20, 144), (31, 20, 144), (30, 2, 0), (110, 24, 8), (100, 11, 0)]) h (rX iR [(100, 3, 40), (40, 2, 43), (40, 1, 42), (40, 0, 41), (100, 2, 30), (30, 1, 32), (30, 0, 31), (100, 0, 110)]) g k := by
  refine pv_fn 0 pn_X10 rfl (Nat.le_of_ble_eq_true rfl) (sg_X10_init_0 50 (by omega) ⟨by decide, ?_⟩)
  refine sg_X10_init_4 50 (pi_A 51 20 10 (by decide) (by decide) (by decide) (by decide) rfl (by decide) (by decide) (hz 51 (by decide)) (fun j => rfl) ⟨rfl, fun r1 e1 => ?_⟩)
  subst e1
  refine sg_X10_init_12 50 (pi_A 52 20 610 (by decide) (by decide) (by decide) (by decide) rfl (by decide) (by decide) (hz 52 (by decide)) (fun j => rfl) ⟨rfl, fun r1 e1 => ?_⟩)
  subst e1
  refine sg_X10_init_21 50 (pi_A 53 20 10 (by decide) (by decide) (by decide) (by decide) rfl (by decide) (by decide) (hz 53 (by decide)) (fun j => rfl) ⟨rfl, fun r1 e1 => ?_⟩)
  subst e1
  refine sg_X10_init_29 50 (pi_A 54 20 10 (by decide) (by decide) (by decide) (by decide) rfl (by decide) (by decide) (hz 54 (by decide)) (fun j => rfl) ⟨rfl, fun r1 e1 => ?_⟩)
  subst e1
  exact hk
theorem ct_X7_init {Γ : pv_C} {d L : Nat} {h : pv_H} {g : pv_G} {k : pv_Q} (hd : 2 ≤ d) (hz : ∀ a, 10 ≤ a → iz h g a) (hk : ∀ h', (∀ a, a ≠ 67 → h' a = h a) → (∀ j, j < 8 → h' 67 j = -1) → k none (tyX (iT L) [(67, 20, 8), (66, 20, 6), (65, 20, 6), (64, 20, 3), (63, 20, 18), (62, 20, 18), (61, 20, 6), (60, 7, 0), (54, 20, 10), (53, 20, 10), (52, 20, 610), (51, 20, 10), (50, 10, 0), (43, 20, 9), (42, 20, 9), (41, 20, 900), (40, 4, 0), (32, 20, 144), (31, 20, 144), (30, 2, 0), (110, 24, 8), (100, 11, 0)]) h' (rX iR [(60, 6, 67), (60, 5, 66), (60, 4, 65), (60, 3, 64), (60, 2, 63), (60, 1, 62), (60, 0, 61), (100, 4, 50), (50, 3, 54), (50, 2, 53), (50, 1, 52), (50, 0, 51), (100, 3, 40), (40, 2, 43), (40, 1, 42), (40, 0, 41), (100, 2, 30), (30, 1, 32), (30, 0, 31), (100, 0, 110)]) g) : pv_CT Γ d 7 65 mX7_init [.ref 60] (tyX (iT L) [(60, 7, 0), (54, 20, 10), (53, 20, 10), (52, 20, 610), (51, 20, 10), (50, 10, 0), (43, 20, 9), (42, 20, 9), (41, 20, 900), (40, 4, 0), (32, 20, 144), (31, 20, 144), (30, 2, 0), (110, 24, 8), (100, 11, 0)]) h (rX iR [(100, 4, 50), (50, 3, 54), (50, 2, 53), (50, 1, 52), (50, 0, 51), (100, 3, 40), (40, 2, 43), (40, 1, 42), (40, 0, 41), (100, 2, 30), (30, 1, 32), (30, 0, 31), (100, 0, 110)]) g k := by
  refine pv_fn 0 pn_X7 rfl (Nat.le_of_ble_eq_true rfl) (sg_X7_init_0 60 (by omega) ⟨by decide, ?_⟩)
  refine sg_X7_init_4 60 (pi_A 61 20 6 (by decide) (by decide) (by decide) (by decide) rfl (by decide) (by decide) (hz 61 (by decide)) (fun j => rfl) ⟨rfl, fun r1 e1 => ?_⟩)
  subst e1
  refine sg_X7_init_12 60 (pi_A 62 20 18 (by decide) (by decide) (by decide) (by decide) rfl (by decide) (by decide) (hz 62 (by decide)) (fun j => rfl) ⟨rfl, fun r1 e1 => ?_⟩)
  subst e1
  refine sg_X7_init_20 60 (pi_A 63 20 18 (by decide) (by decide) (by decide) (by decide) rfl (by decide) (by decide) (hz 63 (by decide)) (fun j => rfl) ⟨rfl, fun r1 e1 => ?_⟩)
  subst e1
  refine sg_X7_init_28 60 (pi_A 64 20 3 (by decide) (by decide) (by decide) (by decide) rfl (by decide) (by decide) (hz 64 (by decide)) (fun j => rfl) ⟨rfl, fun r1 e1 => ?_⟩)
  subst e1
  refine sg_X7_init_35 60 (pi_A 65 20 6 (by decide) (by decide) (by decide) (by decide) rfl (by decide) (by decide) (hz 65 (by decide)) (fun j => rfl) ⟨rfl, fun r1 e1 => ?_⟩)
  subst e1
  refine sg_X7_init_43 60 (pi_A 66 20 6 (by decide) (by decide) (by decide) (by decide) rfl (by decide) (by decide) (hz 66 (by decide)) (fun j => rfl) ⟨rfl, fun r1 e1 => ?_⟩)
  subst e1
  refine sg_X7_init_51 60 (pi_A 67 20 8 (by decide) (by decide) (by decide) (by decide) rfl (by decide) (by decide) (hz 67 (by decide)) (fun j => rfl) ⟨rfl, fun r1 e1 => ?_⟩)
  subst e1
  refine sg_X7_init_59 60 (by omega) ⟨rfl, pv_CW.mono (ct_fill (a := 67) (n := 8) (by decide) rfl (by decide)) (fun h2 e2 => hk h2 (fun a ha => by rw [e2, pv_row_ne ha]) (fun j hj => by rw [e2, pv_row_at, if_pos hj]))⟩
theorem ct_X9_init {Γ : pv_C} {d L : Nat} {h : pv_H} {g : pv_G} {k : pv_Q} (hd : 1 ≤ d) (hz : ∀ a, 10 ≤ a → a ≠ 67 → iz h g a) (hk : k none (tyX (iT L) [(82, 21, 0), (81, 20, 6), (80, 9, 0), (72, 26, 20), (71, 21, 160), (70, 1, 0), (117, 25, 60), (67, 20, 8), (66, 20, 6), (65, 20, 6), (64, 20, 3), (63, 20, 18), (62, 20, 18), (61, 20, 6), (60, 7, 0), (54, 20, 10), (53, 20, 10), (52, 20, 610), (51, 20, 10), (50, 10, 0), (43, 20, 9), (42, 20, 9), (41, 20, 900), (40, 4, 0), (32, 20, 144), (31, 20, 144), (30, 2, 0), (110, 24, 8), (100, 11, 0)]) h (rX iR [(80, 4, 2), (80, 1, 82), (80, 0, 81), (70, 1, 72), (70, 0, 71), (100, 7, 117), (100, 6, 60), (60, 6, 67), (60, 5, 66), (60, 4, 65), (60, 3, 64), (60, 2, 63), (60, 1, 62), (60, 0, 61), (100, 4, 50), (50, 3, 54), (50, 2, 53), (50, 1, 52), (50, 0, 51), (100, 3, 40), (40, 2, 43), (40, 1, 42), (40, 0, 41), (100, 2, 30), (30, 1, 32), (30, 0, 31), (100, 0, 110)]) g) : pv_CT Γ d 2 6 mX9_init [.ref 80] (tyX (iT L) [(80, 9, 0), (72, 26, 20), (71, 21, 160), (70, 1, 0), (117, 25, 60), (67, 20, 8), (66, 20, 6), (65, 20, 6), (64, 20, 3), (63, 20, 18), (62, 20, 18), (61, 20, 6), (60, 7, 0), (54, 20, 10), (53, 20, 10), (52, 20, 610), (51, 20, 10), (50, 10, 0), (43, 20, 9), (42, 20, 9), (41, 20, 900), (40, 4, 0), (32, 20, 144), (31, 20, 144), (30, 2, 0), (110, 24, 8), (100, 11, 0)]) h (rX iR [(70, 1, 72), (70, 0, 71), (100, 7, 117), (100, 6, 60), (60, 6, 67), (60, 5, 66), (60, 4, 65), (60, 3, 64), (60, 2, 63), (60, 1, 62), (60, 0, 61), (100, 4, 50), (50, 3, 54), (50, 2, 53), (50, 1, 52), (50, 0, 51), (100, 3, 40), (40, 2, 43), (40, 1, 42), (40, 0, 41), (100, 2, 30), (30, 1, 32), (30, 0, 31), (100, 0, 110)]) g k := by
  refine pv_fn 0 pn_X9 rfl (Nat.le_of_ble_eq_true rfl) (sg_X9_init_0 80 (by omega) ⟨by decide, ?_⟩)
  refine sg_X9_init_4 80 (pi_A 81 20 6 (by decide) (by decide) (by decide) (by decide) rfl (by decide) (by decide) (hz 81 (by decide) (by decide)) (fun j => rfl) ⟨rfl, fun r1 e1 => ?_⟩)
  subst e1
  refine sg_X9_init_12 80 (pi_A 82 21 0 (by decide) (by decide) (by decide) (by decide) rfl (by decide) (by decide) (hz 82 (by decide) (by decide)) (fun j => rfl) ⟨rfl, fun r1 e1 => ?_⟩)
  subst e1
  refine sg_X9_init_19 80 ⟨rfl, rfl, fun r1 e1 => ?_⟩
  subst e1
  exact hk
theorem ct_X1_init {Γ : pv_C} {d L : Nat} {h : pv_H} {g : pv_G} {k : pv_Q} (hd : 2 ≤ d) (hz : ∀ a, 10 ≤ a → a ≠ 67 → iz h g a) (hk : k none (tyX (iT L) [(82, 21, 0), (81, 20, 6), (80, 9, 0), (72, 26, 20), (71, 21, 160), (70, 1, 0), (117, 25, 60), (67, 20, 8), (66, 20, 6), (65, 20, 6), (64, 20, 3), (63, 20, 18), (62, 20, 18), (61, 20, 6), (60, 7, 0), (54, 20, 10), (53, 20, 10), (52, 20, 610), (51, 20, 10), (50, 10, 0), (43, 20, 9), (42, 20, 9), (41, 20, 900), (40, 4, 0), (32, 20, 144), (31, 20, 144), (30, 2, 0), (110, 24, 8), (100, 11, 0)]) h (rX iR [(70, 2, 80), (80, 4, 2), (80, 1, 82), (80, 0, 81), (70, 1, 72), (70, 0, 71), (100, 7, 117), (100, 6, 60), (60, 6, 67), (60, 5, 66), (60, 4, 65), (60, 3, 64), (60, 2, 63), (60, 1, 62), (60, 0, 61), (100, 4, 50), (50, 3, 54), (50, 2, 53), (50, 1, 52), (50, 0, 51), (100, 3, 40), (40, 2, 43), (40, 1, 42), (40, 0, 41), (100, 2, 30), (30, 1, 32), (30, 0, 31), (100, 0, 110)]) g) : pv_CT Γ d 5 193 mX1_init [.ref 70] (tyX (iT L) [(70, 1, 0), (117, 25, 60), (67, 20, 8), (66, 20, 6), (65, 20, 6), (64, 20, 3), (63, 20, 18), (62, 20, 18), (61, 20, 6), (60, 7, 0), (54, 20, 10), (53, 20, 10), (52, 20, 610), (51, 20, 10), (50, 10, 0), (43, 20, 9), (42, 20, 9), (41, 20, 900), (40, 4, 0), (32, 20, 144), (31, 20, 144), (30, 2, 0), (110, 24, 8), (100, 11, 0)]) h (rX iR [(100, 7, 117), (100, 6, 60), (60, 6, 67), (60, 5, 66), (60, 4, 65), (60, 3, 64), (60, 2, 63), (60, 1, 62), (60, 0, 61), (100, 4, 50), (50, 3, 54), (50, 2, 53), (50, 1, 52), (50, 0, 51), (100, 3, 40), (40, 2, 43), (40, 1, 42), (40, 0, 41), (100, 2, 30), (30, 1, 32), (30, 0, 31), (100, 0, 110)]) g k := by
  refine pv_fn 0 pn_X1 rfl (Nat.le_of_ble_eq_true rfl) (sg_X1_init_0 70 (by omega) ⟨by decide, ?_⟩)
  refine sg_X1_init_4 70 (pi_A 71 21 160 (by decide) (by decide) (by decide) (by decide) rfl (by decide) (by decide) (hz 71 (by decide) (by decide)) (fun j => rfl) ⟨rfl, fun r1 e1 => ?_⟩)
  subst e1
  refine sg_X1_init_13 70 (pi_A 72 26 20 (by decide) (by decide) (by decide) (by decide) rfl (by decide) (by decide) (hz 72 (by decide) (by decide)) (fun j => rfl) ⟨rfl, fun r1 e1 => ?_⟩)
  subst e1
  refine sg_X1_init_22 70 (by omega) (pi_O 80 9 7 (by decide) rfl (by decide) (by decide) (hz 80 (by decide) (by decide)) (fun j => rfl) ⟨rfl, by decide, by decide, ?_⟩)
  refine ct_X9_init (by omega) hz ⟨rfl, rfl, fun r1 e1 => ?_⟩
  subst e1
  exact hk
theorem ct_X5_init {Γ : pv_C} {d L : Nat} {h : pv_H} {g : pv_G} {k : pv_Q} (hd : 1 ≤ d) (hz : ∀ a, 10 ≤ a → a ≠ 67 → iz h g a) (hk : ∀ g', (∀ a, a ≠ 91 → g' a = g a) → wy_ok g' → k none (tyX (iT L) [(91, 23, 1681), (93, 20, 40), (92, 20, 40), (90, 5, 0), (121, 27, 200), (82, 21, 0), (81, 20, 6), (80, 9, 0), (72, 26, 20), (71, 21, 160), (70, 1, 0), (117, 25, 60), (67, 20, 8), (66, 20, 6), (65, 20, 6), (64, 20, 3), (63, 20, 18), (62, 20, 18), (61, 20, 6), (60, 7, 0), (54, 20, 10), (53, 20, 10), (52, 20, 610), (51, 20, 10), (50, 10, 0), (43, 20, 9), (42, 20, 9), (41, 20, 900), (40, 4, 0), (32, 20, 144), (31, 20, 144), (30, 2, 0), (110, 24, 8), (100, 11, 0)]) h (rX iR [(90, 0, 91), (90, 2, 93), (90, 1, 92), (100, 11, 121), (100, 10, 70), (70, 2, 80), (80, 4, 2), (80, 1, 82), (80, 0, 81), (70, 1, 72), (70, 0, 71), (100, 7, 117), (100, 6, 60), (60, 6, 67), (60, 5, 66), (60, 4, 65), (60, 3, 64), (60, 2, 63), (60, 1, 62), (60, 0, 61), (100, 4, 50), (50, 3, 54), (50, 2, 53), (50, 1, 52), (50, 0, 51), (100, 3, 40), (40, 2, 43), (40, 1, 42), (40, 0, 41), (100, 2, 30), (30, 1, 32), (30, 0, 31), (100, 0, 110)]) g') : pv_CT Γ d 3 1761 mX5_init [.ref 90] (tyX (iT L) [(90, 5, 0), (121, 27, 200), (82, 21, 0), (81, 20, 6), (80, 9, 0), (72, 26, 20), (71, 21, 160), (70, 1, 0), (117, 25, 60), (67, 20, 8), (66, 20, 6), (65, 20, 6), (64, 20, 3), (63, 20, 18), (62, 20, 18), (61, 20, 6), (60, 7, 0), (54, 20, 10), (53, 20, 10), (52, 20, 610), (51, 20, 10), (50, 10, 0), (43, 20, 9), (42, 20, 9), (41, 20, 900), (40, 4, 0), (32, 20, 144), (31, 20, 144), (30, 2, 0), (110, 24, 8), (100, 11, 0)]) h (rX iR [(100, 11, 121), (100, 10, 70), (70, 2, 80), (80, 4, 2), (80, 1, 82), (80, 0, 81), (70, 1, 72), (70, 0, 71), (100, 7, 117), (100, 6, 60), (60, 6, 67), (60, 5, 66), (60, 4, 65), (60, 3, 64), (60, 2, 63), (60, 1, 62), (60, 0, 61), (100, 4, 50), (50, 3, 54), (50, 2, 53), (50, 1, 52), (50, 0, 51), (100, 3, 40), (40, 2, 43), (40, 1, 42), (40, 0, 41), (100, 2, 30), (30, 1, 32), (30, 0, 31), (100, 0, 110)]) g k := by
  refine pv_fn 2 pn_X5 rfl (Nat.le_of_ble_eq_true rfl) (sg_X5_init_0 90 (by omega) ⟨by decide, ?_⟩)
  refine sg_X5_init_4 90 (pi_A 92 20 40 (by decide) (by decide) (by decide) (by decide) rfl (by decide) (by decide) (hz 92 (by decide) (by decide)) (fun j => rfl) ⟨rfl, fun r1 e1 => ?_⟩)
  subst e1
  refine sg_X5_init_12 90 (pi_A 93 20 40 (by decide) (by decide) (by decide) (by decide) rfl (by decide) (by decide) (hz 93 (by decide) (by decide)) (fun j => rfl) ⟨rfl, fun r1 e1 => ?_⟩)
  subst e1
  refine sg_X5_init_20 90 (pi_A 91 23 1681 (by decide) (by decide) (by decide) (by decide) rfl (by decide) (by decide) (hz 91 (by decide) (by decide)) (fun j => rfl) ⟨rfl, fun r1 e1 => ?_⟩)
  subst e1
  refine sg_X5_init_29 90 ⟨rfl, ⟨1681, rfl, (show vp_in (nI 0) 1681 from vp_in_nI (by decide) (by decide))⟩, by decide, fun g1 e1 => ?_⟩
  refine lo_38 (g0 := g) rfl rfl rfl (fun g' f' t' => hk g' f' t') 40 1 g1 (by decide) (by decide) (fun a ha => by rw [e1]; funext j; exact pv_up_a ha) ⟨fun n k' hn hk' => ?_, fun k' q => absurd q (by omega), fun j hj => ?_⟩
  · rw [show n = 0 by omega, e1]
    cases k' with
    | zero => exact pv_up_same _ _ _ _
    | succ k' => refine (pv_up_j (by show 41 * 0 + (k' + 1) ≠ 0; omega)).trans ?_; rw [cW_gt _ _ (by omega)]; exact (hz 91 (by decide) (by decide)).2 _
  · rw [e1]; refine (pv_up_j (by show j ≠ 0; omega)).trans ((hz 91 (by decide) (by decide)).2 _)
theorem ct_X11_init {Γ : pv_C} {d L : Nat} {h : pv_H} {g : pv_G} {k : pv_Q} (hd : 3 ≤ d) (hz : ∀ a, 10 ≤ a → iz h g a) (hk : ∀ h' g', (∀ a, a ≠ 67 → h' a = h a) → (∀ j, j < 8 → h' 67 j = -1) → (∀ a, a ≠ 91 → g' a = g a) → wy_ok g' → k none (tyX (iT L) [(91, 23, 1681), (93, 20, 40), (92, 20, 40), (90, 5, 0), (121, 27, 200), (82, 21, 0), (81, 20, 6), (80, 9, 0), (72, 26, 20), (71, 21, 160), (70, 1, 0), (117, 25, 60), (67, 20, 8), (66, 20, 6), (65, 20, 6), (64, 20, 3), (63, 20, 18), (62, 20, 18), (61, 20, 6), (60, 7, 0), (54, 20, 10), (53, 20, 10), (52, 20, 610), (51, 20, 10), (50, 10, 0), (43, 20, 9), (42, 20, 9), (41, 20, 900), (40, 4, 0), (32, 20, 144), (31, 20, 144), (30, 2, 0), (110, 24, 8), (100, 11, 0)]) h' (rX iR [(100, 13, 90), (90, 0, 91), (90, 2, 93), (90, 1, 92), (100, 11, 121), (100, 10, 70), (70, 2, 80), (80, 4, 2), (80, 1, 82), (80, 0, 81), (70, 1, 72), (70, 0, 71), (100, 7, 117), (100, 6, 60), (60, 6, 67), (60, 5, 66), (60, 4, 65), (60, 3, 64), (60, 2, 63), (60, 1, 62), (60, 0, 61), (100, 4, 50), (50, 3, 54), (50, 2, 53), (50, 1, 52), (50, 0, 51), (100, 3, 40), (40, 2, 43), (40, 1, 42), (40, 0, 41), (100, 2, 30), (30, 1, 32), (30, 0, 31), (100, 0, 110)]) g') : pv_CT Γ d 33 4169 mX11_init [.ref 100] (tyX (iT L) [(100, 11, 0)]) h (rX iR []) g k := by
  refine pv_fn 0 pn_X11 rfl (Nat.le_of_ble_eq_true rfl) (sg_X11_init_0 100 (by omega) ⟨by decide, ?_⟩)
  refine sg_X11_init_4 100 (pi_A 110 24 8 (by decide) (by decide) (by decide) (by decide) rfl (by decide) (by decide) (hz 110 (by decide)) (fun j => rfl) ⟨rfl, fun r1 e1 => ?_⟩)
  subst e1
  refine sg_X11_init_13 100 (by omega) (pi_O 30 2 2 (by decide) rfl (by decide) (by decide) (hz 30 (by decide)) (fun j => rfl) ⟨rfl, by decide, by decide, ?_⟩)
  refine ct_X2_init (by omega) hz ⟨rfl, rfl, fun r1 e1 => ?_⟩
  subst e1
  refine sg_X11_init_24 100 (by omega) (pi_O 40 4 9 (by decide) rfl (by decide) (by decide) (hz 40 (by decide)) (fun j => rfl) ⟨rfl, by decide, by decide, ?_⟩)
  refine ct_X4_init (by omega) hz ⟨rfl, rfl, fun r1 e1 => ?_⟩
  subst e1
  refine sg_X11_init_35 100 (by omega) (pi_O 50 10 5 (by decide) rfl (by decide) (by decide) (hz 50 (by decide)) (fun j => rfl) ⟨rfl, by decide, by decide, ?_⟩)
  refine ct_X10_init (by omega) hz ⟨rfl, rfl, fun r1 e1 => ?_⟩
  subst e1
  refine sg_X11_init_46 100 (by omega) (pi_O 60 7 11 (by decide) rfl (by decide) (by decide) (hz 60 (by decide)) (fun j => rfl) ⟨rfl, by decide, by decide, ?_⟩)
  refine ct_X7_init (by omega) hz (fun h2 f2 t2 => ⟨rfl, rfl, fun r1 e1 => ?_⟩)
  subst e1
  have hz : ∀ a, 10 ≤ a → a ≠ 67 → iz h2 g a := fun a h1 h3 => ⟨fun j => by rw [f2 a h3]; exact (hz a h1).1 j, (hz a h1).2⟩
  refine sg_X11_init_57 100 (pi_A 117 25 60 (by decide) (by decide) (by decide) (by decide) rfl (by decide) (by decide) (hz 117 (by decide) (by decide)) (fun j => rfl) ⟨rfl, fun r1 e1 => ?_⟩)
  subst e1
  refine sg_X11_init_66 100 (by omega) (pi_O 70 1 5 (by decide) rfl (by decide) (by decide) (hz 70 (by decide) (by decide)) (fun j => rfl) ⟨rfl, by decide, by decide, ?_⟩)
  refine ct_X1_init (by omega) hz ⟨rfl, rfl, fun r1 e1 => ?_⟩
  subst e1
  refine sg_X11_init_77 100 (pi_A 121 27 200 (by decide) (by decide) (by decide) (by decide) rfl (by decide) (by decide) (hz 121 (by decide) (by decide)) (fun j => rfl) ⟨rfl, fun r1 e1 => ?_⟩)
  subst e1
  refine sg_X11_init_87 100 (by omega) (pi_O 90 5 4 (by decide) rfl (by decide) (by decide) (hz 90 (by decide) (by decide)) (fun j => rfl) ⟨rfl, by decide, by decide, ?_⟩)
  refine ct_X5_init (by omega) hz (fun g2 f3 t3 => ⟨rfl, rfl, fun r1 e1 => ?_⟩)
  subst e1
  exact hk h2 g2 f2 t2 f3 t3
theorem ct_X12_init {Γ : pv_C} {d L : Nat} {h : pv_H} {g : pv_G} {k : pv_Q} (hd : 1 ≤ d) (hz : ∀ a, 10 ≤ a → a ≠ 67 → a ≠ 91 → a ≠ 200 → iz h g a) (hk : k none (tyX (iT L) [(365, 23, 1681), (364, 22, 40), (363, 20, 40), (361, 20, 200), (360, 20, 200), (359, 20, 200), (358, 20, 200), (357, 20, 200), (356, 20, 200), (353, 20, 170), (352, 20, 128), (348, 20, 170), (347, 20, 3400), (346, 20, 3400), (345, 20, 20), (344, 20, 20), (343, 20, 20), (342, 20, 20), (339, 21, 160), (338, 20, 60), (337, 20, 60), (336, 20, 60), (335, 20, 60), (334, 20, 60), (331, 20, 3), (330, 20, 3), (329, 20, 8), (328, 20, 8), (325, 20, 8), (324, 20, 8), (323, 20, 8), (322, 20, 8), (321, 20, 248), (320, 22, 248), (318, 20, 610), (317, 20, 10), (315, 20, 10), (314, 20, 10), (313, 20, 900), (312, 20, 9), (311, 20, 9), (306, 20, 256), (305, 22, 1152), (304, 20, 1152), (303, 20, 8), (302, 20, 8), (200, 12, 0), (91, 23, 1681), (93, 20, 40), (92, 20, 40), (90, 5, 0), (121, 27, 200), (82, 21, 0), (81, 20, 6), (80, 9, 0), (72, 26, 20), (71, 21, 160), (70, 1, 0), (117, 25, 60), (67, 20, 8), (66, 20, 6), (65, 20, 6), (64, 20, 3), (63, 20, 18), (62, 20, 18), (61, 20, 6), (60, 7, 0), (54, 20, 10), (53, 20, 10), (52, 20, 610), (51, 20, 10), (50, 10, 0), (43, 20, 9), (42, 20, 9), (41, 20, 900), (40, 4, 0), (32, 20, 144), (31, 20, 144), (30, 2, 0), (110, 24, 8), (100, 11, 0)]) (pv_up (pv_up h 200 7 (-1)) 200 8 (-1)) (rX iR [(200, 65, 365), (200, 64, 364), (200, 63, 363), (200, 61, 361), (200, 60, 360), (200, 59, 359), (200, 58, 358), (200, 57, 357), (200, 56, 356), (200, 53, 353), (200, 52, 352), (200, 48, 348), (200, 47, 347), (200, 46, 346), (200, 45, 345), (200, 44, 344), (200, 43, 343), (200, 42, 342), (200, 39, 339), (200, 38, 338), (200, 37, 337), (200, 36, 336), (200, 35, 335), (200, 34, 334), (200, 31, 331), (200, 30, 330), (200, 29, 329), (200, 28, 328), (200, 25, 325), (200, 24, 324), (200, 23, 323), (200, 22, 322), (200, 21, 321), (200, 20, 320), (200, 18, 318), (200, 17, 317), (200, 15, 315), (200, 14, 314), (200, 13, 313), (200, 12, 312), (200, 11, 311), (200, 6, 306), (200, 5, 305), (200, 4, 304), (200, 3, 303), (200, 2, 302), (100, 13, 90), (90, 0, 91), (90, 2, 93), (90, 1, 92), (100, 11, 121), (100, 10, 70), (70, 2, 80), (80, 4, 2), (80, 1, 82), (80, 0, 81), (70, 1, 72), (70, 0, 71), (100, 7, 117), (100, 6, 60), (60, 6, 67), (60, 5, 66), (60, 4, 65), (60, 3, 64), (60, 2, 63), (60, 1, 62), (60, 0, 61), (100, 4, 50), (50, 3, 54), (50, 2, 53), (50, 1, 52), (50, 0, 51), (100, 3, 40), (40, 2, 43), (40, 1, 42), (40, 0, 41), (100, 2, 30), (30, 1, 32), (30, 0, 31), (100, 0, 110)]) g) : pv_CT Γ d 46 15453 mX12_init [.ref 200] (tyX (iT L) [(200, 12, 0), (91, 23, 1681), (93, 20, 40), (92, 20, 40), (90, 5, 0), (121, 27, 200), (82, 21, 0), (81, 20, 6), (80, 9, 0), (72, 26, 20), (71, 21, 160), (70, 1, 0), (117, 25, 60), (67, 20, 8), (66, 20, 6), (65, 20, 6), (64, 20, 3), (63, 20, 18), (62, 20, 18), (61, 20, 6), (60, 7, 0), (54, 20, 10), (53, 20, 10), (52, 20, 610), (51, 20, 10), (50, 10, 0), (43, 20, 9), (42, 20, 9), (41, 20, 900), (40, 4, 0), (32, 20, 144), (31, 20, 144), (30, 2, 0), (110, 24, 8), (100, 11, 0)]) h (rX iR [(100, 13, 90), (90, 0, 91), (90, 2, 93), (90, 1, 92), (100, 11, 121), (100, 10, 70), (70, 2, 80), (80, 4, 2), (80, 1, 82), (80, 0, 81), (70, 1, 72), (70, 0, 71), (100, 7, 117), (100, 6, 60), (60, 6, 67), (60, 5, 66), (60, 4, 65), (60, 3, 64), (60, 2, 63), (60, 1, 62), (60, 0, 61), (100, 4, 50), (50, 3, 54), (50, 2, 53), (50, 1, 52), (50, 0, 51), (100, 3, 40), (40, 2, 43), (40, 1, 42), (40, 0, 41), (100, 2, 30), (30, 1, 32), (30, 0, 31), (100, 0, 110)]) g k := by
  refine pv_fn 0 pn_X12 rfl (Nat.le_of_ble_eq_true rfl) (sg_X12_init_0 200 (by omega) ⟨by decide, ?_⟩)
  refine sg_X12_init_4 200 (pi_A 302 20 8 (by decide) (by decide) (by decide) (by decide) rfl (by decide) (by decide) (hz 302 (by decide) (by decide) (by decide) (by decide)) (fun j => rfl) ⟨rfl, fun r1 e1 => ?_⟩)
  subst e1
  refine sg_X12_init_12 200 (pi_A 303 20 8 (by decide) (by decide) (by decide) (by decide) rfl (by decide) (by decide) (hz 303 (by decide) (by decide) (by decide) (by decide)) (fun j => rfl) ⟨rfl, fun r1 e1 => ?_⟩)
  subst e1
  refine sg_X12_init_20 200 (pi_A 304 20 1152 (by decide) (by decide) (by decide) (by decide) rfl (by decide) (by decide) (hz 304 (by decide) (by decide) (by decide) (by decide)) (fun j => rfl) ⟨rfl, fun r1 e1 => ?_⟩)
  subst e1
  refine sg_X12_init_29 200 (pi_A 305 22 1152 (by decide) (by decide) (by decide) (by decide) rfl (by decide) (by decide) (hz 305 (by decide) (by decide) (by decide) (by decide)) (fun j => rfl) ⟨rfl, fun r1 e1 => ?_⟩)
  subst e1
  refine sg_X12_init_38 200 (pi_A 306 20 256 (by decide) (by decide) (by decide) (by decide) rfl (by decide) (by decide) (hz 306 (by decide) (by decide) (by decide) (by decide)) (fun j => rfl) ⟨rfl, fun r1 e1 => ?_⟩)
  subst e1
  refine sg_X12_init_47 200 ⟨rfl, fun h1 e1 => ?_⟩
  have hz : ∀ a, 10 ≤ a → a ≠ 67 → a ≠ 91 → a ≠ 200 → iz h1 g a := fun a a1 a2 a3 a4 => ⟨fun j => by rw [e1, pv_up_a a4]; exact (hz a a1 a2 a3 a4).1 j, (hz a a1 a2 a3 a4).2⟩
  rw [← e1] at hk
  refine sg_X12_init_52 200 ⟨rfl, fun h1 e1 => ?_⟩
  have hz : ∀ a, 10 ≤ a → a ≠ 67 → a ≠ 91 → a ≠ 200 → iz h1 g a := fun a a1 a2 a3 a4 => ⟨fun j => by rw [e1, pv_up_a a4]; exact (hz a a1 a2 a3 a4).1 j, (hz a a1 a2 a3 a4).2⟩
  rw [← e1] at hk
  refine sg_X12_init_57 200 (pi_A 311 20 9 (by decide) (by decide) (by decide) (by decide) rfl (by decide) (by decide) (hz 311 (by decide) (by decide) (by decide) (by decide)) (fun j => rfl) ⟨rfl, fun r1 e1 => ?_⟩)
  subst e1
  refine sg_X12_init_65 200 (pi_A 312 20 9 (by decide) (by decide) (by decide) (by decide) rfl (by decide) (by decide) (hz 312 (by decide) (by decide) (by decide) (by decide)) (fun j => rfl) ⟨rfl, fun r1 e1 => ?_⟩)
  subst e1
  refine sg_X12_init_73 200 (pi_A 313 20 900 (by decide) (by decide) (by decide) (by decide) rfl (by decide) (by decide) (hz 313 (by decide) (by decide) (by decide) (by decide)) (fun j => rfl) ⟨rfl, fun r1 e1 => ?_⟩)
  subst e1
  refine sg_X12_init_82 200 (pi_A 314 20 10 (by decide) (by decide) (by decide) (by decide) rfl (by decide) (by decide) (hz 314 (by decide) (by decide) (by decide) (by decide)) (fun j => rfl) ⟨rfl, fun r1 e1 => ?_⟩)
  subst e1
  refine sg_X12_init_90 200 (pi_A 315 20 10 (by decide) (by decide) (by decide) (by decide) rfl (by decide) (by decide) (hz 315 (by decide) (by decide) (by decide) (by decide)) (fun j => rfl) ⟨rfl, fun r1 e1 => ?_⟩)
  subst e1
  refine sg_X12_init_98 200 (pi_A 317 20 10 (by decide) (by decide) (by decide) (by decide) rfl (by decide) (by decide) (hz 317 (by decide) (by decide) (by decide) (by decide)) (fun j => rfl) ⟨rfl, fun r1 e1 => ?_⟩)
  subst e1
  refine sg_X12_init_106 200 (pi_A 318 20 610 (by decide) (by decide) (by decide) (by decide) rfl (by decide) (by decide) (hz 318 (by decide) (by decide) (by decide) (by decide)) (fun j => rfl) ⟨rfl, fun r1 e1 => ?_⟩)
  subst e1
  refine sg_X12_init_115 200 (pi_A 320 22 248 (by decide) (by decide) (by decide) (by decide) rfl (by decide) (by decide) (hz 320 (by decide) (by decide) (by decide) (by decide)) (fun j => rfl) ⟨rfl, fun r1 e1 => ?_⟩)
  subst e1
  refine sg_X12_init_124 200 (pi_A 321 20 248 (by decide) (by decide) (by decide) (by decide) rfl (by decide) (by decide) (hz 321 (by decide) (by decide) (by decide) (by decide)) (fun j => rfl) ⟨rfl, fun r1 e1 => ?_⟩)
  subst e1
  refine sg_X12_init_133 200 (pi_A 322 20 8 (by decide) (by decide) (by decide) (by decide) rfl (by decide) (by decide) (hz 322 (by decide) (by decide) (by decide) (by decide)) (fun j => rfl) ⟨rfl, fun r1 e1 => ?_⟩)
  subst e1
  refine sg_X12_init_141 200 (pi_A 323 20 8 (by decide) (by decide) (by decide) (by decide) rfl (by decide) (by decide) (hz 323 (by decide) (by decide) (by decide) (by decide)) (fun j => rfl) ⟨rfl, fun r1 e1 => ?_⟩)
  subst e1
  refine sg_X12_init_149 200 (pi_A 324 20 8 (by decide) (by decide) (by decide) (by decide) rfl (by decide) (by decide) (hz 324 (by decide) (by decide) (by decide) (by decide)) (fun j => rfl) ⟨rfl, fun r1 e1 => ?_⟩)
  subst e1
  refine sg_X12_init_157 200 (pi_A 325 20 8 (by decide) (by decide) (by decide) (by decide) rfl (by decide) (by decide) (hz 325 (by decide) (by decide) (by decide) (by decide)) (fun j => rfl) ⟨rfl, fun r1 e1 => ?_⟩)
  subst e1
  refine sg_X12_init_165 200 (pi_A 328 20 8 (by decide) (by decide) (by decide) (by decide) rfl (by decide) (by decide) (hz 328 (by decide) (by decide) (by decide) (by decide)) (fun j => rfl) ⟨rfl, fun r1 e1 => ?_⟩)
  subst e1
  refine sg_X12_init_173 200 (pi_A 329 20 8 (by decide) (by decide) (by decide) (by decide) rfl (by decide) (by decide) (hz 329 (by decide) (by decide) (by decide) (by decide)) (fun j => rfl) ⟨rfl, fun r1 e1 => ?_⟩)
  subst e1
  refine sg_X12_init_181 200 (pi_A 330 20 3 (by decide) (by decide) (by decide) (by decide) rfl (by decide) (by decide) (hz 330 (by decide) (by decide) (by decide) (by decide)) (fun j => rfl) ⟨rfl, fun r1 e1 => ?_⟩)
  subst e1
  refine sg_X12_init_188 200 (pi_A 331 20 3 (by decide) (by decide) (by decide) (by decide) rfl (by decide) (by decide) (hz 331 (by decide) (by decide) (by decide) (by decide)) (fun j => rfl) ⟨rfl, fun r1 e1 => ?_⟩)
  subst e1
  refine sg_X12_init_195 200 (pi_A 334 20 60 (by decide) (by decide) (by decide) (by decide) rfl (by decide) (by decide) (hz 334 (by decide) (by decide) (by decide) (by decide)) (fun j => rfl) ⟨rfl, fun r1 e1 => ?_⟩)
  subst e1
  refine sg_X12_init_203 200 (pi_A 335 20 60 (by decide) (by decide) (by decide) (by decide) rfl (by decide) (by decide) (hz 335 (by decide) (by decide) (by decide) (by decide)) (fun j => rfl) ⟨rfl, fun r1 e1 => ?_⟩)
  subst e1
  refine sg_X12_init_211 200 (pi_A 336 20 60 (by decide) (by decide) (by decide) (by decide) rfl (by decide) (by decide) (hz 336 (by decide) (by decide) (by decide) (by decide)) (fun j => rfl) ⟨rfl, fun r1 e1 => ?_⟩)
  subst e1
  refine sg_X12_init_219 200 (pi_A 337 20 60 (by decide) (by decide) (by decide) (by decide) rfl (by decide) (by decide) (hz 337 (by decide) (by decide) (by decide) (by decide)) (fun j => rfl) ⟨rfl, fun r1 e1 => ?_⟩)
  subst e1
  refine sg_X12_init_227 200 (pi_A 338 20 60 (by decide) (by decide) (by decide) (by decide) rfl (by decide) (by decide) (hz 338 (by decide) (by decide) (by decide) (by decide)) (fun j => rfl) ⟨rfl, fun r1 e1 => ?_⟩)
  subst e1
  refine sg_X12_init_235 200 (pi_A 339 21 160 (by decide) (by decide) (by decide) (by decide) rfl (by decide) (by decide) (hz 339 (by decide) (by decide) (by decide) (by decide)) (fun j => rfl) ⟨rfl, fun r1 e1 => ?_⟩)
  subst e1
  refine sg_X12_init_244 200 (pi_A 342 20 20 (by decide) (by decide) (by decide) (by decide) rfl (by decide) (by decide) (hz 342 (by decide) (by decide) (by decide) (by decide)) (fun j => rfl) ⟨rfl, fun r1 e1 => ?_⟩)
  subst e1
  refine sg_X12_init_252 200 (pi_A 343 20 20 (by decide) (by decide) (by decide) (by decide) rfl (by decide) (by decide) (hz 343 (by decide) (by decide) (by decide) (by decide)) (fun j => rfl) ⟨rfl, fun r1 e1 => ?_⟩)
  subst e1
  refine sg_X12_init_260 200 (pi_A 344 20 20 (by decide) (by decide) (by decide) (by decide) rfl (by decide) (by decide) (hz 344 (by decide) (by decide) (by decide) (by decide)) (fun j => rfl) ⟨rfl, fun r1 e1 => ?_⟩)
  subst e1
  refine sg_X12_init_268 200 (pi_A 345 20 20 (by decide) (by decide) (by decide) (by decide) rfl (by decide) (by decide) (hz 345 (by decide) (by decide) (by decide) (by decide)) (fun j => rfl) ⟨rfl, fun r1 e1 => ?_⟩)
  subst e1
  refine sg_X12_init_276 200 (pi_A 346 20 3400 (by decide) (by decide) (by decide) (by decide) rfl (by decide) (by decide) (hz 346 (by decide) (by decide) (by decide) (by decide)) (fun j => rfl) ⟨rfl, fun r1 e1 => ?_⟩)
  subst e1
  refine sg_X12_init_285 200 (pi_A 347 20 3400 (by decide) (by decide) (by decide) (by decide) rfl (by decide) (by decide) (hz 347 (by decide) (by decide) (by decide) (by decide)) (fun j => rfl) ⟨rfl, fun r1 e1 => ?_⟩)
  subst e1
  refine sg_X12_init_294 200 (pi_A 348 20 170 (by decide) (by decide) (by decide) (by decide) rfl (by decide) (by decide) (hz 348 (by decide) (by decide) (by decide) (by decide)) (fun j => rfl) ⟨rfl, fun r1 e1 => ?_⟩)
  subst e1
  refine sg_X12_init_303 200 (pi_A 352 20 128 (by decide) (by decide) (by decide) (by decide) rfl (by decide) (by decide) (hz 352 (by decide) (by decide) (by decide) (by decide)) (fun j => rfl) ⟨rfl, fun r1 e1 => ?_⟩)
  subst e1
  refine sg_X12_init_312 200 (pi_A 353 20 170 (by decide) (by decide) (by decide) (by decide) rfl (by decide) (by decide) (hz 353 (by decide) (by decide) (by decide) (by decide)) (fun j => rfl) ⟨rfl, fun r1 e1 => ?_⟩)
  subst e1
  refine sg_X12_init_321 200 (pi_A 356 20 200 (by decide) (by decide) (by decide) (by decide) rfl (by decide) (by decide) (hz 356 (by decide) (by decide) (by decide) (by decide)) (fun j => rfl) ⟨rfl, fun r1 e1 => ?_⟩)
  subst e1
  refine sg_X12_init_330 200 (pi_A 357 20 200 (by decide) (by decide) (by decide) (by decide) rfl (by decide) (by decide) (hz 357 (by decide) (by decide) (by decide) (by decide)) (fun j => rfl) ⟨rfl, fun r1 e1 => ?_⟩)
  subst e1
  refine sg_X12_init_339 200 (pi_A 358 20 200 (by decide) (by decide) (by decide) (by decide) rfl (by decide) (by decide) (hz 358 (by decide) (by decide) (by decide) (by decide)) (fun j => rfl) ⟨rfl, fun r1 e1 => ?_⟩)
  subst e1
  refine sg_X12_init_348 200 (pi_A 359 20 200 (by decide) (by decide) (by decide) (by decide) rfl (by decide) (by decide) (hz 359 (by decide) (by decide) (by decide) (by decide)) (fun j => rfl) ⟨rfl, fun r1 e1 => ?_⟩)
  subst e1
  refine sg_X12_init_357 200 (pi_A 360 20 200 (by decide) (by decide) (by decide) (by decide) rfl (by decide) (by decide) (hz 360 (by decide) (by decide) (by decide) (by decide)) (fun j => rfl) ⟨rfl, fun r1 e1 => ?_⟩)
  subst e1
  refine sg_X12_init_366 200 (pi_A 361 20 200 (by decide) (by decide) (by decide) (by decide) rfl (by decide) (by decide) (hz 361 (by decide) (by decide) (by decide) (by decide)) (fun j => rfl) ⟨rfl, fun r1 e1 => ?_⟩)
  subst e1
  refine sg_X12_init_375 200 (pi_A 363 20 40 (by decide) (by decide) (by decide) (by decide) rfl (by decide) (by decide) (hz 363 (by decide) (by decide) (by decide) (by decide)) (fun j => rfl) ⟨rfl, fun r1 e1 => ?_⟩)
  subst e1
  refine sg_X12_init_383 200 (pi_A 364 22 40 (by decide) (by decide) (by decide) (by decide) rfl (by decide) (by decide) (hz 364 (by decide) (by decide) (by decide) (by decide)) (fun j => rfl) ⟨rfl, fun r1 e1 => ?_⟩)
  subst e1
  refine sg_X12_init_391 200 (pi_A 365 23 1681 (by decide) (by decide) (by decide) (by decide) rfl (by decide) (by decide) (hz 365 (by decide) (by decide) (by decide) (by decide)) (fun j => rfl) ⟨rfl, fun r1 e1 => ?_⟩)
  subst e1
  exact hk
/-- all cells made, all references set -/
def iLT : List (Nat × Nat × Nat) := [(365, 23, 1681), (364, 22, 40), (363, 20, 40), (361, 20, 200), (360, 20, 200), (359, 20, 200), (358, 20, 200), (357, 20, 200), (356, 20, 200), (353, 20, 170), (352, 20, 128), (348, 20, 170), (347, 20, 3400), (346, 20, 3400), (345, 20, 20), (344, 20, 20), (343, 20, 20), (342, 20, 20), (339, 21, 160), (338, 20, 60), (337, 20, 60), (336, 20, 60), (335, 20, 60), (334, 20, 60), (331, 20, 3), (330, 20, 3), (329, 20, 8), (328, 20, 8), (325, 20, 8), (324, 20, 8), (323, 20, 8), (322, 20, 8), (321, 20, 248), (320, 22, 248), (318, 20, 610), (317, 20, 10), (315, 20, 10), (314, 20, 10), (313, 20, 900), (312, 20, 9), (311, 20, 9), (306, 20, 256), (305, 22, 1152), (304, 20, 1152), (303, 20, 8), (302, 20, 8), (200, 12, 0), (91, 23, 1681), (93, 20, 40), (92, 20, 40), (90, 5, 0), (121, 27, 200), (82, 21, 0), (81, 20, 6), (80, 9, 0), (72, 26, 20), (71, 21, 160), (70, 1, 0), (117, 25, 60), (67, 20, 8), (66, 20, 6), (65, 20, 6), (64, 20, 3), (63, 20, 18), (62, 20, 18), (61, 20, 6), (60, 7, 0), (54, 20, 10), (53, 20, 10), (52, 20, 610), (51, 20, 10), (50, 10, 0), (43, 20, 9), (42, 20, 9), (41, 20, 900), (40, 4, 0), (32, 20, 144), (31, 20, 144), (30, 2, 0), (110, 24, 8), (100, 11, 0)]
def iLR : List (Nat × Nat × Nat) := [(200, 65, 365), (200, 64, 364), (200, 63, 363), (200, 61, 361), (200, 60, 360), (200, 59, 359), (200, 58, 358), (200, 57, 357), (200, 56, 356), (200, 53, 353), (200, 52, 352), (200, 48, 348), (200, 47, 347), (200, 46, 346), (200, 45, 345), (200, 44, 344), (200, 43, 343), (200, 42, 342), (200, 39, 339), (200, 38, 338), (200, 37, 337), (200, 36, 336), (200, 35, 335), (200, 34, 334), (200, 31, 331), (200, 30, 330), (200, 29, 329), (200, 28, 328), (200, 25, 325), (200, 24, 324), (200, 23, 323), (200, 22, 322), (200, 21, 321), (200, 20, 320), (200, 18, 318), (200, 17, 317), (200, 15, 315), (200, 14, 314), (200, 13, 313), (200, 12, 312), (200, 11, 311), (200, 6, 306), (200, 5, 305), (200, 4, 304), (200, 3, 303), (200, 2, 302), (100, 13, 90), (90, 0, 91), (90, 2, 93), (90, 1, 92), (100, 11, 121), (100, 10, 70), (70, 2, 80), (80, 4, 2), (80, 1, 82), (80, 0, 81), (70, 1, 72), (70, 0, 71), (100, 7, 117), (100, 6, 60), (60, 6, 67), (60, 5, 66), (60, 4, 65), (60, 3, 64), (60, 2, 63), (60, 1, 62), (60, 0, 61), (100, 4, 50), (50, 3, 54), (50, 2, 53), (50, 1, 52), (50, 0, 51), (100, 3, 40), (40, 2, 43), (40, 1, 42), (40, 0, 41), (100, 2, 30), (30, 1, 32), (30, 0, 31), (100, 0, 110)]
theorem tyX_hi {t : pv_T} {a : Nat} : ∀ {l : List (Nat × Nat × Nat)}, (∀ q ∈ l, q.1 ≠ a) → tyX t l a = t a
  | [], _ => rfl
  | q :: l, h => by
    show pv_newT (tyX t l) q.1 q.2.1 q.2.2 a = _
    rw [pv_newT, if_neg (fun e => h q List.mem_cons_self e.symm)]
    exact tyX_hi (fun x hx => h x (List.mem_cons_of_mem _ hx))
theorem tyX_c {t t' : pv_T} {a : Nat} (e : t a = t' a) : ∀ {l : List (Nat × Nat × Nat)}, tyX t l a = tyX t' l a
  | [] => e
  | q :: l => by
    show pv_newT (tyX t l) q.1 q.2.1 q.2.2 a = pv_newT (tyX t' l) q.1 q.2.1 q.2.2 a
    unfold pv_newT
    rw [tyX_c e]
theorem rX_c {t t' : pv_R} {a j : Nat} (e : t a j = t' a j) : ∀ {l : List (Nat × Nat × Nat)}, rX t l a j = rX t' l a j
  | [] => e
  | q :: l => by
    show pv_up (rX t l) q.1 q.2.1 q.2.2 a j = pv_up (rX t' l) q.1 q.2.1 q.2.2 a j
    unfold pv_up
    rw [rX_c e]
theorem iT_hi {L a : Nat} (h : 10 ≤ a) : iT L a = none := by
  unfold iT
  rw [if_neg (by omega), if_neg (by omega), if_neg (by omega), if_neg (by omega), if_neg (by omega)]
theorem iR_hi {a j : Nat} (h : 10 ≤ a) : iR a j = 0 := by
  unfold iR
  rw [if_neg (by omega), if_neg (by omega)]
theorem iL_T : ∀ q ∈ pv_layT, 10 ≤ q.1 ∧ tyX (fun _ => none) iLT q.1 = some q.2 := by decide +kernel
theorem iL_R : ∀ q ∈ pv_layR, 10 ≤ q.1 ∧ rX (fun _ _ => 0) iLR q.1 q.2.1 = q.2.2 := by decide +kernel
theorem iL_n : ∀ q ∈ iLT, q.1 < 1000 := by decide +kernel
theorem iL_lay (L : Nat) : pv_Lay (tyX (iT L) iLT) (rX iR iLR) := ⟨fun q hq => (tyX_c (t' := fun _ => none) (iT_hi (iL_T q hq).1)).trans (iL_T q hq).2, fun q hq => (rX_c (t' := fun _ _ => 0) (iR_hi (iL_R q hq).1)).trans (iL_R q hq).2⟩
theorem iL_new (L : Nat) {a : Nat} (h : 1000 ≤ a) : tyX (iT L) iLT a = none := (tyX_hi (fun q hq e => by have := iL_n q hq; omega)).trans (iT_hi (by omega))
