section PVR
variable {Γ : pv_C} {d kc ks : Nat} {M : pv_M} {pc : Nat} {ls : List (Option Value)} {st : List Value} {ty : pv_T} {h : pv_H} {r : pv_R} {g : pv_G} {Q : pv_Q}
theorem pv_stk {pc' : Nat} {st' : List Value} (hw : pv_wst ty st → pv_wst ty st')
    (hst : ∀ (p : Program) (e : Env) (R : Room) (s : State) (m : MethodId) (args : Array Value) (below : List Frame) (meth : Method) (c : Code) (H : Heap) (locs : List Loc) (cells slots : Nat) (ρ : Nat → Nat) (lz : Array Slot) (Z : State → Prop), p.tables.exec = Jvm.exec → c.code = M.2.1 →
      W p Γ.1 e R s m args below meth c H locs cells slots Z (F0 m pc' lz (st'.map (pv_cv ρ))) → W p Γ.1 e R s m args below meth c H locs cells slots Z (F0 m pc lz (st.map (pv_cv ρ))))
    (k : pv_E Γ d kc ks M pc' ls st' ty h r g Q) : pv_E Γ d kc ks M pc ls st ty h r g Q := by
  intro p e R s m args below meth c H locs cells slots ρ lz Z hK
  exact hst _ _ _ _ _ _ _ _ _ _ _ _ _ ρ _ _ hK.1.1 hK.1.2.1 (k _ _ _ _ _ _ _ _ _ _ _ _ _ ρ _ _ ⟨hK.1, hK.2.1, hK.2.2.1, hK.2.2.2.1, hw hK.2.2.2.2.1, hK.2.2.2.2.2⟩)
theorem pv_br {pc' pc'' : Nat} {st' : List Value} {P : Prop} (hw : pv_wst ty st → pv_wst ty st')
    (hst : ∀ (p : Program) (e : Env) (R : Room) (s : State) (m : MethodId) (args : Array Value) (below : List Frame) (meth : Method) (c : Code) (H : Heap) (locs : List Loc) (cells slots : Nat) (ρ : Nat → Nat) (lz : Array Slot) (Z : State → Prop), p.tables.exec = Jvm.exec → c.code = M.2.1 →
      (P → W p Γ.1 e R s m args below meth c H locs cells slots Z (F0 m pc' lz (st'.map (pv_cv ρ)))) → (¬ P → W p Γ.1 e R s m args below meth c H locs cells slots Z (F0 m pc'' lz (st'.map (pv_cv ρ)))) → W p Γ.1 e R s m args below meth c H locs cells slots Z (F0 m pc lz (st.map (pv_cv ρ))))
    (kt : P → pv_E Γ d kc ks M pc' ls st' ty h r g Q) (kf : ¬ P → pv_E Γ d kc ks M pc'' ls st' ty h r g Q) : pv_E Γ d kc ks M pc ls st ty h r g Q := by
  intro p e R s m args below meth c H locs cells slots ρ lz Z hK
  have hK' : pv_K Γ d kc ks M ls st' ty h r g Q p e R s m args below meth c H locs cells slots ρ lz Z := ⟨hK.1, hK.2.1, hK.2.2.1, hK.2.2.2.1, hw hK.2.2.2.2.1, hK.2.2.2.2.2⟩
  exact hst _ _ _ _ _ _ _ _ _ _ _ _ _ ρ _ _ hK.1.1 hK.1.2.1 (fun q => kt q _ _ _ _ _ _ _ _ _ _ _ _ _ ρ _ _ hK') (fun q => kf q _ _ _ _ _ _ _ _ _ _ _ _ _ ρ _ _ hK')
theorem pv_iconst {n : Int} {v : Int32} (hv : Int32.ofInt n = v) (hdg : decode M.2.1 pc = .ok (.iconst n, 1)) (k : pv_E Γ d kc ks M (pc + 1) ls (.int v :: st) ty h r g Q) : pv_E Γ d kc ks M pc ls (st) ty h r g Q := pv_stk (fun w => by simp_all [pv_wst_c, pv_wv]) (fun _ _ _ _ _ _ _ _ _ _ _ _ _ _ _ _ hx hb w => lv_iconst hx hb hdg hv w) k
theorem pv_bipush {n : Int} {v : Int32} (hv : (Int8.ofInt n).toInt32 = v) (hdg : decode M.2.1 pc = .ok (.bipush n, 2)) (k : pv_E Γ d kc ks M (pc + 2) ls (.int v :: st) ty h r g Q) : pv_E Γ d kc ks M pc ls (st) ty h r g Q := pv_stk (fun w => by simp_all [pv_wst_c, pv_wv]) (fun _ _ _ _ _ _ _ _ _ _ _ _ _ _ _ _ hx hb w => lv_bipush hx hb hdg hv w) k
theorem pv_sipush {n : Int} {v : Int32} (hv : (Int16.ofInt n).toInt32 = v) (hdg : decode M.2.1 pc = .ok (.sipush n, 3)) (k : pv_E Γ d kc ks M (pc + 3) ls (.int v :: st) ty h r g Q) : pv_E Γ d kc ks M pc ls (st) ty h r g Q := pv_stk (fun w => by simp_all [pv_wst_c, pv_wv]) (fun _ _ _ _ _ _ _ _ _ _ _ _ _ _ _ _ hx hb w => lv_sipush hx hb hdg hv w) k
theorem pv_lconst {n : Fin 2} {v : Int64} (hv : Int64.ofNat (n : Nat) = v) (hdg : decode M.2.1 pc = .ok (.lconst n, 1)) (k : pv_E Γ d kc ks M (pc + 1) ls (.long v :: st) ty h r g Q) : pv_E Γ d kc ks M pc ls (st) ty h r g Q := pv_stk (fun w => by simp_all [pv_wst_c, pv_wv]) (fun _ _ _ _ _ _ _ _ _ _ _ _ _ _ _ _ hx hb w => lv_lconst hx hb hdg hv w) k
theorem pv_null  (hdg : decode M.2.1 pc = .ok (.aconst_null, 1)) (k : pv_E Γ d kc ks M (pc + 1) ls (.ref 0 :: st) ty h r g Q) : pv_E Γ d kc ks M pc ls (st) ty h r g Q := pv_stk (fun w => by simp_all [pv_wst_c, pv_wv]) (fun _ _ _ _ _ _ _ _ _ _ _ _ _ _ _ _ hx hb w => lv_null hx hb hdg w) k
theorem pv_iadd {x y : Int32} (hdg : decode M.2.1 pc = .ok (.iadd, 1)) (k : pv_E Γ d kc ks M (pc + 1) ls (.int (x + y) :: st) ty h r g Q) : pv_E Γ d kc ks M pc ls (.int y :: .int x :: st) ty h r g Q := pv_stk (fun w => by simp_all [pv_wst_c, pv_wv]) (fun _ _ _ _ _ _ _ _ _ _ _ _ _ _ _ _ hx hb w => lv_iadd hx hb hdg w) k
theorem pv_isub {x y : Int32} (hdg : decode M.2.1 pc = .ok (.isub, 1)) (k : pv_E Γ d kc ks M (pc + 1) ls (.int (x - y) :: st) ty h r g Q) : pv_E Γ d kc ks M pc ls (.int y :: .int x :: st) ty h r g Q := pv_stk (fun w => by simp_all [pv_wst_c, pv_wv]) (fun _ _ _ _ _ _ _ _ _ _ _ _ _ _ _ _ hx hb w => lv_isub hx hb hdg w) k
theorem pv_imul {x y : Int32} (hdg : decode M.2.1 pc = .ok (.imul, 1)) (k : pv_E Γ d kc ks M (pc + 1) ls (.int (x * y) :: st) ty h r g Q) : pv_E Γ d kc ks M pc ls (.int y :: .int x :: st) ty h r g Q := pv_stk (fun w => by simp_all [pv_wst_c, pv_wv]) (fun _ _ _ _ _ _ _ _ _ _ _ _ _ _ _ _ hx hb w => lv_imul hx hb hdg w) k
theorem pv_iand {x y : Int32} (hdg : decode M.2.1 pc = .ok (.iand, 1)) (k : pv_E Γ d kc ks M (pc + 1) ls (.int (x &&& y) :: st) ty h r g Q) : pv_E Γ d kc ks M pc ls (.int y :: .int x :: st) ty h r g Q := pv_stk (fun w => by simp_all [pv_wst_c, pv_wv]) (fun _ _ _ _ _ _ _ _ _ _ _ _ _ _ _ _ hx hb w => lv_iand hx hb hdg w) k
theorem pv_ior {x y : Int32} (hdg : decode M.2.1 pc = .ok (.ior, 1)) (k : pv_E Γ d kc ks M (pc + 1) ls (.int (x ||| y) :: st) ty h r g Q) : pv_E Γ d kc ks M pc ls (.int y :: .int x :: st) ty h r g Q := pv_stk (fun w => by simp_all [pv_wst_c, pv_wv]) (fun _ _ _ _ _ _ _ _ _ _ _ _ _ _ _ _ hx hb w => lv_ior hx hb hdg w) k
theorem pv_ixor {x y : Int32} (hdg : decode M.2.1 pc = .ok (.ixor, 1)) (k : pv_E Γ d kc ks M (pc + 1) ls (.int (x ^^^ y) :: st) ty h r g Q) : pv_E Γ d kc ks M pc ls (.int y :: .int x :: st) ty h r g Q := pv_stk (fun w => by simp_all [pv_wst_c, pv_wv]) (fun _ _ _ _ _ _ _ _ _ _ _ _ _ _ _ _ hx hb w => lv_ixor hx hb hdg w) k
theorem pv_ishl {x y : Int32} (hdg : decode M.2.1 pc = .ok (.ishl, 1)) (k : pv_E Γ d kc ks M (pc + 1) ls (.int (x <<< (y &&& 31)) :: st) ty h r g Q) : pv_E Γ d kc ks M pc ls (.int y :: .int x :: st) ty h r g Q := pv_stk (fun w => by simp_all [pv_wst_c, pv_wv]) (fun _ _ _ _ _ _ _ _ _ _ _ _ _ _ _ _ hx hb w => lv_ishl hx hb hdg w) k
theorem pv_ishr {x y : Int32} (hdg : decode M.2.1 pc = .ok (.ishr, 1)) (k : pv_E Γ d kc ks M (pc + 1) ls (.int (x >>> (y &&& 31)) :: st) ty h r g Q) : pv_E Γ d kc ks M pc ls (.int y :: .int x :: st) ty h r g Q := pv_stk (fun w => by simp_all [pv_wst_c, pv_wv]) (fun _ _ _ _ _ _ _ _ _ _ _ _ _ _ _ _ hx hb w => lv_ishr hx hb hdg w) k
theorem pv_idiv {x y : Int32} (hne : ¬ y = 0) (hdg : decode M.2.1 pc = .ok (.idiv, 1)) (k : pv_E Γ d kc ks M (pc + 1) ls (.int (x / y) :: st) ty h r g Q) : pv_E Γ d kc ks M pc ls (.int y :: .int x :: st) ty h r g Q := pv_stk (fun w => by simp_all [pv_wst_c, pv_wv]) (fun _ _ _ _ _ _ _ _ _ _ _ _ _ _ _ _ hx hb w => lv_idiv hx hb hdg hne w) k
theorem pv_irem {x y : Int32} (hne : ¬ y = 0) (hdg : decode M.2.1 pc = .ok (.irem, 1)) (k : pv_E Γ d kc ks M (pc + 1) ls (.int (x - x / y * y) :: st) ty h r g Q) : pv_E Γ d kc ks M pc ls (.int y :: .int x :: st) ty h r g Q := pv_stk (fun w => by simp_all [pv_wst_c, pv_wv]) (fun _ _ _ _ _ _ _ _ _ _ _ _ _ _ _ _ hx hb w => lv_irem hx hb hdg hne w) k
theorem pv_ineg {x : Int32} (hdg : decode M.2.1 pc = .ok (.ineg, 1)) (k : pv_E Γ d kc ks M (pc + 1) ls (.int (-x) :: st) ty h r g Q) : pv_E Γ d kc ks M pc ls (.int x :: st) ty h r g Q := pv_stk (fun w => by simp_all [pv_wst_c, pv_wv]) (fun _ _ _ _ _ _ _ _ _ _ _ _ _ _ _ _ hx hb w => lv_ineg hx hb hdg w) k
theorem pv_iushr {x y : Int32} (hdg : decode M.2.1 pc = .ok (.iushr, 1)) (k : pv_E Γ d kc ks M (pc + 1) ls (.int ((x.toUInt32 >>> (y.toUInt32 &&& Int32.toUInt32 31)).toInt32) :: st) ty h r g Q) : pv_E Γ d kc ks M pc ls (.int y :: .int x :: st) ty h r g Q := pv_stk (fun w => by simp_all [pv_wst_c, pv_wv]) (fun _ _ _ _ _ _ _ _ _ _ _ _ _ _ _ _ hx hb w => lv_iushr hx hb hdg rfl w) k
theorem pv_ladd {x y : Int64} (hdg : decode M.2.1 pc = .ok (.ladd, 1)) (k : pv_E Γ d kc ks M (pc + 1) ls (.long (x + y) :: st) ty h r g Q) : pv_E Γ d kc ks M pc ls (.long y :: .long x :: st) ty h r g Q := pv_stk (fun w => by simp_all [pv_wst_c, pv_wv]) (fun _ _ _ _ _ _ _ _ _ _ _ _ _ _ _ _ hx hb w => lv_ladd hx hb hdg w) k
theorem pv_lsub {x y : Int64} (hdg : decode M.2.1 pc = .ok (.lsub, 1)) (k : pv_E Γ d kc ks M (pc + 1) ls (.long (x - y) :: st) ty h r g Q) : pv_E Γ d kc ks M pc ls (.long y :: .long x :: st) ty h r g Q := pv_stk (fun w => by simp_all [pv_wst_c, pv_wv]) (fun _ _ _ _ _ _ _ _ _ _ _ _ _ _ _ _ hx hb w => lv_lsub hx hb hdg w) k
theorem pv_lmul {x y : Int64} (hdg : decode M.2.1 pc = .ok (.lmul, 1)) (k : pv_E Γ d kc ks M (pc + 1) ls (.long (x * y) :: st) ty h r g Q) : pv_E Γ d kc ks M pc ls (.long y :: .long x :: st) ty h r g Q := pv_stk (fun w => by simp_all [pv_wst_c, pv_wv]) (fun _ _ _ _ _ _ _ _ _ _ _ _ _ _ _ _ hx hb w => lv_lmul hx hb hdg w) k
theorem pv_lcmp {x y : Int64} (hdg : decode M.2.1 pc = .ok (.lcmp, 1)) (k : pv_E Γ d kc ks M (pc + 1) ls (.int (lg_cmp x y) :: st) ty h r g Q) : pv_E Γ d kc ks M pc ls (.long y :: .long x :: st) ty h r g Q := pv_stk (fun w => by simp_all [pv_wst_c, pv_wv]) (fun _ _ _ _ _ _ _ _ _ _ _ _ _ _ _ _ hx hb w => W.lcmp hx hb hdg w) k
theorem pv_i2l {x : Int32} (hdg : decode M.2.1 pc = .ok (.i2l, 1)) (k : pv_E Γ d kc ks M (pc + 1) ls (.long x.toInt64 :: st) ty h r g Q) : pv_E Γ d kc ks M pc ls (.int x :: st) ty h r g Q := pv_stk (fun w => by simp_all [pv_wst_c, pv_wv]) (fun _ _ _ _ _ _ _ _ _ _ _ _ _ _ _ _ hx hb w => lv_i2l hx hb hdg rfl w) k
theorem pv_i2b {x : Int32} (hdg : decode M.2.1 pc = .ok (.i2b, 1)) (k : pv_E Γ d kc ks M (pc + 1) ls (.int x.toInt8.toInt32 :: st) ty h r g Q) : pv_E Γ d kc ks M pc ls (.int x :: st) ty h r g Q := pv_stk (fun w => by simp_all [pv_wst_c, pv_wv]) (fun _ _ _ _ _ _ _ _ _ _ _ _ _ _ _ _ hx hb w => lv_i2b hx hb hdg rfl w) k
theorem pv_i2c {x : Int32} (hdg : decode M.2.1 pc = .ok (.i2c, 1)) (k : pv_E Γ d kc ks M (pc + 1) ls (.int (x.toUInt32 % 65536).toInt32 :: st) ty h r g Q) : pv_E Γ d kc ks M pc ls (.int x :: st) ty h r g Q := pv_stk (fun w => by simp_all [pv_wst_c, pv_wv]) (fun _ _ _ _ _ _ _ _ _ _ _ _ _ _ _ _ hx hb w => lv_i2c hx hb hdg rfl w) k
theorem pv_dup {v : Value} (hv : v.category = 1) (hdg : decode M.2.1 pc = .ok (.dup, 1)) (k : pv_E Γ d kc ks M (pc + 1) ls (v :: v :: st) ty h r g Q) : pv_E Γ d kc ks M pc ls (v :: st) ty h r g Q := pv_stk (fun w => by simp_all [pv_wst_c]) (fun _ _ _ _ _ _ _ _ _ _ _ _ _ _ _ _ hx hb w => lv_dup hx hb hdg (by rw [pv_cv_cat]; exact hv) w) k
theorem pv_pop {v : Value} (hv : v.category = 1) (hdg : decode M.2.1 pc = .ok (.pop, 1)) (k : pv_E Γ d kc ks M (pc + 1) ls (st) ty h r g Q) : pv_E Γ d kc ks M pc ls (v :: st) ty h r g Q := pv_stk (fun w => by simp_all [pv_wst_c]) (fun _ _ _ _ _ _ _ _ _ _ _ _ _ _ _ _ hx hb w => lv_pop hx hb hdg (by rw [pv_cv_cat]; exact hv) w) k
theorem pv_dup2 {v u : Value} (hv : v.category = 1) (hu : u.category = 1) (hdg : decode M.2.1 pc = .ok (.dup2, 1)) (k : pv_E Γ d kc ks M (pc + 1) ls (v :: u :: v :: u :: st) ty h r g Q) : pv_E Γ d kc ks M pc ls (v :: u :: st) ty h r g Q := pv_stk (fun w => by simp_all [pv_wst_c]) (fun _ _ _ _ _ _ _ _ _ _ _ _ _ _ _ _ hx hb w => lv_dup2_11 hx hb hdg (by rw [pv_cv_cat]; exact hv) (by rw [pv_cv_cat]; exact hu) w) k
theorem pv_if_eq {x : Int32} {off : Int} {tgt : Nat} (hdg : decode M.2.1 pc = .ok (.ifCond .eq off, 3)) (ht : (pc : Int) + off = (tgt : Int)) (kt : x = 0 → pv_E Γ d kc ks M tgt ls st ty h r g Q) (kf : ¬ (x = 0) → pv_E Γ d kc ks M (pc + 3) ls st ty h r g Q) : pv_E Γ d kc ks M pc ls (.int x :: st) ty h r g Q := pv_br (fun w => by simp_all [pv_wst_c]) (fun _ _ _ _ _ _ _ _ _ _ _ _ _ _ _ _ hx hb w1 w2 => lv_if_eq hx hb hdg ht w1 w2) kt kf
theorem pv_icmp_eq {x y : Int32} {off : Int} {tgt : Nat} (hdg : decode M.2.1 pc = .ok (.if_icmp .eq off, 3)) (ht : (pc : Int) + off = (tgt : Int)) (kt : x = y → pv_E Γ d kc ks M tgt ls st ty h r g Q) (kf : ¬ (x = y) → pv_E Γ d kc ks M (pc + 3) ls st ty h r g Q) : pv_E Γ d kc ks M pc ls (.int y :: .int x :: st) ty h r g Q := pv_br (fun w => by simp_all [pv_wst_c]) (fun _ _ _ _ _ _ _ _ _ _ _ _ _ _ _ _ hx hb w1 w2 => lv_icmp_eq hx hb hdg ht w1 w2) kt kf
theorem pv_if_ne {x : Int32} {off : Int} {tgt : Nat} (hdg : decode M.2.1 pc = .ok (.ifCond .ne off, 3)) (ht : (pc : Int) + off = (tgt : Int)) (kt : ¬ x = 0 → pv_E Γ d kc ks M tgt ls st ty h r g Q) (kf : x = 0 → pv_E Γ d kc ks M (pc + 3) ls st ty h r g Q) : pv_E Γ d kc ks M pc ls (.int x :: st) ty h r g Q := pv_br (P := x = 0) (fun w => by simp_all [pv_wst_c]) (fun _ _ _ _ _ _ _ _ _ _ _ _ _ _ _ _ hx hb w1 w2 => lv_if_ne hx hb hdg ht w2 w1) kf kt
theorem pv_icmp_ne {x y : Int32} {off : Int} {tgt : Nat} (hdg : decode M.2.1 pc = .ok (.if_icmp .ne off, 3)) (ht : (pc : Int) + off = (tgt : Int)) (kt : ¬ x = y → pv_E Γ d kc ks M tgt ls st ty h r g Q) (kf : x = y → pv_E Γ d kc ks M (pc + 3) ls st ty h r g Q) : pv_E Γ d kc ks M pc ls (.int y :: .int x :: st) ty h r g Q := pv_br (P := x = y) (fun w => by simp_all [pv_wst_c]) (fun _ _ _ _ _ _ _ _ _ _ _ _ _ _ _ _ hx hb w1 w2 => lv_icmp_ne hx hb hdg ht w2 w1) kf kt
theorem pv_if_lt {x : Int32} {off : Int} {tgt : Nat} (hdg : decode M.2.1 pc = .ok (.ifCond .lt off, 3)) (ht : (pc : Int) + off = (tgt : Int)) (kt : x < 0 → pv_E Γ d kc ks M tgt ls st ty h r g Q) (kf : ¬ (x < 0) → pv_E Γ d kc ks M (pc + 3) ls st ty h r g Q) : pv_E Γ d kc ks M pc ls (.int x :: st) ty h r g Q := pv_br (fun w => by simp_all [pv_wst_c]) (fun _ _ _ _ _ _ _ _ _ _ _ _ _ _ _ _ hx hb w1 w2 => lv_if_lt hx hb hdg ht w1 w2) kt kf
theorem pv_icmp_lt {x y : Int32} {off : Int} {tgt : Nat} (hdg : decode M.2.1 pc = .ok (.if_icmp .lt off, 3)) (ht : (pc : Int) + off = (tgt : Int)) (kt : x < y → pv_E Γ d kc ks M tgt ls st ty h r g Q) (kf : ¬ (x < y) → pv_E Γ d kc ks M (pc + 3) ls st ty h r g Q) : pv_E Γ d kc ks M pc ls (.int y :: .int x :: st) ty h r g Q := pv_br (fun w => by simp_all [pv_wst_c]) (fun _ _ _ _ _ _ _ _ _ _ _ _ _ _ _ _ hx hb w1 w2 => lv_icmp_lt hx hb hdg ht w1 w2) kt kf
theorem pv_if_ge {x : Int32} {off : Int} {tgt : Nat} (hdg : decode M.2.1 pc = .ok (.ifCond .ge off, 3)) (ht : (pc : Int) + off = (tgt : Int)) (kt : 0 ≤ x → pv_E Γ d kc ks M tgt ls st ty h r g Q) (kf : ¬ (0 ≤ x) → pv_E Γ d kc ks M (pc + 3) ls st ty h r g Q) : pv_E Γ d kc ks M pc ls (.int x :: st) ty h r g Q := pv_br (fun w => by simp_all [pv_wst_c]) (fun _ _ _ _ _ _ _ _ _ _ _ _ _ _ _ _ hx hb w1 w2 => lv_if_ge hx hb hdg ht w1 w2) kt kf
theorem pv_icmp_ge {x y : Int32} {off : Int} {tgt : Nat} (hdg : decode M.2.1 pc = .ok (.if_icmp .ge off, 3)) (ht : (pc : Int) + off = (tgt : Int)) (kt : y ≤ x → pv_E Γ d kc ks M tgt ls st ty h r g Q) (kf : ¬ (y ≤ x) → pv_E Γ d kc ks M (pc + 3) ls st ty h r g Q) : pv_E Γ d kc ks M pc ls (.int y :: .int x :: st) ty h r g Q := pv_br (fun w => by simp_all [pv_wst_c]) (fun _ _ _ _ _ _ _ _ _ _ _ _ _ _ _ _ hx hb w1 w2 => lv_icmp_ge hx hb hdg ht w1 w2) kt kf
theorem pv_if_gt {x : Int32} {off : Int} {tgt : Nat} (hdg : decode M.2.1 pc = .ok (.ifCond .gt off, 3)) (ht : (pc : Int) + off = (tgt : Int)) (kt : 0 < x → pv_E Γ d kc ks M tgt ls st ty h r g Q) (kf : ¬ (0 < x) → pv_E Γ d kc ks M (pc + 3) ls st ty h r g Q) : pv_E Γ d kc ks M pc ls (.int x :: st) ty h r g Q := pv_br (fun w => by simp_all [pv_wst_c]) (fun _ _ _ _ _ _ _ _ _ _ _ _ _ _ _ _ hx hb w1 w2 => lv_if_gt hx hb hdg ht w1 w2) kt kf
theorem pv_icmp_gt {x y : Int32} {off : Int} {tgt : Nat} (hdg : decode M.2.1 pc = .ok (.if_icmp .gt off, 3)) (ht : (pc : Int) + off = (tgt : Int)) (kt : y < x → pv_E Γ d kc ks M tgt ls st ty h r g Q) (kf : ¬ (y < x) → pv_E Γ d kc ks M (pc + 3) ls st ty h r g Q) : pv_E Γ d kc ks M pc ls (.int y :: .int x :: st) ty h r g Q := pv_br (fun w => by simp_all [pv_wst_c]) (fun _ _ _ _ _ _ _ _ _ _ _ _ _ _ _ _ hx hb w1 w2 => lv_icmp_gt hx hb hdg ht w1 w2) kt kf
theorem pv_if_le {x : Int32} {off : Int} {tgt : Nat} (hdg : decode M.2.1 pc = .ok (.ifCond .le off, 3)) (ht : (pc : Int) + off = (tgt : Int)) (kt : x ≤ 0 → pv_E Γ d kc ks M tgt ls st ty h r g Q) (kf : ¬ (x ≤ 0) → pv_E Γ d kc ks M (pc + 3) ls st ty h r g Q) : pv_E Γ d kc ks M pc ls (.int x :: st) ty h r g Q := pv_br (fun w => by simp_all [pv_wst_c]) (fun _ _ _ _ _ _ _ _ _ _ _ _ _ _ _ _ hx hb w1 w2 => lv_if_le hx hb hdg ht w1 w2) kt kf
theorem pv_icmp_le {x y : Int32} {off : Int} {tgt : Nat} (hdg : decode M.2.1 pc = .ok (.if_icmp .le off, 3)) (ht : (pc : Int) + off = (tgt : Int)) (kt : x ≤ y → pv_E Γ d kc ks M tgt ls st ty h r g Q) (kf : ¬ (x ≤ y) → pv_E Γ d kc ks M (pc + 3) ls st ty h r g Q) : pv_E Γ d kc ks M pc ls (.int y :: .int x :: st) ty h r g Q := pv_br (fun w => by simp_all [pv_wst_c]) (fun _ _ _ _ _ _ _ _ _ _ _ _ _ _ _ _ hx hb w1 w2 => lv_icmp_le hx hb hdg ht w1 w2) kt kf
theorem pv_goto {off : Int} {tgt : Nat} (hdg : decode M.2.1 pc = .ok (.goto off, 3)) (ht : (pc : Int) + off = (tgt : Int)) (k : pv_E Γ d kc ks M tgt ls st ty h r g Q) : pv_E Γ d kc ks M pc ls st ty h r g Q := pv_stk id (fun _ _ _ _ _ _ _ _ _ _ _ _ _ _ _ _ hx hb w => lv_goto hx hb hdg ht w) k
theorem pv_ifnull {a : Nat} {off : Int} {tgt : Nat} (hdg : decode M.2.1 pc = .ok (.ifnull off, 3)) (ht : (pc : Int) + off = (tgt : Int)) (kt : a = 0 → pv_E Γ d kc ks M tgt ls st ty h r g Q) (kf : ¬ a = 0 → pv_E Γ d kc ks M (pc + 3) ls st ty h r g Q) : pv_E Γ d kc ks M pc ls (.ref a :: st) ty h r g Q :=
  pv_br (P := a = 0) (fun w => by simp_all [pv_wst_c]) (fun _ _ _ _ _ _ _ _ _ _ _ _ _ ρ _ _ hx hb w1 w2 => by
    cases a with
    | zero => exact lv_ifnullN hx hb hdg ht (w1 rfl)
    | succ n => exact lv_ifnull hx hb hdg (w2 (Nat.succ_ne_zero n))) kt kf
theorem pv_ifnonnull {a : Nat} {off : Int} {tgt : Nat} (hdg : decode M.2.1 pc = .ok (.ifnonnull off, 3)) (ht : (pc : Int) + off = (tgt : Int)) (kt : ¬ a = 0 → pv_E Γ d kc ks M tgt ls st ty h r g Q) (kf : a = 0 → pv_E Γ d kc ks M (pc + 3) ls st ty h r g Q) : pv_E Γ d kc ks M pc ls (.ref a :: st) ty h r g Q :=
  pv_br (P := a = 0) (fun w => by simp_all [pv_wst_c]) (fun _ _ _ _ _ _ _ _ _ _ _ _ _ ρ _ _ hx hb w1 w2 => by
    cases a with
    | zero => exact lv_ifnonnullN hx hb hdg (w1 rfl)
    | succ n => exact lv_ifnonnull hx hb hdg ht (w2 (Nat.succ_ne_zero n))) kf kt
theorem pv_tableIn {dflt lo hi : Int} {offs : Array Int} {len : Nat} {x : Int32} {off : Int} {tgt : Nat} (hdg : decode M.2.1 pc = .ok (.tableswitch dflt lo hi offs, len)) (h1 : ¬ x.toInt < lo) (h2 : ¬ hi < x.toInt) (ho : offs[(x.toInt - lo).toNat]? = some off) (ht : (pc : Int) + off = (tgt : Int)) (k : pv_E Γ d kc ks M tgt ls st ty h r g Q) : pv_E Γ d kc ks M pc ls (.int x :: st) ty h r g Q := pv_stk (fun w => by simp_all [pv_wst_c]) (fun _ _ _ _ _ _ _ _ _ _ _ _ _ _ _ _ hx hb w => lv_tableIn hx hb hdg h1 h2 ho ht w) k
theorem pv_tableOut {dflt lo hi : Int} {offs : Array Int} {len : Nat} {x : Int32} {tgt : Nat} (hdg : decode M.2.1 pc = .ok (.tableswitch dflt lo hi offs, len)) (hx0 : x.toInt < lo ∨ hi < x.toInt) (ht : (pc : Int) + dflt = (tgt : Int)) (k : pv_E Γ d kc ks M tgt ls st ty h r g Q) : pv_E Γ d kc ks M pc ls (.int x :: st) ty h r g Q := pv_stk (fun w => by simp_all [pv_wst_c]) (fun _ _ _ _ _ _ _ _ _ _ _ _ _ _ _ _ hx hb w => lv_tableOut hx hb hdg hx0 ht w) k
theorem pv_lookup {dflt : Int} {ps : Array (Int × Int)} {len : Nat} {x : Int32} {off : Int} {tgt : Nat} (hdg : decode M.2.1 pc = .ok (.lookupswitch dflt ps, len)) (hp : (ps.toList.zip (ps.toList.drop 1)).all (fun (a, next) => a.1 < next.1) = true) (ho : Op.lookupswitch.offset ps.toList dflt x.toInt = off) (ht : (pc : Int) + off = (tgt : Int)) (k : pv_E Γ d kc ks M tgt ls st ty h r g Q) : pv_E Γ d kc ks M pc ls (.int x :: st) ty h r g Q := pv_stk (fun w => by simp_all [pv_wst_c]) (fun _ _ _ _ _ _ _ _ _ _ _ _ _ _ _ _ hx hb w => lv_lookup hx hb hdg hp ho ht w) k
theorem pv_ldc {index : Nat} {v : Int32} (hdg : decode M.2.1 pc = .ok (.ldc index, 2)) (hc : Cond.constant M.1.cls index v ∈ pv_gt) (k : pv_E Γ d kc ks M (pc + 2) ls (.int v :: st) ty h r g Q) : pv_E Γ d kc ks M pc ls st ty h r g Q := by
  intro p e R s m args below meth c H locs cells slots ρ lz Z hK
  obtain ⟨hx, hb, hml, hown, hr, hlk, hnm, hts, henv, hdd⟩ := hK.1
  exact lv_ldc hx hb hown (hts _ hc) hdg (k _ _ _ _ _ _ _ _ _ _ _ _ _ ρ _ _ ⟨hK.1, hK.2.1, hK.2.2.1, hK.2.2.2.1, pv_wst_c.mpr ⟨trivial, hK.2.2.2.2.1⟩, hK.2.2.2.2.2⟩)
theorem pv_ldcw {index : Nat} {v : Int32} (hdg : decode M.2.1 pc = .ok (.ldc_w index, 3)) (hc : Cond.constant M.1.cls index v ∈ pv_gt) (k : pv_E Γ d kc ks M (pc + 3) ls (.int v :: st) ty h r g Q) : pv_E Γ d kc ks M pc ls st ty h r g Q := by
  intro p e R s m args below meth c H locs cells slots ρ lz Z hK
  obtain ⟨hx, hb, hml, hown, hr, hlk, hnm, hts, henv, hdd⟩ := hK.1
  exact lv_ldcw hx hb hown (hts _ hc) hdg (k _ _ _ _ _ _ _ _ _ _ _ _ _ ρ _ _ ⟨hK.1, hK.2.1, hK.2.2.1, hK.2.2.2.1, pv_wst_c.mpr ⟨trivial, hK.2.2.2.2.1⟩, hK.2.2.2.2.2⟩)
theorem pv_ldc2 {index : Nat} {v : Int64} (hdg : decode M.2.1 pc = .ok (.ldc2_w index, 3)) (hc : Cond.constantLong M.1.cls index v ∈ pv_gt) (k : pv_E Γ d kc ks M (pc + 3) ls (.long v :: st) ty h r g Q) : pv_E Γ d kc ks M pc ls st ty h r g Q := by
  intro p e R s m args below meth c H locs cells slots ρ lz Z hK
  obtain ⟨hx, hb, hml, hown, hr, hlk, hnm, hts, henv, hdd⟩ := hK.1
  exact lv_ldc2 hx hb hown (hts _ hc) hdg (k _ _ _ _ _ _ _ _ _ _ _ _ _ ρ _ _ ⟨hK.1, hK.2.1, hK.2.2.1, hK.2.2.2.1, pv_wst_c.mpr ⟨trivial, hK.2.2.2.2.1⟩, hK.2.2.2.2.2⟩)
theorem pv_iload_n {i : Fin 4} {x : Int32} (hdg : decode M.2.1 pc = .ok (.iload_n i, 1)) (hl : pv_lAt ls i = some (.int x)) (k : pv_E Γ d kc ks M (pc + 1) ls (.int x :: st) ty h r g Q) : pv_E Γ d kc ks M pc ls st ty h r g Q := by
  intro p e R s m args below meth c H locs cells slots ρ lz Z hK
  have hb := hK.1.2.1
  have hx := hK.1.1
  exact lv_iload_n hx hb hdg rfl (hK.2.2.2.1.2.2 _ _ hl) (k _ _ _ _ _ _ _ _ _ _ _ _ _ ρ _ _ ⟨hK.1, hK.2.1, hK.2.2.1, hK.2.2.2.1, pv_wst_c.mpr ⟨trivial, hK.2.2.2.2.1⟩, hK.2.2.2.2.2⟩)
theorem pv_iload {i : Nat} {x : Int32} (hdg : decode M.2.1 pc = .ok (.iload i, 2)) (hl : pv_lAt ls i = some (.int x)) (k : pv_E Γ d kc ks M (pc + 2) ls (.int x :: st) ty h r g Q) : pv_E Γ d kc ks M pc ls st ty h r g Q := by
  intro p e R s m args below meth c H locs cells slots ρ lz Z hK
  have hb := hK.1.2.1
  have hx := hK.1.1
  exact lv_iload hx hb hdg (hK.2.2.2.1.2.2 _ _ hl) (k _ _ _ _ _ _ _ _ _ _ _ _ _ ρ _ _ ⟨hK.1, hK.2.1, hK.2.2.1, hK.2.2.2.1, pv_wst_c.mpr ⟨trivial, hK.2.2.2.2.1⟩, hK.2.2.2.2.2⟩)
theorem pv_lload_n {i : Fin 4} {x : Int64} (hdg : decode M.2.1 pc = .ok (.lload_n i, 1)) (hl : pv_lAt ls i = some (.long x)) (k : pv_E Γ d kc ks M (pc + 1) ls (.long x :: st) ty h r g Q) : pv_E Γ d kc ks M pc ls st ty h r g Q := by
  intro p e R s m args below meth c H locs cells slots ρ lz Z hK
  have hb := hK.1.2.1
  have hx := hK.1.1
  exact lv_lload_n hx hb hdg rfl (hK.2.2.2.1.2.2 _ _ hl) (k _ _ _ _ _ _ _ _ _ _ _ _ _ ρ _ _ ⟨hK.1, hK.2.1, hK.2.2.1, hK.2.2.2.1, pv_wst_c.mpr ⟨trivial, hK.2.2.2.2.1⟩, hK.2.2.2.2.2⟩)
theorem pv_lload {i : Nat} {x : Int64} (hdg : decode M.2.1 pc = .ok (.lload i, 2)) (hl : pv_lAt ls i = some (.long x)) (k : pv_E Γ d kc ks M (pc + 2) ls (.long x :: st) ty h r g Q) : pv_E Γ d kc ks M pc ls st ty h r g Q := by
  intro p e R s m args below meth c H locs cells slots ρ lz Z hK
  have hb := hK.1.2.1
  have hx := hK.1.1
  exact lv_lload hx hb hdg (hK.2.2.2.1.2.2 _ _ hl) (k _ _ _ _ _ _ _ _ _ _ _ _ _ ρ _ _ ⟨hK.1, hK.2.1, hK.2.2.1, hK.2.2.2.1, pv_wst_c.mpr ⟨trivial, hK.2.2.2.2.1⟩, hK.2.2.2.2.2⟩)
theorem pv_aload_n {i : Fin 4} {x : Nat} (hdg : decode M.2.1 pc = .ok (.aload_n i, 1)) (hl : pv_lAt ls i = some (.ref x)) (k : pv_E Γ d kc ks M (pc + 1) ls (.ref x :: st) ty h r g Q) : pv_E Γ d kc ks M pc ls st ty h r g Q := by
  intro p e R s m args below meth c H locs cells slots ρ lz Z hK
  have hb := hK.1.2.1
  have hx := hK.1.1
  have hg := hK.2.2.2.1.2.2 _ _ hl
  have hw := hK.2.2.2.2.2.1 _ _ hl
  have kk := k _ _ _ _ _ _ _ _ _ _ _ _ _ ρ _ _ ⟨hK.1, hK.2.1, hK.2.2.1, hK.2.2.2.1, pv_wst_c.mpr ⟨hw, hK.2.2.2.2.1⟩, hK.2.2.2.2.2⟩
  cases x with
  | zero => exact lv_aload_nN hx hb hdg rfl hg kk
  | succ n => exact lv_aload_n hx hb hdg rfl hg kk
theorem pv_aload {i : Nat} {x : Nat} (hdg : decode M.2.1 pc = .ok (.aload i, 2)) (hl : pv_lAt ls i = some (.ref x)) (k : pv_E Γ d kc ks M (pc + 2) ls (.ref x :: st) ty h r g Q) : pv_E Γ d kc ks M pc ls st ty h r g Q := by
  intro p e R s m args below meth c H locs cells slots ρ lz Z hK
  have hb := hK.1.2.1
  have hx := hK.1.1
  have hg := hK.2.2.2.1.2.2 _ _ hl
  have hw := hK.2.2.2.2.2.1 _ _ hl
  have kk := k _ _ _ _ _ _ _ _ _ _ _ _ _ ρ _ _ ⟨hK.1, hK.2.1, hK.2.2.1, hK.2.2.2.1, pv_wst_c.mpr ⟨hw, hK.2.2.2.2.1⟩, hK.2.2.2.2.2⟩
  cases x with
  | zero => exact lv_aloadN hx hb hdg hg kk
  | succ n => exact lv_aload hx hb hdg hg kk
def pv_lOK (ls : List (Option Value)) (i : Nat) : Bool := match i with
  | 0 => true
  | k + 1 => match pv_lAt ls k with
    | some v => v.category == 1
    | none => true
def pv_lv (ρ : Nat → Nat) (ls : List (Option Value)) : List (Nat × Value) := (List.range ls.length).filterMap (fun j => (pv_lAt ls j).map (fun w => (j, pv_cv ρ w)))
theorem pv_lAt_lt {ls : List (Option Value)} {i : Nat} {v : Value} (h : pv_lAt ls i = some v) : i < ls.length := by
  unfold pv_lAt at h
  cases hq : ls[i]? with
  | none => rw [hq] at h; cases h
  | some x => exact (List.getElem?_eq_some_iff.mp hq).1
theorem pv_lv_in {ρ : Nat → Nat} {ls : List (Option Value)} {q : Nat × Value} : q ∈ pv_lv ρ ls ↔ ∃ v, pv_lAt ls q.1 = some v ∧ q.2 = pv_cv ρ v := by
  unfold pv_lv
  rw [List.mem_filterMap]
  constructor
  · rintro ⟨j, -, hj⟩
    cases hq : pv_lAt ls j with
    | none => rw [hq] at hj; cases hj
    | some v => rw [hq] at hj; cases hj; exact ⟨v, hq, rfl⟩
  · rintro ⟨v, h1, h2⟩
    obtain ⟨i, w⟩ := q
    exact ⟨i, List.mem_range.mpr (pv_lAt_lt h1), by dsimp only at h1 h2 ⊢; rw [h1, h2]; rfl⟩
theorem pv_lv_has {ρ : Nat → Nat} {lz : Array Slot} {nL : Nat} {ls : List (Option Value)} (h : pv_lRel ρ lz nL ls) : lv_has lz nL (pv_lv ρ ls) := by
  refine ⟨h.1, h.2.1, fun q hq => ?_⟩
  obtain ⟨v, h1, h2⟩ := pv_lv_in.mp hq
  rw [h2]; exact h.2.2 _ _ h1
theorem pv_lAt_set {ls : List (Option Value)} {i j : Nat} {x : Option Value} {v : Value} (h : pv_lAt (ls.set i x) j = some v) : (j = i ∧ x = some v) ∨ (j ≠ i ∧ pv_lAt ls j = some v) := by
  unfold pv_lAt at h ⊢
  by_cases e : j = i
  · subst e
    by_cases hl : j < ls.length
    · rw [List.getElem?_set_self hl] at h
      exact Or.inl ⟨rfl, h⟩
    · rw [List.getElem?_eq_none (by simp; omega)] at h
      cases h
  · rw [List.getElem?_set_ne (Ne.symm e)] at h
    exact Or.inr ⟨e, h⟩
theorem pv_set1 {ρ : Nat → Nat} {lz' : Array Slot} {nL : Nat} {ls : List (Option Value)} {i : Nat} {v : Value} (hok : pv_lOK ls i = true) (h : lv_has lz' nL ((i, pv_cv ρ v) :: (pv_lv ρ ls).filter (fun q => !(q.1 == i) && !(q.1 + 1 == i && q.2.category == 2)))) : pv_lRel ρ lz' nL (ls.set i (some v)) := by
  refine ⟨h.1, h.2.1, fun j w hj => ?_⟩
  rcases pv_lAt_set hj with ⟨rfl, e⟩ | ⟨ne, e⟩
  · cases e
    exact h.2.2 (j, _) List.mem_cons_self
  · refine h.2.2 (j, pv_cv ρ w) (List.mem_cons_of_mem _ (List.mem_filter.mpr ⟨pv_lv_in.mpr ⟨w, e, rfl⟩, ?_⟩))
    have hc : ¬ (j + 1 = i ∧ (pv_cv ρ w).category = 2) := by
      rintro ⟨rfl, h2⟩
      rw [pv_cv_cat] at h2
      simp [pv_lOK, e, h2] at hok
    simp only [Bool.and_eq_true, Bool.not_eq_true', Bool.and_eq_false_iff, beq_eq_false_iff_ne, ne_eq]
    exact ⟨ne, Classical.not_and_iff_not_or_not.mp hc⟩
theorem pv_set2 {ρ : Nat → Nat} {lz' : Array Slot} {nL : Nat} {ls : List (Option Value)} {i : Nat} {v : Value} (hok : pv_lOK ls i = true) (h : lv_has lz' nL ((i, pv_cv ρ v) :: (pv_lv ρ ls).filter (fun q => !(q.1 == i) && (!(q.1 == i + 1) && !(q.1 + 1 == i && q.2.category == 2))))) : pv_lRel ρ lz' nL ((ls.set i (some v)).set (i + 1) none) := by
  refine ⟨h.1, h.2.1, fun j w hj => ?_⟩
  rcases pv_lAt_set hj with ⟨rfl, e0⟩ | ⟨ne1, e0⟩
  · cases e0
  · rcases pv_lAt_set e0 with ⟨rfl, e⟩ | ⟨ne, e⟩
    · cases e
      exact h.2.2 (j, _) List.mem_cons_self
    · refine h.2.2 (j, pv_cv ρ w) (List.mem_cons_of_mem _ (List.mem_filter.mpr ⟨pv_lv_in.mpr ⟨w, e, rfl⟩, ?_⟩))
      have hc : ¬ (j + 1 = i ∧ (pv_cv ρ w).category = 2) := by
        rintro ⟨rfl, h2⟩
        rw [pv_cv_cat] at h2
        simp [pv_lOK, e, h2] at hok
      simp only [Bool.and_eq_true, Bool.not_eq_true', Bool.and_eq_false_iff, beq_eq_false_iff_ne, ne_eq]
      exact ⟨ne, ne1, Classical.not_and_iff_not_or_not.mp hc⟩
theorem pv_wl_set {ls : List (Option Value)} {i : Nat} {x : Option Value} (h : pv_wl ty ls) (hx : ∀ v, x = some v → pv_wv ty v) : pv_wl ty (ls.set i x) := fun j w hj => by
  rcases pv_lAt_set hj with ⟨rfl, e⟩ | ⟨ne, e⟩
  · exact hx w e
  · exact h j w e
theorem pv_istore_n {i : Fin 4} {x : Int32} {ls' : List (Option Value)} (hdg : decode M.2.1 pc = .ok (.istore_n i, 1)) (hi : (i : Nat) < M.2.2.1) (hok : pv_lOK ls i = true) (hs : ls.set i (some (.int x)) = ls') (k : pv_E Γ d kc ks M (pc + 1) ls' st ty h r g Q) : pv_E Γ d kc ks M pc ls (.int x :: st) ty h r g Q := by
  intro p e R s m args below meth c H locs cells slots ρ lz Z hK
  have hb := hK.1.2.1
  have hx := hK.1.1
  subst hs
  exact lv_istore_n hx hb hdg rfl (pv_lv_has hK.2.2.2.1) hi rfl fun lz' hl' => k _ _ _ _ _ _ _ _ _ _ _ _ _ ρ _ _ ⟨hK.1, hK.2.1, hK.2.2.1, pv_set1 (v := .int x) hok hl', (pv_wst_c.mp hK.2.2.2.2.1).2, pv_wl_set hK.2.2.2.2.2.1 (fun v e => by cases e; trivial), hK.2.2.2.2.2.2⟩
theorem pv_istore {i : Nat} {x : Int32} {ls' : List (Option Value)} (hdg : decode M.2.1 pc = .ok (.istore i, 2)) (hi : (i : Nat) < M.2.2.1) (hok : pv_lOK ls i = true) (hs : ls.set i (some (.int x)) = ls') (k : pv_E Γ d kc ks M (pc + 2) ls' st ty h r g Q) : pv_E Γ d kc ks M pc ls (.int x :: st) ty h r g Q := by
  intro p e R s m args below meth c H locs cells slots ρ lz Z hK
  have hb := hK.1.2.1
  have hx := hK.1.1
  subst hs
  exact lv_istore hx hb hdg (pv_lv_has hK.2.2.2.1) hi rfl fun lz' hl' => k _ _ _ _ _ _ _ _ _ _ _ _ _ ρ _ _ ⟨hK.1, hK.2.1, hK.2.2.1, pv_set1 (v := .int x) hok hl', (pv_wst_c.mp hK.2.2.2.2.1).2, pv_wl_set hK.2.2.2.2.2.1 (fun v e => by cases e; trivial), hK.2.2.2.2.2.2⟩
theorem pv_lstore_n {i : Fin 4} {x : Int64} {ls' : List (Option Value)} (hdg : decode M.2.1 pc = .ok (.lstore_n i, 1)) (hi : (i : Nat) + 1 < M.2.2.1) (hok : pv_lOK ls i = true) (hs : (ls.set i (some (.long x))).set ((i : Nat) + 1) none = ls') (k : pv_E Γ d kc ks M (pc + 1) ls' st ty h r g Q) : pv_E Γ d kc ks M pc ls (.long x :: st) ty h r g Q := by
  intro p e R s m args below meth c H locs cells slots ρ lz Z hK
  have hb := hK.1.2.1
  have hx := hK.1.1
  subst hs
  exact lv_lstore_n hx hb hdg rfl (pv_lv_has hK.2.2.2.1) hi rfl fun lz' hl' => k _ _ _ _ _ _ _ _ _ _ _ _ _ ρ _ _ ⟨hK.1, hK.2.1, hK.2.2.1, pv_set2 (v := .long x) hok hl', (pv_wst_c.mp hK.2.2.2.2.1).2, pv_wl_set (pv_wl_set hK.2.2.2.2.2.1 (fun v e => by cases e; trivial)) (fun v e => by cases e), hK.2.2.2.2.2.2⟩
theorem pv_lstore {i : Nat} {x : Int64} {ls' : List (Option Value)} (hdg : decode M.2.1 pc = .ok (.lstore i, 2)) (hi : (i : Nat) + 1 < M.2.2.1) (hok : pv_lOK ls i = true) (hs : (ls.set i (some (.long x))).set ((i : Nat) + 1) none = ls') (k : pv_E Γ d kc ks M (pc + 2) ls' st ty h r g Q) : pv_E Γ d kc ks M pc ls (.long x :: st) ty h r g Q := by
  intro p e R s m args below meth c H locs cells slots ρ lz Z hK
  have hb := hK.1.2.1
  have hx := hK.1.1
  subst hs
  exact lv_lstore hx hb hdg (pv_lv_has hK.2.2.2.1) hi rfl fun lz' hl' => k _ _ _ _ _ _ _ _ _ _ _ _ _ ρ _ _ ⟨hK.1, hK.2.1, hK.2.2.1, pv_set2 (v := .long x) hok hl', (pv_wst_c.mp hK.2.2.2.2.1).2, pv_wl_set (pv_wl_set hK.2.2.2.2.2.1 (fun v e => by cases e; trivial)) (fun v e => by cases e), hK.2.2.2.2.2.2⟩
theorem pv_astore_n {i : Fin 4} {x : Nat} {ls' : List (Option Value)} (hdg : decode M.2.1 pc = .ok (.astore_n i, 1)) (hi : (i : Nat) < M.2.2.1) (hok : pv_lOK ls i = true) (hs : ls.set i (some (.ref x)) = ls') (k : pv_E Γ d kc ks M (pc + 1) ls' st ty h r g Q) : pv_E Γ d kc ks M pc ls (.ref x :: st) ty h r g Q := by
  intro p e R s m args below meth c H locs cells slots ρ lz Z hK
  have hb := hK.1.2.1
  have hx := hK.1.1
  subst hs
  have hw := pv_wst_c.mp hK.2.2.2.2.1
  have kk : ∀ lz', lv_has lz' M.2.2.1 (((i : Nat), pv_cv ρ (.ref x)) :: (pv_lv ρ ls).filter (fun q => !(q.1 == (i : Nat)) && !(q.1 + 1 == (i : Nat) && q.2.category == 2))) → W p Γ.1 e R s m args below meth c H locs cells slots Z (F0 m (pc + 1) lz' (st.map (pv_cv ρ))) := fun lz' hl' => k _ _ _ _ _ _ _ _ _ _ _ _ _ ρ _ _ ⟨hK.1, hK.2.1, hK.2.2.1, pv_set1 (v := .ref x) hok hl', hw.2, pv_wl_set hK.2.2.2.2.2.1 (fun v e => by cases e; exact hw.1), hK.2.2.2.2.2.2⟩
  cases x with
  | zero => exact lv_astore_nN hx hb hdg rfl (pv_lv_has hK.2.2.2.1) hi rfl kk
  | succ n => exact lv_astore_n hx hb hdg rfl (pv_lv_has hK.2.2.2.1) hi rfl kk
theorem pv_astore {i : Nat} {x : Nat} {ls' : List (Option Value)} (hdg : decode M.2.1 pc = .ok (.astore i, 2)) (hi : (i : Nat) < M.2.2.1) (hok : pv_lOK ls i = true) (hs : ls.set i (some (.ref x)) = ls') (k : pv_E Γ d kc ks M (pc + 2) ls' st ty h r g Q) : pv_E Γ d kc ks M pc ls (.ref x :: st) ty h r g Q := by
  intro p e R s m args below meth c H locs cells slots ρ lz Z hK
  have hb := hK.1.2.1
  have hx := hK.1.1
  subst hs
  have hw := pv_wst_c.mp hK.2.2.2.2.1
  have kk : ∀ lz', lv_has lz' M.2.2.1 (((i : Nat), pv_cv ρ (.ref x)) :: (pv_lv ρ ls).filter (fun q => !(q.1 == (i : Nat)) && !(q.1 + 1 == (i : Nat) && q.2.category == 2))) → W p Γ.1 e R s m args below meth c H locs cells slots Z (F0 m (pc + 2) lz' (st.map (pv_cv ρ))) := fun lz' hl' => k _ _ _ _ _ _ _ _ _ _ _ _ _ ρ _ _ ⟨hK.1, hK.2.1, hK.2.2.1, pv_set1 (v := .ref x) hok hl', hw.2, pv_wl_set hK.2.2.2.2.2.1 (fun v e => by cases e; exact hw.1), hK.2.2.2.2.2.2⟩
  cases x with
  | zero => exact lv_astoreN hx hb hdg (pv_lv_has hK.2.2.2.1) hi rfl kk
  | succ n => exact lv_astore hx hb hdg (pv_lv_has hK.2.2.2.1) hi rfl kk
theorem pv_iinc {i : Nat} {n : Int} {x v : Int32} {ls' : List (Option Value)} (hdg : decode M.2.1 pc = .ok (.iinc i n, 3)) (hl : pv_lAt ls i = some (.int x)) (hv : x + Int32.ofInt n = v) (hok : pv_lOK ls i = true) (hs : ls.set i (some (.int v)) = ls') (k : pv_E Γ d kc ks M (pc + 3) ls' st ty h r g Q) : pv_E Γ d kc ks M pc ls st ty h r g Q := by
  intro p e R s m args below meth c H locs cells slots ρ lz Z hK
  have hb := hK.1.2.1
  have hx := hK.1.1
  subst hs
  have hlr := hK.2.2.2.1
  have hi : i < M.2.2.1 := by rw [← hlr.1]; exact lv_lt (hlr.2.2 _ _ hl)
  obtain ⟨j, hj⟩ := List.getElem?_of_mem (pv_lv_in (ρ := ρ).mpr (show ∃ v, pv_lAt ls ((i, Value.int x) : Nat × Value).1 = some v ∧ ((i, Value.int x) : Nat × Value).2 = pv_cv ρ v from ⟨_, hl, rfl⟩))
  exact lv_iinc hx hb hdg (pv_lv_has hlr) hj hv hi rfl fun lz' hl' => k _ _ _ _ _ _ _ _ _ _ _ _ _ ρ _ _ ⟨hK.1, hK.2.1, hK.2.2.1, pv_set1 (v := .int v) hok hl', hK.2.2.2.2.1, pv_wl_set hK.2.2.2.2.2.1 (fun v e => by cases e; trivial), hK.2.2.2.2.2.2⟩
/-- fewer locals -/
theorem pv_forgetL {ls' : List (Option Value)} (hs : ∀ i v, pv_lAt ls' i = some v → pv_lAt ls i = some v) (k : pv_E Γ d kc ks M pc ls' st ty h r g Q) : pv_E Γ d kc ks M pc ls st ty h r g Q := by
  intro p e R s m args below meth c H locs cells slots ρ lz Z hK
  exact k _ _ _ _ _ _ _ _ _ _ _ _ _ ρ _ _ ⟨hK.1, hK.2.1, hK.2.2.1, ⟨hK.2.2.2.1.1, hK.2.2.2.1.2.1, fun i v hv => hK.2.2.2.1.2.2 i v (hs i v hv)⟩, hK.2.2.2.2.1, fun i v hv => hK.2.2.2.2.2.1 i v (hs i v hv), hK.2.2.2.2.2.2⟩
/-- returns -/
theorem pv_ireturn {x : Int32} {t : FieldType} (hdg : decode M.2.1 pc = .ok (.ireturn, 1)) (hret : M.2.2.2 = some t) (hn : narrow t (.int x) = .int x) (hQ : Q (some (.int x)) ty h r g) : pv_E Γ d kc ks M pc ls [.int x] ty h r g Q := by
  intro p e R s m args below meth c H locs cells slots ρ lz Z hK
  exact hK.2.2.2.2.2.2.2 _ _ _ _ ρ lz pc (some (.int x)) _ _ _ _ hQ (by have := hK.2.1.1; omega) (by have := hK.2.1.2; omega) hK.2.2.1 pv_ext_rfl (fun _ e => by cases e; trivial) hK.2.2.2.2.2.2.1 ⟨hdg, t, hret, hn⟩
theorem pv_lreturn {x : Int64} (hdg : decode M.2.1 pc = .ok (.lreturn, 1)) (hret : M.2.2.2 = some .long) (hQ : Q (some (.long x)) ty h r g) : pv_E Γ d kc ks M pc ls [.long x] ty h r g Q := by
  intro p e R s m args below meth c H locs cells slots ρ lz Z hK
  exact hK.2.2.2.2.2.2.2 _ _ _ _ ρ lz pc (some (.long x)) _ _ _ _ hQ (by have := hK.2.1.1; omega) (by have := hK.2.1.2; omega) hK.2.2.1 pv_ext_rfl (fun _ e => by cases e; trivial) hK.2.2.2.2.2.2.1 ⟨hdg, hret⟩
theorem pv_areturn {x : Nat} {t : FieldType} (hdg : decode M.2.1 pc = .ok (.areturn, 1)) (hret : M.2.2.2 = some t) (ht : (∃ n, t = .object n) ∨ ∃ u, t = .array u) (hQ : Q (some (.ref x)) ty h r g) : pv_E Γ d kc ks M pc ls [.ref x] ty h r g Q := by
  intro p e R s m args below meth c H locs cells slots ρ lz Z hK
  exact hK.2.2.2.2.2.2.2 _ _ _ _ ρ lz pc (some (.ref x)) _ _ _ _ hQ (by have := hK.2.1.1; omega) (by have := hK.2.1.2; omega) hK.2.2.1 pv_ext_rfl (fun _ e => by cases e; exact (pv_wst_c.mp hK.2.2.2.2.1).1) hK.2.2.2.2.2.2.1 ⟨hdg, t, hret, ht⟩
theorem pv_return (hdg : decode M.2.1 pc = .ok (.return_, 1)) (hret : M.2.2.2 = none) (hQ : Q none ty h r g) : pv_E Γ d kc ks M pc ls [] ty h r g Q := by
  intro p e R s m args below meth c H locs cells slots ρ lz Z hK
  exact hK.2.2.2.2.2.2.2 _ _ _ _ ρ lz pc none _ _ _ _ hQ (by have := hK.2.1.1; omega) (by have := hK.2.1.2; omega) hK.2.2.1 pv_ext_rfl (fun _ e => by cases e) hK.2.2.2.2.2.2.1 ⟨hdg, hret⟩
end PVR
