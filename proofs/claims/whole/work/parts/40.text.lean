/-! texts, the pure side: trees, the reading of a text from its first byte on, the steps -/
abbrev tx_E : Type := ((Nat → Int32) → Int32) × List (Nat × Nat)
abbrev tx_R (α : Type) : Type := Except Nat (α × Nat)
abbrev tx_O : Type := Except Nat (List (Nat × Nat))
def tx_op (o : Nat) (a b : Int32) : Int32 := if o = 40 then (if a < b then 1 else 0) else if o = 41 then (if a = b then 1 else 0) else if o = 42 then (if b < a then 1 else 0) else if o = 50 then a + b else if o = 51 then a - b else if o = 60 then a * b else if b = 0 then 0 else if o = 61 then a / b else a - a / b * b
/-- a tree: what it gives by the names' values, and its steps, the latest first -/
def tx_N (v : Nat) : tx_E := (fun _ => nI v, [(1, v)])
def tx_V (c : Nat) : tx_E := (fun V => V c, [(100 + c, 0)])
def tx_B (o : Nat) (a b : tx_E) : tx_E := (fun V => tx_op o (a.1 V) (b.1 V), (o, 0) :: (b.2 ++ a.2))
def tx_ev (V : Nat → Int32) (e : tx_E) : Int32 := e.1 V
def tx_rr (e : tx_E) : List (Nat × Nat) := e.2
/-- the names of a kind -/
def tx_nm (K : Nat) : List Nat := if K = 0 then [102, 103, 118, 115, 99, 121] else [100, 108, 119, 115, 110]
abbrev tx_os (o : Nat) : Prop := o = 40 ∨ o = 41 ∨ o = 42 ∨ o = 50 ∨ o = 51 ∨ o = 60 ∨ o = 61 ∨ o = 62
/-- made of numbers, names and signs -/
def tx_wf (K : Nat) (e : tx_E) : Prop := ∀ P : tx_E → Prop, (∀ v, v < 1000000 → P (tx_N v)) → (∀ c, c ∈ tx_nm K → P (tx_V c)) → (∀ o a b, tx_os o → P a → P b → P (tx_B o a b)) → P e
theorem tx_wf_n {K v : Nat} (h : v < 1000000) : tx_wf K (tx_N v) := fun _ h1 _ _ => h1 v h
theorem tx_wf_v {K c : Nat} (h : c ∈ tx_nm K) : tx_wf K (tx_V c) := fun _ _ h2 _ => h2 c h
theorem tx_wf_b {K o : Nat} {a b : tx_E} (h : tx_os o) (ha : tx_wf K a) (hb : tx_wf K b) : tx_wf K (tx_B o a b) := fun P h1 h2 h3 => h3 o a b h (ha P h1 h2 h3) (hb P h1 h2 h3)
theorem tx_ev_c {K : Nat} {V V' : Nat → Int32} (h : ∀ c ∈ tx_nm K, V c = V' c) {e : tx_E} (w : tx_wf K e) : tx_ev V e = tx_ev V' e :=
  w (fun e => tx_ev V e = tx_ev V' e) (fun _ _ => rfl) (fun c hc => h c hc) (fun o a b _ ha hb => by show tx_op o (tx_ev V a) (tx_ev V b) = tx_op o (tx_ev V' a) (tx_ev V' b); rw [ha, hb])
/-- the byte at p; 256 behind the end -/
def tx_pk (len : Nat) (b : Nat → Nat) (p : Nat) : Nat := if p < len then b p else 256
abbrev tx_dg (x : Nat) : Prop := 48 ≤ x ∧ x ≤ 57
def tx_num (pk : Nat → Nat) : Nat → Nat → Nat → Nat × Nat
  | 0, v, p => (v, p)
  | k + 1, v, p => if tx_dg (pk p) then tx_num pk k (v * 10 + (pk p - 48)) (p + 1) else (v, p)
def tx_opnd (K : Nat) (pk : Nat → Nat) (inner : Option (Nat → tx_R tx_E)) (p : Nat) : tx_R tx_E :=
  if tx_dg (pk p) then (if tx_dg (pk (tx_num pk 6 0 p).2) then .error (tx_num pk 6 0 p).2 else .ok (tx_N (tx_num pk 6 0 p).1, (tx_num pk 6 0 p).2))
  else if pk p = 40 then
    match inner with
    | some f => match f (p + 1) with
      | .ok (e, q) => if pk q = 41 then .ok (e, q + 1) else .error q
      | .error q => .error q
    | none => .error p
  else if pk p ∈ tx_nm K then .ok (tx_V (pk p), p + 1) else .error p
def tx_mul (x : Nat) : Nat := if x = 42 then 60 else if x = 47 then 61 else if x = 37 then 62 else 0
def tx_add (x : Nat) : Nat := if x = 43 then 50 else if x = 45 then 51 else 0
def tx_rel (x : Nat) : Nat := if x = 60 then 40 else if x = 61 then 41 else if x = 62 then 42 else 0
def tx_loop (sg : Nat → Nat) (sub : Nat → tx_R tx_E) (pk : Nat → Nat) : Nat → tx_E → Nat → tx_R tx_E
  | 0, e, p => .ok (e, p)
  | k + 1, e, p => if sg (pk p) = 0 then .ok (e, p) else
    match sub (p + 1) with
    | .ok (b, q) => tx_loop sg sub pk k (tx_B (sg (pk p)) e b) q
    | .error q => .error q
def tx_chain (sg : Nat → Nat) (sub : Nat → tx_R tx_E) (pk : Nat → Nat) (p : Nat) : tx_R tx_E :=
  match sub p with
  | .ok (e, q) => tx_loop sg sub pk 160 e q
  | .error q => .error q
abbrev tx_prod (K : Nat) (pk : Nat → Nat) (inner : Option (Nat → tx_R tx_E)) : Nat → tx_R tx_E := tx_chain tx_mul (tx_opnd K pk inner) pk
abbrev tx_sum (K : Nat) (pk : Nat → Nat) (inner : Option (Nat → tx_R tx_E)) : Nat → tx_R tx_E := tx_chain tx_add (tx_prod K pk inner) pk
def tx_ex (K : Nat) (pk : Nat → Nat) (inner : Option (Nat → tx_R tx_E)) (p : Nat) : tx_R tx_E :=
  match tx_sum K pk inner p with
  | .error q => .error q
  | .ok (a, q) => if tx_rel (pk q) = 0 then .ok (a, q) else
    match tx_sum K pk inner (q + 1) with
    | .error q' => .error q'
    | .ok (b, q') => .ok (tx_B (tx_rel (pk q)) a b, q')
/-- n parentheses may still be opened -/
def tx_in (K : Nat) (pk : Nat → Nat) : Nat → Option (Nat → tx_R tx_E)
  | 0 => none
  | n + 1 => some (tx_ex K pk (tx_in K pk n))
abbrev tx_exp (K : Nat) (pk : Nat → Nat) (n : Nat) : Nat → tx_R tx_E := tx_ex K pk (tx_in K pk n)
abbrev tx_C : Type := Option tx_E × tx_E
def tx_cl (K : Nat) (pk : Nat → Nat) (p : Nat) : tx_R tx_C :=
  match tx_exp K pk 10 p with
  | .error q => .error q
  | .ok (a, q) => if pk q = 63 then
      match tx_exp K pk 10 (q + 1) with
      | .error q' => .error q'
      | .ok (b, q') => .ok ((some a, b), q')
    else .ok ((none, a), q)
def tx_txt (K : Nat) (pk : Nat → Nat) : Nat → Nat → tx_R (List tx_C)
  | 0, p => .ok ([], p)
  | k + 1, p =>
    match tx_cl K pk p with
    | .error q => .error q
    | .ok (c, q) => if pk q = 256 then .ok ([c], q) else if pk q = 59 then
        (if pk (q + 1) = 256 then .ok ([c], q + 1) else
          match tx_txt K pk k (q + 1) with
          | .ok (cs, q') => .ok (c :: cs, q')
          | .error q' => .error q')
      else .error q
/-- which clause gives, and what -/
def tx_gv (V : Nat → Int32) : Option tx_E → Int32
  | none => 1
  | some a => tx_ev V a
def tx_val (V : Nat → Int32) : List tx_C → Nat → Int32 × Int32
  | [], _ => (0, -1)
  | (c, v) :: t, i => if tx_gv V c = 0 then tx_val V t (i + 1) else (tx_ev V v, nI i)
def tx_rc : tx_C → List (Nat × Nat)
  | (none, v) => (3, 0) :: tx_rr v
  | (some a, v) => (3, 0) :: (tx_rr v ++ (2, 0) :: tx_rr a)
def tx_rt : List tx_C → List (Nat × Nat)
  | [] => []
  | c :: t => tx_rt t ++ tx_rc c
/-- the reference's table of waiting signs -/
def tx_done (f : Nat) : List Nat → List (Nat × Nat) → List Nat × List (Nat × Nat)
  | [], S => ([], S)
  | x :: w, S => if x ≠ 4 ∧ f ≤ x / 10 then tx_done f w ((x, 0) :: S) else (x :: w, S)
def tx_c4 : List Nat → Nat
  | [] => 0
  | x :: w => tx_c4 w + (if x = 4 then 1 else 0)
def tx_fl : List Nat → List (Nat × Nat) → List (Nat × Nat)
  | [], S => S
  | x :: E, S => tx_fl E ((x, 0) :: S)
def tx_hi (t : Nat) (E : List Nat) : Prop := ∀ x ∈ E, x ≠ 4 ∧ t ≤ x / 10
def tx_low (t : Nat) : List Nat → Prop
  | [] => True
  | x :: _ => x = 4 ∨ x / 10 < t
theorem tx_done_low {t : Nat} {w : List Nat} {S : List (Nat × Nat)} (h : tx_low t w) : tx_done t w S = (w, S) := by
  cases w with
  | nil => rfl
  | cons x w =>
    unfold tx_done
    rw [if_neg]
    intro q
    rcases h with h | h
    · exact q.1 h
    · omega
theorem tx_done_app {t : Nat} {w : List Nat} (h : tx_low t w) : ∀ {E : List Nat} {S : List (Nat × Nat)}, tx_hi t E → tx_done t (E ++ w) S = (w, tx_fl E S)
  | [], S, _ => tx_done_low h
  | x :: E, S, hE => by
    show tx_done t (x :: (E ++ w)) S = _
    unfold tx_done
    rw [if_pos (hE x (List.mem_cons_self ..))]
    exact tx_done_app h (fun y hy => hE y (List.mem_cons_of_mem _ hy))
theorem tx_fl_app : ∀ (E F : List Nat) (S : List (Nat × Nat)), tx_fl (E ++ F) S = tx_fl F (tx_fl E S)
  | [], _, _ => rfl
  | x :: E, F, S => tx_fl_app E F ((x, 0) :: S)
theorem tx_c4_hi {t : Nat} {w : List Nat} : ∀ {E : List Nat}, tx_hi t E → tx_c4 (E ++ w) = tx_c4 w
  | [], _ => rfl
  | x :: E, h => by
    show tx_c4 (E ++ w) + _ = _
    rw [tx_c4_hi (fun y hy => h y (List.mem_cons_of_mem _ hy)), if_neg (h x (List.mem_cons_self ..)).1, Nat.add_zero]
theorem tx_hi_mono {t u : Nat} (h : u ≤ t) {E : List Nat} (hE : tx_hi t E) : tx_hi u E := fun x hx => ⟨(hE x hx).1, Nat.le_trans h (hE x hx).2⟩
theorem tx_hi_app {t : Nat} {E F : List Nat} (hE : tx_hi t E) (hF : tx_hi t F) : tx_hi t (E ++ F) := fun x hx => (List.mem_append.mp hx).elim (hE x) (hF x)
def tx_sg (x : Nat) : Nat := if tx_mul x ≠ 0 then tx_mul x else if tx_add x ≠ 0 then tx_add x else tx_rel x
/-- a run of the reference's table: at p, the waiting signs w (the top first), the steps S (the latest first), is an operand wanted, was it asked, may the text end -/
def tx_St (K len : Nat) (b : Nat → Nat) (P : Nat → List Nat → List (Nat × Nat) → Bool → Bool → Bool → tx_O → Prop) : Prop :=
  (∀ (p : Nat) (w : List Nat) (S : List (Nat × Nat)) (asked : Bool) (may : Bool) (O : tx_O), p < len → tx_dg (b p) → ¬ tx_dg (tx_pk len b (tx_num (tx_pk len b) 6 0 p).2) → P (tx_num (tx_pk len b) 6 0 p).2 w ((1, (tx_num (tx_pk len b) 6 0 p).1) :: S) false asked false O → P p w S true asked may O) ∧
  (∀ (p : Nat) (w : List Nat) (S : List (Nat × Nat)) (asked : Bool) (may : Bool), p < len → tx_dg (b p) → tx_dg (tx_pk len b (tx_num (tx_pk len b) 6 0 p).2) → P p w S true asked may (.error (tx_num (tx_pk len b) 6 0 p).2)) ∧
  (∀ (p : Nat) (w : List Nat) (S : List (Nat × Nat)) (asked : Bool) (may : Bool) (O : tx_O), p < len → b p ∈ tx_nm K → P (p + 1) w ((100 + b p, 0) :: S) false asked false O → P p w S true asked may O) ∧
  (∀ (p : Nat) (w : List Nat) (S : List (Nat × Nat)) (asked : Bool) (may : Bool) (O : tx_O), p < len → b p = 40 → tx_c4 w < 10 → P (p + 1) (4 :: w) S true asked false O → P p w S true asked may O) ∧
  (∀ (p : Nat) (w : List Nat) (S : List (Nat × Nat)) (asked : Bool) (may : Bool), p < len → ¬ tx_dg (b p) → b p ∉ tx_nm K → ¬ (b p = 40 ∧ tx_c4 w < 10) → P p w S true asked may (.error p)) ∧
  (∀ (p : Nat) (w : List Nat) (S : List (Nat × Nat)) (asked : Bool) (may : Bool) (O : tx_O) (w1 : List Nat) (S1 : List (Nat × Nat)), p < len → tx_sg (b p) ≠ 0 → tx_rel (b p) = 0 → tx_done (tx_sg (b p) / 10) w S = (w1, S1) → P (p + 1) (tx_sg (b p) :: w1) S1 true asked may O → P p w S false asked may O) ∧
  (∀ (p : Nat) (w : List Nat) (S : List (Nat × Nat)) (asked : Bool) (may : Bool) (O : tx_O) (w1 : List Nat) (S1 : List (Nat × Nat)), p < len → tx_rel (b p) ≠ 0 → tx_done 5 w S = (w1, S1) → (∀ x y, w1 = x :: y → ¬ x / 10 = 4) → P (p + 1) (tx_rel (b p) :: w1) S1 true asked may O → P p w S false asked may O) ∧
  (∀ (p : Nat) (w : List Nat) (S : List (Nat × Nat)) (asked : Bool) (may : Bool) (x : Nat) (w1 : List Nat) (S1 : List (Nat × Nat)), p < len → tx_rel (b p) ≠ 0 → tx_done 5 w S = (x :: w1, S1) → x / 10 = 4 → P p w S false asked may (.error p)) ∧
  (∀ (p : Nat) (w : List Nat) (S : List (Nat × Nat)) (asked : Bool) (may : Bool) (O : tx_O) (x : Nat) (w1 : List Nat) (S1 : List (Nat × Nat)), p < len → b p = 41 → tx_done 1 w S = (x :: w1, S1) → P (p + 1) w1 S1 false asked may O → P p w S false asked may O) ∧
  (∀ (p : Nat) (w : List Nat) (S : List (Nat × Nat)) (asked : Bool) (may : Bool) (S1 : List (Nat × Nat)), p < len → b p = 41 → tx_done 1 w S = ([], S1) → P p w S false asked may (.error p)) ∧
  (∀ (p : Nat) (w : List Nat) (S : List (Nat × Nat)) (may : Bool) (O : tx_O) (S1 : List (Nat × Nat)), p < len → b p = 63 → tx_done 1 w S = ([], S1) → P (p + 1) [] ((2, 0) :: S1) true true false O → P p w S false false may O) ∧
  (∀ (p : Nat) (w : List Nat) (S : List (Nat × Nat)) (asked : Bool) (may : Bool) (O : tx_O) (S1 : List (Nat × Nat)), p < len → b p = 59 → tx_done 1 w S = ([], S1) → P (p + 1) [] ((3, 0) :: S1) true false true O → P p w S false asked may O) ∧
  (∀ (p : Nat) (w : List Nat) (S : List (Nat × Nat)) (asked : Bool) (may : Bool) (x : Nat) (w1 : List Nat) (S1 : List (Nat × Nat)), p < len → b p = 63 ∨ b p = 59 → tx_done 1 w S = (x :: w1, S1) → P p w S false asked may (.error p)) ∧
  (∀ (p : Nat) (w : List Nat) (S : List (Nat × Nat)) (may : Bool) (S1 : List (Nat × Nat)), p < len → b p = 63 → tx_done 1 w S = ([], S1) → P p w S false true may (.error p)) ∧
  (∀ (p : Nat) (w : List Nat) (S : List (Nat × Nat)) (asked : Bool) (may : Bool), p < len → tx_sg (b p) = 0 → b p ≠ 41 → b p ≠ 63 → b p ≠ 59 → P p w S false asked may (.error p)) ∧
  (∀ (p : Nat) (w : List Nat) (S : List (Nat × Nat)) (asked : Bool), p = len → P p w S true asked true (.ok S)) ∧
  (∀ (p : Nat) (w : List Nat) (S : List (Nat × Nat)) (asked : Bool), p = len → P p w S true asked false (.error len)) ∧
  (∀ (p : Nat) (w : List Nat) (S : List (Nat × Nat)) (asked : Bool) (may : Bool) (S1 : List (Nat × Nat)), p = len → tx_done 1 w S = ([], S1) → P p w S false asked may (.ok ((3, 0) :: S1))) ∧
  (∀ (p : Nat) (w : List Nat) (S : List (Nat × Nat)) (asked : Bool) (may : Bool) (x : Nat) (w1 : List Nat) (S1 : List (Nat × Nat)), p = len → tx_done 1 w S = (x :: w1, S1) → P p w S false asked may (.error len))
def tx_Run (K len : Nat) (b : Nat → Nat) (p : Nat) (w : List Nat) (S : List (Nat × Nat)) (wants asked may : Bool) (O : tx_O) : Prop := ∀ P, tx_St K len b P → P p w S wants asked may O
theorem tx_Run.num {K len : Nat} {b : Nat → Nat} {p : Nat} {w : List Nat} {S : List (Nat × Nat)} {asked : Bool} {may : Bool} {O : tx_O}  (h0 : p < len) (h1 : tx_dg (b p)) (h2 : ¬ tx_dg (tx_pk len b (tx_num (tx_pk len b) 6 0 p).2)) (h3 : tx_Run K len b (tx_num (tx_pk len b) 6 0 p).2 w ((1, (tx_num (tx_pk len b) 6 0 p).1) :: S) false asked false O) : tx_Run K len b p w S true asked may O := fun P hP => hP.1 p w S asked may O  h0 h1 h2 (h3 P hP)
theorem tx_Run.numBad {K len : Nat} {b : Nat → Nat} {p : Nat} {w : List Nat} {S : List (Nat × Nat)} {asked : Bool} {may : Bool}  (h0 : p < len) (h1 : tx_dg (b p)) (h2 : tx_dg (tx_pk len b (tx_num (tx_pk len b) 6 0 p).2)) : tx_Run K len b p w S true asked may (.error (tx_num (tx_pk len b) 6 0 p).2) := fun P hP => hP.2.1 p w S asked may  h0 h1 h2
theorem tx_Run.nam {K len : Nat} {b : Nat → Nat} {p : Nat} {w : List Nat} {S : List (Nat × Nat)} {asked : Bool} {may : Bool} {O : tx_O}  (h0 : p < len) (h1 : b p ∈ tx_nm K) (h2 : tx_Run K len b (p + 1) w ((100 + b p, 0) :: S) false asked false O) : tx_Run K len b p w S true asked may O := fun P hP => hP.2.2.1 p w S asked may O  h0 h1 (h2 P hP)
theorem tx_Run.opn {K len : Nat} {b : Nat → Nat} {p : Nat} {w : List Nat} {S : List (Nat × Nat)} {asked : Bool} {may : Bool} {O : tx_O}  (h0 : p < len) (h1 : b p = 40) (h2 : tx_c4 w < 10) (h3 : tx_Run K len b (p + 1) (4 :: w) S true asked false O) : tx_Run K len b p w S true asked may O := fun P hP => hP.2.2.2.1 p w S asked may O  h0 h1 h2 (h3 P hP)
theorem tx_Run.opBad {K len : Nat} {b : Nat → Nat} {p : Nat} {w : List Nat} {S : List (Nat × Nat)} {asked : Bool} {may : Bool}  (h0 : p < len) (h1 : ¬ tx_dg (b p)) (h2 : b p ∉ tx_nm K) (h3 : ¬ (b p = 40 ∧ tx_c4 w < 10)) : tx_Run K len b p w S true asked may (.error p) := fun P hP => hP.2.2.2.2.1 p w S asked may  h0 h1 h2 h3
theorem tx_Run.sgn {K len : Nat} {b : Nat → Nat} {p : Nat} {w : List Nat} {S : List (Nat × Nat)} {asked : Bool} {may : Bool} {O : tx_O} (w1 : List Nat) (S1 : List (Nat × Nat)) (h0 : p < len) (h1 : tx_sg (b p) ≠ 0) (h2 : tx_rel (b p) = 0) (h3 : tx_done (tx_sg (b p) / 10) w S = (w1, S1)) (h4 : tx_Run K len b (p + 1) (tx_sg (b p) :: w1) S1 true asked may O) : tx_Run K len b p w S false asked may O := fun P hP => hP.2.2.2.2.2.1 p w S asked may O w1 S1 h0 h1 h2 h3 (h4 P hP)
theorem tx_Run.rel {K len : Nat} {b : Nat → Nat} {p : Nat} {w : List Nat} {S : List (Nat × Nat)} {asked : Bool} {may : Bool} {O : tx_O} (w1 : List Nat) (S1 : List (Nat × Nat)) (h0 : p < len) (h1 : tx_rel (b p) ≠ 0) (h2 : tx_done 5 w S = (w1, S1)) (h3 : (∀ x y, w1 = x :: y → ¬ x / 10 = 4)) (h4 : tx_Run K len b (p + 1) (tx_rel (b p) :: w1) S1 true asked may O) : tx_Run K len b p w S false asked may O := fun P hP => hP.2.2.2.2.2.2.1 p w S asked may O w1 S1 h0 h1 h2 h3 (h4 P hP)
theorem tx_Run.relBad {K len : Nat} {b : Nat → Nat} {p : Nat} {w : List Nat} {S : List (Nat × Nat)} {asked : Bool} {may : Bool} (x : Nat) (w1 : List Nat) (S1 : List (Nat × Nat)) (h0 : p < len) (h1 : tx_rel (b p) ≠ 0) (h2 : tx_done 5 w S = (x :: w1, S1)) (h3 : x / 10 = 4) : tx_Run K len b p w S false asked may (.error p) := fun P hP => hP.2.2.2.2.2.2.2.1 p w S asked may x w1 S1 h0 h1 h2 h3
theorem tx_Run.close {K len : Nat} {b : Nat → Nat} {p : Nat} {w : List Nat} {S : List (Nat × Nat)} {asked : Bool} {may : Bool} {O : tx_O} (x : Nat) (w1 : List Nat) (S1 : List (Nat × Nat)) (h0 : p < len) (h1 : b p = 41) (h2 : tx_done 1 w S = (x :: w1, S1)) (h3 : tx_Run K len b (p + 1) w1 S1 false asked may O) : tx_Run K len b p w S false asked may O := fun P hP => hP.2.2.2.2.2.2.2.2.1 p w S asked may O x w1 S1 h0 h1 h2 (h3 P hP)
theorem tx_Run.closeBad {K len : Nat} {b : Nat → Nat} {p : Nat} {w : List Nat} {S : List (Nat × Nat)} {asked : Bool} {may : Bool} (S1 : List (Nat × Nat)) (h0 : p < len) (h1 : b p = 41) (h2 : tx_done 1 w S = ([], S1)) : tx_Run K len b p w S false asked may (.error p) := fun P hP => hP.2.2.2.2.2.2.2.2.2.1 p w S asked may S1 h0 h1 h2
theorem tx_Run.ask {K len : Nat} {b : Nat → Nat} {p : Nat} {w : List Nat} {S : List (Nat × Nat)} {may : Bool} {O : tx_O} (S1 : List (Nat × Nat)) (h0 : p < len) (h1 : b p = 63) (h2 : tx_done 1 w S = ([], S1)) (h3 : tx_Run K len b (p + 1) [] ((2, 0) :: S1) true true false O) : tx_Run K len b p w S false false may O := fun P hP => hP.2.2.2.2.2.2.2.2.2.2.1 p w S may O S1 h0 h1 h2 (h3 P hP)
theorem tx_Run.semi {K len : Nat} {b : Nat → Nat} {p : Nat} {w : List Nat} {S : List (Nat × Nat)} {asked : Bool} {may : Bool} {O : tx_O} (S1 : List (Nat × Nat)) (h0 : p < len) (h1 : b p = 59) (h2 : tx_done 1 w S = ([], S1)) (h3 : tx_Run K len b (p + 1) [] ((3, 0) :: S1) true false true O) : tx_Run K len b p w S false asked may O := fun P hP => hP.2.2.2.2.2.2.2.2.2.2.2.1 p w S asked may O S1 h0 h1 h2 (h3 P hP)
theorem tx_Run.qcBad {K len : Nat} {b : Nat → Nat} {p : Nat} {w : List Nat} {S : List (Nat × Nat)} {asked : Bool} {may : Bool} (x : Nat) (w1 : List Nat) (S1 : List (Nat × Nat)) (h0 : p < len) (h1 : b p = 63 ∨ b p = 59) (h2 : tx_done 1 w S = (x :: w1, S1)) : tx_Run K len b p w S false asked may (.error p) := fun P hP => hP.2.2.2.2.2.2.2.2.2.2.2.2.1 p w S asked may x w1 S1 h0 h1 h2
theorem tx_Run.askBad {K len : Nat} {b : Nat → Nat} {p : Nat} {w : List Nat} {S : List (Nat × Nat)} {may : Bool} (S1 : List (Nat × Nat)) (h0 : p < len) (h1 : b p = 63) (h2 : tx_done 1 w S = ([], S1)) : tx_Run K len b p w S false true may (.error p) := fun P hP => hP.2.2.2.2.2.2.2.2.2.2.2.2.2.1 p w S may S1 h0 h1 h2
theorem tx_Run.other {K len : Nat} {b : Nat → Nat} {p : Nat} {w : List Nat} {S : List (Nat × Nat)} {asked : Bool} {may : Bool}  (h0 : p < len) (h1 : tx_sg (b p) = 0) (h2 : b p ≠ 41) (h3 : b p ≠ 63) (h4 : b p ≠ 59) : tx_Run K len b p w S false asked may (.error p) := fun P hP => hP.2.2.2.2.2.2.2.2.2.2.2.2.2.2.1 p w S asked may  h0 h1 h2 h3 h4
theorem tx_Run.endMay {K len : Nat} {b : Nat → Nat} {p : Nat} {w : List Nat} {S : List (Nat × Nat)} {asked : Bool}  (h0 : p = len) : tx_Run K len b p w S true asked true (.ok S) := fun P hP => hP.2.2.2.2.2.2.2.2.2.2.2.2.2.2.2.1 p w S asked  h0
theorem tx_Run.endBad {K len : Nat} {b : Nat → Nat} {p : Nat} {w : List Nat} {S : List (Nat × Nat)} {asked : Bool}  (h0 : p = len) : tx_Run K len b p w S true asked false (.error len) := fun P hP => hP.2.2.2.2.2.2.2.2.2.2.2.2.2.2.2.2.1 p w S asked  h0
theorem tx_Run.endOk {K len : Nat} {b : Nat → Nat} {p : Nat} {w : List Nat} {S : List (Nat × Nat)} {asked : Bool} {may : Bool} (S1 : List (Nat × Nat)) (h0 : p = len) (h1 : tx_done 1 w S = ([], S1)) : tx_Run K len b p w S false asked may (.ok ((3, 0) :: S1)) := fun P hP => hP.2.2.2.2.2.2.2.2.2.2.2.2.2.2.2.2.2.1 p w S asked may S1 h0 h1
theorem tx_Run.endOpen {K len : Nat} {b : Nat → Nat} {p : Nat} {w : List Nat} {S : List (Nat × Nat)} {asked : Bool} {may : Bool} (x : Nat) (w1 : List Nat) (S1 : List (Nat × Nat)) (h0 : p = len) (h1 : tx_done 1 w S = (x :: w1, S1)) : tx_Run K len b p w S false asked may (.error len) := fun P hP => hP.2.2.2.2.2.2.2.2.2.2.2.2.2.2.2.2.2.2 p w S asked may x w1 S1 h0 h1
section TXQ
variable {K len : Nat} {b : Nat → Nat}
theorem tx_pk_lt {p : Nat} (h : p < len) : tx_pk len b p = b p := if_pos h
theorem tx_pk_ge {p : Nat} (h : len ≤ p) : tx_pk len b p = 256 := if_neg (by omega)
theorem tx_pk_ne {p x : Nat} (h : tx_pk len b p = x) (hx : x ≠ 256) : p < len := Nat.lt_of_not_le (fun q => hx (h.symm.trans (tx_pk_ge q)))
theorem tx_dg_lt {p : Nat} (h : tx_dg (tx_pk len b p)) : p < len := Nat.lt_of_not_le (fun q => by rw [tx_pk_ge q] at h; exact absurd h (by decide))
theorem tx_num_f : ∀ (k v p j : Nat), v < 10 ^ j → p ≤ len → (tx_num (tx_pk len b) k v p).1 < 10 ^ (j + k) ∧ p ≤ (tx_num (tx_pk len b) k v p).2 ∧ (tx_num (tx_pk len b) k v p).2 ≤ len
  | 0, v, p, j, h, hp => ⟨h, Nat.le_refl _, hp⟩
  | k + 1, v, p, j, h, hp => by
    unfold tx_num
    by_cases q : tx_dg (tx_pk len b p)
    · rw [if_pos q]
      have q2 := tx_dg_lt q
      have e : 10 ^ (j + 1) = 10 ^ j * 10 := Nat.pow_succ ..
      have h2 : v * 10 + (tx_pk len b p - 48) < 10 ^ (j + 1) := by
        have := q.2
        omega
      obtain ⟨a1, a2, a3⟩ := tx_num_f k (v * 10 + (tx_pk len b p - 48)) (p + 1) (j + 1) h2 q2
      exact ⟨by rw [show j + (k + 1) = j + 1 + k by omega]; exact a1, by omega, a3⟩
    · rw [if_neg q]
      exact ⟨Nat.lt_of_lt_of_le h (Nat.pow_le_pow_right (by decide) (by omega)), Nat.le_refl _, hp⟩
theorem tx_num_p {p : Nat} (h : tx_dg (tx_pk len b p)) : p < (tx_num (tx_pk len b) 6 0 p).2 := by
  have q2 := tx_dg_lt h
  have e : tx_num (tx_pk len b) 6 0 p = tx_num (tx_pk len b) 5 (0 * 10 + (tx_pk len b p - 48)) (p + 1) := if_pos h
  rw [e]
  have := (tx_num_f (len := len) (b := b) 5 (0 * 10 + (tx_pk len b p - 48)) (p + 1) 2 (by have := h.2; omega) q2).2.1
  omega
def tx_sp (K len : Nat) (b : Nat → Nat) (f : Nat → tx_R tx_E) (t m : Nat) (Z : Nat → Prop) : Prop :=
  ∀ p w S asked may, p ≤ len → (may = true → p < len) → tx_low t w → tx_c4 w = m →
   (∀ q, f p = .error q → tx_Run K len b p w S true asked may (.error q) ∧ q ≤ len) ∧
   (∀ e q, f p = .ok (e, q) → tx_wf K e ∧ p < q ∧ q ≤ len ∧ Z (tx_pk len b q) ∧ ∀ O, (∀ E S1, tx_hi t E → tx_fl E S1 = tx_rr e ++ S → tx_Run K len b q (E ++ w) S1 false asked false O) → tx_Run K len b p w S true asked may O)
def tx_bs (w : List Nat) : Prop := w = [] ∨ ∃ y, w = 4 :: y
theorem tx_bs_low {w : List Nat} (h : tx_bs w) (t : Nat) : tx_low t w := by
  rcases h with rfl | ⟨y, rfl⟩
  · trivial
  · exact Or.inl rfl
def tx_exS (K len : Nat) (b : Nat → Nat) (f : Nat → tx_R tx_E) (m : Nat) : Prop :=
  ∀ p w S asked may, p ≤ len → (may = true → p < len) → tx_bs w → tx_c4 w = m →
   (∀ q, f p = .error q → tx_Run K len b p w S true asked may (.error q) ∧ q ≤ len) ∧
   (∀ e q, f p = .ok (e, q) → tx_wf K e ∧ p < q ∧ q ≤ len ∧ (tx_mul (tx_pk len b q) = 0 ∧ tx_add (tx_pk len b q) = 0) ∧ ∀ O, (∀ E S1, tx_hi 4 E → tx_fl E S1 = tx_rr e ++ S → (tx_rel (tx_pk len b q) ≠ 0 → tx_Run K len b q (E ++ w) S1 false asked false (.error q)) → tx_Run K len b q (E ++ w) S1 false asked false O) → tx_Run K len b p w S true asked may O)
theorem tx_hi_nil {t : Nat} : tx_hi t [] := fun x h => absurd h (List.not_mem_nil)
/-- behind an expression: a sign, or none -/
theorem tx_stop {x : Nat} (h1 : tx_mul x = 0) (h2 : tx_add x = 0) (h3 : tx_rel x = 0) : tx_sg x = 0 := by
  unfold tx_sg
  rw [h1, h2, h3]
  rfl
theorem tx_opnd_sp (hl : len ≤ 160) {m n : Nat} (hmn : m + n = 10) (hin : ∀ n', n = n' + 1 → tx_exS K len b (tx_ex K (tx_pk len b) (tx_in K (tx_pk len b) n')) (m + 1)) : tx_sp K len b (tx_opnd K (tx_pk len b) (tx_in K (tx_pk len b) n)) 7 m (fun _ => True) := by
  intro p w S asked may hp hmy hw hm
  unfold tx_opnd
  by_cases d1 : tx_dg (tx_pk len b p)
  · have hlt := tx_dg_lt d1
    have d1' : tx_dg (b p) := by rw [← tx_pk_lt (len := len) (b := b) hlt]; exact d1
    obtain ⟨n1, n2, n3⟩ := tx_num_f (len := len) (b := b) 6 0 p 0 (by decide) hp
    have n4 := tx_num_p d1
    rw [if_pos d1]
    by_cases d2 : tx_dg (tx_pk len b (tx_num (tx_pk len b) 6 0 p).2)
    · rw [if_pos d2]
      refine ⟨fun q e => ?_, fun e q h => (by cases h)⟩
      cases e
      exact ⟨.numBad hlt d1' d2, n3⟩
    · rw [if_neg d2]
      refine ⟨fun q h => (by cases h), fun e q h => ?_⟩
      cases h
      exact ⟨tx_wf_n n1, n4, n3, trivial, fun O hO => .num hlt d1' d2 (hO [] _ tx_hi_nil rfl)⟩
  · rw [if_neg d1]
    by_cases d3 : tx_pk len b p = 40
    · have hlt := tx_pk_ne d3 (by decide)
      have d3' : b p = 40 := by rw [← tx_pk_lt (len := len) (b := b) hlt]; exact d3
      rw [if_pos d3]
      cases n with
      | zero =>
        refine ⟨fun q e => ?_, fun e q h => (by cases h)⟩
        have e' : (Except.error p : tx_R tx_E) = .error q := e
        cases e'
        refine ⟨.opBad hlt ?_ ?_ (fun q => by omega), hp⟩
        · rw [d3']; decide
        · rw [d3']; unfold tx_nm; split <;> decide
      | succ n =>
        have hI := hin n rfl (p + 1) (4 :: w) S asked false hlt (fun z => by cases z) (Or.inr ⟨w, rfl⟩) (by show tx_c4 w + 1 = _; omega)
        show (∀ q, (match tx_ex K (tx_pk len b) (tx_in K (tx_pk len b) n) (p + 1) with | .ok (e, q) => if tx_pk len b q = 41 then Except.ok (e, q + 1) else .error q | .error q => .error q) = .error q → _) ∧ _
        show _ ∧ (∀ e q, (match tx_ex K (tx_pk len b) (tx_in K (tx_pk len b) n) (p + 1) with | .ok (e, q) => if tx_pk len b q = 41 then Except.ok (e, q + 1) else .error q | .error q => .error q) = .ok (e, q) → _)
        cases hf : tx_ex K (tx_pk len b) (tx_in K (tx_pk len b) n) (p + 1) with
        | error q0 =>
          refine ⟨fun q e => ?_, fun e q h => (by cases h)⟩
          cases e
          obtain ⟨a1, a2⟩ := hI.1 _ hf
          exact ⟨.opn hlt d3' (by omega) a1, a2⟩
        | ok z0 =>
          obtain ⟨e0, q0⟩ := z0
          obtain ⟨a1, a2, a3, a4, a5⟩ := hI.2 _ _ hf
          dsimp only
          by_cases d4 : tx_pk len b q0 = 41
          · rw [if_pos d4]
            refine ⟨fun q h => (by cases h), fun e q h => ?_⟩
            cases h
            have h4 := tx_pk_ne d4 (by decide)
            have d4' : b q0 = 41 := by rw [← tx_pk_lt (len := len) (b := b) h4]; exact d4
            refine ⟨a1, by omega, h4, trivial, fun O hO => .opn hlt d3' (by omega) (a5 O (fun E S1 hE hS _ => ?_))⟩
            refine .close 4 w (tx_rr e0 ++ S) h4 d4' ?_ (hO [] _ tx_hi_nil rfl)
            rw [← hS]
            exact tx_done_app (t := 1) (w := 4 :: w) (Or.inl rfl) (tx_hi_mono (by decide) hE)
          · rw [if_neg d4]
            refine ⟨fun q e => ?_, fun e q h => (by cases h)⟩
            cases e
            refine ⟨.opn hlt d3' (by omega) (a5 _ (fun E S1 hE hS hr => ?_)), a3⟩
            have hd := tx_done_app (t := 1) (w := 4 :: w) (S := S1) (Or.inl rfl) (tx_hi_mono (by decide) hE)
            by_cases d5 : q0 = len
            · rw [d5]; exact .endOpen _ _ _ rfl hd
            · have h5 : q0 < len := by omega
              have hb := tx_pk_lt (len := len) (b := b) h5
              by_cases d6 : tx_rel (tx_pk len b q0) = 0
              · by_cases d7 : b q0 = 63 ∨ b q0 = 59
                · exact .qcBad _ _ _ h5 d7 hd
                · refine .other h5 (by rw [← hb]; exact tx_stop a4.1 a4.2 d6) (by rw [← hb]; exact d4) (fun z => d7 (Or.inl z)) (fun z => d7 (Or.inr z))
              · exact hr d6
    · rw [if_neg d3]
      by_cases d4 : tx_pk len b p ∈ tx_nm K
      · have hlt : p < len := Nat.lt_of_not_le (fun q => by rw [tx_pk_ge q] at d4; unfold tx_nm at d4; split at d4 <;> exact absurd d4 (by decide))
        rw [if_pos d4]
        refine ⟨fun q h => (by cases h), fun e q h => ?_⟩
        cases h
        refine ⟨tx_wf_v d4, by omega, hlt, trivial, fun O hO => ?_⟩
        rw [tx_pk_lt hlt] at d4
        refine .nam hlt d4 (hO [] _ tx_hi_nil ?_)
        rw [tx_pk_lt hlt]; rfl
      · rw [if_neg d4]
        refine ⟨fun q e => ?_, fun e q h => (by cases h)⟩
        cases e
        refine ⟨?_, hp⟩
        by_cases h5 : p = len
        · cases may with
          | true => exact absurd (hmy rfl) (by omega)
          | false => rw [h5]; exact .endBad rfl
        · have hlt : p < len := by omega
          rw [tx_pk_lt hlt] at d1 d3 d4
          exact .opBad hlt d1 d4 (fun z => d3 z.1)
end TXQ
section TXR
variable {K len : Nat} {b : Nat → Nat}
theorem tx_loop_sp {sg : Nat → Nat} {f : Nat → tx_R tx_E} {t m : Nat} {Z : Nat → Prop} (hsg : ∀ x, sg x ≠ 0 → tx_sg x = sg x ∧ sg x / 10 = t ∧ tx_rel x = 0 ∧ sg x ≠ 4 ∧ (sg x = 40 ∨ sg x = 41 ∨ sg x = 42 ∨ sg x = 50 ∨ sg x = 51 ∨ sg x = 60 ∨ sg x = 61 ∨ sg x = 62)) (hs0 : sg 256 = 0) (hf : tx_sp K len b f (t + 1) m Z) {w : List Nat} {S : List (Nat × Nat)} {asked : Bool} (hw : tx_low t w) (hm : tx_c4 w = m) :
    ∀ (k : Nat) (e0 : tx_E) (p : Nat), p ≤ len → len ≤ k + p → tx_wf K e0 → Z (tx_pk len b p) → ∀ E0 S0, tx_hi t E0 → tx_fl E0 S0 = tx_rr e0 ++ S →
    (∀ q, tx_loop sg f (tx_pk len b) k e0 p = .error q → tx_Run K len b p (E0 ++ w) S0 false asked false (.error q) ∧ q ≤ len) ∧
    (∀ e q, tx_loop sg f (tx_pk len b) k e0 p = .ok (e, q) → tx_wf K e ∧ p ≤ q ∧ q ≤ len ∧ (sg (tx_pk len b q) = 0 ∧ Z (tx_pk len b q)) ∧ ∀ O, (∀ E S1, tx_hi t E → tx_fl E S1 = tx_rr e ++ S → tx_Run K len b q (E ++ w) S1 false asked false O) → tx_Run K len b p (E0 ++ w) S0 false asked false O) := by
  intro k
  induction k with
  | zero =>
    intro e0 p hp hl hwf hZ E0 S0 hE hS
    have hpl : p = len := by omega
    refine ⟨fun q h => (by cases h), fun e q h => ?_⟩
    have h' : (Except.ok (e0, p) : tx_R tx_E) = .ok (e, q) := h
    cases h'
    exact ⟨hwf, Nat.le_refl _, hp, ⟨by rw [tx_pk_ge (by omega)]; exact hs0, hZ⟩, fun O hO => hO E0 S0 hE hS⟩
  | succ k ih =>
    intro e0 p hp hl hwf hZ E0 S0 hE hS
    have hu : tx_loop sg f (tx_pk len b) (k + 1) e0 p = if sg (tx_pk len b p) = 0 then .ok (e0, p) else (match f (p + 1) with | .ok (b1, q) => tx_loop sg f (tx_pk len b) k (tx_B (sg (tx_pk len b p)) e0 b1) q | .error q => .error q) := rfl
    rw [hu]
    by_cases c1 : sg (tx_pk len b p) = 0
    · rw [if_pos c1]
      refine ⟨fun q h => (by cases h), fun e q h => ?_⟩
      cases h
      exact ⟨hwf, Nat.le_refl _, hp, ⟨c1, hZ⟩, fun O hO => hO E0 S0 hE hS⟩
    · rw [if_neg c1]
      have hlt : p < len := Nat.lt_of_not_le (fun z => c1 (by rw [tx_pk_ge z]; exact hs0))
      obtain ⟨g1, g2, g3, g4, g5⟩ := hsg _ c1
      have hb := tx_pk_lt (len := len) (b := b) hlt
      have hlow : tx_low (t + 1) (sg (tx_pk len b p) :: w) := Or.inr (by omega)
      have hI := hf (p + 1) (sg (tx_pk len b p) :: w) (tx_rr e0 ++ S) asked false hlt (fun z => by cases z) hlow (by show tx_c4 w + _ = _; rw [if_neg g4]; exact hm)
      have hstep : ∀ O, tx_Run K len b (p + 1) (sg (tx_pk len b p) :: w) (tx_rr e0 ++ S) true asked false O → tx_Run K len b p (E0 ++ w) S0 false asked false O := fun O hO => by
        refine .sgn w (tx_rr e0 ++ S) hlt (by rw [← hb, g1]; exact c1) (by rw [← hb]; exact g3) ?_ (by rw [← hb, g1]; exact hO)
        rw [← hb, g1, g2, ← hS]
        exact tx_done_app hw hE
      cases hf2 : f (p + 1) with
      | error q0 =>
        refine ⟨fun q h => ?_, fun e q h => (by cases h)⟩
        injection h with h
        subst h
        obtain ⟨a1, a2⟩ := hI.1 _ hf2
        exact ⟨hstep _ a1, a2⟩
      | ok z0 =>
        obtain ⟨b1, q0⟩ := z0
        obtain ⟨a1, a2, a3, a4, a5⟩ := hI.2 _ _ hf2
        have key : ∀ E S1, tx_hi (t + 1) E → tx_fl E S1 = tx_rr b1 ++ (tx_rr e0 ++ S) → tx_hi t (E ++ [sg (tx_pk len b p)]) ∧ tx_fl (E ++ [sg (tx_pk len b p)]) S1 = tx_rr (tx_B (sg (tx_pk len b p)) e0 b1) ++ S := fun E S1 h1 h2 => by
          refine ⟨tx_hi_app (tx_hi_mono (by omega) h1) (fun x hx => ?_), ?_⟩
          · rw [List.mem_singleton] at hx
            subst hx
            exact ⟨g4, by omega⟩
          · rw [tx_fl_app]
            show (sg (tx_pk len b p), 0) :: tx_fl E S1 = _
            rw [h2]
            show _ = (_ :: (tx_rr b1 ++ tx_rr e0)) ++ S
            rw [List.cons_append, List.append_assoc]
        have hw2 : tx_wf K (tx_B (sg (tx_pk len b p)) e0 b1) := tx_wf_b g5 hwf a1
        have ih2 := ih (tx_B (sg (tx_pk len b p)) e0 b1) q0 a3 (by omega) hw2 a4
        dsimp only
        refine ⟨fun q h => ⟨hstep _ (a5 _ (fun E S1 h1 h2 => ?_)), ?_⟩, fun e q h => ?_⟩
        · obtain ⟨k1, k2⟩ := key E S1 h1 h2
          have := ((ih2 _ S1 k1 k2).1 q h).1
          rw [List.append_assoc] at this
          exact this
        · obtain ⟨k1, k2⟩ := key [] (tx_rr b1 ++ (tx_rr e0 ++ S)) tx_hi_nil rfl
          exact ((ih2 _ _ k1 k2).1 q h).2
        · obtain ⟨k1, k2⟩ := key [] (tx_rr b1 ++ (tx_rr e0 ++ S)) tx_hi_nil rfl
          obtain ⟨f1, f2, f3, f4, -⟩ := (ih2 _ _ k1 k2).2 e q h
          refine ⟨f1, by omega, f3, f4, fun O hO => hstep _ (a5 _ (fun E S1 h1 h2 => ?_))⟩
          obtain ⟨k1, k2⟩ := key E S1 h1 h2
          have := ((ih2 _ S1 k1 k2).2 e q h).2.2.2.2 O hO
          rw [List.append_assoc] at this
          exact this
theorem tx_low_mono {t : Nat} {w : List Nat} (h : tx_low t w) : tx_low (t + 1) w := by
  cases w with
  | nil => trivial
  | cons x w => rcases h with h | h; exact Or.inl h; exact Or.inr (by omega)
theorem tx_chain_sp (hl : len ≤ 160) {sg : Nat → Nat} {f : Nat → tx_R tx_E} {t m : Nat} {Z : Nat → Prop} (hsg : ∀ x, sg x ≠ 0 → tx_sg x = sg x ∧ sg x / 10 = t ∧ tx_rel x = 0 ∧ sg x ≠ 4 ∧ (sg x = 40 ∨ sg x = 41 ∨ sg x = 42 ∨ sg x = 50 ∨ sg x = 51 ∨ sg x = 60 ∨ sg x = 61 ∨ sg x = 62)) (hs0 : sg 256 = 0) (hf : tx_sp K len b f (t + 1) m Z) : tx_sp K len b (tx_chain sg f (tx_pk len b)) t m (fun x => sg x = 0 ∧ Z x) := by
  intro p w S asked may hp hmy hw hm
  have hI := hf p w S asked may hp hmy (tx_low_mono hw) hm
  unfold tx_chain
  cases hf2 : f p with
  | error q0 =>
    refine ⟨fun q h => ?_, fun e q h => (by cases h)⟩
    injection h with h
    subst h
    exact hI.1 _ hf2
  | ok z0 =>
    obtain ⟨e0, q0⟩ := z0
    obtain ⟨a1, a2, a3, a4, a5⟩ := hI.2 _ _ hf2
    have hL := tx_loop_sp hsg hs0 hf (S := S) (asked := asked) hw hm 160 e0 q0 a3 (by omega) a1 a4
    dsimp only
    refine ⟨fun q h => ⟨a5 _ (fun E S1 h1 h2 => ((hL E S1 (tx_hi_mono (by omega) h1) h2).1 q h).1), ((hL [] _ tx_hi_nil rfl).1 q h).2⟩, fun e q h => ?_⟩
    obtain ⟨f1, f2, f3, f4, -⟩ := (hL [] _ tx_hi_nil rfl).2 e q h
    exact ⟨f1, by omega, f3, f4, fun O hO => a5 _ (fun E S1 h1 h2 => ((hL E S1 (tx_hi_mono (by omega) h1) h2).2 e q h).2.2.2.2 O hO)⟩
theorem tx_mul_sg (x : Nat) (h : tx_mul x ≠ 0) : tx_sg x = tx_mul x ∧ tx_mul x / 10 = 6 ∧ tx_rel x = 0 ∧ tx_mul x ≠ 4 ∧ (tx_mul x = 40 ∨ tx_mul x = 41 ∨ tx_mul x = 42 ∨ tx_mul x = 50 ∨ tx_mul x = 51 ∨ tx_mul x = 60 ∨ tx_mul x = 61 ∨ tx_mul x = 62) := by
  refine ⟨if_pos h, ?_⟩
  unfold tx_mul at h ⊢
  unfold tx_rel
  split
  · rename_i q; subst q; decide
  · split
    · rename_i q; subst q; decide
    · split
      · rename_i q; subst q; decide
      · rename_i q1 q2 q3
        rw [if_neg q1, if_neg q2, if_neg q3] at h
        exact absurd rfl h
theorem tx_add_sg (x : Nat) (h : tx_add x ≠ 0) : tx_sg x = tx_add x ∧ tx_add x / 10 = 5 ∧ tx_rel x = 0 ∧ tx_add x ≠ 4 ∧ (tx_add x = 40 ∨ tx_add x = 41 ∨ tx_add x = 42 ∨ tx_add x = 50 ∨ tx_add x = 51 ∨ tx_add x = 60 ∨ tx_add x = 61 ∨ tx_add x = 62) := by
  unfold tx_add at h
  by_cases q1 : x = 43
  · subst q1; decide
  · by_cases q2 : x = 45
    · subst q2; decide
    · rw [if_neg q1, if_neg q2] at h
      exact absurd rfl h
theorem tx_rel_sg (x : Nat) (h : tx_rel x ≠ 0) : tx_rel x / 10 = 4 ∧ tx_rel x ≠ 4 ∧ (tx_rel x = 40 ∨ tx_rel x = 41 ∨ tx_rel x = 42 ∨ tx_rel x = 50 ∨ tx_rel x = 51 ∨ tx_rel x = 60 ∨ tx_rel x = 61 ∨ tx_rel x = 62) := by
  unfold tx_rel at h
  by_cases q1 : x = 60
  · subst q1; decide
  · by_cases q2 : x = 61
    · subst q2; decide
    · by_cases q3 : x = 62
      · subst q3; decide
      · rw [if_neg q1, if_neg q2, if_neg q3] at h
        exact absurd rfl h
theorem tx_ex_sp {inner : Option (Nat → tx_R tx_E)} {m : Nat} {Z : Nat → Prop} (hZ : ∀ x, Z x → tx_mul x = 0 ∧ tx_add x = 0) (hs : tx_sp K len b (tx_sum K (tx_pk len b) inner) 5 m Z) : tx_exS K len b (tx_ex K (tx_pk len b) inner) m := by
  intro p w S asked may hp hmy hw hm
  have hI := hs p w S asked may hp hmy (tx_bs_low hw 5) hm
  unfold tx_ex
  cases hf2 : tx_sum K (tx_pk len b) inner p with
  | error q0 =>
    refine ⟨fun q h => ?_, fun e q h => (by cases h)⟩
    injection h with h
    subst h
    exact hI.1 _ hf2
  | ok z0 =>
    obtain ⟨a, q0⟩ := z0
    obtain ⟨a1, a2, a3, a4, a5⟩ := hI.2 _ _ hf2
    dsimp only
    by_cases c1 : tx_rel (tx_pk len b q0) = 0
    · rw [if_pos c1]
      refine ⟨fun q h => (by cases h), fun e q h => ?_⟩
      cases h
      exact ⟨a1, a2, a3, hZ _ a4, fun O hO => a5 O (fun E S1 h1 h2 => hO E S1 (tx_hi_mono (by decide) h1) h2 (fun z => absurd c1 z))⟩
    · rw [if_neg c1]
      have hlt : q0 < len := Nat.lt_of_not_le (fun z => c1 (by rw [tx_pk_ge z]; rfl))
      have hb := tx_pk_lt (len := len) (b := b) hlt
      obtain ⟨g2, g4, g5⟩ := tx_rel_sg _ c1
      have hI2 := hs (q0 + 1) (tx_rel (tx_pk len b q0) :: w) (tx_rr a ++ S) asked false hlt (fun z => by cases z) (Or.inr (by omega)) (by show tx_c4 w + _ = _; rw [if_neg g4]; exact hm)
      have hstep : ∀ O, tx_Run K len b (q0 + 1) (tx_rel (tx_pk len b q0) :: w) (tx_rr a ++ S) true asked false O → tx_Run K len b p w S true asked may O := fun O hO => a5 O (fun E S1 h1 h2 => by
        refine .rel w (tx_rr a ++ S) hlt (by rw [← hb]; exact c1) ?_ (fun x y e => ?_) (by rw [← hb]; exact hO)
        · rw [← h2]; exact tx_done_app (tx_bs_low hw 5) h1
        · rcases hw with rfl | ⟨z, rfl⟩
          · cases e
          · injection e with e1 _
            subst e1
            decide)
      cases hf3 : tx_sum K (tx_pk len b) inner (q0 + 1) with
      | error q1 =>
        refine ⟨fun q h => ?_, fun e q h => (by cases h)⟩
        injection h with h
        subst h
        obtain ⟨k1, k2⟩ := hI2.1 _ hf3
        exact ⟨hstep _ k1, k2⟩
      | ok z0 =>
        obtain ⟨b1, q1⟩ := z0
        obtain ⟨b1', b2, b3, b4, b5⟩ := hI2.2 _ _ hf3
        refine ⟨fun q h => (by cases h), fun e q h => ?_⟩
        cases h
        refine ⟨tx_wf_b g5 a1 b1', by omega, b3, hZ _ b4, fun O hO => hstep O (b5 O (fun E S1 h1 h2 => ?_))⟩
        have k1 : tx_hi 4 (E ++ [tx_rel (tx_pk len b q0)]) := tx_hi_app (tx_hi_mono (by decide) h1) (fun x hx => by
          rw [List.mem_singleton] at hx
          subst hx
          exact ⟨g4, by omega⟩)
        have k2 : tx_fl (E ++ [tx_rel (tx_pk len b q0)]) S1 = tx_rr (tx_B (tx_rel (tx_pk len b q0)) a b1) ++ S := by
          rw [tx_fl_app]
          show (tx_rel (tx_pk len b q0), 0) :: tx_fl E S1 = _
          rw [h2]
          show _ = (_ :: (tx_rr b1 ++ tx_rr a)) ++ S
          rw [List.cons_append, List.append_assoc]
        have := hO _ S1 k1 k2 (fun z => by
          have hlt2 : q1 < len := Nat.lt_of_not_le (fun y => z (by rw [tx_pk_ge y]; rfl))
          have hb2 := tx_pk_lt (len := len) (b := b) hlt2
          rw [List.append_assoc]
          exact .relBad _ w _ hlt2 (by rw [← hb2]; exact z) (tx_done_app (t := 5) (w := tx_rel (tx_pk len b q0) :: w) (Or.inr (by omega)) h1) g2)
        rw [List.append_assoc] at this
        exact this
theorem tx_exp_sp (hl : len ≤ 160) : ∀ (n m : Nat), m + n = 10 → tx_exS K len b (tx_exp K (tx_pk len b) n) m
  | n, m, h => by
    have h1 := tx_opnd_sp (K := K) (b := b) hl h (fun n' e => by
      subst e
      exact tx_exp_sp hl n' (m + 1) (by omega))
    have h2 := tx_chain_sp (sg := tx_mul) (t := 6) hl tx_mul_sg rfl h1
    have h3 := tx_chain_sp (sg := tx_add) (t := 5) hl tx_add_sg rfl h2
    exact tx_ex_sp (fun x q => ⟨q.2.1, q.1⟩) h3
termination_by n => n
end TXR
section TXS
variable {K len : Nat} {b : Nat → Nat}
def tx_wfC (K : Nat) (c : tx_C) : Prop := (∀ a, c.1 = some a → tx_wf K a) ∧ tx_wf K c.2
theorem tx_cl_sp (hl : len ≤ 160) {p : Nat} {S : List (Nat × Nat)} {may : Bool} (hp : p ≤ len) (hmy : may = true → p < len) :
   (∀ q, tx_cl K (tx_pk len b) p = .error q → tx_Run K len b p [] S true false may (.error q) ∧ q ≤ len) ∧
   (∀ c q, tx_cl K (tx_pk len b) p = .ok (c, q) → tx_wfC K c ∧ p < q ∧ q ≤ len ∧ (tx_mul (tx_pk len b q) = 0 ∧ tx_add (tx_pk len b q) = 0) ∧ ∀ O, (∀ E S1 asked, tx_hi 4 E → (3, 0) :: tx_fl E S1 = tx_rc c ++ S → (tx_rel (tx_pk len b q) ≠ 0 → tx_Run K len b q E S1 false asked false (.error q)) → (tx_pk len b q = 63 → tx_Run K len b q E S1 false asked false (.error q)) → tx_Run K len b q E S1 false asked false O) → tx_Run K len b p [] S true false may O) := by
  have h1 := tx_exp_sp (K := K) (b := b) hl 10 0 rfl p [] S false may hp hmy (Or.inl rfl) rfl
  unfold tx_cl
  cases e1 : tx_exp K (tx_pk len b) 10 p with
  | error q0 =>
    refine ⟨fun q h => ?_, fun c q h => (by cases h)⟩
    injection h with h
    subst h
    exact h1.1 _ e1
  | ok z0 =>
    obtain ⟨a, q0⟩ := z0
    obtain ⟨a1, a2, a3, a4, a5⟩ := h1.2 _ _ e1
    dsimp only
    by_cases c1 : tx_pk len b q0 = 63
    · rw [if_pos c1]
      have hlt := tx_pk_ne c1 (by decide)
      have hb := tx_pk_lt (len := len) (b := b) hlt
      have h2 := tx_exp_sp (K := K) (b := b) hl 10 0 rfl (q0 + 1) [] ((2, 0) :: (tx_rr a ++ S)) true false hlt (fun z => by cases z) (Or.inl rfl) rfl
      have hstep : ∀ O, tx_Run K len b (q0 + 1) [] ((2, 0) :: (tx_rr a ++ S)) true true false O → tx_Run K len b p [] S true false may O := fun O hO => a5 O (fun E S1 k1 k2 _ => by
        refine .ask (tx_rr a ++ S) hlt (by rw [← hb]; exact c1) ?_ hO
        rw [← k2]
        exact tx_done_app (t := 1) (w := []) trivial (tx_hi_mono (by decide) k1))
      cases e2 : tx_exp K (tx_pk len b) 10 (q0 + 1) with
      | error q1 =>
        refine ⟨fun q h => ?_, fun c q h => (by cases h)⟩
        injection h with h
        subst h
        obtain ⟨k1, k2⟩ := h2.1 _ e2
        exact ⟨hstep _ k1, k2⟩
      | ok z0 =>
        obtain ⟨v, q1⟩ := z0
        obtain ⟨b1, b2, b3, b4, b5⟩ := h2.2 _ _ e2
        refine ⟨fun q h => (by cases h), fun c q h => ?_⟩
        cases h
        refine ⟨⟨fun a' e => by cases e; exact a1, b1⟩, by omega, b3, b4, fun O hO => hstep O (b5 O (fun E S1 k1 k2 k3 => ?_))⟩
        rw [List.append_nil] at k3 ⊢
        refine hO E S1 true k1 ?_ k3 (fun z => ?_)
        · rw [k2]
          show _ = ((3, 0) :: (tx_rr v ++ (2, 0) :: tx_rr a)) ++ S
          simp
        · have hlt2 := tx_pk_ne z (by decide)
          have hb2 := tx_pk_lt (len := len) (b := b) hlt2
          have hd := tx_done_app (t := 1) (w := []) (S := S1) trivial (tx_hi_mono (by decide) k1)
          rw [List.append_nil] at hd
          exact .askBad _ hlt2 (by rw [← hb2]; exact z) hd
    · rw [if_neg c1]
      refine ⟨fun q h => (by cases h), fun c q h => ?_⟩
      cases h
      refine ⟨⟨fun a' e => (by cases e), a1⟩, a2, a3, a4, fun O hO => a5 O (fun E S1 k1 k2 k3 => ?_)⟩
      rw [List.append_nil] at k3 ⊢
      refine hO E S1 false k1 ?_ k3 (fun z => absurd z c1)
      rw [k2]
      rfl
theorem tx_txt_sp (hl : len ≤ 160) (h8 : ∀ p, b p < 256) : ∀ (k p : Nat) (S : List (Nat × Nat)) (may : Bool), p ≤ len → (may = true → p < len) → len < k + p →
   (∀ q, tx_txt K (tx_pk len b) k p = .error q → tx_Run K len b p [] S true false may (.error q) ∧ q ≤ len) ∧
   (∀ cs q, tx_txt K (tx_pk len b) k p = .ok (cs, q) → (∀ c ∈ cs, tx_wfC K c) ∧ tx_Run K len b p [] S true false may (.ok (tx_rt cs ++ S)))
  | 0, p, S, may, hp, _, h => absurd h (by omega)
  | k + 1, p, S, may, hp, hmy, h => by
    have h1 := tx_cl_sp (K := K) (b := b) (S := S) hl hp hmy
    unfold tx_txt
    cases e1 : tx_cl K (tx_pk len b) p with
    | error q0 =>
      refine ⟨fun q h => ?_, fun c q h => (by cases h)⟩
      injection h with h
      subst h
      exact h1.1 _ e1
    | ok z0 =>
      obtain ⟨c, q0⟩ := z0
      obtain ⟨a1, a2, a3, a4, a5⟩ := h1.2 _ _ e1
      have hd : ∀ E S1, tx_hi 4 E → tx_done 1 E S1 = ([], tx_fl E S1) := fun E S1 hE => by
        have hd := tx_done_app (t := 1) (w := []) (S := S1) trivial (tx_hi_mono (by decide) hE)
        rw [List.append_nil] at hd
        exact hd
      dsimp only
      by_cases c1 : tx_pk len b q0 = 256
      · rw [if_pos c1]
        have hq : q0 = len := by
          by_cases z : q0 < len
          · rw [tx_pk_lt z] at c1; exact absurd (h8 q0) (by omega)
          · omega
        refine ⟨fun q h => (by cases h), fun cs q h => ?_⟩
        cases h
        refine ⟨fun c' hc => by rw [List.mem_singleton] at hc; subst hc; exact a1, a5 _ (fun E S1 asked k1 k2 _ _ => ?_)⟩
        rw [show tx_rt [c] ++ S = (3, 0) :: tx_fl E S1 from k2.symm]
        exact .endOk _ hq (hd E S1 k1)
      · rw [if_neg c1]
        have hlt : q0 < len := Nat.lt_of_not_le (fun z => c1 (tx_pk_ge z))
        have hb := tx_pk_lt (len := len) (b := b) hlt
        by_cases c2 : tx_pk len b q0 = 59
        · rw [if_pos c2]
          have hstep : ∀ O, tx_Run K len b (q0 + 1) [] (tx_rc c ++ S) true false true O → tx_Run K len b p [] S true false may O := fun O hO => a5 O (fun E S1 asked k1 k2 _ _ => .semi _ hlt (by rw [← hb]; exact c2) (hd E S1 k1) (by rw [k2]; exact hO))
          by_cases c3 : tx_pk len b (q0 + 1) = 256
          · rw [if_pos c3]
            have hq : q0 + 1 = len := by
              by_cases z : q0 + 1 < len
              · rw [tx_pk_lt z] at c3; exact absurd (h8 (q0 + 1)) (by omega)
              · omega
            refine ⟨fun q h => (by cases h), fun cs q h => ?_⟩
            cases h
            exact ⟨fun c' hc => by rw [List.mem_singleton] at hc; subst hc; exact a1, hstep _ (.endMay hq)⟩
          · rw [if_neg c3]
            have hlt2 : q0 + 1 < len := Nat.lt_of_not_le (fun z => c3 (tx_pk_ge z))
            have ih := tx_txt_sp hl h8 k (q0 + 1) (tx_rc c ++ S) true (by omega) (fun _ => hlt2) (by omega)
            cases e2 : tx_txt K (tx_pk len b) k (q0 + 1) with
            | error q1 =>
              refine ⟨fun q h => ?_, fun c q h => (by cases h)⟩
              injection h with h
              subst h
              obtain ⟨k1, k2⟩ := ih.1 _ e2
              exact ⟨hstep _ k1, k2⟩
            | ok z0 =>
              obtain ⟨cs, q1⟩ := z0
              obtain ⟨k1, k2⟩ := ih.2 _ _ e2
              refine ⟨fun q h => (by cases h), fun cs q h => ?_⟩
              cases h
              refine ⟨fun c' hc => ?_, ?_⟩
              · rcases List.mem_cons.mp hc with rfl | hc
                · exact a1
                · exact k1 c' hc
              · show tx_Run K len b p [] S true false may (.ok ((tx_rt cs ++ tx_rc c) ++ S))
                rw [List.append_assoc]
                exact hstep _ k2
        · rw [if_neg c2]
          refine ⟨fun q h => ?_, fun c q h => (by cases h)⟩
          injection h with h
          subst h
          refine ⟨a5 _ (fun E S1 asked k1 k2 k3 k4 => ?_), a3⟩
          by_cases c4 : tx_rel (tx_pk len b q0) = 0
          · by_cases c5 : tx_pk len b q0 = 63
            · exact k4 c5
            · by_cases c6 : tx_pk len b q0 = 41
              · exact .closeBad _ hlt (by rw [← hb]; exact c6) (hd E S1 k1)
              · rw [hb] at a4 c2 c4 c5 c6
                exact .other hlt (tx_stop a4.1 a4.2 c4) c6 c5 c2
          · exact k3 c4
end TXS
