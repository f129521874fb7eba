def pv_up {α : Type} (f : Nat → Nat → α) (a j : Nat) (x : α) : Nat → Nat → α := fun b k => if b = a ∧ k = j then x else f b k
theorem pv_up_same {α : Type} (f : Nat → Nat → α) (a j : Nat) (x : α) : pv_up f a j x a j = x := by simp [pv_up]
theorem pv_up_a {α : Type} {f : Nat → Nat → α} {a b j k : Nat} {x : α} (h : b ≠ a) : pv_up f a j x b k = f b k := by simp [pv_up, h]
theorem pv_up_j {α : Type} {f : Nat → Nat → α} {a b j k : Nat} {x : α} (h : k ≠ j) : pv_up f a j x b k = f b k := by simp [pv_up, h]
/-! the classes' tables -/
theorem pv_good_lay (C : String) (T : u_T) (k : Nat) : goodWord (u_lay C T k) = true := by unfold u_lay; split <;> rfl
theorem pv_cls_of {C : String} {T : u_T} {N : Nat} (h : ∀ w ∈ u_ws C T N, w ∈ lw_tbl) : ∀ w ∈ u_ws C T N, w ∈ pv_gt := by
  intro w hw
  obtain ⟨k, -, rfl⟩ := List.mem_map.mp hw
  exact pv_gt_in (h _ hw) (pv_good_lay _ _ _)
theorem pv_cls {c : Nat} {q : vw_C} (h : vwCl[c]? = some q) : (∀ w ∈ u_ws q.1 q.2.1 q.2.2, w ∈ pv_gt) ∧ (∀ k, k < q.2.2 → parseFieldDescriptor (q.2.1 k).2.2.1 = some (pv_fT c k)) ∧ (∀ a, a < q.2.2 → ∀ b, b < q.2.2 → a ≠ b → (q.2.1 a).2.1 ≠ (q.2.1 b).2.1) := by
  match c, h with
  | 0, h => cases h; exact ⟨pv_cls_of inX0, tyX0_ok, nmX0⟩
  | 1, h => cases h; exact ⟨pv_cls_of inX1, tyX1_ok, nmX1⟩
  | 2, h => cases h; exact ⟨pv_cls_of inX2, tyX2_ok, nmX2⟩
  | 3, h => cases h; exact ⟨pv_cls_of inX3, tyX3_ok, nmX3⟩
  | 4, h => cases h; exact ⟨pv_cls_of inX4, tyX4_ok, nmX4⟩
  | 5, h => cases h; exact ⟨pv_cls_of inX5, tyX5_ok, nmX5⟩
  | 6, h => cases h; exact ⟨pv_cls_of inX6, tyX6_ok, nmX6⟩
  | 7, h => cases h; exact ⟨pv_cls_of inX7, tyX7_ok, nmX7⟩
  | 8, h => cases h; exact ⟨pv_cls_of inX8, tyX8_ok, nmX8⟩
  | 9, h => cases h; exact ⟨pv_cls_of inX9, tyX9_ok, nmX9⟩
  | 10, h => cases h; exact ⟨pv_cls_of inX10, tyX10_ok, nmX10⟩
  | 11, h => cases h; exact ⟨pv_cls_of inX11, tyX11_ok, nmX11⟩
  | 12, h => cases h; exact ⟨pv_cls_of inX12, tyX12_ok, nmX12⟩
  | c + 13, h => simp [vwCl] at h
theorem pv_cRel.congr {Γ : pv_C} {ρ ρ1 : Nat → Nat} {U : State} {H H1 : Heap} {h h1 : pv_H} {r r1 : pv_R} {g g1 : pv_G} {a k n : Nat} (x : pv_cRel Γ ρ U H h r g a k n) (hρ : ρ1 a = ρ a) (hH : H1[ρ a]? = H[ρ a]?) (hh : ∀ j, h1 a j = h a j) (hr : ∀ j, pv_cv ρ1 (.ref (r1 a j)) = pv_cv ρ (.ref (r a j))) (hg : ∀ j, g1 a j = g a j) : pv_cRel Γ ρ1 U H1 h1 r1 g1 a k n := by
  have e1 : ∀ j, pv_fV ρ1 h1 r1 a k j = pv_fV ρ h r a k j := fun j => by unfold pv_fV; rw [hh, hr]
  have e2 : ∀ j, pv_eV ρ1 h1 r1 g1 a k j = pv_eV ρ h r g a k j := fun j => by unfold pv_eV; rw [hh, hr, hg]
  rcases x with ⟨x1, q, x2, x3⟩ | ⟨x1, x2, cA, x3, x4, x5, x6⟩
  · refine Or.inl ⟨x1, q, x2, ?_⟩
    rw [hρ]
    exact (x3.kept hH).to (fun j _ => (e1 j).symm)
  · refine Or.inr ⟨x1, x2, cA, ?_, x4, x5, fun j hj => by rw [e2]; exact x6 j hj⟩
    rw [hρ, hH, x3]
    congr 2
    funext j
    exact (e2 j).symm
theorem pv_oRel.congr {Γ : pv_C} {ρ ρ1 : Nat → Nat} {h h1 : pv_H} {r r1 : pv_R} {a k n : Nat} (x : pv_oRel Γ ρ h r a k n) (hρ : ρ1 a = ρ a) (hh : ∀ j, h1 a j = h a j) (hr : ∀ j, r1 a j = r a j) : pv_oRel Γ ρ1 h1 r1 a k n := by
  rcases x with ⟨rfl, x1, x2, x3, x4⟩ | ⟨i, hi, rfl, x1, x2, x3⟩ | ⟨i, hi, rfl, x1, x2, x3, x4⟩
  · exact Or.inl ⟨rfl, x1, x2, hρ.trans x3, fun j hj => (hh j).trans (x4 j hj)⟩
  · exact Or.inr (Or.inl ⟨i, hi, rfl, x1, hρ.trans x2, (hr 0).trans x3⟩)
  · exact Or.inr (Or.inr ⟨i, hi, rfl, x1, x2, hρ.trans x3, fun j hj => (hh j).trans (x4 j hj)⟩)
/-- one cell was written -/
theorem pv_Rep.upd {Γ : pv_C} {ρ : Nat → Nat} {U : State} {H H1 : Heap} {ty : pv_T} {h h1 : pv_H} {r r1 : pv_R} {g g1 : pv_G} {a k n : Nat} (x : pv_Rep Γ ρ U H ty h r g) (ha : 10 ≤ a) (hta : ty a = some (k, n)) (hz : H1.size = H.size) (oq : ∀ q : Nat, q ≠ ρ a → H1[q]? = H[q]?)
    (hh : ∀ b, b ≠ a → ∀ j, h1 b j = h b j) (hr : ∀ b, b ≠ a → ∀ j, r1 b j = r b j) (hg : ∀ b, b ≠ a → ∀ j, g1 b j = g b j) (hc : pv_cRel Γ ρ U H1 h1 r1 g1 a k n) (hcl : ∀ j, r1 a j ≠ 0 → ty (r1 a j) ≠ none) : pv_Rep Γ ρ U H1 ty h1 r1 g1 := by
  have hta' : ty a ≠ none := by rw [hta]; exact Option.some_ne_none _
  have hlo := (x.2.1 a k n hta ha).1
  refine ⟨⟨by rw [hz]; exact x.1.1, fun q hq => ?_⟩, fun b kb nb hb hb10 => ?_, fun b kb nb hb hb10 => ?_, x.2.2.2.1, fun b j hb hne => ?_, x.2.2.2.2.2⟩
  · rw [oq q (by omega)]
    exact x.1.2 q hq
  · by_cases e : b = a
    · subst e
      cases hta.symm.trans hb
      exact ⟨hlo, hc⟩
    · obtain ⟨y1, y2⟩ := x.2.1 b kb nb hb hb10
      exact ⟨y1, y2.congr rfl (oq _ (fun z => e (x.2.2.2.1 b a hb10 ha (by rw [hb]; exact Option.some_ne_none _) hta' z))) (hh b e) (fun j => by rw [hr b e j]) (hg b e)⟩
  · exact (x.2.2.1 b kb nb hb hb10).congr rfl (hh b (by omega)) (hr b (by omega))
  · by_cases e : b = a
    · subst e
      exact hcl j hne
    · rw [hr b e] at hne ⊢
      exact x.2.2.2.2.1 b j hb hne
/-- a cell was made -/
def pv_new {α : Type} (f : Nat → Nat → α) (a : Nat) (x : α) : Nat → Nat → α := fun b k => if b = a then x else f b k
def pv_newT (ty : pv_T) (a k n : Nat) : pv_T := fun b => if b = a then some (k, n) else ty b
def pv_newρ (ρ : Nat → Nat) (a q : Nat) : Nat → Nat := fun b => if b = a then q else ρ b
theorem pv_ext_new {ρ : Nat → Nat} {ty : pv_T} {a q k n : Nat} (hf : ty a = none) : pv_ext ρ ty (pv_newρ ρ a q) (pv_newT ty a k n) := fun b hb => by
  have e : b ≠ a := fun z => hb (by rw [z]; exact hf)
  exact ⟨by simp [pv_newρ, e], by simp [pv_newT, e]; exact hb⟩
theorem pv_cRel.lt {Γ : pv_C} {ρ : Nat → Nat} {U : State} {H : Heap} {h : pv_H} {r : pv_R} {g : pv_G} {a k n : Nat} (x : pv_cRel Γ ρ U H h r g a k n) : ρ a < H.size := by
  rcases x with ⟨x1, q, x2, cell, x3, -⟩ | ⟨x1, x2, cA, x3, -⟩
  · exact (Array.getElem?_eq_some_iff.mp x3).1
  · exact (Array.getElem?_eq_some_iff.mp x3).1
theorem pv_Rep.made {Γ : pv_C} {ρ : Nat → Nat} {U : State} {H H1 : Heap} {ty : pv_T} {h : pv_H} {r : pv_R} {g : pv_G} {a k n : Nat} (x : pv_Rep Γ ρ U H ty h r g) (ha : 10 ≤ a) (hta : ty a = none) (hz : H1.size = H.size + 1) (oq : ∀ q : Nat, q < H.size → H1[q]? = H[q]?)
    (hc : pv_cRel Γ (pv_newρ ρ a H.size) U H1 (pv_new h a 0) (pv_new r a 0) (pv_new g a 0) a k n) : pv_Rep Γ (pv_newρ ρ a H.size) U H1 (pv_newT ty a k n) (pv_new h a 0) (pv_new r a 0) (pv_new g a 0) := by
  have hx := pv_ext_new (ρ := ρ) (q := H.size) (k := k) (n := n) hta
  have tyb : ∀ {b : Nat}, b ≠ a → pv_newT ty a k n b = ty b := fun e => by simp [pv_newT, e]
  have tya : pv_newT ty a k n a = some (k, n) := by simp [pv_newT]
  refine ⟨⟨by have := x.1.1; omega, fun q hq => ?_⟩, fun b kb nb hb hb10 => ?_, fun b kb nb hb hb10 => ?_, fun b c hb hc' hb1 hc1 he => ?_, fun b j hb hne => ?_, ?_⟩
  · rw [oq q (by have := x.1.1; omega)]
    exact x.1.2 q hq
  · by_cases e : b = a
    · subst e
      cases tya.symm.trans hb
      exact ⟨by simp [pv_newρ]; exact x.1.1, hc⟩
    · rw [tyb e] at hb
      obtain ⟨y1, y2⟩ := x.2.1 b kb nb hb hb10
      have hb' : ty b ≠ none := by rw [hb]; exact Option.some_ne_none _
      have eρ : pv_newρ ρ a H.size b = ρ b := by simp [pv_newρ, e]
      refine ⟨by rw [eρ]; exact y1, y2.congr eρ (oq _ y2.lt) (fun j => by simp [pv_new, e]) (fun j => ?_) (fun j => by simp [pv_new, e])⟩
      have e2 : pv_new r a 0 b j = r b j := by simp [pv_new, e]
      rw [e2]
      cases hrj : r b j with
      | zero => rfl
      | succ m =>
        have := x.2.2.2.2.1 b j hb' (by rw [hrj]; exact Nat.succ_ne_zero m)
        rw [hrj] at this
        exact pv_cv_ext hx (v := .ref (m + 1)) this
  · have e : b ≠ a := by omega
    rw [tyb e] at hb
    exact (x.2.2.1 b kb nb hb hb10).congr (by simp [pv_newρ, e]) (fun j => by simp [pv_new, e]) (fun j => by simp [pv_new, e])
  · by_cases e1 : b = a <;> by_cases e2 : c = a
    · rw [e1, e2]
    · rw [tyb e2] at hc1
      obtain ⟨kn, hkn⟩ := Option.ne_none_iff_exists'.mp hc1
      have := (x.2.1 c kn.1 kn.2 hkn hc').2.lt
      simp [pv_newρ, e1, e2] at he
      omega
    · rw [tyb e1] at hb1
      obtain ⟨kn, hkn⟩ := Option.ne_none_iff_exists'.mp hb1
      have := (x.2.1 b kn.1 kn.2 hkn hb).2.lt
      simp [pv_newρ, e1, e2] at he
      omega
    · rw [tyb e1] at hb1
      rw [tyb e2] at hc1
      simp [pv_newρ, e1, e2] at he
      exact x.2.2.2.1 b c hb hc' hb1 hc1 he
  · by_cases e : b = a
    · exact absurd (by simp [pv_new, e]) hne
    · rw [tyb e] at hb
      have e2 : pv_new r a 0 b j = r b j := by simp [pv_new, e]
      rw [e2] at hne ⊢
      exact (hx _ (x.2.2.2.2.1 b j hb hne)).2
  · rw [tyb (by omega)]
    exact x.2.2.2.2.2
/-- an object's cell -/
theorem pv_obj {Γ : pv_C} {ρ : Nat → Nat} {U : State} {H : Heap} {ty : pv_T} {h : pv_H} {r : pv_R} {g : pv_G} {a c n : Nat} (x : pv_Rep Γ ρ U H ty h r g) (hta : ty a = some (c, n)) (hc : c < 13) : 10 ≤ a ∧ ∃ q : vw_C, vwCl[c]? = some q ∧ t_OB (ρ a) ((pv_D Γ).1 c) q.2.2 ((pv_D Γ).2 c) H (fun j => pv_fV ρ h r a c j) := by
  by_cases ha : 10 ≤ a
  · rcases (x.2.1 a c n hta ha).2 with ⟨-, y⟩ | ⟨y, -⟩
    · exact ⟨ha, y⟩
    · omega
  · rcases x.2.2.1 a c n hta (by omega) with ⟨-, y, -⟩ | ⟨i, -, -, y, -⟩ | ⟨i, -, -, y, -⟩ <;> omega
/-- an array's cell, old or new -/
theorem pv_arr {Γ : pv_C} {ρ : Nat → Nat} {U : State} {H : Heap} {ty : pv_T} {h : pv_H} {r : pv_R} {g : pv_G} {a k n : Nat} (x : pv_Rep Γ ρ U H ty h r g) (hE : pv_Env Γ U) (hta : ty a = some (k, n)) (hk : 20 ≤ k) (hk2 : k ≤ 27) :
    ∃ cell : Cell, H[ρ a]? = some cell ∧ U.isArrayOf cell (pv_eT k) ∧ cell.vm ≠ .unknown ∧ n ≤ cell.slots.size ∧ cell.slots.size.toInt32 = Int32.ofNat n ∧ ∀ j, j < n → cell.slots[j]? = some (pv_eV ρ h r g a k j) := by
  by_cases ha : 10 ≤ a
  · rcases (x.2.1 a k n hta ha).2 with ⟨y, -⟩ | ⟨-, -, cA, y1, y2, -⟩
    · omega
    · exact ⟨_, y1, y2 n _, (fun q => by cases q), by rw [arrV_size]; exact Nat.le_refl n, by rw [arrV_size], fun j hj => arrV_read _ _ hj⟩
  · rcases x.2.2.1 a k n hta (by omega) with ⟨rfl, rfl, rfl, y3, y4⟩ | ⟨i, -, -, y, -⟩ | ⟨i, hi, rfl, rfl, rfl, y3, y4⟩
    · obtain ⟨scr, z1, z2, z3, z4, z5⟩ := hE.2.1
      refine ⟨scr, ?_, z2, z3, by omega, by rw [z4], fun j hj => ?_⟩
      · rw [y3, x.1.2 _ hE.2.2.1]; exact z1
      · rw [z5 j hj]
        show some (Value.int _) = some (if (20 : Nat) < 23 then Value.int (h 1 j) else _)
        rw [if_pos (by decide), y4 j hj]
    · omega
    · obtain ⟨-, -, -, cell, z1, z2, z3, z4, z5, z6, z7⟩ := hE.2.2.2.2.1.1 i hi
      have hlen : ([6, 5] : List Nat).getD i 0 = (pv_str i).length := by
        rcases (show i = 0 ∨ i = 1 by omega) with rfl | rfl <;> rfl
      have hby : ([pv_str 0, pv_str 1] : List (List Int32)).getD i [] = pv_str i := by
        rcases (show i = 0 ∨ i = 1 by omega) with rfl | rfl <;> rfl
      rw [hlen] at z4 z5 z6
      rw [hby] at z6
      refine ⟨cell, ?_, z2, z3, z4, z5, fun j hj => ?_⟩
      · rw [y3, x.1.2 _ (Nat.not_le.mp z7)]; exact z1
      · rw [z6 j hj]
        show some (Value.int _) = some (if (21 : Nat) < 23 then Value.int (h (4 + i) j) else _)
        rw [if_pos (by decide), y4 j hj]
/-- a new array's cell, to be written -/
theorem pv_arrW {Γ : pv_C} {ρ : Nat → Nat} {U : State} {H : Heap} {ty : pv_T} {h : pv_H} {r : pv_R} {g : pv_G} {a k n : Nat} (x : pv_Rep Γ ρ U H ty h r g) (hta : ty a = some (k, n)) (hk : 20 ≤ k) (ha : 10 ≤ a) :
    (pv_h0 Γ).size ≤ ρ a ∧ k ≤ 27 ∧ ∃ cA : ClassId, H[ρ a]? = some (arrV cA n (fun j => pv_eV ρ h r g a k j)) ∧ ArrOfT U cA (pv_eT k) ∧ va_RA U cA (pv_eT k) ∧ ∀ j, j < n → fits (pv_eT k) (pv_eV ρ h r g a k j) = true := by
  obtain ⟨y0, y⟩ := x.2.1 a k n hta ha
  rcases y with ⟨y, -⟩ | ⟨-, y1, y2⟩
  · omega
  · exact ⟨y0, y1, y2⟩
