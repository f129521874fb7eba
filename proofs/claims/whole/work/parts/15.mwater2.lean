/-- a street of the reference -/
def mStr (h : pv_H) (s R C : Nat) : Prop := s < 8 ∧ h 302 s = nI R ∧ h 303 s = nI C ∧ (1 ≤ R ∧ R ≤ 16) ∧ (1 ≤ C ∧ C ≤ 9) ∧ wt_ok R C (mH h s) ∧ ∀ a c, a < R → c < C → mD h s a c = 0 ∨ mD h s a c = 1
abbrev mNx (h : pv_H) (s R C : Nat) (p : Nat × Nat) : Nat × Nat := wt_nx R C (mH h s) (mD h s) p
abbrev mEnd (h : pv_H) (s R C : Nat) (p : Nat × Nat) : Nat × Nat := wt_end R C (mH h s) (mD h s) p
theorem cd_inj {R C : Nat} {p q : Nat × Nat} (hR : R ≤ 16) (hC : C ≤ 9) (hp : wt_on R C p) (hq : wt_on R C q) (h : cd p = cd q) : p = q := by
  obtain ⟨a, b⟩ := p
  obtain ⟨c, d⟩ := q
  unfold wt_on at hp hq
  dsimp only at hp hq
  have := (nI_eq (by omega) (by omega)).mp h
  have e1 : a = c := by omega
  have e2 : b = d := by omega
  rw [e1, e2]
theorem cd_div {R C : Nat} {p : Nat × Nat} (hR : R ≤ 16) (hC : C ≤ 9) (hp : wt_on R C p) : cd p / 16 = nI p.1 ∧ cd p - cd p / 16 * 16 = nI p.2 := by
  unfold wt_on at hp
  have e : (16 : Int32) = nI 16 := rfl
  rw [e, pk_div (by omega) (by decide) (by decide)]
  refine ⟨by congr 1; omega, ?_⟩
  rw [← pk_div (by omega) (by decide) (by decide), pk_rem (by omega) (by decide) (by decide)]
  congr 1
  omega
theorem wt_end_nx {R C : Nat} {H D : Nat → Nat → Int32} (hok : wt_ok R C H) {p : Nat × Nat} (hp : wt_on R C p) : wt_end R C H D (wt_nx R C H D p) = wt_end R C H D p := by
  have := wt_end_ge (D := D) hok hp (m := 101) (by decide)
  rw [← this]
  rfl
theorem wt_end_fix {R C : Nat} {H D : Nat → Nat → Int32} {p : Nat × Nat} (h : wt_nx R C H D p = p) : wt_end R C H D p = p := wt_it_fix h 100
theorem wt_end_on {R C : Nat} {H D : Nat → Nat → Int32} {p : Nat × Nat} (h : wt_on R C p) : wt_on R C (wt_end R C H D p) := wt_it_on 100 h
set_option maxRecDepth 20000 in
set_option maxHeartbeats 4000000 in
theorem sg_X12_comesTo_0 {Γ : pv_C} {d kc ks : Nat} {ty : pv_T} {h : pv_H} {r : pv_R} {g : pv_G} {Q : pv_Q} (x : Int32) (y : Int32) (z : Int32) (hd : 1 ≤ d) (hL : pv_Lay ty r) (F : pv_CT Γ (d - 1) 0 0 mX12_goesOn [.ref 200, .int x, .int y, .int z] ty h r g (fun (v1 : Option Value) (ty1 : pv_T) (h1 : pv_H) (r1 : pv_R) (g1 : pv_G) => ∃ w1 : Int32, v1 = some (.int w1) ∧ pv_Lay ty1 r1 ∧ pv_E Γ d kc ks mX12_comesTo 17 [some (.ref 200), some (.int x), none, none, some (.int ((16 * y) + z)), some (.int w1)] [] ty1 h1 r1 g1 Q)) : pv_E Γ d kc ks mX12_comesTo 0 [some (.ref 200), some (.int x), some (.int y), some (.int z), none, none] [] ty h r g Q := by
  refine pv_bipush (v := 16) (by decide) dX12_comesTo_0 ?_
  refine pv_iload_n dX12_comesTo_2 rfl ?_
  refine pv_imul dX12_comesTo_3 ?_
  refine pv_iload_n dX12_comesTo_4 rfl ?_
  refine pv_iadd dX12_comesTo_5 ?_
  refine pv_istore (ls' := [some (.ref 200), some (.int x), some (.int y), some (.int z), some (.int ((16 * y) + z)), none]) dX12_comesTo_6 (by decide) rfl rfl ?_
  refine pv_pc (pc' := 8) rfl ?_
  refine pv_aload_n dX12_comesTo_8 rfl ?_
  refine pv_iload_n dX12_comesTo_9 rfl ?_
  refine pv_iload_n dX12_comesTo_10 rfl ?_
  refine pv_iload_n dX12_comesTo_11 rfl ?_
  refine pv_invV (As := [.int x, .int y, .int z]) (d' := d - 1) dX12_comesTo_12 moX12_goesOn ml_X12_179 (lt_200 hL) (Or.inl ⟨_, rfl, rfl⟩) (Nat.le_of_ble_eq_true rfl) (by omega) (Nat.zero_le _) (Nat.zero_le _) F (fun v1 ty1 h1 r1 g1 F => ?_) rfl
  obtain ⟨w1, rfl, F⟩ := F
  obtain ⟨hL1, F⟩ := F
  refine pv_pc (pc' := 15) rfl ?_
  show pv_E Γ d kc ks mX12_comesTo 15 [some (.ref 200), some (.int x), some (.int y), some (.int z), some (.int ((16 * y) + z)), none] [.int w1] ty1 h1 r1 g1 Q
  refine pv_istore (ls' := [some (.ref 200), some (.int x), some (.int y), some (.int z), some (.int ((16 * y) + z)), some (.int w1)]) dX12_comesTo_15 (by decide) rfl rfl ?_
  refine pv_forgetL (ls' := [some (.ref 200), some (.int x), none, none, some (.int ((16 * y) + z)), some (.int w1)]) (pv_subL_ok ⟨rfl, ⟨rfl, ⟨rfl, ⟨rfl, trivial⟩⟩⟩⟩) ?_
  exact F
set_option maxRecDepth 20000 in
set_option maxHeartbeats 4000000 in
theorem sg_X12_comesTo_17 {Γ : pv_C} {d kc ks : Nat} {ty : pv_T} {h : pv_H} {r : pv_R} {g : pv_G} {Q : pv_Q} (x1 : Int32) (x4 : Int32) (x5 : Int32) (hd : 1 ≤ d) (hL : pv_Lay ty r) (F : ((x5 = x4 → Q (some (.int x4)) ty h r g) ∧ (¬ x5 = x4 → pv_CT Γ (d - 1) 0 0 mX12_goesOn [.ref 200, .int x1, .int (x5 / 16), .int (x5 - x5 / 16 * 16)] ty h r g (fun (v1 : Option Value) (ty1 : pv_T) (h1 : pv_H) (r1 : pv_R) (g1 : pv_G) => ∃ w1 : Int32, v1 = some (.int w1) ∧ pv_Lay ty1 r1 ∧ pv_E Γ d kc ks mX12_comesTo 17 [some (.ref 200), some (.int x1), none, none, some (.int x5), some (.int w1)] [] ty1 h1 r1 g1 Q)))) : pv_E Γ d kc ks mX12_comesTo 17 [some (.ref 200), some (.int x1), none, none, some (.int x4), some (.int x5)] [] ty h r g Q := by
  refine pv_iload dX12_comesTo_17 rfl ?_
  refine pv_iload dX12_comesTo_19 rfl ?_
  refine pv_icmp_eq (tgt := 48) dX12_comesTo_21 (by decide) (fun c1 => ?_) (fun c1 => ?_)
  · have F := F.1 c1
    refine pv_iload dX12_comesTo_48 rfl ?_
    exact pv_ireturn dX12_comesTo_50 rfl rfl F
  · have F := F.2 c1
    refine pv_iload dX12_comesTo_24 rfl ?_
    refine pv_istore (ls' := [some (.ref 200), some (.int x1), none, none, some (.int x5), some (.int x5)]) dX12_comesTo_26 (by decide) rfl rfl ?_
    refine pv_aload_n dX12_comesTo_28 rfl ?_
    refine pv_iload_n dX12_comesTo_29 rfl ?_
    refine pv_iload dX12_comesTo_30 rfl ?_
    refine pv_bipush (v := 16) (by decide) dX12_comesTo_32 ?_
    refine pv_pc (pc' := 34) rfl ?_
    refine pv_idiv (by decide) dX12_comesTo_34 ?_
    refine pv_iload dX12_comesTo_35 rfl ?_
    refine pv_bipush (v := 16) (by decide) dX12_comesTo_37 ?_
    refine pv_irem (by decide) dX12_comesTo_39 ?_
    refine pv_invV (As := [.int x1, .int (x5 / 16), .int (x5 - x5 / 16 * 16)]) (d' := d - 1) dX12_comesTo_40 moX12_goesOn ml_X12_179 (lt_200 hL) (Or.inl ⟨_, rfl, rfl⟩) (Nat.le_of_ble_eq_true rfl) (by omega) (Nat.zero_le _) (Nat.zero_le _) F (fun v1 ty1 h1 r1 g1 F => ?_) rfl
    obtain ⟨w1, rfl, F⟩ := F
    obtain ⟨hL1, F⟩ := F
    refine pv_pc (pc' := 43) rfl ?_
    show pv_E Γ d kc ks mX12_comesTo 43 [some (.ref 200), some (.int x1), none, none, some (.int x5), some (.int x5)] [.int w1] ty1 h1 r1 g1 Q
    refine pv_istore (ls' := [some (.ref 200), some (.int x1), none, none, some (.int x5), some (.int w1)]) dX12_comesTo_43 (by decide) rfl rfl ?_
    refine pv_goto (tgt := 17) dX12_comesTo_45 (by decide) ?_
    exact F
section MC
variable {Γ : pv_C} {d kc ks : Nat} {ty : pv_T} {h : pv_H} {r : pv_R} {g : pv_G} {Q : pv_Q} {s R C a c : Nat}
theorem ct_go (hd : 1 ≤ d) (hL : pv_Lay ty r) (hS : mStr h s R C) {p : Nat × Nat} (hp : wt_on R C p) {K : pv_Q} (hK : K (some (.int (cd (mNx h s R C p)))) ty h r g) : pv_CT Γ d 0 0 mX12_goesOn [.ref 200, .int (nI s), .int (nI p.1), .int (nI p.2)] ty h r g K := by
  obtain ⟨h1, h2, h3, h4, h5, h6, h7⟩ := hS
  refine pv_CT.mono (ct_X12_goesOn hd hL h1 h2 h3 h4.2 h5.2 hp.1 hp.2 (h7 _ _ hp.1 hp.2)) (fun v ty' h' r' g' q => ?_)
  obtain ⟨e1, e2, e3, e4, e5⟩ := q
  rw [e1, e2, e3, e4, e5]
  exact hK
theorem mc_17 (hd : 2 ≤ d) (hL : pv_Lay ty r) (hS : mStr h s R C) {e : Nat × Nat} (hQ : Q (some (.int (cd e))) ty h r g) : ∀ (m : Nat) (p : Nat × Nat), wt_on R C p → (mH h s p.1 p.2).toInt < m → mEnd h s R C p = e → pv_E Γ d kc ks mX12_comesTo 17 [some (.ref 200), some (.int (nI s)), none, none, some (.int (cd p)), some (.int (cd (mNx h s R C p)))] [] ty h r g Q := by
  intro m
  induction m with
  | zero =>
    intro p hp hm _
    have := Int32.le_iff_toInt_le.mp (hS.2.2.2.2.2.1 p hp).1
    simp at this
    omega
  | succ m ih =>
    intro p hp hm he
    refine sg_X12_comesTo_17 _ _ _ (by omega) hL ⟨fun c1 => ?_, fun c1 => ?_⟩
    · have e1 : mNx h s R C p = p := cd_inj hS.2.2.2.1.2 hS.2.2.2.2.1.2 (wt_nx_on hp) hp c1
      have e2 : mEnd h s R C p = p := wt_end_fix e1
      rw [← he, e2] at hQ
      exact hQ
    · have hp' : wt_on R C (mNx h s R C p) := wt_nx_on hp
      obtain ⟨e1, e2⟩ := cd_div hS.2.2.2.1.2 hS.2.2.2.2.1.2 hp'
      rw [e2, e1]
      refine ct_go (by omega) hL hS hp' ⟨_, rfl, hL, ih _ hp' ?_ ?_⟩
      · rcases wt_nx_lt (R := R) (C := C) (H := mH h s) (D := mD h s) (p := p) with z | z
        · exact absurd (by rw [show mNx h s R C p = p from z]) c1
        · have := Int32.lt_iff_toInt_lt.mp z
          show (mH h s (wt_nx R C (mH h s) (mD h s) p).1 (wt_nx R C (mH h s) (mD h s) p).2).toInt < m
          omega
      · rw [← he]; exact wt_end_nx hS.2.2.2.2.2.1 hp
theorem ct_X12_comesTo (hd : 2 ≤ d) (hL : pv_Lay ty r) (hS : mStr h s R C) (hp : wt_on R C (a, c)) : pv_CT Γ d 0 0 mX12_comesTo [.ref 200, .int (nI s), .int (nI a), .int (nI c)] ty h r g (pv_is (.int (cd (mEnd h s R C (a, c)))) ty h r g) := by
  refine pv_fn 2 pn_X12 rfl (Nat.le_of_ble_eq_true rfl) (sg_X12_comesTo_0 _ _ _ (by omega) hL ?_)
  refine ct_go (p := (a, c)) (by omega) hL hS hp ⟨_, rfl, hL, ?_⟩
  rw [ni_cd]
  refine mc_17 hd hL hS (pv_is_refl _ _ _ _ _) 100 (a, c) hp ?_ rfl
  have := Int32.le_iff_toInt_le.mp (hS.2.2.2.2.2.1 (a, c) hp).2
  have e : (99 : Int32).toInt = 99 := by decide
  rw [e] at this
  omega
end MC
