/-! the reference's parse runs the table: each turn -/
section PQ
variable {Γ : pv_C} {d kc ks : Nat} {ty : pv_T} {h h0 : pv_H} {r : pv_R} {g : pv_G} {Q : pv_Q} {K len o p : Nat} {b : Nat → Nat} {w : List Nat} {S : List (Nat × Nat)}
theorem pq_sg {t : Int32} {c : Nat} (h : TB t c) : mt_sg t / 10 = nI (tx_sg c / 10) := by
  have : tx_sg c < 100 := by
    by_cases q : tx_sg c = 0
    · omega
    · rcases tx_sg_cases c q with z | z
      · exact z.2.2.1
      · exact z.2.2.2.1
  rw [TB_sg h]
  exact pk_div (by omega) (by decide) (by decide)
theorem pq_lt (c : Nat) : tx_sg c < 100 := by
  by_cases q : tx_sg c = 0
  · omega
  · rcases tx_sg_cases c q with z | z
    · exact z.2.2.1
    · exact z.2.2.2.1
/-- behind '?' and ';' -/
theorem pq_246 (hd : 3 ≤ d) (hL : pv_Lay ty r) (hR : ps_R len o p w S h) (hp : p < len) {t : Int32} (hT : TB t (b p)) (hqs : b p = 63 ∨ b p = 59) {asked : Bool} (hbad : ∀ h', pv_fr (pA o) h h' → h' 200 51 = nI p → ((∃ x y, (tx_done 1 w S).1 = x :: y) ∨ (b p = 63 ∧ asked = true)) → Q (some (.int (nI p))) ty h' r g) (hok : ∀ h', pv_fr (pA o) h h' → (tx_done 1 w S).1 = [] → ps_R len o (p + 1) [] (((if b p = 63 then 2 else 3), 0) :: (tx_done 1 w S).2) h' → ¬ (b p = 63 ∧ asked = true) → pv_E Γ d kc ks mX12_parse 23 [some (.ref 200), some (.int (nI o)), some (.int (nI K)), some (.int 1), some (.int (if b p = 63 then 1 else 0)), some (.int (if b p = 59 then 1 else 0)), none, none, none] [] ty h' r g Q) : pv_E Γ d kc ks mX12_parse 246 [some (.ref 200), some (.int (nI o)), some (.int (nI K)), none, some (.int (pb asked)), none, some (.int t), none, none] [] ty h r g Q := by
  have tail : ∀ h1, pv_fr (pA o) h h1 → ps_R len o p (tx_done 1 w S).1 (tx_done 1 w S).2 h1 → (tx_done 1 w S).1 = [] → ¬ (b p = 63 ∧ asked = true) → pv_E Γ d kc ks mX12_parse 276 [some (.ref 200), some (.int (nI o)), some (.int (nI K)), none, none, none, some (.int t), none, none] [] ty h1 r g Q := fun h1 f1 R1 he ha => by
    obtain ⟨⟨e51, e49, e50, e40⟩, ⟨hw, hs⟩, ⟨b1, b2, b3, b4⟩, hx⟩ := R1
    have fin : ∀ (a : Nat) (x4 x5 : Int32) (h2 : pv_H), a = (if b p = 63 then 2 else 3) → x4 = (if b p = 63 then 1 else 0) → x5 = (if b p = 59 then 1 else 0) → h2 = ps_ad h1 o (tx_done 1 w S).2.length (nI a) 0 → pv_E Γ d kc ks mX12_parse 332 [some (.ref 200), some (.int (nI o)), some (.int (nI K)), some (.int 1), some (.int x4), some (.int x5), none, none, none] [] ty h2 r g Q := fun a x4 x5 h2 ea e4 e5 e2 => by
      have f51 : h2 200 51 = nI p := by rw [e2, ps_ad_200 (by decide)]; exact e51
      rw [e4, e5]
      refine pp_332 hL f51 (hok _ ?_ he ⟨⟨pv_up_same _ _ _ _, ?_, ?_, ?_⟩, ⟨trivial, ?_⟩, ⟨?_, hp, b3, b4⟩, fun y hy => absurd hy List.not_mem_nil⟩ ha)
      · rw [e2]; exact pA_51 (ps_ad_f (by omega) f1)
      · rw [pv_up_j (by decide), e2, ps_ad_200 (by decide), e49, he]
      · rw [pv_up_j (by decide), e2]; exact ps_ad_50
      · rw [pv_up_j (by decide), e2, ps_ad_200 (by decide)]; exact e40
      · refine ps_s_c (h := h2) (fun j _ => by rw [pv_up_a (by decide), pv_up_a (by decide)]; exact ⟨rfl, rfl⟩) ?_
        rw [e2, ← ea]
        exact ps_ad_s (x := a) (c := 0) hs
      · rw [he] at b1
        simp at b1 ⊢
        omega
    refine sg_X12_parse_276 _ _ _ (by omega) hL (pt_en (b p) 63 hT (fun c => ?_) (fun c => ?_))
    · refine pv_CW.mono (ct_X12_adds hL b4 (by omega) e50) (fun h2 e2 => pt_en (b p) 63 hT (fun _ => pt_en (b p) 59 hT (fun c2 => absurd c2 (by omega)) (fun c2 => fin 2 1 0 h2 ?_ ?_ ?_ e2)) (fun c2 => absurd c c2))
      · rw [if_pos c]
      · rw [if_pos c]
      · rw [if_neg c2]
    · refine pv_CW.mono (ct_X12_adds hL b4 (by omega) e50) (fun h2 e2 => pt_en (b p) 63 hT (fun c2 => absurd c2 c) (fun _ => pt_en (b p) 59 hT (fun c2 => fin 3 0 1 h2 ?_ ?_ ?_ e2) (fun c2 => absurd hqs (by omega))))
      · rw [if_neg c]
      · rw [if_neg c]
      · rw [if_pos c2]
  refine sg_X12_parse_246 _ _ _ _ (by omega) hL (pv_CW.mono (ct_X12_done (f := 1) (by omega) hL (by decide) hR) (fun h1 q => ?_))
  obtain ⟨f1, R1⟩ := q
  have e51 := R1.1.1
  have bb := R1.2.2.1
  rw [e51]
  cases hw1 : (tx_done 1 w S).1 with
  | nil =>
    have z0 := ps_R0 R1 hw1
    refine ⟨fun z => absurd z (by rw [z0]; decide), fun _ => pt_en (b p) 63 hT (fun c => ?_) (fun c => tail h1 f1 R1 hw1 (fun q => c q.1))⟩
    cases asked with
    | true => exact ⟨fun z => absurd z (by decide), fun _ => hbad h1 f1 e51 (Or.inr ⟨c, rfl⟩)⟩
    | false => exact ⟨fun _ => tail h1 f1 R1 hw1 (fun q => by cases q.2), fun z => absurd rfl z⟩
  | cons x y =>
    obtain ⟨z0, z1⟩ := ps_R1 R1 hw1
    refine ⟨fun _ => hbad h1 f1 e51 (Or.inl ⟨x, y, hw1⟩), fun z => absurd ?_ z⟩
    rw [z0]
    exact nI_lt (a := 0) (by omega) (by omega)
theorem ps_St (hd : 3 ≤ d) (hL : pv_Lay ty r) (hK : K < 2) (hT0 : ∀ j, j < len → TB (h0 339 j) (b j)) : tx_St K len b (ps_P Γ d kc ks ty r g K len o h0 Q) := by
  have hT : ∀ h, pv_fr (pA o) h0 h → ∀ j, j < len → TB (h 339 j) (b j) := fun h hf j hj => by
    rw [hf 339 j (by rintro (z | z | z) <;> omega)]
    exact hT0 j hj
  refine ⟨?_, ?_, ?_, ?_, ?_, ?_, ?_, ?_, ?_, ?_, ?_, ?_, ?_, ?_, ?_, ?_, ?_, ?_, ?_⟩
  · -- num
    intro p w S asked may O h1 h2 h3 ih h hR hc hf hO
    refine pp_op hd hL hK (hT h hf) hR h1 hc (fun h' q => absurd (q.2.1 h2 h3).1 (by decide)) (fun h' q => ?_) (fun x h' q => po_01 q)
    rw [if_neg (fun z => by rw [z] at h2; exact absurd h2 (by decide))]
    exact ih h' (q.2.1 h2 h3).2 hc (pv_fr_tr hf q.1) hO
  · -- numBad
    intro p w S asked may h1 h2 h3 h hR hc hf hO
    refine pp_op hd hL hK (hT h hf) hR h1 hc (fun h' q => ?_) (fun h' q => absurd (q.2.2.1 h2 h3).1 (by decide)) (fun x h' q => po_01 q)
    rw [(q.2.2.1 h2 h3).2]
    exact (hO h' (pv_fr_tr hf q.1)).1 _ rfl
  · -- nam
    intro p w S asked may O h1 h2 ih h hR hc hf hO
    refine pp_op hd hL hK (hT h hf) hR h1 hc (fun h' q => absurd (q.2.2.2.1 h2).1 (by decide)) (fun h' q => ?_) (fun x h' q => po_01 q)
    rw [if_neg (tx_nm_dg h2).2.1]
    exact ih h' (q.2.2.2.1 h2).2 hc (pv_fr_tr hf q.1) hO
  · -- opn
    intro p w S asked may O h1 h2 h3 ih h hR hc hf hO
    refine pp_op hd hL hK (hT h hf) hR h1 hc (fun h' q => absurd (q.2.2.2.2.1 h2 h3).1 (by decide)) (fun h' q => ?_) (fun x h' q => po_01 q)
    rw [if_pos h2]
    exact ih h' (q.2.2.2.2.1 h2 h3).2 (by show tx_c4 w + 1 ≤ 10; omega) (pv_fr_tr hf q.1) hO
  · -- opBad
    intro p w S asked may h1 h2 h3 h4 h hR hc hf hO
    refine pp_op hd hL hK (hT h hf) hR h1 hc (fun h' q => ?_) (fun h' q => absurd (q.2.2.2.2.2 h2 h3 h4).1 (by decide)) (fun x h' q => po_01 q)
    rw [(q.2.2.2.2.2 h2 h3 h4).2]
    exact (hO h' (pv_fr_tr hf q.1)).1 _ rfl
  · -- sgn
    intro p w S asked may O w1 S1 h1 h2 h3 h4 ih h hR hc hf hO
    have hTp := hT h hf p h1
    have hlt := pq_lt (b p)
    obtain ⟨-, h56, -, hn4⟩ | ⟨hz, -⟩ := tx_sg_cases (b p) h2
    · refine pp_23F (by omega) hL hR h1 (sg_X12_parse_86 _ _ _ _ _ _ (by omega) hL (pk_le (tx_sg (b p)) 0 (fun c => absurd c (by omega)) (fun _ => pj_eq (tx_sg (b p) / 10) 4 (fun c => absurd c (by omega)) (fun _ => ?_) (pq_sg hTp) rfl (by omega) (by omega)) (TB_sg hTp) rfl (by omega) (by omega)))
      rw [pq_sg hTp]
      refine pv_CW.mono (ct_X12_done (f := tx_sg (b p) / 10) (by omega) hL (by omega) hR) (fun h3' q => ?_)
      obtain ⟨f1, R1⟩ := q
      have hc1 := tx_done_c4 (f := tx_sg (b p) / 10) w S
      rw [h4] at R1 hc1
      rw [TB_sg hTp]
      refine pp_168 hL hlt R1 h1 (fun h' R2 f2 => ih h' R2 ?_ (pv_fr_tr hf (pv_fr_tr f1 f2)) hO)
      show tx_c4 w1 + _ ≤ 10
      rw [if_neg hn4]
      have : tx_c4 w1 = tx_c4 w := hc1
      omega
    · exact absurd h3 hz
  · -- rel
    intro p w S asked may O w1 S1 h1 h2 h3 h4 ih h hR hc hf hO
    have hTp := hT h hf p h1
    have hlt := pq_lt (b p)
    have hnz := tx_rel_nz h2
    obtain ⟨hz, -⟩ | ⟨-, es, e4, -, hn4⟩ := tx_sg_cases (b p) hnz
    · exact absurd hz h2
    · refine pp_23F (by omega) hL hR h1 (sg_X12_parse_86 _ _ _ _ _ _ (by omega) hL (pk_le (tx_sg (b p)) 0 (fun c => absurd c (by omega)) (fun _ => pj_eq (tx_sg (b p) / 10) 4 (fun _ => ?_) (fun c => absurd e4 c) (pq_sg hTp) rfl (by omega) (by omega)) (TB_sg hTp) rfl (by omega) (by omega)))
      refine pv_CW.mono (ct_X12_done (f := 5) (by omega) hL (by omega) hR) (fun h3' q => ?_)
      obtain ⟨f1, R1⟩ := q
      have hc1 := tx_done_c4 (f := 5) w S
      rw [h3] at R1 hc1
      rw [TB_sg hTp]
      have go : pv_E Γ d kc ks mX12_parse 168 [some (.ref 200), some (.int (nI o)), some (.int (nI K)), none, some (.int (pb asked)), some (.int (pb may)), none, some (.int (nI (tx_sg (b p)))), none] [] ty h3' r g Q := by
        refine pp_168 hL hlt R1 h1 (fun h' R2 f2 => ih h' (es ▸ R2) ?_ (pv_fr_tr hf (pv_fr_tr f1 f2)) hO)
        show tx_c4 w1 + _ ≤ 10
        rw [← es, if_neg hn4]
        have : tx_c4 w1 = tx_c4 w := hc1
        omega
      cases hw1 : w1 with
      | nil => exact ⟨fun _ => go, fun z => absurd (by rw [ps_R0 R1 hw1]; decide) z⟩
      | cons x y =>
        obtain ⟨z0, z1⟩ := ps_R1 R1 hw1
        have hx100 := R1.2.2.2 x (by rw [show w1 = x :: y from hw1]; exact List.mem_cons_self ..)
        have htop : h3' 348 y.length = nI x := by
          have := R1.2.1.1
          rw [show (w1, S1).1 = x :: y from hw1] at this
          exact this.1
        have em : h3' 200 49 - 1 = nI y.length := by rw [z0, nI_pred]
        rw [em, nI_clamp (by omega), htop]
        refine ⟨fun _ => go, fun _ => ⟨vp_in_nI (by omega) (by decide), pj_eq (x / 10) 4 (fun c => absurd c (h4 x y hw1)) (fun _ => go) (pk_div (by omega) (by decide) (by decide)) rfl (by omega) (by omega)⟩⟩
  · -- relBad
    intro p w S asked may x w1 S1 h1 h2 h3 h4 h hR hc hf hO
    have hTp := hT h hf p h1
    have hlt := pq_lt (b p)
    have hnz := tx_rel_nz h2
    obtain ⟨hz, -⟩ | ⟨-, es, e4, -, hn4⟩ := tx_sg_cases (b p) hnz
    · exact absurd hz h2
    · refine pp_23F (by omega) hL hR h1 (sg_X12_parse_86 _ _ _ _ _ _ (by omega) hL (pk_le (tx_sg (b p)) 0 (fun c => absurd c (by omega)) (fun _ => pj_eq (tx_sg (b p) / 10) 4 (fun _ => ?_) (fun c => absurd e4 c) (pq_sg hTp) rfl (by omega) (by omega)) (TB_sg hTp) rfl (by omega) (by omega)))
      refine pv_CW.mono (ct_X12_done (f := 5) (by omega) hL (by omega) hR) (fun h3' q => ?_)
      obtain ⟨f1, R1⟩ := q
      rw [h3] at R1
      obtain ⟨z0, z1⟩ := ps_R1 R1 rfl
      have hx100 := R1.2.2.2 x (List.mem_cons_self ..)
      have htop : h3' 348 w1.length = nI x := R1.2.1.1.1
      have em : h3' 200 49 - 1 = nI w1.length := by rw [z0, nI_pred]
      rw [em, nI_clamp (by omega), htop, R1.1.1]
      refine ⟨fun z => absurd z (by rw [z0]; exact nI_nle (by omega) (by omega)), fun _ => ⟨vp_in_nI (by omega) (by decide), pj_eq (x / 10) 4 (fun _ => (hO h3' (pv_fr_tr hf f1)).1 p rfl) (fun c => absurd h4 c) (pk_div (by omega) (by decide) (by decide)) rfl (by omega) (by omega)⟩⟩
  · -- close
    intro p w S asked may O x w1 S1 h1 h2 h3 ih h hR hc hf hO
    have hTp := hT h hf p h1
    have hs0 : tx_sg (b p) = 0 := by rw [h2]; rfl
    refine pp_23F (by omega) hL hR h1 (sg_X12_parse_86 _ _ _ _ _ _ (by omega) hL (pk_le (tx_sg (b p)) 0 (fun _ => pt_en (b p) 41 hTp (fun _ => ?_) (fun c => absurd h2 c)) (fun c => absurd c (by omega)) (TB_sg hTp) rfl (by omega) (by omega)))
    refine pv_CW.mono (ct_X12_done (f := 1) (by omega) hL (by omega) hR) (fun h3' q => ?_)
    obtain ⟨f1, R1⟩ := q
    have hc1 := tx_done_c4 (f := 1) w S
    rw [h3] at R1 hc1
    obtain ⟨z0, z1⟩ := ps_R1 R1 rfl
    obtain ⟨⟨e51, e49, e50, e40⟩, ⟨hw, hs⟩, ⟨b1, b2, b3, b4⟩, hx⟩ := R1
    refine ⟨fun _ h2' e2 => ?_, fun z => absurd z (by rw [z0]; exact nI_ne0 (by omega) (by omega))⟩
    rw [z0, nI_pred] at e2
    have f51 : h2' 200 51 = nI p := by rw [e2, pv_up_j (by decide)]; exact e51
    have b1' : w1.length + 1 + S1.length ≤ p := b1
    refine pp_332 hL f51 (ih _ ⟨⟨pv_up_same _ _ _ _, ?_, ?_, ?_⟩, ⟨?_, ?_⟩, ⟨by omega, h1, b3, b4⟩, fun y hy => hx y (List.mem_cons_of_mem _ hy)⟩ ?_ ?_ hO)
    · rw [pv_up_j (by decide), e2, pv_up_same]
    · rw [pv_up_j (by decide), e2, pv_up_j (by decide)]; exact e50
    · rw [pv_up_j (by decide), e2, pv_up_j (by decide)]; exact e40
    · exact ps_w_c (fun j hj => by rw [pv_up_a (by decide), e2, pv_up_a (by decide)]) hw.2
    · exact ps_s_c (fun j hj => by rw [pv_up_a (by decide), pv_up_a (by decide), e2, pv_up_a (by decide), pv_up_a (by decide)]; exact ⟨rfl, rfl⟩) hs
    · have : tx_c4 w1 + (if x = 4 then 1 else 0) = tx_c4 w := hc1
      omega
    · rw [e2]; exact pA_51 (pA_49 (pv_fr_tr hf f1))
  · -- closeBad
    intro p w S asked may S1 h1 h2 h3 h hR hc hf hO
    have hTp := hT h hf p h1
    have hs0 : tx_sg (b p) = 0 := by rw [h2]; rfl
    refine pp_23F (by omega) hL hR h1 (sg_X12_parse_86 _ _ _ _ _ _ (by omega) hL (pk_le (tx_sg (b p)) 0 (fun _ => pt_en (b p) 41 hTp (fun _ => ?_) (fun c => absurd h2 c)) (fun c => absurd c (by omega)) (TB_sg hTp) rfl (by omega) (by omega)))
    refine pv_CW.mono (ct_X12_done (f := 1) (by omega) hL (by omega) hR) (fun h3' q => ?_)
    obtain ⟨f1, R1⟩ := q
    rw [h3] at R1
    refine ⟨fun z => absurd (ps_R0 R1 rfl) z, fun _ => ?_⟩
    rw [R1.1.1]
    exact (hO h3' (pv_fr_tr hf f1)).1 p rfl
  · -- ask
    intro p w S may O S1 h1 h2 h3 ih h hR hc hf hO
    have hTp := hT h hf p h1
    have hs0 : tx_sg (b p) = 0 := by rw [h2]; rfl
    refine pp_23F (by omega) hL hR h1 (sg_X12_parse_86 _ _ _ _ _ _ (by omega) hL (pk_le (tx_sg (b p)) 0 (fun _ => pt_en (b p) 41 hTp (fun c => absurd c (by omega)) (fun _ => pt_eq (b p) 63 hTp (fun _ => ?_) (fun c => absurd h2 c))) (fun c => absurd c (by omega)) (TB_sg hTp) rfl (by omega) (by omega)))
    refine pq_246 (asked := false) hd hL hR h1 hTp (Or.inl h2) (fun h' f' _ z => ?_) (fun h' f' _ R' _ => ?_)
    · rw [h3] at z
      rcases z with ⟨x, y, z⟩ | ⟨-, z⟩ <;> cases z
    · rw [h3, if_pos h2] at R'
      rw [if_pos h2, if_neg (by omega)]
      exact ih h' R' (Nat.zero_le _) (pv_fr_tr hf f') hO
  · -- semi
    intro p w S asked may O S1 h1 h2 h3 ih h hR hc hf hO
    have hTp := hT h hf p h1
    have hs0 : tx_sg (b p) = 0 := by rw [h2]; rfl
    refine pp_23F (by omega) hL hR h1 (sg_X12_parse_86 _ _ _ _ _ _ (by omega) hL (pk_le (tx_sg (b p)) 0 (fun _ => pt_en (b p) 41 hTp (fun c => absurd c (by omega)) (fun _ => pt_eq (b p) 63 hTp (fun c => absurd c (by omega)) (fun _ => pt_en (b p) 59 hTp (fun _ => ?_) (fun c => absurd h2 c)))) (fun c => absurd c (by omega)) (TB_sg hTp) rfl (by omega) (by omega)))
    refine pq_246 (asked := asked) hd hL hR h1 hTp (Or.inr h2) (fun h' f' _ z => ?_) (fun h' f' _ R' _ => ?_)
    · rw [h3] at z
      rcases z with ⟨x, y, z⟩ | ⟨z, -⟩
      · cases z
      · omega
    · rw [h3, if_neg (by omega)] at R'
      rw [if_neg (by omega), if_pos h2]
      exact ih h' R' (Nat.zero_le _) (pv_fr_tr hf f') hO
  · -- qcBad
    intro p w S asked may x w1 S1 h1 h2 h3 h hR hc hf hO
    have hTp := hT h hf p h1
    have hs0 : tx_sg (b p) = 0 := by rcases h2 with z | z <;> rw [z] <;> rfl
    have go : pv_E Γ d kc ks mX12_parse 246 [some (.ref 200), some (.int (nI o)), some (.int (nI K)), none, some (.int (pb asked)), none, some (.int (h 339 p)), none, none] [] ty h r g Q := by
      refine pq_246 hd hL hR h1 hTp h2 (fun h' f' _ _ => (hO h' (pv_fr_tr hf f')).1 p rfl) (fun h' f' z => ?_)
      rw [h3] at z
      cases z
    exact pp_23F (by omega) hL hR h1 (sg_X12_parse_86 _ _ _ _ _ _ (by omega) hL (pk_le (tx_sg (b p)) 0 (fun _ => pt_en (b p) 41 hTp (fun c => absurd c (by omega)) (fun _ => pt_eq (b p) 63 hTp (fun _ => go) (fun _ => pt_en (b p) 59 hTp (fun _ => go) (fun c => absurd h2 (by omega))))) (fun c => absurd c (by omega)) (TB_sg hTp) rfl (by omega) (by omega)))
  · -- askBad
    intro p w S may S1 h1 h2 h3 h hR hc hf hO
    have hTp := hT h hf p h1
    have hs0 : tx_sg (b p) = 0 := by rw [h2]; rfl
    refine pp_23F (by omega) hL hR h1 (sg_X12_parse_86 _ _ _ _ _ _ (by omega) hL (pk_le (tx_sg (b p)) 0 (fun _ => pt_en (b p) 41 hTp (fun c => absurd c (by omega)) (fun _ => pt_eq (b p) 63 hTp (fun _ => ?_) (fun c => absurd h2 c))) (fun c => absurd c (by omega)) (TB_sg hTp) rfl (by omega) (by omega)))
    exact pq_246 (asked := true) hd hL hR h1 hTp (Or.inl h2) (fun h' f' _ _ => (hO h' (pv_fr_tr hf f')).1 p rfl) (fun h' f' _ _ z => absurd ⟨h2, rfl⟩ z)
  · -- other
    intro p w S asked may h1 h2 h3 h4 h5 h hR hc hf hO
    have hTp := hT h hf p h1
    refine pp_23F (by omega) hL hR h1 (sg_X12_parse_86 _ _ _ _ _ _ (by omega) hL (pk_le (tx_sg (b p)) 0 (fun _ => pt_en (b p) 41 hTp (fun c => absurd c h3) (fun _ => pt_eq (b p) 63 hTp (fun c => absurd c h4) (fun _ => pt_en (b p) 59 hTp (fun c => absurd c h5) (fun _ => ?_)))) (fun c => absurd c (by omega)) (TB_sg hTp) rfl (by omega) (by omega)))
    rw [hR.1.1]
    exact (hO h hf).1 p rfl
  · -- endMay
    intro p w S asked h1 h hR hc hf hO
    subst h1
    have hb := hR.2.2.1
    exact sg_X12_parse_23 _ _ _ _ _ (by omega) hL (pk_le p p (fun _ => ⟨fun z => absurd z (by decide), fun _ => ⟨fun z => absurd z (by decide), fun _ => (hO h hf).2 S rfl hR.2.1.2 hR.1.2.2.1 (by omega)⟩⟩) (fun c => absurd c (by omega)) hR.1.2.2.2 hR.1.1 (by omega) (by omega))
  · -- endBad
    intro p w S asked h1 h hR hc hf hO
    subst h1
    have hb := hR.2.2.1
    refine sg_X12_parse_23 _ _ _ _ _ (by omega) hL (pk_le p p (fun _ => ⟨fun z => absurd z (by decide), fun _ => ⟨fun _ => ?_, fun z => absurd rfl z⟩⟩) (fun c => absurd c (by omega)) hR.1.2.2.2 hR.1.1 (by omega) (by omega))
    rw [hR.1.2.2.2]
    exact (hO h hf).1 p rfl
  · -- endOk
    intro p w S asked may S1 h1 h2 h hR hc hf hO
    subst h1
    have hb := hR.2.2.1
    refine sg_X12_parse_23 _ _ _ _ _ (by omega) hL (pk_le p p (fun _ => ⟨fun _ => pv_CW.mono (ct_X12_done (f := 1) (by omega) hL (by omega) hR) (fun h1 q => ?_), fun z => absurd rfl z⟩) (fun c => absurd c (by omega)) hR.1.2.2.2 hR.1.1 (by omega) (by omega))
    obtain ⟨f1, R1⟩ := q
    rw [h2] at R1
    have b1 := R1.2.2.1
    have b1' : S1.length ≤ p := by have := b1.1; simp at this; exact this
    refine ⟨fun _ => pv_CW.mono (ct_X12_adds hL b1.2.2.2 (by omega) R1.1.2.2.1) (fun h2' e2 => ?_), fun z => absurd (by rw [ps_R0 R1 rfl]; decide) z⟩
    refine (hO h2' ?_).2 _ rfl ?_ ?_ ?_
    · rw [e2]; exact ps_ad_f (by omega) (pv_fr_tr hf f1)
    · rw [e2]; exact ps_ad_s (x := 3) (c := 0) R1.2.1.2
    · rw [e2]; exact ps_ad_50
    · simp; omega
  · -- endOpen
    intro p w S asked may x w1 S1 h1 h2 h hR hc hf hO
    subst h1
    have hb := hR.2.2.1
    refine sg_X12_parse_23 _ _ _ _ _ (by omega) hL (pk_le p p (fun _ => ⟨fun _ => pv_CW.mono (ct_X12_done (f := 1) (by omega) hL (by omega) hR) (fun h1 q => ?_), fun z => absurd rfl z⟩) (fun c => absurd c (by omega)) hR.1.2.2.2 hR.1.1 (by omega) (by omega))
    obtain ⟨f1, R1⟩ := q
    rw [h2] at R1
    obtain ⟨z0, z1⟩ := ps_R1 R1 rfl
    refine ⟨fun z => absurd z (by rw [z0]; exact nI_nle (by omega) (by omega)), fun _ => ?_⟩
    rw [R1.1.2.2.2]
    exact (hO h1 (pv_fr_tr hf f1)).1 p rfl
theorem ct_X12_parse (hd : 3 ≤ d) (hL : pv_Lay ty r) (hK : K < 2) (ho : o < 20) (hl : len ≤ 160) (h40 : h 200 40 = nI len) : pv_CJ Γ d mX12_parse [.ref 200, .int (nI o), .int (nI K)] ty h r g (fun x h' => pv_fr (pA o) h h' ∧ (∀ q, tx_rd K len (tx_b (h 339)) = .error q → x = nI q ∧ q ≤ len) ∧ (∀ cs q, tx_rd K len (tx_b (h 339)) = .ok (cs, q) → x = -1 ∧ ps_s h' o (tx_rt cs) ∧ h' 200 50 = nI (tx_rt cs).length ∧ (tx_rt cs).length ≤ 161 ∧ ∀ c ∈ cs, tx_wfC K c)) := by
  refine pv_fn 6 pn_X12 rfl (Nat.le_of_ble_eq_true rfl) (pv_Bof (a := 339) (by decide) (lt_339 hL) (fun hB => sg_X12_parse_0 _ _ hL (fun h1 e1 h2 e2 h3 e3 => ?_)))
  have e0 : h3 = pv_up (pv_up (pv_up h 200 51 0) 200 49 0) 200 50 0 := by rw [e3, e2, e1]
  have f51 : h3 200 51 = nI 0 := by rw [e0, pv_up_j (by decide), pv_up_j (by decide), pv_up_same]; rfl
  have f49 : h3 200 49 = nI 0 := by rw [e0, pv_up_j (by decide), pv_up_same]; rfl
  have f50 : h3 200 50 = nI 0 := by rw [e0, pv_up_same]; rfl
  have f40 : h3 200 40 = nI len := by rw [e0, pv_up_j (by decide), pv_up_j (by decide), pv_up_j (by decide)]; exact h40
  have fr : pv_fr (pA o) h h3 := by rw [e0]; exact pv_fr_up (pA_49 (pA_51 (pv_fr_refl _ _))) (Or.inl ⟨rfl, Or.inr (Or.inl rfl)⟩)
  have hT0 : ∀ j, j < len → TB (h 339 j) (tx_b (h 339) j) := fun j hj => TB_of (hB j (by omega))
  have hsp := tx_txt_sp (K := K) (len := len) (b := tx_b (h 339)) hl (tx_b_lt _) 161 0 [] false (Nat.zero_le _) (fun z => by cases z) (by omega)
  have hR : ps_R len o 0 [] [] h3 := ⟨⟨f51, f49, f50, f40⟩, ⟨trivial, trivial⟩, ⟨Nat.le_refl _, Nat.zero_le _, hl, ho⟩, fun x hx => absurd hx List.not_mem_nil⟩
  cases hr : tx_rd K len (tx_b (h 339)) with
  | error q0 =>
    obtain ⟨k1, k2⟩ := hsp.1 q0 hr
    refine k1 _ (ps_St hd hL hK hT0) h3 hR (Nat.zero_le _) fr (fun h' f' => ⟨fun q e => ?_, fun S' e => (by cases e)⟩)
    cases e
    exact pv_jqi ⟨f', fun q e => (by cases e; exact ⟨rfl, k2⟩), fun cs q e => (by cases e)⟩
  | ok z0 =>
    obtain ⟨cs, q0⟩ := z0
    obtain ⟨k1, k2⟩ := hsp.2 cs q0 hr
    rw [List.append_nil] at k2
    refine k2 _ (ps_St hd hL hK hT0) h3 hR (Nat.zero_le _) fr (fun h' f' => ⟨fun q e => (by cases e), fun S' e a1 a2 a3 => ?_⟩)
    cases e
    exact pv_jqi ⟨f', fun q e => (by cases e), fun cs' q e => (by cases e; exact ⟨rfl, a1, a2, a3, k1⟩)⟩
end PQ
