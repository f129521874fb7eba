
def pv_inb (ty : pv_T) (a k : Nat) (i : Int32) : Prop := ∃ n, ty a = some (k, n) ∧ vp_in i n
def pv_subL : List (Option Value) → List (Option Value) → Prop
  | [], _ => True
  | none :: a, _ :: b => pv_subL a b
  | none :: a, [] => pv_subL a []
  | some v :: a, some w :: b => v = w ∧ pv_subL a b
  | some _ :: _, _ => False
theorem pv_subL_ok : ∀ {a b : List (Option Value)}, pv_subL a b → ∀ i v, pv_lAt a i = some v → pv_lAt b i = some v
  | [], _, _, i, v, h => by simp [pv_lAt] at h
  | none :: a, x :: b, hs, i, v, h => by
    cases i with
    | zero => simp [pv_lAt] at h
    | succ i => exact pv_subL_ok (a := a) (b := b) hs i v h
  | none :: a, [], hs, i, v, h => by
    cases i with
    | zero => simp [pv_lAt] at h
    | succ i => exact absurd (pv_subL_ok (a := a) (b := []) hs i v h) (by simp [pv_lAt])
  | some x :: a, some w :: b, hs, i, v, h => by
    cases i with
    | zero => rw [← hs.1]; exact h
    | succ i => exact pv_subL_ok (a := a) (b := b) hs.2 i v h
  | some x :: a, none :: b, hs, _, _, _ => absurd hs id
  | some x :: a, [], hs, _, _, _ => absurd hs id
section PVX
variable {Γ : pv_C} {d kc ks : Nat} {M : pv_M} {pc : Nat} {ls : List (Option Value)} {st : List Value} {ty : pv_T} {h : pv_H} {r : pv_R} {g : pv_G} {Q : pv_Q}
theorem pv_pc {pc' : Nat} (hp : pc = pc') (k : pv_E Γ d kc ks M pc' ls st ty h r g Q) : pv_E Γ d kc ks M pc ls st ty h r g Q := hp ▸ k
theorem pv_getRk {a n idx b : Nat} (c j : Nat) (hdg : decode M.2.1 pc = .ok (.getfield idx, 3)) (hf : pv_fld M.1.cls idx c j) (hR : pv_isR (pv_fT c j) = true) (hta : ty a = some (c, n)) (hr : r a j = b) (k : pv_E Γ d kc ks M (pc + 3) ls (.ref b :: st) ty h r g Q) : pv_E Γ d kc ks M pc ls (.ref a :: st) ty h r g Q := pv_getR c j hdg hf hR hta (hr ▸ k)
theorem pv_hE {h1 : pv_H} (e : h1 = h) (k : pv_E Γ d kc ks M pc ls st ty h1 r g Q) : pv_E Γ d kc ks M pc ls st ty h r g Q := e ▸ k
theorem pv_rE {r1 : pv_R} (e : r1 = r) (k : pv_E Γ d kc ks M pc ls st ty h r1 g Q) : pv_E Γ d kc ks M pc ls st ty h r g Q := e ▸ k
theorem pv_gE {g1 : pv_G} (e : g1 = g) (k : pv_E Γ d kc ks M pc ls st ty h r g1 Q) : pv_E Γ d kc ks M pc ls st ty h r g Q := e ▸ k
theorem pv_nE {ty1 : pv_T} {h1 : pv_H} {r1 : pv_R} {g1 : pv_G} (e1 : ty1 = ty) (e2 : h1 = h) (e3 : r1 = r) (e4 : g1 = g) (k : pv_E Γ d kc ks M pc ls st ty1 h1 r1 g1 Q) : pv_E Γ d kc ks M pc ls st ty h r g Q := by subst e1 e2 e3 e4; exact k
theorem pv_E.mono {Q' : pv_Q} (k : pv_E Γ d kc ks M pc ls st ty h r g Q) (hq : ∀ v ty' h' r' g', Q v ty' h' r' g' → Q' v ty' h' r' g') : pv_E Γ d kc ks M pc ls st ty h r g Q' := by
  intro p e R s m args below meth c H locs cells slots ρ lz Z hK
  refine k p e R s m args below meth c H locs cells slots ρ lz Z ⟨hK.1, hK.2.1, hK.2.2.1, hK.2.2.2.1, hK.2.2.2.2.1, hK.2.2.2.2.2.1, hK.2.2.2.2.2.2.1, ?_⟩
  intro H' locs' cells' slots' ρ' lz' pc' v ty' h' r' g' hQ
  exact hK.2.2.2.2.2.2.2 H' locs' cells' slots' ρ' lz' pc' v ty' h' r' g' (hq _ _ _ _ _ hQ)
end PVX
theorem pv_CT.mono {Γ : pv_C} {d kc ks : Nat} {N : pv_M} {As : List Value} {ty : pv_T} {h : pv_H} {r : pv_R} {g : pv_G} {Q Q' : pv_Q} (k : pv_CT Γ d kc ks N As ty h r g Q) (hq : ∀ v ty' h' r' g', Q v ty' h' r' g' → Q' v ty' h' r' g') : pv_CT Γ d kc ks N As ty h r g Q' := by
  intro ρ p e h1 h2 h3 s m args below h4 h5 h6 h7
  obtain ⟨n, o, a1, a2, a3, ⟨ρ', v, ty', h', r', g', e1, e2, e3⟩, a5⟩ := k ρ p e h1 h2 h3 s m args below h4 h5 h6 h7
  exact ⟨n, o, a1, a2, a3, ⟨ρ', v, ty', h', r', g', e1, hq _ _ _ _ _ e2, e3⟩, a5⟩
/-- it answers v, and nothing changes -/
def pv_is (v : Value) (ty : pv_T) (h : pv_H) (r : pv_R) (g : pv_G) : pv_Q := fun v' ty' h' r' g' => v' = some v ∧ ty' = ty ∧ h' = h ∧ r' = r ∧ g' = g
theorem pv_is_refl (v : Value) (ty : pv_T) (h : pv_H) (r : pv_R) (g : pv_G) : pv_is v ty h r g (some v) ty h r g := ⟨rfl, rfl, rfl, rfl, rfl⟩
def pv_jq (ty : pv_T) (r : pv_R) (g : pv_G) (K : Int32 → pv_H → Prop) : pv_Q := fun v ty' h' r' g' => ty' = ty ∧ r' = r ∧ g' = g ∧ ∃ x : Int32, v = some (.int x) ∧ K x h'
def pv_wq (ty : pv_T) (r : pv_R) (g : pv_G) (K : pv_H → Prop) : pv_Q := fun v ty' h' r' g' => ty' = ty ∧ r' = r ∧ g' = g ∧ v = none ∧ K h'
theorem pv_jqi {ty : pv_T} {r : pv_R} {g : pv_G} {K : Int32 → pv_H → Prop} {x : Int32} {h' : pv_H} (hK : K x h') : pv_jq ty r g K (some (.int x)) ty h' r g := ⟨rfl, rfl, rfl, x, rfl, hK⟩
theorem pv_wqi {ty : pv_T} {r : pv_R} {g : pv_G} {K : pv_H → Prop} {h' : pv_H} (hK : K h') : pv_wq ty r g K none ty h' r g := ⟨rfl, rfl, rfl, rfl, hK⟩
def pv_CJ (Γ : pv_C) (d : Nat) (N : pv_M) (As : List Value) (ty : pv_T) (h : pv_H) (r : pv_R) (g : pv_G) (K : Int32 → pv_H → Prop) : Prop := pv_CT Γ d 0 0 N As ty h r g (pv_jq ty r g K)
def pv_CW (Γ : pv_C) (d : Nat) (N : pv_M) (As : List Value) (ty : pv_T) (h : pv_H) (r : pv_R) (g : pv_G) (K : pv_H → Prop) : Prop := pv_CT Γ d 0 0 N As ty h r g (pv_wq ty r g K)
theorem pv_CJ.mono {Γ : pv_C} {d : Nat} {N : pv_M} {As : List Value} {ty : pv_T} {h : pv_H} {r : pv_R} {g : pv_G} {K K' : Int32 → pv_H → Prop} (k : pv_CJ Γ d N As ty h r g K) (hq : ∀ x h', K x h' → K' x h') : pv_CJ Γ d N As ty h r g K' := pv_CT.mono k (fun _ _ _ _ _ q => ⟨q.1, q.2.1, q.2.2.1, q.2.2.2.choose, q.2.2.2.choose_spec.1, hq _ _ q.2.2.2.choose_spec.2⟩)
theorem pv_CW.mono {Γ : pv_C} {d : Nat} {N : pv_M} {As : List Value} {ty : pv_T} {h : pv_H} {r : pv_R} {g : pv_G} {K K' : pv_H → Prop} (k : pv_CW Γ d N As ty h r g K) (hq : ∀ h', K h' → K' h') : pv_CW Γ d N As ty h r g K' := pv_CT.mono k (fun _ _ _ _ _ q => ⟨q.1, q.2.1, q.2.2.1, q.2.2.2.1, hq _ q.2.2.2.2⟩)
/-! the fixed cells: names, kinds, lengths; which field holds which (by program) -/
def pv_layT : List (Nat × Nat × Nat) := [(30, 2, 0), (31, 20, 144), (32, 20, 144), (40, 4, 0), (41, 20, 900), (42, 20, 9), (43, 20, 9), (50, 10, 0), (51, 20, 10), (52, 20, 610), (53, 20, 10), (54, 20, 10), (60, 7, 0), (61, 20, 6), (62, 20, 18), (63, 20, 18), (64, 20, 3), (65, 20, 6), (66, 20, 6), (67, 20, 8), (70, 1, 0), (71, 21, 160), (72, 26, 20), (80, 9, 0), (81, 20, 6), (90, 5, 0), (91, 23, 1681), (92, 20, 40), (93, 20, 40), (100, 11, 0), (110, 24, 8), (117, 25, 60), (121, 27, 200), (200, 12, 0), (302, 20, 8), (303, 20, 8), (304, 20, 1152), (305, 22, 1152), (306, 20, 256), (311, 20, 9), (312, 20, 9), (313, 20, 900), (314, 20, 10), (315, 20, 10), (317, 20, 10), (318, 20, 610), (320, 22, 248), (321, 20, 248), (322, 20, 8), (323, 20, 8), (324, 20, 8), (325, 20, 8), (328, 20, 8), (329, 20, 8), (330, 20, 3), (331, 20, 3), (334, 20, 60), (335, 20, 60), (336, 20, 60), (337, 20, 60), (338, 20, 60), (339, 21, 160), (342, 20, 20), (343, 20, 20), (344, 20, 20), (345, 20, 20), (346, 20, 3400), (347, 20, 3400), (348, 20, 170), (352, 20, 128), (353, 20, 170), (356, 20, 200), (357, 20, 200), (358, 20, 200), (359, 20, 200), (360, 20, 200), (361, 20, 200), (363, 20, 40), (364, 22, 40), (365, 23, 1681)]
def pv_layR : List (Nat × Nat × Nat) := [(30, 0, 31), (30, 1, 32), (40, 0, 41), (40, 1, 42), (40, 2, 43), (50, 0, 51), (50, 1, 52), (50, 2, 53), (50, 3, 54), (60, 0, 61), (60, 1, 62), (60, 2, 63), (60, 3, 64), (60, 4, 65), (60, 5, 66), (60, 6, 67), (70, 0, 71), (70, 1, 72), (70, 2, 80), (80, 0, 81), (90, 0, 91), (90, 1, 92), (90, 2, 93), (100, 0, 110), (100, 2, 30), (100, 3, 40), (100, 4, 50), (100, 6, 60), (100, 7, 117), (100, 10, 70), (100, 11, 121), (100, 13, 90), (200, 2, 302), (200, 3, 303), (200, 4, 304), (200, 5, 305), (200, 6, 306), (200, 11, 311), (200, 12, 312), (200, 13, 313), (200, 14, 314), (200, 15, 315), (200, 17, 317), (200, 18, 318), (200, 20, 320), (200, 21, 321), (200, 22, 322), (200, 23, 323), (200, 24, 324), (200, 25, 325), (200, 28, 328), (200, 29, 329), (200, 30, 330), (200, 31, 331), (200, 34, 334), (200, 35, 335), (200, 36, 336), (200, 37, 337), (200, 38, 338), (200, 39, 339), (200, 42, 342), (200, 43, 343), (200, 44, 344), (200, 45, 345), (200, 46, 346), (200, 47, 347), (200, 48, 348), (200, 52, 352), (200, 53, 353), (200, 56, 356), (200, 57, 357), (200, 58, 358), (200, 59, 359), (200, 60, 360), (200, 61, 361), (200, 63, 363), (200, 64, 364), (200, 65, 365)]
def pv_Lay (ty : pv_T) (r : pv_R) : Prop := (∀ q ∈ pv_layT, ty q.1 = some q.2) ∧ ∀ q ∈ pv_layR, r q.1 q.2.1 = q.2.2
theorem lt_30 {ty : pv_T} {r : pv_R} (hL : pv_Lay ty r) : ty 30 = some (2, 0) := hL.1 (30, 2, 0) (by decide +kernel)
theorem lt_31 {ty : pv_T} {r : pv_R} (hL : pv_Lay ty r) : ty 31 = some (20, 144) := hL.1 (31, 20, 144) (by decide +kernel)
theorem lt_32 {ty : pv_T} {r : pv_R} (hL : pv_Lay ty r) : ty 32 = some (20, 144) := hL.1 (32, 20, 144) (by decide +kernel)
theorem lt_40 {ty : pv_T} {r : pv_R} (hL : pv_Lay ty r) : ty 40 = some (4, 0) := hL.1 (40, 4, 0) (by decide +kernel)
theorem lt_41 {ty : pv_T} {r : pv_R} (hL : pv_Lay ty r) : ty 41 = some (20, 900) := hL.1 (41, 20, 900) (by decide +kernel)
theorem lt_42 {ty : pv_T} {r : pv_R} (hL : pv_Lay ty r) : ty 42 = some (20, 9) := hL.1 (42, 20, 9) (by decide +kernel)
theorem lt_43 {ty : pv_T} {r : pv_R} (hL : pv_Lay ty r) : ty 43 = some (20, 9) := hL.1 (43, 20, 9) (by decide +kernel)
theorem lt_50 {ty : pv_T} {r : pv_R} (hL : pv_Lay ty r) : ty 50 = some (10, 0) := hL.1 (50, 10, 0) (by decide +kernel)
theorem lt_51 {ty : pv_T} {r : pv_R} (hL : pv_Lay ty r) : ty 51 = some (20, 10) := hL.1 (51, 20, 10) (by decide +kernel)
theorem lt_52 {ty : pv_T} {r : pv_R} (hL : pv_Lay ty r) : ty 52 = some (20, 610) := hL.1 (52, 20, 610) (by decide +kernel)
theorem lt_53 {ty : pv_T} {r : pv_R} (hL : pv_Lay ty r) : ty 53 = some (20, 10) := hL.1 (53, 20, 10) (by decide +kernel)
theorem lt_54 {ty : pv_T} {r : pv_R} (hL : pv_Lay ty r) : ty 54 = some (20, 10) := hL.1 (54, 20, 10) (by decide +kernel)
theorem lt_60 {ty : pv_T} {r : pv_R} (hL : pv_Lay ty r) : ty 60 = some (7, 0) := hL.1 (60, 7, 0) (by decide +kernel)
theorem lt_61 {ty : pv_T} {r : pv_R} (hL : pv_Lay ty r) : ty 61 = some (20, 6) := hL.1 (61, 20, 6) (by decide +kernel)
theorem lt_62 {ty : pv_T} {r : pv_R} (hL : pv_Lay ty r) : ty 62 = some (20, 18) := hL.1 (62, 20, 18) (by decide +kernel)
theorem lt_63 {ty : pv_T} {r : pv_R} (hL : pv_Lay ty r) : ty 63 = some (20, 18) := hL.1 (63, 20, 18) (by decide +kernel)
theorem lt_64 {ty : pv_T} {r : pv_R} (hL : pv_Lay ty r) : ty 64 = some (20, 3) := hL.1 (64, 20, 3) (by decide +kernel)
theorem lt_65 {ty : pv_T} {r : pv_R} (hL : pv_Lay ty r) : ty 65 = some (20, 6) := hL.1 (65, 20, 6) (by decide +kernel)
theorem lt_66 {ty : pv_T} {r : pv_R} (hL : pv_Lay ty r) : ty 66 = some (20, 6) := hL.1 (66, 20, 6) (by decide +kernel)
theorem lt_67 {ty : pv_T} {r : pv_R} (hL : pv_Lay ty r) : ty 67 = some (20, 8) := hL.1 (67, 20, 8) (by decide +kernel)
theorem lt_70 {ty : pv_T} {r : pv_R} (hL : pv_Lay ty r) : ty 70 = some (1, 0) := hL.1 (70, 1, 0) (by decide +kernel)
theorem lt_71 {ty : pv_T} {r : pv_R} (hL : pv_Lay ty r) : ty 71 = some (21, 160) := hL.1 (71, 21, 160) (by decide +kernel)
theorem lt_72 {ty : pv_T} {r : pv_R} (hL : pv_Lay ty r) : ty 72 = some (26, 20) := hL.1 (72, 26, 20) (by decide +kernel)
theorem lt_80 {ty : pv_T} {r : pv_R} (hL : pv_Lay ty r) : ty 80 = some (9, 0) := hL.1 (80, 9, 0) (by decide +kernel)
theorem lt_81 {ty : pv_T} {r : pv_R} (hL : pv_Lay ty r) : ty 81 = some (20, 6) := hL.1 (81, 20, 6) (by decide +kernel)
theorem lt_90 {ty : pv_T} {r : pv_R} (hL : pv_Lay ty r) : ty 90 = some (5, 0) := hL.1 (90, 5, 0) (by decide +kernel)
theorem lt_91 {ty : pv_T} {r : pv_R} (hL : pv_Lay ty r) : ty 91 = some (23, 1681) := hL.1 (91, 23, 1681) (by decide +kernel)
theorem lt_92 {ty : pv_T} {r : pv_R} (hL : pv_Lay ty r) : ty 92 = some (20, 40) := hL.1 (92, 20, 40) (by decide +kernel)
theorem lt_93 {ty : pv_T} {r : pv_R} (hL : pv_Lay ty r) : ty 93 = some (20, 40) := hL.1 (93, 20, 40) (by decide +kernel)
theorem lt_100 {ty : pv_T} {r : pv_R} (hL : pv_Lay ty r) : ty 100 = some (11, 0) := hL.1 (100, 11, 0) (by decide +kernel)
theorem lt_110 {ty : pv_T} {r : pv_R} (hL : pv_Lay ty r) : ty 110 = some (24, 8) := hL.1 (110, 24, 8) (by decide +kernel)
theorem lt_117 {ty : pv_T} {r : pv_R} (hL : pv_Lay ty r) : ty 117 = some (25, 60) := hL.1 (117, 25, 60) (by decide +kernel)
theorem lt_121 {ty : pv_T} {r : pv_R} (hL : pv_Lay ty r) : ty 121 = some (27, 200) := hL.1 (121, 27, 200) (by decide +kernel)
theorem lt_200 {ty : pv_T} {r : pv_R} (hL : pv_Lay ty r) : ty 200 = some (12, 0) := hL.1 (200, 12, 0) (by decide +kernel)
theorem lt_302 {ty : pv_T} {r : pv_R} (hL : pv_Lay ty r) : ty 302 = some (20, 8) := hL.1 (302, 20, 8) (by decide +kernel)
theorem lt_303 {ty : pv_T} {r : pv_R} (hL : pv_Lay ty r) : ty 303 = some (20, 8) := hL.1 (303, 20, 8) (by decide +kernel)
theorem lt_304 {ty : pv_T} {r : pv_R} (hL : pv_Lay ty r) : ty 304 = some (20, 1152) := hL.1 (304, 20, 1152) (by decide +kernel)
theorem lt_305 {ty : pv_T} {r : pv_R} (hL : pv_Lay ty r) : ty 305 = some (22, 1152) := hL.1 (305, 22, 1152) (by decide +kernel)
theorem lt_306 {ty : pv_T} {r : pv_R} (hL : pv_Lay ty r) : ty 306 = some (20, 256) := hL.1 (306, 20, 256) (by decide +kernel)
theorem lt_311 {ty : pv_T} {r : pv_R} (hL : pv_Lay ty r) : ty 311 = some (20, 9) := hL.1 (311, 20, 9) (by decide +kernel)
theorem lt_312 {ty : pv_T} {r : pv_R} (hL : pv_Lay ty r) : ty 312 = some (20, 9) := hL.1 (312, 20, 9) (by decide +kernel)
theorem lt_313 {ty : pv_T} {r : pv_R} (hL : pv_Lay ty r) : ty 313 = some (20, 900) := hL.1 (313, 20, 900) (by decide +kernel)
theorem lt_314 {ty : pv_T} {r : pv_R} (hL : pv_Lay ty r) : ty 314 = some (20, 10) := hL.1 (314, 20, 10) (by decide +kernel)
theorem lt_315 {ty : pv_T} {r : pv_R} (hL : pv_Lay ty r) : ty 315 = some (20, 10) := hL.1 (315, 20, 10) (by decide +kernel)
theorem lt_317 {ty : pv_T} {r : pv_R} (hL : pv_Lay ty r) : ty 317 = some (20, 10) := hL.1 (317, 20, 10) (by decide +kernel)
theorem lt_318 {ty : pv_T} {r : pv_R} (hL : pv_Lay ty r) : ty 318 = some (20, 610) := hL.1 (318, 20, 610) (by decide +kernel)
theorem lt_320 {ty : pv_T} {r : pv_R} (hL : pv_Lay ty r) : ty 320 = some (22, 248) := hL.1 (320, 22, 248) (by decide +kernel)
theorem lt_321 {ty : pv_T} {r : pv_R} (hL : pv_Lay ty r) : ty 321 = some (20, 248) := hL.1 (321, 20, 248) (by decide +kernel)
theorem lt_322 {ty : pv_T} {r : pv_R} (hL : pv_Lay ty r) : ty 322 = some (20, 8) := hL.1 (322, 20, 8) (by decide +kernel)
theorem lt_323 {ty : pv_T} {r : pv_R} (hL : pv_Lay ty r) : ty 323 = some (20, 8) := hL.1 (323, 20, 8) (by decide +kernel)
theorem lt_324 {ty : pv_T} {r : pv_R} (hL : pv_Lay ty r) : ty 324 = some (20, 8) := hL.1 (324, 20, 8) (by decide +kernel)
theorem lt_325 {ty : pv_T} {r : pv_R} (hL : pv_Lay ty r) : ty 325 = some (20, 8) := hL.1 (325, 20, 8) (by decide +kernel)
theorem lt_328 {ty : pv_T} {r : pv_R} (hL : pv_Lay ty r) : ty 328 = some (20, 8) := hL.1 (328, 20, 8) (by decide +kernel)
theorem lt_329 {ty : pv_T} {r : pv_R} (hL : pv_Lay ty r) : ty 329 = some (20, 8) := hL.1 (329, 20, 8) (by decide +kernel)
theorem lt_330 {ty : pv_T} {r : pv_R} (hL : pv_Lay ty r) : ty 330 = some (20, 3) := hL.1 (330, 20, 3) (by decide +kernel)
theorem lt_331 {ty : pv_T} {r : pv_R} (hL : pv_Lay ty r) : ty 331 = some (20, 3) := hL.1 (331, 20, 3) (by decide +kernel)
theorem lt_334 {ty : pv_T} {r : pv_R} (hL : pv_Lay ty r) : ty 334 = some (20, 60) := hL.1 (334, 20, 60) (by decide +kernel)
theorem lt_335 {ty : pv_T} {r : pv_R} (hL : pv_Lay ty r) : ty 335 = some (20, 60) := hL.1 (335, 20, 60) (by decide +kernel)
theorem lt_336 {ty : pv_T} {r : pv_R} (hL : pv_Lay ty r) : ty 336 = some (20, 60) := hL.1 (336, 20, 60) (by decide +kernel)
theorem lt_337 {ty : pv_T} {r : pv_R} (hL : pv_Lay ty r) : ty 337 = some (20, 60) := hL.1 (337, 20, 60) (by decide +kernel)
theorem lt_338 {ty : pv_T} {r : pv_R} (hL : pv_Lay ty r) : ty 338 = some (20, 60) := hL.1 (338, 20, 60) (by decide +kernel)
theorem lt_339 {ty : pv_T} {r : pv_R} (hL : pv_Lay ty r) : ty 339 = some (21, 160) := hL.1 (339, 21, 160) (by decide +kernel)
theorem lt_342 {ty : pv_T} {r : pv_R} (hL : pv_Lay ty r) : ty 342 = some (20, 20) := hL.1 (342, 20, 20) (by decide +kernel)
theorem lt_343 {ty : pv_T} {r : pv_R} (hL : pv_Lay ty r) : ty 343 = some (20, 20) := hL.1 (343, 20, 20) (by decide +kernel)
theorem lt_344 {ty : pv_T} {r : pv_R} (hL : pv_Lay ty r) : ty 344 = some (20, 20) := hL.1 (344, 20, 20) (by decide +kernel)
theorem lt_345 {ty : pv_T} {r : pv_R} (hL : pv_Lay ty r) : ty 345 = some (20, 20) := hL.1 (345, 20, 20) (by decide +kernel)
theorem lt_346 {ty : pv_T} {r : pv_R} (hL : pv_Lay ty r) : ty 346 = some (20, 3400) := hL.1 (346, 20, 3400) (by decide +kernel)
theorem lt_347 {ty : pv_T} {r : pv_R} (hL : pv_Lay ty r) : ty 347 = some (20, 3400) := hL.1 (347, 20, 3400) (by decide +kernel)
theorem lt_348 {ty : pv_T} {r : pv_R} (hL : pv_Lay ty r) : ty 348 = some (20, 170) := hL.1 (348, 20, 170) (by decide +kernel)
theorem lt_352 {ty : pv_T} {r : pv_R} (hL : pv_Lay ty r) : ty 352 = some (20, 128) := hL.1 (352, 20, 128) (by decide +kernel)
theorem lt_353 {ty : pv_T} {r : pv_R} (hL : pv_Lay ty r) : ty 353 = some (20, 170) := hL.1 (353, 20, 170) (by decide +kernel)
theorem lt_356 {ty : pv_T} {r : pv_R} (hL : pv_Lay ty r) : ty 356 = some (20, 200) := hL.1 (356, 20, 200) (by decide +kernel)
theorem lt_357 {ty : pv_T} {r : pv_R} (hL : pv_Lay ty r) : ty 357 = some (20, 200) := hL.1 (357, 20, 200) (by decide +kernel)
theorem lt_358 {ty : pv_T} {r : pv_R} (hL : pv_Lay ty r) : ty 358 = some (20, 200) := hL.1 (358, 20, 200) (by decide +kernel)
theorem lt_359 {ty : pv_T} {r : pv_R} (hL : pv_Lay ty r) : ty 359 = some (20, 200) := hL.1 (359, 20, 200) (by decide +kernel)
theorem lt_360 {ty : pv_T} {r : pv_R} (hL : pv_Lay ty r) : ty 360 = some (20, 200) := hL.1 (360, 20, 200) (by decide +kernel)
theorem lt_361 {ty : pv_T} {r : pv_R} (hL : pv_Lay ty r) : ty 361 = some (20, 200) := hL.1 (361, 20, 200) (by decide +kernel)
theorem lt_363 {ty : pv_T} {r : pv_R} (hL : pv_Lay ty r) : ty 363 = some (20, 40) := hL.1 (363, 20, 40) (by decide +kernel)
theorem lt_364 {ty : pv_T} {r : pv_R} (hL : pv_Lay ty r) : ty 364 = some (22, 40) := hL.1 (364, 22, 40) (by decide +kernel)
theorem lt_365 {ty : pv_T} {r : pv_R} (hL : pv_Lay ty r) : ty 365 = some (23, 1681) := hL.1 (365, 23, 1681) (by decide +kernel)
theorem lr_30_0 {ty : pv_T} {r : pv_R} (hL : pv_Lay ty r) : r 30 0 = 31 := hL.2 (30, 0, 31) (by decide +kernel)
theorem lr_30_1 {ty : pv_T} {r : pv_R} (hL : pv_Lay ty r) : r 30 1 = 32 := hL.2 (30, 1, 32) (by decide +kernel)
theorem lr_40_0 {ty : pv_T} {r : pv_R} (hL : pv_Lay ty r) : r 40 0 = 41 := hL.2 (40, 0, 41) (by decide +kernel)
theorem lr_40_1 {ty : pv_T} {r : pv_R} (hL : pv_Lay ty r) : r 40 1 = 42 := hL.2 (40, 1, 42) (by decide +kernel)
theorem lr_40_2 {ty : pv_T} {r : pv_R} (hL : pv_Lay ty r) : r 40 2 = 43 := hL.2 (40, 2, 43) (by decide +kernel)
theorem lr_50_0 {ty : pv_T} {r : pv_R} (hL : pv_Lay ty r) : r 50 0 = 51 := hL.2 (50, 0, 51) (by decide +kernel)
theorem lr_50_1 {ty : pv_T} {r : pv_R} (hL : pv_Lay ty r) : r 50 1 = 52 := hL.2 (50, 1, 52) (by decide +kernel)
theorem lr_50_2 {ty : pv_T} {r : pv_R} (hL : pv_Lay ty r) : r 50 2 = 53 := hL.2 (50, 2, 53) (by decide +kernel)
theorem lr_50_3 {ty : pv_T} {r : pv_R} (hL : pv_Lay ty r) : r 50 3 = 54 := hL.2 (50, 3, 54) (by decide +kernel)
theorem lr_60_0 {ty : pv_T} {r : pv_R} (hL : pv_Lay ty r) : r 60 0 = 61 := hL.2 (60, 0, 61) (by decide +kernel)
theorem lr_60_1 {ty : pv_T} {r : pv_R} (hL : pv_Lay ty r) : r 60 1 = 62 := hL.2 (60, 1, 62) (by decide +kernel)
theorem lr_60_2 {ty : pv_T} {r : pv_R} (hL : pv_Lay ty r) : r 60 2 = 63 := hL.2 (60, 2, 63) (by decide +kernel)
theorem lr_60_3 {ty : pv_T} {r : pv_R} (hL : pv_Lay ty r) : r 60 3 = 64 := hL.2 (60, 3, 64) (by decide +kernel)
theorem lr_60_4 {ty : pv_T} {r : pv_R} (hL : pv_Lay ty r) : r 60 4 = 65 := hL.2 (60, 4, 65) (by decide +kernel)
theorem lr_60_5 {ty : pv_T} {r : pv_R} (hL : pv_Lay ty r) : r 60 5 = 66 := hL.2 (60, 5, 66) (by decide +kernel)
theorem lr_60_6 {ty : pv_T} {r : pv_R} (hL : pv_Lay ty r) : r 60 6 = 67 := hL.2 (60, 6, 67) (by decide +kernel)
theorem lr_70_0 {ty : pv_T} {r : pv_R} (hL : pv_Lay ty r) : r 70 0 = 71 := hL.2 (70, 0, 71) (by decide +kernel)
theorem lr_70_1 {ty : pv_T} {r : pv_R} (hL : pv_Lay ty r) : r 70 1 = 72 := hL.2 (70, 1, 72) (by decide +kernel)
theorem lr_70_2 {ty : pv_T} {r : pv_R} (hL : pv_Lay ty r) : r 70 2 = 80 := hL.2 (70, 2, 80) (by decide +kernel)
theorem lr_80_0 {ty : pv_T} {r : pv_R} (hL : pv_Lay ty r) : r 80 0 = 81 := hL.2 (80, 0, 81) (by decide +kernel)
theorem lr_90_0 {ty : pv_T} {r : pv_R} (hL : pv_Lay ty r) : r 90 0 = 91 := hL.2 (90, 0, 91) (by decide +kernel)
theorem lr_90_1 {ty : pv_T} {r : pv_R} (hL : pv_Lay ty r) : r 90 1 = 92 := hL.2 (90, 1, 92) (by decide +kernel)
theorem lr_90_2 {ty : pv_T} {r : pv_R} (hL : pv_Lay ty r) : r 90 2 = 93 := hL.2 (90, 2, 93) (by decide +kernel)
theorem lr_100_0 {ty : pv_T} {r : pv_R} (hL : pv_Lay ty r) : r 100 0 = 110 := hL.2 (100, 0, 110) (by decide +kernel)
theorem lr_100_2 {ty : pv_T} {r : pv_R} (hL : pv_Lay ty r) : r 100 2 = 30 := hL.2 (100, 2, 30) (by decide +kernel)
theorem lr_100_3 {ty : pv_T} {r : pv_R} (hL : pv_Lay ty r) : r 100 3 = 40 := hL.2 (100, 3, 40) (by decide +kernel)
theorem lr_100_4 {ty : pv_T} {r : pv_R} (hL : pv_Lay ty r) : r 100 4 = 50 := hL.2 (100, 4, 50) (by decide +kernel)
theorem lr_100_6 {ty : pv_T} {r : pv_R} (hL : pv_Lay ty r) : r 100 6 = 60 := hL.2 (100, 6, 60) (by decide +kernel)
theorem lr_100_7 {ty : pv_T} {r : pv_R} (hL : pv_Lay ty r) : r 100 7 = 117 := hL.2 (100, 7, 117) (by decide +kernel)
theorem lr_100_10 {ty : pv_T} {r : pv_R} (hL : pv_Lay ty r) : r 100 10 = 70 := hL.2 (100, 10, 70) (by decide +kernel)
theorem lr_100_11 {ty : pv_T} {r : pv_R} (hL : pv_Lay ty r) : r 100 11 = 121 := hL.2 (100, 11, 121) (by decide +kernel)
theorem lr_100_13 {ty : pv_T} {r : pv_R} (hL : pv_Lay ty r) : r 100 13 = 90 := hL.2 (100, 13, 90) (by decide +kernel)
theorem lr_200_2 {ty : pv_T} {r : pv_R} (hL : pv_Lay ty r) : r 200 2 = 302 := hL.2 (200, 2, 302) (by decide +kernel)
theorem lr_200_3 {ty : pv_T} {r : pv_R} (hL : pv_Lay ty r) : r 200 3 = 303 := hL.2 (200, 3, 303) (by decide +kernel)
theorem lr_200_4 {ty : pv_T} {r : pv_R} (hL : pv_Lay ty r) : r 200 4 = 304 := hL.2 (200, 4, 304) (by decide +kernel)
theorem lr_200_5 {ty : pv_T} {r : pv_R} (hL : pv_Lay ty r) : r 200 5 = 305 := hL.2 (200, 5, 305) (by decide +kernel)
theorem lr_200_6 {ty : pv_T} {r : pv_R} (hL : pv_Lay ty r) : r 200 6 = 306 := hL.2 (200, 6, 306) (by decide +kernel)
theorem lr_200_11 {ty : pv_T} {r : pv_R} (hL : pv_Lay ty r) : r 200 11 = 311 := hL.2 (200, 11, 311) (by decide +kernel)
theorem lr_200_12 {ty : pv_T} {r : pv_R} (hL : pv_Lay ty r) : r 200 12 = 312 := hL.2 (200, 12, 312) (by decide +kernel)
theorem lr_200_13 {ty : pv_T} {r : pv_R} (hL : pv_Lay ty r) : r 200 13 = 313 := hL.2 (200, 13, 313) (by decide +kernel)
theorem lr_200_14 {ty : pv_T} {r : pv_R} (hL : pv_Lay ty r) : r 200 14 = 314 := hL.2 (200, 14, 314) (by decide +kernel)
theorem lr_200_15 {ty : pv_T} {r : pv_R} (hL : pv_Lay ty r) : r 200 15 = 315 := hL.2 (200, 15, 315) (by decide +kernel)
theorem lr_200_17 {ty : pv_T} {r : pv_R} (hL : pv_Lay ty r) : r 200 17 = 317 := hL.2 (200, 17, 317) (by decide +kernel)
theorem lr_200_18 {ty : pv_T} {r : pv_R} (hL : pv_Lay ty r) : r 200 18 = 318 := hL.2 (200, 18, 318) (by decide +kernel)
theorem lr_200_20 {ty : pv_T} {r : pv_R} (hL : pv_Lay ty r) : r 200 20 = 320 := hL.2 (200, 20, 320) (by decide +kernel)
theorem lr_200_21 {ty : pv_T} {r : pv_R} (hL : pv_Lay ty r) : r 200 21 = 321 := hL.2 (200, 21, 321) (by decide +kernel)
theorem lr_200_22 {ty : pv_T} {r : pv_R} (hL : pv_Lay ty r) : r 200 22 = 322 := hL.2 (200, 22, 322) (by decide +kernel)
theorem lr_200_23 {ty : pv_T} {r : pv_R} (hL : pv_Lay ty r) : r 200 23 = 323 := hL.2 (200, 23, 323) (by decide +kernel)
theorem lr_200_24 {ty : pv_T} {r : pv_R} (hL : pv_Lay ty r) : r 200 24 = 324 := hL.2 (200, 24, 324) (by decide +kernel)
theorem lr_200_25 {ty : pv_T} {r : pv_R} (hL : pv_Lay ty r) : r 200 25 = 325 := hL.2 (200, 25, 325) (by decide +kernel)
theorem lr_200_28 {ty : pv_T} {r : pv_R} (hL : pv_Lay ty r) : r 200 28 = 328 := hL.2 (200, 28, 328) (by decide +kernel)
theorem lr_200_29 {ty : pv_T} {r : pv_R} (hL : pv_Lay ty r) : r 200 29 = 329 := hL.2 (200, 29, 329) (by decide +kernel)
theorem lr_200_30 {ty : pv_T} {r : pv_R} (hL : pv_Lay ty r) : r 200 30 = 330 := hL.2 (200, 30, 330) (by decide +kernel)
theorem lr_200_31 {ty : pv_T} {r : pv_R} (hL : pv_Lay ty r) : r 200 31 = 331 := hL.2 (200, 31, 331) (by decide +kernel)
theorem lr_200_34 {ty : pv_T} {r : pv_R} (hL : pv_Lay ty r) : r 200 34 = 334 := hL.2 (200, 34, 334) (by decide +kernel)
theorem lr_200_35 {ty : pv_T} {r : pv_R} (hL : pv_Lay ty r) : r 200 35 = 335 := hL.2 (200, 35, 335) (by decide +kernel)
theorem lr_200_36 {ty : pv_T} {r : pv_R} (hL : pv_Lay ty r) : r 200 36 = 336 := hL.2 (200, 36, 336) (by decide +kernel)
theorem lr_200_37 {ty : pv_T} {r : pv_R} (hL : pv_Lay ty r) : r 200 37 = 337 := hL.2 (200, 37, 337) (by decide +kernel)
theorem lr_200_38 {ty : pv_T} {r : pv_R} (hL : pv_Lay ty r) : r 200 38 = 338 := hL.2 (200, 38, 338) (by decide +kernel)
theorem lr_200_39 {ty : pv_T} {r : pv_R} (hL : pv_Lay ty r) : r 200 39 = 339 := hL.2 (200, 39, 339) (by decide +kernel)
theorem lr_200_42 {ty : pv_T} {r : pv_R} (hL : pv_Lay ty r) : r 200 42 = 342 := hL.2 (200, 42, 342) (by decide +kernel)
theorem lr_200_43 {ty : pv_T} {r : pv_R} (hL : pv_Lay ty r) : r 200 43 = 343 := hL.2 (200, 43, 343) (by decide +kernel)
theorem lr_200_44 {ty : pv_T} {r : pv_R} (hL : pv_Lay ty r) : r 200 44 = 344 := hL.2 (200, 44, 344) (by decide +kernel)
theorem lr_200_45 {ty : pv_T} {r : pv_R} (hL : pv_Lay ty r) : r 200 45 = 345 := hL.2 (200, 45, 345) (by decide +kernel)
theorem lr_200_46 {ty : pv_T} {r : pv_R} (hL : pv_Lay ty r) : r 200 46 = 346 := hL.2 (200, 46, 346) (by decide +kernel)
theorem lr_200_47 {ty : pv_T} {r : pv_R} (hL : pv_Lay ty r) : r 200 47 = 347 := hL.2 (200, 47, 347) (by decide +kernel)
theorem lr_200_48 {ty : pv_T} {r : pv_R} (hL : pv_Lay ty r) : r 200 48 = 348 := hL.2 (200, 48, 348) (by decide +kernel)
theorem lr_200_52 {ty : pv_T} {r : pv_R} (hL : pv_Lay ty r) : r 200 52 = 352 := hL.2 (200, 52, 352) (by decide +kernel)
theorem lr_200_53 {ty : pv_T} {r : pv_R} (hL : pv_Lay ty r) : r 200 53 = 353 := hL.2 (200, 53, 353) (by decide +kernel)
theorem lr_200_56 {ty : pv_T} {r : pv_R} (hL : pv_Lay ty r) : r 200 56 = 356 := hL.2 (200, 56, 356) (by decide +kernel)
theorem lr_200_57 {ty : pv_T} {r : pv_R} (hL : pv_Lay ty r) : r 200 57 = 357 := hL.2 (200, 57, 357) (by decide +kernel)
theorem lr_200_58 {ty : pv_T} {r : pv_R} (hL : pv_Lay ty r) : r 200 58 = 358 := hL.2 (200, 58, 358) (by decide +kernel)
theorem lr_200_59 {ty : pv_T} {r : pv_R} (hL : pv_Lay ty r) : r 200 59 = 359 := hL.2 (200, 59, 359) (by decide +kernel)
theorem lr_200_60 {ty : pv_T} {r : pv_R} (hL : pv_Lay ty r) : r 200 60 = 360 := hL.2 (200, 60, 360) (by decide +kernel)
theorem lr_200_61 {ty : pv_T} {r : pv_R} (hL : pv_Lay ty r) : r 200 61 = 361 := hL.2 (200, 61, 361) (by decide +kernel)
theorem lr_200_63 {ty : pv_T} {r : pv_R} (hL : pv_Lay ty r) : r 200 63 = 363 := hL.2 (200, 63, 363) (by decide +kernel)
theorem lr_200_64 {ty : pv_T} {r : pv_R} (hL : pv_Lay ty r) : r 200 64 = 364 := hL.2 (200, 64, 364) (by decide +kernel)
theorem lr_200_65 {ty : pv_T} {r : pv_R} (hL : pv_Lay ty r) : r 200 65 = 365 := hL.2 (200, 65, 365) (by decide +kernel)
def pf_b (p : Prop) [Decidable p] : Int32 := if p then 1 else 0
theorem pf_b_0 {p : Prop} [Decidable p] : pf_b p = 0 ↔ ¬ p := by unfold pf_b; split <;> simp_all
theorem pf_b_1 {p : Prop} [Decidable p] : pf_b p = 1 ↔ p := by unfold pf_b; split <;> simp_all
theorem pf_b_t {p : Prop} [Decidable p] (h : p) : pf_b p = 1 := if_pos h
theorem pf_b_f {p : Prop} [Decidable p] (h : ¬ p) : pf_b p = 0 := if_neg h
theorem pf_b_n {p : Prop} [Decidable p] : narrow .boolean (.int (pf_b p)) = .int (pf_b p) := by unfold pf_b; split <;> rfl
theorem pf_b_01 {p : Prop} [Decidable p] : pf_b p = 0 ∨ pf_b p = 1 := by unfold pf_b; split <;> simp
theorem pv_lAt_entry {As : List Value} {n i : Nat} {v : Value} (h : pv_lAt (As.map some ++ List.replicate n none) i = some v) : As[i]? = some v := by
  unfold pv_lAt at h
  by_cases hi : i < As.length
  · rw [List.getElem?_append_left (by simpa using hi), List.getElem?_map] at h
    cases hq : As[i]? with
    | none => rw [hq] at h; cases h
    | some w => rw [hq] at h; exact h
  · rw [List.getElem?_append_right (by simp; omega)] at h
    rw [List.getElem?_replicate] at h
    split at h <;> cases h
theorem pv_fn {Γ : pv_C} {d kc ks : Nat} {M : pv_M} {As : List Value} {ty : pv_T} {h : pv_H} {r : pv_R} {g : pv_G} {Q : pv_Q} (n : Nat) (hy : plainName M.1.cls = true) (hcat : As.all (fun v => v.category == 1) = true) (hlen : As.length ≤ M.2.2.1) (hE : pv_E Γ d kc ks M 0 (As.map some ++ List.replicate n none) [] ty h r g Q) : pv_CT Γ d kc ks M As ty h r g Q :=
  pv_ofE hy (fun v hv => by simpa using List.all_eq_true.mp hcat v hv) hlen (fun i v hv => pv_lAt_entry hv) hE
theorem pn_J0 : plainName RJ0 = true := by decide +kernel
theorem pn_J1 : plainName RJ1 = true := by decide +kernel
theorem pn_J10 : plainName RJ10 = true := by decide +kernel
theorem pn_J11 : plainName RJ11 = true := by decide +kernel
theorem pn_J2 : plainName RJ2 = true := by decide +kernel
theorem pn_J3 : plainName RJ3 = true := by decide +kernel
theorem pn_J6 : plainName RJ6 = true := by decide +kernel
theorem pn_J7 : plainName RJ7 = true := by decide +kernel
theorem pn_Jx8e188 : plainName RJx8e188 = true := by decide +kernel
theorem pn_X0 : plainName RX0 = true := by decide +kernel
theorem pn_X1 : plainName RX1 = true := by decide +kernel
theorem pn_X10 : plainName RX10 = true := by decide +kernel
theorem pn_X11 : plainName RX11 = true := by decide +kernel
theorem pn_X12 : plainName RX12 = true := by decide +kernel
theorem pn_X2 : plainName RX2 = true := by decide +kernel
theorem pn_X3 : plainName RX3 = true := by decide +kernel
theorem pn_X4 : plainName RX4 = true := by decide +kernel
theorem pn_X5 : plainName RX5 = true := by decide +kernel
theorem pn_X6 : plainName RX6 = true := by decide +kernel
theorem pn_X7 : plainName RX7 = true := by decide +kernel
theorem pn_X8 : plainName RX8 = true := by decide +kernel
theorem pn_X9 : plainName RX9 = true := by decide +kernel
