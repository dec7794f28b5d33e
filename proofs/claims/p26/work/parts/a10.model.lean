/-! ===== the law's numbers and the row of the class ===== -/
/-- where number k of the law stands in the row -/
def cl (k : Nat) : Nat := [0, 0, 1, 8, 20, 21, 22, 3, 4, 5, 6, 7, 283, 284, 285, 296, 286, 288, 289, 290, 291].getD k 0
def md_s (l : Bool) : Int32 := bif l then 60 else 61
/-- what of the row stays -/
def fx (l : Bool) (o : Nat) : List (Nat × Int32) := [(0, 2), (2, 1), (18, 0), (31, 0), (19, 1), (32, 0), (292, 0), (293, -1), (294, -1), (295, -1), (297, 100), (301, 0), (302, 4), (455, 0), (456, 0), (457, md_s l), (458, 2), (459, 0), (460, 1), (461, 0), (462, 1), (463, 61), (464, 0), (465, nI o), (466, 0), (467, 3), (473, 1), (45, 0), (58, 0), (71, 0)]
def fxk : List Nat := [0, 2, 18, 31, 19, 32, 292, 293, 294, 295, 297, 301, 302, 455, 456, 457, 458, 459, 460, 461, 462, 463, 464, 465, 466, 467, 473, 45, 58, 71]
/-- the row e as the law's numbers say: F its numbers, A and C its arrays -/
def md (e F A C : Nat → Int32) (l : Bool) (o : Nat) : Prop := (∀ k, 2 ≤ k → k < 21 → e (cl k) = F k) ∧ (∀ p, p ∈ fx l o → e p.1 = p.2) ∧ ∃ m, m ≤ 40 ∧ F 2 = nI m ∧ ∀ q, q < m → e (75 + 5 * q) = A q ∧ e (75 + 5 * q + 1) = C q
theorem fx_cl {l : Bool} {o k : Nat} {p : Nat × Int32} (hp : p ∈ fx l o) (h2 : 2 ≤ k) (hk : k < 21) : p.1 ≠ cl k := by
  have h1 : p.1 ∈ (fx l o).map Prod.fst := List.mem_map.mpr ⟨p, hp, rfl⟩
  have h3 : (fx l o).map Prod.fst = fxk := rfl
  rw [h3] at h1
  exact (show ∀ j, j ∈ fxk → ∀ k, k < 21 → 2 ≤ k → j ≠ cl k by decide +kernel) _ h1 k hk h2
theorem fx_lo {l : Bool} {o : Nat} {p : Nat × Int32} (hp : p ∈ fx l o) : p.1 < 75 ∨ 275 ≤ p.1 := by
  have h1 : p.1 ∈ (fx l o).map Prod.fst := List.mem_map.mpr ⟨p, hp, rfl⟩
  have h3 : (fx l o).map Prod.fst = fxk := rfl
  rw [h3] at h1
  exact (show ∀ j, j ∈ fxk → j < 75 ∨ 275 ≤ j by decide +kernel) _ h1
theorem cl_inj {j k : Nat} (j2 : 2 ≤ j) (hj : j < 21) (k2 : 2 ≤ k) (hk : k < 21) (h : j ≠ k) : cl j ≠ cl k := fun q => h ((show ∀ j, j < 21 → ∀ k, k < 21 → (2 ≤ j ∧ 2 ≤ k ∧ cl j = cl k) → j = k by decide +kernel) j hj k hk ⟨j2, k2, q⟩)
theorem cl_lo {k : Nat} (hk : k < 21) : cl k < 75 ∨ 275 ≤ cl k := (show ∀ k, k < 21 → cl k < 75 ∨ 275 ≤ cl k by decide +kernel) k hk
theorem md.put {e F A C : Nat → Int32} {l : Bool} {o k : Nat} {x : Int32} (h : md e F A C l o) (h2 : 3 ≤ k) (hk : k < 21) : md (upd e (cl k) x) (upd F k x) A C l o := by
  obtain ⟨h3, h4, m, h5, h6, h7⟩ := h
  have hc := cl_lo hk
  refine ⟨fun j j1 j2 => ?_, fun p hp => ?_, m, h5, ?_, fun q hq => ⟨?_, ?_⟩⟩
  · by_cases ej : j = k
    · rw [ej, updI_eq, updI_eq]
    · rw [updI_ne (cl_inj j1 j2 (by omega) hk ej), updI_ne ej]
      exact h3 j j1 j2
  · rw [updI_ne (fx_cl hp (by omega) hk)]
    exact h4 p hp
  · rw [updI_ne (by omega)]
    exact h6
  · rw [updI_ne (by omega)]
    exact (h7 q hq).1
  · rw [updI_ne (by omega)]
    exact (h7 q hq).2
section MDG
variable {e F A C : Nat → Int32} {l : Bool} {o : Nat}
theorem md.g2 (h : md e F A C l o) : e 1 = F 2 := h.1 2 (by decide) (by decide)
theorem md.g3 (h : md e F A C l o) : e 8 = F 3 := h.1 3 (by decide) (by decide)
theorem md.g4 (h : md e F A C l o) : e 20 = F 4 := h.1 4 (by decide) (by decide)
theorem md.g5 (h : md e F A C l o) : e 21 = F 5 := h.1 5 (by decide) (by decide)
theorem md.g6 (h : md e F A C l o) : e 22 = F 6 := h.1 6 (by decide) (by decide)
theorem md.g7 (h : md e F A C l o) : e 3 = F 7 := h.1 7 (by decide) (by decide)
theorem md.g8 (h : md e F A C l o) : e 4 = F 8 := h.1 8 (by decide) (by decide)
theorem md.g9 (h : md e F A C l o) : e 5 = F 9 := h.1 9 (by decide) (by decide)
theorem md.g10 (h : md e F A C l o) : e 6 = F 10 := h.1 10 (by decide) (by decide)
theorem md.g11 (h : md e F A C l o) : e 7 = F 11 := h.1 11 (by decide) (by decide)
theorem md.g12 (h : md e F A C l o) : e 283 = F 12 := h.1 12 (by decide) (by decide)
theorem md.g13 (h : md e F A C l o) : e 284 = F 13 := h.1 13 (by decide) (by decide)
theorem md.g14 (h : md e F A C l o) : e 285 = F 14 := h.1 14 (by decide) (by decide)
theorem md.g15 (h : md e F A C l o) : e 296 = F 15 := h.1 15 (by decide) (by decide)
theorem md.g16 (h : md e F A C l o) : e 286 = F 16 := h.1 16 (by decide) (by decide)
theorem md.g17 (h : md e F A C l o) : e 288 = F 17 := h.1 17 (by decide) (by decide)
theorem md.g18 (h : md e F A C l o) : e 289 = F 18 := h.1 18 (by decide) (by decide)
theorem md.g19 (h : md e F A C l o) : e 290 = F 19 := h.1 19 (by decide) (by decide)
theorem md.g20 (h : md e F A C l o) : e 291 = F 20 := h.1 20 (by decide) (by decide)
theorem md.f0 (h : md e F A C l o) : e 0 = 2 := h.2.1 (0, 2) (List.mem_of_getElem? (i := 0) rfl)
theorem md.f2 (h : md e F A C l o) : e 2 = 1 := h.2.1 (2, 1) (List.mem_of_getElem? (i := 1) rfl)
theorem md.f18 (h : md e F A C l o) : e 18 = 0 := h.2.1 (18, 0) (List.mem_of_getElem? (i := 2) rfl)
theorem md.f31 (h : md e F A C l o) : e 31 = 0 := h.2.1 (31, 0) (List.mem_of_getElem? (i := 3) rfl)
theorem md.f19 (h : md e F A C l o) : e 19 = 1 := h.2.1 (19, 1) (List.mem_of_getElem? (i := 4) rfl)
theorem md.f32 (h : md e F A C l o) : e 32 = 0 := h.2.1 (32, 0) (List.mem_of_getElem? (i := 5) rfl)
theorem md.f292 (h : md e F A C l o) : e 292 = 0 := h.2.1 (292, 0) (List.mem_of_getElem? (i := 6) rfl)
theorem md.f293 (h : md e F A C l o) : e 293 = -1 := h.2.1 (293, -1) (List.mem_of_getElem? (i := 7) rfl)
theorem md.f294 (h : md e F A C l o) : e 294 = -1 := h.2.1 (294, -1) (List.mem_of_getElem? (i := 8) rfl)
theorem md.f295 (h : md e F A C l o) : e 295 = -1 := h.2.1 (295, -1) (List.mem_of_getElem? (i := 9) rfl)
theorem md.f297 (h : md e F A C l o) : e 297 = 100 := h.2.1 (297, 100) (List.mem_of_getElem? (i := 10) rfl)
theorem md.f301 (h : md e F A C l o) : e 301 = 0 := h.2.1 (301, 0) (List.mem_of_getElem? (i := 11) rfl)
theorem md.f302 (h : md e F A C l o) : e 302 = 4 := h.2.1 (302, 4) (List.mem_of_getElem? (i := 12) rfl)
theorem md.f455 (h : md e F A C l o) : e 455 = 0 := h.2.1 (455, 0) (List.mem_of_getElem? (i := 13) rfl)
theorem md.f456 (h : md e F A C l o) : e 456 = 0 := h.2.1 (456, 0) (List.mem_of_getElem? (i := 14) rfl)
theorem md.f457 (h : md e F A C l o) : e 457 = md_s l := h.2.1 (457, md_s l) (List.mem_of_getElem? (i := 15) rfl)
theorem md.f458 (h : md e F A C l o) : e 458 = 2 := h.2.1 (458, 2) (List.mem_of_getElem? (i := 16) rfl)
theorem md.f459 (h : md e F A C l o) : e 459 = 0 := h.2.1 (459, 0) (List.mem_of_getElem? (i := 17) rfl)
theorem md.f460 (h : md e F A C l o) : e 460 = 1 := h.2.1 (460, 1) (List.mem_of_getElem? (i := 18) rfl)
theorem md.f461 (h : md e F A C l o) : e 461 = 0 := h.2.1 (461, 0) (List.mem_of_getElem? (i := 19) rfl)
theorem md.f462 (h : md e F A C l o) : e 462 = 1 := h.2.1 (462, 1) (List.mem_of_getElem? (i := 20) rfl)
theorem md.f463 (h : md e F A C l o) : e 463 = 61 := h.2.1 (463, 61) (List.mem_of_getElem? (i := 21) rfl)
theorem md.f464 (h : md e F A C l o) : e 464 = 0 := h.2.1 (464, 0) (List.mem_of_getElem? (i := 22) rfl)
theorem md.f465 (h : md e F A C l o) : e 465 = nI o := h.2.1 (465, nI o) (List.mem_of_getElem? (i := 23) rfl)
theorem md.f466 (h : md e F A C l o) : e 466 = 0 := h.2.1 (466, 0) (List.mem_of_getElem? (i := 24) rfl)
theorem md.f467 (h : md e F A C l o) : e 467 = 3 := h.2.1 (467, 3) (List.mem_of_getElem? (i := 25) rfl)
theorem md.f473 (h : md e F A C l o) : e 473 = 1 := h.2.1 (473, 1) (List.mem_of_getElem? (i := 26) rfl)
theorem md.f45 (h : md e F A C l o) : e 45 = 0 := h.2.1 (45, 0) (List.mem_of_getElem? (i := 27) rfl)
theorem md.f58 (h : md e F A C l o) : e 58 = 0 := h.2.1 (58, 0) (List.mem_of_getElem? (i := 28) rfl)
theorem md.f71 (h : md e F A C l o) : e 71 = 0 := h.2.1 (71, 0) (List.mem_of_getElem? (i := 29) rfl)
end MDG
section MDL
variable {e F A C gv : Nat → Int32} {l z : Bool} {o t : Nat} {v : Int32}
theorem md.cm (h : md e F A C l o) : s_cm e = 2 := n_of (k := 2) h.f0 (by decide)
theorem md.sm (h : md e F A C l o) : s_sm e = 1 := n_of (k := 1) h.f2 (by decide)
theorem md.lm (h : md e F A C l o) : F 2 = nI (s_lm e) ∧ s_lm e ≤ 40 ∧ ∀ q, q < s_lm e → e (75 + 5 * q) = A q ∧ e (75 + 5 * q + 1) = C q := by
  obtain ⟨-, -, m, h5, h6, h7⟩ := id h
  have e1 : s_lm e = m := n_of (h.g2.trans h6) (by omega)
  rw [e1]
  exact ⟨h6, h5, h7⟩
theorem md.from (h : md e F A C l o) : s_from e 0 = 0 := n_of (k := 0) h.f301 (by decide)
theorem md.to (h : md e F A C l o) : s_to e 0 = 4 := n_of (k := 4) h.f302 (by decide)
theorem md.chosen0 (h : md e F A C l o) : s_chosen e gv 0 0 z = 0 := by
  unfold s_chosen
  rw [h.from, h.to]
  show s_pick e gv 0 z 3 (s_pick e gv 0 z 2 (s_pick e gv 0 z 1 (s_pick e gv 0 z 0 (-1)))) = 0
  have p0 : s_pick e gv 0 z 0 (-1) = 0 := by
    unfold s_pick
    rw [if_pos (show s_cod e 0 0 = 0 from h.f455), if_pos (show s_cod e 0 5 = 1 from h.f460), if_pos (show s_cod e 0 1 = 0 from h.f456), if_pos rfl]
    rfl
  have p1 : s_pick e gv 0 z 1 0 = 0 := by
    unfold s_pick
    rw [if_pos (show s_cod e 1 0 = 0 from h.f461), if_neg (show ¬ s_cod e 1 5 = 1 by rw [show s_cod e 1 5 = 0 from h.f466]; decide)]
  have p2 : s_pick e gv 0 z 2 0 = 0 := by
    unfold s_pick
    rw [if_neg (show ¬ s_cod e 2 0 = 0 by rw [show s_cod e 2 0 = 3 from h.f467]; decide)]
  have p3 : s_pick e gv 0 z 3 0 = 0 := by
    unfold s_pick
    rw [if_neg (show ¬ s_cod e 3 0 = 0 by rw [show s_cod e 3 0 = 1 from h.f473]; decide)]
  rw [p0, p1, p2, p3]
theorem md.est (h : md e F A C l o) : s_est e gv 0 z = e_est F (gv 0) z l := by
  have c1 : (s_cod e 0 1).toNatClampNeg = 0 := n_of (k := 0) (show s_cod e 0 1 = 0 from h.f456) (by decide)
  have c4 : (s_cod e 0 4).toNatClampNeg = 0 := n_of (k := 0) (show s_cod e 0 4 = 0 from h.f459) (by decide)
  have s2 : s_cod e 0 2 = md_s l := h.f457
  have s3 : s_cod e 0 3 = 2 := h.f458
  unfold s_est s_est0 s_seen s_up e_est
  rw [c1, c4, s2, s3, show s_col e 0 10 = F 4 from h.g4, show s_col e 0 11 = F 5 from h.g5, show s_col e 0 12 = F 6 from h.g6, h.g3, if_pos rfl]
  cases l <;> cases z <;> rfl
theorem md.scan (h : md e F A C l o) : s_cost e gv 0 (-1) z = F 8 * F 3 := by
  unfold s_cost
  rw [if_pos rfl, h.g8, h.g3]
theorem md.cost0 (h : md e F A C l o) : s_cost e gv 0 0 z = e_cost F (e_est F (gv 0) z l) := by
  unfold s_cost s_cost1 e_cost
  rw [if_neg (by decide), show (0 : Int32).toNatClampNeg = 0 from rfl, if_pos (show s_col e 0 9 = 1 from h.f19), h.chosen0, if_neg (by decide), show (0 : Int32).toNatClampNeg = 0 from rfl, h.est, show s_st e 0 (21 + 0) = F 15 from h.g15, h.g9, h.g10]
theorem md.cost1 (h : md e F A C l o) : s_cost e gv 0 (nI 1) z = -1 := by
  unfold s_cost s_cost1
  rw [if_neg (by decide), show (nI 1).toNatClampNeg = 1 from rfl, if_neg (show ¬ s_col e 1 9 = 1 by rw [show s_col e 1 9 = 0 from h.f32]; decide)]
theorem md.costOf {p x : Int32} (h : md e F A C l o) (hp : p = -1 ∨ p = 0) (hx : x = e_est F (gv 0) z l) : s_cost e gv 0 p z = e_costOf F p x := by
  subst hx
  rcases hp with rfl | rfl
  · rw [h.scan]; rfl
  · rw [h.cost0]; rfl
theorem md.cost_ne (h : md e F A C l o) (hi : s_inv t e) : ¬ e_cost F (e_est F (gv 0) z l) = -1 := by
  obtain ⟨hwf, ⟨-, ⟨a5, b5, c5⟩, ⟨a6, b6, c6⟩⟩, -, hst⟩ := hi
  have hs : 0 < s_sm e := by rw [h.sm]; decide
  obtain ⟨-, -, -, -, hpc⟩ := hst 0 hs
  have hcm : s_cmpok e 0 := (hwf.st 0 hs).2.2 0 (by rw [h.from]; decide) (by rw [h.to]; decide) h.f455
  obtain ⟨q, q1, q2⟩ := s_est_b (gv := gv) (z := z) hwf hcm
  obtain ⟨r, r1, r2⟩ := hpc 0 (by decide)
  rw [h.est] at q2
  have r2' : F 15 = nI r := h.g15.symm.trans r2
  unfold e_cost
  rw [q2, r2', ← h.g9, ← h.g10, c5, c6, pk_mul, show (100 : Int32) = nI 100 from rfl]
  have hqr : q * r ≤ 40 * 1000 := Nat.mul_le_mul q1 r1
  rw [pk_div (by omega) (by omega) (by omega), pk_mul, nI_add]
  have h3 : q * r / 100 ≤ 400 := by omega
  have h4 : a6 * (q * r / 100) ≤ 99 * 400 := Nat.mul_le_mul b6 h3
  exact nI_ne_m1 (by omega)
theorem md.best (h : md e F A C l o) (hi : s_inv t e) : s_best e gv 0 (s_cm e) z = e_plan F (e_est F (gv 0) z l) := by
  rw [h.cm]
  show (s_bst1 (s_bst1 (-1, s_cost e gv 0 (-1) z) 0 (s_cost e gv 0 (nI 0) z)) 1 (s_cost e gv 0 (nI 1) z)).1 = _
  rw [h.cost1, show s_cost e gv 0 (nI 0) z = _ from h.cost0, h.scan]
  unfold s_bst1 e_plan
  rw [if_pos rfl, if_neg (h.cost_ne hi)]
  by_cases c : e_cost F (e_est F (gv 0) z l) < F 8 * F 3
  · rw [if_pos c, if_pos c]; rfl
  · rw [if_neg c, if_neg c]
theorem e_plan_2 {x : Int32} : e_plan F x = -1 ∨ e_plan F x = 0 := by
  unfold e_plan
  by_cases c : e_cost F x < F 8 * F 3
  · rw [if_pos c]; exact Or.inr rfl
  · rw [if_neg c]; exact Or.inl rfl
/-- what a run keeps -/
def e_r1 (F : Nat → Int32) (g : Int32) : Nat → Int32 := if ¬ F 12 < F 11 ∧ e_stale F then upd (upd (upd (upd F 18 (e_plan F g)) 19 (e_costOf F (e_plan F g) g)) 20 (F 7)) 16 (F 16 + 1) else F
/-- the plan that is used -/
def e_pl (F : Nat → Int32) (s g : Int32) : Int32 := if e_turn F g then (if e_stale F then e_plan F g else F 18) else e_plan F s
def e_r2 (F : Nat → Int32) (s g : Int32) : Nat → Int32 := if e_turn F g then e_r1 F g else upd (upd (e_r1 F g) 13 (e_r1 F g 13 + 1)) 14 (e_r1 F g 14 + e_costOf F (e_pl F s g) s)
def e_met (A : Nat → Int32) (v : Int32) (l : Bool) (p : Int32) : Nat → Int32
  | 0 => 0
  | k + 1 => e_met A v l p k + (if p < 0 ∨ (bif l then decide (A k < v) else decide (A k = v)) = true then 1 else 0)
def e_r4 (F A : Nat → Int32) (v : Int32) (l : Bool) (s g : Int32) (n : Nat) : Nat → Int32 := upd (upd (e_r2 F s g) 12 (F 12 + 1)) 17 (e_r2 F s g 17 + e_met A v l (e_pl F s g) n)
/-- the law's numbers after a run -/
def e_run (F A : Nat → Int32) (v : Int32) (l : Bool) (s g : Int32) (n : Nat) : Nat → Int32 := if e_pl F s g < 0 then e_r4 F A v l s g n else upd (e_r4 F A v l s g n) 15 ((3 * e_r2 F s g 15 + x_min 1000 (100 * e_met A v l (e_pl F s g) n / x_max 1 (if e_turn F g then g else s))) / 4)
def e_kp (F : Nat → Int32) : Prop := F 18 = -2 ∨ F 18 = -1 ∨ F 18 = 0
theorem e_used_pl {s g : Int32} : e_used F s g = if e_turn F g then 2 * (e_pl F s g + 1) + 1 else 2 * (e_pl F s g + 1) := by
  unfold e_used e_pl
  by_cases c : e_turn F g
  · rw [if_pos c, if_pos c, if_pos c]
  · rw [if_neg c, if_neg c, if_neg c]
theorem e_pl_2 {s g : Int32} (hk : e_kp F) : e_pl F s g = -1 ∨ e_pl F s g = 0 := by
  unfold e_pl
  by_cases c : e_turn F g
  · rw [if_pos c]
    by_cases c2 : e_stale F
    · rw [if_pos c2]; exact e_plan_2
    · rw [if_neg c2]
      rcases hk with hk | hk | hk
      · exact absurd (Or.inl hk) c2
      · exact Or.inl hk
      · exact Or.inr hk
  · rw [if_neg c]; exact e_plan_2
theorem md.fresh (h : md e F A C l o) : s_fresh e 0 ↔ ¬ e_stale F := by
  have a1 : s_st e 0 14 = F 18 := h.g18
  have a2 : s_st e 0 16 = F 20 := h.g20
  have a3 : e 3 = F 7 := h.g7
  unfold s_fresh e_stale
  rw [a1, a2, a3]
  constructor
  · rintro ⟨b1, b2⟩ (c | c)
    · exact b1 c
    · exact c b2
  · intro c
    exact ⟨fun b => c (Or.inl b), Decidable.not_not.mp fun b => c (Or.inr b)⟩
theorem md.late (h : md e F A C l o) : s_late e 0 ↔ ¬ F 12 < F 11 := by
  have a1 : s_st e 0 8 = F 12 := h.g12
  have a3 : e 7 = F 11 := h.g11
  unfold s_late
  rw [a1, a3]
theorem md.r1 (h : md e F A C l o) (hi : s_inv t e) : md (s_r1 e gv 0) (e_r1 F (e_est F (gv 0) false l)) A C l o := by
  unfold s_r1 e_r1 s_mkg
  by_cases c1 : s_late e 0
  · rw [if_pos c1]
    by_cases c2 : s_fresh e 0
    · rw [if_pos c2, if_neg (fun q => h.fresh.mp c2 q.2)]
      exact h
    · have c3 : e_stale F := Decidable.not_not.mp fun q => c2 (h.fresh.mpr q)
      rw [if_neg c2, if_pos ⟨h.late.mp c1, c3⟩, h.best hi, h.costOf e_plan_2 rfl, h.g7, show s_st e 0 11 = F 16 from h.g16]
      exact (((h.put (k := 18) (by decide) (by decide)).put (k := 19) (by decide) (by decide)).put (k := 20) (by decide) (by decide)).put (k := 16) (by decide) (by decide)
  · rw [if_neg c1, if_neg (fun q => c1 (h.late.mpr q.1))]
    exact h
theorem md.mkg15 (h : md e F A C l o) (hi : s_inv t e) : s_st (s_mkg e gv 0) 0 15 = e_its F (e_est F (gv 0) false l) ∧ s_st (s_mkg e gv 0) 0 9 = F 13 ∧ s_st (s_mkg e gv 0) 0 10 = F 14 ∧ s_st (s_mkg e gv 0) 0 14 = (if e_stale F then e_plan F (e_est F (gv 0) false l) else F 18) := by
  unfold s_mkg e_its
  by_cases c2 : s_fresh e 0
  · have c3 : ¬ e_stale F := h.fresh.mp c2
    rw [if_pos c2, if_neg c3, if_neg c3]
    exact ⟨h.g19, h.g13, h.g14, h.g18⟩
  · have c3 : e_stale F := Decidable.not_not.mp fun q => c2 (h.fresh.mpr q)
    rw [if_neg c2, if_pos c3, if_pos c3]
    refine ⟨(show _ = s_cost e gv 0 (s_best e gv 0 (s_cm e) false) false from rfl).trans ?_, (show _ = e 284 from rfl).trans h.g13, (show _ = e 285 from rfl).trans h.g14, (show _ = s_best e gv 0 (s_cm e) false from rfl).trans (h.best hi)⟩
    rw [h.best hi]
    exact h.costOf e_plan_2 rfl
theorem md.keep (h : md e F A C l o) (hi : s_inv t e) (ht : t ≤ 512) : s_keep e gv 0 ↔ e_turn F (e_est F (gv 0) false l) := by
  obtain ⟨a1, a2, a3, -⟩ := h.mkg15 (gv := gv) hi
  have hov := s_hov (gv := gv) ht hi (show 0 < s_sm e by rw [h.sm]; decide)
  rw [a1, a2, a3] at hov
  unfold s_keep e_turn
  rw [h.late, a1, hov, Int32.not_lt, Int32.not_lt]
theorem md.rplan (h : md e F A C l o) (hi : s_inv t e) (ht : t ≤ 512) : s_rplan e gv 0 = e_pl F (e_est F (gv 0) true l) (e_est F (gv 0) false l) := by
  obtain ⟨-, -, -, a4⟩ := h.mkg15 (gv := gv) hi
  unfold s_rplan e_pl
  by_cases c : s_keep e gv 0
  · rw [if_pos c, if_pos ((h.keep hi ht).mp c), a4]
  · rw [if_neg c, if_neg (fun q => c ((h.keep hi ht).mpr q)), h.best hi]
theorem md.used (h : md e F A C l o) (hi : s_inv t e) (ht : t ≤ 512) : s_ckv e gv 0 = e_used F (e_est F (gv 0) true l) (e_est F (gv 0) false l) := by
  obtain ⟨-, -, -, a4⟩ := h.mkg15 (gv := gv) hi
  unfold s_ckv e_used
  by_cases c : s_keep e gv 0
  · rw [if_pos c, if_pos ((h.keep hi ht).mp c), a4]
  · rw [if_neg c, if_neg (fun q => c ((h.keep hi ht).mpr q)), h.best hi]
theorem md.tru (h : md e F A C l o) {k : Nat} (hk : k < s_lm e) : s_tru e gv 0 k = bif l then decide (A k < gv 0) else decide (A k = gv 0) := by
  have c1 : (s_cod e 0 1).toNatClampNeg = 0 := n_of (k := 0) (show s_cod e 0 1 = 0 from h.f456) (by decide)
  have c4 : (s_cod e 0 4).toNatClampNeg = 0 := n_of (k := 0) (show s_cod e 0 4 = 0 from h.f459) (by decide)
  unfold s_tru s_cmp s_rhs
  rw [c1, c4, show s_cod e 0 2 = md_s l from h.f457, show s_cod e 0 3 = 2 from h.f458, show s_val e k 0 = A k from (h.lm.2.2 k hk).1]
  cases l with
  | true => rw [if_pos (show md_s true = 60 from rfl), if_neg (show ¬ (2 : Int32) = 0 by decide), if_neg (show ¬ (2 : Int32) = 1 by decide)] <;> rfl
  | false => rw [if_neg (show ¬ md_s false = 60 by decide), if_pos (show md_s false = 61 from rfl), if_neg (show ¬ (2 : Int32) = 0 by decide), if_neg (show ¬ (2 : Int32) = 1 by decide)] <;> rfl
theorem md.tru1 (h : md e F A C l o) {k : Nat} (hk : k < s_lm e) : s_tru e gv 1 k = decide (C k = nI o) := by
  have c1 : (s_cod e 1 1).toNatClampNeg = 1 := n_of (k := 1) (show s_cod e 1 1 = 1 from h.f462) (by decide)
  unfold s_tru s_cmp s_rhs
  rw [c1, show s_cod e 1 2 = 61 from h.f463, show s_cod e 1 3 = 0 from h.f464, show s_cod e 1 4 = nI o from h.f465, show s_val e k 1 = C k from (h.lm.2.2 k hk).2, if_neg (by decide), if_pos rfl, if_pos rfl]
/-- the lines that are found -/
def e_hit (A C : Nat → Int32) (v : Int32) (l : Bool) (o : Nat) (k : Nat) : Bool := (bif l then decide (A k < v) else decide (A k = v)) && !decide (C k = nI o)
theorem md.find (h : md e F A C l o) {k : Nat} (hk : k < s_lm e) : s_find e gv 0 k = e_hit A C (gv 0) l o k := by
  unfold s_find
  rw [h.from, h.to]
  have o0 : s_cod e (0 + 0) 0 = 0 := h.f455
  have o1 : s_cod e (0 + 1) 0 = 0 := h.f461
  have o2 : s_cod e (0 + 2) 0 = 3 := h.f467
  have o3 : s_cod e (0 + 3) 0 = 1 := h.f473
  have g0 : s_hg e 0 0 = 0 := rfl
  have g1 : s_hg e 0 1 = 1 := by show s_hg1 (s_cod e (0 + 0) 0) (s_hg e 0 0) = 1; rw [o0, g0]; rfl
  have g2 : s_hg e 0 2 = 2 := by show s_hg1 (s_cod e (0 + 1) 0) (s_hg e 0 1) = 2; rw [o1, g1]; rfl
  have g3 : s_hg e 0 3 = 2 := by show s_hg1 (s_cod e (0 + 2) 0) (s_hg e 0 2) = 2; rw [o2, g2]; rfl
  show s_px1 (s_cod e (0 + 3) 0) (s_hg e 0 3) (s_tru e gv (0 + 3) k) (s_px1 (s_cod e (0 + 2) 0) (s_hg e 0 2) (s_tru e gv (0 + 2) k) (s_px1 (s_cod e (0 + 1) 0) (s_hg e 0 1) (s_tru e gv (0 + 1) k) (s_px1 (s_cod e (0 + 0) 0) (s_hg e 0 0) (s_tru e gv (0 + 0) k) (fun _ => false)))) 0 = _
  rw [o0, o1, o2, o3, g0, g1, g2, g3, show s_tru e gv (0 + 0) k = _ from h.tru hk, show s_tru e gv (0 + 1) k = _ from h.tru1 hk]
  rfl
theorem e_met_p {v p : Int32} (hp : p < 0) : ∀ n, e_met A v l p n = nI n
  | 0 => rfl
  | n + 1 => by
    show e_met A v l p n + (if p < 0 ∨ _ then 1 else 0) = _
    rw [if_pos (Or.inl hp), e_met_p hp n]
    exact nI_add n 1
theorem md.tch (h : md e F A C l o) {p : Int32} (hp : ¬ p < 0) : ∀ n, n ≤ s_lm e → s_tch e gv 0 n = e_met A (gv 0) l p n
  | 0, _ => rfl
  | n + 1, hn => by
    show s_tch e gv 0 n + (bif s_tru e gv 0 n then 1 else 0) = e_met A (gv 0) l p n + (if p < 0 ∨ _ then 1 else 0)
    rw [h.tch hp n (by omega), h.tru (by omega)]
    cases hb : (bif l then decide (A n < gv 0) else decide (A n = gv 0)) with
    | true => rw [if_pos (Or.inr rfl)]; rfl
    | false => rw [if_neg (fun q => q.elim hp (fun q => Bool.noConfusion q))]; rfl
theorem e_r1_k {g : Int32} {k : Nat} (h : k < 16 ∨ k = 17) : e_r1 F g k = F k := by
  unfold e_r1
  by_cases c : ¬ F 12 < F 11 ∧ e_stale F
  · rw [if_pos c, updI_ne (by omega), updI_ne (by omega), updI_ne (by omega), updI_ne (by omega)]
  · rw [if_neg c]
theorem e_r2_k {s g : Int32} {k : Nat} (h : k < 13 ∨ k = 15 ∨ k = 17) : e_r2 F s g k = F k := by
  unfold e_r2
  by_cases c : e_turn F g
  · rw [if_pos c]; exact e_r1_k (by omega)
  · rw [if_neg c, updI_ne (by omega), updI_ne (by omega)]; exact e_r1_k (by omega)
theorem e_est_k {F' : Nat → Int32} {v : Int32} (h : ∀ k, 3 ≤ k → k < 7 → F' k = F k) : e_est F' v z l = e_est F v z l := by
  unfold e_est
  rw [h 3 (by omega) (by omega), h 4 (by omega) (by omega), h 5 (by omega) (by omega), h 6 (by omega) (by omega)]
theorem md.run (h : md e F A C l o) (hi : s_inv t e) (ht : t ≤ 512) (hk : e_kp F) : md (s_run e gv 0) (e_run F A (gv 0) l (e_est F (gv 0) true l) (e_est F (gv 0) false l) (s_lm e)) A C l o := by
  have hr1 := h.r1 (gv := gv) hi
  have hkp := h.keep (gv := gv) hi ht
  have hpl := h.rplan (gv := gv) hi ht
  have hp2 := e_pl_2 (s := e_est F (gv 0) true l) (g := e_est F (gv 0) false l) hk
  have hr2 : md (s_r2 e gv 0) (e_r2 F (e_est F (gv 0) true l) (e_est F (gv 0) false l)) A C l o := by
    unfold s_r2 e_r2
    by_cases c : s_keep e gv 0
    · rw [if_pos c, if_pos (hkp.mp c)]
      have e1 : s_r1 e gv 0 = s_mkg e gv 0 := if_pos c.1
      rw [e1] at hr1
      exact hr1
    · rw [if_neg c, if_neg (fun q => c (hkp.mpr q)), hpl, h.costOf hp2 rfl, show s_st (s_r1 e gv 0) 0 9 = _ from hr1.g13, show s_st (s_r1 e gv 0) 0 10 = _ from hr1.g14]
      exact (hr1.put (k := 13) (by decide) (by decide)).put (k := 14) (by decide) (by decide)
  have hr3 : md (s_r3 e gv 0) (upd (e_r2 F (e_est F (gv 0) true l) (e_est F (gv 0) false l)) 12 (F 12 + 1)) A C l o := by
    unfold s_r3
    rw [show s_st e 0 8 = F 12 from h.g12]
    exact hr2.put (k := 12) (by decide) (by decide)
  have hlm : s_lm (s_r3 e gv 0) = s_lm e := by
    have a1 := hr3.lm.1
    rw [updI_ne (by omega), e_r2_k (by omega), h.lm.1] at a1
    exact ((nI_eq (Nat.lt_of_le_of_lt h.lm.2.1 (by decide)) (Nat.lt_of_le_of_lt hr3.lm.2.1 (by decide))).mp a1).symm
  have h17 : s_st (s_r3 e gv 0) 0 13 = e_r2 F (e_est F (gv 0) true l) (e_est F (gv 0) false l) 17 := (show _ = (s_r3 e gv 0) 288 from rfl).trans (hr3.g17.trans (updI_ne (by omega)))
  have h15 : s_st (s_r3 e gv 0) 0 (21 + 0) = e_r2 F (e_est F (gv 0) true l) (e_est F (gv 0) false l) 15 := (show _ = (s_r3 e gv 0) 296 from rfl).trans (hr3.g15.trans (updI_ne (by omega)))
  unfold s_run s_tou e_run
  rw [hpl]
  rcases hp2 with c | c
  · rw [c, if_pos rfl, if_pos (by decide)]
    unfold s_tou1 e_r4
    rw [if_pos rfl, h17, c, e_met_p (by decide), show s_r3 e gv 0 1 = nI (s_lm e) from hr3.g2.trans (by rw [updI_ne (by omega), e_r2_k (by omega)]; exact h.lm.1)]
    exact hr3.put (k := 17) (by decide) (by decide)
  · rw [c, if_neg (by decide), hr3.chosen0, if_neg (by decide)]
    unfold s_tou1 s_lrn e_r4
    have hes : s_est (s_r3 e gv 0) gv 0 (!decide (s_keep e gv 0)) = if e_turn F (e_est F (gv 0) false l) then e_est F (gv 0) false l else e_est F (gv 0) true l := by
      rw [hr3.est, e_est_k (F := F) (fun k k1 k2 => by rw [updI_ne (by omega)]; exact e_r2_k (by omega))]
      by_cases c2 : s_keep e gv 0
      · rw [decide_eq_true c2, if_pos (hkp.mp c2)]; rfl
      · rw [decide_eq_false c2, if_neg (fun q => c2 (hkp.mpr q))]; rfl
    rw [if_neg (by decide), show (0 : Int32).toNatClampNeg = 0 from rfl, hes, hlm, hr3.tch (p := 0) (by decide) (s_lm e) (by rw [hlm]; exact Nat.le_refl _), h17, h15, c]
    exact (hr3.put (k := 17) (by decide) (by decide)).put (k := 15) (by decide) (by decide)
theorem e_run_kp {s g v : Int32} {n : Nat} (hk : e_kp F) : e_kp (e_run F A v l s g n) := by
  have h18 : e_run F A v l s g n 18 = e_r1 F g 18 := by
    have a1 : e_r2 F s g 18 = e_r1 F g 18 := by
      unfold e_r2
      by_cases c : e_turn F g
      · rw [if_pos c]
      · rw [if_neg c, updI_ne (by omega), updI_ne (by omega)]
    have a2 : e_r4 F A v l s g n 18 = e_r1 F g 18 := by
      unfold e_r4
      rw [updI_ne (by omega), updI_ne (by omega), a1]
    unfold e_run
    by_cases c : e_pl F s g < 0
    · rw [if_pos c, a2]
    · rw [if_neg c, updI_ne (by omega), a2]
  unfold e_kp
  rw [h18]
  unfold e_r1
  by_cases c : ¬ F 12 < F 11 ∧ e_stale F
  · rw [if_pos c, updI_ne (by omega), updI_ne (by omega), updI_ne (by omega), updI_eq]
    exact Or.inr e_plan_2
  · rw [if_neg c]; exact hk
end MDL
