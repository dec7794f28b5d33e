/-! ===== the class's reader: conditions, a turn ===== -/
theorem y_tr_le {F F' : XH} {rd : Nat → Int32} {W v k kk : Nat} {z : Bool} {E : (Nat → Bool) → Bool} {l : List Nat} (hF : y_le F F') (h : y_tr F rd W v k kk z E l) : y_tr F' rd W v k kk z E l := ⟨y_ta.mono hF (Nat.le_refl _) (fun _ _ _ _ _ => rfl) rfl _ _ _ _ (Nat.le_refl _) h.1, t_sg.mono hF _ _ _ _ (Nat.le_refl _) h.2.1, h.2.2.1, h.2.2.2.1, y_fl_le h.2.2.2.2 hF (fun _ _ _ _ _ => rfl)⟩
theorem y_tr_W {F : XH} {rd : Nat → Int32} {W W' v k kk : Nat} {z : Bool} {E : (Nat → Bool) → Bool} {l : List Nat} (hW : W ≤ W') (h : y_tr F rd W v k kk z E l) : y_tr F rd W' v k kk z E l := ⟨y_ta.mono y_le_rfl (Nat.le_refl _) (fun _ _ _ _ _ => rfl) rfl _ _ _ _ hW h.1, t_sg.mono y_le_rfl _ _ _ _ hW h.2.1, h.2.2⟩
theorem s_nmn_cong {e e' : Nat → Int32} {a : Nat} : ∀ n, (∀ k, k < n → e (a + k) = e' (a + k)) → s_nmn e a n = s_nmn e' a n
  | 0, _ => rfl
  | n + 1, h => by
    show (if e (a + n) = 0 then s_nmn e a n else 32 * s_nmn e a n + (e (a + n)).toInt64 - 97 + 1) = (if e' (a + n) = 0 then s_nmn e' a n else 32 * s_nmn e' a n + (e' (a + n)).toInt64 - 97 + 1)
    rw [s_nmn_cong n (fun k hk => h k (by omega)), h n (by omega)]
theorem y_col_cong {rd rd' sv ty : Nat → Int32} {nm : Nat → Int64} {m : Nat} (h : y_col rd sv ty nm m) (hc : ∀ j, j < 275 → j ≠ 9 → rd' j = rd j) : y_col rd' sv ty nm m := by
  obtain ⟨h1, h2, h3⟩ := h
  refine ⟨h1, h2, fun j hj => ?_⟩
  obtain ⟨a1, a2, ⟨L, a3, a4, a5⟩, a6⟩ := h3 j hj
  have hl := a3.2
  refine ⟨a1.trans (s_nmn_cong 8 (fun k hk => (hc _ (by omega) (by omega)).symm)), a2.trans (hc _ (by omega) (by omega)).symm, ⟨L, a3, fun k hk => by rw [hc _ (by omega) (by omega)]; exact a4 k hk, fun k h1 h2 => by rw [hc _ (by omega) (by omega)]; exact a5 k h1 h2⟩, ?_⟩
  unfold s_col
  rw [hc _ (by omega) (by omega)]
  exact a6
theorem y_st3 {N : XH} {o q : Nat} {x y z : XC} : x_set (x_set (x_set N q x) o y) q z = x_set (x_set N o y) q z := by
  funext k
  unfold x_set
  by_cases h1 : k = q
  · rw [if_pos h1, if_pos h1]
  · rw [if_neg h1, if_neg h1, if_neg h1]
section
variable {B : XH} {J bf K tk ts : Nat → Int32} {tl : Int64} {tv : Nat → Int64} {su : Nat → Nat} {D : Nat → Nat → Int32} {ρ : Nat → Nat} {i : Nat} {er ea : Int32} {sv ty hv : Nat → Int32} {nm : Nat → Int64} {q l9 : Nat}
/-- a compound is made -/
theorem y_newC {c0 c1 c2 : XC} (hq : cset (rset B ρ i er ea sv nm ty hv) J bf K tk ts tl tv su D q = none) (hl : x_set (cset (rset B ρ i er ea sv nm ty hv) J bf K tk ts tl tv su D) q c0 l9 = none) : (s_out q ∧ B q = none ∧ ∀ a, a < 5 → ¬ q = ρ a) ∧ (s_out l9 ∧ B l9 = none ∧ ∀ a, a < 5 → ¬ l9 = ρ a) ∧ ¬ l9 = q ∧ x_set (x_set (x_set (cset (rset B ρ i er ea sv nm ty hv) J bf K tk ts tl tv su D) q c0) l9 c1) q c2 = cset (rset (x_set (x_set B l9 c1) q c2) ρ i er ea sv nm ty hv) J bf K tk ts tl tv su D := by
  have hne : ¬ l9 = q := fun e => by rw [e, x_set_eq] at hl; cases hl
  rw [x_set_ne hne] at hl
  obtain ⟨a1, a2, a3, -⟩ := rc_new hq
  obtain ⟨b1, b2, b3, b4⟩ := rc_new hl
  refine ⟨⟨a1, a2, a3⟩, ⟨b1, b2, b3⟩, hne, ?_⟩
  rw [y_st3, b4, y_set a1, rs_set a3]
end
theorem y_step {B B' B2 B3 : XH} {ρ : Nat → Nat} {o la elA nA q ll elL nL v el3 : Nat} {mA mL : Int32} {pA pL : Nat → Nat} (hh : y_hp B B' o la elA nA mA pA q ll elL nL mL pL) (hle : y_le B B') (hgw : y_gw B' B2 ρ) (g1 : y_lb B3 ll (mL + 1) el3 (nL + 1) (updF pL nL v)) (g2 : y_kp B2 B3 ll elL) (g3 : el3 = elL ∧ ¬ elL = 2 ∨ B2 el3 = none) : y_hp B B3 o la elA nA mA pA q ll el3 (nL + 1) (mL + 1) (updF pL nL v) ∧ y_le B B3 ∧ y_le (y_fz B B' [la, elA, ll, elL]) (y_fz B B3 [la, elA, ll, el3]) ∧ y_le (y_dif B' B2) (y_fz B B3 [la, elA, ll, el3]) := by
  have hle2 := hle.trans hgw.1
  obtain ⟨a1, a2, a3⟩ := (hh.le hgw.1).addL hle2 hgw.2.2.2 g1 g2 g3
  refine ⟨a1, a2, y_le.trans (y_fz_mv (y_mv_le hgw.1)) (y_fz_mv a3), y_le.trans (y_fz_dif2 hle (fun k hk => ?_)) (y_fz_mv a3)⟩
  obtain ⟨-, -, ⟨c1, -⟩, ⟨d1, -⟩, -, -, e3, -⟩ := hh
  simp only [List.mem_cons, List.not_mem_nil, or_false] at hk
  rcases hk with rfl | rfl | rfl | rfl
  · exact Or.inl ⟨_, c1.2.1⟩
  · rcases c1.2.2 with ⟨z1, -⟩ | ⟨cap, f, -, -, z3, -⟩
    · omega
    · exact Or.inl ⟨_, z3⟩
  · exact Or.inl ⟨_, d1.2.1⟩
  · rcases d1.2.2 with ⟨-, z1⟩ | ⟨cap, f, -, -, z3, -⟩
    · exact Or.inr (by rw [z1]; exact hgw.2.2.2)
    · exact Or.inl ⟨_, z3⟩
/-- the tree's shape, as far as it is -/
theorem y_hp.sg {B B' F : XH} {o la elA nA q ll elL nL W : Nat} {mA mL : Int32} {pA pL : Nat → Nat} {lA lL : Nat → List Nat} (h : y_hp B B' o la elA nA mA pA q ll elL nL mL pL) (hF : y_le F (y_dif B B')) (hA : ∀ j, j < nA - 1 → t_sg F (W + 1) (pA j) (lA j)) (hL : ∀ j, j < nL → t_sg F W (pL j) (lL j)) (hn : nA < 1000000 ∧ nL < 1000000) : t_sg (y_dif B B') (W + 2) o (if nA = 1 then y_cat lL nL else []) := by
  obtain ⟨⟨a1, a2, a3⟩, ⟨b1, b2, b3⟩, ⟨c1, c2, c3⟩, ⟨d1, d2, d3⟩, e1, e2, e3, e4⟩ := h
  have hq : t_sg (y_dif B B') (W + 1) q (y_cat lL nL) := Or.inr ⟨0, ll, nL, pL, lL, b1, (y_dif_of b2).trans b3, y_lb_dif d1 d2 d3 hn.2, fun j hj => t_sg.mono hF _ _ _ _ (Nat.le_refl _) (hL j hj), (if_pos (Or.inl rfl)).symm⟩
  refine Or.inr ⟨1, la, nA, pA, updE lA (nA - 1) (y_cat lL nL), a1, (y_dif_of a2).trans a3, y_lb_dif c1 c2 c3 hn.1, fun j hj => ?_, ?_⟩
  · by_cases e : j = nA - 1
    · rw [e, updE_eq, e4]; exact hq
    · rw [updE_ne e]; exact t_sg.mono hF _ _ _ _ (Nat.le_refl _) (hA j (by omega))
  · by_cases e : nA = 1
    · subst e
      rw [if_pos rfl, if_pos (Or.inr ⟨rfl, rfl⟩)]
      show _ = [] ++ updE lA 0 (y_cat lL nL) 0
      rw [updE_eq, List.nil_append]
    · rw [if_neg e, if_neg (fun q => q.elim (by decide) (fun q => e q.2))]
/-- what follows a term -/
def y_ct (tx : Nat → Int32) (n m w f4 h k0 : Nat) (first : Bool) : Nat × (Nat → Int32) → LR := fun x => l_prs tx n m w f4 4 first h k0 x.1 (bif first then x.2 else s_code x.2 (n_ (x.2 9)) 2 0)
theorem y_en2 {tx rd : Nat → Int32} {n m w f2 f4 h k0 p k : Nat} {zc first : Bool} (hn8 : n ≤ 800) (hm : m < 1000) (hp : p ≤ n) (hk : rd 9 = nI k) (hk5 : 5 * k + (bif first then 0 else 5) ≤ 2 * p) : p ≤ l_en n (l_bi (l_prs tx n m w f2 2 zc h 0 p rd) (y_ct tx n m w f4 h k0 first)) := by
  cases hR : l_prs tx n m w f2 2 zc h 0 p rd with
  | inl e => exact hp
  | inr x =>
    obtain ⟨h1, h2, k1, h3, h4, h5⟩ := l_prs_ok hn8 hm _ _ _ _ _ _ k _ _ _ hp hk (by cases first <;> simp only [cond_true, cond_false] at hk5 <;> omega) hR
    show p ≤ l_en n (l_prs tx n m w f4 4 first h k0 x.1 (bif first then x.2 else s_code x.2 (n_ (x.2 9)) 2 0))
    have hn1 : n_ (x.2 9) = k1 := by rw [h3]; exact n_nI (by omega)
    cases hR2 : l_prs tx n m w f4 4 first h k0 x.1 (bif first then x.2 else s_code x.2 (n_ (x.2 9)) 2 0) with
    | inl e => exact hp
    | inr y =>
      cases first with
      | true =>
        simp only [cond_true] at hk5 hR2
        have h6 := (l_prs_ok hn8 hm _ _ _ _ _ _ k1 _ _ _ h1.2 h3 (by omega) hR2).1
        show p ≤ y.1
        omega
      | false =>
        simp only [cond_false] at hk5 hR2
        rw [hn1] at hR2
        have h6 := (l_prs_ok hn8 hm _ _ _ _ _ _ (k1 + 1) _ _ _ h1.2 s_code_9 (by omega) hR2).1
        show p ≤ y.1
        omega

