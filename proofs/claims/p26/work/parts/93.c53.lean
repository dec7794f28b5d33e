/-! ===== conditions: codes of an any of alls ===== -/
theorem s_code_lt {rd : Nat → Int32} {k j x : Nat} {op pl : Int32} (hj : j < k) (hx : x < 6) : s_cod (s_code rd k op pl) j x = s_cod rd j x := by
  unfold s_cod s_code
  rw [updI_ne (by omega), updI_ne (by omega), updI_ne (by omega)]
theorem s_code_at0 {rd : Nat → Int32} {k : Nat} {op pl : Int32} : s_cod (s_code rd k op pl) k 0 = op := by
  unfold s_cod s_code
  rw [updI_ne (by omega), updI_ne (by omega), updI_eq]
theorem s_clr_c {rd : Nat → Int32} {f j x : Nat} (hx : x < 5) : ∀ n, s_cod (s_clr rd f n) j x = s_cod rd j x
  | 0 => rfl
  | n + 1 => by
    show upd (s_clr rd f n) (455 + 6 * (f + n) + 5) 0 (455 + 6 * j + x) = _
    rw [updI_ne (by omega)]
    exact s_clr_c hx n
theorem s_clr_o {rd : Nat → Int32} {f j x : Nat} (hj : j < f) (hx : x < 6) : ∀ n, s_cod (s_clr rd f n) j x = s_cod rd j x
  | 0 => rfl
  | n + 1 => by
    show upd (s_clr rd f n) (455 + 6 * (f + n) + 5) 0 (455 + 6 * j + x) = _
    rw [updI_ne (by omega)]
    exact s_clr_o hj hx n
theorem s_clr_5 {rd : Nat → Int32} {f j : Nat} (hj : f ≤ j) : ∀ n, j < f + n → s_cod (s_clr rd f n) j 5 = 0
  | 0, h => by omega
  | n + 1, h => by
    show upd (s_clr rd f n) (455 + 6 * (f + n) + 5) 0 (455 + 6 * j + 5) = _
    by_cases e : j = f + n
    · rw [e, updI_eq]
    · rw [updI_ne (by omega)]
      exact s_clr_5 hj n (by omega)
theorem s_cmpok_cong {e e' : Nat → Int32} {k : Nat} (hc : ∀ x, 1 ≤ x → x ≤ 4 → s_cod e k x = s_cod e' k x) (hm : s_cm e = s_cm e') (h : s_cmpok e k) : s_cmpok e' k := by
  have e1 := hc 1 (by decide) (by decide)
  have e2 := hc 2 (by decide) (by decide)
  have e3 := hc 3 (by decide) (by decide)
  have e4 := hc 4 (by decide) (by decide)
  unfold s_cmpok at h ⊢
  rw [← e1, ← e2, ← e3, ← e4, ← hm]
  exact h
theorem q_at_cong {B B' : XH} {e e' : Nat → Int32} {k o : Nat} (hB : y_le B B') (hc : ∀ x, 1 ≤ x → x ≤ 4 → s_cod e k x = s_cod e' k x) (h : q_at B e k o) : q_at B' e' k o := by
  have e1 := hc 1 (by decide) (by decide)
  have e2 := hc 2 (by decide) (by decide)
  have e3 := hc 3 (by decide) (by decide)
  have e4 := hc 4 (by decide) (by decide)
  exact ⟨h.1, hB _ _ (by rw [cV4_cm, ← e1, ← e2, ← e3, ← e4]; exact h.2)⟩
theorem s_cpE0_s {n : Nat} {F : Nat → (Nat → Bool) → Bool} {T : Nat → Bool} : s_cpE 0 (n + 1) F T = (s_cpE 0 n F T && F n T) := by
  show (List.range (n + 1)).all (fun j => F j T) = ((List.range n).all (fun j => F j T) && F n T)
  rw [List.range_succ, List.all_append]
  show (_ && (F n T && true)) = _
  rw [Bool.and_true]
theorem s_cpE1_s {n : Nat} {F : Nat → (Nat → Bool) → Bool} {T : Nat → Bool} : s_cpE 1 (n + 1) F T = (s_cpE 1 n F T || F n T) := by
  show (List.range (n + 1)).any (fun j => F j T) = ((List.range n).any (fun j => F j T) || F n T)
  rw [List.range_succ, List.any_append]
  show (_ || (F n T || false)) = _
  rw [Bool.or_false]
theorem s_cpE0_c {F F' : Nat → (Nat → Bool) → Bool} {T : Nat → Bool} : ∀ n, (∀ j, j < n → F j = F' j) → s_cpE 0 n F T = s_cpE 0 n F' T
  | 0, _ => rfl
  | n + 1, h => by rw [s_cpE0_s, s_cpE0_s, s_cpE0_c n (fun j hj => h j (by omega)), h n (by omega)]
theorem s_cpE1_c {F F' : Nat → (Nat → Bool) → Bool} {T : Nat → Bool} : ∀ n, (∀ j, j < n → F j = F' j) → s_cpE 1 n F T = s_cpE 1 n F' T
  | 0, _ => rfl
  | n + 1, h => by rw [s_cpE1_s, s_cpE1_s, s_cpE1_c n (fun j hj => h j (by omega)), h n (by omega)]
def updE {α : Type} (F : Nat → α) (n : Nat) (E : α) : Nat → α := fun j => if j = n then E else F j
theorem updE_eq {α : Type} {F : Nat → α} {n : Nat} {E : α} : updE F n E n = E := if_pos rfl
theorem updE_ne {α : Type} {F : Nat → α} {n j : Nat} {E : α} (h : j ≠ n) : updE F n E j = F j := if_neg h
theorem y_fl_le {B B' : XH} {c c' : Nat → Int32} {z : Bool} {f g : Nat} {l : List Nat} (h : y_fl B c z f g l) (hB : y_le B B') (hc : ∀ k, f ≤ k → k < g → ∀ x, x < 6 → s_cod c k x = s_cod c' k x) : y_fl B' c' z f g l := by
  have hp : ∀ k, f ≤ k → k < g → (s_pln c' k ↔ s_pln c k) := fun k h1 h2 => by unfold s_pln; rw [hc k h1 h2 0 (by decide), hc k h1 h2 5 (by decide)]
  refine ⟨fun hz => ?_, fun hz k h1 h2 => fun q => h.2 hz k h1 h2 ((hp k h1 h2).mp q)⟩
  obtain ⟨oo, h1, h2⟩ := h.1 hz
  refine ⟨oo, fun k a b d => q_at_cong hB (fun x _ hx => hc k a b x (by omega)) (h1 k a b ((hp k a b).mp d)), ?_⟩
  rw [h2]
  exact z_pl_cong _ (fun k a b => ⟨hc k a (by omega) 0 (by decide), hc k a (by omega) 5 (by decide), rfl⟩)
/-- codes behind one another, and one that is no comparison -/
theorem y_fl_app {B : XH} {c : Nat → Int32} {z : Bool} {f g h : Nat} {l l' : List Nat} (h1 : y_fl B c z f g l) (h2 : y_fl B c z g h l') (hfg : f ≤ g) (hgh : g ≤ h) (hop : ¬ s_cod c h 0 = 0) : y_fl B c z f (h + 1) (l ++ l') := by
  refine ⟨fun hz => ?_, fun hz k a b => ?_⟩
  · obtain ⟨o1, a1, a2⟩ := h1.1 hz
    obtain ⟨o2, b1, b2⟩ := h2.1 hz
    refine ⟨fun k => if k < g then o1 k else o2 k, fun k a b d => ?_, ?_⟩
    · show q_at B c k (if k < g then o1 k else o2 k)
      by_cases e : k < g
      · rw [if_pos e]; exact a1 k a e d
      · rw [if_neg e]
        exact b1 k (by omega) (by have : k ≠ h := fun e => hop (by rw [← e]; exact d.1); omega) d
    · rw [show h + 1 - f = (g - f) + ((h - g) + 1) by omega, z_pl_add, show f + (g - f) = g by omega, a2, b2]
      congr 1
      · exact z_pl_cong _ (fun k a b => ⟨rfl, rfl, (if_pos (by omega)).symm⟩)
      · show _ = z_pl c _ g (h - g) ++ (if s_cod c (g + (h - g)) 0 = 0 ∧ s_cod c (g + (h - g)) 5 = 1 then _ else [])
        rw [show g + (h - g) = h by omega, if_neg (fun q => hop q.1), List.append_nil]
        exact z_pl_cong _ (fun k a b => ⟨rfl, rfl, (if_neg (by omega)).symm⟩)
  · by_cases e : k < g
    · exact h1.2 hz k a e
    · by_cases e2 : k = h
      · intro q; exact hop (by rw [← e2]; exact q.1)
      · exact h2.2 hz k (by omega) (by omega)
/-- what is read of an any of alls: nA alls, the last with nL parts -/
def y_cs (F : XH) (rd : Nat → Int32) (W k0 k1 k : Nat) (z first : Bool) (nA nL : Nat) (pA pL : Nat → Nat) (FA FL : Nat → (Nat → Bool) → Bool) (lA lL : Nat → List Nat) : Prop :=
  ((first = true ∧ nA = 1 ∧ k1 = k0 ∧ y_fl F rd z k0 k (y_cat lL nL)) ∨ (first = false ∧ 2 ≤ nA ∧ z_seg rd k0 k1 (s_cpE 1 (nA - 1) FA) ∧ ∀ j, k0 ≤ j → j < k → ¬ s_pln rd j)) ∧
  (1 ≤ nL ∧ z_seg rd k1 k (s_cpE 0 nL FL)) ∧
  (∀ j, j < nA - 1 → y_ta F rd k (W + 1) (pA j) (FA j) ∧ t_sg F (W + 1) (pA j) (lA j)) ∧
  (∀ j, j < nL → y_ta F rd k W (pL j) (FL j) ∧ t_sg F W (pL j) (lL j)) ∧
  ∀ j, k0 ≤ j → j < k → s_cod rd j 0 = 0 → s_cmpok rd j
section YCS
variable {F F' : XH} {rd rd1 : Nat → Int32} {W k0 k1 k kk nA nL v : Nat} {z zc first : Bool} {pA pL : Nat → Nat} {FA FL : Nat → (Nat → Bool) → Bool} {E : (Nat → Bool) → Bool} {lA lL : Nat → List Nat} {l : List Nat}
theorem y_cs_0 (ht : y_tr F rd W v k0 k z E l) : y_cs F rd W k0 k0 k z true 1 1 pA (updF pL 0 v) FA (fun _ => E) lA (fun _ => l) := by
  obtain ⟨t1, t2, t3, t4, t5⟩ := ht
  refine ⟨Or.inl ⟨rfl, rfl, rfl, ?_⟩, ⟨Nat.le_refl _, z_seg_E t3 (fun T => ?_)⟩, fun j hj => absurd hj (Nat.not_lt_zero _), fun j hj => ?_, t4⟩
  · exact t5
  · rw [s_cpE0_s]; rfl
  · obtain rfl : j = 0 := by omega
    exact ⟨t1, t2⟩
theorem y_cs.k01 (h : y_cs F rd W k0 k1 k z first nA nL pA pL FA FL lA lL) : k0 ≤ k1 ∧ k1 ≤ k := by
  refine ⟨?_, h.2.1.2.1⟩
  rcases h.1 with ⟨-, -, e, -⟩ | ⟨-, -, e, -⟩
  · omega
  · exact e.1
/-- one part more in the last all -/
theorem y_cs.andF (h : y_cs F rd W k0 k1 k z first nA nL pA pL FA FL lA lL) (hF : y_le F F') (hz1 : first = true → zc = z) (hz0 : first = false → zc = false) (ht : y_tr F' rd1 W v k kk zc E l) (hcod : ∀ j, j < k → ∀ x, x < 6 → s_cod rd1 j x = s_cod rd j x) (hcm : s_cm rd1 = s_cm rd) : y_cs F' (s_code rd1 kk 1 0) W k0 k1 (kk + 1) z first nA (nL + 1) pA (updF pL nL v) FA (updE FL nL E) lA (updE lL nL l) := by
  obtain ⟨t1, t2, t3, t4, t5⟩ := ht
  have hk := h.k01
  have hkk := t3.1
  have c1 : ∀ j, j < kk → ∀ x, x < 6 → s_cod rd1 j x = s_cod (s_code rd1 kk 1 0) j x := fun j hj x hx => (s_code_lt hj hx).symm
  have c0 : ∀ j, j < k → ∀ x, x < 6 → s_cod rd j x = s_cod (s_code rd1 kk 1 0) j x := fun j hj x hx => (hcod j hj x hx).symm.trans (c1 j (by omega) x hx)
  have m1 : s_cm rd1 = s_cm (s_code rd1 kk 1 0) := by unfold s_cm; rw [s_code_ne (by decide) (by decide)]
  have m0 : s_cm rd = s_cm (s_code rd1 kk 1 0) := hcm.symm.trans m1
  have hop : ¬ s_cod (s_code rd1 kk 1 0) kk 0 = 0 := by rw [s_code_at0]; decide
  obtain ⟨h1, ⟨h2, h3⟩, h4, h5, h6⟩ := h
  refine ⟨?_, ⟨by omega, ?_⟩, fun j hj => ?_, fun j hj => ?_, fun j a b d => ?_⟩
  · rcases h1 with ⟨e1, e2, e3, e4⟩ | ⟨e1, e2, e3, e4⟩
    · refine Or.inl ⟨e1, e2, e3, ?_⟩
      have e := hz1 e1
      subst e
      have hL : y_cat (updE lL nL l) (nL + 1) = y_cat lL nL ++ l := by
        show y_cat (updE lL nL l) nL ++ updE lL nL l nL = _
        rw [updE_eq, y_cat_cong nL (fun j hj => updE_ne (by omega))]
      rw [hL]
      exact y_fl_app (y_fl_le e4 hF (fun j _ b x hx => c0 j b x hx)) (y_fl_le t5 y_le_rfl (fun j _ b x hx => c1 j b x hx)) (by omega) hkk hop
    · refine Or.inr ⟨e1, e2, z_seg_cong e3 (fun j _ b => c0 j (by omega) 0 (by decide)), fun j a b => ?_⟩
      by_cases e : j < k
      · intro q
        refine e4 j a e ?_
        unfold s_pln at q ⊢
        rw [c0 j e 0 (by decide), c0 j e 5 (by decide)]
        exact q
      · by_cases e' : j = kk
        · intro q; rw [e'] at q; exact hop q.1
        · intro q
          refine t5.2 (hz0 e1) j (by omega) (by omega) ?_
          unfold s_pln at q ⊢
          rw [c1 j (by omega) 0 (by decide), c1 j (by omega) 5 (by decide)]
          exact q
  · refine z_seg_E (z_seg_bin (z_seg_cong h3 (fun j _ b => c0 j b 0 (by decide))) (z_seg_cong t3 (fun j _ b => c1 j b 0 (by decide))) s_code_at0 (by decide) (by decide)) (fun T => ?_)
    rw [s_cpE0_s, updE_eq, if_pos rfl, s_cpE0_c (F := updE FL nL E) (F' := FL) nL (fun j hj => updE_ne (by omega))]
  · exact ⟨y_ta.mono hF (by omega) (fun i hi x _ hx => c0 i hi x (by omega)) m0 _ _ _ _ (Nat.le_refl _) (h4 j hj).1, t_sg.mono hF _ _ _ _ (Nat.le_refl _) (h4 j hj).2⟩
  · by_cases e : j = nL
    · rw [e, updE_eq, updE_eq, show updF pL nL v nL = v from if_pos rfl]
      exact ⟨y_ta.mono y_le_rfl (by omega) (fun i hi x _ hx => c1 i hi x (by omega)) m1 _ _ _ _ (Nat.le_refl _) t1, t2⟩
    · rw [updE_ne e, updE_ne e, show updF pL nL v j = pL j from if_neg e]
      exact ⟨y_ta.mono hF (by omega) (fun i hi x _ hx => c0 i hi x (by omega)) m0 _ _ _ _ (Nat.le_refl _) (h5 j (by omega)).1, t_sg.mono hF _ _ _ _ (Nat.le_refl _) (h5 j (by omega)).2⟩
  · by_cases e : j < k
    · exact s_cmpok_cong (fun x _ hx => c0 j e x (by omega)) m0 (h6 j a e (by rw [c0 j e 0 (by decide)]; exact d))
    · by_cases e' : j = kk
      · rw [e'] at d; exact absurd d hop
      · exact s_cmpok_cong (fun x _ hx => c1 j (by omega) x (by omega)) m1 (t4 j (by omega) (by omega) (by rw [c1 j (by omega) 0 (by decide)]; exact d))
/-- the last all is full: the codes then, with the OR behind it if there are more -/
theorem y_cs.fin {q ll : Nat} (h : y_cs F rd W k0 k1 k z first nA nL pA pL FA FL lA lL) (hF : y_le F F') (hq1 : s_out q) (hq : F' q = some (.inl (2, cpV 0 ll))) (hl : l_at F' ll nL pL) (hpq : pA (nA - 1) = q) : z_seg (bif first then rd else s_code rd k 2 0) k0 (bif first then k else k + 1) (s_cpE 1 nA (updE FA (nA - 1) (s_cpE 0 nL FL))) ∧ (∀ j, j < nA → y_ta F' (bif first then rd else s_code rd k 2 0) (bif first then k else k + 1) (W + 1) (pA j) (updE FA (nA - 1) (s_cpE 0 nL FL) j) ∧ t_sg F' (W + 1) (pA j) (updE lA (nA - 1) (y_cat lL nL) j)) ∧ (∀ j, k0 ≤ j → j < (bif first then k else k + 1) → s_cod (bif first then rd else s_code rd k 2 0) j 0 = 0 → s_cmpok (bif first then rd else s_code rd k 2 0) j) ∧ ((∀ j, j < k → ∀ x, x < 6 → s_cod (bif first then rd else s_code rd k 2 0) j x = s_cod rd j x) ∧ s_cm (bif first then rd else s_code rd k 2 0) = s_cm rd) ∧ 1 ≤ nA ∧ ((first = true ∧ nA = 1 ∧ y_fl F' (bif first then rd else s_code rd k 2 0) z k0 (bif first then k else k + 1) (y_cat lL nL)) ∨ (first = false ∧ 2 ≤ nA ∧ ∀ j, k0 ≤ j → j < (bif first then k else k + 1) → ¬ s_pln (bif first then rd else s_code rd k 2 0) j)) := by
  have hk := h.k01
  obtain ⟨h1, ⟨h2, h3⟩, h4, h5, h6⟩ := h
  have hc0 : ∀ j, j < k → ∀ x, x < 6 → s_cod (bif first then rd else s_code rd k 2 0) j x = s_cod rd j x := fun j hj x hx => by
    cases first
    · exact s_code_lt hj hx
    · rfl
  have hm0 : s_cm (bif first then rd else s_code rd k 2 0) = s_cm rd := by
    cases first
    · show s_cm (s_code rd k 2 0) = _
      unfold s_cm; rw [s_code_ne (by decide) (by decide)]
    · rfl
  have hkk : k ≤ (bif first then k else k + 1) := by
    cases first
    · exact Nat.le_succ k
    · exact Nat.le_refl k
  have hnA : 1 ≤ nA := by rcases h1 with ⟨-, e, -⟩ | ⟨-, e, -⟩ <;> omega
  have hlow : ∀ j, j < (bif first then k else k + 1) → ¬ j < k → first = false ∧ j = k := fun j hj hn => by
    cases first
    · have : j < k + 1 := hj
      exact ⟨rfl, by omega⟩
    · exact absurd hj hn
  refine ⟨?_, fun j hj => ?_, fun j a b d => ?_, ⟨hc0, hm0⟩, hnA, ?_⟩
  · rcases h1 with ⟨e1, e2, e3, e4⟩ | ⟨e1, e2, e3, e4⟩
    · subst e1 e2 e3
      refine z_seg_E h3 (fun T => ?_)
      rw [show (1 : Nat) = 0 + 1 from rfl, s_cpE1_s, show 0 + 1 - 1 = 0 from rfl, updE_eq]
      show _ = (false || _)
      rw [Bool.false_or]
    · subst e1
      obtain ⟨m, rfl⟩ : ∃ m, nA = m + 1 := ⟨nA - 1, by omega⟩
      show z_seg (s_code rd k 2 0) k0 (k + 1) _
      refine z_seg_E (z_seg_bin (z_seg_cong e3 (fun j _ b => (hc0 j (by omega) 0 (by decide)).symm)) (z_seg_cong h3 (fun j _ b => (hc0 j b 0 (by decide)).symm)) s_code_at0 (by decide) (by decide)) (fun T => ?_)
      rw [s_cpE1_s, if_neg (by decide), Nat.add_sub_cancel, updE_eq, s_cpE1_c (F := updE FA m (s_cpE 0 nL FL)) (F' := FA) m (fun j hj => updE_ne (by omega))]
  · by_cases e : j = nA - 1
    · rw [e, updE_eq, updE_eq, hpq]
      refine ⟨Or.inr ⟨0, ll, nL, pL, FL, hq1, hq, Or.inl rfl, hl, fun i hi => ?_, rfl⟩, Or.inr ⟨0, ll, nL, pL, lL, hq1, hq, hl, fun i hi => t_sg.mono hF _ _ _ _ (Nat.le_refl _) (h5 i hi).2, (if_pos (Or.inl rfl)).symm⟩⟩
      exact y_ta.mono hF hkk (fun i hi x _ hx => (hc0 i hi x (by omega)).symm) hm0.symm _ _ _ _ (Nat.le_refl _) (h5 i hi).1
    · rw [updE_ne e, updE_ne e]
      exact ⟨y_ta.mono hF hkk (fun i hi x _ hx => (hc0 i hi x (by omega)).symm) hm0.symm _ _ _ _ (Nat.le_refl _) (h4 j (by omega)).1, t_sg.mono hF _ _ _ _ (Nat.le_refl _) (h4 j (by omega)).2⟩
  · by_cases e : j < k
    · exact s_cmpok_cong (fun x _ hx => (hc0 j e x (by omega)).symm) hm0.symm (h6 j a e (by rw [← hc0 j e 0 (by decide)]; exact d))
    · obtain ⟨e1, e2⟩ := hlow j b e
      subst e1 e2
      exact absurd (show s_cod (s_code rd j 2 0) j 0 = 0 from d) (by rw [s_code_at0]; decide)
  · rcases h1 with ⟨e1, e2, e3, e4⟩ | ⟨e1, e2, e3, e4⟩
    · refine Or.inl ⟨e1, e2, ?_⟩
      subst e1
      exact y_fl_le e4 hF (fun _ _ _ _ _ => rfl)
    · refine Or.inr ⟨e1, e2, fun j a b => ?_⟩
      by_cases e : j < k
      · intro p9
        refine e4 j a e ?_
        unfold s_pln at p9 ⊢
        rw [← hc0 j e 0 (by decide), ← hc0 j e 5 (by decide)]
        exact p9
      · obtain ⟨-, e5⟩ := hlow j b e
        subst e1 e5
        intro p9
        exact absurd (show s_cod (s_code rd j 2 0) j 0 = 0 from p9.1) (by rw [s_code_at0]; decide)
end YCS
/-- the whole any -/
theorem y_cs_end {F : XH} {rd : Nat → Int32} {W k0 kE nA o la : Nat} {z first : Bool} {pA : Nat → Nat} {FA : Nat → (Nat → Bool) → Bool} {lA : Nat → List Nat} {l : List Nat} (h1 : z_seg rd k0 kE (s_cpE 1 nA FA)) (h2 : ∀ j, j < nA → y_ta F rd kE W (pA j) (FA j) ∧ t_sg F W (pA j) (lA j)) (h3 : ∀ j, k0 ≤ j → j < kE → s_cod rd j 0 = 0 → s_cmpok rd j) (h4 : 1 ≤ nA) (h5 : (first = true ∧ nA = 1 ∧ y_fl F rd z k0 kE l) ∨ (first = false ∧ 2 ≤ nA ∧ ∀ j, k0 ≤ j → j < kE → ¬ s_pln rd j)) (hl0 : first = true → lA 0 = l) (ho1 : s_out o) (ho : F o = some (.inl (2, cpV 1 la))) (hla : l_at F la nA pA) : y_tr F rd (W + 1) o k0 kE z (s_cpE 1 nA FA) (bif first then l else []) := by
  refine ⟨Or.inr ⟨1, la, nA, pA, FA, ho1, ho, Or.inr (Or.inl rfl), hla, fun j hj => (h2 j hj).1, rfl⟩, Or.inr ⟨1, la, nA, pA, lA, ho1, ho, hla, fun j hj => (h2 j hj).2, ?_⟩, h1, h3, ?_⟩
  · rcases h5 with ⟨e1, e2, -⟩ | ⟨e1, e2, -⟩
    · subst e1 e2
      rw [if_pos (Or.inr ⟨rfl, rfl⟩)]
      show l = [] ++ lA 0
      rw [hl0 rfl, List.nil_append]
    · subst e1
      rw [if_neg (fun q => q.elim (by decide) (fun q => by omega))]
      rfl
  · rcases h5 with ⟨e1, e2, e3⟩ | ⟨e1, e2, e3⟩
    · subst e1; exact e3
    · subst e1
      exact ⟨fun _ => ⟨fun _ => 0, fun k a b q => absurd q (e3 k a b), (z_pl_no _ (fun k a b => e3 k a (by omega))).symm⟩, fun _ => e3⟩
/-- one all more, begun with a part -/
theorem y_cs_or {F F' : XH} {rd rd1 : Nat → Int32} {W k0 kE kk nA v q' : Nat} {z first : Bool} {pA pL : Nat → Nat} {FA : Nat → (Nat → Bool) → Bool} {E : (Nat → Bool) → Bool} {lA : Nat → List Nat} {l l' : List Nat} (h1 : z_seg rd k0 kE (s_cpE 1 nA FA)) (h2 : ∀ j, j < nA → y_ta F rd kE (W + 1) (pA j) (FA j) ∧ t_sg F (W + 1) (pA j) (lA j)) (h3 : ∀ j, k0 ≤ j → j < kE → s_cod rd j 0 = 0 → s_cmpok rd j) (h4 : 1 ≤ nA) (h5 : (first = true ∧ nA = 1 ∧ y_fl F rd z k0 kE l) ∨ (first = false ∧ 2 ≤ nA ∧ ∀ j, k0 ≤ j → j < kE → ¬ s_pln rd j)) (hF : y_le F F') (ht : y_tr F' rd1 W v kE kk false E l') (hcod : ∀ j, j < kE → ∀ x, x < 6 → s_cod rd1 j x = s_cod (bif first then s_clr rd k0 (kE - k0) else rd) j x) (hcm : s_cm rd1 = s_cm rd) : y_cs F' rd1 W k0 kE kk z false (nA + 1) 1 (updF pA nA q') (updF pL 0 v) FA (fun _ => E) lA (fun _ => l') := by
  obtain ⟨t1, t2, t3, t4, t5⟩ := ht
  have hc : ∀ j, j < kE → ∀ x, x < 5 → s_cod rd j x = s_cod rd1 j x := fun j hj x hx => by
    rw [hcod j hj x (by omega)]
    cases first
    · rfl
    · exact (s_clr_c hx _).symm
  have hk0 := h1.1
  refine ⟨Or.inr ⟨rfl, by omega, ?_, fun j a b => ?_⟩, ⟨Nat.le_refl _, z_seg_E t3 (fun T => by rw [s_cpE0_s]; rfl)⟩, fun j hj => ?_, fun j hj => ?_, fun j a b d => ?_⟩
  · rw [Nat.add_sub_cancel]
    exact z_seg_cong h1 (fun j _ b => hc j b 0 (by decide))
  · by_cases e : j < kE
    · intro p9
      have q5 := p9.2
      have q0 := p9.1
      rw [hcod j e 5 (by decide)] at q5
      rw [hcod j e 0 (by decide)] at q0
      rcases h5 with ⟨e1, -, -⟩ | ⟨e1, -, e3⟩
      · subst e1
        have : s_cod (s_clr rd k0 (kE - k0)) j 5 = 1 := q5
        rw [s_clr_5 a (kE - k0) (by omega)] at this
        exact absurd this (by decide)
      · subst e1
        exact e3 j a e ⟨q0, q5⟩
    · exact t5.2 rfl j (by omega) b
  · rw [Nat.add_sub_cancel] at hj
    rw [show updF pA nA q' j = pA j from if_neg (by omega)]
    exact ⟨y_ta.mono hF t3.1 (fun i hi x _ hx => hc i hi x (by omega)) hcm.symm _ _ _ _ (Nat.le_refl _) (h2 j hj).1, t_sg.mono hF _ _ _ _ (Nat.le_refl _) (h2 j hj).2⟩
  · obtain rfl : j = 0 := by omega
    exact ⟨t1, t2⟩
  · by_cases e : j < kE
    · exact s_cmpok_cong (fun x _ hx => hc j e x (by omega)) hcm.symm (h3 j a e (by rw [hc j e 0 (by decide)]; exact d))
    · exact t4 j (by omega) b d
/-- a NOT and its part -/
theorem y_tr_not {F F' : XH} {rd : Nat → Int32} {W o a k kk v : Nat} {z : Bool} {E : (Nat → Bool) → Bool} {l : List Nat} {p : Nat → Nat} (ht : y_tr F rd W v k kk false E l) (hF : y_le F F') (ho1 : s_out o) (ho : F' o = some (.inl (2, cpV 2 a))) (hl : l_at F' a 1 p) (hp : p 0 = v) : y_tr F' (s_code rd kk 3 0) (W + 1) o k (kk + 1) z (s_cpE 2 1 (fun _ => E)) [] := by
  obtain ⟨t1, t2, t3, t4, t5⟩ := ht
  have hkk := t3.1
  have c1 : ∀ j, j < kk → ∀ x, x < 6 → s_cod rd j x = s_cod (s_code rd kk 3 0) j x := fun j hj x hx => (s_code_lt hj hx).symm
  have m1 : s_cm rd = s_cm (s_code rd kk 3 0) := by unfold s_cm; rw [s_code_ne (by decide) (by decide)]
  have hno : ∀ j, k ≤ j → j < kk + 1 → ¬ s_pln (s_code rd kk 3 0) j := fun j a b q => by
    by_cases e : j = kk
    · have q0 := q.1
      rw [e, s_code_at0] at q0
      exact absurd q0 (by decide)
    · refine t5.2 rfl j a (by omega) ?_
      unfold s_pln at q ⊢
      rw [c1 j (by omega) 0 (by decide), c1 j (by omega) 5 (by decide)]
      exact q
  refine ⟨Or.inr ⟨2, a, 1, p, fun _ => E, ho1, ho, Or.inr (Or.inr rfl), hl, fun j hj => ?_, rfl⟩, Or.inr ⟨2, a, 1, p, fun _ => l, ho1, ho, hl, fun j hj => ?_, (if_neg (fun q => q.elim (by decide) (fun q => absurd q.1 (by decide)))).symm⟩, z_seg_E (z_seg_not (z_seg_cong t3 (fun j _ b => c1 j b 0 (by decide))) s_code_at0) (fun T => rfl), fun j a b d => ?_, ⟨fun _ => ⟨fun _ => 0, fun j a b q => absurd q (hno j a b), (z_pl_no _ (fun j a b => hno j a (by omega))).symm⟩, fun _ => hno⟩⟩
  · obtain rfl : j = 0 := by omega
    rw [hp]
    exact y_ta.mono hF (by omega) (fun i hi x _ hx => c1 i hi x (by omega)) m1 _ _ _ _ (Nat.le_refl _) t1
  · obtain rfl : j = 0 := by omega
    rw [hp]
    exact t_sg.mono hF _ _ _ _ (Nat.le_refl _) t2
  · by_cases e : j = kk
    · rw [e, s_code_at0] at d
      exact absurd d (by decide)
    · exact s_cmpok_cong (fun x _ hx => c1 j (by omega) x (by omega)) m1 (t4 j a (by omega) (by rw [c1 j (by omega) 0 (by decide)]; exact d))

