/-! ===== conditions: codes, trees, lists ===== -/
/-- the pile's height, and the pile, n codes behind f -/
def z_gh (c : Nat → Int32) (f h : Nat) : Nat → Nat
  | 0 => h
  | n + 1 => s_hg1 (s_cod c (f + n) 0) (z_gh c f h n)
def z_gp (c : Nat → Int32) (T : Nat → Bool) (f h : Nat) (P : Nat → Bool) : Nat → Nat → Bool
  | 0 => P
  | n + 1 => s_px1 (s_cod c (f + n) 0) (z_gh c f h n) (T (f + n)) (z_gp c T f h P n)
theorem z_gh_hg {c : Nat → Int32} {f : Nat} : ∀ n, z_gh c f 0 n = s_hg c f n
  | 0 => rfl
  | n + 1 => by
    show s_hg1 _ (z_gh c f 0 n) = s_hg1 _ (s_hg c f n)
    rw [z_gh_hg n]
theorem z_gp_pt {c : Nat → Int32} {T : Nat → Bool} {f : Nat} {P : Nat → Bool} : ∀ n, z_gp c T f 0 P n = s_pt c T f P n
  | 0 => rfl
  | n + 1 => by
    show s_px1 _ (z_gh c f 0 n) _ (z_gp c T f 0 P n) = s_px1 _ (s_hg c f n) _ (s_pt c T f P n)
    rw [z_gh_hg n, z_gp_pt n]
theorem z_gh_add {c : Nat → Int32} {f h a : Nat} : ∀ b, z_gh c f h (a + b) = z_gh c (f + a) (z_gh c f h a) b
  | 0 => rfl
  | b + 1 => by
    show s_hg1 (s_cod c (f + (a + b)) 0) (z_gh c f h (a + b)) = s_hg1 (s_cod c (f + a + b) 0) _
    rw [z_gh_add b, Nat.add_assoc]
theorem z_gp_add {c : Nat → Int32} {T : Nat → Bool} {f h a : Nat} {P : Nat → Bool} : ∀ b, z_gp c T f h P (a + b) = z_gp c T (f + a) (z_gh c f h a) (z_gp c T f h P a) b
  | 0 => rfl
  | b + 1 => by
    show s_px1 (s_cod c (f + (a + b)) 0) (z_gh c f h (a + b)) (T (f + (a + b))) (z_gp c T f h P (a + b)) = s_px1 (s_cod c (f + a + b) 0) _ (T (f + a + b)) _
    rw [z_gp_add b, z_gh_add b, Nat.add_assoc]
/-- the codes from f to g lay one truth on the pile: E of what the comparisons say -/
def z_seg (c : Nat → Int32) (f g : Nat) (E : (Nat → Bool) → Bool) : Prop := f ≤ g ∧ ∀ h, (∀ k, k < g - f → s_cod c (f + k) 0 = 0 ∨ (s_cod c (f + k) 0 = 3 ∧ h + 1 ≤ z_gh c f h k) ∨ (¬ s_cod c (f + k) 0 = 0 ∧ ¬ s_cod c (f + k) 0 = 3 ∧ h + 2 ≤ z_gh c f h k)) ∧ z_gh c f h (g - f) = h + 1 ∧ ∀ T P, z_gp c T f h P (g - f) h = E T ∧ ∀ i, i < h → z_gp c T f h P (g - f) i = P i
theorem z_seg_cmp {c : Nat → Int32} {k : Nat} (h0 : s_cod c k 0 = 0) : z_seg c k (k + 1) (fun T => T k) := by
  refine ⟨by omega, fun h => ?_⟩
  rw [show k + 1 - k = 1 by omega]
  refine ⟨fun j hj => ?_, ?_, fun T P => ?_⟩
  · obtain rfl : j = 0 := by omega
    exact Or.inl h0
  · show s_hg1 (s_cod c (k + 0) 0) h = h + 1
    rw [Nat.add_zero, h0]
    exact if_pos rfl
  · have e : z_gp c T k h P 1 = s_upb P h (T k) := by
      show s_px1 (s_cod c (k + 0) 0) h (T (k + 0)) P = _
      rw [Nat.add_zero, h0]
      exact if_pos rfl
    rw [e]
    exact ⟨if_pos rfl, fun i hi => if_neg (by omega)⟩
theorem z_seg_not {c : Nat → Int32} {f g : Nat} {E : (Nat → Bool) → Bool} (hE : z_seg c f g E) (h3 : s_cod c g 0 = 3) : z_seg c f (g + 1) (fun T => !E T) := by
  refine ⟨by have := hE.1; omega, fun h => ?_⟩
  obtain ⟨h1, h2, hv⟩ := hE.2 h
  have hfg := hE.1
  rw [show g + 1 - f = (g - f) + 1 by omega]
  have eg : f + (g - f) = g := by omega
  refine ⟨fun k hk => ?_, ?_, fun T P => ?_⟩
  · by_cases e : k = g - f
    · subst e
      exact Or.inr (Or.inl ⟨by rw [eg]; exact h3, by omega⟩)
    · exact h1 k (by omega)
  · show s_hg1 (s_cod c (f + (g - f)) 0) (z_gh c f h (g - f)) = h + 1
    rw [eg, h3, h2]
    rfl
  · obtain ⟨v1, v2⟩ := hv T P
    have e : z_gp c T f h P (g - f + 1) = s_upb (z_gp c T f h P (g - f)) h (!E T) := by
      show s_px1 (s_cod c (f + (g - f)) 0) (z_gh c f h (g - f)) (T (f + (g - f))) (z_gp c T f h P (g - f)) = _
      rw [eg, h3, h2]
      show s_upb _ (h + 1 - 1) (!(z_gp c T f h P (g - f) (h + 1 - 1))) = _
      rw [Nat.add_sub_cancel, v1]
    rw [e]
    exact ⟨if_pos rfl, fun i hi => (if_neg (by omega)).trans (v2 i hi)⟩
theorem z_seg_bin {c : Nat → Int32} {f g e : Nat} {E1 E2 : (Nat → Bool) → Bool} (hE1 : z_seg c f g E1) (hE2 : z_seg c g e E2) {op : Int32} (hop : s_cod c e 0 = op) (h0 : ¬ op = 0) (h3 : ¬ op = 3) : z_seg c f (e + 1) (fun T => if op = 1 then E1 T && E2 T else E1 T || E2 T) := by
  have hfg := hE1.1
  have hge := hE2.1
  refine ⟨by omega, fun h => ?_⟩
  obtain ⟨a1, a2, av⟩ := hE1.2 h
  obtain ⟨b1, b2, bv⟩ := hE2.2 (h + 1)
  have ea : f + (g - f) = g := by omega
  have eab : f + ((g - f) + (e - g)) = e := by omega
  rw [show e + 1 - f = ((g - f) + (e - g)) + 1 by omega]
  have hh : ∀ b, z_gh c f h ((g - f) + b) = z_gh c g (h + 1) b := fun b => by rw [z_gh_add, ea, a2]
  refine ⟨fun k hk => ?_, ?_, fun T P => ?_⟩
  · by_cases c1 : k < g - f
    · exact a1 k c1
    · by_cases c2 : k < (g - f) + (e - g)
      · obtain ⟨b, rfl⟩ : ∃ b, k = (g - f) + b := ⟨k - (g - f), by omega⟩
        have hb := b1 b (by omega)
        rw [hh b, ← Nat.add_assoc, ea]
        rcases hb with q | q | q
        · exact Or.inl q
        · exact Or.inr (Or.inl ⟨q.1, by omega⟩)
        · exact Or.inr (Or.inr ⟨q.1, q.2.1, by omega⟩)
      · obtain rfl : k = (g - f) + (e - g) := by omega
        rw [hh, b2, eab, hop]
        exact Or.inr (Or.inr ⟨h0, h3, Nat.le_refl _⟩)
  · show s_hg1 (s_cod c (f + ((g - f) + (e - g))) 0) (z_gh c f h ((g - f) + (e - g))) = h + 1
    rw [hh, b2, eab, hop]
    unfold s_hg1
    rw [if_neg h0, if_neg h3]
    rfl
  · obtain ⟨v1, v2⟩ := av T P
    obtain ⟨w1, w2⟩ := bv T (z_gp c T f h P (g - f))
    have eP : z_gp c T f h P ((g - f) + (e - g)) = z_gp c T g (h + 1) (z_gp c T f h P (g - f)) (e - g) := by rw [z_gp_add, ea, a2]
    have e9 : z_gp c T f h P ((g - f) + (e - g) + 1) = s_upb (z_gp c T f h P ((g - f) + (e - g))) h (if op = 1 then E1 T && E2 T else E1 T || E2 T) := by
      show s_px1 (s_cod c (f + ((g - f) + (e - g))) 0) (z_gh c f h ((g - f) + (e - g))) (T (f + ((g - f) + (e - g)))) (z_gp c T f h P ((g - f) + (e - g))) = _
      rw [hh, b2, eab, hop, eP]
      unfold s_px1
      rw [if_neg h0, if_neg h3, show h + 1 + 1 - 1 - 1 = h by omega, show h + 1 + 1 - 1 = h + 1 by omega, w1, w2 h (by omega), v1]
    rw [e9]
    refine ⟨if_pos rfl, fun i hi => ?_⟩
    show (if i = h then _ else _) = _
    rw [if_neg (by omega), eP, w2 i (by omega), v2 i hi]
theorem z_seg_cong {c c' : Nat → Int32} {f g : Nat} {E : (Nat → Bool) → Bool} (hE : z_seg c f g E) (h : ∀ k, f ≤ k → k < g → s_cod c k 0 = s_cod c' k 0) : z_seg c' f g E := by
  have hg : ∀ h0 m, m ≤ g - f → z_gh c f h0 m = z_gh c' f h0 m := fun h0 m => by
    induction m with
    | zero => intro _; rfl
    | succ m ih =>
      intro hm
      show s_hg1 (s_cod c (f + m) 0) (z_gh c f h0 m) = s_hg1 (s_cod c' (f + m) 0) (z_gh c' f h0 m)
      rw [ih (by omega), h (f + m) (by omega) (by omega)]
  have hp : ∀ T h0 P m, m ≤ g - f → z_gp c T f h0 P m = z_gp c' T f h0 P m := fun T h0 P m => by
    induction m with
    | zero => intro _; rfl
    | succ m ih =>
      intro hm
      show s_px1 (s_cod c (f + m) 0) (z_gh c f h0 m) _ (z_gp c T f h0 P m) = s_px1 (s_cod c' (f + m) 0) (z_gh c' f h0 m) _ (z_gp c' T f h0 P m)
      rw [ih (by omega), hg h0 m (by omega), h (f + m) (by omega) (by omega)]
  refine ⟨hE.1, fun h0 => ?_⟩
  obtain ⟨a1, a2, a3⟩ := hE.2 h0
  refine ⟨fun k hk => ?_, by rw [← hg h0 _ (Nat.le_refl _)]; exact a2, fun T P => ?_⟩
  · rw [← h (f + k) (by omega) (by omega), ← hg h0 k (by omega)]
    exact a1 k hk
  · rw [← hp T h0 P _ (Nat.le_refl _)]
    exact a3 T P
theorem z_seg_E {c : Nat → Int32} {f g : Nat} {E E' : (Nat → Bool) → Bool} (hE : z_seg c f g E) (h : ∀ T, E T = E' T) : z_seg c f g E' := by
  have e : E = E' := funext h
  rw [← e]; exact hE
/-- a condition's tree at o, at most w deep, of codes below g -/
def y_ta (B : XH) (e : Nat → Int32) (g : Nat) : Nat → Nat → ((Nat → Bool) → Bool) → Prop
  | 0, _, _ => False
  | w + 1, o, E => (∃ k, k < g ∧ q_at B e k o ∧ s_cmpok e k ∧ E = fun T => T k) ∨
    ∃ (kd : Int32) (a n : Nat) (p : Nat → Nat) (F : Nat → (Nat → Bool) → Bool), s_out o ∧ B o = some (.inl (2, cpV kd a)) ∧ (kd = 0 ∨ kd = 1 ∨ kd = 2) ∧ l_at B a n p ∧ (∀ j, j < n → y_ta B e g w (p j) (F j)) ∧ E = s_cpE kd n F
theorem y_ta.t {B : XH} {e : Nat → Int32} {g : Nat} : ∀ (w o : Nat) (E : (Nat → Bool) → Bool), y_ta B e g w o E → t_at B e w o E
  | 0, _, _, h => h
  | w + 1, o, E, h => by
    rcases h with ⟨k, -, h1, h2⟩ | ⟨kd, a, n, p, F, h1, h2, h3, h4, h5, h6⟩
    · exact Or.inl ⟨k, h1, h2⟩
    · exact Or.inr ⟨kd, a, n, p, F, h1, h2, h3, h4, fun j hj => y_ta.t w _ _ (h5 j hj), h6⟩
theorem y_ta.mono {B B' : XH} {e e' : Nat → Int32} {g g' : Nat} (hB : y_le B B') (hg : g ≤ g') (hc : ∀ k, k < g → ∀ x, 1 ≤ x → x ≤ 4 → s_cod e k x = s_cod e' k x) (hm : s_cm e = s_cm e') : ∀ (w w' o : Nat) (E : (Nat → Bool) → Bool), w ≤ w' → y_ta B e g w o E → y_ta B' e' g' w' o E
  | 0, _, _, _, _, h => h.elim
  | w + 1, 0, _, _, hw, _ => absurd hw (by omega)
  | w + 1, w' + 1, o, E, hw, h => by
    rcases h with ⟨k, h0, h1, h2, h3⟩ | ⟨kd, a, n, p, F, h1, h2, h3, h4, h5, h6⟩
    · have e1 := hc k h0 1 (by decide) (by decide)
      have e2 := hc k h0 2 (by decide) (by decide)
      have e3 := hc k h0 3 (by decide) (by decide)
      have e4 := hc k h0 4 (by decide) (by decide)
      refine Or.inl ⟨k, by omega, ⟨h1.1, hB _ _ ?_⟩, ?_, h3⟩
      · rw [cV4_cm, ← e1, ← e2, ← e3, ← e4]; exact h1.2
      · unfold s_cmpok at h2 ⊢
        rw [← e1, ← e2, ← e3, ← e4, ← hm]
        exact h2
    · exact Or.inr ⟨kd, a, n, p, F, h1, hB _ _ h2, h3, hB.l h4, fun j hj => y_ta.mono hB hg hc hm w w' _ _ (by omega) (h5 j hj), h6⟩
/-- lists behind one another -/
def y_cat (ls : Nat → List Nat) : Nat → List Nat
  | 0 => []
  | n + 1 => y_cat ls n ++ ls n
theorem y_cat_cong {ls ls' : Nat → List Nat} : ∀ n, (∀ j, j < n → ls j = ls' j) → y_cat ls n = y_cat ls' n
  | 0, _ => rfl
  | n + 1, h => by
    show y_cat ls n ++ ls n = y_cat ls' n ++ ls' n
    rw [y_cat_cong n (fun j hj => h j (by omega)), h n (by omega)]
/-- the condition at o gives the comparisons l that a plan may use, as far as its shape goes -/
def t_sg (B : XH) : Nat → Nat → List Nat → Prop
  | 0, _, _ => False
  | w + 1, o, l => (∃ a b c e, s_out o ∧ B o = some (.inl (1, cV4 a b c e)) ∧ l = if c = 1 then [] else [o]) ∨
    ∃ (kd : Int32) (a n : Nat) (p : Nat → Nat) (ls : Nat → List Nat), s_out o ∧ B o = some (.inl (2, cpV kd a)) ∧ l_at B a n p ∧ (∀ j, j < n → t_sg B w (p j) (ls j)) ∧ l = if kd = 0 ∨ (kd = 1 ∧ n = 1) then y_cat ls n else []
theorem t_sg.mono {B B' : XH} (hB : y_le B B') : ∀ (w w' o : Nat) (l : List Nat), w ≤ w' → t_sg B w o l → t_sg B' w' o l
  | 0, _, _, _, _, h => h.elim
  | w + 1, 0, _, _, hw, _ => absurd hw (by omega)
  | w + 1, w' + 1, o, l, hw, h => by
    rcases h with ⟨a, b, c, e, h1, h2, h3⟩ | ⟨kd, a, n, p, ls, h1, h2, h3, h4, h5⟩
    · exact Or.inl ⟨a, b, c, e, h1, hB _ _ h2, h3⟩
    · exact Or.inr ⟨kd, a, n, p, ls, h1, hB _ _ h2, hB.l h3, fun j hj => t_sg.mono hB w w' _ _ (by omega) (h4 j hj), h5⟩
theorem t_sg.ob {B : XH} : ∀ (w o : Nat) (l : List Nat), t_sg B w o l → s_out o ∧ y_ob B o
  | 0, _, _, h => h.elim
  | w + 1, o, l, h => by
    rcases h with ⟨a, b, c, e, h1, h2, h3⟩ | ⟨kd, a, n, p, ls, h1, h2, h3, h4, h5⟩
    · exact ⟨h1, 1, _, _, _, _, h2, rfl, List.mem_of_getElem? (i := 1491) (by decide +kernel)⟩
    · exact ⟨h1, 2, _, _, _, _, h2, rfl, List.mem_of_getElem? (i := 1490) (by decide +kernel)⟩
/-- the objects of the plain codes, m of them from f -/
def z_pl (c : Nat → Int32) (oo : Nat → Nat) (f : Nat) : Nat → List Nat
  | 0 => []
  | m + 1 => z_pl c oo f m ++ (if s_cod c (f + m) 0 = 0 ∧ s_cod c (f + m) 5 = 1 then [oo (f + m)] else [])
theorem z_pl_add {c : Nat → Int32} {oo : Nat → Nat} {f a : Nat} : ∀ b, z_pl c oo f (a + b) = z_pl c oo f a ++ z_pl c oo (f + a) b
  | 0 => (List.append_nil _).symm
  | b + 1 => by
    show z_pl c oo f (a + b) ++ (if s_cod c (f + (a + b)) 0 = 0 ∧ s_cod c (f + (a + b)) 5 = 1 then [oo (f + (a + b))] else []) = z_pl c oo f a ++ (z_pl c oo (f + a) b ++ (if s_cod c (f + a + b) 0 = 0 ∧ s_cod c (f + a + b) 5 = 1 then [oo (f + a + b)] else []))
    rw [z_pl_add b, Nat.add_assoc, List.append_assoc]
theorem z_pl_cong {c c' : Nat → Int32} {oo oo' : Nat → Nat} {f : Nat} : ∀ m, (∀ k, f ≤ k → k < f + m → s_cod c k 0 = s_cod c' k 0 ∧ s_cod c k 5 = s_cod c' k 5 ∧ oo k = oo' k) → z_pl c oo f m = z_pl c' oo' f m
  | 0, _ => rfl
  | m + 1, h => by
    obtain ⟨h1, h2, h3⟩ := h (f + m) (by omega) (by omega)
    show z_pl c oo f m ++ _ = z_pl c' oo' f m ++ _
    rw [z_pl_cong m (fun k hk hk2 => h k hk (by omega)), h1, h2, h3]
theorem z_pl_no {c : Nat → Int32} {oo : Nat → Nat} {f : Nat} : ∀ m, (∀ k, f ≤ k → k < f + m → ¬ s_pln c k) → z_pl c oo f m = []
  | 0, _ => rfl
  | m + 1, h => by
    show z_pl c oo f m ++ _ = []
    rw [z_pl_no m (fun k hk hk2 => h k hk (by omega)), if_neg (show ¬ (s_cod c (f + m) 0 = 0 ∧ s_cod c (f + m) 5 = 1) from h (f + m) (by omega) (by omega))]
    rfl
/-- the list l is the plain codes', where z says that they count -/
def y_fl (B : XH) (c : Nat → Int32) (z : Bool) (f g : Nat) (l : List Nat) : Prop := (z = true → ∃ oo, (∀ k, f ≤ k → k < g → s_pln c k → q_at B c k (oo k)) ∧ l = z_pl c oo f (g - f)) ∧ (z = false → ∀ k, f ≤ k → k < g → ¬ s_pln c k)
/-- what is read from code f to g stands at o -/
def y_tr (B : XH) (c : Nat → Int32) (w o f g : Nat) (z : Bool) (E : (Nat → Bool) → Bool) (l : List Nat) : Prop := y_ta B c g w o E ∧ t_sg B w o l ∧ z_seg c f g E ∧ (∀ k, f ≤ k → k < g → s_cod c k 0 = 0 → s_cmpok c k) ∧ y_fl B c z f g l
/-- what is new -/
def y_dif (B B' : XH) : XH := fun k => match B k with
  | none => B' k
  | some _ => none
theorem y_dif_le {B B' : XH} : y_le (y_dif B B') B' := fun k c h => by
  unfold y_dif at h
  cases hB : B k with
  | none => rw [hB] at h; exact h
  | some d => rw [hB] at h; cases h
theorem y_dif_new {B B' : XH} {k : Nat} {c : XC} (h : y_dif B B' k = some c) : B k = none := by
  unfold y_dif at h
  cases hB : B k with
  | none => rfl
  | some d => rw [hB] at h; cases h
theorem y_dif_of {B B' : XH} {k : Nat} (h : B k = none) : y_dif B B' k = B' k := by
  unfold y_dif
  rw [h]
