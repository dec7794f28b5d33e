/-! ===== what is read is a Setup ===== -/
theorem z_pl_len {c : Nat → Int32} {oo : Nat → Nat} {f : Nat} : ∀ n, (z_pl c oo f n).length = s_cn c f n
  | 0 => rfl
  | n + 1 => by
    show (z_pl c oo f n ++ (if s_cod c (f + n) 0 = 0 ∧ s_cod c (f + n) 5 = 1 then [oo (f + n)] else [])).length = s_cn c f n + (if s_cod c (f + n) 0 = 0 ∧ s_cod c (f + n) 5 = 1 then 1 else 0)
    rw [List.length_append, z_pl_len n]
    by_cases e : s_cod c (f + n) 0 = 0 ∧ s_cod c (f + n) 5 = 1
    · rw [if_pos e, if_pos e]; rfl
    · rw [if_neg e, if_neg e]; rfl
theorem z_pl_get {c : Nat → Int32} {oo : Nat → Nat} {f m : Nat} (hp : s_pln c (f + m)) : ∀ n, m < n → s_cn c f m < (z_pl c oo f n).length ∧ (z_pl c oo f n)[s_cn c f m]? = some (oo (f + m))
  | 0, h => absurd h (Nat.not_lt_zero _)
  | n + 1, h => by
    have hl := z_pl_len (c := c) (oo := oo) (f := f) n
    show s_cn c f m < (z_pl c oo f n ++ (if s_cod c (f + n) 0 = 0 ∧ s_cod c (f + n) 5 = 1 then [oo (f + n)] else [])).length ∧ (z_pl c oo f n ++ (if s_cod c (f + n) 0 = 0 ∧ s_cod c (f + n) 5 = 1 then [oo (f + n)] else []))[s_cn c f m]? = some (oo (f + m))
    by_cases e : m = n
    · subst e
      rw [if_pos (show s_cod c (f + m) 0 = 0 ∧ s_cod c (f + m) 5 = 1 from hp), List.length_append, hl]
      refine ⟨by show s_cn c f m < s_cn c f m + 1; omega, ?_⟩
      rw [List.getElem?_append, if_neg (by omega), hl, Nat.sub_self]
      rfl
    · obtain ⟨h1, h2⟩ := z_pl_get (oo := oo) hp n (by omega)
      rw [List.length_append]
      refine ⟨by omega, ?_⟩
      rw [List.getElem?_append, if_pos h1]
      exact h2
/-- a statement that is read is prepared -/
theorem y_P.at' {F B : XH} {rd : Nat → Int32} {t po : Nat} (h : y_P F rd t po) (hB : y_le F B) : P_at B rd t po := by
  obtain ⟨a, co, ht, sg, h, psg, l, E, b1, ⟨L, b2⟩, ⟨b3, b4, b5⟩, ⟨b6, b7⟩, ⟨t1, t2, t3, t4, t5⟩, b9⟩ := h
  obtain ⟨oo, o1, o2⟩ := t5.1 rfl
  have hlen : l.length = s_sn rd t := by rw [o2]; exact z_pl_len _
  refine ⟨a, _, co, ht, sg, hB _ _ b1, rfl, ⟨b3, true, h, hB _ _ b4, b5⟩, ⟨psg, by rw [← hlen]; exact y_le.l hB b6, fun m hm hp => ?_⟩, 15, E, by decide, y_le.t hB _ _ _ (y_ta.t _ _ _ t1), fun T => ?_⟩
  · obtain ⟨g1, g2⟩ := z_pl_get (oo := oo) hp (s_to rd t - s_from rd t) hm
    have g3 : l = z_pl rd oo (s_from rd t) (s_to rd t - s_from rd t) := o2
    rw [← g3] at g1 g2
    rw [b7 _ g1, g2]
    exact y_le.q hB (o1 _ (by show s_from rd t ≤ _; omega) (by show _ < s_to rd t; omega) hp)
  · have hz := ((t3.2 0).2.2 T (fun _ => false)).1
    rw [z_gp_pt] at hz
    exact hz.symm
theorem y_P.fok {F : XH} {rd : Nat → Int32} {t po : Nat} (h : y_P F rd t po) : s_from rd t ≤ s_to rd t ∧ s_hg rd (s_from rd t) (s_to rd t - s_from rd t) = 1 ∧ ∀ k, s_from rd t ≤ k → k < s_to rd t → s_cod rd k 0 = 0 → s_cmpok rd k := by
  obtain ⟨a, co, ht, sg, h, psg, l, E, b1, ⟨L, b2⟩, ⟨b3, b4, b5⟩, ⟨b6, b7⟩, ⟨t1, t2, t3, t4, t5⟩, b9⟩ := h
  have hz := (t3.2 0).2.1
  rw [z_gh_hg] at hz
  exact ⟨t3.1, hz, t4⟩
theorem s_cmpok_tok {e : Nat → Int32} {k : Nat} (hm : s_cm e ≤ 5) (h : s_cmpok e k) : s_tok e k := by
  obtain ⟨⟨j, h1, h2⟩, -, h3⟩ := h
  refine ⟨⟨j, by omega, h2⟩, fun e1 => ?_, fun e0 e1 => ?_⟩
  · rcases h3 with ⟨a, -⟩ | ⟨-, j2, b, c⟩ | ⟨a, -⟩
    · rw [a] at e1; exact absurd e1 (by decide)
    · exact ⟨j2, by omega, c⟩
    · rw [a] at e1; exact absurd e1 (by decide)
  · rcases h3 with ⟨a, -⟩ | ⟨a, -⟩ | ⟨-, h9, b, c⟩
    · exact absurd a e0
    · exact absurd a e1
    · exact ⟨h9, b, c⟩
/-- its codes are as a row's are -/
theorem y_P.sfok {F : XH} {rd : Nat → Int32} {t po : Nat} (hm : s_cm rd ≤ 5) (h : y_P F rd t po) : s_fok rd t := by
  obtain ⟨a, co, ht, sg, h, psg, l, E, b1, ⟨L, b2⟩, ⟨b3, b4, b5⟩, ⟨b6, b7⟩, ⟨t1, t2, t3, t4, t5⟩, b9⟩ := h
  have hz := (t3.2 0).2.1
  rw [z_gh_hg] at hz
  refine ⟨fun k hk => ?_, hz⟩
  have h9 := (t3.2 0).1 k hk
  rw [z_gh_hg] at h9
  rcases h9 with q | q | q
  · exact Or.inl ⟨q, s_cmpok_tok hm (t4 _ (by show s_from rd t ≤ _; omega) (by have : k < s_to rd t - s_from rd t := hk; show _ < s_to rd t; omega) q)⟩
  · exact Or.inr (Or.inl q)
  · exact Or.inr (Or.inr q)

