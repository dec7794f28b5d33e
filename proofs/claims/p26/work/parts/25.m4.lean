/-! ===== the reference: the calls that change rows ===== -/
def updR (S : Nat → Nat → Int32) (w : Nat) (c : Nat → Int32) : Nat → Nat → Int32 := fun i => if i = w then c else S i
theorem updR_eq {S : Nat → Nat → Int32} {w : Nat} {c : Nat → Int32} : updR S w c w = c := if_pos rfl
theorem updR_ne {S : Nat → Nat → Int32} {w i : Nat} {c : Nat → Int32} (h : i ≠ w) : updR S w c i = S i := if_neg h
theorem updR_self {S : Nat → Nat → Int32} {w : Nat} : S = updR S w (S w) := by
  funext i
  unfold updR
  by_cases h : i = w
  · rw [if_pos h, h]
  · rw [if_neg h]
theorem updR_updR {S : Nat → Nat → Int32} {w : Nat} {c c' : Nat → Int32} : updR (updR S w c) w c' = updR S w c' := by
  funext i
  unfold updR
  by_cases h : i = w
  · rw [if_pos h, if_pos h]
  · rw [if_neg h, if_neg h, if_neg h]
/-- two rows that agree but for what runs leave -/
def s_agF (c c' : Nat → Int32) : Prop := ∀ k, (k < 275 ∨ 455 ≤ k ∨ (17 ≤ (k - 275) % 30 ∧ (k - 275) % 30 < 21) ∨ 26 ≤ (k - 275) % 30) → c k = c' k
/-- and but for the percentages -/
def s_agr (c c' : Nat → Int32) : Prop := ∀ k, (k < 275 ∨ 455 ≤ k ∨ 17 ≤ (k - 275) % 30) → c k = c' k
theorem s_agr.F {c c' : Nat → Int32} (h : s_agr c c') : s_agF c c' := fun k hk => h k (by omega)
theorem s_agr_rfl {c : Nat → Int32} : s_agr c c := fun _ _ => rfl
theorem s_agF_upd {c c' : Nat → Int32} {k : Nat} {v : Int32} (h : s_agF c c') (hk : ¬ (k < 275 ∨ 455 ≤ k ∨ (17 ≤ (k - 275) % 30 ∧ (k - 275) % 30 < 21) ∨ 26 ≤ (k - 275) % 30)) : s_agF c (upd c' k v) := fun i hi => by
  rw [updI_ne (fun e => hk (by rw [← e]; exact hi))]; exact h i hi
theorem s_agr_upd {c c' : Nat → Int32} {k : Nat} {v : Int32} (h : s_agr c c') (hk : ¬ (k < 275 ∨ 455 ≤ k ∨ 17 ≤ (k - 275) % 30)) : s_agr c (upd c' k v) := fun i hi => by
  rw [updI_ne (fun e => hk (by rw [← e]; exact hi))]; exact h i hi
section
variable {c c' gv : Nat → Int32} {s k j l : Nat} {v : Int32} {z : Bool}
theorem s_agF.cod (h : s_agF c c') (k x : Nat) : s_cod c k x = s_cod c' k x := h _ (by omega)
theorem s_agF.col (h : s_agF c c') {j x : Nat} (hj : j < 5) (hx : x < 13) : s_col c j x = s_col c' j x := h _ (by omega)
theorem s_agF.val (h : s_agF c c') {l j : Nat} (hl : l < 40) (hj : j < 5) : s_val c l j = s_val c' l j := h _ (by omega)
theorem s_agF.from (h : s_agF c c') : s_from c s = s_from c' s := by unfold s_from; rw [show s_st c s 26 = s_st c' s 26 from h _ (by omega)]
theorem s_agF.to (h : s_agF c c') : s_to c s = s_to c' s := by unfold s_to; rw [show s_st c s 27 = s_st c' s 27 from h _ (by omega)]
theorem s_agF.seen (h : s_agF c c') (hj : j < 5) : s_seen c k j v = s_seen c' k j v := by
  unfold s_seen
  rw [h.cod k 2, h.col hj (x := 10) (by omega), h.col hj (x := 11) (by omega), h.col hj (x := 12) (by omega), h 8 (by omega)]
theorem s_agF.est (h : s_agF c c') (he : s_eok c k) : s_est c gv k z = s_est c' gv k z := by
  obtain ⟨j, hj, hof, -⟩ := he
  have ej : (s_cod c k 1).toNatClampNeg = j := by rw [hof]; exact nI_clamp (by omega)
  unfold s_est s_est0
  rw [← h.cod k 1, ej, h 8 (by omega), h.cod k 2, h.cod k 3, h.cod k 4, h.col hj (x := 10) (by omega)]
  repeat rw [h.seen hj]
theorem s_agF.chos (h : s_agF c c') {col : Int32} {f : Nat} : ∀ n, f + n < 325 → (∀ k, f ≤ k → k < f + n → s_cod c k 0 = 0 → s_eok c k) → s_chos c gv col z f n = s_chos c' gv col z f n := by
  intro n
  induction n with
  | zero => intro _ _; rfl
  | succ n ih0 =>
    intro hn hk
    have ih := ih0 (by omega) (fun k h1 h2 => hk k h1 (by omega))
    show s_pick c gv col z (f + n) (s_chos c gv col z f n) = s_pick c' gv col z (f + n) (s_chos c' gv col z f n)
    rw [← ih]
    unfold s_pick
    rw [h.cod (f + n) 0, h.cod (f + n) 5, h.cod (f + n) 1]
    by_cases h0 : s_cod c' (f + n) 0 = 0
    · rw [if_pos h0, if_pos h0, h.est (hk (f + n) (by omega) (by omega) ((h.cod _ _).trans h0))]
      by_cases hb : s_chos c gv col z f n = -1
      · rw [hb, if_pos (rfl : (-1 : Int32) = -1), if_pos (rfl : (-1 : Int32) = -1)]
      · obtain ⟨q, hq1, hq2⟩ := (s_chos_ok n).resolve_left hb
        have eq : (s_chos c gv col z f n).toNatClampNeg = q := by rw [hq2]; exact nI_clamp (by omega)
        rw [eq, h.est (hk q hq1.1 (by omega) hq1.2.2.1)]
    · rw [if_neg h0, if_neg h0]
theorem s_agF.eok (h : s_agF c c') (he : s_eok c k) : s_eok c' k := by
  obtain ⟨j, hj, h1, h2, h3, h4⟩ := he
  refine ⟨j, hj, (h.cod _ _).symm.trans h1, ?_, ?_, ?_⟩
  · rw [← h.cod k 3, ← h.cod k 4]; exact h2
  · rw [← h 8 (by omega), ← h.col hj (x := 10) (by omega)]; exact h3
  · rw [← h.col hj (x := 11) (by omega), ← h.col hj (x := 12) (by omega)]; exact h4
theorem s_agF.kok (h : s_agF c c') (hk : s_kok c s) : s_kok c' s := by
  obtain ⟨⟨f, t, h1, h2, h3, h4⟩, h5⟩ := hk
  refine ⟨⟨f, t, h1, h2, (h _ (by omega)).symm.trans h3, (h _ (by omega)).symm.trans h4⟩, ?_⟩
  rw [← h.from, ← h.to]
  exact fun k k1 k2 k3 => h.eok (h5 k k1 k2 ((h.cod _ _).trans k3))
theorem s_agF.chosen (h : s_agF c c') (hk : s_kok c s) {p : Int32} : s_chosen c gv s p z = s_chosen c' gv s p z := by
  have h0 := s_kok_ft hk
  unfold s_chosen
  rw [← h.from, ← h.to]
  exact h.chos _ (by omega) (fun k h1 h2 h3 => hk.2 k h1 (by omega) h3)
theorem s_agr.cost (h : s_agr c c') (hk : s_kok c s) {p : Int32} (hp : p = -1 ∨ ∃ j, j < 5 ∧ p = nI j) : s_cost c gv s p z = s_cost c' gv s p z := by
  unfold s_cost
  rw [h 4 (by omega), h 8 (by omega)]
  by_cases hp1 : p = -1
  · rw [if_pos hp1, if_pos hp1]
  · rw [if_neg hp1, if_neg hp1]
    obtain ⟨j, hj, e⟩ := hp.resolve_left hp1
    have ej : p.toNatClampNeg = j := by rw [e]; exact nI_clamp (by omega)
    unfold s_cost1
    rw [ej, h.F.col hj (x := 9) (by omega), h.F.chosen hk, h 5 (by omega), h 6 (by omega), show s_st c s (21 + j) = s_st c' s (21 + j) from h _ (by omega)]
    by_cases h1 : s_col c' j 9 = 1
    · rw [if_pos h1, if_pos h1]
      by_cases h2 : s_chosen c' gv s p z = -1
      · rw [if_pos h2, if_pos h2]
      · rw [if_neg h2, if_neg h2]
        rw [← h.F.chosen hk] at h2
        obtain ⟨q, hq1, hq2⟩ := (s_chosen_ok hk).resolve_left h2
        have h0 := s_kok_ft hk
        have eq : (s_chosen c' gv s p z).toNatClampNeg = q := by rw [← h.F.chosen hk, hq2]; exact nI_clamp (by omega)
        rw [eq, h.F.est (hk.2 q hq1.1 hq1.2.1 hq1.2.2.1)]
    · rw [if_neg h1, if_neg h1]
theorem s_agr.bst (h : s_agr c c') (hk : s_kok c s) : ∀ m, m ≤ 5 → s_bst c gv s z m = s_bst c' gv s z m
  | 0, _ => by
    show (_, s_cost c gv s (-1) z) = (_, s_cost c' gv s (-1) z)
    rw [h.cost hk (Or.inl rfl)]
  | n + 1, hm => by
    show s_bst1 (s_bst c gv s z n) n (s_cost c gv s (nI n) z) = s_bst1 (s_bst c' gv s z n) n (s_cost c' gv s (nI n) z)
    rw [s_agr.bst h hk n (by omega), h.cost hk (Or.inr ⟨n, by omega, rfl⟩)]
theorem s_agr.best (h : s_agr c c') (hk : s_kok c s) {m : Nat} (hm : m ≤ 5) : s_best c gv s m z = s_best c' gv s m z := by
  unfold s_best
  rw [h.bst hk m hm]
theorem s_agF.tok (h : s_agF c c') (ht : s_tok c k) : s_tok c' k := by
  obtain ⟨h1, h2, h3⟩ := ht
  unfold s_tok
  rw [← h.cod k 1, ← h.cod k 3, ← h.cod k 4]
  exact ⟨h1, h2, h3⟩
theorem s_agF.tru (h : s_agF c c') (ht : s_tok c k) (hl : l < 40) : s_tru c gv k l = s_tru c' gv k l := by
  obtain ⟨⟨j, hj, hof⟩, h2, h3⟩ := ht
  have ej : (s_cod c k 1).toNatClampNeg = j := by rw [hof]; exact nI_clamp (by omega)
  unfold s_tru s_rhs
  rw [← h.cod k 1, ← h.cod k 2, ← h.cod k 3, ← h.cod k 4, ej, h.val hl hj]
  by_cases k0 : s_cod c k 3 = 0
  · rw [if_pos k0, if_pos k0]
  · rw [if_neg k0, if_neg k0]
    by_cases k1 : s_cod c k 3 = 1
    · obtain ⟨j2, hj2, hw⟩ := h2 k1
      have ej2 : (s_cod c k 4).toNatClampNeg = j2 := by rw [hw]; exact nI_clamp (by omega)
      rw [if_pos k1, if_pos k1, ej2, h.val hl hj2]
    · rw [if_neg k1, if_neg k1]
theorem s_agF.hg (h : s_agF c c') {f : Nat} : ∀ n, s_hg c f n = s_hg c' f n
  | 0 => rfl
  | n + 1 => by
    show s_hg1 (s_cod c (f + n) 0) (s_hg c f n) = s_hg1 (s_cod c' (f + n) 0) (s_hg c' f n)
    rw [s_agF.hg h n, h.cod]
theorem s_agF.pok (h : s_agF c c') {f n : Nat} (hp : s_pok c f n) : s_pok c' f n := fun k hk => by
  rw [← h.cod (f + k) 0, ← h.hg]
  rcases hp k hk with ⟨a, b⟩ | q | q
  · exact Or.inl ⟨a, h.tok b⟩
  · exact Or.inr (Or.inl q)
  · exact Or.inr (Or.inr q)
theorem s_agF.fok (h : s_agF c c') (hf : s_fok c s) : s_fok c' s := by
  unfold s_fok
  rw [← h.from, ← h.to, ← h.hg]
  exact ⟨h.pok hf.1, hf.2⟩
theorem s_agF.px (h : s_agF c c') {f n : Nat} {P : Nat → Bool} (hl : l < 40) (hp : s_pok c f n) : ∀ k, k ≤ n → s_px c gv l f P k = s_px c' gv l f P k
  | 0, _ => rfl
  | k + 1, hk => by
    show s_px1 (s_cod c (f + k) 0) (s_hg c f k) (s_tru c gv (f + k) l) (s_px c gv l f P k) = s_px1 (s_cod c' (f + k) 0) (s_hg c' f k) (s_tru c' gv (f + k) l) (s_px c' gv l f P k)
    rw [s_agF.px h hl hp k (by omega), h.cod (f + k) 0, h.hg]
    by_cases h0 : s_cod c (f + k) 0 = 0
    · rw [h.tru (s_pok_tok hp (by omega) h0) hl]
    · rw [h.cod] at h0
      unfold s_px1
      rw [if_neg h0, if_neg h0]
theorem s_agF.find (h : s_agF c c') (hf : s_fok c s) (hl : l < 40) : s_find c gv s l = s_find c' gv s l := by
  unfold s_find
  rw [← h.from, ← h.to, h.px hl hf.1 _ (Nat.le_refl _)]
end
/-- what the making of a generic plan leaves -/
def s_mkg (c gv : Nat → Int32) (s : Nat) : Nat → Int32 :=
  if s_fresh c s then c else upd (upd (upd (upd c (275 + 30 * s + 14) (s_best c gv s (s_cm c) false)) (275 + 30 * s + 15) (s_cost c gv s (s_best c gv s (s_cm c) false) false)) (275 + 30 * s + 16) (c 3)) (275 + 30 * s + 11) (s_st c s 11 + 1)
theorem s_mkg_agr {c gv : Nat → Int32} {s : Nat} (hs : s < 6) : s_agr c (s_mkg c gv s) := by
  unfold s_mkg
  by_cases h : s_fresh c s
  · rw [if_pos h]; exact s_agr_rfl
  · rw [if_neg h]
    exact s_agr_upd (s_agr_upd (s_agr_upd (s_agr_upd s_agr_rfl (by omega)) (by omega)) (by omega)) (by omega)
def s_lrn (c gv : Nat → Int32) (s j k : Nat) (z : Bool) (t : Int32) : Int32 := (3 * s_st c s (21 + j) + x_min 1000 (100 * t / x_max 1 (s_est c gv k z))) / 4
/-- the lines of the first n that a comparison finds -/
def s_tch (c gv : Nat → Int32) (k : Nat) : Nat → Int32
  | 0 => 0
  | n + 1 => s_tch c gv k n + (bif s_tru c gv k n then 1 else 0)
def s_tou1 (c gv : Nat → Int32) (s : Nat) (p : Int32) (z : Bool) (q : Int32) : Nat → Int32 :=
  if q = -1 then upd c (275 + 30 * s + 13) (s_st c s 13 + c 1)
  else upd (upd c (275 + 30 * s + 13) (s_st c s 13 + s_tch c gv q.toNatClampNeg (s_lm c))) (275 + 30 * s + (21 + p.toNatClampNeg)) (s_lrn c gv s p.toNatClampNeg q.toNatClampNeg z (s_tch c gv q.toNatClampNeg (s_lm c)))
/-- what a run by a plan touches and learns -/
def s_tou (c gv : Nat → Int32) (s : Nat) (p : Int32) (z : Bool) : Nat → Int32 := s_tou1 c gv s p z (if p = -1 then -1 else s_chosen c gv s p z)
theorem s_wf.tok {c : Nat → Int32} (h : s_wf c) {s k : Nat} (hs : s < s_sm c) (h1 : s_from c s ≤ k) (h2 : k < s_to c s) (h0 : s_cod c k 0 = 0) : s_tok c k := by
  obtain ⟨d, rfl⟩ : ∃ d, k = s_from c s + d := ⟨k - s_from c s, by omega⟩
  exact s_pok_tok (h.fok hs).1 (by omega) h0
theorem nI_ne_m1 {k : Nat} (hk : k < 2147483648) : ¬ nI k = -1 := fun h => by
  have h1 := congrArg Int32.toInt h
  rw [nI_toInt hk, show (-1 : Int32).toInt = -1 by decide] at h1
  omega
theorem s_agr.lrn {c c' gv : Nat → Int32} {s j k : Nat} {z : Bool} {t : Int32} (h : s_agr c c') (hj : j < 5) (he : s_eok c k) : s_lrn c gv s j k z t = s_lrn c' gv s j k z t := by
  unfold s_lrn
  rw [show s_st c s (21 + j) = s_st c' s (21 + j) from h _ (by omega), h.F.est he]
theorem s_agF.sm {c c' : Nat → Int32} (h : s_agF c c') : s_sm c' = s_sm c := by unfold s_sm; rw [h 2 (by omega)]
theorem s_agF.cm {c c' : Nat → Int32} (h : s_agF c c') : s_cm c' = s_cm c := by unfold s_cm; rw [h 0 (by omega)]
theorem s_agF.lm {c c' : Nat → Int32} (h : s_agF c c') : s_lm c' = s_lm c := by unfold s_lm; rw [h 1 (by omega)]
theorem s_agF.trans {a b c : Nat → Int32} (h : s_agF a b) (g : s_agF b c) : s_agF a c := fun k hk => (h k hk).trans (g k hk)
theorem s_agr.trans {a b c : Nat → Int32} (h : s_agr a b) (g : s_agr b c) : s_agr a c := fun k hk => (h k hk).trans (g k hk)
theorem s_agF.wf {c c' : Nat → Int32} (h : s_agF c c') (hwf : s_wf c) (hk : ∀ s, s < s_sm c → s_kpok c' s) : s_wf c' := by
  have hc5 := hwf.cmE.2
  refine ⟨⟨?_, ?_, ?_, ?_⟩, fun j hj => ?_, fun s hs => ?_, fun s hs => hk s (by rw [← h.sm]; exact hs)⟩
  · rw [← h 0 (by omega)]; exact hwf.cm
  · rw [← h 1 (by omega)]; exact hwf.lm
  · rw [← h 2 (by omega)]; exact hwf.sm
  · rw [← h 8 (by omega)]; exact hwf.seen
  · rw [h.cm] at hj
    have hj5 : j < 5 := by omega
    obtain ⟨h1, h2, h3, h4⟩ := hwf.col j hj
    unfold s_colok
    rw [← h.col hj5 (x := 8) (by omega), ← h.col hj5 (x := 9) (by omega), ← h.col hj5 (x := 10) (by omega), ← h.col hj5 (x := 11) (by omega), ← h.col hj5 (x := 12) (by omega), ← h 8 (by omega)]
    exact ⟨h1, h2, h3, h4⟩
  · rw [h.sm] at hs
    obtain ⟨⟨f, t, h1, h2, h3, h4⟩, h5, h6⟩ := hwf.st s hs
    refine ⟨⟨f, t, h1, h2, (h _ (by omega)).symm.trans h3, (h _ (by omega)).symm.trans h4⟩, h.fok h5, ?_⟩
    rw [← h.from, ← h.to]
    intro k k1 k2 k3
    obtain ⟨g1, g2, g3⟩ := h6 k k1 k2 ((h.cod _ _).trans k3)
    unfold s_cmpok
    rw [← h.cod k 1, ← h.cod k 2, ← h.cod k 3, ← h.cod k 4, h.cm]
    exact ⟨g1, g2, g3⟩
theorem s_kpok_of {c c' : Nat → Int32} {s : Nat} (h : s_st c s 14 = s_st c' s 14) (hc : s_cm c' = s_cm c) (hk : s_kpok c s) : s_kpok c' s := by
  unfold s_kpok
  rw [← h, hc]
  exact hk
theorem s_mkg_kp {c gv : Nat → Int32} {s : Nat} (hwf : s_wf c) (hs0 : s < s_sm c) : ∀ q, q < s_sm c → s_kpok (s_mkg c gv s) q := fun q hq => by
  have hs : s < 6 := Nat.lt_of_lt_of_le hs0 hwf.smE.2
  have hcm := (s_mkg_agr (c := c) (gv := gv) hs).F.cm
  by_cases hf : s_fresh c s
  · rw [show s_mkg c gv s = c from if_pos hf]; exact hwf.kp q hq
  · by_cases e : q = s
    · subst e
      have e1 : s_st (s_mkg c gv q) q 14 = s_best c gv q (s_cm c) false := by
        rw [show s_mkg c gv q = _ from if_neg hf]
        show upd _ _ _ _ = _
        rw [updI_ne (by omega), updI_ne (by omega), updI_ne (by omega), updI_eq]
      unfold s_kpok
      rw [e1, hcm]
      rcases s_best_ok (c := c) (gv := gv) (s := q) (z := false) (s_cm c) with h | h
      · exact Or.inr (Or.inl h)
      · exact Or.inr (Or.inr h)
    · refine s_kpok_of ?_ hcm (hwf.kp q hq)
      rw [show s_mkg c gv s = _ from if_neg hf]
      show _ = upd _ _ _ _
      rw [updI_ne (by omega), updI_ne (by omega), updI_ne (by omega), updI_ne (by omega)]
abbrev s_late (c : Nat → Int32) (s : Nat) : Prop := ¬ s_st c s 8 < c 7
def s_r1 (c gv : Nat → Int32) (s : Nat) : Nat → Int32 := if s_late c s then s_mkg c gv s else c
abbrev s_keep (c gv : Nat → Int32) (s : Nat) : Prop := s_late c s ∧ s_gen (s_mkg c gv s) s (s_st (s_mkg c gv s) s 15)
def s_rplan (c gv : Nat → Int32) (s : Nat) : Int32 := if s_keep c gv s then s_st (s_mkg c gv s) s 14 else s_best c gv s (s_cm c) true
def s_r2 (c gv : Nat → Int32) (s : Nat) : Nat → Int32 :=
  if s_keep c gv s then s_mkg c gv s else upd (upd (s_r1 c gv s) (275 + 30 * s + 9) (s_st (s_r1 c gv s) s 9 + 1)) (275 + 30 * s + 10) (s_st (s_r1 c gv s) s 10 + s_cost c gv s (s_rplan c gv s) true)
def s_r3 (c gv : Nat → Int32) (s : Nat) : Nat → Int32 := upd (s_r2 c gv s) (275 + 30 * s + 8) (s_st c s 8 + 1)
/-- the row after a run -/
def s_run (c gv : Nat → Int32) (s : Nat) : Nat → Int32 := s_tou (s_r3 c gv s) gv s (s_rplan c gv s) (!decide (s_keep c gv s))
/-- how many of the first n lines a statement finds -/
def s_cnt (c gv : Nat → Int32) (s : Nat) : Nat → Int32
  | 0 => 0
  | n + 1 => s_cnt c gv s n + (bif s_find c gv s n then 1 else 0)
theorem s_agF.cnt {c c' gv : Nat → Int32} {s : Nat} (h : s_agF c c') (hf : s_fok c s) : ∀ n, n ≤ 40 → s_cnt c gv s n = s_cnt c' gv s n
  | 0, _ => rfl
  | n + 1, hn => by
    show s_cnt c gv s n + (bif s_find c gv s n then 1 else 0) = s_cnt c' gv s n + (bif s_find c' gv s n then 1 else 0)
    rw [s_agF.cnt h hf n (by omega), h.find hf (by omega)]
section
variable {B : XH} {I : Nat → Int32} {T : Int64} {S : Nat → Nat → Int32} {rd tx gv : Nat → Int32} {P : Nat → Bool} {w u : Nat}
end
theorem s_keep_late {c gv : Nat → Int32} {s : Nat} (h : ¬ s_late c s) : ¬ s_keep c gv s := fun q => h q.1
section
variable {c gv : Nat → Int32} {s : Nat}
theorem s_mkg_kept (hwf : s_wf c) (hs0 : s < s_sm c) : s_st (s_mkg c gv s) s 14 = -1 ∨ ∃ j, j < s_cm c ∧ s_st (s_mkg c gv s) s 14 = nI j := by
  have hs : s < 6 := Nat.lt_of_lt_of_le hs0 hwf.smE.2
  by_cases hf : s_fresh c s
  · rw [show s_mkg c gv s = c from if_pos hf]
    exact (hwf.kp s hs0).resolve_left hf.1
  · have e1 : s_st (s_mkg c gv s) s 14 = s_best c gv s (s_cm c) false := by
      rw [show s_mkg c gv s = _ from if_neg hf]
      show upd _ _ _ _ = _
      rw [updI_ne (by omega), updI_ne (by omega), updI_ne (by omega), updI_eq]
    rw [e1]
    exact s_best_ok (s_cm c)
theorem s_rplan_ok (hwf : s_wf c) (hs0 : s < s_sm c) : s_rplan c gv s = -1 ∨ ∃ j, j < s_cm c ∧ s_rplan c gv s = nI j := by
  by_cases h : s_keep c gv s
  · rw [show s_rplan c gv s = _ from if_pos h]; exact s_mkg_kept hwf hs0
  · rw [show s_rplan c gv s = _ from if_neg h]; exact s_best_ok (s_cm c)
theorem s_rplan5 (hwf : s_wf c) (hs0 : s < s_sm c) : s_rplan c gv s = -1 ∨ ∃ j, j < 5 ∧ s_rplan c gv s = nI j := by
  have h5 := hwf.cmE.2
  rcases s_rplan_ok (gv := gv) hwf hs0 with h | ⟨j, h1, h2⟩
  · exact Or.inl h
  · exact Or.inr ⟨j, by omega, h2⟩
theorem s_r1_agr (hs : s < 6) : s_agr c (s_r1 c gv s) := by
  unfold s_r1
  by_cases h : s_late c s
  · rw [if_pos h]; exact s_mkg_agr hs
  · rw [if_neg h]; exact s_agr_rfl
theorem s_r2_agr (hs : s < 6) : s_agr c (s_r2 c gv s) := by
  unfold s_r2
  by_cases h : s_keep c gv s
  · rw [if_pos h]; exact s_mkg_agr hs
  · rw [if_neg h]; exact s_agr_upd (s_agr_upd (s_r1_agr hs) (by omega)) (by omega)
theorem s_mkg_8 : s_st (s_mkg c gv s) s 8 = s_st c s 8 := by
  by_cases hf : s_fresh c s
  · rw [show s_mkg c gv s = c from if_pos hf]
  · rw [show s_mkg c gv s = _ from if_neg hf]
    show upd _ _ _ _ = _
    rw [updI_ne (by omega), updI_ne (by omega), updI_ne (by omega), updI_ne (by omega)]
theorem s_r2_8 : s_r2 c gv s (275 + 30 * s + 8) = c (275 + 30 * s + 8) := by
  unfold s_r2
  by_cases h : s_keep c gv s
  · rw [if_pos h]; exact s_mkg_8
  · rw [if_neg h, updI_ne (by omega), updI_ne (by omega)]
    unfold s_r1
    by_cases h : s_late c s
    · rw [if_pos h]; exact s_mkg_8
    · rw [if_neg h]
theorem s_r3_agr (hs : s < 6) : s_agr c (s_r3 c gv s) := s_agr_upd (s_r2_agr hs) (by omega)
theorem s_r1_kp (hwf : s_wf c) (hs0 : s < s_sm c) : ∀ q, q < s_sm c → s_kpok (s_r1 c gv s) q := fun q hq => by
  unfold s_r1
  by_cases h : s_late c s
  · rw [if_pos h]; exact s_mkg_kp hwf hs0 q hq
  · rw [if_neg h]; exact hwf.kp q hq
theorem s_kpok_upd {k : Nat} {v : Int32} (hk : 275 ≤ k ∧ (k - 275) % 30 ≠ 14) {q : Nat} (h : s_kpok c q) : s_kpok (upd c k v) q :=
  s_kpok_of (by show _ = upd _ _ _ _; rw [updI_ne (by omega)]) (by unfold s_cm; rw [updI_ne (by omega)]) h
theorem s_r3_wf (hwf : s_wf c) (hs0 : s < s_sm c) : s_wf (s_r3 c gv s) := by
  have hs : s < 6 := Nat.lt_of_lt_of_le hs0 hwf.smE.2
  refine (s_r3_agr hs).F.wf hwf fun q hq => s_kpok_upd (by omega) ?_
  unfold s_r2
  by_cases h : s_keep c gv s
  · rw [if_pos h]; exact s_mkg_kp hwf hs0 q hq
  · rw [if_neg h]; exact s_kpok_upd (by omega) (s_kpok_upd (by omega) (s_r1_kp hwf hs0 q hq))
end
