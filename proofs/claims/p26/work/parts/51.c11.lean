/-! ===== the class: a Setup serves every row with the same statements ===== -/
/-- two rows with the same columns and statements -/
def s_stc (e e' : Nat → Int32) : Prop := ∀ k, (k = 0 ∨ k = 2 ∨ (4 ≤ k ∧ k ≤ 7) ∨ (10 ≤ k ∧ k < 75 ∧ (k - 10) % 13 ≤ 8) ∨ (275 ≤ k ∧ k < 455 ∧ ((k - 275) % 30 < 8 ∨ (17 ≤ (k - 275) % 30 ∧ (k - 275) % 30 < 21) ∨ 26 ≤ (k - 275) % 30)) ∨ 455 ≤ k) → e k = e' k
section
variable {e e' : Nat → Int32} {B : XH}
theorem s_stc.cod (h : s_stc e e') (k x : Nat) : s_cod e k x = s_cod e' k x := h _ (by omega)
theorem s_stc.cm (h : s_stc e e') : s_cm e = s_cm e' := by unfold s_cm; rw [h 0 (by omega)]
theorem s_stc.sm (h : s_stc e e') : s_sm e = s_sm e' := by unfold s_sm; rw [h 2 (by omega)]
theorem s_stc.from (h : s_stc e e') (s : Nat) (hs : s < 6) : s_from e s = s_from e' s := by unfold s_from; rw [show s_st e s 26 = s_st e' s 26 from h _ (by omega)]
theorem s_stc.to (h : s_stc e e') (s : Nat) (hs : s < 6) : s_to e s = s_to e' s := by unfold s_to; rw [show s_st e s 27 = s_st e' s 27 from h _ (by omega)]
theorem s_stc.cmq (h : s_stc e e') (k : Nat) : cmV e k = cmV e' k := by
  funext j
  unfold cmV
  split <;> rw [h.cod]
theorem s_stc.q (h : s_stc e e') {k o : Nat} (hq : q_at B e k o) : q_at B e' k o := ⟨hq.1, by rw [← h.cmq]; exact hq.2⟩
theorem s_stc.ok (h : s_stc e e') {k : Nat} (hc : s_cmpok e k) : s_cmpok e' k := by
  unfold s_cmpok at hc ⊢
  rw [← h.cm, ← h.cod k 1, ← h.cod k 2, ← h.cod k 3, ← h.cod k 4]
  exact hc
theorem s_stc.t (h : s_stc e e') : ∀ (w o : Nat) (E : (Nat → Bool) → Bool), t_at B e w o E → t_at B e' w o E
  | 0, _, _, ht => ht
  | w + 1, o, E, ht => by
    rcases ht with ⟨k, h1, h2, h3⟩ | ⟨kd, a, n, p, F, h1, h2, h3, h4, h5, h6⟩
    · exact Or.inl ⟨k, h.q h1, h.ok h2, h3⟩
    · exact Or.inr ⟨kd, a, n, p, F, h1, h2, h3, h4, fun j hj => s_stc.t h w _ _ (h5 j hj), h6⟩
theorem s_stc.pln (h : s_stc e e') {k : Nat} : s_pln e k ↔ s_pln e' k := by
  unfold s_pln
  rw [h.cod k 0, h.cod k 5]
theorem s_stc.cn (h : s_stc e e') (f : Nat) : ∀ m, s_cn e f m = s_cn e' f m
  | 0 => rfl
  | m + 1 => by
    unfold s_cn
    rw [s_stc.cn h f m, h.cod (f + m) 0, h.cod (f + m) 5]
theorem s_stc.sn (h : s_stc e e') {s : Nat} (hs : s < 6) : s_sn e s = s_sn e' s := by
  unfold s_sn
  rw [h.from s hs, h.to s hs, h.cn]
theorem s_stc.hg (h : s_stc e e') (f : Nat) : ∀ n, s_hg e f n = s_hg e' f n
  | 0 => rfl
  | n + 1 => by
    show s_hg1 (s_cod e (f + n) 0) (s_hg e f n) = s_hg1 (s_cod e' (f + n) 0) (s_hg e' f n)
    rw [s_stc.hg h f n, h.cod]
theorem s_stc.pt (h : s_stc e e') (T P : Nat → Bool) (f : Nat) : ∀ n, s_pt e T f P n = s_pt e' T f P n
  | 0 => rfl
  | n + 1 => by
    show s_px1 (s_cod e (f + n) 0) (s_hg e f n) (T (f + n)) (s_pt e T f P n) = s_px1 (s_cod e' (f + n) 0) (s_hg e' f n) (T (f + n)) (s_pt e' T f P n)
    rw [s_stc.pt h T P f n, h.cod, h.hg]
theorem s_stc.ft (h : s_stc e e') {s : Nat} (hs : s < 6) (T : Nat → Bool) : s_ft e s T = s_ft e' s T := by
  unfold s_ft
  rw [h.from s hs, h.to s hs, h.pt]
theorem s_stc.sg (h : s_stc e e') {s sg : Nat} (hs : s < 6) (hg : sg_at B e s sg) : sg_at B e' s sg := by
  obtain ⟨p, h1, h2⟩ := hg
  unfold sg_at
  rw [← h.sn hs, ← h.from s hs, ← h.to s hs]
  exact ⟨p, h1, fun m hm hp => by rw [← h.cn]; exact h.q (h2 m hm (h.pln.mpr hp))⟩
theorem s_stc.nmn (h : s_stc e e') {a : Nat} : ∀ n, (∀ k, k < n → e (a + k) = e' (a + k)) → s_nmn e a n = s_nmn e' a n
  | 0, _ => rfl
  | n + 1, hk => by
    unfold s_nmn
    rw [s_stc.nmn h n (fun k hk2 => hk k (by omega)), hk n (by omega)]
theorem s_stc.P (h : s_stc e e') {s po : Nat} (hs : s < 6) (hP : P_at B e s po) : P_at B e' s po := by
  obtain ⟨h1, nm, co, ht, sg, h2, h3, ⟨h4, mu, hh, h5, h6⟩, h7, w, E, h8, h9, h10⟩ := hP
  exact ⟨h1, nm, co, ht, sg, h2, h3.trans (h.nmn 8 (fun k hk => h _ (by omega))), ⟨h4, mu, hh, h5, fun j hj => (h6 j hj).trans (h _ (by omega))⟩, h.sg hs h7, w, E, h8, h.t w _ _ h9, fun T => (h10 T).trans (h.ft hs T)⟩
theorem s_stc.stq (h : s_stc e e') (a1 a2 a3 : Nat) : stV a1 a2 a3 e = stV a1 a2 a3 e' := by
  funext k
  unfold stV
  split <;> first | rfl | rw [h _ (by omega)]
theorem s_stc.st (h : s_stc e e') {o : Nat} (hcm : s_cm e ≤ 5) (hsm : s_sm e ≤ 6) (hst : st_at B e o) : st_at B e' o := by
  obtain ⟨h1, a1, a2, a3, pp, h2, ⟨h3, nm, h4, h5⟩, ⟨h6, ty, h7, h8⟩, h9, h10⟩ := hst
  unfold st_at
  rw [← h.cm, ← h.sm]
  exact ⟨h1, a1, a2, a3, pp, by rw [← h.stq]; exact h2, ⟨h3, nm, h4, fun j hj => (h5 j hj).trans (h.nmn 8 (fun k hk => h _ (by omega)))⟩, ⟨h6, ty, h7, fun j hj => (h8 j hj).trans (h _ (by omega))⟩, h9, fun s hs => h.P (by omega) (h10 s hs)⟩
end
