/-! ===== reading a text whose letters are known (wip/p26/gen_f5.py) ===== -/
/-- from p on stand the letters w -/
def wl (tx : Nat → Int32) (n p : Nat) (w : List Int32) : Prop := ∀ k, k < w.length → p + k < n ∧ tx (p + k) = w.getD k 0
def rl (P : Int32 → Bool) : List Int32 → Nat
  | [] => 0
  | c :: t => bif P c then rl P t + 1 else 0
section WL
variable {tx : Nat → Int32} {n p : Nat} {w : List Int32} {P : Int32 → Bool}
theorem wl.tl {c : Int32} {t : List Int32} (h : wl tx n p (c :: t)) : (p < n ∧ tx p = c) ∧ wl tx n (p + 1) t := by
  refine ⟨h 0 (Nat.succ_pos _), fun k hk => ?_⟩
  have h1 := h (k + 1) (by show k + 1 < t.length + 1; omega)
  rw [show p + 1 + k = p + (k + 1) by omega]
  exact h1
theorem wl.drop (h : wl tx n p w) (c : Nat) : wl tx n (p + c) (w.drop c) := fun k hk => by
  rw [List.length_drop] at hk
  have h1 := h (c + k) (by omega)
  rw [Nat.add_assoc, List.getD_eq_getElem?_getD, List.getElem?_drop, ← List.getD_eq_getElem?_getD]
  exact h1
theorem wl.pre {v : List Int32} (h : wl tx n p (w ++ v)) : wl tx n p w := fun k hk => by
  have h1 := h k (by rw [List.length_append]; omega)
  rw [l_getD_l hk] at h1
  exact h1
theorem wl.suf {v : List Int32} (h : wl tx n p (w ++ v)) : wl tx n (p + w.length) v := fun k hk => by
  have h1 := h (w.length + k) (by rw [List.length_append]; omega)
  rw [l_getD_r (Nat.le_add_right _ _), Nat.add_sub_cancel_left, ← Nat.add_assoc] at h1
  exact h1
theorem rl_run : ∀ (w : List Int32) (p : Nat), wl tx n p w → rl P w < w.length → l_run P tx n p = p + rl P w
  | [], _, _, h => absurd h (Nat.not_lt_zero _)
  | c :: t, p, hw, h => by
    obtain ⟨⟨h1, h2⟩, h3⟩ := hw.tl
    have h' : (bif P c then rl P t + 1 else 0) < t.length + 1 := h
    rw [l_run_lt h1, h2]
    show (bif P c then l_run P tx n (p + 1) else p) = p + (bif P c then rl P t + 1 else 0)
    cases hP : P c with
    | true =>
      rw [hP] at h'
      have h4 : rl P t + 1 < t.length + 1 := h'
      have h5 := rl_run t (p + 1) h3 (by omega)
      show l_run P tx n (p + 1) = p + (rl P t + 1)
      rw [h5]
      omega
    | false => rfl
theorem w_sk (h : wl tx n p w) (hs : rl l_sp w < w.length) : l_sk tx n p = p + rl l_sp w := rl_run w p h hs
theorem w_we (h : wl tx n p w) (hs : rl l_sp w + rl l_lt (w.drop (rl l_sp w)) < w.length) : l_we tx n p = p + (rl l_sp w + rl l_lt (w.drop (rl l_sp w))) := by
  unfold l_we
  rw [w_sk h (by omega), rl_run (w.drop (rl l_sp w)) _ (h.drop _) (by rw [List.length_drop]; omega), Nat.add_assoc]
/-- is the word of the window this one -/
def wisw (w wd : List Int32) : Bool := decide (rl l_lt (w.drop (rl l_sp w)) = wd.length) && (List.range wd.length).all (fun k => decide (w.getD (rl l_sp w + k) 0 = wd.getD k 0))
theorem w_isw (h : wl tx n p w) (hs : rl l_sp w + rl l_lt (w.drop (rl l_sp w)) < w.length) (wd : List Int32) : l_isw tx n p wd = wisw w wd := by
  have h1 := w_sk h (by omega)
  have h2 := w_we h hs
  rw [Bool.eq_iff_iff]
  unfold l_isw wisw
  rw [l_eqg_iff, Bool.and_eq_true, List.all_eq_true, h1, h2]
  constructor
  · rintro ⟨a, b⟩
    have a2 := of_decide_eq_true a
    refine ⟨decide_eq_true (by omega), fun k hk => decide_eq_true ?_⟩
    have hk2 := List.mem_range.mp hk
    have h3 := (h (rl l_sp w + k) (by omega)).2
    rw [← Nat.add_assoc] at h3
    rw [← h3]
    exact b k hk2
  · rintro ⟨a, b⟩
    have a2 := of_decide_eq_true a
    refine ⟨decide_eq_true (by omega), fun k hk => ?_⟩
    have h3 := (h (rl l_sp w + k) (by omega)).2
    rw [← Nat.add_assoc] at h3
    rw [h3]
    exact of_decide_eq_true (b k (List.mem_range.mpr hk))
theorem w_see (h : wl tx n p w) (hs : rl l_sp w < w.length) : l_see tx n p = w.getD (rl l_sp w) 0 := by
  unfold l_see
  rw [w_sk h hs, if_pos (h _ hs).1]
  exact (h _ hs).2
def lvL (w : List Int32) : Nat → Int32
  | 0 => 0
  | k + 1 => x_min 1000000 (10 * lvL w k + w.getD k 0 - 48)
theorem w_lv (h : wl tx n p w) : ∀ k, k ≤ w.length → l_v tx p k = lvL w k
  | 0, _ => rfl
  | k + 1, hk => by
    show x_min 1000000 (10 * l_v tx p k + tx (p + k) - 48) = x_min 1000000 (10 * lvL w k + w.getD k 0 - 48)
    rw [w_lv h k (by omega), (h k (by omega)).2]
theorem w_reads {most : Int32} (h : wl tx n p w) (hs : rl l_sp w + rl l_dg (w.drop (rl l_sp w)) < w.length) (h1 : (48 : Int32) ≤ w.getD (rl l_sp w) 0 ∧ w.getD (rl l_sp w) 0 ≤ 57) (h2 : (0 : Int32) ≤ lvL (w.drop (rl l_sp w)) (rl l_dg (w.drop (rl l_sp w))) ∧ lvL (w.drop (rl l_sp w)) (rl l_dg (w.drop (rl l_sp w))) ≤ most) : l_reads tx n p most = .inr (p + (rl l_sp w + rl l_dg (w.drop (rl l_sp w))), lvL (w.drop (rl l_sp w)) (rl l_dg (w.drop (rl l_sp w)))) := by
  have e1 := w_sk h (by omega)
  have e2 := w_see h (by omega)
  have e3 : l_de tx n p = p + (rl l_sp w + rl l_dg (w.drop (rl l_sp w))) := by
    unfold l_de
    rw [e1, rl_run (w.drop (rl l_sp w)) _ (h.drop _) (by rw [List.length_drop]; omega), Nat.add_assoc]
  have e4 : l_num tx n p = lvL (w.drop (rl l_sp w)) (rl l_dg (w.drop (rl l_sp w))) := by
    unfold l_num
    rw [e3, e1, show p + (rl l_sp w + rl l_dg (w.drop (rl l_sp w))) - (p + rl l_sp w) = rl l_dg (w.drop (rl l_sp w)) by omega]
    exact w_lv (h.drop _) _ (by rw [List.length_drop]; omega)
  unfold l_reads
  rw [e2, if_pos h1, e4, if_pos h2, e3]
/-- a number below 12, a space ahead of it -/
theorem w_num1 {k : Nat} {c most : Int32} (hk : k < 12) (hc : c = 32 ∨ c = 59) (h : wl tx n p (32 :: (dg k ++ [c]))) (hm : nI k ≤ most) : l_reads tx n p most = .inr (p + (1 + (dg k).length), nI k) := by
  have g : ∀ c : Int32, c = 32 ∨ c = 59 → ∀ k, k < 12 → rl l_sp (32 :: (dg k ++ [c])) = 1 ∧ rl l_dg ((32 :: (dg k ++ [c])).drop 1) = (dg k).length ∧ ((48 : Int32) ≤ (32 :: (dg k ++ [c])).getD 1 0 ∧ (32 :: (dg k ++ [c])).getD 1 0 ≤ 57) ∧ lvL ((32 :: (dg k ++ [c])).drop 1) (dg k).length = nI k := by
    intro c hc
    rcases hc with rfl | rfl <;> decide +kernel
  obtain ⟨g1, g2, g3, g4⟩ := g c hc k hk
  have g5 := w_reads (most := most) h (by rw [g1, g2]; show 1 + _ < (dg k ++ [c]).length + 1; rw [List.length_append, List.length_singleton]; omega) (by rw [g1]; exact g3) (by rw [g1, g2, g4]; exact ⟨nI_ge0 (by omega), hm⟩)
  rw [g1, g2, g4] at g5
  exact g5
theorem w_num0 {k : Nat} {most : Int32} (hk : k < 12) (h : wl tx n p (dg k ++ [59])) (hm : nI k ≤ most) : l_reads tx n p most = .inr (p + (dg k).length, nI k) := by
  have g : ∀ k, k < 12 → rl l_sp (dg k ++ [59]) = 0 ∧ rl l_dg ((dg k ++ [59]).drop 0) = (dg k).length ∧ ((48 : Int32) ≤ (dg k ++ [59]).getD 0 0 ∧ (dg k ++ [59]).getD 0 0 ≤ 57) ∧ lvL ((dg k ++ [59]).drop 0) (dg k).length = nI k := by decide +kernel
  obtain ⟨g1, g2, g3, g4⟩ := g k hk
  have g5 := w_reads (most := most) h (by rw [g1, g2, List.length_append, List.length_singleton]; omega) (by rw [g1]; exact g3) (by rw [g1, g2, g4]; exact ⟨nI_ge0 (by omega), hm⟩)
  rw [g1, g2, g4, Nat.zero_add] at g5
  exact g5
theorem w_want {rd : Nat → Int32} (h : wl tx n p [59]) : l_want tx n 59 p rd = .inr (p + 1, rd) := by
  unfold l_want
  rw [w_see h (by decide), if_pos (by decide), w_sk h (by decide)]
  rfl
/-- a name of one letter is stored there -/
def nm1 (rd : Nat → Int32) (at_ : Nat) (c : Int32) : Prop := rd at_ = c ∧ ∀ k, 1 ≤ k → k < 8 → rd (at_ + k) = 0
theorem nm1.eqn {rd : Nat → Int32} {at_ a : Nat} {c : Int32} (h : nm1 rd at_ c) : ∀ k, k < 8 → s_eqn rd tx at_ a (a + 1) (k + 1) = decide (c = tx a)
  | 0, _ => by
    show (true && decide (rd (at_ + 0) = s_ltr tx a (a + 1) 0)) = _
    unfold s_ltr
    rw [if_pos (by omega), Nat.add_zero, Nat.add_zero, h.1, Bool.true_and]
  | k + 1, hk => by
    show (s_eqn rd tx at_ a (a + 1) (k + 1) && decide (rd (at_ + (k + 1)) = s_ltr tx a (a + 1) (k + 1))) = _
    unfold s_ltr
    rw [nm1.eqn h k (by omega), h.2 (k + 1) (by omega) hk, if_neg (by omega), decide_eq_true rfl, Bool.and_true]
theorem nm1.nmi {rd : Nat → Int32} {at_ a : Nat} : nm1 (s_nmi rd tx a (a + 1) at_ 8) at_ (tx a) := by
  have h : ∀ m, m ≤ 8 → ∀ k, k < m → s_nmi rd tx a (a + 1) at_ m (at_ + k) = s_ltr tx a (a + 1) k := by
    intro m
    induction m with
    | zero => intro _ k hk; exact absurd hk (Nat.not_lt_zero k)
    | succ m ih =>
      intro hm k hk
      show upd (s_nmi rd tx a (a + 1) at_ m) (at_ + m) (s_ltr tx a (a + 1) m) (at_ + k) = _
      by_cases e : k = m
      · rw [e, updI_eq]
      · rw [updI_ne (by omega)]
        exact ih (by omega) k (by omega)
  refine ⟨?_, fun k h1 h2 => ?_⟩
  · have h3 := h 8 (Nat.le_refl _) 0 (by omega)
    refine h3.trans ?_
    unfold s_ltr
    rw [if_pos (by omega), Nat.add_zero]
  · rw [h 8 (Nat.le_refl _) k h2]
    unfold s_ltr
    rw [if_neg (by omega)]
theorem nm1.of {rd rd' : Nat → Int32} {at_ : Nat} {c : Int32} (h : nm1 rd at_ c) (he : ∀ k, k < 8 → rd' (at_ + k) = rd (at_ + k)) : nm1 rd' at_ c := by
  refine ⟨?_, fun k h1 h2 => (he k h2).trans (h.2 k h1 h2)⟩
  have h3 := he 0 (by omega)
  rw [Nat.add_zero] at h3
  exact h3.trans h.1
theorem l_rep_y {wd f q : Nat} {g : Nat → Nat → (Nat → Int32) → LR} {rd rd' : Nat → Int32} (h : l_isw tx n p (x_w wd) = true) (hg : g (l_sk tx n p) (l_tk tx n p (x_w wd)) rd = .inr (q, rd')) : l_rep tx n wd g (f + 1) p rd = l_rep tx n wd g f q rd' := by
  show (if l_isw tx n p (x_w wd) = true then l_bi (g (l_sk tx n p) (l_tk tx n p (x_w wd)) rd) fun x => l_rep tx n wd g f x.1 x.2 else .inr (l_sk tx n p, rd)) = _
  rw [if_pos h, l_bi_ok hg]
theorem l_rep_n {wd f : Nat} {g : Nat → Nat → (Nat → Int32) → LR} {rd : Nat → Int32} (h : l_isw tx n p (x_w wd) = false) : l_rep tx n wd g (f + 1) p rd = .inr (l_sk tx n p, rd) := by
  show (if l_isw tx n p (x_w wd) = true then l_bi (g (l_sk tx n p) (l_tk tx n p (x_w wd)) rd) fun x => l_rep tx n wd g f x.1 x.2 else .inr (l_sk tx n p, rd)) = _
  rw [if_neg (by rw [h]; decide)]
end WL
theorem c_linea {tx : Nat → Int32} {n p at_ : Nat} {rd : Nat → Int32} (h : wl tx n p [32, 97, 32, 110, 117, 109, 98, 101, 114, 59]) : l_colLine tx n 0 at_ p rd = .inr (p + 10, upd (upd (s_nmi rd tx (p + 1) (p + 2) 10 8) 18 0) 0 (nI 1)) := by
  have h1 := h.drop 2
  have e1 : l_sk tx n p = p + 1 := w_sk h (by decide)
  have e2 : l_we tx n p = p + 2 := w_we h (by decide)
  have hnm : l_nm tx n p := ⟨by omega, by omega, by rw [w_isw h (by decide)]; decide +kernel, by rw [w_isw h (by decide)]; decide +kernel, by rw [w_isw h (by decide)]; decide +kernel⟩
  have hsk : s_sk rd tx 10 13 0 (p + 1) (p + 2) = -1 := rfl
  have hf : l_fresh rd tx n p 10 13 0 = .inr (p + 2, s_nmi rd tx (p + 1) (p + 2) 10 8) := by
    unfold l_fresh
    rw [if_pos hnm, e1, e2, if_pos hsk]
  have ht : l_type tx n (p + 2) = .inr (p + 9, 0) := by
    have e3 : l_isw tx n (p + 2) (x_w 5) = true := by rw [w_isw h1 (by decide)]; decide +kernel
    unfold l_type
    rw [if_pos e3, l_tk_y e3, w_sk h1 (by decide)]
    rfl
  unfold l_colLine
  rw [if_neg (by decide), l_bi_ok hf, l_bi_ok ht]
  exact w_want (h.drop 9)
theorem c_lineb {tx : Nat → Int32} {n p at_ : Nat} {rd : Nat → Int32} (h : wl tx n p [32, 98, 32, 110, 117, 109, 98, 101, 114, 59]) (h0 : nm1 rd 10 97) : l_colLine tx n 1 at_ p rd = .inr (p + 10, upd (upd (s_nmi rd tx (p + 1) (p + 2) 23 8) 31 0) 0 (nI 2)) := by
  have h1 := h.drop 2
  have e1 : l_sk tx n p = p + 1 := w_sk h (by decide)
  have e2 : l_we tx n p = p + 2 := w_we h (by decide)
  have hnm : l_nm tx n p := ⟨by omega, by omega, by rw [w_isw h (by decide)]; decide +kernel, by rw [w_isw h (by decide)]; decide +kernel, by rw [w_isw h (by decide)]; decide +kernel⟩
  have hsk : s_sk rd tx 10 13 1 (p + 1) (p + 2) = -1 := (by
      show (if (-1 : Int32) = -1 then (bif s_eqn rd tx (10 + 13 * 0) (p + 1) (p + 2) 8 then nI 0 else -1) else (-1)) = -1
      rw [if_pos rfl, h0.eqn 7 (by omega), (h 1 (by decide)).2]
      rfl)
  have hf : l_fresh rd tx n p 10 13 1 = .inr (p + 2, s_nmi rd tx (p + 1) (p + 2) 23 8) := by
    unfold l_fresh
    rw [if_pos hnm, e1, e2, if_pos hsk]
  have ht : l_type tx n (p + 2) = .inr (p + 9, 0) := by
    have e3 : l_isw tx n (p + 2) (x_w 5) = true := by rw [w_isw h1 (by decide)]; decide +kernel
    unfold l_type
    rw [if_pos e3, l_tk_y e3, w_sk h1 (by decide)]
    rfl
  unfold l_colLine
  rw [if_neg (by decide), l_bi_ok hf, l_bi_ok ht]
  exact w_want (h.drop 9)
theorem k_a {tx : Nat → Int32} {a : Nat} {rd : Nat → Int32} (h0 : nm1 rd 10 97) (ht : tx a = 97) : s_sk rd tx 10 13 2 a (a + 1) = 0 := by
  show (if (if (-1 : Int32) = -1 then (bif s_eqn rd tx (10 + 13 * 0) a (a + 1) 8 then nI 0 else -1) else (-1)) = -1 then (bif s_eqn rd tx (10 + 13 * 1) a (a + 1) 8 then nI 1 else -1) else (if (-1 : Int32) = -1 then (bif s_eqn rd tx (10 + 13 * 0) a (a + 1) 8 then nI 0 else -1) else (-1))) = 0
  rw [if_pos rfl, h0.eqn 7 (by omega), ht]
  rfl
theorem k_b {tx : Nat → Int32} {a : Nat} {rd : Nat → Int32} (h0 : nm1 rd 10 97) (h1 : nm1 rd 23 98) (ht : tx a = 98) : s_sk rd tx 10 13 2 a (a + 1) = 1 := by
  show (if (if (-1 : Int32) = -1 then (bif s_eqn rd tx (10 + 13 * 0) a (a + 1) 8 then nI 0 else -1) else (-1)) = -1 then (bif s_eqn rd tx (10 + 13 * 1) a (a + 1) 8 then nI 1 else -1) else (if (-1 : Int32) = -1 then (bif s_eqn rd tx (10 + 13 * 0) a (a + 1) 8 then nI 0 else -1) else (-1))) = 1
  rw [if_pos rfl, h0.eqn 7 (by omega), h1.eqn 7 (by omega), ht]
  rfl
theorem i_line {tx : Nat → Int32} {n p : Nat} {rd : Nat → Int32} (h : wl tx n p [32, 97, 59]) (h0 : nm1 rd 10 97) (h1 : nm1 rd 23 98) (h2 : rd 19 = 0) : l_idxLine tx n 2 p rd = .inr (p + 3, upd rd 19 1) := by
  have hk : l_known rd tx n p 2 = .inr (p + 2, 0) := by
    have e1 : l_sk tx n p = p + 1 := w_sk h (by decide)
    have e2 : l_we tx n p = p + 2 := w_we h (by decide)
    have hnm : l_nm tx n p := ⟨by omega, by omega, by rw [w_isw h (by decide)]; decide +kernel, by rw [w_isw h (by decide)]; decide +kernel, by rw [w_isw h (by decide)]; decide +kernel⟩
    have hsk : s_sk rd tx 10 13 2 (p + 1) (p + 2) = 0 := k_a h0 (h 1 (by decide)).2
    unfold l_known
    rw [if_pos hnm, e1, e2, hsk, if_neg (by decide)]
  unfold l_idxLine
  rw [l_bi_ok hk]
  show (if rd 19 = 1 then _ else _) = _
  rw [if_neg (by rw [h2]; decide)]
  exact w_want (h.drop 2)
theorem r_line {tx : Nat → Int32} {n p at_ x y l : Nat} {rd : Nat → Int32} (hx : x < 12) (hy : y < 12) (hl : l < 40) (h : wl tx n p (32 :: (dg x ++ (32 :: (dg y ++ [59]))))) (t0 : rd 18 = 0) (t1 : rd 31 = 0) : l_rowLine tx n 2 l at_ p rd = .inr (p + (dg x).length + (dg y).length + 3, upd (upd (upd rd (75 + 5 * l + 0) (nI x)) (75 + 5 * l + 1) (nI y)) 1 (nI (l + 1))) := by
  have w1 : wl tx n p (32 :: (dg x ++ [32])) := by
    have : 32 :: (dg x ++ (32 :: (dg y ++ [59]))) = (32 :: (dg x ++ [32])) ++ (dg y ++ [59]) := by simp
    rw [this] at h
    exact h.pre
  have w2 : wl tx n (p + (1 + (dg x).length)) (32 :: (dg y ++ [59])) := by
    have : 32 :: (dg x ++ (32 :: (dg y ++ [59]))) = (32 :: dg x) ++ (32 :: (dg y ++ [59])) := by simp
    rw [this] at h
    have h2 := h.suf
    rw [show (32 :: dg x).length = 1 + (dg x).length by show (dg x).length + 1 = _; omega] at h2
    exact h2
  have w3 : wl tx n (p + (1 + (dg x).length) + (1 + (dg y).length)) [59] := by
    have : (32 : Int32) :: (dg y ++ [59]) = (32 :: dg y) ++ [59] := by simp
    rw [this] at w2
    have h2 := w2.suf
    rw [show (32 :: dg y).length = 1 + (dg y).length by show (dg y).length + 1 = _; omega] at h2
    exact h2
  have hm : ∀ k, k < 12 → nI k ≤ s_most 0 := by decide +kernel
  have v1 : l_reads tx n p (s_most (rd (10 + 13 * 0 + 8))) = .inr (p + (1 + (dg x).length), nI x) := w_num1 hx (Or.inl rfl) w1 (by rw [show rd (10 + 13 * 0 + 8) = 0 from t0]; exact hm x hx)
  have v2 : l_reads tx n (p + (1 + (dg x).length)) (s_most (upd rd (75 + 5 * l + 0) (nI x) (10 + 13 * (0 + 1) + 8))) = .inr (p + (1 + (dg x).length) + (1 + (dg y).length), nI y) := w_num1 hy (Or.inr rfl) w2 (by rw [updI_ne (by omega), show rd (10 + 13 * (0 + 1) + 8) = 0 from t1]; exact hm y hy)
  have v3 : l_vals tx n l 2 0 p rd = .inr (p + (1 + (dg x).length) + (1 + (dg y).length), upd (upd rd (75 + 5 * l + 0) (nI x)) (75 + 5 * l + 1) (nI y)) := by
    show l_bi (l_reads tx n p (s_most (rd (10 + 13 * 0 + 8)))) (fun x => l_vals tx n l 1 (0 + 1) x.1 (upd rd (75 + 5 * l + 0) x.2)) = _
    rw [l_bi_ok v1]
    show l_bi (l_reads tx n (p + (1 + (dg x).length)) (s_most (upd rd (75 + 5 * l + 0) (nI x) (10 + 13 * (0 + 1) + 8)))) (fun z => l_vals tx n l 0 (0 + 1 + 1) z.1 (upd (upd rd (75 + 5 * l + 0) (nI x)) (75 + 5 * l + (0 + 1)) z.2)) = _
    rw [l_bi_ok v2]
    rfl
  unfold l_rowLine
  rw [if_neg (by decide), if_neg (by omega), l_bi_ok v3]
  show l_want tx n 59 (p + (1 + (dg x).length) + (1 + (dg y).length)) _ = _
  rw [w_want w3]
  exact congrArg (fun z => Sum.inr (z, _)) (by omega)
theorem k_line {tx : Nat → Int32} {n p x y z : Nat} {rd : Nat → Int32} (hx : x < 12) (hy : y < 12) (hz : z < 12) (h : wl tx n p (32 :: (dg x ++ (32 :: (dg y ++ (32 :: (dg z ++ [59]))))))) : l_costLine tx n p rd = .inr (p + (dg x).length + (dg y).length + (dg z).length + 4, upd (upd (upd rd 4 (nI x)) 5 (nI y)) 6 (nI z)) := by
  have w1 : wl tx n p (32 :: (dg x ++ [32])) := by
    have : 32 :: (dg x ++ (32 :: (dg y ++ (32 :: (dg z ++ [59]))))) = (32 :: (dg x ++ [32])) ++ (dg y ++ (32 :: (dg z ++ [59]))) := by simp
    rw [this] at h
    exact h.pre
  have w2 : wl tx n (p + (1 + (dg x).length)) (32 :: (dg y ++ (32 :: (dg z ++ [59])))) := by
    have : 32 :: (dg x ++ (32 :: (dg y ++ (32 :: (dg z ++ [59]))))) = (32 :: dg x) ++ (32 :: (dg y ++ (32 :: (dg z ++ [59])))) := by simp
    rw [this] at h
    have h2 := h.suf
    rw [show (32 :: dg x).length = 1 + (dg x).length by show (dg x).length + 1 = _; omega] at h2
    exact h2
  have w2' : wl tx n (p + (1 + (dg x).length)) (32 :: (dg y ++ [32])) := by
    have : 32 :: (dg y ++ (32 :: (dg z ++ [59]))) = (32 :: (dg y ++ [32])) ++ (dg z ++ [59]) := by simp
    rw [this] at w2
    exact w2.pre
  have w3 : wl tx n (p + (1 + (dg x).length) + (1 + (dg y).length)) (32 :: (dg z ++ [59])) := by
    have : (32 : Int32) :: (dg y ++ (32 :: (dg z ++ [59]))) = (32 :: dg y) ++ (32 :: (dg z ++ [59])) := by simp
    rw [this] at w2
    have h2 := w2.suf
    rw [show (32 :: dg y).length = 1 + (dg y).length by show (dg y).length + 1 = _; omega] at h2
    exact h2
  have w4 : wl tx n (p + (1 + (dg x).length) + (1 + (dg y).length) + (1 + (dg z).length)) [59] := by
    have : (32 : Int32) :: (dg z ++ [59]) = (32 :: dg z) ++ [59] := by simp
    rw [this] at w3
    have h2 := w3.suf
    rw [show (32 :: dg z).length = 1 + (dg z).length by show (dg z).length + 1 = _; omega] at h2
    exact h2
  have hm : ∀ k, k < 12 → nI k ≤ 99 := by decide +kernel
  unfold l_costLine
  rw [l_bi_ok (w_num1 hx (Or.inl rfl) w1 (hm x hx))]
  show l_bi (l_reads tx n (p + (1 + (dg x).length)) 99) _ = _
  rw [l_bi_ok (w_num1 hy (Or.inl rfl) w2' (hm y hy))]
  show l_bi (l_reads tx n (p + (1 + (dg x).length) + (1 + (dg y).length)) 99) _ = _
  rw [l_bi_ok (w_num1 hz (Or.inr rfl) w3 (hm z hz))]
  show l_want tx n 59 (p + (1 + (dg x).length) + (1 + (dg y).length) + (1 + (dg z).length)) _ = _
  rw [w_want w4]
  exact congrArg (fun z => Sum.inr (z, _)) (by omega)
theorem t_line {tx : Nat → Int32} {n p x : Nat} {rd : Nat → Int32} (hx : x < 12) (h : wl tx n p (32 :: (dg x ++ [59]))) : l_triesLine tx n p rd = .inr (p + (dg x).length + 2, upd rd 7 (nI x)) := by
  have w4 : wl tx n (p + (1 + (dg x).length)) [59] := by
    have : (32 : Int32) :: (dg x ++ [59]) = (32 :: dg x) ++ [59] := by simp
    rw [this] at h
    have h2 := h.suf
    rw [show (32 :: dg x).length = 1 + (dg x).length by show (dg x).length + 1 = _; omega] at h2
    exact h2
  have hm : ∀ k, k < 12 → nI k ≤ 99 := by decide +kernel
  unfold l_triesLine
  rw [l_bi_ok (w_num1 hx (Or.inr rfl) h (hm x hx))]
  show l_want tx n 59 (p + (1 + (dg x).length)) _ = _
  rw [w_want w4]
  exact congrArg (fun z => Sum.inr (z, _)) (by omega)
