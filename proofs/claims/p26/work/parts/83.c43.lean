/-! ===== what a token tells, and what the reference sees there ===== -/
section TOK2
variable {tx bf : Nat → Int32} {n p : Nat}
/-- the four kinds of token -/
def z_c0 (tx bf : Nat → Int32) (n p : Nat) : Prop := l_sk tx n p = n ∧ z_tk bf tx n (l_sk tx n p) = 256 ∧ l_see tx n p = -1
def z_c1 (tx bf : Nat → Int32) (n p : Nat) : Prop := l_sk tx n p < n ∧ s_let (tx (l_sk tx n p)) ∧ z_tk bf tx n (l_sk tx n p) = z_ky (s_nin bf (l_sk tx n p) (l_we tx n p)) ∧ z_tv bf tx n (l_sk tx n p) = s_nin bf (l_sk tx n p) (l_we tx n p) ∧ z_te tx n (l_sk tx n p) = l_we tx n p ∧ l_see tx n p = tx (l_sk tx n p)
def z_c2 (tx bf : Nat → Int32) (n p : Nat) : Prop := l_sk tx n p < n ∧ s_dig (tx (l_sk tx n p)) ∧ z_tk bf tx n (l_sk tx n p) = 262 ∧ z_tv bf tx n (l_sk tx n p) = (z_cn bf (l_sk tx n p) (l_de tx n p - l_sk tx n p)).toInt64 ∧ z_te tx n (l_sk tx n p) = l_de tx n p ∧ l_see tx n p = tx (l_sk tx n p)
def z_c3 (tx bf : Nat → Int32) (n p : Nat) : Prop := l_sk tx n p < n ∧ ¬ s_let (tx (l_sk tx n p)) ∧ ¬ s_dig (tx (l_sk tx n p)) ∧ z_tk bf tx n (l_sk tx n p) = tx (l_sk tx n p) ∧ z_te tx n (l_sk tx n p) = l_sk tx n p + 1 ∧ l_see tx n p = tx (l_sk tx n p) ∧ ∃ m, m < 256 ∧ tx (l_sk tx n p) = nI m
theorem s_let_dig : ∀ x : Int32, s_let x → ¬ s_dig x := fun x h q => by
  have h1 := Int32.le_trans h.1 q.2
  exact absurd h1 (by decide)
theorem z_cases (hr : s_rtx tx bf n) (hp : p ≤ n) : z_c0 tx bf n p ∨ z_c1 tx bf n p ∨ z_c2 tx bf n p ∨ z_c3 tx bf n p := by
  have hsk := l_sk_le (tx := tx) hp
  by_cases hq : l_sk tx n p < n
  · have hs : l_see tx n p = tx (l_sk tx n p) := if_pos hq
    by_cases hl : s_let (tx (l_sk tx n p))
    · refine Or.inr (Or.inl ⟨hq, hl, ?_, ?_, ?_, hs⟩)
      · unfold z_tk; rw [if_pos hq, if_pos hl]; rfl
      · unfold z_tv; rw [if_pos hq, if_pos hl]; rfl
      · unfold z_te; rw [if_pos hq, if_pos hl]; rfl
    · by_cases hd : s_dig (tx (l_sk tx n p))
      · refine Or.inr (Or.inr (Or.inl ⟨hq, hd, ?_, ?_, ?_, hs⟩))
        · unfold z_tk; rw [if_pos hq, if_neg hl, if_pos hd]
        · unfold z_tv; rw [if_pos hq, if_neg hl, if_pos hd]; rfl
        · unfold z_te; rw [if_pos hq, if_neg hl, if_pos hd]; rfl
      · refine Or.inr (Or.inr (Or.inr ⟨hq, hl, hd, ?_, ?_, hs, ?_⟩))
        · unfold z_tk; rw [if_pos hq, if_neg hl, if_neg hd]
        · unfold z_te; rw [if_pos hq, if_neg hl, if_neg hd]
        · obtain ⟨m, h1, h2, -⟩ := hr _ hq
          exact ⟨m, h1, h2⟩
  · refine Or.inl ⟨by omega, ?_, if_neg hq⟩
    unfold z_tk; rw [if_neg hq]
theorem y_kn {m : Nat} (hm : m < 256) : ¬ nI m = 256 ∧ ¬ nI m = 257 ∧ ¬ nI m = 258 ∧ ¬ nI m = 259 ∧ ¬ nI m = 260 ∧ ¬ nI m = 261 ∧ ¬ nI m = 262 := by
  have h : ∀ c, 256 ≤ c → c < 300 → ¬ nI m = nI c := fun c h1 h2 e => by
    have := (n_eq rfl rfl (by omega) (by omega)).mp e
    omega
  exact ⟨h 256 (by decide) (by decide), h 257 (by decide) (by decide), h 258 (by decide) (by decide), h 259 (by decide) (by decide), h 260 (by decide) (by decide), h 261 (by decide) (by decide), h 262 (by decide) (by decide)⟩
/-- is the word here -/
theorem z_isn (hr : s_rtx tx bf n) (hp : p ≤ n) (i : Nat) (h0 : ¬ y_nw i = 0) : l_isw tx n p (x_w i) = true ↔ l_sk tx n p < n ∧ s_let (tx (l_sk tx n p)) ∧ s_nin bf (l_sk tx n p) (l_we tx n p) = y_nw i := by
  rw [z_isw hp i, z_nin hr hp]
  have hle := l_we_le (tx := tx) hp
  constructor
  · rintro ⟨g1, g2, g3⟩
    refine ⟨by omega, ?_, by rw [if_pos g1]; exact g3⟩
    have := z_wl hp (tx := tx) 0 (by omega)
    exact this
  · rintro ⟨g1, g2, g3⟩
    have h1 := z_we_gt g1 g2
    by_cases h8 : l_we tx n p - l_sk tx n p ≤ 8
    · rw [if_pos h8] at g3
      exact ⟨h8, by omega, g3⟩
    · rw [if_neg h8] at g3
      exact absurd g3.symm h0
theorem z_kw (hr : s_rtx tx bf n) (hp : p ≤ n) {c : Int32} {i : Nat} (h0 : ¬ y_nw i = 0) (hc : ∀ z, z_ky z = c ↔ z = y_nw i) (h1 : ¬ (256 : Int32) = c) (h2 : ¬ (262 : Int32) = c) (h3 : ∀ m, m < 256 → ¬ nI m = c) : z_tk bf tx n (l_sk tx n p) = c ↔ l_isw tx n p (x_w i) = true := by
  rw [z_isn hr hp i h0]
  rcases z_cases hr hp with h | h | h | h
  · rw [h.2.1]
    exact ⟨fun e => absurd e h1, fun e => by have := h.1; omega⟩
  · rw [h.2.2.1, hc]
    exact ⟨fun e => ⟨h.1, h.2.1, e⟩, fun e => e.2.2⟩
  · rw [h.2.2.1]
    exact ⟨fun e => absurd e h2, fun e => absurd h.2.1 (s_let_dig _ e.2.1)⟩
  · obtain ⟨-, g1, -, g2, -, -, m, g3, g4⟩ := h
    rw [g2, g4]
    exact ⟨fun e => absurd e (h3 m g3), fun e => by rw [g4] at g1; exact absurd e.2.1 g1⟩
theorem z_and (hr : s_rtx tx bf n) (hp : p ≤ n) : z_tk bf tx n (l_sk tx n p) = 258 ↔ l_isw tx n p (x_w 3) = true := z_kw hr hp (by decide +kernel) (fun z => z_kyc.2.1) (by decide) (by decide) (fun m hm => (y_kn hm).2.2.1)
theorem z_or (hr : s_rtx tx bf n) (hp : p ≤ n) : z_tk bf tx n (l_sk tx n p) = 259 ↔ l_isw tx n p (x_w 2) = true := z_kw hr hp (by decide +kernel) (fun z => z_kyc.2.2.1) (by decide) (by decide) (fun m hm => (y_kn hm).2.2.2.1)
theorem z_not (hr : s_rtx tx bf n) (hp : p ≤ n) : z_tk bf tx n (l_sk tx n p) = 260 ↔ l_isw tx n p (x_w 4) = true := z_kw hr hp (by decide +kernel) (fun z => z_kyc.2.2.2.1) (by decide) (by decide) (fun m hm => (y_kn hm).2.2.2.2.1)
theorem y_nw_0 : ∀ i, i < 26 → ¬ y_nw i = 0 := by decide +kernel
theorem y_nw_n0 : ∀ i, i < 26 → (i % 13 = 2 ∨ i % 13 = 3 ∨ i % 13 = 4) ∨ (¬ y_nw i = y_nw 3 ∧ ¬ y_nw i = y_nw 2 ∧ ¬ y_nw i = y_nw 4) := by decide +kernel
theorem y_nw_n (i : Nat) (hi : i < 26) (h2 : i % 13 ≠ 2) (h3 : i % 13 ≠ 3) (h4 : i % 13 ≠ 4) : ¬ y_nw i = y_nw 3 ∧ ¬ y_nw i = y_nw 2 ∧ ¬ y_nw i = y_nw 4 := by
  rcases y_nw_n0 i hi with h | h
  · omega
  · exact h
/-- isWord tells whether the word is here -/
theorem z_word (hr : s_rtx tx bf n) (hp : p ≤ n) (i : Nat) (hi : i < 26) (h2 : i % 13 ≠ 2) (h3 : i % 13 ≠ 3) (h4 : i % 13 ≠ 4) : (z_tk bf tx n (l_sk tx n p) = 257 ∧ z_tv bf tx n (l_sk tx n p) = y_nw i) ↔ l_isw tx n p (x_w i) = true := by
  rw [z_isn hr hp i (y_nw_0 i hi)]
  rcases z_cases hr hp with h | h | h | h
  · rw [h.2.1]
    exact ⟨fun e => absurd e.1 (by decide), fun e => by have := h.1; omega⟩
  · rw [h.2.2.1, h.2.2.2.1]
    exact ⟨fun e => ⟨h.1, h.2.1, e.2⟩, fun e => ⟨z_kyc.2.2.2.2.mpr (by rw [e.2.2]; exact ⟨y_nw_0 i hi, (y_nw_n i hi h2 h3 h4)⟩), e.2.2⟩⟩
  · rw [h.2.2.1]
    exact ⟨fun e => absurd e.1 (by decide), fun e => absurd h.2.1 (s_let_dig _ e.2.1)⟩
  · obtain ⟨-, g1, -, g2, -, -, m, g3, g4⟩ := h
    rw [g2, g4]
    exact ⟨fun e => absurd e.1 (y_kn g3).2.1, fun e => by rw [g4] at g1; exact absurd e.2.1 g1⟩
theorem z_wte (hp : p ≤ n) (i : Nat) (h : l_isw tx n p (x_w i) = true) : z_te tx n (l_sk tx n p) = l_tk tx n p (x_w i) := by
  have h1 := l_isw_we h
  have h2 := (z_isw hp i).mp h
  have hle := l_we_le (tx := tx) hp
  have hl := z_wl hp (tx := tx) 0 (by omega)
  unfold z_te l_tk
  rw [if_pos (show l_sk tx n p < n by omega), if_pos (show s_let (tx (l_sk tx n p)) from hl), h]
  exact h1
/-- a name is here -/
theorem z_name (hr : s_rtx tx bf n) (hp : p ≤ n) : z_tk bf tx n (l_sk tx n p) = 257 ↔ l_nm tx n p := by
  have hle := l_we_le (tx := tx) hp
  have hne : ∀ i, i < 26 → (l_isw tx n p (x_w i) = false ↔ ¬ (l_sk tx n p < n ∧ s_let (tx (l_sk tx n p)) ∧ s_nin bf (l_sk tx n p) (l_we tx n p) = y_nw i)) := fun i hi => by
    rw [← z_isn hr hp i (y_nw_0 i hi)]
    cases l_isw tx n p (x_w i) with
    | true => exact ⟨fun h => (by cases h), fun h => absurd rfl h⟩
    | false => exact ⟨fun _ h => (by cases h), fun _ => rfl⟩
  rcases z_cases hr hp with h | h | h | h
  · rw [h.2.1]
    exact ⟨fun e => absurd e (by decide), fun e => by have := h.1; have := e.1; omega⟩
  · have hg := z_we_gt h.1 h.2.1
    rw [h.2.2.1, z_kyc.2.2.2.2]
    constructor
    · rintro ⟨g0, g3, g2, g4⟩
      refine ⟨hg, ?_, (hne 2 (by decide)).mpr (fun q => g2 q.2.2), (hne 3 (by decide)).mpr (fun q => g3 q.2.2), (hne 4 (by decide)).mpr (fun q => g4 q.2.2)⟩
      rw [z_nin hr hp] at g0
      by_cases h8 : l_we tx n p - l_sk tx n p ≤ 8
      · omega
      · rw [if_neg h8] at g0; exact absurd rfl g0
    · rintro ⟨g1, g8, g2, g3, g4⟩
      refine ⟨?_, fun e => (hne 3 (by decide)).mp g3 ⟨h.1, h.2.1, e⟩, fun e => (hne 2 (by decide)).mp g2 ⟨h.1, h.2.1, e⟩, fun e => (hne 4 (by decide)).mp g4 ⟨h.1, h.2.1, e⟩⟩
      rw [z_nin hr hp, if_pos (show l_we tx n p - l_sk tx n p ≤ 8 by omega)]
      exact y_nmv_0 (by omega) (by omega) (z_wl hp)
  · rw [h.2.2.1]
    refine ⟨fun e => absurd e (by decide), fun e => ?_⟩
    have := z_wl hp (tx := tx) 0 (by have := e.1; omega)
    exact absurd h.2.1 (s_let_dig _ this)
  · obtain ⟨-, g1, -, g2, -, -, m, g3, g4⟩ := h
    rw [g2, g4]
    refine ⟨fun e => absurd e (y_kn g3).2.1, fun e => ?_⟩
    have := z_wl hp (tx := tx) 0 (by have := e.1; omega)
    exact absurd this g1
theorem z_name_v (hr : s_rtx tx bf n) (hp : p ≤ n) (h : l_nm tx n p) : z_tv bf tx n (l_sk tx n p) = s_nmv tx (l_sk tx n p) (l_we tx n p - l_sk tx n p) ∧ z_te tx n (l_sk tx n p) = l_we tx n p ∧ ¬ z_tv bf tx n (l_sk tx n p) = 0 := by
  have hle := l_we_le (tx := tx) hp
  have hl := z_wl hp (tx := tx) 0 (by have := h.1; omega)
  rcases z_cases hr hp with g | g | g | g
  · have := g.1; have := h.1; omega
  · rw [g.2.2.2.1, z_nin hr hp, if_pos (show l_we tx n p - l_sk tx n p ≤ 8 by have := h.2.1; omega)]
    exact ⟨rfl, g.2.2.2.2.1, y_nmv_0 (by have := h.2.1; omega) (by have := h.1; omega) (z_wl hp)⟩
  · exact absurd g.2.1 (s_let_dig _ hl)
  · exact absurd hl g.2.1
/-- a sign is here -/
theorem z_sign (hr : s_rtx tx bf n) (hp : p ≤ n) {s : Nat} (hs : s < 256) (h1 : ¬ s_let (nI s)) (h2 : ¬ s_dig (nI s)) : z_tk bf tx n (l_sk tx n p) = nI s ↔ l_see tx n p = nI s := by
  have hk := y_kn hs
  rcases z_cases hr hp with h | h | h | h
  · rw [h.2.1, h.2.2]
    exact ⟨fun e => absurd e.symm hk.1, fun e => absurd e.symm (nI_ne_neg (by omega))⟩
  · rw [h.2.2.1, h.2.2.2.2.2]
    refine ⟨fun e => ?_, fun e => absurd (by rw [← e]; exact h.2.1) h1⟩
    rcases z_ky_r (z := s_nin bf (l_sk tx n p) (l_we tx n p)) with g | g | g | g | g <;> rw [g] at e
    · exact absurd e.symm hk.2.2.2.2.2.1
    · exact absurd e.symm hk.2.2.1
    · exact absurd e.symm hk.2.2.2.1
    · exact absurd e.symm hk.2.2.2.2.1
    · exact absurd e.symm hk.2.1
  · rw [h.2.2.1, h.2.2.2.2.2]
    exact ⟨fun e => absurd e.symm hk.2.2.2.2.2.2, fun e => absurd (by rw [← e]; exact h.2.1) h2⟩
  · rw [h.2.2.2.1, h.2.2.2.2.2.1]
theorem z_sign_e (hr : s_rtx tx bf n) (hp : p ≤ n) {s : Nat} (hs : s < 256) (h1 : ¬ s_let (nI s)) (h2 : ¬ s_dig (nI s)) (h : l_see tx n p = nI s) : z_te tx n (l_sk tx n p) = l_sk tx n p + 1 ∧ l_sk tx n p < n := by
  rcases z_cases hr hp with g | g | g | g
  · rw [g.2.2] at h; exact absurd h.symm (nI_ne_neg (by omega))
  · rw [g.2.2.2.2.2] at h; exact absurd (by rw [← h]; exact g.2.1) h1
  · rw [g.2.2.2.2.2] at h; exact absurd (by rw [← h]; exact g.2.1) h2
  · exact ⟨g.2.2.2.2.1, g.1⟩
/-- a number is here -/
theorem z_numk (hr : s_rtx tx bf n) (hp : p ≤ n) : z_tk bf tx n (l_sk tx n p) = 262 ↔ s_dig (l_see tx n p) := by
  rcases z_cases hr hp with h | h | h | h
  · rw [h.2.1, h.2.2]
    exact ⟨fun e => absurd e (by decide), fun e => absurd e.1 (by decide)⟩
  · rw [h.2.2.1, h.2.2.2.2.2]
    refine ⟨fun e => ?_, fun e => absurd e (s_let_dig _ h.2.1)⟩
    rcases z_ky_r (z := s_nin bf (l_sk tx n p) (l_we tx n p)) with g | g | g | g | g <;> rw [g] at e <;> exact absurd e (by decide)
  · rw [h.2.2.1, h.2.2.2.2.2]
    exact ⟨fun _ => h.2.1, fun _ => rfl⟩
  · obtain ⟨-, -, g1, g2, -, g5, m, g3, g4⟩ := h
    rw [g2, g5]
    exact ⟨fun e => by rw [g4] at e; exact absurd e (y_kn g3).2.2.2.2.2.2, fun e => absurd e g1⟩
theorem z_end (hr : s_rtx tx bf n) (hp : p ≤ n) : z_tk bf tx n (l_sk tx n p) = 256 ↔ l_see tx n p = -1 := by
  rcases z_cases hr hp with h | h | h | h
  · rw [h.2.1, h.2.2]
    exact ⟨fun _ => rfl, fun _ => rfl⟩
  · rw [h.2.2.1, h.2.2.2.2.2]
    refine ⟨fun e => ?_, fun e => by have := h.2.1.1; rw [e] at this; exact absurd this (by decide)⟩
    rcases z_ky_r (z := s_nin bf (l_sk tx n p) (l_we tx n p)) with g | g | g | g | g <;> rw [g] at e <;> exact absurd e (by decide)
  · rw [h.2.2.1, h.2.2.2.2.2]
    exact ⟨fun e => absurd e (by decide), fun e => by have := h.2.1.1; rw [e] at this; exact absurd this (by decide)⟩
  · obtain ⟨-, -, g1, g2, -, g5, m, g3, g4⟩ := h
    rw [g2, g5, g4]
    exact ⟨fun e => absurd e (y_kn g3).1, fun e => absurd e (nI_ne_neg (by omega))⟩
end TOK2
def y_V (tx : Nat → Int32) (q : Nat) : Nat → Nat
  | 0 => 0
  | k + 1 => 10 * y_V tx q k + (n_ (tx (q + k)) - 48)
theorem y_dgn {x : Int32} (h : s_dig x) : ∃ t, t ≤ 9 ∧ x = nI (48 + t) := by
  obtain ⟨j, h1, h2⟩ := m_rngc (x := x) (m := 57) rfl (by decide) ⟨Int32.le_trans (by decide) h.1, h.2⟩
  have h3 := (n_le (show (48 : Int32) = nI 48 from rfl) h2 (by decide) (by omega)).mp h.1
  exact ⟨j - 48, by omega, by rw [h2]; congr 1; omega⟩
theorem y_minI {a b : Nat} (ha : a < 2147483648) (hb : b < 2147483648) : x_min (nI a) (nI b) = nI (min a b) := by
  unfold x_min
  by_cases h : b < a
  · rw [if_pos ((n_lt rfl rfl hb ha).mpr h), Nat.min_eq_right (by omega)]
  · rw [if_neg (fun q => h ((n_lt rfl rfl hb ha).mp q)), Nat.min_eq_left (by omega)]
theorem y_dstep {c d : Nat} (hc : c ≤ 1000000) (hd : d ≤ 9) : (10 : Int32) * nI c + nI (48 + d) - 48 = nI (10 * c + d) := by
  have e1 : (10 : Int32) * nI c = nI (10 * c) := pk_mul 10 c
  have e2 : nI (10 * c) + nI (48 + d) = nI (10 * c + d) + 48 := by
    rw [nI_add, show (48 : Int32) = nI 48 from rfl, nI_add]
    congr 1
    omega
  rw [e1, e2, Int32.add_sub_cancel]
theorem z_cn_V {tx bf : Nat → Int32} {q : Nat} : ∀ k, (∀ j, j < k → s_dig (tx (q + j)) ∧ bf (q + j) = tx (q + j)) → z_cn bf q k = nI (min (y_V tx q k) 10000) ∧ l_v tx q k = nI (min (y_V tx q k) 1000000)
  | 0, _ => ⟨rfl, rfl⟩
  | k + 1, h => by
    obtain ⟨h1, h2⟩ := z_cn_V (q := q) k (fun j hj => h j (by omega))
    obtain ⟨g1, g2⟩ := h k (by omega)
    obtain ⟨t, ht, hx⟩ := y_dgn g1
    have e : y_V tx q (k + 1) = 10 * y_V tx q k + t := by show 10 * y_V tx q k + (n_ (tx (q + k)) - 48) = _; rw [hx, n_nI (by omega)]; omega
    constructor
    · show x_min (10 * z_cn bf q k + bf (q + k) - 48) 10000 = _
      rw [h1, g2, hx, y_dstep (by omega) ht, show (10000 : Int32) = nI 10000 from rfl, y_minI (by omega) (by omega), e]
      congr 1
      omega
    · show x_min 1000000 (10 * l_v tx q k + tx (q + k) - 48) = _
      rw [h2, hx, y_dstep (by omega) ht, show (1000000 : Int32) = nI 1000000 from rfl, y_minI (by omega) (by omega), e]
      congr 1
      omega
/-- a number that is read -/
theorem z_num {tx bf : Nat → Int32} {n p : Nat} (hr : s_rtx tx bf n) (hp : p ≤ n) (hd : s_dig (l_see tx n p)) : ∃ V, z_tv bf tx n (l_sk tx n p) = (nI (min V 10000)).toInt64 ∧ l_num tx n p = nI (min V 1000000) ∧ z_te tx n (l_sk tx n p) = l_de tx n p := by
  rcases z_cases hr hp with h | h | h | h
  · rw [h.2.2] at hd; exact absurd hd.1 (by decide)
  · rw [h.2.2.2.2.2] at hd; exact absurd hd (s_let_dig _ h.2.1)
  · have hle := l_de_le (tx := tx) hp
    have hv := z_cn_V (tx := tx) (bf := bf) (q := l_sk tx n p) (l_de tx n p - l_sk tx n p) (fun j hj => by
      have g : s_dig (tx (l_sk tx n p + j)) := of_decide_eq_true (l_run_in (P := l_dg) (tx := tx) (n := n) (p := l_sk tx n p) (by omega) (show l_sk tx n p + j < l_de tx n p by omega))
      exact ⟨g, y_bd hr (by omega) g⟩)
    exact ⟨_, by rw [h.2.2.2.1, hv.1], hv.2, h.2.2.2.2.1⟩
  · rw [h.2.2.2.2.2.1] at hd; exact absurd hd h.2.2.1

