/-! ===== what a token tells ===== -/
theorem y_i64 : ∀ q, q < 256 → (nI q).toInt64 = Int64.ofNat q := by decide +kernel
def y_nn (f : Nat → Int32) (a : Nat) : Nat → Nat
  | 0 => 0
  | k + 1 => 32 * y_nn f a k + (n_ (f (a + k)) - 96)
theorem y_letn {x : Int32} (h : s_let x) : ∃ t, (1 ≤ t ∧ t ≤ 26) ∧ x = nI (96 + t) := by
  obtain ⟨j, h1, h2⟩ := m_rngc (x := x) (m := 122) rfl (by decide) ⟨Int32.le_trans (by decide) h.1, h.2⟩
  have h3 := (n_le (show (97 : Int32) = nI 97 from rfl) h2 (by decide) (by omega)).mp h.1
  exact ⟨j - 96, by omega, by rw [h2]; congr 1; omega⟩
theorem y_nmv_n {f : Nat → Int32} {a : Nat} : ∀ n, (∀ k, k < n → s_let (f (a + k))) → s_nmv f a n = Int64.ofNat (y_nn f a n)
  | 0, _ => rfl
  | n + 1, h => by
    obtain ⟨t, ht, hx⟩ := y_letn (h n (by omega))
    have ih := y_nmv_n (f := f) (a := a) n (fun k hk => h k (by omega))
    show 32 * s_nmv f a n + (f (a + n)).toInt64 - 97 + 1 = Int64.ofNat (32 * y_nn f a n + (n_ (f (a + n)) - 96))
    rw [ih, hx, n_nI (by omega), y_i64 (96 + t) (by omega)]
    have e1 : (32 : Int64) * Int64.ofNat (y_nn f a n) = Int64.ofNat (32 * y_nn f a n) := (Int64.ofNat_mul 32 _).symm
    have e2 : Int64.ofNat (32 * y_nn f a n) + Int64.ofNat (96 + t) = Int64.ofNat (32 * y_nn f a n + t - 1) + 97 := by
      rw [← Int64.ofNat_add, show (97 : Int64) = Int64.ofNat 97 from rfl, ← Int64.ofNat_add]
      congr 1
      omega
    rw [e1, e2, Int64.add_sub_cancel, show (1 : Int64) = Int64.ofNat 1 from rfl, ← Int64.ofNat_add]
    congr 1
    omega
theorem y_nn_lt {f : Nat → Int32} {a : Nat} : ∀ n, (∀ k, k < n → s_let (f (a + k))) → y_nn f a n < 32 ^ n
  | 0, _ => Nat.one_pos
  | n + 1, h => by
    obtain ⟨t, ht, hx⟩ := y_letn (h n (by omega))
    have ih := y_nn_lt (f := f) (a := a) n (fun k hk => h k (by omega))
    show 32 * y_nn f a n + (n_ (f (a + n)) - 96) < 32 ^ (n + 1)
    rw [hx, n_nI (by omega), Nat.pow_succ]
    omega
theorem y_nn_8 {f : Nat → Int32} {a n : Nat} (h : ∀ k, k < n → s_let (f (a + k))) (hn : n ≤ 8) : y_nn f a n < 2 ^ 40 :=
  Nat.lt_of_lt_of_le (y_nn_lt n h) (Nat.le_trans (Nat.pow_le_pow_right (by decide) hn) (by decide))
theorem y_nn_inj {f g : Nat → Int32} {a b : Nat} : ∀ n m, (∀ k, k < n → s_let (f (a + k))) → (∀ k, k < m → s_let (g (b + k))) → y_nn f a n = y_nn g b m → n = m ∧ ∀ k, k < n → f (a + k) = g (b + k)
  | 0, 0, _, _, _ => ⟨rfl, fun k hk => absurd hk (Nat.not_lt_zero _)⟩
  | 0, m + 1, _, hg, h => by
    obtain ⟨t, ht, hx⟩ := y_letn (hg m (by omega))
    change 0 = 32 * y_nn g b m + (n_ (g (b + m)) - 96) at h
    rw [hx, n_nI (by omega)] at h
    omega
  | n + 1, 0, hf, _, h => by
    obtain ⟨t, ht, hx⟩ := y_letn (hf n (by omega))
    change 32 * y_nn f a n + (n_ (f (a + n)) - 96) = 0 at h
    rw [hx, n_nI (by omega)] at h
    omega
  | n + 1, m + 1, hf, hg, h => by
    obtain ⟨t, ht, hx⟩ := y_letn (hf n (by omega))
    obtain ⟨u, hu, hy⟩ := y_letn (hg m (by omega))
    change 32 * y_nn f a n + (n_ (f (a + n)) - 96) = 32 * y_nn g b m + (n_ (g (b + m)) - 96) at h
    rw [hx, hy, n_nI (by omega), n_nI (by omega)] at h
    obtain ⟨h1, h2⟩ := y_nn_inj n m (fun k hk => hf k (by omega)) (fun k hk => hg k (by omega)) (by omega)
    refine ⟨by omega, fun k hk => ?_⟩
    by_cases e : k = n
    · subst e
      rw [hx]
      subst h1
      rw [hy]
      congr 1
      omega
    · exact h2 k (by omega)
theorem y_nn_cong {f g : Nat → Int32} {a b : Nat} : ∀ n, (∀ k, k < n → f (a + k) = g (b + k)) → y_nn f a n = y_nn g b n
  | 0, _ => rfl
  | n + 1, h => by
    show 32 * y_nn f a n + (n_ (f (a + n)) - 96) = 32 * y_nn g b n + (n_ (g (b + n)) - 96)
    rw [y_nn_cong n (fun k hk => h k (by omega)), h n (by omega)]
theorem y_o64 {m n : Nat} (hm : m < 2 ^ 40) (hn : n < 2 ^ 40) (h : Int64.ofNat m = Int64.ofNat n) : m = n := by
  have h1 := congrArg (fun z : Int64 => z.toBitVec.toNat) h
  change (BitVec.ofNat 64 m).toNat = (BitVec.ofNat 64 n).toNat at h1
  rwa [BitVec.toNat_ofNat, BitVec.toNat_ofNat, Nat.mod_eq_of_lt (by omega), Nat.mod_eq_of_lt (by omega)] at h1
/-- names are equal as numbers where they are equal -/
theorem y_nmv_inj {f g : Nat → Int32} {a b n m : Nat} (hn : n ≤ 8) (hm : m ≤ 8) (hf : ∀ k, k < n → s_let (f (a + k))) (hg : ∀ k, k < m → s_let (g (b + k))) : s_nmv f a n = s_nmv g b m ↔ n = m ∧ ∀ k, k < n → f (a + k) = g (b + k) := by
  rw [y_nmv_n n hf, y_nmv_n m hg]
  constructor
  · intro h
    exact y_nn_inj n m hf hg (y_o64 (y_nn_8 hf hn) (y_nn_8 hg hm) h)
  · rintro ⟨rfl, h⟩
    rw [y_nn_cong n h]
theorem y_nmv_0 {f : Nat → Int32} {a n : Nat} (hn : n ≤ 8) (h1 : 1 ≤ n) (hf : ∀ k, k < n → s_let (f (a + k))) : ¬ s_nmv f a n = 0 := fun e => by
  have h := (y_nmv_inj (g := f) (b := a) (m := 0) hn (by decide) hf (fun k hk => absurd hk (Nat.not_lt_zero _))).mp e
  omega
theorem y_nmv_cong {f g : Nat → Int32} {a b : Nat} : ∀ n, (∀ k, k < n → f (a + k) = g (b + k)) → s_nmv f a n = s_nmv g b n
  | 0, _ => rfl
  | n + 1, h => by
    show 32 * s_nmv f a n + (f (a + n)).toInt64 - 97 + 1 = 32 * s_nmv g b n + (g (b + n)).toInt64 - 97 + 1
    rw [y_nmv_cong n (fun k hk => h k (by omega)), h n (by omega)]
theorem l_eqg_iff {D : Bool} {tx : Nat → Int32} {q : Nat} {w : List Int32} : ∀ m, l_eqg D tx q w m = true ↔ D = true ∧ ∀ k, k < m → tx (q + k) = w.getD k 0
  | 0 => ⟨fun h => ⟨h, fun k hk => absurd hk (Nat.not_lt_zero _)⟩, fun h => h.1⟩
  | m + 1 => by
    show (l_eqg D tx q w m && decide (tx (q + m) = w.getD m 0)) = true ↔ _
    rw [Bool.and_eq_true, l_eqg_iff m, decide_eq_true_iff]
    constructor
    · rintro ⟨⟨h1, h2⟩, h3⟩
      refine ⟨h1, fun k hk => ?_⟩
      by_cases e : k = m
      · rw [e]; exact h3
      · exact h2 k (by omega)
    · rintro ⟨h1, h2⟩
      exact ⟨⟨h1, fun k hk => h2 k (by omega)⟩, h2 m (by omega)⟩
theorem x_w_let (i : Nat) : ∀ k, k < (x_w i).length → s_let ((fun k => (x_w i).getD k 0) (0 + k)) := fun k hk => by
  have h := x_w_mem i k hk
  rw [Nat.zero_add]
  exact ⟨h.2.1, h.2.2.1⟩
section TOK
variable {tx bf : Nat → Int32} {n p : Nat}
/-- a word at q, as the class counts it -/
theorem z_nin (hr : s_rtx tx bf n) (hp : p ≤ n) : s_nin bf (l_sk tx n p) (l_we tx n p) = if l_we tx n p - l_sk tx n p ≤ 8 then s_nmv tx (l_sk tx n p) (l_we tx n p - l_sk tx n p) else 0 := by
  have hle := l_we_le (tx := tx) hp
  have hl : ∀ k, k < l_we tx n p - l_sk tx n p → s_let (tx (l_sk tx n p + k)) := fun k hk => of_decide_eq_true (l_run_in (P := l_lt) (tx := tx) (n := n) (p := l_sk tx n p) (by omega) (show l_sk tx n p + k < l_we tx n p by omega))
  have hb : ∀ m, m ≤ l_we tx n p - l_sk tx n p → s_ltb bf (l_sk tx n p) m = true := fun m => by
    induction m with
    | zero => intro _; rfl
    | succ m ih =>
      intro hm
      show (s_ltb bf _ m && decide _) = true
      rw [ih (by omega), decide_eq_true ((y_blet hr (by omega)).mpr (hl m (by omega)))]
      rfl
  unfold s_nin
  by_cases h8 : l_we tx n p - l_sk tx n p ≤ 8
  · rw [if_pos h8, if_pos ⟨h8, hb _ (Nat.le_refl _)⟩]
    exact y_nmv_cong _ fun k hk => y_bl hr (by omega) (hl k hk)
  · rw [if_neg h8, if_neg (fun q => h8 q.1)]
theorem z_wl (hp : p ≤ n) : ∀ k, k < l_we tx n p - l_sk tx n p → s_let (tx (l_sk tx n p + k)) := fun k hk => of_decide_eq_true (l_run_in (P := l_lt) (tx := tx) (n := n) (p := l_sk tx n p) (by omega) (show l_sk tx n p + k < l_we tx n p by omega))
theorem z_we_gt (hq : l_sk tx n p < n) (hl : s_let (tx (l_sk tx n p))) : l_sk tx n p < l_we tx n p := l_run_lt1 hq (decide_eq_true hl)
theorem z_isw (hp : p ≤ n) (i : Nat) : l_isw tx n p (x_w i) = true ↔ l_we tx n p - l_sk tx n p ≤ 8 ∧ 1 ≤ l_we tx n p - l_sk tx n p ∧ s_nmv tx (l_sk tx n p) (l_we tx n p - l_sk tx n p) = y_nw i := by
  have hle := l_we_le (tx := tx) hp
  have h8 := x_w_len i
  have h1 : 1 ≤ (x_w i).length := by
    have : ∀ j, j < 13 → 1 ≤ (x_wd.getD j []).length := by decide
    exact this (i % 13) (Nat.mod_lt _ (by decide))
  unfold l_isw
  rw [l_eqg_iff, decide_eq_true_iff]
  constructor
  · rintro ⟨e1, e2⟩
    have e3 : l_we tx n p - l_sk tx n p = (x_w i).length := by omega
    refine ⟨by omega, by omega, ?_⟩
    rw [e3]
    exact y_nmv_cong _ fun k hk => by rw [e2 k hk]; show _ = (x_w i).getD (0 + k) 0; rw [Nat.zero_add]
  · rintro ⟨g1, g2, g3⟩
    obtain ⟨e1, e2⟩ := (y_nmv_inj g1 (by omega) (z_wl hp) (x_w_let i)).mp g3
    refine ⟨by omega, fun k hk => ?_⟩
    have e3 := e2 k (by omega)
    rw [e3]
    show (x_w i).getD (0 + k) 0 = _
    rw [Nat.zero_add]
end TOK
theorem z_kyc {z : Int64} : (z_ky z = 261 ↔ z = 0) ∧ (z_ky z = 258 ↔ z = y_nw 3) ∧ (z_ky z = 259 ↔ z = y_nw 2) ∧ (z_ky z = 260 ↔ z = y_nw 4) ∧ (z_ky z = 257 ↔ ¬ z = 0 ∧ ¬ z = y_nw 3 ∧ ¬ z = y_nw 2 ∧ ¬ z = y_nw 4) := by
  have h3 : y_nw 16 = y_nw 3 := rfl
  have h2 : y_nw 15 = y_nw 2 := rfl
  have h4 : y_nw 17 = y_nw 4 := rfl
  have d1 : ¬ y_nw 3 = 0 := by decide +kernel
  have d2 : ¬ y_nw 2 = 0 := by decide +kernel
  have d3 : ¬ y_nw 4 = 0 := by decide +kernel
  have d4 : ¬ y_nw 3 = y_nw 2 := by decide +kernel
  have d5 : ¬ y_nw 3 = y_nw 4 := by decide +kernel
  have d6 : ¬ y_nw 2 = y_nw 4 := by decide +kernel
  unfold z_ky
  rw [h3, h2, h4]
  by_cases c0 : z = 0
  · rw [if_pos c0]
    subst c0
    exact ⟨⟨fun _ => rfl, fun _ => rfl⟩, ⟨fun h => absurd h (by decide), fun h => absurd h.symm d1⟩, ⟨fun h => absurd h (by decide), fun h => absurd h.symm d2⟩, ⟨fun h => absurd h (by decide), fun h => absurd h.symm d3⟩, ⟨fun h => absurd h (by decide), fun h => absurd rfl h.1⟩⟩
  · rw [if_neg c0]
    by_cases c3 : z = y_nw 3
    · rw [if_pos c3]
      exact ⟨⟨fun h => absurd h (by decide), fun h => absurd h c0⟩, ⟨fun _ => c3, fun _ => rfl⟩, ⟨fun h => absurd h (by decide), fun h => absurd (c3.symm.trans h) d4⟩, ⟨fun h => absurd h (by decide), fun h => absurd (c3.symm.trans h) d5⟩, ⟨fun h => absurd h (by decide), fun h => absurd c3 h.2.1⟩⟩
    · rw [if_neg c3]
      by_cases c2 : z = y_nw 2
      · rw [if_pos c2]
        exact ⟨⟨fun h => absurd h (by decide), fun h => absurd h c0⟩, ⟨fun h => absurd h (by decide), fun h => absurd h c3⟩, ⟨fun _ => c2, fun _ => rfl⟩, ⟨fun h => absurd h (by decide), fun h => absurd (c2.symm.trans h) d6⟩, ⟨fun h => absurd h (by decide), fun h => absurd c2 h.2.2.1⟩⟩
      · rw [if_neg c2]
        by_cases c4 : z = y_nw 4
        · rw [if_pos c4]
          exact ⟨⟨fun h => absurd h (by decide), fun h => absurd h c0⟩, ⟨fun h => absurd h (by decide), fun h => absurd h c3⟩, ⟨fun h => absurd h (by decide), fun h => absurd h c2⟩, ⟨fun _ => c4, fun _ => rfl⟩, ⟨fun h => absurd h (by decide), fun h => absurd c4 h.2.2.2⟩⟩
        · rw [if_neg c4]
          exact ⟨⟨fun h => absurd h (by decide), fun h => absurd h c0⟩, ⟨fun h => absurd h (by decide), fun h => absurd h c3⟩, ⟨fun h => absurd h (by decide), fun h => absurd h c2⟩, ⟨fun h => absurd h (by decide), fun h => absurd h c4⟩, ⟨fun _ => ⟨c0, c3, c2, c4⟩, fun _ => rfl⟩⟩
theorem z_ky_r {z : Int64} : z_ky z = 261 ∨ z_ky z = 258 ∨ z_ky z = 259 ∨ z_ky z = 260 ∨ z_ky z = 257 := by
  unfold z_ky
  by_cases c0 : z = 0
  · exact Or.inl (if_pos c0)
  · rw [if_neg c0]
    by_cases c3 : z = y_nw 16
    · exact Or.inr (Or.inl (if_pos c3))
    · rw [if_neg c3]
      by_cases c2 : z = y_nw 15
      · exact Or.inr (Or.inr (Or.inl (if_pos c2)))
      · rw [if_neg c2]
        by_cases c4 : z = y_nw 17
        · exact Or.inr (Or.inr (Or.inr (Or.inl (if_pos c4))))
        · exact Or.inr (Or.inr (Or.inr (Or.inr (if_neg c4))))

