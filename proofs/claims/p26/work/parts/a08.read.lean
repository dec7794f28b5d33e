/-! ===== the law: read (wip/p26/gen_f4.py) ===== -/
/-- letter j of the text, as append gets it: behind its end a space -/
def e_ch (l : List Int32) (j : Nat) : Nat := if j < l.length then n_ (l.getD j 0) else 32
theorem e_ch_lt {l : List Int32} (ha : lat l) (j : Nat) : e_ch l j < 128 := by
  unfold e_ch
  by_cases h : j < l.length
  · rw [if_pos h]
    obtain ⟨h0, h1⟩ := ha j h
    obtain ⟨k, hk, e⟩ := nI_of (Int32.not_lt.mpr h0)
    rw [e] at h1 ⊢
    have h2 := (n_le rfl (show (127 : Int32) = nI 127 from rfl) hk (by decide)).mp h1
    rw [n_nI hk]
    omega
  · rw [if_neg h]
    decide
theorem e_ch_eq {l : List Int32} (ha : lat l) {j : Nat} (h : j < l.length) : l.getD j 0 = nI (e_ch l j) := by
  unfold e_ch
  rw [if_pos h]
  obtain ⟨k, hk, e⟩ := nI_of (Int32.not_lt.mpr (ha j h).1)
  rw [e, n_nI hk]
def e_pk (l : List Int32) (i : Nat) : Nat → Nat → Nat
  | 0, _ => 0
  | k + 1, m => if k / 4 = m then 256 * e_pk l i k m + e_ch l (i + k) else e_pk l i k m
theorem e_pk_b {l : List Int32} {i : Nat} (ha : lat l) : ∀ k m, (k / 4 < m → e_pk l i k m = 0) ∧ (k / 4 = m → (k % 4 = 0 → e_pk l i k m = 0) ∧ (k % 4 = 1 → e_pk l i k m < 128) ∧ (k % 4 = 2 → e_pk l i k m < 32768) ∧ (k % 4 = 3 → e_pk l i k m < 8388608))
  | 0, m => ⟨fun _ => rfl, fun _ => ⟨fun _ => rfl, fun _ => by show (0 : Nat) < 128; omega, fun _ => by show (0 : Nat) < 32768; omega, fun _ => by show (0 : Nat) < 8388608; omega⟩⟩
  | k + 1, m => by
    obtain ⟨h1, h2⟩ := e_pk_b (i := i) ha k m
    have hc := e_ch_lt ha (i + k)
    show ((k + 1) / 4 < m → (if k / 4 = m then 256 * e_pk l i k m + e_ch l (i + k) else e_pk l i k m) = 0) ∧ ((k + 1) / 4 = m → ((k + 1) % 4 = 0 → (if k / 4 = m then 256 * e_pk l i k m + e_ch l (i + k) else e_pk l i k m) = 0) ∧ ((k + 1) % 4 = 1 → (if k / 4 = m then 256 * e_pk l i k m + e_ch l (i + k) else e_pk l i k m) < 128) ∧ ((k + 1) % 4 = 2 → (if k / 4 = m then 256 * e_pk l i k m + e_ch l (i + k) else e_pk l i k m) < 32768) ∧ ((k + 1) % 4 = 3 → (if k / 4 = m then 256 * e_pk l i k m + e_ch l (i + k) else e_pk l i k m) < 8388608))
    by_cases e : k / 4 = m
    · rw [if_pos e]
      obtain ⟨a0, a1, a2, a3⟩ := h2 e
      refine ⟨fun h => by omega, fun h => ⟨fun h4 => by omega, fun h4 => ?_, fun h4 => ?_, fun h4 => ?_⟩⟩
      · have := a0 (by omega); omega
      · have := a1 (by omega); omega
      · have := a2 (by omega); omega
    · rw [if_neg e]
      refine ⟨fun h => h1 (by omega), fun h => ⟨fun h4 => h1 (by omega), fun h4 => by omega, fun h4 => by omega, fun h4 => by omega⟩⟩
theorem e_pk_s {l : List Int32} {i k : Nat} (ha : lat l) : e_pk l i k (k / 4) * 256 + e_ch l (i + k) < 2147483648 := by
  obtain ⟨a0, a1, a2, a3⟩ := (e_pk_b (i := i) ha k (k / 4)).2 rfl
  have hc := e_ch_lt ha (i + k)
  rcases (show k % 4 = 0 ∨ k % 4 = 1 ∨ k % 4 = 2 ∨ k % 4 = 3 by omega) with h | h | h | h
  · have := a0 h; omega
  · have := a1 h; omega
  · have := a2 h; omega
  · have := a3 h; omega
theorem nI_or8 {a b : Nat} (hb : b < 256) (h : a * 256 + b < 2 ^ 32) : nI (a * 256) ||| nI b = nI (a * 256 + b) := by
  have h1 : a * 256 ||| b = a * 256 + b := by
    have h2 := Nat.shiftLeft_add_eq_or_of_lt (i := 8) (b := b) (by omega) a
    rw [Nat.shiftLeft_eq] at h2
    exact h2.symm
  apply Int32.toBitVec_inj.mp
  apply BitVec.eq_of_toNat_eq
  rw [Int32.toBitVec_or, BitVec.toNat_or, pk_tn (Nat.lt_of_le_of_lt (Nat.le_add_right _ _) h), pk_tn (Nat.lt_of_le_of_lt (Nat.le_add_left b (a * 256)) h), pk_tn h, h1]
theorem e_or {l : List Int32} {i k : Nat} (ha : lat l) : (nI (e_pk l i k (k / 4)) <<< ((8 : Int32) &&& 31)) ||| nI (e_ch l (i + k)) = nI (256 * e_pk l i k (k / 4) + e_ch l (i + k)) := by
  have hb := e_pk_s (i := i) (k := k) ha
  have hc := e_ch_lt ha (i + k)
  have hx : e_pk l i k (k / 4) * 2 ^ 8 < 2 ^ 32 := Nat.lt_trans (Nat.lt_of_le_of_lt (Nat.le_add_right _ _) hb) (by decide)
  have hy : e_pk l i k (k / 4) * 256 + e_ch l (i + k) < 2 ^ 32 := Nat.lt_trans hb (by decide)
  rw [pk_shlN ((8 : Int32) &&& 31) 8 (by decide) hx, show (2 : Nat) ^ 8 = 256 from rfl, nI_or8 (Nat.lt_trans hc (by decide)) hy, Nat.mul_comm]
theorem e_pk_upd {l : List Int32} {i k : Nat} : updV (fun m => Value.int (nI (e_pk l i k m))) (k / 4) (.int (nI (256 * e_pk l i k (k / 4) + e_ch l (i + k)))) = fun m => .int (nI (e_pk l i (k + 1) m)) := by
  funext m
  unfold updV
  show _ = Value.int (nI (if k / 4 = m then 256 * e_pk l i k m + e_ch l (i + k) else e_pk l i k m))
  by_cases h : m = k / 4
  · rw [if_pos h, if_pos h.symm, h]
  · rw [if_neg h, if_neg (Ne.symm h)]
theorem e_div4 {k : Nat} (hk : k < 20) : nI k / 4 = nI (k / 4) := by
  have h : ∀ k, k < 20 → nI k / 4 = nI (k / 4) := by decide +kernel
  exact h k hk
theorem e_i8 {m : Nat} (hm : m < 2147483648) (h : m % 256 < 128) : (nI m).toInt8.toInt32 = nI (m % 256) := by
  apply Int32.toInt_inj.mp
  rw [Int8.toInt_toInt32, Int32.toInt_toInt8, nI_toInt hm, nI_toInt (by omega)]
  have e : (m : Int) = (m % 256 : Nat) + 256 * (m / 256 : Nat) := by omega
  rw [e]
  show Int.bmod (((m % 256 : Nat) : Int) + 256 * ((m / 256 : Nat) : Int)) 256 = _
  rw [show ((m % 256 : Nat) : Int) + 256 * ((m / 256 : Nat) : Int) = ((m % 256 : Nat) : Int) + ((256 : Nat) : Int) * ((m / 256 : Nat) : Int) from rfl, Int.add_mul_bmod_self_left]
  exact Int.bmod_eq_of_le (by omega) (by omega)
theorem e_by {A : Nat} (hA : A < 2147483648) (s : Int32) (k : Nat) (hs : ((s &&& 31).toBitVec.smod 32).toNat = k) (h : A / 2 ^ k % 256 < 128) : s_by (nI A) s = nI (A / 2 ^ k % 256) := by
  unfold s_by
  rw [pk_shrN hA (s &&& 31) k hs]
  exact e_i8 (Nat.lt_of_le_of_lt (Nat.div_le_self _ _) hA) h
theorem s_w4_o {bf : Nat → Int32} {b j : Nat} {v : Int32} (h : j < b ∨ b + 4 ≤ j) : s_w4 bf b v j = bf j := by
  unfold s_w4
  rw [updI_ne (by omega), updI_ne (by omega), updI_ne (by omega), updI_ne (by omega)]
theorem s_w4_at {bf : Nat → Int32} {b c0 c1 c2 c3 : Nat} (h0 : c0 < 128) (h1 : c1 < 128) (h2 : c2 < 128) (h3 : c3 < 128) {c : Nat → Nat} (e0 : c 0 = c0) (e1 : c 1 = c1) (e2 : c 2 = c2) (e3 : c 3 = c3) : ∀ r, r < 4 → s_w4 bf b (nI (256 * (256 * (256 * (256 * 0 + c0) + c1) + c2) + c3)) (b + r) = nI (c r) := by
  intro r hr
  have hA : 256 * (256 * (256 * (256 * 0 + c0) + c1) + c2) + c3 < 2147483648 := by omega
  unfold s_w4
  rcases (show r = 0 ∨ r = 1 ∨ r = 2 ∨ r = 3 by omega) with e | e | e | e <;> subst e
  · rw [updI_ne (by omega), updI_ne (by omega), updI_ne (by omega), Nat.add_zero, updI_eq, e_by hA 24 24 (by decide) (by show _ / 16777216 % 256 < 128; omega), e0]
    exact congrArg nI (by show _ / 16777216 % 256 = _; omega)
  · rw [updI_ne (by omega), updI_ne (by omega), updI_eq, e_by hA 16 16 (by decide) (by show _ / 65536 % 256 < 128; omega), e1]
    exact congrArg nI (by show _ / 65536 % 256 = _; omega)
  · rw [updI_ne (by omega), updI_eq, e_by hA 8 8 (by decide) (by show _ / 256 % 256 < 128; omega), e2]
    exact congrArg nI (by show _ / 256 % 256 = _; omega)
  · rw [updI_eq, e_by hA 0 0 (by decide) (by show _ / 1 % 256 < 128; omega), e3]
    exact congrArg nI (by show _ / 1 % 256 = _; omega)
theorem e_abx {l : List Int32} (ha : lat l) {bf : Nat → Int32} {i : Nat} (hb : ∀ j, j < i → bf j = nI (e_ch l j)) : ∀ j, j < i + 20 → s_abx bf i (nI (e_pk l i 20 0)) (nI (e_pk l i 20 1)) (nI (e_pk l i 20 2)) (nI (e_pk l i 20 3)) (nI (e_pk l i 20 4)) j = nI (e_ch l j) := by
  intro j hj
  have hc := e_ch_lt ha
  unfold s_abx
  by_cases h : j < i
  · rw [s_w4_o (Or.inl (by omega)), s_w4_o (Or.inl (by omega)), s_w4_o (Or.inl (by omega)), s_w4_o (Or.inl (by omega)), s_w4_o (Or.inl h)]
    exact hb j h
  · by_cases h4 : j < i + 4
    · rw [s_w4_o (Or.inl (by omega)), s_w4_o (Or.inl (by omega)), s_w4_o (Or.inl (by omega)), s_w4_o (Or.inl (by omega))]
      have k := s_w4_at (bf := bf) (b := i) (hc (i + 0)) (hc (i + 1)) (hc (i + 2)) (hc (i + 3)) (c := fun r => e_ch l (i + r)) rfl rfl rfl rfl (j - i) (by omega)
      rw [show i + (j - i) = j by omega] at k
      exact k.trans (congrArg (fun z => nI (e_ch l z)) (by omega))
    · by_cases h8 : j < i + 8
      · rw [s_w4_o (Or.inl (by omega)), s_w4_o (Or.inl (by omega)), s_w4_o (Or.inl (by omega))]
        have k := s_w4_at (bf := s_w4 bf i (nI (e_pk l i 20 0))) (b := i + 4) (hc (i + 4)) (hc (i + 5)) (hc (i + 6)) (hc (i + 7)) (c := fun r => e_ch l (i + (4 + r))) rfl rfl rfl rfl (j - (i + 4)) (by omega)
        rw [show i + 4 + (j - (i + 4)) = j by omega] at k
        exact k.trans (congrArg (fun z => nI (e_ch l z)) (by omega))
      · by_cases h12 : j < i + 12
        · rw [s_w4_o (Or.inl (by omega)), s_w4_o (Or.inl (by omega))]
          have k := s_w4_at (bf := s_w4 (s_w4 bf i (nI (e_pk l i 20 0))) (i + 4) (nI (e_pk l i 20 1))) (b := i + 8) (hc (i + 8)) (hc (i + 9)) (hc (i + 10)) (hc (i + 11)) (c := fun r => e_ch l (i + (8 + r))) rfl rfl rfl rfl (j - (i + 8)) (by omega)
          rw [show i + 8 + (j - (i + 8)) = j by omega] at k
          exact k.trans (congrArg (fun z => nI (e_ch l z)) (by omega))
        · by_cases h16 : j < i + 16
          · rw [s_w4_o (Or.inl (by omega))]
            have k := s_w4_at (bf := s_w4 (s_w4 (s_w4 bf i (nI (e_pk l i 20 0))) (i + 4) (nI (e_pk l i 20 1))) (i + 8) (nI (e_pk l i 20 2))) (b := i + 12) (hc (i + 12)) (hc (i + 13)) (hc (i + 14)) (hc (i + 15)) (c := fun r => e_ch l (i + (12 + r))) rfl rfl rfl rfl (j - (i + 12)) (by omega)
            rw [show i + 12 + (j - (i + 12)) = j by omega] at k
            exact k.trans (congrArg (fun z => nI (e_ch l z)) (by omega))
          · have k := s_w4_at (bf := s_w4 (s_w4 (s_w4 (s_w4 bf i (nI (e_pk l i 20 0))) (i + 4) (nI (e_pk l i 20 1))) (i + 8) (nI (e_pk l i 20 2))) (i + 12) (nI (e_pk l i 20 3))) (b := i + 16) (hc (i + 16)) (hc (i + 17)) (hc (i + 18)) (hc (i + 19)) (c := fun r => e_ch l (i + (16 + r))) rfl rfl rfl rfl (j - (i + 16)) (by omega)
            rw [show i + 16 + (j - (i + 16)) = j by omega] at k
            exact k.trans (congrArg (fun z => nI (e_ch l z)) (by omega))
/-- at t stands a String with the text l -/
def e_str (N : XH) (t : Nat) (l : List Int32) : Prop := ∃ (w : Nat) (f : Nat → Int32), N t = some (.inl (13, sgV w)) ∧ N w = some (sbA l.length f) ∧ ∀ j, j < l.length → f j = l.getD j 0
theorem e_str.sg {N : XH} {t : Nat} {l : List Int32} (h : e_str N t l) : sg 0 N t l N := by
  obtain ⟨w, f, h1, h2, h3⟩ := h
  exact ⟨fun _ _ => rfl, w, f, ⟨Nat.zero_le _, Nat.zero_le _⟩, h1, h2, h3⟩
theorem e_str.mono {N N' : XH} {t : Nat} {l : List Int32} (h : e_str N t l) (hm : ∀ k c, N k = some c → N' k = some c) : e_str N' t l := by
  obtain ⟨w, f, h1, h2, h3⟩ := h
  exact ⟨w, f, hm _ _ h1, hm _ _ h2, h3⟩
abbrev e_W (l : List Int32) (i k : Nat) : XC := .inr (true, .int, 5, fun m => .int (nI (e_pk l i k m)))
theorem w_rdI {G : XE} (hG : x_Kn G) (hK : x_KS G) {B : XH} {J bf K tk ts : Nat → Int32} {tl : Int64} {tv : Nat → Int64} {su : Nat → Nat} {D : Nat → Nat → Int32} {d mc ms nb0 cells slots t i q : Nat} {ad0 : Nat → Nat} {Qn : XH → Option Value → Prop} {l : List Int32} (hs : e_str (cset B J bf K tk ts tl tv su D) t l) (ha : lat l) (hl : l.length ≤ 300) (hi : i ≤ 400) (hq : s_out q) (hBq : B q = none) (hc : cells ≤ mc) (hsl : slots ≤ ms) (kk : x_W G mL_read (x_Z G (d + 34) mc ms ad0 nb0 Qn x_noX) (cset (x_set B q (e_W l i 20)) J bf K tk ts tl tv su D) cells slots 70 [some (.ref 64), some (.ref t), some (.int (nI i)), some (.ref q), some (.int (nI 20))] []) : ∀ (f k : Nat), k + f = 20 → x_W G mL_read (x_Z G (d + 34) mc ms ad0 nb0 Qn x_noX) (cset (x_set B q (e_W l i k)) J bf K tk ts tl tv su D) cells slots 17 [some (.ref 64), some (.ref t), some (.int (nI i)), some (.ref q), some (.int (nI k))] [] := by
  intro f
  induction f with
  | zero =>
    intro k hk
    obtain rfl : k = 20 := by omega
    refine X_ld rfl rfl rfl rfl ?_
    refine X_push (v := .int 20) rfl (by decide +kernel) ?_
    refine X_icmp_ge rfl (fun _ => kk) (fun c => absurd (Int32.le_refl _) c)
  | succ f ih =>
    intro k hk
    have hsk : e_str (cset (x_set B q (e_W l i k)) J bf K tk ts tl tv su D) t l := hs.mono (fun j c h => (y_le_set hBq).c j c h)
    have hNq : (cset (x_set B q (e_W l i k)) J bf K tk ts tl tv su D) q = some (e_W l i k) := c_B hq x_set_eq
    obtain ⟨w, fs, hNt, -, -⟩ := id hsk
    refine X_ld rfl rfl rfl rfl ?_
    refine X_push (v := .int 20) rfl (by decide +kernel) ?_
    refine X_icmp_ge rfl (fun c => absurd ((n_le (show (20 : Int32) = nI 20 from rfl) rfl (by omega) (by omega)).mp c) (by omega)) (fun _ => ?_)
    refine X_ld rfl rfl rfl rfl ?_
    refine X_ld rfl rfl rfl rfl ?_
    refine X_push (v := .int 4) rfl (by decide +kernel) ?_
    refine X_idiv rfl (by decide) ?_
    refine X_stk (st' := [.int (nI (k / 4)), .ref q]) (congrArg (fun z => [Value.int z, .ref q]) (e_div4 (by omega))) ?_
    refine X_ld rfl rfl rfl rfl ?_
    refine X_ld rfl rfl rfl rfl ?_
    refine X_push (v := .int 4) rfl (by decide +kernel) ?_
    refine X_idiv rfl (by decide) ?_
    refine X_stk (st' := [.int (nI (k / 4)), .ref q, .int (nI (k / 4)), .ref q]) (congrArg (fun z => [Value.int z, .ref q, .int (nI (k / 4)), .ref q]) (e_div4 (by omega))) ?_
    refine X_iald rfl hNq (vp_in_nI (by omega) (by omega)) (v := .int (nI (e_pk l i k (k / 4)))) (by rw [nI_clamp (by omega)]) ?_
    refine X_push (v := .int 8) rfl (by decide +kernel) ?_
    refine X_bin rfl rfl ?_
    refine X_ld rfl rfl rfl rfl ?_
    refine X_ld rfl rfl rfl rfl ?_
    refine X_bin rfl rfl ?_
    refine X_stk (st' := [.int (nI (i + k)), .int (nI (e_pk l i k (k / 4)) <<< ((8 : Int32) &&& 31)), .int (nI (k / 4)), .ref q]) (congrArg (fun z => [Value.int z, .int (nI (e_pk l i k (k / 4)) <<< ((8 : Int32) &&& 31)), .int (nI (k / 4)), .ref q]) (nI_add i k)) ?_
    refine X_ld rfl rfl rfl rfl ?_
    refine X_vcall hNt l_L_J0_length_8abf5 (j_slen hG hK d hsk.sg) rfl rfl rfl rfl (Nat.le_of_ble_eq_true rfl) (Nat.le_of_ble_eq_true rfl) (by omega) (by omega) (by omega) ?_
    have tail : ∀ x : Int32, x = nI (e_ch l (i + k)) → x_W G mL_read (x_Z G (d + 34) mc ms ad0 nb0 Qn x_noX) (cset (x_set B q (e_W l i k)) J bf K tk ts tl tv su D) cells slots 62 [some (.ref 64), some (.ref t), some (.int (nI i)), some (.ref q), some (.int (nI k))] [.int x, .int (nI (e_pk l i k (k / 4)) <<< ((8 : Int32) &&& 31)), .int (nI (k / 4)), .ref q] := fun x hx => by
      subst hx
      refine X_bin rfl rfl ?_
      refine X_stk (st' := [.int (nI (256 * e_pk l i k (k / 4) + e_ch l (i + k))), .int (nI (k / 4)), .ref q]) (congrArg (fun z => [Value.int z, .int (nI (k / 4)), .ref q]) (e_or ha)) ?_
      refine X_iast rfl hNq (vp_in_nI (by omega) (by omega)) ?_
      rw [nI_clamp (by omega), e_pk_upd]
      refine X_heap (N' := cset (x_set B q (e_W l i (k + 1))) J bf K tk ts tl tv su D) (by rw [y_set hq, x_set_set]) ?_
      refine X_iinc rfl rfl rfl ?_
      refine X_goto rfl ?_
      refine X_loc (L' := [some (.ref 64), some (.ref t), some (.int (nI i)), some (.ref q), some (.int (nI (k + 1)))]) ⟨rfl, rfl, rfl, rfl, congrArg Value.int (m_inc rfl).symm, trivial⟩ ?_
      exact ih (k + 1) (by omega)
    refine X_icmp_ge rfl (fun c => ?_) (fun c => ?_)
    · have hge : l.length ≤ i + k := (n_le rfl rfl (by omega) (by omega)).mp c
      refine X_push (v := .int 32) rfl (by decide +kernel) ?_
      refine X_room (by omega) (by omega) (tail _ ?_)
      unfold e_ch
      rw [if_neg (by omega)]
      rfl
    · have hlt : i + k < l.length := by
        have : ¬ l.length ≤ i + k := fun q => c ((n_le rfl rfl (by omega) (by omega)).mpr q)
        omega
      refine X_ld rfl rfl rfl rfl ?_
      refine X_ld rfl rfl rfl rfl ?_
      refine X_ld rfl rfl rfl rfl ?_
      refine X_bin rfl rfl ?_
      refine X_stk (st' := [.int (nI (i + k)), .ref t, .int (nI (e_pk l i k (k / 4)) <<< ((8 : Int32) &&& 31)), .int (nI (k / 4)), .ref q]) (congrArg (fun z => [Value.int z, .ref t, .int (nI (e_pk l i k (k / 4)) <<< ((8 : Int32) &&& 31)), .int (nI (k / 4)), .ref q]) (nI_add i k)) ?_
      refine X_vcall hNt l_L_J0_charAt_5068e (j_schar hG hK d hsk.sg (by omega) ha hlt) rfl rfl rfl rfl (Nat.le_of_ble_eq_true rfl) (Nat.le_of_ble_eq_true rfl) (by omega) (by omega) (by omega) ?_
      refine X_goto rfl ?_
      exact X_room (by omega) (by omega) (tail _ (e_ch_eq ha hlt))
/-- the same, beside the class's cells -/
def e_strB (B : XH) (t : Nat) (l : List Int32) : Prop := ∃ (w : Nat) (f : Nat → Int32), (s_out t ∧ s_out w) ∧ B t = some (.inl (13, sgV w)) ∧ B w = some (sbA l.length f) ∧ ∀ j, j < l.length → f j = l.getD j 0
theorem e_strB.c {B : XH} {t : Nat} {l : List Int32} (h : e_strB B t l) {J bf K tk ts : Nat → Int32} {tl : Int64} {tv : Nat → Int64} {su : Nat → Nat} {D : Nat → Nat → Int32} : e_str (cset B J bf K tk ts tl tv su D) t l := by
  obtain ⟨w, f, ⟨h1, h2⟩, h3, h4, h5⟩ := h
  exact ⟨w, f, c_B h1 h3, c_B h2 h4, h5⟩
theorem v_read {G : XE} (hG : x_Kn G) (hK : x_KS G) (hEx : x_KX G) (hM : x_KM G) {B : XH} {J0 bf0 K tk ts : Nat → Int32} {tl : Int64} {tv : Nat → Int64} {su : Nat → Nat} {D : Nat → Nat → Int32} (d w : Nat) (hw : J0 5 = nI w) (hw10 : w < 10) (hJ0 : J0 1 = nI 0) (hB : B 0 = none ∧ B 2 = none) {t q9 : Nat} {l : List Int32} {rd9 : Nat → Int32} (hs : e_strB B t l) (ha : lat l) (hl : l.length ≤ 300) (hT : l_txt (fun j => nI (e_ch l j)) l.length = .inr (q9, rd9)) : x_M G mL_read (d + 34) 5000 100000 [.ref 64, .ref t] (cset B J0 bf0 K tk ts tl tv su D) (fun N r => ∃ (J bf : Nat → Int32) (b : Nat), ((J 1 = nI b ∧ ∀ j, j ≠ 1 → J j = J0 j) ∧ l.length ≤ b ∧ b ≤ 800) ∧ x_QLd B J bf su D w b (fun j => nI (e_ch l j)) (nI l.length) N r) x_noX := by
  refine X_M hG okL_read rfl (L := [some (.ref 64), some (.ref t), none, none, none]) rfl (Nat.le_of_ble_eq_true rfl) (fun ad0 nb0 => ?_)
  have last : ∀ (i : Nat) (J bf : Nat → Int32), l.length ≤ i → i ≤ l.length + 19 → J 1 = nI i → (∀ j, j ≠ 1 → J j = J0 j) → (∀ j, j < i → bf j = nI (e_ch l j)) → ∀ x y : Option Value, x_W G mL_read (x_Z G (d + 34) 5000 100000 ad0 nb0 (fun N r => ∃ (J bf : Nat → Int32) (b : Nat), ((J 1 = nI b ∧ ∀ j, j ≠ 1 → J j = J0 j) ∧ l.length ≤ b ∧ b ≤ 800) ∧ x_QLd B J bf su D w b (fun j => nI (e_ch l j)) (nI l.length) N r) x_noX) (cset B J bf K tk ts tl tv su D) i (5 * i) 101 [some (.ref 64), some (.ref t), some (.int (nI i)), x, y] [] := by
    intro i J bf h1 h2 hJ1 hJ hbf x y
    have hsk := hs.c (J := J) (bf := bf) (K := K) (tk := tk) (ts := ts) (tl := tl) (tv := tv) (su := su) (D := D)
    obtain ⟨w2, fs, hNt, -, -⟩ := id hsk
    refine X_ld rfl rfl rfl rfl ?_
    refine X_ld rfl rfl rfl rfl ?_
    refine X_vcall hNt l_L_J0_length_8abf5 (j_slen hG hK d hsk.sg) rfl rfl rfl rfl (Nat.le_of_ble_eq_true rfl) (Nat.le_of_ble_eq_true rfl) (by omega) (by omega) (by omega) ?_
    have hr : s_rtx (fun j => nI (e_ch l j)) bf i := fun j hj => by
      have hc := e_ch_lt ha j
      refine ⟨e_ch l j, by omega, rfl, ?_⟩
      rw [hbf j hj, e_i8 (by omega) (by omega), Nat.mod_eq_of_lt (by omega)]
    refine X_vcallX c_O l_L_X10_load (m_load hG hK hEx hM d w ((hJ 5 (by decide)).trans hw) hw10 hJ1 (by omega) hr hB (x := nI l.length)) rfl rfl rfl rfl (Nat.le_of_ble_eq_true rfl) (Nat.le_of_ble_eq_true rfl) (by omega) (by omega) (by omega) rfl (fun N9 E h => absurd ⟨nI_ge0 (by omega), by rw [hJ1]; exact (n_le rfl rfl (by omega) (by omega)).mpr h1⟩ h.1) (fun N9 r hq => ?_)
    obtain ⟨n9, st9, ρ9, tk9, ts9, tv9, J9, ⟨e1, e2, e3⟩, g1, g2, g3⟩ := id hq
    have en : n9 = l.length := ((n_eq rfl rfl (by omega) (by omega)).mp e1).symm
    subst en
    obtain ⟨-, hrv⟩ := g3 q9 rd9 hT
    subst hrv
    refine X_stk (st' := [.int (rd9 2)]) rfl ?_
    exact X_iret rfl rfl ⟨J, bf, i, ⟨⟨hJ1, hJ⟩, h1, by omega⟩, hq⟩ (by omega) (by omega)
  have outer : ∀ (f : Nat) (i : Nat) (J bf : Nat → Int32), l.length ≤ i + 20 * f → i ≤ l.length + 19 → J 1 = nI i → (∀ j, j ≠ 1 → J j = J0 j) → (∀ j, j < i → bf j = nI (e_ch l j)) → ∀ x y : Option Value, x_W G mL_read (x_Z G (d + 34) 5000 100000 ad0 nb0 (fun N r => ∃ (J bf : Nat → Int32) (b : Nat), ((J 1 = nI b ∧ ∀ j, j ≠ 1 → J j = J0 j) ∧ l.length ≤ b ∧ b ≤ 800) ∧ x_QLd B J bf su D w b (fun j => nI (e_ch l j)) (nI l.length) N r) x_noX) (cset B J bf K tk ts tl tv su D) i (5 * i) 2 [some (.ref 64), some (.ref t), some (.int (nI i)), x, y] [] := by
    intro f
    induction f with
    | zero =>
      intro i J bf h1 h2 hJ1 hJ hbf x y
      have hsk := hs.c (J := J) (bf := bf) (K := K) (tk := tk) (ts := ts) (tl := tl) (tv := tv) (su := su) (D := D)
      obtain ⟨w2, fs, hNt, -, -⟩ := id hsk
      refine X_ld rfl rfl rfl rfl ?_
      refine X_ld rfl rfl rfl rfl ?_
      refine X_vcall hNt l_L_J0_length_8abf5 (j_slen hG hK d hsk.sg) rfl rfl rfl rfl (Nat.le_of_ble_eq_true rfl) (Nat.le_of_ble_eq_true rfl) (by omega) (by omega) (by omega) ?_
      refine X_icmp_ge rfl (fun _ => ?_) (fun c => absurd ((n_le rfl rfl (by omega) (by omega)).mpr (by omega)) c)
      exact last i J bf (by omega) h2 hJ1 hJ hbf x y
    | succ f ih =>
      intro i J bf h1 h2 hJ1 hJ hbf x y
      have hsk := hs.c (J := J) (bf := bf) (K := K) (tk := tk) (ts := ts) (tl := tl) (tv := tv) (su := su) (D := D)
      obtain ⟨w2, fs, hNt, -, -⟩ := id hsk
      refine X_ld rfl rfl rfl rfl ?_
      refine X_ld rfl rfl rfl rfl ?_
      refine X_vcall hNt l_L_J0_length_8abf5 (j_slen hG hK d hsk.sg) rfl rfl rfl rfl (Nat.le_of_ble_eq_true rfl) (Nat.le_of_ble_eq_true rfl) (by omega) (by omega) (by omega) ?_
      refine X_icmp_ge rfl (fun c => last i J bf ((n_le rfl rfl (by omega) (by omega)).mp c) h2 hJ1 hJ hbf x y) (fun c => ?_)
      have hlt : i < l.length := by
        have : ¬ l.length ≤ i := fun q => c ((n_le rfl rfl (by omega) (by omega)).mpr q)
        omega
      refine X_push (v := .int 5) rfl (by decide +kernel) ?_
      refine X_newaK 5 rfl rfl (List.mem_of_getElem? (i := 0) rfl) ia_T (by decide) (by decide) (by decide) (by show i + 0 + 1 ≤ 5000; omega) (by show 5 * i + 0 + 5 ≤ 100000; omega) (x_K_any (y_none0 hB.1) (fun q hq h64 => ?_))
      obtain ⟨hqo, hBq⟩ := y_free hq
      refine X_heap (N' := cset (x_set B q (e_W l i 0)) J bf K tk ts tl tv su D) (y_set hqo) ?_
      refine X_st rfl rfl rfl ?_
      refine X_push (v := .int 0) rfl (by decide +kernel) ?_
      refine X_st rfl rfl rfl ?_
      refine X_loc (L' := [some (.ref 64), some (.ref t), some (.int (nI i)), some (.ref q), some (.int (nI 0))]) ⟨rfl, rfl, rfl, rfl, rfl, trivial⟩ ?_
      refine w_rdI hG hK hsk ha hl (by omega) hqo hBq (by omega) (by omega) ?_ 20 0 rfl
      have hNq : (cset (x_set B q (e_W l i 20)) J bf K tk ts tl tv su D) q = some (e_W l i 20) := c_B hqo x_set_eq
      refine X_ld rfl rfl rfl rfl ?_
      refine X_ld rfl rfl rfl rfl ?_
      refine X_push (v := .int 0) rfl (by decide +kernel) ?_
      refine X_iald rfl hNq (by exact vp_in_nI (n := 0) (by omega) (by omega)) (v := .int (nI (e_pk l i 20 0))) rfl ?_
      refine X_ld rfl rfl rfl rfl ?_
      refine X_push (v := .int 1) rfl (by decide +kernel) ?_
      refine X_iald rfl hNq (by exact vp_in_nI (n := 1) (by omega) (by omega)) (v := .int (nI (e_pk l i 20 1))) rfl ?_
      refine X_ld rfl rfl rfl rfl ?_
      refine X_push (v := .int 2) rfl (by decide +kernel) ?_
      refine X_iald rfl hNq (by exact vp_in_nI (n := 2) (by omega) (by omega)) (v := .int (nI (e_pk l i 20 2))) rfl ?_
      refine X_ld rfl rfl rfl rfl ?_
      refine X_push (v := .int 3) rfl (by decide +kernel) ?_
      refine X_iald rfl hNq (by exact vp_in_nI (n := 3) (by omega) (by omega)) (v := .int (nI (e_pk l i 20 3))) rfl ?_
      refine X_ld rfl rfl rfl rfl ?_
      refine X_push (v := .int 4) rfl (by decide +kernel) ?_
      refine X_iald rfl hNq (by exact vp_in_nI (n := 4) (by omega) (by omega)) (v := .int (nI (e_pk l i 20 4))) rfl ?_
      refine X_vcall c_O l_L_X10_append (m_append hG d i hJ1 (by omega)) rfl rfl rfl rfl (Nat.le_of_ble_eq_true rfl) (Nat.le_of_ble_eq_true rfl) (by omega) (by omega) (by omega) ?_
      rw [if_pos (show i + 20 ≤ 800 by omega), if_pos (show i + 20 ≤ 800 by omega), show s_abJ J i = upd J 1 (nI (i + 20)) from if_pos (by omega)]
      refine X_if_ge rfl (fun _ => ?_) (fun c => absurd (nI_ge0 (by omega)) c)
      refine X_iinc rfl rfl rfl ?_
      refine X_goto rfl ?_
      refine X_cells (N' := cset B (upd J 1 (nI (i + 20))) (s_abx bf i (nI (e_pk l i 20 0)) (nI (e_pk l i 20 1)) (nI (e_pk l i 20 2)) (nI (e_pk l i 20 3)) (nI (e_pk l i 20 4))) K tk ts tl tv su D) (fun k c h => (y_le_set hBq).c k c h) ?_
      refine X_loc (L' := [some (.ref 64), some (.ref t), some (.int (nI (i + 20))), none, none]) ⟨rfl, rfl, congrArg Value.int (nI_add i 20).symm, trivial⟩ ?_
      exact X_room (by omega) (by omega) (ih (i + 20) _ _ (by omega) (by omega) updI_eq (fun j hj => (updI_ne hj).trans (hJ j hj)) (e_abx ha hbf) none none)
  refine X_push (v := .int 0) rfl (by decide +kernel) ?_
  refine X_st rfl rfl rfl ?_
  refine X_loc (L' := [some (.ref 64), some (.ref t), some (.int (nI 0)), none, none]) ⟨rfl, rfl, rfl, trivial⟩ ?_
  exact outer l.length 0 J0 bf0 (by omega) (by omega) hJ0 (fun _ _ => rfl) (fun j hj => absurd hj (Nat.not_lt_zero j)) none none
