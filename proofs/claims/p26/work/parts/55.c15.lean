/-! ===== the class: what a bit count counts ===== -/
def s_mk (m : Nat) : Nat → Nat
  | 0 => 0
  | k + 1 => m + 256 * s_mk m k
theorem s_ands {Y m M : Nat} (hm : m < 256) : Y &&& (m + 256 * M) = (Y % 256 &&& m) + 256 * (Y / 256 &&& M) := by
  have h := Nat.mod_add_div (Y &&& (m + 256 * M)) 256
  have h1 : (Y &&& (m + 256 * M)) % 256 = (Y % 256 &&& m) := by
    have e : (Y &&& (m + 256 * M)) % 2 ^ 8 = (Y % 2 ^ 8) &&& ((m + 256 * M) % 2 ^ 8) := Nat.and_mod_two_pow
    rw [show (2 : Nat) ^ 8 = 256 from rfl] at e
    rw [e, show (m + 256 * M) % 256 = m by omega]
  have h2 : (Y &&& (m + 256 * M)) / 256 = (Y / 256 &&& M) := by
    have e : (Y &&& (m + 256 * M)) / 2 ^ 8 = Y / 2 ^ 8 &&& (m + 256 * M) / 2 ^ 8 := Nat.and_div_two_pow
    rw [show (2 : Nat) ^ 8 = 256 from rfl] at e
    rw [e, show (m + 256 * M) / 256 = M by omega]
  rw [h1, h2] at h
  exact h.symm
def s_t1 (k X : Nat) : Nat := X - (X / 2 &&& s_mk 85 k)
def s_t2 (k X : Nat) : Nat := (X &&& s_mk 51 k) + (X / 4 &&& s_mk 51 k)
def s_t3 (k X : Nat) : Nat := X + X / 16 &&& s_mk 15 k
def s_g1 (b : Nat) : Nat := b - (b / 2 &&& 85)
def s_g2 (b : Nat) : Nat := (b &&& 51) + (b / 4 &&& 51)
def s_g (b : Nat) : Nat := s_g2 (s_g1 b) + s_g2 (s_g1 b) / 16 &&& 15
theorem s_t1_s {k b Y : Nat} (hb : b < 256) : s_t1 (k + 1) (b + 256 * Y) = s_g1 b + 256 * s_t1 k Y := by
  show b + 256 * Y - ((b + 256 * Y) / 2 &&& (85 + 256 * s_mk 85 k)) = (b - (b / 2 &&& 85)) + 256 * (Y - (Y / 2 &&& s_mk 85 k))
  have d1 := (by decide +kernel : ∀ b, b < 256 → ∀ z, z < 2 → (b / 2 + 128 * z &&& 85) = (b / 2 &&& 85)) b hb (Y % 2) (by omega)
  rw [s_ands (by decide), show (b + 256 * Y) / 2 % 256 = b / 2 + 128 * (Y % 2) by omega, show (b + 256 * Y) / 2 / 256 = Y / 2 by omega, d1]
  have h1 : (b / 2 &&& 85) ≤ b / 2 := Nat.and_le_left
  have h2 : (Y / 2 &&& s_mk 85 k) ≤ Y / 2 := Nat.and_le_left
  revert h1 h2
  generalize (b / 2 &&& 85) = p
  generalize (Y / 2 &&& s_mk 85 k) = q
  intro h1 h2
  omega
theorem s_t2_s {k b Y : Nat} (hb : b < 256) : s_t2 (k + 1) (b + 256 * Y) = s_g2 b + 256 * s_t2 k Y := by
  show (b + 256 * Y &&& (51 + 256 * s_mk 51 k)) + ((b + 256 * Y) / 4 &&& (51 + 256 * s_mk 51 k)) = ((b &&& 51) + (b / 4 &&& 51)) + 256 * ((Y &&& s_mk 51 k) + (Y / 4 &&& s_mk 51 k))
  have d1 := (by decide +kernel : ∀ b, b < 256 → ∀ z, z < 4 → (b / 4 + 64 * z &&& 51) = (b / 4 &&& 51)) b hb (Y % 4) (by omega)
  rw [s_ands (by decide), s_ands (by decide), show (b + 256 * Y) / 4 % 256 = b / 4 + 64 * (Y % 4) by omega, show (b + 256 * Y) / 4 / 256 = Y / 4 by omega, d1, show (b + 256 * Y) % 256 = b by omega, show (b + 256 * Y) / 256 = Y by omega]
  omega
theorem s_t3_s {k y Y : Nat} (hy : y < 69) (hY : Y % 16 < 5) : s_t3 (k + 1) (y + 256 * Y) = (y + y / 16 &&& 15) + 256 * s_t3 k Y := by
  show (y + 256 * Y + (y + 256 * Y) / 16 &&& (15 + 256 * s_mk 15 k)) = (y + y / 16 &&& 15) + 256 * (Y + Y / 16 &&& s_mk 15 k)
  have d1 := (by decide +kernel : ∀ y, y < 69 → ∀ z, z < 5 → (y + y / 16 + 16 * z &&& 15) = (y + y / 16 &&& 15)) y hy (Y % 16) hY
  rw [s_ands (by decide), show (y + 256 * Y + (y + 256 * Y) / 16) % 256 = y + y / 16 + 16 * (Y % 16) by omega, show (y + 256 * Y + (y + 256 * Y) / 16) / 256 = Y + Y / 16 by omega, d1]
theorem s_g1_lt : ∀ b, b < 256 → s_g1 b < 256 := by decide +kernel
theorem s_g2_lt : ∀ b, b < 256 → s_g2 (s_g1 b) < 69 := by decide +kernel
theorem s_g2_nib : ∀ b, b < 256 → s_g2 (s_g1 b) % 16 < 5 := by decide +kernel
theorem s_g_le : ∀ b, b < 256 → s_g b < 9 := by decide +kernel
theorem s_byte (X : Nat) : X = X % 256 + 256 * (X / 256) := by omega
theorem s_t12_s {k X : Nat} : s_t2 (k + 1) (s_t1 (k + 1) X) = s_g2 (s_g1 (X % 256)) + 256 * s_t2 k (s_t1 k (X / 256)) := by
  have hb : X % 256 < 256 := Nat.mod_lt _ (by decide)
  have e : s_t1 (k + 1) X = s_g1 (X % 256) + 256 * s_t1 k (X / 256) := by
    rw [← s_t1_s hb, ← s_byte X]
  rw [e, s_t2_s (s_g1_lt _ hb)]
theorem s_t12_nib {Y : Nat} : ∀ k, s_t2 k (s_t1 k Y) % 16 < 5
  | 0 => by
    show ((s_t1 0 Y &&& 0) + (s_t1 0 Y / 4 &&& 0)) % 16 < 5
    rw [Nat.and_zero, Nat.and_zero]
    decide
  | k + 1 => by
    rw [s_t12_s]
    have h := s_g2_nib (Y % 256) (Nat.mod_lt _ (by decide))
    omega
/-- the bit counts of the bytes -/
def s_sg : Nat → Nat → Nat
  | 0, _ => 0
  | k + 1, X => s_g (X % 256) + 256 * s_sg k (X / 256)
theorem s_F_sg : ∀ (k X : Nat), s_t3 k (s_t2 k (s_t1 k X)) = s_sg k X
  | 0, X => by
    show (_ : Nat) &&& 0 = 0
    rw [Nat.and_zero]
  | k + 1, X => by
    have hb : X % 256 < 256 := Nat.mod_lt _ (by decide)
    rw [s_t12_s, s_t3_s (s_g2_lt _ hb) (s_t12_nib k), s_F_sg k]
    rfl
def s_pc : Nat → Nat → Nat
  | 0, _ => 0
  | k + 1, X => s_g (X % 256) + s_pc k (X / 256)
theorem s_g_bit : ∀ n, n < 8 → ∀ X, X < 256 → X < 2 ^ n → s_g (X + 2 ^ n) = s_g X + 1 := by decide +kernel
theorem s_pc_bit : ∀ (k n X : Nat), n < 8 * k → X < 2 ^ n → s_pc k (X + 2 ^ n) = s_pc k X + 1
  | 0, n, X, h, _ => absurd h (by omega)
  | k + 1, n, X, h, hX => by
    show s_g ((X + 2 ^ n) % 256) + s_pc k ((X + 2 ^ n) / 256) = s_g (X % 256) + s_pc k (X / 256) + 1
    by_cases hn : n < 8
    · have h1 : 2 ^ n ≤ 2 ^ 7 := Nat.pow_le_pow_right (by decide) (by omega)
      have h2 : (2 : Nat) ^ 7 = 128 := rfl
      have h3 := fun hX2 => s_g_bit n hn X hX2 hX
      revert h1 h3 hX
      generalize 2 ^ n = m
      intro hX h1 h3
      rw [Nat.mod_eq_of_lt (by omega), Nat.div_eq_of_lt (by omega), h3 (by omega), show X % 256 = X by omega, show X / 256 = 0 by omega]
      omega
    · obtain ⟨r, rfl⟩ : ∃ r, n = r + 8 := ⟨n - 8, by omega⟩
      have e : (2 : Nat) ^ (r + 8) = 2 ^ r * 256 := Nat.pow_add 2 r 8
      rw [e] at hX ⊢
      have ih := s_pc_bit k r (X / 256) (by omega) (by omega)
      rw [Nat.add_mul_mod_self_right, Nat.add_mul_div_right _ _ (by decide), ih]
      omega
theorem s_sg_pc {X : Nat} (hX : X < 2 ^ 40) : ∃ a0 a1 a2 a3 a4 : Nat, a0 < 9 ∧ a1 < 9 ∧ a2 < 9 ∧ a3 < 9 ∧ a4 < 9 ∧ s_sg 8 X = a0 + 256 * (a1 + 256 * (a2 + 256 * (a3 + 256 * a4))) ∧ s_pc 5 X = a0 + (a1 + (a2 + (a3 + a4))) := by
  have e : X / 256 / 256 / 256 / 256 / 256 = 0 := by omega
  refine ⟨_, _, _, _, _, s_g_le _ (Nat.mod_lt X (by decide)), s_g_le _ (Nat.mod_lt (X / 256) (by decide)), s_g_le _ (Nat.mod_lt (X / 256 / 256) (by decide)), s_g_le _ (Nat.mod_lt (X / 256 / 256 / 256) (by decide)), s_g_le _ (Nat.mod_lt (X / 256 / 256 / 256 / 256) (by decide)), ?_, rfl⟩
  have e2 : s_sg 8 X = s_g (X % 256) + 256 * (s_g (X / 256 % 256) + 256 * (s_g (X / 256 / 256 % 256) + 256 * (s_g (X / 256 / 256 / 256 % 256) + 256 * (s_g (X / 256 / 256 / 256 / 256 % 256) + 256 * s_sg 3 (X / 256 / 256 / 256 / 256 / 256))))) := rfl
  rw [e2, e, show s_sg 3 0 = 0 by decide +kernel]
  first | done | rfl
theorem s_us_n {x : Int64} {k : Int32} (m : Nat) (hm : m < 64) (h : (k.toInt64.toUInt64 &&& Int64.toUInt64 63).toBitVec % 64 = BitVec.ofNat 64 m) : (s_us x k).toBitVec.toNat = x.toBitVec.toNat / 2 ^ m := by
  show (x.toUInt64 >>> (k.toInt64.toUInt64 &&& Int64.toUInt64 63)).toBitVec.toNat = _
  rw [UInt64.toBitVec_shiftRight, h, BitVec.ushiftRight_eq', BitVec.toNat_ushiftRight, BitVec.toNat_ofNat, show m % 2 ^ 64 = m from Nat.mod_eq_of_lt (by omega), Nat.shiftRight_eq_div_pow]
  first | done | rfl
theorem s_us_1 {x : Int64} : (s_us x 1).toBitVec.toNat = x.toBitVec.toNat / 2 := s_us_n (k := 1) 1 (by decide) (by decide +kernel)
theorem s_us_2 {x : Int64} : (s_us x 2).toBitVec.toNat = x.toBitVec.toNat / 4 := s_us_n (k := 2) 2 (by decide) (by decide +kernel)
theorem s_us_4 {x : Int64} : (s_us x 4).toBitVec.toNat = x.toBitVec.toNat / 16 := s_us_n (k := 4) 4 (by decide) (by decide +kernel)
theorem s_us_8 {x : Int64} : (s_us x 8).toBitVec.toNat = x.toBitVec.toNat / 256 := s_us_n (k := 8) 8 (by decide) (by decide +kernel)
theorem s_us_16 {x : Int64} : (s_us x 16).toBitVec.toNat = x.toBitVec.toNat / 65536 := s_us_n (k := 16) 16 (by decide) (by decide +kernel)
theorem s_us_32 {x : Int64} : (s_us x 32).toBitVec.toNat = x.toBitVec.toNat / 4294967296 := s_us_n (k := 32) 32 (by decide) (by decide +kernel)
theorem s_dv {r q m A : Nat} (hm : 0 < m) (hA : A = r + m * q) (hr : r < m) : A / m = q := by
  rw [hA, Nat.add_mul_div_left _ _ hm, Nat.div_eq_of_lt hr, Nat.zero_add]
theorem s_md {r q m A : Nat} (hA : A = r + m * q) (hr : r < m) : A % m = r := by
  rw [hA, Nat.add_mul_mod_self_left, Nat.mod_eq_of_lt hr]
theorem s_bc_pc {x : Int64} (hx : x.toBitVec.toNat < 2 ^ 40) : s_bc x = nI (s_pc 5 x.toBitVec.toNat) := by
  have hx' : x.toBitVec.toNat < 1099511627776 := hx
  have m5 : (6148914691236517205 : Int64).toBitVec.toNat = s_mk 85 8 := by decide +kernel
  have m3 : (3689348814741910323 : Int64).toBitVec.toNat = s_mk 51 8 := by decide +kernel
  have mF : (1085102592571150095 : Int64).toBitVec.toNat = s_mk 15 8 := by decide +kernel
  have m3v : s_mk 51 8 = 3689348814741910323 := by decide +kernel
  have p2 : (2 : Nat) ^ 64 = 18446744073709551616 := by decide
  have e1 : (s_b1 x).toBitVec.toNat = s_t1 8 x.toBitVec.toNat := by
    have h0 : (s_us x 1 &&& 6148914691236517205).toBitVec.toNat = (x.toBitVec.toNat / 2 &&& s_mk 85 8) := by
      rw [Int64.toBitVec_and, BitVec.toNat_and, s_us_1, m5]
    have h1 : (x.toBitVec.toNat / 2 &&& s_mk 85 8) ≤ x.toBitVec.toNat / 2 := Nat.and_le_left
    show (x - (s_us x 1 &&& 6148914691236517205)).toBitVec.toNat = _
    rw [Int64.toBitVec_sub, BitVec.toNat_sub_of_le (BitVec.le_def.mpr (by rw [h0]; omega)), h0]
    first | done | rfl
  have e2 : (s_b2 (s_b1 x)).toBitVec.toNat = s_t2 8 (s_t1 8 x.toBitVec.toNat) := by
    show (((s_b1 x) &&& 3689348814741910323) + (s_us (s_b1 x) 2 &&& 3689348814741910323)).toBitVec.toNat = _
    have h1 : (s_t1 8 x.toBitVec.toNat &&& s_mk 51 8) ≤ s_mk 51 8 := Nat.and_le_right
    have h2 : (s_t1 8 x.toBitVec.toNat / 4 &&& s_mk 51 8) ≤ s_mk 51 8 := Nat.and_le_right
    rw [Int64.toBitVec_add, BitVec.toNat_add, Int64.toBitVec_and, Int64.toBitVec_and, BitVec.toNat_and, BitVec.toNat_and, s_us_2, m3, e1, p2]
    exact Nat.mod_eq_of_lt (show (s_t1 8 x.toBitVec.toNat &&& s_mk 51 8) + (s_t1 8 x.toBitVec.toNat / 4 &&& s_mk 51 8) < _ by omega)
  have b2 : s_t2 8 (s_t1 8 x.toBitVec.toNat) ≤ 2 * s_mk 51 8 := by
    have h1 : (s_t1 8 x.toBitVec.toNat &&& s_mk 51 8) ≤ s_mk 51 8 := Nat.and_le_right
    have h2 : (s_t1 8 x.toBitVec.toNat / 4 &&& s_mk 51 8) ≤ s_mk 51 8 := Nat.and_le_right
    unfold s_t2
    omega
  have e3 : (s_b3 (s_b2 (s_b1 x))).toBitVec.toNat = s_sg 8 x.toBitVec.toNat := by
    rw [← s_F_sg]
    show ((s_b2 (s_b1 x) + s_us (s_b2 (s_b1 x)) 4) &&& 1085102592571150095).toBitVec.toNat = _
    rw [Int64.toBitVec_and, BitVec.toNat_and, Int64.toBitVec_add, BitVec.toNat_add, s_us_4, mF, e2, p2]
    revert b2
    generalize s_t2 8 (s_t1 8 x.toBitVec.toNat) = Z
    intro b2
    rw [show (Z + Z / 16) % 18446744073709551616 = Z + Z / 16 by omega]
    first | done | rfl
  obtain ⟨a0, a1, a2, a3, a4, g0, g1, g2, g3, g4, hA, hP⟩ := s_sg_pc hx
  rw [hP]
  rw [hA] at e3
  have f1 : (s_b4 (s_b3 (s_b2 (s_b1 x))) 8).toBitVec.toNat = (a0 + a1) + 256 * (a1 + a2) + 65536 * (a2 + a3) + 16777216 * (a3 + a4) + 4294967296 * a4 := by
    show (s_b3 (s_b2 (s_b1 x)) + s_us (s_b3 (s_b2 (s_b1 x))) 8).toBitVec.toNat = _
    rw [Int64.toBitVec_add, BitVec.toNat_add, s_us_8, e3, p2]
    omega
  have f2 : (s_b4 (s_b4 (s_b3 (s_b2 (s_b1 x))) 8) 16).toBitVec.toNat = (a0 + a1 + a2 + a3) + 256 * (a1 + a2 + a3 + a4) + 65536 * (a2 + a3 + a4) + 16777216 * (a3 + a4) + 4294967296 * a4 := by
    show (s_b4 (s_b3 (s_b2 (s_b1 x))) 8 + s_us (s_b4 (s_b3 (s_b2 (s_b1 x))) 8) 16).toBitVec.toNat = _
    rw [Int64.toBitVec_add, BitVec.toNat_add, s_us_16, f1, p2, s_dv (m := 65536) (r := (a0 + a1) + 256 * (a1 + a2)) (q := (a2 + a3) + 256 * (a3 + a4) + 65536 * a4) (by decide) (by omega) (by omega)]
    refine (Nat.mod_eq_of_lt (by omega)).trans (by omega)
  have f3 : (s_b4 (s_b4 (s_b4 (s_b3 (s_b2 (s_b1 x))) 8) 16) 32).toBitVec.toNat = (a0 + a1 + a2 + a3 + a4) + 256 * (a1 + a2 + a3 + a4) + 65536 * (a2 + a3 + a4) + 16777216 * (a3 + a4) + 4294967296 * a4 := by
    show (s_b4 (s_b4 (s_b3 (s_b2 (s_b1 x))) 8) 16 + s_us (s_b4 (s_b4 (s_b3 (s_b2 (s_b1 x))) 8) 16) 32).toBitVec.toNat = _
    rw [Int64.toBitVec_add, BitVec.toNat_add, s_us_32, f2, p2, s_dv (m := 4294967296) (r := (a0 + a1 + a2 + a3) + 256 * (a1 + a2 + a3 + a4) + 65536 * (a2 + a3 + a4) + 16777216 * (a3 + a4)) (q := a4) (by decide) (by omega) (by omega)]
    refine (Nat.mod_eq_of_lt (by omega)).trans (by omega)
  unfold s_bc
  revert f3
  generalize s_b4 (s_b4 (s_b4 (s_b3 (s_b2 (s_b1 x))) 8) 16) 32 = y
  intro f3
  refine Int32.toBitVec_inj.mp (BitVec.eq_of_toNat_eq ?_)
  have h7 := Nat.and_two_pow_sub_one_eq_mod (y.toBitVec.toNat % 4294967296) 7
  rw [show (2 : Nat) ^ 7 - 1 = 127 from rfl, show (2 : Nat) ^ 7 = 128 from rfl] at h7
  rw [Int32.toBitVec_and, Int64.toBitVec_toInt32, BitVec.signExtend_eq_setWidth_of_le _ (by decide), BitVec.toNat_and, BitVec.toNat_setWidth, show (127 : Int32).toBitVec.toNat = 127 by decide, show (2 : Nat) ^ 32 = 4294967296 from rfl, h7, show (nI (a0 + (a1 + (a2 + (a3 + a4))))).toBitVec = BitVec.ofNat 32 (a0 + (a1 + (a2 + (a3 + a4)))) from rfl, BitVec.toNat_ofNat, f3, show (2 : Nat) ^ 32 = 4294967296 from rfl, s_md (m := 4294967296) (r := (a0 + a1 + a2 + a3 + a4) + 256 * (a1 + a2 + a3 + a4) + 65536 * (a2 + a3 + a4) + 16777216 * (a3 + a4)) (q := a4) (by omega) (by omega), s_md (m := 128) (r := a0 + a1 + a2 + a3 + a4) (q := 2 * (a1 + a2 + a3 + a4) + 512 * (a2 + a3 + a4) + 131072 * (a3 + a4)) (by omega) (by omega), Nat.mod_eq_of_lt (show a0 + (a1 + (a2 + (a3 + a4))) < 4294967296 by omega)]
  omega
/-- how many below n -/
def s_ce (E : Nat → Bool) : Nat → Int32
  | 0 => 0
  | n + 1 => s_ce E n + (bif E n then 1 else 0)
theorem s_me_pc {E : Nat → Bool} : ∀ n, n ≤ 40 → (s_me E n).toBitVec.toNat < 2 ^ n ∧ nI (s_pc 5 (s_me E n).toBitVec.toNat) = s_ce E n
  | 0, _ => by
    refine ⟨?_, ?_⟩
    · show (0 : Int64).toBitVec.toNat < 2 ^ 0
      decide
    · show nI (s_pc 5 (0 : Int64).toBitVec.toNat) = 0
      decide +kernel
  | n + 1, hn => by
    obtain ⟨h1, h2⟩ := s_me_pc n (by omega)
    have hp : (2 : Nat) ^ (n + 1) = 2 ^ n * 2 := Nat.pow_succ _ _
    show (s_me E n ||| (bif E n then s_bit n else 0)).toBitVec.toNat < 2 ^ (n + 1) ∧ nI (s_pc 5 (s_me E n ||| (bif E n then s_bit n else 0)).toBitVec.toNat) = s_ce E n + (bif E n then 1 else 0)
    cases hE : E n with
    | true =>
      have e : (s_me E n ||| (bif true then s_bit n else 0)).toBitVec.toNat = (s_me E n).toBitVec.toNat + 2 ^ n := by
        have h3 := Nat.two_pow_add_eq_or_of_lt h1 1
        rw [Nat.mul_one] at h3
        show (s_me E n ||| s_bit n).toBitVec.toNat = _
        rw [Int64.toBitVec_or, BitVec.toNat_or, s_bit_tw n (by omega), BitVec.toNat_twoPow_of_lt (by omega), Nat.or_comm, ← h3, Nat.add_comm]
      rw [e, s_pc_bit 5 n _ (by omega) h1, hp, ← nI_1, h2]
      exact ⟨by omega, rfl⟩
    | false =>
      have e : (s_me E n ||| (bif false then s_bit n else 0)).toBitVec.toNat = (s_me E n).toBitVec.toNat := by
        show (s_me E n ||| 0).toBitVec.toNat = _
        rw [Int64.toBitVec_or, BitVec.toNat_or, show (0 : Int64).toBitVec.toNat = 0 by decide, Nat.or_zero]
      rw [e, h2, hp]
      refine ⟨by omega, ?_⟩
      show s_ce E n = s_ce E n + 0
      simp
theorem s_bc_me {E : Nat → Bool} {n : Nat} (hn : n ≤ 40) : s_bc (s_me E n) = s_ce E n := by
  obtain ⟨h1, h2⟩ := s_me_pc (E := E) n hn
  rw [s_bc_pc (Nat.lt_of_lt_of_le h1 (Nat.pow_le_pow_right (by decide) hn)), h2]
theorem s_tch_ce {c gv : Nat → Int32} {k : Nat} : ∀ n, s_tch c gv k n = s_ce (fun l => s_tru c gv k l) n
  | 0 => rfl
  | n + 1 => by
    show s_tch c gv k n + _ = s_ce _ n + _
    rw [s_tch_ce n]
theorem s_cnt_ce {c gv : Nat → Int32} {s : Nat} : ∀ n, s_cnt c gv s n = s_ce (fun l => s_find c gv s l) n
  | 0 => rfl
  | n + 1 => by
    show s_cnt c gv s n + _ = s_ce _ n + _
    rw [s_cnt_ce n]
theorem x_max_comm (x y : Int32) : x_max x y = x_max y x := by
  unfold x_max
  by_cases h1 : x < y
  · rw [if_pos h1, if_neg (fun h2 => by have a := Int32.lt_iff_toInt_lt.mp h1; have b := Int32.lt_iff_toInt_lt.mp h2; omega)]
  · rw [if_neg h1]
    by_cases h2 : y < x
    · rw [if_pos h2]
    · rw [if_neg h2]
      exact Int32.toInt_inj.mp (by have a := mt Int32.lt_iff_toInt_lt.mpr h1; have b := mt Int32.lt_iff_toInt_lt.mpr h2; omega)

