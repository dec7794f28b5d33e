/-! ===== the class's reader: its cells ===== -/
/-- the reader's object -/
def rO (i st ht : Nat) (er ea : Int32) : Nat → Value := fun k => match k with
  | 0 => .ref 66
  | 1 => .ref (75 + 20 * i)
  | 2 => .ref st
  | 3 => .ref ht
  | 4 => .int er
  | _ => .int ea
/-- the reader and the Setup that it fills, over the other cells B: names ρ: reader, Setup, its names, its types, the holes' types, the list of statements -/
def rset (B : XH) (ρ : Nat → Nat) (i : Nat) (er ea : Int32) (sv : Nat → Int32) (nm : Nat → Int64) (ty hv : Nat → Int32) : XH := fun k =>
  if k = ρ 0 then some (.inl (6, rO i (ρ 1) (ρ 4) er ea)) else
  if k = ρ 1 then some (.inl (5, stV (ρ 2) (ρ 3) (ρ 5) sv)) else
  if k = ρ 2 then some (.inr (true, .long, 5, fun j => .long (nm j))) else
  if k = ρ 3 then some (.inr (true, .int, 5, fun j => .int (ty j))) else
  if k = ρ 4 then some (.inr (true, .int, 4, fun j => .int (hv j))) else B k
/-- these names are apart, and nothing else lies there -/
def y_ds (ρ : Nat → Nat) (B : XH) : Prop := (∀ i j, i < 5 → j < 5 → ρ i = ρ j → i = j) ∧ ∀ i, i < 5 → s_out (ρ i) ∧ B (ρ i) = none ∧ 64 ≤ ρ i
section RS
variable {B : XH} {ρ : Nat → Nat} {i k : Nat} {er ea x : Int32} {sv ty hv : Nat → Int32} {nm : Nat → Int64} {z : Int64} {c : XC}
theorem y_ds.ne (h : y_ds ρ B) (a b : Nat) (ha : a < 5) (hb : b < 5) (hab : a ≠ b) : ¬ ρ a = ρ b := fun e => hab (h.1 a b ha hb e)
theorem y_ds.o (h : y_ds ρ B) (a : Nat) (ha : a < 5) : s_out (ρ a) := (h.2 a ha).1
theorem rs_r : rset B ρ i er ea sv nm ty hv (ρ 0) = some (.inl (6, rO i (ρ 1) (ρ 4) er ea)) := if_pos rfl
theorem rs_st (h : y_ds ρ B) : rset B ρ i er ea sv nm ty hv (ρ 1) = some (.inl (5, stV (ρ 2) (ρ 3) (ρ 5) sv)) := by
  unfold rset
  rw [if_neg (h.ne 1 0 (by decide) (by decide) (by decide)), if_pos rfl]
theorem rs_a1 (h : y_ds ρ B) : rset B ρ i er ea sv nm ty hv (ρ 2) = some (.inr (true, .long, 5, fun j => .long (nm j))) := by
  unfold rset
  rw [if_neg (h.ne 2 0 (by decide) (by decide) (by decide)), if_neg (h.ne 2 1 (by decide) (by decide) (by decide)), if_pos rfl]
theorem rs_a2 (h : y_ds ρ B) : rset B ρ i er ea sv nm ty hv (ρ 3) = some (.inr (true, .int, 5, fun j => .int (ty j))) := by
  unfold rset
  rw [if_neg (h.ne 3 0 (by decide) (by decide) (by decide)), if_neg (h.ne 3 1 (by decide) (by decide) (by decide)), if_neg (h.ne 3 2 (by decide) (by decide) (by decide)), if_pos rfl]
theorem rs_ht (h : y_ds ρ B) : rset B ρ i er ea sv nm ty hv (ρ 4) = some (.inr (true, .int, 4, fun j => .int (hv j))) := by
  unfold rset
  rw [if_neg (h.ne 4 0 (by decide) (by decide) (by decide)), if_neg (h.ne 4 1 (by decide) (by decide) (by decide)), if_neg (h.ne 4 2 (by decide) (by decide) (by decide)), if_neg (h.ne 4 3 (by decide) (by decide) (by decide)), if_pos rfl]
theorem rs_out (h : ∀ a, a < 5 → ¬ k = ρ a) : rset B ρ i er ea sv nm ty hv k = B k := by
  unfold rset
  rw [if_neg (h 0 (by decide)), if_neg (h 1 (by decide)), if_neg (h 2 (by decide)), if_neg (h 3 (by decide)), if_neg (h 4 (by decide))]
theorem y_ds.nB (h : y_ds ρ B) (hk : B k = some c) : ∀ a, a < 5 → ¬ k = ρ a := fun a ha e => by
  have := (h.2 a ha).2.1
  rw [← e, hk] at this
  cases this
theorem rs_B (h : y_ds ρ B) (hk : B k = some c) : rset B ρ i er ea sv nm ty hv k = some c := (rs_out (h.nB hk)).trans hk
theorem rs_none (h : rset B ρ i er ea sv nm ty hv k = none) : (∀ a, a < 5 → ¬ k = ρ a) ∧ B k = none := by
  have hn : ∀ a, a < 5 → ¬ k = ρ a := fun a ha e => by
    have h5 : a = 0 ∨ a = 1 ∨ a = 2 ∨ a = 3 ∨ a = 4 := by omega
    unfold rset at h
    rcases h5 with rfl | rfl | rfl | rfl | rfl
    · rw [if_pos e] at h; cases h
    · by_cases e0 : k = ρ 0
      · rw [if_pos e0] at h; cases h
      · rw [if_neg e0, if_pos e] at h; cases h
    · by_cases e0 : k = ρ 0
      · rw [if_pos e0] at h; cases h
      · rw [if_neg e0] at h
        by_cases e1 : k = ρ 1
        · rw [if_pos e1] at h; cases h
        · rw [if_neg e1, if_pos e] at h; cases h
    · by_cases e0 : k = ρ 0
      · rw [if_pos e0] at h; cases h
      · rw [if_neg e0] at h
        by_cases e1 : k = ρ 1
        · rw [if_pos e1] at h; cases h
        · rw [if_neg e1] at h
          by_cases e2 : k = ρ 2
          · rw [if_pos e2] at h; cases h
          · rw [if_neg e2, if_pos e] at h; cases h
    · by_cases e0 : k = ρ 0
      · rw [if_pos e0] at h; cases h
      · rw [if_neg e0] at h
        by_cases e1 : k = ρ 1
        · rw [if_pos e1] at h; cases h
        · rw [if_neg e1] at h
          by_cases e2 : k = ρ 2
          · rw [if_pos e2] at h; cases h
          · rw [if_neg e2] at h
            by_cases e3 : k = ρ 3
            · rw [if_pos e3] at h; cases h
            · rw [if_neg e3, if_pos e] at h; cases h
  exact ⟨hn, by rw [rs_out hn] at h; exact h⟩
/-- a cell beside is written or made -/
theorem rs_set (h : ∀ a, a < 5 → ¬ k = ρ a) : x_set (rset B ρ i er ea sv nm ty hv) k c = rset (x_set B k c) ρ i er ea sv nm ty hv := by
  funext q
  by_cases e : q = k
  · rw [e, x_set_eq, rs_out h, x_set_eq]
  · rw [x_set_ne e]
    by_cases g : ∀ a, a < 5 → ¬ q = ρ a
    · rw [rs_out g, rs_out g, x_set_ne e]
    · unfold rset
      by_cases e0 : q = ρ 0
      · rw [if_pos e0, if_pos e0]
      · rw [if_neg e0, if_neg e0]
        by_cases e1 : q = ρ 1
        · rw [if_pos e1, if_pos e1]
        · rw [if_neg e1, if_neg e1]
          by_cases e2 : q = ρ 2
          · rw [if_pos e2, if_pos e2]
          · rw [if_neg e2, if_neg e2]
            by_cases e3 : q = ρ 3
            · rw [if_pos e3, if_pos e3]
            · rw [if_neg e3, if_neg e3]
              by_cases e4 : q = ρ 4
              · rw [if_pos e4, if_pos e4]
              · rw [if_neg e4, if_neg e4, x_set_ne e]
theorem w_er : x_set (rset B ρ i er ea sv nm ty hv) (ρ 0) (.inl (6, updV (rO i (ρ 1) (ρ 4) er ea) 4 (.int x))) = rset B ρ i x ea sv nm ty hv := by
  have e1 : updV (rO i (ρ 1) (ρ 4) er ea) 4 (.int x) = rO i (ρ 1) (ρ 4) x ea := by
    funext j
    exact match j with
      | 0 => rfl
      | 1 => rfl
      | 2 => rfl
      | 3 => rfl
      | 4 => rfl
      | j + 5 => rfl
  rw [e1]
  funext q
  unfold x_set rset
  by_cases e : q = ρ 0
  · rw [if_pos e, if_pos e]
  · rw [if_neg e, if_neg e, if_neg e]
theorem rO_5 : ∀ k, k < 6 → updV (rO i (ρ 1) (ρ 4) er ea) 5 (.int x) k = rO i (ρ 1) (ρ 4) er x k := by
  intro k hk
  have h6 : k = 0 ∨ k = 1 ∨ k = 2 ∨ k = 3 ∨ k = 4 ∨ k = 5 := by omega
  rcases h6 with rfl | rfl | rfl | rfl | rfl | rfl <;> rfl
theorem w_ea : x_set (rset B ρ i er ea sv nm ty hv) (ρ 0) (.inl (6, rO i (ρ 1) (ρ 4) er x)) = rset B ρ i er x sv nm ty hv := by
  funext q
  unfold x_set rset
  by_cases e : q = ρ 0
  · rw [if_pos e, if_pos e]
  · rw [if_neg e, if_neg e, if_neg e]
theorem w_hv (h : y_ds ρ B) : x_set (rset B ρ i er ea sv nm ty hv) (ρ 4) (.inr (true, .int, 4, updV (fun j => .int (hv j)) k (.int x))) = rset B ρ i er ea sv nm ty (upd hv k x) := by
  rw [updV_int]
  funext q
  by_cases e : q = ρ 4
  · rw [e, x_set_eq, rs_ht h]
  · rw [x_set_ne e]
    unfold rset
    rw [if_neg e, if_neg e]
end RS
/-- the reader reads at p -/
def z_at (tx bf : Nat → Int32) (n c : Nat) (K : Nat → Int32) (tl : Int64) (p : Nat) : Prop := p ≤ n ∧ ∃ j, j < c ∧ z_ps tx n j = l_sk tx n p ∧ K 3 = nI c ∧ K 4 = nI (j + 1) ∧ K 5 = z_tk bf tx n (l_sk tx n p) ∧ K 6 = nI (l_sk tx n p) ∧ tl = z_tv bf tx n (l_sk tx n p)
/-- the reader has met an error -/
def z_er (K : Nat → Int32) : Prop := K 3 = nI 0 ∧ K 5 = 256 ∧ ∃ j, j ≤ 801 ∧ K 4 = nI j
theorem z_at_sk {tx bf K : Nat → Int32} {n c p : Nat} {tl : Int64} (h : z_at tx bf n c K tl p) : z_at tx bf n c K tl (l_sk tx n p) := by
  obtain ⟨h1, j, h2, h3, h4⟩ := h
  rw [← l_sk_sk h1] at h3 h4
  exact ⟨(l_sk_le h1).2, j, h2, h3, h4⟩
theorem z_adv {tx bf K tk ts : Nat → Int32} {tv : Nat → Int64} {n c p j : Nat} {tl : Int64} (hsp : z_split bf tx n tk ts tv c) (hp : p ≤ n) (hj : j < c) (hz : z_ps tx n j = l_sk tx n p) (h3 : K 3 = nI c) (hq : l_sk tx n p < n) : z_at tx bf n c (y_adK K tk ts c (j + 1)) (y_adl tl tv c (j + 1)) (z_te tx n (l_sk tx n p)) := by
  obtain ⟨hc, hlast, hlt, hf⟩ := hsp
  have hjc : j + 1 < c := by
    by_cases e : j = c - 1
    · rw [← e, hz] at hlast; omega
    · omega
  have hte := z_te_gt (tx := tx) hq
  have hz2 : z_ps tx n (j + 1) = l_sk tx n (z_te tx n (l_sk tx n p)) := by show l_sk tx n (z_te tx n (z_ps tx n j)) = _; rw [hz]
  obtain ⟨f1, f2, f3⟩ := hf (j + 1) hjc
  refine ⟨hte.2, j + 1, hjc, hz2, ?_, ?_, ?_, ?_, ?_⟩
  · unfold y_adK; rw [if_pos hjc, updI_ne (by decide), updI_ne (by decide), updI_ne (by decide)]; exact h3
  · unfold y_adK; rw [if_pos hjc, updI_eq]
  · unfold y_adK; rw [if_pos hjc, updI_ne (by decide), updI_ne (by decide), updI_eq, f1, hz2]
  · unfold y_adK; rw [if_pos hjc, updI_ne (by decide), updI_eq, f2, hz2]
  · unfold y_adl; rw [if_pos hjc, f3, hz2]
theorem y_upd_self {f : Nat → Int32} {k : Nat} {x : Int32} (h : f k = x) : upd f k x = f := by
  funext j
  unfold upd
  by_cases e : j = k
  · rw [if_pos e, e, h]
  · rw [if_neg e]
theorem z_adX {K tk ts : Nat → Int32} {tv : Nat → Int64} {j : Nat} {tl : Int64} (h : K 5 = 256) : y_adK K tk ts 0 j = K ∧ y_adl tl tv 0 j = tl := by
  unfold y_adK y_adl
  rw [if_neg (Nat.not_lt_zero _), if_neg (Nat.not_lt_zero _)]
  exact ⟨y_upd_self h, rfl⟩
theorem z_er_mk {K : Nat → Int32} {j : Nat} (h : K 4 = nI j) (hj : j ≤ 801) : z_er (upd (upd K 3 0) 5 256) := ⟨by rw [updI_ne (by decide), updI_eq]; rfl, updI_eq, j, hj, by rw [updI_ne (by decide), updI_ne (by decide)]; exact h⟩
/-- what a method of the reader leaves: an error and its place, or where it goes on and a value -/
def x_QR {α : Type} (tx bf : Nat → Int32) (n c : Nat) (F : Int32 → Int32 → (Nat → Int32) → Int64 → XH) (ea : Int32) (R : LE (Nat × α)) (val : α → Option Value) (re : Option Value) : XH → Option Value → Prop := fun N r => match R with
  | .inl (e, a) => ¬ e = 0 ∧ ∃ K tl, z_er K ∧ N = F e (nI a) K tl ∧ r = re
  | .inr (q, x) => ∃ K tl, z_at tx bf n c K tl q ∧ N = F 0 ea K tl ∧ r = val x
theorem x_QRe {α : Type} {tx bf : Nat → Int32} {n c : Nat} {F : Int32 → Int32 → (Nat → Int32) → Int64 → XH} {ea e : Int32} {a : Nat} {R : LE (Nat × α)} {val : α → Option Value} {re : Option Value} {N : XH} {r : Option Value} {K : Nat → Int32} {tl : Int64} (hR : R = .inl (e, a)) (he : ¬ e = 0) (hK : z_er K) (hN : N = F e (nI a) K tl) (hr : r = re) : x_QR tx bf n c F ea R val re N r := by rw [hR]; exact ⟨he, K, tl, hK, hN, hr⟩
theorem x_QRo {α : Type} {tx bf : Nat → Int32} {n c : Nat} {F : Int32 → Int32 → (Nat → Int32) → Int64 → XH} {ea : Int32} {q : Nat} {x : α} {R : LE (Nat × α)} {val : α → Option Value} {re : Option Value} {N : XH} {r : Option Value} {K : Nat → Int32} {tl : Int64} (hR : R = .inr (q, x)) (hK : z_at tx bf n c K tl q) (hN : N = F 0 ea K tl) (hr : r = val x) : x_QR tx bf n c F ea R val re N r := by rw [hR]; exact ⟨K, tl, hK, hN, hr⟩
theorem p_fail {G : XE} (hG : x_Kn G) (hK : x_KS G) {B : XH} {J bf K tk ts : Nat → Int32} {tl : Int64} {tv : Nat → Int64} {su : Nat → Nat} {D : Nat → Nat → Int32} {ρ : Nat → Nat} (hρ : y_ds ρ B) {i : Nat} {er ea : Int32} {sv ty hv : Nat → Int32} {nm : Nat → Int64} (d : Nat) {x y : Int32} (he : er = 0) : x_M G mX6_fail d 0 0 [.ref (ρ 0), .int x, .int y] (cset (rset B ρ i er ea sv nm ty hv) J bf K tk ts tl tv su D) (x_RetV (cset (rset B ρ i x y sv nm ty hv) J bf (upd (upd K 3 0) 5 256) tk ts tl tv su D)) x_noX := by
  refine X_M hG okX6_fail rfl (L := [some (.ref (ρ 0)), some (.int x), some (.int y)]) rfl (Nat.le_of_ble_eq_true rfl) (fun ad0 nb0 => ?_)
  refine X_ld rfl rfl rfl rfl ?_
  refine X_get f_X6_98 rfl (c_B (hρ.o 0 (by decide)) rs_r) (v := .int 0) (congrArg Value.int he) ?_
  refine X_if_ne rfl (fun c4 => absurd rfl c4) (fun c4 => ?_)
  refine X_ld rfl rfl rfl rfl ?_
  refine X_ld rfl rfl rfl rfl ?_
  refine X_put f_X6_98 rfl (c_B (hρ.o 0 (by decide)) rs_r) ⟨rfl, rfl⟩ ?_
  refine X_heap (N' := cset (rset B ρ i x ea sv nm ty hv) J bf K tk ts tl tv su D) (by rw [y_set (hρ.o 0 (by decide)), w_er]) ?_
  refine X_ld rfl rfl rfl rfl ?_
  refine X_ld rfl rfl rfl rfl ?_
  refine X_put f_X6_22 rfl (c_B (hρ.o 0 (by decide)) rs_r) ⟨rfl, rfl⟩ ?_
  refine X_recell (n := 6) rfl rO_5 ?_
  refine X_heap (N' := cset (rset B ρ i x y sv nm ty hv) J bf K tk ts tl tv su D) (by rw [y_set (hρ.o 0 (by decide)), w_ea]) ?_
  refine X_ld rfl rfl rfl rfl ?_
  refine X_get f_X6_26 rfl (c_B (hρ.o 0 (by decide)) rs_r) rfl ?_
  refine X_push (v := .int 0) rfl (by decide +kernel) ?_
  refine X_put f_X6_101 rfl c_T ⟨rfl, rfl⟩ ?_
  refine X_heap (w_T (k := 3) (fun _ => rfl)) ?_
  refine X_ld rfl rfl rfl rfl ?_
  refine X_get f_X6_26 rfl (c_B (hρ.o 0 (by decide)) rs_r) rfl ?_
  refine X_push (v := .int 256) rfl (by decide +kernel) ?_
  refine X_put f_X6_85 rfl c_T ⟨rfl, rfl⟩ ?_
  refine X_heap (w_T (k := 5) (fun _ => rfl)) ?_
  exact X_vret rfl rfl ⟨rfl, rfl⟩ (Nat.le_of_ble_eq_true rfl) (Nat.le_of_ble_eq_true rfl)
theorem p_failX {G : XE} (hG : x_Kn G) (hK : x_KS G) {B : XH} {J bf K tk ts : Nat → Int32} {tl : Int64} {tv : Nat → Int64} {su : Nat → Nat} {D : Nat → Nat → Int32} {ρ : Nat → Nat} (hρ : y_ds ρ B) {i : Nat} {er ea : Int32} {sv ty hv : Nat → Int32} {nm : Nat → Int64} (d : Nat) {x y : Int32} (he : ¬ er = 0) : x_M G mX6_fail d 0 0 [.ref (ρ 0), .int x, .int y] (cset (rset B ρ i er ea sv nm ty hv) J bf K tk ts tl tv su D) (x_RetV (cset (rset B ρ i er ea sv nm ty hv) J bf K tk ts tl tv su D)) x_noX := by
  refine X_M hG okX6_fail rfl (L := [some (.ref (ρ 0)), some (.int x), some (.int y)]) rfl (Nat.le_of_ble_eq_true rfl) (fun ad0 nb0 => ?_)
  refine X_ld rfl rfl rfl rfl ?_
  refine X_get f_X6_98 rfl (c_B (hρ.o 0 (by decide)) rs_r) rfl ?_
  refine X_if_ne rfl (fun c4 => ?_) (fun c4 => absurd c4 he)
  exact X_vret rfl rfl ⟨rfl, rfl⟩ (Nat.le_of_ble_eq_true rfl) (Nat.le_of_ble_eq_true rfl)

