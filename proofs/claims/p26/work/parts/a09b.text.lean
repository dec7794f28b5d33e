/-! ===== the prepare line, the rows, the whole text (by hand) ===== -/
section PRS
variable {tx : Nat → Int32} {n m w f h fr p q k : Nat} {z : Bool} {t wi v c kd : Int32} {rd rd1 rd2 : Nat → Int32}
theorem prs0_cmp (h1 : l_isw tx n p (x_w 4) = false) (h2 : ¬ l_see tx n p = 40) : l_prs tx n m w (f + 1) 0 z h fr p rd = l_cmp tx n m w (n_ (rd 9)) z (l_sk tx n p) rd := by
  rw [l_prs_0, if_neg (by rw [h1]; decide), if_neg h2]
theorem prs0_not (h1 : l_isw tx n p (x_w 4) = true) (hh : ¬ h = 6) (hr : l_prs tx n m w f 0 false (h + 1) 0 (l_tk tx n (l_sk tx n p) (x_w 4)) rd = .inr (q, rd1)) : l_prs tx n m w (f + 1) 0 z h fr p rd = .inr (q, s_code rd1 (n_ (rd1 9)) 3 0) := by
  rw [l_prs_0, if_pos h1, if_neg hh, hr]
  rfl
theorem prs0_par (h1 : l_isw tx n p (x_w 4) = false) (h2 : l_see tx n p = 40) (hh : ¬ h = 6) (hr : l_prs tx n m w f 3 z (h + 1) 0 (l_sk tx n p + 1) rd = .inr (q, rd1)) (hq : l_see tx n q = 41) : l_prs tx n m w (f + 1) 0 z h fr p rd = .inr (l_sk tx n q + 1, rd1) := by
  rw [l_prs_0, if_neg (by rw [h1]; decide), if_pos h2, if_neg hh, hr]
  show (if l_see tx n q = 41 then (.inr (l_sk tx n q + 1, rd1) : LR) else .inl (-2, l_sk tx n q)) = _
  rw [if_pos hq]
theorem prs1 (hr : l_prs tx n m w f 0 z h 0 p rd = .inr (q, rd1)) : l_prs tx n m w (f + 1) 1 z h fr p rd = l_prs tx n m w f 2 z h 0 q rd1 := by
  rw [l_prs_1, hr]
  rfl
theorem prs2_y (h1 : l_isw tx n p (x_w 3) = true) (hr : l_prs tx n m w f 0 z h 0 (l_tk tx n p (x_w 3)) rd = .inr (q, rd1)) : l_prs tx n m w (f + 1) 2 z h fr p rd = l_prs tx n m w f 2 z h 0 q (s_code rd1 (n_ (rd1 9)) 1 0) := by
  rw [l_prs_2, if_pos h1, hr]
  rfl
theorem prs2_n (h1 : l_isw tx n p (x_w 3) = false) : l_prs tx n m w (f + 1) 2 z h fr p rd = .inr (l_sk tx n p, rd) := by
  rw [l_prs_2, if_neg (by rw [h1]; decide)]
theorem prs3 (hr : l_prs tx n m w f 1 z h 0 p rd = .inr (q, rd1)) : l_prs tx n m w (f + 1) 3 z h fr p rd = l_prs tx n m w f 4 true h (n_ (rd 9)) q rd1 := by
  rw [l_prs_3, hr]
  rfl
theorem prs4_n (h1 : l_isw tx n p (x_w 2) = false) : l_prs tx n m w (f + 1) 4 z h fr p rd = .inr (l_sk tx n p, rd) := by
  have e := l_prs_4 (tx := tx) (n := n) (m := m) (w := w) (f := f) (h := h) (fr := fr) (md := 0) (z := z) (p := p) (rd := rd)
  rw [if_neg (by rw [h1]; decide)] at e
  exact e
theorem cmp_ok {q2 : Nat} (h1 : l_known rd tx n p m = .inr (q, c)) (h2 : l_see tx n q = 60 ∨ l_see tx n q = 61 ∨ l_see tx n q = 62) (h3 : l_opd tx n m w (l_sk tx n q + 1) (rd (10 + 13 * n_ c + 8)) rd = .inr (kd, q2, wi, rd2)) : l_cmp tx n m w k z p rd = .inr (q2, s_cmpc rd2 k z c (l_see tx n q) kd wi) := by
  unfold l_cmp
  rw [h1]
  show (if l_see tx n q = 60 ∨ l_see tx n q = 61 ∨ l_see tx n q = 62 then l_bi (l_opd tx n m w (l_sk tx n q + 1) (rd (10 + 13 * n_ c + 8)) rd) (fun y => (.inr (y.2.1, s_cmpc y.2.2.2 k z c (l_see tx n q) y.1 y.2.2.1) : LR)) else .inl (-2, l_sk tx n q)) = _
  rw [if_pos h2, h3]
  rfl
theorem opd_h (h1 : l_see tx n p = 63) (h2 : l_reads tx n (l_sk tx n p + 1) 3 = .inr (q, wi)) (h3 : rd (275 + 30 * w + (17 + n_ wi)) = -1) : l_opd tx n m w p t rd = .inr (2, q, wi, upd rd (275 + 30 * w + (17 + n_ wi)) t) := by
  have e : l_holeH rd tx n w (l_sk tx n p) t = .inr (q, wi, upd rd (275 + 30 * w + (17 + n_ wi)) t) := by
    unfold l_holeH
    rw [h2]
    show (if ¬ rd (275 + 30 * w + (17 + n_ wi)) = -1 ∧ ¬ rd (275 + 30 * w + (17 + n_ wi)) = t then _ else _) = _
    rw [if_neg (fun a => a.1 h3)]
  unfold l_opd
  rw [h1, if_neg (by decide), if_pos rfl, e]
  rfl
theorem opd_n (h1 : (48 : Int32) ≤ l_see tx n p ∧ l_see tx n p ≤ 57) (h2 : l_reads tx n (l_sk tx n p) (s_most t) = .inr (q, v)) : l_opd tx n m w p t rd = .inr (0, q, v, rd) := by
  unfold l_opd
  rw [if_pos h1, h2]
  rfl
end PRS
theorem wl.cut {tx : Nat → Int32} {n p : Nat} {w : List Int32} (h : wl tx n p w) (c : Nat) (v : List Int32) (e : w.drop c = v ++ w.drop (c + v.length)) : wl tx n (p + c) v := by
  have h1 := h.drop c
  rw [e] at h1
  exact h1.pre
def prA (rd : Nat → Int32) (s : Int32) : Nat → Int32 := s_cmpc (upd rd 292 0) 0 true 0 s 2 0
def prB (rd : Nat → Int32) (s : Int32) (o : Nat) : Nat → Int32 := s_cmpc (prA rd s) 1 false 1 61 0 (nI o)
def prC (rd : Nat → Int32) (s : Int32) (o : Nat) : Nat → Int32 := s_code (prB rd s o) 2 3 0
def prD (rd : Nat → Int32) (s : Int32) (o : Nat) : Nat → Int32 := s_code (prC rd s o) 3 1 0
def prW (s : Int32) : List Int32 := [32, 113, 32, 40, 97, s, 63, 48, 41, 32, 97, 110, 100, 32, 110, 111, 116, 32, 98, 61]
theorem p_prs {tx : Nat → Int32} {n P o F : Nat} {s : Int32} {rd : Nat → Int32} (hs : s = 60 ∨ s = 61) (ho : o < 4) (h : wl tx n P (prW s ++ (dg o ++ [59]))) (h0 : nm1 rd 10 97) (h1 : nm1 rd 23 98) (t0 : rd 18 = 0) (t1 : rd 31 = 0) (c9 : rd 9 = 0) (c17 : rd 292 = -1) : l_prs tx n 2 0 (F + 10) 3 true 0 0 (P + 2) rd = .inr (P + 21, prD rd s o) := by
  have ha := h.pre
  have hd : wl tx n (P + 20) (dg o ++ [59]) := h.suf
  have hdl : ∀ o, o < 4 → (dg o).length = 1 ∧ ((48 : Int32) ≤ (dg o ++ [59]).getD 0 0 ∧ (dg o ++ [59]).getD 0 0 ≤ 57) ∧ rl l_sp (dg o ++ [59]) = 0 ∧ nI o ≤ s_most 0 := by decide +kernel
  obtain ⟨dl, dr, ds, dm⟩ := hdl o ho
  have w21 : wl tx n (P + 21) [59] := by
    have h2 := hd.suf
    rw [dl] at h2
    exact h2
  have w2 : wl tx n (P + 2) [32, 40] := ha.cut 2 _ rfl
  have w4 : wl tx n (P + 4) [97, s] := ha.cut 4 _ rfl
  have w5 : wl tx n (P + 5) [s] := ha.cut 5 _ rfl
  have w6 : wl tx n (P + 6) [63] := ha.cut 6 _ rfl
  have w7 : wl tx n (P + 7) [48, 41] := ha.cut 7 _ rfl
  have w8 : wl tx n (P + 8) [41] := ha.cut 8 _ rfl
  have w9 : wl tx n (P + 9) [32, 97, 110, 100, 32] := ha.cut 9 _ rfl
  have w13 : wl tx n (P + 13) [32, 110, 111, 116, 32] := ha.cut 13 _ rfl
  have w14 : wl tx n (P + 14) [110, 111, 116, 32] := ha.cut 14 _ rfl
  have w17 : wl tx n (P + 17) [32, 98, 61] := ha.cut 17 _ rfl
  have w18 : wl tx n (P + 18) [98, 61] := ha.cut 18 _ rfl
  have w19 : wl tx n (P + 19) [61] := ha.cut 19 _ rfl
  have k2 : l_sk tx n (P + 2) = P + 3 := w_sk w2 (by decide)
  have k4 : l_sk tx n (P + 4) = P + 4 := by rcases hs with rfl | rfl <;> exact w_sk w4 (by decide)
  have k5 : l_sk tx n (P + 5) = P + 5 := by rcases hs with rfl | rfl <;> exact w_sk w5 (by decide)
  have k6 : l_sk tx n (P + 6) = P + 6 := w_sk w6 (by decide)
  have k8 : l_sk tx n (P + 8) = P + 8 := w_sk w8 (by decide)
  have k9 : l_sk tx n (P + 9) = P + 10 := w_sk w9 (by decide)
  have k13 : l_sk tx n (P + 13) = P + 14 := w_sk w13 (by decide)
  have k14 : l_sk tx n (P + 14) = P + 14 := w_sk w14 (by decide)
  have k17 : l_sk tx n (P + 17) = P + 18 := w_sk w17 (by decide)
  have k18 : l_sk tx n (P + 18) = P + 18 := w_sk w18 (by decide)
  have k19 : l_sk tx n (P + 19) = P + 19 := w_sk w19 (by decide)
  have k20 : l_sk tx n (P + 20) = P + 20 := by
    have e := w_sk hd (by rw [ds, List.length_append, dl]; decide)
    rw [ds] at e
    exact e
  have k21 : l_sk tx n (P + 21) = P + 21 := w_sk w21 (by decide)
  have i2 : l_isw tx n (P + 2) (x_w 4) = false := by rw [w_isw w2 (by decide)]; decide +kernel
  have i4 : l_isw tx n (P + 4) (x_w 4) = false := by rcases hs with rfl | rfl <;> (rw [w_isw w4 (by decide)]; decide +kernel)
  have i4a : l_isw tx n (P + 4) (x_w 3) = false := by rcases hs with rfl | rfl <;> (rw [w_isw w4 (by decide)]; decide +kernel)
  have i4o : l_isw tx n (P + 4) (x_w 2) = false := by rcases hs with rfl | rfl <;> (rw [w_isw w4 (by decide)]; decide +kernel)
  have i8a : l_isw tx n (P + 8) (x_w 3) = false := by rw [w_isw w8 (by decide)]; decide +kernel
  have i8o : l_isw tx n (P + 8) (x_w 2) = false := by rw [w_isw w8 (by decide)]; decide +kernel
  have i9 : l_isw tx n (P + 9) (x_w 3) = true := by rw [w_isw w9 (by decide)]; decide +kernel
  have i13 : l_isw tx n (P + 13) (x_w 4) = true := by rw [w_isw w13 (by decide)]; decide +kernel
  have i14 : l_isw tx n (P + 14) (x_w 4) = true := by rw [w_isw w14 (by decide)]; decide +kernel
  have i17 : l_isw tx n (P + 17) (x_w 4) = false := by rw [w_isw w17 (by decide)]; decide +kernel
  have i18 : l_isw tx n (P + 18) (x_w 4) = false := by rw [w_isw w18 (by decide)]; decide +kernel
  have i18a : l_isw tx n (P + 18) (x_w 3) = false := by rw [w_isw w18 (by decide)]; decide +kernel
  have i18o : l_isw tx n (P + 18) (x_w 2) = false := by rw [w_isw w18 (by decide)]; decide +kernel
  have i21a : l_isw tx n (P + 21) (x_w 3) = false := by rw [w_isw w21 (by decide)]; decide +kernel
  have i21o : l_isw tx n (P + 21) (x_w 2) = false := by rw [w_isw w21 (by decide)]; decide +kernel
  have s2 : l_see tx n (P + 2) = 40 := w_see w2 (by decide)
  have s4 : l_see tx n (P + 4) = 97 := by rcases hs with rfl | rfl <;> exact w_see w4 (by decide)
  have s5 : l_see tx n (P + 5) = s := by rcases hs with rfl | rfl <;> exact w_see w5 (by decide)
  have s6 : l_see tx n (P + 6) = 63 := w_see w6 (by decide)
  have s8 : l_see tx n (P + 8) = 41 := w_see w8 (by decide)
  have s17 : l_see tx n (P + 17) = 98 := w_see w17 (by decide)
  have s19 : l_see tx n (P + 19) = 61 := w_see w19 (by decide)
  have s20 : l_see tx n (P + 20) = (dg o ++ [59]).getD 0 0 := by
    have e := w_see hd (by rw [ds, List.length_append, dl]; decide)
    rw [ds] at e
    exact e
  have we4 : l_we tx n (P + 4) = P + 5 := by rcases hs with rfl | rfl <;> exact w_we w4 (by decide)
  have we18 : l_we tx n (P + 18) = P + 19 := w_we w18 (by decide)
  have nm4 : l_nm tx n (P + 4) := ⟨by omega, by omega, i4o, i4a, i4⟩
  have nm18 : l_nm tx n (P + 18) := ⟨by omega, by omega, i18o, i18a, i18⟩
  have r7 : l_reads tx n (P + 7) 3 = .inr (P + 8, 0) := w_reads w7 (by decide) (by decide) (by decide)
  have r20 : l_reads tx n (P + 20) (s_most 0) = .inr (P + 21, nI o) := by
    have e := w_num0 (Nat.lt_of_lt_of_le ho (by decide)) hd dm
    rw [dl] at e
    exact e
  have kn4 : l_known rd tx n (P + 4) 2 = .inr (P + 5, 0) := by
    have hsk : s_sk rd tx 10 13 2 (P + 4) (P + 5) = 0 := k_a h0 (w4 0 (by show (0 : Nat) < 2; decide)).2
    unfold l_known
    rw [if_pos nm4, k4, we4, hsk, if_neg (by decide)]
  have e9 : n_ (rd 9) = 0 := by rw [c9]; rfl
  have cA : l_cmp tx n 2 0 (n_ (rd 9)) true (l_sk tx n (P + 4)) rd = .inr (P + 8, prA rd s) := by
    have op : l_opd tx n 2 0 (l_sk tx n (P + 5) + 1) (rd (10 + 13 * n_ 0 + 8)) rd = .inr (2, P + 8, 0, upd rd 292 0) := by
      rw [k5, show rd (10 + 13 * n_ 0 + 8) = 0 from t0]
      exact opd_h (w := 0) s6 (by rw [k6]; exact r7) c17
    rw [k4, e9, cmp_ok kn4 (by rw [s5]; rcases hs with rfl | rfl <;> decide) op, s5]
    rfl
  have mA : l_prs tx n 2 0 (F + 5) 0 true 1 0 (P + 4) rd = .inr (P + 8, prA rd s) := (prs0_cmp (f := F + 4) i4 (by rw [s4]; decide)).trans cA
  have nA : l_prs tx n 2 0 (F + 6) 1 true 1 0 (P + 4) rd = .inr (P + 8, prA rd s) := ((prs1 (f := F + 5) mA).trans (prs2_n (f := F + 4) i8a)).trans (by rw [k8])
  have oA : l_prs tx n 2 0 (F + 7) 3 true 1 0 (P + 4) rd = .inr (P + 8, prA rd s) := ((prs3 (f := F + 6) nA).trans (prs4_n (f := F + 5) i8o)).trans (by rw [k8])
  have qA : l_prs tx n 2 0 (F + 8) 0 true 0 0 (P + 2) rd = .inr (P + 9, prA rd s) := (prs0_par (f := F + 7) i2 s2 (by decide) (by rw [k2]; exact oA) s8).trans (by rw [k8])
  have ho9 : ∀ j, j < 275 → j ≠ 9 → prA rd s j = rd j := fun j hj h9 => by
    show s_cmpc (upd rd 292 0) 0 true 0 s 2 0 j = rd j
    rw [s_cmpc_ne (by omega) h9, updI_ne (by omega)]
  have kn18 : l_known (prA rd s) tx n (P + 18) 2 = .inr (P + 19, 1) := by
    have hsk : s_sk (prA rd s) tx 10 13 2 (P + 18) (P + 19) = 1 := k_b (h0.of (fun k hk => ho9 _ (by omega) (by omega))) (h1.of (fun k hk => ho9 _ (by omega) (by omega))) (w18 0 (by decide)).2
    unfold l_known
    rw [if_pos nm18, k18, we18, hsk, if_neg (by decide)]
  have eA : n_ (prA rd s 9) = 1 := by rw [show prA rd s 9 = nI 1 from s_cmpc_9]; rfl
  have eB : n_ (prB rd s o 9) = 2 := by rw [show prB rd s o 9 = nI 2 from s_cmpc_9]; rfl
  have eC : n_ (prC rd s o 9) = 3 := by rw [show prC rd s o 9 = nI 3 from s_code_9]; rfl
  have cB : l_cmp tx n 2 0 (n_ (prA rd s 9)) false (l_sk tx n (P + 17)) (prA rd s) = .inr (P + 21, prB rd s o) := by
    have op : l_opd tx n 2 0 (l_sk tx n (P + 19) + 1) (prA rd s (10 + 13 * n_ 1 + 8)) (prA rd s) = .inr (0, P + 21, nI o, prA rd s) := by
      rw [k19, show prA rd s (10 + 13 * n_ 1 + 8) = 0 from (ho9 31 (by omega) (by omega)).trans t1]
      exact opd_n (w := 0) (by rw [show P + 19 + 1 = P + 20 from rfl, s20]; exact dr) (by rw [show P + 19 + 1 = P + 20 from rfl, k20]; exact r20)
    rw [k17, eA, cmp_ok kn18 (by rw [s19]; decide) op, s19]
    rfl
  have mB : l_prs tx n 2 0 (F + 6) 0 false 1 0 (P + 17) (prA rd s) = .inr (P + 21, prB rd s o) := (prs0_cmp (f := F + 5) i17 (by rw [s17]; decide)).trans cB
  have tk13 : l_tk tx n (l_sk tx n (P + 13)) (x_w 4) = P + 17 := by
    rw [k13, l_tk_y i14, k14]
    rfl
  have tk9 : l_tk tx n (P + 9) (x_w 3) = P + 13 := by
    rw [l_tk_y i9, k9]
    rfl
  have nB : l_prs tx n 2 0 (F + 7) 0 true 0 0 (P + 13) (prA rd s) = .inr (P + 21, prC rd s o) := (prs0_not (f := F + 6) i13 (by decide) (by rw [tk13]; exact mB)).trans (by rw [eB]; rfl)
  have rB : l_prs tx n 2 0 (F + 9) 1 true 0 0 (P + 2) rd = .inr (P + 21, prD rd s o) := by
    refine (prs1 (f := F + 8) qA).trans ((prs2_y (f := F + 7) i9 (by rw [tk9]; exact nB)).trans ((prs2_n (f := F + 6) i21a).trans ?_))
    rw [k21, eC]
    rfl
  refine (prs3 (f := F + 9) rB).trans ((prs4_n (f := F + 8) i21o).trans ?_)
  rw [k21]
def prE (rd tx : Nat → Int32) (P : Nat) (s : Int32) (o : Nat) : Nat → Int32 := upd (upd (prD (s_prep (s_nmi rd tx (P + 1) (P + 2) 275 8) 0) s o) 302 (nI 4)) 2 (nI 1)
theorem p_line {tx : Nat → Int32} {n P o at_ : Nat} {s : Int32} {rd : Nat → Int32} (hs : s = 60 ∨ s = 61) (ho : o < 4) (h : wl tx n P (prW s ++ (dg o ++ [59]))) (h0 : nm1 rd 10 97) (h1 : nm1 rd 23 98) (t0 : rd 18 = 0) (t1 : rd 31 = 0) (c9 : rd 9 = 0) : l_prepLine tx n 2 0 at_ P rd = .inr (P + 22, prE rd tx P s o) := by
  have hd : wl tx n (P + 20) (dg o ++ [59]) := h.suf
  have dl : (dg o).length = 1 := (show ∀ o, o < 4 → (dg o).length = 1 by decide +kernel) o ho
  have w21 : wl tx n (P + 21) [59] := by
    have h2 := hd.suf
    rw [dl] at h2
    exact h2
  have hn : P + 21 < n := (w21 0 (by decide)).1
  have w0 : wl tx n P [32, 113, 32] := h.pre.cut 0 _ rfl
  have e1 : l_sk tx n P = P + 1 := w_sk w0 (by decide)
  have e2 : l_we tx n P = P + 2 := w_we w0 (by decide)
  have hnm : l_nm tx n P := ⟨by omega, by omega, by rw [w_isw w0 (by decide)]; decide +kernel, by rw [w_isw w0 (by decide)]; decide +kernel, by rw [w_isw w0 (by decide)]; decide +kernel⟩
  have hsk : s_sk rd tx 275 30 0 (P + 1) (P + 2) = -1 := rfl
  have hf : l_fresh rd tx n P 275 30 0 = .inr (P + 2, s_nmi rd tx (P + 1) (P + 2) 275 8) := by
    unfold l_fresh
    rw [if_pos hnm, e1, e2, if_pos hsk]
  have ne : ∀ j, j < 275 → s_prep (s_nmi rd tx (P + 1) (P + 2) 275 8) 0 j = rd j := fun j hj => (s_prep_ne hj).trans (s_nmi_ne 8 (Or.inl hj))
  have hp := p_prs (F := 8 * (n - (P + 2)) - 7) hs ho h (h0.of (fun k hk => ne _ (by omega))) (h1.of (fun k hk => ne _ (by omega))) ((ne 18 (by omega)).trans t0) ((ne 31 (by omega)).trans t1) ((ne 9 (by omega)).trans c9) (s_prep_h (s := 0) (h := 0) (by omega))
  rw [show 8 * (n - (P + 2)) - 7 + 10 = 8 * (n - (P + 2)) + 3 by omega] at hp
  unfold l_prepLine
  rw [if_neg (by decide), hf]
  show l_bi (l_prs tx n 2 0 (8 * (n - (P + 2)) + 3) 3 true 0 0 (P + 2) (s_prep (s_nmi rd tx (P + 1) (P + 2) 275 8) 0)) _ = _
  rw [hp]
  show l_want tx n 59 (P + 21) _ = _
  rw [w_want w21]
  rfl
/-- the text's head and rows -/
def q_rows (A Bv : Nat → Nat) : Nat → List Int32
  | 0 => x_st 0
  | k + 1 => ((((q_rows A Bv k ++ x_st 1) ++ dg (A k)) ++ [32]) ++ dg (Bv k)) ++ [59]
def q_hd (rd : Nat → Int32) (m : Nat) (A Bv : Nat → Nat) : Prop :=
  (rd 0 = nI 2 ∧ rd 1 = nI m ∧ nm1 rd 10 97 ∧ nm1 rd 23 98) ∧ (rd 18 = 0 ∧ rd 31 = 0 ∧ rd 19 = 1 ∧ rd 32 = 0 ∧ rd 45 = 0 ∧ rd 58 = 0 ∧ rd 71 = 0) ∧ (∀ l, l < m → rd (75 + 5 * l) = nI (A l) ∧ rd (75 + 5 * l + 1) = nI (Bv l)) ∧ (∀ j, 2 ≤ j → j < 10 → rd j = s_pl j) ∧ ∀ j, 275 ≤ j → rd j = 0
theorem q_hd.row {rd : Nat → Int32} {k : Nat} {A Bv : Nat → Nat} (h : q_hd rd k A Bv) (hk : k < 40) : q_hd (upd (upd (upd rd (75 + 5 * k + 0) (nI (A k))) (75 + 5 * k + 1) (nI (Bv k))) 1 (nI (k + 1))) (k + 1) A Bv := by
  have ne : ∀ j, j ≠ 1 → (j < 75 + 5 * k ∨ 75 + 5 * k + 2 ≤ j) → upd (upd (upd rd (75 + 5 * k + 0) (nI (A k))) (75 + 5 * k + 1) (nI (Bv k))) 1 (nI (k + 1)) j = rd j := fun j h1 h2 => by
    rw [updI_ne h1, updI_ne (by omega), updI_ne (by omega)]
  obtain ⟨⟨a0, a1, a2, a3⟩, ⟨b0, b1, b2, b3, b4, b5, b6⟩, c, d, e⟩ := h
  refine ⟨⟨(ne 0 (by omega) (by omega)).trans a0, updI_eq, a2.of (fun j hj => ne _ (by omega) (by omega)), a3.of (fun j hj => ne _ (by omega) (by omega))⟩, ⟨(ne _ (by omega) (by omega)).trans b0, (ne _ (by omega) (by omega)).trans b1, (ne _ (by omega) (by omega)).trans b2, (ne _ (by omega) (by omega)).trans b3, (ne _ (by omega) (by omega)).trans b4, (ne _ (by omega) (by omega)).trans b5, (ne _ (by omega) (by omega)).trans b6⟩, fun l hl => ?_, fun j j1 j2 => (ne _ (by omega) (by omega)).trans (d j j1 j2), fun j hj => (ne _ (by omega) (by omega)).trans (e j hj)⟩
  by_cases el : l = k
  · subst el
    exact ⟨by rw [updI_ne (by omega), updI_ne (by omega), Nat.add_zero, updI_eq], by rw [updI_ne (by omega), updI_eq]⟩
  · exact ⟨(ne _ (by omega) (by omega)).trans (c l (by omega)).1, (ne _ (by omega) (by omega)).trans (c l (by omega)).2⟩
/-- a row's line -/
def q_rw (A Bv : Nat → Nat) (k : Nat) : List Int32 := [114, 111, 119] ++ (32 :: (dg (A k) ++ (32 :: (dg (Bv k) ++ [59]))))
theorem q_rows_s {A Bv : Nat → Nat} {k : Nat} : q_rows A Bv (k + 1) = q_rows A Bv k ++ q_rw A Bv k := by
  have e1 : x_st 1 = [114, 111, 119, 32] := rfl
  show ((((q_rows A Bv k ++ x_st 1) ++ dg (A k)) ++ [32]) ++ dg (Bv k)) ++ [59] = _
  rw [e1]
  unfold q_rw
  simp only [List.append_assoc, List.cons_append, List.nil_append]
theorem q_rw_l {A Bv : Nat → Nat} {k : Nat} : (q_rw A Bv k).length = (dg (A k)).length + (dg (Bv k)).length + 6 := by
  unfold q_rw
  simp only [List.length_append, List.length_cons, List.length_nil]
  omega
theorem q_rep {A Bv : Nat → Nat} {m n : Nat} {tx : Nat → Int32} (hA : ∀ k, k < m → A k < 12 ∧ Bv k < 12) (hm : m ≤ 40) (hw : ∀ k, k < m → wl tx n (q_rows A Bv k).length (q_rw A Bv k)) (hend : l_isw tx n (q_rows A Bv m).length (x_w 9) = false) (hsk : l_sk tx n (q_rows A Bv m).length = (q_rows A Bv m).length) : ∀ d k f rd, k + d = m → q_hd rd k A Bv → ∃ rd2, l_rep tx n 9 (g_row tx n) (f + d + 1) (q_rows A Bv k).length rd = .inr ((q_rows A Bv m).length, rd2) ∧ q_hd rd2 m A Bv
  | 0, k, f, rd, hk, h => by
    have e : k = m := by omega
    subst e
    exact ⟨rd, (l_rep_n (f := f) hend).trans (by rw [hsk]), h⟩
  | d + 1, k, f, rd, hk, h => by
    have hkm : k < m := by omega
    obtain ⟨rd2, i1, i2⟩ := q_rep hA hm hw hend hsk d (k + 1) f _ (by omega) (h.row (by omega))
    refine ⟨rd2, ?_, i2⟩
    have hwk := hw k hkm
    have w1 : wl tx n (q_rows A Bv k).length [114, 111, 119, 32] := hwk.cut 0 _ rfl
    have w2 := hwk.suf
    have hi : l_isw tx n (q_rows A Bv k).length (x_w 9) = true := by rw [w_isw w1 (by decide)]; decide +kernel
    have htk : l_tk tx n (q_rows A Bv k).length (x_w 9) = (q_rows A Bv k).length + 3 := by
      rw [l_tk_y hi, w_sk w1 (by decide)]
      rfl
    have hlen : (q_rows A Bv (k + 1)).length = (q_rows A Bv k).length + ((dg (A k)).length + (dg (Bv k)).length + 6) := by
      rw [q_rows_s, List.length_append, q_rw_l]
    have hr := r_line (at_ := l_sk tx n (q_rows A Bv k).length) (hA k hkm).1 (hA k hkm).2 (show k < 40 by omega) w2 h.2.1.1 h.2.1.2.1
    rw [show (q_rows A Bv k).length + ([114, 111, 119] : List Int32).length + (dg (A k)).length + (dg (Bv k)).length + 3 = (q_rows A Bv (k + 1)).length by rw [hlen]; show (q_rows A Bv k).length + 3 + _ + _ + 3 = _; omega] at hr
    have hg : g_row tx n (l_sk tx n (q_rows A Bv k).length) (l_tk tx n (q_rows A Bv k).length (x_w 9)) rd = .inr ((q_rows A Bv (k + 1)).length, upd (upd (upd rd (75 + 5 * k + 0) (nI (A k))) (75 + 5 * k + 1) (nI (Bv k))) 1 (nI (k + 1))) := by
      unfold g_row
      rw [htk, n_of (k := 2) h.1.1 (by decide), n_of h.1.2.1 (by omega)]
      exact hr
    rw [show f + (d + 1) + 1 = f + d + 1 + 1 from rfl, l_rep_y hi hg]
    exact i1
/-- what stands behind the rows -/
def q_tail (s : Int32) (o sc pr fe tr : Nat) : List Int32 := [112, 114, 101, 112, 97, 114, 101] ++ ((prW s ++ (dg o ++ [59])) ++ ([99, 111, 115, 116] ++ ((32 :: (dg sc ++ (32 :: (dg pr ++ (32 :: (dg fe ++ [59])))))) ++ ([116, 114, 105, 101, 115] ++ (32 :: (dg tr ++ [59]))))))
def q_txt (A Bv : Nat → Nat) (m : Nat) (s : Int32) (o sc pr fe tr : Nat) : List Int32 := ((((((((((((q_rows A Bv m ++ x_st 2) ++ [s]) ++ x_st 3) ++ dg o) ++ x_st 4) ++ dg sc) ++ [32]) ++ dg pr) ++ [32]) ++ dg fe) ++ x_st 5) ++ dg tr) ++ [59]
theorem q_txt_e {A Bv : Nat → Nat} {m o sc pr fe tr : Nat} {s : Int32} : q_txt A Bv m s o sc pr fe tr = q_rows A Bv m ++ q_tail s o sc pr fe tr := by
  have e2 : x_st 2 = [112, 114, 101, 112, 97, 114, 101, 32, 113, 32, 40, 97] := rfl
  have e3 : x_st 3 = [63, 48, 41, 32, 97, 110, 100, 32, 110, 111, 116, 32, 98, 61] := rfl
  have e4 : x_st 4 = [59, 99, 111, 115, 116, 32] := rfl
  have e5 : x_st 5 = [59, 116, 114, 105, 101, 115, 32] := rfl
  unfold q_txt q_tail prW
  rw [e2, e3, e4, e5]
  simp only [List.append_assoc, List.cons_append, List.nil_append]
theorem q_wrows {tx : Nat → Int32} {n : Nat} {A Bv : Nat → Nat} : ∀ m, wl tx n 0 (q_rows A Bv m) → ∀ k, k < m → wl tx n (q_rows A Bv k).length (q_rw A Bv k)
  | 0, _, k, hk => absurd hk (Nat.not_lt_zero k)
  | m + 1, h, k, hk => by
    rw [q_rows_s] at h
    by_cases e : k = m
    · subst e
      have h1 := h.suf
      rw [Nat.zero_add] at h1
      exact h1
    · exact q_wrows m h.pre k (by omega)
/-- the row that is read -/
def q_fin (rd : Nat → Int32) (m : Nat) (A Bv : Nat → Nat) (s : Int32) (o sc pr fe tr : Nat) : Prop :=
  (rd 0 = nI 2 ∧ rd 1 = nI m ∧ rd 2 = nI 1 ∧ rd 3 = 0 ∧ rd 4 = nI sc ∧ rd 5 = nI pr ∧ rd 6 = nI fe ∧ rd 7 = nI tr) ∧ (rd 18 = 0 ∧ rd 31 = 0 ∧ rd 19 = 1 ∧ rd 32 = 0 ∧ rd 45 = 0 ∧ rd 58 = 0 ∧ rd 71 = 0) ∧ (∀ l, l < m → rd (75 + 5 * l) = nI (A l) ∧ rd (75 + 5 * l + 1) = nI (Bv l)) ∧ (rd 292 = 0 ∧ rd 293 = -1 ∧ rd 294 = -1 ∧ rd 295 = -1 ∧ rd 301 = 0 ∧ rd 302 = 4) ∧ (rd 455 = 0 ∧ rd 456 = 0 ∧ rd 457 = s ∧ rd 458 = 2 ∧ rd 459 = 0 ∧ rd 460 = 1) ∧ (rd 461 = 0 ∧ rd 462 = 1 ∧ rd 463 = 61 ∧ rd 464 = 0 ∧ rd 465 = nI o ∧ rd 466 = 0) ∧ rd 467 = 3 ∧ rd 473 = 1
theorem q_finish {rd tx : Nat → Int32} {m : Nat} {A Bv : Nat → Nat} {P o sc pr fe tr : Nat} {s : Int32} (hm : m ≤ 40) (h : q_hd rd m A Bv) : q_fin (upd (upd (upd (upd (prE rd tx P s o) 4 (nI sc)) 5 (nI pr)) 6 (nI fe)) 7 (nI tr)) m A Bv s o sc pr fe tr := by
  have ne : ∀ j, 7 < j → j < 275 → j ≠ 9 → upd (upd (upd (upd (prE rd tx P s o) 4 (nI sc)) 5 (nI pr)) 6 (nI fe)) 7 (nI tr) j = rd j := fun j h1 h2 h9 => by
    rw [updI_ne (by omega), updI_ne (by omega), updI_ne (by omega), updI_ne (by omega)]
    unfold prE
    rw [updI_ne (by omega), updI_ne (by omega)]
    unfold prD prC prB prA
    rw [s_code_ne (by omega) h9, s_code_ne (by omega) h9, s_cmpc_ne (by omega) h9, s_cmpc_ne (by omega) h9, updI_ne (by omega), s_prep_ne h2]
    exact s_nmi_ne 8 (Or.inl h2)
  obtain ⟨⟨a0, a1, a2, a3⟩, ⟨b0, b1, b2, b3, b4, b5, b6⟩, c, d, e⟩ := h
  refine ⟨⟨?_, ?_, rfl, ?_, rfl, rfl, rfl, rfl⟩, ⟨(ne _ (by omega) (by omega) (by omega)).trans b0, (ne _ (by omega) (by omega) (by omega)).trans b1, (ne _ (by omega) (by omega) (by omega)).trans b2, (ne _ (by omega) (by omega) (by omega)).trans b3, (ne _ (by omega) (by omega) (by omega)).trans b4, (ne _ (by omega) (by omega) (by omega)).trans b5, (ne _ (by omega) (by omega) (by omega)).trans b6⟩, fun l hl => ⟨(ne _ (by omega) (by omega) (by omega)).trans (c l hl).1, (ne _ (by omega) (by omega) (by omega)).trans (c l hl).2⟩, ⟨rfl, rfl, rfl, rfl, ?_, rfl⟩, ⟨rfl, rfl, rfl, rfl, rfl, rfl⟩, ⟨rfl, rfl, rfl, rfl, rfl, rfl⟩, rfl, rfl⟩
  · exact (show _ = rd 0 from rfl).trans a0
  · exact (show _ = rd 1 from rfl).trans a1
  · exact (show _ = rd 3 from rfl).trans (d 3 (by omega) (by omega))
  · exact (show _ = rd 9 from rfl).trans (d 9 (by omega) (by omega))
theorem q_T0 {tx : Nat → Int32} {n f : Nat} (h : wl tx n 0 (x_st 0)) (hf : n + 1 = f + 46) (hi : l_isw tx n 46 (x_w 8) = false) (hk : l_sk tx n 46 = 46) {A Bv : Nat → Nat} : ∃ rd, q_hd rd 0 A Bv ∧ l_txt tx n = l_t2 tx n (46, rd) := by
  have h' : wl tx n 0 ([116, 97, 98, 108, 101] ++ ([59, 99, 111, 108, 117, 109, 110] ++ ([32, 97, 32, 110, 117, 109, 98, 101, 114, 59] ++ ([99, 111, 108, 117, 109, 110] ++ ([32, 98, 32, 110, 117, 109, 98, 101, 114, 59] ++ ([105, 110, 100, 101, 120] ++ [32, 97, 59])))))) := h
  have w0 : wl tx n 0 [116, 97, 98, 108, 101, 59] := h'.cut 0 _ rfl
  have w5 : wl tx n 5 [59] := h'.cut 5 _ rfl
  have w6 : wl tx n 6 [99, 111, 108, 117, 109, 110, 32] := h'.cut 6 _ rfl
  have w12 : wl tx n 12 [32, 97, 32, 110, 117, 109, 98, 101, 114, 59] := h'.cut 12 _ rfl
  have w22 : wl tx n 22 [99, 111, 108, 117, 109, 110, 32] := h'.cut 22 _ rfl
  have w28 : wl tx n 28 [32, 98, 32, 110, 117, 109, 98, 101, 114, 59] := h'.cut 28 _ rfl
  have w38 : wl tx n 38 [105, 110, 100, 101, 120, 32] := h'.cut 38 _ rfl
  have w43 : wl tx n 43 [32, 97, 59] := h'.cut 43 _ rfl
  have i0 : l_isw tx n 0 (x_w 0) = true := by rw [w_isw w0 (by decide)]; decide +kernel
  have i6 : l_isw tx n 6 (x_w 1) = true := by rw [w_isw w6 (by decide)]; decide +kernel
  have i22 : l_isw tx n 22 (x_w 1) = true := by rw [w_isw w22 (by decide)]; decide +kernel
  have i38 : l_isw tx n 38 (x_w 1) = false := by rw [w_isw w38 (by decide)]; decide +kernel
  have i38b : l_isw tx n 38 (x_w 8) = true := by rw [w_isw w38 (by decide)]; decide +kernel
  have t0 : l_tk tx n 0 (x_w 0) = 5 := by rw [l_tk_y i0, w_sk w0 (by decide)]; rfl
  have t6 : l_tk tx n 6 (x_w 1) = 12 := by rw [l_tk_y i6, w_sk w6 (by decide)]; rfl
  have t22 : l_tk tx n 22 (x_w 1) = 28 := by rw [l_tk_y i22, w_sk w22 (by decide)]; rfl
  have t38 : l_tk tx n 38 (x_w 8) = 43 := by rw [l_tk_y i38b, w_sk w38 (by decide)]; rfl
  have k38 : l_sk tx n 38 = 38 := w_sk w38 (by decide)
  have c1 := c_linea (at_ := l_sk tx n 6) (rd := s_pl) w12
  have m1 : nm1 (upd (upd (s_nmi s_pl tx 13 14 10 8) 18 0) 0 (nI 1)) 10 97 := by
    have e := nm1.nmi (rd := s_pl) (tx := tx) (at_ := 10) (a := 13)
    rw [(w12 1 (by decide)).2] at e
    exact e.of (fun k hk => by rw [updI_ne (by omega), updI_ne (by omega)])
  have c2 := c_lineb (at_ := l_sk tx n 22) w28 m1
  have m2 : nm1 (upd (upd (s_nmi (upd (upd (s_nmi s_pl tx 13 14 10 8) 18 0) 0 (nI 1)) tx 29 30 23 8) 31 0) 0 (nI 2)) 23 98 := by
    have e := nm1.nmi (rd := upd (upd (s_nmi s_pl tx 13 14 10 8) 18 0) 0 (nI 1)) (tx := tx) (at_ := 23) (a := 29)
    rw [(w28 1 (by decide)).2] at e
    exact e.of (fun k hk => by rw [updI_ne (by omega), updI_ne (by omega)])
  have m1' : nm1 (upd (upd (s_nmi (upd (upd (s_nmi s_pl tx 13 14 10 8) 18 0) 0 (nI 1)) tx 29 30 23 8) 31 0) 0 (nI 2)) 10 97 := m1.of (fun k hk => by rw [updI_ne (by omega), updI_ne (by omega), s_nmi_ne 8 (by omega)])
  have c3 := i_line w43 m1' m2 rfl
  have g1 : g_col tx n (l_sk tx n 6) (l_tk tx n 6 (x_w 1)) s_pl = .inr (22, upd (upd (s_nmi s_pl tx 13 14 10 8) 18 0) 0 (nI 1)) := by
    rw [t6]
    exact c1
  have g2 : g_col tx n (l_sk tx n 22) (l_tk tx n 22 (x_w 1)) (upd (upd (s_nmi s_pl tx 13 14 10 8) 18 0) 0 (nI 1)) = .inr (38, upd (upd (s_nmi (upd (upd (s_nmi s_pl tx 13 14 10 8) 18 0) 0 (nI 1)) tx 29 30 23 8) 31 0) 0 (nI 2)) := by
    rw [t22]
    exact c2
  have g3 : g_idx tx n (l_sk tx n 38) (l_tk tx n 38 (x_w 8)) (upd (upd (s_nmi (upd (upd (s_nmi s_pl tx 13 14 10 8) 18 0) 0 (nI 1)) tx 29 30 23 8) 31 0) 0 (nI 2)) = .inr (46, upd (upd (upd (s_nmi (upd (upd (s_nmi s_pl tx 13 14 10 8) 18 0) 0 (nI 1)) tx 29 30 23 8) 31 0) 0 (nI 2)) 19 1) := by
    rw [t38]
    exact c3
  refine ⟨upd (upd (upd (s_nmi (upd (upd (s_nmi s_pl tx 13 14 10 8) 18 0) 0 (nI 1)) tx 29 30 23 8) 31 0) 0 (nI 2)) 19 1, ⟨⟨rfl, rfl, m1'.of (fun k hk => updI_ne (by omega)), m2.of (fun k hk => updI_ne (by omega))⟩, ⟨rfl, rfl, rfl, rfl, rfl, rfl, rfl⟩, fun l hl => absurd hl (Nat.not_lt_zero l), fun j j1 j2 => ?_, fun j hj => ?_⟩, ?_⟩
  · rw [updI_ne (by omega), updI_ne (by omega), updI_ne (by omega), s_nmi_ne 8 (by omega), updI_ne (by omega), updI_ne (by omega), s_nmi_ne 8 (by omega)]
  · rw [updI_ne (by omega), updI_ne (by omega), updI_ne (by omega), s_nmi_ne 8 (by omega), updI_ne (by omega), updI_ne (by omega), s_nmi_ne 8 (by omega)]
    unfold s_pl
    rw [updI_ne (by omega), updI_ne (by omega), updI_ne (by omega), updI_ne (by omega)]
  · unfold l_txt
    rw [if_pos i0, t0, w_want w5]
    show l_bi (l_rep tx n 1 (g_col tx n) (n + 1 - 6) 6 s_pl) (l_t1 tx n) = _
    rw [show n + 1 - 6 = f + 37 + 1 + 1 + 1 by omega, l_rep_y i6 g1, l_rep_y i22 g2, l_rep_n i38, k38]
    show l_bi (l_rep tx n 8 (g_idx tx n) (n + 1 - 38) 38 _) (l_t2 tx n) = _
    rw [show n + 1 - 38 = f + 6 + 1 + 1 by omega, l_rep_y i38b g3, l_rep_n hi, hk]
    rfl
theorem q_all {tx : Nat → Int32} {n m o sc pr fe tr : Nat} {A Bv : Nat → Nat} {s : Int32} (hA : ∀ k, k < m → A k < 12 ∧ Bv k < 12) (hm : m ≤ 40) (hs : s = 60 ∨ s = 61) (ho : o < 4) (h1 : sc < 12) (h2 : pr < 12) (h3 : fe < 12) (h4 : tr < 12) (hn : n = (q_txt A Bv m s o sc pr fe tr).length) (h : wl tx n 0 (q_txt A Bv m s o sc pr fe tr)) : ∃ rd, l_txt tx n = .inr (n, rd) ∧ q_fin rd m A Bv s o sc pr fe tr := by
  rw [q_txt_e] at h hn
  have hR := h.pre
  have hT := h.suf
  rw [Nat.zero_add] at hT
  rw [List.length_append] at hn
  have dl : (dg o).length = 1 := (show ∀ o, o < 4 → (dg o).length = 1 by decide +kernel) o ho
  generalize hL : (q_rows A Bv m).length = L at *
  have a1 := hT.suf
  have a2 := a1.suf
  have a3 := a2.suf
  have a4 := a3.suf
  have a5 := a4.suf
  have b1 := a1.pre
  have b3 := a3.pre
  have eP : ((prW s ++ (dg o ++ [59])) : List Int32).length = 22 := by
    rw [List.length_append, List.length_append, dl]
    rfl
  have eC : ((32 :: (dg sc ++ (32 :: (dg pr ++ (32 :: (dg fe ++ [59])))))) : List Int32).length = (dg sc).length + (dg pr).length + (dg fe).length + 4 := by
    simp only [List.length_append, List.length_cons, List.length_nil]
    omega
  have eT : ((32 :: (dg tr ++ [59])) : List Int32).length = (dg tr).length + 2 := by
    simp only [List.length_append, List.length_cons, List.length_nil]
  have eN : n = L + 44 + (dg sc).length + (dg pr).length + (dg fe).length + (dg tr).length := by
    rw [hn]
    unfold q_tail
    rw [List.length_append, List.length_append, eP, List.length_append, List.length_append, eC, List.length_append, eT]
    show L + (7 + (22 + (4 + (_ + (5 + _))))) = _
    omega
  rw [show L + ([112, 114, 101, 112, 97, 114, 101] : List Int32).length = L + 7 from rfl] at a1 a2 a3 a4 a5 b1 b3
  rw [eP] at a2 a3 a4 a5 b3
  rw [show L + 7 + 22 + ([99, 111, 115, 116] : List Int32).length = L + 33 from rfl] at a3 a4 a5 b3
  rw [eC] at a4 a5
  rw [show L + 33 + ((dg sc).length + (dg pr).length + (dg fe).length + 4) + ([116, 114, 105, 101, 115] : List Int32).length = L + 33 + ((dg sc).length + (dg pr).length + (dg fe).length + 4) + 5 from rfl] at a5
  have v0 : wl tx n L [112, 114, 101, 112, 97, 114, 101, 32] := hT.cut 0 _ rfl
  have v1 : wl tx n (L + 29) [99, 111, 115, 116, 32] := a2.cut 0 _ rfl
  have v2 : wl tx n (L + 33 + ((dg sc).length + (dg pr).length + (dg fe).length + 4)) [116, 114, 105, 101, 115, 32] := a4.cut 0 _ rfl
  have j0 : l_isw tx n L (x_w 9) = false := by rw [w_isw v0 (by decide)]; decide +kernel
  have j0x : l_isw tx n L (x_w 8) = false := by rw [w_isw v0 (by decide)]; decide +kernel
  have j1 : l_isw tx n L (x_w 10) = true := by rw [w_isw v0 (by decide)]; decide +kernel
  have j2 : l_isw tx n (L + 29) (x_w 10) = false := by rw [w_isw v1 (by decide)]; decide +kernel
  have j3 : l_isw tx n (L + 29) (x_w 11) = true := by rw [w_isw v1 (by decide)]; decide +kernel
  have j4 : l_isw tx n (L + 33 + ((dg sc).length + (dg pr).length + (dg fe).length + 4)) (x_w 12) = true := by rw [w_isw v2 (by decide)]; decide +kernel
  have kL : l_sk tx n L = L := w_sk v0 (by decide)
  have k29 : l_sk tx n (L + 29) = L + 29 := w_sk v1 (by decide)
  have tk1 : l_tk tx n L (x_w 10) = L + 7 := by rw [l_tk_y j1, kL]; rfl
  have tk2 : l_tk tx n (L + 29) (x_w 11) = L + 33 := by rw [l_tk_y j3, k29]; rfl
  have tk3 : l_tk tx n (L + 33 + ((dg sc).length + (dg pr).length + (dg fe).length + 4)) (x_w 12) = L + 33 + ((dg sc).length + (dg pr).length + (dg fe).length + 4) + 5 := by
    rw [l_tk_y j4, w_sk v2 (by decide)]
    rfl
  have hL46 : ∀ m, wl tx n 0 (q_rows A Bv m) → wl tx n 0 (x_st 0) ∧ 46 ≤ (q_rows A Bv m).length := by
    intro m
    induction m with
    | zero => exact fun g => ⟨g, Nat.le_of_eq rfl⟩
    | succ m ih =>
      intro g
      rw [q_rows_s] at g
      have := ih g.pre
      refine ⟨this.1, ?_⟩
      rw [q_rows_s, List.length_append]
      omega
  obtain ⟨hT0, hL6⟩ := hL46 m hR
  rw [hL] at hL6
  have hWR := q_wrows m hR
  have hi46 : l_isw tx n 46 (x_w 8) = false ∧ l_sk tx n 46 = 46 := by
    rcases Nat.eq_zero_or_pos m with e | e
    · have e46 : L = 46 := by rw [← hL, e]; rfl
      rw [← e46]
      exact ⟨j0x, kL⟩
    · have g := hWR 0 e
      have g1 : wl tx n 46 [114, 111, 119, 32] := g.cut 0 _ rfl
      exact ⟨by rw [w_isw g1 (by decide)]; decide +kernel, w_sk g1 (by decide)⟩
  obtain ⟨rd0, hq0, hx0⟩ := q_T0 (f := n - 45) (A := A) (Bv := Bv) hT0 (by omega) hi46.1 hi46.2
  obtain ⟨rd1, hr1, hq1⟩ := q_rep (A := A) (Bv := Bv) (m := m) hA hm hWR (by rw [hL]; exact j0) (by rw [hL]; exact kL) m 0 (n - 46 - m) rd0 (Nat.zero_add m) hq0
  rw [hL] at hr1
  have hmL : ∀ m, 46 + m ≤ (q_rows A Bv m).length := by
    intro m
    induction m with
    | zero => exact Nat.le_of_eq rfl
    | succ m ih =>
      rw [q_rows_s, List.length_append, q_rw_l]
      omega
  have hmL' := hmL m
  rw [hL] at hmL'
  have hr1' : l_rep tx n 9 (g_row tx n) (n + 1 - 46) 46 rd0 = .inr (L, rd1) := by
    rw [show n + 1 - 46 = n - 46 - m + m + 1 by omega]
    exact hr1
  have hp := p_line (at_ := l_sk tx n L) hs ho b1 hq1.1.2.2.1 hq1.1.2.2.2 hq1.2.1.1 hq1.2.1.2.1 (hq1.2.2.2.1 9 (by omega) (by omega))
  have hgp : g_prep tx n (l_sk tx n L) (l_tk tx n L (x_w 10)) rd1 = .inr (L + 29, prE rd1 tx (L + 7) s o) := by
    unfold g_prep
    rw [tk1, n_of (k := 2) hq1.1.1 (by decide), n_of (k := 0) (hq1.2.2.2.1 2 (by omega) (by omega)) (by decide)]
    exact hp
  have hkl := k_line (rd := prE rd1 tx (L + 7) s o) h1 h2 h3 b3
  have htl := t_line (rd := upd (upd (upd (prE rd1 tx (L + 7) s o) 4 (nI sc)) 5 (nI pr)) 6 (nI fe)) h4 a5
  rw [show L + 33 + (dg sc).length + (dg pr).length + (dg fe).length + 4 = L + 33 + ((dg sc).length + (dg pr).length + (dg fe).length + 4) by omega] at hkl
  rw [show L + 33 + ((dg sc).length + (dg pr).length + (dg fe).length + 4) + 5 + (dg tr).length + 2 = n by omega] at htl
  have kn : l_sk tx n n = n := l_run_ge (Nat.le_refl n)
  have sn : l_see tx n n = -1 := by
    unfold l_see
    rw [kn, if_neg (by omega)]
  refine ⟨_, ?_, q_finish (tx := tx) (P := L + 7) (s := s) (o := o) (sc := sc) (pr := pr) (fe := fe) (tr := tr) hm hq1⟩
  rw [hx0]
  show l_bi (l_rep tx n 9 (g_row tx n) (n + 1 - 46) 46 rd0) (l_t3 tx n) = _
  rw [hr1']
  show l_bi (l_rep tx n 10 (g_prep tx n) (n + 1 - L) L rd1) (l_t4 tx n) = _
  rw [show n + 1 - L = n - L - 1 + 1 + 1 by omega, l_rep_y j1 hgp, l_rep_n j2, k29]
  show l_bi (if l_isw tx n (L + 29) (x_w 11) = true then l_costLine tx n (l_tk tx n (L + 29) (x_w 11)) (prE rd1 tx (L + 7) s o) else _) (l_t5 tx n) = _
  rw [if_pos j3, tk2, hkl]
  show l_bi (if l_isw tx n (L + 33 + ((dg sc).length + (dg pr).length + (dg fe).length + 4)) (x_w 12) = true then l_triesLine tx n (l_tk tx n (L + 33 + ((dg sc).length + (dg pr).length + (dg fe).length + 4)) (x_w 12)) _ else _) (l_t6 tx n) = _
  rw [if_pos j4, tk3, htl]
  show (if l_see tx n n = -1 then _ else _) = _
  rw [if_pos sn, kn]
