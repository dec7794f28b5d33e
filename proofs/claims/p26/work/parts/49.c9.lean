/-! ===== the class: statements; the chosen comparison, costs, the best plan ===== -/
/-- a prepared statement's object: its name, condition, holes, list -/
def pV (nm : Int64) (co ht sg : Nat) : Nat → Value := fun k => match k with
  | 0 => .long nm
  | 1 => .ref co
  | 2 => .ref ht
  | _ => .ref sg
/-- a list outside the class's own cells -/
def l_at (B : XH) (a n : Nat) (p : Nat → Nat) : Prop := s_out a ∧ n < 2147483648 ∧ ∃ mc el, B a = some (.inl (0, lV mc el n)) ∧ (0 < n → s_out el ∧ ∃ mu cap f, B el = some (.inr (mu, .object "java/lang/Object", cap, f)) ∧ (n ≤ cap ∧ cap < 2147483648) ∧ ∀ j, j < n → f j = .ref (p j))
theorem l_at_li {B : XH} {J bf K tk ts : Nat → Int32} {tl : Int64} {tv : Nat → Int64} {su : Nat → Nat} {D : Nat → Nat → Int32} {a n : Nat} {p : Nat → Nat} (h : l_at B a n p) : x_li (cset B J bf K tk ts tl tv su D) a n p := by
  obtain ⟨h1, -, mc, el, h2, h3⟩ := h
  refine ⟨mc, el, c_B h1 h2, fun hn => ?_⟩
  obtain ⟨g1, mu, cap, f, g2, g3⟩ := h3 hn
  exact ⟨mu, cap, f, c_B g1 g2, g3⟩
theorem l_at_N {B : XH} {J bf K tk ts : Nat → Int32} {tl : Int64} {tv : Nat → Int64} {su : Nat → Nat} {D : Nat → Nat → Int32} {a n : Nat} {p : Nat → Nat} (h : l_at B a n p) : ∃ V, cset B J bf K tk ts tl tv su D a = some (.inl (0, V)) := by
  obtain ⟨h1, -, mc, el, h2, h3⟩ := h
  exact ⟨_, c_B h1 h2⟩
/-- how many comparisons of statement s a plan may use -/
def s_sn (e : Nat → Int32) (s : Nat) : Nat := s_cn e (s_from e s) (s_to e s - s_from e s)
/-- the list of a statement's comparisons that a plan may use -/
def sg_at (B : XH) (e : Nat → Int32) (s sg : Nat) : Prop := ∃ p, l_at B sg (s_sn e s) p ∧ ∀ m, m < s_to e s - s_from e s → s_pln e (s_from e s + m) → q_at B e (s_from e s + m) (p (s_cn e (s_from e s) m))
/-- a condition's compound -/
def cpV (kd : Int32) (a : Nat) : Nat → Value := fun k => match k with
  | 0 => .int kd
  | _ => .ref a
/-- what a compound of n parts says -/
def s_cpE (kd : Int32) (n : Nat) (F : Nat → (Nat → Bool) → Bool) (T : Nat → Bool) : Bool :=
  if kd = 0 then (List.range n).all (fun j => F j T) else if kd = 1 then (List.range n).any (fun j => F j T) else (decide (0 < n) && !F (n - 1) T)
/-- the condition at o, at most w deep, says E, out of what its comparisons say -/
def t_at (B : XH) (e : Nat → Int32) : Nat → Nat → ((Nat → Bool) → Bool) → Prop
  | 0, _, _ => False
  | w + 1, o, E => (∃ k, q_at B e k o ∧ s_cmpok e k ∧ E = fun T => T k) ∨
    ∃ (kd : Int32) (a n : Nat) (p : Nat → Nat) (F : Nat → (Nat → Bool) → Bool), s_out o ∧ B o = some (.inl (2, cpV kd a)) ∧ (kd = 0 ∨ kd = 1 ∨ kd = 2) ∧ l_at B a n p ∧ (∀ j, j < n → t_at B e w (p j) (F j)) ∧ E = s_cpE kd n F
/-- the codes' pile, when the comparisons say T -/
def s_pt (c : Nat → Int32) (T : Nat → Bool) (f : Nat) (P : Nat → Bool) : Nat → Nat → Bool
  | 0 => P
  | n + 1 => s_px1 (s_cod c (f + n) 0) (s_hg c f n) (T (f + n)) (s_pt c T f P n)
theorem s_px_pt {c gv : Nat → Int32} {l f : Nat} {P : Nat → Bool} : ∀ n, s_px c gv l f P n = s_pt c (fun k => s_tru c gv k l) f P n
  | 0 => rfl
  | n + 1 => by
    show s_px1 _ _ _ (s_px c gv l f P n) = s_px1 _ _ _ (s_pt c _ f P n)
    rw [s_px_pt n]
def s_ft (e : Nat → Int32) (s : Nat) (T : Nat → Bool) : Bool := s_pt e T (s_from e s) (fun _ => false) (s_to e s - s_from e s) 0
theorem s_find_ft {e gv : Nat → Int32} {s l : Nat} : s_find e gv s l = s_ft e s (fun k => s_tru e gv k l) := congrFun (s_px_pt _) 0
/-- a name in a row, as the class counts it -/
def s_nmn (e : Nat → Int32) (at_ : Nat) : Nat → Int64
  | 0 => 0
  | k + 1 => if e (at_ + k) = 0 then s_nmn e at_ k else 32 * s_nmn e at_ k + (e (at_ + k)).toInt64 - 97 + 1
/-- statement s of row e is prepared at po -/
def P_at (B : XH) (e : Nat → Int32) (s po : Nat) : Prop := s_out po ∧ ∃ nm co ht sg, B po = some (.inl (4, pV nm co ht sg)) ∧ nm = s_nmn e (275 + 30 * s) 8 ∧
  (s_out ht ∧ ∃ (mu : Bool) (h : Nat → Int32), B ht = some (.inr (mu, .int, 4, fun j => .int (h j))) ∧ ∀ j, j < 4 → h j = s_st e s (17 + j)) ∧ sg_at B e s sg ∧ ∃ w E, w ≤ 40 ∧ t_at B e w co E ∧ ∀ T, E T = s_ft e s T
/-- the Setup at o is row e's -/
def st_at (B : XH) (e : Nat → Int32) (o : Nat) : Prop := s_out o ∧ ∃ (a1 a2 a3 : Nat) (pp : Nat → Nat), B o = some (.inl (5, stV a1 a2 a3 e)) ∧
  (s_out a1 ∧ ∃ nm : Nat → Int64, B a1 = some (.inr (true, .long, 5, fun j => .long (nm j))) ∧ ∀ j, j < s_cm e → nm j = s_nmn e (10 + 13 * j) 8) ∧
  (s_out a2 ∧ ∃ ty : Nat → Int32, B a2 = some (.inr (true, .int, 5, fun j => .int (ty j))) ∧ ∀ j, j < s_cm e → ty j = s_col e j 8) ∧ l_at B a3 (s_sm e) pp ∧ ∀ s, s < s_sm e → P_at B e s (pp s)
/-- a comparison chosen so far -/
def ch_ok (e gv : Nat → Int32) (col : Int32) (z : Bool) (f : Nat) (p : Nat → Nat) (m : Nat) (v : Value) (sm : Int32) : Prop :=
  (s_chos e gv col z f m = -1 ∧ v = .null) ∨ ∃ m0, m0 < m ∧ s_chos e gv col z f m = nI (f + m0) ∧ s_pln e (f + m0) ∧ v = .ref (p (s_cn e f m0)) ∧ sm = s_est e gv (f + m0) z
/-- what chosenFor gives -/
def x_RCh (N1 B : XH) (e gv : Nat → Int32) (s : Nat) (col : Int32) (z : Bool) : XH → Option Value → Prop := fun N r => N = N1 ∧ ((s_chosen e gv s col z = -1 ∧ r = some .null) ∨ ∃ k o, (s_from e s ≤ k ∧ k < s_to e s) ∧ s_chosen e gv s col z = nI k ∧ s_cod e k 1 = col ∧ s_cod e k 0 = 0 ∧ r = some (.ref o) ∧ q_at B e k o)
section VCALLP
variable {G : XE} {M Mc : XMI} {d mc ms nb0 : Nat} {ad0 : Nat → Nat} {Qn : XH → Option Value → Prop} {Qx : XH → String → Prop} {N : XH} {cells slots pc pc' t : Nat} {L : List (Option Value)}
theorem X_vcallP {idx n d' mc' ms' o ci nf : Nat} {T : u_T} {V : Nat → Value} {st As rest : List Value} {Q : XH → Option Value → Prop} (hN : N o = some (.inl (ci, V))) (hk : x_LV (x_own M) idx n Mc) (hM : x_M G Mc d' mc' ms' (.ref o :: As) N Q x_noX)
    (hd : x_at (x_k M) pc = some (.invokevirtual idx, pc', t)) (hst : st = As.reverse ++ .ref o :: rest) (hci : vwCl[ci]? = some ((x_y Mc).cls, T, nf)) (hn : As.length = n) (hrest : (rest.map fun v => v.category).sum ≤ 8) (hL : x_nL Mc ≤ 81) (hdd : d' + 1 ≤ d) (h1 : cells + mc' ≤ mc) (h2 : slots + ms' ≤ ms)
    (kk : ∀ (N1 : XH) (r : Option Value), Q N1 r → x_W G M (x_Z G d mc ms ad0 nb0 Qn Qx) N1 (cells + mc') (slots + ms') pc' L (r.toList ++ rest)) : x_W G M (x_Z G d mc ms ad0 nb0 Qn Qx) N cells slots pc L st :=
  X_callV (T := T) (nf := nf) hk hM hd hst hN hci hn hrest (x_fit_of hL hdd h1 h2) (fun _ _ h => h.elim) kk
end VCALLP
theorem s_pick_col {e gv : Nat → Int32} {col b : Int32} {z : Bool} {k : Nat} (h : ¬ s_cod e k 1 = col) (hp : s_pln e k) : s_pick e gv col z k b = b := by
  unfold s_pick
  rw [if_pos hp.1, if_pos hp.2, if_neg h]
theorem s_pick_new {e gv : Nat → Int32} {col b : Int32} {z : Bool} {k : Nat} (hp : s_pln e k) (h : s_cod e k 1 = col) (hb : b = -1 ∨ ∃ q, b = nI q ∧ q < 2147483648 ∧ s_est e gv k z < s_est e gv q z) : s_pick e gv col z k b = nI k := by
  unfold s_pick
  rw [if_pos hp.1, if_pos hp.2, if_pos h]
  rcases hb with hb | ⟨q, h1, h2, h3⟩
  · rw [if_pos hb]
  · rw [if_neg (by rw [h1]; exact nI_ne_neg h2), h1, nI_clamp h2, if_pos h3]
theorem s_pick_keep {e gv : Nat → Int32} {col b : Int32} {z : Bool} {k q : Nat} (hp : s_pln e k) (h : s_cod e k 1 = col) (h1 : b = nI q) (h2 : q < 2147483648) (h3 : ¬ s_est e gv k z < s_est e gv q z) : s_pick e gv col z k b = nI q := by
  unfold s_pick
  rw [if_pos hp.1, if_pos hp.2, if_pos h, if_neg (by rw [h1]; exact nI_ne_neg h2), h1, nI_clamp h2, if_neg h3]
theorem s_cn_end {e gv : Nat → Int32} {s : Nat} {col : Int32} {z : Bool} {m : Nat} (h : m ≤ s_to e s - s_from e s) (hc : s_cn e (s_from e s) m = s_sn e s) : s_chos e gv col z (s_from e s) m = s_chosen e gv s col z := by
  unfold s_chosen
  have h1 := s_cn_same (e := e) (gv := gv) (col := col) (z := z) (f := s_from e s) (s_to e s - s_from e s - m) m (by rw [show m + (s_to e s - s_from e s - m) = s_to e s - s_from e s by omega]; exact hc)
  rw [show m + (s_to e s - s_from e s - m) = s_to e s - s_from e s by omega] at h1
  exact h1.symm
theorem s_chos_col {e gv : Nat → Int32} {f : Nat} {col : Int32} {z : Bool} {m m0 : Nat} (hf : f + m < 2147483648) (h : s_chos e gv col z f m = nI (f + m0)) (h0 : f + m0 < 2147483648) : s_cod e (f + m0) 1 = col := by
  rcases s_chos_ok (c := e) (gv := gv) (col := col) (z := z) (f := f) m with h1 | ⟨q, h1, h2⟩
  · exact absurd (h.symm.trans h1) (nI_ne_neg h0)
  · obtain rfl : q = f + m0 := (nI_eq (by omega) h0).mp (h2.symm.trans h)
    exact h1.2.2.2.2
theorem d_chosenFor {G : XE} (hG : x_Kn G) {B : XH} {J bf K tk ts : Nat → Int32} {tl : Int64} {tv : Nat → Int64} {su : Nat → Nat} {D : Nat → Nat → Int32} (d : Nat) (i : Nat) (hi : i < 10) {c : Nat → Int32} {e g gv : Nat → Int32} {vn : Nat} {z : Bool} (hwf : s_wf e) (hst : st_at B e (su i)) (hrel : s_rel e c) (hvv : v_at B g vn) (hg : g_ok z g gv) (s : Nat) (hs : s < s_sm e) {x col : Int32} (hx : x = nI s) : x_M G mX3_chosenFor (d + 4) 0 0 [.ref (75 + 20 * i), .int x, .int col, .ref vn] (cset B J bf K tk ts tl tv su (updR D i c)) (x_RCh (cset B J bf K tk ts tl tv su (updR D i c)) B e gv s col z) x_noX := by
  refine X_M hG okX3_chosenFor rfl (L := [some (.ref (75 + 20 * i)), some (.int x), some (.int col), some (.ref vn), none, none, none, none, none, none]) rfl (Nat.le_of_ble_eq_true rfl) (fun ad0 nb0 => ?_)
  have hsm6 := hwf.smE.2
  have hcm5 := hwf.cmE.2
  obtain ⟨hso, a1, a2, a3, pp, hsB, -, -, hl3, hP⟩ := hst
  obtain ⟨hpo, nm, co, ht, sg, hPB, -, -, ⟨p, hlp, hpq⟩, -⟩ := hP s hs
  obtain ⟨VL3, hN3⟩ := l_at_N (J := J) (bf := bf) (K := K) (tk := tk) (ts := ts) (tl := tl) (tv := tv) (su := su) (D := updR D i c) hl3
  obtain ⟨VLp, hNp⟩ := l_at_N (J := J) (bf := bf) (K := K) (tk := tk) (ts := ts) (tl := tl) (tv := tv) (su := su) (D := updR D i c) hlp
  obtain ⟨hft, ht325, -⟩ := s_kok_ft (hwf.kok hs)
  have hnT := hlp.2.1
  obtain ⟨TT, hTT⟩ : ∃ TT, TT = s_to e s - s_from e s := ⟨_, rfl⟩
  rw [← hTT] at hpq
  obtain ⟨f, hf⟩ : ∃ f, f = s_from e s := ⟨_, rfl⟩
  rw [← hf] at hpq
  have loop : ∀ (r j : Nat) (v9 : Value) (sm : Int32) (m : Nat), m ≤ TT → s_cn e f m = j → j + r = s_sn e s → ch_ok e gv col z f p m v9 sm → x_W G mX3_chosenFor (x_Z G (d + 4) 0 0 ad0 nb0 (x_RCh (cset B J bf K tk ts tl tv su (updR D i c)) B e gv s col z) x_noX) (cset B J bf K tk ts tl tv su (updR D i c)) 0 0 28 [some (.ref (75 + 20 * i)), some (.int x), some (.int col), some (.ref vn), some (.ref sg), some (v9), some (.int sm), some (.int (nI j)), none, none] [] := by
    intro r
    induction r with
    | zero =>
      intro j v9 sm m hmT hcn hj hok
      subst hf
      subst hTT
      have hcn : s_cn e (s_from e s) m = s_sn e s := by omega
      rcases hok with ⟨hch, rfl⟩ | ⟨m0, hm0, hch, hpl0, rfl, hsm⟩
      · refine X_ld rfl rfl rfl rfl ?_
        refine X_ld rfl rfl rfl rfl ?_
        refine X_vcall (o := sg) hNp l_X3_Jx4a65c_size_8abf5 (j_size hG (d + 3) (l_at_li hlp)) rfl rfl rfl rfl (Nat.le_of_ble_eq_true rfl) (Nat.le_of_ble_eq_true rfl) (by omega) (Nat.le_of_ble_eq_true rfl) (Nat.le_of_ble_eq_true rfl) ?_
        refine X_icmp_ge rfl (fun c35 => ?_) (fun c35 => absurd ((n_le rfl rfl (by omega) (by omega)).mpr (by omega)) c35)
        refine X_ld rfl rfl rfl rfl ?_
        exact X_aret rfl rfl (Or.inl ⟨_, rfl⟩) (Or.inl rfl) ⟨rfl, Or.inl ⟨(s_cn_end hmT hcn).symm.trans hch, rfl⟩⟩ (Nat.le_of_ble_eq_true rfl) (Nat.le_of_ble_eq_true rfl)
      · have hcol := s_chos_col (by omega) hch (by omega)
        refine X_ld rfl rfl rfl rfl ?_
        refine X_ld rfl rfl rfl rfl ?_
        refine X_vcall (o := sg) hNp l_X3_Jx4a65c_size_8abf5 (j_size hG (d + 3) (l_at_li hlp)) rfl rfl rfl rfl (Nat.le_of_ble_eq_true rfl) (Nat.le_of_ble_eq_true rfl) (by omega) (Nat.le_of_ble_eq_true rfl) (Nat.le_of_ble_eq_true rfl) ?_
        refine X_icmp_ge rfl (fun c35 => ?_) (fun c35 => absurd ((n_le rfl rfl (by omega) (by omega)).mpr (by omega)) c35)
        refine X_ld rfl rfl rfl rfl ?_
        exact X_aret rfl rfl (Or.inl ⟨_, rfl⟩) (Or.inr ⟨_, rfl⟩) ⟨rfl, Or.inr ⟨s_from e s + m0, p (s_cn e (s_from e s) m0), by omega, (s_cn_end hmT hcn).symm.trans hch, hcol, hpl0.1, rfl, hpq m0 (by omega) hpl0⟩⟩ (Nat.le_of_ble_eq_true rfl) (Nat.le_of_ble_eq_true rfl)
    | succ r ih =>
      intro j v9 sm m hmT hcn hj hok
      obtain ⟨m2, hm2, hm2T, hpl, hm2j, hchm⟩ := s_cn_next (e := e) (gv := gv) (col := col) (z := z) (f := f) (j := j) (TT - m) m hcn (by rw [show m + (TT - m) = TT by omega, hTT, hf]; show j < s_sn e s; omega)
      have hq : q_at B e (f + m2) (p j) := by rw [← hm2j]; exact hpq m2 (by omega) hpl
      have hc : s_cmpok e (f + m2) := (hwf.st s hs).2.2 (f + m2) (by omega) (by omega) hpl.1
      rcases hok with ⟨hch, rfl⟩ | ⟨m0, hm0, hch, hpl0, rfl, hsm⟩
      · rw [← hchm] at hch
        refine X_ld rfl rfl rfl rfl ?_
        refine X_ld rfl rfl rfl rfl ?_
        refine X_vcall (o := sg) hNp l_X3_Jx4a65c_size_8abf5 (j_size hG (d + 3) (l_at_li hlp)) rfl rfl rfl rfl (Nat.le_of_ble_eq_true rfl) (Nat.le_of_ble_eq_true rfl) (by omega) (Nat.le_of_ble_eq_true rfl) (Nat.le_of_ble_eq_true rfl) ?_
        refine X_icmp_ge rfl (fun c35 => absurd ((n_le rfl rfl (by omega) (by omega)).mp c35) (by omega)) (fun c35 => ?_)
        refine X_ld rfl rfl rfl rfl ?_
        refine X_ld rfl rfl rfl rfl ?_
        refine X_vcall (o := sg) hNp l_X3_Jx4a65c_get_915e3 (j_get hG (d + 1) (l_at_li hlp) j (by omega) rfl) rfl rfl rfl rfl (Nat.le_of_ble_eq_true rfl) (Nat.le_of_ble_eq_true rfl) (by omega) (Nat.le_of_ble_eq_true rfl) (Nat.le_of_ble_eq_true rfl) ?_
        refine X_castS cl_X3_131 rfl (c_B hq.1 hq.2) rfl ?_
        refine X_st rfl rfl rfl ?_
        refine X_ld rfl rfl rfl rfl ?_
        refine X_get f_X3_133 rfl (c_B hq.1 hq.2) rfl ?_
        refine X_ld rfl rfl rfl rfl ?_
        refine X_icmp_ne rfl (fun c56 => ?_) (fun c56 => ?_)
        · refine X_iinc rfl rfl rfl ?_
          refine X_goto rfl ?_
          refine X_loc (L' := [some (.ref (75 + 20 * i)), some (.int x), some (.int col), some (.ref vn), some (.ref sg), some (.null), some (.int sm), some (.int (nI (j + 1))), none, none]) ⟨rfl, rfl, rfl, rfl, rfl, rfl, rfl, (congrArg Value.int (m_inc rfl)).symm, trivial⟩ ?_
          exact ih (j + 1) _ sm (m2 + 1) (by omega) ((s_cn_y hpl).trans (by omega)) (by omega) (Or.inl ⟨(s_pick_col c56 hpl).trans hch, rfl⟩)
        · refine X_ld rfl rfl rfl rfl ?_
          refine X_get f_X3_22 rfl (r_D hi updR_eq) rfl ?_
          refine X_ld rfl rfl rfl rfl ?_
          refine X_ld rfl rfl rfl rfl ?_
          obtain ⟨jc, hjc, hjc1⟩ := hc.1
          refine X_vcall (r_S hi updR_eq) l_X3_X7_estimate (t_estimate hG (d + 2) i hi hq hvv hc jc (by omega) hjc1) rfl rfl rfl rfl (Nat.le_of_ble_eq_true rfl) (Nat.le_of_ble_eq_true rfl) (by omega) (Nat.le_of_ble_eq_true rfl) (Nat.le_of_ble_eq_true rfl) ?_
          refine X_stk (congrArg (fun q => [Value.int q]) (s_cest_est hwf hc hrel hjc hjc1 hg)) ?_
          refine X_st rfl rfl rfl ?_
          refine X_ld rfl rfl rfl rfl ?_
          refine X_ifnullN rfl ?_
          · refine X_ld rfl rfl rfl rfl ?_
            refine X_st rfl rfl rfl ?_
            refine X_ld rfl rfl rfl rfl ?_
            refine X_st rfl rfl rfl ?_
            refine X_iinc rfl rfl rfl ?_
            refine X_goto rfl ?_
            refine X_loc (L' := [some (.ref (75 + 20 * i)), some (.int x), some (.int col), some (.ref vn), some (.ref sg), some (.ref (p (s_cn e f m2))), some (.int (s_est e gv (f + m2) z)), some (.int (nI (j + 1))), none, none]) ⟨rfl, rfl, rfl, rfl, rfl, congrArg (fun q => Value.ref (p q)) hm2j, rfl, (congrArg Value.int (m_inc rfl)).symm, trivial⟩ ?_
            exact ih (j + 1) _ _ (m2 + 1) (by omega) ((s_cn_y hpl).trans (by omega)) (by omega) (Or.inr ⟨m2, by omega, (s_pick_new hpl c56 (Or.inl hch)), hpl, rfl, rfl⟩)
      · rw [← hchm] at hch
        refine X_ld rfl rfl rfl rfl ?_
        refine X_ld rfl rfl rfl rfl ?_
        refine X_vcall (o := sg) hNp l_X3_Jx4a65c_size_8abf5 (j_size hG (d + 3) (l_at_li hlp)) rfl rfl rfl rfl (Nat.le_of_ble_eq_true rfl) (Nat.le_of_ble_eq_true rfl) (by omega) (Nat.le_of_ble_eq_true rfl) (Nat.le_of_ble_eq_true rfl) ?_
        refine X_icmp_ge rfl (fun c35 => absurd ((n_le rfl rfl (by omega) (by omega)).mp c35) (by omega)) (fun c35 => ?_)
        refine X_ld rfl rfl rfl rfl ?_
        refine X_ld rfl rfl rfl rfl ?_
        refine X_vcall (o := sg) hNp l_X3_Jx4a65c_get_915e3 (j_get hG (d + 1) (l_at_li hlp) j (by omega) rfl) rfl rfl rfl rfl (Nat.le_of_ble_eq_true rfl) (Nat.le_of_ble_eq_true rfl) (by omega) (Nat.le_of_ble_eq_true rfl) (Nat.le_of_ble_eq_true rfl) ?_
        refine X_castS cl_X3_131 rfl (c_B hq.1 hq.2) rfl ?_
        refine X_st rfl rfl rfl ?_
        refine X_ld rfl rfl rfl rfl ?_
        refine X_get f_X3_133 rfl (c_B hq.1 hq.2) rfl ?_
        refine X_ld rfl rfl rfl rfl ?_
        refine X_icmp_ne rfl (fun c56 => ?_) (fun c56 => ?_)
        · refine X_iinc rfl rfl rfl ?_
          refine X_goto rfl ?_
          refine X_loc (L' := [some (.ref (75 + 20 * i)), some (.int x), some (.int col), some (.ref vn), some (.ref sg), some (.ref (p (s_cn e f m0))), some (.int sm), some (.int (nI (j + 1))), none, none]) ⟨rfl, rfl, rfl, rfl, rfl, rfl, rfl, (congrArg Value.int (m_inc rfl)).symm, trivial⟩ ?_
          exact ih (j + 1) _ sm (m2 + 1) (by omega) ((s_cn_y hpl).trans (by omega)) (by omega) (Or.inr ⟨m0, by omega, (s_pick_col c56 hpl).trans hch, hpl0, rfl, hsm⟩)
        · refine X_ld rfl rfl rfl rfl ?_
          refine X_get f_X3_22 rfl (r_D hi updR_eq) rfl ?_
          refine X_ld rfl rfl rfl rfl ?_
          refine X_ld rfl rfl rfl rfl ?_
          obtain ⟨jc, hjc, hjc1⟩ := hc.1
          refine X_vcall (r_S hi updR_eq) l_X3_X7_estimate (t_estimate hG (d + 2) i hi hq hvv hc jc (by omega) hjc1) rfl rfl rfl rfl (Nat.le_of_ble_eq_true rfl) (Nat.le_of_ble_eq_true rfl) (by omega) (Nat.le_of_ble_eq_true rfl) (Nat.le_of_ble_eq_true rfl) ?_
          refine X_stk (congrArg (fun q => [Value.int q]) (s_cest_est hwf hc hrel hjc hjc1 hg)) ?_
          refine X_st rfl rfl rfl ?_
          refine X_ld rfl rfl rfl rfl ?_
          refine X_ifnull rfl ?_
          · refine X_ld rfl rfl rfl rfl ?_
            refine X_ld rfl rfl rfl rfl ?_
            refine X_icmp_ge rfl (fun c80 => ?_) (fun c80 => ?_)
            · refine X_iinc rfl rfl rfl ?_
              refine X_goto rfl ?_
              refine X_loc (L' := [some (.ref (75 + 20 * i)), some (.int x), some (.int col), some (.ref vn), some (.ref sg), some (.ref (p (s_cn e f m0))), some (.int sm), some (.int (nI (j + 1))), none, none]) ⟨rfl, rfl, rfl, rfl, rfl, rfl, rfl, (congrArg Value.int (m_inc rfl)).symm, trivial⟩ ?_
              exact ih (j + 1) _ sm (m2 + 1) (by omega) ((s_cn_y hpl).trans (by omega)) (by omega) (Or.inr ⟨m0, by omega, (s_pick_keep hpl c56 hch (by omega) (by rw [← hsm]; exact Int32.not_lt.mpr c80)).trans rfl, hpl0, rfl, hsm⟩)
            · refine X_ld rfl rfl rfl rfl ?_
              refine X_st rfl rfl rfl ?_
              refine X_ld rfl rfl rfl rfl ?_
              refine X_st rfl rfl rfl ?_
              refine X_iinc rfl rfl rfl ?_
              refine X_goto rfl ?_
              refine X_loc (L' := [some (.ref (75 + 20 * i)), some (.int x), some (.int col), some (.ref vn), some (.ref sg), some (.ref (p (s_cn e f m2))), some (.int (s_est e gv (f + m2) z)), some (.int (nI (j + 1))), none, none]) ⟨rfl, rfl, rfl, rfl, rfl, congrArg (fun q => Value.ref (p q)) hm2j, rfl, (congrArg Value.int (m_inc rfl)).symm, trivial⟩ ?_
              exact ih (j + 1) _ _ (m2 + 1) (by omega) ((s_cn_y hpl).trans (by omega)) (by omega) (Or.inr ⟨m2, by omega, (s_pick_new hpl c56 (Or.inr ⟨f + m0, hch, by omega, by rw [← hsm]; exact Int32.not_le.mp c80⟩)), hpl, rfl, rfl⟩)
  refine X_ld rfl rfl rfl rfl ?_
  refine X_get f_X3_32 rfl (r_D hi updR_eq) rfl ?_
  refine X_get f_X3_102 rfl (c_B hso hsB) rfl ?_
  refine X_ld rfl rfl rfl rfl ?_
  refine X_vcall (o := a3) hN3 l_X3_Jx4a65c_get_915e3 (j_get hG (d + 1) (l_at_li hl3) s hs hx) rfl rfl rfl rfl (Nat.le_of_ble_eq_true rfl) (Nat.le_of_ble_eq_true rfl) (by omega) (Nat.le_of_ble_eq_true rfl) (Nat.le_of_ble_eq_true rfl) ?_
  refine X_castS cl_X3_112 rfl (c_B hpo hPB) rfl ?_
  refine X_get f_X3_124 rfl (c_B hpo hPB) rfl ?_
  refine X_st rfl rfl rfl ?_
  refine X_push (v := .null) rfl rfl ?_
  refine X_st rfl rfl rfl ?_
  refine X_push (v := .int 0) rfl (by decide +kernel) ?_
  refine X_st rfl rfl rfl ?_
  refine X_push (v := .int 0) rfl (by decide +kernel) ?_
  refine X_st rfl rfl rfl ?_
  refine X_loc (L' := [some (.ref (75 + 20 * i)), some (.int x), some (.int col), some (.ref vn), some (.ref sg), some (.null), some (.int 0), some (.int (nI 0)), none, none]) ⟨rfl, rfl, rfl, rfl, rfl, rfl, rfl, rfl, trivial⟩ ?_
  exact loop (s_sn e s) 0 .null 0 0 (Nat.zero_le _) rfl (Nat.zero_add _) (Or.inl ⟨rfl, rfl⟩)

