/-! ===== the class's reader: constructors, holes ===== -/
section XIN
variable {G : XE} {M : XMI} {d mc ms nb0 : Nat} {ad0 : Nat → Nat} {Qn : XH → Option Value → Prop} {Qx : XH → String → Prop} {N : XH} {cells slots pc pc' t : Nat} {L : List (Option Value)}
theorem X_icallNv {Mc : XMI} {N1 : XH} {host : String} {idx n d' mc' ms' o : Nat} {st As rest : List Value} (hk : x_LIN (x_own M) idx n Mc host) (hM : x_M G Mc d' mc' ms' (.ref o :: As) N (x_RetV N1) x_noX)
    (hd : x_at (x_k M) pc = some (.invokespecial idx, pc', t)) (hst : st = As.reverse ++ .ref o :: rest) (hn : As.length = n) (hrest : (rest.map fun v => v.category).sum ≤ 8) (hL : x_nL Mc ≤ 81) (hdd : d' + 1 ≤ d) (h1 : cells + mc' ≤ mc) (h2 : slots + ms' ≤ ms)
    (kk : x_W G M (x_Z G d mc ms ad0 nb0 Qn Qx) N1 (cells + mc') (slots + ms') pc' L rest) : x_W G M (x_Z G d mc ms ad0 nb0 Qn Qx) N cells slots pc L st :=
  X_callIN hk hM hd hst hn hrest (x_fit_of hL hdd h1 h2) (fun N' r h => by obtain ⟨rfl, rfl⟩ := h; exact kk)
end XIN
theorem y_f4 {V V' : Nat → Value} (h0 : V 0 = V' 0) (h1 : V 1 = V' 1) (h2 : V 2 = V' 2) (h3 : V 3 = V' 3) : ∀ k, k < 4 → V k = V' k
  | 0, _ => h0
  | 1, _ => h1
  | 2, _ => h2
  | 3, _ => h3
  | k + 4, h => absurd h (by omega)
theorem y_f2 {V V' : Nat → Value} (h0 : V 0 = V' 0) (h1 : V 1 = V' 1) : ∀ k, k < 2 → V k = V' k
  | 0, _ => h0
  | 1, _ => h1
  | k + 2, h => absurd h (by omega)
/-- a comparison's object -/
def cV4 (a b c e : Int32) : Nat → Value := fun j => match j with
  | 0 => .int a
  | 1 => .int b
  | 2 => .int c
  | _ => .int e
theorem cV4_cm {e : Nat → Int32} {k : Nat} : cmV e k = cV4 (s_cod e k 1) (s_cod e k 2) (s_cod e k 3) (s_cod e k 4) := rfl
theorem p_X2init {G : XE} (hG : x_Kn G) {N : XH} (d : Nat) {a : Nat} : x_M G mX2_init (d + 1) 0 0 [.ref a] (N) (x_RetV N) x_noX := by
  refine X_M hG okX2_init rfl (L := [some (.ref a)]) rfl (Nat.le_of_ble_eq_true rfl) (fun ad0 nb0 => ?_)
  refine X_ld rfl rfl rfl rfl ?_
  refine X_obj (x_in 792 (by decide +kernel) rfl) (x_in 93 (by decide +kernel) rfl) (x_in 94 (by decide +kernel) rfl) rfl (by show 1 ≤ d + _; omega) (by show _ ≤ 100 * (d + _); simp; omega) ?_
  exact X_vret rfl rfl ⟨rfl, rfl⟩ (Nat.le_of_ble_eq_true rfl) (Nat.le_of_ble_eq_true rfl)
theorem p_X0init {G : XE} (hG : x_Kn G) {N : XH} (d : Nat) {o : Nat} (hN : N o = some (.inl (1, y_dfl tyX0))) {a b c e : Int32} (hb : b = 60 ∨ b = 61 ∨ b = 62) : x_M G mX0_init (d + 2) 0 0 [.ref o, .int a, .int b, .int c, .int e] (N) (x_RetV (x_set N o (.inl (1, cV4 a b c e)))) x_noX := by
  refine X_M hG okX0_init rfl (L := [some (.ref o), some (.int a), some (.int b), some (.int c), some (.int e)]) rfl (Nat.le_of_ble_eq_true rfl) (fun ad0 nb0 => ?_)
  refine X_ld rfl rfl rfl rfl ?_
  refine X_icallNv l_X0_X2_init (p_X2init hG d) rfl rfl rfl (Nat.le_of_ble_eq_true rfl) (Nat.le_of_ble_eq_true rfl) (by omega) (by omega) (by omega) ?_
  refine X_ld rfl rfl rfl rfl ?_
  refine X_ld rfl rfl rfl rfl ?_
  refine X_putF f_X0_9 rfl hN ⟨rfl, rfl⟩ rfl (fun C T n h => by cases h; rfl) ?_
  refine X_ld rfl rfl rfl rfl ?_
  refine X_ld rfl rfl rfl rfl ?_
  refine X_putF f_X0_15 rfl x_set_eq (by rcases hb with rfl | rfl | rfl <;> exact ⟨rfl, rfl⟩) rfl (fun C T n h => by cases h; rfl) ?_
  refine X_ld rfl rfl rfl rfl ?_
  refine X_ld rfl rfl rfl rfl ?_
  refine X_putF f_X0_19 rfl x_set_eq ⟨rfl, rfl⟩ rfl (fun C T n h => by cases h; rfl) ?_
  refine X_ld rfl rfl rfl rfl ?_
  refine X_ld rfl rfl rfl rfl ?_
  refine X_putF f_X0_22 rfl x_set_eq ⟨rfl, rfl⟩ rfl (fun C T n h => by cases h; rfl) ?_
  rw [x_set_set, x_set_set, x_set_set]
  refine X_recell (n := 4) (V' := cV4 a b c e) rfl (y_f4 rfl rfl rfl rfl) ?_
  exact X_vret rfl rfl ⟨rfl, rfl⟩ (Nat.le_of_ble_eq_true rfl) (Nat.le_of_ble_eq_true rfl)
/-- a compound is made, with an empty list -/
def x_QCo (N : XH) (o : Nat) (kd : Int32) : XH → Option Value → Prop := fun N' r => ∃ q, N q = none ∧ 64 ≤ q ∧ N' = x_set (x_set N q (.inl (0, lV 0 2 0))) o (.inl (2, cpV kd q)) ∧ r = none
theorem p_X1init {G : XE} (hG : x_Kn G) (hK : x_KS G) (hM : x_KM G) {N : XH} (d : Nat) (h0 : N 0 = none) {o : Nat} (hN : N o = some (.inl (2, y_dfl tyX1))) {kd : Int32} : x_M G mX1_init (d + 4) 1 3 [.ref o, .int kd] (N) (x_QCo N o kd) x_noX := by
  refine X_M hG okX1_init rfl (L := [some (.ref o), some (.int kd)]) rfl (Nat.le_of_ble_eq_true rfl) (fun ad0 nb0 => ?_)
  have hq0 : ∀ q, N q = none → ¬ q = o := fun q hq e => by rw [e, hN] at hq; cases hq
  refine X_ld rfl rfl rfl rfl ?_
  refine X_icallNv l_X1_X2_init (p_X2init hG (d + 2)) rfl rfl rfl (Nat.le_of_ble_eq_true rfl) (Nat.le_of_ble_eq_true rfl) (by omega) (by omega) (by omega) ?_
  refine X_ld rfl rfl rfl rfl ?_
  refine X_newK n_X1_7 rfl (Nat.le_of_ble_eq_true rfl) (Nat.le_of_ble_eq_true rfl) (x_K_any h0 (fun q hq h64 => ?_))
  refine X_dup rfl rfl ?_
  refine X_icallv l_X1_Jx4a65c_init_da8c8 (j_init hG hK hM d x_set_eq) rfl rfl rfl (Nat.le_of_ble_eq_true rfl) (Nat.le_of_ble_eq_true rfl) (by omega) (by omega) (by omega) ?_
  rw [x_set_set]
  refine X_putF f_X1_10 rfl ((x_set_ne (Ne.symm (hq0 q hq))).trans hN) ⟨rfl, rfl⟩ rfl (fun C T n h => by cases h; rfl) ?_
  refine X_ld rfl rfl rfl rfl ?_
  refine X_ld rfl rfl rfl rfl ?_
  refine X_putF f_X1_16 rfl x_set_eq ⟨rfl, rfl⟩ rfl (fun C T n h => by cases h; rfl) ?_
  rw [x_set_set]
  refine X_recell (n := 2) (V' := cpV kd q) rfl (y_f2 rfl rfl) ?_
  exact X_vret rfl rfl ⟨q, hq, h64, rfl, rfl⟩ (by omega) (by omega)
def x_QPr (N : XH) (o : Nat) (z : Int64) (co ht : Nat) : XH → Option Value → Prop := fun N' r => ∃ q, N q = none ∧ 64 ≤ q ∧ N' = x_set (x_set N q (.inl (0, lV 0 2 0))) o (.inl (4, pV z co ht q)) ∧ r = none
theorem p_X4init {G : XE} (hG : x_Kn G) (hK : x_KS G) (hM : x_KM G) {N : XH} (d : Nat) (h0 : N 0 = none) {o : Nat} (hN : N o = some (.inl (4, y_dfl tyX4))) {z : Int64} {co ht : Nat} : x_M G mX4_init (d + 4) 1 3 [.ref o, .long z, .ref co, .ref ht] (N) (x_QPr N o z co ht) x_noX := by
  refine X_M hG okX4_init rfl (L := [some (.ref o), some (.long z), none, some (.ref co), some (.ref ht)]) rfl (Nat.le_of_ble_eq_true rfl) (fun ad0 nb0 => ?_)
  have hq0 : ∀ q, N q = none → ¬ q = o := fun q hq e => by rw [e, hN] at hq; cases hq
  refine X_ld rfl rfl rfl rfl ?_
  refine X_obj (x_in 906 (by decide +kernel) rfl) (x_in 93 (by decide +kernel) rfl) (x_in 94 (by decide +kernel) rfl) rfl (by show 1 ≤ d + _; omega) (by show _ ≤ 100 * (d + _); simp; omega) ?_
  refine X_ld rfl rfl rfl rfl ?_
  refine X_newK n_X4_7 rfl (Nat.le_of_ble_eq_true rfl) (Nat.le_of_ble_eq_true rfl) (x_K_any h0 (fun q hq h64 => ?_))
  refine X_dup rfl rfl ?_
  refine X_icallv l_X4_Jx4a65c_init_da8c8 (j_init hG hK hM d x_set_eq) rfl rfl rfl (Nat.le_of_ble_eq_true rfl) (Nat.le_of_ble_eq_true rfl) (by omega) (by omega) (by omega) ?_
  rw [x_set_set]
  refine X_putF f_X4_10 rfl ((x_set_ne (Ne.symm (hq0 q hq))).trans hN) ⟨rfl, rfl⟩ rfl (fun C T n h => by cases h; rfl) ?_
  refine X_ld rfl rfl rfl rfl ?_
  refine X_ld rfl rfl rfl rfl ?_
  refine X_putF f_X4_16 rfl x_set_eq ⟨rfl, rfl⟩ rfl (fun C T n h => by cases h; rfl) ?_
  refine X_ld rfl rfl rfl rfl ?_
  refine X_ld rfl rfl rfl rfl ?_
  refine X_putF f_X4_20 rfl x_set_eq ⟨rfl, rfl⟩ rfl (fun C T n h => by cases h; rfl) ?_
  refine X_ld rfl rfl rfl rfl ?_
  refine X_ld rfl rfl rfl rfl ?_
  refine X_putF f_X4_24 rfl x_set_eq ⟨rfl, rfl⟩ rfl (fun C T n h => by cases h; rfl) ?_
  rw [x_set_set, x_set_set, x_set_set]
  refine X_recell (n := 4) (V' := pV z co ht q) rfl (y_f4 rfl rfl rfl rfl) ?_
  exact X_vret rfl rfl ⟨q, hq, h64, rfl, rfl⟩ (by omega) (by omega)
/-- a hole of type t is taken at p, where its question mark stands; the types so far are hv -/
def y_th (tx hv : Nat → Int32) (n p : Nat) (t : Int32) : LE (Nat × Nat) := l_bi (l_reads tx n (l_sk tx n p + 1) 3) fun x => if ¬ hv (n_ x.2) = -1 ∧ ¬ hv (n_ x.2) = t then .inl (-6, l_sk tx n p) else .inr (x.1, n_ x.2)
def x_QH (tx bf : Nat → Int32) (n c : Nat) (F : Int32 → Int32 → (Nat → Int32) → Int64 → (Nat → Int32) → XH) (ea : Int32) (hv : Nat → Int32) (t : Int32) (R : LE (Nat × Nat)) : XH → Option Value → Prop := fun N r => match R with
  | .inl (e, a) => ¬ e = 0 ∧ ∃ K tl hv' v, z_er K ∧ N = F e (nI a) K tl hv' ∧ r = some (.int v)
  | .inr (q, h) => h < 4 ∧ ∃ K tl, z_at tx bf n c K tl q ∧ N = F 0 ea K tl (upd hv h t) ∧ r = some (.int (nI h))
theorem x_QHe {tx bf : Nat → Int32} {n c : Nat} {F : Int32 → Int32 → (Nat → Int32) → Int64 → (Nat → Int32) → XH} {ea e : Int32} {hv hv' : Nat → Int32} {t v : Int32} {a : Nat} {R : LE (Nat × Nat)} {N : XH} {r : Option Value} {K : Nat → Int32} {tl : Int64} (hR : R = .inl (e, a)) (he : ¬ e = 0) (hK : z_er K) (hN : N = F e (nI a) K tl hv') (hr : r = some (.int v)) : x_QH tx bf n c F ea hv t R N r := by rw [hR]; exact ⟨he, K, tl, hv', v, hK, hN, hr⟩
theorem x_QHo {tx bf : Nat → Int32} {n c : Nat} {F : Int32 → Int32 → (Nat → Int32) → Int64 → (Nat → Int32) → XH} {ea : Int32} {hv : Nat → Int32} {t : Int32} {q h : Nat} {R : LE (Nat × Nat)} {N : XH} {r : Option Value} {K : Nat → Int32} {tl : Int64} (hR : R = .inr (q, h)) (hh : h < 4) (hK : z_at tx bf n c K tl q) (hN : N = F 0 ea K tl (upd hv h t)) (hr : r = some (.int (nI h))) : x_QH tx bf n c F ea hv t R N r := by rw [hR]; exact ⟨hh, K, tl, hK, hN, hr⟩
theorem p_takeHole {G : XE} (hG : x_Kn G) (hK : x_KS G) {B : XH} {J bf K tk ts : Nat → Int32} {tl : Int64} {tv : Nat → Int64} {su : Nat → Nat} {D : Nat → Nat → Int32} {ρ : Nat → Nat} (hρ : y_ds ρ B) {i : Nat} {ea : Int32} {sv ty hv : Nat → Int32} {nm : Nat → Int64} (d : Nat) {tx : Nat → Int32} {n c p : Nat} (hr : s_rtx tx bf n) (hn8 : n ≤ 800) (hsp : z_split bf tx n tk ts tv c) (hat : z_at tx bf n c K tl p) (h63 : l_see tx n p = 63) {t : Int32} : x_M G mX6_takeHole (d + 2) 0 0 [.ref (ρ 0), .int t] (cset (rset B ρ i 0 ea sv nm ty hv) J bf K tk ts tl tv su D) (x_QH tx bf n c (fun er ea K tl hv => cset (rset B ρ i er ea sv nm ty hv) J bf K tk ts tl tv su D) ea hv t (y_th tx hv n p t)) x_noX := by
  refine X_M hG okX6_takeHole rfl (L := [some (.ref (ρ 0)), some (.int t), none, none]) rfl (Nat.le_of_ble_eq_true rfl) (fun ad0 nb0 => ?_)
  obtain ⟨hp, j, hj, hz, h3, h4, h5, h6, htl⟩ := id hat
  have hse := z_sign_e hr hp (z_sg 63 (by decide)).1 (z_sg 63 (by decide)).2.1 (z_sg 63 (by decide)).2.2 h63
  refine X_ld rfl rfl rfl rfl ?_
  refine X_get f_X6_26 rfl (c_B (hρ.o 0 (by decide)) rs_r) rfl ?_
  refine X_get f_X6_88 rfl c_T (v := .int (nI (l_sk tx n p))) (congrArg Value.int h6) ?_
  refine X_st rfl rfl rfl ?_
  refine X_ld rfl rfl rfl rfl ?_
  refine X_get f_X6_26 rfl (c_B (hρ.o 0 (by decide)) rs_r) rfl ?_
  refine X_vcallv c_T l_X6_X8_advance (p_advance hG (d + 1) h3 h4 (by have := hsp.1.2; omega) (by have := hsp.1.2; omega)) rfl rfl rfl rfl (Nat.le_of_ble_eq_true rfl) (Nat.le_of_ble_eq_true rfl) (by omega) (by omega) (by omega) ?_
  have hA := z_adv (tk := tk) (ts := ts) (tv := tv) (tl := tl) hsp hp hj hz h3 hse.2
  rw [hse.1] at hA
  clear htl
  generalize y_adK K tk ts c (j + 1) = K1 at hA ⊢
  generalize y_adl tl tv c (j + 1) = tl1 at hA ⊢
  refine X_ld rfl rfl rfl rfl ?_
  refine X_push (v := .int 3) rfl (by decide +kernel) ?_
  refine X_vcallP (c_B (hρ.o 0 (by decide)) rs_r) l_X6_X6_takeNumber (p_takeNumber hG hK hρ d hr hn8 hsp hA (M := 3) (by decide)) rfl rfl rfl rfl (Nat.le_of_ble_eq_true rfl) (Nat.le_of_ble_eq_true rfl) (by omega) (by omega) (by omega) (fun N1 r hq => ?_)
  cases hR : l_reads tx n (l_sk tx n p + 1) (nI 3) with
  | inl e9 =>
    obtain ⟨e9, a9⟩ := e9
    rw [hR] at hq
    obtain ⟨he9, K2, tl2, hek, rfl, rfl⟩ := hq
    refine X_stk (st' := [.int 0]) rfl ?_
    have hyt : y_th tx hv n p t = .inl (e9, a9) := l_bi_er hR
    refine X_st rfl rfl rfl ?_
    refine X_ld rfl rfl rfl rfl ?_
    refine X_if_lt rfl (fun c22 => absurd c22 (by decide)) (fun c22 => ?_)
    refine X_ld rfl rfl rfl rfl ?_
    refine X_ld rfl rfl rfl rfl ?_
    refine X_get f_X6_18 rfl (c_B (hρ.o 0 (by decide)) rs_r) rfl ?_
    refine X_alen rfl (c_B (hρ.o 4 (by decide)) (rs_ht hρ)) ?_
    refine X_icmp_ge rfl (fun c31 => absurd c31 (by decide)) (fun c31 => ?_)
    have fin : ∀ N, N = cset (rset B ρ i e9 (nI a9) sv nm ty hv) J bf K2 tk ts tl2 tv su D → x_W G mX6_takeHole (x_Z G (d + 2) 0 0 ad0 nb0 (x_QH tx bf n c (fun er ea K tl hv => cset (rset B ρ i er ea sv nm ty hv) J bf K tk ts tl tv su D) ea hv t (y_th tx hv n p t)) x_noX) N (0 + 0 + 0) (0 + 0 + 0) 61 [some (.ref (ρ 0)), some (.int t), some (.int (nI (l_sk tx n p))), some (.int 0)] [] := by
      rintro N rfl
      refine X_ld rfl rfl rfl rfl ?_
      refine X_get f_X6_18 rfl (c_B (hρ.o 0 (by decide)) rs_r) rfl ?_
      refine X_ld rfl rfl rfl rfl ?_
      refine X_ld rfl rfl rfl rfl ?_
      refine X_iast rfl (c_B (hρ.o 4 (by decide)) (rs_ht hρ)) (show vp_in (nI 0) 4 from vp_in_nI (by decide) (by decide)) ?_
      refine X_heap (N' := cset (rset B ρ i e9 (nI a9) sv nm ty (upd hv 0 t)) J bf K2 tk ts tl2 tv su D) (by rw [y_set (hρ.o 4 (by decide)), w_hv hρ]; rfl) ?_
      refine X_ld rfl rfl rfl rfl ?_
      exact X_iret rfl rfl (x_QHe hyt he9 hek rfl rfl) (Nat.le_of_ble_eq_true rfl) (Nat.le_of_ble_eq_true rfl)
    refine X_ld rfl rfl rfl rfl ?_
    refine X_get f_X6_18 rfl (c_B (hρ.o 0 (by decide)) rs_r) rfl ?_
    refine X_ld rfl rfl rfl rfl ?_
    refine X_iald rfl (c_B (hρ.o 4 (by decide)) (rs_ht hρ)) (show vp_in (nI 0) 4 from vp_in_nI (by decide) (by decide)) (v := .int (hv 0)) rfl ?_
    refine X_push (v := .int (-1)) rfl (by decide +kernel) ?_
    refine X_icmp_eq rfl (fun c41 => fin _ rfl) (fun c41 => ?_)
    refine X_ld rfl rfl rfl rfl ?_
    refine X_get f_X6_18 rfl (c_B (hρ.o 0 (by decide)) rs_r) rfl ?_
    refine X_ld rfl rfl rfl rfl ?_
    refine X_iald rfl (c_B (hρ.o 4 (by decide)) (rs_ht hρ)) (show vp_in (nI 0) 4 from vp_in_nI (by decide) (by decide)) (v := .int (hv 0)) rfl ?_
    refine X_ld rfl rfl rfl rfl ?_
    refine X_icmp_eq rfl (fun c51 => fin _ rfl) (fun c51 => ?_)
    refine X_ld rfl rfl rfl rfl ?_
    refine X_push (v := .int (-6)) rfl (by decide +kernel) ?_
    refine X_ld rfl rfl rfl rfl ?_
    refine X_vcallv (c_B (hρ.o 0 (by decide)) rs_r) l_X6_X6_fail (p_failX hG hK hρ (d + 1) he9) rfl rfl rfl rfl (Nat.le_of_ble_eq_true rfl) (Nat.le_of_ble_eq_true rfl) (by omega) (by omega) (by omega) ?_
    exact fin _ rfl
  | inr x9 =>
    obtain ⟨q9, v9⟩ := x9
    rw [hR] at hq
    obtain ⟨K2, tl2, hat2, rfl, rfl⟩ := hq
    obtain ⟨hq9, hv0, hv3⟩ := l_reads_ok hR (by omega)
    obtain ⟨h, hh, rfl⟩ := m_rngc (m := 3) rfl (by decide) ⟨hv0, hv3⟩
    have hnh : n_ (nI h) = h := n_nI (by omega)
    refine X_stk (st' := [.int (nI h)]) rfl ?_
    refine X_st rfl rfl rfl ?_
    refine X_ld rfl rfl rfl rfl ?_
    refine X_if_lt rfl (fun c22 => absurd ((n_lt (b := 0) rfl (show (0 : Int32) = nI 0 from rfl) (by omega) (by omega)).mp c22) (by omega)) (fun c22 => ?_)
    refine X_ld rfl rfl rfl rfl ?_
    refine X_ld rfl rfl rfl rfl ?_
    refine X_get f_X6_18 rfl (c_B (hρ.o 0 (by decide)) rs_r) rfl ?_
    refine X_alen rfl (c_B (hρ.o 4 (by decide)) (rs_ht hρ)) ?_
    refine X_icmp_ge rfl (fun c31 => absurd ((n_le (x := Int32.ofNat 4) (a := 4) rfl rfl (by omega) (by omega)).mp c31) (by omega)) (fun c31 => ?_)
    have fin : ¬ (¬ hv h = -1 ∧ ¬ hv h = t) → x_W G mX6_takeHole (x_Z G (d + 2) 0 0 ad0 nb0 (x_QH tx bf n c (fun er ea K tl hv => cset (rset B ρ i er ea sv nm ty hv) J bf K tk ts tl tv su D) ea hv t (y_th tx hv n p t)) x_noX) (cset (rset B ρ i 0 ea sv nm ty hv) J bf K2 tk ts tl2 tv su D) (0 + 0 + 0) (0 + 0 + 0) 61 [some (.ref (ρ 0)), some (.int t), some (.int (nI (l_sk tx n p))), some (.int (nI h))] [] := by
      intro hok
      have hyt : y_th tx hv n p t = .inr (q9, h) := (l_bi_ok hR).trans (by show (if ¬ hv (n_ (nI h)) = -1 ∧ ¬ hv (n_ (nI h)) = t then _ else _) = _; rw [hnh, if_neg hok])
      refine X_ld rfl rfl rfl rfl ?_
      refine X_get f_X6_18 rfl (c_B (hρ.o 0 (by decide)) rs_r) rfl ?_
      refine X_ld rfl rfl rfl rfl ?_
      refine X_ld rfl rfl rfl rfl ?_
      refine X_iast rfl (c_B (hρ.o 4 (by decide)) (rs_ht hρ)) (vp_in_nI (by omega) (by omega)) ?_
      refine X_heap (N' := cset (rset B ρ i 0 ea sv nm ty (upd hv h t)) J bf K2 tk ts tl2 tv su D) (by rw [y_set (hρ.o 4 (by decide)), nI_clamp (by omega), w_hv hρ]) ?_
      refine X_ld rfl rfl rfl rfl ?_
      exact X_iret rfl rfl (x_QHo hyt (by omega) hat2 rfl rfl) (Nat.le_of_ble_eq_true rfl) (Nat.le_of_ble_eq_true rfl)
    refine X_ld rfl rfl rfl rfl ?_
    refine X_get f_X6_18 rfl (c_B (hρ.o 0 (by decide)) rs_r) rfl ?_
    refine X_ld rfl rfl rfl rfl ?_
    refine X_iald rfl (c_B (hρ.o 4 (by decide)) (rs_ht hρ)) (vp_in_nI (by omega) (by omega)) (v := .int (hv h)) (by rw [nI_clamp (by omega)]) ?_
    refine X_push (v := .int (-1)) rfl (by decide +kernel) ?_
    refine X_icmp_eq rfl (fun c41 => fin (fun z => z.1 c41)) (fun c41 => ?_)
    refine X_ld rfl rfl rfl rfl ?_
    refine X_get f_X6_18 rfl (c_B (hρ.o 0 (by decide)) rs_r) rfl ?_
    refine X_ld rfl rfl rfl rfl ?_
    refine X_iald rfl (c_B (hρ.o 4 (by decide)) (rs_ht hρ)) (vp_in_nI (by omega) (by omega)) (v := .int (hv h)) (by rw [nI_clamp (by omega)]) ?_
    refine X_ld rfl rfl rfl rfl ?_
    refine X_icmp_eq rfl (fun c51 => fin (fun z => z.2 c51)) (fun c51 => ?_)
    have hyt : y_th tx hv n p t = .inl (-6, l_sk tx n p) := (l_bi_ok hR).trans (by show (if ¬ hv (n_ (nI h)) = -1 ∧ ¬ hv (n_ (nI h)) = t then _ else _) = _; rw [hnh, if_pos ⟨c41, c51⟩])
    obtain ⟨hp2, j2, hj2, hz2, k3, k4, k5, k6, ktl⟩ := id hat2
    refine X_ld rfl rfl rfl rfl ?_
    refine X_push (v := .int (-6)) rfl (by decide +kernel) ?_
    refine X_ld rfl rfl rfl rfl ?_
    refine X_vcallv (c_B (hρ.o 0 (by decide)) rs_r) l_X6_X6_fail (p_fail hG hK hρ (d + 1) rfl (x := (-6)) (y := nI (l_sk tx n p))) rfl rfl rfl rfl (Nat.le_of_ble_eq_true rfl) (Nat.le_of_ble_eq_true rfl) (by omega) (by omega) (by omega) ?_
    refine X_ld rfl rfl rfl rfl ?_
    refine X_get f_X6_18 rfl (c_B (hρ.o 0 (by decide)) rs_r) rfl ?_
    refine X_ld rfl rfl rfl rfl ?_
    refine X_ld rfl rfl rfl rfl ?_
    refine X_iast rfl (c_B (hρ.o 4 (by decide)) (rs_ht hρ)) (vp_in_nI (by omega) (by omega)) ?_
    refine X_heap (N' := cset (rset B ρ i (-6) (nI (l_sk tx n p)) sv nm ty (upd hv h t)) J bf (upd (upd K2 3 0) 5 256) tk ts tl2 tv su D) (by rw [y_set (hρ.o 4 (by decide)), nI_clamp (by omega), w_hv hρ]) ?_
    refine X_ld rfl rfl rfl rfl ?_
    exact X_iret rfl rfl (x_QHe hyt (by decide) (z_er_mk k4 (by have := hsp.1.2; omega)) rfl rfl) (Nat.le_of_ble_eq_true rfl) (Nat.le_of_ble_eq_true rfl)

