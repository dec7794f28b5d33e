/-! ===== the class's reader: conditions, the loop ===== -/
/-- a factor is read as the reference reads it -/
def x_PF (G : XE) (J bf tk ts : Nat → Int32) (tv : Nat → Int64) (su : Nat → Nat) (D : Nat → Nat → Int32) (ρ : Nat → Nat) (i : Nat) (ea : Int32) (sv ty : Nat → Int32) (nm : Nat → Int64) (tx : Nat → Int32) (n c m w d r : Nat) : Prop := ∀ (B : XH) (K hv rd : Nat → Int32) (tl : Int64) (p k f h : Nat) (z : Bool), h + r = 6 → y_ds ρ B → (B 0 = none ∧ B 2 = none) → z_at tx bf n c K tl p → y_col rd sv ty nm m → (rd 0 = nI m ∧ rd 9 = nI k ∧ 5 * k ≤ 2 * p) → (∀ h, h < 4 → hv h = rd (275 + 30 * w + (17 + h))) → 8 * (n - p) + 1 ≤ f → x_M G mX6_readFactor (d + 3 * r + 8) (8 * (l_en n (l_prs tx n m w f 0 z h 0 p rd) - p) + 8) (160 * (l_en n (l_prs tx n m w f 0 z h 0 p rd) - p) + 4) [.ref (ρ 0), .int (nI h)] (cset (rset B ρ i 0 ea sv nm ty hv) J bf K tk ts tl tv su D) (x_QF tx bf n c w p (fun er ea K tl hv B => cset (rset B ρ i er ea sv nm ty hv) J bf K tk ts tl tv su D) ea B ρ (1 + 2 * r) k rd z (l_prs tx n m w f 0 z h 0 p rd)) x_noX
/-- and a condition -/
def x_PC (G : XE) (J bf tk ts : Nat → Int32) (tv : Nat → Int64) (su : Nat → Nat) (D : Nat → Nat → Int32) (ρ : Nat → Nat) (i : Nat) (ea : Int32) (sv ty : Nat → Int32) (nm : Nat → Int64) (tx : Nat → Int32) (n c m w d r : Nat) : Prop := ∀ (B : XH) (K hv rd : Nat → Int32) (tl : Int64) (p k f h : Nat) (z : Bool), h + r = 6 → y_ds ρ B → (B 0 = none ∧ B 2 = none) → z_at tx bf n c K tl p → y_col rd sv ty nm m → (rd 0 = nI m ∧ rd 9 = nI k ∧ 5 * k ≤ 2 * p) → (∀ h, h < 4 → hv h = rd (275 + 30 * w + (17 + h))) → 8 * (n - p) + 3 ≤ f → x_M G mX6_readCondition (d + 3 * r + 9) (8 * (l_en n (l_prs tx n m w f 3 z h 0 p rd) - p) + 14) (160 * (l_en n (l_prs tx n m w f 3 z h 0 p rd) - p) + 34) [.ref (ρ 0), .int (nI h)] (cset (rset B ρ i 0 ea sv nm ty hv) J bf K tk ts tl tv su D) (x_QF tx bf n c w p (fun er ea K tl hv B => cset (rset B ρ i er ea sv nm ty hv) J bf K tk ts tl tv su D) ea B ρ (3 + 2 * r) k rd z (l_prs tx n m w f 3 z h 0 p rd)) x_noX
theorem w_cexit {G : XE} (hG : x_Kn G) (hK : x_KS G) {B : XH} {J bf K tk ts : Nat → Int32} {tl : Int64} {tv : Nat → Int64} {su : Nat → Nat} {D : Nat → Nat → Int32} {ρ : Nat → Nat} (hρ : y_ds ρ B) {i : Nat} {er ea : Int32} {sv ty hv : Nat → Int32} {nm : Nat → Int64} {d r h : Nat} (hek : z_er K) {o q : Nat} {x : Int32} {mc ms nb0 cells slots : Nat} {ad0 : Nat → Nat} {Qn : XH → Option Value → Prop} (hc : cells ≤ mc) (hs : slots ≤ ms) (kk : Qn (cset (rset B ρ i er ea sv nm ty hv) J bf K tk ts tl tv su D) (some (.ref o))) : x_W G mX6_readCondition (x_Z G (d + 3 * r + 9) mc ms ad0 nb0 Qn x_noX) (cset (rset B ρ i er ea sv nm ty hv) J bf K tk ts tl tv su D) cells slots 43 [some (.ref (ρ 0)), some (.int (nI h)), some (.ref o), some (.ref q), some (.int x)] [] := by
  refine X_ld rfl rfl rfl rfl ?_
  refine X_push (v := .int 800) rfl (by decide +kernel) ?_
  have fin : x_W G mX6_readCondition (x_Z G (d + 3 * r + 9) mc ms ad0 nb0 Qn x_noX) (cset (rset B ρ i er ea sv nm ty hv) J bf K tk ts tl tv su D) cells slots 134 [some (.ref (ρ 0)), some (.int (nI h)), some (.ref o), some (.ref q), some (.int x)] [] := by
    refine X_ld rfl rfl rfl rfl ?_
    exact X_aret rfl rfl (Or.inl ⟨_, rfl⟩) (Or.inr ⟨_, rfl⟩) kk hc hs
  obtain ⟨h3, h5, j, hj8, h4⟩ := id hek
  refine X_icmp_ge rfl (fun _ => fin) (fun _ => ?_)
  refine X_ld rfl rfl rfl rfl ?_
  refine X_get f_X6_26 rfl (c_B (hρ.o 0 (by decide)) rs_r) rfl ?_
  refine X_get f_X6_85 rfl c_T (v := .int 256) (congrArg Value.int h5) ?_
  refine X_push (v := .int 258) rfl (by decide +kernel) ?_
  refine X_icmp_eq rfl (fun c61 => absurd c61 (by decide)) (fun c61 => ?_)
  refine X_ld rfl rfl rfl rfl ?_
  refine X_get f_X6_26 rfl (c_B (hρ.o 0 (by decide)) rs_r) rfl ?_
  refine X_get f_X6_85 rfl c_T (v := .int 256) (congrArg Value.int h5) ?_
  refine X_push (v := .int 259) rfl (by decide +kernel) ?_
  refine X_icmp_ne rfl (fun c74 => fin) (fun c74 => absurd c74 (by decide))
theorem w_turn {G : XE} (hG : x_Kn G) (hK : x_KS G) (hM : x_KM G) {J bf tk ts : Nat → Int32} {tv : Nat → Int64} {su : Nat → Nat} {D : Nat → Nat → Int32} {ρ : Nat → Nat} {i : Nat} {ea : Int32} {sv ty : Nat → Int32} {nm : Nat → Int64} {tx : Nat → Int32} {n c m w d r : Nat} (hr : s_rtx tx bf n) (hn8 : n ≤ 800) (hsp : z_split bf tx n tk ts tv c) (hPF : x_PF G J bf tk ts tv su D ρ i ea sv ty nm tx n c m w d r) {B B' : XH} {K hv rd : Nat → Int32} {tl : Int64} {p p1 k f h o la elA nA q ll elL nL iT : Nat} {mA mL : Int32} {pA pL : Nat → Nat} {zc : Bool} (hh6 : h + r = 6) (hle : y_le B B') (hρ : y_ds ρ B') (hX : B' 0 = none ∧ B' 2 = none) (hh : y_hp B B' o la elA nA mA pA q ll elL nL mL pL) (hat : z_at tx bf n c K tl p) (wd : Nat) (hisw : l_isw tx n p (x_w wd) = true) (hp1 : l_tk tx n p (x_w wd) = p1) (hcol : y_col rd sv ty nm m) (hrd : rd 0 = nI m ∧ rd 9 = nI k ∧ 5 * k ≤ 2 * p1) (hhv : ∀ h, h < 4 → hv h = rd (275 + 30 * w + (17 + h))) (hf : 8 * (n - p1) + 1 ≤ f) {mc ms nb0 cells slots : Nat} {ad0 : Nat → Nat} {Qn : XH → Option Value → Prop} (hnL : nL ≤ 2000) (hc : cells + (8 * (l_en n (l_prs tx n m w f 0 zc h 0 p1 rd) - p1) + 9) ≤ mc) (hs : slots + (160 * (l_en n (l_prs tx n m w f 0 zc h 0 p1 rd) - p1) + 4 + y_gs nL) ≤ ms) (kE : ∀ (er : Int32) (a1 : Nat) (K2 : Nat → Int32) (tl2 : Int64) (hv2 : Nat → Int32) (B3 : XH) (el3 v : Nat) (l : List Nat), ¬ er = 0 → z_er K2 → (l_prs tx n m w f 0 zc h 0 p1 rd) = .inl (er, a1) → y_hp B B3 o la elA nA mA pA q ll el3 (nL + 1) (mL + 1) (updF pL nL v) → y_le B B3 → y_ds ρ B3 → (B3 0 = none ∧ B3 2 = none) → y_le (y_fz B B' [la, elA, ll, elL]) (y_fz B B3 [la, elA, ll, el3]) → t_sg (y_fz B B3 [la, elA, ll, el3]) (1 + 2 * r) v l → 3 * l.length + p1 ≤ n + 3 → Qn (cset (rset B3 ρ i er (nI a1) sv nm ty hv2) J bf K2 tk ts tl2 tv su D) (some (.ref o))) (kS : ∀ (q9 : Nat) (rd1 : Nat → Int32) (K2 : Nat → Int32) (tl2 : Int64) (hv2 : Nat → Int32) (B3 : XH) (el3 v : Nat) (E : (Nat → Bool) → Bool) (l : List Nat) (cells2 slots2 : Nat), (l_prs tx n m w f 0 zc h 0 p1 rd) = .inr (q9, rd1) → z_at tx bf n c K2 tl2 q9 → y_hp B B3 o la elA nA mA pA q ll el3 (nL + 1) (mL + 1) (updF pL nL v) → y_le B B3 → y_ds ρ B3 → (B3 0 = none ∧ B3 2 = none) → y_le (y_fz B B' [la, elA, ll, elL]) (y_fz B B3 [la, elA, ll, el3]) → y_tr (y_fz B B3 [la, elA, ll, el3]) rd1 (1 + 2 * r) v k (n_ (rd1 9)) zc E l → 3 * l.length + p1 ≤ q9 → (∀ h, h < 4 → hv2 h = rd1 (275 + 30 * w + (17 + h))) → (∀ j, j < k → ∀ x, x < 6 → s_cod rd1 j x = s_cod rd j x) → (∀ j, 275 ≤ j → j < 455 → ¬ (275 + 30 * w + 17 ≤ j ∧ j < 275 + 30 * w + 21) → rd1 j = rd j) → cells2 ≤ cells + (8 * (q9 - p1) + 9) → slots2 ≤ slots + (160 * (q9 - p1) + 4 + y_gs nL) → x_W G mX6_readCondition (x_Z G (d + 3 * r + 9) mc ms ad0 nb0 Qn x_noX) (cset (rset B3 ρ i 0 ea sv nm ty hv2) J bf K2 tk ts tl2 tv su D) cells2 slots2 43 [some (.ref (ρ 0)), some (.int (nI h)), some (.ref o), some (.ref q), some (.int (nI (iT + 1)))] []) : x_W G mX6_readCondition (x_Z G (d + 3 * r + 9) mc ms ad0 nb0 Qn x_noX) (cset (rset (B') ρ i 0 ea sv nm ty hv) J bf K tk ts tl tv su D) cells slots 108 [some (.ref (ρ 0)), some (.int (nI h)), some (.ref o), some (.ref q), some (.int (nI iT))] [] := by
  obtain ⟨hp, j, hj, hz, h3, h4, h5, h6, htl⟩ := id hat
  have hq : l_sk tx n p < n := by have := l_isw_we hisw; have := l_we_le (tx := tx) hp; have := ((z_isw hp wd).mp hisw).2.1; omega
  refine X_ld rfl rfl rfl rfl ?_
  refine X_get f_X6_26 rfl (c_B (hρ.o 0 (by decide)) rs_r) rfl ?_
  refine X_vcallv c_T l_X6_X8_advance (p_advance hG d h3 h4 (by have := hsp.1.2; omega) (by have := hsp.1.2; omega)) rfl rfl rfl rfl (Nat.le_of_ble_eq_true rfl) (Nat.le_of_ble_eq_true rfl) (by omega) (by omega) (by omega) ?_
  have hA := z_adv (tk := tk) (ts := ts) (tv := tv) (tl := tl) hsp hp hj hz h3 hq
  rw [z_wte hp wd hisw, hp1] at hA
  clear htl
  generalize y_adK K tk ts c (j + 1) = K1 at hA ⊢
  generalize y_adl tl tv c (j + 1) = tl1 at hA ⊢
  obtain ⟨-, ⟨w1, w2, w3⟩, -, ⟨x1, x2, x3⟩, -⟩ := id hh
  refine X_ld rfl rfl rfl rfl ?_
  refine X_get f_X6_215 rfl (rc_B hρ w1 w3) rfl ?_
  refine X_ld rfl rfl rfl rfl ?_
  refine X_ld rfl rfl rfl rfl ?_
  refine X_vcallP (c_B (hρ.o 0 (by decide)) rs_r) l_X6_X6_readFactor (hPF B' K1 hv rd tl1 p1 k f h zc hh6 hρ hX hA hcol hrd hhv hf) rfl rfl rfl rfl (Nat.le_of_ble_eq_true rfl) (Nat.le_of_ble_eq_true rfl) (by omega) (by omega) (by omega) (fun N1 r9 hq9 => ?_)
  cases hR1 : l_prs tx n m w f 0 zc h 0 p1 rd with
  | inl e9 =>
    obtain ⟨e9, a9⟩ := e9
    rw [hR1] at hq9 hc hs kE
    obtain ⟨he9, K2, tl2, hv2, B2, v, l, hek, hgw, ⟨hsg, hlen⟩, rfl, rfl⟩ := hq9
    refine X_stk (st' := [.ref v, .ref ll]) rfl ?_
    have hob := t_sg.ob _ _ _ hsg
    have hd1 := y_lb_le hgw.1 x1
    change cells + (8 * (n - p1) + 9) ≤ mc at hc
    change slots + (160 * (n - p1) + 4 + y_gs nL) ≤ ms at hs
    refine X_room (cells' := cells + 0 + (8 * (n - p1) + 8)) (slots' := slots + 0 + (160 * (n - p1) + 4)) (Nat.le_refl _) (Nat.le_refl _) ?_
    refine X_vcallP (rc_B hgw.2.1 hd1.1 hd1.2.1) l_X6_Jx4a65c_add_9ea2d (j_add hG hK hM d (y_none2 hgw.2.1 hgw.2.2.1) (y_lb.s hgw.2.1 hd1) (y_ob_c hgw.2.1 hob.1 (y_ob_le y_dif_le hob.2)) hnL) rfl rfl rfl rfl (Nat.le_of_ble_eq_true rfl) (Nat.le_of_ble_eq_true rfl) (by omega) (by omega) (by omega) (fun N9 r9 hq9 => ?_)
    obtain ⟨hA9, rfl⟩ := hq9
    obtain ⟨B3, el3, rfl, b1, b2, b3, b4, b5, b6, -⟩ := y_addB hgw.2.1 hgw.2.2.1 hgw.2.2.2 hd1 hob.1 (y_ob_le y_dif_le hob.2) hA9
    clear hA9
    refine X_stk (st' := .int 1 :: []) rfl ?_
    refine X_pop rfl rfl ?_
    obtain ⟨y1, y2, y3, y4⟩ := y_step hh hle hgw b1 b4 b5
    refine X_iinc rfl rfl rfl ?_
    refine X_goto rfl ?_
    exact w_cexit hG hK b2 hek (by omega) (by omega) (kE e9 a9 K2 tl2 hv2 B3 el3 v l he9 hek rfl y1 y2 b2 b3 y3 (t_sg.mono y4 _ _ _ _ (Nat.le_refl _) hsg) hlen)
  | inr x9 =>
    obtain ⟨q9, rd1⟩ := x9
    rw [hR1] at hq9 hc hs kS
    obtain ⟨K2, tl2, hv2, B2, v, E, l, hat2, hgw, ⟨htr, hlen⟩, hhv2, hcod2, hrd2, rfl, rfl⟩ := hq9
    refine X_stk (st' := [.ref v, .ref ll]) rfl ?_
    have hob := t_sg.ob _ _ _ htr.2.1
    have hd1 := y_lb_le hgw.1 x1
    change cells + (8 * (q9 - p1) + 9) ≤ mc at hc
    change slots + (160 * (q9 - p1) + 4 + y_gs nL) ≤ ms at hs
    refine X_room (cells' := cells + 0 + (8 * (q9 - p1) + 8)) (slots' := slots + 0 + (160 * (q9 - p1) + 4)) (Nat.le_refl _) (Nat.le_refl _) ?_
    refine X_vcallP (rc_B hgw.2.1 hd1.1 hd1.2.1) l_X6_Jx4a65c_add_9ea2d (j_add hG hK hM d (y_none2 hgw.2.1 hgw.2.2.1) (y_lb.s hgw.2.1 hd1) (y_ob_c hgw.2.1 hob.1 (y_ob_le y_dif_le hob.2)) hnL) rfl rfl rfl rfl (Nat.le_of_ble_eq_true rfl) (Nat.le_of_ble_eq_true rfl) (by omega) (by omega) (by omega) (fun N9 r9 hq9 => ?_)
    obtain ⟨hA9, rfl⟩ := hq9
    obtain ⟨B3, el3, rfl, b1, b2, b3, b4, b5, b6, -⟩ := y_addB hgw.2.1 hgw.2.2.1 hgw.2.2.2 hd1 hob.1 (y_ob_le y_dif_le hob.2) hA9
    clear hA9
    refine X_stk (st' := .int 1 :: []) rfl ?_
    refine X_pop rfl rfl ?_
    obtain ⟨y1, y2, y3, y4⟩ := y_step hh hle hgw b1 b4 b5
    refine X_iinc rfl rfl rfl ?_
    refine X_goto rfl ?_
    refine X_loc (L' := [some (.ref (ρ 0)), some (.int (nI h)), some (.ref o), some (.ref q), some (.int (nI (iT + 1)))]) ⟨rfl, rfl, rfl, rfl, congrArg Value.int (m_inc rfl).symm, trivial⟩ ?_
    exact kS q9 rd1 K2 tl2 hv2 B3 el3 v E l _ _ rfl hat2 y1 y2 b2 b3 y3 (y_tr_le y4 htr) hlen hhv2 hcod2 hrd2 (by omega) (by omega)

