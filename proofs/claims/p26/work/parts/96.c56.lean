/-! ===== the class's reader: conditions, all turns ===== -/
theorem y_gs_b (n : Nat) : y_gs n ≤ 10 + n + n / 2 := by
  unfold y_gs
  by_cases e : n = 0
  · rw [if_pos e]; omega
  · rw [if_neg e]; omega
theorem z_seg_lt {e : Nat → Int32} {f g : Nat} {E : (Nat → Bool) → Bool} (h : z_seg e f g E) : f < g := by
  obtain ⟨h1, h2⟩ := h
  by_cases e1 : f < g
  · exact e1
  · have h3 := (h2 0).2.1
    rw [show g - f = 0 by omega] at h3
    exact absurd h3 (by show ¬ (0 : Nat) = 0 + 1; decide)
theorem y_cat_s {lL : Nat → List Nat} {nL : Nat} {l : List Nat} : y_cat (updE lL nL l) (nL + 1) = y_cat lL nL ++ l := by
  show y_cat (updE lL nL l) nL ++ updE lL nL l nL = _
  rw [updE_eq, y_cat_cong nL (fun j hj => updE_ne (by omega))]
theorem y_errQ {B B3 F F3 : XH} {o la elA nA q ll el3 nL W v n p0 p1 : Nat} {mA mL : Int32} {pA pL : Nat → Nat} {lA lL : Nat → List Nat} {l : List Nat} (h : y_hp B B3 o la elA nA mA pA q ll el3 (nL + 1) mL (updF pL nL v)) (hF : y_le F F3) (hF3 : y_le F3 (y_dif B B3)) (hA : ∀ j, j < nA - 1 → t_sg F (W + 1) (pA j) (lA j)) (hL : ∀ j, j < nL → t_sg F W (pL j) (lL j)) (hsg : t_sg F3 W v l) (hn : nA < 100000 ∧ nL < 100000) (hfst : nA = 1 → 3 * (y_cat lL nL).length + p0 ≤ p1) (hlen : 3 * l.length + p1 ≤ n + 3) (hp0 : p0 ≤ n) : ∃ l', t_sg (y_dif B B3) (W + 2) o l' ∧ 3 * l'.length + p0 ≤ n + 3 := by
  refine ⟨_, h.sg (lA := lA) (lL := updE lL nL l) hF3 (fun j hj => t_sg.mono hF _ _ _ _ (Nat.le_refl _) (hA j hj)) (fun j hj => ?_) (by omega), ?_⟩
  · by_cases e : j = nL
    · rw [e, updE_eq, show updF pL nL v nL = v from if_pos rfl]; exact hsg
    · rw [updE_ne e, show updF pL nL v j = pL j from if_neg e]
      exact t_sg.mono hF _ _ _ _ (Nat.le_refl _) (hL j (by omega))
  · by_cases e : nA = 1
    · rw [if_pos e, y_cat_s, List.length_append]
      have := hfst e
      omega
    · rw [if_neg e]
      show 3 * 0 + p0 ≤ n + 3
      omega
theorem w_cnd {G : XE} (hG : x_Kn G) (hK : x_KS G) (hM : x_KM G) {J bf tk ts : Nat → Int32} {tv : Nat → Int64} {su : Nat → Nat} {D : Nat → Nat → Int32} {ρ : Nat → Nat} {i : Nat} {ea : Int32} {sv ty : Nat → Int32} {nm : Nat → Int64} {tx : Nat → Int32} {n c m w d r : Nat} (hr : s_rtx tx bf n) (hn8 : n ≤ 800) (hsp : z_split bf tx n tk ts tv c) (hPF : x_PF G J bf tk ts tv su D ρ i ea sv ty nm tx n c m w d r) {B : XH} {rd0 : Nat → Int32} {o la k0 p0 h : Nat} {z : Bool} {R : LR} (hh6 : h + r = 6) (hcol0 : y_col rd0 sv ty nm m) (h0 : rd0 0 = nI m) (hm : m ≤ 5) (hw6 : w < 6) {mc ms nb0 : Nat} {ad0 : Nat → Nat} {Qn : XH → Option Value → Prop} (hQn : ∀ N rr, x_QF tx bf n c w p0 (fun er ea K tl hv B => cset (rset B ρ i er ea sv nm ty hv) J bf K tk ts tl tv su D) ea B ρ (1 + 2 * r + 2) k0 rd0 z R N rr → Qn N rr) : ∀ (g : Nat) (B' : XH) (K hv rd : Nat → Int32) (tl : Int64) (p k k1 f2 f4 elA nA q ll elL nL iT : Nat) (mA mL : Int32) (pA pL : Nat → Nat) (zc first : Bool) (FA FL : Nat → (Nat → Bool) → Bool) (lA lL : Nat → List Nat) (cells slots : Nat), n - p < g → cells + 8 * (l_en n R - p) ≤ mc → slots + 160 * (l_en n R - p) ≤ ms → z_at tx bf n c K tl p → y_le B B' → y_ds ρ B' → (B' 0 = none ∧ B' 2 = none) → y_hp B B' o la elA nA mA pA q ll elL nL mL pL → y_cs (y_fz B B' [la, elA, ll, elL]) rd (1 + 2 * r) k0 k1 k z first nA nL pA pL FA FL lA lL → zc = (bif first then z else false) → (rd 9 = nI k ∧ 5 * k + (bif first then 0 else 5) ≤ 2 * p) → (∀ j, j < 275 → j ≠ 9 → rd j = rd0 j) → (∀ j, j < k0 → ∀ x, x < 6 → s_cod rd j x = s_cod rd0 j x) → (∀ j, 275 ≤ j → j < 455 → ¬ (275 + 30 * w + 17 ≤ j ∧ j < 275 + 30 * w + 21) → rd j = rd0 j) → (∀ h, h < 4 → hv h = rd (275 + 30 * w + (17 + h))) → (nA + nL ≤ iT + 2 ∧ 5 * iT + 3 + p0 ≤ p) → (first = true → 3 * (y_cat lL nL).length + p0 ≤ p) → (8 * (n - p) + 9 ≤ f2 ∧ 8 * (n - p) + 10 ≤ f4) → R = l_bi (l_prs tx n m w f2 2 zc h 0 p rd) (y_ct tx n m w f4 h k0 first) → x_W G mX6_readCondition (x_Z G (d + 3 * r + 9) mc ms ad0 nb0 Qn x_noX) (cset (rset (B') ρ i 0 ea sv nm ty hv) J bf K tk ts tl tv su D) cells slots 43 [some (.ref (ρ 0)), some (.int (nI h)), some (.ref o), some (.ref q), some (.int (nI iT))] [] := by
  intro g
  induction g with
  | zero => intro B' K hv rd tl p k k1 f2 f4 elA nA q ll elL nL iT mA mL pA pL zc first FA FL lA lL cells slots hg; omega
  | succ g ih =>
    intro B' K hv rd tl p k k1 f2 f4 elA nA q ll elL nL iT mA mL pA pL zc first FA FL lA lL cells slots hg hc hs hat hle hρ hX hh hcs hzc hk9 hag hcod hreg hhv hsz hlen hfu hR
    obtain ⟨hp, j, hj, hz, k3, k4, k5, k6, ktl⟩ := id hat
    obtain ⟨hk01, hk1k⟩ := hcs.k01
    have hsl := l_sk_le (tx := tx) hp
    have hwl := l_we_le (tx := tx) hp
    have hk5 : 5 * k ≤ 2 * p := by have := hk9.2; cases first <;> simp only [cond_true, cond_false] at this <;> omega
    have hnk : n_ (rd 9) = k := by rw [hk9.1]; exact n_nI (by omega)
    have hgA := y_gs_b nA
    have hgL := y_gs_b nL
    have hg0 : y_gs 0 = 10 := rfl
    have hnA1 : 1 ≤ nA := by rcases hcs.1 with ⟨-, e, -⟩ | ⟨-, e, -⟩ <;> omega
    have hnL1 := hcs.2.1.1
    have hfst : nA = 1 → first = true := fun e => by rcases hcs.1 with ⟨e1, -⟩ | ⟨-, e2, -⟩; exact e1; omega
    refine X_ld rfl rfl rfl rfl ?_
    refine X_push (v := .int 800) rfl (by decide +kernel) ?_
    refine X_icmp_ge rfl (fun c48 => absurd ((n_le (show (800 : Int32) = nI 800 from rfl) rfl (by omega) (by omega)).mp c48) (by omega)) (fun c48 => ?_)
    refine X_ld rfl rfl rfl rfl ?_
    refine X_get f_X6_26 rfl (c_B (hρ.o 0 (by decide)) rs_r) rfl ?_
    refine X_get f_X6_85 rfl c_T (v := .int (z_tk bf tx n (l_sk tx n p))) (congrArg Value.int k5) ?_
    refine X_push (v := .int 258) rfl (by decide +kernel) ?_
    refine X_icmp_eq rfl (fun c61 => ?_) (fun c61 => ?_)
    · have hisw := (z_and hr hp).mp c61
      refine X_ld rfl rfl rfl rfl ?_
      refine X_get f_X6_26 rfl (c_B (hρ.o 0 (by decide)) rs_r) rfl ?_
      refine X_get f_X6_85 rfl c_T (v := .int (z_tk bf tx n (l_sk tx n p))) (congrArg Value.int k5) ?_
      refine X_push (v := .int 259) rfl (by decide +kernel) ?_
      refine X_icmp_ne rfl (fun c87 => ?_) (fun c87 => absurd (c61.symm.trans c87) (by decide))
      obtain ⟨f', rfl⟩ : ∃ f', f2 = f' + 1 := ⟨f2 - 1, by omega⟩
      have hp1 : l_tk tx n p (x_w 3) = l_sk tx n p + 3 := l_tk_y hisw
      have hwe : l_we tx n p = l_sk tx n p + 3 := l_isw_we hisw
      have hR2 : l_prs tx n m w (f' + 1) 2 zc h 0 p rd = l_bi (l_prs tx n m w f' 0 zc h 0 (l_tk tx n p (x_w 3)) rd) (fun x => l_prs tx n m w f' 2 zc h 0 x.1 (s_code x.2 (n_ (x.2 9)) 1 0)) := l_prs_2.trans (if_pos hisw)
      generalize hp1e : l_tk tx n p (x_w 3) = p1 at hp1 hR2
      have hRE : ∀ e, l_prs tx n m w f' 0 zc h 0 p1 rd = .inl e → R = .inl e := fun e h1 => hR.trans (l_bi_er (hR2.trans (l_bi_er h1)))
      have hRO : ∀ q9 rd1, l_prs tx n m w f' 0 zc h 0 p1 rd = .inr (q9, rd1) → R = l_bi (l_prs tx n m w f' 2 zc h 0 q9 (s_code rd1 (n_ (rd1 9)) 1 0)) (y_ct tx n m w f4 h k0 first) := fun q9 rd1 h1 => hR.trans (by rw [hR2, l_bi_ok h1])
      have hpk : ∀ q9 rd1, l_prs tx n m w f' 0 zc h 0 p1 rd = .inr (q9, rd1) → s_pk 1 rd rd1 p1 q9 k n := fun q9 rd1 h1 => l_prs_ok hn8 (by omega) _ _ _ _ _ _ k _ _ _ (by omega) hk9.1 (by omega) h1
      have hen : p1 ≤ l_en n (l_prs tx n m w f' 0 zc h 0 p1 rd) ∧ l_en n (l_prs tx n m w f' 0 zc h 0 p1 rd) ≤ l_en n R ∧ ∀ q9 rd1, l_prs tx n m w f' 0 zc h 0 p1 rd = .inr (q9, rd1) → q9 ≤ l_en n R := by
        cases hR1 : l_prs tx n m w f' 0 zc h 0 p1 rd with
        | inl e =>
          rw [hRE e hR1]
          exact ⟨by show p1 ≤ n; omega, Nat.le_refl _, fun q9 rd1 h1 => by cases h1⟩
        | inr x =>
          obtain ⟨q9, rd1⟩ := x
          obtain ⟨g1, g2, kk, g3, g4, g5⟩ := hpk q9 rd1 hR1
          have hnkk : n_ (rd1 9) = kk := by rw [g3]; exact n_nI (by omega)
          have h9 : q9 ≤ l_en n R := by rw [hRO q9 rd1 hR1, hnkk]; exact y_en2 hn8 (by omega) g1.2 s_code_9 (by have := hk9.2; cases first <;> simp only [cond_true, cond_false] at this ⊢ <;> omega)
          exact ⟨g1.1, h9, fun q8 rd8 h8 => by cases h8; exact h9⟩
      have hcolr := y_col_cong hcol0 hag
      refine w_turn hG hK hM hr hn8 hsp hPF hh6 hle hρ hX hh hat 3 hisw hp1e hcolr ⟨(hag 0 (by decide) (by decide)).trans h0, hk9.1, by omega⟩ hhv (f := f') (zc := zc) (by omega) (by omega) (by omega) (by omega) (fun er a1 K2 tl2 hv2 B4 el4 v l he hek hR1 y1 y2 d2 d3 y3 hsg hlen2 => ?_) (fun q9 rd1 K2 tl2 hv2 B4 el4 v E l cells2 slots2 hR1 hat2 y1 y2 d2 d3 y3 htr hlen2 hhv2 hcod2 hreg2 hc2 hs2 => ?_)
      · obtain ⟨l', z1, z2⟩ := y_errQ y1 y3 y_fz_dif (fun j hj => (hcs.2.2.1 j hj).2) (fun j hj => (hcs.2.2.2.1 j hj).2) hsg ⟨by omega, by omega⟩ (fun e => by have := hlen (hfst e); omega) hlen2 (show p0 ≤ n by omega)
        refine hQn _ _ ?_
        rw [hRE _ hR1]
        exact ⟨he, K2, tl2, hv2, B4, o, l', hek, ⟨y2, d2, d3.1, d3.2⟩, ⟨z1, z2⟩, rfl, rfl⟩
      · obtain ⟨g1, g2, kk, g3, g4, g5⟩ := hpk q9 rd1 hR1
        have hnkk : n_ (rd1 9) = kk := by rw [g3]; exact n_nI (by omega)
        have h9 := hen.2.2 q9 rd1 hR1
        have hcm : s_cm rd1 = s_cm rd := by unfold s_cm; rw [g2 0 (by decide) (by decide)]
        have hRn := hRO q9 rd1 hR1
        rw [hnkk] at htr hRn
        have hlt := z_seg_lt htr.2.2.1
        refine ih B4 K2 hv2 (s_code rd1 kk 1 0) tl2 q9 (kk + 1) k1 f' f4 elA nA q ll el4 (nL + 1) (iT + 1) mA (mL + 1) pA (updF pL nL v) zc first FA (updE FL nL E) lA (updE lL nL l) cells2 slots2 (by omega) (by omega) (by omega) hat2 y2 d2 d3 y1 (hcs.andF y3 (fun e => by rw [hzc, e]; rfl) (fun e => by rw [hzc, e]; rfl) htr hcod2 hcm) hzc ⟨s_code_9, ?_⟩ (fun j h1 h2 => (s_code_ne (by omega) h2).trans ((g2 j h1 h2).trans (hag j h1 h2))) (fun j h1 x h2 => (s_code_lt (by omega) h2).trans ((hcod2 j (by omega) x h2).trans (hcod j h1 x h2))) (fun j h1 h2 h3 => (s_code_ne h2 (by omega)).trans ((hreg2 j h1 h2 h3).trans (hreg j h1 h2 h3))) (fun h hh4 => (hhv2 h hh4).trans (s_code_ne (by omega) (by omega)).symm) ⟨by omega, by omega⟩ (fun e => ?_) ⟨by omega, by omega⟩ hRn
        · have := hk9.2; cases first <;> simp only [cond_true, cond_false] at this ⊢ <;> omega
        · rw [y_cat_s, List.length_append]
          have := hlen e
          omega
    · have n3 : ¬ l_isw tx n p (x_w 3) = true := fun q => c61 ((z_and hr hp).mpr q)
      obtain ⟨f', rfl⟩ : ∃ f', f2 = f' + 1 := ⟨f2 - 1, by omega⟩
      have hR2 : R = y_ct tx n m w f4 h k0 first (l_sk tx n p, rd) := hR.trans (l_bi_ok (l_prs_2.trans (if_neg n3)))
      have hkE : (bif first then rd else s_code rd k 2 0) 9 = nI (bif first then k else k + 1) ∧ (k ≤ (bif first then k else k + 1) ∧ 5 * (bif first then k else k + 1) ≤ 2 * p ∧ (bif first then k else k + 1) ≤ k + 1) ∧ ∀ j, j < 455 → j ≠ 9 → (bif first then rd else s_code rd k 2 0) j = rd j := by
        have h5 := hk9.2
        cases first with
        | true => exact ⟨hk9.1, ⟨Nat.le_refl _, hk5, Nat.le_succ _⟩, fun _ _ _ => rfl⟩
        | false =>
          simp only [cond_false] at h5 ⊢
          exact ⟨s_code_9, ⟨by omega, by omega, Nat.le_refl _⟩, fun j h1 h2 => s_code_ne h1 h2⟩
      have hR3 : R = l_prs tx n m w f4 4 first h k0 (l_sk tx n p) (bif first then rd else s_code rd k 2 0) := by rw [hR2]; show l_prs tx n m w f4 4 first h k0 (l_sk tx n p) (bif first then rd else s_code rd (n_ (rd 9)) 2 0) = _; rw [hnk]
      refine X_ld rfl rfl rfl rfl ?_
      refine X_get f_X6_26 rfl (c_B (hρ.o 0 (by decide)) rs_r) rfl ?_
      refine X_get f_X6_85 rfl c_T (v := .int (z_tk bf tx n (l_sk tx n p))) (congrArg Value.int k5) ?_
      refine X_push (v := .int 259) rfl (by decide +kernel) ?_
      refine X_icmp_ne rfl (fun c74 => ?_) (fun c74 => ?_)
      · have n2 : ¬ l_isw tx n p (x_w 2) = true := fun q => c74 ((z_or hr hp).mpr q)
        obtain ⟨f5, rfl⟩ : ∃ f5, f4 = f5 + 1 := ⟨f4 - 1, by omega⟩
        have hR4 : R = .inr (l_sk tx n p, (bif first then rd else s_code rd k 2 0)) := by rw [hR3]; refine (l_prs_4 (md := 0)).trans ((if_neg (by rw [l_isw_sk hp]; exact n2)).trans ?_); rw [l_sk_sk hp]
        obtain ⟨⟨a1, a2, a3⟩, ⟨w1, w2, w3⟩, ⟨u1, u2, u3⟩, ⟨x1, x2, x3⟩, e1, e2, e3, e4⟩ := id hh
        obtain ⟨i1, i2, i3, ⟨i4, i5⟩, i6, i7⟩ := hcs.fin (F' := y_dif B B') y_fz_dif w1 ((y_dif_of w2).trans w3) (y_lb_dif x1 x2 x3 (by omega)) e4
        have hT := y_cs_end (l := y_cat lL nL) (first := first) i1 i2 i3 i6 i7 (fun e => by rcases i7 with ⟨-, e2, -⟩ | ⟨e1, -⟩; rw [e2]; exact updE_eq; rw [e] at e1; cases e1) a1 ((y_dif_of a2).trans a3) (y_lb_dif u1 u2 u3 (by omega))
        obtain ⟨m1, m2, m3⟩ := hkE
        refine X_ld rfl rfl rfl rfl ?_
        refine X_aret rfl rfl (Or.inl ⟨_, rfl⟩) (Or.inr ⟨_, rfl⟩) (hQn _ _ ?_) (by omega) (by omega)
        rw [hR4]
        refine ⟨K, tl, hv, B', o, (s_cpE 1 nA (updE FA (nA - 1) (s_cpE 0 nL FL))), (bif first then y_cat lL nL else []), z_at_sk hat, ⟨hle, hρ, hX.1, hX.2⟩, ⟨?_, ?_⟩, fun h hh4 => (hhv h hh4).trans (m3 _ (by omega) (by omega)).symm, fun j h1 x h2 => (i4 j (by omega) x h2).trans (hcod j h1 x h2), fun j h1 h2 h3 => (m3 j h2 (by omega)).trans (hreg j h1 h2 h3), rfl, rfl⟩
        · rw [m1, n_nI (by omega)]
          exact hT
        · cases first with
          | true =>
            have := hlen rfl
            show 3 * (y_cat lL nL).length + p0 ≤ _
            omega
          | false =>
            show 3 * 0 + p0 ≤ _
            omega
      · have hisw := (z_or hr hp).mp c74
        obtain ⟨f5, rfl⟩ : ∃ f5, f4 = f5 + 2 := ⟨f4 - 2, by omega⟩
        have hp1 : l_tk tx n p (x_w 2) = l_sk tx n p + 2 := l_tk_y hisw
        have hwe : l_we tx n p = l_sk tx n p + 2 := l_isw_we hisw
        obtain ⟨m1, m2, m3⟩ := hkE
        refine X_ld rfl rfl rfl rfl ?_
        refine X_get f_X6_26 rfl (c_B (hρ.o 0 (by decide)) rs_r) rfl ?_
        refine X_get f_X6_85 rfl c_T (v := .int (z_tk bf tx n (l_sk tx n p))) (congrArg Value.int k5) ?_
        refine X_push (v := .int 259) rfl (by decide +kernel) ?_
        refine X_icmp_ne rfl (fun c87 => absurd c74 c87) (fun c87 => ?_)
        generalize hkEe : (bif first then k else k + 1) = kE at m1 m2
        have hnE : n_ ((bif first then rd else s_code rd k 2 0) 9) = kE := by rw [m1]; exact n_nI (by omega)
        generalize hrc : (bif first then s_clr (bif first then rd else s_code rd k 2 0) k0 (kE - k0) else (bif first then rd else s_code rd k 2 0)) = rdc
        have hcag : ∀ j, j < 455 → j ≠ 9 → rdc j = (bif first then rd else s_code rd k 2 0) j := fun j h1 _ => by
          rw [← hrc]
          cases first with
          | true => exact s_clr_ne h1 _
          | false => rfl
        have hc9 : rdc 9 = nI kE := by
          rw [← hrc]
          cases first with
          | true => exact (s_clr_ne (by decide) _).trans m1
          | false => exact m1
        have hclo : ∀ j, j < k0 → ∀ x, x < 6 → s_cod rdc j x = s_cod (bif first then rd else s_code rd k 2 0) j x := fun j h1 x h2 => by
          rw [← hrc]
          cases first with
          | true => exact s_clr_o h1 h2 _
          | false => rfl
        have hR5 : R = l_bi (l_bi (l_prs tx n m w f5 0 false h 0 (l_tk tx n p (x_w 2)) rdc) fun x => l_prs tx n m w f5 2 false h 0 x.1 x.2) (y_ct tx n m w (f5 + 1) h k0 false) := by
          rw [hR3]
          refine (l_prs_4 (md := 0)).trans ((if_pos (by rw [l_isw_sk hp]; exact hisw)).trans ?_)
          rw [hnE, hrc, l_tk_sk hp, l_prs_1]
          rfl
        generalize hp1e : l_tk tx n p (x_w 2) = p1 at hp1 hR5
        have hRE : ∀ e, l_prs tx n m w f5 0 false h 0 p1 rdc = .inl e → R = .inl e := fun e h1 => hR5.trans (l_bi_er (l_bi_er h1))
        have hRO : ∀ q9 rd1, l_prs tx n m w f5 0 false h 0 p1 rdc = .inr (q9, rd1) → R = l_bi (l_prs tx n m w f5 2 false h 0 q9 rd1) (y_ct tx n m w (f5 + 1) h k0 false) := fun q9 rd1 h1 => hR5.trans (by rw [l_bi_ok h1])
        have hpk : ∀ q9 rd1, l_prs tx n m w f5 0 false h 0 p1 rdc = .inr (q9, rd1) → s_pk 1 rdc rd1 p1 q9 kE n := fun q9 rd1 h1 => l_prs_ok hn8 (by omega) _ _ _ _ _ _ kE _ _ _ (by omega) hc9 (by omega) h1
        have hen : p1 ≤ l_en n (l_prs tx n m w f5 0 false h 0 p1 rdc) ∧ l_en n (l_prs tx n m w f5 0 false h 0 p1 rdc) ≤ l_en n R ∧ ∀ q9 rd1, l_prs tx n m w f5 0 false h 0 p1 rdc = .inr (q9, rd1) → kE < n_ (rd1 9) → q9 ≤ l_en n R := by
          cases hR1 : l_prs tx n m w f5 0 false h 0 p1 rdc with
          | inl e =>
            rw [hRE e hR1]
            exact ⟨by show p1 ≤ n; omega, Nat.le_refl _, fun q9 rd1 h1 => by cases h1⟩
          | inr x =>
            obtain ⟨q9, rd1⟩ := x
            obtain ⟨g1, g2, kk, g3, g4, g5⟩ := hpk q9 rd1 hR1
            have h9 : q9 ≤ l_en n R := by rw [hRO q9 rd1 hR1]; exact y_en2 hn8 (by omega) g1.2 g3 (by show 5 * kk + 5 ≤ 2 * q9; omega)
            exact ⟨g1.1, h9, fun q8 rd8 h8 _ => by cases h8; exact h9⟩
        obtain ⟨⟨a1, a2, a3⟩, ⟨w1, w2, w3⟩, ⟨u1, u2, u3⟩, ⟨x1, x2, x3⟩, e1, e2, e3, e4⟩ := id hh
        refine X_newK n_X6_210 rfl (by show _ + 1 ≤ mc; omega) (by show _ + 2 ≤ ms; omega) (x_K_any (y_none2 hρ hX.1) (fun q1 hq9 h64 => ?_))
        refine X_dup rfl rfl ?_
        refine X_push (v := .int 0) rfl (by decide +kernel) ?_
        refine X_icallP l_X6_X1_init (p_X1init hG hK hM d ((x_set_ne (by omega)).trans (y_none2 hρ hX.1)) x_set_eq) rfl rfl rfl (Nat.le_of_ble_eq_true rfl) (Nat.le_of_ble_eq_true rfl) (by omega) (by omega) (by omega) (fun N1 r9 hq8 => ?_)
        obtain ⟨l9, hl9, h649, rfl, rfl⟩ := hq8
        obtain ⟨⟨n1, n2, n4⟩, ⟨o1, o2, o3⟩, hne, hcs2⟩ := y_newC (c1 := .inl (0, lV 0 2 0)) (c2 := .inl (2, cpV 0 l9)) hq9 hl9
        refine X_heap hcs2 ?_
        refine X_stk (st' := [.ref q1]) rfl ?_
        refine X_st rfl rfl rfl ?_
        have hρ1 : y_ds ρ (x_set (x_set B' l9 (.inl (0, lV 0 2 0))) q1 (.inl (2, cpV 0 l9))) := (hρ.set o3).set n4
        have hX1 : (x_set (x_set B' l9 (.inl (0, lV 0 2 0))) q1 (.inl (2, cpV 0 l9))) 0 = none ∧ (x_set (x_set B' l9 (.inl (0, lV 0 2 0))) q1 (.inl (2, cpV 0 l9))) 2 = none := ⟨by rw [x_set_ne (by omega), x_set_ne (by omega)]; exact hX.1, by rw [x_set_ne (by omega), x_set_ne (by omega)]; exact hX.2⟩
        have hle1 : y_le B' (x_set (x_set B' l9 (.inl (0, lV 0 2 0))) q1 (.inl (2, cpV 0 l9))) := y_le.trans (y_le_set o2) (y_le_set (by rw [x_set_ne (Ne.symm hne)]; exact n2))
        have hob : y_ob (x_set (x_set B' l9 (.inl (0, lV 0 2 0))) q1 (.inl (2, cpV 0 l9))) q1 := ⟨2, _, _, _, _, x_set_eq, rfl, List.mem_of_getElem? (i := 1490) (by decide +kernel)⟩
        have u1b := y_lb_le hle1 u1
        refine X_ld rfl rfl rfl rfl ?_
        refine X_get f_X6_215 rfl (rc_B hρ1 a1 (hle1 _ _ a3)) rfl ?_
        refine X_ld rfl rfl rfl rfl ?_
        refine X_vcallP (rc_B hρ1 u1b.1 u1b.2.1) l_X6_Jx4a65c_add_9ea2d (j_add hG hK hM d (y_none2 hρ1 hX1.1) (y_lb.s hρ1 u1b) (y_ob_c hρ1 n1 hob) (by omega)) rfl rfl rfl rfl (Nat.le_of_ble_eq_true rfl) (Nat.le_of_ble_eq_true rfl) (by omega) (by omega) (by omega) (fun N9 r9 hq9 => ?_)
        obtain ⟨hA9, rfl⟩ := hq9
        obtain ⟨B3, el3, rfl, b1, b2, b3, b4, b5, b6, -⟩ := y_addB hρ1 hX1.1 hX1.2 u1b n1 hob hA9
        clear hA9
        refine X_stk (st' := .int 1 :: []) rfl ?_
        refine X_pop rfl rfl ?_
        obtain ⟨y1, y2, y3, ⟨y4, y5⟩, y6, y7, y8⟩ := hh.newA (pL' := fun _ => 0) hle hX.2 n1 n2 o1 o2 h649 hne h64 hnL1 b1 b4 b5 b6
        obtain ⟨i1, i2, i3, ⟨i4, i5⟩, i6, i7⟩ := hcs.fin (F' := y_fz B B3 [la, el3, l9, 2]) (y_fz_mv y3) w1 ((y_fz_at y5 w2).trans y4) (y_lb_fz y6 x2 x3 y7 y8 (by omega)) e4
        have hcolr := y_col_cong hcol0 (fun j h1 h2 => (hcag j (by omega) h2).trans ((m3 j (by omega) h2).trans (hag j h1 h2)))
        refine w_turn hG hK hM hr hn8 hsp hPF hh6 y2 b2 b3 y1 hat 2 hisw hp1e hcolr ⟨(hcag 0 (by decide) (by decide)).trans ((m3 0 (by decide) (by decide)).trans ((hag 0 (by decide) (by decide)).trans h0)), hc9, by omega⟩ (fun h hh4 => (hhv h hh4).trans ((hcag _ (by omega) (by omega)).trans (m3 _ (by omega) (by omega))).symm) (f := f5) (zc := false) (by omega) (by omega) (by omega) (by omega) (fun er a1 K2 tl2 hv2 B4 el4 v l he hek hR1 z1 z2 d2 d3 z3 hsg hlen2 => ?_) (fun q9 rd1 K2 tl2 hv2 B4 el4 v E l cells2 slots2 hR1 hat2 z1 z2 d2 d3 z3 htr hlen2 hhv2 hcod2 hreg2 hc2 hs2 => ?_)
        · obtain ⟨l', v1, v2⟩ := y_errQ (lA := updE lA (nA - 1) (y_cat lL nL)) (lL := fun _ => []) z1 z3 y_fz_dif (fun j hj => by rw [show updF pA nA q1 j = pA j from if_neg (by omega)]; exact (i2 j (by omega)).2) (fun j hj => absurd hj (Nat.not_lt_zero _)) hsg ⟨by omega, by omega⟩ (fun e => by omega) hlen2 (show p0 ≤ n by omega)
          refine hQn _ _ ?_
          rw [hRE _ hR1]
          exact ⟨he, K2, tl2, hv2, B4, o, l', hek, ⟨z2, d2, d3.1, d3.2⟩, ⟨v1, v2⟩, rfl, rfl⟩
        · obtain ⟨g1, g2, kk, g3, g4, g5⟩ := hpk q9 rd1 hR1
          have hnkk : n_ (rd1 9) = kk := by rw [g3]; exact n_nI (by omega)
          rw [hnkk] at htr
          have hlt := z_seg_lt htr.2.2.1
          have h9 := hen.2.2 q9 rd1 hR1 (by omega)
          have hRn := hRO q9 rd1 hR1
          have hcm : s_cm rd1 = s_cm (bif first then rd else s_code rd k 2 0) := by unfold s_cm; rw [g2 0 (by decide) (by decide), hcag 0 (by decide) (by decide)]
          refine ih B4 K2 hv2 rd1 tl2 q9 kk kE f5 (f5 + 1) el3 (nA + 1) q1 l9 el4 (0 + 1) (iT + 1) (mA + 1) (0 + 1) (updF pA nA q1) (updF (fun _ => 0) 0 v) false false (updE FA (nA - 1) (s_cpE 0 nL FL)) (fun _ => E) (updE lA (nA - 1) (y_cat lL nL)) (fun _ => l) cells2 slots2 (by omega) (by omega) (by omega) hat2 z2 d2 d3 z1 ?_ rfl ⟨g3, by show 5 * kk + 5 ≤ 2 * q9; omega⟩ (fun j h1 h2 => (g2 j h1 h2).trans ((hcag j (by omega) h2).trans ((m3 j (by omega) h2).trans (hag j h1 h2)))) (fun j h1 x h2 => (hcod2 j (by omega) x h2).trans ((hclo j h1 x h2).trans ((i4 j (by omega) x h2).trans (hcod j h1 x h2)))) (fun j h1 h2 h3 => (hreg2 j h1 h2 h3).trans ((hcag j h2 (by omega)).trans ((m3 j h2 (by omega)).trans (hreg j h1 h2 h3)))) hhv2 ⟨by omega, by omega⟩ (fun e => by cases e) ⟨by omega, by omega⟩ hRn
          rw [hkEe] at i1 i2 i3 i7
          exact y_cs_or i1 i2 i3 i6 i7 z3 htr (fun j h1 x h2 => (hcod2 j h1 x h2).trans (by rw [← hrc])) hcm

