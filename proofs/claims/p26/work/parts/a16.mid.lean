/-! ===== the law: the class is made, the text is read (wip/p26/gen_h2.py) ===== -/
theorem q_S0 {n : Nat} {xs F A C : Nat → Int32} {B : XH} (hB : ∀ k, k < 278 → B k = q_S n xs F A C k) : (B 0 = none ∧ B 2 = none) ∧ B 1 = some (.inr (false, .int, 4, fun _ => .int (-1))) ∧ B 56 = some (.inr (false, .int, n, fun j => .int (xs j))) ∧ B 275 = some (e_O F) ∧ B 276 = some (e_A A) ∧ B 277 = some (e_A C) := by
  refine ⟨⟨?_, ?_⟩, ?_, ?_, ?_, ?_, ?_⟩
  · rw [hB 0 (by decide), q_S_o (by decide), e_B_o (by decide)]; rfl
  · rw [hB 2 (by decide), q_S_o (by decide), e_B_o (by decide)]; rfl
  · rw [hB 1 (by decide), q_S_o (by decide), e_B_o (by decide)]; rfl
  · rw [hB 56 (by decide), q_S_o (by decide), e_B_o (by decide)]; rfl
  · rw [hB 275 (by decide), q_S_o (by decide), e_B_5]
  · rw [hB 276 (by decide), q_S_o (by decide), e_B_6]
  · rw [hB 277 (by decide), q_S_o (by decide), e_B_7]
theorem c_eqB {B B' : XH} {J bf K tk ts : Nat → Int32} {tl : Int64} {tv : Nat → Int64} {su : Nat → Nat} {D : Nat → Nat → Int32} {k : Nat} (h : B k = B' k) : cset B J bf K tk ts tl tv su D k = cset B' J bf K tk ts tl tv su D k := by
  unfold cset
  rw [h]
theorem out_hi {k : Nat} (h : 275 ≤ k) : s_out k := ⟨by omega, by omega⟩
theorem law_B2 {G : XE} (hG : x_Kn G) (hX : x_KX G) (hK : x_KS G) (hM : x_KM G) {ad0 : Nat → Nat} {n : Nat} {xs : Nat → Int32} (hn : n < 2147483648) {xa xb : Nat → Nat} {m oo sc pr fe tr : Nat} {l : Bool} (hx : ∀ k, xa k < 12 ∧ xb k < 12) (hm : m ≤ 12) (h0 : oo < 4) (h1 : sc < 12) (h2 : pr < 12) (h3 : fe < 12) (h4 : tr < 12) {B : XH} (hB : ∀ k, k < 278 → B k = q_S n xs (qF m sc pr fe tr) (qA xa m) (qA xb m) k) {J9 bf9 : Nat → Int32} {b9 : Nat} {N9 : XH} {r9 : Option Value} {o : Nat} (hb9 : b9 ≤ 800) (hQ : x_QLd B J9 bf9 (fun _ => 71) (fun _ => s_dz) 0 b9 (fun j => nI (e_ch (q_txt xa xb m (md_s l) oo sc pr fe tr) j)) (nI (q_txt xa xb m (md_s l) oo sc pr fe tr).length) N9 r9) : x_W G mL_lw (L_Z G ad0 64) N9 (6000) (250000) 341 [some (.ref 56), some (.ref 275), some (.int (b2 l)), some (.int (nI oo)), some (.ref o), some (.ref 64), none] (r9.toList ++ []) := by
  obtain ⟨hla, hll⟩ := q_txt_lat (l := l) hx hm (Nat.lt_of_lt_of_le h0 (by decide)) h1 h2 h3 h4
  obtain ⟨q9, rd9, hT, hfin⟩ := q_read (l := l) hx hm h0 h1 h2 h3 h4
  obtain ⟨⟨s0, s2⟩, s1, s56, s5, s6, s7⟩ := q_S0 hB
  obtain ⟨n1, st, ρ, tk2, ts2, tv2, J2, ⟨hx1, hnb, hρ1⟩, hq, hE, hO⟩ := hQ
  have hn1 : n1 = (q_txt xa xb m (md_s l) oo sc pr fe tr).length := by
    rcases Nat.lt_or_ge n1 2147483648 with q | q
    · exact ((nI_eq (by omega) q).mp hx1).symm
    · have q2 : n1 ≤ b9 := hnb
      omega
  subst hn1
  rw [hT] at hq
  obtain ⟨K2, tl2, sv2, nm2, ty2, hv2, B2, ρ2, dd2, rdS, s, elS, mS, pS, mm, ll, ⟨gds, gX, gρ⟩, gST, g1, ⟨g20, g21, g22, g2l, g2s⟩, g3, g4, g5, g6, g7, g8, rfl, -⟩ := hq
  obtain ⟨rfl, rfl⟩ := hO q9 rd9 hT
  have hle2 := gST.1
  have hst1 : ρ2 1 = st := (gρ 1 (by decide)).trans hρ1
  have hbig := l_txt_big (by omega) hT
  have hm5 := g3.1
  have ecm : s_cm rd9 = mm := n_of g20 (by omega)
  have ecm2 : s_cm rd9 = 2 := n_of (k := 2) hfin.1.1 (by decide)
  have esm : s_sm rd9 = 1 := n_of (k := 1) hfin.1.2.2.1 (by decide)
  have elm : s_lm rd9 = m := n_of hfin.1.2.1 (by omega)
  generalize hR : rset B2 ρ2 (s_n10 0) 0 (-1) sv2 nm2 ty2 hv2 = R
  have hle : y_le B R := by
    rw [← hR]
    exact hle2.trans (fun k c hk => rs_B gds hk)
  have hnn : ∀ k, k < 64 → ∀ a, a < 5 → ¬ k = ρ2 a := fun k hk a ha q => by have := (gds.2 a ha).2.2; omega
  have hR0 : R 0 = none := by rw [← hR]; exact (rs_out (hnn 0 (by omega))).trans gX.1
  have hR2 : R 2 = none := by rw [← hR]; exact (rs_out (hnn 2 (by omega))).trans gX.2
  have e2 : s_ldd rd9 = s_look rd9 (s_lm rd9) 2 := by unfold s_ldd; rw [ecm2]
  have hlv : L_lv (hidE R) 0 (s_ldd rd9) (s_look dd2 ll mm) st := by
    refine ⟨ld_inv g20 g21 g22 hm5 g2l g2s hbig (fun j hj => (g6 j hj).2) (gST.fok g1 (by omega)) (fun t ht => ?_), ld_rel g20 g21 g22 hm5 g2l g2s hbig g5 (fun j hj => (g6 j hj).1) g7 g8, ?_, fun q hq => ?_⟩
    · obtain ⟨-, co, ht9, sg, h9, psg, l9, E9, -, hL, -⟩ := (gST.2.2.2 t ht).in1 g1
      exact hL
    · have h5 := y_le.st (hidE_dif (R := R) s5 s6 s7) (by rw [← hR]; exact gST.st2 (i := s_n10 0) (er := 0) (ea := -1) gds g1 g20 g22 g2s g3 g4)
      rw [hst1] at h5
      have es : s_ldd rd9 = s_look rd9 (s_lm rd9) mm := by unfold s_ldd; rw [ecm]
      rw [es]
      exact (s_ldd_stc hm5).st (by omega) (by rw [esm]; decide) h5
    · rw [s_look_o (by omega) mm (fun i hi x x1 x2 => by omega), (g6 q hq).1]
      exact (g6 q hq).2
  have hu : s_usg rd9 1 := by
    have q := hbig.2.2.2.2.1
    rw [esm] at q
    exact q
  have hmd := (qF_md0 hfin hu (by omega)).look (fun k hk => ⟨xa k, by have := (hx k).1; omega, if_pos (by omega)⟩)
  have elm2 : s_lm (s_ldd rd9) = m := by
    rw [e2]
    unfold s_lm
    rw [s_look_o (by decide) 2 (fun i hi x x1 x2 => by omega)]
    exact elm
  rw [← e2, elm] at hmd
  have hB0 : e_B0 (hidE R) := by
    refine ⟨⟨?_, ?_⟩, ⟨if_pos (by decide), if_pos (by decide), if_pos (by decide)⟩, ⟨by decide, by decide⟩, false, ?_⟩
    · exact (if_neg (by decide)).trans hR0
    · exact (if_neg (by decide)).trans hR2
    · exact (if_neg (by decide)).trans (hle _ _ s1)
  refine X_heap (congrArg (fun z => cset z (upd (upd (upd (upd J9 1 0) 2 (-1)) 5 (nI (s_n10 0))) 6 (x_min ((upd (upd J9 1 0) 2 (-1)) 6 + 1) 8)) bf9 K2 tk2 ts2 tl2 tv2 (updN (fun _ => 71) (s_n10 0) st) (updR (fun _ => s_dz) (s_n10 0) (s_look dd2 ll mm))) (hR.trans (hidE_eq (hle _ _ s5) (hle _ _ s6) (hle _ _ s7)))) ?_
  refine X_stk (st' := [.int 1]) (congrArg (fun z => [Value.int z]) hfin.1.2.2.1) ?_
  refine X_push (v := .int 1) aL_341 (by decide +kernel) ?_
  refine X_icmp_ne aL_342 (fun c => absurd rfl c) (fun _ => ?_)
  refine law_C hG hX hK hB0 (s_n10 0) rfl s_n10_lt (e := s_ldd rd9) (l := l) (oo := oo) (by rw [elm2]; exact hmd) (by rw [updR_eq, updN_eq]; exact hlv) (by rw [elm2]; rfl) (by omega) (Or.inl rfl) ((if_neg (by decide)).trans (hle _ _ s56)) hn
theorem law_B1 {G : XE} (hG : x_Kn G) (hX : x_KX G) (hK : x_KS G) (hM : x_KM G) {ad0 : Nat → Nat} {n : Nat} {xs : Nat → Int32} (hn : n < 2147483648) {xa xb : Nat → Nat} {m oo sc pr fe tr : Nat} {l : Bool} (hx : ∀ k, xa k < 12 ∧ xb k < 12) (hm : m ≤ 12) (h0 : oo < 4) (h1 : sc < 12) (h2 : pr < 12) (h3 : fe < 12) (h4 : tr < 12) {N : XH} {o : Nat} (hsb : sb 278 (e_B (q_M0 n xs) (qF m sc pr fe tr) (qA xa m) (qA xb m)) o 0 (q_txt xa xb m (md_s l) oo sc pr fe tr) N) {y : Option Value} : x_W G mL_lw (L_Z G ad0 64) N (200) (100000) 322 [some (.ref 56), some (.ref 275), some (.int (b2 l)), some (.int (nI oo)), some (.ref o), y, none] [] := by
  obtain ⟨hla, hll⟩ := q_txt_lat (l := l) hx hm (Nat.lt_of_lt_of_le h0 (by decide)) h1 h2 h3 h4
  obtain ⟨q9, rd9, hT, -⟩ := q_read (l := l) hx hm h0 h1 h2 h3 h4
  generalize hlt : (q_txt xa xb m (md_s l) oo sc pr fe tr) = lt at *
  obtain ⟨⟨hk, ho⟩, v, mv, f, ⟨hv, hvo⟩, hNo, hNv, hmv, hf, hfit⟩ := hsb
  have hN0 : N 0 = none := (hk 0 (by decide)).trans (e_B_o (by decide))
  refine X_loc (L' := [some (.ref 56), some (.ref 275), some (.int (b2 l)), some (.int (nI oo)), some (.ref o), none, none]) ⟨rfl, rfl, rfl, rfl, rfl, trivial⟩ ?_
  refine X_ghost hN0 (fun a ha hab => ?_)
  have hao : o < a := hab o _ hNo
  have hav : v < a := hab v _ hNv
  refine X_heap (N' := k_at N a []) (funext fun k => ?_) ?_
  · unfold x_set k_at
    by_cases e0 : k = 0
    · rw [if_pos e0, if_pos e0]; rfl
    · rw [if_neg e0, if_neg e0]
      by_cases e1 : k < a
      · rw [if_pos e1]
      · rw [if_neg e1]
        cases hNk : N k with
        | none => rfl
        | some c => exact absurd (hab k c hNk) e1
  refine X_newK n_L_35 aL_322 (by show 200 + 1 ≤ 604330; omega) (by show 100000 + 7 ≤ 7288780; omega) (Z_new ha a rfl ?_)
  refine X_dup aL_325 rfl ?_
  refine X_callI l_L_X10_init (w_X10 hG hK hM 50 ha) aL_326 rfl rfl (Nat.le_of_ble_eq_true rfl) (L_fit (Nat.le_of_ble_eq_true rfl) (Nat.le_of_ble_eq_true rfl) (by omega) (by omega)) (fun N9 r h => ?_)
  obtain ⟨rfl, rfl⟩ := h
  refine X_st aL_329 rfl rfl ?_
  refine X_alike (N' := q_P N a) (fun k c' h => ?_) (fun c' h => nomatch (show (none : Option XC) = some c' from h)) ?_
  · unfold q_P at h
    by_cases e0 : k = 0
    · rw [if_pos e0] at h; cases h
    · rw [if_neg e0] at h; exact ⟨c', h, x_lk_rfl⟩
  have ha5 : 275 ≤ a := by omega
  refine X_ren (ρ := rsw a) a (rsw_2 ha5) (fun k hk => rsw_64 ha5 hk) (rsw_b ha5) (Nat.le_refl 64) rfl ?_
  refine X_alike (q_al2 (n := n) (xs := xs) (by omega) hk ⟨ho, hao⟩ ⟨hv, hav⟩ hvo hNo hNv) (fun c' h => ?_) ?_
  · rw [show q_C _ 0 = _ from c_out (by decide) (by decide), x_set_ne (by omega), x_set_ne (by omega), q_S_o (by decide), e_B_o (by decide)] at h
    cases h
  have r0 : ∀ k, 275 ≤ k → k < a → k = rsw a k := fun k h1 h2 => (rsw_o (by omega) (by omega)).symm
  refine X_loc (L' := [some (.ref 56), some (.ref 275), some (.int (b2 l)), some (.int (nI oo)), some (.ref o), some (.ref 64), none]) ⟨congrArg Value.ref (rsw_64 ha5 (by decide)).symm, congrArg Value.ref (r0 275 (by omega) (by omega)), rfl, rfl, congrArg Value.ref (r0 o (by omega) hao), congrArg Value.ref (rsw_a (j := 0) ha5 (by decide)).symm, trivial⟩ ?_
  refine X_stk (st' := []) rfl ?_
  have hNo9 : q_C (x_set (x_set (q_S n xs (qF m sc pr fe tr) (qA xa m) (qA xb m)) v (sbA mv f)) o (.inl (12, sbV v lt.length))) o = some (.inl (12, sbV v lt.length)) := c_B (out_hi (by omega)) x_set_eq
  have hNv9 : q_C (x_set (x_set (q_S n xs (qF m sc pr fe tr) (qA xa m) (qA xb m)) v (sbA mv f)) o (.inl (12, sbV v lt.length))) v = some (sbA mv f) := c_B (out_hi (by omega)) ((x_set_ne hvo).trans x_set_eq)
  have h09 : q_C (x_set (x_set (q_S n xs (qF m sc pr fe tr) (qA xa m) (qA xb m)) v (sbA mv f)) o (.inl (12, sbV v lt.length))) 0 = none := (c_out (by decide) (by decide)).trans ((x_set_ne (by omega)).trans ((x_set_ne (by omega)).trans ((q_S_o (by decide)).trans (e_B_o (by decide)))))
  refine X_ld aL_331 rfl rfl rfl ?_
  refine X_ld aL_333 rfl rfl rfl ?_
  refine X_lvP hNo9 l_L_J4_toString_0e30d (j_toStr hG hK 20 (b := 278) (by decide) h09 ⟨⟨fun _ _ => rfl, ho⟩, v, mv, f, ⟨hv, hvo⟩, hNo9, hNv9, hmv, hf, hfit⟩) aL_335 rfl rfl rfl (Nat.le_of_ble_eq_true rfl) (Nat.le_of_ble_eq_true rfl) (by omega) (by omega) (by omega) (fun N9 E9 h9 => h9) (fun N2 r2 h9 => ?_)
  obtain ⟨t, rfl, hk2, w2, f2, ⟨ht, hw2⟩, hNt, hNw, hf2⟩ := h9
  have htw : w2 ≠ t := fun q => by
    rw [q, hNt] at hNw
    cases hNw
  refine X_alike (N' := q_C (x_set (x_set (q_S n xs (qF m sc pr fe tr) (qA xa m) (qA xb m)) w2 (sbA lt.length f2)) t (.inl (13, sgV w2)))) (fun k c' h => ?_) (fun c' h => ?_) ?_
  · by_cases et : k = t
    · subst et
      rw [show q_C _ k = _ from c_out (by omega) (by omega), x_set_eq] at h
      exact ⟨_, hNt, by obtain rfl := Option.some.inj h; exact x_lk_rfl⟩
    · by_cases ew : k = w2
      · subst ew
        rw [show q_C _ k = _ from c_out (by omega) (by omega), x_set_ne et, x_set_eq] at h
        exact ⟨_, hNw, by obtain rfl := Option.some.inj h; exact x_lk_rfl⟩
      · by_cases e8 : k < 278
        · refine ⟨c', (hk2 k e8).trans ?_, x_lk_rfl⟩
          rw [← h]
          exact c_eqB (by rw [x_set_ne (by omega), x_set_ne (by omega), x_set_ne et, x_set_ne ew])
        · rw [show q_C _ k = _ from c_out (by omega) (by omega), x_set_ne et, x_set_ne ew, q_S_o (by omega), e_B_o (by omega), q_M0_none (by omega) (by omega)] at h
          cases h
  · rw [show q_C _ 0 = _ from c_out (by decide) (by decide), x_set_ne (by omega), x_set_ne (by omega), q_S_o (by decide), e_B_o (by decide)] at h
    cases h
  have hBk : ∀ k, k < 278 → (x_set (x_set (q_S n xs (qF m sc pr fe tr) (qA xa m) (qA xb m)) w2 (sbA lt.length f2)) t (.inl (13, sgV w2))) k = (q_S n xs (qF m sc pr fe tr) (qA xa m) (qA xb m)) k := fun k hk => (x_set_ne (by omega)).trans (x_set_ne (by omega))
  refine X_lsP l_L_L_read (v_read hG hK hX hM 20 0 rfl (by decide) rfl (q_S0 hBk).1 ⟨w2, f2, ⟨out_hi (by omega), out_hi (by omega)⟩, x_set_eq, (x_set_ne htw).trans x_set_eq, hf2⟩ hla hll hT) aL_338 rfl rfl (Nat.le_of_ble_eq_true rfl) (Nat.le_of_ble_eq_true rfl) (by omega) (by omega) (by omega) (fun N9 r9 h9 => ?_)
  obtain ⟨J9, bf9, b9, ⟨-, -, hb9⟩, hQ⟩ := h9
  subst hlt
  exact X_room (by omega) (by omega) (law_B2 hG hX hK hM hn hx hm h0 h1 h2 h3 h4 hBk hb9 hQ)
