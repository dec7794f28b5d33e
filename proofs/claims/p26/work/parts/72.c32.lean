/-! ===== the class: more cells beside its own; values that are checked ===== -/
/-- what lies there lies there still -/
def y_le (B B' : XH) : Prop := ∀ k c, B k = some c → B' k = some c
theorem y_le_rfl {B : XH} : y_le B B := fun _ _ h => h
theorem y_le.trans {B B' B2 : XH} (h : y_le B B') (h' : y_le B' B2) : y_le B B2 := fun k c q => h' k c (h k c q)
theorem y_le_set {B : XH} {q : Nat} {c : XC} (h : B q = none) : y_le B (x_set B q c) := fun k d hk => by
  by_cases e : k = q
  · rw [e, h] at hk; cases hk
  · rw [x_set_ne e]; exact hk
section YMON
variable {B B' : XH} {e g : Nat → Int32}
theorem y_le.q (h : y_le B B') {k o : Nat} (hq : q_at B e k o) : q_at B' e k o := ⟨hq.1, h _ _ hq.2⟩
theorem y_le.v (h : y_le B B') {o : Nat} (hv : v_at B g o) : v_at B' g o := ⟨hv.1, hv.2.choose, h _ _ hv.2.choose_spec⟩
theorem y_le.l (h : y_le B B') {a n : Nat} {p : Nat → Nat} (hl : l_at B a n p) : l_at B' a n p := by
  obtain ⟨h1, h2, mc, el, h3, h4⟩ := hl
  refine ⟨h1, h2, mc, el, h _ _ h3, fun hn => ?_⟩
  obtain ⟨g1, mu, cap, f, g2, g3⟩ := h4 hn
  exact ⟨g1, mu, cap, f, h _ _ g2, g3⟩
theorem y_le.t (h : y_le B B') : ∀ (w o : Nat) (E : (Nat → Bool) → Bool), t_at B e w o E → t_at B' e w o E
  | 0, _, _, ht => ht
  | w + 1, o, E, ht => by
    rcases ht with ⟨k, h1, h2⟩ | ⟨kd, a, n, p, F, h1, h2, h3, h4, h5, h6⟩
    · exact Or.inl ⟨k, h.q h1, h2⟩
    · exact Or.inr ⟨kd, a, n, p, F, h1, h _ _ h2, h3, h.l h4, fun j hj => y_le.t h w _ _ (h5 j hj), h6⟩
theorem y_le.sg (h : y_le B B') {s sg : Nat} (hs : sg_at B e s sg) : sg_at B' e s sg := by
  obtain ⟨p, h1, h2⟩ := hs
  exact ⟨p, h.l h1, fun m hm hp => h.q (h2 m hm hp)⟩
theorem y_le.P (h : y_le B B') {s po : Nat} (hP : P_at B e s po) : P_at B' e s po := by
  obtain ⟨h1, nm, co, ht, sg, h2, h3, ⟨h4, mu, hh, h5, h6⟩, h7, w, E, h8, h9, h10⟩ := hP
  exact ⟨h1, nm, co, ht, sg, h _ _ h2, h3, ⟨h4, mu, hh, h _ _ h5, h6⟩, h.sg h7, w, E, h8, h.t _ _ _ h9, h10⟩
theorem y_le.st (h : y_le B B') {o : Nat} (hst : st_at B e o) : st_at B' e o := by
  obtain ⟨h1, a1, a2, a3, pp, h2, ⟨h3, nm, h4, h5⟩, ⟨h6, ty, h7, h8⟩, h9, h10⟩ := hst
  exact ⟨h1, a1, a2, a3, pp, h _ _ h2, ⟨h3, nm, h _ _ h4, h5⟩, ⟨h6, ty, h _ _ h7, h8⟩, h.l h9, fun s hs => h.P (h10 s hs)⟩
variable {J bf K tk ts : Nat → Int32} {tl : Int64} {tv : Nat → Int64} {su : Nat → Nat} {D : Nat → Nat → Int32}
theorem y_le.c (h : y_le B B') : ∀ k c, cset B J bf K tk ts tl tv su D k = some c → cset B' J bf K tk ts tl tv su D k = some c := fun k c hk => by
  by_cases h1 : 64 ≤ k ∧ k ≤ 70
  · have h7 : k = 64 ∨ k = 65 ∨ k = 66 ∨ k = 67 ∨ k = 68 ∨ k = 69 ∨ k = 70 := by omega
    rcases h7 with rfl | rfl | rfl | rfl | rfl | rfl | rfl <;> exact hk
  · by_cases h2 : 75 ≤ k ∧ k ≤ 274
    · obtain ⟨a, b, ha, hb, rfl⟩ : ∃ a b, a < 10 ∧ b < 20 ∧ k = 75 + 20 * a + b := ⟨(k - 75) / 20, (k - 75) % 20, by omega, by omega, by omega⟩
      rw [c_at ha hb] at hk ⊢
      exact hk
    · rw [c_out h1 h2] at hk ⊢
      exact h k c hk
/-- a name that is free is none of the class's own -/
theorem y_free {q : Nat} (hq : cset B J bf K tk ts tl tv su D q = none) : s_out q ∧ B q = none := by
  by_cases h1 : 64 ≤ q ∧ q ≤ 70
  · have h7 : q = 64 ∨ q = 65 ∨ q = 66 ∨ q = 67 ∨ q = 68 ∨ q = 69 ∨ q = 70 := by omega
    rcases h7 with rfl | rfl | rfl | rfl | rfl | rfl | rfl <;> cases hq
  · by_cases h2 : 75 ≤ q ∧ q ≤ 274
    · exfalso
      obtain ⟨a, b, ha, hb, rfl⟩ : ∃ a b, a < 10 ∧ b < 20 ∧ q = 75 + 20 * a + b := ⟨(q - 75) / 20, (q - 75) % 20, by omega, by omega, by omega⟩
      rw [c_at ha hb] at hq
      cases hq
    · rw [c_out h1 h2] at hq
      exact ⟨⟨h1, h2⟩, hq⟩
theorem y_set {q : Nat} {c : XC} (h : s_out q) : x_set (cset B J bf K tk ts tl tv su D) q c = cset (x_set B q c) J bf K tk ts tl tv su D := by
  funext k
  by_cases e : k = q
  · rw [e, x_set_eq, c_out h.1 h.2, x_set_eq]
  · rw [x_set_ne e]
    by_cases h1 : 64 ≤ k ∧ k ≤ 70
    · have h7 : k = 64 ∨ k = 65 ∨ k = 66 ∨ k = 67 ∨ k = 68 ∨ k = 69 ∨ k = 70 := by omega
      rcases h7 with rfl | rfl | rfl | rfl | rfl | rfl | rfl <;> rfl
    · by_cases h2 : 75 ≤ k ∧ k ≤ 274
      · obtain ⟨a, b, ha, hb, rfl⟩ : ∃ a b, a < 10 ∧ b < 20 ∧ k = 75 + 20 * a + b := ⟨(k - 75) / 20, (k - 75) % 20, by omega, by omega, by omega⟩
        rw [c_at ha hb, c_at ha hb]
      · rw [c_out h1 h2, c_out h1 h2, x_set_ne e]
theorem y_none0 (h : B 0 = none) : cset B J bf K tk ts tl tv su D 0 = none := h
end YMON
theorem x_set_set {N : XH} {q : Nat} {c d : XC} : x_set (x_set N q c) q d = x_set N q d := by
  funext k
  unfold x_set
  by_cases h : k = q
  · rw [if_pos h, if_pos h]
  · rw [if_neg h, if_neg h, if_neg h]
section XCHKS
variable {G : XE} {M Mc : XMI} {d mc ms nb0 : Nat} {ad0 : Nat → Nat} {Qn : XH → Option Value → Prop} {Qx : XH → String → Prop} {N N1 N2 : XH} {cells slots pc pc' t : Nat} {L : List (Option Value)}
/-- not caught here, and some cells are forgotten -/
theorem X_outS {E : String} (hhh : x_hh M = []) (h1 : cells ≤ mc) (h2 : slots ≤ ms) (hs : ∀ k c, N2 k = some c → N k = some c) (hq : Qx N2 E) : x_X G M (x_Z G d mc ms ad0 nb0 Qn Qx) N cells slots pc L E := by
  intro p e s m args below meth c ad nb H locs ls rest q ce B hR hnb he hS hl hcell hv hcl
  obtain ⟨hx, hb, hml, hr, hlk, hown, hts, hW, hkp, htb, hnm, hKn, hok⟩ := id B
  exact vx_out (fun x hx2 => by rw [htb, hhh] at hx2; cases hx2) hlk hcell hv hcl (fun t ht _ => ⟨⟨ad, nb, N2, hnb, he, by rw [ht]; exact x_R_sub hR hs, hq⟩, hS.F ht⟩) hS.2.2 h1 h2
/-- a static check that may throw -/
theorem X_schkS {idx n d' mc' ms' : Nat} {st As rest : List Value} {P : Prop} {C : String} (hk : x_LS (x_own M) idx n Mc) (hM : x_M G Mc d' mc' ms' As N (x_QnP P N1) (x_QxP P N1 C))
    (hd : x_at (x_k M) pc = some (.invokestatic idx, pc', t)) (hst : st = As.reverse ++ rest) (hn : As.length = n) (hrest : (rest.map fun v => v.category).sum ≤ 8) (hL : x_nL Mc ≤ 81) (hdd : d' + 1 ≤ d) (h1 : cells + mc' ≤ mc) (h2 : slots + ms' ≤ ms) (hhh : x_hh M = []) (hs : ∀ k c, N2 k = some c → N1 k = some c) (kx : ¬ P → Qx N2 C)
    (kk : P → x_W G M (x_Z G d mc ms ad0 nb0 Qn Qx) N1 (cells + mc') (slots + ms') pc' L rest) : x_W G M (x_Z G d mc ms ad0 nb0 Qn Qx) N cells slots pc L st :=
  X_callS hk hM hd hst hn hrest (x_fit_of hL hdd h1 h2) (fun N' E h => by obtain ⟨hp, rfl, rfl⟩ := h; exact X_outS hhh h1 h2 hs (kx hp)) (fun N' r h => by obtain ⟨hp, rfl, rfl⟩ := h; exact kk hp)
/-- a call that may throw; its ends are cases -/
theorem X_vcallX {idx n d' mc' ms' o ci nf : Nat} {T : u_T} {V : Nat → Value} {st As rest : List Value} {Q : XH → Option Value → Prop} {X : XH → String → Prop} (hN : N o = some (.inl (ci, V))) (hk : x_LV (x_own M) idx n Mc) (hM : x_M G Mc d' mc' ms' (.ref o :: As) N Q X)
    (hd : x_at (x_k M) pc = some (.invokevirtual idx, pc', t)) (hst : st = As.reverse ++ .ref o :: rest) (hci : vwCl[ci]? = some ((x_y Mc).cls, T, nf)) (hn : As.length = n) (hrest : (rest.map fun v => v.category).sum ≤ 8) (hL : x_nL Mc ≤ 81) (hdd : d' + 1 ≤ d) (h1 : cells + mc' ≤ mc) (h2 : slots + ms' ≤ ms) (hhh : x_hh M = []) (kx : ∀ N' E, X N' E → Qx N' E)
    (kk : ∀ (N' : XH) (r : Option Value), Q N' r → x_W G M (x_Z G d mc ms ad0 nb0 Qn Qx) N' (cells + mc') (slots + ms') pc' L (r.toList ++ rest)) : x_W G M (x_Z G d mc ms ad0 nb0 Qn Qx) N cells slots pc L st :=
  X_callV (T := T) (nf := nf) hk hM hd hst hN hci hn hrest (x_fit_of hL hdd h1 h2) (fun N' E h => X_out hhh h1 h2 (kx N' E h)) kk
end XCHKS
/-- the four values, each in the range of its hole -/
def s_vgr (e : Nat → Int32) (s : Nat) (v0 v1 v2 v3 : Int32) : Prop := ((0 : Int32) ≤ v0 ∧ v0 ≤ s_grt (s_st e s 17)) ∧ ((0 : Int32) ≤ v1 ∧ v1 ≤ s_grt (s_st e s 18)) ∧ ((0 : Int32) ≤ v2 ∧ v2 ≤ s_grt (s_st e s 19)) ∧ ((0 : Int32) ≤ v3 ∧ v3 ≤ s_grt (s_st e s 20))
abbrev s_g4 (v0 v1 v2 v3 : Int32) : Nat → Int32 := s_giv (fun _ => 0) v0 v1 v2 v3
theorem s_g4_ok {e : Nat → Int32} {s : Nat} {v0 v1 v2 v3 : Int32} (h : s_vgr e s v0 v1 v2 v3) : g_ok true (s_g4 v0 v1 v2 v3) (s_gv v0 v1 v2 v3) := fun k hk => by
  have h4 : k = 0 ∨ k = 1 ∨ k = 2 ∨ k = 3 := by omega
  rcases h4 with rfl | rfl | rfl | rfl
  · exact ⟨rfl, fun _ => h.1.1⟩
  · exact ⟨rfl, fun _ => h.2.1.1⟩
  · exact ⟨rfl, fun _ => h.2.2.1.1⟩
  · exact ⟨rfl, fun _ => h.2.2.2.1⟩
abbrev s_g4c (v0 v1 v2 v3 : Int32) : XC := .inr (true, .int, 4, fun j => .int (s_g4 v0 v1 v2 v3 j))
/-- the array of the values, at a new name -/
def x_QnG (P : Prop) (B : XH) (C : XH → XH) (v0 v1 v2 v3 : Int32) : XH → Option Value → Prop := fun N' r => P ∧ ∃ q, 64 ≤ q ∧ s_out q ∧ B q = none ∧ N' = C (x_set B q (s_g4c v0 v1 v2 v3)) ∧ r = some (.ref q)
theorem m_checkedValues {G : XE} (hG : x_Kn G) (hX : x_KX G) {B : XH} {J bf K tk ts : Nat → Int32} {tl : Int64} {tv : Nat → Int64} {su : Nat → Nat} {D : Nat → Nat → Int32} (d : Nat) (w : Nat) (hw : J 5 = nI w) (hw10 : w < 10) (h0 : B 0 = none) {e : Nat → Int32} (hst : st_at B e (su w)) (hwf : s_wf e) {x v0 v1 v2 v3 : Int32} : x_M G mX10_checkedValues (d + 7) 6 34 [.ref 64, .int x, .int v0, .int v1, .int v2, .int v3] (cset B J bf K tk ts tl tv su D) (x_QnG ((0 ≤ x ∧ x < nI (s_sm e)) ∧ (s_vgr e (n_ x) v0 v1 v2 v3)) B (fun B => cset B J bf K tk ts tl tv su D) v0 v1 v2 v3) (x_Qx2 (0 ≤ x ∧ x < nI (s_sm e)) (s_vgr e (n_ x) v0 v1 v2 v3) (cset B J bf K tk ts tl tv su D) "java/lang/IndexOutOfBoundsException" "java/lang/IllegalArgumentException") := by
  refine X_M hG okX10_checkedValues rfl (L := [some (.ref 64), some (.int x), some (.int v0), some (.int v1), some (.int v2), some (.int v3), none, none, none]) rfl (Nat.le_of_ble_eq_true rfl) (fun ad0 nb0 => ?_)
  have hsm6 := hwf.smE.2
  have hst9 := hst
  obtain ⟨hso, a1, a2, a3, pp, hsB, -, -, hl3, hP3⟩ := hst9
  obtain ⟨VL3, hN3⟩ := l_at_N (J := J) (bf := bf) (K := K) (tk := tk) (ts := ts) (tl := tl) (tv := tv) (su := su) (D := D) hl3
  refine X_ld rfl rfl rfl rfl ?_
  refine X_ld rfl rfl rfl rfl ?_
  refine X_vchk c_O l_X10_X10_checkStatement (m_checkStatement hG hX d w hw hw10 hst) rfl rfl rfl rfl (Nat.le_of_ble_eq_true rfl) (Nat.le_of_ble_eq_true rfl) (by omega) (Nat.le_of_ble_eq_true rfl) (Nat.le_of_ble_eq_true rfl) rfl (fun q => ⟨rfl, Or.inl ⟨q, rfl⟩⟩) (fun hp1 => ?_)
  obtain ⟨a, ha, hxa⟩ := m_rngl rfl (by omega) hp1
  have ex : n_ x = a := by unfold n_; rw [hxa]; exact nI_clamp (by omega)
  obtain ⟨hpo, nm, co, ht, sg, hPB, -, ⟨hht, mu, h, hHB, hh⟩, -, -⟩ := hP3 a ha
  refine X_push (v := .int 4) rfl (by decide +kernel) ?_
  refine X_newaK 4 rfl rfl (List.mem_of_getElem? (i := 0) rfl) (x_in 131 (by decide +kernel) rfl) (by decide) rfl (by decide) (Nat.le_of_ble_eq_true rfl) (Nat.le_of_ble_eq_true rfl) (x_K_any (y_none0 h0) (fun q hq h64 => ?_))
  obtain ⟨hqo, hqB⟩ := y_free hq
  refine X_dup rfl rfl ?_
  refine X_push (v := .int 0) rfl (by decide +kernel) ?_
  refine X_ld rfl rfl rfl rfl ?_
  refine X_iast (f := fun j => .int ((fun _ => (0 : Int32)) j)) rfl x_set_eq (by rw [show (0 : Int32) = nI 0 from rfl]; exact vp_in_nI (by omega) (by omega)) ?_
  refine X_heap (N' := x_set (cset B J bf K tk ts tl tv su D) q (.inr (true, .int, 4, fun j => .int ((upd (fun _ => (0 : Int32)) 0 v0) j)) : XC)) (by rw [x_set_set, show (0 : Int32).toNatClampNeg = 0 from by decide, updV_int]) ?_
  refine X_dup rfl rfl ?_
  refine X_push (v := .int 1) rfl (by decide +kernel) ?_
  refine X_ld rfl rfl rfl rfl ?_
  refine X_iast (f := fun j => .int ((upd (fun _ => (0 : Int32)) 0 v0) j)) rfl x_set_eq (by rw [show (1 : Int32) = nI 1 from rfl]; exact vp_in_nI (by omega) (by omega)) ?_
  refine X_heap (N' := x_set (cset B J bf K tk ts tl tv su D) q (.inr (true, .int, 4, fun j => .int ((upd (upd (fun _ => (0 : Int32)) 0 v0) 1 v1) j)) : XC)) (by rw [x_set_set, show (1 : Int32).toNatClampNeg = 1 from by decide, updV_int]) ?_
  refine X_dup rfl rfl ?_
  refine X_push (v := .int 2) rfl (by decide +kernel) ?_
  refine X_ld rfl rfl rfl rfl ?_
  refine X_iast (f := fun j => .int ((upd (upd (fun _ => (0 : Int32)) 0 v0) 1 v1) j)) rfl x_set_eq (by rw [show (2 : Int32) = nI 2 from rfl]; exact vp_in_nI (by omega) (by omega)) ?_
  refine X_heap (N' := x_set (cset B J bf K tk ts tl tv su D) q (.inr (true, .int, 4, fun j => .int ((upd (upd (upd (fun _ => (0 : Int32)) 0 v0) 1 v1) 2 v2) j)) : XC)) (by rw [x_set_set, show (2 : Int32).toNatClampNeg = 2 from by decide, updV_int]) ?_
  refine X_dup rfl rfl ?_
  refine X_push (v := .int 3) rfl (by decide +kernel) ?_
  refine X_ld rfl rfl rfl rfl ?_
  refine X_iast (f := fun j => .int ((upd (upd (upd (fun _ => (0 : Int32)) 0 v0) 1 v1) 2 v2) j)) rfl x_set_eq (by rw [show (3 : Int32) = nI 3 from rfl]; exact vp_in_nI (by omega) (by omega)) ?_
  refine X_heap (N' := x_set (cset B J bf K tk ts tl tv su D) q (.inr (true, .int, 4, fun j => .int ((upd (upd (upd (upd (fun _ => (0 : Int32)) 0 v0) 1 v1) 2 v2) 3 v3) j)) : XC)) (by rw [x_set_set, show (3 : Int32).toNatClampNeg = 3 from by decide, updV_int]) ?_
  refine X_heap (N' := cset (x_set B q (s_g4c v0 v1 v2 v3)) J bf K tk ts tl tv su D) (y_set hqo) ?_
  refine X_st rfl rfl rfl ?_
  refine X_ld rfl rfl rfl rfl ?_
  have hst2 := (y_le_set (c := s_g4c v0 v1 v2 v3) hqB).st hst
  have hN3q := (y_le_set (c := s_g4c v0 v1 v2 v3) hqB).c a3 _ hN3
  have hl3q := (y_le_set (c := s_g4c v0 v1 v2 v3) hqB).l hl3
  have hsBq := y_le_set (c := s_g4c v0 v1 v2 v3) hqB _ _ hsB
  have hPBq := y_le_set (c := s_g4c v0 v1 v2 v3) hqB _ _ hPB
  have hHBq := y_le_set (c := s_g4c v0 v1 v2 v3) hqB _ _ hHB
  have hqq : x_set B q (s_g4c v0 v1 v2 v3) q = some (s_g4c v0 v1 v2 v3) := x_set_eq
  refine X_vcall c_O l_X10_X10_current (m_current hG (d + 5) w hw hw10) rfl rfl rfl rfl (Nat.le_of_ble_eq_true rfl) (Nat.le_of_ble_eq_true rfl) (by omega) (Nat.le_of_ble_eq_true rfl) (Nat.le_of_ble_eq_true rfl) ?_
  refine X_get f_X10_75 rfl (r_D hw10 rfl) rfl ?_
  refine X_get f_X10_79 rfl (c_B hso hsBq) rfl ?_
  refine X_ld rfl rfl rfl rfl ?_
  refine X_vcall (o := a3) hN3q l_X10_Jx4a65c_get_915e3 (j_get hG (d + 4) (l_at_li hl3q) a ha hxa) rfl rfl rfl rfl (Nat.le_of_ble_eq_true rfl) (Nat.le_of_ble_eq_true rfl) (by omega) (Nat.le_of_ble_eq_true rfl) (Nat.le_of_ble_eq_true rfl) ?_
  refine X_castS cl_X10_168 rfl (c_B hpo hPBq) rfl ?_
  refine X_get f_X10_170 rfl (c_B hpo hPBq) rfl ?_
  refine X_st rfl rfl rfl ?_
  refine X_push (v := .int 0) rfl (by decide +kernel) ?_
  refine X_st rfl rfl rfl ?_
  refine X_loc (L' := [some (.ref 64), some (.int x), some (.int v0), some (.int v1), some (.int v2), some (.int v3), some (.ref q), some (.ref ht), some (.int 0)]) ⟨rfl, rfl, rfl, rfl, rfl, rfl, rfl, rfl, rfl, trivial⟩ ?_
  refine X_ld rfl rfl rfl rfl ?_
  refine X_push (v := .int 4) rfl (by decide +kernel) ?_
  refine X_icmp_ge rfl (fun c56 => absurd c56 (by decide)) (fun c56 => ?_)
  refine X_ld rfl rfl rfl rfl ?_
  refine X_ld rfl rfl rfl rfl ?_
  refine X_iald rfl (c_B hqo hqq) (by rw [show (0 : Int32) = nI 0 from rfl]; exact vp_in_nI (by omega) (by omega)) (v := .int v0) rfl ?_
  refine X_ld rfl rfl rfl rfl ?_
  refine X_ld rfl rfl rfl rfl ?_
  refine X_iald rfl (c_B hht hHBq) (by rw [show (0 : Int32) = nI 0 from rfl]; exact vp_in_nI (by omega) (by omega)) (v := .int (s_st e a 17)) (by rw [show (0 : Int32).toNatClampNeg = 0 from by decide, hh 0 (by omega)]) ?_
  refine X_schkS (N2 := cset B J bf K tk ts tl tv su D) l_X10_X10_checkRange (m_checkRange hG hX d) rfl rfl rfl (Nat.le_of_ble_eq_true rfl) (Nat.le_of_ble_eq_true rfl) (by omega) (Nat.le_of_ble_eq_true rfl) (Nat.le_of_ble_eq_true rfl) rfl (y_le.c (y_le_set hqB)) (fun z => ⟨rfl, Or.inr ⟨hp1, fun r => z (by rw [ex] at r; exact r.1), rfl⟩⟩) (fun hr0 => ?_)
  refine X_iinc rfl rfl rfl ?_
  refine X_goto rfl ?_
  refine X_loc (L' := [some (.ref 64), some (.int x), some (.int v0), some (.int v1), some (.int v2), some (.int v3), some (.ref q), some (.ref ht), some (.int 1)]) ⟨rfl, rfl, rfl, rfl, rfl, rfl, rfl, rfl, rfl, trivial⟩ ?_
  refine X_ld rfl rfl rfl rfl ?_
  refine X_push (v := .int 4) rfl (by decide +kernel) ?_
  refine X_icmp_ge rfl (fun c156 => absurd c156 (by decide)) (fun c156 => ?_)
  refine X_ld rfl rfl rfl rfl ?_
  refine X_ld rfl rfl rfl rfl ?_
  refine X_iald rfl (c_B hqo hqq) (by rw [show (1 : Int32) = nI 1 from rfl]; exact vp_in_nI (by omega) (by omega)) (v := .int v1) rfl ?_
  refine X_ld rfl rfl rfl rfl ?_
  refine X_ld rfl rfl rfl rfl ?_
  refine X_iald rfl (c_B hht hHBq) (by rw [show (1 : Int32) = nI 1 from rfl]; exact vp_in_nI (by omega) (by omega)) (v := .int (s_st e a 18)) (by rw [show (1 : Int32).toNatClampNeg = 1 from by decide, hh 1 (by omega)]) ?_
  refine X_schkS (N2 := cset B J bf K tk ts tl tv su D) l_X10_X10_checkRange (m_checkRange hG hX d) rfl rfl rfl (Nat.le_of_ble_eq_true rfl) (Nat.le_of_ble_eq_true rfl) (by omega) (Nat.le_of_ble_eq_true rfl) (Nat.le_of_ble_eq_true rfl) rfl (y_le.c (y_le_set hqB)) (fun z => ⟨rfl, Or.inr ⟨hp1, fun r => z (by rw [ex] at r; exact r.2.1), rfl⟩⟩) (fun hr1 => ?_)
  refine X_iinc rfl rfl rfl ?_
  refine X_goto rfl ?_
  refine X_loc (L' := [some (.ref 64), some (.int x), some (.int v0), some (.int v1), some (.int v2), some (.int v3), some (.ref q), some (.ref ht), some (.int 2)]) ⟨rfl, rfl, rfl, rfl, rfl, rfl, rfl, rfl, rfl, trivial⟩ ?_
  refine X_ld rfl rfl rfl rfl ?_
  refine X_push (v := .int 4) rfl (by decide +kernel) ?_
  refine X_icmp_ge rfl (fun c256 => absurd c256 (by decide)) (fun c256 => ?_)
  refine X_ld rfl rfl rfl rfl ?_
  refine X_ld rfl rfl rfl rfl ?_
  refine X_iald rfl (c_B hqo hqq) (by rw [show (2 : Int32) = nI 2 from rfl]; exact vp_in_nI (by omega) (by omega)) (v := .int v2) rfl ?_
  refine X_ld rfl rfl rfl rfl ?_
  refine X_ld rfl rfl rfl rfl ?_
  refine X_iald rfl (c_B hht hHBq) (by rw [show (2 : Int32) = nI 2 from rfl]; exact vp_in_nI (by omega) (by omega)) (v := .int (s_st e a 19)) (by rw [show (2 : Int32).toNatClampNeg = 2 from by decide, hh 2 (by omega)]) ?_
  refine X_schkS (N2 := cset B J bf K tk ts tl tv su D) l_X10_X10_checkRange (m_checkRange hG hX d) rfl rfl rfl (Nat.le_of_ble_eq_true rfl) (Nat.le_of_ble_eq_true rfl) (by omega) (Nat.le_of_ble_eq_true rfl) (Nat.le_of_ble_eq_true rfl) rfl (y_le.c (y_le_set hqB)) (fun z => ⟨rfl, Or.inr ⟨hp1, fun r => z (by rw [ex] at r; exact r.2.2.1), rfl⟩⟩) (fun hr2 => ?_)
  refine X_iinc rfl rfl rfl ?_
  refine X_goto rfl ?_
  refine X_loc (L' := [some (.ref 64), some (.int x), some (.int v0), some (.int v1), some (.int v2), some (.int v3), some (.ref q), some (.ref ht), some (.int 3)]) ⟨rfl, rfl, rfl, rfl, rfl, rfl, rfl, rfl, rfl, trivial⟩ ?_
  refine X_ld rfl rfl rfl rfl ?_
  refine X_push (v := .int 4) rfl (by decide +kernel) ?_
  refine X_icmp_ge rfl (fun c356 => absurd c356 (by decide)) (fun c356 => ?_)
  refine X_ld rfl rfl rfl rfl ?_
  refine X_ld rfl rfl rfl rfl ?_
  refine X_iald rfl (c_B hqo hqq) (by rw [show (3 : Int32) = nI 3 from rfl]; exact vp_in_nI (by omega) (by omega)) (v := .int v3) rfl ?_
  refine X_ld rfl rfl rfl rfl ?_
  refine X_ld rfl rfl rfl rfl ?_
  refine X_iald rfl (c_B hht hHBq) (by rw [show (3 : Int32) = nI 3 from rfl]; exact vp_in_nI (by omega) (by omega)) (v := .int (s_st e a 20)) (by rw [show (3 : Int32).toNatClampNeg = 3 from by decide, hh 3 (by omega)]) ?_
  refine X_schkS (N2 := cset B J bf K tk ts tl tv su D) l_X10_X10_checkRange (m_checkRange hG hX d) rfl rfl rfl (Nat.le_of_ble_eq_true rfl) (Nat.le_of_ble_eq_true rfl) (by omega) (Nat.le_of_ble_eq_true rfl) (Nat.le_of_ble_eq_true rfl) rfl (y_le.c (y_le_set hqB)) (fun z => ⟨rfl, Or.inr ⟨hp1, fun r => z (by rw [ex] at r; exact r.2.2.2), rfl⟩⟩) (fun hr3 => ?_)
  refine X_iinc rfl rfl rfl ?_
  refine X_goto rfl ?_
  refine X_loc (L' := [some (.ref 64), some (.int x), some (.int v0), some (.int v1), some (.int v2), some (.int v3), some (.ref q), some (.ref ht), some (.int 4)]) ⟨rfl, rfl, rfl, rfl, rfl, rfl, rfl, rfl, rfl, trivial⟩ ?_
  refine X_ld rfl rfl rfl rfl ?_
  refine X_push (v := .int 4) rfl (by decide +kernel) ?_
  refine X_icmp_ge rfl (fun c9 => ?_) (fun c9 => absurd (by decide) c9)
  refine X_ld rfl rfl rfl rfl ?_
  exact X_aret rfl rfl (Or.inr ⟨_, rfl⟩) (Or.inr ⟨_, rfl⟩) ⟨⟨hp1, by rw [ex]; exact ⟨hr0, hr1, hr2, hr3⟩⟩, q, h64, hqo, hqB, rfl, rfl⟩ (Nat.le_of_ble_eq_true rfl) (Nat.le_of_ble_eq_true rfl)

