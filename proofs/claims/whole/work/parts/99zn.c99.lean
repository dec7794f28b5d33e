/-! ===== the law's wrapper of load, by program (wip/whole/gen_c99.py) ===== -/
/-- load: its code, its answer -/
def a_load (tx : Nat → Int32) (b : Nat) (x : Int32) : Int32 × Int32 := if (0 : Int32) ≤ x ∧ x ≤ nI b then (0, match l_txt tx (n_ x) with | .inl (e, _) => e | .inr (_, rd1) => rd1 2) else (1, 0)
/-- and what it leaves of the class -/
def L_LD (B : XH) (n : Nat) (xs : Nat → Int32) (I : Nat → Int32) (T : Int64) (S : Nat → Nat → Int32) (rd tx gv : Nat → Int32) (P : Nat → Bool) (J bf K tk ts : Nat → Int32) (tl : Int64) (tv : Nat → Int64) (su : Nat → Nat) (D : Nat → Nat → Int32) (w b : Nat) (x : Int32) (o : Int64) (N : XH) : Prop :=
  (¬ ((0 : Int32) ≤ x ∧ x ≤ nI b) ∧ N = cset (L_X B o I T S rd tx gv P) J bf K tk ts tl tv su D) ∨ (((0 : Int32) ≤ x ∧ x ≤ nI b) ∧ ∃ (B2 : XH) (K2 tk2 ts2 : Nat → Int32) (tl2 : Int64) (tv2 : Nat → Int64) (o2 : Nat) (c2 : Nat → Int32), y_le B B2 ∧ L_B B2 n xs ∧ ((∃ e a, l_txt tx (n_ x) = .inl (e, a) ∧ N = cset (L_X B2 o I T S rd tx gv P) (upd (upd J 1 0) 2 (nI a)) bf K2 tk2 ts2 tl2 tv2 (updN su (s_n10 w) o2) (updR D (s_n10 w) c2)) ∨ ∃ q rd1, l_txt tx (n_ x) = .inr (q, rd1) ∧ L_lv B2 0 (s_ldd rd1) c2 o2 ∧ N = cset (L_X B2 o I T S rd tx gv P) (upd (upd (upd (upd J 1 0) 2 (-1)) 5 (nI (s_n10 w))) 6 (x_min ((upd (upd J 1 0) 2 (-1)) 6 + 1) 8)) bf K2 tk2 ts2 tl2 tv2 (updN su (s_n10 w) o2) (updR D (s_n10 w) c2)))
theorem W_load {G : XE} (hG : x_Kn G) (hX : x_KX G) (hN : x_KN G) {B : XH} {n : Nat} {xs : Nat → Int32} (hB : L_B B n xs) {ov : Int64} {I : Nat → Int32} {T : Int64} {S : Nat → Nat → Int32} {rd tx gv : Nat → Int32} {P : Nat → Bool} {J bf K tk ts : Nat → Int32} {tl : Int64} {tv : Nat → Int64} {su : Nat → Nat} {D : Nat → Nat → Int32} (w : Nat) (hw : J 5 = nI w) (hw10 : w < 10) {x : Int32} (hK : x_KS G) (hM : x_KM G) {b : Nat} (hb : J 1 = nI b) (hb8 : b ≤ 800) (hr : s_rtx tx bf b) : x_M G mL_load 60 (7 + 12 * b) (437 + 292 * b) [.ref 64, .int x, .ref 281] (cset (L_X B ov I T S rd tx gv P) J bf K tk ts tl tv su D) (L_QW (fun o N => L_LD B n xs I T S rd tx gv P J bf K tk ts tl tv su D w b x o N) (a_load tx b x)) x_noX := by
  refine X_MH hG okL_load rfl (L := [some (.ref 64), some (.int x), some (.ref 281), none]) rfl (Nat.le_of_ble_eq_true rfl) (fun ad0 nb0 => ?_)
  have hX0 := L_X0 (ov := ov) (I := I) (T := T) (S := S) (rd := rd) (tx := tx) (gv := gv) (P := P) hB
  have hw9 : s_n10 w < 10 := s_n10_lt
  refine X_ld rfl rfl rfl rfl ?_
  refine X_push (v := .int 0) rfl (by decide +kernel) ?_
  refine X_ld rfl rfl rfl rfl ?_
  refine X_ld rfl rfl rfl rfl ?_
  refine X_callV (T := TX10) (nf := 7) l_L_X10_load (m_load hG hK hX hM 20 w hw hw10 hb hb8 hr hX0) rfl rfl c_O rfl rfl (Nat.le_of_ble_eq_true rfl) (x_fit_of (Nat.le_of_ble_eq_true rfl) (by omega) (by omega) (by omega)) (fun N9 E h => ?_) (fun N9 r h => ?_)
  · obtain ⟨hp, rfl, rfl⟩ := h
    rw [hb] at hp
    refine X_catch (name := "java/lang/IllegalArgumentException") (pre := []) (a := (0, 9, 12, 13)) (suf := []) (y_none0 hX0.1) rfl (fun z hz => nomatch hz) rfl (by decide) (x_in 641 (by decide +kernel) rfl) (List.mem_of_getElem? (i := 490) (by decide +kernel)) (fun q0 => ?_)
    refine X_st rfl rfl rfl ?_
    refine X_push (v := .int 1) rfl (by decide +kernel) ?_
    exact X_iret rfl rfl ⟨ov, Or.inl ⟨hp, rfl⟩, by rw [show a_load tx b x = (1, 0) from if_neg hp], fun q => absurd q (by rw [show a_load tx b x = (1, 0) from if_neg hp]; decide)⟩ (by omega) (by omega)
  · obtain ⟨n1, st, ρ, tk2, ts2, tv2, J2, ⟨hx, hnb, hρ1⟩, hq, hE, hO⟩ := h
    have hn1 : n_ x = n1 := n_of hx (by omega)
    have hcond : (0 : Int32) ≤ x ∧ x ≤ nI b := by rw [hx]; exact ⟨nI_ge0 (by omega), (nI_leI (by omega) (by omega)).mpr hnb⟩
    cases hR : l_txt tx n1 with
    | inl e9 =>
      obtain ⟨e9, a9⟩ := e9
      have hag : a_load tx b x = (0, e9) := by unfold a_load; rw [if_pos hcond, hn1, hR]
      rw [hR] at hq
      obtain ⟨he9, K2, tl2, sv2, nm2, ty2, hv2, B2, ρ2, dd2, hle2, gds, gX, gρ, rfl, -⟩ := hq
      obtain ⟨rfl, rfl⟩ := hE e9 a9 hR
      have hle : y_le (L_X B ov I T S rd tx gv P) (rset B2 ρ2 (s_n10 w) e9 (nI a9) sv2 nm2 ty2 hv2) := hle2.trans (fun k c hk => rs_B gds hk)
      have hn : ∀ k, k < 64 → ∀ a, a < 5 → ¬ k = ρ2 a := fun k hk a ha q => by have := (gds.2 a ha).2.2; omega
      have hLB : L_B (L_hid (rset B2 ρ2 (s_n10 w) e9 (nI a9) sv2 nm2 ty2 hv2)) n xs := L_hid_B hB hle ((rs_out (hn 0 (by omega))).trans gX.1) ((rs_out (hn 2 (by omega))).trans gX.2)
      refine X_heap (N' := cset (L_X (L_hid (rset B2 ρ2 (s_n10 w) e9 (nI a9) sv2 nm2 ty2 hv2)) ov I T S rd tx gv P) (upd (upd J 1 0) 2 (nI a9)) bf K2 tk2 ts2 tl2 tv2 (updN su (s_n10 w) st) (updR D (s_n10 w) dd2)) (congrArg (fun q => cset q (upd (upd J 1 0) 2 (nI a9)) bf K2 tk2 ts2 tl2 tv2 (updN su (s_n10 w) st) (updR D (s_n10 w) dd2)) (L_hid_eq hle)) ?_
      refine X_un rfl rfl ?_
      refine X_lout rfl ?_
      refine X_goto rfl ?_
      refine X_push (v := .int 0) rfl (by decide +kernel) ?_
      exact X_iret rfl rfl ⟨_, Or.inr ⟨hcond, L_hid (rset B2 ρ2 (s_n10 w) e9 (nI a9) sv2 nm2 ty2 hv2), K2, tk2, ts2, tl2, tv2, st, dd2, L_hid_le hB.2.2.1 hle, hLB, Or.inl ⟨e9, a9, by rw [hn1]; exact hR, rfl⟩⟩, by rw [hag], fun _ => by rw [hag]⟩ (by omega) (by omega)
    | inr x9 =>
      obtain ⟨q9, rd9⟩ := x9
      have hag : a_load tx b x = (0, rd9 2) := by unfold a_load; rw [if_pos hcond, hn1, hR]
      rw [hR] at hq
      obtain ⟨K2, tl2, sv2, nm2, ty2, hv2, B2, ρ2, dd2, rdS, s, elS, mS, pS, m, l, ⟨gds, gX, gρ⟩, gST, g1, ⟨g20, g21, g22, g2l, g2s⟩, g3, g4, g5, g6, g7, g8, rfl, -⟩ := hq
      obtain ⟨rfl, rfl⟩ := hO q9 rd9 hR
      have hle2 := gST.1
      have hst1 : ρ2 1 = st := (gρ 1 (by decide)).trans hρ1
      have hbig := l_txt_big (by omega) hR
      have hm5 := g3.1
      have ecm : s_cm rd9 = m := n_of g20 (by omega)
      have hlv : L_lv (L_hid (rset B2 ρ2 (s_n10 w) 0 (-1) sv2 nm2 ty2 hv2)) 0 (s_ldd rd9) (s_look dd2 l m) st := by
        refine ⟨ld_inv g20 g21 g22 hm5 g2l g2s hbig (fun j hj => (g6 j hj).2) (gST.fok g1 (by omega)) (fun t ht => ?_), ld_rel g20 g21 g22 hm5 g2l g2s hbig g5 (fun j hj => (g6 j hj).1) g7 g8, ?_, fun q hq => ?_⟩
        · obtain ⟨-, co, ht9, sg, h9, psg, l9, E9, -, hL, -⟩ := (gST.2.2.2 t ht).in1 g1
          exact hL
        · have h5 := y_le.st L_hid_dif (gST.st2 (i := s_n10 w) (er := 0) (ea := -1) gds g1 g20 g22 g2s g3 g4)
          rw [hst1] at h5
          have es : s_ldd rd9 = s_look rd9 (s_lm rd9) m := by unfold s_ldd; rw [ecm]
          rw [es]
          exact (s_ldd_stc hm5).st (by omega) (by rw [show s_sm rd9 = s from n_of g22 (by omega)]; exact g2s) h5
        · rw [s_look_o (by omega) m (fun i hi x x1 x2 => by omega), (g6 q hq).1]
          exact (g6 q hq).2
      have hle : y_le (L_X B ov I T S rd tx gv P) (rset B2 ρ2 (s_n10 w) 0 (-1) sv2 nm2 ty2 hv2) := hle2.trans (fun k c hk => rs_B gds hk)
      have hn : ∀ k, k < 64 → ∀ a, a < 5 → ¬ k = ρ2 a := fun k hk a ha q => by have := (gds.2 a ha).2.2; omega
      have hLB : L_B (L_hid (rset B2 ρ2 (s_n10 w) 0 (-1) sv2 nm2 ty2 hv2)) n xs := L_hid_B hB hle ((rs_out (hn 0 (by omega))).trans gX.1) ((rs_out (hn 2 (by omega))).trans gX.2)
      refine X_heap (N' := cset (L_X (L_hid (rset B2 ρ2 (s_n10 w) 0 (-1) sv2 nm2 ty2 hv2)) ov I T S rd tx gv P) (upd (upd (upd (upd J 1 0) 2 (-1)) 5 (nI (s_n10 w))) 6 (x_min ((upd (upd J 1 0) 2 (-1)) 6 + 1) 8)) bf K2 tk2 ts2 tl2 tv2 (updN su (s_n10 w) st) (updR D (s_n10 w) (s_look dd2 l m))) (congrArg (fun q => cset q (upd (upd (upd (upd J 1 0) 2 (-1)) 5 (nI (s_n10 w))) 6 (x_min ((upd (upd J 1 0) 2 (-1)) 6 + 1) 8)) bf K2 tk2 ts2 tl2 tv2 (updN su (s_n10 w) st) (updR D (s_n10 w) (s_look dd2 l m))) (L_hid_eq hle)) ?_
      refine X_un rfl rfl ?_
      refine X_lout rfl ?_
      refine X_goto rfl ?_
      refine X_push (v := .int 0) rfl (by decide +kernel) ?_
      exact X_iret rfl rfl ⟨_, Or.inr ⟨hcond, L_hid (rset B2 ρ2 (s_n10 w) 0 (-1) sv2 nm2 ty2 hv2), K2, tk2, ts2, tl2, tv2, st, (s_look dd2 l m), L_hid_le hB.2.2.1 hle, hLB, Or.inr ⟨q9, rd9, by rw [hn1]; exact hR, hlv, rfl⟩⟩, by rw [hag], fun _ => by rw [hag]⟩ (by omega) (by omega)
