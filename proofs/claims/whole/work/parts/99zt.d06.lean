/-! ===== the law's cases, by program (wip/whole/gen_d06.py) ===== -/
/-- the law goes on -/
def L_K (G : XE) (ad0 : Nat → Nat) (nb0 n : Nat) (xs : Nat → Int32) (t : Nat) : Prop := ∀ (N' : XH) (b' cells' slots' : Nat), L_I n xs (t + 1) b' N' → cells' + 12 * b' ≤ 300 + 975 * (t + 1) → slots' + 292 * b' ≤ 60000 + 5850 * (t + 1) → x_W G mL_law (L_Z G ad0 nb0) N' cells' slots' 1690 (L_l t) []
section TAIL
variable {G : XE} {Mc : XMI} {ad0 : Nat → Nat} {nb0 : Nat} {X : XH} {cells slots pc p1 p2 p3 p4 p5 p6 p7 p8 p9 p10 p11 p12 p13 p14 p15 p16 p17 p18 p19 t1 t2 t3 t4 t5 t7 t8 t9 t10 t11 t12 t13 t14 t15 t16 t17 t18 t19 i : Nat} {z b : Int32} {o : Int64} {I : Nat → Int32} {T : Int64} {S : Nat → Nat → Int32} {rd tx gv pl : Nat → Int32} {o5 o8 o15 o16 o17 o18 : Int}
/-- answers compared: ints -/
theorem X_Ltl (hG : x_Kn G) (d1 : x_at (x_k mL_law) pc = some (.istore 6, p1, t1)) (d2 : x_at (x_k mL_law) p1 = some (.aload_n 2, p2, t2)) (d3 : x_at (x_k mL_law) p2 = some (.invokevirtual 89, p3, t3)) (d4 : x_at (x_k mL_law) p3 = some (.iload 5, p4, t4)) (d5 : x_at (x_k mL_law) p4 = some (.if_icmp .eq o5, p5, t5)) (d7 : x_at (x_k mL_law) t5 = some (.iload 5, p7, t7)) (d8 : x_at (x_k mL_law) p7 = some (.ifCond .ne o8, p8, t8)) (d9 : x_at (x_k mL_law) p8 = some (.aload_n 3, p9, t9)) (d10 : x_at (x_k mL_law) p9 = some (.iconst 0, p10, t10)) (d11 : x_at (x_k mL_law) p10 = some (.laload, p11, t11)) (d12 : x_at (x_k mL_law) p11 = some (.iload 6, p12, t12)) (d13 : x_at (x_k mL_law) p12 = some (.i2l, p13, t13)) (d14 : x_at (x_k mL_law) p13 = some (.lcmp, p14, t14)) (d15 : x_at (x_k mL_law) p14 = some (.ifCond .eq o15, p15, t8)) (d16 : x_at (x_k mL_law) t8 = some (.goto o16, p16, 1690)) (h281 : X 281 = some (L_out o)) (hab : I 0 = 0 → o = b.toInt64) (hc : cells ≤ 601024) (hs : slots ≤ 7293034) (kk : x_W G mL_law (L_Z G ad0 nb0) (mset X I T S rd tx gv pl) cells slots 1690 (L_l i) []) : x_W G mL_law (L_Z G ad0 nb0) (mset X I T S rd tx gv pl) cells slots pc [some (.ref 56), some (.ref 64), some (.ref 275), some (.ref 281), some (.int (nI (7 * i))), some (.int (I 0)), none, none] [.int b] := by
  refine X_st d1 rfl rfl ?_
  refine X_ld d2 rfl rfl rfl ?_
  refine X_Lr l_L_X11_thrown rfl (c_thrown hG 50) d3 rfl rfl (Nat.le_of_ble_eq_true rfl) (Nat.le_of_ble_eq_true rfl) (Nat.le_of_ble_eq_true rfl) hc hs (fun N9 r h => ?_)
  obtain ⟨rfl, rfl⟩ := h
  refine X_ld d4 rfl rfl rfl ?_
  refine X_icmp_eq d5 (fun _ => ?_) (fun q => absurd rfl q)
  refine X_ld d7 rfl rfl rfl ?_
  have hend : x_W G mL_law (L_Z G ad0 nb0) (mset X I T S rd tx gv pl) cells slots t8 [some (.ref 56), some (.ref 64), some (.ref 275), some (.ref 281), some (.int (nI (7 * i))), some (.int (I 0)), some (.int b), none] [] := X_goto d16 (X_loc (L' := L_l i) ⟨rfl, rfl, rfl, rfl, rfl, trivial⟩ kk)
  refine X_if_ne d8 (fun _ => hend) (fun q0 => ?_)
  refine X_ld d9 rfl rfl rfl ?_
  refine X_push (v := .int 0) d10 (by decide +kernel) ?_
  refine X_lald (n := 1) (f := fun _ => .long o) d11 ((m_out (by omega)).trans h281) (vp_in_nI (n := 0) (N := 1) (by omega) (by omega)) rfl ?_
  refine X_ld d12 rfl rfl rfl ?_
  refine X_un d13 rfl ?_
  refine X_bin d14 rfl ?_
  exact X_if_eq d15 (fun _ => hend) (fun q => absurd (y_cmp0.mpr (hab q0)) q)
/-- answers compared: longs -/
theorem X_LtL {b : Int64} (hG : x_Kn G) (d1 : x_at (x_k mL_law) pc = some (.lstore 6, p1, t1)) (d2 : x_at (x_k mL_law) p1 = some (.aload_n 2, p2, t2)) (d3 : x_at (x_k mL_law) p2 = some (.invokevirtual 89, p3, t3)) (d4 : x_at (x_k mL_law) p3 = some (.iload 5, p4, t4)) (d5 : x_at (x_k mL_law) p4 = some (.if_icmp .eq o5, p5, t5)) (d7 : x_at (x_k mL_law) t5 = some (.iload 5, p7, t7)) (d8 : x_at (x_k mL_law) p7 = some (.ifCond .ne o8, p8, t8)) (d9 : x_at (x_k mL_law) p8 = some (.aload_n 3, p9, t9)) (d10 : x_at (x_k mL_law) p9 = some (.iconst 0, p10, t10)) (d11 : x_at (x_k mL_law) p10 = some (.laload, p11, t11)) (d12 : x_at (x_k mL_law) p11 = some (.lload 6, p12, t12)) (d14 : x_at (x_k mL_law) p12 = some (.lcmp, p14, t14)) (d15 : x_at (x_k mL_law) p14 = some (.ifCond .eq o15, p15, t8)) (d16 : x_at (x_k mL_law) t8 = some (.goto o16, p16, 1690)) (h281 : X 281 = some (L_out o)) (hab : I 0 = 0 → o = b) (hc : cells ≤ 601024) (hs : slots ≤ 7293034) (kk : x_W G mL_law (L_Z G ad0 nb0) (mset X I T S rd tx gv pl) cells slots 1690 (L_l i) []) : x_W G mL_law (L_Z G ad0 nb0) (mset X I T S rd tx gv pl) cells slots pc [some (.ref 56), some (.ref 64), some (.ref 275), some (.ref 281), some (.int (nI (7 * i))), some (.int (I 0)), none, none] [.long b] := by
  refine X_stl d1 rfl rfl ?_
  refine X_ld d2 rfl rfl rfl ?_
  refine X_Lr l_L_X11_thrown rfl (c_thrown hG 50) d3 rfl rfl (Nat.le_of_ble_eq_true rfl) (Nat.le_of_ble_eq_true rfl) (Nat.le_of_ble_eq_true rfl) hc hs (fun N9 r h => ?_)
  obtain ⟨rfl, rfl⟩ := h
  refine X_ld d4 rfl rfl rfl ?_
  refine X_icmp_eq d5 (fun _ => ?_) (fun q => absurd rfl q)
  refine X_ld d7 rfl rfl rfl ?_
  have hend : x_W G mL_law (L_Z G ad0 nb0) (mset X I T S rd tx gv pl) cells slots t8 [some (.ref 56), some (.ref 64), some (.ref 275), some (.ref 281), some (.int (nI (7 * i))), some (.int (I 0)), some (.long b), none] [] := X_goto d16 (X_loc (L' := L_l i) ⟨rfl, rfl, rfl, rfl, rfl, trivial⟩ kk)
  refine X_if_ne d8 (fun _ => hend) (fun q0 => ?_)
  refine X_ld d9 rfl rfl rfl ?_
  refine X_push (v := .int 0) d10 (by decide +kernel) ?_
  refine X_lald (n := 1) (f := fun _ => .long o) d11 ((m_out (by omega)).trans h281) (vp_in_nI (n := 0) (N := 1) (by omega) (by omega)) rfl ?_
  refine X_ld d12 rfl rfl rfl ?_
  refine X_bin d14 rfl ?_
  exact X_if_eq d15 (fun _ => hend) (fun q => absurd (y_cmp0.mpr (hab q0)) q)
/-- answers compared: a boolean -/
theorem X_Ltz (hG : x_Kn G) (d1 : x_at (x_k mL_law) pc = some (.istore 6, p1, t1)) (d2 : x_at (x_k mL_law) p1 = some (.aload_n 2, p2, t2)) (d3 : x_at (x_k mL_law) p2 = some (.invokevirtual 89, p3, t3)) (d4 : x_at (x_k mL_law) p3 = some (.iload 5, p4, t4)) (d5 : x_at (x_k mL_law) p4 = some (.if_icmp .eq o5, p5, t5)) (d7 : x_at (x_k mL_law) t5 = some (.iload 5, p7, t7)) (d8 : x_at (x_k mL_law) p7 = some (.ifCond .ne o8, p8, t8)) (d9 : x_at (x_k mL_law) p8 = some (.aload_n 3, p9, t9)) (d10 : x_at (x_k mL_law) p9 = some (.iconst 0, p10, t10)) (d11 : x_at (x_k mL_law) p10 = some (.laload, p11, t11)) (d12 : x_at (x_k mL_law) p11 = some (.iload 6, p12, t12)) (d13 : x_at (x_k mL_law) p12 = some (.ifCond .eq o17, p13, t13)) (d17 : x_at (x_k mL_law) p13 = some (.lconst 1, p17, t17)) (d18 : x_at (x_k mL_law) p17 = some (.goto o18, p18, t18)) (d19 : x_at (x_k mL_law) t13 = some (.lconst 0, t18, t19)) (d14 : x_at (x_k mL_law) t18 = some (.lcmp, p14, t14)) (d15 : x_at (x_k mL_law) p14 = some (.ifCond .eq o15, p15, t8)) (d16 : x_at (x_k mL_law) t8 = some (.goto o16, p16, 1690)) (h281 : X 281 = some (L_out o)) (hab : I 0 = 0 → o = b.toInt64) (hb : b = 0 ∨ b = 1) (hc : cells ≤ 601024) (hs : slots ≤ 7293034) (kk : x_W G mL_law (L_Z G ad0 nb0) (mset X I T S rd tx gv pl) cells slots 1690 (L_l i) []) : x_W G mL_law (L_Z G ad0 nb0) (mset X I T S rd tx gv pl) cells slots pc [some (.ref 56), some (.ref 64), some (.ref 275), some (.ref 281), some (.int (nI (7 * i))), some (.int (I 0)), none, none] [.int b] := by
  refine X_st d1 rfl rfl ?_
  refine X_ld d2 rfl rfl rfl ?_
  refine X_Lr l_L_X11_thrown rfl (c_thrown hG 50) d3 rfl rfl (Nat.le_of_ble_eq_true rfl) (Nat.le_of_ble_eq_true rfl) (Nat.le_of_ble_eq_true rfl) hc hs (fun N9 r h => ?_)
  obtain ⟨rfl, rfl⟩ := h
  refine X_ld d4 rfl rfl rfl ?_
  refine X_icmp_eq d5 (fun _ => ?_) (fun q => absurd rfl q)
  refine X_ld d7 rfl rfl rfl ?_
  have hend : x_W G mL_law (L_Z G ad0 nb0) (mset X I T S rd tx gv pl) cells slots t8 [some (.ref 56), some (.ref 64), some (.ref 275), some (.ref 281), some (.int (nI (7 * i))), some (.int (I 0)), some (.int b), none] [] := X_goto d16 (X_loc (L' := L_l i) ⟨rfl, rfl, rfl, rfl, rfl, trivial⟩ kk)
  refine X_if_ne d8 (fun _ => hend) (fun q0 => ?_)
  refine X_ld d9 rfl rfl rfl ?_
  refine X_push (v := .int 0) d10 (by decide +kernel) ?_
  refine X_lald (n := 1) (f := fun _ => .long o) d11 ((m_out (by omega)).trans h281) (vp_in_nI (n := 0) (N := 1) (by omega) (by omega)) rfl ?_
  refine X_ld d12 rfl rfl rfl ?_
  refine X_if_eq d13 (fun q1 => ?_) (fun q1 => ?_)
  · refine X_push (v := .long 0) d19 (by decide +kernel) ?_
    refine X_bin d14 rfl ?_
    exact X_if_eq d15 (fun _ => hend) (fun q => absurd (y_cmp0.mpr ((hab q0).trans (by rw [q1]; decide))) q)
  · refine X_push (v := .long 1) d17 (by decide +kernel) ?_
    refine X_goto d18 ?_
    refine X_bin d14 rfl ?_
    exact X_if_eq d15 (fun _ => hend) (fun q => absurd (y_cmp0.mpr ((hab q0).trans (by rw [hb.resolve_left q1]; decide))) q)
end TAIL
theorem L_u0 {x : Int32} {u : Nat} (h : x = nI u) (hu : u ≤ 8) (h0 : x = 0) : u = 0 := by
  have h1 := congrArg Int32.toNatClampNeg (h.symm.trans h0)
  rw [nI_clamp (by omega)] at h1
  exact h1
theorem L_u1 {x : Int32} {u : Nat} (h : x = nI u) (hu : u ≤ 8) (h0 : u ≠ 0) : x - 1 = nI (u - 1) := by
  rw [show (1 : Int32) = nI 1 from rfl, m_subc (by omega) h]
theorem L_un {J : Nat → Int32} {u : Nat} (h : J 6 = nI u) (hu : u ≤ 8) : a_unJ J = a_undo u := by
  unfold a_unJ a_undo
  by_cases h0 : u = 0
  · have hJ : J 6 = 0 := h.trans (congrArg nI h0)
    rw [if_pos h0, if_pos hJ]
  · rw [if_neg h0, if_neg (fun q => h0 (L_u0 h hu q)), L_u1 h hu h0]
theorem law_0 {G : XE} (hG : x_Kn G) (hX : x_KX G) (hN : x_KN G) (hK : x_KS G) (hM : x_KM G) {ad0 : Nat → Nat} {nb0 : Nat} {n t b : Nat} {xs : Nat → Int32} {N : XH} {cells slots : Nat} (hI : L_I n xs t b N) (hn : 7 * t + 7 ≤ n) (h36 : n ≤ 3584) (hc : cells + 12 * b ≤ 300 + 975 * t) (hs : slots + 292 * b ≤ 60000 + 5850 * t) (kk : L_K G ad0 nb0 n xs t) : x_W G mL_law (L_Z G ad0 nb0) N cells slots 148 (L_l t) [] := by
  obtain ⟨B, ov, I, T, S, rd, tx, gv, P, J, bf, K, tk, ts, tl, tv, su, D, w, v, u, rfl, hB, hI, hJ, hr, hg⟩ := hI
  have hlv := hg.cur hJ.2.1 hI.2.1
  have ht : t + 1 ≤ 512 := by omega
  have hm := hg.mono y_le_rfl (Nat.le_succ t)
  refine X_ld aL_148 rfl rfl rfl ?_
  refine X_scr (c := 1) aL_149 aL_150 aL_152 (by decide +kernel) aL_153 aL_154 (L_56c hB) rfl rfl (by omega) (by omega) ?_
  refine X_scr (c := 2) aL_155 aL_156 aL_158 (by decide +kernel) aL_159 aL_160 (L_56c hB) rfl rfl (by omega) (by omega) ?_
  refine X_scr (c := 3) aL_161 aL_162 aL_164 (by decide +kernel) aL_165 aL_166 (L_56c hB) rfl rfl (by omega) (by omega) ?_
  refine X_scr (c := 4) aL_167 aL_168 aL_170 (by decide +kernel) aL_171 aL_172 (L_56c hB) rfl rfl (by omega) (by omega) ?_
  refine X_scr (c := 5) aL_173 aL_174 aL_176 (by decide +kernel) aL_177 aL_178 (L_56c hB) rfl rfl (by omega) (by omega) ?_
  refine X_Lc l_L_X10_append rfl (m_append hG 50 b hJ.2.2.2.1 hI.2.2.2.2.2) aL_179 rfl rfl (Nat.le_of_ble_eq_true rfl) (Nat.le_of_ble_eq_true rfl) (Nat.le_of_ble_eq_true rfl) (by omega) (by omega) (fun N9 r h => ?_)
  obtain ⟨rfl, rfl⟩ := h
  refine X_heap L_sw ?_
  refine X_ld aL_182 rfl rfl rfl ?_
  refine X_scr (c := 1) aL_183 aL_184 aL_186 (by decide +kernel) aL_187 aL_188 (L_56m hB) rfl rfl (by omega) (by omega) ?_
  refine X_scr (c := 2) aL_189 aL_190 aL_192 (by decide +kernel) aL_193 aL_194 (L_56m hB) rfl rfl (by omega) (by omega) ?_
  refine X_scr (c := 3) aL_195 aL_196 aL_198 (by decide +kernel) aL_199 aL_200 (L_56m hB) rfl rfl (by omega) (by omega) ?_
  refine X_scr (c := 4) aL_201 aL_202 aL_204 (by decide +kernel) aL_205 aL_206 (L_56m hB) rfl rfl (by omega) (by omega) ?_
  refine X_scr (c := 5) aL_207 aL_208 aL_210 (by decide +kernel) aL_211 aL_212 (L_56m hB) rfl rfl (by omega) (by omega) ?_
  refine X_Lr l_L_X11_append rfl (c_append hG 50 b hI.2.2.2.2.1 hI.2.2.2.2.2) aL_213 rfl rfl (Nat.le_of_ble_eq_true rfl) (Nat.le_of_ble_eq_true rfl) (Nat.le_of_ble_eq_true rfl) (by omega) (by omega) (fun N9 r h => ?_)
  obtain ⟨rfl, rfl⟩ := h
  refine X_icmp_eq aL_216 (fun _ => ?_) (fun q => absurd rfl q)
  refine X_heap L_sw.symm ?_
  by_cases h20 : b + 20 ≤ 800
  · unfold s_apI s_abJ
    rw [if_pos h20, if_pos h20, if_pos h20, if_pos h20]
    exact kk _ (b + 20) _ _ ⟨B, ov, _, T, S, rd, _, gv, P, _, _, K, tk, ts, tl, tv, su, D, w, v, u, rfl, hB, ⟨(updI_ne (by decide)).trans ((updI_ne (by decide)).trans hI.1), hI.2.1, (updI_ne (by decide)).trans ((updI_ne (by decide)).trans hI.2.2.1), hI.2.2.2.1, updI_eq, h20⟩, ⟨(updI_ne (by decide)).trans hJ.1, hJ.2.1, (updI_ne (by decide)).trans hJ.2.2.1, updI_eq, (updI_ne (by decide)).trans (hJ.2.2.2.2.trans ((updI_ne (by decide)).trans (updI_ne (by decide))).symm)⟩, s_rtx_ap hr, hm⟩ (by omega) (by omega)
  · unfold s_apI s_abJ
    rw [if_neg h20, if_neg h20, if_neg h20, if_neg h20]
    exact kk _ b _ _ ⟨B, ov, _, T, S, rd, _, gv, P, _, _, K, tk, ts, tl, tv, su, D, w, v, u, rfl, hB, L_I0 hI, L_I0J hJ, hr, hm⟩ (by omega) (by omega)
theorem law_1 {G : XE} (hG : x_Kn G) (hX : x_KX G) (hN : x_KN G) (hK : x_KS G) (hM : x_KM G) {ad0 : Nat → Nat} {nb0 : Nat} {n t b : Nat} {xs : Nat → Int32} {N : XH} {cells slots : Nat} (hI : L_I n xs t b N) (hn : 7 * t + 7 ≤ n) (h36 : n ≤ 3584) (hc : cells + 12 * b ≤ 300 + 975 * t) (hs : slots + 292 * b ≤ 60000 + 5850 * t) (kk : L_K G ad0 nb0 n xs t) : x_W G mL_law (L_Z G ad0 nb0) N cells slots 221 (L_l t) [] := by
  obtain ⟨B, ov, I, T, S, rd, tx, gv, P, J, bf, K, tk, ts, tl, tv, su, D, w, v, u, rfl, hB, hI, hJ, hr, hg⟩ := hI
  have hlv := hg.cur hJ.2.1 hI.2.1
  have ht : t + 1 ≤ 512 := by omega
  have hm := hg.mono y_le_rfl (Nat.le_succ t)
  refine X_ld aL_221 rfl rfl rfl ?_
  refine X_scr (c := 1) aL_222 aL_223 aL_225 (by decide +kernel) aL_226 aL_227 (L_56c hB) rfl rfl (by omega) (by omega) ?_
  by_cases hx : (0 : Int32) ≤ xs (7 * t + 1) ∧ xs (7 * t + 1) ≤ nI b
  · refine X_ld aL_228 rfl rfl rfl ?_
    refine X_Lw l_L_L_load (W_load hG hX hN hB w hJ.1 hJ.2.1 hK hM hJ.2.2.2.1 hI.2.2.2.2.2 hr) aL_229 rfl rfl (Nat.le_of_ble_eq_true rfl) (Nat.le_of_ble_eq_true rfl) (Nat.le_of_ble_eq_true rfl) (by omega) (by omega) (fun N9 r h => ?_)
    obtain ⟨o, hD, rfl, hA⟩ := h
    obtain ⟨_, B2, K2, tk2, ts2, tl2, tv2, o2, c2, hle, hB2, h2⟩ := hD.resolve_left (fun q => q.1 hx)
    have ha1 : (a_load tx b (xs (7 * t + 1))).1 = 0 := by unfold a_load; rw [if_pos hx]
    have hA := hA ha1
    rcases h2 with ⟨e, a, htx, rfl⟩ | ⟨q1, rd1, htx, hl1, rfl⟩
    · have hA : o = e.toInt64 := hA.trans (by unfold a_load; rw [if_pos hx, htx])
      refine X_st aL_232 rfl rfl ?_
      refine X_heap L_sw ?_
      refine X_ld aL_234 rfl rfl rfl ?_
      refine X_scr (c := 1) aL_235 aL_236 aL_238 (by decide +kernel) aL_239 aL_240 (L_56m hB2) rfl rfl (by omega) (by omega) ?_
      refine X_Lr l_L_X11_load rfl (c_load hG hK 50 v hI.1 hI.2.1 u hI.2.2.1 hI.2.2.2.1 b hI.2.2.2.2.1 hI.2.2.2.2.2) aL_241 rfl rfl (Nat.le_of_ble_eq_true rfl) (Nat.le_of_ble_eq_true rfl) (Nat.le_of_ble_eq_true rfl) (by omega) (by omega) (fun N9 r h => ?_)
      unfold x_RLd at h
      rw [if_pos hx, htx] at h
      obtain ⟨I', rd', hI', rfl, rfl⟩ := h
      refine X_loc (L' := [some (.ref 56), some (.ref 64), some (.ref 275), some (.ref 281), some (.int (nI (7 * t))), some (.int (I' 0)), none, none]) ⟨rfl, rfl, rfl, rfl, rfl, congrArg Value.int (hI'.1.trans ha1.symm), trivial⟩ ?_
      refine X_Ltl hG aL_244 aL_246 aL_247 aL_250 aL_252 aL_257 aL_259 aL_262 aL_263 aL_264 aL_265 aL_267 aL_268 aL_269 aL_274 ((c_out (by omega) (by omega)).trans x_set_eq) (fun _ => hA) (by omega) (by omega) ?_
      refine X_heap L_sw.symm ?_
      exact kk _ 0 _ _ ⟨B2, o, _, T, S, rd', tx, gv, P, _, bf, K2, tk2, ts2, tl2, tv2, _, _, w, v, u, rfl, hB2, ⟨hI'.2.1, hI.2.1, hI'.2.2.1, hI.2.2.2.1, hI'.2.2.2.1, by omega⟩, ⟨(updI_ne (by decide)).trans ((updI_ne (by decide)).trans hJ.1), hJ.2.1, (updI_ne (by decide)).trans ((updI_ne (by decide)).trans hJ.2.2.1), (updI_ne (by decide)).trans updI_eq, updI_eq.trans hI'.2.2.2.2.symm⟩, s_rtx_le hr (Nat.zero_le b), (hg.mono hle (Nat.le_succ t)).spare hJ.2.1 hI.2.2.2.1⟩ (by omega) (by omega)
    · have hA : o = (rd1 2).toInt64 := hA.trans (by unfold a_load; rw [if_pos hx, htx])
      refine X_st aL_232 rfl rfl ?_
      refine X_heap L_sw ?_
      refine X_ld aL_234 rfl rfl rfl ?_
      refine X_scr (c := 1) aL_235 aL_236 aL_238 (by decide +kernel) aL_239 aL_240 (L_56m hB2) rfl rfl (by omega) (by omega) ?_
      refine X_Lr l_L_X11_load rfl (c_load hG hK 50 v hI.1 hI.2.1 u hI.2.2.1 hI.2.2.2.1 b hI.2.2.2.2.1 hI.2.2.2.2.2) aL_241 rfl rfl (Nat.le_of_ble_eq_true rfl) (Nat.le_of_ble_eq_true rfl) (Nat.le_of_ble_eq_true rfl) (by omega) (by omega) (fun N9 r h => ?_)
      unfold x_RLd at h
      rw [if_pos hx, htx] at h
      obtain ⟨I', rd', hI', rfl, rfl⟩ := h
      refine X_loc (L' := [some (.ref 56), some (.ref 64), some (.ref 275), some (.ref 281), some (.int (nI (7 * t))), some (.int (I' 0)), none, none]) ⟨rfl, rfl, rfl, rfl, rfl, congrArg Value.int (hI'.1.trans ha1.symm), trivial⟩ ?_
      refine X_Ltl hG aL_244 aL_246 aL_247 aL_250 aL_252 aL_257 aL_259 aL_262 aL_263 aL_264 aL_265 aL_267 aL_268 aL_269 aL_274 ((c_out (by omega) (by omega)).trans x_set_eq) (fun _ => hA) (by omega) (by omega) ?_
      refine X_heap L_sw.symm ?_
      exact kk _ 0 _ _ ⟨B2, o, _, T, _, rd', tx, gv, P, _, bf, K2, tk2, ts2, tl2, tv2, _, _, s_n10 w, s_nx v, s_u8 u, rfl, hB2, ⟨hI'.2.1, s_nx_lt, hI'.2.2.1, s_u8_le hI.2.2.2.1, hI'.2.2.2.1, by omega⟩, ⟨(updI_ne (by decide)).trans updI_eq, s_n10_lt, updI_eq.trans (L_J6 ((updI_ne (by decide)).trans ((updI_ne (by decide)).trans hJ.2.2.1)) hI.2.2.2.1), (updI_ne (by decide)).trans ((updI_ne (by decide)).trans ((updI_ne (by decide)).trans updI_eq)), (updI_ne (by decide)).trans ((updI_ne (by decide)).trans (updI_eq.trans hI'.2.2.2.2.symm))⟩, s_rtx_le hr (Nat.zero_le b), (hg.mono hle (Nat.le_succ t)).push hJ.2.1 hI.2.1 hI.2.2.2.1 (hl1.mono y_le_rfl (Nat.zero_le _))⟩ (by omega) (by omega)
  · refine X_ld aL_228 rfl rfl rfl ?_
    refine X_Lw l_L_L_load (W_loadF hG hX hN hB w hJ.1 hJ.2.1 (hJ.2.2.2.1.symm ▸ hx)) aL_229 rfl rfl (Nat.le_of_ble_eq_true rfl) (Nat.le_of_ble_eq_true rfl) (Nat.le_of_ble_eq_true rfl) (by omega) (by omega) (fun N9 r h => ?_)
    obtain ⟨rfl, rfl⟩ := h
    refine X_st aL_232 rfl rfl ?_
    refine X_heap L_sw ?_
    refine X_ld aL_234 rfl rfl rfl ?_
    refine X_scr (c := 1) aL_235 aL_236 aL_238 (by decide +kernel) aL_239 aL_240 (L_56m hB) rfl rfl (by omega) (by omega) ?_
    refine X_Lr l_L_X11_load rfl (c_load hG hK 50 v hI.1 hI.2.1 u hI.2.2.1 hI.2.2.2.1 b hI.2.2.2.2.1 hI.2.2.2.2.2) aL_241 rfl rfl (Nat.le_of_ble_eq_true rfl) (Nat.le_of_ble_eq_true rfl) (Nat.le_of_ble_eq_true rfl) (by omega) (by omega) (fun N9 r h => ?_)
    unfold x_RLd at h
    rw [if_neg hx] at h
    obtain ⟨rfl, rfl⟩ := h
    refine X_Ltl (o := ov) hG aL_244 aL_246 aL_247 aL_250 aL_252 aL_257 aL_259 aL_262 aL_263 aL_264 aL_265 aL_267 aL_268 aL_269 aL_274 ((c_out (by omega) (by omega)).trans x_set_eq) (fun q => absurd (updI_eq.symm.trans q) (by decide)) (by omega) (by omega) ?_
    refine X_heap L_sw.symm ?_
    exact kk _ b _ _ ⟨B, ov, _, T, S, rd, tx, gv, P, J, bf, K, tk, ts, tl, tv, su, D, w, v, u, rfl, hB, L_I0 hI, L_I0J hJ, hr, hm⟩ (by omega) (by omega)
theorem law_2 {G : XE} (hG : x_Kn G) (hX : x_KX G) (hN : x_KN G) (hK : x_KS G) (hM : x_KM G) {ad0 : Nat → Nat} {nb0 : Nat} {n t b : Nat} {xs : Nat → Int32} {N : XH} {cells slots : Nat} (hI : L_I n xs t b N) (hn : 7 * t + 7 ≤ n) (h36 : n ≤ 3584) (hc : cells + 12 * b ≤ 300 + 975 * t) (hs : slots + 292 * b ≤ 60000 + 5850 * t) (kk : L_K G ad0 nb0 n xs t) : x_W G mL_law (L_Z G ad0 nb0) N cells slots 277 (L_l t) [] := by
  obtain ⟨B, ov, I, T, S, rd, tx, gv, P, J, bf, K, tk, ts, tl, tv, su, D, w, v, u, rfl, hB, hI, hJ, hr, hg⟩ := hI
  have hlv := hg.cur hJ.2.1 hI.2.1
  have ht : t + 1 ≤ 512 := by omega
  have hm := hg.mono y_le_rfl (Nat.le_succ t)
  refine X_ld aL_277 rfl rfl rfl ?_
  refine X_Lc l_L_X10_errorOffset rfl (m_errorOffset hG 50) aL_278 rfl rfl (Nat.le_of_ble_eq_true rfl) (Nat.le_of_ble_eq_true rfl) (Nat.le_of_ble_eq_true rfl) (by omega) (by omega) (fun N9 r h => ?_)
  obtain ⟨rfl, rfl⟩ := h
  refine X_heap L_sw ?_
  refine X_ld aL_281 rfl rfl rfl ?_
  refine X_Lr l_L_X11_errorOffset rfl (c_errorOffset hG 50) aL_282 rfl rfl (Nat.le_of_ble_eq_true rfl) (Nat.le_of_ble_eq_true rfl) (Nat.le_of_ble_eq_true rfl) (by omega) (by omega) (fun N9 r h => ?_)
  obtain ⟨rfl, rfl⟩ := h
  refine X_icmp_eq aL_285 (fun _ => ?_) (fun q => absurd hJ.2.2.2.2 q)
  refine X_heap L_sw.symm ?_
  exact kk _ b _ _ ⟨B, ov, _, _, S, rd, tx, gv, P, J, bf, K, tk, ts, tl, tv, su, D, w, v, u, rfl, hB, L_I0 hI, L_I0J hJ, hr, hm⟩ (by omega) (by omega)
theorem law_3 {G : XE} (hG : x_Kn G) (hX : x_KX G) (hN : x_KN G) (hK : x_KS G) (hM : x_KM G) {ad0 : Nat → Nat} {nb0 : Nat} {n t b : Nat} {xs : Nat → Int32} {N : XH} {cells slots : Nat} (hI : L_I n xs t b N) (hn : 7 * t + 7 ≤ n) (h36 : n ≤ 3584) (hc : cells + 12 * b ≤ 300 + 975 * t) (hs : slots + 292 * b ≤ 60000 + 5850 * t) (kk : L_K G ad0 nb0 n xs t) : x_W G mL_law (L_Z G ad0 nb0) N cells slots 290 (L_l t) [] := by
  obtain ⟨B, ov, I, T, S, rd, tx, gv, P, J, bf, K, tk, ts, tl, tv, su, D, w, v, u, rfl, hB, hI, hJ, hr, hg⟩ := hI
  have hlv := hg.cur hJ.2.1 hI.2.1
  have ht : t + 1 ≤ 512 := by omega
  have hm := hg.mono y_le_rfl (Nat.le_succ t)
  refine X_ld aL_290 rfl rfl rfl ?_
  refine X_scr (c := 1) aL_291 aL_292 aL_294 (by decide +kernel) aL_295 aL_296 (L_56c hB) rfl rfl (by omega) (by omega) ?_
  refine X_ld aL_297 rfl rfl rfl ?_
  refine X_Lw l_L_L_count (W_count hG hX hN hB w hJ.1 hJ.2.1 hlv) aL_298 rfl rfl (Nat.le_of_ble_eq_true rfl) (Nat.le_of_ble_eq_true rfl) (Nat.le_of_ble_eq_true rfl) (by omega) (by omega) (fun N9 r h => ?_)
  obtain ⟨o, rfl, rfl, hA⟩ := h
  refine X_st aL_301 rfl rfl ?_
  refine X_heap L_sw ?_
  refine X_ld aL_303 rfl rfl rfl ?_
  refine X_scr (c := 1) aL_304 aL_305 aL_307 (by decide +kernel) aL_308 aL_309 (L_56m hB) rfl rfl (by omega) (by omega) ?_
  refine X_Lr l_L_X11_count rfl (c_count hG 50 v hI.1 hI.2.1) aL_310 rfl rfl (Nat.le_of_ble_eq_true rfl) (Nat.le_of_ble_eq_true rfl) (Nat.le_of_ble_eq_true rfl) (by omega) (by omega) (fun N9 r h => ?_)
  obtain ⟨rfl, rfl⟩ := h
  refine X_Ltl hG aL_313 aL_315 aL_316 aL_319 aL_321 aL_326 aL_328 aL_331 aL_332 aL_333 aL_334 aL_336 aL_337 aL_338 aL_343 ((c_out (by omega) (by omega)).trans x_set_eq) hA (by omega) (by omega) ?_
  refine X_heap L_sw.symm ?_
  exact kk _ b _ _ ⟨B, o, _, T, S, rd, tx, gv, P, J, bf, K, tk, ts, tl, tv, su, D, w, v, u, rfl, hB, L_I0 hI, L_I0J hJ, hr, hm⟩ (by omega) (by omega)
theorem law_4 {G : XE} (hG : x_Kn G) (hX : x_KX G) (hN : x_KN G) (hK : x_KS G) (hM : x_KM G) {ad0 : Nat → Nat} {nb0 : Nat} {n t b : Nat} {xs : Nat → Int32} {N : XH} {cells slots : Nat} (hI : L_I n xs t b N) (hn : 7 * t + 7 ≤ n) (h36 : n ≤ 3584) (hc : cells + 12 * b ≤ 300 + 975 * t) (hs : slots + 292 * b ≤ 60000 + 5850 * t) (kk : L_K G ad0 nb0 n xs t) : x_W G mL_law (L_Z G ad0 nb0) N cells slots 346 (L_l t) [] := by
  obtain ⟨B, ov, I, T, S, rd, tx, gv, P, J, bf, K, tk, ts, tl, tv, su, D, w, v, u, rfl, hB, hI, hJ, hr, hg⟩ := hI
  have hlv := hg.cur hJ.2.1 hI.2.1
  have ht : t + 1 ≤ 512 := by omega
  have hm := hg.mono y_le_rfl (Nat.le_succ t)
  refine X_ld aL_346 rfl rfl rfl ?_
  refine X_scr (c := 1) aL_347 aL_348 aL_350 (by decide +kernel) aL_351 aL_352 (L_56c hB) rfl rfl (by omega) (by omega) ?_
  refine X_scr (c := 2) aL_353 aL_354 aL_356 (by decide +kernel) aL_357 aL_358 (L_56c hB) rfl rfl (by omega) (by omega) ?_
  refine X_ld aL_359 rfl rfl rfl ?_
  refine X_Lw l_L_L_column (W_column hG hX hN hB w hJ.1 hJ.2.1 hlv) aL_360 rfl rfl (Nat.le_of_ble_eq_true rfl) (Nat.le_of_ble_eq_true rfl) (Nat.le_of_ble_eq_true rfl) (by omega) (by omega) (fun N9 r h => ?_)
  obtain ⟨o, rfl, rfl, hA⟩ := h
  refine X_st aL_363 rfl rfl ?_
  refine X_heap L_sw ?_
  refine X_ld aL_365 rfl rfl rfl ?_
  refine X_scr (c := 1) aL_366 aL_367 aL_369 (by decide +kernel) aL_370 aL_371 (L_56m hB) rfl rfl (by omega) (by omega) ?_
  refine X_scr (c := 2) aL_372 aL_373 aL_375 (by decide +kernel) aL_376 aL_377 (L_56m hB) rfl rfl (by omega) (by omega) ?_
  refine X_Lr l_L_X11_column rfl (c_column hG 50 v hI.1 hI.2.1 hlv.1.1) aL_378 rfl rfl (Nat.le_of_ble_eq_true rfl) (Nat.le_of_ble_eq_true rfl) (Nat.le_of_ble_eq_true rfl) (by omega) (by omega) (fun N9 r h => ?_)
  obtain ⟨rfl, rfl⟩ := h
  refine X_Ltl hG aL_381 aL_383 aL_384 aL_387 aL_389 aL_394 aL_396 aL_399 aL_400 aL_401 aL_402 aL_404 aL_405 aL_406 aL_411 ((c_out (by omega) (by omega)).trans x_set_eq) hA (by omega) (by omega) ?_
  refine X_heap L_sw.symm ?_
  exact kk _ b _ _ ⟨B, o, _, T, S, rd, tx, gv, P, J, bf, K, tk, ts, tl, tv, su, D, w, v, u, rfl, hB, L_I0 hI, L_I0J hJ, hr, hm⟩ (by omega) (by omega)
theorem law_5 {G : XE} (hG : x_Kn G) (hX : x_KX G) (hN : x_KN G) (hK : x_KS G) (hM : x_KM G) {ad0 : Nat → Nat} {nb0 : Nat} {n t b : Nat} {xs : Nat → Int32} {N : XH} {cells slots : Nat} (hI : L_I n xs t b N) (hn : 7 * t + 7 ≤ n) (h36 : n ≤ 3584) (hc : cells + 12 * b ≤ 300 + 975 * t) (hs : slots + 292 * b ≤ 60000 + 5850 * t) (kk : L_K G ad0 nb0 n xs t) : x_W G mL_law (L_Z G ad0 nb0) N cells slots 414 (L_l t) [] := by
  obtain ⟨B, ov, I, T, S, rd, tx, gv, P, J, bf, K, tk, ts, tl, tv, su, D, w, v, u, rfl, hB, hI, hJ, hr, hg⟩ := hI
  have hlv := hg.cur hJ.2.1 hI.2.1
  have ht : t + 1 ≤ 512 := by omega
  have hm := hg.mono y_le_rfl (Nat.le_succ t)
  refine X_ld aL_414 rfl rfl rfl ?_
  refine X_scr (c := 1) aL_415 aL_416 aL_418 (by decide +kernel) aL_419 aL_420 (L_56c hB) rfl rfl (by omega) (by omega) ?_
  refine X_scr (c := 2) aL_421 aL_422 aL_424 (by decide +kernel) aL_425 aL_426 (L_56c hB) rfl rfl (by omega) (by omega) ?_
  refine X_ld aL_427 rfl rfl rfl ?_
  refine X_Lw l_L_L_value (W_value hG hX hN hB w hJ.1 hJ.2.1 hlv) aL_428 rfl rfl (Nat.le_of_ble_eq_true rfl) (Nat.le_of_ble_eq_true rfl) (Nat.le_of_ble_eq_true rfl) (by omega) (by omega) (fun N9 r h => ?_)
  obtain ⟨o, rfl, rfl, hA⟩ := h
  refine X_st aL_431 rfl rfl ?_
  refine X_heap L_sw ?_
  refine X_ld aL_433 rfl rfl rfl ?_
  refine X_scr (c := 1) aL_434 aL_435 aL_437 (by decide +kernel) aL_438 aL_439 (L_56m hB) rfl rfl (by omega) (by omega) ?_
  refine X_scr (c := 2) aL_440 aL_441 aL_443 (by decide +kernel) aL_444 aL_445 (L_56m hB) rfl rfl (by omega) (by omega) ?_
  refine X_Lr l_L_X11_value rfl (c_value hG 50 v hI.1 hI.2.1 hlv.1.1) aL_446 rfl rfl (Nat.le_of_ble_eq_true rfl) (Nat.le_of_ble_eq_true rfl) (Nat.le_of_ble_eq_true rfl) (by omega) (by omega) (fun N9 r h => ?_)
  obtain ⟨rfl, rfl⟩ := h
  refine X_Ltl hG aL_449 aL_451 aL_452 aL_455 aL_457 aL_462 aL_464 aL_467 aL_468 aL_469 aL_470 aL_472 aL_473 aL_474 aL_479 ((c_out (by omega) (by omega)).trans x_set_eq) hA (by omega) (by omega) ?_
  refine X_heap L_sw.symm ?_
  exact kk _ b _ _ ⟨B, o, _, T, S, rd, tx, gv, P, J, bf, K, tk, ts, tl, tv, su, D, w, v, u, rfl, hB, L_I0 hI, L_I0J hJ, hr, hm⟩ (by omega) (by omega)
