/-! ===== the rows: throw new E(text) ===== -/
def x_dc (w : Cond) : Bool := match w with
  | .declares _ => true
  | .castable _ _ => true
  | _ => false
theorem x_dc_of {w : Cond} (h : x_dc w = true) : (∃ x, w = .declares x) ∨ ∃ C T, w = .castable C T := by
  unfold x_dc at h
  split at h
  · exact Or.inl ⟨_, rfl⟩
  · exact Or.inr ⟨_, _, rfl⟩
  · cases h
theorem x_insT (ws : List Cond) (is : List Nat) (h : is.map (fun i => lw_tbl[i]?) = ws.map some) : ∀ w ∈ ws, w ∈ lw_tbl := by
  intro w hw
  obtain ⟨k, hk⟩ := List.getElem?_of_mem hw
  have h1 : (is.map (fun i => lw_tbl[i]?))[k]? = some (some w) := by rw [h, List.getElem?_map, hk]; rfl
  rw [List.getElem?_map] at h1
  cases hi : is[k]? with
  | none => rw [hi] at h1; cases h1
  | some i => rw [hi] at h1; exact List.mem_of_getElem? (Option.some.inj h1)
def x_LT (own : String) (ik ic : Nat) (cls : String) (names : List String) : Prop :=
  Bundle.fit cls = true ∧ (∀ n ∈ names, Bundle.fit n = true) ∧ Cond.classLink own ik cls ∈ x_T ∧ Cond.initialized cls ∈ x_T ∧ (∀ w ∈ vx_atS own ic cls names, w ∈ lw_tbl) ∧ ((vx_atS own ic cls names).all fun w => goodWord w || x_dc w) = true
def x_exN : List String := ["java/lang/RuntimeException", "java/lang/Exception"]
theorem lt_iae : x_LT RX10 116 120 "java/lang/IllegalArgumentException" x_exN := ⟨by decide +kernel, by decide +kernel, x_in 427 (by decide +kernel) rfl, x_in 77 (by decide +kernel) rfl, x_insT _ [74, 382, 391, 395, 398, 400, 383, 384, 93, 94, 385, 390, 396, 416, 372, 417, 374, 418, 376, 386, 388, 378, 412, 413, 415, 378, 438, 439, 440, 406, 364, 406, 407, 408, 409, 366, 409, 410, 411, 412, 368, 437, 428, 429, 430, 393, 431, 432, 433, 434, 381, 380, 435] (by decide +kernel), by decide +kernel⟩
theorem lt_iob : x_LT RX10 304 308 "java/lang/IndexOutOfBoundsException" x_exN := ⟨by decide +kernel, by decide +kernel, x_in 360 (by decide +kernel) rfl, x_in 84 (by decide +kernel) rfl, x_insT _ [74, 382, 391, 395, 398, 400, 383, 384, 93, 94, 385, 390, 396, 416, 372, 417, 374, 418, 376, 386, 388, 378, 412, 413, 415, 378, 403, 404, 405, 406, 364, 406, 407, 408, 409, 366, 409, 410, 411, 412, 368, 402, 361, 362, 369, 370, 371, 373, 375, 377, 381, 380, 379] (by decide +kernel), by decide +kernel⟩
theorem lt_ise : x_LT RX10 245 249 "java/lang/IllegalStateException" x_exN := ⟨by decide +kernel, by decide +kernel, x_in 1029 (by decide +kernel) rfl, x_in 85 (by decide +kernel) rfl, x_insT _ [74, 382, 391, 395, 398, 400, 383, 384, 93, 94, 385, 390, 396, 416, 372, 417, 374, 418, 376, 386, 388, 378, 412, 413, 415, 378, 1040, 1041, 1042, 406, 364, 406, 407, 408, 409, 366, 409, 410, 411, 412, 368, 1039, 1030, 1031, 1032, 394, 1033, 1034, 1035, 1036, 381, 380, 1037] (by decide +kernel), by decide +kernel⟩
theorem x_R_grow {G : XE} {ad : Nat → Nat} {nb : Nat} {N : XH} {H H' : Heap} (h : x_R G ad nb N H) (hq : ∀ q : Nat, q < H.size → H'[q]? = H[q]?) : x_R G ad nb N H' :=
  ⟨fun k c k0 hk => ⟨(h.1 k c k0 hk).1, (h.1 k c k0 hk).2.1, x_cell_kept (h.1 k c k0 hk).2.2 (hq _ (x_cell_lt (h.1 k c k0 hk).2.2))⟩, h.2.1, h.2.2.1, h.2.2.2.1, h.2.2.2.2⟩
theorem x_ot_T {w : Cond} (h : w ∈ x_T) : vx_ot w = true := by
  unfold vx_ot
  rw [(List.mem_filter.mp h).2, Bool.or_true]
theorem x_ot_D {w : Cond} (h : (goodWord w || x_dc w) = true) : vx_ot w = true := by
  unfold vx_ot
  cases hg : goodWord w with
  | true => rw [Bool.or_true]
  | false =>
    rw [hg, Bool.false_or] at h
    rcases x_dc_of h with ⟨x, rfl⟩ | ⟨C, T, rfl⟩ <;> rfl
theorem x_dcB {G : XE} {s : State} {args : Array Value} {w : Cond} (hts : ∀ w ∈ x_T, w.before args s = true) (hW : G.2.1.WarmedH s.vm) (hKn : x_Kn G) (hm : w ∈ lw_tbl) (h : (goodWord w || x_dc w) = true) : w.before args s = true := by
  cases hg : goodWord w with
  | true => exact hts w (List.mem_filter.mpr ⟨hm, hg⟩)
  | false =>
    rw [hg, Bool.false_or] at h
    rcases x_dc_of h with ⟨x, rfl⟩ | ⟨C, T, rfl⟩
    · exact va_Nw.use rfl (va_Nw.warmD hW (hKn.2.2.1.1 _ hm rfl))
    · exact va_Nw.use rfl (va_Nw.warmC hW (hKn.2.2.1.1 _ hm rfl))
section XRT
variable {G : XE} {M : XMI} {d mc ms : Nat} {ad0 : Nat → Nat} {nb0 : Nat} {Qn : XH → Option Value → Prop} {Qx : XH → String → Prop} {N : XH} {cells slots pc t0 t1 t2 t3 t4 pc' : Nat} {L : List (Option Value)} {st : List Value}
theorem X_throwS {ik is ic : Nat} {cls text : String} {names : List String} (hT : x_LT (x_own M) ik ic cls names) (hstr : ∃ sa, vk_R (x_own M) is text sa (x_S G)) (d0 : x_at (x_k M) pc = some (.new ik, pc + 3, t0)) (d3 : x_at (x_k M) (pc + 3) = some (.dup, pc + 4, t1)) (d4 : x_at (x_k M) (pc + 4) = some (.ldc is, pc + 6, t2)) (d6 : x_at (x_k M) (pc + 6) = some (.invokespecial ic, pc + 9, t3)) (d9 : x_at (x_k M) (pc + 9) = some (.athrow, pc', t4)) (hhh : x_hh M = []) (hd : names.length + 3 < d) (hst : (st.map fun v => v.category).sum ≤ 8) (h1 : cells + 1 ≤ mc) (h2 : slots + 6 ≤ ms) (hq : Qx N cls) : x_W G M (x_Z G d mc ms ad0 nb0 Qn Qx) N cells slots pc L st := by
  intro p e s m args below meth c ad nb H locs ls B hR hnb he hS hl0 hvs
  obtain ⟨hx, hb, hml, hr, hlk, hown, hts, hW, hkp, htb, hnm, hKn, hok⟩ := id B
  obtain ⟨l1, l2, l3, l4, l5, l6⟩ := hT
  obtain ⟨sa, hsa⟩ := hstr
  exact vx_throwS (sa := sa) (A := x_A G) (text := text) hx hb hKn.2.2.2.1 hown l1 l2 (hts _ l3) (hts _ l4) (vk_R.warm hW hsa) (fun w hw => x_dcB hts hW hKn (l5 w hw) (List.all_eq_true.mp l6 w hw)) (fun w hw => by
      rcases List.mem_cons.mp hw with rfl | hw
      · exact x_ot_T l3
      · rcases List.mem_cons.mp hw with rfl | hw
        · exact x_ot_T l4
        · exact x_ot_D (List.all_eq_true.mp l6 w hw))
    ((hKn.2.2.2.2.1.moved hW.alike).kept (x_fzq hkp)) ((hKn.2.2.2.2.2.moved hW.alike).kept (x_fzq hkp)) hS (hml.trans hl0.1.1.symm).symm
    (x_decn hok d0 (n := 2) rfl).1 (x_decn hok d3 (n := 0) rfl).1 (x_decn hok d4 (n := 1) rfl).1 (x_decn hok d6 (n := 2) rfl).1 (x_decn hok d9 (n := 0) rfl).1 (fun x hx2 => by rw [htb, hhh] at hx2; cases hx2) hd
    (by show ((st.map (x_tr ad)).map fun v => v.category).sum + _ ≤ 100 * d; rw [x_cat_sum]; omega) h1 h2 hlk
    (fun t _ hsz hq9 => ⟨⟨ad, nb, N, hnb, he, x_R_grow hR hq9, hq⟩, va_S.F (locs := locs) ⟨Nat.le_trans hS.1 hsz, fun x g1 g2 => (hq9 x (Nat.lt_of_lt_of_le g1 hS.1)).trans (hS.2.1 x g1 g2), hS.2.2⟩ rfl⟩) hS.2.2 h1 h2
theorem X_throwSW {ik is ic : Nat} {cls text : String} {names : List String} (hT : x_LT (x_own M) ik ic cls names) (hstr : ∃ sa, vk_R (x_own M) is text sa (x_S G)) (d0 : x_at (x_k M) pc = some (.new ik, pc + 3, t0)) (d3 : x_at (x_k M) (pc + 3) = some (.dup, pc + 4, t1)) (d4 : x_at (x_k M) (pc + 4) = some (.ldc_w is, pc + 7, t2)) (d6 : x_at (x_k M) (pc + 7) = some (.invokespecial ic, pc + 10, t3)) (d9 : x_at (x_k M) (pc + 10) = some (.athrow, pc', t4)) (hhh : x_hh M = []) (hd : names.length + 3 < d) (hst : (st.map fun v => v.category).sum ≤ 8) (h1 : cells + 1 ≤ mc) (h2 : slots + 6 ≤ ms) (hq : Qx N cls) : x_W G M (x_Z G d mc ms ad0 nb0 Qn Qx) N cells slots pc L st := by
  intro p e s m args below meth c ad nb H locs ls B hR hnb he hS hl0 hvs
  obtain ⟨hx, hb, hml, hr, hlk, hown, hts, hW, hkp, htb, hnm, hKn, hok⟩ := id B
  obtain ⟨l1, l2, l3, l4, l5, l6⟩ := hT
  obtain ⟨sa, hsa⟩ := hstr
  exact vx_throwSW (sa := sa) (A := x_A G) (text := text) hx hb hKn.2.2.2.1 hown l1 l2 (hts _ l3) (hts _ l4) (vk_R.warm hW hsa) (fun w hw => x_dcB hts hW hKn (l5 w hw) (List.all_eq_true.mp l6 w hw)) (fun w hw => by
      rcases List.mem_cons.mp hw with rfl | hw
      · exact x_ot_T l3
      · rcases List.mem_cons.mp hw with rfl | hw
        · exact x_ot_T l4
        · exact x_ot_D (List.all_eq_true.mp l6 w hw))
    ((hKn.2.2.2.2.1.moved hW.alike).kept (x_fzq hkp)) ((hKn.2.2.2.2.2.moved hW.alike).kept (x_fzq hkp)) hS (hml.trans hl0.1.1.symm).symm
    (x_decn hok d0 (n := 2) rfl).1 (x_decn hok d3 (n := 0) rfl).1 (x_decn hok d4 (n := 2) rfl).1 (x_decn hok d6 (n := 2) rfl).1 (x_decn hok d9 (n := 0) rfl).1 (fun x hx2 => by rw [htb, hhh] at hx2; cases hx2) hd
    (by show ((st.map (x_tr ad)).map fun v => v.category).sum + _ ≤ 100 * d; rw [x_cat_sum]; omega) h1 h2 hlk
    (fun t _ hsz hq9 => ⟨⟨ad, nb, N, hnb, he, x_R_grow hR hq9, hq⟩, va_S.F (locs := locs) ⟨Nat.le_trans hS.1 hsz, fun x g1 g2 => (hq9 x (Nat.lt_of_lt_of_le g1 hS.1)).trans (hS.2.1 x g1 g2), hS.2.2⟩ rfl⟩) hS.2.2 h1 h2
end XRT
