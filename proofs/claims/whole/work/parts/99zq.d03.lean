/-! ===== the law: its end, its rows ===== -/
/-- room, the end: the law's -/
def L_Z (G : XE) (ad0 : Nat → Nat) (nb0 : Nat) : XZ := (room_1, ad0, nb0, fun below args s t => s.heap.size ≤ x_n0 G → lw_Z below args s t)
theorem L_imp {p : Program} {l : Launch} {e : Env} {R : Room} {s : State} {m : MethodId} {args : Array Value} {below : List Frame} {meth : Method} {c : Code} {H : Heap} {locs : List Loc} {cells slots : Nat} {g : JFrame} {A : Prop} {Q : State → Prop} (h : A → W p l e R s m args below meth c H locs cells slots Q g) : W p l e R s m args below meth c H locs cells slots (fun t => A → Q t) g := by
  intro T hT X
  by_cases hA : A
  · obtain ⟨t, h1, h2⟩ := h hA T hT X
    exact ⟨t, h1, fun _ => h2⟩
  · exact ⟨_, Steps.refl _, fun q => absurd q hA⟩
theorem L_ret {p : Program} {l : Launch} {e : Env} {s : State} {m : MethodId} {args : Array Value} {below : List Frame} {meth : Method} {c : Code} (hx : p.tables.exec = Jvm.exec) (hb : c.code = code) (hr : meth.sig.returnType = ret) (hlocks : meth.locks = false) {pc : Nat} {H : Heap} {ls : Array Slot} (hdg : decode code pc = .ok (.ireturn, 1)) : W p l e room_1 s m args below meth c H [] 601024 7293034 (lw_Z below args s) (F0 m pc ls [.int 1]) := by
  intro T hT X
  obtain ⟨fs, hret, hrun, hended, hW, hframe⟩ := X.leave (v := some (.int 1)) (hlocks := hlocks) (fun h => by rw [hr] at h; cases h)
  have hmeth' : T.vm.method? m = some meth := X.method'
  refine ⟨T.setFrames fs, ?_, .returned (some (.int 1)), hrun, hended, rfl, ⟨_, rfl⟩, hW, hframe⟩
  jvm_step X.here [X.here.top, hx, hb, hdg, hmeth', hr, ret, narrow_b1]
  (try refine ⟨rfl, ?_⟩); (try refine ⟨rfl, ?_⟩)
  first | (intro acts; rw [hret _ acts rfl rfl rfl]) | rw [hret _ _ rfl rfl rfl]
  exact Steps.refl _
section LAW
variable {G : XE} {Mc : XMI} {ad0 : Nat → Nat} {nb0 : Nat} {N : XH} {cells slots pc pc' t : Nat} {L : List (Option Value)} {st : List Value}
/-- the law's end -/
theorem X_Lret (hdg : decode code pc = .ok (.ireturn, 1)) (hc : cells ≤ 601024) (hs : slots ≤ 7293034) : x_W G mL_law (L_Z G ad0 nb0) N cells slots pc L [.int 1] := by
  intro p e s m args below meth c ad nb H locs ls B hR hnb he hS hl hvs
  obtain ⟨hx, hb, hml, hr, hlk, hown, hts, hW, hkp, htb, hnm, hKn, hok⟩ := id B
  exact L_imp (fun h1 => va_forget (fun q hq => Nat.le_trans h1 (hS.2.2 q hq)) (W.widen hc hs (L_ret hx hb hr hlk hdg)))
theorem L_fit {d mc ms : Nat} (hL : x_nL Mc ≤ 81) (hd : d ≤ 800) (hc : cells + mc ≤ 601024) (hs : slots + ms ≤ 7293034) : x_fit (L_Z G ad0 nb0) cells slots Mc d mc ms := by
  refine ⟨?_, ?_, hc, hs⟩
  · show d + 1 ≤ 2048
    omega
  · show 8 + (x_nL Mc + 11) + 100 * d ≤ 84000
    omega
/-- an entry of the script -/
theorem X_scr {p1 p2 p3 p4 p5 t1 t2 t3 t4 t5 c n i : Nat} {ins : Instr} {xs : Nat → Int32} (d1 : x_at (x_k mL_law) pc = some (.aload_n 0, p1, t1)) (d2 : x_at (x_k mL_law) p1 = some (.iload 4, p2, t2)) (d3 : x_at (x_k mL_law) p2 = some (ins, p3, t3)) (hp : x_push ins = some (.int (nI c))) (d4 : x_at (x_k mL_law) p3 = some (.iadd, p4, t4)) (d5 : x_at (x_k mL_law) p4 = some (.iaload, p5, t5)) (h56 : N 56 = some (.inr (false, .int, n, fun j => .int (xs j)))) (hl0 : x_loc L 0 = some (.ref 56)) (hl4 : x_loc L 4 = some (.int (nI i))) (hic : i + c < n) (hn : n < 2147483648) (kk : x_W G mL_law (L_Z G ad0 nb0) N cells slots p5 L (.int (xs (i + c)) :: st)) : x_W G mL_law (L_Z G ad0 nb0) N cells slots pc L st := by
  refine X_ld d1 rfl hl0 rfl ?_
  refine X_ld d2 rfl hl4 rfl ?_
  refine X_push d3 hp ?_
  refine X_bin d4 rfl ?_
  refine X_iald d5 h56 ?_ (v := .int (xs (i + c))) ?_ kk
  · rw [nI_add]
    exact vp_in_nI hic hn
  · rw [nI_add, nI_clamp (by omega)]
/-- a call on the reference -/
theorem X_Lr {X : XH} {I : Nat → Int32} {T : Int64} {S : Nat → Nat → Int32} {rd tx gv pl : Nat → Int32} {idx n d : Nat} {As rest : List Value} {Qn : XH → Option Value → Prop} (hk : x_LV RL idx n Mc) (hcl : (x_y Mc).cls = RX11) (hM : x_M G Mc d 0 0 (.ref 275 :: As) (mset X I T S rd tx gv pl) Qn x_noX) (hd : x_at (x_k mL_law) pc = some (.invokevirtual idx, pc', t)) (hst : st = As.reverse ++ .ref 275 :: rest) (hn : As.length = n) (hrest : (rest.map fun v => v.category).sum ≤ 8) (hL : x_nL Mc ≤ 81) (hdd : d ≤ 800) (hc : cells ≤ 601024) (hs : slots ≤ 7293034) (kk : ∀ (N' : XH) (r : Option Value), Qn N' r → x_W G mL_law (L_Z G ad0 nb0) N' cells slots pc' L (r.toList ++ rest)) : x_W G mL_law (L_Z G ad0 nb0) (mset X I T S rd tx gv pl) cells slots pc L st :=
  X_callV (T := TX11) (nf := 20) hk hM hd hst rfl (by rw [hcl]; rfl) hn hrest (L_fit hL hdd hc hs) (fun _ _ h => h.elim) (fun N' r h => kk N' r h)
/-- a call on the class -/
theorem X_Lc {B : XH} {J bf K tk ts : Nat → Int32} {tl : Int64} {tv : Nat → Int64} {su : Nat → Nat} {D : Nat → Nat → Int32} {idx n d mc ms : Nat} {As rest : List Value} {Qn : XH → Option Value → Prop} (hk : x_LV RL idx n Mc) (hcl : (x_y Mc).cls = RX10) (hM : x_M G Mc d mc ms (.ref 64 :: As) (cset B J bf K tk ts tl tv su D) Qn x_noX) (hd : x_at (x_k mL_law) pc = some (.invokevirtual idx, pc', t)) (hst : st = As.reverse ++ .ref 64 :: rest) (hn : As.length = n) (hrest : (rest.map fun v => v.category).sum ≤ 8) (hL : x_nL Mc ≤ 81) (hdd : d ≤ 800) (hc : cells + mc ≤ 601024) (hs : slots + ms ≤ 7293034) (kk : ∀ (N' : XH) (r : Option Value), Qn N' r → x_W G mL_law (L_Z G ad0 nb0) N' (cells + mc) (slots + ms) pc' L (r.toList ++ rest)) : x_W G mL_law (L_Z G ad0 nb0) (cset B J bf K tk ts tl tv su D) cells slots pc L st :=
  X_callV (T := TX10) (nf := 7) hk hM hd hst c_O (by rw [hcl]; rfl) hn hrest (L_fit hL hdd hc hs) (fun _ _ h => h.elim) (fun N' r h => kk N' r h)
/-- a call of a wrapper -/
theorem X_Lw {idx n d mc ms : Nat} {As rest : List Value} {Qn : XH → Option Value → Prop} (hk : x_LSX RL idx n Mc) (hM : x_M G Mc d mc ms As N Qn x_noX) (hd : x_at (x_k mL_law) pc = some (.invokestatic idx, pc', t)) (hst : st = As.reverse ++ rest) (hn : As.length = n) (hrest : (rest.map fun v => v.category).sum ≤ 8) (hL : x_nL Mc ≤ 81) (hdd : d ≤ 800) (hc : cells + mc ≤ 601024) (hs : slots + ms ≤ 7293034) (kk : ∀ (N' : XH) (r : Option Value), Qn N' r → x_W G mL_law (L_Z G ad0 nb0) N' (cells + mc) (slots + ms) pc' L (r.toList ++ rest)) : x_W G mL_law (L_Z G ad0 nb0) N cells slots pc L st :=
  X_callSX hk hM hd hst hn hrest (L_fit hL hdd hc hs) (fun _ _ h => h.elim) (fun N' r h => kk N' r h)
end LAW
/-- what holds between the law's calls: t of them are made, b bytes lie in the buffers -/
def L_I (n : Nat) (xs : Nat → Int32) (t b : Nat) (N : XH) : Prop := ∃ (B : XH) (ov : Int64) (I : Nat → Int32) (T : Int64) (S : Nat → Nat → Int32) (rd tx gv : Nat → Int32) (P : Nat → Bool) (J bf K tk ts : Nat → Int32) (tl : Int64) (tv : Nat → Int64) (su : Nat → Nat) (D : Nat → Nat → Int32) (w v u : Nat),
  N = cset (L_X B ov I T S rd tx gv P) J bf K tk ts tl tv su D ∧ L_B B n xs ∧ (I 3 = nI v ∧ v < 9 ∧ I 4 = nI u ∧ u ≤ 8 ∧ I 6 = nI b ∧ b ≤ 800) ∧ (J 5 = nI w ∧ w < 10 ∧ J 6 = nI u ∧ J 1 = nI b ∧ J 2 = I 7) ∧ s_rtx tx bf b ∧ L_rg B t w v u S D su
theorem L_I0 {I : Nat → Int32} {v u b : Nat} {a : Int32} (h : I 3 = nI v ∧ v < 9 ∧ I 4 = nI u ∧ u ≤ 8 ∧ I 6 = nI b ∧ b ≤ 800) : upd I 0 a 3 = nI v ∧ v < 9 ∧ upd I 0 a 4 = nI u ∧ u ≤ 8 ∧ upd I 0 a 6 = nI b ∧ b ≤ 800 := ⟨(updI_ne (by decide)).trans h.1, h.2.1, (updI_ne (by decide)).trans h.2.2.1, h.2.2.2.1, (updI_ne (by decide)).trans h.2.2.2.2.1, h.2.2.2.2.2⟩
theorem L_I0J {I J : Nat → Int32} {w u b : Nat} {a : Int32} (h : J 5 = nI w ∧ w < 10 ∧ J 6 = nI u ∧ J 1 = nI b ∧ J 2 = I 7) : J 5 = nI w ∧ w < 10 ∧ J 6 = nI u ∧ J 1 = nI b ∧ J 2 = upd I 0 a 7 := ⟨h.1, h.2.1, h.2.2.1, h.2.2.2.1, h.2.2.2.2.trans (updI_ne (by decide)).symm⟩
/-- the law's locals at its loop's head -/
abbrev L_l (t : Nat) : List (Option Value) := [some (.ref 56), some (.ref 64), some (.ref 275), some (.ref 281), some (.int (nI (7 * t))), none, none, none]
