/-! ===== the class: Data and Usage, the small methods ===== -/
section CROWS2
variable {B : XH} {J bf K tk ts : Nat → Int32} {tl : Int64} {tv : Nat → Int64} {su : Nat → Nat} {D : Nat → Nat → Int32} {c : Nat → Int32} {i s k : Nat} {x : Int32}
theorem r_D (hi : i < 10) (e : D i = c) : cset B J bf K tk ts tl tv su D (75 + 20 * i) = some (.inl (3, dV (su i) i c)) := by subst e; exact c_D hi
theorem r_A (hi : i < 10) (e : D i = c) : cset B J bf K tk ts tl tv su D (75 + 20 * i + 1) = some (.inr (true, .int, 200, cI 200 75 1 0 c)) := by subst e; exact c_A hi
theorem r_X (hi : i < 10) (e : D i = c) : cset B J bf K tk ts tl tv su D (75 + 20 * i + 2) = some (.inr (true, .boolean, 5, cI 5 10 13 9 c)) := by subst e; exact c_X hi
theorem r_S (hi : i < 10) (e : D i = c) : cset B J bf K tk ts tl tv su D (75 + 20 * i + 3) = some (.inl (7, sV i c)) := by subst e; exact c_S hi
theorem r_S4 (hi : i < 10) (e : D i = c) : cset B J bf K tk ts tl tv su D (75 + 20 * i + 4) = some (.inr (true, .int, 5, cI 5 10 13 10 c)) := by subst e; exact c_S4 hi
theorem r_S5 (hi : i < 10) (e : D i = c) : cset B J bf K tk ts tl tv su D (75 + 20 * i + 5) = some (.inr (true, .int, 5, cI 5 10 13 11 c)) := by subst e; exact c_S5 hi
theorem r_S6 (hi : i < 10) (e : D i = c) : cset B J bf K tk ts tl tv su D (75 + 20 * i + 6) = some (.inr (true, .int, 5, cI 5 10 13 12 c)) := by subst e; exact c_S6 hi
theorem r_U (hi : i < 10) (e : D i = c) : cset B J bf K tk ts tl tv su D (75 + 20 * i + 7) = some (.inr (true, .object "PreparedPlans$Usage", 6, fun j => .ref (75 + 20 * i + (8 + 2 * j)))) := by subst e; exact c_U hi
theorem r_u (hi : i < 10) (hs : s < 6) (e : D i = c) : cset B J bf K tk ts tl tv su D (75 + 20 * i + (8 + 2 * s)) = some (.inl (9, uV i s c)) := by subst e; exact c_u hi hs
theorem r_p (hi : i < 10) (hs : s < 6) (e : D i = c) : cset B J bf K tk ts tl tv su D (75 + 20 * i + (9 + 2 * s)) = some (.inr (true, .int, 5, cI 5 (275 + 30 * s) 1 21 c)) := by subst e; exact c_p hi hs
theorem updS_R {p : Nat} : updS (updR D i c) i p x = updR D i (upd c p x) := by
  show updR (updR D i c) i (upd (updR D i c i) p x) = _
  rw [updR_updR, updR_eq]
theorem w_D1 (hi : i < 10) : x_set (cset B J bf K tk ts tl tv su (updR D i c)) (75 + 20 * i) (.inl (3, updV (dV (su i) i c) 1 (.int x))) = cset B J bf K tk ts tl tv su (updR D i (upd c 1 x)) := by
  have h := p_D1 hi (B := B) (J := J) (bf := bf) (K := K) (tk := tk) (ts := ts) (tl := tl) (tv := tv) (su := su) (D := updR D i c) (x := x)
  rw [updS_R] at h
  rw [updR_eq] at h
  exact h
theorem w_D3 (hi : i < 10) : x_set (cset B J bf K tk ts tl tv su (updR D i c)) (75 + 20 * i) (.inl (3, updV (dV (su i) i c) 2 (.int x))) = cset B J bf K tk ts tl tv su (updR D i (upd c 3 x)) := by
  have h := p_D3 hi (B := B) (J := J) (bf := bf) (K := K) (tk := tk) (ts := ts) (tl := tl) (tv := tv) (su := su) (D := updR D i c) (x := x)
  rw [updS_R] at h
  rw [updR_eq] at h
  exact h
theorem w_A (hi : i < 10) (hk : k < 200) : x_set (cset B J bf K tk ts tl tv su (updR D i c)) (75 + 20 * i + 1) (.inr (true, .int, 200, updV (cI 200 75 1 0 c) k (.int x))) = cset B J bf K tk ts tl tv su (updR D i (upd c (75 + k) x)) := by
  have h := p_A hi hk (B := B) (J := J) (bf := bf) (K := K) (tk := tk) (ts := ts) (tl := tl) (tv := tv) (su := su) (D := updR D i c) (x := x)
  rw [updS_R] at h
  rw [updR_eq] at h
  exact h
theorem w_X (hi : i < 10) (hk : k < 5) : x_set (cset B J bf K tk ts tl tv su (updR D i c)) (75 + 20 * i + 2) (.inr (true, .boolean, 5, updV (cI 5 10 13 9 c) k (.int x))) = cset B J bf K tk ts tl tv su (updR D i (upd c (10 + 13 * k + 9) x)) := by
  have h := p_X hi hk (B := B) (J := J) (bf := bf) (K := K) (tk := tk) (ts := ts) (tl := tl) (tv := tv) (su := su) (D := updR D i c) (x := x)
  rw [updS_R] at h
  rw [updR_eq] at h
  exact h
theorem w_S (hi : i < 10) : x_set (cset B J bf K tk ts tl tv su (updR D i c)) (75 + 20 * i + 3) (.inl (7, updV (sV i c) 0 (.int x))) = cset B J bf K tk ts tl tv su (updR D i (upd c 8 x)) := by
  have h := p_S hi (B := B) (J := J) (bf := bf) (K := K) (tk := tk) (ts := ts) (tl := tl) (tv := tv) (su := su) (D := updR D i c) (x := x)
  rw [updS_R] at h
  rw [updR_eq] at h
  exact h
theorem w_S4 (hi : i < 10) (hk : k < 5) : x_set (cset B J bf K tk ts tl tv su (updR D i c)) (75 + 20 * i + 4) (.inr (true, .int, 5, updV (cI 5 10 13 10 c) k (.int x))) = cset B J bf K tk ts tl tv su (updR D i (upd c (10 + 13 * k + 10) x)) := by
  have h := p_S4 hi hk (B := B) (J := J) (bf := bf) (K := K) (tk := tk) (ts := ts) (tl := tl) (tv := tv) (su := su) (D := updR D i c) (x := x)
  rw [updS_R] at h
  rw [updR_eq] at h
  exact h
theorem w_S5 (hi : i < 10) (hk : k < 5) : x_set (cset B J bf K tk ts tl tv su (updR D i c)) (75 + 20 * i + 5) (.inr (true, .int, 5, updV (cI 5 10 13 11 c) k (.int x))) = cset B J bf K tk ts tl tv su (updR D i (upd c (10 + 13 * k + 11) x)) := by
  have h := p_S5 hi hk (B := B) (J := J) (bf := bf) (K := K) (tk := tk) (ts := ts) (tl := tl) (tv := tv) (su := su) (D := updR D i c) (x := x)
  rw [updS_R] at h
  rw [updR_eq] at h
  exact h
theorem w_S6 (hi : i < 10) (hk : k < 5) : x_set (cset B J bf K tk ts tl tv su (updR D i c)) (75 + 20 * i + 6) (.inr (true, .int, 5, updV (cI 5 10 13 12 c) k (.int x))) = cset B J bf K tk ts tl tv su (updR D i (upd c (10 + 13 * k + 12) x)) := by
  have h := p_S6 hi hk (B := B) (J := J) (bf := bf) (K := K) (tk := tk) (ts := ts) (tl := tl) (tv := tv) (su := su) (D := updR D i c) (x := x)
  rw [updS_R] at h
  rw [updR_eq] at h
  exact h
theorem w_u (hi : i < 10) (hs : s < 6) (hk : k < 8) : x_set (cset B J bf K tk ts tl tv su (updR D i c)) (75 + 20 * i + (8 + 2 * s)) (.inl (9, updV (uV i s c) k (.int x))) = cset B J bf K tk ts tl tv su (updR D i (upd c (275 + 30 * s + uP k) x)) := by
  have h := p_u hi hs hk (B := B) (J := J) (bf := bf) (K := K) (tk := tk) (ts := ts) (tl := tl) (tv := tv) (su := su) (D := updR D i c) (x := x)
  rw [updS_R] at h
  rw [updR_eq] at h
  exact h
theorem w_p (hi : i < 10) (hs : s < 6) (hk : k < 5) : x_set (cset B J bf K tk ts tl tv su (updR D i c)) (75 + 20 * i + (9 + 2 * s)) (.inr (true, .int, 5, updV (cI 5 (275 + 30 * s) 1 21 c) k (.int x))) = cset B J bf K tk ts tl tv su (updR D i (upd c (275 + 30 * s + (21 + k)) x)) := by
  have h := p_p hi hs hk (B := B) (J := J) (bf := bf) (K := K) (tk := tk) (ts := ts) (tl := tl) (tv := tv) (su := su) (D := updR D i c) (x := x)
  rw [updS_R] at h
  rw [updR_eq] at h
  exact h
variable {G : XE} {M : XMI} {Z : XZ} {cells slots pc pc' t : Nat} {L : List (Option Value)} {st : List Value}
theorem X_Aald {j : Int32} (hi : i < 10) (e : D i = c) (hj : j = nI k) (hk : k < 200) (hd : x_at (x_k M) pc = some (.iaload, pc', t)) (kk : x_W G M Z (cset B J bf K tk ts tl tv su D) cells slots pc' L (.int (c (75 + k)) :: st)) : x_W G M Z (cset B J bf K tk ts tl tv su D) cells slots pc L (.int j :: .ref (75 + 20 * i + 1) :: st) := by
  have ej : j.toNatClampNeg = k := by rw [hj]; exact nI_clamp (by omega)
  refine X_iald hd (r_A hi e) (by rw [hj]; exact vp_in_nI hk (by omega)) (v := .int (c (75 + k))) ?_ kk
  rw [ej, cI_at hk] <;> exact congrArg (fun q => Value.int (c q)) (by omega)
theorem X_Aast {j : Int32} (hi : i < 10) (e : D i = c) (hj : j = nI k) (hk : k < 200) (hd : x_at (x_k M) pc = some (.iastore, pc', t)) (kk : x_W G M Z (cset B J bf K tk ts tl tv su (updR D i (upd c (75 + k) x))) cells slots pc' L st) : x_W G M Z (cset B J bf K tk ts tl tv su D) cells slots pc L (.int x :: .int j :: .ref (75 + 20 * i + 1) :: st) := by
  have ej : j.toNatClampNeg = k := by rw [hj]; exact nI_clamp (by omega)
  refine X_iast hd (r_A hi e) (by rw [hj]; exact vp_in_nI hk (by omega)) ?_
  have eD : D = updR D i c := by rw [← e]; exact updR_self
  rw [ej, eD, w_A hi hk]
  exact kk
theorem X_Xald {j : Int32} (hi : i < 10) (e : D i = c) (hj : j = nI k) (hk : k < 5) (hd : x_at (x_k M) pc = some (.baload, pc', t)) (kk : x_W G M Z (cset B J bf K tk ts tl tv su D) cells slots pc' L (.int (c (10 + 13 * k + 9)) :: st)) : x_W G M Z (cset B J bf K tk ts tl tv su D) cells slots pc L (.int j :: .ref (75 + 20 * i + 2) :: st) := by
  have ej : j.toNatClampNeg = k := by rw [hj]; exact nI_clamp (by omega)
  refine X_zald hd (r_X hi e) (by rw [hj]; exact vp_in_nI hk (by omega)) (v := .int (c (10 + 13 * k + 9))) ?_ kk
  rw [ej, cI_at hk] <;> exact congrArg (fun q => Value.int (c q)) (by omega)
theorem X_Xast {j : Int32} (hi : i < 10) (e : D i = c) (hj : j = nI k) (hk : k < 5) (hx : narrow .boolean (.int x) = .int x) (hd : x_at (x_k M) pc = some (.bastore, pc', t)) (kk : x_W G M Z (cset B J bf K tk ts tl tv su (updR D i (upd c (10 + 13 * k + 9) x))) cells slots pc' L st) : x_W G M Z (cset B J bf K tk ts tl tv su D) cells slots pc L (.int x :: .int j :: .ref (75 + 20 * i + 2) :: st) := by
  have ej : j.toNatClampNeg = k := by rw [hj]; exact nI_clamp (by omega)
  refine X_zast hd (r_X hi e) (by rw [hj]; exact vp_in_nI hk (by omega)) hx ?_
  have eD : D = updR D i c := by rw [← e]; exact updR_self
  rw [ej, eD, w_X hi hk]
  exact kk
theorem X_4ald {j : Int32} (hi : i < 10) (e : D i = c) (hj : j = nI k) (hk : k < 5) (hd : x_at (x_k M) pc = some (.iaload, pc', t)) (kk : x_W G M Z (cset B J bf K tk ts tl tv su D) cells slots pc' L (.int (c (10 + 13 * k + 10)) :: st)) : x_W G M Z (cset B J bf K tk ts tl tv su D) cells slots pc L (.int j :: .ref (75 + 20 * i + 4) :: st) := by
  have ej : j.toNatClampNeg = k := by rw [hj]; exact nI_clamp (by omega)
  refine X_iald hd (r_S4 hi e) (by rw [hj]; exact vp_in_nI hk (by omega)) (v := .int (c (10 + 13 * k + 10))) ?_ kk
  rw [ej, cI_at hk] <;> exact congrArg (fun q => Value.int (c q)) (by omega)
theorem X_4ast {j : Int32} (hi : i < 10) (e : D i = c) (hj : j = nI k) (hk : k < 5) (hd : x_at (x_k M) pc = some (.iastore, pc', t)) (kk : x_W G M Z (cset B J bf K tk ts tl tv su (updR D i (upd c (10 + 13 * k + 10) x))) cells slots pc' L st) : x_W G M Z (cset B J bf K tk ts tl tv su D) cells slots pc L (.int x :: .int j :: .ref (75 + 20 * i + 4) :: st) := by
  have ej : j.toNatClampNeg = k := by rw [hj]; exact nI_clamp (by omega)
  refine X_iast hd (r_S4 hi e) (by rw [hj]; exact vp_in_nI hk (by omega)) ?_
  have eD : D = updR D i c := by rw [← e]; exact updR_self
  rw [ej, eD, w_S4 hi hk]
  exact kk
theorem X_5ald {j : Int32} (hi : i < 10) (e : D i = c) (hj : j = nI k) (hk : k < 5) (hd : x_at (x_k M) pc = some (.iaload, pc', t)) (kk : x_W G M Z (cset B J bf K tk ts tl tv su D) cells slots pc' L (.int (c (10 + 13 * k + 11)) :: st)) : x_W G M Z (cset B J bf K tk ts tl tv su D) cells slots pc L (.int j :: .ref (75 + 20 * i + 5) :: st) := by
  have ej : j.toNatClampNeg = k := by rw [hj]; exact nI_clamp (by omega)
  refine X_iald hd (r_S5 hi e) (by rw [hj]; exact vp_in_nI hk (by omega)) (v := .int (c (10 + 13 * k + 11))) ?_ kk
  rw [ej, cI_at hk] <;> exact congrArg (fun q => Value.int (c q)) (by omega)
theorem X_5ast {j : Int32} (hi : i < 10) (e : D i = c) (hj : j = nI k) (hk : k < 5) (hd : x_at (x_k M) pc = some (.iastore, pc', t)) (kk : x_W G M Z (cset B J bf K tk ts tl tv su (updR D i (upd c (10 + 13 * k + 11) x))) cells slots pc' L st) : x_W G M Z (cset B J bf K tk ts tl tv su D) cells slots pc L (.int x :: .int j :: .ref (75 + 20 * i + 5) :: st) := by
  have ej : j.toNatClampNeg = k := by rw [hj]; exact nI_clamp (by omega)
  refine X_iast hd (r_S5 hi e) (by rw [hj]; exact vp_in_nI hk (by omega)) ?_
  have eD : D = updR D i c := by rw [← e]; exact updR_self
  rw [ej, eD, w_S5 hi hk]
  exact kk
theorem X_6ald {j : Int32} (hi : i < 10) (e : D i = c) (hj : j = nI k) (hk : k < 5) (hd : x_at (x_k M) pc = some (.iaload, pc', t)) (kk : x_W G M Z (cset B J bf K tk ts tl tv su D) cells slots pc' L (.int (c (10 + 13 * k + 12)) :: st)) : x_W G M Z (cset B J bf K tk ts tl tv su D) cells slots pc L (.int j :: .ref (75 + 20 * i + 6) :: st) := by
  have ej : j.toNatClampNeg = k := by rw [hj]; exact nI_clamp (by omega)
  refine X_iald hd (r_S6 hi e) (by rw [hj]; exact vp_in_nI hk (by omega)) (v := .int (c (10 + 13 * k + 12))) ?_ kk
  rw [ej, cI_at hk] <;> exact congrArg (fun q => Value.int (c q)) (by omega)
theorem X_6ast {j : Int32} (hi : i < 10) (e : D i = c) (hj : j = nI k) (hk : k < 5) (hd : x_at (x_k M) pc = some (.iastore, pc', t)) (kk : x_W G M Z (cset B J bf K tk ts tl tv su (updR D i (upd c (10 + 13 * k + 12) x))) cells slots pc' L st) : x_W G M Z (cset B J bf K tk ts tl tv su D) cells slots pc L (.int x :: .int j :: .ref (75 + 20 * i + 6) :: st) := by
  have ej : j.toNatClampNeg = k := by rw [hj]; exact nI_clamp (by omega)
  refine X_iast hd (r_S6 hi e) (by rw [hj]; exact vp_in_nI hk (by omega)) ?_
  have eD : D = updR D i c := by rw [← e]; exact updR_self
  rw [ej, eD, w_S6 hi hk]
  exact kk
theorem X_pald {j : Int32} (hi : i < 10) (hs : s < 6) (e : D i = c) (hj : j = nI k) (hk : k < 5) (hd : x_at (x_k M) pc = some (.iaload, pc', t)) (kk : x_W G M Z (cset B J bf K tk ts tl tv su D) cells slots pc' L (.int (c (275 + 30 * s + (21 + k))) :: st)) : x_W G M Z (cset B J bf K tk ts tl tv su D) cells slots pc L (.int j :: .ref (75 + 20 * i + (9 + 2 * s)) :: st) := by
  have ej : j.toNatClampNeg = k := by rw [hj]; exact nI_clamp (by omega)
  refine X_iald hd (r_p hi hs e) (by rw [hj]; exact vp_in_nI hk (by omega)) (v := .int (c (275 + 30 * s + (21 + k)))) ?_ kk
  rw [ej, cI_at hk] <;> exact congrArg (fun q => Value.int (c q)) (by omega)
theorem X_past {j : Int32} (hi : i < 10) (hs : s < 6) (e : D i = c) (hj : j = nI k) (hk : k < 5) (hd : x_at (x_k M) pc = some (.iastore, pc', t)) (kk : x_W G M Z (cset B J bf K tk ts tl tv su (updR D i (upd c (275 + 30 * s + (21 + k)) x))) cells slots pc' L st) : x_W G M Z (cset B J bf K tk ts tl tv su D) cells slots pc L (.int x :: .int j :: .ref (75 + 20 * i + (9 + 2 * s)) :: st) := by
  have ej : j.toNatClampNeg = k := by rw [hj]; exact nI_clamp (by omega)
  refine X_iast hd (r_p hi hs e) (by rw [hj]; exact vp_in_nI hk (by omega)) ?_
  have eD : D = updR D i c := by rw [← e]; exact updR_self
  rw [ej, eD, w_p hi hs hk]
  exact kk
theorem X_uald {j : Int32} (hi : i < 10) (e : D i = c) (hj : j = nI k) (hk : k < 6) (hd : x_at (x_k M) pc = some (.aaload, pc', t)) (kk : x_W G M Z (cset B J bf K tk ts tl tv su D) cells slots pc' L (.ref (75 + 20 * i + (8 + 2 * k)) :: st)) : x_W G M Z (cset B J bf K tk ts tl tv su D) cells slots pc L (.int j :: .ref (75 + 20 * i + 7) :: st) := by
  have ej : j.toNatClampNeg = k := by rw [hj]; exact nI_clamp (by omega)
  refine X_aald hd (r_U hi e) rfl (by rw [hj]; exact vp_in_nI hk (by omega)) (v := .ref (75 + 20 * i + (8 + 2 * k))) ?_ kk
  rw [ej]
end CROWS2
section VCALL
variable {G : XE} {M Mc : XMI} {d mc ms nb0 : Nat} {ad0 : Nat → Nat} {Qn : XH → Option Value → Prop} {Qx : XH → String → Prop} {N N1 : XH} {cells slots pc pc' t : Nat} {L : List (Option Value)}
theorem X_vcall {idx n d' mc' ms' o ci nf : Nat} {T : u_T} {V : Nat → Value} {st As rest : List Value} {v : Value} (hN : N o = some (.inl (ci, V))) (hk : x_LV (x_own M) idx n Mc) (hM : x_M G Mc d' mc' ms' (.ref o :: As) N (x_Ret N1 v) x_noX)
    (hd : x_at (x_k M) pc = some (.invokevirtual idx, pc', t)) (hst : st = As.reverse ++ .ref o :: rest) (hci : vwCl[ci]? = some ((x_y Mc).cls, T, nf)) (hn : As.length = n) (hrest : (rest.map fun v => v.category).sum ≤ 8) (hL : x_nL Mc ≤ 81) (hdd : d' + 1 ≤ d) (h1 : cells + mc' ≤ mc) (h2 : slots + ms' ≤ ms)
    (kk : x_W G M (x_Z G d mc ms ad0 nb0 Qn Qx) N1 (cells + mc') (slots + ms') pc' L (v :: rest)) : x_W G M (x_Z G d mc ms ad0 nb0 Qn Qx) N cells slots pc L st :=
  X_callV (T := T) (nf := nf) hk hM hd hst hN hci hn hrest (x_fit_of hL hdd h1 h2) (fun _ _ h => h.elim) (fun N' r h => by obtain ⟨rfl, rfl⟩ := h; exact kk)
theorem X_vcallv {idx n d' mc' ms' o ci nf : Nat} {T : u_T} {V : Nat → Value} {st As rest : List Value} (hN : N o = some (.inl (ci, V))) (hk : x_LV (x_own M) idx n Mc) (hM : x_M G Mc d' mc' ms' (.ref o :: As) N (x_RetV N1) x_noX)
    (hd : x_at (x_k M) pc = some (.invokevirtual idx, pc', t)) (hst : st = As.reverse ++ .ref o :: rest) (hci : vwCl[ci]? = some ((x_y Mc).cls, T, nf)) (hn : As.length = n) (hrest : (rest.map fun v => v.category).sum ≤ 8) (hL : x_nL Mc ≤ 81) (hdd : d' + 1 ≤ d) (h1 : cells + mc' ≤ mc) (h2 : slots + ms' ≤ ms)
    (kk : x_W G M (x_Z G d mc ms ad0 nb0 Qn Qx) N1 (cells + mc') (slots + ms') pc' L rest) : x_W G M (x_Z G d mc ms ad0 nb0 Qn Qx) N cells slots pc L st :=
  X_callV (T := T) (nf := nf) hk hM hd hst hN hci hn hrest (x_fit_of hL hdd h1 h2) (fun _ _ h => h.elim) (fun N' r h => by obtain ⟨rfl, rfl⟩ := h; exact kk)
end VCALL
