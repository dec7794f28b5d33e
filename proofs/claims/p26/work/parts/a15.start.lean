/-! ===== the text's letters, the row that is read, the cells under their names (by hand) ===== -/
def qF0 : Nat → Int32 := upd (upd (fun _ => 0) 15 100) 18 (-2)
def qF (m sc pr fe tr : Nat) : Nat → Int32 := upd (upd (upd (upd (upd qF0 2 (nI m)) 8 (nI sc)) 9 (nI pr)) 10 (nI fe)) 11 (nI tr)
def qA (f : Nat → Nat) (m : Nat) : Nat → Int32 := fun j => if j < m then nI (f j) else 0
theorem qA_s {f : Nat → Nat} {m : Nat} : upd (qA f m) m (nI (f m)) = qA f (m + 1) := by
  funext j
  unfold upd qA
  by_cases h : j = m
  · rw [if_pos h, if_pos (by omega), h]
  · rw [if_neg h]
    by_cases h2 : j < m
    · rw [if_pos h2, if_pos (by omega)]
    · rw [if_neg h2, if_neg (by omega)]
theorem qF_md0 {rd : Nat → Int32} {m oo sc pr fe tr : Nat} {xa xb : Nat → Nat} {l : Bool} (hq : q_fin rd m xa xb (md_s l) oo sc pr fe tr) (hu : s_usg rd 1) (hm : m ≤ 40) : md0 rd (qF m sc pr fe tr) (qA xa m) (qA xb m) l oo := by
  obtain ⟨⟨a0, a1, a2, a3, a4, a5, a6, a7⟩, ⟨b0, b1, b2, b3, b4, b5, b6⟩, hv, ⟨c0, c1, c2, c3, c4, c5⟩, ⟨d0, d1, d2, d3, d4, d5⟩, ⟨e0, e1, e2, e3, e4, e5⟩, f0, f1⟩ := hq
  obtain ⟨hu1, -⟩ := hu
  obtain ⟨u14, u21, ux⟩ := hu1 0 (by decide)
  refine ⟨fun k k2 k21 hk => ?_, fun p hp => ?_, m, hm, rfl, fun q hq => ?_⟩
  · rcases (show k = 2 ∨ k = 7 ∨ k = 8 ∨ k = 9 ∨ k = 10 ∨ k = 11 ∨ k = 12 ∨ k = 13 ∨ k = 14 ∨ k = 15 ∨ k = 16 ∨ k = 17 ∨ k = 18 ∨ k = 19 ∨ k = 20 by omega) with e | e | e | e | e | e | e | e | e | e | e | e | e | e | e <;> subst e
    · exact a1
    · exact a3
    · exact a4
    · exact a5
    · exact a6
    · exact a7
    · exact ux 8 (by omega)
    · exact ux 9 (by omega)
    · exact ux 10 (by omega)
    · exact u21 0 (by omega)
    · exact ux 11 (by omega)
    · exact ux 13 (by omega)
    · exact u14
    · exact ux 15 (by omega)
    · exact ux 16 (by omega)
  · simp only [fx, List.mem_cons, List.not_mem_nil, or_false] at hp
    rcases hp with e | e | e | e | e | e | e | e | e | e | e | e | e | e | e | e | e | e | e | e | e | e | e | e | e | e | e | e | e | e <;> subst e
    · exact a0
    · exact a2
    · exact b0
    · exact b1
    · exact b2
    · exact b3
    · exact c0
    · exact c1
    · exact c2
    · exact c3
    · exact u21 1 (by omega)
    · exact c4
    · exact c5
    · exact d0
    · exact d1
    · exact d2
    · exact d3
    · exact d4
    · exact d5
    · exact e0
    · exact e1
    · exact e2
    · exact e3
    · exact e4
    · exact e5
    · exact f0
    · exact f1
    · exact b4
    · exact b5
    · exact b6
  · unfold qA
    rw [if_pos hq, if_pos hq]
    exact hv q hq
theorem lat_app {a b : List Int32} (ha : lat a) (hb : lat b) : lat (a ++ b) := by
  intro j hj
  rw [List.length_append] at hj
  by_cases h : j < a.length
  · rw [l_getD_l h]; exact ha j h
  · rw [l_getD_r (by omega)]; exact hb _ (by omega)
theorem lat_dg {k : Nat} (hk : k < 12) : lat (dg k) ∧ (dg k).length ≤ 2 := by
  have h : ∀ k, k < 12 → (∀ j, j < (dg k).length → (0 : Int32) ≤ (dg k).getD j 0 ∧ (dg k).getD j 0 ≤ 127) ∧ (dg k).length ≤ 2 := by decide +kernel
  exact h k hk
theorem lat_st : ∀ i, i < 6 → lat (x_st i) := by
  have h : ∀ i, i < 6 → ∀ j, j < (x_st i).length → (0 : Int32) ≤ (x_st i).getD j 0 ∧ (x_st i).getD j 0 ≤ 127 := by decide +kernel
  exact h
theorem lat_1 {c : Int32} (h : (0 : Int32) ≤ c ∧ c ≤ 127) : lat [c] := by
  intro j hj
  have e : j = 0 := by
    have : j < 1 := hj
    omega
  subst e
  exact h
theorem q_rows_lat {xa xb : Nat → Nat} (h : ∀ k, xa k < 12 ∧ xb k < 12) : ∀ m, lat (q_rows xa xb m) ∧ (q_rows xa xb m).length ≤ 46 + 10 * m
  | 0 => ⟨lat_st 0 (by decide), Nat.le_of_eq rfl⟩
  | m + 1 => by
    obtain ⟨h1, h2⟩ := q_rows_lat h m
    have ha := lat_dg (h m).1
    have hb := lat_dg (h m).2
    refine ⟨lat_app (lat_app (lat_app (lat_app (lat_app h1 (lat_st 1 (by decide))) ha.1) (lat_1 (by decide))) hb.1) (lat_1 (by decide)), ?_⟩
    rw [q_rows_s, List.length_append, q_rw_l]
    omega
theorem q_txt_lat {xa xb : Nat → Nat} {m oo sc pr fe tr : Nat} {l : Bool} (h : ∀ k, xa k < 12 ∧ xb k < 12) (hm : m ≤ 12) (h0 : oo < 12) (h1 : sc < 12) (h2 : pr < 12) (h3 : fe < 12) (h4 : tr < 12) : lat (q_txt xa xb m (md_s l) oo sc pr fe tr) ∧ (q_txt xa xb m (md_s l) oo sc pr fe tr).length ≤ 300 := by
  obtain ⟨r1, r2⟩ := q_rows_lat h m
  have hs : lat [md_s l] := lat_1 (by cases l <;> decide)
  have g0 := lat_dg h0
  have g1 := lat_dg h1
  have g2 := lat_dg h2
  have g3 := lat_dg h3
  have g4 := lat_dg h4
  have sp : lat [32] := lat_1 (by decide)
  refine ⟨lat_app (lat_app (lat_app (lat_app (lat_app (lat_app (lat_app (lat_app (lat_app (lat_app (lat_app (lat_app (lat_app (r1) (lat_st 2 (by decide))) (hs)) (lat_st 3 (by decide))) (g0.1)) (lat_st 4 (by decide))) (g1.1)) (sp)) (g2.1)) (sp)) (g3.1)) (lat_st 5 (by decide))) (g4.1)) (lat_1 (by decide)), ?_⟩
  have e2 : (x_st 2).length = 12 := rfl
  have e3 : (x_st 3).length = 14 := rfl
  have e4 : (x_st 4).length = 6 := rfl
  have e5 : (x_st 5).length = 7 := rfl
  unfold q_txt
  simp only [List.length_append, List.length_cons, List.length_nil, e2, e3, e4, e5]
  omega
theorem q_read {xa xb : Nat → Nat} {m oo sc pr fe tr : Nat} {l : Bool} (h : ∀ k, xa k < 12 ∧ xb k < 12) (hm : m ≤ 12) (h0 : oo < 4) (h1 : sc < 12) (h2 : pr < 12) (h3 : fe < 12) (h4 : tr < 12) : ∃ q rd, l_txt (fun j => nI (e_ch (q_txt xa xb m (md_s l) oo sc pr fe tr) j)) (q_txt xa xb m (md_s l) oo sc pr fe tr).length = .inr (q, rd) ∧ q_fin rd m xa xb (md_s l) oo sc pr fe tr := by
  obtain ⟨ha, -⟩ := q_txt_lat (l := l) h hm (Nat.lt_of_lt_of_le h0 (by decide)) h1 h2 h3 h4
  obtain ⟨rd, r1, r2⟩ := q_all (tx := fun j => nI (e_ch (q_txt xa xb m (md_s l) oo sc pr fe tr) j)) (n := (q_txt xa xb m (md_s l) oo sc pr fe tr).length) (s := md_s l) (fun k _ => h k) (by omega) (by cases l <;> decide) h0 h1 h2 h3 h4 rfl (fun k hk => ⟨by omega, by show nI (e_ch _ (0 + k)) = _; rw [Nat.zero_add]; exact (e_ch_eq ha hk).symm⟩)
  exact ⟨_, rd, r1, r2⟩
/-- without the law's three cells -/
def hidE (R : XH) : XH := fun k => if 275 ≤ k ∧ k ≤ 277 then none else R k
theorem hidE_eq {R : XH} {F A C : Nat → Int32} (h5 : R 275 = some (e_O F)) (h6 : R 276 = some (e_A A)) (h7 : R 277 = some (e_A C)) : R = e_B (hidE R) F A C := by
  funext k
  by_cases h : k < 275 ∨ 277 < k
  · rw [e_B_o h]
    unfold hidE
    rw [if_neg (by omega)]
  · rcases (show k = 275 ∨ k = 276 ∨ k = 277 by omega) with e | e | e <;> subst e
    · rw [e_B_5]; exact h5
    · rw [e_B_6]; exact h6
    · rw [e_B_7]; exact h7
theorem hidE_dif {B R : XH} {F A C : Nat → Int32} (h5 : B 275 = some (e_O F)) (h6 : B 276 = some (e_A A)) (h7 : B 277 = some (e_A C)) : y_le (y_dif B R) (hidE R) := fun k c hk => by
  have hn := y_dif_new hk
  have hR := y_dif_le _ _ hk
  unfold hidE
  rw [if_neg]
  · exact hR
  · intro q
    rcases (show k = 275 ∨ k = 276 ∨ k = 277 by omega) with e | e | e <;> subst e
    · rw [h5] at hn; cases hn
    · rw [h6] at hn; cases hn
    · rw [h7] at hn; cases hn
/-- the old cells: NONE_SEEN, the script -/
def q_M0 (n : Nat) (xs : Nat → Int32) : XH := fun k => if k = 1 then some (.inr (false, .int, 4, fun _ => .int (-1))) else if k = 56 then some (.inr (false, .int, n, fun j => .int (xs j))) else none
/-- the law's cells, the first Setup's -/
def q_S (n : Nat) (xs F A C : Nat → Int32) : XH := fun k => if k = 71 then some (.inl (5, stV 72 73 74 s_pl)) else if k = 72 then some (.inr (true, .long, 5, fun _ => .long 0)) else if k = 73 then some (.inr (true, .int, 5, fun _ => .int 0)) else if k = 74 then some (.inl (0, lV 0 2 0)) else e_B (q_M0 n xs) F A C k
theorem q_S_o {n : Nat} {xs F A C : Nat → Int32} {k : Nat} (h : k < 71 ∨ 74 < k) : q_S n xs F A C k = e_B (q_M0 n xs) F A C k := by
  unfold q_S
  rw [if_neg (by omega), if_neg (by omega), if_neg (by omega), if_neg (by omega)]
theorem q_M0_none {n k : Nat} {xs : Nat → Int32} (h1 : k ≠ 1) (h2 : k ≠ 56) : q_M0 n xs k = none := by
  unfold q_M0
  rw [if_neg h1, if_neg h2]
def q_J : Nat → Int32 := upd (fun _ => 0) 2 (-1)
def q_K : Nat → Int32 := upd (fun _ => 0) 5 256
def q_P (N : XH) (a : Nat) : XH := fun k => if k = 0 then none else k_at N a (wC a 10 ++ wDs a 10) k
abbrev q_C (B : XH) : XH := cset B q_J (fun _ => 0) q_K (fun _ => 0) (fun _ => 0) 0 (fun _ => 0) (fun _ => 71) (fun _ => s_dz)
theorem cren_ints {ρ : Nat → Nat} {mu : Bool} {ty : FieldType} {n : Nat} {g : Nat → Int32} : cren ρ (.inr (mu, ty, n, fun j => .int (g j))) = .inr (mu, ty, n, fun j => .int (g j)) := rfl
theorem q_al2 {n a o v len m : Nat} {xs F A C f : Nat → Int32} {N : XH} (ha : 278 < a) (hk : ∀ k, k < 278 → N k = e_B (q_M0 n xs) F A C k) (ho : 278 ≤ o ∧ o < a) (hv : 278 ≤ v ∧ v < a) (hov : v ≠ o) (hNo : N o = some (.inl (12, sbV v len))) (hNv : N v = some (sbA m f)) : ∀ k c', q_C (x_set (x_set (q_S n xs F A C) v (sbA m f)) o (.inl (12, sbV v len))) k = some c' → ∃ c, hren (rsw a) (q_P N a) k = some c ∧ x_lk c c' := by
  have ha5 : 275 ≤ a := by omega
  have hin : ∀ k, 64 ≤ k → k < 275 → hren (rsw a) (q_P N a) k = ((wC a 10 ++ wDs a 10)[k - 64]?).map (cren (rsw a)) := fun k h1 h2 => by
    unfold hren
    rw [rsw_c h1 h2]
    unfold q_P k_at
    rw [if_neg (by omega), if_neg (by omega), if_neg (by omega), Nat.add_sub_cancel_left]
  have hout : ∀ k, (k < 64 ∨ 275 ≤ k) → k < a → k ≠ 0 → hren (rsw a) (q_P N a) k = (N k).map (cren (rsw a)) := fun k h1 h2 h3 => by
    unfold hren
    rw [rsw_o (by omega) (by omega)]
    unfold q_P k_at
    rw [if_neg h3, if_neg h3, if_pos h2]
  have r1 : ∀ k, 275 ≤ k → k < a → rsw a k = k := fun k h1 h2 => rsw_o (by omega) (by omega)
  intro k c' hkc
  by_cases h1 : 64 ≤ k ∧ k ≤ 70
  · rw [hin k h1.1 (by omega)]
    rcases (show k = 64 ∨ k = 65 ∨ k = 66 ∨ k = 67 ∨ k = 68 ∨ k = 69 ∨ k = 70 by omega) with e | e | e | e | e | e | e <;> subst e <;> (obtain rfl := Option.some.inj hkc)
    · exact ⟨_, rfl, rfl, fun r h => by cases h; exact z_f7 (w_ref ha5 (j := 1) (by omega) rfl) rfl rfl (w_ref ha5 (j := 2) (by omega) rfl) (w_ref ha5 (j := 6) (by omega) rfl) rfl rfl⟩
    · exact ⟨_, rfl, ⟨rfl, rfl, rfl⟩, fun j hj => rfl⟩
    · exact ⟨_, rfl, rfl, fun r h => by cases h; exact y_f8 (w_ref ha5 (j := 3) (by omega) rfl) (w_ref ha5 (j := 4) (by omega) rfl) (w_ref ha5 (j := 5) (by omega) rfl) rfl rfl rfl rfl rfl⟩
    · exact ⟨_, rfl, ⟨rfl, rfl, rfl⟩, fun j hj => rfl⟩
    · exact ⟨_, rfl, ⟨rfl, rfl, rfl⟩, fun j hj => rfl⟩
    · exact ⟨_, rfl, ⟨rfl, rfl, rfl⟩, fun j hj => rfl⟩
    · refine ⟨_, rfl, ⟨rfl, rfl, rfl⟩, fun j hj => ?_⟩
      show vren (rsw a) (if j < 10 then .ref (a + (11 + 20 * j)) else .null) = .ref (75 + 20 * j)
      rw [if_pos hj]
      exact w_ref ha5 (j := 11 + 20 * j) (k := 75 + 20 * j) (by omega) (by omega)
  · by_cases h3 : 75 ≤ k ∧ k ≤ 274
    · have e : (Nat.ble 75 k && Nat.ble k 274) = true := by rw [Nat.ble_eq_true_of_le h3.1, Nat.ble_eq_true_of_le h3.2]; rfl
      unfold q_C cset at hkc
      rw [beq_ne (by omega), beq_ne (by omega), beq_ne (by omega), beq_ne (by omega), beq_ne (by omega), beq_ne (by omega), beq_ne (by omega), e] at hkc
      obtain rfl := Option.some.inj hkc
      obtain ⟨c, c1, c2⟩ := w_alD ha5 (i := (k - 75) / 20) (by omega) ((k - 75) % 20) (Nat.mod_lt _ (by decide))
      refine ⟨cren (rsw a) c, ?_, c2⟩
      rw [hin k (by omega) (by omega), List.getElem?_append_right (by show 11 ≤ _; omega)]
      show ((wDs a 10)[k - 64 - 11]?).map (cren (rsw a)) = _
      rw [show k - 64 - 11 = 20 * ((k - 75) / 20) + (k - 75) % 20 by omega, wDs_get 10 _ _ (by omega) (Nat.mod_lt _ (by decide)), c1]
      rfl
    · rw [show q_C _ k = _ from c_out h1 h3] at hkc
      by_cases eo : k = o
      · subst eo
        rw [x_set_eq] at hkc
        obtain rfl := Option.some.inj hkc
        rw [hout k (by omega) ho.2 (by omega), hNo]
        exact ⟨_, rfl, rfl, fun r h => by cases h; exact z_f4 (congrArg Value.ref (r1 v (by omega) hv.2)) rfl rfl rfl⟩
      · rw [x_set_ne eo] at hkc
        by_cases ev : k = v
        · subst ev
          rw [x_set_eq] at hkc
          obtain rfl := Option.some.inj hkc
          rw [hout k (by omega) hv.2 (by omega), hNv]
          exact ⟨_, rfl, ⟨rfl, rfl, rfl⟩, fun j hj => rfl⟩
        · rw [x_set_ne ev] at hkc
          by_cases h7 : 71 ≤ k ∧ k ≤ 74
          · rw [hin k (by omega) (by omega)]
            rcases (show k = 71 ∨ k = 72 ∨ k = 73 ∨ k = 74 by omega) with e | e | e | e <;> subst e <;> (obtain rfl := Option.some.inj hkc)
            · exact ⟨_, rfl, rfl, fun r h => by cases h; exact y_f8 rfl (w_ref ha5 (j := 8) (by omega) rfl) (w_ref ha5 (j := 9) (by omega) rfl) (w_ref ha5 (j := 10) (by omega) rfl) rfl rfl rfl rfl⟩
            · exact ⟨_, rfl, ⟨rfl, rfl, rfl⟩, fun j hj => rfl⟩
            · exact ⟨_, rfl, ⟨rfl, rfl, rfl⟩, fun j hj => rfl⟩
            · refine ⟨_, rfl, rfl, fun r h j hj => ?_⟩
              cases h
              have hj3 : j < 3 := hj
              rcases (show j = 0 ∨ j = 1 ∨ j = 2 by omega) with e | e | e <;> subst e
              · rfl
              · exact congrArg Value.ref (rsw_64 ha5 (by decide))
              · rfl
          · rw [q_S_o (by omega)] at hkc
            by_cases h5 : 275 ≤ k ∧ k ≤ 277
            · rw [hout k (by omega) (by omega) (by omega), hk k (by omega)]
              rcases (show k = 275 ∨ k = 276 ∨ k = 277 by omega) with e | e | e <;> subst e
              · rw [e_B_5] at hkc ⊢
                obtain rfl := Option.some.inj hkc
                refine ⟨_, rfl, rfl, fun r h j hj => ?_⟩
                match j with
                | 0 => exact congrArg Value.ref (r1 276 (by omega) (by omega))
                | 1 => exact congrArg Value.ref (r1 277 (by omega) (by omega))
                | j + 2 => rfl
              · rw [e_B_6] at hkc ⊢
                obtain rfl := Option.some.inj hkc
                exact ⟨_, rfl, ⟨rfl, rfl, rfl⟩, fun j hj => rfl⟩
              · rw [e_B_7] at hkc ⊢
                obtain rfl := Option.some.inj hkc
                exact ⟨_, rfl, ⟨rfl, rfl, rfl⟩, fun j hj => rfl⟩
            · rw [e_B_o (by omega)] at hkc
              have hkk : k = 1 ∨ k = 56 := by
                by_cases e1 : k = 1
                · exact Or.inl e1
                · by_cases e2 : k = 56
                  · exact Or.inr e2
                  · rw [q_M0_none e1 e2] at hkc; cases hkc
              rw [hout k (by omega) (by omega) (by omega), hk k (by omega), e_B_o (by omega)]
              rcases hkk with e | e <;> subst e <;> (obtain rfl := Option.some.inj hkc) <;> exact ⟨_, rfl, ⟨rfl, rfl, rfl⟩, fun j hj => rfl⟩
