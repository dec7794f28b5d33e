/-! ===== conditions: cells that are fixed, lists that grow ===== -/
theorem y_ob_le {B B' : XH} (h : y_le B B') {k : Nat} (hk : y_ob B k) : y_ob B' k := by
  obtain ⟨ci, V, C, T, nf, h1, h2⟩ := hk
  exact ⟨ci, V, C, T, nf, h _ _ h1, h2⟩
section YHP
variable {B B' B'' : XH} {a b el eb n nb o la elA nA q ll elL nL k : Nat} {m mb mA mL : Int32} {p pb pA pL : Nat → Nat}
theorem y_lb_le (h : y_le B B') (hl : y_lb B a m el n p) : y_lb B' a m el n p := by
  obtain ⟨h1, h2, h3⟩ := hl
  refine ⟨h1, h _ _ h2, ?_⟩
  rcases h3 with g | ⟨cap, f, g1, g2, g3, g4, g5⟩
  · exact Or.inl g
  · exact Or.inr ⟨cap, f, g1, g2, h _ _ g3, g4, fun j hj => ⟨(g5 j hj).1, (g5 j hj).2.1, y_ob_le h (g5 j hj).2.2⟩⟩
theorem y_lb_el (h2 : B 2 = none) (hl : y_lb B a m el n p) : ∀ V, ¬ B el = some (.inl V) := fun V hk => by
  obtain ⟨-, -, g3⟩ := hl
  rcases g3 with ⟨-, g⟩ | ⟨cap, f, -, -, g, -⟩
  · rw [g, h2] at hk; cases hk
  · rw [g] at hk; cases hk
theorem y_lb_ne (h2 : B 2 = none) (hl : y_lb B a m el n p) {ci : Nat} {V : Nat → Value} (hk : B k = some (.inl (ci, V))) (hci : ci ≠ 0) : k ≠ a ∧ k ≠ el := by
  refine ⟨fun e => ?_, fun e => y_lb_el h2 hl _ (by rw [← e]; exact hk)⟩
  rw [e, hl.2.1] at hk
  cases hk
  exact hci rfl
theorem y_lb_kp (h2 : B 2 = none) (hl : y_lb B a m el n p) (hb : y_lb B b mb eb nb pb) (hkp : y_kp B B' b eb) (hb' : ∃ V, B' b = some (.inl (0, V))) (hab : a ≠ b) (hee : el ≠ eb) : y_lb B' a m el n p := by
  obtain ⟨h1, g2, h3⟩ := hl
  have ha : a ≠ eb := fun e => y_lb_el h2 hb _ (by rw [← e]; exact g2)
  refine ⟨h1, hkp _ _ hab ha g2, ?_⟩
  rcases h3 with g | ⟨cap, f, g1, q2, g3, g4, g5⟩
  · exact Or.inl g
  · exact Or.inr ⟨cap, f, g1, q2, hkp _ _ (fun e => by rw [e, hb.2.1] at g3; cases g3) hee g3, g4, fun j hj => ⟨(g5 j hj).1, (g5 j hj).2.1, y_ob_kp hkp hb' ⟨_, hb.2.1⟩ (y_lb_el h2 hb) (g5 j hj).2.2⟩⟩
/-- what is new, save what still grows -/
def y_fz (B B' : XH) (hs : List Nat) : XH := fun k => if k ∈ hs then none else y_dif B B' k
def y_mv (B' B'' : XH) (hs hs' : List Nat) : Prop := ∀ k c, ¬ k ∈ hs → B' k = some c → B'' k = some c ∧ ¬ k ∈ hs'
theorem y_fz_dif {hs : List Nat} : y_le (y_fz B B' hs) (y_dif B B') := fun k c h => by
  unfold y_fz at h
  by_cases e : k ∈ hs
  · rw [if_pos e] at h; cases h
  · rw [if_neg e] at h; exact h
theorem y_fz_mv {hs hs' : List Nat} (h : y_mv B' B'' hs hs') : y_le (y_fz B B' hs) (y_fz B B'' hs') := fun k c hk => by
  unfold y_fz at hk ⊢
  by_cases e : k ∈ hs
  · rw [if_pos e] at hk; cases hk
  · rw [if_neg e] at hk
    obtain ⟨h1, h2⟩ := h k c e (y_dif_le _ _ hk)
    rw [if_neg h2, y_dif_of (y_dif_new hk)]
    exact h1
theorem y_fz_at {hs : List Nat} (h : ¬ k ∈ hs) (hB : B k = none) : y_fz B B' hs k = B' k := by
  unfold y_fz
  rw [if_neg h, y_dif_of hB]
theorem y_mv_le {hs : List Nat} (hle : y_le B' B'') : y_mv B' B'' hs hs := fun k c h1 h2 => ⟨hle _ _ h2, h1⟩
/-- what is new since then is fixed -/
theorem y_fz_dif2 {hs : List Nat} (hle : y_le B B') (hh : ∀ k, k ∈ hs → (∃ c, B' k = some c) ∨ B'' k = none) : y_le (y_dif B' B'') (y_fz B B'' hs) := fun k c hk => by
  have h1 := y_dif_new hk
  have h2 : ¬ k ∈ hs := fun e => by
    rcases hh k e with ⟨c', h⟩ | h
    · rw [h1] at h; cases h
    · have := y_dif_le _ _ hk
      rw [h] at this; cases this
  have h3 : B k = none := by
    cases hB : B k with
    | none => rfl
    | some d => have := hle k d hB; rw [h1] at this; cases this
  rw [y_fz_at h2 h3]
  exact y_dif_le _ _ hk
theorem y_lb_fz {hs : List Nat} (hl : y_lb B' a m el n p) (ha : B a = none) (he : B el = none) (ha' : ¬ a ∈ hs) (he' : ¬ el ∈ hs) (hn : n < 1000000) : l_at (y_fz B B' hs) a n p := by
  obtain ⟨h1, h2, h3⟩ := hl
  refine ⟨h1, by omega, m, el, by rw [y_fz_at ha' ha]; exact h2, fun h0 => ?_⟩
  rcases h3 with g | ⟨cap, f, g1, g2, g3, g4, g5⟩
  · omega
  · exact ⟨g1, true, cap, f, by rw [y_fz_at he' he]; exact g3, ⟨by omega, by omega⟩, fun j hj => (g5 j hj).1⟩
theorem y_lb_dif (hl : y_lb B' a m el n p) (ha : B a = none) (he : B el = none) (hn : n < 1000000) : l_at (y_dif B B') a n p := by
  have h := y_lb_fz (hs := []) hl ha he List.not_mem_nil List.not_mem_nil hn
  exact y_le.l y_fz_dif h
theorem y_le_kp (hle : y_le B B') (hkp : y_kp B' B'' a el) (ha : B a = none) (he : B el = none) : y_le B B'' := fun k c hk => hkp k c (fun e => by rw [e, ha] at hk; cases hk) (fun e => by rw [e, he] at hk; cases hk) (hle k c hk)
theorem y_le_no (hle : y_le B B') (h : B' k = none) : B k = none := by
  cases hB : B k with
  | none => rfl
  | some d => have := hle k d hB; rw [h] at this; cases this
/-- an any and its last all are being filled -/
def y_hp (B B' : XH) (o la elA nA : Nat) (mA : Int32) (pA : Nat → Nat) (q ll elL nL : Nat) (mL : Int32) (pL : Nat → Nat) : Prop :=
  (s_out o ∧ B o = none ∧ B' o = some (.inl (2, cpV 1 la))) ∧ (s_out q ∧ B q = none ∧ B' q = some (.inl (2, cpV 0 ll))) ∧ (y_lb B' la mA elA nA pA ∧ B la = none ∧ B elA = none) ∧ (y_lb B' ll mL elL nL pL ∧ B ll = none ∧ B elL = none) ∧ la ≠ ll ∧ elA ≠ elL ∧ 1 ≤ nA ∧ pA (nA - 1) = q
theorem y_hp.le (h : y_hp B B' o la elA nA mA pA q ll elL nL mL pL) (hle : y_le B' B'') : y_hp B B'' o la elA nA mA pA q ll elL nL mL pL := by
  obtain ⟨⟨a1, a2, a3⟩, ⟨b1, b2, b3⟩, ⟨c1, c2⟩, ⟨d1, d2⟩, e⟩ := h
  exact ⟨⟨a1, a2, hle _ _ a3⟩, ⟨b1, b2, hle _ _ b3⟩, ⟨y_lb_le hle c1, c2⟩, ⟨y_lb_le hle d1, d2⟩, e⟩
/-- the all has one part more -/
theorem y_hp.addL (h : y_hp B B' o la elA nA mA pA q ll elL nL mL pL) (hle : y_le B B') (h2 : B' 2 = none) {v el' : Nat} (g1 : y_lb B'' ll (mL + 1) el' (nL + 1) (updF pL nL v)) (g2 : y_kp B' B'' ll elL) (g3 : el' = elL ∧ ¬ elL = 2 ∨ B' el' = none) : y_hp B B'' o la elA nA mA pA q ll el' (nL + 1) (mL + 1) (updF pL nL v) ∧ y_le B B'' ∧ y_mv B' B'' [la, elA, ll, elL] [la, elA, ll, el'] := by
  obtain ⟨⟨a1, a2, a3⟩, ⟨b1, b2, b3⟩, ⟨c1, c2, c3⟩, ⟨d1, d2, d3⟩, e1, e2, e3, e4⟩ := h
  have hel' : B el' = none := by
    rcases g3 with ⟨g, -⟩ | g
    · rw [g]; exact d3
    · exact y_le_no hle g
  have hAe : elA ≠ el' := by
    rcases g3 with ⟨g, -⟩ | g
    · rw [g]; exact e2
    · intro e
      rcases c1.2.2 with ⟨z1, -⟩ | ⟨cap, f, -, -, z3, -⟩
      · omega
      · rw [e, g] at z3; cases z3
  have ho := y_lb_ne h2 d1 a3 (by decide)
  have hq := y_lb_ne h2 d1 b3 (by decide)
  refine ⟨⟨⟨a1, a2, g2 _ _ ho.1 ho.2 a3⟩, ⟨b1, b2, g2 _ _ hq.1 hq.2 b3⟩, ⟨y_lb_kp h2 c1 d1 g2 ⟨_, g1.2.1⟩ e1 e2, c2, c3⟩, ⟨g1, d2, hel'⟩, e1, hAe, e3, e4⟩, y_le_kp hle g2 d2 d3, fun k c hk hc => ?_⟩
  simp only [List.mem_cons, List.not_mem_nil, or_false, not_or] at hk ⊢
  refine ⟨g2 k c hk.2.2.1 hk.2.2.2 hc, hk.1, hk.2.1, hk.2.2.1, ?_⟩
  rcases g3 with ⟨g, -⟩ | g
  · rw [g]; exact hk.2.2.2
  · intro e; rw [e, g] at hc; cases hc
/-- one all more -/
theorem y_hp.newA (h : y_hp B B' o la elA nA mA pA q ll elL nL mL pL) (hle : y_le B B') (h2 : B' 2 = none) {q' ll' el' : Nat} {pL' : Nat → Nat} (n1 : s_out q') (n2 : B' q' = none) (n3 : s_out ll') (n4 : B' ll' = none) (n5 : 64 ≤ ll') (n6 : ¬ ll' = q') (n7 : 64 ≤ q') (hnL : 1 ≤ nL)
    (g1 : y_lb B'' la (mA + 1) el' (nA + 1) (updF pA nA q')) (g2 : y_kp (x_set (x_set B' ll' (.inl (0, lV 0 2 0))) q' (.inl (2, cpV 0 ll'))) B'' la elA) (g3 : el' = elA ∧ ¬ elA = 2 ∨ (x_set (x_set B' ll' (.inl (0, lV 0 2 0))) q' (.inl (2, cpV 0 ll'))) el' = none) (g4 : 64 ≤ el') : y_hp B B'' o la el' (nA + 1) (mA + 1) (updF pA nA q') q' ll' 2 0 0 pL' ∧ y_le B B'' ∧ y_mv B' B'' [la, elA, ll, elL] [la, el', ll', 2] ∧ (B'' q = some (.inl (2, cpV 0 ll)) ∧ ¬ q ∈ [la, el', ll', 2]) ∧ y_lb B'' ll mL elL nL pL ∧ ¬ ll ∈ [la, el', ll', 2] ∧ ¬ elL ∈ [la, el', ll', 2] := by
  obtain ⟨⟨a1, a2, a3⟩, ⟨b1, b2, b3⟩, ⟨c1, c2, c3⟩, ⟨d1, d2, d3⟩, e1, e2, e3, e4⟩ := h
  have hle1 : y_le B' (x_set (x_set B' ll' (.inl (0, lV 0 2 0))) q' (.inl (2, cpV 0 ll'))) := y_le.trans (y_le_set n4) (y_le_set (by rw [x_set_ne (Ne.symm n6)]; exact n2))
  generalize hB1 : x_set (x_set B' ll' (.inl (0, lV 0 2 0))) q' (.inl (2, cpV 0 ll')) = B1 at hle1 g2 g3
  have h21 : B1 2 = none := by rw [← hB1, x_set_ne (by omega), x_set_ne (by omega)]; exact h2
  have hBq : B1 q' = some (.inl (2, cpV 0 ll')) := by rw [← hB1]; exact x_set_eq
  have hBl : B1 ll' = some (.inl (0, lV 0 2 0)) := by rw [← hB1, x_set_ne n6]; exact x_set_eq
  have c1' := y_lb_le hle1 c1
  have d1' := y_lb_le hle1 d1
  have ho := y_lb_ne h21 c1' (hle1 _ _ a3) (by decide)
  have hq := y_lb_ne h21 c1' (hle1 _ _ b3) (by decide)
  have hq' := y_lb_ne h21 c1' hBq (by decide)
  have hl1 : ll' ≠ la := fun e => by rw [e, c1.2.1] at n4; cases n4
  have hl2 : ll' ≠ elA := fun e => y_lb_el h21 c1' _ (by rw [← e]; exact hBl)
  have he' : B el' = none := by
    rcases g3 with ⟨g, -⟩ | g
    · rw [g]; exact c3
    · exact y_le_no (hle.trans hle1) g
  have hX : ∀ k c, k ≠ la → k ≠ elA → B' k = some c → B'' k = some c ∧ ¬ k ∈ [la, el', ll', 2] := fun k c k1 k2 hk => by
    have hk1 := hle1 _ _ hk
    refine ⟨g2 k c k1 k2 hk1, ?_⟩
    simp only [List.mem_cons, List.not_mem_nil, or_false, not_or]
    refine ⟨k1, ?_, (fun e => by rw [e, n4] at hk; cases hk), (fun e => by rw [e, h2] at hk; cases hk)⟩
    rcases g3 with ⟨g, -⟩ | g
    · rw [g]; exact k2
    · intro e; rw [e, g] at hk1; cases hk1
  obtain ⟨x1, x2⟩ := hX q _ hq.1 hq.2 b3
  obtain ⟨y1, y2⟩ := hX ll _ (Ne.symm e1) (fun e => y_lb_el h2 c1 _ (by rw [← e]; exact d1.2.1)) d1.2.1
  refine ⟨⟨⟨a1, a2, (hX o _ ho.1 ho.2 a3).1⟩, ⟨n1, y_le_no hle n2, g2 _ _ hq'.1 hq'.2 hBq⟩, ⟨g1, c2, he'⟩, ⟨⟨n3, g2 _ _ hl1 hl2 hBl, Or.inl ⟨rfl, rfl⟩⟩, y_le_no hle n4, y_le_no hle h2⟩, Ne.symm hl1, by omega, by omega, by rw [Nat.add_sub_cancel]; exact if_pos rfl⟩, y_le_kp (hle.trans hle1) g2 c2 c3, fun k c hk hc => ?_, ⟨x1, x2⟩, y_lb_kp h21 d1' c1' g2 ⟨_, g1.2.1⟩ (Ne.symm e1) (Ne.symm e2), y2, ?_⟩
  · simp only [List.mem_cons, List.not_mem_nil, or_false, not_or] at hk
    exact hX k c hk.1 hk.2.1 hc
  · rcases d1.2.2 with ⟨z1, -⟩ | ⟨cap, f, -, -, z3, -⟩
    · omega
    · exact (hX elL _ (fun e => by rw [e, c1.2.1] at z3; cases z3) (Ne.symm e2) z3).2
end YHP
