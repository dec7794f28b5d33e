/-! ===== the class's reader: comparisons ===== -/
theorem s_cmpc_cod {rd : Nat → Int32} {k : Nat} {z : Bool} {c sg kd wi : Int32} : s_cod (s_cmpc rd k z c sg kd wi) k 0 = 0 ∧ s_cod (s_cmpc rd k z c sg kd wi) k 1 = c ∧ s_cod (s_cmpc rd k z c sg kd wi) k 2 = sg ∧ s_cod (s_cmpc rd k z c sg kd wi) k 3 = kd ∧ s_cod (s_cmpc rd k z c sg kd wi) k 4 = wi ∧ s_cod (s_cmpc rd k z c sg kd wi) k 5 = (if z = true ∧ ¬ kd = 1 then 1 else 0) := by
  unfold s_cod s_cmpc s_code
  refine ⟨?_, ?_, ?_, ?_, ?_, ?_⟩
  · rw [updI_ne (by omega), updI_ne (by omega), updI_ne (by omega), updI_ne (by omega), updI_ne (by omega), updI_ne (by omega), updI_eq]
  · rw [updI_ne (by omega), updI_ne (by omega), updI_ne (by omega), updI_eq]
  · rw [updI_ne (by omega), updI_ne (by omega), updI_eq]
  · rw [updI_ne (by omega), updI_eq]
  · rw [updI_eq]
  · rw [updI_ne (by omega), updI_ne (by omega), updI_ne (by omega), updI_ne (by omega), updI_ne (by omega), updI_eq]
theorem s_cmpc_lt {rd : Nat → Int32} {k j x : Nat} {z : Bool} {c sg kd wi : Int32} (hj : j < k) (hx : x < 6) : s_cod (s_cmpc rd k z c sg kd wi) j x = s_cod rd j x := by
  unfold s_cod s_cmpc s_code
  rw [updI_ne (by omega), updI_ne (by omega), updI_ne (by omega), updI_ne (by omega), updI_ne (by omega), updI_ne (by omega), updI_ne (by omega)]
def l_en {α : Type} (n : Nat) (R : LE (Nat × α)) : Nat := match R with
  | .inl _ => n
  | .inr x => x.1
/-- the cells beside have grown -/
def y_gw (B B' : XH) (ρ : Nat → Nat) : Prop := y_le B B' ∧ y_ds ρ B' ∧ B' 0 = none ∧ B' 2 = none
/-- a part of a condition is read, W deep, from code k on -/
def x_QF (tx bf : Nat → Int32) (n c w0 p : Nat) (FB : Int32 → Int32 → (Nat → Int32) → Int64 → (Nat → Int32) → XH → XH) (ea : Int32) (B : XH) (ρ : Nat → Nat) (W k : Nat) (rd : Nat → Int32) (z : Bool) (R : LR) : XH → Option Value → Prop := fun N r => match R with
  | .inl (e, a) => ¬ e = 0 ∧ ∃ K tl hv B' o l, z_er K ∧ y_gw B B' ρ ∧ (t_sg (y_dif B B') W o l ∧ 3 * l.length + p ≤ n + 3) ∧ N = FB e (nI a) K tl hv B' ∧ r = some (.ref o)
  | .inr (q, rd') => ∃ K tl hv B' o E l, z_at tx bf n c K tl q ∧ y_gw B B' ρ ∧ (y_tr (y_dif B B') rd' W o k (n_ (rd' 9)) z E l ∧ 3 * l.length + p ≤ q) ∧ (∀ h, h < 4 → hv h = rd' (275 + 30 * w0 + (17 + h))) ∧ (∀ j, j < k → ∀ x, x < 6 → s_cod rd' j x = s_cod rd j x) ∧ (∀ j, 275 ≤ j → j < 455 → ¬ (275 + 30 * w0 + 17 ≤ j ∧ j < 275 + 30 * w0 + 21) → rd' j = rd j) ∧ N = FB 0 ea K tl hv B' ∧ r = some (.ref o)
theorem y_tr_cmp {F : XH} {rd : Nat → Int32} {W o k m : Nat} {z : Bool} {c sg kd wi : Int32} (ho : s_out o) (hF : F o = some (.inl (1, cV4 c sg kd wi))) (h0 : rd 0 = nI m) (hm5 : m ≤ 5) (hc : ∃ j, j < m ∧ c = nI j) (hsg : sg = 60 ∨ sg = 61 ∨ sg = 62) (hkd : (kd = 0 ∧ ∃ v, v ≤ 9999 ∧ wi = nI v) ∨ (kd = 1 ∧ ∃ j, j < m ∧ wi = nI j) ∨ (kd = 2 ∧ ∃ h, h < 4 ∧ wi = nI h)) : y_tr F (s_cmpc rd k z c sg kd wi) (W + 1) o k (k + 1) z (fun T => T k) (if kd = 1 then [] else [o]) := by
  obtain ⟨e0, e1, e2, e3, e4, e5⟩ := s_cmpc_cod (rd := rd) (k := k) (z := z) (c := c) (sg := sg) (kd := kd) (wi := wi)
  have hm : s_cm (s_cmpc rd k z c sg kd wi) = m := by unfold s_cm; rw [s_cmpc_ne (by decide) (by decide), h0]; exact nI_clamp (by omega)
  have hok : s_cmpok (s_cmpc rd k z c sg kd wi) k := by
    unfold s_cmpok
    rw [e1, e2, e3, e4, hm]
    exact ⟨hc, hsg, hkd⟩
  have hq : q_at F (s_cmpc rd k z c sg kd wi) k o := ⟨ho, by rw [cV4_cm, e1, e2, e3, e4]; exact hF⟩
  refine ⟨Or.inl ⟨k, by omega, hq, hok, rfl⟩, Or.inl ⟨c, sg, kd, wi, ho, hF, rfl⟩, z_seg_cmp e0, fun j h1 h2 _ => ?_, fun hz => ⟨fun _ => o, fun j h1 h2 _ => ?_, ?_⟩, fun hz j h1 h2 hp => ?_⟩
  · obtain rfl : j = k := by omega
    exact hok
  · obtain rfl : j = k := by omega
    exact hq
  · rw [show k + 1 - k = 1 by omega]
    show _ = [] ++ (if s_cod (s_cmpc rd k z c sg kd wi) (k + 0) 0 = 0 ∧ s_cod (s_cmpc rd k z c sg kd wi) (k + 0) 5 = 1 then [o] else [])
    rw [Nat.add_zero, e0, e5, List.nil_append]
    by_cases h1 : kd = 1
    · rw [if_pos h1, if_neg (fun q => by rw [if_neg (fun z => z.2 h1)] at q; exact absurd q.2 (by decide))]
    · rw [if_neg h1, if_pos ⟨rfl, if_pos ⟨hz, h1⟩⟩]
  · obtain rfl : j = k := by omega
    have h5 := hp.2
    rw [e5, if_neg (fun q => by rw [hz] at q; cases q.1)] at h5
    exact absurd h5 (by decide)
theorem y_grt {t : Int32} (h : t = 0 ∨ t = 1 ∨ t = 2) : ∃ M, M ≤ 9999 ∧ s_grt t = nI M ∧ s_most t = nI M := by
  rcases h with rfl | rfl | rfl
  · exact ⟨9999, by decide, rfl, rfl⟩
  · exact ⟨999, by decide, rfl, rfl⟩
  · exact ⟨1, by decide, rfl, rfl⟩
theorem l_reads_sk {tx : Nat → Int32} {n p : Nat} {M : Int32} (h : p ≤ n) : l_reads tx n (l_sk tx n p) M = l_reads tx n p M := by
  unfold l_reads l_num l_de
  rw [l_see_sk h, l_sk_sk h]
theorem l_known_sk {rd tx : Nat → Int32} {n p m : Nat} (h : p ≤ n) : l_known rd tx n (l_sk tx n p) m = l_known rd tx n p m := by
  unfold l_known l_nm
  rw [l_we_sk h, l_sk_sk h, l_isw_sk h, l_isw_sk h, l_isw_sk h]
theorem p_typeOfG {G : XE} (hG : x_Kn G) {B : XH} {J bf K tk ts : Nat → Int32} {tl : Int64} {tv : Nat → Int64} {su : Nat → Nat} {D : Nat → Nat → Int32} (d : Nat) {o a2 n : Nat} {V : Nat → Value} {ty : Nat → Int32} (hso : s_out o) (hsB : B o = some (.inl (5, V))) (hV0 : V 0 = .int (nI n)) (hV2 : V 2 = .ref a2) (ha2 : s_out a2) (hB2 : B a2 = some (.inr (true, .int, 5, fun j => .int (ty j)))) (hn : n ≤ 5) {j : Nat} (hj : j < n) : x_M G mX5_typeOf d 0 0 [.ref o, .int (nI j)] (cset B J bf K tk ts tl tv su D) (x_Ret (cset B J bf K tk ts tl tv su D) (.int (ty j))) x_noX := by
  refine X_M hG okX5_typeOf rfl (L := [some (.ref o), some (.int (nI j))]) rfl (Nat.le_of_ble_eq_true rfl) (fun ad0 nb0 => ?_)
  refine X_ld rfl rfl rfl rfl ?_
  refine X_if_lt rfl (fun c1 => absurd ((n_lt (b := 0) rfl (show (0 : Int32) = nI 0 from rfl) (by omega) (by omega)).mp c1) (by omega)) (fun c1 => ?_)
  refine X_ld rfl rfl rfl rfl ?_
  refine X_ld rfl rfl rfl rfl ?_
  refine X_get f_X5_39 rfl (c_B hso hsB) hV0 ?_
  refine X_icmp_ge rfl (fun c9 => absurd ((n_le rfl rfl (by omega) (by omega)).mp c9) (by omega)) (fun c9 => ?_)
  refine X_ld rfl rfl rfl rfl ?_
  refine X_get f_X5_15 rfl (c_B hso hsB) hV2 ?_
  refine X_ld rfl rfl rfl rfl ?_
  refine X_iald rfl (c_B ha2 hB2) (by exact vp_in_nI (by omega) (by omega)) (v := .int (ty j)) (by rw [nI_clamp (by omega)]) ?_
  refine X_goto rfl ?_
  exact X_iret rfl rfl ⟨rfl, rfl⟩ (Nat.le_of_ble_eq_true rfl) (Nat.le_of_ble_eq_true rfl)
theorem p_typeOfM {G : XE} (hG : x_Kn G) {B : XH} {J bf K tk ts : Nat → Int32} {tl : Int64} {tv : Nat → Int64} {su : Nat → Nat} {D : Nat → Nat → Int32} (d : Nat) {o : Nat} : x_M G mX5_typeOf d 0 0 [.ref o, .int (-1)] (cset B J bf K tk ts tl tv su D) (x_Ret (cset B J bf K tk ts tl tv su D) (.int (-1))) x_noX := by
  refine X_M hG okX5_typeOf rfl (L := [some (.ref o), some (.int (-1))]) rfl (Nat.le_of_ble_eq_true rfl) (fun ad0 nb0 => ?_)
  refine X_ld rfl rfl rfl rfl ?_
  refine X_if_lt rfl (fun c1 => ?_) (fun c1 => absurd (by decide) c1)
  refine X_push (v := .int (-1)) rfl (by decide +kernel) ?_
  exact X_iret rfl rfl ⟨rfl, rfl⟩ (Nat.le_of_ble_eq_true rfl) (Nat.le_of_ble_eq_true rfl)

