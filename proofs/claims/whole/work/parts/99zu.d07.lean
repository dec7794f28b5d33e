/-! ===== the law's cases, on ===== -/
theorem law_6 {G : XE} (hG : x_Kn G) (hX : x_KX G) (hN : x_KN G) (hK : x_KS G) (hM : x_KM G) {ad0 : Nat → Nat} {nb0 : Nat} {n t b : Nat} {xs : Nat → Int32} {N : XH} {cells slots : Nat} (hI : L_I n xs t b N) (hn : 7 * t + 7 ≤ n) (h36 : n ≤ 3584) (hc : cells + 12 * b ≤ 300 + 975 * t) (hs : slots + 292 * b ≤ 60000 + 5850 * t) (kk : L_K G ad0 nb0 n xs t) : x_W G mL_law (L_Z G ad0 nb0) N cells slots 482 (L_l t) [] := by
  obtain ⟨B, ov, I, T, S, rd, tx, gv, P, J, bf, K, tk, ts, tl, tv, su, D, w, v, u, rfl, hB, hI, hJ, hr, hg⟩ := hI
  have hlv := hg.cur hJ.2.1 hI.2.1
  have ht : t + 1 ≤ 512 := by omega
  have hm := hg.mono y_le_rfl (Nat.le_succ t)
  refine X_ld aL_482 rfl rfl rfl ?_
  refine X_scr (c := 1) aL_483 aL_484 aL_486 (by decide +kernel) aL_487 aL_488 (L_56c hB) rfl rfl (by omega) (by omega) ?_
  refine X_ld aL_489 rfl rfl rfl ?_
  refine X_Lw l_L_L_named (W_named hG hX hN hB w hJ.1 hJ.2.1 hlv hJ.2.2.2.1 hI.2.2.2.2.2 hr) aL_490 rfl rfl (Nat.le_of_ble_eq_true rfl) (Nat.le_of_ble_eq_true rfl) (Nat.le_of_ble_eq_true rfl) (by omega) (by omega) (fun N9 r h => ?_)
  obtain ⟨o, rfl, rfl, hA⟩ := h
  refine X_st aL_493 rfl rfl ?_
  refine X_heap L_sw ?_
  refine X_ld aL_495 rfl rfl rfl ?_
  refine X_scr (c := 1) aL_496 aL_497 aL_499 (by decide +kernel) aL_500 aL_501 (L_56m hB) rfl rfl (by omega) (by omega) ?_
  refine X_Lr l_L_X11_named rfl (c_named hG 50 v hI.1 hI.2.1 b hI.2.2.2.2.1 hI.2.2.2.2.2 hlv.1.1) aL_502 rfl rfl (Nat.le_of_ble_eq_true rfl) (Nat.le_of_ble_eq_true rfl) (Nat.le_of_ble_eq_true rfl) (by omega) (by omega) (fun N9 r h => ?_)
  obtain ⟨rfl, rfl⟩ := h
  have hI0 : s_nmI I b (xs (7 * t + 1)) 0 = (a_named (S v) tx b (xs (7 * t + 1))).1 := by
    unfold s_nmI a_named
    split
    · exact (updI_ne (by decide)).trans updI_eq
    · exact updI_eq
  refine X_loc (L' := [some (.ref 56), some (.ref 64), some (.ref 275), some (.ref 281), some (.int (nI (7 * t))), some (.int (s_nmI I b (xs (7 * t + 1)) 0)), none, none]) ⟨rfl, rfl, rfl, rfl, rfl, congrArg Value.int hI0, trivial⟩ ?_
  refine X_Ltl hG aL_505 aL_507 aL_508 aL_511 aL_513 aL_518 aL_520 aL_523 aL_524 aL_525 aL_526 aL_528 aL_529 aL_530 aL_535 ((c_out (by omega) (by omega)).trans x_set_eq) (fun q => hA (hI0.symm.trans q)) (by omega) (by omega) ?_
  refine X_heap L_sw.symm ?_
  unfold s_nmI s_nmJ
  by_cases hx : (0 : Int32) ≤ xs (7 * t + 1) ∧ xs (7 * t + 1) ≤ nI b
  · rw [if_pos hx, if_pos hx]
    exact kk _ 0 _ _ ⟨B, o, _, T, S, rd, tx, gv, P, _, bf, K, tk, ts, tl, tv, su, D, w, v, u, rfl, hB, ⟨(updI_ne (by decide)).trans ((updI_ne (by decide)).trans hI.1), hI.2.1, (updI_ne (by decide)).trans ((updI_ne (by decide)).trans hI.2.2.1), hI.2.2.2.1, updI_eq, by omega⟩, ⟨(updI_ne (by decide)).trans hJ.1, hJ.2.1, (updI_ne (by decide)).trans hJ.2.2.1, updI_eq, (updI_ne (by decide)).trans (hJ.2.2.2.2.trans ((updI_ne (by decide)).trans (updI_ne (by decide))).symm)⟩, s_rtx_le hr (Nat.zero_le b), hm⟩ (by omega) (by omega)
  · rw [if_neg hx, if_neg hx]
    exact kk _ b _ _ ⟨B, o, _, T, S, rd, tx, gv, P, J, bf, K, tk, ts, tl, tv, su, D, w, v, u, rfl, hB, L_I0 hI, L_I0J hJ, hr, hm⟩ (by omega) (by omega)
theorem law_7 {G : XE} (hG : x_Kn G) (hX : x_KX G) (hN : x_KN G) (hK : x_KS G) (hM : x_KM G) {ad0 : Nat → Nat} {nb0 : Nat} {n t b : Nat} {xs : Nat → Int32} {N : XH} {cells slots : Nat} (hI : L_I n xs t b N) (hn : 7 * t + 7 ≤ n) (h36 : n ≤ 3584) (hc : cells + 12 * b ≤ 300 + 975 * t) (hs : slots + 292 * b ≤ 60000 + 5850 * t) (kk : L_K G ad0 nb0 n xs t) : x_W G mL_law (L_Z G ad0 nb0) N cells slots 538 (L_l t) [] := by
  obtain ⟨B, ov, I, T, S, rd, tx, gv, P, J, bf, K, tk, ts, tl, tv, su, D, w, v, u, rfl, hB, hI, hJ, hr, hg⟩ := hI
  have hlv := hg.cur hJ.2.1 hI.2.1
  have ht : t + 1 ≤ 512 := by omega
  have hm := hg.mono y_le_rfl (Nat.le_succ t)
  refine X_ld aL_538 rfl rfl rfl ?_
  refine X_scr (c := 1) aL_539 aL_540 aL_542 (by decide +kernel) aL_543 aL_544 (L_56c hB) rfl rfl (by omega) (by omega) ?_
  refine X_scr (c := 2) aL_545 aL_546 aL_548 (by decide +kernel) aL_549 aL_550 (L_56c hB) rfl rfl (by omega) (by omega) ?_
  refine X_ld aL_551 rfl rfl rfl ?_
  refine X_Lw l_L_L_hole (W_hole hG hX hN hB w hJ.1 hJ.2.1 hlv) aL_552 rfl rfl (Nat.le_of_ble_eq_true rfl) (Nat.le_of_ble_eq_true rfl) (Nat.le_of_ble_eq_true rfl) (by omega) (by omega) (fun N9 r h => ?_)
  obtain ⟨o, rfl, rfl, hA⟩ := h
  refine X_st aL_555 rfl rfl ?_
  refine X_heap L_sw ?_
  refine X_ld aL_557 rfl rfl rfl ?_
  refine X_scr (c := 1) aL_558 aL_559 aL_561 (by decide +kernel) aL_562 aL_563 (L_56m hB) rfl rfl (by omega) (by omega) ?_
  refine X_scr (c := 2) aL_564 aL_565 aL_567 (by decide +kernel) aL_568 aL_569 (L_56m hB) rfl rfl (by omega) (by omega) ?_
  refine X_Lr l_L_X11_hole rfl (c_hole hG 50 v hI.1 hI.2.1 hlv.1.1) aL_570 rfl rfl (Nat.le_of_ble_eq_true rfl) (Nat.le_of_ble_eq_true rfl) (Nat.le_of_ble_eq_true rfl) (by omega) (by omega) (fun N9 r h => ?_)
  obtain ⟨rfl, rfl⟩ := h
  refine X_Ltl hG aL_573 aL_575 aL_576 aL_579 aL_581 aL_586 aL_588 aL_591 aL_592 aL_593 aL_594 aL_596 aL_597 aL_598 aL_603 ((c_out (by omega) (by omega)).trans x_set_eq) hA (by omega) (by omega) ?_
  refine X_heap L_sw.symm ?_
  exact kk _ b _ _ ⟨B, o, _, T, S, rd, tx, gv, P, J, bf, K, tk, ts, tl, tv, su, D, w, v, u, rfl, hB, L_I0 hI, L_I0J hJ, hr, hm⟩ (by omega) (by omega)
theorem law_8 {G : XE} (hG : x_Kn G) (hX : x_KX G) (hN : x_KN G) (hK : x_KS G) (hM : x_KM G) {ad0 : Nat → Nat} {nb0 : Nat} {n t b : Nat} {xs : Nat → Int32} {N : XH} {cells slots : Nat} (hI : L_I n xs t b N) (hn : 7 * t + 7 ≤ n) (h36 : n ≤ 3584) (hc : cells + 12 * b ≤ 300 + 975 * t) (hs : slots + 292 * b ≤ 60000 + 5850 * t) (kk : L_K G ad0 nb0 n xs t) : x_W G mL_law (L_Z G ad0 nb0) N cells slots 606 (L_l t) [] := by
  obtain ⟨B, ov, I, T, S, rd, tx, gv, P, J, bf, K, tk, ts, tl, tv, su, D, w, v, u, rfl, hB, hI, hJ, hr, hg⟩ := hI
  have hlv := hg.cur hJ.2.1 hI.2.1
  have ht : t + 1 ≤ 512 := by omega
  have hm := hg.mono y_le_rfl (Nat.le_succ t)
  refine X_ld aL_606 rfl rfl rfl ?_
  refine X_scr (c := 1) aL_607 aL_608 aL_610 (by decide +kernel) aL_611 aL_612 (L_56c hB) rfl rfl (by omega) (by omega) ?_
  refine X_scr (c := 2) aL_613 aL_614 aL_616 (by decide +kernel) aL_617 aL_618 (L_56c hB) rfl rfl (by omega) (by omega) ?_
  refine X_ld aL_619 rfl rfl rfl ?_
  refine X_Lw l_L_L_statement (W_statement hG hX hN hB w hJ.1 hJ.2.1 hlv) aL_620 rfl rfl (Nat.le_of_ble_eq_true rfl) (Nat.le_of_ble_eq_true rfl) (Nat.le_of_ble_eq_true rfl) (by omega) (by omega) (fun N9 r h => ?_)
  obtain ⟨o, rfl, rfl, hA⟩ := h
  refine X_st aL_623 rfl rfl ?_
  refine X_heap L_sw ?_
  refine X_ld aL_625 rfl rfl rfl ?_
  refine X_scr (c := 1) aL_626 aL_627 aL_629 (by decide +kernel) aL_630 aL_631 (L_56m hB) rfl rfl (by omega) (by omega) ?_
  refine X_scr (c := 2) aL_632 aL_633 aL_635 (by decide +kernel) aL_636 aL_637 (L_56m hB) rfl rfl (by omega) (by omega) ?_
  refine X_Lr l_L_X11_statement rfl (c_statement hG 50 v hI.1 hI.2.1 hlv.1.1) aL_638 rfl rfl (Nat.le_of_ble_eq_true rfl) (Nat.le_of_ble_eq_true rfl) (Nat.le_of_ble_eq_true rfl) (by omega) (by omega) (fun N9 r h => ?_)
  obtain ⟨rfl, rfl⟩ := h
  refine X_Ltl hG aL_641 aL_643 aL_644 aL_647 aL_649 aL_654 aL_656 aL_659 aL_660 aL_661 aL_662 aL_664 aL_665 aL_666 aL_671 ((c_out (by omega) (by omega)).trans x_set_eq) hA (by omega) (by omega) ?_
  refine X_heap L_sw.symm ?_
  exact kk _ b _ _ ⟨B, o, _, T, S, rd, tx, gv, P, J, bf, K, tk, ts, tl, tv, su, D, w, v, u, rfl, hB, L_I0 hI, L_I0J hJ, hr, hm⟩ (by omega) (by omega)
theorem law_9 {G : XE} (hG : x_Kn G) (hX : x_KX G) (hN : x_KN G) (hK : x_KS G) (hM : x_KM G) {ad0 : Nat → Nat} {nb0 : Nat} {n t b : Nat} {xs : Nat → Int32} {N : XH} {cells slots : Nat} (hI : L_I n xs t b N) (hn : 7 * t + 7 ≤ n) (h36 : n ≤ 3584) (hc : cells + 12 * b ≤ 300 + 975 * t) (hs : slots + 292 * b ≤ 60000 + 5850 * t) (kk : L_K G ad0 nb0 n xs t) : x_W G mL_law (L_Z G ad0 nb0) N cells slots 674 (L_l t) [] := by
  obtain ⟨B, ov, I, T, S, rd, tx, gv, P, J, bf, K, tk, ts, tl, tv, su, D, w, v, u, rfl, hB, hI, hJ, hr, hg⟩ := hI
  have hlv := hg.cur hJ.2.1 hI.2.1
  have ht : t + 1 ≤ 512 := by omega
  have hm := hg.mono y_le_rfl (Nat.le_succ t)
  refine X_ld aL_674 rfl rfl rfl ?_
  refine X_scr (c := 1) aL_675 aL_676 aL_678 (by decide +kernel) aL_679 aL_680 (L_56c hB) rfl rfl (by omega) (by omega) ?_
  refine X_scr (c := 2) aL_681 aL_682 aL_684 (by decide +kernel) aL_685 aL_686 (L_56c hB) rfl rfl (by omega) (by omega) ?_
  refine X_ld aL_687 rfl rfl rfl ?_
  refine X_Lw l_L_L_learned (W_learned hG hX hN hB w hJ.1 hJ.2.1 hlv) aL_688 rfl rfl (Nat.le_of_ble_eq_true rfl) (Nat.le_of_ble_eq_true rfl) (Nat.le_of_ble_eq_true rfl) (by omega) (by omega) (fun N9 r h => ?_)
  obtain ⟨o, rfl, rfl, hA⟩ := h
  refine X_st aL_691 rfl rfl ?_
  refine X_heap L_sw ?_
  refine X_ld aL_693 rfl rfl rfl ?_
  refine X_scr (c := 1) aL_694 aL_695 aL_697 (by decide +kernel) aL_698 aL_699 (L_56m hB) rfl rfl (by omega) (by omega) ?_
  refine X_scr (c := 2) aL_700 aL_701 aL_703 (by decide +kernel) aL_704 aL_705 (L_56m hB) rfl rfl (by omega) (by omega) ?_
  refine X_Lr l_L_X11_learned rfl (c_learned hG 50 v hI.1 hI.2.1 hlv.1.1) aL_706 rfl rfl (Nat.le_of_ble_eq_true rfl) (Nat.le_of_ble_eq_true rfl) (Nat.le_of_ble_eq_true rfl) (by omega) (by omega) (fun N9 r h => ?_)
  obtain ⟨rfl, rfl⟩ := h
  refine X_Ltl hG aL_709 aL_711 aL_712 aL_715 aL_717 aL_722 aL_724 aL_727 aL_728 aL_729 aL_730 aL_732 aL_733 aL_734 aL_739 ((c_out (by omega) (by omega)).trans x_set_eq) hA (by omega) (by omega) ?_
  refine X_heap L_sw.symm ?_
  exact kk _ b _ _ ⟨B, o, _, T, S, rd, tx, gv, P, J, bf, K, tk, ts, tl, tv, su, D, w, v, u, rfl, hB, L_I0 hI, L_I0J hJ, hr, hm⟩ (by omega) (by omega)
theorem law_10 {G : XE} (hG : x_Kn G) (hX : x_KX G) (hN : x_KN G) (hK : x_KS G) (hM : x_KM G) {ad0 : Nat → Nat} {nb0 : Nat} {n t b : Nat} {xs : Nat → Int32} {N : XH} {cells slots : Nat} (hI : L_I n xs t b N) (hn : 7 * t + 7 ≤ n) (h36 : n ≤ 3584) (hc : cells + 12 * b ≤ 300 + 975 * t) (hs : slots + 292 * b ≤ 60000 + 5850 * t) (kk : L_K G ad0 nb0 n xs t) : x_W G mL_law (L_Z G ad0 nb0) N cells slots 742 (L_l t) [] := by
  obtain ⟨B, ov, I, T, S, rd, tx, gv, P, J, bf, K, tk, ts, tl, tv, su, D, w, v, u, rfl, hB, hI, hJ, hr, hg⟩ := hI
  have hlv := hg.cur hJ.2.1 hI.2.1
  have ht : t + 1 ≤ 512 := by omega
  have hm := hg.mono y_le_rfl (Nat.le_succ t)
  refine X_ld aL_742 rfl rfl rfl ?_
  refine X_scr (c := 1) aL_743 aL_744 aL_746 (by decide +kernel) aL_747 aL_748 (L_56c hB) rfl rfl (by omega) (by omega) ?_
  refine X_ld aL_749 rfl rfl rfl ?_
  refine X_Lw l_L_L_kept (W_kept hG hX hN hB w hJ.1 hJ.2.1 hlv) aL_750 rfl rfl (Nat.le_of_ble_eq_true rfl) (Nat.le_of_ble_eq_true rfl) (Nat.le_of_ble_eq_true rfl) (by omega) (by omega) (fun N9 r h => ?_)
  obtain ⟨o, rfl, rfl, hA⟩ := h
  refine X_st aL_753 rfl rfl ?_
  refine X_heap L_sw ?_
  refine X_ld aL_755 rfl rfl rfl ?_
  refine X_scr (c := 1) aL_756 aL_757 aL_759 (by decide +kernel) aL_760 aL_761 (L_56m hB) rfl rfl (by omega) (by omega) ?_
  refine X_Lr l_L_X11_kept rfl (c_kept hG 50 v hI.1 hI.2.1 hlv.1.1) aL_762 rfl rfl (Nat.le_of_ble_eq_true rfl) (Nat.le_of_ble_eq_true rfl) (Nat.le_of_ble_eq_true rfl) (by omega) (by omega) (fun N9 r h => ?_)
  obtain ⟨rfl, rfl⟩ := h
  refine X_Ltl hG aL_765 aL_767 aL_768 aL_771 aL_773 aL_778 aL_780 aL_783 aL_784 aL_785 aL_786 aL_788 aL_789 aL_790 aL_795 ((c_out (by omega) (by omega)).trans x_set_eq) hA (by omega) (by omega) ?_
  refine X_heap L_sw.symm ?_
  exact kk _ b _ _ ⟨B, o, _, T, S, rd, tx, gv, P, J, bf, K, tk, ts, tl, tv, su, D, w, v, u, rfl, hB, L_I0 hI, L_I0J hJ, hr, hm⟩ (by omega) (by omega)
theorem law_11 {G : XE} (hG : x_Kn G) (hX : x_KX G) (hN : x_KN G) (hK : x_KS G) (hM : x_KM G) {ad0 : Nat → Nat} {nb0 : Nat} {n t b : Nat} {xs : Nat → Int32} {N : XH} {cells slots : Nat} (hI : L_I n xs t b N) (hn : 7 * t + 7 ≤ n) (h36 : n ≤ 3584) (hc : cells + 12 * b ≤ 300 + 975 * t) (hs : slots + 292 * b ≤ 60000 + 5850 * t) (kk : L_K G ad0 nb0 n xs t) : x_W G mL_law (L_Z G ad0 nb0) N cells slots 798 (L_l t) [] := by
  obtain ⟨B, ov, I, T, S, rd, tx, gv, P, J, bf, K, tk, ts, tl, tv, su, D, w, v, u, rfl, hB, hI, hJ, hr, hg⟩ := hI
  have hlv := hg.cur hJ.2.1 hI.2.1
  have ht : t + 1 ≤ 512 := by omega
  have hm := hg.mono y_le_rfl (Nat.le_succ t)
  refine X_ld aL_798 rfl rfl rfl ?_
  refine X_scr (c := 1) aL_799 aL_800 aL_802 (by decide +kernel) aL_803 aL_804 (L_56c hB) rfl rfl (by omega) (by omega) ?_
  refine X_scr (c := 2) aL_805 aL_806 aL_808 (by decide +kernel) aL_809 aL_810 (L_56c hB) rfl rfl (by omega) (by omega) ?_
  refine X_ld aL_811 rfl rfl rfl ?_
  refine X_Lw l_L_L_genericCost (W_genericCost hG hX hN hB w hJ.1 hJ.2.1 hlv hK) aL_812 rfl rfl (Nat.le_of_ble_eq_true rfl) (Nat.le_of_ble_eq_true rfl) (Nat.le_of_ble_eq_true rfl) (by omega) (by omega) (fun N9 r h => ?_)
  obtain ⟨o, rfl, rfl, hA⟩ := h
  refine X_st aL_815 rfl rfl ?_
  refine X_heap L_sw ?_
  refine X_ld aL_817 rfl rfl rfl ?_
  refine X_scr (c := 1) aL_818 aL_819 aL_821 (by decide +kernel) aL_822 aL_823 (L_56m hB) rfl rfl (by omega) (by omega) ?_
  refine X_scr (c := 2) aL_824 aL_825 aL_827 (by decide +kernel) aL_828 aL_829 (L_56m hB) rfl rfl (by omega) (by omega) ?_
  refine X_Lr l_L_X11_genericCost rfl (c_genericCost hG 50 v hI.1 hI.2.1 hlv.1.1) aL_830 rfl rfl (Nat.le_of_ble_eq_true rfl) (Nat.le_of_ble_eq_true rfl) (Nat.le_of_ble_eq_true rfl) (by omega) (by omega) (fun N9 r h => ?_)
  obtain ⟨rfl, rfl⟩ := h
  refine X_Ltl hG aL_833 aL_835 aL_836 aL_839 aL_841 aL_846 aL_848 aL_851 aL_852 aL_853 aL_854 aL_856 aL_857 aL_858 aL_863 ((c_out (by omega) (by omega)).trans x_set_eq) hA (by omega) (by omega) ?_
  refine X_heap L_sw.symm ?_
  exact kk _ b _ _ ⟨B, o, _, T, S, rd, tx, gv, P, J, bf, K, tk, ts, tl, tv, su, D, w, v, u, rfl, hB, L_I0 hI, L_I0J hJ, hr, hm⟩ (by omega) (by omega)
theorem law_12 {G : XE} (hG : x_Kn G) (hX : x_KX G) (hN : x_KN G) (hK : x_KS G) (hM : x_KM G) {ad0 : Nat → Nat} {nb0 : Nat} {n t b : Nat} {xs : Nat → Int32} {N : XH} {cells slots : Nat} (hI : L_I n xs t b N) (hn : 7 * t + 7 ≤ n) (h36 : n ≤ 3584) (hc : cells + 12 * b ≤ 300 + 975 * t) (hs : slots + 292 * b ≤ 60000 + 5850 * t) (kk : L_K G ad0 nb0 n xs t) : x_W G mL_law (L_Z G ad0 nb0) N cells slots 866 (L_l t) [] := by
  obtain ⟨B, ov, I, T, S, rd, tx, gv, P, J, bf, K, tk, ts, tl, tv, su, D, w, v, u, rfl, hB, hI, hJ, hr, hg⟩ := hI
  have hlv := hg.cur hJ.2.1 hI.2.1
  have ht : t + 1 ≤ 512 := by omega
  have hm := hg.mono y_le_rfl (Nat.le_succ t)
  refine X_ld aL_866 rfl rfl rfl ?_
  refine X_scr (c := 1) aL_867 aL_868 aL_870 (by decide +kernel) aL_871 aL_872 (L_56c hB) rfl rfl (by omega) (by omega) ?_
  refine X_scr (c := 2) aL_873 aL_874 aL_876 (by decide +kernel) aL_877 aL_878 (L_56c hB) rfl rfl (by omega) (by omega) ?_
  refine X_scr (c := 3) aL_879 aL_880 aL_882 (by decide +kernel) aL_883 aL_884 (L_56c hB) rfl rfl (by omega) (by omega) ?_
  refine X_scr (c := 4) aL_885 aL_886 aL_888 (by decide +kernel) aL_889 aL_890 (L_56c hB) rfl rfl (by omega) (by omega) ?_
  refine X_scr (c := 5) aL_891 aL_892 aL_894 (by decide +kernel) aL_895 aL_896 (L_56c hB) rfl rfl (by omega) (by omega) ?_
  refine X_ld aL_897 rfl rfl rfl ?_
  refine X_Lw l_L_L_special (W_special hG hX hN hB w hJ.1 hJ.2.1 hlv) aL_898 rfl rfl (Nat.le_of_ble_eq_true rfl) (Nat.le_of_ble_eq_true rfl) (Nat.le_of_ble_eq_true rfl) (by omega) (by omega) (fun N9 r h => ?_)
  obtain ⟨o, rfl, rfl, hA⟩ := h
  refine X_st aL_901 rfl rfl ?_
  refine X_heap L_sw ?_
  refine X_ld aL_903 rfl rfl rfl ?_
  refine X_scr (c := 1) aL_904 aL_905 aL_907 (by decide +kernel) aL_908 aL_909 (L_56m hB) rfl rfl (by omega) (by omega) ?_
  refine X_scr (c := 2) aL_910 aL_911 aL_913 (by decide +kernel) aL_914 aL_915 (L_56m hB) rfl rfl (by omega) (by omega) ?_
  refine X_scr (c := 3) aL_916 aL_917 aL_919 (by decide +kernel) aL_920 aL_921 (L_56m hB) rfl rfl (by omega) (by omega) ?_
  refine X_scr (c := 4) aL_922 aL_923 aL_925 (by decide +kernel) aL_926 aL_927 (L_56m hB) rfl rfl (by omega) (by omega) ?_
  refine X_scr (c := 5) aL_928 aL_929 aL_931 (by decide +kernel) aL_932 aL_933 (L_56m hB) rfl rfl (by omega) (by omega) ?_
  refine X_Lr l_L_X11_special rfl (c_special hG 50 v hI.1 hI.2.1 hlv.1.1) aL_934 rfl rfl (Nat.le_of_ble_eq_true rfl) (Nat.le_of_ble_eq_true rfl) (Nat.le_of_ble_eq_true rfl) (by omega) (by omega) (fun N9 r h => ?_)
  obtain ⟨gv', P', rfl, rfl⟩ := h
  refine X_Ltl hG aL_937 aL_939 aL_940 aL_943 aL_945 aL_950 aL_952 aL_955 aL_956 aL_957 aL_958 aL_960 aL_961 aL_962 aL_967 ((c_out (by omega) (by omega)).trans x_set_eq) hA (by omega) (by omega) ?_
  refine X_heap L_sw.symm ?_
  exact kk _ b _ _ ⟨B, o, _, T, S, rd, tx, gv', P', J, bf, K, tk, ts, tl, tv, su, D, w, v, u, rfl, hB, L_I0 hI, L_I0J hJ, hr, hm⟩ (by omega) (by omega)
theorem law_13 {G : XE} (hG : x_Kn G) (hX : x_KX G) (hN : x_KN G) (hK : x_KS G) (hM : x_KM G) {ad0 : Nat → Nat} {nb0 : Nat} {n t b : Nat} {xs : Nat → Int32} {N : XH} {cells slots : Nat} (hI : L_I n xs t b N) (hn : 7 * t + 7 ≤ n) (h36 : n ≤ 3584) (hc : cells + 12 * b ≤ 300 + 975 * t) (hs : slots + 292 * b ≤ 60000 + 5850 * t) (kk : L_K G ad0 nb0 n xs t) : x_W G mL_law (L_Z G ad0 nb0) N cells slots 970 (L_l t) [] := by
  obtain ⟨B, ov, I, T, S, rd, tx, gv, P, J, bf, K, tk, ts, tl, tv, su, D, w, v, u, rfl, hB, hI, hJ, hr, hg⟩ := hI
  have hlv := hg.cur hJ.2.1 hI.2.1
  have ht : t + 1 ≤ 512 := by omega
  have hm := hg.mono y_le_rfl (Nat.le_succ t)
  refine X_ld aL_970 rfl rfl rfl ?_
  refine X_scr (c := 1) aL_971 aL_972 aL_974 (by decide +kernel) aL_975 aL_976 (L_56c hB) rfl rfl (by omega) (by omega) ?_
  refine X_scr (c := 2) aL_977 aL_978 aL_980 (by decide +kernel) aL_981 aL_982 (L_56c hB) rfl rfl (by omega) (by omega) ?_
  refine X_scr (c := 3) aL_983 aL_984 aL_986 (by decide +kernel) aL_987 aL_988 (L_56c hB) rfl rfl (by omega) (by omega) ?_
  refine X_scr (c := 4) aL_989 aL_990 aL_992 (by decide +kernel) aL_993 aL_994 (L_56c hB) rfl rfl (by omega) (by omega) ?_
  refine X_scr (c := 5) aL_995 aL_996 aL_998 (by decide +kernel) aL_999 aL_1000 (L_56c hB) rfl rfl (by omega) (by omega) ?_
  refine X_scr (c := 6) aL_1001 aL_1002 aL_1004 (by decide +kernel) aL_1006 aL_1007 (L_56c hB) rfl rfl (by omega) (by omega) ?_
  refine X_ld aL_1008 rfl rfl rfl ?_
  refine X_Lw l_L_L_specialCost (W_specialCost hG hX hN hB w hJ.1 hJ.2.1 hlv) aL_1009 rfl rfl (Nat.le_of_ble_eq_true rfl) (Nat.le_of_ble_eq_true rfl) (Nat.le_of_ble_eq_true rfl) (by omega) (by omega) (fun N9 r h => ?_)
  obtain ⟨o, rfl, rfl, hA⟩ := h
  refine X_st aL_1012 rfl rfl ?_
  refine X_heap L_sw ?_
  refine X_ld aL_1014 rfl rfl rfl ?_
  refine X_scr (c := 1) aL_1015 aL_1016 aL_1018 (by decide +kernel) aL_1019 aL_1020 (L_56m hB) rfl rfl (by omega) (by omega) ?_
  refine X_scr (c := 2) aL_1021 aL_1022 aL_1024 (by decide +kernel) aL_1025 aL_1026 (L_56m hB) rfl rfl (by omega) (by omega) ?_
  refine X_scr (c := 3) aL_1027 aL_1028 aL_1030 (by decide +kernel) aL_1031 aL_1032 (L_56m hB) rfl rfl (by omega) (by omega) ?_
  refine X_scr (c := 4) aL_1033 aL_1034 aL_1036 (by decide +kernel) aL_1037 aL_1038 (L_56m hB) rfl rfl (by omega) (by omega) ?_
  refine X_scr (c := 5) aL_1039 aL_1040 aL_1042 (by decide +kernel) aL_1043 aL_1044 (L_56m hB) rfl rfl (by omega) (by omega) ?_
  refine X_scr (c := 6) aL_1045 aL_1046 aL_1048 (by decide +kernel) aL_1050 aL_1051 (L_56m hB) rfl rfl (by omega) (by omega) ?_
  refine X_Lr l_L_X11_specialCost rfl (c_specialCost hG 50 v hI.1 hI.2.1 hlv.1.1) aL_1052 rfl rfl (Nat.le_of_ble_eq_true rfl) (Nat.le_of_ble_eq_true rfl) (Nat.le_of_ble_eq_true rfl) (by omega) (by omega) (fun N9 r h => ?_)
  obtain ⟨gv', P', rfl, rfl⟩ := h
  refine X_Ltl hG aL_1055 aL_1057 aL_1058 aL_1061 aL_1063 aL_1068 aL_1070 aL_1073 aL_1074 aL_1075 aL_1076 aL_1078 aL_1079 aL_1080 aL_1085 ((c_out (by omega) (by omega)).trans x_set_eq) hA (by omega) (by omega) ?_
  refine X_heap L_sw.symm ?_
  exact kk _ b _ _ ⟨B, o, _, T, S, rd, tx, gv', P', J, bf, K, tk, ts, tl, tv, su, D, w, v, u, rfl, hB, L_I0 hI, L_I0J hJ, hr, hm⟩ (by omega) (by omega)
theorem law_14 {G : XE} (hG : x_Kn G) (hX : x_KX G) (hN : x_KN G) (hK : x_KS G) (hM : x_KM G) {ad0 : Nat → Nat} {nb0 : Nat} {n t b : Nat} {xs : Nat → Int32} {N : XH} {cells slots : Nat} (hI : L_I n xs t b N) (hn : 7 * t + 7 ≤ n) (h36 : n ≤ 3584) (hc : cells + 12 * b ≤ 300 + 975 * t) (hs : slots + 292 * b ≤ 60000 + 5850 * t) (kk : L_K G ad0 nb0 n xs t) : x_W G mL_law (L_Z G ad0 nb0) N cells slots 1088 (L_l t) [] := by
  obtain ⟨B, ov, I, T, S, rd, tx, gv, P, J, bf, K, tk, ts, tl, tv, su, D, w, v, u, rfl, hB, hI, hJ, hr, hg⟩ := hI
  have hlv := hg.cur hJ.2.1 hI.2.1
  have ht : t + 1 ≤ 512 := by omega
  have hm := hg.mono y_le_rfl (Nat.le_succ t)
  refine X_ld aL_1088 rfl rfl rfl ?_
  refine X_scr (c := 1) aL_1089 aL_1090 aL_1092 (by decide +kernel) aL_1093 aL_1094 (L_56c hB) rfl rfl (by omega) (by omega) ?_
  refine X_scr (c := 2) aL_1095 aL_1096 aL_1098 (by decide +kernel) aL_1099 aL_1100 (L_56c hB) rfl rfl (by omega) (by omega) ?_
  refine X_scr (c := 3) aL_1101 aL_1102 aL_1104 (by decide +kernel) aL_1105 aL_1106 (L_56c hB) rfl rfl (by omega) (by omega) ?_
  refine X_scr (c := 4) aL_1107 aL_1108 aL_1110 (by decide +kernel) aL_1111 aL_1112 (L_56c hB) rfl rfl (by omega) (by omega) ?_
  refine X_scr (c := 5) aL_1113 aL_1114 aL_1116 (by decide +kernel) aL_1117 aL_1118 (L_56c hB) rfl rfl (by omega) (by omega) ?_
  refine X_ld aL_1119 rfl rfl rfl ?_
  refine X_Lw l_L_L_wouldUse (W_wouldUse hG hX hN hB w hJ.1 hJ.2.1 hlv hK (Nat.le_of_succ_le ht)) aL_1120 rfl rfl (Nat.le_of_ble_eq_true rfl) (Nat.le_of_ble_eq_true rfl) (Nat.le_of_ble_eq_true rfl) (by omega) (by omega) (fun N9 r h => ?_)
  obtain ⟨o, h2, rfl, hA⟩ := h
  have h3 : ∃ su2 D2, N9 = cset (L_X B o I T S rd tx gv P) J bf K tk ts tl tv su2 D2 ∧ L_rg B (t + 1) w v u S D2 su2 := by
    rcases h2 with rfl | ⟨c2, rfl⟩
    · exact ⟨_, _, rfl, hm⟩
    · exact ⟨_, _, rfl, hm.spare hJ.2.1 hI.2.2.2.1⟩
  obtain ⟨su2, D2, rfl, hm2⟩ := h3
  refine X_st aL_1123 rfl rfl ?_
  refine X_heap L_sw ?_
  refine X_ld aL_1125 rfl rfl rfl ?_
  refine X_scr (c := 1) aL_1126 aL_1127 aL_1129 (by decide +kernel) aL_1130 aL_1131 (L_56m hB) rfl rfl (by omega) (by omega) ?_
  refine X_scr (c := 2) aL_1132 aL_1133 aL_1135 (by decide +kernel) aL_1136 aL_1137 (L_56m hB) rfl rfl (by omega) (by omega) ?_
  refine X_scr (c := 3) aL_1138 aL_1139 aL_1141 (by decide +kernel) aL_1142 aL_1143 (L_56m hB) rfl rfl (by omega) (by omega) ?_
  refine X_scr (c := 4) aL_1144 aL_1145 aL_1147 (by decide +kernel) aL_1148 aL_1149 (L_56m hB) rfl rfl (by omega) (by omega) ?_
  refine X_scr (c := 5) aL_1150 aL_1151 aL_1153 (by decide +kernel) aL_1154 aL_1155 (L_56m hB) rfl rfl (by omega) (by omega) ?_
  refine X_Lr l_L_X11_wouldUse rfl (c_wouldUse hG 50 v hI.1 hI.2.1 hlv.1.1) aL_1156 rfl rfl (Nat.le_of_ble_eq_true rfl) (Nat.le_of_ble_eq_true rfl) (Nat.le_of_ble_eq_true rfl) (by omega) (by omega) (fun N9 r h => ?_)
  obtain ⟨gv', P', rfl, rfl⟩ := h
  refine X_Ltl hG aL_1159 aL_1161 aL_1162 aL_1165 aL_1167 aL_1172 aL_1174 aL_1177 aL_1178 aL_1179 aL_1180 aL_1182 aL_1183 aL_1184 aL_1189 ((c_out (by omega) (by omega)).trans x_set_eq) hA (by omega) (by omega) ?_
  refine X_heap L_sw.symm ?_
  exact kk _ b _ _ ⟨B, o, _, T, S, rd, tx, gv', P', J, bf, K, tk, ts, tl, tv, su2, D2, w, v, u, rfl, hB, L_I0 hI, L_I0J hJ, hr, hm2⟩ (by omega) (by omega)
theorem law_15 {G : XE} (hG : x_Kn G) (hX : x_KX G) (hN : x_KN G) (hK : x_KS G) (hM : x_KM G) {ad0 : Nat → Nat} {nb0 : Nat} {n t b : Nat} {xs : Nat → Int32} {N : XH} {cells slots : Nat} (hI : L_I n xs t b N) (hn : 7 * t + 7 ≤ n) (h36 : n ≤ 3584) (hc : cells + 12 * b ≤ 300 + 975 * t) (hs : slots + 292 * b ≤ 60000 + 5850 * t) (kk : L_K G ad0 nb0 n xs t) : x_W G mL_law (L_Z G ad0 nb0) N cells slots 1192 (L_l t) [] := by
  obtain ⟨B, ov, I, T, S, rd, tx, gv, P, J, bf, K, tk, ts, tl, tv, su, D, w, v, u, rfl, hB, hI, hJ, hr, hg⟩ := hI
  have hlv := hg.cur hJ.2.1 hI.2.1
  have ht : t + 1 ≤ 512 := by omega
  have hm := hg.mono y_le_rfl (Nat.le_succ t)
  refine X_ld aL_1192 rfl rfl rfl ?_
  refine X_scr (c := 1) aL_1193 aL_1194 aL_1196 (by decide +kernel) aL_1197 aL_1198 (L_56c hB) rfl rfl (by omega) (by omega) ?_
  refine X_scr (c := 2) aL_1199 aL_1200 aL_1202 (by decide +kernel) aL_1203 aL_1204 (L_56c hB) rfl rfl (by omega) (by omega) ?_
  refine X_scr (c := 3) aL_1205 aL_1206 aL_1208 (by decide +kernel) aL_1209 aL_1210 (L_56c hB) rfl rfl (by omega) (by omega) ?_
  refine X_scr (c := 4) aL_1211 aL_1212 aL_1214 (by decide +kernel) aL_1215 aL_1216 (L_56c hB) rfl rfl (by omega) (by omega) ?_
  refine X_scr (c := 5) aL_1217 aL_1218 aL_1220 (by decide +kernel) aL_1221 aL_1222 (L_56c hB) rfl rfl (by omega) (by omega) ?_
  refine X_ld aL_1223 rfl rfl rfl ?_
  refine X_Lw l_L_L_rows (W_rows hG hX hN hB w hJ.1 hJ.2.1 hlv) aL_1224 rfl rfl (Nat.le_of_ble_eq_true rfl) (Nat.le_of_ble_eq_true rfl) (Nat.le_of_ble_eq_true rfl) (by omega) (by omega) (fun N9 r h => ?_)
  obtain ⟨o, rfl, rfl, hA⟩ := h
  refine X_st aL_1227 rfl rfl ?_
  refine X_heap L_sw ?_
  refine X_ld aL_1229 rfl rfl rfl ?_
  refine X_scr (c := 1) aL_1230 aL_1231 aL_1233 (by decide +kernel) aL_1234 aL_1235 (L_56m hB) rfl rfl (by omega) (by omega) ?_
  refine X_scr (c := 2) aL_1236 aL_1237 aL_1239 (by decide +kernel) aL_1240 aL_1241 (L_56m hB) rfl rfl (by omega) (by omega) ?_
  refine X_scr (c := 3) aL_1242 aL_1243 aL_1245 (by decide +kernel) aL_1246 aL_1247 (L_56m hB) rfl rfl (by omega) (by omega) ?_
  refine X_scr (c := 4) aL_1248 aL_1249 aL_1251 (by decide +kernel) aL_1252 aL_1253 (L_56m hB) rfl rfl (by omega) (by omega) ?_
  refine X_scr (c := 5) aL_1254 aL_1255 aL_1257 (by decide +kernel) aL_1258 aL_1259 (L_56m hB) rfl rfl (by omega) (by omega) ?_
  refine X_Lr l_L_X11_rows rfl (c_rows hG 50 v hI.1 hI.2.1 hlv.1.1) aL_1260 rfl rfl (Nat.le_of_ble_eq_true rfl) (Nat.le_of_ble_eq_true rfl) (Nat.le_of_ble_eq_true rfl) (by omega) (by omega) (fun N9 r h => ?_)
  obtain ⟨gv', P', rfl, rfl⟩ := h
  refine X_LtL hG aL_1263 aL_1265 aL_1266 aL_1269 aL_1271 aL_1276 aL_1278 aL_1281 aL_1282 aL_1283 aL_1284 aL_1286 aL_1287 aL_1292 ((c_out (by omega) (by omega)).trans x_set_eq) hA (by omega) (by omega) ?_
  refine X_heap L_sw.symm ?_
  exact kk _ b _ _ ⟨B, o, _, T, S, rd, tx, gv', P', J, bf, K, tk, ts, tl, tv, su, D, w, v, u, rfl, hB, L_I0 hI, L_I0J hJ, hr, hm⟩ (by omega) (by omega)
