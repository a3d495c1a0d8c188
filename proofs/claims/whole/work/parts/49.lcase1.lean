section LCASES
variable {l : Launch} {p : Program} {e : Env} {s : State} {m : MethodId} {below : List Frame} {meth : Method} {c : Code} {g : GG} {b L : Nat} {xs : Nat → Int32} {bb i : Nat} {w : Wd}
theorem lc_panic (X : LX p s m meth c g b L xs) (hL : L ≤ 3072) (hI : INV bb w) (hb : bb ≤ 40000) (hi : i + 6 ≤ L) (k : ∀ w2, INV (bb + 60) w2 → GoL l p e s m below meth c g b 1302 (LVl g b i) [] w2) : GoL l p e s m below meth c g b 573 (LVl g b i) [] w := by
  obtain ⟨q, hX, hG, hY⟩ : STEP l g bb w S_panic Q_panic [.int (xs (i + 1)), .int (xs (i + 2))] := st_panic hI hb
  refine l_aload X dL_573 rfl ?_
  refine l_arg (z := 1) X hL rfl rfl dL_574 dL_575 dL_576 dL_577 dL_578 (by omega) ?_
  refine l_arg (z := 2) X hL rfl rfl dL_579 dL_580 dL_581 dL_582 dL_583 (by omega) ?_
  refine l_callV (as := [.int (xs (i + 1)), .int (xs (i + 2))]) (rest := []) (bq := 0) X dL_584 kL_69 rfl rfl hX (Nat.le_of_ble_eq_true rfl) rfl (fun r1 w1 q1 => ?_)
  obtain ⟨rfl, B, T, e1⟩ := q1
  refine l_aload X dL_587 rfl ?_
  refine l_arg (z := 1) X hL rfl rfl dL_588 dL_589 dL_590 dL_591 dL_592 (by omega) ?_
  refine l_arg (z := 2) X hL rfl rfl dL_593 dL_594 dL_595 dL_596 dL_597 (by omega) ?_
  refine l_callV (as := [.int (xs (i + 1)), .int (xs (i + 2))]) (rest := [.int q.1]) (bq := 33) X dL_598 kL_72 rfl rfl (hY w1 (step_mid hI.1 hG e1)) (Nat.le_of_ble_eq_true rfl) rfl (fun r2 w2 q2 => ?_)
  obtain ⟨rfl, h2, h3⟩ := q2
  exact l_icmp_eq X dL_601 rfl (fun _ => k w2 (step_fin hG e1 h2 h3)) (fun hne => absurd rfl hne)
theorem lc_standFor (X : LX p s m meth c g b L xs) (hL : L ≤ 3072) (hI : INV bb w) (hb : bb ≤ 40000) (hi : i + 6 ≤ L) (k : ∀ w2, INV (bb + 60) w2 → GoL l p e s m below meth c g b 1302 (LVl g b i) [] w2) : GoL l p e s m below meth c g b 606 (LVl g b i) [] w := by
  obtain ⟨q, hX, hG, hY⟩ : STEP l g bb w S_standFor Q_standFor [.int (xs (i + 1))] := st_standFor hI hb
  refine l_aload X dL_606 rfl ?_
  refine l_arg (z := 1) X hL rfl rfl dL_607 dL_608 dL_609 dL_610 dL_611 (by omega) ?_
  refine l_callV (as := [.int (xs (i + 1))]) (rest := []) (bq := 0) X dL_612 kL_73 rfl rfl hX (Nat.le_of_ble_eq_true rfl) rfl (fun r1 w1 q1 => ?_)
  obtain ⟨rfl, B, T, e1⟩ := q1
  refine l_aload X dL_615 rfl ?_
  refine l_arg (z := 1) X hL rfl rfl dL_616 dL_617 dL_618 dL_619 dL_620 (by omega) ?_
  refine l_callV (as := [.int (xs (i + 1))]) (rest := [.int q.1]) (bq := 33) X dL_621 kL_76 rfl rfl (hY w1 (step_mid hI.1 hG e1)) (Nat.le_of_ble_eq_true rfl) rfl (fun r2 w2 q2 => ?_)
  obtain ⟨rfl, h2, h3⟩ := q2
  exact l_icmp_eq X dL_624 rfl (fun _ => k w2 (step_fin hG e1 h2 h3)) (fun hne => absurd rfl hne)
theorem lc_foldFor (X : LX p s m meth c g b L xs) (hL : L ≤ 3072) (hI : INV bb w) (hb : bb ≤ 40000) (hi : i + 6 ≤ L) (k : ∀ w2, INV (bb + 60) w2 → GoL l p e s m below meth c g b 1302 (LVl g b i) [] w2) : GoL l p e s m below meth c g b 629 (LVl g b i) [] w := by
  obtain ⟨q, hX, hG, hY⟩ : STEP l g bb w S_foldFor Q_foldFor [.int (xs (i + 1))] := st_foldFor hI hb
  refine l_aload X dL_629 rfl ?_
  refine l_arg (z := 1) X hL rfl rfl dL_630 dL_631 dL_632 dL_633 dL_634 (by omega) ?_
  refine l_callV (as := [.int (xs (i + 1))]) (rest := []) (bq := 0) X dL_635 kL_77 rfl rfl hX (Nat.le_of_ble_eq_true rfl) rfl (fun r1 w1 q1 => ?_)
  obtain ⟨rfl, B, T, e1⟩ := q1
  refine l_aload X dL_638 rfl ?_
  refine l_arg (z := 1) X hL rfl rfl dL_639 dL_640 dL_641 dL_642 dL_643 (by omega) ?_
  refine l_callV (as := [.int (xs (i + 1))]) (rest := [.int q.1]) (bq := 33) X dL_644 kL_80 rfl rfl (hY w1 (step_mid hI.1 hG e1)) (Nat.le_of_ble_eq_true rfl) rfl (fun r2 w2 q2 => ?_)
  obtain ⟨rfl, h2, h3⟩ := q2
  exact l_icmp_eq X dL_647 rfl (fun _ => k w2 (step_fin hG e1 h2 h3)) (fun hne => absurd rfl hne)
theorem lc_kindFor (X : LX p s m meth c g b L xs) (hL : L ≤ 3072) (hI : INV bb w) (hb : bb ≤ 40000) (hi : i + 6 ≤ L) (k : ∀ w2, INV (bb + 60) w2 → GoL l p e s m below meth c g b 1302 (LVl g b i) [] w2) : GoL l p e s m below meth c g b 652 (LVl g b i) [] w := by
  obtain ⟨q, hX, hG, hY⟩ : STEP l g bb w S_kindFor Q_kindFor [.int (xs (i + 1)), .int (xs (i + 2))] := st_kindFor hI hb
  refine l_aload X dL_652 rfl ?_
  refine l_arg (z := 1) X hL rfl rfl dL_653 dL_654 dL_655 dL_656 dL_657 (by omega) ?_
  refine l_arg (z := 2) X hL rfl rfl dL_658 dL_659 dL_660 dL_661 dL_662 (by omega) ?_
  refine l_callV (as := [.int (xs (i + 1)), .int (xs (i + 2))]) (rest := []) (bq := 0) X dL_663 kL_81 rfl rfl hX (Nat.le_of_ble_eq_true rfl) rfl (fun r1 w1 q1 => ?_)
  obtain ⟨rfl, B, T, e1⟩ := q1
  refine l_aload X dL_666 rfl ?_
  refine l_arg (z := 1) X hL rfl rfl dL_667 dL_668 dL_669 dL_670 dL_671 (by omega) ?_
  refine l_arg (z := 2) X hL rfl rfl dL_672 dL_673 dL_674 dL_675 dL_676 (by omega) ?_
  refine l_callV (as := [.int (xs (i + 1)), .int (xs (i + 2))]) (rest := [.int q.1]) (bq := 33) X dL_677 kL_84 rfl rfl (hY w1 (step_mid hI.1 hG e1)) (Nat.le_of_ble_eq_true rfl) rfl (fun r2 w2 q2 => ?_)
  obtain ⟨rfl, h2, h3⟩ := q2
  exact l_icmp_eq X dL_680 rfl (fun _ => k w2 (step_fin hG e1 h2 h3)) (fun hne => absurd rfl hne)
theorem lc_paceFor (X : LX p s m meth c g b L xs) (hL : L ≤ 3072) (hI : INV bb w) (hb : bb ≤ 40000) (hi : i + 6 ≤ L) (k : ∀ w2, INV (bb + 60) w2 → GoL l p e s m below meth c g b 1302 (LVl g b i) [] w2) : GoL l p e s m below meth c g b 685 (LVl g b i) [] w := by
  obtain ⟨q, hX, hG, hY⟩ : STEP l g bb w S_paceFor Q_paceFor [.int (xs (i + 1)), .int (xs (i + 2))] := st_paceFor hI hb
  refine l_aload X dL_685 rfl ?_
  refine l_arg (z := 1) X hL rfl rfl dL_686 dL_687 dL_688 dL_689 dL_690 (by omega) ?_
  refine l_arg (z := 2) X hL rfl rfl dL_691 dL_692 dL_693 dL_694 dL_695 (by omega) ?_
  refine l_callV (as := [.int (xs (i + 1)), .int (xs (i + 2))]) (rest := []) (bq := 0) X dL_696 kL_85 rfl rfl hX (Nat.le_of_ble_eq_true rfl) rfl (fun r1 w1 q1 => ?_)
  obtain ⟨rfl, B, T, e1⟩ := q1
  refine l_aload X dL_699 rfl ?_
  refine l_arg (z := 1) X hL rfl rfl dL_700 dL_701 dL_702 dL_703 dL_704 (by omega) ?_
  refine l_arg (z := 2) X hL rfl rfl dL_705 dL_706 dL_707 dL_708 dL_709 (by omega) ?_
  refine l_callV (as := [.int (xs (i + 1)), .int (xs (i + 2))]) (rest := [.int q.1]) (bq := 33) X dL_710 kL_88 rfl rfl (hY w1 (step_mid hI.1 hG e1)) (Nat.le_of_ble_eq_true rfl) rfl (fun r2 w2 q2 => ?_)
  obtain ⟨rfl, h2, h3⟩ := q2
  exact l_icmp_eq X dL_713 rfl (fun _ => k w2 (step_fin hG e1 h2 h3)) (fun hne => absurd rfl hne)
theorem lc_tether (X : LX p s m meth c g b L xs) (hL : L ≤ 3072) (hI : INV bb w) (hb : bb ≤ 40000) (hi : i + 6 ≤ L) (k : ∀ w2, INV (bb + 60) w2 → GoL l p e s m below meth c g b 1302 (LVl g b i) [] w2) : GoL l p e s m below meth c g b 718 (LVl g b i) [] w := by
  obtain ⟨q, hX, hG, hY⟩ : STEP l g bb w S_tether Q_tether [.int (xs (i + 1))] := st_tether hI hb
  refine l_aload X dL_718 rfl ?_
  refine l_arg (z := 1) X hL rfl rfl dL_719 dL_720 dL_721 dL_722 dL_723 (by omega) ?_
  refine l_callV (as := [.int (xs (i + 1))]) (rest := []) (bq := 0) X dL_724 kL_89 rfl rfl hX (Nat.le_of_ble_eq_true rfl) rfl (fun r1 w1 q1 => ?_)
  obtain ⟨rfl, B, T, e1⟩ := q1
  refine l_aload X dL_727 rfl ?_
  refine l_arg (z := 1) X hL rfl rfl dL_728 dL_729 dL_730 dL_731 dL_732 (by omega) ?_
  refine l_callV (as := [.int (xs (i + 1))]) (rest := [.int q.1]) (bq := 33) X dL_733 kL_92 rfl rfl (hY w1 (step_mid hI.1 hG e1)) (Nat.le_of_ble_eq_true rfl) rfl (fun r2 w2 q2 => ?_)
  obtain ⟨rfl, h2, h3⟩ := q2
  exact l_icmp_eq X dL_736 rfl (fun _ => k w2 (step_fin hG e1 h2 h3)) (fun hne => absurd rfl hne)
theorem lc_fits (X : LX p s m meth c g b L xs) (hL : L ≤ 3072) (hI : INV bb w) (hb : bb ≤ 40000) (hi : i + 6 ≤ L) (k : ∀ w2, INV (bb + 60) w2 → GoL l p e s m below meth c g b 1302 (LVl g b i) [] w2) : GoL l p e s m below meth c g b 741 (LVl g b i) [] w := by
  obtain ⟨q, hX, hG, hY⟩ : STEP l g bb w S_fits Q_fits [.int (xs (i + 1)), .int (xs (i + 2))] := st_fits hI hb
  refine l_aload X dL_741 rfl ?_
  refine l_arg (z := 1) X hL rfl rfl dL_742 dL_743 dL_744 dL_745 dL_746 (by omega) ?_
  refine l_arg (z := 2) X hL rfl rfl dL_747 dL_748 dL_749 dL_750 dL_751 (by omega) ?_
  refine l_callV (as := [.int (xs (i + 1)), .int (xs (i + 2))]) (rest := []) (bq := 0) X dL_752 kL_93 rfl rfl hX (Nat.le_of_ble_eq_true rfl) rfl (fun r1 w1 q1 => ?_)
  obtain ⟨rfl, B, T, e1⟩ := q1
  refine l_aload X dL_755 rfl ?_
  refine l_arg (z := 1) X hL rfl rfl dL_756 dL_757 dL_758 dL_759 dL_760 (by omega) ?_
  refine l_arg (z := 2) X hL rfl rfl dL_761 dL_762 dL_763 dL_764 dL_765 (by omega) ?_
  refine l_callV (as := [.int (xs (i + 1)), .int (xs (i + 2))]) (rest := [.int q.1]) (bq := 33) X dL_766 kL_96 rfl rfl (hY w1 (step_mid hI.1 hG e1)) (Nat.le_of_ble_eq_true rfl) rfl (fun r2 w2 q2 => ?_)
  obtain ⟨rfl, h2, h3⟩ := q2
  exact l_icmp_eq X dL_769 rfl (fun _ => k w2 (step_fin hG e1 h2 h3)) (fun hne => absurd rfl hne)
theorem lc_kinds (X : LX p s m meth c g b L xs) (hL : L ≤ 3072) (hI : INV bb w) (hb : bb ≤ 40000) (hi : i + 6 ≤ L) (k : ∀ w2, INV (bb + 60) w2 → GoL l p e s m below meth c g b 1302 (LVl g b i) [] w2) : GoL l p e s m below meth c g b 774 (LVl g b i) [] w := by
  obtain ⟨q, hX, hG, hY⟩ : STEP l g bb w S_kinds Q_kinds [.int (xs (i + 1)), .int (xs (i + 2))] := st_kinds hI hb
  refine l_aload X dL_774 rfl ?_
  refine l_arg (z := 1) X hL rfl rfl dL_775 dL_776 dL_777 dL_778 dL_779 (by omega) ?_
  refine l_arg (z := 2) X hL rfl rfl dL_780 dL_781 dL_782 dL_783 dL_784 (by omega) ?_
  refine l_callV (as := [.int (xs (i + 1)), .int (xs (i + 2))]) (rest := []) (bq := 0) X dL_785 kL_97 rfl rfl hX (Nat.le_of_ble_eq_true rfl) rfl (fun r1 w1 q1 => ?_)
  obtain ⟨rfl, B, T, e1⟩ := q1
  refine l_aload X dL_788 rfl ?_
  refine l_arg (z := 1) X hL rfl rfl dL_789 dL_790 dL_791 dL_792 dL_793 (by omega) ?_
  refine l_arg (z := 2) X hL rfl rfl dL_794 dL_795 dL_796 dL_797 dL_798 (by omega) ?_
  refine l_callV (as := [.int (xs (i + 1)), .int (xs (i + 2))]) (rest := [.int q.1]) (bq := 33) X dL_799 kL_100 rfl rfl (hY w1 (step_mid hI.1 hG e1)) (Nat.le_of_ble_eq_true rfl) rfl (fun r2 w2 q2 => ?_)
  obtain ⟨rfl, h2, h3⟩ := q2
  exact l_icmp_eq X dL_802 rfl (fun _ => k w2 (step_fin hG e1 h2 h3)) (fun hne => absurd rfl hne)
theorem lc_nights (X : LX p s m meth c g b L xs) (hL : L ≤ 3072) (hI : INV bb w) (hb : bb ≤ 40000) (hi : i + 6 ≤ L) (k : ∀ w2, INV (bb + 60) w2 → GoL l p e s m below meth c g b 1302 (LVl g b i) [] w2) : GoL l p e s m below meth c g b 807 (LVl g b i) [] w := by
  obtain ⟨q, hX, hG, hY⟩ : STEP l g bb w S_nights Q_nights [.int (xs (i + 1))] := st_nights hI hb
  refine l_aload X dL_807 rfl ?_
  refine l_arg (z := 1) X hL rfl rfl dL_808 dL_809 dL_810 dL_811 dL_812 (by omega) ?_
  refine l_callV (as := [.int (xs (i + 1))]) (rest := []) (bq := 0) X dL_813 kL_101 rfl rfl hX (Nat.le_of_ble_eq_true rfl) rfl (fun r1 w1 q1 => ?_)
  obtain ⟨rfl, B, T, e1⟩ := q1
  refine l_aload X dL_816 rfl ?_
  refine l_arg (z := 1) X hL rfl rfl dL_817 dL_818 dL_819 dL_820 dL_821 (by omega) ?_
  refine l_callV (as := [.int (xs (i + 1))]) (rest := [.int q.1]) (bq := 33) X dL_822 kL_104 rfl rfl (hY w1 (step_mid hI.1 hG e1)) (Nat.le_of_ble_eq_true rfl) rfl (fun r2 w2 q2 => ?_)
  obtain ⟨rfl, h2, h3⟩ := q2
  exact l_icmp_eq X dL_825 rfl (fun _ => k w2 (step_fin hG e1 h2 h3)) (fun hne => absurd rfl hne)
theorem lc_odds (X : LX p s m meth c g b L xs) (hL : L ≤ 3072) (hI : INV bb w) (hb : bb ≤ 40000) (hi : i + 6 ≤ L) (k : ∀ w2, INV (bb + 60) w2 → GoL l p e s m below meth c g b 1302 (LVl g b i) [] w2) : GoL l p e s m below meth c g b 830 (LVl g b i) [] w := by
  obtain ⟨q, hX, hG, hY⟩ := st_odds (l := l) (g := g) hI hb (s := xs (i + 1)) (k := xs (i + 2)) (x := xs (i + 3))
  refine l_aload X dL_830 rfl ?_
  refine l_arg (z := 1) X hL rfl rfl dL_831 dL_832 dL_833 dL_834 dL_835 (by omega) ?_
  refine l_arg (z := 2) X hL rfl rfl dL_836 dL_837 dL_838 dL_839 dL_840 (by omega) ?_
  refine l_arg (z := 3) X hL rfl rfl dL_841 dL_842 dL_843 dL_844 dL_845 (by omega) ?_
  refine l_callV (as := [.int (xs (i + 1)), .int (xs (i + 2)), .int (xs (i + 3))]) (rest := []) (bq := 0) X dL_846 kL_105 rfl rfl hX (Nat.le_of_ble_eq_true rfl) rfl (fun r1 w1 q1 => ?_)
  obtain ⟨rfl, B, T, e1⟩ := q1
  refine l_aload X dL_849 rfl ?_
  refine l_arg (z := 1) X hL rfl rfl dL_850 dL_851 dL_852 dL_853 dL_854 (by omega) ?_
  refine l_arg (z := 2) X hL rfl rfl dL_855 dL_856 dL_857 dL_858 dL_859 (by omega) ?_
  refine l_arg (z := 3) X hL rfl rfl dL_860 dL_861 dL_862 dL_863 dL_864 (by omega) ?_
  refine l_callV (as := [.int (xs (i + 1)), .int (xs (i + 2)), .int (xs (i + 3))]) (rest := [.long q.1]) (bq := 33) X dL_865 kL_109 rfl rfl (hY w1 (step_mid hI.1 hG e1)) (Nat.le_of_ble_eq_true rfl) rfl (fun r2 w2 q2 => ?_)
  obtain ⟨rfl, h2, h3⟩ := q2
  refine l_lcmp X dL_868 ?_
  refine l_top (y := 0) ((lg_cmp_eq _ _).mpr rfl) ?_
  exact l_if_eq X dL_869 rfl (fun _ => k w2 (step_fin hG e1 h2 h3)) (fun hne => absurd rfl hne)
theorem lc_seed (X : LX p s m meth c g b L xs) (hL : L ≤ 3072) (hI : INV bb w) (hb : bb ≤ 40000) (hi : i + 6 ≤ L) (k : ∀ w2, INV (bb + 60) w2 → GoL l p e s m below meth c g b 1302 (LVl g b i) [] w2) : GoL l p e s m below meth c g b 874 (LVl g b i) [] w := by
  obtain ⟨q, hX, hG, hY⟩ : STEP l g bb w S_seed Q_seed [.int (xs (i + 1))] := st_seed hI hb
  refine l_aload X dL_874 rfl ?_
  refine l_arg (z := 1) X hL rfl rfl dL_875 dL_876 dL_877 dL_878 dL_879 (by omega) ?_
  refine l_callV (as := [.int (xs (i + 1))]) (rest := []) (bq := 0) X dL_880 kL_110 rfl rfl hX (Nat.le_of_ble_eq_true rfl) rfl (fun r1 w1 q1 => ?_)
  obtain ⟨rfl, B, T, e1⟩ := q1
  refine l_aload X dL_883 rfl ?_
  refine l_arg (z := 1) X hL rfl rfl dL_884 dL_885 dL_886 dL_887 dL_888 (by omega) ?_
  refine l_callV (as := [.int (xs (i + 1))]) (rest := [.int q.1]) (bq := 33) X dL_889 kL_113 rfl rfl (hY w1 (step_mid hI.1 hG e1)) (Nat.le_of_ble_eq_true rfl) rfl (fun r2 w2 q2 => ?_)
  obtain ⟨rfl, h2, h3⟩ := q2
  exact l_icmp_eq X dL_892 rfl (fun _ => k w2 (step_fin hG e1 h2 h3)) (fun hne => absurd rfl hne)
theorem lc_feed (X : LX p s m meth c g b L xs) (hL : L ≤ 3072) (hI : INV bb w) (hb : bb ≤ 40000) (hi : i + 6 ≤ L) (k : ∀ w2, INV (bb + 60) w2 → GoL l p e s m below meth c g b 1302 (LVl g b i) [] w2) : GoL l p e s m below meth c g b 897 (LVl g b i) [] w := by
  obtain ⟨q, hX, hG, hY⟩ : STEP l g bb w S_feed Q_feed [.int (xs (i + 1)), .int (xs (i + 2))] := st_feed hI hb
  refine l_aload X dL_897 rfl ?_
  refine l_arg (z := 1) X hL rfl rfl dL_898 dL_899 dL_900 dL_901 dL_902 (by omega) ?_
  refine l_arg (z := 2) X hL rfl rfl dL_903 dL_904 dL_905 dL_906 dL_907 (by omega) ?_
  refine l_callV (as := [.int (xs (i + 1)), .int (xs (i + 2))]) (rest := []) (bq := 0) X dL_908 kL_114 rfl rfl hX (Nat.le_of_ble_eq_true rfl) rfl (fun r1 w1 q1 => ?_)
  obtain ⟨rfl, B, T, e1⟩ := q1
  refine l_aload X dL_911 rfl ?_
  refine l_arg (z := 1) X hL rfl rfl dL_912 dL_913 dL_914 dL_915 dL_916 (by omega) ?_
  refine l_arg (z := 2) X hL rfl rfl dL_917 dL_918 dL_919 dL_920 dL_921 (by omega) ?_
  refine l_callV (as := [.int (xs (i + 1)), .int (xs (i + 2))]) (rest := [.int q.1]) (bq := 33) X dL_922 kL_117 rfl rfl (hY w1 (step_mid hI.1 hG e1)) (Nat.le_of_ble_eq_true rfl) rfl (fun r2 w2 q2 => ?_)
  obtain ⟨rfl, h2, h3⟩ := q2
  exact l_icmp_eq X dL_925 rfl (fun _ => k w2 (step_fin hG e1 h2 h3)) (fun hne => absurd rfl hne)
theorem lc_wipe (X : LX p s m meth c g b L xs) (hL : L ≤ 3072) (hI : INV bb w) (hb : bb ≤ 40000) (hi : i + 6 ≤ L) (k : ∀ w2, INV (bb + 60) w2 → GoL l p e s m below meth c g b 1302 (LVl g b i) [] w2) : GoL l p e s m below meth c g b 930 (LVl g b i) [] w := by
  obtain ⟨q, hX, hG, hY⟩ : STEP l g bb w S_wipe Q_wipe [] := st_wipe hI hb
  refine l_aload X dL_930 rfl ?_
  refine l_callV (as := []) (rest := []) (bq := 0) X dL_931 kL_118 rfl rfl hX (Nat.le_of_ble_eq_true rfl) rfl (fun r1 w1 q1 => ?_)
  obtain ⟨rfl, B, T, e1⟩ := q1
  refine l_aload X dL_934 rfl ?_
  refine l_callV (as := []) (rest := [.int q.1]) (bq := 33) X dL_935 kL_121 rfl rfl (hY w1 (step_mid hI.1 hG e1)) (Nat.le_of_ble_eq_true rfl) rfl (fun r2 w2 q2 => ?_)
  obtain ⟨rfl, h2, h3⟩ := q2
  exact l_icmp_eq X dL_938 rfl (fun _ => k w2 (step_fin hG e1 h2 h3)) (fun hne => absurd rfl hne)
end LCASES
