theorem lc_12 {K : KT} {L : Nat} {xs : Nat → Int32} {i : Nat} {h : Hp} (hi : i + 6 ≤ L) (hL : L ≤ 384) (R : RLL h h) (nx : ∀ h2 : Hp, RLL h2 h2 → LWK K L xs 1391 i [] h2) : LWK K L xs 608 i [] h := by
  refine AW.known (fun H => ?_)
  obtain ⟨v, F1, m1, k1⟩ := sim_gain (K := K) (show 130 ≤ 999 by decide) H R (in32 (xs (i + 1)))
  refine AW.aload_n dL_608 rfl ?_
  refine AW.sarg 1 dL_609 dL_610 dL_611 dL_612 dL_613 hi hL ?_
  refine AW.invQ1 dL_614 mlL_66 mX11_gain ly_0 rfl m1 (fun h1 s1 => AW.known (fun H1 => ?_))
  obtain ⟨F2, m2, k2⟩ := k1 h1 s1 H1
  refine AW.aload_n dL_617 rfl ?_
  refine AW.sarg 1 dL_618 dL_619 dL_620 dL_621 dL_622 hi hL ?_
  refine AW.invQ1 dL_623 mlL_69 mX12_gain ly_57 rfl m2 (fun h2 s2 => ?_)
  exact AW.icmpS dL_626 (nx h2 (k2 h2 s2))
theorem lc_13 {K : KT} {L : Nat} {xs : Nat → Int32} {i : Nat} {h : Hp} (hi : i + 6 ≤ L) (hL : L ≤ 384) (R : RLL h h) (nx : ∀ h2 : Hp, RLL h2 h2 → LWK K L xs 1391 i [] h2) : LWK K L xs 631 i [] h := by
  refine AW.known (fun H => ?_)
  obtain ⟨v, F1, m1, k1⟩ := sim_unseen (K := K) (show 130 ≤ 999 by decide) H R (in32 (xs (i + 1))) (in32 (xs (i + 2)))
  refine AW.aload_n dL_631 rfl ?_
  refine AW.sarg 1 dL_632 dL_633 dL_634 dL_635 dL_636 hi hL ?_
  refine AW.sarg 2 dL_637 dL_638 dL_639 dL_640 dL_641 hi hL ?_
  refine AW.invQ2 dL_642 mlL_70 mX11_unseen ly_0 rfl m1 (fun h1 s1 => AW.known (fun H1 => ?_))
  obtain ⟨F2, m2, k2⟩ := k1 h1 s1 H1
  refine AW.aload_n dL_645 rfl ?_
  refine AW.sarg 1 dL_646 dL_647 dL_648 dL_649 dL_650 hi hL ?_
  refine AW.sarg 2 dL_651 dL_652 dL_653 dL_654 dL_655 hi hL ?_
  refine AW.invQ2 dL_656 mlL_73 mX12_unseen ly_57 rfl m2 (fun h2 s2 => ?_)
  exact AW.icmpS dL_659 (nx h2 (k2 h2 s2))
theorem lc_14 {K : KT} {L : Nat} {xs : Nat → Int32} {i : Nat} {h : Hp} (hi : i + 6 ≤ L) (hL : L ≤ 384) (R : RLL h h) (nx : ∀ h2 : Hp, RLL h2 h2 → LWK K L xs 1391 i [] h2) : LWK K L xs 664 i [] h := by
  refine AW.known (fun H => ?_)
  obtain ⟨v, F1, m1, k1⟩ := sim_person (K := K) (show 130 ≤ 999 by decide) H R (in32 (xs (i + 1)))
  refine AW.aload_n dL_664 rfl ?_
  refine AW.sarg 1 dL_665 dL_666 dL_667 dL_668 dL_669 hi hL ?_
  refine AW.invQ1 dL_670 mlL_74 mX11_person ly_0 rfl m1 (fun h1 s1 => AW.known (fun H1 => ?_))
  obtain ⟨F2, m2, k2⟩ := k1 h1 s1 H1
  refine AW.aload_n dL_673 rfl ?_
  refine AW.sarg 1 dL_674 dL_675 dL_676 dL_677 dL_678 hi hL ?_
  refine AW.invQ1 dL_679 mlL_77 mX12_person ly_57 rfl m2 (fun h2 s2 => ?_)
  exact AW.icmpS dL_682 (nx h2 (k2 h2 s2))
theorem lc_15 {K : KT} {L : Nat} {xs : Nat → Int32} {i : Nat} {h : Hp} (hi : i + 6 ≤ L) (hL : L ≤ 384) (R : RLL h h) (nx : ∀ h2 : Hp, RLL h2 h2 → LWK K L xs 1391 i [] h2) : LWK K L xs 687 i [] h := by
  refine AW.known (fun H => ?_)
  obtain ⟨v, F1, m1, k1⟩ := sim_shares (K := K) (show 130 ≤ 999 by decide) H R (in32 (xs (i + 1))) (in32 (xs (i + 2))) (in32 (xs (i + 3)))
  refine AW.aload_n dL_687 rfl ?_
  refine AW.sarg 1 dL_688 dL_689 dL_690 dL_691 dL_692 hi hL ?_
  refine AW.sarg 2 dL_693 dL_694 dL_695 dL_696 dL_697 hi hL ?_
  refine AW.sarg 3 dL_698 dL_699 dL_700 dL_701 dL_702 hi hL ?_
  refine AW.invQ3 dL_703 mlL_78 mX11_shares ly_0 rfl m1 (fun h1 s1 => AW.known (fun H1 => ?_))
  obtain ⟨F2, m2, k2⟩ := k1 h1 s1 H1
  refine AW.aload_n dL_706 rfl ?_
  refine AW.sarg 1 dL_707 dL_708 dL_709 dL_710 dL_711 hi hL ?_
  refine AW.sarg 2 dL_712 dL_713 dL_714 dL_715 dL_716 hi hL ?_
  refine AW.sarg 3 dL_717 dL_718 dL_719 dL_720 dL_721 hi hL ?_
  refine AW.invQ3 dL_722 mlL_81 mX12_shares ly_57 rfl m2 (fun h2 s2 => ?_)
  exact AW.icmpS dL_725 (nx h2 (k2 h2 s2))
theorem lc_16 {K : KT} {L : Nat} {xs : Nat → Int32} {i : Nat} {h : Hp} (hi : i + 6 ≤ L) (hL : L ≤ 384) (R : RLL h h) (nx : ∀ h2 : Hp, RLL h2 h2 → LWK K L xs 1391 i [] h2) : LWK K L xs 730 i [] h := by
  refine AW.known (fun H => ?_)
  obtain ⟨v, F1, m1, k1⟩ := sim_led (K := K) (show 130 ≤ 999 by decide) H R 
  refine AW.aload_n dL_730 rfl ?_
  refine AW.invQ0 dL_731 mlL_82 mX11_led ly_0 rfl m1 (fun h1 s1 => AW.known (fun H1 => ?_))
  obtain ⟨F2, m2, k2⟩ := k1 h1 s1 H1
  refine AW.aload_n dL_734 rfl ?_
  refine AW.invQ0 dL_735 mlL_85 mX12_led ly_57 rfl m2 (fun h2 s2 => ?_)
  exact AW.icmpS dL_738 (nx h2 (k2 h2 s2))
theorem lc_17 {K : KT} {L : Nat} {xs : Nat → Int32} {i : Nat} {h : Hp} (hi : i + 6 ≤ L) (hL : L ≤ 384) (R : RLL h h) (nx : ∀ h2 : Hp, RLL h2 h2 → LWK K L xs 1391 i [] h2) : LWK K L xs 743 i [] h := by
  refine AW.known (fun H => ?_)
  obtain ⟨v, F1, m1, k1⟩ := sim_point (K := K) (show 130 ≤ 999 by decide) H R (in32 (xs (i + 1))) (in32 (xs (i + 2)))
  refine AW.aload_n dL_743 rfl ?_
  refine AW.sarg 1 dL_744 dL_745 dL_746 dL_747 dL_748 hi hL ?_
  refine AW.sarg 2 dL_749 dL_750 dL_751 dL_752 dL_753 hi hL ?_
  refine AW.invQ2 dL_754 mlL_86 mX11_point ly_0 rfl m1 (fun h1 s1 => AW.known (fun H1 => ?_))
  obtain ⟨F2, m2, k2⟩ := k1 h1 s1 H1
  refine AW.aload_n dL_757 rfl ?_
  refine AW.sarg 1 dL_758 dL_759 dL_760 dL_761 dL_762 hi hL ?_
  refine AW.sarg 2 dL_763 dL_764 dL_765 dL_766 dL_767 hi hL ?_
  refine AW.invQ2 dL_768 mlL_89 mX12_point ly_57 rfl m2 (fun h2 s2 => ?_)
  exact AW.icmpS dL_771 (nx h2 (k2 h2 s2))
theorem lc_18 {K : KT} {L : Nat} {xs : Nat → Int32} {i : Nat} {h : Hp} (hi : i + 6 ≤ L) (hL : L ≤ 384) (R : RLL h h) (nx : ∀ h2 : Hp, RLL h2 h2 → LWK K L xs 1391 i [] h2) : LWK K L xs 776 i [] h := by
  refine AW.known (fun H => ?_)
  obtain ⟨v, F1, m1, k1⟩ := sim_belt (K := K) (show 130 ≤ 999 by decide) H R (in32 (xs (i + 1))) (in32 (xs (i + 2)))
  refine AW.aload_n dL_776 rfl ?_
  refine AW.sarg 1 dL_777 dL_778 dL_779 dL_780 dL_781 hi hL ?_
  refine AW.sarg 2 dL_782 dL_783 dL_784 dL_785 dL_786 hi hL ?_
  refine AW.invQ2 dL_787 mlL_90 mX11_belt ly_0 rfl m1 (fun h1 s1 => AW.known (fun H1 => ?_))
  obtain ⟨F2, m2, k2⟩ := k1 h1 s1 H1
  refine AW.aload_n dL_790 rfl ?_
  refine AW.sarg 1 dL_791 dL_792 dL_793 dL_794 dL_795 hi hL ?_
  refine AW.sarg 2 dL_796 dL_797 dL_798 dL_799 dL_800 hi hL ?_
  refine AW.invQ2 dL_801 mlL_93 mX12_belt ly_57 rfl m2 (fun h2 s2 => ?_)
  exact AW.icmpS dL_804 (nx h2 (k2 h2 s2))
theorem lc_19 {K : KT} {L : Nat} {xs : Nat → Int32} {i : Nat} {h : Hp} (hi : i + 6 ≤ L) (hL : L ≤ 384) (R : RLL h h) (nx : ∀ h2 : Hp, RLL h2 h2 → LWK K L xs 1391 i [] h2) : LWK K L xs 809 i [] h := by
  refine AW.known (fun H => ?_)
  obtain ⟨v, F1, m1, k1⟩ := sim_records (K := K) (show 130 ≤ 999 by decide) H R (in32 (xs (i + 1))) (in32 (xs (i + 2))) (in32 (xs (i + 3)))
  refine AW.aload_n dL_809 rfl ?_
  refine AW.sarg 1 dL_810 dL_811 dL_812 dL_813 dL_814 hi hL ?_
  refine AW.sarg 2 dL_815 dL_816 dL_817 dL_818 dL_819 hi hL ?_
  refine AW.sarg 3 dL_820 dL_821 dL_822 dL_823 dL_824 hi hL ?_
  refine AW.invQ3 dL_825 mlL_94 mX11_records ly_0 rfl m1 (fun h1 s1 => AW.known (fun H1 => ?_))
  obtain ⟨F2, m2, k2⟩ := k1 h1 s1 H1
  refine AW.aload_n dL_828 rfl ?_
  refine AW.sarg 1 dL_829 dL_830 dL_831 dL_832 dL_833 hi hL ?_
  refine AW.sarg 2 dL_834 dL_835 dL_836 dL_837 dL_838 hi hL ?_
  refine AW.sarg 3 dL_839 dL_840 dL_841 dL_842 dL_843 hi hL ?_
  refine AW.invQ3 dL_844 mlL_97 mX12_records ly_57 rfl m2 (fun h2 s2 => ?_)
  exact AW.icmpS dL_847 (nx h2 (k2 h2 s2))
theorem lc_20 {K : KT} {L : Nat} {xs : Nat → Int32} {i : Nat} {h : Hp} (hi : i + 6 ≤ L) (hL : L ≤ 384) (R : RLL h h) (nx : ∀ h2 : Hp, RLL h2 h2 → LWK K L xs 1391 i [] h2) : LWK K L xs 852 i [] h := by
  refine AW.known (fun H => ?_)
  obtain ⟨v, F1, m1, k1⟩ := sim_best (K := K) (show 130 ≤ 999 by decide) H R (in32 (xs (i + 1))) (in32 (xs (i + 2))) (in32 (xs (i + 3)))
  refine AW.aload_n dL_852 rfl ?_
  refine AW.sarg 1 dL_853 dL_854 dL_855 dL_856 dL_857 hi hL ?_
  refine AW.sarg 2 dL_858 dL_859 dL_860 dL_861 dL_862 hi hL ?_
  refine AW.sarg 3 dL_863 dL_864 dL_865 dL_866 dL_867 hi hL ?_
  refine AW.invQ3 dL_868 mlL_98 mX11_best ly_0 rfl m1 (fun h1 s1 => AW.known (fun H1 => ?_))
  obtain ⟨F2, m2, k2⟩ := k1 h1 s1 H1
  refine AW.aload_n dL_871 rfl ?_
  refine AW.sarg 1 dL_872 dL_873 dL_874 dL_875 dL_876 hi hL ?_
  refine AW.sarg 2 dL_877 dL_878 dL_879 dL_880 dL_881 hi hL ?_
  refine AW.sarg 3 dL_882 dL_883 dL_884 dL_885 dL_886 hi hL ?_
  refine AW.invQ3 dL_887 mlL_101 mX12_best ly_57 rfl m2 (fun h2 s2 => ?_)
  exact AW.icmpS dL_890 (nx h2 (k2 h2 s2))
theorem lc_21 {K : KT} {L : Nat} {xs : Nat → Int32} {i : Nat} {h : Hp} (hi : i + 6 ≤ L) (hL : L ≤ 384) (R : RLL h h) (nx : ∀ h2 : Hp, RLL h2 h2 → LWK K L xs 1391 i [] h2) : LWK K L xs 895 i [] h := by
  refine AW.known (fun H => ?_)
  obtain ⟨v, F1, m1, k1⟩ := sim_rule (K := K) (show 130 ≤ 999 by decide) H R (in32 (xs (i + 1)))
  refine AW.aload_n dL_895 rfl ?_
  refine AW.sarg 1 dL_896 dL_897 dL_898 dL_899 dL_900 hi hL ?_
  refine AW.invQ1 dL_901 mlL_102 mX11_rule ly_0 rfl m1 (fun h1 s1 => AW.known (fun H1 => ?_))
  obtain ⟨F2, m2, k2⟩ := k1 h1 s1 H1
  refine AW.aload_n dL_904 rfl ?_
  refine AW.sarg 1 dL_905 dL_906 dL_907 dL_908 dL_909 hi hL ?_
  refine AW.invQ1 dL_910 mlL_105 mX12_rule ly_57 rfl m2 (fun h2 s2 => ?_)
  exact AW.icmpS dL_913 (nx h2 (k2 h2 s2))
theorem lc_22 {K : KT} {L : Nat} {xs : Nat → Int32} {i : Nat} {h : Hp} (hi : i + 6 ≤ L) (hL : L ≤ 384) (R : RLL h h) (nx : ∀ h2 : Hp, RLL h2 h2 → LWK K L xs 1391 i [] h2) : LWK K L xs 918 i [] h := by
  refine AW.known (fun H => ?_)
  obtain ⟨v, F1, m1, k1⟩ := sim_dead (K := K) (show 130 ≤ 999 by decide) H R (in32 (xs (i + 1))) (in32 (xs (i + 2)))
  refine AW.aload_n dL_918 rfl ?_
  refine AW.sarg 1 dL_919 dL_920 dL_921 dL_922 dL_923 hi hL ?_
  refine AW.sarg 2 dL_924 dL_925 dL_926 dL_927 dL_928 hi hL ?_
  refine AW.invQ2 dL_929 mlL_106 mX11_dead ly_0 rfl m1 (fun h1 s1 => AW.known (fun H1 => ?_))
  obtain ⟨F2, m2, k2⟩ := k1 h1 s1 H1
  refine AW.aload_n dL_932 rfl ?_
  refine AW.sarg 1 dL_933 dL_934 dL_935 dL_936 dL_937 hi hL ?_
  refine AW.sarg 2 dL_938 dL_939 dL_940 dL_941 dL_942 hi hL ?_
  refine AW.invQ2 dL_943 mlL_109 mX12_dead ly_57 rfl m2 (fun h2 s2 => ?_)
  exact AW.icmpS dL_946 (nx h2 (k2 h2 s2))
theorem lc_23 {K : KT} {L : Nat} {xs : Nat → Int32} {i : Nat} {h : Hp} (hi : i + 6 ≤ L) (hL : L ≤ 384) (R : RLL h h) (nx : ∀ h2 : Hp, RLL h2 h2 → LWK K L xs 1391 i [] h2) : LWK K L xs 951 i [] h := by
  refine AW.known (fun H => ?_)
  obtain ⟨v, F1, m1, k1⟩ := sim_needed (K := K) (show 130 ≤ 999 by decide) H R (in32 (xs (i + 1)))
  refine AW.aload_n dL_951 rfl ?_
  refine AW.sarg 1 dL_952 dL_953 dL_954 dL_955 dL_956 hi hL ?_
  refine AW.invQ1 dL_957 mlL_110 mX11_needed ly_0 rfl m1 (fun h1 s1 => AW.known (fun H1 => ?_))
  obtain ⟨F2, m2, k2⟩ := k1 h1 s1 H1
  refine AW.aload_n dL_960 rfl ?_
  refine AW.sarg 1 dL_961 dL_962 dL_963 dL_964 dL_965 hi hL ?_
  refine AW.invQ1 dL_966 mlL_113 mX12_needed ly_57 rfl m2 (fun h2 s2 => ?_)
  exact AW.icmpS dL_969 (nx h2 (k2 h2 s2))
