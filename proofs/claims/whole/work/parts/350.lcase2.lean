theorem lc_21 {E : XC} {nm : String} {b L cl sl I : Nat} {xs : Nat → Int32} {phc phm : Nat → Nat} {c m : StA} (O : ON E R_law cL_law 4 room_1 nm) (X : LE E b L xs) (hL : L ≤ 320) (hI : I + 5 ≤ L) (hc : cl ≤ room_1.cells ∧ sl ≤ room_1.slots) (hpc : ∀ k, 100 ≤ k → phc k = E.2.2.1 k) (hpm : ∀ k, 100 ≤ k → phm k = E.2.2.1 k) (hR : R0 c m) (K : ∀ c' m', R0 c' m' → WN E 4 1474 cl sl [(3, .int (nI I)), (2, .ref (phm 0)), (1, .ref (phc 0)), (0, .ref b)] [] (wld cM phc E.2.2.2.1 c' ++ wld mM phm E.2.2.2.1 m')) : WN E 4 749 cl sl [(3, .int (nI I)), (2, .ref (phm 0)), (1, .ref (phc 0)), (0, .ref b)] [] (wld cM phc E.2.2.2.1 c ++ wld mM phm E.2.2.2.1 m) := by
  obtain ⟨c', r, m', r', e1, e2, hr, hR'⟩ := sim_when (xs (I + 1)) (xs (I + 2)) (xs (I + 3)) (xs (I + 4)) hR
  subst hr
  refine n_aload_n O 2 dL_law_749 rfl rfl ?_
  refine n_arg (jn := 1) (I := I) O X 3 0 dL_law_750 dL_law_751 dL_law_752 dL_law_753 dL_law_754 rfl rfl (by decide) (by omega) hL ?_
  refine n_arg (jn := 2) (I := I) O X 3 0 dL_law_755 dL_law_756 dL_law_757 dL_law_758 dL_law_759 rfl rfl (by decide) (by omega) hL ?_
  refine n_arg (jn := 3) (I := I) O X 3 0 dL_law_760 dL_law_761 dL_law_762 dL_law_763 dL_law_764 rfl rfl (by decide) (by omega) hL ?_
  refine n_arg (jn := 4) (I := I) O X 3 0 dL_law_765 dL_law_766 dL_law_767 dL_law_768 dL_law_769 rfl rfl (by decide) (by omega) hL ?_
  refine n_swap ?_
  refine n_VI (k := 0) (As := [.int (xs (I + 1)), .int (xs (I + 2)), .int (xs (I + 3)), .int (xs (I + 4))]) (st := []) O hpc lk_L_101 (k_X5_when e1) rfl cs_0 rfl rfl ⟨rfl, rfl⟩ (by decide +kernel) rfl (Nat.le_of_ble_eq_true rfl) hc dL_law_770 ?_
  refine n_swap ?_
  refine n_aload_n O 1 dL_law_773 rfl rfl ?_
  refine n_arg (jn := 1) (I := I) O X 3 0 dL_law_774 dL_law_775 dL_law_776 dL_law_777 dL_law_778 rfl rfl (by decide) (by omega) hL ?_
  refine n_arg (jn := 2) (I := I) O X 3 0 dL_law_779 dL_law_780 dL_law_781 dL_law_782 dL_law_783 rfl rfl (by decide) (by omega) hL ?_
  refine n_arg (jn := 3) (I := I) O X 3 0 dL_law_784 dL_law_785 dL_law_786 dL_law_787 dL_law_788 rfl rfl (by decide) (by omega) hL ?_
  refine n_arg (jn := 4) (I := I) O X 3 0 dL_law_789 dL_law_790 dL_law_791 dL_law_792 dL_law_793 rfl rfl (by decide) (by omega) hL ?_
  refine n_VI (k := 0) (As := [.int (xs (I + 1)), .int (xs (I + 2)), .int (xs (I + 3)), .int (xs (I + 4))]) (st := [.int r]) O hpm lk_L_105 (k_X6_when e2) rfl ms_0 rfl rfl ⟨rfl, rfl⟩ (by decide +kernel) rfl (Nat.le_of_ble_eq_true rfl) hc dL_law_794 ?_
  exact n_eqT (tgt := 1474) O dL_law_797 (by decide) (K c' m' hR')
theorem lc_22 {E : XC} {nm : String} {b L cl sl I : Nat} {xs : Nat → Int32} {phc phm : Nat → Nat} {c m : StA} (O : ON E R_law cL_law 4 room_1 nm) (X : LE E b L xs) (hL : L ≤ 320) (hI : I + 5 ≤ L) (hc : cl ≤ room_1.cells ∧ sl ≤ room_1.slots) (hpc : ∀ k, 100 ≤ k → phc k = E.2.2.1 k) (hpm : ∀ k, 100 ≤ k → phm k = E.2.2.1 k) (hR : R0 c m) (K : ∀ c' m', R0 c' m' → WN E 4 1474 cl sl [(3, .int (nI I)), (2, .ref (phm 0)), (1, .ref (phc 0)), (0, .ref b)] [] (wld cM phc E.2.2.2.1 c' ++ wld mM phm E.2.2.2.1 m')) : WN E 4 802 cl sl [(3, .int (nI I)), (2, .ref (phm 0)), (1, .ref (phc 0)), (0, .ref b)] [] (wld cM phc E.2.2.2.1 c ++ wld mM phm E.2.2.2.1 m) := by
  obtain ⟨c', r, m', r', e1, e2, hr, hR'⟩ := sim_steer (xs (I + 1)) (xs (I + 2)) (xs (I + 3)) (xs (I + 4)) hR
  subst hr
  refine n_aload_n O 2 dL_law_802 rfl rfl ?_
  refine n_arg (jn := 1) (I := I) O X 3 0 dL_law_803 dL_law_804 dL_law_805 dL_law_806 dL_law_807 rfl rfl (by decide) (by omega) hL ?_
  refine n_arg (jn := 2) (I := I) O X 3 0 dL_law_808 dL_law_809 dL_law_810 dL_law_811 dL_law_812 rfl rfl (by decide) (by omega) hL ?_
  refine n_arg (jn := 3) (I := I) O X 3 0 dL_law_813 dL_law_814 dL_law_815 dL_law_816 dL_law_817 rfl rfl (by decide) (by omega) hL ?_
  refine n_arg (jn := 4) (I := I) O X 3 0 dL_law_818 dL_law_819 dL_law_820 dL_law_821 dL_law_822 rfl rfl (by decide) (by omega) hL ?_
  refine n_swap ?_
  refine n_VI (k := 0) (As := [.int (xs (I + 1)), .int (xs (I + 2)), .int (xs (I + 3)), .int (xs (I + 4))]) (st := []) O hpc lk_L_106 (k_X5_steer e1) rfl cs_0 rfl rfl ⟨rfl, rfl⟩ (by decide +kernel) rfl (Nat.le_of_ble_eq_true rfl) hc dL_law_823 ?_
  refine n_swap ?_
  refine n_aload_n O 1 dL_law_826 rfl rfl ?_
  refine n_arg (jn := 1) (I := I) O X 3 0 dL_law_827 dL_law_828 dL_law_829 dL_law_830 dL_law_831 rfl rfl (by decide) (by omega) hL ?_
  refine n_arg (jn := 2) (I := I) O X 3 0 dL_law_832 dL_law_833 dL_law_834 dL_law_835 dL_law_836 rfl rfl (by decide) (by omega) hL ?_
  refine n_arg (jn := 3) (I := I) O X 3 0 dL_law_837 dL_law_838 dL_law_839 dL_law_840 dL_law_841 rfl rfl (by decide) (by omega) hL ?_
  refine n_arg (jn := 4) (I := I) O X 3 0 dL_law_842 dL_law_843 dL_law_844 dL_law_845 dL_law_846 rfl rfl (by decide) (by omega) hL ?_
  refine n_VI (k := 0) (As := [.int (xs (I + 1)), .int (xs (I + 2)), .int (xs (I + 3)), .int (xs (I + 4))]) (st := [.int r]) O hpm lk_L_109 (k_X6_steer e2) rfl ms_0 rfl rfl ⟨rfl, rfl⟩ (by decide +kernel) rfl (Nat.le_of_ble_eq_true rfl) hc dL_law_847 ?_
  exact n_eqT (tgt := 1474) O dL_law_850 (by decide) (K c' m' hR')
theorem lc_23 {E : XC} {nm : String} {b L cl sl I : Nat} {xs : Nat → Int32} {phc phm : Nat → Nat} {c m : StA} (O : ON E R_law cL_law 4 room_1 nm) (X : LE E b L xs) (hL : L ≤ 320) (hI : I + 5 ≤ L) (hc : cl ≤ room_1.cells ∧ sl ≤ room_1.slots) (hpc : ∀ k, 100 ≤ k → phc k = E.2.2.1 k) (hpm : ∀ k, 100 ≤ k → phm k = E.2.2.1 k) (hR : R0 c m) (K : ∀ c' m', R0 c' m' → WN E 4 1474 cl sl [(3, .int (nI I)), (2, .ref (phm 0)), (1, .ref (phc 0)), (0, .ref b)] [] (wld cM phc E.2.2.2.1 c' ++ wld mM phm E.2.2.2.1 m')) : WN E 4 855 cl sl [(3, .int (nI I)), (2, .ref (phm 0)), (1, .ref (phc 0)), (0, .ref b)] [] (wld cM phc E.2.2.2.1 c ++ wld mM phm E.2.2.2.1 m) := by
  obtain ⟨c', r, m', r', e1, e2, hr, hR'⟩ := sim_hush (xs (I + 1)) (xs (I + 2)) hR
  subst hr
  refine n_aload_n O 2 dL_law_855 rfl rfl ?_
  refine n_arg (jn := 1) (I := I) O X 3 0 dL_law_856 dL_law_857 dL_law_858 dL_law_859 dL_law_860 rfl rfl (by decide) (by omega) hL ?_
  refine n_arg (jn := 2) (I := I) O X 3 0 dL_law_861 dL_law_862 dL_law_863 dL_law_864 dL_law_865 rfl rfl (by decide) (by omega) hL ?_
  refine n_swap ?_
  refine n_VI (k := 0) (As := [.int (xs (I + 1)), .int (xs (I + 2))]) (st := []) O hpc lk_L_110 (k_X5_hush e1) rfl cs_0 rfl rfl ⟨rfl, rfl⟩ (by decide +kernel) rfl (Nat.le_of_ble_eq_true rfl) hc dL_law_866 ?_
  refine n_swap ?_
  refine n_aload_n O 1 dL_law_869 rfl rfl ?_
  refine n_arg (jn := 1) (I := I) O X 3 0 dL_law_870 dL_law_871 dL_law_872 dL_law_873 dL_law_874 rfl rfl (by decide) (by omega) hL ?_
  refine n_arg (jn := 2) (I := I) O X 3 0 dL_law_875 dL_law_876 dL_law_877 dL_law_878 dL_law_879 rfl rfl (by decide) (by omega) hL ?_
  refine n_VI (k := 0) (As := [.int (xs (I + 1)), .int (xs (I + 2))]) (st := [.int r]) O hpm lk_L_113 (k_X6_hush e2) rfl ms_0 rfl rfl ⟨rfl, rfl⟩ (by decide +kernel) rfl (Nat.le_of_ble_eq_true rfl) hc dL_law_880 ?_
  exact n_eqT (tgt := 1474) O dL_law_883 (by decide) (K c' m' hR')
theorem lc_24 {E : XC} {nm : String} {b L cl sl I : Nat} {xs : Nat → Int32} {phc phm : Nat → Nat} {c m : StA} (O : ON E R_law cL_law 4 room_1 nm) (X : LE E b L xs) (hL : L ≤ 320) (hI : I + 5 ≤ L) (hc : cl ≤ room_1.cells ∧ sl ≤ room_1.slots) (hpc : ∀ k, 100 ≤ k → phc k = E.2.2.1 k) (hpm : ∀ k, 100 ≤ k → phm k = E.2.2.1 k) (hR : R0 c m) (K : ∀ c' m', R0 c' m' → WN E 4 1474 cl sl [(3, .int (nI I)), (2, .ref (phm 0)), (1, .ref (phc 0)), (0, .ref b)] [] (wld cM phc E.2.2.2.1 c' ++ wld mM phm E.2.2.2.1 m')) : WN E 4 888 cl sl [(3, .int (nI I)), (2, .ref (phm 0)), (1, .ref (phc 0)), (0, .ref b)] [] (wld cM phc E.2.2.2.1 c ++ wld mM phm E.2.2.2.1 m) := by
  obtain ⟨c', r, m', r', e1, e2, hr, hR'⟩ := sim_swap (xs (I + 1)) hR
  subst hr
  refine n_aload_n O 2 dL_law_888 rfl rfl ?_
  refine n_arg (jn := 1) (I := I) O X 3 0 dL_law_889 dL_law_890 dL_law_891 dL_law_892 dL_law_893 rfl rfl (by decide) (by omega) hL ?_
  refine n_swap ?_
  refine n_VI (k := 0) (As := [.int (xs (I + 1))]) (st := []) O hpc lk_L_114 (k_X5_swap e1) rfl cs_0 rfl rfl ⟨rfl, rfl⟩ (by decide +kernel) rfl (Nat.le_of_ble_eq_true rfl) hc dL_law_894 ?_
  refine n_swap ?_
  refine n_aload_n O 1 dL_law_897 rfl rfl ?_
  refine n_arg (jn := 1) (I := I) O X 3 0 dL_law_898 dL_law_899 dL_law_900 dL_law_901 dL_law_902 rfl rfl (by decide) (by omega) hL ?_
  refine n_VI (k := 0) (As := [.int (xs (I + 1))]) (st := [.int r]) O hpm lk_L_117 (k_X6_swap e2) rfl ms_0 rfl rfl ⟨rfl, rfl⟩ (by decide +kernel) rfl (Nat.le_of_ble_eq_true rfl) hc dL_law_903 ?_
  exact n_eqT (tgt := 1474) O dL_law_906 (by decide) (K c' m' hR')
theorem lc_25 {E : XC} {nm : String} {b L cl sl I : Nat} {xs : Nat → Int32} {phc phm : Nat → Nat} {c m : StA} (O : ON E R_law cL_law 4 room_1 nm) (X : LE E b L xs) (hL : L ≤ 320) (hI : I + 5 ≤ L) (hc : cl ≤ room_1.cells ∧ sl ≤ room_1.slots) (hpc : ∀ k, 100 ≤ k → phc k = E.2.2.1 k) (hpm : ∀ k, 100 ≤ k → phm k = E.2.2.1 k) (hR : R0 c m) (K : ∀ c' m', R0 c' m' → WN E 4 1474 cl sl [(3, .int (nI I)), (2, .ref (phm 0)), (1, .ref (phc 0)), (0, .ref b)] [] (wld cM phc E.2.2.2.1 c' ++ wld mM phm E.2.2.2.1 m')) : WN E 4 911 cl sl [(3, .int (nI I)), (2, .ref (phm 0)), (1, .ref (phc 0)), (0, .ref b)] [] (wld cM phc E.2.2.2.1 c ++ wld mM phm E.2.2.2.1 m) := by
  obtain ⟨c', r, m', r', e1, e2, hr, hR'⟩ := sim_need (xs (I + 1)) (xs (I + 2)) (xs (I + 3)) hR
  subst hr
  refine n_aload_n O 2 dL_law_911 rfl rfl ?_
  refine n_arg (jn := 1) (I := I) O X 3 0 dL_law_912 dL_law_913 dL_law_914 dL_law_915 dL_law_916 rfl rfl (by decide) (by omega) hL ?_
  refine n_arg (jn := 2) (I := I) O X 3 0 dL_law_917 dL_law_918 dL_law_919 dL_law_920 dL_law_921 rfl rfl (by decide) (by omega) hL ?_
  refine n_arg (jn := 3) (I := I) O X 3 0 dL_law_922 dL_law_923 dL_law_924 dL_law_925 dL_law_926 rfl rfl (by decide) (by omega) hL ?_
  refine n_swap ?_
  refine n_VI (k := 0) (As := [.int (xs (I + 1)), .int (xs (I + 2)), .int (xs (I + 3))]) (st := []) O hpc lk_L_118 (k_X5_need e1) rfl cs_0 rfl rfl ⟨rfl, rfl⟩ (by decide +kernel) rfl (Nat.le_of_ble_eq_true rfl) hc dL_law_927 ?_
  refine n_swap ?_
  refine n_aload_n O 1 dL_law_930 rfl rfl ?_
  refine n_arg (jn := 1) (I := I) O X 3 0 dL_law_931 dL_law_932 dL_law_933 dL_law_934 dL_law_935 rfl rfl (by decide) (by omega) hL ?_
  refine n_arg (jn := 2) (I := I) O X 3 0 dL_law_936 dL_law_937 dL_law_938 dL_law_939 dL_law_940 rfl rfl (by decide) (by omega) hL ?_
  refine n_arg (jn := 3) (I := I) O X 3 0 dL_law_941 dL_law_942 dL_law_943 dL_law_944 dL_law_945 rfl rfl (by decide) (by omega) hL ?_
  refine n_VI (k := 0) (As := [.int (xs (I + 1)), .int (xs (I + 2)), .int (xs (I + 3))]) (st := [.int r]) O hpm lk_L_121 (k_X6_need e2) rfl ms_0 rfl rfl ⟨rfl, rfl⟩ (by decide +kernel) rfl (Nat.le_of_ble_eq_true rfl) hc dL_law_946 ?_
  exact n_eqT (tgt := 1474) O dL_law_949 (by decide) (K c' m' hR')
theorem lc_26 {E : XC} {nm : String} {b L cl sl I : Nat} {xs : Nat → Int32} {phc phm : Nat → Nat} {c m : StA} (O : ON E R_law cL_law 4 room_1 nm) (X : LE E b L xs) (hL : L ≤ 320) (hI : I + 5 ≤ L) (hc : cl ≤ room_1.cells ∧ sl ≤ room_1.slots) (hpc : ∀ k, 100 ≤ k → phc k = E.2.2.1 k) (hpm : ∀ k, 100 ≤ k → phm k = E.2.2.1 k) (hR : R0 c m) (K : ∀ c' m', R0 c' m' → WN E 4 1474 cl sl [(3, .int (nI I)), (2, .ref (phm 0)), (1, .ref (phc 0)), (0, .ref b)] [] (wld cM phc E.2.2.2.1 c' ++ wld mM phm E.2.2.2.1 m')) : WN E 4 954 cl sl [(3, .int (nI I)), (2, .ref (phm 0)), (1, .ref (phc 0)), (0, .ref b)] [] (wld cM phc E.2.2.2.1 c ++ wld mM phm E.2.2.2.1 m) := by
  obtain ⟨c', r, m', r', e1, e2, hr, hR'⟩ := sim_luck (xs (I + 1)) (xs (I + 2)) (xs (I + 3)) (xs (I + 4)) hR
  subst hr
  refine n_aload_n O 2 dL_law_954 rfl rfl ?_
  refine n_arg (jn := 1) (I := I) O X 3 0 dL_law_955 dL_law_956 dL_law_957 dL_law_958 dL_law_959 rfl rfl (by decide) (by omega) hL ?_
  refine n_arg (jn := 2) (I := I) O X 3 0 dL_law_960 dL_law_961 dL_law_962 dL_law_963 dL_law_964 rfl rfl (by decide) (by omega) hL ?_
  refine n_arg (jn := 3) (I := I) O X 3 0 dL_law_965 dL_law_966 dL_law_967 dL_law_968 dL_law_969 rfl rfl (by decide) (by omega) hL ?_
  refine n_arg (jn := 4) (I := I) O X 3 0 dL_law_970 dL_law_971 dL_law_972 dL_law_973 dL_law_974 rfl rfl (by decide) (by omega) hL ?_
  refine n_swap ?_
  refine n_VL (k := 0) (As := [.int (xs (I + 1)), .int (xs (I + 2)), .int (xs (I + 3)), .int (xs (I + 4))]) (st := []) O hpc lk_L_122 (k_X5_luck e1) rfl cs_0 rfl rfl ⟨rfl, rfl⟩ (by decide +kernel) rfl (Nat.le_of_ble_eq_true rfl) hc dL_law_975 ?_
  refine n_swap ?_
  refine n_aload_n O 1 dL_law_978 rfl rfl ?_
  refine n_arg (jn := 1) (I := I) O X 3 0 dL_law_979 dL_law_980 dL_law_981 dL_law_982 dL_law_983 rfl rfl (by decide) (by omega) hL ?_
  refine n_arg (jn := 2) (I := I) O X 3 0 dL_law_984 dL_law_985 dL_law_986 dL_law_987 dL_law_988 rfl rfl (by decide) (by omega) hL ?_
  refine n_arg (jn := 3) (I := I) O X 3 0 dL_law_989 dL_law_990 dL_law_991 dL_law_992 dL_law_993 rfl rfl (by decide) (by omega) hL ?_
  refine n_arg (jn := 4) (I := I) O X 3 0 dL_law_994 dL_law_995 dL_law_996 dL_law_997 dL_law_998 rfl rfl (by decide) (by omega) hL ?_
  refine n_VL (k := 0) (As := [.int (xs (I + 1)), .int (xs (I + 2)), .int (xs (I + 3)), .int (xs (I + 4))]) (st := [.long r]) O hpm lk_L_126 (k_X6_luck e2) rfl ms_0 rfl rfl ⟨rfl, rfl⟩ (by decide +kernel) rfl (Nat.le_of_ble_eq_true rfl) hc dL_law_999 ?_
  refine n_lcmp0 O dL_law_1002 ?_
  exact n_ifeq0 (tgt := 1474) O dL_law_1003 (by decide) (K c' m' hR')
theorem lc_27 {E : XC} {nm : String} {b L cl sl I : Nat} {xs : Nat → Int32} {phc phm : Nat → Nat} {c m : StA} (O : ON E R_law cL_law 4 room_1 nm) (X : LE E b L xs) (hL : L ≤ 320) (hI : I + 5 ≤ L) (hc : cl ≤ room_1.cells ∧ sl ≤ room_1.slots) (hpc : ∀ k, 100 ≤ k → phc k = E.2.2.1 k) (hpm : ∀ k, 100 ≤ k → phm k = E.2.2.1 k) (hR : R0 c m) (K : ∀ c' m', R0 c' m' → WN E 4 1474 cl sl [(3, .int (nI I)), (2, .ref (phm 0)), (1, .ref (phc 0)), (0, .ref b)] [] (wld cM phc E.2.2.2.1 c' ++ wld mM phm E.2.2.2.1 m')) : WN E 4 1008 cl sl [(3, .int (nI I)), (2, .ref (phm 0)), (1, .ref (phc 0)), (0, .ref b)] [] (wld cM phc E.2.2.2.1 c ++ wld mM phm E.2.2.2.1 m) := by
  obtain ⟨c', r, m', r', e1, e2, hr, hR'⟩ := sim_mean (xs (I + 1)) (xs (I + 2)) (xs (I + 3)) hR
  subst hr
  refine n_aload_n O 2 dL_law_1008 rfl rfl ?_
  refine n_arg (jn := 1) (I := I) O X 3 0 dL_law_1009 dL_law_1010 dL_law_1011 dL_law_1012 dL_law_1013 rfl rfl (by decide) (by omega) hL ?_
  refine n_arg (jn := 2) (I := I) O X 3 0 dL_law_1014 dL_law_1015 dL_law_1016 dL_law_1017 dL_law_1018 rfl rfl (by decide) (by omega) hL ?_
  refine n_arg (jn := 3) (I := I) O X 3 0 dL_law_1019 dL_law_1020 dL_law_1021 dL_law_1022 dL_law_1023 rfl rfl (by decide) (by omega) hL ?_
  refine n_swap ?_
  refine n_VL (k := 0) (As := [.int (xs (I + 1)), .int (xs (I + 2)), .int (xs (I + 3))]) (st := []) O hpc lk_L_127 (k_X5_mean e1) rfl cs_0 rfl rfl ⟨rfl, rfl⟩ (by decide +kernel) rfl (Nat.le_of_ble_eq_true rfl) hc dL_law_1024 ?_
  refine n_swap ?_
  refine n_aload_n O 1 dL_law_1027 rfl rfl ?_
  refine n_arg (jn := 1) (I := I) O X 3 0 dL_law_1028 dL_law_1029 dL_law_1030 dL_law_1031 dL_law_1032 rfl rfl (by decide) (by omega) hL ?_
  refine n_arg (jn := 2) (I := I) O X 3 0 dL_law_1033 dL_law_1034 dL_law_1035 dL_law_1036 dL_law_1037 rfl rfl (by decide) (by omega) hL ?_
  refine n_arg (jn := 3) (I := I) O X 3 0 dL_law_1038 dL_law_1039 dL_law_1040 dL_law_1041 dL_law_1042 rfl rfl (by decide) (by omega) hL ?_
  refine n_VL (k := 0) (As := [.int (xs (I + 1)), .int (xs (I + 2)), .int (xs (I + 3))]) (st := [.long r]) O hpm lk_L_131 (k_X6_mean e2) rfl ms_0 rfl rfl ⟨rfl, rfl⟩ (by decide +kernel) rfl (Nat.le_of_ble_eq_true rfl) hc dL_law_1043 ?_
  refine n_lcmp0 O dL_law_1046 ?_
  exact n_ifeq0 (tgt := 1474) O dL_law_1047 (by decide) (K c' m' hR')
theorem lc_28 {E : XC} {nm : String} {b L cl sl I : Nat} {xs : Nat → Int32} {phc phm : Nat → Nat} {c m : StA} (O : ON E R_law cL_law 4 room_1 nm) (X : LE E b L xs) (hL : L ≤ 320) (hI : I + 5 ≤ L) (hc : cl ≤ room_1.cells ∧ sl ≤ room_1.slots) (hpc : ∀ k, 100 ≤ k → phc k = E.2.2.1 k) (hpm : ∀ k, 100 ≤ k → phm k = E.2.2.1 k) (hR : R0 c m) (K : ∀ c' m', R0 c' m' → WN E 4 1474 cl sl [(3, .int (nI I)), (2, .ref (phm 0)), (1, .ref (phc 0)), (0, .ref b)] [] (wld cM phc E.2.2.2.1 c' ++ wld mM phm E.2.2.2.1 m')) : WN E 4 1052 cl sl [(3, .int (nI I)), (2, .ref (phm 0)), (1, .ref (phc 0)), (0, .ref b)] [] (wld cM phc E.2.2.2.1 c ++ wld mM phm E.2.2.2.1 m) := by
  obtain ⟨c', r, m', r', e1, e2, hr, hR'⟩ := sim_see (xs (I + 1)) (xs (I + 2)) hR
  subst hr
  refine n_aload_n O 2 dL_law_1052 rfl rfl ?_
  refine n_arg (jn := 1) (I := I) O X 3 0 dL_law_1053 dL_law_1054 dL_law_1055 dL_law_1056 dL_law_1057 rfl rfl (by decide) (by omega) hL ?_
  refine n_arg (jn := 2) (I := I) O X 3 0 dL_law_1058 dL_law_1059 dL_law_1060 dL_law_1061 dL_law_1062 rfl rfl (by decide) (by omega) hL ?_
  refine n_swap ?_
  refine n_VI (k := 0) (As := [.int (xs (I + 1)), .int (xs (I + 2))]) (st := []) O hpc lk_L_132 (k_X5_see e1) rfl cs_0 rfl rfl ⟨rfl, rfl⟩ (by decide +kernel) rfl (Nat.le_of_ble_eq_true rfl) hc dL_law_1063 ?_
  refine n_swap ?_
  refine n_aload_n O 1 dL_law_1066 rfl rfl ?_
  refine n_arg (jn := 1) (I := I) O X 3 0 dL_law_1067 dL_law_1068 dL_law_1069 dL_law_1070 dL_law_1071 rfl rfl (by decide) (by omega) hL ?_
  refine n_arg (jn := 2) (I := I) O X 3 0 dL_law_1072 dL_law_1073 dL_law_1074 dL_law_1075 dL_law_1076 rfl rfl (by decide) (by omega) hL ?_
  refine n_VI (k := 0) (As := [.int (xs (I + 1)), .int (xs (I + 2))]) (st := [.int r]) O hpm lk_L_135 (k_X6_see e2) rfl ms_0 rfl rfl ⟨rfl, rfl⟩ (by decide +kernel) rfl (Nat.le_of_ble_eq_true rfl) hc dL_law_1077 ?_
  exact n_eqT (tgt := 1474) O dL_law_1080 (by decide) (K c' m' hR')
theorem lc_29 {E : XC} {nm : String} {b L cl sl I : Nat} {xs : Nat → Int32} {phc phm : Nat → Nat} {c m : StA} (O : ON E R_law cL_law 4 room_1 nm) (X : LE E b L xs) (hL : L ≤ 320) (hI : I + 5 ≤ L) (hc : cl ≤ room_1.cells ∧ sl ≤ room_1.slots) (hpc : ∀ k, 100 ≤ k → phc k = E.2.2.1 k) (hpm : ∀ k, 100 ≤ k → phm k = E.2.2.1 k) (hR : R0 c m) (K : ∀ c' m', R0 c' m' → WN E 4 1474 cl sl [(3, .int (nI I)), (2, .ref (phm 0)), (1, .ref (phc 0)), (0, .ref b)] [] (wld cM phc E.2.2.2.1 c' ++ wld mM phm E.2.2.2.1 m')) : WN E 4 1085 cl sl [(3, .int (nI I)), (2, .ref (phm 0)), (1, .ref (phc 0)), (0, .ref b)] [] (wld cM phc E.2.2.2.1 c ++ wld mM phm E.2.2.2.1 m) := by
  obtain ⟨c', r, m', r', e1, e2, hr, hR'⟩ := sim_forget (xs (I + 1)) hR
  subst hr
  refine n_aload_n O 2 dL_law_1085 rfl rfl ?_
  refine n_arg (jn := 1) (I := I) O X 3 0 dL_law_1086 dL_law_1087 dL_law_1088 dL_law_1089 dL_law_1090 rfl rfl (by decide) (by omega) hL ?_
  refine n_swap ?_
  refine n_VI (k := 0) (As := [.int (xs (I + 1))]) (st := []) O hpc lk_L_136 (k_X5_forget e1) rfl cs_0 rfl rfl ⟨rfl, rfl⟩ (by decide +kernel) rfl (Nat.le_of_ble_eq_true rfl) hc dL_law_1091 ?_
  refine n_swap ?_
  refine n_aload_n O 1 dL_law_1094 rfl rfl ?_
  refine n_arg (jn := 1) (I := I) O X 3 0 dL_law_1095 dL_law_1096 dL_law_1097 dL_law_1098 dL_law_1099 rfl rfl (by decide) (by omega) hL ?_
  refine n_VI (k := 0) (As := [.int (xs (I + 1))]) (st := [.int r]) O hpm lk_L_139 (k_X6_forget e2) rfl ms_0 rfl rfl ⟨rfl, rfl⟩ (by decide +kernel) rfl (Nat.le_of_ble_eq_true rfl) hc dL_law_1100 ?_
  exact n_eqT (tgt := 1474) O dL_law_1103 (by decide) (K c' m' hR')
theorem lc_30 {E : XC} {nm : String} {b L cl sl I : Nat} {xs : Nat → Int32} {phc phm : Nat → Nat} {c m : StA} (O : ON E R_law cL_law 4 room_1 nm) (X : LE E b L xs) (hL : L ≤ 320) (hI : I + 5 ≤ L) (hc : cl ≤ room_1.cells ∧ sl ≤ room_1.slots) (hpc : ∀ k, 100 ≤ k → phc k = E.2.2.1 k) (hpm : ∀ k, 100 ≤ k → phm k = E.2.2.1 k) (hR : R0 c m) (K : ∀ c' m', R0 c' m' → WN E 4 1474 cl sl [(3, .int (nI I)), (2, .ref (phm 0)), (1, .ref (phc 0)), (0, .ref b)] [] (wld cM phc E.2.2.2.1 c' ++ wld mM phm E.2.2.2.1 m')) : WN E 4 1108 cl sl [(3, .int (nI I)), (2, .ref (phm 0)), (1, .ref (phc 0)), (0, .ref b)] [] (wld cM phc E.2.2.2.1 c ++ wld mM phm E.2.2.2.1 m) := by
  obtain ⟨c', r, m', r', e1, e2, hr, hR'⟩ := sim_kinds (xs (I + 1)) hR
  subst hr
  refine n_aload_n O 2 dL_law_1108 rfl rfl ?_
  refine n_arg (jn := 1) (I := I) O X 3 0 dL_law_1109 dL_law_1110 dL_law_1111 dL_law_1112 dL_law_1113 rfl rfl (by decide) (by omega) hL ?_
  refine n_swap ?_
  refine n_VI (k := 0) (As := [.int (xs (I + 1))]) (st := []) O hpc lk_L_140 (k_X5_kinds e1) rfl cs_0 rfl rfl ⟨rfl, rfl⟩ (by decide +kernel) rfl (Nat.le_of_ble_eq_true rfl) hc dL_law_1114 ?_
  refine n_swap ?_
  refine n_aload_n O 1 dL_law_1117 rfl rfl ?_
  refine n_arg (jn := 1) (I := I) O X 3 0 dL_law_1118 dL_law_1119 dL_law_1120 dL_law_1121 dL_law_1122 rfl rfl (by decide) (by omega) hL ?_
  refine n_VI (k := 0) (As := [.int (xs (I + 1))]) (st := [.int r]) O hpm lk_L_143 (k_X6_kinds e2) rfl ms_0 rfl rfl ⟨rfl, rfl⟩ (by decide +kernel) rfl (Nat.le_of_ble_eq_true rfl) hc dL_law_1123 ?_
  exact n_eqT (tgt := 1474) O dL_law_1126 (by decide) (K c' m' hR')
theorem lc_31 {E : XC} {nm : String} {b L cl sl I : Nat} {xs : Nat → Int32} {phc phm : Nat → Nat} {c m : StA} (O : ON E R_law cL_law 4 room_1 nm) (X : LE E b L xs) (hL : L ≤ 320) (hI : I + 5 ≤ L) (hc : cl ≤ room_1.cells ∧ sl ≤ room_1.slots) (hpc : ∀ k, 100 ≤ k → phc k = E.2.2.1 k) (hpm : ∀ k, 100 ≤ k → phm k = E.2.2.1 k) (hR : R0 c m) (K : ∀ c' m', R0 c' m' → WN E 4 1474 cl sl [(3, .int (nI I)), (2, .ref (phm 0)), (1, .ref (phc 0)), (0, .ref b)] [] (wld cM phc E.2.2.2.1 c' ++ wld mM phm E.2.2.2.1 m')) : WN E 4 1131 cl sl [(3, .int (nI I)), (2, .ref (phm 0)), (1, .ref (phc 0)), (0, .ref b)] [] (wld cM phc E.2.2.2.1 c ++ wld mM phm E.2.2.2.1 m) := by
  obtain ⟨c', r, m', r', e1, e2, hr, hR'⟩ := sim_weights (xs (I + 1)) hR
  subst hr
  refine n_aload_n O 2 dL_law_1131 rfl rfl ?_
  refine n_arg (jn := 1) (I := I) O X 3 0 dL_law_1132 dL_law_1133 dL_law_1134 dL_law_1135 dL_law_1136 rfl rfl (by decide) (by omega) hL ?_
  refine n_swap ?_
  refine n_VI (k := 0) (As := [.int (xs (I + 1))]) (st := []) O hpc lk_L_144 (k_X5_weights e1) rfl cs_0 rfl rfl ⟨rfl, rfl⟩ (by decide +kernel) rfl (Nat.le_of_ble_eq_true rfl) hc dL_law_1137 ?_
  refine n_swap ?_
  refine n_aload_n O 1 dL_law_1140 rfl rfl ?_
  refine n_arg (jn := 1) (I := I) O X 3 0 dL_law_1141 dL_law_1142 dL_law_1143 dL_law_1144 dL_law_1145 rfl rfl (by decide) (by omega) hL ?_
  refine n_VI (k := 0) (As := [.int (xs (I + 1))]) (st := [.int r]) O hpm lk_L_147 (k_X6_weights e2) rfl ms_0 rfl rfl ⟨rfl, rfl⟩ (by decide +kernel) rfl (Nat.le_of_ble_eq_true rfl) hc dL_law_1146 ?_
  exact n_eqT (tgt := 1474) O dL_law_1149 (by decide) (K c' m' hR')
theorem lc_32 {E : XC} {nm : String} {b L cl sl I : Nat} {xs : Nat → Int32} {phc phm : Nat → Nat} {c m : StA} (O : ON E R_law cL_law 4 room_1 nm) (X : LE E b L xs) (hL : L ≤ 320) (hI : I + 5 ≤ L) (hc : cl ≤ room_1.cells ∧ sl ≤ room_1.slots) (hpc : ∀ k, 100 ≤ k → phc k = E.2.2.1 k) (hpm : ∀ k, 100 ≤ k → phm k = E.2.2.1 k) (hR : R0 c m) (K : ∀ c' m', R0 c' m' → WN E 4 1474 cl sl [(3, .int (nI I)), (2, .ref (phm 0)), (1, .ref (phc 0)), (0, .ref b)] [] (wld cM phc E.2.2.2.1 c' ++ wld mM phm E.2.2.2.1 m')) : WN E 4 1154 cl sl [(3, .int (nI I)), (2, .ref (phm 0)), (1, .ref (phc 0)), (0, .ref b)] [] (wld cM phc E.2.2.2.1 c ++ wld mM phm E.2.2.2.1 m) := by
  obtain ⟨c', r, m', r', e1, e2, hr, hR'⟩ := sim_saids (xs (I + 1)) hR
  subst hr
  refine n_aload_n O 2 dL_law_1154 rfl rfl ?_
  refine n_arg (jn := 1) (I := I) O X 3 0 dL_law_1155 dL_law_1156 dL_law_1157 dL_law_1158 dL_law_1159 rfl rfl (by decide) (by omega) hL ?_
  refine n_swap ?_
  refine n_VI (k := 0) (As := [.int (xs (I + 1))]) (st := []) O hpc lk_L_148 (k_X5_saids e1) rfl cs_0 rfl rfl ⟨rfl, rfl⟩ (by decide +kernel) rfl (Nat.le_of_ble_eq_true rfl) hc dL_law_1160 ?_
  refine n_swap ?_
  refine n_aload_n O 1 dL_law_1163 rfl rfl ?_
  refine n_arg (jn := 1) (I := I) O X 3 0 dL_law_1164 dL_law_1165 dL_law_1166 dL_law_1167 dL_law_1168 rfl rfl (by decide) (by omega) hL ?_
  refine n_VI (k := 0) (As := [.int (xs (I + 1))]) (st := [.int r]) O hpm lk_L_151 (k_X6_saids e2) rfl ms_0 rfl rfl ⟨rfl, rfl⟩ (by decide +kernel) rfl (Nat.le_of_ble_eq_true rfl) hc dL_law_1169 ?_
  exact n_eqT (tgt := 1474) O dL_law_1172 (by decide) (K c' m' hR')
theorem lc_33 {E : XC} {nm : String} {b L cl sl I : Nat} {xs : Nat → Int32} {phc phm : Nat → Nat} {c m : StA} (O : ON E R_law cL_law 4 room_1 nm) (X : LE E b L xs) (hL : L ≤ 320) (hI : I + 5 ≤ L) (hc : cl ≤ room_1.cells ∧ sl ≤ room_1.slots) (hpc : ∀ k, 100 ≤ k → phc k = E.2.2.1 k) (hpm : ∀ k, 100 ≤ k → phm k = E.2.2.1 k) (hR : R0 c m) (K : ∀ c' m', R0 c' m' → WN E 4 1474 cl sl [(3, .int (nI I)), (2, .ref (phm 0)), (1, .ref (phc 0)), (0, .ref b)] [] (wld cM phc E.2.2.2.1 c' ++ wld mM phm E.2.2.2.1 m')) : WN E 4 1177 cl sl [(3, .int (nI I)), (2, .ref (phm 0)), (1, .ref (phc 0)), (0, .ref b)] [] (wld cM phc E.2.2.2.1 c ++ wld mM phm E.2.2.2.1 m) := by
  obtain ⟨c', r, m', r', e1, e2, hr, hR'⟩ := sim_ask (xs (I + 1)) (xs (I + 2)) hR
  subst hr
  refine n_aload_n O 2 dL_law_1177 rfl rfl ?_
  refine n_arg (jn := 1) (I := I) O X 3 0 dL_law_1178 dL_law_1179 dL_law_1180 dL_law_1181 dL_law_1182 rfl rfl (by decide) (by omega) hL ?_
  refine n_arg (jn := 2) (I := I) O X 3 0 dL_law_1183 dL_law_1184 dL_law_1185 dL_law_1186 dL_law_1187 rfl rfl (by decide) (by omega) hL ?_
  refine n_swap ?_
  refine n_VI (k := 0) (As := [.int (xs (I + 1)), .int (xs (I + 2))]) (st := []) O hpc lk_L_152 (k_X5_ask e1) rfl cs_0 rfl rfl ⟨rfl, rfl⟩ (by decide +kernel) rfl (Nat.le_of_ble_eq_true rfl) hc dL_law_1188 ?_
  refine n_swap ?_
  refine n_aload_n O 1 dL_law_1191 rfl rfl ?_
  refine n_arg (jn := 1) (I := I) O X 3 0 dL_law_1192 dL_law_1193 dL_law_1194 dL_law_1195 dL_law_1196 rfl rfl (by decide) (by omega) hL ?_
  refine n_arg (jn := 2) (I := I) O X 3 0 dL_law_1197 dL_law_1198 dL_law_1199 dL_law_1200 dL_law_1201 rfl rfl (by decide) (by omega) hL ?_
  refine n_VI (k := 0) (As := [.int (xs (I + 1)), .int (xs (I + 2))]) (st := [.int r]) O hpm lk_L_155 (k_X6_ask e2) rfl ms_0 rfl rfl ⟨rfl, rfl⟩ (by decide +kernel) rfl (Nat.le_of_ble_eq_true rfl) hc dL_law_1202 ?_
  exact n_eqT (tgt := 1474) O dL_law_1205 (by decide) (K c' m' hR')
theorem lc_34 {E : XC} {nm : String} {b L cl sl I : Nat} {xs : Nat → Int32} {phc phm : Nat → Nat} {c m : StA} (O : ON E R_law cL_law 4 room_1 nm) (X : LE E b L xs) (hL : L ≤ 320) (hI : I + 5 ≤ L) (hc : cl ≤ room_1.cells ∧ sl ≤ room_1.slots) (hpc : ∀ k, 100 ≤ k → phc k = E.2.2.1 k) (hpm : ∀ k, 100 ≤ k → phm k = E.2.2.1 k) (hR : R0 c m) (K : ∀ c' m', R0 c' m' → WN E 4 1474 cl sl [(3, .int (nI I)), (2, .ref (phm 0)), (1, .ref (phc 0)), (0, .ref b)] [] (wld cM phc E.2.2.2.1 c' ++ wld mM phm E.2.2.2.1 m')) : WN E 4 1210 cl sl [(3, .int (nI I)), (2, .ref (phm 0)), (1, .ref (phc 0)), (0, .ref b)] [] (wld cM phc E.2.2.2.1 c ++ wld mM phm E.2.2.2.1 m) := by
  obtain ⟨c', r, m', r', e1, e2, hr, hR'⟩ := sim_drift (xs (I + 1)) (xs (I + 2)) (xs (I + 3)) hR
  subst hr
  refine n_aload_n O 2 dL_law_1210 rfl rfl ?_
  refine n_arg (jn := 1) (I := I) O X 3 0 dL_law_1211 dL_law_1212 dL_law_1213 dL_law_1214 dL_law_1215 rfl rfl (by decide) (by omega) hL ?_
  refine n_arg (jn := 2) (I := I) O X 3 0 dL_law_1216 dL_law_1217 dL_law_1218 dL_law_1219 dL_law_1220 rfl rfl (by decide) (by omega) hL ?_
  refine n_arg (jn := 3) (I := I) O X 3 0 dL_law_1221 dL_law_1222 dL_law_1223 dL_law_1224 dL_law_1225 rfl rfl (by decide) (by omega) hL ?_
  refine n_swap ?_
  refine n_VI (k := 0) (As := [.int (xs (I + 1)), .int (xs (I + 2)), .int (xs (I + 3))]) (st := []) O hpc lk_L_156 (k_X5_drift e1) rfl cs_0 rfl rfl ⟨rfl, rfl⟩ (by decide +kernel) rfl (Nat.le_of_ble_eq_true rfl) hc dL_law_1226 ?_
  refine n_swap ?_
  refine n_aload_n O 1 dL_law_1229 rfl rfl ?_
  refine n_arg (jn := 1) (I := I) O X 3 0 dL_law_1230 dL_law_1231 dL_law_1232 dL_law_1233 dL_law_1234 rfl rfl (by decide) (by omega) hL ?_
  refine n_arg (jn := 2) (I := I) O X 3 0 dL_law_1235 dL_law_1236 dL_law_1237 dL_law_1238 dL_law_1239 rfl rfl (by decide) (by omega) hL ?_
  refine n_arg (jn := 3) (I := I) O X 3 0 dL_law_1240 dL_law_1241 dL_law_1242 dL_law_1243 dL_law_1244 rfl rfl (by decide) (by omega) hL ?_
  refine n_VI (k := 0) (As := [.int (xs (I + 1)), .int (xs (I + 2)), .int (xs (I + 3))]) (st := [.int r]) O hpm lk_L_159 (k_X6_drift e2) rfl ms_0 rfl rfl ⟨rfl, rfl⟩ (by decide +kernel) rfl (Nat.le_of_ble_eq_true rfl) hc dL_law_1245 ?_
  exact n_eqT (tgt := 1474) O dL_law_1248 (by decide) (K c' m' hR')
theorem lc_35 {E : XC} {nm : String} {b L cl sl I : Nat} {xs : Nat → Int32} {phc phm : Nat → Nat} {c m : StA} (O : ON E R_law cL_law 4 room_1 nm) (X : LE E b L xs) (hL : L ≤ 320) (hI : I + 5 ≤ L) (hc : cl ≤ room_1.cells ∧ sl ≤ room_1.slots) (hpc : ∀ k, 100 ≤ k → phc k = E.2.2.1 k) (hpm : ∀ k, 100 ≤ k → phm k = E.2.2.1 k) (hR : R0 c m) (K : ∀ c' m', R0 c' m' → WN E 4 1474 cl sl [(3, .int (nI I)), (2, .ref (phm 0)), (1, .ref (phc 0)), (0, .ref b)] [] (wld cM phc E.2.2.2.1 c' ++ wld mM phm E.2.2.2.1 m')) : WN E 4 1253 cl sl [(3, .int (nI I)), (2, .ref (phm 0)), (1, .ref (phc 0)), (0, .ref b)] [] (wld cM phc E.2.2.2.1 c ++ wld mM phm E.2.2.2.1 m) := by
  obtain ⟨c', r, m', r', e1, e2, hr, hR'⟩ := sim_keep (xs (I + 1)) hR
  subst hr
  refine n_aload_n O 2 dL_law_1253 rfl rfl ?_
  refine n_arg (jn := 1) (I := I) O X 3 0 dL_law_1254 dL_law_1255 dL_law_1256 dL_law_1257 dL_law_1258 rfl rfl (by decide) (by omega) hL ?_
  refine n_swap ?_
  refine n_VI (k := 0) (As := [.int (xs (I + 1))]) (st := []) O hpc lk_L_160 (k_X5_keep e1) rfl cs_0 rfl rfl ⟨rfl, rfl⟩ (by decide +kernel) rfl (Nat.le_of_ble_eq_true rfl) hc dL_law_1259 ?_
  refine n_swap ?_
  refine n_aload_n O 1 dL_law_1262 rfl rfl ?_
  refine n_arg (jn := 1) (I := I) O X 3 0 dL_law_1263 dL_law_1264 dL_law_1265 dL_law_1266 dL_law_1267 rfl rfl (by decide) (by omega) hL ?_
  refine n_VI (k := 0) (As := [.int (xs (I + 1))]) (st := [.int r]) O hpm lk_L_163 (k_X6_keep e2) rfl ms_0 rfl rfl ⟨rfl, rfl⟩ (by decide +kernel) rfl (Nat.le_of_ble_eq_true rfl) hc dL_law_1268 ?_
  exact n_eqT (tgt := 1474) O dL_law_1271 (by decide) (K c' m' hR')
theorem lc_36 {E : XC} {nm : String} {b L cl sl I : Nat} {xs : Nat → Int32} {phc phm : Nat → Nat} {c m : StA} (O : ON E R_law cL_law 4 room_1 nm) (X : LE E b L xs) (hL : L ≤ 320) (hI : I + 5 ≤ L) (hc : cl ≤ room_1.cells ∧ sl ≤ room_1.slots) (hpc : ∀ k, 100 ≤ k → phc k = E.2.2.1 k) (hpm : ∀ k, 100 ≤ k → phm k = E.2.2.1 k) (hR : R0 c m) (K : ∀ c' m', R0 c' m' → WN E 4 1474 cl sl [(3, .int (nI I)), (2, .ref (phm 0)), (1, .ref (phc 0)), (0, .ref b)] [] (wld cM phc E.2.2.2.1 c' ++ wld mM phm E.2.2.2.1 m')) : WN E 4 1276 cl sl [(3, .int (nI I)), (2, .ref (phm 0)), (1, .ref (phc 0)), (0, .ref b)] [] (wld cM phc E.2.2.2.1 c ++ wld mM phm E.2.2.2.1 m) := by
  obtain ⟨c', r, m', r', e1, e2, hr, hR'⟩ := sim_back (xs (I + 1)) hR
  subst hr
  refine n_aload_n O 2 dL_law_1276 rfl rfl ?_
  refine n_arg (jn := 1) (I := I) O X 3 0 dL_law_1277 dL_law_1278 dL_law_1279 dL_law_1280 dL_law_1281 rfl rfl (by decide) (by omega) hL ?_
  refine n_swap ?_
  refine n_VI (k := 0) (As := [.int (xs (I + 1))]) (st := []) O hpc lk_L_164 (k_X5_back e1) rfl cs_0 rfl rfl ⟨rfl, rfl⟩ (by decide +kernel) rfl (Nat.le_of_ble_eq_true rfl) hc dL_law_1282 ?_
  refine n_swap ?_
  refine n_aload_n O 1 dL_law_1285 rfl rfl ?_
  refine n_arg (jn := 1) (I := I) O X 3 0 dL_law_1286 dL_law_1287 dL_law_1288 dL_law_1289 dL_law_1290 rfl rfl (by decide) (by omega) hL ?_
  refine n_VI (k := 0) (As := [.int (xs (I + 1))]) (st := [.int r]) O hpm lk_L_167 (k_X6_back e2) rfl ms_0 rfl rfl ⟨rfl, rfl⟩ (by decide +kernel) rfl (Nat.le_of_ble_eq_true rfl) hc dL_law_1291 ?_
  exact n_eqT (tgt := 1474) O dL_law_1294 (by decide) (K c' m' hR')
theorem lc_37 {E : XC} {nm : String} {b L cl sl I : Nat} {xs : Nat → Int32} {phc phm : Nat → Nat} {c m : StA} (O : ON E R_law cL_law 4 room_1 nm) (X : LE E b L xs) (hL : L ≤ 320) (hI : I + 5 ≤ L) (hc : cl ≤ room_1.cells ∧ sl ≤ room_1.slots) (hpc : ∀ k, 100 ≤ k → phc k = E.2.2.1 k) (hpm : ∀ k, 100 ≤ k → phm k = E.2.2.1 k) (hR : R0 c m) (K : ∀ c' m', R0 c' m' → WN E 4 1474 cl sl [(3, .int (nI I)), (2, .ref (phm 0)), (1, .ref (phc 0)), (0, .ref b)] [] (wld cM phc E.2.2.2.1 c' ++ wld mM phm E.2.2.2.1 m')) : WN E 4 1299 cl sl [(3, .int (nI I)), (2, .ref (phm 0)), (1, .ref (phc 0)), (0, .ref b)] [] (wld cM phc E.2.2.2.1 c ++ wld mM phm E.2.2.2.1 m) := by
  obtain ⟨c', r, m', r', e1, e2, hr, hR'⟩ := sim_sheet (xs (I + 1)) (xs (I + 2)) (xs (I + 3)) hR
  subst hr
  refine n_aload_n O 2 dL_law_1299 rfl rfl ?_
  refine n_arg (jn := 1) (I := I) O X 3 0 dL_law_1300 dL_law_1301 dL_law_1302 dL_law_1303 dL_law_1304 rfl rfl (by decide) (by omega) hL ?_
  refine n_arg (jn := 2) (I := I) O X 3 0 dL_law_1305 dL_law_1306 dL_law_1307 dL_law_1308 dL_law_1309 rfl rfl (by decide) (by omega) hL ?_
  refine n_arg (jn := 3) (I := I) O X 3 0 dL_law_1310 dL_law_1311 dL_law_1312 dL_law_1313 dL_law_1314 rfl rfl (by decide) (by omega) hL ?_
  refine n_swap ?_
  refine n_VI (k := 0) (As := [.int (xs (I + 1)), .int (xs (I + 2)), .int (xs (I + 3))]) (st := []) O hpc lk_L_168 (k_X5_sheet e1) rfl cs_0 rfl rfl ⟨rfl, rfl⟩ (by decide +kernel) rfl (Nat.le_of_ble_eq_true rfl) hc dL_law_1315 ?_
  refine n_swap ?_
  refine n_aload_n O 1 dL_law_1318 rfl rfl ?_
  refine n_arg (jn := 1) (I := I) O X 3 0 dL_law_1319 dL_law_1320 dL_law_1321 dL_law_1322 dL_law_1323 rfl rfl (by decide) (by omega) hL ?_
  refine n_arg (jn := 2) (I := I) O X 3 0 dL_law_1324 dL_law_1325 dL_law_1326 dL_law_1327 dL_law_1328 rfl rfl (by decide) (by omega) hL ?_
  refine n_arg (jn := 3) (I := I) O X 3 0 dL_law_1329 dL_law_1330 dL_law_1331 dL_law_1332 dL_law_1333 rfl rfl (by decide) (by omega) hL ?_
  refine n_VI (k := 0) (As := [.int (xs (I + 1)), .int (xs (I + 2)), .int (xs (I + 3))]) (st := [.int r]) O hpm lk_L_171 (k_X6_sheet e2) rfl ms_0 rfl rfl ⟨rfl, rfl⟩ (by decide +kernel) rfl (Nat.le_of_ble_eq_true rfl) hc dL_law_1334 ?_
  exact n_eqT (tgt := 1474) O dL_law_1337 (by decide) (K c' m' hR')
theorem lc_38 {E : XC} {nm : String} {b L cl sl I : Nat} {xs : Nat → Int32} {phc phm : Nat → Nat} {c m : StA} (O : ON E R_law cL_law 4 room_1 nm) (X : LE E b L xs) (hL : L ≤ 320) (hI : I + 5 ≤ L) (hc : cl ≤ room_1.cells ∧ sl ≤ room_1.slots) (hpc : ∀ k, 100 ≤ k → phc k = E.2.2.1 k) (hpm : ∀ k, 100 ≤ k → phm k = E.2.2.1 k) (hR : R0 c m) (K : ∀ c' m', R0 c' m' → WN E 4 1474 cl sl [(3, .int (nI I)), (2, .ref (phm 0)), (1, .ref (phc 0)), (0, .ref b)] [] (wld cM phc E.2.2.2.1 c' ++ wld mM phm E.2.2.2.1 m')) : WN E 4 1342 cl sl [(3, .int (nI I)), (2, .ref (phm 0)), (1, .ref (phc 0)), (0, .ref b)] [] (wld cM phc E.2.2.2.1 c ++ wld mM phm E.2.2.2.1 m) := by
  obtain ⟨c', r, m', r', e1, e2, hr, hR'⟩ := sim_lay (xs (I + 1)) (xs (I + 2)) (xs (I + 3)) hR
  subst hr
  refine n_aload_n O 2 dL_law_1342 rfl rfl ?_
  refine n_arg (jn := 1) (I := I) O X 3 0 dL_law_1343 dL_law_1344 dL_law_1345 dL_law_1346 dL_law_1347 rfl rfl (by decide) (by omega) hL ?_
  refine n_arg (jn := 2) (I := I) O X 3 0 dL_law_1348 dL_law_1349 dL_law_1350 dL_law_1351 dL_law_1352 rfl rfl (by decide) (by omega) hL ?_
  refine n_arg (jn := 3) (I := I) O X 3 0 dL_law_1353 dL_law_1354 dL_law_1355 dL_law_1356 dL_law_1357 rfl rfl (by decide) (by omega) hL ?_
  refine n_swap ?_
  refine n_VI (k := 0) (As := [.int (xs (I + 1)), .int (xs (I + 2)), .int (xs (I + 3))]) (st := []) O hpc lk_L_172 (k_X5_lay e1) rfl cs_0 rfl rfl ⟨rfl, rfl⟩ (by decide +kernel) rfl (Nat.le_of_ble_eq_true rfl) hc dL_law_1358 ?_
  refine n_swap ?_
  refine n_aload_n O 1 dL_law_1361 rfl rfl ?_
  refine n_arg (jn := 1) (I := I) O X 3 0 dL_law_1362 dL_law_1363 dL_law_1364 dL_law_1365 dL_law_1366 rfl rfl (by decide) (by omega) hL ?_
  refine n_arg (jn := 2) (I := I) O X 3 0 dL_law_1367 dL_law_1368 dL_law_1369 dL_law_1370 dL_law_1371 rfl rfl (by decide) (by omega) hL ?_
  refine n_arg (jn := 3) (I := I) O X 3 0 dL_law_1372 dL_law_1373 dL_law_1374 dL_law_1375 dL_law_1376 rfl rfl (by decide) (by omega) hL ?_
  refine n_VI (k := 0) (As := [.int (xs (I + 1)), .int (xs (I + 2)), .int (xs (I + 3))]) (st := [.int r]) O hpm lk_L_175 (k_X6_lay e2) rfl ms_0 rfl rfl ⟨rfl, rfl⟩ (by decide +kernel) rfl (Nat.le_of_ble_eq_true rfl) hc dL_law_1377 ?_
  exact n_eqT (tgt := 1474) O dL_law_1380 (by decide) (K c' m' hR')
theorem lc_39 {E : XC} {nm : String} {b L cl sl I : Nat} {xs : Nat → Int32} {phc phm : Nat → Nat} {c m : StA} (O : ON E R_law cL_law 4 room_1 nm) (X : LE E b L xs) (hL : L ≤ 320) (hI : I + 5 ≤ L) (hc : cl ≤ room_1.cells ∧ sl ≤ room_1.slots) (hpc : ∀ k, 100 ≤ k → phc k = E.2.2.1 k) (hpm : ∀ k, 100 ≤ k → phm k = E.2.2.1 k) (hR : R0 c m) (K : ∀ c' m', R0 c' m' → WN E 4 1474 cl sl [(3, .int (nI I)), (2, .ref (phm 0)), (1, .ref (phc 0)), (0, .ref b)] [] (wld cM phc E.2.2.2.1 c' ++ wld mM phm E.2.2.2.1 m')) : WN E 4 1385 cl sl [(3, .int (nI I)), (2, .ref (phm 0)), (1, .ref (phc 0)), (0, .ref b)] [] (wld cM phc E.2.2.2.1 c ++ wld mM phm E.2.2.2.1 m) := by
  obtain ⟨c', r, m', r', e1, e2, hr, hR'⟩ := sim_read (xs (I + 1)) (xs (I + 2)) (xs (I + 3)) (xs (I + 4)) hR
  subst hr
  refine n_aload_n O 2 dL_law_1385 rfl rfl ?_
  refine n_arg (jn := 1) (I := I) O X 3 0 dL_law_1386 dL_law_1387 dL_law_1388 dL_law_1389 dL_law_1390 rfl rfl (by decide) (by omega) hL ?_
  refine n_arg (jn := 2) (I := I) O X 3 0 dL_law_1391 dL_law_1392 dL_law_1393 dL_law_1394 dL_law_1395 rfl rfl (by decide) (by omega) hL ?_
  refine n_arg (jn := 3) (I := I) O X 3 0 dL_law_1396 dL_law_1397 dL_law_1398 dL_law_1399 dL_law_1400 rfl rfl (by decide) (by omega) hL ?_
  refine n_arg (jn := 4) (I := I) O X 3 0 dL_law_1401 dL_law_1402 dL_law_1403 dL_law_1404 dL_law_1405 rfl rfl (by decide) (by omega) hL ?_
  refine n_swap ?_
  refine n_VI (k := 0) (As := [.int (xs (I + 1)), .int (xs (I + 2)), .int (xs (I + 3)), .int (xs (I + 4))]) (st := []) O hpc lk_L_176 (k_X5_read e1) rfl cs_0 rfl rfl ⟨rfl, rfl⟩ (by decide +kernel) rfl (Nat.le_of_ble_eq_true rfl) hc dL_law_1406 ?_
  refine n_swap ?_
  refine n_aload_n O 1 dL_law_1409 rfl rfl ?_
  refine n_arg (jn := 1) (I := I) O X 3 0 dL_law_1410 dL_law_1411 dL_law_1412 dL_law_1413 dL_law_1414 rfl rfl (by decide) (by omega) hL ?_
  refine n_arg (jn := 2) (I := I) O X 3 0 dL_law_1415 dL_law_1416 dL_law_1417 dL_law_1418 dL_law_1419 rfl rfl (by decide) (by omega) hL ?_
  refine n_arg (jn := 3) (I := I) O X 3 0 dL_law_1420 dL_law_1421 dL_law_1422 dL_law_1423 dL_law_1424 rfl rfl (by decide) (by omega) hL ?_
  refine n_arg (jn := 4) (I := I) O X 3 0 dL_law_1425 dL_law_1426 dL_law_1427 dL_law_1428 dL_law_1429 rfl rfl (by decide) (by omega) hL ?_
  refine n_VI (k := 0) (As := [.int (xs (I + 1)), .int (xs (I + 2)), .int (xs (I + 3)), .int (xs (I + 4))]) (st := [.int r]) O hpm lk_L_179 (k_X6_read e2) rfl ms_0 rfl rfl ⟨rfl, rfl⟩ (by decide +kernel) rfl (Nat.le_of_ble_eq_true rfl) hc dL_law_1430 ?_
  exact n_eqT (tgt := 1474) O dL_law_1433 (by decide) (K c' m' hR')
theorem lc_40 {E : XC} {nm : String} {b L cl sl I : Nat} {xs : Nat → Int32} {phc phm : Nat → Nat} {c m : StA} (O : ON E R_law cL_law 4 room_1 nm) (X : LE E b L xs) (hL : L ≤ 320) (hI : I + 5 ≤ L) (hc : cl ≤ room_1.cells ∧ sl ≤ room_1.slots) (hpc : ∀ k, 100 ≤ k → phc k = E.2.2.1 k) (hpm : ∀ k, 100 ≤ k → phm k = E.2.2.1 k) (hR : R0 c m) (K : ∀ c' m', R0 c' m' → WN E 4 1474 cl sl [(3, .int (nI I)), (2, .ref (phm 0)), (1, .ref (phc 0)), (0, .ref b)] [] (wld cM phc E.2.2.2.1 c' ++ wld mM phm E.2.2.2.1 m')) : WN E 4 1438 cl sl [(3, .int (nI I)), (2, .ref (phm 0)), (1, .ref (phc 0)), (0, .ref b)] [] (wld cM phc E.2.2.2.1 c ++ wld mM phm E.2.2.2.1 m) := by
  obtain ⟨c', r, m', r', e1, e2, hr, hR'⟩ := sim_torn  hR
  subst hr
  refine n_aload_n O 2 dL_law_1438 rfl rfl ?_
  refine n_swap ?_
  refine n_VI (k := 0) (As := []) (st := []) O hpc lk_L_180 (k_X5_torn e1) rfl cs_0 rfl rfl ⟨rfl, rfl⟩ (by decide +kernel) rfl (Nat.le_of_ble_eq_true rfl) hc dL_law_1439 ?_
  refine n_swap ?_
  refine n_aload_n O 1 dL_law_1442 rfl rfl ?_
  refine n_VI (k := 0) (As := []) (st := [.int r]) O hpm lk_L_183 (k_X6_torn e2) rfl ms_0 rfl rfl ⟨rfl, rfl⟩ (by decide +kernel) rfl (Nat.le_of_ble_eq_true rfl) hc dL_law_1443 ?_
  exact n_eqT (tgt := 1474) O dL_law_1446 (by decide) (K c' m' hR')
theorem lc_41 {E : XC} {nm : String} {b L cl sl I : Nat} {xs : Nat → Int32} {phc phm : Nat → Nat} {c m : StA} (O : ON E R_law cL_law 4 room_1 nm) (X : LE E b L xs) (hL : L ≤ 320) (hI : I + 5 ≤ L) (hc : cl ≤ room_1.cells ∧ sl ≤ room_1.slots) (hpc : ∀ k, 100 ≤ k → phc k = E.2.2.1 k) (hpm : ∀ k, 100 ≤ k → phm k = E.2.2.1 k) (hR : R0 c m) (K : ∀ c' m', R0 c' m' → WN E 4 1474 cl sl [(3, .int (nI I)), (2, .ref (phm 0)), (1, .ref (phc 0)), (0, .ref b)] [] (wld cM phc E.2.2.2.1 c' ++ wld mM phm E.2.2.2.1 m')) : WN E 4 1451 cl sl [(3, .int (nI I)), (2, .ref (phm 0)), (1, .ref (phc 0)), (0, .ref b)] [] (wld cM phc E.2.2.2.1 c ++ wld mM phm E.2.2.2.1 m) := by
  obtain ⟨c', r, m', r', e1, e2, hr, hR'⟩ := sim_count (xs (I + 1)) hR
  subst hr
  refine n_aload_n O 2 dL_law_1451 rfl rfl ?_
  refine n_arg (jn := 1) (I := I) O X 3 0 dL_law_1452 dL_law_1453 dL_law_1454 dL_law_1455 dL_law_1456 rfl rfl (by decide) (by omega) hL ?_
  refine n_swap ?_
  refine n_VI (k := 0) (As := [.int (xs (I + 1))]) (st := []) O hpc lk_L_184 (k_X5_count e1) rfl cs_0 rfl rfl ⟨rfl, rfl⟩ (by decide +kernel) rfl (Nat.le_of_ble_eq_true rfl) hc dL_law_1457 ?_
  refine n_swap ?_
  refine n_aload_n O 1 dL_law_1460 rfl rfl ?_
  refine n_arg (jn := 1) (I := I) O X 3 0 dL_law_1461 dL_law_1462 dL_law_1463 dL_law_1464 dL_law_1465 rfl rfl (by decide) (by omega) hL ?_
  refine n_VI (k := 0) (As := [.int (xs (I + 1))]) (st := [.int r]) O hpm lk_L_187 (k_X6_count e2) rfl ms_0 rfl rfl ⟨rfl, rfl⟩ (by decide +kernel) rfl (Nat.le_of_ble_eq_true rfl) hc dL_law_1466 ?_
  exact n_eqT (tgt := 1474) O dL_law_1469 (by decide) (K c' m' hR')
