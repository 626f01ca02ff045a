/-! The law's loop. -/
theorem law_step {E : XC} {nm : String} {b L cl sl I : Nat} {xs : Nat → Int32} {phc phm : Nat → Nat} {c m : StA} (O : ON E R_law cL_law 4 room_1 nm) (X : LE E b L xs) (hL : L ≤ 320) (hI0 : I ≤ 330) (hc : cl ≤ room_1.cells ∧ sl ≤ room_1.slots) (hpc : ∀ k, 100 ≤ k → phc k = E.2.2.1 k) (hpm : ∀ k, 100 ≤ k → phm k = E.2.2.1 k) (hR : R0 c m) (K : I + 5 ≤ L → ∀ c' m', R0 c' m' → WN E 4 18 cl sl [(3, .int (nI (I + 5))), (2, .ref (phm 0)), (1, .ref (phc 0)), (0, .ref b)] [] (wld cM phc E.2.2.2.1 c' ++ wld mM phm E.2.2.2.1 m')) : WN E 4 18 cl sl [(3, .int (nI I)), (2, .ref (phm 0)), (1, .ref (phc 0)), (0, .ref b)] [] (wld cM phc E.2.2.2.1 c ++ wld mM phm E.2.2.2.1 m) := by
  refine n_iload_n O 0 dL_law_18 rfl rfl ?_
  refine n_aload_n O 3 dL_law_19 rfl rfl ?_
  refine n_slen O X dL_law_20 ?_
  refine n_iconst (v := 5) O dL_law_21 rfl ?_
  refine n_isub O dL_law_22 ?_
  refine n_gt (tgt := 1480) O dL_law_23 (by decide) (fun _ => ?_) (fun h => ?_)
  · refine n_iconst (v := 1) O dL_law_1480 rfl ?_
    exact n_ret1 O X hc dL_law_1481
  · have hI : I + 5 ≤ L := by
      rw [ti_lt, ti_sub, show Int32.ofNat L = nI L from rfl, ti_nI (by omega), ti_nI (by omega), show (5 : Int32).toInt = 5 from rfl] at h
      omega
    have K2 : ∀ c' m', R0 c' m' → WN E 4 1474 cl sl [(3, .int (nI I)), (2, .ref (phm 0)), (1, .ref (phc 0)), (0, .ref b)] [] (wld cM phc E.2.2.2.1 c' ++ wld mM phm E.2.2.2.1 m') := fun c' m' h' => by
      refine n_iinc (v := nI (I + 5)) (lv' := [(3, .int (nI (I + 5))), (2, .ref (phm 0)), (1, .ref (phc 0)), (0, .ref b)]) O 0 dL_law_1474 rfl (nI_add I 5) (by decide) rfl ?_
      exact n_goto (tgt := 18) O dL_law_1477 (by decide) (K hI c' m' h')
    refine n_aload_n O 3 dL_law_26 rfl rfl ?_
    refine n_iload_n O 0 dL_law_27 rfl rfl ?_
    refine n_sld O X (vp_in_iff.mpr (by rw [ti_nI (by omega)]; omega)) dL_law_28 ?_
    refine n_bipush (v := 63) O dL_law_29 rfl ?_
    refine n_iand O dL_law_31 ?_
    generalize xs (nI I).toNatClampNeg &&& 63 = w
    by_cases hw : 0 ≤ w.toInt ∧ w.toInt ≤ 41
    · obtain ⟨k, hk, rfl⟩ : ∃ k, k < 42 ∧ w = nI k := ⟨w.toInt.toNat, by omega, by rw [ti_inj, ti_nI (by omega)]; omega⟩
      clear hw
      match k, hk with
      | 0, _ => exact n_tabI (tgt := 216) O dL_law_32 (by decide) (by decide) rfl (by decide) (lc_0 O X hL hI hc hpc hpm hR K2)
      | 1, _ => exact n_tabI (tgt := 239) O dL_law_32 (by decide) (by decide) rfl (by decide) (lc_1 O X hL hI hc hpc hpm hR K2)
      | 2, _ => exact n_tabI (tgt := 262) O dL_law_32 (by decide) (by decide) rfl (by decide) (lc_2 O X hL hI hc hpc hpm hR K2)
      | 3, _ => exact n_tabI (tgt := 275) O dL_law_32 (by decide) (by decide) rfl (by decide) (lc_3 O X hL hI hc hpc hpm hR K2)
      | 4, _ => exact n_tabI (tgt := 288) O dL_law_32 (by decide) (by decide) rfl (by decide) (lc_4 O X hL hI hc hpc hpm hR K2)
      | 5, _ => exact n_tabI (tgt := 311) O dL_law_32 (by decide) (by decide) rfl (by decide) (lc_5 O X hL hI hc hpc hpm hR K2)
      | 6, _ => exact n_tabI (tgt := 344) O dL_law_32 (by decide) (by decide) rfl (by decide) (lc_6 O X hL hI hc hpc hpm hR K2)
      | 7, _ => exact n_tabI (tgt := 367) O dL_law_32 (by decide) (by decide) rfl (by decide) (lc_7 O X hL hI hc hpc hpm hR K2)
      | 8, _ => exact n_tabI (tgt := 400) O dL_law_32 (by decide) (by decide) rfl (by decide) (lc_8 O X hL hI hc hpc hpm hR K2)
      | 9, _ => exact n_tabI (tgt := 443) O dL_law_32 (by decide) (by decide) rfl (by decide) (lc_9 O X hL hI hc hpc hpm hR K2)
      | 10, _ => exact n_tabI (tgt := 476) O dL_law_32 (by decide) (by decide) rfl (by decide) (lc_10 O X hL hI hc hpc hpm hR K2)
      | 11, _ => exact n_tabI (tgt := 499) O dL_law_32 (by decide) (by decide) rfl (by decide) (lc_11 O X hL hI hc hpc hpm hR K2)
      | 12, _ => exact n_tabI (tgt := 522) O dL_law_32 (by decide) (by decide) rfl (by decide) (lc_12 O X hL hI hc hpc hpm hR K2)
      | 13, _ => exact n_tabI (tgt := 545) O dL_law_32 (by decide) (by decide) rfl (by decide) (lc_13 O X hL hI hc hpc hpm hR K2)
      | 14, _ => exact n_tabI (tgt := 578) O dL_law_32 (by decide) (by decide) rfl (by decide) (lc_14 O X hL hI hc hpc hpm hR K2)
      | 15, _ => exact n_tabI (tgt := 601) O dL_law_32 (by decide) (by decide) rfl (by decide) (lc_15 O X hL hI hc hpc hpm hR K2)
      | 16, _ => exact n_tabI (tgt := 624) O dL_law_32 (by decide) (by decide) rfl (by decide) (lc_16 O X hL hI hc hpc hpm hR K2)
      | 17, _ => exact n_tabI (tgt := 657) O dL_law_32 (by decide) (by decide) rfl (by decide) (lc_17 O X hL hI hc hpc hpm hR K2)
      | 18, _ => exact n_tabI (tgt := 670) O dL_law_32 (by decide) (by decide) rfl (by decide) (lc_18 O X hL hI hc hpc hpm hR K2)
      | 19, _ => exact n_tabI (tgt := 693) O dL_law_32 (by decide) (by decide) rfl (by decide) (lc_19 O X hL hI hc hpc hpm hR K2)
      | 20, _ => exact n_tabI (tgt := 716) O dL_law_32 (by decide) (by decide) rfl (by decide) (lc_20 O X hL hI hc hpc hpm hR K2)
      | 21, _ => exact n_tabI (tgt := 749) O dL_law_32 (by decide) (by decide) rfl (by decide) (lc_21 O X hL hI hc hpc hpm hR K2)
      | 22, _ => exact n_tabI (tgt := 802) O dL_law_32 (by decide) (by decide) rfl (by decide) (lc_22 O X hL hI hc hpc hpm hR K2)
      | 23, _ => exact n_tabI (tgt := 855) O dL_law_32 (by decide) (by decide) rfl (by decide) (lc_23 O X hL hI hc hpc hpm hR K2)
      | 24, _ => exact n_tabI (tgt := 888) O dL_law_32 (by decide) (by decide) rfl (by decide) (lc_24 O X hL hI hc hpc hpm hR K2)
      | 25, _ => exact n_tabI (tgt := 911) O dL_law_32 (by decide) (by decide) rfl (by decide) (lc_25 O X hL hI hc hpc hpm hR K2)
      | 26, _ => exact n_tabI (tgt := 954) O dL_law_32 (by decide) (by decide) rfl (by decide) (lc_26 O X hL hI hc hpc hpm hR K2)
      | 27, _ => exact n_tabI (tgt := 1008) O dL_law_32 (by decide) (by decide) rfl (by decide) (lc_27 O X hL hI hc hpc hpm hR K2)
      | 28, _ => exact n_tabI (tgt := 1052) O dL_law_32 (by decide) (by decide) rfl (by decide) (lc_28 O X hL hI hc hpc hpm hR K2)
      | 29, _ => exact n_tabI (tgt := 1085) O dL_law_32 (by decide) (by decide) rfl (by decide) (lc_29 O X hL hI hc hpc hpm hR K2)
      | 30, _ => exact n_tabI (tgt := 1108) O dL_law_32 (by decide) (by decide) rfl (by decide) (lc_30 O X hL hI hc hpc hpm hR K2)
      | 31, _ => exact n_tabI (tgt := 1131) O dL_law_32 (by decide) (by decide) rfl (by decide) (lc_31 O X hL hI hc hpc hpm hR K2)
      | 32, _ => exact n_tabI (tgt := 1154) O dL_law_32 (by decide) (by decide) rfl (by decide) (lc_32 O X hL hI hc hpc hpm hR K2)
      | 33, _ => exact n_tabI (tgt := 1177) O dL_law_32 (by decide) (by decide) rfl (by decide) (lc_33 O X hL hI hc hpc hpm hR K2)
      | 34, _ => exact n_tabI (tgt := 1210) O dL_law_32 (by decide) (by decide) rfl (by decide) (lc_34 O X hL hI hc hpc hpm hR K2)
      | 35, _ => exact n_tabI (tgt := 1253) O dL_law_32 (by decide) (by decide) rfl (by decide) (lc_35 O X hL hI hc hpc hpm hR K2)
      | 36, _ => exact n_tabI (tgt := 1276) O dL_law_32 (by decide) (by decide) rfl (by decide) (lc_36 O X hL hI hc hpc hpm hR K2)
      | 37, _ => exact n_tabI (tgt := 1299) O dL_law_32 (by decide) (by decide) rfl (by decide) (lc_37 O X hL hI hc hpc hpm hR K2)
      | 38, _ => exact n_tabI (tgt := 1342) O dL_law_32 (by decide) (by decide) rfl (by decide) (lc_38 O X hL hI hc hpc hpm hR K2)
      | 39, _ => exact n_tabI (tgt := 1385) O dL_law_32 (by decide) (by decide) rfl (by decide) (lc_39 O X hL hI hc hpc hpm hR K2)
      | 40, _ => exact n_tabI (tgt := 1438) O dL_law_32 (by decide) (by decide) rfl (by decide) (lc_40 O X hL hI hc hpc hpm hR K2)
      | 41, _ => exact n_tabI (tgt := 1451) O dL_law_32 (by decide) (by decide) rfl (by decide) (lc_41 O X hL hI hc hpc hpm hR K2)
      | k + 42, h => exact absurd h (by omega)
    · exact n_tabO (tgt := 1474) O dL_law_32 (by omega) (by decide) (K2 c m hR)
theorem law_loop {E : XC} {nm : String} {b L cl sl : Nat} {xs : Nat → Int32} {phc phm : Nat → Nat} (O : ON E R_law cL_law 4 room_1 nm) (X : LE E b L xs) (hL : L ≤ 320) (hc : cl ≤ room_1.cells ∧ sl ≤ room_1.slots) (hpc : ∀ k, 100 ≤ k → phc k = E.2.2.1 k) (hpm : ∀ k, 100 ≤ k → phm k = E.2.2.1 k) : ∀ (n I : Nat) (c m : StA), L ≤ I + n → I ≤ 325 → R0 c m → WN E 4 18 cl sl [(3, .int (nI I)), (2, .ref (phm 0)), (1, .ref (phc 0)), (0, .ref b)] [] (wld cM phc E.2.2.2.1 c ++ wld mM phm E.2.2.2.1 m)
  | 0, I, c, m, h1, h2, hR => law_step O X hL (by omega) hc hpc hpm hR (fun h3 => absurd h3 (by omega))
  | n + 1, I, c, m, h1, h2, hR => law_step O X hL (by omega) hc hpc hpm hR (fun h3 c' m' h' => law_loop O X hL hc hpc hpm n (I + 5) c' m' (by omega) (by omega) h')
