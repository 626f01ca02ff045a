theorem li_L_9 : LkI R_law 9 yX5_init cX5_init 2 0 := ⟨tb_in (List.mem_of_getElem? (i := 80) (by decide +kernel)) (by decide +kernel), tb_in (List.mem_of_getElem? (i := 78) (by decide +kernel)) (by decide +kernel), tb_in (List.mem_of_getElem? (i := 79) (by decide +kernel)) (by decide +kernel), ii_X5, ⟨by decide +kernel, by decide +kernel, by decide +kernel⟩, rfl⟩
theorem li_L_12 : LkI R_law 12 yX6_init cX6_init 2 0 := ⟨tb_in (List.mem_of_getElem? (i := 830) (by decide +kernel)) (by decide +kernel), tb_in (List.mem_of_getElem? (i := 828) (by decide +kernel)) (by decide +kernel), tb_in (List.mem_of_getElem? (i := 829) (by decide +kernel)) (by decide +kernel), ii_X6, ⟨by decide +kernel, by decide +kernel, by decide +kernel⟩, rfl⟩
theorem cl_L_7 : Cond.classLink R_law 7 RX5 ∈ TBg := tb_in (List.mem_of_getElem? (i := 76) (by decide +kernel)) (by decide +kernel)
theorem cl_L_10 : Cond.classLink R_law 10 RX6 ∈ TBg := tb_in (List.mem_of_getElem? (i := 826) (by decide +kernel)) (by decide +kernel)
theorem wd_str : (∀ i, i < 7 → Cond.exactly (.string RX3 (110 + 2 * i)) "java/lang/String" ∈ flatC (Jvm.Cond.and given_1 narrow_1)) ∧ (∀ i, i < 7 → Cond.eq (.field (.string RX3 (110 + 2 * i)) "java/lang/String" "coder" "B") (.int 0) ∈ flatC (Jvm.Cond.and given_1 narrow_1)) ∧ (∀ i, i < 7 → Cond.arrayOf (.field (.string RX3 (110 + 2 * i)) "java/lang/String" "value" "[B") .byte ∈ flatC (Jvm.Cond.and given_1 narrow_1)) ∧ (∀ i, i < 7 → Cond.eq (.length (.field (.string RX3 (110 + 2 * i)) "java/lang/String" "value" "[B")) (.int (Int32.ofNat (js_len.getD i 0))) ∈ flatC (Jvm.Cond.and given_1 narrow_1)) := by decide +kernel
theorem wd_elm : ∀ i, i < 7 → ∀ j, j < js_len.getD i 0 → Cond.eq (.elem (.field (.string RX3 (110 + 2 * i)) "java/lang/String" "value" "[B") (.int (Int32.ofNat j))) (.int ((js_byt.getD i []).getD j 0)) ∈ flatC (Jvm.Cond.and given_1 narrow_1) := by decide +kernel
theorem wd_ne : ∀ i, i < 7 → ∀ j, j < 7 → i ≠ j → (Cond.not (Cond.eq (.string RX3 (110 + 2 * i)) (.string RX3 (110 + 2 * j))) ∈ flatC (Jvm.Cond.and given_1 narrow_1) ∨ Cond.not (Cond.eq (.string RX3 (110 + 2 * j)) (.string RX3 (110 + 2 * i))) ∈ flatC (Jvm.Cond.and given_1 narrow_1)) := by decide +kernel
theorem wd_sta : Cond.eq (.static "java/lang/String" "COMPACT_STRINGS" "Z") (.int 1) ∈ flatC (Jvm.Cond.and given_1 narrow_1) ∧ Cond.isRef (.static "jdk/internal/util/Preconditions" "SIOOBE_FORMATTER" "Ljava/util/function/BiFunction;") ∈ flatC (Jvm.Cond.and given_1 narrow_1) := by decide +kernel
theorem wd_tab : (∀ i, i < 7 → Cond.stringRef RX3 (110 + 2 * i) (js_tx.getD i "") ∈ lw_tbl) ∧ (Cond.laysStatic "java/lang/String" "COMPACT_STRINGS" "Z" ∈ lw_tbl ∧ Cond.initialized "java/lang/String" ∈ lw_tbl) ∧ (Cond.laysStatic "jdk/internal/util/Preconditions" "SIOOBE_FORMATTER" "Ljava/util/function/BiFunction;" ∈ lw_tbl ∧ Cond.initialized "jdk/internal/util/Preconditions" ∈ lw_tbl) := by decide +kernel
theorem wd_nst : (∀ q ∈ ne_L, Cond.methodLinkNest q.1 q.2.1 q.2.2 RX5 ∈ lw_tbl) ∧ Cond.methodLinkNest RX5 29 yX3_init RX5 ∈ lw_tbl ∧ Cond.methodLinkNest RX5 42 yX0_init RX5 ∈ lw_tbl ∧ Cond.methodLinkNest RX5 52 yX4_init RX5 ∈ lw_tbl := by decide +kernel
theorem wd_ovr : Cond.arrayOver (.object RX1) ∈ lw_tbl ∧ Cond.arrayOver (.object RX4) ∈ lw_tbl ∧ Cond.arrayOver (.array .int) ∈ lw_tbl := by decide +kernel
/-- what the start gives: classes, array classes, constants -/
theorem law_K {s : State} {args : Array Value} (hts : ∀ w ∈ lw_tbl, w.before args s = true) : ∃ (D : va_G) (ids : Nat → ClassId), va_K D vwCl (ty_l ids) s := by
  have htg : ∀ w ∈ TBg, w.before args s = true := fun w hw => hts w (List.mem_filter.mp hw).1
  obtain ⟨c0, i0, h0⟩ := u_known (C := RX0) (T := TX0) (N := 3) (n := 3) htg tw_X0 (htg _ is_X0)
  obtain ⟨c1, i1, h1⟩ := u_known (C := RX1) (T := TX1) (N := 12) (n := 12) htg tw_X1 (htg _ is_X1)
  obtain ⟨c2, i2, h2⟩ := u_known (C := RX2) (T := TX2) (N := 3) (n := 3) htg tw_X2 (htg _ is_X2)
  obtain ⟨c3, i3, h3⟩ := u_known (C := RX3) (T := TX3) (N := 12) (n := 12) htg tw_X3 (htg _ is_X3)
  obtain ⟨c4, i4, h4⟩ := u_known (C := RX4) (T := TX4) (N := 3) (n := 3) htg tw_X4 (htg _ is_X4)
  obtain ⟨c5, i5, h5⟩ := u_known (C := RX5) (T := TX5) (N := 9) (n := 9) htg tw_X5 (htg _ is_X5)
  obtain ⟨c6, i6, h6⟩ := u_known (C := RX6) (T := TX6) (N := 34) (n := 34) htg tw_X6 (htg _ is_X6)
  obtain ⟨a0, k0, m0, p0, q0, r0⟩ := Cond.arrayClass_spec (htg _ ac_int)
  obtain ⟨a1, k1, m1, p1, q1, r1⟩ := Cond.arrayClass_spec (htg _ ac_bool)
  obtain ⟨m2, a2, k2, p2, -, q2, r2, t2⟩ := Cond.arrayOver_spec (hts _ wd_ovr.1)
  obtain ⟨m3, a3, k3, p3, -, q3, r3, t3⟩ := Cond.arrayOver_spec (hts _ wd_ovr.2.1)
  obtain ⟨m4, a4, k4, p4, -, q4, r4, t4⟩ := arrayOverA_spec (hts _ wd_ovr.2.2)
  refine ⟨(fun k => match k with | 0 => c0 | 1 => c1 | 2 => c2 | 3 => c3 | 4 => c4 | 5 => c5 | _ => c6, fun k => match k with | 0 => i0 | 1 => i1 | 2 => i2 | 3 => i3 | 4 => i4 | 5 => i5 | _ => i6), fun k => match k with | 0 => a0 | 1 => a1 | 2 => a2 | 3 => a3 | _ => a4, fun k q hq => ?_, fun k q hq => ?_⟩
  · match k, hq with
    | 0, hq => cases hq; exact h0
    | 1, hq => cases hq; exact h1
    | 2, hq => cases hq; exact h2
    | 3, hq => cases hq; exact h3
    | 4, hq => cases hq; exact h4
    | 5, hq => cases hq; exact h5
    | 6, hq => cases hq; exact h6
    | k + 7, hq => simp [vwCl] at hq
  · match k, hq with
    | 0, hq => cases hq; exact ⟨fun _ _ => ⟨(fun q hq => by cases hq), k0, q0, m0, r0⟩, p0⟩
    | 1, hq => cases hq; exact ⟨fun _ _ => ⟨(fun q hq => by cases hq), k1, q1, m1, r1⟩, p1⟩
    | 2, hq => cases hq; exact ⟨fun _ _ => ⟨(fun q hq => by cases hq), k2, q2, m2, r2⟩, k2, m2, q2, r2, p2, t2⟩
    | 3, hq => cases hq; exact ⟨fun _ _ => ⟨(fun q hq => by cases hq), k3, q3, m3, r3⟩, k3, m3, q3, r3, p3, t3⟩
    | 4, hq => cases hq; exact ⟨fun _ _ => ⟨(fun q hq => by cases hq), k4, q4, m4, r4⟩, t4⟩
    | k + 5, hq => simp [ty_l] at hq
theorem law_F {s : State} {args : Array Value} (hts : ∀ w ∈ lw_tbl, w.before args s = true) (hgv : (Jvm.Cond.and given_1 narrow_1).before args s = true) : ∃ ph : Nat → Nat, ex_F ph (fun q => s.heap.size ≤ q) s s.heap := by
  have hs := flat_of_before _ hgv
  have hA : ∀ a : Nat, a < s.heap.size → ¬ (fun q : Nat => s.heap.size ≤ q) a := fun a h => Nat.not_le.mpr h
  obtain ⟨adK, adV, hS, hE⟩ := vk_Sof (args := args) (s := s) (N := 7) (tm := fun i => .string RX3 (110 + 2 * i)) (len := js_len) (byt := js_byt) (A := fun q => s.heap.size ≤ q) (by decide) (fun i hi => hs _ (wd_str.1 i hi)) (fun i hi => hs _ (wd_str.2.1 i hi)) (fun i hi => hs _ (wd_str.2.2.1 i hi)) (fun i hi => hs _ (wd_str.2.2.2 i hi)) (fun i hi j hj => hs _ (wd_elm i hi j hj)) (fun i j hi hj hij => (wd_ne i hi j hj hij).imp (fun h => hs _ h) (fun h => hs _ h)) hA
  have e1 : ∀ i, i < 7 → (fun k : Nat => if k < 200 then adK (k - 100) else adV (k - 200)) (100 + i) = adK i := fun i hi => by
    show (if 100 + i < 200 then adK (100 + i - 100) else adV (100 + i - 200)) = adK i
    rw [if_pos (by omega), Nat.add_sub_cancel_left]
  have e2 : ∀ i, i < 7 → (fun k : Nat => if k < 200 then adK (k - 100) else adV (k - 200)) (200 + i) = adV i := fun i hi => by
    show (if 200 + i < 200 then adK (200 + i - 100) else adV (200 + i - 200)) = adV i
    rw [if_neg (by omega), Nat.add_sub_cancel_left]
  generalize (fun k : Nat => if k < 200 then adK (k - 100) else adV (k - 200)) = ph at e1 e2
  refine ⟨ph, fun q hq => va_Nw.of rfl (hts _ (wd_nst.1 q hq)), ⟨⟨fun i hi => ?_, fun i j hi hj e => ?_⟩, fun i hi => ?_⟩, va_Zof (hts _ wd_tab.2.1.1) (hts _ wd_tab.2.1.2) (va_eqi (hs _ wd_sta.1)) hA, va_Zqof (hts _ wd_tab.2.2.1) (hts _ wd_tab.2.2.2) (hs _ wd_sta.2) hA⟩
  · dsimp only
    rw [e1 i hi, e2 i hi]
    exact hS.1 i hi
  · dsimp only at e
    rw [e1 i hi, e1 j hj] at e
    exact hS.2 i j hi hj e
  · rw [e1 i hi]
    exact vk_R.of (hts _ (wd_tab.1 i hi)) (hE i hi)
set_option maxHeartbeats 4000000 in
set_option maxRecDepth 100000 in
/-- from the entry, for every script of at most 320 ints, the law comes to its end with true -/
theorem whole_start {p : Program} {e : Env} {s : State} {m : MethodId} {below : List Frame} {meth : Method} {c : Code} (l : Launch) {b L : Nat} {xs : Nat → Int32} (hL : L ≤ 320) (C0 : lw_At p s m meth c b L xs) : W p l e room_1 s m #[Value.ref b] below meth c s.heap [] 0 0 (lw_Z below #[Value.ref b] s) (entryFrame m ([Value.ref b] : List Value).toArray 4) := by
  obtain ⟨hx, hb, hr, hml, hown, hts, hX, hbl, hlocks, hgv⟩ := id C0
  have htg : ∀ w ∈ TBg, w.before #[Value.ref b] s = true := fun w hw => hts w (List.mem_filter.mp hw).1
  obtain ⟨D, ids, hK⟩ := law_K hts
  obtain ⟨ph, hF⟩ := law_F hts hgv
  have hN : ex_N s := ⟨⟨va_AO.of (hts _ wd_ovr.1), va_AO.of (hts _ wd_ovr.2.1), hts _ wd_ovr.2.2⟩, va_Nw.of rfl (hts _ wd_nst.2.1), va_Nw.of rfl (hts _ wd_nst.2.2.1), va_Nw.of rfl (hts _ wd_nst.2.2.2)⟩
  obtain ⟨E, hE⟩ : ∃ E : XC, E = ((p, l, e, room_1, s, m, #[Value.ref b], below, meth, c, lw_Z below #[Value.ref b] s), (D, ph, ids, fun q => s.heap.size ≤ q)) := ⟨_, rfl⟩
  have O : ON E R_law cL_law 4 room_1 meth.name := by
    rw [hE]
    exact ⟨hx, hb, hml, hown, htg, hK, fun q h => h, hF, rfl, rfl, hN⟩
  have X : LE E b L xs := by
    rw [hE]
    exact ⟨hX, hbl, fun q h => h, rfl, rfl, hr, hlocks⟩
  have key : WN E 4 0 0 0 [(0, .ref b)] [] [] := by
    refine n_new (C := RX5) (T := TX5) (N := 9) (ci := 5) (fs := dfX5) O tyX5 tw_X5 tyX5_ok cl_L_7 is_X5 ii_X5 rfl dfX5_ok (by decide +kernel) (by decide +kernel) dL_law_0 (fun q0 => ?_)
    refine n_dup O dL_law_3 rfl ?_
    refine n_ctor (cl := 1) (sl := 9) (ws := []) (As := []) (st := [.ref q0]) O li_L_9 (k_X5_init q0) rfl (by decide +kernel) rfl (Nat.le_of_ble_eq_true rfl) (by decide +kernel) (by decide +kernel) dL_law_4 (fun w1 hw1 => ?_)
    obtain ⟨phc, hpc, rfl, rfl⟩ := hw1
    refine n_astore_n (lv' := [(1, .ref (phc 0)), (0, .ref b)]) O dL_law_7 rfl (by decide) rfl ?_
    refine n_new (C := RX6) (T := TX6) (N := 34) (ci := 6) (fs := dfX6) O tyX6 tw_X6 tyX6_ok cl_L_10 is_X6 ii_X6 rfl dfX6_ok (by decide +kernel) (by decide +kernel) dL_law_8 (fun q1 => ?_)
    refine n_dup O dL_law_11 rfl ?_
    refine n_ctor (cl := 102) (sl := 2043) (ws := [] ++ wld cM phc E.2.2.2.1 c0) (As := []) (st := [.ref q1]) O li_L_12 (k_X6_init q1) rfl (by decide +kernel) rfl (Nat.le_of_ble_eq_true rfl) (by decide +kernel) (by decide +kernel) dL_law_12 (fun w2 hw2 => ?_)
    obtain ⟨phm, hpm, rfl, m0, hR, rfl⟩ := hw2
    refine n_astore_n (lv' := [(2, .ref (phm 0)), (1, .ref (phc 0)), (0, .ref b)]) O dL_law_15 rfl (by decide) rfl ?_
    refine n_iconst (v := nI 0) O dL_law_16 rfl ?_
    refine n_istore_n (lv' := [(3, .int (nI 0)), (2, .ref (phm 0)), (1, .ref (phc 0)), (0, .ref b)]) O dL_law_17 rfl (by decide) rfl ?_
    exact law_loop (cl := 122) (sl := 3143) O X hL (by decide +kernel) hpc hpm L 0 c0 m0 (by omega) (by omega) hR
  rw [hE] at key
  have hl := lv_entry ([.ref b]) (n := 4) (Nat.le_of_ble_eq_true rfl)
  rw [lg_entry_eq]
  generalize (lg_sl ([.ref b]) ++ List.replicate (4 - (lg_sl ([.ref b])).length) Slot.unset).toArray = ls at hl ⊢
  exact key s.heap [] ls (fun k q h => by simp at h) ⟨fun i j p q h => by simp at h, fun k q h => by simp at h⟩ va_S.rf hl
