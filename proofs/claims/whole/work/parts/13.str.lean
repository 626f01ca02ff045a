/-! String constants: keys 100 to 106, their rows of bytes 200 to 206. -/
def isStr (k : Nat) : Prop := ∃ i, i < 7 ∧ k = 100 + i
def js_n (k : Nat) : Nat := js_len.getD (k - 100) 0
def js_b (k j : Nat) : Int32 := (js_byt.getD (k - 100) []).getD j 0
def js_c (k j : Nat) : Int32 := js_b k j &&& 255
def gst {β : Type} (r : Nat) (k : Option β) : Option β := if 100 ≤ r ∧ r < 107 then k else none
theorem gst_e {β : Type} {r : Nat} {k : Option β} {z : β} (h : gst r k = some z) : isStr r ∧ k = some z := by
  unfold gst at h
  split at h
  · exact ⟨⟨r - 100, by omega, by omega⟩, h⟩
  · cases h
theorem st_100 : isStr 100 := ⟨0, by decide, rfl⟩
theorem st_101 : isStr 101 := ⟨1, by decide, rfl⟩
theorem st_102 : isStr 102 := ⟨2, by decide, rfl⟩
theorem st_103 : isStr 103 := ⟨3, by decide, rfl⟩
theorem st_104 : isStr 104 := ⟨4, by decide, rfl⟩
theorem st_105 : isStr 105 := ⟨5, by decide, rfl⟩
theorem st_106 : isStr 106 := ⟨6, by decide, rfl⟩
section SST
variable {M : MW} {E : XC} {own : String} {cc : ByteArray} {nL pc : Nat} {rm : Room} {lv : List (Nat × Value)} {st : List Value} {σ : StA}
theorem s_ldcS (O : OK M E RX3 cc nL rm) {i index : Nat} (hi : i < 7) (hx : index = 110 + 2 * i) (d : decode cc pc = .ok (.ldc index, 2)) (kk : WS M E nL (pc + 2) lv (rf E (100 + i) :: st) σ) : WS M E nL pc lv st σ := by
  subst hx
  obtain ⟨⟨p, l, e, R, s, m, args, below, meth, c, Q⟩, ⟨D, ph, ids, A⟩⟩ := E
  exact fun H locs ls hP hS hl => va_ldcS O.1 O.2.1 O.2.2.2.1 (O.2.2.2.2.2.2.2.2.1.2.1.2 i hi) d (kk H locs ls hP hS hl)
theorem s_sval (O : OK M E own cc nL rm) {k index : Nat} (hk : isStr k) (hw : Cond.fieldLink own index "java/lang/String" "value" "[B" ∈ TBg) (d : decode cc pc = .ok (.getfield index, 3)) (kk : WS M E nL (pc + 3) lv (rf E (k + 100) :: st) σ) : WS M E nL pc lv (rf E k :: st) σ := by
  obtain ⟨i, hi, rfl⟩ := hk
  obtain ⟨⟨p, l, e, R, s, m, args, below, meth, c, Q⟩, ⟨D, ph, ids, A⟩⟩ := E
  have e : 100 + i + 100 = 200 + i := by omega
  rw [e] at kk
  exact fun H locs ls hP hS hl => vk_getf O.1 O.2.1 (O.2.2.2.2.2.2.2.2.1.2.1.1.1 i hi).2.2.1 hS O.2.2.2.1 (O.2.2.2.2.1 _ hw) (fun _ h9 => h9) d (kk H locs ls hP hS hl)
theorem s_scod (O : OK M E own cc nL rm) {k index : Nat} (hk : isStr k) (hw : Cond.fieldLink own index "java/lang/String" "coder" "B" ∈ TBg) (d : decode cc pc = .ok (.getfield index, 3)) (kk : WS M E nL (pc + 3) lv (.int 0 :: st) σ) : WS M E nL pc lv (rf E k :: st) σ := by
  obtain ⟨i, hi, rfl⟩ := hk
  obtain ⟨⟨p, l, e, R, s, m, args, below, meth, c, Q⟩, ⟨D, ph, ids, A⟩⟩ := E
  exact fun H locs ls hP hS hl => vk_getf O.1 O.2.1 (O.2.2.2.2.2.2.2.2.1.2.1.1.1 i hi).2.1 hS O.2.2.2.1 (O.2.2.2.2.1 _ hw) (fun _ h9 => h9) d (kk H locs ls hP hS hl)
theorem s_scmp (O : OK M E own cc nL rm) {index : Nat} (hw : Cond.fieldLink own index "java/lang/String" "COMPACT_STRINGS" "Z" ∈ TBg) (d : decode cc pc = .ok (.getstatic index, 3)) (kk : WS M E nL (pc + 3) lv (.int 1 :: st) σ) : WS M E nL pc lv st σ := by
  obtain ⟨⟨p, l, e, R, s, m, args, below, meth, c, Q⟩, ⟨D, ph, ids, A⟩⟩ := E
  exact fun H locs ls hP hS hl => va_gets O.1 O.2.1 O.2.2.2.2.2.2.2.2.1.2.2.1 hS O.2.2.2.1 (O.2.2.2.2.1 _ hw) (fun _ h9 => h9) d (kk H locs ls hP hS hl)
theorem s_sfor (O : OK M E own cc nL rm) {index : Nat} (hw : Cond.fieldLink own index "jdk/internal/util/Preconditions" "SIOOBE_FORMATTER" "Ljava/util/function/BiFunction;" ∈ TBg) (d : decode cc pc = .ok (.getstatic index, 3)) (kk : ∀ v : Value, (v = .null ∨ ∃ t, v = .ref t) → WS M E nL (pc + 3) lv (v :: st) σ) : WS M E nL pc lv st σ := by
  obtain ⟨⟨p, l, e, R, s, m, args, below, meth, c, Q⟩, ⟨D, ph, ids, A⟩⟩ := E
  intro H locs ls hP hS hl
  rcases O.2.2.2.2.2.2.2.2.1.2.2.2 with h | ⟨t, h⟩
  · exact va_gets O.1 O.2.1 h hS O.2.2.2.1 (O.2.2.2.2.1 _ hw) (fun _ h9 => h9) d (kk .null (Or.inl rfl) H locs ls hP hS hl)
  · exact va_gets O.1 O.2.1 h hS O.2.2.2.1 (O.2.2.2.2.1 _ hw) (fun _ h9 => h9) d (kk (.ref t) (Or.inr ⟨t, rfl⟩) H locs ls hP hS hl)
theorem s_tlen (O : OK M E own cc nL rm) {k : Nat} (hk : isStr k) (d : decode cc pc = .ok (.arraylength, 1)) (kk : WS M E nL (pc + 1) lv (.int (Int32.ofNat (js_n k)) :: st) σ) : WS M E nL pc lv (rf E (k + 100) :: st) σ := by
  obtain ⟨i, hi, rfl⟩ := hk
  obtain ⟨⟨p, l, e, R, s, m, args, below, meth, c, Q⟩, ⟨D, ph, ids, A⟩⟩ := E
  have e : 100 + i + 100 = 200 + i := by omega
  rw [e]
  have e2 : js_n (100 + i) = js_len.getD i 0 := by unfold js_n; rw [Nat.add_sub_cancel_left]
  rw [e2] at kk
  exact fun H locs ls hP hS hl => va_tlen O.1 O.2.1 (O.2.2.2.2.2.2.2.2.1.2.1.1.1 i hi).2.2.2 hS rfl d (kk H locs ls hP hS hl)
theorem s_tbyt (O : OK M E own cc nL rm) {k : Nat} {i : Int32} (hk : isStr k) (hin : vp_in i (js_n k)) (d : decode cc pc = .ok (.baload, 1)) (kk : WS M E nL (pc + 1) lv (.int (js_b k i.toNatClampNeg) :: st) σ) : WS M E nL pc lv (.int i :: rf E (k + 100) :: st) σ := by
  obtain ⟨j, hj, rfl⟩ := hk
  obtain ⟨⟨p, l, e, R, s, m, args, below, meth, c, Q⟩, ⟨D, ph, ids, A⟩⟩ := E
  have e : 100 + j + 100 = 200 + j := by omega
  rw [e]
  have e2 : js_n (100 + j) = js_len.getD j 0 := by unfold js_n; rw [Nat.add_sub_cancel_left]
  have e3 : js_b (100 + j) i.toNatClampNeg = (js_byt.getD j []).getD i.toNatClampNeg 0 := by unfold js_b; rw [Nat.add_sub_cancel_left]
  rw [e2] at hin
  rw [e3] at kk
  exact fun H locs ls hP hS hl => va_tb O.1 O.2.1 (O.2.2.2.2.2.2.2.2.1.2.1.1.1 j hj).2.2.2 hS hin rfl d (kk H locs ls hP hS hl)
theorem s_i2c (O : OK M E own cc nL rm) {x v : Int32} (hv : (x.toUInt32 % 65536).toInt32 = v) (d : decode cc pc = .ok (.i2c, 1)) (kk : WS M E nL (pc + 1) lv (.int v :: st) σ) : WS M E nL pc lv (.int x :: st) σ := by
  obtain ⟨⟨p, l, e, R, s, m, args, below, meth, c, Q⟩, ⟨D, ph, ids, A⟩⟩ := E
  exact fun H locs ls hP hS hl => lv_i2c O.1 O.2.1 d hv (kk H locs ls hP hS hl)
theorem s_any_n (O : OK M E own cc nL rm) {k9 : Fin 4} {i : Nat} {v : Value} (hv : v = .null ∨ ∃ t, v = .ref t) (q : Nat) (d : decode cc pc = .ok (.aload_n k9, 1)) (hi : (k9 : Nat) = i) (hq : lv[q]? = some (i, v)) (k : WS M E nL (pc + 1) lv (v :: st) σ) : WS M E nL pc lv st σ := by
  obtain ⟨⟨p, l, e, R, s, m, args, below, meth, c, Q⟩, ⟨D, ph, ids, A⟩⟩ := E
  intro H locs ls hP hS hl
  rcases hv with rfl | ⟨t, rfl⟩
  · exact lv_aload_nN O.1 O.2.1 d hi (lv_at hl q hq) (k H locs ls hP hS hl)
  · exact lv_aload_n O.1 O.2.1 d hi (lv_at hl q hq) (k H locs ls hP hS hl)
theorem s_WI (O : OK M E own cc nL rm) {y : MethodName} {cc' : ByteArray} {nL' index n : Nat} {rm' : Room} {av : (Nat → Nat) → List Value} {σ' : StA} {As st0 : List Value} {r : Int32} {rt : FieldType} {k : Nat} (hk : isStr k) (hcls : y.cls = "java/lang/String") (L : LkV own index y cc' nL' (some rt) n) (hC : CtI M y cc' nL' rt rm' av σ σ' r) (hav : av E.2.2.1 = rf E k :: As) (hn : As.length = n) (hz : rm'.cells = 0 ∧ rm'.slots = 0) (hR : rm'.frames + 1 ≤ rm.frames ∧ 8 + (nL' + 11) + rm'.locals ≤ rm.locals) (hst : st0 = As.reverse ++ rf E k :: st) (hw : (st.map fun v => v.category).sum ≤ 8) (d : decode cc pc = .ok (.invokevirtual index, 3)) (kk : WS M E nL (pc + 3) lv (.int r :: st) σ') : WS M E nL pc lv st0 σ := by
  obtain ⟨i, hi, rfl⟩ := hk
  obtain ⟨⟨p, l, e, R, s, m, args, below, meth, c, Q⟩, ⟨D, ph, ids, A⟩⟩ := E
  intro H locs ls hP hS hl
  have hG : GoodIn TBg (TBy y cc' nL' (some rt)) := by
    intro w hw9
    have hw' : w ∈ TBg := by
      rcases List.mem_cons.mp hw9 with e | e
      · rw [e]; exact L.1
      · exact e
    exact ⟨hw', good_of_word (List.mem_filter.mp hw').2⟩
  have hRR : R = rm := O.2.2.2.2.2.2.2.2.2
  subst hRR
  have hX := O.2.2.2.2.2.2.2.2.1
  have hA1 := ca_A (O.2.2.2.2.2.2.1 σ) O.2.2.2.2.2.2.2.1 hS
  have hav' : av ph = .ref (ph (100 + i)) :: As := hav
  have hpre : ∀ U : State, U.heap = H → s.WarmedH U.vm → va_Pc (av ph) (pr_W M D ph ids H.size σ) (Value.ref (ph (100 + i)) :: As).toArray U := fun U hU hW => ⟨by rw [hav'], by rw [hU], by rw [hU]; exact hP, va_K.moved hW.alike O.2.2.2.2.2.1, (O.2.2.2.2.2.2.1 σ).weaken (fun _ _ _ _ => trivial), by rw [hU]; exact (hX.kept hS.2.1 hA1).warm hW⟩
  have hrc : ∃ cell : Cell, H[ph (100 + i)]? = some cell ∧ cell.vm.isStatics = false ∧ s.vm.findClass y.cls = some cell.cls := by
    rw [hcls]
    exact vk_recv (i := i) (adK := fun i => ph (100 + i)) hX.2.1.1 hi hS
  refine va_calli (va_runV (As := As) (rest := st) ⟨O.1, O.2.1, O.2.2.1, O.2.2.2.1, O.2.2.2.2.1⟩ (hC l D ph ids H.size) ⟨callB_of n O.2.2.2.2.1 hG rfl hz.1 hz.2 (O.2.2.2.2.1 _ L.2.2.2.2.1) (O.2.2.2.2.1 _ L.2.1) L.2.2.2.2.2 hR, O.2.2.2.2.1 _ L.2.2.1, O.2.2.2.2.1 _ L.2.2.2.1⟩ ⟨pr_W.blind, hrc, hpre⟩ rfl hn hl.1 hst (lv_room hw) d ⟨Nat.zero_le _, Nat.zero_le _⟩) hS (fun q _ h => hA1 q h) hA1 (fun r' u t H1 locs1 ht hvm hw' hB hz1 hk1 hS1 => ?_)
  subst hw'
  have hB : va_P D vwCl (wld M ph ids σ') t.heap := hB
  rw [ht] at hB
  exact kk H1 locs1 ls hB hS1 hl
end SST
theorem lk_RX3_124 : LkV RX3 124 yJ0_length_8abf5 cJ0_length_8abf5 1 (some .int) 0 := ⟨tb_in (List.mem_of_getElem? (i := 366) (by decide +kernel)) (by decide +kernel), tb_in (List.mem_of_getElem? (i := 363) (by decide +kernel)) (by decide +kernel), tb_in (List.mem_of_getElem? (i := 364) (by decide +kernel)) (by decide +kernel), tb_in (List.mem_of_getElem? (i := 365) (by decide +kernel)) (by decide +kernel), tb_in (List.mem_of_getElem? (i := 71) (by decide +kernel)) (by decide +kernel), by decide +kernel, by decide +kernel, by decide +kernel⟩
theorem lk_RX3_128 : LkV RX3 128 yJ0_charAt_5068e cJ0_charAt_5068e 2 (some .char) 1 := ⟨tb_in (List.mem_of_getElem? (i := 376) (by decide +kernel)) (by decide +kernel), tb_in (List.mem_of_getElem? (i := 373) (by decide +kernel)) (by decide +kernel), tb_in (List.mem_of_getElem? (i := 374) (by decide +kernel)) (by decide +kernel), tb_in (List.mem_of_getElem? (i := 375) (by decide +kernel)) (by decide +kernel), tb_in (List.mem_of_getElem? (i := 71) (by decide +kernel)) (by decide +kernel), by decide +kernel, by decide +kernel, by decide +kernel⟩
theorem lk_RJ0_335 : LkV RJ0 335 yJ0_coder_7d493 cJ0_coder_7d493 1 (some .byte) 0 := ⟨tb_in (List.mem_of_getElem? (i := 370) (by decide +kernel)) (by decide +kernel), tb_in (List.mem_of_getElem? (i := 367) (by decide +kernel)) (by decide +kernel), tb_in (List.mem_of_getElem? (i := 368) (by decide +kernel)) (by decide +kernel), tb_in (List.mem_of_getElem? (i := 369) (by decide +kernel)) (by decide +kernel), tb_in (List.mem_of_getElem? (i := 71) (by decide +kernel)) (by decide +kernel), by decide +kernel, by decide +kernel, by decide +kernel⟩
theorem lk_RJ0_492 : LkV RJ0 492 yJ0_isLatin1_aae02 cJ0_isLatin1_aae02 1 (some .boolean) 0 := ⟨tb_in (List.mem_of_getElem? (i := 380) (by decide +kernel)) (by decide +kernel), tb_in (List.mem_of_getElem? (i := 377) (by decide +kernel)) (by decide +kernel), tb_in (List.mem_of_getElem? (i := 378) (by decide +kernel)) (by decide +kernel), tb_in (List.mem_of_getElem? (i := 379) (by decide +kernel)) (by decide +kernel), tb_in (List.mem_of_getElem? (i := 71) (by decide +kernel)) (by decide +kernel), by decide +kernel, by decide +kernel, by decide +kernel⟩
theorem lk_RJ0_495 : LkS RJ0 495 yJ1_charAt_3b067 cJ1_charAt_3b067 2 (some .char) 2 := ⟨tb_in (List.mem_of_getElem? (i := 383) (by decide +kernel)) (by decide +kernel), tb_in (List.mem_of_getElem? (i := 381) (by decide +kernel)) (by decide +kernel), tb_in (List.mem_of_getElem? (i := 382) (by decide +kernel)) (by decide +kernel), tb_in (List.mem_of_getElem? (i := 72) (by decide +kernel)) (by decide +kernel), by decide +kernel, by decide +kernel, by decide +kernel⟩
theorem lk_RJ1_9 : LkS RJ1 9 yJ0_checkIndex_df160 cJ0_checkIndex_df160 2 none 2 := ⟨tb_in (List.mem_of_getElem? (i := 386) (by decide +kernel)) (by decide +kernel), tb_in (List.mem_of_getElem? (i := 384) (by decide +kernel)) (by decide +kernel), tb_in (List.mem_of_getElem? (i := 385) (by decide +kernel)) (by decide +kernel), tb_in (List.mem_of_getElem? (i := 71) (by decide +kernel)) (by decide +kernel), by decide +kernel, by decide +kernel, by decide +kernel⟩
theorem lk_RJ0_1059 : LkS RJ0 1059 yJ3_checkIndex_8e157 cJ3_checkIndex_8e157 3 (some .int) 3 := ⟨tb_in (List.mem_of_getElem? (i := 391) (by decide +kernel)) (by decide +kernel), tb_in (List.mem_of_getElem? (i := 389) (by decide +kernel)) (by decide +kernel), tb_in (List.mem_of_getElem? (i := 390) (by decide +kernel)) (by decide +kernel), tb_in (List.mem_of_getElem? (i := 73) (by decide +kernel)) (by decide +kernel), by decide +kernel, by decide +kernel, by decide +kernel⟩
theorem fs_9 : Cond.fieldLink RJ0 9 "java/lang/String" "value" "[B" ∈ TBg := tb_in (List.mem_of_getElem? (i := 1300) (by decide +kernel)) (by decide +kernel)
theorem fs_15 : Cond.fieldLink RJ0 15 "java/lang/String" "coder" "B" ∈ TBg := tb_in (List.mem_of_getElem? (i := 1301) (by decide +kernel)) (by decide +kernel)
theorem fs_38 : Cond.fieldLink RJ0 38 "java/lang/String" "COMPACT_STRINGS" "Z" ∈ TBg := tb_in (List.mem_of_getElem? (i := 371) (by decide +kernel)) (by decide +kernel)
theorem fs_1053 : Cond.fieldLink RJ0 1053 "jdk/internal/util/Preconditions" "SIOOBE_FORMATTER" "Ljava/util/function/BiFunction;" ∈ TBg := tb_in (List.mem_of_getElem? (i := 387) (by decide +kernel)) (by decide +kernel)
def rm_J0 : Room := { frames := 0, cells := 0, slots := 0, locals := 0 }
def rm_J1 : Room := { frames := 1, cells := 0, slots := 0, locals := 22 }
def rm_J2 : Room := { frames := 2, cells := 0, slots := 0, locals := 43 }
def rm_J3 : Room := { frames := 3, cells := 0, slots := 0, locals := 64 }
set_option maxHeartbeats 4000000 in
set_option maxRecDepth 100000 in
theorem k_coder {M : MW} {k : Nat} (hk : isStr k) (s0 : StA) : CtI M yJ0_coder_7d493 cJ0_coder_7d493 1 .byte rm_J0 (fun ph => [.ref (ph k)]) s0 s0 0 := by
  refine CtI.of (by decide +kernel) (fun ph => Nat.le_of_ble_eq_true rfl) (fun E O hret => ?_)
  have O : OK M E RJ0 cJ0_coder_7d493 1 rm_J0 := O
  show WS M E 1 0 [(0, rf E k)] [] s0
  refine s_scmp O fs_38 dJ0_coder_7d493_0 ?_
  refine s_if_eq (tgt := 13) O dJ0_coder_7d493_3 (by decide) (fun c => absurd c (by decide)) (fun c => ?_)
  refine s_aload_n O 0 dJ0_coder_7d493_6 rfl rfl ?_
  refine s_scod O hk fs_15 dJ0_coder_7d493_7 ?_
  refine s_goto (tgt := 14) O dJ0_coder_7d493_10 (by decide) ?_
  exact s_iret hret rfl dJ0_coder_7d493_14 rfl
set_option maxHeartbeats 4000000 in
set_option maxRecDepth 100000 in
theorem k_isLatin1 {M : MW} {k : Nat} (hk : isStr k) (s0 : StA) : CtI M yJ0_isLatin1_aae02 cJ0_isLatin1_aae02 1 .boolean rm_J0 (fun ph => [.ref (ph k)]) s0 s0 1 := by
  refine CtI.of (by decide +kernel) (fun ph => Nat.le_of_ble_eq_true rfl) (fun E O hret => ?_)
  have O : OK M E RJ0 cJ0_isLatin1_aae02 1 rm_J0 := O
  show WS M E 1 0 [(0, rf E k)] [] s0
  refine s_scmp O fs_38 dJ0_isLatin1_aae02_0 ?_
  refine s_if_eq (tgt := 17) O dJ0_isLatin1_aae02_3 (by decide) (fun c => absurd c (by decide)) (fun c => ?_)
  refine s_aload_n O 0 dJ0_isLatin1_aae02_6 rfl rfl ?_
  refine s_scod O hk fs_15 dJ0_isLatin1_aae02_7 ?_
  refine s_if_ne (tgt := 17) O dJ0_isLatin1_aae02_10 (by decide) (fun c => absurd rfl c) (fun c => ?_)
  refine s_iconst (v := 1) O dJ0_isLatin1_aae02_13 rfl ?_
  refine s_goto (tgt := 18) O dJ0_isLatin1_aae02_14 (by decide) ?_
  exact s_iret hret rfl dJ0_isLatin1_aae02_18 rfl
set_option maxHeartbeats 4000000 in
set_option maxRecDepth 100000 in
theorem k_strlen {M : MW} {k : Nat} (hk : isStr k) (s0 : StA) : CtI M yJ0_length_8abf5 cJ0_length_8abf5 1 .int rm_J1 (fun ph => [.ref (ph k)]) s0 s0 (Int32.ofNat (js_n k)) := by
  refine CtI.of (by decide +kernel) (fun ph => Nat.le_of_ble_eq_true rfl) (fun E O hret => ?_)
  have O : OK M E RJ0 cJ0_length_8abf5 1 rm_J1 := O
  show WS M E 1 0 [(0, rf E k)] [] s0
  refine s_aload_n O 0 dJ0_length_8abf5_0 rfl rfl ?_
  refine s_sval O hk fs_9 dJ0_length_8abf5_1 ?_
  refine s_tlen O hk dJ0_length_8abf5_4 ?_
  refine s_aload_n O 0 dJ0_length_8abf5_5 rfl rfl ?_
  refine s_WI (As := []) (st := [.int (Int32.ofNat (js_n k))]) O hk rfl lk_RJ0_335 (k_coder hk s0) rfl rfl ⟨rfl, rfl⟩ ⟨Nat.le_of_ble_eq_true rfl, Nat.le_of_ble_eq_true rfl⟩ rfl (Nat.le_of_ble_eq_true rfl) dJ0_length_8abf5_6 ?_
  refine s_ishr O dJ0_length_8abf5_9 ?_
  rw [sb_shr0]
  exact s_iret hret rfl dJ0_length_8abf5_10 rfl
set_option maxHeartbeats 4000000 in
set_option maxRecDepth 100000 in
theorem k_pchk {M : MW} {a n : Int32} {v : Value} (hv : v = .null ∨ ∃ t, v = .ref t) (h0 : ¬ a < 0) (h1 : a < n) (s0 : StA) : CtI M yJ3_checkIndex_8e157 cJ3_checkIndex_8e157 3 .int rm_J0 (fun ph => [.int a, .int n, v]) s0 s0 a := by
  refine CtI.of (by decide +kernel) (fun ph => by rcases hv with rfl | ⟨t, rfl⟩ <;> exact Nat.le_of_ble_eq_true rfl) (fun E O hret => ?_)
  have O : OK M E RJ3 cJ3_checkIndex_8e157 3 rm_J0 := O
  have e : lv_args 0 [Value.int a, Value.int n, v] = [(0, .int a), (1, .int n), (2, v)] := by rcases hv with rfl | ⟨t, rfl⟩ <;> rfl
  rw [e]
  refine s_iload_n O 0 dJ3_checkIndex_8e157_0 rfl rfl ?_
  refine s_if_lt (tgt := 9) O dJ3_checkIndex_8e157_1 (by decide) (fun c => absurd c h0) (fun c => ?_)
  refine s_iload_n O 0 dJ3_checkIndex_8e157_4 rfl rfl ?_
  refine s_iload_n O 1 dJ3_checkIndex_8e157_5 rfl rfl ?_
  refine s_icmp_lt (tgt := 16) O dJ3_checkIndex_8e157_6 (by decide) (fun c => ?_) (fun c => absurd h1 c)
  refine s_iload_n O 0 dJ3_checkIndex_8e157_16 rfl rfl ?_
  exact s_iret hret rfl dJ3_checkIndex_8e157_17 rfl
set_option maxHeartbeats 4000000 in
set_option maxRecDepth 100000 in
theorem k_schk {M : MW} {a n : Int32} (h0 : ¬ a < 0) (h1 : a < n) (s0 : StA) : CtV M yJ0_checkIndex_df160 cJ0_checkIndex_df160 2 rm_J1 (fun ph => [.int a, .int n]) s0 s0 := by
  refine CtV.of (by decide +kernel) (fun ph => Nat.le_of_ble_eq_true rfl) (fun E O hret => ?_)
  have O : OK M E RJ0 cJ0_checkIndex_df160 2 rm_J1 := O
  show WS M E 2 0 [(0, .int a), (1, .int n)] [] s0
  refine s_iload_n O 0 dJ0_checkIndex_df160_0 rfl rfl ?_
  refine s_iload_n O 1 dJ0_checkIndex_df160_1 rfl rfl ?_
  refine s_sfor O fs_1053 dJ0_checkIndex_df160_2 (fun v hv => ?_)
  refine s_SI (As := [.int a, .int n, v]) (st := []) O lk_RJ0_1059 (k_pchk hv h0 h1 s0) rfl rfl ⟨rfl, rfl⟩ ⟨Nat.le_of_ble_eq_true rfl, Nat.le_of_ble_eq_true rfl⟩ rfl (Nat.le_of_ble_eq_true rfl) dJ0_checkIndex_df160_5 ?_
  refine s_pop O dJ0_checkIndex_df160_8 rfl ?_
  exact s_vret hret dJ0_checkIndex_df160_9 (u := ()) rfl
theorem js_chr : ∀ b : Int32, ((b &&& 255).toUInt32 % 65536).toInt32 = b &&& 255 := sc_c2
set_option maxHeartbeats 4000000 in
set_option maxRecDepth 100000 in
theorem k_lchr {M : MW} {k : Nat} {a : Int32} (hk : isStr k) (ha : vp_in a (js_n k)) (s0 : StA) : CtI M yJ1_charAt_3b067 cJ1_charAt_3b067 2 .char rm_J2 (fun ph => [.ref (ph (k + 100)), .int a]) s0 s0 (js_c k a.toNatClampNeg) := by
  refine CtI.of (by decide +kernel) (fun ph => Nat.le_of_ble_eq_true rfl) (fun E O hret => ?_)
  have O : OK M E RJ1 cJ1_charAt_3b067 2 rm_J2 := O
  show WS M E 2 0 [(0, rf E (k + 100)), (1, .int a)] [] s0
  have hn : js_n k < 100 := by
    obtain ⟨i, hi, rfl⟩ := hk
    rcases (show i = 0 ∨ i = 1 ∨ i = 2 ∨ i = 3 ∨ i = 4 ∨ i = 5 ∨ i = 6 by omega) with rfl | rfl | rfl | rfl | rfl | rfl | rfl <;> decide
  have h2 := vp_in_iff.mp ha
  have h0 : ¬ a < 0 := fun q => ha (Or.inl q)
  have h1 : a < Int32.ofNat (js_n k) := by
    rw [Int32.lt_iff_toInt_lt, show (Int32.ofNat (js_n k)).toInt = (js_n k : Int) from nI_toInt (by omega)]
    exact h2.2
  refine s_iload_n O 1 dJ1_charAt_3b067_0 rfl rfl ?_
  refine s_aload_n O 0 dJ1_charAt_3b067_1 rfl rfl ?_
  refine s_tlen O hk dJ1_charAt_3b067_2 ?_
  refine s_SV (As := [.int a, .int (Int32.ofNat (js_n k))]) (st := []) O lk_RJ1_9 (k_schk h0 h1 s0) rfl rfl ⟨rfl, rfl⟩ ⟨Nat.le_of_ble_eq_true rfl, Nat.le_of_ble_eq_true rfl⟩ rfl (Nat.le_of_ble_eq_true rfl) dJ1_charAt_3b067_3 ?_
  refine s_aload_n O 0 dJ1_charAt_3b067_6 rfl rfl ?_
  refine s_iload_n O 1 dJ1_charAt_3b067_7 rfl rfl ?_
  refine s_tbyt O hk ha dJ1_charAt_3b067_8 ?_
  refine s_sipush (v := 255) O dJ1_charAt_3b067_9 rfl ?_
  refine s_iand O dJ1_charAt_3b067_12 ?_
  refine s_i2c O (js_chr _) dJ1_charAt_3b067_13 ?_
  exact s_iret hret (sc_nar _) dJ1_charAt_3b067_14 rfl
set_option maxHeartbeats 4000000 in
set_option maxRecDepth 100000 in
theorem k_schr {M : MW} {k : Nat} {a : Int32} (hk : isStr k) (ha : vp_in a (js_n k)) (s0 : StA) : CtI M yJ0_charAt_5068e cJ0_charAt_5068e 2 .char rm_J3 (fun ph => [.ref (ph k), .int a]) s0 s0 (js_c k a.toNatClampNeg) := by
  refine CtI.of (by decide +kernel) (fun ph => Nat.le_of_ble_eq_true rfl) (fun E O hret => ?_)
  have O : OK M E RJ0 cJ0_charAt_5068e 2 rm_J3 := O
  show WS M E 2 0 [(0, rf E k), (1, .int a)] [] s0
  refine s_aload_n O 0 dJ0_charAt_5068e_0 rfl rfl ?_
  refine s_WI (As := []) (st := []) O hk rfl lk_RJ0_492 (k_isLatin1 hk s0) rfl rfl ⟨rfl, rfl⟩ ⟨Nat.le_of_ble_eq_true rfl, Nat.le_of_ble_eq_true rfl⟩ rfl (Nat.le_of_ble_eq_true rfl) dJ0_charAt_5068e_1 ?_
  refine s_if_eq (tgt := 16) O dJ0_charAt_5068e_4 (by decide) (fun c => absurd c (by decide)) (fun c => ?_)
  refine s_aload_n O 0 dJ0_charAt_5068e_7 rfl rfl ?_
  refine s_sval O hk fs_9 dJ0_charAt_5068e_8 ?_
  refine s_iload_n O 1 dJ0_charAt_5068e_11 rfl rfl ?_
  refine s_SI (As := [rf E (k + 100), .int a]) (st := []) O lk_RJ0_495 (k_lchr hk ha s0) rfl rfl ⟨rfl, rfl⟩ ⟨Nat.le_of_ble_eq_true rfl, Nat.le_of_ble_eq_true rfl⟩ rfl (Nat.le_of_ble_eq_true rfl) dJ0_charAt_5068e_12 ?_
  exact s_iret hret (sc_nar _) dJ0_charAt_5068e_15 rfl
