def rm_X6_end : Room := { frames := 1, cells := 0, slots := 0, locals := 25 }
def f_X6_end (a1 : Int32) (s0 : StA) : Option (StA × Int32) :=
  bn (f_X6_in a1.toInt64 0 (gi s0 0 10).toInt64 s0) (fun s1 r2 => (if r2 = 0 then some (s1, (-1)) else nmi (gi s1 0 10) (fun n4 => nms (si s1 0 10 a1) (fun s5 => some (s5, n4)))))
set_option maxHeartbeats 4000000 in
set_option maxRecDepth 100000 in
theorem k_X6_end {a1 : Int32} {s0 zs : StA} {rr : Int32} (hf : f_X6_end a1 s0 = some (zs, rr)) : CtI mM yX6_end cX6_end 3 .int rm_X6_end (fun ph => [.ref (ph 0), .int a1]) s0 zs rr := by
  refine CtI.of (by decide +kernel) (fun ph => Nat.le_of_ble_eq_true rfl) (fun E O hret => ?_)
  have O : OK mM E RX6 cX6_end 3 rm_X6_end := O
  show WS mM E 3 0 [(0, rf E 0), (1, .int a1)] [] s0
  unfold f_X6_end at hf
  refine s_iload_n O 1 dX6_end_0 rfl rfl ?_
  refine s_i2l O dX6_end_1 ?_
  refine s_lconst (v := 0) O dX6_end_2 rfl ?_
  refine s_aload_n O 0 dX6_end_3 rfl rfl ?_
  refine s_getI O fg_RX6_73 ms_0 rfl dX6_end_4 ?_
  refine s_i2l O dX6_end_7 ?_
  obtain ⟨s1, r2, c3, hf⟩ := bn_e hf
  refine s_SI (As := [.long a1.toInt64, .long 0, .long (gi s0 0 10).toInt64]) (st := []) O lk_RX6_69 (k_X6_in c3) rfl rfl ⟨rfl, rfl⟩ ⟨Nat.le_of_ble_eq_true rfl, Nat.le_of_ble_eq_true rfl⟩ rfl (Nat.le_of_ble_eq_true rfl) dX6_end_8 ?_
  refine s_if_ne (tgt := 16) O dX6_end_11 (by decide) (fun c => ?_) (fun c => ?_)
  · replace hf := if_f c hf
    refine s_aload_n O 0 dX6_end_16 rfl rfl ?_
    refine s_getI O fg_RX6_73 ms_0 rfl dX6_end_17 ?_
    refine s_topi (fun n4 en4 => ?_)
    replace hf := nmi_e en4 hf
    refine s_istore_n (lv' := [(2, .int n4), (0, rf E 0), (1, .int a1)]) O dX6_end_20 rfl (by decide) rfl ?_
    refine s_aload_n O 1 dX6_end_21 rfl rfl ?_
    refine s_iload_n O 2 dX6_end_22 rfl rfl ?_
    refine s_putI O fp_RX6_73 ms_0 rfl dX6_end_23 ?_
    refine s_tops (fun s5 es5 => ?_)
    replace hf := nms_e es5 hf
    refine s_iload_n O 0 dX6_end_26 rfl rfl ?_
    exact s_iret hret rfl dX6_end_27 hf
  · replace hf := if_t c hf
    refine s_iconst (v := (-1)) O dX6_end_14 rfl ?_
    exact s_iret hret rfl dX6_end_15 hf
def rm_X6_byteAt : Room := { frames := 0, cells := 0, slots := 0, locals := 0 }
def f_X6_byteAt (a1 : Int32) (s0 : StA) : Option (StA × Int32) :=
  (if (gi s0 0 10) ≤ a1 then some (s0, (-1)) else gd a1 160 (some (s0, (gi s0 5 a1.toNatClampNeg))))
set_option maxHeartbeats 4000000 in
set_option maxRecDepth 100000 in
theorem k_X6_byteAt {a1 : Int32} {s0 zs : StA} {rr : Int32} (hf : f_X6_byteAt a1 s0 = some (zs, rr)) : CtI mM yX6_byteAt cX6_byteAt 2 .int rm_X6_byteAt (fun ph => [.ref (ph 0), .int a1]) s0 zs rr := by
  refine CtI.of (by decide +kernel) (fun ph => Nat.le_of_ble_eq_true rfl) (fun E O hret => ?_)
  have O : OK mM E RX6 cX6_byteAt 2 rm_X6_byteAt := O
  show WS mM E 2 0 [(0, rf E 0), (1, .int a1)] [] s0
  unfold f_X6_byteAt at hf
  refine s_iload_n O 1 dX6_byteAt_0 rfl rfl ?_
  refine s_aload_n O 0 dX6_byteAt_1 rfl rfl ?_
  refine s_getI O fg_RX6_73 ms_0 rfl dX6_byteAt_2 ?_
  refine s_icmp_ge (tgt := 17) O dX6_byteAt_5 (by decide) (fun c => ?_) (fun c => ?_)
  · replace hf := if_t c hf
    refine s_iconst (v := (-1)) O dX6_byteAt_17 rfl ?_
    exact s_iret hret rfl dX6_byteAt_18 hf
  · replace hf := if_f c hf
    refine s_aload_n O 0 dX6_byteAt_8 rfl rfl ?_
    refine s_getR O fg_RX6_23 ms_0 rfl dX6_byteAt_9 ?_
    refine s_iload_n O 1 dX6_byteAt_12 rfl rfl ?_
    obtain ⟨h1, hf⟩ := gd_e hf
    refine s_iald O ms_5 h1 dX6_byteAt_13 ?_
    refine s_goto (tgt := 18) O dX6_byteAt_14 (by decide) ?_
    exact s_iret hret rfl dX6_byteAt_18 hf
def rm_X6_ends : Room := { frames := 1, cells := 0, slots := 0, locals := 21 }
def f_X6_ends (a1 : Int32) (a2 : Int32) (s0 : StA) : Option (StA × Int32) :=
  bn (f_X6_byteAt ((gi s0 0 12) + 4) s0) (fun s1 r2 => (if r2 = a1 then (if a2 = 0 then some (s1, 1) else bn (f_X6_byteAt ((gi s1 0 12) + 5) s1) (fun s4 r5 => (if r5 = a2 then some (s4, 1) else some (s4, 0)))) else some (s1, 0)))
set_option maxHeartbeats 4000000 in
set_option maxRecDepth 100000 in
theorem k_X6_ends {a1 : Int32} {a2 : Int32} {s0 zs : StA} {rr : Int32} (hf : f_X6_ends a1 a2 s0 = some (zs, rr)) : CtI mM yX6_ends cX6_ends 3 .boolean rm_X6_ends (fun ph => [.ref (ph 0), .int a1, .int a2]) s0 zs rr := by
  refine CtI.of (by decide +kernel) (fun ph => Nat.le_of_ble_eq_true rfl) (fun E O hret => ?_)
  have O : OK mM E RX6 cX6_ends 3 rm_X6_ends := O
  show WS mM E 3 0 [(0, rf E 0), (1, .int a1), (2, .int a2)] [] s0
  unfold f_X6_ends at hf
  refine s_aload_n O 0 dX6_ends_0 rfl rfl ?_
  refine s_aload_n O 0 dX6_ends_1 rfl rfl ?_
  refine s_getI O fg_RX6_79 ms_0 rfl dX6_ends_2 ?_
  refine s_iconst (v := 4) O dX6_ends_5 rfl ?_
  refine s_iadd O dX6_ends_6 ?_
  obtain ⟨s1, r2, c3, hf⟩ := bn_e hf
  refine s_VI (As := [.int ((gi s0 0 12) + 4)]) (st := []) O lk_RX6_88 (k_X6_byteAt c3) rfl ms_0 rfl rfl ⟨rfl, rfl⟩ ⟨Nat.le_of_ble_eq_true rfl, Nat.le_of_ble_eq_true rfl⟩ rfl (Nat.le_of_ble_eq_true rfl) dX6_ends_7 ?_
  refine s_iload_n O 1 dX6_ends_10 rfl rfl ?_
  refine s_icmp_ne (tgt := 36) O dX6_ends_11 (by decide) (fun c => ?_) (fun c => ?_)
  · replace hf := if_f c hf
    refine s_iconst (v := 0) O dX6_ends_36 rfl ?_
    exact s_iret hret rfl dX6_ends_37 hf
  · replace hf := if_t c hf
    refine s_iload_n O 2 dX6_ends_14 rfl rfl ?_
    refine s_if_eq (tgt := 32) O dX6_ends_15 (by decide) (fun c => ?_) (fun c => ?_)
    · replace hf := if_t c hf
      refine s_iconst (v := 1) O dX6_ends_32 rfl ?_
      refine s_goto (tgt := 37) O dX6_ends_33 (by decide) ?_
      exact s_iret hret rfl dX6_ends_37 hf
    · replace hf := if_f c hf
      refine s_aload_n O 0 dX6_ends_18 rfl rfl ?_
      refine s_aload_n O 0 dX6_ends_19 rfl rfl ?_
      refine s_getI O fg_RX6_79 ms_0 rfl dX6_ends_20 ?_
      refine s_iconst (v := 5) O dX6_ends_23 rfl ?_
      refine s_iadd O dX6_ends_24 ?_
      obtain ⟨s4, r5, c6, hf⟩ := bn_e hf
      refine s_VI (As := [.int ((gi s1 0 12) + 5)]) (st := []) O lk_RX6_88 (k_X6_byteAt c6) rfl ms_0 rfl rfl ⟨rfl, rfl⟩ ⟨Nat.le_of_ble_eq_true rfl, Nat.le_of_ble_eq_true rfl⟩ rfl (Nat.le_of_ble_eq_true rfl) dX6_ends_25 ?_
      refine s_iload_n O 2 dX6_ends_28 rfl rfl ?_
      refine s_icmp_ne (tgt := 36) O dX6_ends_29 (by decide) (fun c => ?_) (fun c => ?_)
      · replace hf := if_f c hf
        refine s_iconst (v := 0) O dX6_ends_36 rfl ?_
        exact s_iret hret rfl dX6_ends_37 hf
      · replace hf := if_t c hf
        refine s_iconst (v := 1) O dX6_ends_32 rfl ?_
        refine s_goto (tgt := 37) O dX6_ends_33 (by decide) ?_
        exact s_iret hret rfl dX6_ends_37 hf
def rm_X6_is : Room := { frames := 1, cells := 0, slots := 0, locals := 21 }
def f_X6_is (a1 : Int32) (a2 : Int32) (a3 : Int32) (a4 : Int32) (a5 : Int32) (s0 : StA) : Option (StA × Int32) :=
  (if ((gi s0 0 11) - (gi s0 0 12)) = a1 then bn (f_X6_byteAt (gi s0 0 12) s0) (fun s1 r2 => (if r2 = a2 then bn (f_X6_byteAt ((gi s1 0 12) + 1) s1) (fun s4 r5 => (if r5 = a3 then bn (f_X6_byteAt ((gi s4 0 12) + 2) s4) (fun s7 r8 => (if r8 = a4 then bn (f_X6_byteAt ((gi s7 0 12) + 3) s7) (fun s10 r11 => (if r11 = a5 then some (s10, 1) else some (s10, 0))) else some (s7, 0))) else some (s4, 0))) else some (s1, 0))) else some (s0, 0))
set_option maxHeartbeats 4000000 in
set_option maxRecDepth 100000 in
theorem k_X6_is {a1 : Int32} {a2 : Int32} {a3 : Int32} {a4 : Int32} {a5 : Int32} {s0 zs : StA} {rr : Int32} (hf : f_X6_is a1 a2 a3 a4 a5 s0 = some (zs, rr)) : CtI mM yX6_is cX6_is 6 .boolean rm_X6_is (fun ph => [.ref (ph 0), .int a1, .int a2, .int a3, .int a4, .int a5]) s0 zs rr := by
  refine CtI.of (by decide +kernel) (fun ph => Nat.le_of_ble_eq_true rfl) (fun E O hret => ?_)
  have O : OK mM E RX6 cX6_is 6 rm_X6_is := O
  show WS mM E 6 0 [(0, rf E 0), (1, .int a1), (2, .int a2), (3, .int a3), (4, .int a4), (5, .int a5)] [] s0
  unfold f_X6_is at hf
  refine s_aload_n O 0 dX6_is_0 rfl rfl ?_
  refine s_getI O fg_RX6_85 ms_0 rfl dX6_is_1 ?_
  refine s_aload_n O 0 dX6_is_4 rfl rfl ?_
  refine s_getI O fg_RX6_79 ms_0 rfl dX6_is_5 ?_
  refine s_isub O dX6_is_8 ?_
  refine s_iload_n O 1 dX6_is_9 rfl rfl ?_
  refine s_icmp_ne (tgt := 73) O dX6_is_10 (by decide) (fun c => ?_) (fun c => ?_)
  · replace hf := if_f c hf
    refine s_iconst (v := 0) O dX6_is_73 rfl ?_
    exact s_iret hret rfl dX6_is_74 hf
  · replace hf := if_t c hf
    refine s_aload_n O 0 dX6_is_13 rfl rfl ?_
    refine s_aload_n O 0 dX6_is_14 rfl rfl ?_
    refine s_getI O fg_RX6_79 ms_0 rfl dX6_is_15 ?_
    obtain ⟨s1, r2, c3, hf⟩ := bn_e hf
    refine s_VI (As := [.int (gi s0 0 12)]) (st := []) O lk_RX6_88 (k_X6_byteAt c3) rfl ms_0 rfl rfl ⟨rfl, rfl⟩ ⟨Nat.le_of_ble_eq_true rfl, Nat.le_of_ble_eq_true rfl⟩ rfl (Nat.le_of_ble_eq_true rfl) dX6_is_18 ?_
    refine s_iload_n O 2 dX6_is_21 rfl rfl ?_
    refine s_icmp_ne (tgt := 73) O dX6_is_22 (by decide) (fun c => ?_) (fun c => ?_)
    · replace hf := if_f c hf
      refine s_iconst (v := 0) O dX6_is_73 rfl ?_
      exact s_iret hret rfl dX6_is_74 hf
    · replace hf := if_t c hf
      refine s_aload_n O 0 dX6_is_25 rfl rfl ?_
      refine s_aload_n O 0 dX6_is_26 rfl rfl ?_
      refine s_getI O fg_RX6_79 ms_0 rfl dX6_is_27 ?_
      refine s_iconst (v := 1) O dX6_is_30 rfl ?_
      refine s_iadd O dX6_is_31 ?_
      obtain ⟨s4, r5, c6, hf⟩ := bn_e hf
      refine s_VI (As := [.int ((gi s1 0 12) + 1)]) (st := []) O lk_RX6_88 (k_X6_byteAt c6) rfl ms_0 rfl rfl ⟨rfl, rfl⟩ ⟨Nat.le_of_ble_eq_true rfl, Nat.le_of_ble_eq_true rfl⟩ rfl (Nat.le_of_ble_eq_true rfl) dX6_is_32 ?_
      refine s_iload_n O 3 dX6_is_35 rfl rfl ?_
      refine s_icmp_ne (tgt := 73) O dX6_is_36 (by decide) (fun c => ?_) (fun c => ?_)
      · replace hf := if_f c hf
        refine s_iconst (v := 0) O dX6_is_73 rfl ?_
        exact s_iret hret rfl dX6_is_74 hf
      · replace hf := if_t c hf
        refine s_aload_n O 0 dX6_is_39 rfl rfl ?_
        refine s_aload_n O 0 dX6_is_40 rfl rfl ?_
        refine s_getI O fg_RX6_79 ms_0 rfl dX6_is_41 ?_
        refine s_iconst (v := 2) O dX6_is_44 rfl ?_
        refine s_iadd O dX6_is_45 ?_
        obtain ⟨s7, r8, c9, hf⟩ := bn_e hf
        refine s_VI (As := [.int ((gi s4 0 12) + 2)]) (st := []) O lk_RX6_88 (k_X6_byteAt c9) rfl ms_0 rfl rfl ⟨rfl, rfl⟩ ⟨Nat.le_of_ble_eq_true rfl, Nat.le_of_ble_eq_true rfl⟩ rfl (Nat.le_of_ble_eq_true rfl) dX6_is_46 ?_
        refine s_iload O 4 dX6_is_49 rfl ?_
        refine s_icmp_ne (tgt := 73) O dX6_is_51 (by decide) (fun c => ?_) (fun c => ?_)
        · replace hf := if_f c hf
          refine s_iconst (v := 0) O dX6_is_73 rfl ?_
          exact s_iret hret rfl dX6_is_74 hf
        · replace hf := if_t c hf
          refine s_aload_n O 0 dX6_is_54 rfl rfl ?_
          refine s_aload_n O 0 dX6_is_55 rfl rfl ?_
          refine s_getI O fg_RX6_79 ms_0 rfl dX6_is_56 ?_
          refine s_iconst (v := 3) O dX6_is_59 rfl ?_
          refine s_iadd O dX6_is_60 ?_
          obtain ⟨s10, r11, c12, hf⟩ := bn_e hf
          refine s_VI (As := [.int ((gi s7 0 12) + 3)]) (st := []) O lk_RX6_88 (k_X6_byteAt c12) rfl ms_0 rfl rfl ⟨rfl, rfl⟩ ⟨Nat.le_of_ble_eq_true rfl, Nat.le_of_ble_eq_true rfl⟩ rfl (Nat.le_of_ble_eq_true rfl) dX6_is_61 ?_
          refine s_iload O 5 dX6_is_64 rfl ?_
          refine s_icmp_ne (tgt := 73) O dX6_is_66 (by decide) (fun c => ?_) (fun c => ?_)
          · replace hf := if_f c hf
            refine s_iconst (v := 0) O dX6_is_73 rfl ?_
            exact s_iret hret rfl dX6_is_74 hf
          · replace hf := if_t c hf
            refine s_iconst (v := 1) O dX6_is_69 rfl ?_
            refine s_goto (tgt := 74) O dX6_is_70 (by decide) ?_
            exact s_iret hret rfl dX6_is_74 hf
def rm_X6_lineNow : Room := { frames := 2, cells := 0, slots := 0, locals := 46 }
def fj_X6_lineNow_j76    (s0 : StA) : Option (StA × (Int32)) :=
  bn (f_X6_is 4 106 111 107 101 s0) (fun s10 r11 => (if r11 = 0 then bn (f_X6_is 4 119 105 110 100 s10) (fun s13 r14 => (if r14 = 0 then bn (f_X6_is 4 114 97 116 101 s13) (fun s16 r17 => (if r17 = 0 then bn (f_X6_is 5 115 116 97 114 s16) (fun s19 r20 => (if r20 = 0 then some (s19, (-4)) else bn (f_X6_ends 116 0 s19) (fun s22 r23 => (if r23 = 0 then some (s22, (-4)) else some (s22, 6))))) else some (s16, 5))) else some (s13, 4))) else some (s10, 3)))
set_option maxHeartbeats 4000000 in
set_option maxRecDepth 100000 in
theorem wj_X6_lineNow_j76 {E : XC} (O : OK mM E RX6 cX6_lineNow 1 rm_X6_lineNow)     {s0 : StA} {zs : StA} {rr : Int32} (hret : ReI mM E .int cX6_lineNow zs rr) (hf : fj_X6_lineNow_j76  s0 = some (zs, rr)) : WS mM E 1 76 [(0, rf E 0)] [] s0 := by
  unfold fj_X6_lineNow_j76 at hf
  refine s_aload_n O 0 dX6_lineNow_76 rfl rfl ?_
  refine s_iconst (v := 4) O dX6_lineNow_77 rfl ?_
  refine s_bipush (v := 106) O dX6_lineNow_78 rfl ?_
  refine s_bipush (v := 111) O dX6_lineNow_80 rfl ?_
  refine s_bipush (v := 107) O dX6_lineNow_82 rfl ?_
  refine s_bipush (v := 101) O dX6_lineNow_84 rfl ?_
  obtain ⟨s10, r11, c12, hf⟩ := bn_e hf
  refine s_VI (As := [.int 4, .int 106, .int 111, .int 107, .int 101]) (st := []) O lk_RX6_92 (k_X6_is c12) rfl ms_0 rfl rfl ⟨rfl, rfl⟩ ⟨Nat.le_of_ble_eq_true rfl, Nat.le_of_ble_eq_true rfl⟩ rfl (Nat.le_of_ble_eq_true rfl) dX6_lineNow_86 ?_
  refine s_if_eq (tgt := 94) O dX6_lineNow_89 (by decide) (fun c => ?_) (fun c => ?_)
  · replace hf := if_t c hf
    refine s_aload_n O 0 dX6_lineNow_94 rfl rfl ?_
    refine s_iconst (v := 4) O dX6_lineNow_95 rfl ?_
    refine s_bipush (v := 119) O dX6_lineNow_96 rfl ?_
    refine s_bipush (v := 105) O dX6_lineNow_98 rfl ?_
    refine s_bipush (v := 110) O dX6_lineNow_100 rfl ?_
    refine s_bipush (v := 100) O dX6_lineNow_102 rfl ?_
    obtain ⟨s13, r14, c15, hf⟩ := bn_e hf
    refine s_VI (As := [.int 4, .int 119, .int 105, .int 110, .int 100]) (st := []) O lk_RX6_92 (k_X6_is c15) rfl ms_0 rfl rfl ⟨rfl, rfl⟩ ⟨Nat.le_of_ble_eq_true rfl, Nat.le_of_ble_eq_true rfl⟩ rfl (Nat.le_of_ble_eq_true rfl) dX6_lineNow_104 ?_
    refine s_if_eq (tgt := 112) O dX6_lineNow_107 (by decide) (fun c => ?_) (fun c => ?_)
    · replace hf := if_t c hf
      refine s_aload_n O 0 dX6_lineNow_112 rfl rfl ?_
      refine s_iconst (v := 4) O dX6_lineNow_113 rfl ?_
      refine s_bipush (v := 114) O dX6_lineNow_114 rfl ?_
      refine s_bipush (v := 97) O dX6_lineNow_116 rfl ?_
      refine s_bipush (v := 116) O dX6_lineNow_118 rfl ?_
      refine s_bipush (v := 101) O dX6_lineNow_120 rfl ?_
      obtain ⟨s16, r17, c18, hf⟩ := bn_e hf
      refine s_VI (As := [.int 4, .int 114, .int 97, .int 116, .int 101]) (st := []) O lk_RX6_92 (k_X6_is c18) rfl ms_0 rfl rfl ⟨rfl, rfl⟩ ⟨Nat.le_of_ble_eq_true rfl, Nat.le_of_ble_eq_true rfl⟩ rfl (Nat.le_of_ble_eq_true rfl) dX6_lineNow_122 ?_
      refine s_if_eq (tgt := 132) O dX6_lineNow_125 (by decide) (fun c => ?_) (fun c => ?_)
      · replace hf := if_t c hf
        refine s_aload_n O 0 dX6_lineNow_132 rfl rfl ?_
        refine s_iconst (v := 5) O dX6_lineNow_133 rfl ?_
        refine s_bipush (v := 115) O dX6_lineNow_134 rfl ?_
        refine s_bipush (v := 116) O dX6_lineNow_136 rfl ?_
        refine s_bipush (v := 97) O dX6_lineNow_138 rfl ?_
        refine s_bipush (v := 114) O dX6_lineNow_140 rfl ?_
        obtain ⟨s19, r20, c21, hf⟩ := bn_e hf
        refine s_VI (As := [.int 5, .int 115, .int 116, .int 97, .int 114]) (st := []) O lk_RX6_92 (k_X6_is c21) rfl ms_0 rfl rfl ⟨rfl, rfl⟩ ⟨Nat.le_of_ble_eq_true rfl, Nat.le_of_ble_eq_true rfl⟩ rfl (Nat.le_of_ble_eq_true rfl) dX6_lineNow_142 ?_
        refine s_if_eq (tgt := 163) O dX6_lineNow_145 (by decide) (fun c => ?_) (fun c => ?_)
        · replace hf := if_t c hf
          refine s_bipush (v := (-4)) O dX6_lineNow_163 rfl ?_
          exact s_iret hret rfl dX6_lineNow_165 hf
        · replace hf := if_f c hf
          refine s_aload_n O 0 dX6_lineNow_148 rfl rfl ?_
          refine s_bipush (v := 116) O dX6_lineNow_149 rfl ?_
          refine s_iconst (v := 0) O dX6_lineNow_151 rfl ?_
          obtain ⟨s22, r23, c24, hf⟩ := bn_e hf
          refine s_VI (As := [.int 116, .int 0]) (st := []) O lk_RX6_96 (k_X6_ends c24) rfl ms_0 rfl rfl ⟨rfl, rfl⟩ ⟨Nat.le_of_ble_eq_true rfl, Nat.le_of_ble_eq_true rfl⟩ rfl (Nat.le_of_ble_eq_true rfl) dX6_lineNow_152 ?_
          refine s_if_eq (tgt := 163) O dX6_lineNow_155 (by decide) (fun c => ?_) (fun c => ?_)
          · replace hf := if_t c hf
            refine s_bipush (v := (-4)) O dX6_lineNow_163 rfl ?_
            exact s_iret hret rfl dX6_lineNow_165 hf
          · replace hf := if_f c hf
            refine s_bipush (v := 6) O dX6_lineNow_158 rfl ?_
            refine s_goto (tgt := 165) O dX6_lineNow_160 (by decide) ?_
            exact s_iret hret rfl dX6_lineNow_165 hf
      · replace hf := if_f c hf
        refine s_iconst (v := 5) O dX6_lineNow_128 rfl ?_
        refine s_goto (tgt := 165) O dX6_lineNow_129 (by decide) ?_
        exact s_iret hret rfl dX6_lineNow_165 hf
    · replace hf := if_f c hf
      refine s_iconst (v := 4) O dX6_lineNow_110 rfl ?_
      exact s_iret hret rfl dX6_lineNow_111 hf
  · replace hf := if_f c hf
    refine s_iconst (v := 3) O dX6_lineNow_92 rfl ?_
    exact s_iret hret rfl dX6_lineNow_93 hf
def fj_X6_lineNow_j28    (s0 : StA) : Option (StA × (Int32)) :=
  bn (f_X6_is 4 116 97 99 116 s0) (fun s4 r5 => (if r5 = 0 then bn (f_X6_is 6 115 101 99 114 s4) (fun s7 r8 => (if r8 = 0 then fj_X6_lineNow_j76  s7 else bn (f_X6_ends 101 116 s7) (fun s25 r26 => (if r26 = 0 then fj_X6_lineNow_j76  s25 else some (s25, 2))))) else some (s4, 1)))
set_option maxHeartbeats 4000000 in
set_option maxRecDepth 100000 in
theorem wj_X6_lineNow_j28 {E : XC} (O : OK mM E RX6 cX6_lineNow 1 rm_X6_lineNow)     {s0 : StA} {zs : StA} {rr : Int32} (hret : ReI mM E .int cX6_lineNow zs rr) (hf : fj_X6_lineNow_j28  s0 = some (zs, rr)) : WS mM E 1 28 [(0, rf E 0)] [] s0 := by
  unfold fj_X6_lineNow_j28 at hf
  refine s_aload_n O 0 dX6_lineNow_28 rfl rfl ?_
  refine s_iconst (v := 4) O dX6_lineNow_29 rfl ?_
  refine s_bipush (v := 116) O dX6_lineNow_30 rfl ?_
  refine s_bipush (v := 97) O dX6_lineNow_32 rfl ?_
  refine s_bipush (v := 99) O dX6_lineNow_34 rfl ?_
  refine s_bipush (v := 116) O dX6_lineNow_36 rfl ?_
  obtain ⟨s4, r5, c6, hf⟩ := bn_e hf
  refine s_VI (As := [.int 4, .int 116, .int 97, .int 99, .int 116]) (st := []) O lk_RX6_92 (k_X6_is c6) rfl ms_0 rfl rfl ⟨rfl, rfl⟩ ⟨Nat.le_of_ble_eq_true rfl, Nat.le_of_ble_eq_true rfl⟩ rfl (Nat.le_of_ble_eq_true rfl) dX6_lineNow_38 ?_
  refine s_if_eq (tgt := 46) O dX6_lineNow_41 (by decide) (fun c => ?_) (fun c => ?_)
  · replace hf := if_t c hf
    refine s_aload_n O 0 dX6_lineNow_46 rfl rfl ?_
    refine s_bipush (v := 6) O dX6_lineNow_47 rfl ?_
    refine s_bipush (v := 115) O dX6_lineNow_49 rfl ?_
    refine s_bipush (v := 101) O dX6_lineNow_51 rfl ?_
    refine s_bipush (v := 99) O dX6_lineNow_53 rfl ?_
    refine s_bipush (v := 114) O dX6_lineNow_55 rfl ?_
    obtain ⟨s7, r8, c9, hf⟩ := bn_e hf
    refine s_VI (As := [.int 6, .int 115, .int 101, .int 99, .int 114]) (st := []) O lk_RX6_92 (k_X6_is c9) rfl ms_0 rfl rfl ⟨rfl, rfl⟩ ⟨Nat.le_of_ble_eq_true rfl, Nat.le_of_ble_eq_true rfl⟩ rfl (Nat.le_of_ble_eq_true rfl) dX6_lineNow_57 ?_
    refine s_if_eq (tgt := 76) O dX6_lineNow_60 (by decide) (fun c => ?_) (fun c => ?_)
    · replace hf := if_t c hf
      exact wj_X6_lineNow_j76 (rr := rr) O   hret hf
    · replace hf := if_f c hf
      refine s_aload_n O 0 dX6_lineNow_63 rfl rfl ?_
      refine s_bipush (v := 101) O dX6_lineNow_64 rfl ?_
      refine s_bipush (v := 116) O dX6_lineNow_66 rfl ?_
      obtain ⟨s25, r26, c27, hf⟩ := bn_e hf
      refine s_VI (As := [.int 101, .int 116]) (st := []) O lk_RX6_96 (k_X6_ends c27) rfl ms_0 rfl rfl ⟨rfl, rfl⟩ ⟨Nat.le_of_ble_eq_true rfl, Nat.le_of_ble_eq_true rfl⟩ rfl (Nat.le_of_ble_eq_true rfl) dX6_lineNow_68 ?_
      refine s_if_eq (tgt := 76) O dX6_lineNow_71 (by decide) (fun c => ?_) (fun c => ?_)
      · replace hf := if_t c hf
        exact wj_X6_lineNow_j76 (rr := rr) O   hret hf
      · replace hf := if_f c hf
        refine s_iconst (v := 2) O dX6_lineNow_74 rfl ?_
        exact s_iret hret rfl dX6_lineNow_75 hf
  · replace hf := if_f c hf
    refine s_iconst (v := 1) O dX6_lineNow_44 rfl ?_
    exact s_iret hret rfl dX6_lineNow_45 hf
def f_X6_lineNow  (s0 : StA) : Option (StA × Int32) :=
  bn (f_X6_is 5 112 108 97 105 s0) (fun s1 r2 => (if r2 = 0 then fj_X6_lineNow_j28  s1 else bn (f_X6_ends 110 0 s1) (fun s28 r29 => (if r29 = 0 then fj_X6_lineNow_j28  s28 else some (s28, 0)))))
set_option maxHeartbeats 4000000 in
set_option maxRecDepth 100000 in
theorem k_X6_lineNow  {s0 zs : StA} {rr : Int32} (hf : f_X6_lineNow  s0 = some (zs, rr)) : CtI mM yX6_lineNow cX6_lineNow 1 .int rm_X6_lineNow (fun ph => [.ref (ph 0)]) s0 zs rr := by
  refine CtI.of (by decide +kernel) (fun ph => Nat.le_of_ble_eq_true rfl) (fun E O hret => ?_)
  have O : OK mM E RX6 cX6_lineNow 1 rm_X6_lineNow := O
  show WS mM E 1 0 [(0, rf E 0)] [] s0
  unfold f_X6_lineNow at hf
  refine s_aload_n O 0 dX6_lineNow_0 rfl rfl ?_
  refine s_iconst (v := 5) O dX6_lineNow_1 rfl ?_
  refine s_bipush (v := 112) O dX6_lineNow_2 rfl ?_
  refine s_bipush (v := 108) O dX6_lineNow_4 rfl ?_
  refine s_bipush (v := 97) O dX6_lineNow_6 rfl ?_
  refine s_bipush (v := 105) O dX6_lineNow_8 rfl ?_
  obtain ⟨s1, r2, c3, hf⟩ := bn_e hf
  refine s_VI (As := [.int 5, .int 112, .int 108, .int 97, .int 105]) (st := []) O lk_RX6_92 (k_X6_is c3) rfl ms_0 rfl rfl ⟨rfl, rfl⟩ ⟨Nat.le_of_ble_eq_true rfl, Nat.le_of_ble_eq_true rfl⟩ rfl (Nat.le_of_ble_eq_true rfl) dX6_lineNow_10 ?_
  refine s_if_eq (tgt := 28) O dX6_lineNow_13 (by decide) (fun c => ?_) (fun c => ?_)
  · replace hf := if_t c hf
    exact wj_X6_lineNow_j28 (rr := rr) O   hret hf
  · replace hf := if_f c hf
    refine s_aload_n O 0 dX6_lineNow_16 rfl rfl ?_
    refine s_bipush (v := 110) O dX6_lineNow_17 rfl ?_
    refine s_iconst (v := 0) O dX6_lineNow_19 rfl ?_
    obtain ⟨s28, r29, c30, hf⟩ := bn_e hf
    refine s_VI (As := [.int 110, .int 0]) (st := []) O lk_RX6_96 (k_X6_ends c30) rfl ms_0 rfl rfl ⟨rfl, rfl⟩ ⟨Nat.le_of_ble_eq_true rfl, Nat.le_of_ble_eq_true rfl⟩ rfl (Nat.le_of_ble_eq_true rfl) dX6_lineNow_20 ?_
    refine s_if_eq (tgt := 28) O dX6_lineNow_23 (by decide) (fun c => ?_) (fun c => ?_)
    · replace hf := if_t c hf
      exact wj_X6_lineNow_j28 (rr := rr) O   hret hf
    · replace hf := if_f c hf
      refine s_iconst (v := 0) O dX6_lineNow_26 rfl ?_
      exact s_iret hret rfl dX6_lineNow_27 hf
def rm_X6_needs : Room := { frames := 0, cells := 0, slots := 0, locals := 0 }
def f_X6_needs (a1 : Int32) (a2 : Int32) (s0 : StA) : Option (StA × Unit) :=
  (if a1 = 0 then (if (gi s0 0 15) = 0 then nms (si s0 0 15 a2) (fun s1 => nms (si s1 0 16 (gi s1 0 12)) (fun s2 => some (s2, ()))) else some (s0, ())) else some (s0, ()))
set_option maxHeartbeats 4000000 in
set_option maxRecDepth 100000 in
theorem k_X6_needs {a1 : Int32} {a2 : Int32} {s0 zs : StA} {rr : Unit} (hf : f_X6_needs a1 a2 s0 = some (zs, rr)) : CtV mM yX6_needs cX6_needs 3 rm_X6_needs (fun ph => [.ref (ph 0), .int a1, .int a2]) s0 zs := by
  refine CtV.of (by decide +kernel) (fun ph => Nat.le_of_ble_eq_true rfl) (fun E O hret => ?_)
  have O : OK mM E RX6 cX6_needs 3 rm_X6_needs := O
  show WS mM E 3 0 [(0, rf E 0), (1, .int a1), (2, .int a2)] [] s0
  unfold f_X6_needs at hf
  refine s_iload_n O 1 dX6_needs_0 rfl rfl ?_
  refine s_if_ne (tgt := 24) O dX6_needs_1 (by decide) (fun c => ?_) (fun c => ?_)
  · replace hf := if_f c hf
    exact s_vret hret dX6_needs_24 hf
  · replace hf := if_t c hf
    refine s_aload_n O 0 dX6_needs_4 rfl rfl ?_
    refine s_getI O fg_RX6_76 ms_0 rfl dX6_needs_5 ?_
    refine s_if_ne (tgt := 24) O dX6_needs_8 (by decide) (fun c => ?_) (fun c => ?_)
    · replace hf := if_f c hf
      exact s_vret hret dX6_needs_24 hf
    · replace hf := if_t c hf
      refine s_aload_n O 0 dX6_needs_11 rfl rfl ?_
      refine s_iload_n O 2 dX6_needs_12 rfl rfl ?_
      refine s_putI O fp_RX6_76 ms_0 rfl dX6_needs_13 ?_
      refine s_tops (fun s1 es1 => ?_)
      replace hf := nms_e es1 hf
      refine s_aload_n O 0 dX6_needs_16 rfl rfl ?_
      refine s_aload_n O 0 dX6_needs_17 rfl rfl ?_
      refine s_getI O fg_RX6_79 ms_0 rfl dX6_needs_18 ?_
      refine s_putI O fp_RX6_82 ms_0 rfl dX6_needs_21 ?_
      refine s_tops (fun s2 es2 => ?_)
      replace hf := nms_e es2 hf
      exact s_vret hret dX6_needs_24 hf
def rm_X6_looked : Room := { frames := 1, cells := 0, slots := 0, locals := 25 }
def fj_X6_looked_j25 (a1 : Int32) (a2 : Int32)   (s0 : StA) : Option (StA × (Int32)) :=
  (if (gi s0 0 15) = 0 then bn (f_X6_in (gi s0 0 14).toInt64 a1.toInt64 a2.toInt64 s0) (fun s1 r2 => bn (f_X6_needs r2 3 s1) (fun s4 r5 => (if (gi s4 0 15) = 0 then some (s4, (gi s4 0 14)) else some (s4, 0)))) else (if (gi s0 0 15) = 0 then some (s0, (gi s0 0 14)) else some (s0, 0)))
set_option maxHeartbeats 4000000 in
set_option maxRecDepth 100000 in
theorem wj_X6_looked_j25 {E : XC} (O : OK mM E RX6 cX6_looked 3 rm_X6_looked) {a1 : Int32} {a2 : Int32}    {s0 : StA} {zs : StA} {rr : Int32} (hret : ReI mM E .int cX6_looked zs rr) (hf : fj_X6_looked_j25 a1 a2 s0 = some (zs, rr)) : WS mM E 3 25 [(0, rf E 0), (1, .int a1), (2, .int a2)] [] s0 := by
  unfold fj_X6_looked_j25 at hf
  refine s_aload_n O 0 dX6_looked_25 rfl rfl ?_
  refine s_getI O fg_RX6_76 ms_0 rfl dX6_looked_26 ?_
  refine s_if_ne (tgt := 49) O dX6_looked_29 (by decide) (fun c => ?_) (fun c => ?_)
  · replace hf := if_f c hf
    refine s_aload_n O 0 dX6_looked_49 rfl rfl ?_
    refine s_getI O fg_RX6_76 ms_0 rfl dX6_looked_50 ?_
    refine s_if_ne (tgt := 63) O dX6_looked_53 (by decide) (fun c => ?_) (fun c => ?_)
    · replace hf := if_f c hf
      refine s_iconst (v := 0) O dX6_looked_63 rfl ?_
      exact s_iret hret rfl dX6_looked_64 hf
    · replace hf := if_t c hf
      refine s_aload_n O 0 dX6_looked_56 rfl rfl ?_
      refine s_getI O fg_RX6_111 ms_0 rfl dX6_looked_57 ?_
      refine s_goto (tgt := 64) O dX6_looked_60 (by decide) ?_
      exact s_iret hret rfl dX6_looked_64 hf
  · replace hf := if_t c hf
    refine s_aload_n O 0 dX6_looked_32 rfl rfl ?_
    refine s_aload_n O 0 dX6_looked_33 rfl rfl ?_
    refine s_getI O fg_RX6_111 ms_0 rfl dX6_looked_34 ?_
    refine s_i2l O dX6_looked_37 ?_
    refine s_iload_n O 1 dX6_looked_38 rfl rfl ?_
    refine s_i2l O dX6_looked_39 ?_
    refine s_iload_n O 2 dX6_looked_40 rfl rfl ?_
    refine s_i2l O dX6_looked_41 ?_
    obtain ⟨s1, r2, c3, hf⟩ := bn_e hf
    refine s_SI (As := [.long (gi s0 0 14).toInt64, .long a1.toInt64, .long a2.toInt64]) (st := [rf E 0]) O lk_RX6_69 (k_X6_in c3) rfl rfl ⟨rfl, rfl⟩ ⟨Nat.le_of_ble_eq_true rfl, Nat.le_of_ble_eq_true rfl⟩ rfl (Nat.le_of_ble_eq_true rfl) dX6_looked_42 ?_
    refine s_iconst (v := 3) O dX6_looked_45 rfl ?_
    obtain ⟨s4, r5, c6, hf⟩ := bn_e hf
    refine s_VV (As := [.int r2, .int 3]) (st := []) O lk_RX6_114 (k_X6_needs c6) rfl ms_0 rfl rfl ⟨rfl, rfl⟩ ⟨Nat.le_of_ble_eq_true rfl, Nat.le_of_ble_eq_true rfl⟩ rfl (Nat.le_of_ble_eq_true rfl) dX6_looked_46 ?_
    refine s_aload_n O 0 dX6_looked_49 rfl rfl ?_
    refine s_getI O fg_RX6_76 ms_0 rfl dX6_looked_50 ?_
    refine s_if_ne (tgt := 63) O dX6_looked_53 (by decide) (fun c => ?_) (fun c => ?_)
    · replace hf := if_f c hf
      refine s_iconst (v := 0) O dX6_looked_63 rfl ?_
      exact s_iret hret rfl dX6_looked_64 hf
    · replace hf := if_t c hf
      refine s_aload_n O 0 dX6_looked_56 rfl rfl ?_
      refine s_getI O fg_RX6_111 ms_0 rfl dX6_looked_57 ?_
      refine s_goto (tgt := 64) O dX6_looked_60 (by decide) ?_
      exact s_iret hret rfl dX6_looked_64 hf
def fj_X6_looked_j21 (a1 : Int32) (a2 : Int32)  (y0 : Int32) (s0 : StA) : Option (StA × (Int32)) :=
  bn (f_X6_needs y0 2 s0) (fun s7 r8 => fj_X6_looked_j25 a1 a2 s7)
set_option maxHeartbeats 4000000 in
set_option maxRecDepth 100000 in
theorem wj_X6_looked_j21 {E : XC} (O : OK mM E RX6 cX6_looked 3 rm_X6_looked) {a1 : Int32} {a2 : Int32}   {y0 : Int32} {s0 : StA} {zs : StA} {rr : Int32} (hret : ReI mM E .int cX6_looked zs rr) (hf : fj_X6_looked_j21 a1 a2 y0 s0 = some (zs, rr)) : WS mM E 3 21 [(0, rf E 0), (1, .int a1), (2, .int a2)] [.int y0, rf E 0] s0 := by
  unfold fj_X6_looked_j21 at hf
  refine s_iconst (v := 2) O dX6_looked_21 rfl ?_
  obtain ⟨s7, r8, c9, hf⟩ := bn_e hf
  refine s_VV (As := [.int y0, .int 2]) (st := []) O lk_RX6_114 (k_X6_needs c9) rfl ms_0 rfl rfl ⟨rfl, rfl⟩ ⟨Nat.le_of_ble_eq_true rfl, Nat.le_of_ble_eq_true rfl⟩ rfl (Nat.le_of_ble_eq_true rfl) dX6_looked_22 ?_
  exact wj_X6_looked_j25 (rr := rr) O   hret hf
def f_X6_looked (a1 : Int32) (a2 : Int32) (s0 : StA) : Option (StA × Int32) :=
  (if (gi s0 0 15) = 0 then (if (gi s0 0 13) = 2 then fj_X6_looked_j21 a1 a2 1 s0 else fj_X6_looked_j21 a1 a2 0 s0) else fj_X6_looked_j25 a1 a2 s0)
set_option maxHeartbeats 4000000 in
set_option maxRecDepth 100000 in
theorem k_X6_looked {a1 : Int32} {a2 : Int32} {s0 zs : StA} {rr : Int32} (hf : f_X6_looked a1 a2 s0 = some (zs, rr)) : CtI mM yX6_looked cX6_looked 3 .int rm_X6_looked (fun ph => [.ref (ph 0), .int a1, .int a2]) s0 zs rr := by
  refine CtI.of (by decide +kernel) (fun ph => Nat.le_of_ble_eq_true rfl) (fun E O hret => ?_)
  have O : OK mM E RX6 cX6_looked 3 rm_X6_looked := O
  show WS mM E 3 0 [(0, rf E 0), (1, .int a1), (2, .int a2)] [] s0
  unfold f_X6_looked at hf
  refine s_aload_n O 0 dX6_looked_0 rfl rfl ?_
  refine s_getI O fg_RX6_76 ms_0 rfl dX6_looked_1 ?_
  refine s_if_ne (tgt := 25) O dX6_looked_4 (by decide) (fun c => ?_) (fun c => ?_)
  · replace hf := if_f c hf
    exact wj_X6_looked_j25 (rr := rr) O   hret hf
  · replace hf := if_t c hf
    refine s_aload_n O 0 dX6_looked_7 rfl rfl ?_
    refine s_aload_n O 0 dX6_looked_8 rfl rfl ?_
    refine s_getI O fg_RX6_100 ms_0 rfl dX6_looked_9 ?_
    refine s_iconst (v := 2) O dX6_looked_12 rfl ?_
    refine s_icmp_ne (tgt := 20) O dX6_looked_13 (by decide) (fun c => ?_) (fun c => ?_)
    · replace hf := if_f c hf
      refine s_iconst (v := 0) O dX6_looked_20 rfl ?_
      exact wj_X6_looked_j21 (rr := rr) O   hret hf
    · replace hf := if_t c hf
      refine s_iconst (v := 1) O dX6_looked_16 rfl ?_
      refine s_goto (tgt := 21) O dX6_looked_17 (by decide) ?_
      exact wj_X6_looked_j21 (rr := rr) O   hret hf
def rm_X6_takes : Room := { frames := 1, cells := 0, slots := 0, locals := 25 }
def fb_X6_takes_l8   (s0 : StA)  : Option (StA × ((Unit) ⊕ (Unit))) :=
  bn (f_X6_byteAt (gi s0 0 11) s0) (fun s1 r2 => (if r2 = 32 then nms (si s1 0 11 ((gi s1 0 11) + 1)) (fun s4 => some (s4, .inl ())) else some (s1, .inr ())))
set_option maxHeartbeats 4000000 in
set_option maxRecDepth 100000 in
theorem wb_X6_takes_l8 {E : XC} (O : OK mM E RX6 cX6_takes 2 rm_X6_takes)    {s0 : StA}  {zs : StA} {rr : Unit} (hret : ReV mM E cX6_takes zs) {bs : StA} {bw : (Unit) ⊕ (Unit)} (Kc : ∀ v, bw = .inl v → WS mM E 2 8 [(0, rf E 0)] [] bs) (Ke : ∀ e, bw = .inr e → WS mM E 2 34 [(0, rf E 0)] [] bs) (hf : fb_X6_takes_l8  s0  = some (bs, bw)) : WS mM E 2 8 [(0, rf E 0)] [] s0 := by
  unfold fb_X6_takes_l8 at hf
  refine s_aload_n O 0 dX6_takes_8 rfl rfl ?_
  refine s_aload_n O 0 dX6_takes_9 rfl rfl ?_
  refine s_getI O fg_RX6_85 ms_0 rfl dX6_takes_10 ?_
  obtain ⟨s1, r2, c3, hf⟩ := bn_e hf
  refine s_VI (As := [.int (gi s0 0 11)]) (st := []) O lk_RX6_88 (k_X6_byteAt c3) rfl ms_0 rfl rfl ⟨rfl, rfl⟩ ⟨Nat.le_of_ble_eq_true rfl, Nat.le_of_ble_eq_true rfl⟩ rfl (Nat.le_of_ble_eq_true rfl) dX6_takes_13 ?_
  refine s_bipush (v := 32) O dX6_takes_16 rfl ?_
  refine s_icmp_ne (tgt := 34) O dX6_takes_18 (by decide) (fun c => ?_) (fun c => ?_)
  · replace hf := if_f c hf
    cases hf
    exact Ke _ rfl
  · replace hf := if_t c hf
    refine s_aload_n O 0 dX6_takes_21 rfl rfl ?_
    refine s_dup O dX6_takes_22 rfl ?_
    refine s_getI O fg_RX6_85 ms_0 rfl dX6_takes_23 ?_
    refine s_iconst (v := 1) O dX6_takes_26 rfl ?_
    refine s_iadd O dX6_takes_27 ?_
    refine s_putI O fp_RX6_85 ms_0 rfl dX6_takes_28 ?_
    refine s_tops (fun s4 es4 => ?_)
    replace hf := nms_e es4 hf
    refine s_goto (tgt := 8) O dX6_takes_31 (by decide) ?_
    cases hf
    exact Kc _ rfl
def fl_X6_takes_l8   (s0 : StA) (v : Unit) : Option (StA × ((Unit))) :=
  it (fun s v => fb_X6_takes_l8  s ) FU s0 v
def fj_X6_takes_j260   (y0 : Int32) (s0 : StA) : Option (StA × (Unit)) :=
  bn (f_X6_needs y0 1 s0) (fun s19 r20 => nms (si s19 0 11 ((gi s19 0 11) + 1)) (fun s22 => some (s22, ())))
set_option maxHeartbeats 4000000 in
set_option maxRecDepth 100000 in
theorem wj_X6_takes_j260 {E : XC} (O : OK mM E RX6 cX6_takes 2 rm_X6_takes)    {y0 : Int32} {s0 : StA} {zs : StA} {rr : Unit} (hret : ReV mM E cX6_takes zs) (hf : fj_X6_takes_j260 y0 s0 = some (zs, rr)) : WS mM E 2 260 [(0, rf E 0)] [.int y0, rf E 0] s0 := by
  unfold fj_X6_takes_j260 at hf
  refine s_iconst (v := 1) O dX6_takes_260 rfl ?_
  obtain ⟨s19, r20, c21, hf⟩ := bn_e hf
  refine s_VV (As := [.int y0, .int 1]) (st := []) O lk_RX6_114 (k_X6_needs c21) rfl ms_0 rfl rfl ⟨rfl, rfl⟩ ⟨Nat.le_of_ble_eq_true rfl, Nat.le_of_ble_eq_true rfl⟩ rfl (Nat.le_of_ble_eq_true rfl) dX6_takes_261 ?_
  refine s_aload_n O 0 dX6_takes_264 rfl rfl ?_
  refine s_dup O dX6_takes_265 rfl ?_
  refine s_getI O fg_RX6_85 ms_0 rfl dX6_takes_266 ?_
  refine s_iconst (v := 1) O dX6_takes_269 rfl ?_
  refine s_iadd O dX6_takes_270 ?_
  refine s_putI O fp_RX6_85 ms_0 rfl dX6_takes_271 ?_
  refine s_tops (fun s22 es22 => ?_)
  replace hf := nms_e es22 hf
  exact s_vret hret dX6_takes_274 hf
def fb_X6_takes_l140   (s0 : StA)  : Option (StA × ((Unit) ⊕ (Unit))) :=
  bn (f_X6_byteAt (gi s0 0 11) s0) (fun s25 r26 => bn (f_X6_in r26.toInt64 48 57 s25) (fun s28 r29 => (if r29 = 0 then some (s28, .inr ()) else (if 2 ≤ ((gi s28 0 11) - (gi s28 0 12)) then nms (si s28 0 14 (gi s28 0 14)) (fun s31 => nms (si s31 0 11 ((gi s31 0 11) + 1)) (fun s32 => some (s32, .inl ()))) else bn (f_X6_byteAt (gi s28 0 11) s28) (fun s33 r34 => nms (si s33 0 14 (((10 * (gi s28 0 14)) + r34) - 48)) (fun s36 => nms (si s36 0 11 ((gi s36 0 11) + 1)) (fun s37 => some (s37, .inl ()))))))))
set_option maxHeartbeats 4000000 in
set_option maxRecDepth 100000 in
theorem wb_X6_takes_l140 {E : XC} (O : OK mM E RX6 cX6_takes 2 rm_X6_takes)    {s0 : StA}  {zs : StA} {rr : Unit} (hret : ReV mM E cX6_takes zs) {bs : StA} {bw : (Unit) ⊕ (Unit)} (Kc : ∀ v, bw = .inl v → WS mM E 2 140 [(0, rf E 0)] [] bs) (Ke : ∀ e, bw = .inr e → WS mM E 2 217 [(0, rf E 0)] [] bs) (hf : fb_X6_takes_l140  s0  = some (bs, bw)) : WS mM E 2 140 [(0, rf E 0)] [] s0 := by
  unfold fb_X6_takes_l140 at hf
  refine s_aload_n O 0 dX6_takes_140 rfl rfl ?_
  refine s_aload_n O 0 dX6_takes_141 rfl rfl ?_
  refine s_getI O fg_RX6_85 ms_0 rfl dX6_takes_142 ?_
  obtain ⟨s25, r26, c27, hf⟩ := bn_e hf
  refine s_VI (As := [.int (gi s0 0 11)]) (st := []) O lk_RX6_88 (k_X6_byteAt c27) rfl ms_0 rfl rfl ⟨rfl, rfl⟩ ⟨Nat.le_of_ble_eq_true rfl, Nat.le_of_ble_eq_true rfl⟩ rfl (Nat.le_of_ble_eq_true rfl) dX6_takes_145 ?_
  refine s_i2l O dX6_takes_148 ?_
  refine s_ldc2 O cl_RX6_107 dX6_takes_149 ?_
  refine s_ldc2 O cl_RX6_109 dX6_takes_152 ?_
  obtain ⟨s28, r29, c30, hf⟩ := bn_e hf
  refine s_SI (As := [.long r26.toInt64, .long 48, .long 57]) (st := []) O lk_RX6_69 (k_X6_in c30) rfl rfl ⟨rfl, rfl⟩ ⟨Nat.le_of_ble_eq_true rfl, Nat.le_of_ble_eq_true rfl⟩ rfl (Nat.le_of_ble_eq_true rfl) dX6_takes_155 ?_
  refine s_if_eq (tgt := 217) O dX6_takes_158 (by decide) (fun c => ?_) (fun c => ?_)
  · replace hf := if_t c hf
    cases hf
    exact Ke _ rfl
  · replace hf := if_f c hf
    refine s_aload_n O 0 dX6_takes_161 rfl rfl ?_
    refine s_aload_n O 0 dX6_takes_162 rfl rfl ?_
    refine s_getI O fg_RX6_85 ms_0 rfl dX6_takes_163 ?_
    refine s_aload_n O 0 dX6_takes_166 rfl rfl ?_
    refine s_getI O fg_RX6_79 ms_0 rfl dX6_takes_167 ?_
    refine s_isub O dX6_takes_170 ?_
    refine s_iconst (v := 2) O dX6_takes_171 rfl ?_
    refine s_icmp_ge (tgt := 197) O dX6_takes_172 (by decide) (fun c => ?_) (fun c => ?_)
    · replace hf := if_t c hf
      refine s_aload_n O 0 dX6_takes_197 rfl rfl ?_
      refine s_getI O fg_RX6_111 ms_0 rfl dX6_takes_198 ?_
      refine s_putI O fp_RX6_111 ms_0 rfl dX6_takes_201 ?_
      refine s_tops (fun s31 es31 => ?_)
      replace hf := nms_e es31 hf
      refine s_aload_n O 0 dX6_takes_204 rfl rfl ?_
      refine s_dup O dX6_takes_205 rfl ?_
      refine s_getI O fg_RX6_85 ms_0 rfl dX6_takes_206 ?_
      refine s_iconst (v := 1) O dX6_takes_209 rfl ?_
      refine s_iadd O dX6_takes_210 ?_
      refine s_putI O fp_RX6_85 ms_0 rfl dX6_takes_211 ?_
      refine s_tops (fun s32 es32 => ?_)
      replace hf := nms_e es32 hf
      refine s_goto (tgt := 140) O dX6_takes_214 (by decide) ?_
      cases hf
      exact Kc _ rfl
    · replace hf := if_f c hf
      refine s_bipush (v := 10) O dX6_takes_175 rfl ?_
      refine s_aload_n O 0 dX6_takes_177 rfl rfl ?_
      refine s_getI O fg_RX6_111 ms_0 rfl dX6_takes_178 ?_
      refine s_imul O dX6_takes_181 ?_
      refine s_aload_n O 0 dX6_takes_182 rfl rfl ?_
      refine s_aload_n O 0 dX6_takes_183 rfl rfl ?_
      refine s_getI O fg_RX6_85 ms_0 rfl dX6_takes_184 ?_
      obtain ⟨s33, r34, c35, hf⟩ := bn_e hf
      refine s_VI (As := [.int (gi s28 0 11)]) (st := [.int (10 * (gi s28 0 14)), rf E 0]) O lk_RX6_88 (k_X6_byteAt c35) rfl ms_0 rfl rfl ⟨rfl, rfl⟩ ⟨Nat.le_of_ble_eq_true rfl, Nat.le_of_ble_eq_true rfl⟩ rfl (Nat.le_of_ble_eq_true rfl) dX6_takes_187 ?_
      refine s_iadd O dX6_takes_190 ?_
      refine s_bipush (v := 48) O dX6_takes_191 rfl ?_
      refine s_isub O dX6_takes_193 ?_
      refine s_goto (tgt := 201) O dX6_takes_194 (by decide) ?_
      refine s_putI O fp_RX6_111 ms_0 rfl dX6_takes_201 ?_
      refine s_tops (fun s36 es36 => ?_)
      replace hf := nms_e es36 hf
      refine s_aload_n O 0 dX6_takes_204 rfl rfl ?_
      refine s_dup O dX6_takes_205 rfl ?_
      refine s_getI O fg_RX6_85 ms_0 rfl dX6_takes_206 ?_
      refine s_iconst (v := 1) O dX6_takes_209 rfl ?_
      refine s_iadd O dX6_takes_210 ?_
      refine s_putI O fp_RX6_85 ms_0 rfl dX6_takes_211 ?_
      refine s_tops (fun s37 es37 => ?_)
      replace hf := nms_e es37 hf
      refine s_goto (tgt := 140) O dX6_takes_214 (by decide) ?_
      cases hf
      exact Kc _ rfl
def fl_X6_takes_l140   (s0 : StA) (v : Unit) : Option (StA × ((Unit))) :=
  it (fun s v => fb_X6_takes_l140  s ) FU s0 v
def fb_X6_takes_l82   (s0 : StA)  : Option (StA × ((Unit) ⊕ (Unit))) :=
  bn (f_X6_byteAt (gi s0 0 11) s0) (fun s48 r49 => bn (f_X6_in r49.toInt64 97 122 s48) (fun s51 r52 => (if r52 = 0 then some (s51, .inr ()) else nms (si s51 0 11 ((gi s51 0 11) + 1)) (fun s54 => some (s54, .inl ())))))
set_option maxHeartbeats 4000000 in
set_option maxRecDepth 100000 in
theorem wb_X6_takes_l82 {E : XC} (O : OK mM E RX6 cX6_takes 2 rm_X6_takes)    {s0 : StA}  {zs : StA} {rr : Unit} (hret : ReV mM E cX6_takes zs) {bs : StA} {bw : (Unit) ⊕ (Unit)} (Kc : ∀ v, bw = .inl v → WS mM E 2 82 [(0, rf E 0)] [] bs) (Ke : ∀ e, bw = .inr e → WS mM E 2 274 [] [] bs) (hf : fb_X6_takes_l82  s0  = some (bs, bw)) : WS mM E 2 82 [(0, rf E 0)] [] s0 := by
  unfold fb_X6_takes_l82 at hf
  refine s_aload_n O 0 dX6_takes_82 rfl rfl ?_
  refine s_aload_n O 0 dX6_takes_83 rfl rfl ?_
  refine s_getI O fg_RX6_85 ms_0 rfl dX6_takes_84 ?_
  obtain ⟨s48, r49, c50, hf⟩ := bn_e hf
  refine s_VI (As := [.int (gi s0 0 11)]) (st := []) O lk_RX6_88 (k_X6_byteAt c50) rfl ms_0 rfl rfl ⟨rfl, rfl⟩ ⟨Nat.le_of_ble_eq_true rfl, Nat.le_of_ble_eq_true rfl⟩ rfl (Nat.le_of_ble_eq_true rfl) dX6_takes_87 ?_
  refine s_i2l O dX6_takes_90 ?_
  refine s_ldc2 O cl_RX6_103 dX6_takes_91 ?_
  refine s_ldc2 O cl_RX6_105 dX6_takes_94 ?_
  obtain ⟨s51, r52, c53, hf⟩ := bn_e hf
  refine s_SI (As := [.long r49.toInt64, .long 97, .long 122]) (st := []) O lk_RX6_69 (k_X6_in c53) rfl rfl ⟨rfl, rfl⟩ ⟨Nat.le_of_ble_eq_true rfl, Nat.le_of_ble_eq_true rfl⟩ rfl (Nat.le_of_ble_eq_true rfl) dX6_takes_97 ?_
  refine s_if_eq (tgt := 274) O dX6_takes_100 (by decide) (fun c => ?_) (fun c => ?_)
  · replace hf := if_t c hf
    refine s_loc [] rfl ?_
    cases hf
    exact Ke _ rfl
  · replace hf := if_f c hf
    refine s_aload_n O 0 dX6_takes_103 rfl rfl ?_
    refine s_dup O dX6_takes_104 rfl ?_
    refine s_getI O fg_RX6_85 ms_0 rfl dX6_takes_105 ?_
    refine s_iconst (v := 1) O dX6_takes_108 rfl ?_
    refine s_iadd O dX6_takes_109 ?_
    refine s_putI O fp_RX6_85 ms_0 rfl dX6_takes_110 ?_
    refine s_tops (fun s54 es54 => ?_)
    replace hf := nms_e es54 hf
    refine s_goto (tgt := 82) O dX6_takes_113 (by decide) ?_
    cases hf
    exact Kc _ rfl
def fl_X6_takes_l82   (s0 : StA) (v : Unit) : Option (StA × ((Unit))) :=
  it (fun s v => fb_X6_takes_l82  s ) FU s0 v
def f_X6_takes  (s0 : StA) : Option (StA × Unit) :=
  (if (gi s0 0 15) ≤ 0 then bn (fl_X6_takes_l8  s0 ()) (fun s5 e6 => nms (si s5 0 12 (gi s5 0 11)) (fun s8 => bn (f_X6_byteAt (gi s8 0 11) s8) (fun s9 r10 => (if 0 ≤ r10 then bn (f_X6_in r10.toInt64 97 122 s9) (fun s12 r13 => (if r13 = 0 then bn (f_X6_in r10.toInt64 48 57 s12) (fun s15 r16 => (if r16 = 0 then nms (si s15 0 13 3) (fun s18 => (if r10 = 59 then fj_X6_takes_j260 1 s18 else fj_X6_takes_j260 0 s18)) else nms (si s15 0 13 2) (fun s23 => nms (si s23 0 14 0) (fun s24 => bn (fl_X6_takes_l140  s24 ()) (fun s38 e39 => (if 2 < ((gi s38 0 11) - (gi s38 0 12)) then bn (f_X6_needs 0 1 s38) (fun s41 r42 => some (s41, ())) else bn (f_X6_needs 1 1 s38) (fun s44 r45 => some (s44, ())))))))) else nms (si s12 0 13 1) (fun s47 => bn (fl_X6_takes_l82  s47 ()) (fun s55 e56 => some (s55, ()))))) else nms (si s9 0 13 0) (fun s58 => some (s58, ())))))) else some (s0, ()))
set_option maxHeartbeats 4000000 in
set_option maxRecDepth 100000 in
theorem k_X6_takes  {s0 zs : StA} {rr : Unit} (hf : f_X6_takes  s0 = some (zs, rr)) : CtV mM yX6_takes cX6_takes 2 rm_X6_takes (fun ph => [.ref (ph 0)]) s0 zs := by
  refine CtV.of (by decide +kernel) (fun ph => Nat.le_of_ble_eq_true rfl) (fun E O hret => ?_)
  have O : OK mM E RX6 cX6_takes 2 rm_X6_takes := O
  show WS mM E 2 0 [(0, rf E 0)] [] s0
  unfold f_X6_takes at hf
  refine s_aload_n O 0 dX6_takes_0 rfl rfl ?_
  refine s_getI O fg_RX6_76 ms_0 rfl dX6_takes_1 ?_
  refine s_if_le (tgt := 8) O dX6_takes_4 (by decide) (fun c => ?_) (fun c => ?_)
  · replace hf := if_t c hf
    obtain ⟨s5, e6, c7, hf⟩ := bn_e hf
    refine lp_of (body := fun s v => fb_X6_takes_l8  s ) (X := fun s v => WS mM E 2 8 [(0, rf E 0)] [] s) (Y := fun s e => WS mM E 2 34 [(0, rf E 0)] [] s) (fun s v s' w hb Kc Ke => wb_X6_takes_l8 (rr := rr) O   hret Kc Ke hb) FU _ _ (s5, e6) c7 ?_
    show WS mM E 2 34 [(0, rf E 0)] [] s5
    refine s_aload_n O 0 dX6_takes_34 rfl rfl ?_
    refine s_aload_n O 0 dX6_takes_35 rfl rfl ?_
    refine s_getI O fg_RX6_85 ms_0 rfl dX6_takes_36 ?_
    refine s_putI O fp_RX6_79 ms_0 rfl dX6_takes_39 ?_
    refine s_tops (fun s8 es8 => ?_)
    replace hf := nms_e es8 hf
    refine s_aload_n O 0 dX6_takes_42 rfl rfl ?_
    refine s_aload_n O 0 dX6_takes_43 rfl rfl ?_
    refine s_getI O fg_RX6_85 ms_0 rfl dX6_takes_44 ?_
    obtain ⟨s9, r10, c11, hf⟩ := bn_e hf
    refine s_VI (As := [.int (gi s8 0 11)]) (st := []) O lk_RX6_88 (k_X6_byteAt c11) rfl ms_0 rfl rfl ⟨rfl, rfl⟩ ⟨Nat.le_of_ble_eq_true rfl, Nat.le_of_ble_eq_true rfl⟩ rfl (Nat.le_of_ble_eq_true rfl) dX6_takes_47 ?_
    refine s_istore_n (lv' := [(1, .int r10), (0, rf E 0)]) O dX6_takes_50 rfl (by decide) rfl ?_
    refine s_iload_n O 0 dX6_takes_51 rfl rfl ?_
    refine s_if_ge (tgt := 63) O dX6_takes_52 (by decide) (fun c => ?_) (fun c => ?_)
    · replace hf := if_t c hf
      refine s_iload_n O 0 dX6_takes_63 rfl rfl ?_
      refine s_i2l O dX6_takes_64 ?_
      refine s_ldc2 O cl_RX6_103 dX6_takes_65 ?_
      refine s_ldc2 O cl_RX6_105 dX6_takes_68 ?_
      obtain ⟨s12, r13, c14, hf⟩ := bn_e hf
      refine s_SI (As := [.long r10.toInt64, .long 97, .long 122]) (st := []) O lk_RX6_69 (k_X6_in c14) rfl rfl ⟨rfl, rfl⟩ ⟨Nat.le_of_ble_eq_true rfl, Nat.le_of_ble_eq_true rfl⟩ rfl (Nat.le_of_ble_eq_true rfl) dX6_takes_71 ?_
      refine s_if_eq (tgt := 116) O dX6_takes_74 (by decide) (fun c => ?_) (fun c => ?_)
      · replace hf := if_t c hf
        refine s_iload_n O 0 dX6_takes_116 rfl rfl ?_
        refine s_i2l O dX6_takes_117 ?_
        refine s_ldc2 O cl_RX6_107 dX6_takes_118 ?_
        refine s_ldc2 O cl_RX6_109 dX6_takes_121 ?_
        obtain ⟨s15, r16, c17, hf⟩ := bn_e hf
        refine s_SI (As := [.long r10.toInt64, .long 48, .long 57]) (st := []) O lk_RX6_69 (k_X6_in c17) rfl rfl ⟨rfl, rfl⟩ ⟨Nat.le_of_ble_eq_true rfl, Nat.le_of_ble_eq_true rfl⟩ rfl (Nat.le_of_ble_eq_true rfl) dX6_takes_124 ?_
        refine s_if_eq (tgt := 243) O dX6_takes_127 (by decide) (fun c => ?_) (fun c => ?_)
        · replace hf := if_t c hf
          refine s_aload_n O 1 dX6_takes_243 rfl rfl ?_
          refine s_iconst (v := 3) O dX6_takes_244 rfl ?_
          refine s_putI O fp_RX6_100 ms_0 rfl dX6_takes_245 ?_
          refine s_tops (fun s18 es18 => ?_)
          replace hf := nms_e es18 hf
          refine s_aload_n O 1 dX6_takes_248 rfl rfl ?_
          refine s_iload_n O 0 dX6_takes_249 rfl rfl ?_
          refine s_bipush (v := 59) O dX6_takes_250 rfl ?_
          refine s_icmp_ne (tgt := 259) O dX6_takes_252 (by decide) (fun c => ?_) (fun c => ?_)
          · replace hf := if_f c hf
            refine s_iconst (v := 0) O dX6_takes_259 rfl ?_
            refine s_loc [1] rfl ?_
            exact wj_X6_takes_j260 (rr := rr) O   hret hf
          · replace hf := if_t c hf
            refine s_iconst (v := 1) O dX6_takes_255 rfl ?_
            refine s_goto (tgt := 260) O dX6_takes_256 (by decide) ?_
            refine s_loc [1] rfl ?_
            exact wj_X6_takes_j260 (rr := rr) O   hret hf
        · replace hf := if_f c hf
          refine s_aload_n O 1 dX6_takes_130 rfl rfl ?_
          refine s_iconst (v := 2) O dX6_takes_131 rfl ?_
          refine s_putI O fp_RX6_100 ms_0 rfl dX6_takes_132 ?_
          refine s_tops (fun s23 es23 => ?_)
          replace hf := nms_e es23 hf
          refine s_aload_n O 1 dX6_takes_135 rfl rfl ?_
          refine s_iconst (v := 0) O dX6_takes_136 rfl ?_
          refine s_putI O fp_RX6_111 ms_0 rfl dX6_takes_137 ?_
          refine s_tops (fun s24 es24 => ?_)
          replace hf := nms_e es24 hf
          refine s_loc [1] rfl ?_
          obtain ⟨s38, e39, c40, hf⟩ := bn_e hf
          refine lp_of (body := fun s v => fb_X6_takes_l140  s ) (X := fun s v => WS mM E 2 140 [(0, rf E 0)] [] s) (Y := fun s e => WS mM E 2 217 [(0, rf E 0)] [] s) (fun s v s' w hb Kc Ke => wb_X6_takes_l140 (rr := rr) O   hret Kc Ke hb) FU _ _ (s38, e39) c40 ?_
          show WS mM E 2 217 [(0, rf E 0)] [] s38
          refine s_aload_n O 0 dX6_takes_217 rfl rfl ?_
          refine s_aload_n O 0 dX6_takes_218 rfl rfl ?_
          refine s_getI O fg_RX6_85 ms_0 rfl dX6_takes_219 ?_
          refine s_aload_n O 0 dX6_takes_222 rfl rfl ?_
          refine s_getI O fg_RX6_79 ms_0 rfl dX6_takes_223 ?_
          refine s_isub O dX6_takes_226 ?_
          refine s_iconst (v := 2) O dX6_takes_227 rfl ?_
          refine s_icmp_gt (tgt := 235) O dX6_takes_228 (by decide) (fun c => ?_) (fun c => ?_)
          · replace hf := if_t c hf
            refine s_iconst (v := 0) O dX6_takes_235 rfl ?_
            refine s_iconst (v := 1) O dX6_takes_236 rfl ?_
            obtain ⟨s41, r42, c43, hf⟩ := bn_e hf
            refine s_VV (As := [.int 0, .int 1]) (st := []) O lk_RX6_114 (k_X6_needs c43) rfl ms_0 rfl rfl ⟨rfl, rfl⟩ ⟨Nat.le_of_ble_eq_true rfl, Nat.le_of_ble_eq_true rfl⟩ rfl (Nat.le_of_ble_eq_true rfl) dX6_takes_237 ?_
            refine s_goto (tgt := 274) O dX6_takes_240 (by decide) ?_
            exact s_vret hret dX6_takes_274 hf
          · replace hf := if_f c hf
            refine s_iconst (v := 1) O dX6_takes_231 rfl ?_
            refine s_goto (tgt := 236) O dX6_takes_232 (by decide) ?_
            refine s_iconst (v := 1) O dX6_takes_236 rfl ?_
            obtain ⟨s44, r45, c46, hf⟩ := bn_e hf
            refine s_VV (As := [.int 1, .int 1]) (st := []) O lk_RX6_114 (k_X6_needs c46) rfl ms_0 rfl rfl ⟨rfl, rfl⟩ ⟨Nat.le_of_ble_eq_true rfl, Nat.le_of_ble_eq_true rfl⟩ rfl (Nat.le_of_ble_eq_true rfl) dX6_takes_237 ?_
            refine s_goto (tgt := 274) O dX6_takes_240 (by decide) ?_
            exact s_vret hret dX6_takes_274 hf
      · replace hf := if_f c hf
        refine s_aload_n O 1 dX6_takes_77 rfl rfl ?_
        refine s_iconst (v := 1) O dX6_takes_78 rfl ?_
        refine s_putI O fp_RX6_100 ms_0 rfl dX6_takes_79 ?_
        refine s_tops (fun s47 es47 => ?_)
        replace hf := nms_e es47 hf
        refine s_loc [1] rfl ?_
        obtain ⟨s55, e56, c57, hf⟩ := bn_e hf
        refine lp_of (body := fun s v => fb_X6_takes_l82  s ) (X := fun s v => WS mM E 2 82 [(0, rf E 0)] [] s) (Y := fun s e => WS mM E 2 274 [] [] s) (fun s v s' w hb Kc Ke => wb_X6_takes_l82 (rr := rr) O   hret Kc Ke hb) FU _ _ (s55, e56) c57 ?_
        show WS mM E 2 274 [] [] s55
        exact s_vret hret dX6_takes_274 hf
    · replace hf := if_f c hf
      refine s_aload_n O 1 dX6_takes_55 rfl rfl ?_
      refine s_iconst (v := 0) O dX6_takes_56 rfl ?_
      refine s_putI O fp_RX6_100 ms_0 rfl dX6_takes_57 ?_
      refine s_tops (fun s58 es58 => ?_)
      replace hf := nms_e es58 hf
      refine s_goto (tgt := 274) O dX6_takes_60 (by decide) ?_
      exact s_vret hret dX6_takes_274 hf
  · replace hf := if_f c hf
    exact s_vret hret dX6_takes_7 hf
def rm_X6_readNumber : Room := { frames := 2, cells := 0, slots := 0, locals := 47 }
def f_X6_readNumber (a1 : Int32) (a2 : Int32) (s0 : StA) : Option (StA × Int32) :=
  bn (f_X6_looked a1 a2 s0) (fun s1 r2 => bn (f_X6_takes  s1) (fun s4 r5 => some (s4, r2)))
set_option maxHeartbeats 4000000 in
set_option maxRecDepth 100000 in
theorem k_X6_readNumber {a1 : Int32} {a2 : Int32} {s0 zs : StA} {rr : Int32} (hf : f_X6_readNumber a1 a2 s0 = some (zs, rr)) : CtI mM yX6_readNumber cX6_readNumber 4 .int rm_X6_readNumber (fun ph => [.ref (ph 0), .int a1, .int a2]) s0 zs rr := by
  refine CtI.of (by decide +kernel) (fun ph => Nat.le_of_ble_eq_true rfl) (fun E O hret => ?_)
  have O : OK mM E RX6 cX6_readNumber 4 rm_X6_readNumber := O
  show WS mM E 4 0 [(0, rf E 0), (1, .int a1), (2, .int a2)] [] s0
  unfold f_X6_readNumber at hf
  refine s_aload_n O 0 dX6_readNumber_0 rfl rfl ?_
  refine s_iload_n O 1 dX6_readNumber_1 rfl rfl ?_
  refine s_iload_n O 2 dX6_readNumber_2 rfl rfl ?_
  obtain ⟨s1, r2, c3, hf⟩ := bn_e hf
  refine s_VI (As := [.int a1, .int a2]) (st := []) O lk_RX6_118 (k_X6_looked c3) rfl ms_0 rfl rfl ⟨rfl, rfl⟩ ⟨Nat.le_of_ble_eq_true rfl, Nat.le_of_ble_eq_true rfl⟩ rfl (Nat.le_of_ble_eq_true rfl) dX6_readNumber_3 ?_
  refine s_istore_n (lv' := [(3, .int r2), (0, rf E 0), (1, .int a1), (2, .int a2)]) O dX6_readNumber_6 rfl (by decide) rfl ?_
  refine s_aload_n O 1 dX6_readNumber_7 rfl rfl ?_
  obtain ⟨s4, r5, c6, hf⟩ := bn_e hf
  refine s_VV (As := []) (st := []) O lk_RX6_122 (k_X6_takes c6) rfl ms_0 rfl rfl ⟨rfl, rfl⟩ ⟨Nat.le_of_ble_eq_true rfl, Nat.le_of_ble_eq_true rfl⟩ rfl (Nat.le_of_ble_eq_true rfl) dX6_readNumber_8 ?_
  refine s_iload_n O 0 dX6_readNumber_11 rfl rfl ?_
  exact s_iret hret rfl dX6_readNumber_12 hf
def rm_X6_readWind : Room := { frames := 3, cells := 0, slots := 0, locals := 70 }
def fj_X6_readWind_j24   (j1 : Int32) (y0 : Int32) (s0 : StA) : Option (StA × (Unit)) :=
  bn (f_X6_needs y0 4 s0) (fun s4 r5 => nms (si s4 0 6 ((gi s4 0 6) ||| (1 <<< (j1 &&& 31)))) (fun s7 => bn (f_X6_takes  s7) (fun s8 r9 => bn (f_X6_readNumber 0 8 s8) (fun s11 r12 => gd (28 + j1) 63 (nms (si s11 4 ((28 + j1).toNatClampNeg) r12) (fun s15 => some (s15, ())))))))
set_option maxHeartbeats 4000000 in
set_option maxRecDepth 100000 in
theorem wj_X6_readWind_j24 {E : XC} (O : OK mM E RX6 cX6_readWind 2 rm_X6_readWind)    {j1 : Int32} {y0 : Int32} {s0 : StA} {zs : StA} {rr : Unit} (hret : ReV mM E cX6_readWind zs) (hf : fj_X6_readWind_j24 j1 y0 s0 = some (zs, rr)) : WS mM E 2 24 [(0, rf E 0), (1, .int j1)] [.int y0, rf E 0] s0 := by
  unfold fj_X6_readWind_j24 at hf
  refine s_iconst (v := 4) O dX6_readWind_24 rfl ?_
  obtain ⟨s4, r5, c6, hf⟩ := bn_e hf
  refine s_VV (As := [.int y0, .int 4]) (st := []) O lk_RX6_114 (k_X6_needs c6) rfl ms_0 rfl rfl ⟨rfl, rfl⟩ ⟨Nat.le_of_ble_eq_true rfl, Nat.le_of_ble_eq_true rfl⟩ rfl (Nat.le_of_ble_eq_true rfl) dX6_readWind_25 ?_
  refine s_aload_n O 0 dX6_readWind_28 rfl rfl ?_
  refine s_dup O dX6_readWind_29 rfl ?_
  refine s_getI O fg_RX6_54 ms_0 rfl dX6_readWind_30 ?_
  refine s_iconst (v := 1) O dX6_readWind_33 rfl ?_
  refine s_iload_n O 1 dX6_readWind_34 rfl rfl ?_
  refine s_ishl O dX6_readWind_35 ?_
  refine s_ior O dX6_readWind_36 ?_
  refine s_putI O fp_RX6_54 ms_0 rfl dX6_readWind_37 ?_
  refine s_tops (fun s7 es7 => ?_)
  replace hf := nms_e es7 hf
  refine s_aload_n O 0 dX6_readWind_40 rfl rfl ?_
  obtain ⟨s8, r9, c10, hf⟩ := bn_e hf
  refine s_VV (As := []) (st := []) O lk_RX6_122 (k_X6_takes c10) rfl ms_0 rfl rfl ⟨rfl, rfl⟩ ⟨Nat.le_of_ble_eq_true rfl, Nat.le_of_ble_eq_true rfl⟩ rfl (Nat.le_of_ble_eq_true rfl) dX6_readWind_41 ?_
  refine s_aload_n O 0 dX6_readWind_44 rfl rfl ?_
  refine s_getR O fg_RX6_20 ms_0 rfl dX6_readWind_45 ?_
  refine s_bipush (v := 28) O dX6_readWind_48 rfl ?_
  refine s_iload_n O 1 dX6_readWind_50 rfl rfl ?_
  refine s_iadd O dX6_readWind_51 ?_
  refine s_aload_n O 0 dX6_readWind_52 rfl rfl ?_
  refine s_iconst (v := 0) O dX6_readWind_53 rfl ?_
  refine s_bipush (v := 8) O dX6_readWind_54 rfl ?_
  obtain ⟨s11, r12, c13, hf⟩ := bn_e hf
  refine s_VI (As := [.int 0, .int 8]) (st := [.int (28 + j1), rf E 4]) O lk_RX6_125 (k_X6_readNumber c13) rfl ms_0 rfl rfl ⟨rfl, rfl⟩ ⟨Nat.le_of_ble_eq_true rfl, Nat.le_of_ble_eq_true rfl⟩ rfl (Nat.le_of_ble_eq_true rfl) dX6_readWind_56 ?_
  obtain ⟨h14, hf⟩ := gd_e hf
  refine s_iast O ms_4 h14 dX6_readWind_59 ?_
  refine s_tops (fun s15 es15 => ?_)
  replace hf := nms_e es15 hf
  exact s_vret hret dX6_readWind_60 hf
def f_X6_readWind  (s0 : StA) : Option (StA × Unit) :=
  bn (f_X6_looked 0 4 s0) (fun s1 r2 => (if (((gi s1 0 6) >>> (r2 &&& 31)) &&& 1) = 0 then fj_X6_readWind_j24 r2 1 s1 else fj_X6_readWind_j24 r2 0 s1))
set_option maxHeartbeats 4000000 in
set_option maxRecDepth 100000 in
theorem k_X6_readWind  {s0 zs : StA} {rr : Unit} (hf : f_X6_readWind  s0 = some (zs, rr)) : CtV mM yX6_readWind cX6_readWind 2 rm_X6_readWind (fun ph => [.ref (ph 0)]) s0 zs := by
  refine CtV.of (by decide +kernel) (fun ph => Nat.le_of_ble_eq_true rfl) (fun E O hret => ?_)
  have O : OK mM E RX6 cX6_readWind 2 rm_X6_readWind := O
  show WS mM E 2 0 [(0, rf E 0)] [] s0
  unfold f_X6_readWind at hf
  refine s_aload_n O 0 dX6_readWind_0 rfl rfl ?_
  refine s_iconst (v := 0) O dX6_readWind_1 rfl ?_
  refine s_iconst (v := 4) O dX6_readWind_2 rfl ?_
  obtain ⟨s1, r2, c3, hf⟩ := bn_e hf
  refine s_VI (As := [.int 0, .int 4]) (st := []) O lk_RX6_118 (k_X6_looked c3) rfl ms_0 rfl rfl ⟨rfl, rfl⟩ ⟨Nat.le_of_ble_eq_true rfl, Nat.le_of_ble_eq_true rfl⟩ rfl (Nat.le_of_ble_eq_true rfl) dX6_readWind_3 ?_
  refine s_istore_n (lv' := [(1, .int r2), (0, rf E 0)]) O dX6_readWind_6 rfl (by decide) rfl ?_
  refine s_aload_n O 1 dX6_readWind_7 rfl rfl ?_
  refine s_aload_n O 1 dX6_readWind_8 rfl rfl ?_
  refine s_getI O fg_RX6_54 ms_0 rfl dX6_readWind_9 ?_
  refine s_iload_n O 0 dX6_readWind_12 rfl rfl ?_
  refine s_ishr O dX6_readWind_13 ?_
  refine s_iconst (v := 1) O dX6_readWind_14 rfl ?_
  refine s_iand O dX6_readWind_15 ?_
  refine s_if_ne (tgt := 23) O dX6_readWind_16 (by decide) (fun c => ?_) (fun c => ?_)
  · replace hf := if_f c hf
    refine s_iconst (v := 0) O dX6_readWind_23 rfl ?_
    refine s_loc [1, 0] rfl ?_
    exact wj_X6_readWind_j24 (rr := rr) O   hret hf
  · replace hf := if_t c hf
    refine s_iconst (v := 1) O dX6_readWind_19 rfl ?_
    refine s_goto (tgt := 24) O dX6_readWind_20 (by decide) ?_
    refine s_loc [1, 0] rfl ?_
    exact wj_X6_readWind_j24 (rr := rr) O   hret hf
