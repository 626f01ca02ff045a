def rm_X6_wind : Room := { frames := 2, cells := 0, slots := 0, locals := 45 }
def f_X6_wind (a1 : Int32) (s0 : StA) : Option (StA × Int32) :=
  bn (f_X6_isWind a1 s0) (fun s1 r2 => (if r2 = 0 then some (s1, (-1)) else gd (28 + a1) 189 (some (s1, (gi s1 1 (28 + a1).toNatClampNeg)))))
set_option maxHeartbeats 4000000 in
set_option maxRecDepth 100000 in
theorem k_X6_wind {a1 : Int32} {s0 zs : StA} {rr : Int32} (hf : f_X6_wind a1 s0 = some (zs, rr)) : CtI mM yX6_wind cX6_wind 2 .int rm_X6_wind (fun ph => [.ref (ph 0), .int a1]) s0 zs rr := by
  refine CtI.of (by decide +kernel) (fun ph => Nat.le_of_ble_eq_true rfl) (fun E O hret => ?_)
  have O : OK mM E RX6 cX6_wind 2 rm_X6_wind := O
  show WS mM E 2 0 [(0, rf E 0), (1, .int a1)] [] s0
  unfold f_X6_wind at hf
  refine s_iload_n O 1 dX6_wind_0 rfl rfl ?_
  obtain ⟨s1, r2, c3, hf⟩ := bn_e hf
  refine s_SI (As := [.int a1]) (st := []) O lk_RX6_185 (k_X6_isWind c3) rfl rfl ⟨rfl, rfl⟩ ⟨Nat.le_of_ble_eq_true rfl, Nat.le_of_ble_eq_true rfl⟩ rfl (Nat.le_of_ble_eq_true rfl) dX6_wind_1 ?_
  refine s_if_eq (tgt := 19) O dX6_wind_4 (by decide) (fun c => ?_) (fun c => ?_)
  · replace hf := if_t c hf
    refine s_iconst (v := (-1)) O dX6_wind_19 rfl ?_
    exact s_iret hret rfl dX6_wind_20 hf
  · replace hf := if_f c hf
    refine s_aload_n O 0 dX6_wind_7 rfl rfl ?_
    refine s_getR O fg_RX6_7 ms_0 rfl dX6_wind_8 ?_
    refine s_bipush (v := 28) O dX6_wind_11 rfl ?_
    refine s_iload_n O 1 dX6_wind_13 rfl rfl ?_
    refine s_iadd O dX6_wind_14 ?_
    obtain ⟨h4, hf⟩ := gd_e hf
    refine s_iald O ms_1 h4 dX6_wind_15 ?_
    refine s_goto (tgt := 20) O dX6_wind_16 (by decide) ?_
    exact s_iret hret rfl dX6_wind_20 hf
def rm_X6_isPart : Room := { frames := 1, cells := 0, slots := 0, locals := 25 }
def f_X6_isPart (a0 : Int32) (s0 : StA) : Option (StA × Int32) :=
  bn (f_X6_in a0.toInt64 0 1 s0) (fun s1 r2 => gz r2 (some (s1, r2)))
set_option maxHeartbeats 4000000 in
set_option maxRecDepth 100000 in
theorem k_X6_isPart {a0 : Int32} {s0 zs : StA} {rr : Int32} (hf : f_X6_isPart a0 s0 = some (zs, rr)) : CtI mM yX6_isPart cX6_isPart 1 .boolean rm_X6_isPart (fun ph => [.int a0]) s0 zs rr := by
  refine CtI.of (by decide +kernel) (fun ph => Nat.le_of_ble_eq_true rfl) (fun E O hret => ?_)
  have O : OK mM E RX6 cX6_isPart 1 rm_X6_isPart := O
  show WS mM E 1 0 [(0, .int a0)] [] s0
  unfold f_X6_isPart at hf
  refine s_iload_n O 0 dX6_isPart_0 rfl rfl ?_
  refine s_i2l O dX6_isPart_1 ?_
  refine s_lconst (v := 0) O dX6_isPart_2 rfl ?_
  refine s_lconst (v := 1) O dX6_isPart_3 rfl ?_
  obtain ⟨s1, r2, c3, hf⟩ := bn_e hf
  refine s_SI (As := [.long a0.toInt64, .long 0, .long 1]) (st := []) O lk_RX6_69 (k_X6_in c3) rfl rfl ⟨rfl, rfl⟩ ⟨Nat.le_of_ble_eq_true rfl, Nat.le_of_ble_eq_true rfl⟩ rfl (Nat.le_of_ble_eq_true rfl) dX6_isPart_4 ?_
  obtain ⟨hz, hf⟩ := gz_e hf
  exact s_iret hret hz.nar dX6_isPart_7 hf
def rm_X6_saying : Room := { frames := 2, cells := 0, slots := 0, locals := 45 }
def f_X6_saying (a1 : Int32) (a2 : Int32) (s0 : StA) : Option (StA × Int32) :=
  gd 33 189 (bn (f_X6_in a1.toInt64 0 ((gi s0 1 (33 : Int32).toNatClampNeg) - 1).toInt64 s0) (fun s2 r3 => (if r3 = 0 then some (s2, (-1)) else bn (f_X6_isPart a2 s2) (fun s5 r6 => (if r6 = 0 then some (s5, (-1)) else gd ((34 + (2 * a1)) + a2) 189 (some (s5, (gi s5 1 ((34 + (2 * a1)) + a2).toNatClampNeg))))))))
set_option maxHeartbeats 4000000 in
set_option maxRecDepth 100000 in
theorem k_X6_saying {a1 : Int32} {a2 : Int32} {s0 zs : StA} {rr : Int32} (hf : f_X6_saying a1 a2 s0 = some (zs, rr)) : CtI mM yX6_saying cX6_saying 3 .int rm_X6_saying (fun ph => [.ref (ph 0), .int a1, .int a2]) s0 zs rr := by
  refine CtI.of (by decide +kernel) (fun ph => Nat.le_of_ble_eq_true rfl) (fun E O hret => ?_)
  have O : OK mM E RX6 cX6_saying 3 rm_X6_saying := O
  show WS mM E 3 0 [(0, rf E 0), (1, .int a1), (2, .int a2)] [] s0
  unfold f_X6_saying at hf
  refine s_iload_n O 1 dX6_saying_0 rfl rfl ?_
  refine s_i2l O dX6_saying_1 ?_
  refine s_lconst (v := 0) O dX6_saying_2 rfl ?_
  refine s_aload_n O 0 dX6_saying_3 rfl rfl ?_
  refine s_getR O fg_RX6_7 ms_0 rfl dX6_saying_4 ?_
  refine s_bipush (v := 33) O dX6_saying_7 rfl ?_
  obtain ⟨h1, hf⟩ := gd_e hf
  refine s_iald O ms_1 h1 dX6_saying_9 ?_
  refine s_iconst (v := 1) O dX6_saying_10 rfl ?_
  refine s_isub O dX6_saying_11 ?_
  refine s_i2l O dX6_saying_12 ?_
  obtain ⟨s2, r3, c4, hf⟩ := bn_e hf
  refine s_SI (As := [.long a1.toInt64, .long 0, .long ((gi s0 1 (33 : Int32).toNatClampNeg) - 1).toInt64]) (st := []) O lk_RX6_69 (k_X6_in c4) rfl rfl ⟨rfl, rfl⟩ ⟨Nat.le_of_ble_eq_true rfl, Nat.le_of_ble_eq_true rfl⟩ rfl (Nat.le_of_ble_eq_true rfl) dX6_saying_13 ?_
  refine s_if_eq (tgt := 42) O dX6_saying_16 (by decide) (fun c => ?_) (fun c => ?_)
  · replace hf := if_t c hf
    refine s_iconst (v := (-1)) O dX6_saying_42 rfl ?_
    exact s_iret hret rfl dX6_saying_43 hf
  · replace hf := if_f c hf
    refine s_iload_n O 2 dX6_saying_19 rfl rfl ?_
    obtain ⟨s5, r6, c7, hf⟩ := bn_e hf
    refine s_SI (As := [.int a2]) (st := []) O lk_RX6_188 (k_X6_isPart c7) rfl rfl ⟨rfl, rfl⟩ ⟨Nat.le_of_ble_eq_true rfl, Nat.le_of_ble_eq_true rfl⟩ rfl (Nat.le_of_ble_eq_true rfl) dX6_saying_20 ?_
    refine s_if_eq (tgt := 42) O dX6_saying_23 (by decide) (fun c => ?_) (fun c => ?_)
    · replace hf := if_t c hf
      refine s_iconst (v := (-1)) O dX6_saying_42 rfl ?_
      exact s_iret hret rfl dX6_saying_43 hf
    · replace hf := if_f c hf
      refine s_aload_n O 0 dX6_saying_26 rfl rfl ?_
      refine s_getR O fg_RX6_7 ms_0 rfl dX6_saying_27 ?_
      refine s_bipush (v := 34) O dX6_saying_30 rfl ?_
      refine s_iconst (v := 2) O dX6_saying_32 rfl ?_
      refine s_iload_n O 1 dX6_saying_33 rfl rfl ?_
      refine s_imul O dX6_saying_34 ?_
      refine s_iadd O dX6_saying_35 ?_
      refine s_iload_n O 2 dX6_saying_36 rfl rfl ?_
      refine s_iadd O dX6_saying_37 ?_
      obtain ⟨h8, hf⟩ := gd_e hf
      refine s_iald O ms_1 h8 dX6_saying_38 ?_
      refine s_goto (tgt := 43) O dX6_saying_39 (by decide) ?_
      exact s_iret hret rfl dX6_saying_43 hf
def rm_X6_becomes : Room := { frames := 0, cells := 0, slots := 0, locals := 0 }
def f_X6_becomes (a1 : Int32) (a2 : Int32) (s0 : StA) : Option (StA × Int32) :=
  gd a1 189 (nmi (gi s0 1 a1.toNatClampNeg) (fun n2 => gd a1 189 (nms (si s0 1 a1.toNatClampNeg a2) (fun s4 => some (s4, n2)))))
set_option maxHeartbeats 4000000 in
set_option maxRecDepth 100000 in
theorem k_X6_becomes {a1 : Int32} {a2 : Int32} {s0 zs : StA} {rr : Int32} (hf : f_X6_becomes a1 a2 s0 = some (zs, rr)) : CtI mM yX6_becomes cX6_becomes 4 .int rm_X6_becomes (fun ph => [.ref (ph 0), .int a1, .int a2]) s0 zs rr := by
  refine CtI.of (by decide +kernel) (fun ph => Nat.le_of_ble_eq_true rfl) (fun E O hret => ?_)
  have O : OK mM E RX6 cX6_becomes 4 rm_X6_becomes := O
  show WS mM E 4 0 [(0, rf E 0), (1, .int a1), (2, .int a2)] [] s0
  unfold f_X6_becomes at hf
  refine s_aload_n O 0 dX6_becomes_0 rfl rfl ?_
  refine s_getR O fg_RX6_7 ms_0 rfl dX6_becomes_1 ?_
  refine s_iload_n O 1 dX6_becomes_4 rfl rfl ?_
  obtain ⟨h1, hf⟩ := gd_e hf
  refine s_iald O ms_1 h1 dX6_becomes_5 ?_
  refine s_topi (fun n2 en2 => ?_)
  replace hf := nmi_e en2 hf
  refine s_istore_n (lv' := [(3, .int n2), (0, rf E 0), (1, .int a1), (2, .int a2)]) O dX6_becomes_6 rfl (by decide) rfl ?_
  refine s_aload_n O 1 dX6_becomes_7 rfl rfl ?_
  refine s_getR O fg_RX6_7 ms_0 rfl dX6_becomes_8 ?_
  refine s_iload_n O 2 dX6_becomes_11 rfl rfl ?_
  refine s_iload_n O 3 dX6_becomes_12 rfl rfl ?_
  obtain ⟨h3, hf⟩ := gd_e hf
  refine s_iast O ms_1 h3 dX6_becomes_13 ?_
  refine s_tops (fun s4 es4 => ?_)
  replace hf := nms_e es4 hf
  refine s_iload_n O 0 dX6_becomes_14 rfl rfl ?_
  exact s_iret hret rfl dX6_becomes_15 hf
def rm_X6_alter : Room := { frames := 2, cells := 0, slots := 0, locals := 46 }
def fj_X6_alter_j50 (a1 : Int32) (a2 : Int32) (a3 : Int32)  (y0 : Int32) (s0 : StA) : Option (StA × (Int32)) :=
  bn (f_X6_isThing a1 s0) (fun s1 r2 => (if r2 = 0 then some (s1, (-1)) else (if y0 = 0 then some (s1, (-1)) else bn (f_X6_becomes ((4 * a1) + a2) a3 s1) (fun s4 r5 => some (s4, r5)))))
set_option maxHeartbeats 4000000 in
set_option maxRecDepth 100000 in
theorem wj_X6_alter_j50 {E : XC} (O : OK mM E RX6 cX6_alter 5 rm_X6_alter) {a1 : Int32} {a2 : Int32} {a3 : Int32}   {y0 : Int32} {s0 : StA} {zs : StA} {rr : Int32} (hret : ReI mM E .int cX6_alter zs rr) (hf : fj_X6_alter_j50 a1 a2 a3 y0 s0 = some (zs, rr)) : WS mM E 5 50 [(0, rf E 0), (1, .int a1), (2, .int a2), (3, .int a3)] [.int y0] s0 := by
  unfold fj_X6_alter_j50 at hf
  refine s_istore (lv' := [(4, .int y0), (0, rf E 0), (1, .int a1), (2, .int a2), (3, .int a3)]) O dX6_alter_50 (by decide) rfl ?_
  refine s_aload_n O 1 dX6_alter_52 rfl rfl ?_
  refine s_iload_n O 2 dX6_alter_53 rfl rfl ?_
  obtain ⟨s1, r2, c3, hf⟩ := bn_e hf
  refine s_VI (As := [.int a1]) (st := []) O lk_RX6_181 (k_X6_isThing c3) rfl ms_0 rfl rfl ⟨rfl, rfl⟩ ⟨Nat.le_of_ble_eq_true rfl, Nat.le_of_ble_eq_true rfl⟩ rfl (Nat.le_of_ble_eq_true rfl) dX6_alter_54 ?_
  refine s_if_eq (tgt := 78) O dX6_alter_57 (by decide) (fun c => ?_) (fun c => ?_)
  · replace hf := if_t c hf
    refine s_iconst (v := (-1)) O dX6_alter_78 rfl ?_
    exact s_iret hret rfl dX6_alter_79 hf
  · replace hf := if_f c hf
    refine s_iload O 0 dX6_alter_60 rfl ?_
    refine s_if_eq (tgt := 78) O dX6_alter_62 (by decide) (fun c => ?_) (fun c => ?_)
    · replace hf := if_t c hf
      refine s_iconst (v := (-1)) O dX6_alter_78 rfl ?_
      exact s_iret hret rfl dX6_alter_79 hf
    · replace hf := if_f c hf
      refine s_aload_n O 1 dX6_alter_65 rfl rfl ?_
      refine s_iconst (v := 4) O dX6_alter_66 rfl ?_
      refine s_iload_n O 2 dX6_alter_67 rfl rfl ?_
      refine s_imul O dX6_alter_68 ?_
      refine s_iload_n O 3 dX6_alter_69 rfl rfl ?_
      refine s_iadd O dX6_alter_70 ?_
      refine s_iload_n O 4 dX6_alter_71 rfl rfl ?_
      obtain ⟨s4, r5, c6, hf⟩ := bn_e hf
      refine s_VI (As := [.int ((4 * a1) + a2), .int a3]) (st := []) O lk_RX6_195 (k_X6_becomes c6) rfl ms_0 rfl rfl ⟨rfl, rfl⟩ ⟨Nat.le_of_ble_eq_true rfl, Nat.le_of_ble_eq_true rfl⟩ rfl (Nat.le_of_ble_eq_true rfl) dX6_alter_72 ?_
      refine s_goto (tgt := 79) O dX6_alter_75 (by decide) ?_
      exact s_iret hret rfl dX6_alter_79 hf
def fj_X6_alter_j49 (a1 : Int32) (a2 : Int32) (a3 : Int32)   (s0 : StA) : Option (StA × (Int32)) :=
  fj_X6_alter_j50 a1 a2 a3 0 s0
set_option maxHeartbeats 4000000 in
set_option maxRecDepth 100000 in
theorem wj_X6_alter_j49 {E : XC} (O : OK mM E RX6 cX6_alter 5 rm_X6_alter) {a1 : Int32} {a2 : Int32} {a3 : Int32}    {s0 : StA} {zs : StA} {rr : Int32} (hret : ReI mM E .int cX6_alter zs rr) (hf : fj_X6_alter_j49 a1 a2 a3 s0 = some (zs, rr)) : WS mM E 5 49 [(0, rf E 0), (1, .int a1), (2, .int a2), (3, .int a3)] [] s0 := by
  unfold fj_X6_alter_j49 at hf
  refine s_iconst (v := 0) O dX6_alter_49 rfl ?_
  exact wj_X6_alter_j50 (rr := rr) O   hret hf
def f_X6_alter (a1 : Int32) (a2 : Int32) (a3 : Int32) (s0 : StA) : Option (StA × Int32) :=
  (if a2 = 0 then bn (f_X6_in a3.toInt64 0 3 s0) (fun s13 r14 => fj_X6_alter_j50 a1 a2 a3 r14 s13) else (if a2 = 1 then bn (f_X6_in a3.toInt64 1 9 s0) (fun s10 r11 => fj_X6_alter_j50 a1 a2 a3 r11 s10) else (if a2 = 2 then bn (f_X6_isPart a3 s0) (fun s7 r8 => (if r8 = 0 then fj_X6_alter_j49 a1 a2 a3 s7 else fj_X6_alter_j50 a1 a2 a3 1 s7)) else fj_X6_alter_j49 a1 a2 a3 s0)))
set_option maxHeartbeats 4000000 in
set_option maxRecDepth 100000 in
theorem k_X6_alter {a1 : Int32} {a2 : Int32} {a3 : Int32} {s0 zs : StA} {rr : Int32} (hf : f_X6_alter a1 a2 a3 s0 = some (zs, rr)) : CtI mM yX6_alter cX6_alter 5 .int rm_X6_alter (fun ph => [.ref (ph 0), .int a1, .int a2, .int a3]) s0 zs rr := by
  refine CtI.of (by decide +kernel) (fun ph => Nat.le_of_ble_eq_true rfl) (fun E O hret => ?_)
  have O : OK mM E RX6 cX6_alter 5 rm_X6_alter := O
  show WS mM E 5 0 [(0, rf E 0), (1, .int a1), (2, .int a2), (3, .int a3)] [] s0
  unfold f_X6_alter at hf
  refine s_iload_n O 2 dX6_alter_0 rfl rfl ?_
  refine s_if_ne (tgt := 16) O dX6_alter_1 (by decide) (fun c => ?_) (fun c => ?_)
  · replace hf := if_f c hf
    refine s_iload_n O 2 dX6_alter_16 rfl rfl ?_
    refine s_iconst (v := 1) O dX6_alter_17 rfl ?_
    refine s_icmp_ne (tgt := 33) O dX6_alter_18 (by decide) (fun c => ?_) (fun c => ?_)
    · replace hf := if_f c hf
      refine s_iload_n O 2 dX6_alter_33 rfl rfl ?_
      refine s_iconst (v := 2) O dX6_alter_34 rfl ?_
      refine s_icmp_ne (tgt := 49) O dX6_alter_35 (by decide) (fun c => ?_) (fun c => ?_)
      · replace hf := if_f c hf
        exact wj_X6_alter_j49 (rr := rr) O   hret hf
      · replace hf := if_t c hf
        refine s_iload_n O 3 dX6_alter_38 rfl rfl ?_
        obtain ⟨s7, r8, c9, hf⟩ := bn_e hf
        refine s_SI (As := [.int a3]) (st := []) O lk_RX6_188 (k_X6_isPart c9) rfl rfl ⟨rfl, rfl⟩ ⟨Nat.le_of_ble_eq_true rfl, Nat.le_of_ble_eq_true rfl⟩ rfl (Nat.le_of_ble_eq_true rfl) dX6_alter_39 ?_
        refine s_if_eq (tgt := 49) O dX6_alter_42 (by decide) (fun c => ?_) (fun c => ?_)
        · replace hf := if_t c hf
          exact wj_X6_alter_j49 (rr := rr) O   hret hf
        · replace hf := if_f c hf
          refine s_iconst (v := 1) O dX6_alter_45 rfl ?_
          refine s_goto (tgt := 50) O dX6_alter_46 (by decide) ?_
          exact wj_X6_alter_j50 (rr := rr) O   hret hf
    · replace hf := if_t c hf
      refine s_iload_n O 3 dX6_alter_21 rfl rfl ?_
      refine s_i2l O dX6_alter_22 ?_
      refine s_lconst (v := 1) O dX6_alter_23 rfl ?_
      refine s_ldc2 O cl_RX6_193 dX6_alter_24 ?_
      obtain ⟨s10, r11, c12, hf⟩ := bn_e hf
      refine s_SI (As := [.long a3.toInt64, .long 1, .long 9]) (st := []) O lk_RX6_69 (k_X6_in c12) rfl rfl ⟨rfl, rfl⟩ ⟨Nat.le_of_ble_eq_true rfl, Nat.le_of_ble_eq_true rfl⟩ rfl (Nat.le_of_ble_eq_true rfl) dX6_alter_27 ?_
      refine s_goto (tgt := 50) O dX6_alter_30 (by decide) ?_
      exact wj_X6_alter_j50 (rr := rr) O   hret hf
  · replace hf := if_t c hf
    refine s_iload_n O 3 dX6_alter_4 rfl rfl ?_
    refine s_i2l O dX6_alter_5 ?_
    refine s_lconst (v := 0) O dX6_alter_6 rfl ?_
    refine s_ldc2 O cl_RX6_191 dX6_alter_7 ?_
    obtain ⟨s13, r14, c15, hf⟩ := bn_e hf
    refine s_SI (As := [.long a3.toInt64, .long 0, .long 3]) (st := []) O lk_RX6_69 (k_X6_in c15) rfl rfl ⟨rfl, rfl⟩ ⟨Nat.le_of_ble_eq_true rfl, Nat.le_of_ble_eq_true rfl⟩ rfl (Nat.le_of_ble_eq_true rfl) dX6_alter_10 ?_
    refine s_goto (tgt := 50) O dX6_alter_13 (by decide) ?_
    exact wj_X6_alter_j50 (rr := rr) O   hret hf
def rm_X6_blow : Room := { frames := 2, cells := 0, slots := 0, locals := 45 }
def f_X6_blow (a1 : Int32) (a2 : Int32) (s0 : StA) : Option (StA × Int32) :=
  bn (f_X6_isWind a1 s0) (fun s1 r2 => (if r2 = 0 then some (s1, (-1)) else bn (f_X6_in a2.toInt64 0 8 s1) (fun s4 r5 => (if r5 = 0 then some (s4, (-1)) else bn (f_X6_becomes (28 + a1) a2 s4) (fun s7 r8 => some (s7, r8))))))
set_option maxHeartbeats 4000000 in
set_option maxRecDepth 100000 in
theorem k_X6_blow {a1 : Int32} {a2 : Int32} {s0 zs : StA} {rr : Int32} (hf : f_X6_blow a1 a2 s0 = some (zs, rr)) : CtI mM yX6_blow cX6_blow 3 .int rm_X6_blow (fun ph => [.ref (ph 0), .int a1, .int a2]) s0 zs rr := by
  refine CtI.of (by decide +kernel) (fun ph => Nat.le_of_ble_eq_true rfl) (fun E O hret => ?_)
  have O : OK mM E RX6 cX6_blow 3 rm_X6_blow := O
  show WS mM E 3 0 [(0, rf E 0), (1, .int a1), (2, .int a2)] [] s0
  unfold f_X6_blow at hf
  refine s_iload_n O 1 dX6_blow_0 rfl rfl ?_
  obtain ⟨s1, r2, c3, hf⟩ := bn_e hf
  refine s_SI (As := [.int a1]) (st := []) O lk_RX6_185 (k_X6_isWind c3) rfl rfl ⟨rfl, rfl⟩ ⟨Nat.le_of_ble_eq_true rfl, Nat.le_of_ble_eq_true rfl⟩ rfl (Nat.le_of_ble_eq_true rfl) dX6_blow_1 ?_
  refine s_if_eq (tgt := 31) O dX6_blow_4 (by decide) (fun c => ?_) (fun c => ?_)
  · replace hf := if_t c hf
    refine s_iconst (v := (-1)) O dX6_blow_31 rfl ?_
    exact s_iret hret rfl dX6_blow_32 hf
  · replace hf := if_f c hf
    refine s_iload_n O 2 dX6_blow_7 rfl rfl ?_
    refine s_i2l O dX6_blow_8 ?_
    refine s_lconst (v := 0) O dX6_blow_9 rfl ?_
    refine s_ldc2 O cl_RX6_198 dX6_blow_10 ?_
    obtain ⟨s4, r5, c6, hf⟩ := bn_e hf
    refine s_SI (As := [.long a2.toInt64, .long 0, .long 8]) (st := []) O lk_RX6_69 (k_X6_in c6) rfl rfl ⟨rfl, rfl⟩ ⟨Nat.le_of_ble_eq_true rfl, Nat.le_of_ble_eq_true rfl⟩ rfl (Nat.le_of_ble_eq_true rfl) dX6_blow_13 ?_
    refine s_if_eq (tgt := 31) O dX6_blow_16 (by decide) (fun c => ?_) (fun c => ?_)
    · replace hf := if_t c hf
      refine s_iconst (v := (-1)) O dX6_blow_31 rfl ?_
      exact s_iret hret rfl dX6_blow_32 hf
    · replace hf := if_f c hf
      refine s_aload_n O 0 dX6_blow_19 rfl rfl ?_
      refine s_bipush (v := 28) O dX6_blow_20 rfl ?_
      refine s_iload_n O 1 dX6_blow_22 rfl rfl ?_
      refine s_iadd O dX6_blow_23 ?_
      refine s_iload_n O 2 dX6_blow_24 rfl rfl ?_
      obtain ⟨s7, r8, c9, hf⟩ := bn_e hf
      refine s_VI (As := [.int (28 + a1), .int a2]) (st := []) O lk_RX6_195 (k_X6_becomes c9) rfl ms_0 rfl rfl ⟨rfl, rfl⟩ ⟨Nat.le_of_ble_eq_true rfl, Nat.le_of_ble_eq_true rfl⟩ rfl (Nat.le_of_ble_eq_true rfl) dX6_blow_25 ?_
      refine s_goto (tgt := 32) O dX6_blow_28 (by decide) ?_
      exact s_iret hret rfl dX6_blow_32 hf
def rm_X6_rate : Room := { frames := 1, cells := 0, slots := 0, locals := 25 }
def f_X6_rate (a1 : Int32) (s0 : StA) : Option (StA × Int32) :=
  bn (f_X6_in a1.toInt64 1 9 s0) (fun s1 r2 => (if r2 = 0 then some (s1, (-1)) else bn (f_X6_becomes 26 a1 s1) (fun s4 r5 => some (s4, r5))))
set_option maxHeartbeats 4000000 in
set_option maxRecDepth 100000 in
theorem k_X6_rate {a1 : Int32} {s0 zs : StA} {rr : Int32} (hf : f_X6_rate a1 s0 = some (zs, rr)) : CtI mM yX6_rate cX6_rate 2 .int rm_X6_rate (fun ph => [.ref (ph 0), .int a1]) s0 zs rr := by
  refine CtI.of (by decide +kernel) (fun ph => Nat.le_of_ble_eq_true rfl) (fun E O hret => ?_)
  have O : OK mM E RX6 cX6_rate 2 rm_X6_rate := O
  show WS mM E 2 0 [(0, rf E 0), (1, .int a1)] [] s0
  unfold f_X6_rate at hf
  refine s_iload_n O 1 dX6_rate_0 rfl rfl ?_
  refine s_i2l O dX6_rate_1 ?_
  refine s_lconst (v := 1) O dX6_rate_2 rfl ?_
  refine s_ldc2 O cl_RX6_193 dX6_rate_3 ?_
  obtain ⟨s1, r2, c3, hf⟩ := bn_e hf
  refine s_SI (As := [.long a1.toInt64, .long 1, .long 9]) (st := []) O lk_RX6_69 (k_X6_in c3) rfl rfl ⟨rfl, rfl⟩ ⟨Nat.le_of_ble_eq_true rfl, Nat.le_of_ble_eq_true rfl⟩ rfl (Nat.le_of_ble_eq_true rfl) dX6_rate_6 ?_
  refine s_if_eq (tgt := 22) O dX6_rate_9 (by decide) (fun c => ?_) (fun c => ?_)
  · replace hf := if_t c hf
    refine s_iconst (v := (-1)) O dX6_rate_22 rfl ?_
    exact s_iret hret rfl dX6_rate_23 hf
  · replace hf := if_f c hf
    refine s_aload_n O 0 dX6_rate_12 rfl rfl ?_
    refine s_bipush (v := 26) O dX6_rate_13 rfl ?_
    refine s_iload_n O 1 dX6_rate_15 rfl rfl ?_
    obtain ⟨s4, r5, c6, hf⟩ := bn_e hf
    refine s_VI (As := [.int 26, .int a1]) (st := []) O lk_RX6_195 (k_X6_becomes c6) rfl ms_0 rfl rfl ⟨rfl, rfl⟩ ⟨Nat.le_of_ble_eq_true rfl, Nat.le_of_ble_eq_true rfl⟩ rfl (Nat.le_of_ble_eq_true rfl) dX6_rate_16 ?_
    refine s_goto (tgt := 23) O dX6_rate_19 (by decide) ?_
    exact s_iret hret rfl dX6_rate_23 hf
def rm_X6_saidBecomes : Room := { frames := 3, cells := 0, slots := 0, locals := 67 }
def f_X6_saidBecomes (a1 : Int32) (a2 : Int32) (s0 : StA) : Option (StA × Int32) :=
  bn (f_X6_isThing a1 s0) (fun s1 r2 => (if r2 = 0 then some (s1, (-1)) else gd ((4 * a1) + 3) 189 ((if (gi s1 1 ((4 * a1) + 3).toNatClampNeg) = a2 then some (s1, (-2)) else gd ((4 * a1) + 3) 189 (nms (si s1 1 (((4 * a1) + 3).toNatClampNeg) a2) (fun s6 => bn (f_X6_starts  s6) (fun s7 r8 => bn (f_X6_liftNow  s7) (fun s10 r11 => some (s10, r11)))))))))
set_option maxHeartbeats 4000000 in
set_option maxRecDepth 100000 in
theorem k_X6_saidBecomes {a1 : Int32} {a2 : Int32} {s0 zs : StA} {rr : Int32} (hf : f_X6_saidBecomes a1 a2 s0 = some (zs, rr)) : CtI mM yX6_saidBecomes cX6_saidBecomes 3 .int rm_X6_saidBecomes (fun ph => [.ref (ph 0), .int a1, .int a2]) s0 zs rr := by
  refine CtI.of (by decide +kernel) (fun ph => Nat.le_of_ble_eq_true rfl) (fun E O hret => ?_)
  have O : OK mM E RX6 cX6_saidBecomes 3 rm_X6_saidBecomes := O
  show WS mM E 3 0 [(0, rf E 0), (1, .int a1), (2, .int a2)] [] s0
  unfold f_X6_saidBecomes at hf
  refine s_aload_n O 0 dX6_saidBecomes_0 rfl rfl ?_
  refine s_iload_n O 1 dX6_saidBecomes_1 rfl rfl ?_
  obtain ⟨s1, r2, c3, hf⟩ := bn_e hf
  refine s_VI (As := [.int a1]) (st := []) O lk_RX6_181 (k_X6_isThing c3) rfl ms_0 rfl rfl ⟨rfl, rfl⟩ ⟨Nat.le_of_ble_eq_true rfl, Nat.le_of_ble_eq_true rfl⟩ rfl (Nat.le_of_ble_eq_true rfl) dX6_saidBecomes_2 ?_
  refine s_if_ne (tgt := 10) O dX6_saidBecomes_5 (by decide) (fun c => ?_) (fun c => ?_)
  · replace hf := if_f c hf
    refine s_aload_n O 0 dX6_saidBecomes_10 rfl rfl ?_
    refine s_getR O fg_RX6_7 ms_0 rfl dX6_saidBecomes_11 ?_
    refine s_iconst (v := 4) O dX6_saidBecomes_14 rfl ?_
    refine s_iload_n O 1 dX6_saidBecomes_15 rfl rfl ?_
    refine s_imul O dX6_saidBecomes_16 ?_
    refine s_iconst (v := 3) O dX6_saidBecomes_17 rfl ?_
    refine s_iadd O dX6_saidBecomes_18 ?_
    obtain ⟨h4, hf⟩ := gd_e hf
    refine s_iald O ms_1 h4 dX6_saidBecomes_19 ?_
    refine s_iload_n O 2 dX6_saidBecomes_20 rfl rfl ?_
    refine s_icmp_ne (tgt := 27) O dX6_saidBecomes_21 (by decide) (fun c => ?_) (fun c => ?_)
    · replace hf := if_f c hf
      refine s_aload_n O 0 dX6_saidBecomes_27 rfl rfl ?_
      refine s_getR O fg_RX6_7 ms_0 rfl dX6_saidBecomes_28 ?_
      refine s_iconst (v := 4) O dX6_saidBecomes_31 rfl ?_
      refine s_iload_n O 1 dX6_saidBecomes_32 rfl rfl ?_
      refine s_imul O dX6_saidBecomes_33 ?_
      refine s_iconst (v := 3) O dX6_saidBecomes_34 rfl ?_
      refine s_iadd O dX6_saidBecomes_35 ?_
      refine s_iload_n O 2 dX6_saidBecomes_36 rfl rfl ?_
      obtain ⟨h5, hf⟩ := gd_e hf
      refine s_iast O ms_1 h5 dX6_saidBecomes_37 ?_
      refine s_tops (fun s6 es6 => ?_)
      replace hf := nms_e es6 hf
      refine s_aload_n O 0 dX6_saidBecomes_38 rfl rfl ?_
      obtain ⟨s7, r8, c9, hf⟩ := bn_e hf
      refine s_VV (As := []) (st := []) O lk_RX6_175 (k_X6_starts c9) rfl ms_0 rfl rfl ⟨rfl, rfl⟩ ⟨Nat.le_of_ble_eq_true rfl, Nat.le_of_ble_eq_true rfl⟩ rfl (Nat.le_of_ble_eq_true rfl) dX6_saidBecomes_39 ?_
      refine s_aload_n O 0 dX6_saidBecomes_42 rfl rfl ?_
      obtain ⟨s10, r11, c12, hf⟩ := bn_e hf
      refine s_VI (As := []) (st := []) O lk_RX6_169 (k_X6_liftNow c12) rfl ms_0 rfl rfl ⟨rfl, rfl⟩ ⟨Nat.le_of_ble_eq_true rfl, Nat.le_of_ble_eq_true rfl⟩ rfl (Nat.le_of_ble_eq_true rfl) dX6_saidBecomes_43 ?_
      exact s_iret hret rfl dX6_saidBecomes_46 hf
    · replace hf := if_t c hf
      refine s_bipush (v := (-2)) O dX6_saidBecomes_24 rfl ?_
      exact s_iret hret rfl dX6_saidBecomes_26 hf
  · replace hf := if_t c hf
    refine s_iconst (v := (-1)) O dX6_saidBecomes_8 rfl ?_
    exact s_iret hret rfl dX6_saidBecomes_9 hf
def rm_X6_say : Room := { frames := 4, cells := 0, slots := 0, locals := 89 }
def f_X6_say (a1 : Int32) (s0 : StA) : Option (StA × Int32) :=
  bn (f_X6_saidBecomes a1 1 s0) (fun s1 r2 => some (s1, r2))
set_option maxHeartbeats 4000000 in
set_option maxRecDepth 100000 in
theorem k_X6_say {a1 : Int32} {s0 zs : StA} {rr : Int32} (hf : f_X6_say a1 s0 = some (zs, rr)) : CtI mM yX6_say cX6_say 2 .int rm_X6_say (fun ph => [.ref (ph 0), .int a1]) s0 zs rr := by
  refine CtI.of (by decide +kernel) (fun ph => Nat.le_of_ble_eq_true rfl) (fun E O hret => ?_)
  have O : OK mM E RX6 cX6_say 2 rm_X6_say := O
  show WS mM E 2 0 [(0, rf E 0), (1, .int a1)] [] s0
  unfold f_X6_say at hf
  refine s_aload_n O 0 dX6_say_0 rfl rfl ?_
  refine s_iload_n O 1 dX6_say_1 rfl rfl ?_
  refine s_iconst (v := 1) O dX6_say_2 rfl ?_
  obtain ⟨s1, r2, c3, hf⟩ := bn_e hf
  refine s_VI (As := [.int a1, .int 1]) (st := []) O lk_RX6_200 (k_X6_saidBecomes c3) rfl ms_0 rfl rfl ⟨rfl, rfl⟩ ⟨Nat.le_of_ble_eq_true rfl, Nat.le_of_ble_eq_true rfl⟩ rfl (Nat.le_of_ble_eq_true rfl) dX6_say_3 ?_
  exact s_iret hret rfl dX6_say_6 hf
def rm_X6_take : Room := { frames := 4, cells := 0, slots := 0, locals := 89 }
def f_X6_take (a1 : Int32) (s0 : StA) : Option (StA × Int32) :=
  bn (f_X6_saidBecomes a1 0 s0) (fun s1 r2 => some (s1, r2))
set_option maxHeartbeats 4000000 in
set_option maxRecDepth 100000 in
theorem k_X6_take {a1 : Int32} {s0 zs : StA} {rr : Int32} (hf : f_X6_take a1 s0 = some (zs, rr)) : CtI mM yX6_take cX6_take 2 .int rm_X6_take (fun ph => [.ref (ph 0), .int a1]) s0 zs rr := by
  refine CtI.of (by decide +kernel) (fun ph => Nat.le_of_ble_eq_true rfl) (fun E O hret => ?_)
  have O : OK mM E RX6 cX6_take 2 rm_X6_take := O
  show WS mM E 2 0 [(0, rf E 0), (1, .int a1)] [] s0
  unfold f_X6_take at hf
  refine s_aload_n O 0 dX6_take_0 rfl rfl ?_
  refine s_iload_n O 1 dX6_take_1 rfl rfl ?_
  refine s_iconst (v := 0) O dX6_take_2 rfl ?_
  obtain ⟨s1, r2, c3, hf⟩ := bn_e hf
  refine s_VI (As := [.int a1, .int 0]) (st := []) O lk_RX6_200 (k_X6_saidBecomes c3) rfl ms_0 rfl rfl ⟨rfl, rfl⟩ ⟨Nat.le_of_ble_eq_true rfl, Nat.le_of_ble_eq_true rfl⟩ rfl (Nat.le_of_ble_eq_true rfl) dX6_take_3 ?_
  exact s_iret hret rfl dX6_take_6 hf
def rm_X6_plan : Room := { frames := 2, cells := 0, slots := 0, locals := 46 }
def f_X6_plan (a1 : Int32) (a2 : Int32) (s0 : StA) : Option (StA × Int32) :=
  bn (f_X6_in a1.toInt64 0 99 s0) (fun s1 r2 => (if r2 = 0 then some (s1, (-1)) else bn (f_X6_isThing a2 s1) (fun s4 r5 => (if r5 = 0 then some (s4, (-1)) else gd 33 189 ((if (gi s4 1 (33 : Int32).toNatClampNeg) = 8 then some (s4, (-3)) else gd 33 189 (nmi (34 + (2 * (gi s4 1 (33 : Int32).toNatClampNeg))) (fun n9 => gd n9 189 (nms (si s4 1 n9.toNatClampNeg a1) (fun s11 => gd (n9 + 1) 189 (nms (si s11 1 ((n9 + 1).toNatClampNeg) a2) (fun s13 => gd 33 189 (gd 33 189 (nms (si s13 1 ((33 : Int32).toNatClampNeg) ((gi s13 1 (33 : Int32).toNatClampNeg) + 1)) (fun s16 => gd 33 189 (some (s16, (gi s16 1 (33 : Int32).toNatClampNeg))))))))))))))))))
set_option maxHeartbeats 4000000 in
set_option maxRecDepth 100000 in
theorem k_X6_plan {a1 : Int32} {a2 : Int32} {s0 zs : StA} {rr : Int32} (hf : f_X6_plan a1 a2 s0 = some (zs, rr)) : CtI mM yX6_plan cX6_plan 4 .int rm_X6_plan (fun ph => [.ref (ph 0), .int a1, .int a2]) s0 zs rr := by
  refine CtI.of (by decide +kernel) (fun ph => Nat.le_of_ble_eq_true rfl) (fun E O hret => ?_)
  have O : OK mM E RX6 cX6_plan 4 rm_X6_plan := O
  show WS mM E 4 0 [(0, rf E 0), (1, .int a1), (2, .int a2)] [] s0
  unfold f_X6_plan at hf
  refine s_iload_n O 1 dX6_plan_0 rfl rfl ?_
  refine s_i2l O dX6_plan_1 ?_
  refine s_lconst (v := 0) O dX6_plan_2 rfl ?_
  refine s_ldc2 O cl_RX6_144 dX6_plan_3 ?_
  obtain ⟨s1, r2, c3, hf⟩ := bn_e hf
  refine s_SI (As := [.long a1.toInt64, .long 0, .long 99]) (st := []) O lk_RX6_69 (k_X6_in c3) rfl rfl ⟨rfl, rfl⟩ ⟨Nat.le_of_ble_eq_true rfl, Nat.le_of_ble_eq_true rfl⟩ rfl (Nat.le_of_ble_eq_true rfl) dX6_plan_6 ?_
  refine s_if_eq (tgt := 20) O dX6_plan_9 (by decide) (fun c => ?_) (fun c => ?_)
  · replace hf := if_t c hf
    refine s_iconst (v := (-1)) O dX6_plan_20 rfl ?_
    exact s_iret hret rfl dX6_plan_21 hf
  · replace hf := if_f c hf
    refine s_aload_n O 0 dX6_plan_12 rfl rfl ?_
    refine s_iload_n O 2 dX6_plan_13 rfl rfl ?_
    obtain ⟨s4, r5, c6, hf⟩ := bn_e hf
    refine s_VI (As := [.int a2]) (st := []) O lk_RX6_181 (k_X6_isThing c6) rfl ms_0 rfl rfl ⟨rfl, rfl⟩ ⟨Nat.le_of_ble_eq_true rfl, Nat.le_of_ble_eq_true rfl⟩ rfl (Nat.le_of_ble_eq_true rfl) dX6_plan_14 ?_
    refine s_if_ne (tgt := 22) O dX6_plan_17 (by decide) (fun c => ?_) (fun c => ?_)
    · replace hf := if_f c hf
      refine s_aload_n O 0 dX6_plan_22 rfl rfl ?_
      refine s_getR O fg_RX6_7 ms_0 rfl dX6_plan_23 ?_
      refine s_bipush (v := 33) O dX6_plan_26 rfl ?_
      obtain ⟨h7, hf⟩ := gd_e hf
      refine s_iald O ms_1 h7 dX6_plan_28 ?_
      refine s_bipush (v := 8) O dX6_plan_29 rfl ?_
      refine s_icmp_ne (tgt := 37) O dX6_plan_31 (by decide) (fun c => ?_) (fun c => ?_)
      · replace hf := if_f c hf
        refine s_bipush (v := 34) O dX6_plan_37 rfl ?_
        refine s_iconst (v := 2) O dX6_plan_39 rfl ?_
        refine s_aload_n O 0 dX6_plan_40 rfl rfl ?_
        refine s_getR O fg_RX6_7 ms_0 rfl dX6_plan_41 ?_
        refine s_bipush (v := 33) O dX6_plan_44 rfl ?_
        obtain ⟨h8, hf⟩ := gd_e hf
        refine s_iald O ms_1 h8 dX6_plan_46 ?_
        refine s_imul O dX6_plan_47 ?_
        refine s_iadd O dX6_plan_48 ?_
        refine s_topi (fun n9 en9 => ?_)
        replace hf := nmi_e en9 hf
        refine s_istore_n (lv' := [(3, .int n9), (0, rf E 0), (1, .int a1), (2, .int a2)]) O dX6_plan_49 rfl (by decide) rfl ?_
        refine s_aload_n O 1 dX6_plan_50 rfl rfl ?_
        refine s_getR O fg_RX6_7 ms_0 rfl dX6_plan_51 ?_
        refine s_iload_n O 0 dX6_plan_54 rfl rfl ?_
        refine s_iload_n O 2 dX6_plan_55 rfl rfl ?_
        obtain ⟨h10, hf⟩ := gd_e hf
        refine s_iast O ms_1 h10 dX6_plan_56 ?_
        refine s_tops (fun s11 es11 => ?_)
        replace hf := nms_e es11 hf
        refine s_aload_n O 1 dX6_plan_57 rfl rfl ?_
        refine s_getR O fg_RX6_7 ms_0 rfl dX6_plan_58 ?_
        refine s_iload_n O 0 dX6_plan_61 rfl rfl ?_
        refine s_iconst (v := 1) O dX6_plan_62 rfl ?_
        refine s_iadd O dX6_plan_63 ?_
        refine s_iload_n O 3 dX6_plan_64 rfl rfl ?_
        obtain ⟨h12, hf⟩ := gd_e hf
        refine s_iast O ms_1 h12 dX6_plan_65 ?_
        refine s_tops (fun s13 es13 => ?_)
        replace hf := nms_e es13 hf
        refine s_aload_n O 1 dX6_plan_66 rfl rfl ?_
        refine s_getR O fg_RX6_7 ms_0 rfl dX6_plan_67 ?_
        refine s_bipush (v := 33) O dX6_plan_70 rfl ?_
        refine s_dup2 O dX6_plan_72 rfl rfl ?_
        obtain ⟨h14, hf⟩ := gd_e hf
        refine s_iald O ms_1 h14 dX6_plan_73 ?_
        refine s_iconst (v := 1) O dX6_plan_74 rfl ?_
        refine s_iadd O dX6_plan_75 ?_
        obtain ⟨h15, hf⟩ := gd_e hf
        refine s_iast O ms_1 h15 dX6_plan_76 ?_
        refine s_tops (fun s16 es16 => ?_)
        replace hf := nms_e es16 hf
        refine s_aload_n O 1 dX6_plan_77 rfl rfl ?_
        refine s_getR O fg_RX6_7 ms_0 rfl dX6_plan_78 ?_
        refine s_bipush (v := 33) O dX6_plan_81 rfl ?_
        obtain ⟨h17, hf⟩ := gd_e hf
        refine s_iald O ms_1 h17 dX6_plan_83 ?_
        exact s_iret hret rfl dX6_plan_84 hf
      · replace hf := if_t c hf
        refine s_bipush (v := (-3)) O dX6_plan_34 rfl ?_
        exact s_iret hret rfl dX6_plan_36 hf
    · replace hf := if_t c hf
      refine s_iconst (v := (-1)) O dX6_plan_20 rfl ?_
      exact s_iret hret rfl dX6_plan_21 hf
def rm_X6_cut : Room := { frames := 1, cells := 0, slots := 0, locals := 25 }
def f_X6_cut (a1 : Int32) (s0 : StA) : Option (StA × Int32) :=
  gd 33 189 (bn (f_X6_in a1.toInt64 0 (gi s0 1 (33 : Int32).toNatClampNeg).toInt64 s0) (fun s2 r3 => (if r3 = 0 then some (s2, (-1)) else bn (f_X6_becomes 33 a1 s2) (fun s5 r6 => some (s5, r6)))))
set_option maxHeartbeats 4000000 in
set_option maxRecDepth 100000 in
theorem k_X6_cut {a1 : Int32} {s0 zs : StA} {rr : Int32} (hf : f_X6_cut a1 s0 = some (zs, rr)) : CtI mM yX6_cut cX6_cut 2 .int rm_X6_cut (fun ph => [.ref (ph 0), .int a1]) s0 zs rr := by
  refine CtI.of (by decide +kernel) (fun ph => Nat.le_of_ble_eq_true rfl) (fun E O hret => ?_)
  have O : OK mM E RX6 cX6_cut 2 rm_X6_cut := O
  show WS mM E 2 0 [(0, rf E 0), (1, .int a1)] [] s0
  unfold f_X6_cut at hf
  refine s_iload_n O 1 dX6_cut_0 rfl rfl ?_
  refine s_i2l O dX6_cut_1 ?_
  refine s_lconst (v := 0) O dX6_cut_2 rfl ?_
  refine s_aload_n O 0 dX6_cut_3 rfl rfl ?_
  refine s_getR O fg_RX6_7 ms_0 rfl dX6_cut_4 ?_
  refine s_bipush (v := 33) O dX6_cut_7 rfl ?_
  obtain ⟨h1, hf⟩ := gd_e hf
  refine s_iald O ms_1 h1 dX6_cut_9 ?_
  refine s_i2l O dX6_cut_10 ?_
  obtain ⟨s2, r3, c4, hf⟩ := bn_e hf
  refine s_SI (As := [.long a1.toInt64, .long 0, .long (gi s0 1 (33 : Int32).toNatClampNeg).toInt64]) (st := []) O lk_RX6_69 (k_X6_in c4) rfl rfl ⟨rfl, rfl⟩ ⟨Nat.le_of_ble_eq_true rfl, Nat.le_of_ble_eq_true rfl⟩ rfl (Nat.le_of_ble_eq_true rfl) dX6_cut_11 ?_
  refine s_if_eq (tgt := 27) O dX6_cut_14 (by decide) (fun c => ?_) (fun c => ?_)
  · replace hf := if_t c hf
    refine s_iconst (v := (-1)) O dX6_cut_27 rfl ?_
    exact s_iret hret rfl dX6_cut_28 hf
  · replace hf := if_f c hf
    refine s_aload_n O 0 dX6_cut_17 rfl rfl ?_
    refine s_bipush (v := 33) O dX6_cut_18 rfl ?_
    refine s_iload_n O 1 dX6_cut_20 rfl rfl ?_
    obtain ⟨s5, r6, c7, hf⟩ := bn_e hf
    refine s_VI (As := [.int 33, .int a1]) (st := []) O lk_RX6_195 (k_X6_becomes c7) rfl ms_0 rfl rfl ⟨rfl, rfl⟩ ⟨Nat.le_of_ble_eq_true rfl, Nat.le_of_ble_eq_true rfl⟩ rfl (Nat.le_of_ble_eq_true rfl) dX6_cut_21 ?_
    refine s_goto (tgt := 28) O dX6_cut_24 (by decide) ?_
    exact s_iret hret rfl dX6_cut_28 hf
def rm_X6_becomesOf : Room := { frames := 0, cells := 0, slots := 0, locals := 0 }
def f_X6_becomesOf (a1 : Int32) (a2 : Int32) (a3 : Int32) (s0 : StA) : Option (StA × Unit) :=
  gd ((4 * a1) + a2) 63 (nms (si s0 2 (((4 * a1) + a2).toNatClampNeg) a3) (fun s2 => some (s2, ())))
set_option maxHeartbeats 4000000 in
set_option maxRecDepth 100000 in
theorem k_X6_becomesOf {a1 : Int32} {a2 : Int32} {a3 : Int32} {s0 zs : StA} {rr : Unit} (hf : f_X6_becomesOf a1 a2 a3 s0 = some (zs, rr)) : CtV mM yX6_becomesOf cX6_becomesOf 4 rm_X6_becomesOf (fun ph => [.ref (ph 0), .int a1, .int a2, .int a3]) s0 zs := by
  refine CtV.of (by decide +kernel) (fun ph => Nat.le_of_ble_eq_true rfl) (fun E O hret => ?_)
  have O : OK mM E RX6 cX6_becomesOf 4 rm_X6_becomesOf := O
  show WS mM E 4 0 [(0, rf E 0), (1, .int a1), (2, .int a2), (3, .int a3)] [] s0
  unfold f_X6_becomesOf at hf
  refine s_aload_n O 0 dX6_becomesOf_0 rfl rfl ?_
  refine s_getR O fg_RX6_13 ms_0 rfl dX6_becomesOf_1 ?_
  refine s_iconst (v := 4) O dX6_becomesOf_4 rfl ?_
  refine s_iload_n O 1 dX6_becomesOf_5 rfl rfl ?_
  refine s_imul O dX6_becomesOf_6 ?_
  refine s_iload_n O 2 dX6_becomesOf_7 rfl rfl ?_
  refine s_iadd O dX6_becomesOf_8 ?_
  refine s_iload_n O 3 dX6_becomesOf_9 rfl rfl ?_
  obtain ⟨h1, hf⟩ := gd_e hf
  refine s_iast O ms_2 h1 dX6_becomesOf_10 ?_
  refine s_tops (fun s2 es2 => ?_)
  replace hf := nms_e es2 hf
  exact s_vret hret dX6_becomesOf_11 hf
def rm_X6_minuteGoes : Room := { frames := 3, cells := 0, slots := 0, locals := 67 }
def fb_X6_minuteGoes_l2   (s0 : StA) (v1 : Int32) : Option (StA × ((Int32) ⊕ (Unit))) :=
  gd 33 63 ((if (gi s0 2 (33 : Int32).toNatClampNeg) ≤ v1 then some (s0, .inr ()) else (if (((gi s0 0 17) >>> (v1 &&& 31)) &&& 1) = 0 then gd (34 + (2 * v1)) 63 (gd 27 63 ((if (gi s0 2 (34 + (2 * v1)).toNatClampNeg) = (gi s0 2 (27 : Int32).toNatClampNeg) then gd ((34 + (2 * v1)) + 1) 63 (bn (f_X6_becomesOf (gi s0 2 ((34 + (2 * v1)) + 1).toNatClampNeg) 3 1 s0) (fun s5 r6 => some (s5, .inl (v1 + 1)))) else some (s0, .inl (v1 + 1))))) else some (s0, .inl (v1 + 1)))))
set_option maxHeartbeats 4000000 in
set_option maxRecDepth 100000 in
theorem wb_X6_minuteGoes_l2 {E : XC} (O : OK mM E RX6 cX6_minuteGoes 3 rm_X6_minuteGoes)    {s0 : StA} {v1 : Int32} {zs : StA} {rr : Unit} (hret : ReV mM E cX6_minuteGoes zs) {bs : StA} {bw : (Int32) ⊕ (Unit)} (Kc : ∀ v, bw = .inl v → WS mM E 3 2 [(0, rf E 0), (1, .int v)] [] bs) (Ke : ∀ e, bw = .inr e → WS mM E 3 70 [(0, rf E 0)] [] bs) (hf : fb_X6_minuteGoes_l2  s0 v1 = some (bs, bw)) : WS mM E 3 2 [(0, rf E 0), (1, .int v1)] [] s0 := by
  unfold fb_X6_minuteGoes_l2 at hf
  refine s_iload_n O 1 dX6_minuteGoes_2 rfl rfl ?_
  refine s_aload_n O 0 dX6_minuteGoes_3 rfl rfl ?_
  refine s_getR O fg_RX6_13 ms_0 rfl dX6_minuteGoes_4 ?_
  refine s_bipush (v := 33) O dX6_minuteGoes_7 rfl ?_
  obtain ⟨h1, hf⟩ := gd_e hf
  refine s_iald O ms_2 h1 dX6_minuteGoes_9 ?_
  refine s_icmp_ge (tgt := 70) O dX6_minuteGoes_10 (by decide) (fun c => ?_) (fun c => ?_)
  · replace hf := if_t c hf
    refine s_loc [0] rfl ?_
    cases hf
    exact Ke _ rfl
  · replace hf := if_f c hf
    refine s_aload_n O 0 dX6_minuteGoes_13 rfl rfl ?_
    refine s_getI O fg_RX6_146 ms_0 rfl dX6_minuteGoes_14 ?_
    refine s_iload_n O 1 dX6_minuteGoes_17 rfl rfl ?_
    refine s_ishr O dX6_minuteGoes_18 ?_
    refine s_iconst (v := 1) O dX6_minuteGoes_19 rfl ?_
    refine s_iand O dX6_minuteGoes_20 ?_
    refine s_if_ne (tgt := 64) O dX6_minuteGoes_21 (by decide) (fun c => ?_) (fun c => ?_)
    · replace hf := if_f c hf
      refine s_iinc (v := (v1 + 1)) (lv' := [(1, .int (v1 + 1)), (0, rf E 0)]) O 1 dX6_minuteGoes_64 rfl rfl (by decide) rfl ?_
      refine s_goto (tgt := 2) O dX6_minuteGoes_67 (by decide) ?_
      refine s_loc [1, 0] rfl ?_
      cases hf
      exact Kc _ rfl
    · replace hf := if_t c hf
      refine s_aload_n O 0 dX6_minuteGoes_24 rfl rfl ?_
      refine s_getR O fg_RX6_13 ms_0 rfl dX6_minuteGoes_25 ?_
      refine s_bipush (v := 34) O dX6_minuteGoes_28 rfl ?_
      refine s_iconst (v := 2) O dX6_minuteGoes_30 rfl ?_
      refine s_iload_n O 1 dX6_minuteGoes_31 rfl rfl ?_
      refine s_imul O dX6_minuteGoes_32 ?_
      refine s_iadd O dX6_minuteGoes_33 ?_
      obtain ⟨h2, hf⟩ := gd_e hf
      refine s_iald O ms_2 h2 dX6_minuteGoes_34 ?_
      refine s_aload_n O 0 dX6_minuteGoes_35 rfl rfl ?_
      refine s_getR O fg_RX6_13 ms_0 rfl dX6_minuteGoes_36 ?_
      refine s_bipush (v := 27) O dX6_minuteGoes_39 rfl ?_
      obtain ⟨h3, hf⟩ := gd_e hf
      refine s_iald O ms_2 h3 dX6_minuteGoes_41 ?_
      refine s_icmp_ne (tgt := 64) O dX6_minuteGoes_42 (by decide) (fun c => ?_) (fun c => ?_)
      · replace hf := if_f c hf
        refine s_iinc (v := (v1 + 1)) (lv' := [(1, .int (v1 + 1)), (0, rf E 0)]) O 1 dX6_minuteGoes_64 rfl rfl (by decide) rfl ?_
        refine s_goto (tgt := 2) O dX6_minuteGoes_67 (by decide) ?_
        refine s_loc [1, 0] rfl ?_
        cases hf
        exact Kc _ rfl
      · replace hf := if_t c hf
        refine s_aload_n O 0 dX6_minuteGoes_45 rfl rfl ?_
        refine s_aload_n O 0 dX6_minuteGoes_46 rfl rfl ?_
        refine s_getR O fg_RX6_13 ms_0 rfl dX6_minuteGoes_47 ?_
        refine s_bipush (v := 34) O dX6_minuteGoes_50 rfl ?_
        refine s_iconst (v := 2) O dX6_minuteGoes_52 rfl ?_
        refine s_iload_n O 1 dX6_minuteGoes_53 rfl rfl ?_
        refine s_imul O dX6_minuteGoes_54 ?_
        refine s_iadd O dX6_minuteGoes_55 ?_
        refine s_iconst (v := 1) O dX6_minuteGoes_56 rfl ?_
        refine s_iadd O dX6_minuteGoes_57 ?_
        obtain ⟨h4, hf⟩ := gd_e hf
        refine s_iald O ms_2 h4 dX6_minuteGoes_58 ?_
        refine s_iconst (v := 3) O dX6_minuteGoes_59 rfl ?_
        refine s_iconst (v := 1) O dX6_minuteGoes_60 rfl ?_
        obtain ⟨s5, r6, c7, hf⟩ := bn_e hf
        refine s_VV (As := [.int (gi s0 2 ((34 + (2 * v1)) + 1).toNatClampNeg), .int 3, .int 1]) (st := []) O lk_RX6_162 (k_X6_becomesOf c7) rfl ms_0 rfl rfl ⟨rfl, rfl⟩ ⟨Nat.le_of_ble_eq_true rfl, Nat.le_of_ble_eq_true rfl⟩ rfl (Nat.le_of_ble_eq_true rfl) dX6_minuteGoes_61 ?_
        refine s_iinc (v := (v1 + 1)) (lv' := [(1, .int (v1 + 1)), (0, rf E 0)]) O 1 dX6_minuteGoes_64 rfl rfl (by decide) rfl ?_
        refine s_goto (tgt := 2) O dX6_minuteGoes_67 (by decide) ?_
        refine s_loc [1, 0] rfl ?_
        cases hf
        exact Kc _ rfl
def fl_X6_minuteGoes_l2   (s0 : StA) (v : Int32) : Option (StA × ((Unit))) :=
  it (fun s v => fb_X6_minuteGoes_l2  s v) FU s0 v
def fj_X6_minuteGoes_j175   (y0 : Int32) (s0 : StA) : Option (StA × (Unit)) :=
  gd 25 63 (gd (28 + y0) 63 (bn (f_X6_within (((gi s0 2 (25 : Int32).toNatClampNeg) + (gi s0 2 (28 + y0).toNatClampNeg)) - 4) 0 99 s0) (fun s26 r27 => gd 25 63 (nms (si s26 2 ((25 : Int32).toNatClampNeg) r27) (fun s30 => gd 27 63 (gd 27 63 (nms (si s30 2 ((27 : Int32).toNatClampNeg) ((gi s30 2 (27 : Int32).toNatClampNeg) + 1)) (fun s33 => some (s33, ())))))))))
set_option maxHeartbeats 4000000 in
set_option maxRecDepth 100000 in
theorem wj_X6_minuteGoes_j175 {E : XC} (O : OK mM E RX6 cX6_minuteGoes 3 rm_X6_minuteGoes)    {y0 : Int32} {s0 : StA} {zs : StA} {rr : Unit} (hret : ReV mM E cX6_minuteGoes zs) (hf : fj_X6_minuteGoes_j175 y0 s0 = some (zs, rr)) : WS mM E 3 175 [(0, rf E 0)] [.int y0] s0 := by
  unfold fj_X6_minuteGoes_j175 at hf
  refine s_istore_n (lv' := [(2, .int y0), (0, rf E 0)]) O dX6_minuteGoes_175 rfl (by decide) rfl ?_
  refine s_aload_n O 1 dX6_minuteGoes_176 rfl rfl ?_
  refine s_getR O fg_RX6_13 ms_0 rfl dX6_minuteGoes_177 ?_
  refine s_bipush (v := 25) O dX6_minuteGoes_180 rfl ?_
  refine s_aload_n O 1 dX6_minuteGoes_182 rfl rfl ?_
  refine s_getR O fg_RX6_13 ms_0 rfl dX6_minuteGoes_183 ?_
  refine s_bipush (v := 25) O dX6_minuteGoes_186 rfl ?_
  obtain ⟨h24, hf⟩ := gd_e hf
  refine s_iald O ms_2 h24 dX6_minuteGoes_188 ?_
  refine s_aload_n O 1 dX6_minuteGoes_189 rfl rfl ?_
  refine s_getR O fg_RX6_13 ms_0 rfl dX6_minuteGoes_190 ?_
  refine s_bipush (v := 28) O dX6_minuteGoes_193 rfl ?_
  refine s_iload_n O 0 dX6_minuteGoes_195 rfl rfl ?_
  refine s_iadd O dX6_minuteGoes_196 ?_
  obtain ⟨h25, hf⟩ := gd_e hf
  refine s_iald O ms_2 h25 dX6_minuteGoes_197 ?_
  refine s_iadd O dX6_minuteGoes_198 ?_
  refine s_iconst (v := 4) O dX6_minuteGoes_199 rfl ?_
  refine s_isub O dX6_minuteGoes_200 ?_
  refine s_iconst (v := 0) O dX6_minuteGoes_201 rfl ?_
  refine s_bipush (v := 99) O dX6_minuteGoes_202 rfl ?_
  obtain ⟨s26, r27, c28, hf⟩ := bn_e hf
  refine s_SI (As := [.int (((gi s0 2 (25 : Int32).toNatClampNeg) + (gi s0 2 (28 + y0).toNatClampNeg)) - 4), .int 0, .int 99]) (st := [.int 25, rf E 2]) O lk_RX6_158 (k_X6_within c28) rfl rfl ⟨rfl, rfl⟩ ⟨Nat.le_of_ble_eq_true rfl, Nat.le_of_ble_eq_true rfl⟩ rfl (Nat.le_of_ble_eq_true rfl) dX6_minuteGoes_204 ?_
  obtain ⟨h29, hf⟩ := gd_e hf
  refine s_iast O ms_2 h29 dX6_minuteGoes_207 ?_
  refine s_tops (fun s30 es30 => ?_)
  replace hf := nms_e es30 hf
  refine s_aload_n O 1 dX6_minuteGoes_208 rfl rfl ?_
  refine s_getR O fg_RX6_13 ms_0 rfl dX6_minuteGoes_209 ?_
  refine s_bipush (v := 27) O dX6_minuteGoes_212 rfl ?_
  refine s_dup2 O dX6_minuteGoes_214 rfl rfl ?_
  obtain ⟨h31, hf⟩ := gd_e hf
  refine s_iald O ms_2 h31 dX6_minuteGoes_215 ?_
  refine s_iconst (v := 1) O dX6_minuteGoes_216 rfl ?_
  refine s_iadd O dX6_minuteGoes_217 ?_
  obtain ⟨h32, hf⟩ := gd_e hf
  refine s_iast O ms_2 h32 dX6_minuteGoes_218 ?_
  refine s_tops (fun s33 es33 => ?_)
  replace hf := nms_e es33 hf
  exact s_vret hret dX6_minuteGoes_219 hf
def fj_X6_minuteGoes_j103    (s0 : StA) : Option (StA × (Unit)) :=
  bn (f_X6_liftNow  s0) (fun s11 r12 => gd 24 63 (gd 26 63 (gd 24 63 (gd 26 63 (bn (f_X6_within r12 ((gi s11 2 (24 : Int32).toNatClampNeg) - (gi s11 2 (26 : Int32).toNatClampNeg)) ((gi s11 2 (24 : Int32).toNatClampNeg) + (gi s11 2 (26 : Int32).toNatClampNeg)) s11) (fun s18 r19 => gd 24 63 (nms (si s18 2 ((24 : Int32).toNatClampNeg) r19) (fun s22 => gd 24 63 ((if 50 ≤ (gi s22 2 (24 : Int32).toNatClampNeg) then fj_X6_minuteGoes_j175 4 s22 else gd 24 63 (fj_X6_minuteGoes_j175 ((gi s22 2 (24 : Int32).toNatClampNeg) / 10) s22)))))))))))
set_option maxHeartbeats 4000000 in
set_option maxRecDepth 100000 in
theorem wj_X6_minuteGoes_j103 {E : XC} (O : OK mM E RX6 cX6_minuteGoes 3 rm_X6_minuteGoes)     {s0 : StA} {zs : StA} {rr : Unit} (hret : ReV mM E cX6_minuteGoes zs) (hf : fj_X6_minuteGoes_j103  s0 = some (zs, rr)) : WS mM E 3 103 [(0, rf E 0)] [] s0 := by
  unfold fj_X6_minuteGoes_j103 at hf
  refine s_aload_n O 0 dX6_minuteGoes_103 rfl rfl ?_
  obtain ⟨s11, r12, c13, hf⟩ := bn_e hf
  refine s_VI (As := []) (st := []) O lk_RX6_169 (k_X6_liftNow c13) rfl ms_0 rfl rfl ⟨rfl, rfl⟩ ⟨Nat.le_of_ble_eq_true rfl, Nat.le_of_ble_eq_true rfl⟩ rfl (Nat.le_of_ble_eq_true rfl) dX6_minuteGoes_104 ?_
  refine s_istore_n (lv' := [(1, .int r12), (0, rf E 0)]) O dX6_minuteGoes_107 rfl (by decide) rfl ?_
  refine s_aload_n O 1 dX6_minuteGoes_108 rfl rfl ?_
  refine s_getR O fg_RX6_13 ms_0 rfl dX6_minuteGoes_109 ?_
  refine s_bipush (v := 24) O dX6_minuteGoes_112 rfl ?_
  refine s_iload_n O 0 dX6_minuteGoes_114 rfl rfl ?_
  refine s_aload_n O 1 dX6_minuteGoes_115 rfl rfl ?_
  refine s_getR O fg_RX6_13 ms_0 rfl dX6_minuteGoes_116 ?_
  refine s_bipush (v := 24) O dX6_minuteGoes_119 rfl ?_
  obtain ⟨h14, hf⟩ := gd_e hf
  refine s_iald O ms_2 h14 dX6_minuteGoes_121 ?_
  refine s_aload_n O 1 dX6_minuteGoes_122 rfl rfl ?_
  refine s_getR O fg_RX6_13 ms_0 rfl dX6_minuteGoes_123 ?_
  refine s_bipush (v := 26) O dX6_minuteGoes_126 rfl ?_
  obtain ⟨h15, hf⟩ := gd_e hf
  refine s_iald O ms_2 h15 dX6_minuteGoes_128 ?_
  refine s_isub O dX6_minuteGoes_129 ?_
  refine s_aload_n O 1 dX6_minuteGoes_130 rfl rfl ?_
  refine s_getR O fg_RX6_13 ms_0 rfl dX6_minuteGoes_131 ?_
  refine s_bipush (v := 24) O dX6_minuteGoes_134 rfl ?_
  obtain ⟨h16, hf⟩ := gd_e hf
  refine s_iald O ms_2 h16 dX6_minuteGoes_136 ?_
  refine s_aload_n O 1 dX6_minuteGoes_137 rfl rfl ?_
  refine s_getR O fg_RX6_13 ms_0 rfl dX6_minuteGoes_138 ?_
  refine s_bipush (v := 26) O dX6_minuteGoes_141 rfl ?_
  obtain ⟨h17, hf⟩ := gd_e hf
  refine s_iald O ms_2 h17 dX6_minuteGoes_143 ?_
  refine s_iadd O dX6_minuteGoes_144 ?_
  obtain ⟨s18, r19, c20, hf⟩ := bn_e hf
  refine s_SI (As := [.int r12, .int ((gi s11 2 (24 : Int32).toNatClampNeg) - (gi s11 2 (26 : Int32).toNatClampNeg)), .int ((gi s11 2 (24 : Int32).toNatClampNeg) + (gi s11 2 (26 : Int32).toNatClampNeg))]) (st := [.int 24, rf E 2]) O lk_RX6_158 (k_X6_within c20) rfl rfl ⟨rfl, rfl⟩ ⟨Nat.le_of_ble_eq_true rfl, Nat.le_of_ble_eq_true rfl⟩ rfl (Nat.le_of_ble_eq_true rfl) dX6_minuteGoes_145 ?_
  obtain ⟨h21, hf⟩ := gd_e hf
  refine s_iast O ms_2 h21 dX6_minuteGoes_148 ?_
  refine s_tops (fun s22 es22 => ?_)
  replace hf := nms_e es22 hf
  refine s_aload_n O 1 dX6_minuteGoes_149 rfl rfl ?_
  refine s_getR O fg_RX6_13 ms_0 rfl dX6_minuteGoes_150 ?_
  refine s_bipush (v := 24) O dX6_minuteGoes_153 rfl ?_
  obtain ⟨h23, hf⟩ := gd_e hf
  refine s_iald O ms_2 h23 dX6_minuteGoes_155 ?_
  refine s_bipush (v := 50) O dX6_minuteGoes_156 rfl ?_
  refine s_icmp_ge (tgt := 174) O dX6_minuteGoes_158 (by decide) (fun c => ?_) (fun c => ?_)
  · replace hf := if_t c hf
    refine s_iconst (v := 4) O dX6_minuteGoes_174 rfl ?_
    refine s_loc [1] rfl ?_
    exact wj_X6_minuteGoes_j175 (rr := rr) O   hret hf
  · replace hf := if_f c hf
    refine s_aload_n O 1 dX6_minuteGoes_161 rfl rfl ?_
    refine s_getR O fg_RX6_13 ms_0 rfl dX6_minuteGoes_162 ?_
    refine s_bipush (v := 24) O dX6_minuteGoes_165 rfl ?_
    obtain ⟨h34, hf⟩ := gd_e hf
    refine s_iald O ms_2 h34 dX6_minuteGoes_167 ?_
    refine s_bipush (v := 10) O dX6_minuteGoes_168 rfl ?_
    refine s_idiv O dX6_minuteGoes_170 (by decide) ?_
    refine s_goto (tgt := 175) O dX6_minuteGoes_171 (by decide) ?_
    refine s_loc [1] rfl ?_
    exact wj_X6_minuteGoes_j175 (rr := rr) O   hret hf
def f_X6_minuteGoes  (s0 : StA) : Option (StA × Unit) :=
  bn (fl_X6_minuteGoes_l2  s0 0) (fun s8 e9 => (if (gi s8 0 18) = (-4) then fj_X6_minuteGoes_j103  s8 else gd 27 63 ((if (gi s8 0 19) = (gi s8 2 (27 : Int32).toNatClampNeg) then bn (f_X6_becomesOf (gi s8 0 18) 3 1 s8) (fun s36 r37 => fj_X6_minuteGoes_j103  s36) else fj_X6_minuteGoes_j103  s8))))
set_option maxHeartbeats 4000000 in
set_option maxRecDepth 100000 in
theorem k_X6_minuteGoes  {s0 zs : StA} {rr : Unit} (hf : f_X6_minuteGoes  s0 = some (zs, rr)) : CtV mM yX6_minuteGoes cX6_minuteGoes 3 rm_X6_minuteGoes (fun ph => [.ref (ph 0)]) s0 zs := by
  refine CtV.of (by decide +kernel) (fun ph => Nat.le_of_ble_eq_true rfl) (fun E O hret => ?_)
  have O : OK mM E RX6 cX6_minuteGoes 3 rm_X6_minuteGoes := O
  show WS mM E 3 0 [(0, rf E 0)] [] s0
  unfold f_X6_minuteGoes at hf
  refine s_iconst (v := 0) O dX6_minuteGoes_0 rfl ?_
  refine s_istore_n (lv' := [(1, .int 0), (0, rf E 0)]) O dX6_minuteGoes_1 rfl (by decide) rfl ?_
  refine s_loc [1, 0] rfl ?_
  obtain ⟨s8, e9, c10, hf⟩ := bn_e hf
  refine lp_of (body := fun s v => fb_X6_minuteGoes_l2  s v) (X := fun s v => WS mM E 3 2 [(0, rf E 0), (1, .int v)] [] s) (Y := fun s e => WS mM E 3 70 [(0, rf E 0)] [] s) (fun s v s' w hb Kc Ke => wb_X6_minuteGoes_l2 (rr := rr) O   hret Kc Ke hb) FU _ _ (s8, e9) c10 ?_
  show WS mM E 3 70 [(0, rf E 0)] [] s8
  refine s_aload_n O 0 dX6_minuteGoes_70 rfl rfl ?_
  refine s_getI O fg_RX6_149 ms_0 rfl dX6_minuteGoes_71 ?_
  refine s_bipush (v := (-4)) O dX6_minuteGoes_74 rfl ?_
  refine s_icmp_eq (tgt := 103) O dX6_minuteGoes_76 (by decide) (fun c => ?_) (fun c => ?_)
  · replace hf := if_t c hf
    exact wj_X6_minuteGoes_j103 (rr := rr) O   hret hf
  · replace hf := if_f c hf
    refine s_aload_n O 0 dX6_minuteGoes_79 rfl rfl ?_
    refine s_getI O fg_RX6_166 ms_0 rfl dX6_minuteGoes_80 ?_
    refine s_aload_n O 0 dX6_minuteGoes_83 rfl rfl ?_
    refine s_getR O fg_RX6_13 ms_0 rfl dX6_minuteGoes_84 ?_
    refine s_bipush (v := 27) O dX6_minuteGoes_87 rfl ?_
    obtain ⟨h35, hf⟩ := gd_e hf
    refine s_iald O ms_2 h35 dX6_minuteGoes_89 ?_
    refine s_icmp_ne (tgt := 103) O dX6_minuteGoes_90 (by decide) (fun c => ?_) (fun c => ?_)
    · replace hf := if_f c hf
      exact wj_X6_minuteGoes_j103 (rr := rr) O   hret hf
    · replace hf := if_t c hf
      refine s_aload_n O 0 dX6_minuteGoes_93 rfl rfl ?_
      refine s_aload_n O 0 dX6_minuteGoes_94 rfl rfl ?_
      refine s_getI O fg_RX6_149 ms_0 rfl dX6_minuteGoes_95 ?_
      refine s_iconst (v := 3) O dX6_minuteGoes_98 rfl ?_
      refine s_iconst (v := 1) O dX6_minuteGoes_99 rfl ?_
      obtain ⟨s36, r37, c38, hf⟩ := bn_e hf
      refine s_VV (As := [.int (gi s8 0 18), .int 3, .int 1]) (st := []) O lk_RX6_162 (k_X6_becomesOf c38) rfl ms_0 rfl rfl ⟨rfl, rfl⟩ ⟨Nat.le_of_ble_eq_true rfl, Nat.le_of_ble_eq_true rfl⟩ rfl (Nat.le_of_ble_eq_true rfl) dX6_minuteGoes_100 ?_
      exact wj_X6_minuteGoes_j103 (rr := rr) O   hret hf
def rm_X6_minutesGo : Room := { frames := 4, cells := 0, slots := 0, locals := 89 }
def fb_X6_minutesGo_l2 (a1 : Int32) (x1 : Int32) (s0 : StA) (v2 : Int32) : Option (StA × ((Int32) ⊕ (Unit))) :=
  (if x1 ≤ v2 then some (s0, .inr ()) else bn (f_X6_minuteGoes  s0) (fun s1 r2 => some (s1, .inl (v2 + 1))))
set_option maxHeartbeats 4000000 in
set_option maxRecDepth 100000 in
theorem wb_X6_minutesGo_l2 {E : XC} (O : OK mM E RX6 cX6_minutesGo 3 rm_X6_minutesGo) {a1 : Int32}  {x1 : Int32} {s0 : StA} {v2 : Int32} {zs : StA} {rr : Unit} (hret : ReV mM E cX6_minutesGo zs) {bs : StA} {bw : (Int32) ⊕ (Unit)} (Kc : ∀ v, bw = .inl v → WS mM E 3 2 [(0, rf E 0), (1, .int x1), (2, .int v)] [] bs) (Ke : ∀ e, bw = .inr e → WS mM E 3 17 [] [] bs) (hf : fb_X6_minutesGo_l2 a1 x1 s0 v2 = some (bs, bw)) : WS mM E 3 2 [(0, rf E 0), (1, .int x1), (2, .int v2)] [] s0 := by
  unfold fb_X6_minutesGo_l2 at hf
  refine s_iload_n O 2 dX6_minutesGo_2 rfl rfl ?_
  refine s_iload_n O 1 dX6_minutesGo_3 rfl rfl ?_
  refine s_icmp_ge (tgt := 17) O dX6_minutesGo_4 (by decide) (fun c => ?_) (fun c => ?_)
  · replace hf := if_t c hf
    refine s_loc [] rfl ?_
    cases hf
    exact Ke _ rfl
  · replace hf := if_f c hf
    refine s_aload_n O 0 dX6_minutesGo_7 rfl rfl ?_
    obtain ⟨s1, r2, c3, hf⟩ := bn_e hf
    refine s_VV (As := []) (st := []) O lk_RX6_172 (k_X6_minuteGoes c3) rfl ms_0 rfl rfl ⟨rfl, rfl⟩ ⟨Nat.le_of_ble_eq_true rfl, Nat.le_of_ble_eq_true rfl⟩ rfl (Nat.le_of_ble_eq_true rfl) dX6_minutesGo_8 ?_
    refine s_iinc (v := (v2 + 1)) (lv' := [(2, .int (v2 + 1)), (0, rf E 0), (1, .int x1)]) O 2 dX6_minutesGo_11 rfl rfl (by decide) rfl ?_
    refine s_goto (tgt := 2) O dX6_minutesGo_14 (by decide) ?_
    refine s_loc [1, 2, 0] rfl ?_
    cases hf
    exact Kc _ rfl
def fl_X6_minutesGo_l2 (a1 : Int32) (x1 : Int32) (s0 : StA) (v : Int32) : Option (StA × ((Unit))) :=
  it (fun s v => fb_X6_minutesGo_l2 a1 x1 s v) FU s0 v
def f_X6_minutesGo (a1 : Int32) (s0 : StA) : Option (StA × Unit) :=
  bn (fl_X6_minutesGo_l2 a1 a1 s0 0) (fun s4 e5 => some (s4, ()))
set_option maxHeartbeats 4000000 in
set_option maxRecDepth 100000 in
theorem k_X6_minutesGo {a1 : Int32} {s0 zs : StA} {rr : Unit} (hf : f_X6_minutesGo a1 s0 = some (zs, rr)) : CtV mM yX6_minutesGo cX6_minutesGo 3 rm_X6_minutesGo (fun ph => [.ref (ph 0), .int a1]) s0 zs := by
  refine CtV.of (by decide +kernel) (fun ph => Nat.le_of_ble_eq_true rfl) (fun E O hret => ?_)
  have O : OK mM E RX6 cX6_minutesGo 3 rm_X6_minutesGo := O
  show WS mM E 3 0 [(0, rf E 0), (1, .int a1)] [] s0
  unfold f_X6_minutesGo at hf
  refine s_iconst (v := 0) O dX6_minutesGo_0 rfl ?_
  refine s_istore_n (lv' := [(2, .int 0), (0, rf E 0), (1, .int a1)]) O dX6_minutesGo_1 rfl (by decide) rfl ?_
  refine s_loc [1, 2, 0] rfl ?_
  obtain ⟨s4, e5, c6, hf⟩ := bn_e hf
  refine lp_of (body := fun s v => fb_X6_minutesGo_l2 a1 a1 s v) (X := fun s v => WS mM E 3 2 [(0, rf E 0), (1, .int a1), (2, .int v)] [] s) (Y := fun s e => WS mM E 3 17 [] [] s) (fun s v s' w hb Kc Ke => wb_X6_minutesGo_l2 (rr := rr) O   hret Kc Ke hb) FU _ _ (s4, e5) c6 ?_
  show WS mM E 3 17 [] [] s4
  exact s_vret hret dX6_minutesGo_17 hf
def rm_X6_settles : Room := { frames := 0, cells := 0, slots := 0, locals := 0 }
def fb_X6_settles_l2   (s0 : StA) (v1 : Int32) : Option (StA × ((Int32) ⊕ (Unit))) :=
  (if 63 ≤ v1 then some (s0, .inr ()) else gd v1 63 (gd v1 189 (nms (si s0 1 v1.toNatClampNeg (gi s0 2 v1.toNatClampNeg)) (fun s3 => some (s3, .inl (v1 + 1))))))
set_option maxHeartbeats 4000000 in
set_option maxRecDepth 100000 in
theorem wb_X6_settles_l2 {E : XC} (O : OK mM E RX6 cX6_settles 2 rm_X6_settles)    {s0 : StA} {v1 : Int32} {zs : StA} {rr : Unit} (hret : ReV mM E cX6_settles zs) {bs : StA} {bw : (Int32) ⊕ (Unit)} (Kc : ∀ v, bw = .inl v → WS mM E 2 2 [(0, rf E 0), (1, .int v)] [] bs) (Ke : ∀ e, bw = .inr e → WS mM E 2 26 [] [] bs) (hf : fb_X6_settles_l2  s0 v1 = some (bs, bw)) : WS mM E 2 2 [(0, rf E 0), (1, .int v1)] [] s0 := by
  unfold fb_X6_settles_l2 at hf
  refine s_iload_n O 1 dX6_settles_2 rfl rfl ?_
  refine s_bipush (v := 63) O dX6_settles_3 rfl ?_
  refine s_icmp_ge (tgt := 26) O dX6_settles_5 (by decide) (fun c => ?_) (fun c => ?_)
  · replace hf := if_t c hf
    refine s_loc [] rfl ?_
    cases hf
    exact Ke _ rfl
  · replace hf := if_f c hf
    refine s_aload_n O 0 dX6_settles_8 rfl rfl ?_
    refine s_getR O fg_RX6_7 ms_0 rfl dX6_settles_9 ?_
    refine s_iload_n O 1 dX6_settles_12 rfl rfl ?_
    refine s_aload_n O 0 dX6_settles_13 rfl rfl ?_
    refine s_getR O fg_RX6_13 ms_0 rfl dX6_settles_14 ?_
    refine s_iload_n O 1 dX6_settles_17 rfl rfl ?_
    obtain ⟨h1, hf⟩ := gd_e hf
    refine s_iald O ms_2 h1 dX6_settles_18 ?_
    obtain ⟨h2, hf⟩ := gd_e hf
    refine s_iast O ms_1 h2 dX6_settles_19 ?_
    refine s_tops (fun s3 es3 => ?_)
    replace hf := nms_e es3 hf
    refine s_iinc (v := (v1 + 1)) (lv' := [(1, .int (v1 + 1)), (0, rf E 0)]) O 1 dX6_settles_20 rfl rfl (by decide) rfl ?_
    refine s_goto (tgt := 2) O dX6_settles_23 (by decide) ?_
    refine s_loc [1, 0] rfl ?_
    cases hf
    exact Kc _ rfl
def fl_X6_settles_l2   (s0 : StA) (v : Int32) : Option (StA × ((Unit))) :=
  it (fun s v => fb_X6_settles_l2  s v) FU s0 v
def f_X6_settles  (s0 : StA) : Option (StA × Unit) :=
  bn (fl_X6_settles_l2  s0 0) (fun s4 e5 => some (s4, ()))
set_option maxHeartbeats 4000000 in
set_option maxRecDepth 100000 in
theorem k_X6_settles  {s0 zs : StA} {rr : Unit} (hf : f_X6_settles  s0 = some (zs, rr)) : CtV mM yX6_settles cX6_settles 2 rm_X6_settles (fun ph => [.ref (ph 0)]) s0 zs := by
  refine CtV.of (by decide +kernel) (fun ph => Nat.le_of_ble_eq_true rfl) (fun E O hret => ?_)
  have O : OK mM E RX6 cX6_settles 2 rm_X6_settles := O
  show WS mM E 2 0 [(0, rf E 0)] [] s0
  unfold f_X6_settles at hf
  refine s_iconst (v := 0) O dX6_settles_0 rfl ?_
  refine s_istore_n (lv' := [(1, .int 0), (0, rf E 0)]) O dX6_settles_1 rfl (by decide) rfl ?_
  refine s_loc [1, 0] rfl ?_
  obtain ⟨s4, e5, c6, hf⟩ := bn_e hf
  refine lp_of (body := fun s v => fb_X6_settles_l2  s v) (X := fun s v => WS mM E 2 2 [(0, rf E 0), (1, .int v)] [] s) (Y := fun s e => WS mM E 2 26 [] [] s) (fun s v s' w hb Kc Ke => wb_X6_settles_l2 (rr := rr) O   hret Kc Ke hb) FU _ _ (s4, e5) c6 ?_
  show WS mM E 2 26 [] [] s4
  exact s_vret hret dX6_settles_26 hf
def rm_X6_minutes : Room := { frames := 5, cells := 0, slots := 0, locals := 111 }
def f_X6_minutes (a1 : Int32) (s0 : StA) : Option (StA × Int32) :=
  bn (f_X6_in a1.toInt64 0 30 s0) (fun s1 r2 => (if r2 = 0 then some (s1, (-1)) else gd 27 189 ((if ((gi s1 1 (27 : Int32).toNatClampNeg) + a1) ≤ 999 then bn (f_X6_starts  s1) (fun s5 r6 => bn (f_X6_minutesGo a1 s5) (fun s8 r9 => bn (f_X6_settles  s8) (fun s11 r12 => gd 24 189 (some (s11, (gi s11 1 (24 : Int32).toNatClampNeg)))))) else some (s1, (-3))))))
set_option maxHeartbeats 4000000 in
set_option maxRecDepth 100000 in
theorem k_X6_minutes {a1 : Int32} {s0 zs : StA} {rr : Int32} (hf : f_X6_minutes a1 s0 = some (zs, rr)) : CtI mM yX6_minutes cX6_minutes 2 .int rm_X6_minutes (fun ph => [.ref (ph 0), .int a1]) s0 zs rr := by
  refine CtI.of (by decide +kernel) (fun ph => Nat.le_of_ble_eq_true rfl) (fun E O hret => ?_)
  have O : OK mM E RX6 cX6_minutes 2 rm_X6_minutes := O
  show WS mM E 2 0 [(0, rf E 0), (1, .int a1)] [] s0
  unfold f_X6_minutes at hf
  refine s_iload_n O 1 dX6_minutes_0 rfl rfl ?_
  refine s_i2l O dX6_minutes_1 ?_
  refine s_lconst (v := 0) O dX6_minutes_2 rfl ?_
  refine s_ldc2 O cl_RX6_203 dX6_minutes_3 ?_
  obtain ⟨s1, r2, c3, hf⟩ := bn_e hf
  refine s_SI (As := [.long a1.toInt64, .long 0, .long 30]) (st := []) O lk_RX6_69 (k_X6_in c3) rfl rfl ⟨rfl, rfl⟩ ⟨Nat.le_of_ble_eq_true rfl, Nat.le_of_ble_eq_true rfl⟩ rfl (Nat.le_of_ble_eq_true rfl) dX6_minutes_6 ?_
  refine s_if_ne (tgt := 14) O dX6_minutes_9 (by decide) (fun c => ?_) (fun c => ?_)
  · replace hf := if_f c hf
    refine s_aload_n O 0 dX6_minutes_14 rfl rfl ?_
    refine s_getR O fg_RX6_7 ms_0 rfl dX6_minutes_15 ?_
    refine s_bipush (v := 27) O dX6_minutes_18 rfl ?_
    obtain ⟨h4, hf⟩ := gd_e hf
    refine s_iald O ms_1 h4 dX6_minutes_20 ?_
    refine s_iload_n O 1 dX6_minutes_21 rfl rfl ?_
    refine s_iadd O dX6_minutes_22 ?_
    refine s_sipush (v := 999) O dX6_minutes_23 rfl ?_
    refine s_icmp_le (tgt := 32) O dX6_minutes_26 (by decide) (fun c => ?_) (fun c => ?_)
    · replace hf := if_t c hf
      refine s_aload_n O 0 dX6_minutes_32 rfl rfl ?_
      obtain ⟨s5, r6, c7, hf⟩ := bn_e hf
      refine s_VV (As := []) (st := []) O lk_RX6_175 (k_X6_starts c7) rfl ms_0 rfl rfl ⟨rfl, rfl⟩ ⟨Nat.le_of_ble_eq_true rfl, Nat.le_of_ble_eq_true rfl⟩ rfl (Nat.le_of_ble_eq_true rfl) dX6_minutes_33 ?_
      refine s_aload_n O 0 dX6_minutes_36 rfl rfl ?_
      refine s_iload_n O 1 dX6_minutes_37 rfl rfl ?_
      obtain ⟨s8, r9, c10, hf⟩ := bn_e hf
      refine s_VV (As := [.int a1]) (st := []) O lk_RX6_205 (k_X6_minutesGo c10) rfl ms_0 rfl rfl ⟨rfl, rfl⟩ ⟨Nat.le_of_ble_eq_true rfl, Nat.le_of_ble_eq_true rfl⟩ rfl (Nat.le_of_ble_eq_true rfl) dX6_minutes_38 ?_
      refine s_aload_n O 0 dX6_minutes_41 rfl rfl ?_
      obtain ⟨s11, r12, c13, hf⟩ := bn_e hf
      refine s_VV (As := []) (st := []) O lk_RX6_208 (k_X6_settles c13) rfl ms_0 rfl rfl ⟨rfl, rfl⟩ ⟨Nat.le_of_ble_eq_true rfl, Nat.le_of_ble_eq_true rfl⟩ rfl (Nat.le_of_ble_eq_true rfl) dX6_minutes_42 ?_
      refine s_aload_n O 0 dX6_minutes_45 rfl rfl ?_
      refine s_getR O fg_RX6_7 ms_0 rfl dX6_minutes_46 ?_
      refine s_bipush (v := 24) O dX6_minutes_49 rfl ?_
      obtain ⟨h14, hf⟩ := gd_e hf
      refine s_iald O ms_1 h14 dX6_minutes_51 ?_
      exact s_iret hret rfl dX6_minutes_52 hf
    · replace hf := if_f c hf
      refine s_bipush (v := (-3)) O dX6_minutes_29 rfl ?_
      exact s_iret hret rfl dX6_minutes_31 hf
  · replace hf := if_t c hf
    refine s_iconst (v := (-1)) O dX6_minutes_12 rfl ?_
    exact s_iret hret rfl dX6_minutes_13 hf
