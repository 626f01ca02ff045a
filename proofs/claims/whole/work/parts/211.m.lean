def rm_X6_rule : Room := { frames := 3, cells := 0, slots := 0, locals := 67 }
def f_X6_rule (a1 : Int32) (s0 : StA) : Option (StA × Int32) :=
  bn (f_X6_starts  s0) (fun s1 r2 => (if a1 = 0 then some (s1, (gi s1 0 3)) else if a1 = 1 then gd 27 189 (some (s1, (gi s1 1 (27 : Int32).toNatClampNeg))) else if a1 = 2 then gd 24 189 (some (s1, (gi s1 1 (24 : Int32).toNatClampNeg))) else if a1 = 3 then gd 25 189 (some (s1, (gi s1 1 (25 : Int32).toNatClampNeg))) else if a1 = 4 then bn (f_X6_liftNow  s1) (fun s7 r8 => some (s7, r8)) else if a1 = 5 then bn (f_X6_saidNow  s1) (fun s10 r11 => some (s10, r11)) else if a1 = 6 then gd 26 189 (some (s1, (gi s1 1 (26 : Int32).toNatClampNeg))) else if a1 = 7 then gd 33 189 (some (s1, (gi s1 1 (33 : Int32).toNatClampNeg))) else some (s1, (-1))))
set_option maxHeartbeats 4000000 in
set_option maxRecDepth 100000 in
theorem k_X6_rule {a1 : Int32} {s0 zs : StA} {rr : Int32} (hf : f_X6_rule a1 s0 = some (zs, rr)) : CtI mM yX6_rule cX6_rule 2 .int rm_X6_rule (fun ph => [.ref (ph 0), .int a1]) s0 zs rr := by
  refine CtI.of (by decide +kernel) (fun ph => Nat.le_of_ble_eq_true rfl) (fun E O hret => ?_)
  have O : OK mM E RX6 cX6_rule 2 rm_X6_rule := O
  show WS mM E 2 0 [(0, rf E 0), (1, .int a1)] [] s0
  unfold f_X6_rule at hf
  refine s_aload_n O 0 dX6_rule_0 rfl rfl ?_
  obtain ⟨s1, r2, c3, hf⟩ := bn_e hf
  refine s_VV (As := []) (st := []) O lk_RX6_175 (k_X6_starts c3) rfl ms_0 rfl rfl ⟨rfl, rfl⟩ ⟨Nat.le_of_ble_eq_true rfl, Nat.le_of_ble_eq_true rfl⟩ rfl (Nat.le_of_ble_eq_true rfl) dX6_rule_1 ?_
  refine s_iload_n O 1 dX6_rule_4 rfl rfl ?_
  by_cases q0 : a1 = 0
  · replace hf := if_t q0 hf
    refine s_tabE (v := 0) (tgt := 52) O dX6_rule_5 q0 (by decide) (by decide) rfl (by decide) ?_
    refine s_aload_n O 0 dX6_rule_52 rfl rfl ?_
    refine s_getI O fg_RX6_64 ms_0 rfl dX6_rule_53 ?_
    exact s_iret hret rfl dX6_rule_56 hf
  · replace hf := if_f q0 hf
    by_cases q1 : a1 = 1
    · replace hf := if_t q1 hf
      refine s_tabE (v := 1) (tgt := 57) O dX6_rule_5 q1 (by decide) (by decide) rfl (by decide) ?_
      refine s_aload_n O 0 dX6_rule_57 rfl rfl ?_
      refine s_getR O fg_RX6_7 ms_0 rfl dX6_rule_58 ?_
      refine s_bipush (v := 27) O dX6_rule_61 rfl ?_
      obtain ⟨h4, hf⟩ := gd_e hf
      refine s_iald O ms_1 h4 dX6_rule_63 ?_
      exact s_iret hret rfl dX6_rule_64 hf
    · replace hf := if_f q1 hf
      by_cases q2 : a1 = 2
      · replace hf := if_t q2 hf
        refine s_tabE (v := 2) (tgt := 65) O dX6_rule_5 q2 (by decide) (by decide) rfl (by decide) ?_
        refine s_aload_n O 0 dX6_rule_65 rfl rfl ?_
        refine s_getR O fg_RX6_7 ms_0 rfl dX6_rule_66 ?_
        refine s_bipush (v := 24) O dX6_rule_69 rfl ?_
        obtain ⟨h5, hf⟩ := gd_e hf
        refine s_iald O ms_1 h5 dX6_rule_71 ?_
        exact s_iret hret rfl dX6_rule_72 hf
      · replace hf := if_f q2 hf
        by_cases q3 : a1 = 3
        · replace hf := if_t q3 hf
          refine s_tabE (v := 3) (tgt := 73) O dX6_rule_5 q3 (by decide) (by decide) rfl (by decide) ?_
          refine s_aload_n O 0 dX6_rule_73 rfl rfl ?_
          refine s_getR O fg_RX6_7 ms_0 rfl dX6_rule_74 ?_
          refine s_bipush (v := 25) O dX6_rule_77 rfl ?_
          obtain ⟨h6, hf⟩ := gd_e hf
          refine s_iald O ms_1 h6 dX6_rule_79 ?_
          exact s_iret hret rfl dX6_rule_80 hf
        · replace hf := if_f q3 hf
          by_cases q4 : a1 = 4
          · replace hf := if_t q4 hf
            refine s_tabE (v := 4) (tgt := 81) O dX6_rule_5 q4 (by decide) (by decide) rfl (by decide) ?_
            refine s_aload_n O 0 dX6_rule_81 rfl rfl ?_
            obtain ⟨s7, r8, c9, hf⟩ := bn_e hf
            refine s_VI (As := []) (st := []) O lk_RX6_169 (k_X6_liftNow c9) rfl ms_0 rfl rfl ⟨rfl, rfl⟩ ⟨Nat.le_of_ble_eq_true rfl, Nat.le_of_ble_eq_true rfl⟩ rfl (Nat.le_of_ble_eq_true rfl) dX6_rule_82 ?_
            exact s_iret hret rfl dX6_rule_85 hf
          · replace hf := if_f q4 hf
            by_cases q5 : a1 = 5
            · replace hf := if_t q5 hf
              refine s_tabE (v := 5) (tgt := 86) O dX6_rule_5 q5 (by decide) (by decide) rfl (by decide) ?_
              refine s_aload_n O 0 dX6_rule_86 rfl rfl ?_
              obtain ⟨s10, r11, c12, hf⟩ := bn_e hf
              refine s_VI (As := []) (st := []) O lk_RX6_178 (k_X6_saidNow c12) rfl ms_0 rfl rfl ⟨rfl, rfl⟩ ⟨Nat.le_of_ble_eq_true rfl, Nat.le_of_ble_eq_true rfl⟩ rfl (Nat.le_of_ble_eq_true rfl) dX6_rule_87 ?_
              exact s_iret hret rfl dX6_rule_90 hf
            · replace hf := if_f q5 hf
              by_cases q6 : a1 = 6
              · replace hf := if_t q6 hf
                refine s_tabE (v := 6) (tgt := 91) O dX6_rule_5 q6 (by decide) (by decide) rfl (by decide) ?_
                refine s_aload_n O 0 dX6_rule_91 rfl rfl ?_
                refine s_getR O fg_RX6_7 ms_0 rfl dX6_rule_92 ?_
                refine s_bipush (v := 26) O dX6_rule_95 rfl ?_
                obtain ⟨h13, hf⟩ := gd_e hf
                refine s_iald O ms_1 h13 dX6_rule_97 ?_
                exact s_iret hret rfl dX6_rule_98 hf
              · replace hf := if_f q6 hf
                by_cases q7 : a1 = 7
                · replace hf := if_t q7 hf
                  refine s_tabE (v := 7) (tgt := 99) O dX6_rule_5 q7 (by decide) (by decide) rfl (by decide) ?_
                  refine s_aload_n O 0 dX6_rule_99 rfl rfl ?_
                  refine s_getR O fg_RX6_7 ms_0 rfl dX6_rule_100 ?_
                  refine s_bipush (v := 33) O dX6_rule_103 rfl ?_
                  obtain ⟨h14, hf⟩ := gd_e hf
                  refine s_iald O ms_1 h14 dX6_rule_105 ?_
                  exact s_iret hret rfl dX6_rule_106 hf
                · replace hf := if_f q7 hf
                  have z0 := lv_neT q0 (a := 0) rfl
                  have z1 := lv_neT q1 (a := 1) rfl
                  have z2 := lv_neT q2 (a := 2) rfl
                  have z3 := lv_neT q3 (a := 3) rfl
                  have z4 := lv_neT q4 (a := 4) rfl
                  have z5 := lv_neT q5 (a := 5) rfl
                  have z6 := lv_neT q6 (a := 6) rfl
                  have z7 := lv_neT q7 (a := 7) rfl
                  refine s_tabO (tgt := 107) O dX6_rule_5 (by omega) (by decide) ?_
                  refine s_iconst (v := (-1)) O dX6_rule_107 rfl ?_
                  exact s_iret hret rfl dX6_rule_108 hf
def rm_X6_isThing : Room := { frames := 1, cells := 0, slots := 0, locals := 25 }
def f_X6_isThing (a1 : Int32) (s0 : StA) : Option (StA × Int32) :=
  bn (f_X6_in a1.toInt64 0 ((gi s0 0 3) - 1).toInt64 s0) (fun s1 r2 => gz r2 (some (s1, r2)))
set_option maxHeartbeats 4000000 in
set_option maxRecDepth 100000 in
theorem k_X6_isThing {a1 : Int32} {s0 zs : StA} {rr : Int32} (hf : f_X6_isThing a1 s0 = some (zs, rr)) : CtI mM yX6_isThing cX6_isThing 2 .boolean rm_X6_isThing (fun ph => [.ref (ph 0), .int a1]) s0 zs rr := by
  refine CtI.of (by decide +kernel) (fun ph => Nat.le_of_ble_eq_true rfl) (fun E O hret => ?_)
  have O : OK mM E RX6 cX6_isThing 2 rm_X6_isThing := O
  show WS mM E 2 0 [(0, rf E 0), (1, .int a1)] [] s0
  unfold f_X6_isThing at hf
  refine s_iload_n O 1 dX6_isThing_0 rfl rfl ?_
  refine s_i2l O dX6_isThing_1 ?_
  refine s_lconst (v := 0) O dX6_isThing_2 rfl ?_
  refine s_aload_n O 0 dX6_isThing_3 rfl rfl ?_
  refine s_getI O fg_RX6_64 ms_0 rfl dX6_isThing_4 ?_
  refine s_iconst (v := 1) O dX6_isThing_7 rfl ?_
  refine s_isub O dX6_isThing_8 ?_
  refine s_i2l O dX6_isThing_9 ?_
  obtain ⟨s1, r2, c3, hf⟩ := bn_e hf
  refine s_SI (As := [.long a1.toInt64, .long 0, .long ((gi s0 0 3) - 1).toInt64]) (st := []) O lk_RX6_69 (k_X6_in c3) rfl rfl ⟨rfl, rfl⟩ ⟨Nat.le_of_ble_eq_true rfl, Nat.le_of_ble_eq_true rfl⟩ rfl (Nat.le_of_ble_eq_true rfl) dX6_isThing_10 ?_
  obtain ⟨hz, hf⟩ := gz_e hf
  exact s_iret hret hz.nar dX6_isThing_13 hf
def rm_X6_thing : Room := { frames := 2, cells := 0, slots := 0, locals := 46 }
def f_X6_thing (a1 : Int32) (a2 : Int32) (s0 : StA) : Option (StA × Int32) :=
  bn (f_X6_isThing a1 s0) (fun s1 r2 => (if r2 = 0 then some (s1, (-1)) else bn (f_X6_in a2.toInt64 0 4 s1) (fun s4 r5 => (if r5 = 0 then some (s4, (-1)) else bn (f_X6_starts  s4) (fun s7 r8 => (if 4 ≤ a2 then bn (f_X6_liftOf a1 s7) (fun s10 r11 => some (s10, (20 + r11))) else bn (f_X6_of a1 a2 s7) (fun s13 r14 => some (s13, r14))))))))
set_option maxHeartbeats 4000000 in
set_option maxRecDepth 100000 in
theorem k_X6_thing {a1 : Int32} {a2 : Int32} {s0 zs : StA} {rr : Int32} (hf : f_X6_thing a1 a2 s0 = some (zs, rr)) : CtI mM yX6_thing cX6_thing 3 .int rm_X6_thing (fun ph => [.ref (ph 0), .int a1, .int a2]) s0 zs rr := by
  refine CtI.of (by decide +kernel) (fun ph => Nat.le_of_ble_eq_true rfl) (fun E O hret => ?_)
  have O : OK mM E RX6 cX6_thing 3 rm_X6_thing := O
  show WS mM E 3 0 [(0, rf E 0), (1, .int a1), (2, .int a2)] [] s0
  unfold f_X6_thing at hf
  refine s_aload_n O 0 dX6_thing_0 rfl rfl ?_
  refine s_iload_n O 1 dX6_thing_1 rfl rfl ?_
  obtain ⟨s1, r2, c3, hf⟩ := bn_e hf
  refine s_VI (As := [.int a1]) (st := []) O lk_RX6_181 (k_X6_isThing c3) rfl ms_0 rfl rfl ⟨rfl, rfl⟩ ⟨Nat.le_of_ble_eq_true rfl, Nat.le_of_ble_eq_true rfl⟩ rfl (Nat.le_of_ble_eq_true rfl) dX6_thing_2 ?_
  refine s_if_eq (tgt := 20) O dX6_thing_5 (by decide) (fun c => ?_) (fun c => ?_)
  · replace hf := if_t c hf
    refine s_iconst (v := (-1)) O dX6_thing_20 rfl ?_
    exact s_iret hret rfl dX6_thing_21 hf
  · replace hf := if_f c hf
    refine s_iload_n O 2 dX6_thing_8 rfl rfl ?_
    refine s_i2l O dX6_thing_9 ?_
    refine s_lconst (v := 0) O dX6_thing_10 rfl ?_
    refine s_ldc2 O cl_RX6_142 dX6_thing_11 ?_
    obtain ⟨s4, r5, c6, hf⟩ := bn_e hf
    refine s_SI (As := [.long a2.toInt64, .long 0, .long 4]) (st := []) O lk_RX6_69 (k_X6_in c6) rfl rfl ⟨rfl, rfl⟩ ⟨Nat.le_of_ble_eq_true rfl, Nat.le_of_ble_eq_true rfl⟩ rfl (Nat.le_of_ble_eq_true rfl) dX6_thing_14 ?_
    refine s_if_ne (tgt := 22) O dX6_thing_17 (by decide) (fun c => ?_) (fun c => ?_)
    · replace hf := if_f c hf
      refine s_aload_n O 0 dX6_thing_22 rfl rfl ?_
      obtain ⟨s7, r8, c9, hf⟩ := bn_e hf
      refine s_VV (As := []) (st := []) O lk_RX6_175 (k_X6_starts c9) rfl ms_0 rfl rfl ⟨rfl, rfl⟩ ⟨Nat.le_of_ble_eq_true rfl, Nat.le_of_ble_eq_true rfl⟩ rfl (Nat.le_of_ble_eq_true rfl) dX6_thing_23 ?_
      refine s_iload_n O 2 dX6_thing_26 rfl rfl ?_
      refine s_iconst (v := 4) O dX6_thing_27 rfl ?_
      refine s_icmp_ge (tgt := 40) O dX6_thing_28 (by decide) (fun c => ?_) (fun c => ?_)
      · replace hf := if_t c hf
        refine s_bipush (v := 20) O dX6_thing_40 rfl ?_
        refine s_aload_n O 0 dX6_thing_42 rfl rfl ?_
        refine s_iload_n O 1 dX6_thing_43 rfl rfl ?_
        obtain ⟨s10, r11, c12, hf⟩ := bn_e hf
        refine s_VI (As := [.int a1]) (st := [.int 20]) O lk_RX6_155 (k_X6_liftOf c12) rfl ms_0 rfl rfl ⟨rfl, rfl⟩ ⟨Nat.le_of_ble_eq_true rfl, Nat.le_of_ble_eq_true rfl⟩ rfl (Nat.le_of_ble_eq_true rfl) dX6_thing_44 ?_
        refine s_iadd O dX6_thing_47 ?_
        exact s_iret hret rfl dX6_thing_48 hf
      · replace hf := if_f c hf
        refine s_aload_n O 0 dX6_thing_31 rfl rfl ?_
        refine s_iload_n O 1 dX6_thing_32 rfl rfl ?_
        refine s_iload_n O 2 dX6_thing_33 rfl rfl ?_
        obtain ⟨s13, r14, c15, hf⟩ := bn_e hf
        refine s_VI (As := [.int a1, .int a2]) (st := []) O lk_RX6_152 (k_X6_of c15) rfl ms_0 rfl rfl ⟨rfl, rfl⟩ ⟨Nat.le_of_ble_eq_true rfl, Nat.le_of_ble_eq_true rfl⟩ rfl (Nat.le_of_ble_eq_true rfl) dX6_thing_34 ?_
        refine s_goto (tgt := 48) O dX6_thing_37 (by decide) ?_
        exact s_iret hret rfl dX6_thing_48 hf
    · replace hf := if_t c hf
      refine s_iconst (v := (-1)) O dX6_thing_20 rfl ?_
      exact s_iret hret rfl dX6_thing_21 hf
def rm_X6_isWind : Room := { frames := 1, cells := 0, slots := 0, locals := 25 }
def f_X6_isWind (a0 : Int32) (s0 : StA) : Option (StA × Int32) :=
  bn (f_X6_in a0.toInt64 0 4 s0) (fun s1 r2 => gz r2 (some (s1, r2)))
set_option maxHeartbeats 4000000 in
set_option maxRecDepth 100000 in
theorem k_X6_isWind {a0 : Int32} {s0 zs : StA} {rr : Int32} (hf : f_X6_isWind a0 s0 = some (zs, rr)) : CtI mM yX6_isWind cX6_isWind 1 .boolean rm_X6_isWind (fun ph => [.int a0]) s0 zs rr := by
  refine CtI.of (by decide +kernel) (fun ph => Nat.le_of_ble_eq_true rfl) (fun E O hret => ?_)
  have O : OK mM E RX6 cX6_isWind 1 rm_X6_isWind := O
  show WS mM E 1 0 [(0, .int a0)] [] s0
  unfold f_X6_isWind at hf
  refine s_iload_n O 0 dX6_isWind_0 rfl rfl ?_
  refine s_i2l O dX6_isWind_1 ?_
  refine s_lconst (v := 0) O dX6_isWind_2 rfl ?_
  refine s_ldc2 O cl_RX6_142 dX6_isWind_3 ?_
  obtain ⟨s1, r2, c3, hf⟩ := bn_e hf
  refine s_SI (As := [.long a0.toInt64, .long 0, .long 4]) (st := []) O lk_RX6_69 (k_X6_in c3) rfl rfl ⟨rfl, rfl⟩ ⟨Nat.le_of_ble_eq_true rfl, Nat.le_of_ble_eq_true rfl⟩ rfl (Nat.le_of_ble_eq_true rfl) dX6_isWind_6 ?_
  obtain ⟨hz, hf⟩ := gz_e hf
  exact s_iret hret hz.nar dX6_isWind_9 hf
def rm_X6_wind : Room := { frames := 2, cells := 0, slots := 0, locals := 45 }
def f_X6_wind (a1 : Int32) (s0 : StA) : Option (StA × Int32) :=
  bn (f_X6_isWind a1 s0) (fun s1 r2 => (if r2 = 0 then some (s1, (-1)) else gd (28 + a1) 189 (some (s1, (gi s1 1 (28 + a1).toNatClampNeg)))))
set_option maxHeartbeats 4000000 in
set_option maxRecDepth 100000 in
theorem k_X6_wind {a1 : Int32} {s0 zs : StA} {rr : Int32} (hf : f_X6_wind a1 s0 = some (zs, rr)) : CtI mM yX6_wind cX6_wind 2 .int rm_X6_wind (fun ph => [.ref (ph 0), .int a1]) s0 zs rr := by
  refine CtI.of (by decide +kernel) (fun ph => Nat.le_of_ble_eq_true rfl) (fun E O hret => ?_)
  have O : OK mM E RX6 cX6_wind 2 rm_X6_wind := O
  show WS mM E 2 0 [(0, rf E 0), (1, .int a1)] [] s0
  unfold f_X6_wind at hf
  refine s_iload_n O 1 dX6_wind_0 rfl rfl ?_
  obtain ⟨s1, r2, c3, hf⟩ := bn_e hf
  refine s_SI (As := [.int a1]) (st := []) O lk_RX6_185 (k_X6_isWind c3) rfl rfl ⟨rfl, rfl⟩ ⟨Nat.le_of_ble_eq_true rfl, Nat.le_of_ble_eq_true rfl⟩ rfl (Nat.le_of_ble_eq_true rfl) dX6_wind_1 ?_
  refine s_if_eq (tgt := 19) O dX6_wind_4 (by decide) (fun c => ?_) (fun c => ?_)
  · replace hf := if_t c hf
    refine s_iconst (v := (-1)) O dX6_wind_19 rfl ?_
    exact s_iret hret rfl dX6_wind_20 hf
  · replace hf := if_f c hf
    refine s_aload_n O 0 dX6_wind_7 rfl rfl ?_
    refine s_getR O fg_RX6_7 ms_0 rfl dX6_wind_8 ?_
    refine s_bipush (v := 28) O dX6_wind_11 rfl ?_
    refine s_iload_n O 1 dX6_wind_13 rfl rfl ?_
    refine s_iadd O dX6_wind_14 ?_
    obtain ⟨h4, hf⟩ := gd_e hf
    refine s_iald O ms_1 h4 dX6_wind_15 ?_
    refine s_goto (tgt := 20) O dX6_wind_16 (by decide) ?_
    exact s_iret hret rfl dX6_wind_20 hf
def rm_X6_isPart : Room := { frames := 1, cells := 0, slots := 0, locals := 25 }
def f_X6_isPart (a0 : Int32) (s0 : StA) : Option (StA × Int32) :=
  bn (f_X6_in a0.toInt64 0 1 s0) (fun s1 r2 => gz r2 (some (s1, r2)))
set_option maxHeartbeats 4000000 in
set_option maxRecDepth 100000 in
theorem k_X6_isPart {a0 : Int32} {s0 zs : StA} {rr : Int32} (hf : f_X6_isPart a0 s0 = some (zs, rr)) : CtI mM yX6_isPart cX6_isPart 1 .boolean rm_X6_isPart (fun ph => [.int a0]) s0 zs rr := by
  refine CtI.of (by decide +kernel) (fun ph => Nat.le_of_ble_eq_true rfl) (fun E O hret => ?_)
  have O : OK mM E RX6 cX6_isPart 1 rm_X6_isPart := O
  show WS mM E 1 0 [(0, .int a0)] [] s0
  unfold f_X6_isPart at hf
  refine s_iload_n O 0 dX6_isPart_0 rfl rfl ?_
  refine s_i2l O dX6_isPart_1 ?_
  refine s_lconst (v := 0) O dX6_isPart_2 rfl ?_
  refine s_lconst (v := 1) O dX6_isPart_3 rfl ?_
  obtain ⟨s1, r2, c3, hf⟩ := bn_e hf
  refine s_SI (As := [.long a0.toInt64, .long 0, .long 1]) (st := []) O lk_RX6_69 (k_X6_in c3) rfl rfl ⟨rfl, rfl⟩ ⟨Nat.le_of_ble_eq_true rfl, Nat.le_of_ble_eq_true rfl⟩ rfl (Nat.le_of_ble_eq_true rfl) dX6_isPart_4 ?_
  obtain ⟨hz, hf⟩ := gz_e hf
  exact s_iret hret hz.nar dX6_isPart_7 hf
def rm_X6_saying : Room := { frames := 2, cells := 0, slots := 0, locals := 45 }
def f_X6_saying (a1 : Int32) (a2 : Int32) (s0 : StA) : Option (StA × Int32) :=
  gd 33 189 (bn (f_X6_in a1.toInt64 0 ((gi s0 1 (33 : Int32).toNatClampNeg) - 1).toInt64 s0) (fun s2 r3 => (if r3 = 0 then some (s2, (-1)) else bn (f_X6_isPart a2 s2) (fun s5 r6 => (if r6 = 0 then some (s5, (-1)) else gd ((34 + (2 * a1)) + a2) 189 (some (s5, (gi s5 1 ((34 + (2 * a1)) + a2).toNatClampNeg))))))))
set_option maxHeartbeats 4000000 in
set_option maxRecDepth 100000 in
theorem k_X6_saying {a1 : Int32} {a2 : Int32} {s0 zs : StA} {rr : Int32} (hf : f_X6_saying a1 a2 s0 = some (zs, rr)) : CtI mM yX6_saying cX6_saying 3 .int rm_X6_saying (fun ph => [.ref (ph 0), .int a1, .int a2]) s0 zs rr := by
  refine CtI.of (by decide +kernel) (fun ph => Nat.le_of_ble_eq_true rfl) (fun E O hret => ?_)
  have O : OK mM E RX6 cX6_saying 3 rm_X6_saying := O
  show WS mM E 3 0 [(0, rf E 0), (1, .int a1), (2, .int a2)] [] s0
  unfold f_X6_saying at hf
  refine s_iload_n O 1 dX6_saying_0 rfl rfl ?_
  refine s_i2l O dX6_saying_1 ?_
  refine s_lconst (v := 0) O dX6_saying_2 rfl ?_
  refine s_aload_n O 0 dX6_saying_3 rfl rfl ?_
  refine s_getR O fg_RX6_7 ms_0 rfl dX6_saying_4 ?_
  refine s_bipush (v := 33) O dX6_saying_7 rfl ?_
  obtain ⟨h1, hf⟩ := gd_e hf
  refine s_iald O ms_1 h1 dX6_saying_9 ?_
  refine s_iconst (v := 1) O dX6_saying_10 rfl ?_
  refine s_isub O dX6_saying_11 ?_
  refine s_i2l O dX6_saying_12 ?_
  obtain ⟨s2, r3, c4, hf⟩ := bn_e hf
  refine s_SI (As := [.long a1.toInt64, .long 0, .long ((gi s0 1 (33 : Int32).toNatClampNeg) - 1).toInt64]) (st := []) O lk_RX6_69 (k_X6_in c4) rfl rfl ⟨rfl, rfl⟩ ⟨Nat.le_of_ble_eq_true rfl, Nat.le_of_ble_eq_true rfl⟩ rfl (Nat.le_of_ble_eq_true rfl) dX6_saying_13 ?_
  refine s_if_eq (tgt := 42) O dX6_saying_16 (by decide) (fun c => ?_) (fun c => ?_)
  · replace hf := if_t c hf
    refine s_iconst (v := (-1)) O dX6_saying_42 rfl ?_
    exact s_iret hret rfl dX6_saying_43 hf
  · replace hf := if_f c hf
    refine s_iload_n O 2 dX6_saying_19 rfl rfl ?_
    obtain ⟨s5, r6, c7, hf⟩ := bn_e hf
    refine s_SI (As := [.int a2]) (st := []) O lk_RX6_188 (k_X6_isPart c7) rfl rfl ⟨rfl, rfl⟩ ⟨Nat.le_of_ble_eq_true rfl, Nat.le_of_ble_eq_true rfl⟩ rfl (Nat.le_of_ble_eq_true rfl) dX6_saying_20 ?_
    refine s_if_eq (tgt := 42) O dX6_saying_23 (by decide) (fun c => ?_) (fun c => ?_)
    · replace hf := if_t c hf
      refine s_iconst (v := (-1)) O dX6_saying_42 rfl ?_
      exact s_iret hret rfl dX6_saying_43 hf
    · replace hf := if_f c hf
      refine s_aload_n O 0 dX6_saying_26 rfl rfl ?_
      refine s_getR O fg_RX6_7 ms_0 rfl dX6_saying_27 ?_
      refine s_bipush (v := 34) O dX6_saying_30 rfl ?_
      refine s_iconst (v := 2) O dX6_saying_32 rfl ?_
      refine s_iload_n O 1 dX6_saying_33 rfl rfl ?_
      refine s_imul O dX6_saying_34 ?_
      refine s_iadd O dX6_saying_35 ?_
      refine s_iload_n O 2 dX6_saying_36 rfl rfl ?_
      refine s_iadd O dX6_saying_37 ?_
      obtain ⟨h8, hf⟩ := gd_e hf
      refine s_iald O ms_1 h8 dX6_saying_38 ?_
      refine s_goto (tgt := 43) O dX6_saying_39 (by decide) ?_
      exact s_iret hret rfl dX6_saying_43 hf
def rm_X6_becomes : Room := { frames := 0, cells := 0, slots := 0, locals := 0 }
def f_X6_becomes (a1 : Int32) (a2 : Int32) (s0 : StA) : Option (StA × Int32) :=
  gd a1 189 (nmi (gi s0 1 a1.toNatClampNeg) (fun n2 => gd a1 189 (nms (si s0 1 a1.toNatClampNeg a2) (fun s4 => some (s4, n2)))))
set_option maxHeartbeats 4000000 in
set_option maxRecDepth 100000 in
theorem k_X6_becomes {a1 : Int32} {a2 : Int32} {s0 zs : StA} {rr : Int32} (hf : f_X6_becomes a1 a2 s0 = some (zs, rr)) : CtI mM yX6_becomes cX6_becomes 4 .int rm_X6_becomes (fun ph => [.ref (ph 0), .int a1, .int a2]) s0 zs rr := by
  refine CtI.of (by decide +kernel) (fun ph => Nat.le_of_ble_eq_true rfl) (fun E O hret => ?_)
  have O : OK mM E RX6 cX6_becomes 4 rm_X6_becomes := O
  show WS mM E 4 0 [(0, rf E 0), (1, .int a1), (2, .int a2)] [] s0
  unfold f_X6_becomes at hf
  refine s_aload_n O 0 dX6_becomes_0 rfl rfl ?_
  refine s_getR O fg_RX6_7 ms_0 rfl dX6_becomes_1 ?_
  refine s_iload_n O 1 dX6_becomes_4 rfl rfl ?_
  obtain ⟨h1, hf⟩ := gd_e hf
  refine s_iald O ms_1 h1 dX6_becomes_5 ?_
  refine s_topi (fun n2 en2 => ?_)
  replace hf := nmi_e en2 hf
  refine s_istore_n (lv' := [(3, .int n2), (0, rf E 0), (1, .int a1), (2, .int a2)]) O dX6_becomes_6 rfl (by decide) rfl ?_
  refine s_aload_n O 1 dX6_becomes_7 rfl rfl ?_
  refine s_getR O fg_RX6_7 ms_0 rfl dX6_becomes_8 ?_
  refine s_iload_n O 2 dX6_becomes_11 rfl rfl ?_
  refine s_iload_n O 3 dX6_becomes_12 rfl rfl ?_
  obtain ⟨h3, hf⟩ := gd_e hf
  refine s_iast O ms_1 h3 dX6_becomes_13 ?_
  refine s_tops (fun s4 es4 => ?_)
  replace hf := nms_e es4 hf
  refine s_iload_n O 0 dX6_becomes_14 rfl rfl ?_
  exact s_iret hret rfl dX6_becomes_15 hf
def rm_X6_alter : Room := { frames := 2, cells := 0, slots := 0, locals := 46 }
def fj_X6_alter_j50 (a1 : Int32) (a2 : Int32) (a3 : Int32)  (y0 : Int32) (s0 : StA) : Option (StA × (Int32)) :=
  bn (f_X6_isThing a1 s0) (fun s1 r2 => (if r2 = 0 then some (s1, (-1)) else (if y0 = 0 then some (s1, (-1)) else bn (f_X6_becomes ((4 * a1) + a2) a3 s1) (fun s4 r5 => some (s4, r5)))))
set_option maxHeartbeats 4000000 in
set_option maxRecDepth 100000 in
theorem wj_X6_alter_j50 {E : XC} (O : OK mM E RX6 cX6_alter 5 rm_X6_alter) {a1 : Int32} {a2 : Int32} {a3 : Int32}   {y0 : Int32} {s0 : StA} {zs : StA} {rr : Int32} (hret : ReI mM E .int cX6_alter zs rr) (hf : fj_X6_alter_j50 a1 a2 a3 y0 s0 = some (zs, rr)) : WS mM E 5 50 [(0, rf E 0), (1, .int a1), (2, .int a2), (3, .int a3)] [.int y0] s0 := by
  unfold fj_X6_alter_j50 at hf
  refine s_istore (lv' := [(4, .int y0), (0, rf E 0), (1, .int a1), (2, .int a2), (3, .int a3)]) O dX6_alter_50 (by decide) rfl ?_
  refine s_aload_n O 1 dX6_alter_52 rfl rfl ?_
  refine s_iload_n O 2 dX6_alter_53 rfl rfl ?_
  obtain ⟨s1, r2, c3, hf⟩ := bn_e hf
  refine s_VI (As := [.int a1]) (st := []) O lk_RX6_181 (k_X6_isThing c3) rfl ms_0 rfl rfl ⟨rfl, rfl⟩ ⟨Nat.le_of_ble_eq_true rfl, Nat.le_of_ble_eq_true rfl⟩ rfl (Nat.le_of_ble_eq_true rfl) dX6_alter_54 ?_
  refine s_if_eq (tgt := 78) O dX6_alter_57 (by decide) (fun c => ?_) (fun c => ?_)
  · replace hf := if_t c hf
    refine s_iconst (v := (-1)) O dX6_alter_78 rfl ?_
    exact s_iret hret rfl dX6_alter_79 hf
  · replace hf := if_f c hf
    refine s_iload O 0 dX6_alter_60 rfl ?_
    refine s_if_eq (tgt := 78) O dX6_alter_62 (by decide) (fun c => ?_) (fun c => ?_)
    · replace hf := if_t c hf
      refine s_iconst (v := (-1)) O dX6_alter_78 rfl ?_
      exact s_iret hret rfl dX6_alter_79 hf
    · replace hf := if_f c hf
      refine s_aload_n O 1 dX6_alter_65 rfl rfl ?_
      refine s_iconst (v := 4) O dX6_alter_66 rfl ?_
      refine s_iload_n O 2 dX6_alter_67 rfl rfl ?_
      refine s_imul O dX6_alter_68 ?_
      refine s_iload_n O 3 dX6_alter_69 rfl rfl ?_
      refine s_iadd O dX6_alter_70 ?_
      refine s_iload_n O 4 dX6_alter_71 rfl rfl ?_
      obtain ⟨s4, r5, c6, hf⟩ := bn_e hf
      refine s_VI (As := [.int ((4 * a1) + a2), .int a3]) (st := []) O lk_RX6_195 (k_X6_becomes c6) rfl ms_0 rfl rfl ⟨rfl, rfl⟩ ⟨Nat.le_of_ble_eq_true rfl, Nat.le_of_ble_eq_true rfl⟩ rfl (Nat.le_of_ble_eq_true rfl) dX6_alter_72 ?_
      refine s_goto (tgt := 79) O dX6_alter_75 (by decide) ?_
      exact s_iret hret rfl dX6_alter_79 hf
def fj_X6_alter_j49 (a1 : Int32) (a2 : Int32) (a3 : Int32)   (s0 : StA) : Option (StA × (Int32)) :=
  fj_X6_alter_j50 a1 a2 a3 0 s0
set_option maxHeartbeats 4000000 in
set_option maxRecDepth 100000 in
theorem wj_X6_alter_j49 {E : XC} (O : OK mM E RX6 cX6_alter 5 rm_X6_alter) {a1 : Int32} {a2 : Int32} {a3 : Int32}    {s0 : StA} {zs : StA} {rr : Int32} (hret : ReI mM E .int cX6_alter zs rr) (hf : fj_X6_alter_j49 a1 a2 a3 s0 = some (zs, rr)) : WS mM E 5 49 [(0, rf E 0), (1, .int a1), (2, .int a2), (3, .int a3)] [] s0 := by
  unfold fj_X6_alter_j49 at hf
  refine s_iconst (v := 0) O dX6_alter_49 rfl ?_
  exact wj_X6_alter_j50 (rr := rr) O   hret hf
def f_X6_alter (a1 : Int32) (a2 : Int32) (a3 : Int32) (s0 : StA) : Option (StA × Int32) :=
  (if a2 = 0 then bn (f_X6_in a3.toInt64 0 3 s0) (fun s13 r14 => fj_X6_alter_j50 a1 a2 a3 r14 s13) else (if a2 = 1 then bn (f_X6_in a3.toInt64 1 9 s0) (fun s10 r11 => fj_X6_alter_j50 a1 a2 a3 r11 s10) else (if a2 = 2 then bn (f_X6_isPart a3 s0) (fun s7 r8 => (if r8 = 0 then fj_X6_alter_j49 a1 a2 a3 s7 else fj_X6_alter_j50 a1 a2 a3 1 s7)) else fj_X6_alter_j49 a1 a2 a3 s0)))
set_option maxHeartbeats 4000000 in
set_option maxRecDepth 100000 in
theorem k_X6_alter {a1 : Int32} {a2 : Int32} {a3 : Int32} {s0 zs : StA} {rr : Int32} (hf : f_X6_alter a1 a2 a3 s0 = some (zs, rr)) : CtI mM yX6_alter cX6_alter 5 .int rm_X6_alter (fun ph => [.ref (ph 0), .int a1, .int a2, .int a3]) s0 zs rr := by
  refine CtI.of (by decide +kernel) (fun ph => Nat.le_of_ble_eq_true rfl) (fun E O hret => ?_)
  have O : OK mM E RX6 cX6_alter 5 rm_X6_alter := O
  show WS mM E 5 0 [(0, rf E 0), (1, .int a1), (2, .int a2), (3, .int a3)] [] s0
  unfold f_X6_alter at hf
  refine s_iload_n O 2 dX6_alter_0 rfl rfl ?_
  refine s_if_ne (tgt := 16) O dX6_alter_1 (by decide) (fun c => ?_) (fun c => ?_)
  · replace hf := if_f c hf
    refine s_iload_n O 2 dX6_alter_16 rfl rfl ?_
    refine s_iconst (v := 1) O dX6_alter_17 rfl ?_
    refine s_icmp_ne (tgt := 33) O dX6_alter_18 (by decide) (fun c => ?_) (fun c => ?_)
    · replace hf := if_f c hf
      refine s_iload_n O 2 dX6_alter_33 rfl rfl ?_
      refine s_iconst (v := 2) O dX6_alter_34 rfl ?_
      refine s_icmp_ne (tgt := 49) O dX6_alter_35 (by decide) (fun c => ?_) (fun c => ?_)
      · replace hf := if_f c hf
        exact wj_X6_alter_j49 (rr := rr) O   hret hf
      · replace hf := if_t c hf
        refine s_iload_n O 3 dX6_alter_38 rfl rfl ?_
        obtain ⟨s7, r8, c9, hf⟩ := bn_e hf
        refine s_SI (As := [.int a3]) (st := []) O lk_RX6_188 (k_X6_isPart c9) rfl rfl ⟨rfl, rfl⟩ ⟨Nat.le_of_ble_eq_true rfl, Nat.le_of_ble_eq_true rfl⟩ rfl (Nat.le_of_ble_eq_true rfl) dX6_alter_39 ?_
        refine s_if_eq (tgt := 49) O dX6_alter_42 (by decide) (fun c => ?_) (fun c => ?_)
        · replace hf := if_t c hf
          exact wj_X6_alter_j49 (rr := rr) O   hret hf
        · replace hf := if_f c hf
          refine s_iconst (v := 1) O dX6_alter_45 rfl ?_
          refine s_goto (tgt := 50) O dX6_alter_46 (by decide) ?_
          exact wj_X6_alter_j50 (rr := rr) O   hret hf
    · replace hf := if_t c hf
      refine s_iload_n O 3 dX6_alter_21 rfl rfl ?_
      refine s_i2l O dX6_alter_22 ?_
      refine s_lconst (v := 1) O dX6_alter_23 rfl ?_
      refine s_ldc2 O cl_RX6_193 dX6_alter_24 ?_
      obtain ⟨s10, r11, c12, hf⟩ := bn_e hf
      refine s_SI (As := [.long a3.toInt64, .long 1, .long 9]) (st := []) O lk_RX6_69 (k_X6_in c12) rfl rfl ⟨rfl, rfl⟩ ⟨Nat.le_of_ble_eq_true rfl, Nat.le_of_ble_eq_true rfl⟩ rfl (Nat.le_of_ble_eq_true rfl) dX6_alter_27 ?_
      refine s_goto (tgt := 50) O dX6_alter_30 (by decide) ?_
      exact wj_X6_alter_j50 (rr := rr) O   hret hf
  · replace hf := if_t c hf
    refine s_iload_n O 3 dX6_alter_4 rfl rfl ?_
    refine s_i2l O dX6_alter_5 ?_
    refine s_lconst (v := 0) O dX6_alter_6 rfl ?_
    refine s_ldc2 O cl_RX6_191 dX6_alter_7 ?_
    obtain ⟨s13, r14, c15, hf⟩ := bn_e hf
    refine s_SI (As := [.long a3.toInt64, .long 0, .long 3]) (st := []) O lk_RX6_69 (k_X6_in c15) rfl rfl ⟨rfl, rfl⟩ ⟨Nat.le_of_ble_eq_true rfl, Nat.le_of_ble_eq_true rfl⟩ rfl (Nat.le_of_ble_eq_true rfl) dX6_alter_10 ?_
    refine s_goto (tgt := 50) O dX6_alter_13 (by decide) ?_
    exact wj_X6_alter_j50 (rr := rr) O   hret hf
def rm_X6_blow : Room := { frames := 2, cells := 0, slots := 0, locals := 45 }
def f_X6_blow (a1 : Int32) (a2 : Int32) (s0 : StA) : Option (StA × Int32) :=
  bn (f_X6_isWind a1 s0) (fun s1 r2 => (if r2 = 0 then some (s1, (-1)) else bn (f_X6_in a2.toInt64 0 8 s1) (fun s4 r5 => (if r5 = 0 then some (s4, (-1)) else bn (f_X6_becomes (28 + a1) a2 s4) (fun s7 r8 => some (s7, r8))))))
set_option maxHeartbeats 4000000 in
set_option maxRecDepth 100000 in
theorem k_X6_blow {a1 : Int32} {a2 : Int32} {s0 zs : StA} {rr : Int32} (hf : f_X6_blow a1 a2 s0 = some (zs, rr)) : CtI mM yX6_blow cX6_blow 3 .int rm_X6_blow (fun ph => [.ref (ph 0), .int a1, .int a2]) s0 zs rr := by
  refine CtI.of (by decide +kernel) (fun ph => Nat.le_of_ble_eq_true rfl) (fun E O hret => ?_)
  have O : OK mM E RX6 cX6_blow 3 rm_X6_blow := O
  show WS mM E 3 0 [(0, rf E 0), (1, .int a1), (2, .int a2)] [] s0
  unfold f_X6_blow at hf
  refine s_iload_n O 1 dX6_blow_0 rfl rfl ?_
  obtain ⟨s1, r2, c3, hf⟩ := bn_e hf
  refine s_SI (As := [.int a1]) (st := []) O lk_RX6_185 (k_X6_isWind c3) rfl rfl ⟨rfl, rfl⟩ ⟨Nat.le_of_ble_eq_true rfl, Nat.le_of_ble_eq_true rfl⟩ rfl (Nat.le_of_ble_eq_true rfl) dX6_blow_1 ?_
  refine s_if_eq (tgt := 31) O dX6_blow_4 (by decide) (fun c => ?_) (fun c => ?_)
  · replace hf := if_t c hf
    refine s_iconst (v := (-1)) O dX6_blow_31 rfl ?_
    exact s_iret hret rfl dX6_blow_32 hf
  · replace hf := if_f c hf
    refine s_iload_n O 2 dX6_blow_7 rfl rfl ?_
    refine s_i2l O dX6_blow_8 ?_
    refine s_lconst (v := 0) O dX6_blow_9 rfl ?_
    refine s_ldc2 O cl_RX6_198 dX6_blow_10 ?_
    obtain ⟨s4, r5, c6, hf⟩ := bn_e hf
    refine s_SI (As := [.long a2.toInt64, .long 0, .long 8]) (st := []) O lk_RX6_69 (k_X6_in c6) rfl rfl ⟨rfl, rfl⟩ ⟨Nat.le_of_ble_eq_true rfl, Nat.le_of_ble_eq_true rfl⟩ rfl (Nat.le_of_ble_eq_true rfl) dX6_blow_13 ?_
    refine s_if_eq (tgt := 31) O dX6_blow_16 (by decide) (fun c => ?_) (fun c => ?_)
    · replace hf := if_t c hf
      refine s_iconst (v := (-1)) O dX6_blow_31 rfl ?_
      exact s_iret hret rfl dX6_blow_32 hf
    · replace hf := if_f c hf
      refine s_aload_n O 0 dX6_blow_19 rfl rfl ?_
      refine s_bipush (v := 28) O dX6_blow_20 rfl ?_
      refine s_iload_n O 1 dX6_blow_22 rfl rfl ?_
      refine s_iadd O dX6_blow_23 ?_
      refine s_iload_n O 2 dX6_blow_24 rfl rfl ?_
      obtain ⟨s7, r8, c9, hf⟩ := bn_e hf
      refine s_VI (As := [.int (28 + a1), .int a2]) (st := []) O lk_RX6_195 (k_X6_becomes c9) rfl ms_0 rfl rfl ⟨rfl, rfl⟩ ⟨Nat.le_of_ble_eq_true rfl, Nat.le_of_ble_eq_true rfl⟩ rfl (Nat.le_of_ble_eq_true rfl) dX6_blow_25 ?_
      refine s_goto (tgt := 32) O dX6_blow_28 (by decide) ?_
      exact s_iret hret rfl dX6_blow_32 hf
def rm_X6_rate : Room := { frames := 1, cells := 0, slots := 0, locals := 25 }
def f_X6_rate (a1 : Int32) (s0 : StA) : Option (StA × Int32) :=
  bn (f_X6_in a1.toInt64 1 9 s0) (fun s1 r2 => (if r2 = 0 then some (s1, (-1)) else bn (f_X6_becomes 26 a1 s1) (fun s4 r5 => some (s4, r5))))
set_option maxHeartbeats 4000000 in
set_option maxRecDepth 100000 in
theorem k_X6_rate {a1 : Int32} {s0 zs : StA} {rr : Int32} (hf : f_X6_rate a1 s0 = some (zs, rr)) : CtI mM yX6_rate cX6_rate 2 .int rm_X6_rate (fun ph => [.ref (ph 0), .int a1]) s0 zs rr := by
  refine CtI.of (by decide +kernel) (fun ph => Nat.le_of_ble_eq_true rfl) (fun E O hret => ?_)
  have O : OK mM E RX6 cX6_rate 2 rm_X6_rate := O
  show WS mM E 2 0 [(0, rf E 0), (1, .int a1)] [] s0
  unfold f_X6_rate at hf
  refine s_iload_n O 1 dX6_rate_0 rfl rfl ?_
  refine s_i2l O dX6_rate_1 ?_
  refine s_lconst (v := 1) O dX6_rate_2 rfl ?_
  refine s_ldc2 O cl_RX6_193 dX6_rate_3 ?_
  obtain ⟨s1, r2, c3, hf⟩ := bn_e hf
  refine s_SI (As := [.long a1.toInt64, .long 1, .long 9]) (st := []) O lk_RX6_69 (k_X6_in c3) rfl rfl ⟨rfl, rfl⟩ ⟨Nat.le_of_ble_eq_true rfl, Nat.le_of_ble_eq_true rfl⟩ rfl (Nat.le_of_ble_eq_true rfl) dX6_rate_6 ?_
  refine s_if_eq (tgt := 22) O dX6_rate_9 (by decide) (fun c => ?_) (fun c => ?_)
  · replace hf := if_t c hf
    refine s_iconst (v := (-1)) O dX6_rate_22 rfl ?_
    exact s_iret hret rfl dX6_rate_23 hf
  · replace hf := if_f c hf
    refine s_aload_n O 0 dX6_rate_12 rfl rfl ?_
    refine s_bipush (v := 26) O dX6_rate_13 rfl ?_
    refine s_iload_n O 1 dX6_rate_15 rfl rfl ?_
    obtain ⟨s4, r5, c6, hf⟩ := bn_e hf
    refine s_VI (As := [.int 26, .int a1]) (st := []) O lk_RX6_195 (k_X6_becomes c6) rfl ms_0 rfl rfl ⟨rfl, rfl⟩ ⟨Nat.le_of_ble_eq_true rfl, Nat.le_of_ble_eq_true rfl⟩ rfl (Nat.le_of_ble_eq_true rfl) dX6_rate_16 ?_
    refine s_goto (tgt := 23) O dX6_rate_19 (by decide) ?_
    exact s_iret hret rfl dX6_rate_23 hf
def rm_X6_saidBecomes : Room := { frames := 3, cells := 0, slots := 0, locals := 67 }
def f_X6_saidBecomes (a1 : Int32) (a2 : Int32) (s0 : StA) : Option (StA × Int32) :=
  bn (f_X6_isThing a1 s0) (fun s1 r2 => (if r2 = 0 then some (s1, (-1)) else gd ((4 * a1) + 3) 189 ((if (gi s1 1 ((4 * a1) + 3).toNatClampNeg) = a2 then some (s1, (-2)) else gd ((4 * a1) + 3) 189 (nms (si s1 1 (((4 * a1) + 3).toNatClampNeg) a2) (fun s6 => bn (f_X6_starts  s6) (fun s7 r8 => bn (f_X6_liftNow  s7) (fun s10 r11 => some (s10, r11)))))))))
set_option maxHeartbeats 4000000 in
set_option maxRecDepth 100000 in
theorem k_X6_saidBecomes {a1 : Int32} {a2 : Int32} {s0 zs : StA} {rr : Int32} (hf : f_X6_saidBecomes a1 a2 s0 = some (zs, rr)) : CtI mM yX6_saidBecomes cX6_saidBecomes 3 .int rm_X6_saidBecomes (fun ph => [.ref (ph 0), .int a1, .int a2]) s0 zs rr := by
  refine CtI.of (by decide +kernel) (fun ph => Nat.le_of_ble_eq_true rfl) (fun E O hret => ?_)
  have O : OK mM E RX6 cX6_saidBecomes 3 rm_X6_saidBecomes := O
  show WS mM E 3 0 [(0, rf E 0), (1, .int a1), (2, .int a2)] [] s0
  unfold f_X6_saidBecomes at hf
  refine s_aload_n O 0 dX6_saidBecomes_0 rfl rfl ?_
  refine s_iload_n O 1 dX6_saidBecomes_1 rfl rfl ?_
  obtain ⟨s1, r2, c3, hf⟩ := bn_e hf
  refine s_VI (As := [.int a1]) (st := []) O lk_RX6_181 (k_X6_isThing c3) rfl ms_0 rfl rfl ⟨rfl, rfl⟩ ⟨Nat.le_of_ble_eq_true rfl, Nat.le_of_ble_eq_true rfl⟩ rfl (Nat.le_of_ble_eq_true rfl) dX6_saidBecomes_2 ?_
  refine s_if_ne (tgt := 10) O dX6_saidBecomes_5 (by decide) (fun c => ?_) (fun c => ?_)
  · replace hf := if_f c hf
    refine s_aload_n O 0 dX6_saidBecomes_10 rfl rfl ?_
    refine s_getR O fg_RX6_7 ms_0 rfl dX6_saidBecomes_11 ?_
    refine s_iconst (v := 4) O dX6_saidBecomes_14 rfl ?_
    refine s_iload_n O 1 dX6_saidBecomes_15 rfl rfl ?_
    refine s_imul O dX6_saidBecomes_16 ?_
    refine s_iconst (v := 3) O dX6_saidBecomes_17 rfl ?_
    refine s_iadd O dX6_saidBecomes_18 ?_
    obtain ⟨h4, hf⟩ := gd_e hf
    refine s_iald O ms_1 h4 dX6_saidBecomes_19 ?_
    refine s_iload_n O 2 dX6_saidBecomes_20 rfl rfl ?_
    refine s_icmp_ne (tgt := 27) O dX6_saidBecomes_21 (by decide) (fun c => ?_) (fun c => ?_)
    · replace hf := if_f c hf
      refine s_aload_n O 0 dX6_saidBecomes_27 rfl rfl ?_
      refine s_getR O fg_RX6_7 ms_0 rfl dX6_saidBecomes_28 ?_
      refine s_iconst (v := 4) O dX6_saidBecomes_31 rfl ?_
      refine s_iload_n O 1 dX6_saidBecomes_32 rfl rfl ?_
      refine s_imul O dX6_saidBecomes_33 ?_
      refine s_iconst (v := 3) O dX6_saidBecomes_34 rfl ?_
      refine s_iadd O dX6_saidBecomes_35 ?_
      refine s_iload_n O 2 dX6_saidBecomes_36 rfl rfl ?_
      obtain ⟨h5, hf⟩ := gd_e hf
      refine s_iast O ms_1 h5 dX6_saidBecomes_37 ?_
      refine s_tops (fun s6 es6 => ?_)
      replace hf := nms_e es6 hf
      refine s_aload_n O 0 dX6_saidBecomes_38 rfl rfl ?_
      obtain ⟨s7, r8, c9, hf⟩ := bn_e hf
      refine s_VV (As := []) (st := []) O lk_RX6_175 (k_X6_starts c9) rfl ms_0 rfl rfl ⟨rfl, rfl⟩ ⟨Nat.le_of_ble_eq_true rfl, Nat.le_of_ble_eq_true rfl⟩ rfl (Nat.le_of_ble_eq_true rfl) dX6_saidBecomes_39 ?_
      refine s_aload_n O 0 dX6_saidBecomes_42 rfl rfl ?_
      obtain ⟨s10, r11, c12, hf⟩ := bn_e hf
      refine s_VI (As := []) (st := []) O lk_RX6_169 (k_X6_liftNow c12) rfl ms_0 rfl rfl ⟨rfl, rfl⟩ ⟨Nat.le_of_ble_eq_true rfl, Nat.le_of_ble_eq_true rfl⟩ rfl (Nat.le_of_ble_eq_true rfl) dX6_saidBecomes_43 ?_
      exact s_iret hret rfl dX6_saidBecomes_46 hf
    · replace hf := if_t c hf
      refine s_bipush (v := (-2)) O dX6_saidBecomes_24 rfl ?_
      exact s_iret hret rfl dX6_saidBecomes_26 hf
  · replace hf := if_t c hf
    refine s_iconst (v := (-1)) O dX6_saidBecomes_8 rfl ?_
    exact s_iret hret rfl dX6_saidBecomes_9 hf
def rm_X6_say : Room := { frames := 4, cells := 0, slots := 0, locals := 89 }
def f_X6_say (a1 : Int32) (s0 : StA) : Option (StA × Int32) :=
  bn (f_X6_saidBecomes a1 1 s0) (fun s1 r2 => some (s1, r2))
set_option maxHeartbeats 4000000 in
set_option maxRecDepth 100000 in
theorem k_X6_say {a1 : Int32} {s0 zs : StA} {rr : Int32} (hf : f_X6_say a1 s0 = some (zs, rr)) : CtI mM yX6_say cX6_say 2 .int rm_X6_say (fun ph => [.ref (ph 0), .int a1]) s0 zs rr := by
  refine CtI.of (by decide +kernel) (fun ph => Nat.le_of_ble_eq_true rfl) (fun E O hret => ?_)
  have O : OK mM E RX6 cX6_say 2 rm_X6_say := O
  show WS mM E 2 0 [(0, rf E 0), (1, .int a1)] [] s0
  unfold f_X6_say at hf
  refine s_aload_n O 0 dX6_say_0 rfl rfl ?_
  refine s_iload_n O 1 dX6_say_1 rfl rfl ?_
  refine s_iconst (v := 1) O dX6_say_2 rfl ?_
  obtain ⟨s1, r2, c3, hf⟩ := bn_e hf
  refine s_VI (As := [.int a1, .int 1]) (st := []) O lk_RX6_200 (k_X6_saidBecomes c3) rfl ms_0 rfl rfl ⟨rfl, rfl⟩ ⟨Nat.le_of_ble_eq_true rfl, Nat.le_of_ble_eq_true rfl⟩ rfl (Nat.le_of_ble_eq_true rfl) dX6_say_3 ?_
  exact s_iret hret rfl dX6_say_6 hf
def rm_X6_take : Room := { frames := 4, cells := 0, slots := 0, locals := 89 }
def f_X6_take (a1 : Int32) (s0 : StA) : Option (StA × Int32) :=
  bn (f_X6_saidBecomes a1 0 s0) (fun s1 r2 => some (s1, r2))
set_option maxHeartbeats 4000000 in
set_option maxRecDepth 100000 in
theorem k_X6_take {a1 : Int32} {s0 zs : StA} {rr : Int32} (hf : f_X6_take a1 s0 = some (zs, rr)) : CtI mM yX6_take cX6_take 2 .int rm_X6_take (fun ph => [.ref (ph 0), .int a1]) s0 zs rr := by
  refine CtI.of (by decide +kernel) (fun ph => Nat.le_of_ble_eq_true rfl) (fun E O hret => ?_)
  have O : OK mM E RX6 cX6_take 2 rm_X6_take := O
  show WS mM E 2 0 [(0, rf E 0), (1, .int a1)] [] s0
  unfold f_X6_take at hf
  refine s_aload_n O 0 dX6_take_0 rfl rfl ?_
  refine s_iload_n O 1 dX6_take_1 rfl rfl ?_
  refine s_iconst (v := 0) O dX6_take_2 rfl ?_
  obtain ⟨s1, r2, c3, hf⟩ := bn_e hf
  refine s_VI (As := [.int a1, .int 0]) (st := []) O lk_RX6_200 (k_X6_saidBecomes c3) rfl ms_0 rfl rfl ⟨rfl, rfl⟩ ⟨Nat.le_of_ble_eq_true rfl, Nat.le_of_ble_eq_true rfl⟩ rfl (Nat.le_of_ble_eq_true rfl) dX6_take_3 ?_
  exact s_iret hret rfl dX6_take_6 hf
def rm_X6_plan : Room := { frames := 2, cells := 0, slots := 0, locals := 46 }
def f_X6_plan (a1 : Int32) (a2 : Int32) (s0 : StA) : Option (StA × Int32) :=
  bn (f_X6_in a1.toInt64 0 99 s0) (fun s1 r2 => (if r2 = 0 then some (s1, (-1)) else bn (f_X6_isThing a2 s1) (fun s4 r5 => (if r5 = 0 then some (s4, (-1)) else gd 33 189 ((if (gi s4 1 (33 : Int32).toNatClampNeg) = 8 then some (s4, (-3)) else gd 33 189 (nmi (34 + (2 * (gi s4 1 (33 : Int32).toNatClampNeg))) (fun n9 => gd n9 189 (nms (si s4 1 n9.toNatClampNeg a1) (fun s11 => gd (n9 + 1) 189 (nms (si s11 1 ((n9 + 1).toNatClampNeg) a2) (fun s13 => gd 33 189 (gd 33 189 (nms (si s13 1 ((33 : Int32).toNatClampNeg) ((gi s13 1 (33 : Int32).toNatClampNeg) + 1)) (fun s16 => gd 33 189 (some (s16, (gi s16 1 (33 : Int32).toNatClampNeg))))))))))))))))))
set_option maxHeartbeats 4000000 in
set_option maxRecDepth 100000 in
theorem k_X6_plan {a1 : Int32} {a2 : Int32} {s0 zs : StA} {rr : Int32} (hf : f_X6_plan a1 a2 s0 = some (zs, rr)) : CtI mM yX6_plan cX6_plan 4 .int rm_X6_plan (fun ph => [.ref (ph 0), .int a1, .int a2]) s0 zs rr := by
  refine CtI.of (by decide +kernel) (fun ph => Nat.le_of_ble_eq_true rfl) (fun E O hret => ?_)
  have O : OK mM E RX6 cX6_plan 4 rm_X6_plan := O
  show WS mM E 4 0 [(0, rf E 0), (1, .int a1), (2, .int a2)] [] s0
  unfold f_X6_plan at hf
  refine s_iload_n O 1 dX6_plan_0 rfl rfl ?_
  refine s_i2l O dX6_plan_1 ?_
  refine s_lconst (v := 0) O dX6_plan_2 rfl ?_
  refine s_ldc2 O cl_RX6_144 dX6_plan_3 ?_
  obtain ⟨s1, r2, c3, hf⟩ := bn_e hf
  refine s_SI (As := [.long a1.toInt64, .long 0, .long 99]) (st := []) O lk_RX6_69 (k_X6_in c3) rfl rfl ⟨rfl, rfl⟩ ⟨Nat.le_of_ble_eq_true rfl, Nat.le_of_ble_eq_true rfl⟩ rfl (Nat.le_of_ble_eq_true rfl) dX6_plan_6 ?_
  refine s_if_eq (tgt := 20) O dX6_plan_9 (by decide) (fun c => ?_) (fun c => ?_)
  · replace hf := if_t c hf
    refine s_iconst (v := (-1)) O dX6_plan_20 rfl ?_
    exact s_iret hret rfl dX6_plan_21 hf
  · replace hf := if_f c hf
    refine s_aload_n O 0 dX6_plan_12 rfl rfl ?_
    refine s_iload_n O 2 dX6_plan_13 rfl rfl ?_
    obtain ⟨s4, r5, c6, hf⟩ := bn_e hf
    refine s_VI (As := [.int a2]) (st := []) O lk_RX6_181 (k_X6_isThing c6) rfl ms_0 rfl rfl ⟨rfl, rfl⟩ ⟨Nat.le_of_ble_eq_true rfl, Nat.le_of_ble_eq_true rfl⟩ rfl (Nat.le_of_ble_eq_true rfl) dX6_plan_14 ?_
    refine s_if_ne (tgt := 22) O dX6_plan_17 (by decide) (fun c => ?_) (fun c => ?_)
    · replace hf := if_f c hf
      refine s_aload_n O 0 dX6_plan_22 rfl rfl ?_
      refine s_getR O fg_RX6_7 ms_0 rfl dX6_plan_23 ?_
      refine s_bipush (v := 33) O dX6_plan_26 rfl ?_
      obtain ⟨h7, hf⟩ := gd_e hf
      refine s_iald O ms_1 h7 dX6_plan_28 ?_
      refine s_bipush (v := 8) O dX6_plan_29 rfl ?_
      refine s_icmp_ne (tgt := 37) O dX6_plan_31 (by decide) (fun c => ?_) (fun c => ?_)
      · replace hf := if_f c hf
        refine s_bipush (v := 34) O dX6_plan_37 rfl ?_
        refine s_iconst (v := 2) O dX6_plan_39 rfl ?_
        refine s_aload_n O 0 dX6_plan_40 rfl rfl ?_
        refine s_getR O fg_RX6_7 ms_0 rfl dX6_plan_41 ?_
        refine s_bipush (v := 33) O dX6_plan_44 rfl ?_
        obtain ⟨h8, hf⟩ := gd_e hf
        refine s_iald O ms_1 h8 dX6_plan_46 ?_
        refine s_imul O dX6_plan_47 ?_
        refine s_iadd O dX6_plan_48 ?_
        refine s_topi (fun n9 en9 => ?_)
        replace hf := nmi_e en9 hf
        refine s_istore_n (lv' := [(3, .int n9), (0, rf E 0), (1, .int a1), (2, .int a2)]) O dX6_plan_49 rfl (by decide) rfl ?_
        refine s_aload_n O 1 dX6_plan_50 rfl rfl ?_
        refine s_getR O fg_RX6_7 ms_0 rfl dX6_plan_51 ?_
        refine s_iload_n O 0 dX6_plan_54 rfl rfl ?_
        refine s_iload_n O 2 dX6_plan_55 rfl rfl ?_
        obtain ⟨h10, hf⟩ := gd_e hf
        refine s_iast O ms_1 h10 dX6_plan_56 ?_
        refine s_tops (fun s11 es11 => ?_)
        replace hf := nms_e es11 hf
        refine s_aload_n O 1 dX6_plan_57 rfl rfl ?_
        refine s_getR O fg_RX6_7 ms_0 rfl dX6_plan_58 ?_
        refine s_iload_n O 0 dX6_plan_61 rfl rfl ?_
        refine s_iconst (v := 1) O dX6_plan_62 rfl ?_
        refine s_iadd O dX6_plan_63 ?_
        refine s_iload_n O 3 dX6_plan_64 rfl rfl ?_
        obtain ⟨h12, hf⟩ := gd_e hf
        refine s_iast O ms_1 h12 dX6_plan_65 ?_
        refine s_tops (fun s13 es13 => ?_)
        replace hf := nms_e es13 hf
        refine s_aload_n O 1 dX6_plan_66 rfl rfl ?_
        refine s_getR O fg_RX6_7 ms_0 rfl dX6_plan_67 ?_
        refine s_bipush (v := 33) O dX6_plan_70 rfl ?_
        refine s_dup2 O dX6_plan_72 rfl rfl ?_
        obtain ⟨h14, hf⟩ := gd_e hf
        refine s_iald O ms_1 h14 dX6_plan_73 ?_
        refine s_iconst (v := 1) O dX6_plan_74 rfl ?_
        refine s_iadd O dX6_plan_75 ?_
        obtain ⟨h15, hf⟩ := gd_e hf
        refine s_iast O ms_1 h15 dX6_plan_76 ?_
        refine s_tops (fun s16 es16 => ?_)
        replace hf := nms_e es16 hf
        refine s_aload_n O 1 dX6_plan_77 rfl rfl ?_
        refine s_getR O fg_RX6_7 ms_0 rfl dX6_plan_78 ?_
        refine s_bipush (v := 33) O dX6_plan_81 rfl ?_
        obtain ⟨h17, hf⟩ := gd_e hf
        refine s_iald O ms_1 h17 dX6_plan_83 ?_
        exact s_iret hret rfl dX6_plan_84 hf
      · replace hf := if_t c hf
        refine s_bipush (v := (-3)) O dX6_plan_34 rfl ?_
        exact s_iret hret rfl dX6_plan_36 hf
    · replace hf := if_t c hf
      refine s_iconst (v := (-1)) O dX6_plan_20 rfl ?_
      exact s_iret hret rfl dX6_plan_21 hf
def rm_X6_cut : Room := { frames := 1, cells := 0, slots := 0, locals := 25 }
def f_X6_cut (a1 : Int32) (s0 : StA) : Option (StA × Int32) :=
  gd 33 189 (bn (f_X6_in a1.toInt64 0 (gi s0 1 (33 : Int32).toNatClampNeg).toInt64 s0) (fun s2 r3 => (if r3 = 0 then some (s2, (-1)) else bn (f_X6_becomes 33 a1 s2) (fun s5 r6 => some (s5, r6)))))
set_option maxHeartbeats 4000000 in
set_option maxRecDepth 100000 in
theorem k_X6_cut {a1 : Int32} {s0 zs : StA} {rr : Int32} (hf : f_X6_cut a1 s0 = some (zs, rr)) : CtI mM yX6_cut cX6_cut 2 .int rm_X6_cut (fun ph => [.ref (ph 0), .int a1]) s0 zs rr := by
  refine CtI.of (by decide +kernel) (fun ph => Nat.le_of_ble_eq_true rfl) (fun E O hret => ?_)
  have O : OK mM E RX6 cX6_cut 2 rm_X6_cut := O
  show WS mM E 2 0 [(0, rf E 0), (1, .int a1)] [] s0
  unfold f_X6_cut at hf
  refine s_iload_n O 1 dX6_cut_0 rfl rfl ?_
  refine s_i2l O dX6_cut_1 ?_
  refine s_lconst (v := 0) O dX6_cut_2 rfl ?_
  refine s_aload_n O 0 dX6_cut_3 rfl rfl ?_
  refine s_getR O fg_RX6_7 ms_0 rfl dX6_cut_4 ?_
  refine s_bipush (v := 33) O dX6_cut_7 rfl ?_
  obtain ⟨h1, hf⟩ := gd_e hf
  refine s_iald O ms_1 h1 dX6_cut_9 ?_
  refine s_i2l O dX6_cut_10 ?_
  obtain ⟨s2, r3, c4, hf⟩ := bn_e hf
  refine s_SI (As := [.long a1.toInt64, .long 0, .long (gi s0 1 (33 : Int32).toNatClampNeg).toInt64]) (st := []) O lk_RX6_69 (k_X6_in c4) rfl rfl ⟨rfl, rfl⟩ ⟨Nat.le_of_ble_eq_true rfl, Nat.le_of_ble_eq_true rfl⟩ rfl (Nat.le_of_ble_eq_true rfl) dX6_cut_11 ?_
  refine s_if_eq (tgt := 27) O dX6_cut_14 (by decide) (fun c => ?_) (fun c => ?_)
  · replace hf := if_t c hf
    refine s_iconst (v := (-1)) O dX6_cut_27 rfl ?_
    exact s_iret hret rfl dX6_cut_28 hf
  · replace hf := if_f c hf
    refine s_aload_n O 0 dX6_cut_17 rfl rfl ?_
    refine s_bipush (v := 33) O dX6_cut_18 rfl ?_
    refine s_iload_n O 1 dX6_cut_20 rfl rfl ?_
    obtain ⟨s5, r6, c7, hf⟩ := bn_e hf
    refine s_VI (As := [.int 33, .int a1]) (st := []) O lk_RX6_195 (k_X6_becomes c7) rfl ms_0 rfl rfl ⟨rfl, rfl⟩ ⟨Nat.le_of_ble_eq_true rfl, Nat.le_of_ble_eq_true rfl⟩ rfl (Nat.le_of_ble_eq_true rfl) dX6_cut_21 ?_
    refine s_goto (tgt := 28) O dX6_cut_24 (by decide) ?_
    exact s_iret hret rfl dX6_cut_28 hf
def rm_X6_becomesOf : Room := { frames := 0, cells := 0, slots := 0, locals := 0 }
def f_X6_becomesOf (a1 : Int32) (a2 : Int32) (a3 : Int32) (s0 : StA) : Option (StA × Unit) :=
  gd ((4 * a1) + a2) 63 (nms (si s0 2 (((4 * a1) + a2).toNatClampNeg) a3) (fun s2 => some (s2, ())))
set_option maxHeartbeats 4000000 in
set_option maxRecDepth 100000 in
theorem k_X6_becomesOf {a1 : Int32} {a2 : Int32} {a3 : Int32} {s0 zs : StA} {rr : Unit} (hf : f_X6_becomesOf a1 a2 a3 s0 = some (zs, rr)) : CtV mM yX6_becomesOf cX6_becomesOf 4 rm_X6_becomesOf (fun ph => [.ref (ph 0), .int a1, .int a2, .int a3]) s0 zs := by
  refine CtV.of (by decide +kernel) (fun ph => Nat.le_of_ble_eq_true rfl) (fun E O hret => ?_)
  have O : OK mM E RX6 cX6_becomesOf 4 rm_X6_becomesOf := O
  show WS mM E 4 0 [(0, rf E 0), (1, .int a1), (2, .int a2), (3, .int a3)] [] s0
  unfold f_X6_becomesOf at hf
  refine s_aload_n O 0 dX6_becomesOf_0 rfl rfl ?_
  refine s_getR O fg_RX6_13 ms_0 rfl dX6_becomesOf_1 ?_
  refine s_iconst (v := 4) O dX6_becomesOf_4 rfl ?_
  refine s_iload_n O 1 dX6_becomesOf_5 rfl rfl ?_
  refine s_imul O dX6_becomesOf_6 ?_
  refine s_iload_n O 2 dX6_becomesOf_7 rfl rfl ?_
  refine s_iadd O dX6_becomesOf_8 ?_
  refine s_iload_n O 3 dX6_becomesOf_9 rfl rfl ?_
  obtain ⟨h1, hf⟩ := gd_e hf
  refine s_iast O ms_2 h1 dX6_becomesOf_10 ?_
  refine s_tops (fun s2 es2 => ?_)
  replace hf := nms_e es2 hf
  exact s_vret hret dX6_becomesOf_11 hf
