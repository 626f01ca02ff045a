def rm_X6_isFar : Room := { frames := 1, cells := 0, slots := 0, locals := 25 }
def f_X6_isFar (a0 : Int32) (s0 : StA) : Option (StA × Int32) :=
  bn (f_X6_in a0.toInt64 0 60 s0) (fun s1 r2 => gz r2 (some (s1, r2)))
set_option maxHeartbeats 4000000 in
set_option maxRecDepth 100000 in
theorem k_X6_isFar {a0 : Int32} {s0 zs : StA} {rr : Int32} (hf : f_X6_isFar a0 s0 = some (zs, rr)) : CtI mM yX6_isFar cX6_isFar 1 .boolean rm_X6_isFar (fun ph => [.int a0]) s0 zs rr := by
  refine CtI.of (by decide +kernel) (fun ph => Nat.le_of_ble_eq_true rfl) (fun E O hret => ?_)
  have O : OK mM E RX6 cX6_isFar 1 rm_X6_isFar := O
  show WS mM E 1 0 [(0, .int a0)] [] s0
  unfold f_X6_isFar at hf
  refine s_iload_n O 0 dX6_isFar_0 rfl rfl ?_
  refine s_i2l O dX6_isFar_1 ?_
  refine s_lconst (v := 0) O dX6_isFar_2 rfl ?_
  refine s_ldc2 O cl_RX6_211 dX6_isFar_3 ?_
  obtain ⟨s1, r2, c3, hf⟩ := bn_e hf
  refine s_SI (As := [.long a0.toInt64, .long 0, .long 60]) (st := []) O lk_RX6_69 (k_X6_in c3) rfl rfl ⟨rfl, rfl⟩ ⟨Nat.le_of_ble_eq_true rfl, Nat.le_of_ble_eq_true rfl⟩ rfl (Nat.le_of_ble_eq_true rfl) dX6_isFar_6 ?_
  obtain ⟨hz, hf⟩ := gz_e hf
  exact s_iret hret hz.nar dX6_isFar_9 hf
def rm_X6_flag : Room := { frames := 0, cells := 0, slots := 0, locals := 0 }
def f_X6_flag (a0 : Int32) (s0 : StA) : Option (StA × Int32) :=
  (if a0 = 0 then some (s0, 0) else some (s0, 1))
set_option maxHeartbeats 4000000 in
set_option maxRecDepth 100000 in
theorem k_X6_flag {a0 : Int32} {s0 zs : StA} {rr : Int32} (hf : f_X6_flag a0 s0 = some (zs, rr)) : CtI mM yX6_flag cX6_flag 1 .int rm_X6_flag (fun ph => [.int a0]) s0 zs rr := by
  refine CtI.of (by decide +kernel) (fun ph => Nat.le_of_ble_eq_true rfl) (fun E O hret => ?_)
  have O : OK mM E RX6 cX6_flag 1 rm_X6_flag := O
  show WS mM E 1 0 [(0, .int a0)] [] s0
  unfold f_X6_flag at hf
  refine s_iload_n O 0 dX6_flag_0 rfl rfl ?_
  refine s_if_eq (tgt := 8) O dX6_flag_1 (by decide) (fun c => ?_) (fun c => ?_)
  · replace hf := if_t c hf
    refine s_iconst (v := 0) O dX6_flag_8 rfl ?_
    exact s_iret hret rfl dX6_flag_9 hf
  · replace hf := if_f c hf
    refine s_iconst (v := 1) O dX6_flag_4 rfl ?_
    refine s_goto (tgt := 9) O dX6_flag_5 (by decide) ?_
    exact s_iret hret rfl dX6_flag_9 hf
def rm_X6_minutesCount : Room := { frames := 4, cells := 0, slots := 0, locals := 89 }
def fj_X6_minutesCount_j56 (a1 : Int32) (x1 : Int32) (j2 : Int32) (y0 : Int32) (s0 : StA) : Option (StA × ((Int32) ⊕ (Unit))) :=
  nms (si s0 0 20 y0) (fun s8 => gd 24 63 ((if (gi s8 2 (24 : Int32).toNatClampNeg) = 0 then bn (f_X6_flag 1 s8) (fun s14 r15 => nms (si s14 0 21 ((gi s8 0 21) + r15)) (fun s17 => some (s17, .inl (j2 + 1)))) else bn (f_X6_flag 0 s8) (fun s10 r11 => nms (si s10 0 21 ((gi s8 0 21) + r11)) (fun s13 => some (s13, .inl (j2 + 1)))))))
set_option maxHeartbeats 4000000 in
set_option maxRecDepth 100000 in
theorem wj_X6_minutesCount_j56 {E : XC} (O : OK mM E RX6 cX6_minutesCount 3 rm_X6_minutesCount) {a1 : Int32}  {x1 : Int32} {j2 : Int32} {y0 : Int32} {s0 : StA} {zs : StA} {rr : Unit} (hret : ReV mM E cX6_minutesCount zs) {bs : StA} {bw : (Int32) ⊕ (Unit)} (Kc : ∀ v, bw = .inl v → WS mM E 3 18 [(0, rf E 0), (1, .int x1), (2, .int v)] [] bs) (Ke : ∀ e, bw = .inr e → WS mM E 3 92 [] [] bs) (hf : fj_X6_minutesCount_j56 a1 x1 j2 y0 s0 = some (bs, bw)) : WS mM E 3 56 [(0, rf E 0), (1, .int x1), (2, .int j2)] [.int y0, rf E 0] s0 := by
  unfold fj_X6_minutesCount_j56 at hf
  refine s_putI O fp_RX6_213 ms_0 rfl dX6_minutesCount_56 ?_
  refine s_tops (fun s8 es8 => ?_)
  replace hf := nms_e es8 hf
  refine s_aload_n O 0 dX6_minutesCount_59 rfl rfl ?_
  refine s_dup O dX6_minutesCount_60 rfl ?_
  refine s_getI O fg_RX6_216 ms_0 rfl dX6_minutesCount_61 ?_
  refine s_aload_n O 0 dX6_minutesCount_64 rfl rfl ?_
  refine s_getR O fg_RX6_13 ms_0 rfl dX6_minutesCount_65 ?_
  refine s_bipush (v := 24) O dX6_minutesCount_68 rfl ?_
  obtain ⟨h9, hf⟩ := gd_e hf
  refine s_iald O ms_2 h9 dX6_minutesCount_70 ?_
  refine s_if_ne (tgt := 78) O dX6_minutesCount_71 (by decide) (fun c => ?_) (fun c => ?_)
  · replace hf := if_f c hf
    refine s_iconst (v := 0) O dX6_minutesCount_78 rfl ?_
    obtain ⟨s10, r11, c12, hf⟩ := bn_e hf
    refine s_SI (As := [.int 0]) (st := [.int (gi s8 0 21), rf E 0]) O lk_RX6_219 (k_X6_flag c12) rfl rfl ⟨rfl, rfl⟩ ⟨Nat.le_of_ble_eq_true rfl, Nat.le_of_ble_eq_true rfl⟩ rfl (Nat.le_of_ble_eq_true rfl) dX6_minutesCount_79 ?_
    refine s_iadd O dX6_minutesCount_82 ?_
    refine s_putI O fp_RX6_216 ms_0 rfl dX6_minutesCount_83 ?_
    refine s_tops (fun s13 es13 => ?_)
    replace hf := nms_e es13 hf
    refine s_iinc (v := (j2 + 1)) (lv' := [(2, .int (j2 + 1)), (0, rf E 0), (1, .int x1)]) O 2 dX6_minutesCount_86 rfl rfl (by decide) rfl ?_
    refine s_goto (tgt := 18) O dX6_minutesCount_89 (by decide) ?_
    refine s_loc [1, 2, 0] rfl ?_
    cases hf
    exact Kc _ rfl
  · replace hf := if_t c hf
    refine s_iconst (v := 1) O dX6_minutesCount_74 rfl ?_
    refine s_goto (tgt := 79) O dX6_minutesCount_75 (by decide) ?_
    obtain ⟨s14, r15, c16, hf⟩ := bn_e hf
    refine s_SI (As := [.int 1]) (st := [.int (gi s8 0 21), rf E 0]) O lk_RX6_219 (k_X6_flag c16) rfl rfl ⟨rfl, rfl⟩ ⟨Nat.le_of_ble_eq_true rfl, Nat.le_of_ble_eq_true rfl⟩ rfl (Nat.le_of_ble_eq_true rfl) dX6_minutesCount_79 ?_
    refine s_iadd O dX6_minutesCount_82 ?_
    refine s_putI O fp_RX6_216 ms_0 rfl dX6_minutesCount_83 ?_
    refine s_tops (fun s17 es17 => ?_)
    replace hf := nms_e es17 hf
    refine s_iinc (v := (j2 + 1)) (lv' := [(2, .int (j2 + 1)), (0, rf E 0), (1, .int x1)]) O 2 dX6_minutesCount_86 rfl rfl (by decide) rfl ?_
    refine s_goto (tgt := 18) O dX6_minutesCount_89 (by decide) ?_
    refine s_loc [1, 2, 0] rfl ?_
    cases hf
    exact Kc _ rfl
def fb_X6_minutesCount_l18 (a1 : Int32) (x1 : Int32) (s0 : StA) (v2 : Int32) : Option (StA × ((Int32) ⊕ (Unit))) :=
  (if x1 ≤ v2 then some (s0, .inr ()) else bn (f_X6_minuteGoes  s0) (fun s4 r5 => gd 24 63 ((if (gi s4 2 (24 : Int32).toNatClampNeg) ≤ (gi s4 0 20) then fj_X6_minutesCount_j56 a1 x1 v2 (gi s4 0 20) s4 else gd 24 63 (fj_X6_minutesCount_j56 a1 x1 v2 (gi s4 2 (24 : Int32).toNatClampNeg) s4)))))
set_option maxHeartbeats 4000000 in
set_option maxRecDepth 100000 in
theorem wb_X6_minutesCount_l18 {E : XC} (O : OK mM E RX6 cX6_minutesCount 3 rm_X6_minutesCount) {a1 : Int32}  {x1 : Int32} {s0 : StA} {v2 : Int32} {zs : StA} {rr : Unit} (hret : ReV mM E cX6_minutesCount zs) {bs : StA} {bw : (Int32) ⊕ (Unit)} (Kc : ∀ v, bw = .inl v → WS mM E 3 18 [(0, rf E 0), (1, .int x1), (2, .int v)] [] bs) (Ke : ∀ e, bw = .inr e → WS mM E 3 92 [] [] bs) (hf : fb_X6_minutesCount_l18 a1 x1 s0 v2 = some (bs, bw)) : WS mM E 3 18 [(0, rf E 0), (1, .int x1), (2, .int v2)] [] s0 := by
  unfold fb_X6_minutesCount_l18 at hf
  refine s_iload_n O 2 dX6_minutesCount_18 rfl rfl ?_
  refine s_iload_n O 1 dX6_minutesCount_19 rfl rfl ?_
  refine s_icmp_ge (tgt := 92) O dX6_minutesCount_20 (by decide) (fun c => ?_) (fun c => ?_)
  · replace hf := if_t c hf
    refine s_loc [] rfl ?_
    cases hf
    exact Ke _ rfl
  · replace hf := if_f c hf
    refine s_aload_n O 0 dX6_minutesCount_23 rfl rfl ?_
    obtain ⟨s4, r5, c6, hf⟩ := bn_e hf
    refine s_VV (As := []) (st := []) O lk_RX6_172 (k_X6_minuteGoes c6) rfl ms_0 rfl rfl ⟨rfl, rfl⟩ ⟨Nat.le_of_ble_eq_true rfl, Nat.le_of_ble_eq_true rfl⟩ rfl (Nat.le_of_ble_eq_true rfl) dX6_minutesCount_24 ?_
    refine s_aload_n O 0 dX6_minutesCount_27 rfl rfl ?_
    refine s_aload_n O 0 dX6_minutesCount_28 rfl rfl ?_
    refine s_getR O fg_RX6_13 ms_0 rfl dX6_minutesCount_29 ?_
    refine s_bipush (v := 24) O dX6_minutesCount_32 rfl ?_
    obtain ⟨h7, hf⟩ := gd_e hf
    refine s_iald O ms_2 h7 dX6_minutesCount_34 ?_
    refine s_aload_n O 0 dX6_minutesCount_35 rfl rfl ?_
    refine s_getI O fg_RX6_213 ms_0 rfl dX6_minutesCount_36 ?_
    refine s_icmp_le (tgt := 52) O dX6_minutesCount_39 (by decide) (fun c => ?_) (fun c => ?_)
    · replace hf := if_t c hf
      refine s_aload_n O 0 dX6_minutesCount_52 rfl rfl ?_
      refine s_getI O fg_RX6_213 ms_0 rfl dX6_minutesCount_53 ?_
      exact wj_X6_minutesCount_j56 (rr := rr) O   hret Kc Ke hf
    · replace hf := if_f c hf
      refine s_aload_n O 0 dX6_minutesCount_42 rfl rfl ?_
      refine s_getR O fg_RX6_13 ms_0 rfl dX6_minutesCount_43 ?_
      refine s_bipush (v := 24) O dX6_minutesCount_46 rfl ?_
      obtain ⟨h18, hf⟩ := gd_e hf
      refine s_iald O ms_2 h18 dX6_minutesCount_48 ?_
      refine s_goto (tgt := 56) O dX6_minutesCount_49 (by decide) ?_
      exact wj_X6_minutesCount_j56 (rr := rr) O   hret Kc Ke hf
def fl_X6_minutesCount_l18 (a1 : Int32) (x1 : Int32) (s0 : StA) (v : Int32) : Option (StA × ((Unit))) :=
  it (fun s v => fb_X6_minutesCount_l18 a1 x1 s v) FU s0 v
def f_X6_minutesCount (a1 : Int32) (s0 : StA) : Option (StA × Unit) :=
  gd 24 63 (nms (si s0 0 20 (gi s0 2 (24 : Int32).toNatClampNeg)) (fun s2 => nms (si s2 0 21 0) (fun s3 => bn (fl_X6_minutesCount_l18 a1 a1 s3 0) (fun s19 e20 => some (s19, ())))))
set_option maxHeartbeats 4000000 in
set_option maxRecDepth 100000 in
theorem k_X6_minutesCount {a1 : Int32} {s0 zs : StA} {rr : Unit} (hf : f_X6_minutesCount a1 s0 = some (zs, rr)) : CtV mM yX6_minutesCount cX6_minutesCount 3 rm_X6_minutesCount (fun ph => [.ref (ph 0), .int a1]) s0 zs := by
  refine CtV.of (by decide +kernel) (fun ph => Nat.le_of_ble_eq_true rfl) (fun E O hret => ?_)
  have O : OK mM E RX6 cX6_minutesCount 3 rm_X6_minutesCount := O
  show WS mM E 3 0 [(0, rf E 0), (1, .int a1)] [] s0
  unfold f_X6_minutesCount at hf
  refine s_aload_n O 0 dX6_minutesCount_0 rfl rfl ?_
  refine s_aload_n O 0 dX6_minutesCount_1 rfl rfl ?_
  refine s_getR O fg_RX6_13 ms_0 rfl dX6_minutesCount_2 ?_
  refine s_bipush (v := 24) O dX6_minutesCount_5 rfl ?_
  obtain ⟨h1, hf⟩ := gd_e hf
  refine s_iald O ms_2 h1 dX6_minutesCount_7 ?_
  refine s_putI O fp_RX6_213 ms_0 rfl dX6_minutesCount_8 ?_
  refine s_tops (fun s2 es2 => ?_)
  replace hf := nms_e es2 hf
  refine s_aload_n O 0 dX6_minutesCount_11 rfl rfl ?_
  refine s_iconst (v := 0) O dX6_minutesCount_12 rfl ?_
  refine s_putI O fp_RX6_216 ms_0 rfl dX6_minutesCount_13 ?_
  refine s_tops (fun s3 es3 => ?_)
  replace hf := nms_e es3 hf
  refine s_iconst (v := 0) O dX6_minutesCount_16 rfl ?_
  refine s_istore_n (lv' := [(2, .int 0), (0, rf E 0), (1, .int a1)]) O dX6_minutesCount_17 rfl (by decide) rfl ?_
  refine s_loc [1, 2, 0] rfl ?_
  obtain ⟨s19, e20, c21, hf⟩ := bn_e hf
  refine lp_of (body := fun s v => fb_X6_minutesCount_l18 a1 a1 s v) (X := fun s v => WS mM E 3 18 [(0, rf E 0), (1, .int a1), (2, .int v)] [] s) (Y := fun s e => WS mM E 3 92 [] [] s) (fun s v s' w hb Kc Ke => wb_X6_minutesCount_l18 (rr := rr) O   hret Kc Ke hb) FU _ _ (s19, e20) c21 ?_
  show WS mM E 3 92 [] [] s19
  exact s_vret hret dX6_minutesCount_92 hf
def rm_X6_runs : Room := { frames := 5, cells := 0, slots := 0, locals := 111 }
def f_X6_runs (a1 : Int32) (a2 : Int32) (s0 : StA) : Option (StA × Int32) :=
  bn (f_X6_isFar a1 s0) (fun s1 r2 => (if r2 = 0 then some (s1, (-1)) else bn (f_X6_in a2.toInt64 0 4 s1) (fun s4 r5 => (if r5 = 0 then some (s4, (-1)) else bn (f_X6_starts  s4) (fun s7 r8 => bn (f_X6_minutesCount a1 s7) (fun s10 r11 => (if a2 = 0 then gd 24 63 (some (s10, (gi s10 2 (24 : Int32).toNatClampNeg))) else if a2 = 1 then gd 25 63 (some (s10, (gi s10 2 (25 : Int32).toNatClampNeg))) else if a2 = 2 then some (s10, (gi s10 0 20)) else if a2 = 3 then some (s10, (gi s10 0 21)) else bn (f_X6_saidNow  s10) (fun s15 r16 => some (s15, r16)))))))))
set_option maxHeartbeats 4000000 in
set_option maxRecDepth 100000 in
theorem k_X6_runs {a1 : Int32} {a2 : Int32} {s0 zs : StA} {rr : Int32} (hf : f_X6_runs a1 a2 s0 = some (zs, rr)) : CtI mM yX6_runs cX6_runs 3 .int rm_X6_runs (fun ph => [.ref (ph 0), .int a1, .int a2]) s0 zs rr := by
  refine CtI.of (by decide +kernel) (fun ph => Nat.le_of_ble_eq_true rfl) (fun E O hret => ?_)
  have O : OK mM E RX6 cX6_runs 3 rm_X6_runs := O
  show WS mM E 3 0 [(0, rf E 0), (1, .int a1), (2, .int a2)] [] s0
  unfold f_X6_runs at hf
  refine s_iload_n O 1 dX6_runs_0 rfl rfl ?_
  obtain ⟨s1, r2, c3, hf⟩ := bn_e hf
  refine s_SI (As := [.int a1]) (st := []) O lk_RX6_223 (k_X6_isFar c3) rfl rfl ⟨rfl, rfl⟩ ⟨Nat.le_of_ble_eq_true rfl, Nat.le_of_ble_eq_true rfl⟩ rfl (Nat.le_of_ble_eq_true rfl) dX6_runs_1 ?_
  refine s_if_eq (tgt := 19) O dX6_runs_4 (by decide) (fun c => ?_) (fun c => ?_)
  · replace hf := if_t c hf
    refine s_iconst (v := (-1)) O dX6_runs_19 rfl ?_
    exact s_iret hret rfl dX6_runs_20 hf
  · replace hf := if_f c hf
    refine s_iload_n O 2 dX6_runs_7 rfl rfl ?_
    refine s_i2l O dX6_runs_8 ?_
    refine s_lconst (v := 0) O dX6_runs_9 rfl ?_
    refine s_ldc2 O cl_RX6_142 dX6_runs_10 ?_
    obtain ⟨s4, r5, c6, hf⟩ := bn_e hf
    refine s_SI (As := [.long a2.toInt64, .long 0, .long 4]) (st := []) O lk_RX6_69 (k_X6_in c6) rfl rfl ⟨rfl, rfl⟩ ⟨Nat.le_of_ble_eq_true rfl, Nat.le_of_ble_eq_true rfl⟩ rfl (Nat.le_of_ble_eq_true rfl) dX6_runs_13 ?_
    refine s_if_ne (tgt := 21) O dX6_runs_16 (by decide) (fun c => ?_) (fun c => ?_)
    · replace hf := if_f c hf
      refine s_aload_n O 0 dX6_runs_21 rfl rfl ?_
      obtain ⟨s7, r8, c9, hf⟩ := bn_e hf
      refine s_VV (As := []) (st := []) O lk_RX6_175 (k_X6_starts c9) rfl ms_0 rfl rfl ⟨rfl, rfl⟩ ⟨Nat.le_of_ble_eq_true rfl, Nat.le_of_ble_eq_true rfl⟩ rfl (Nat.le_of_ble_eq_true rfl) dX6_runs_22 ?_
      refine s_aload_n O 0 dX6_runs_25 rfl rfl ?_
      refine s_iload_n O 1 dX6_runs_26 rfl rfl ?_
      obtain ⟨s10, r11, c12, hf⟩ := bn_e hf
      refine s_VV (As := [.int a1]) (st := []) O lk_RX6_226 (k_X6_minutesCount c12) rfl ms_0 rfl rfl ⟨rfl, rfl⟩ ⟨Nat.le_of_ble_eq_true rfl, Nat.le_of_ble_eq_true rfl⟩ rfl (Nat.le_of_ble_eq_true rfl) dX6_runs_27 ?_
      refine s_iload_n O 2 dX6_runs_30 rfl rfl ?_
      by_cases q0 : a2 = 0
      · replace hf := if_t q0 hf
        refine s_tabE (v := 0) (tgt := 60) O dX6_runs_31 q0 (by decide) (by decide) rfl (by decide) ?_
        refine s_aload_n O 0 dX6_runs_60 rfl rfl ?_
        refine s_getR O fg_RX6_13 ms_0 rfl dX6_runs_61 ?_
        refine s_bipush (v := 24) O dX6_runs_64 rfl ?_
        obtain ⟨h13, hf⟩ := gd_e hf
        refine s_iald O ms_2 h13 dX6_runs_66 ?_
        exact s_iret hret rfl dX6_runs_67 hf
      · replace hf := if_f q0 hf
        by_cases q1 : a2 = 1
        · replace hf := if_t q1 hf
          refine s_tabE (v := 1) (tgt := 68) O dX6_runs_31 q1 (by decide) (by decide) rfl (by decide) ?_
          refine s_aload_n O 0 dX6_runs_68 rfl rfl ?_
          refine s_getR O fg_RX6_13 ms_0 rfl dX6_runs_69 ?_
          refine s_bipush (v := 25) O dX6_runs_72 rfl ?_
          obtain ⟨h14, hf⟩ := gd_e hf
          refine s_iald O ms_2 h14 dX6_runs_74 ?_
          exact s_iret hret rfl dX6_runs_75 hf
        · replace hf := if_f q1 hf
          by_cases q2 : a2 = 2
          · replace hf := if_t q2 hf
            refine s_tabE (v := 2) (tgt := 76) O dX6_runs_31 q2 (by decide) (by decide) rfl (by decide) ?_
            refine s_aload_n O 0 dX6_runs_76 rfl rfl ?_
            refine s_getI O fg_RX6_213 ms_0 rfl dX6_runs_77 ?_
            exact s_iret hret rfl dX6_runs_80 hf
          · replace hf := if_f q2 hf
            by_cases q3 : a2 = 3
            · replace hf := if_t q3 hf
              refine s_tabE (v := 3) (tgt := 81) O dX6_runs_31 q3 (by decide) (by decide) rfl (by decide) ?_
              refine s_aload_n O 0 dX6_runs_81 rfl rfl ?_
              refine s_getI O fg_RX6_216 ms_0 rfl dX6_runs_82 ?_
              exact s_iret hret rfl dX6_runs_85 hf
            · replace hf := if_f q3 hf
              have z0 := lv_neT q0 (a := 0) rfl
              have z1 := lv_neT q1 (a := 1) rfl
              have z2 := lv_neT q2 (a := 2) rfl
              have z3 := lv_neT q3 (a := 3) rfl
              refine s_tabO (tgt := 86) O dX6_runs_31 (by omega) (by decide) ?_
              refine s_aload_n O 0 dX6_runs_86 rfl rfl ?_
              obtain ⟨s15, r16, c17, hf⟩ := bn_e hf
              refine s_VI (As := []) (st := []) O lk_RX6_178 (k_X6_saidNow c17) rfl ms_0 rfl rfl ⟨rfl, rfl⟩ ⟨Nat.le_of_ble_eq_true rfl, Nat.le_of_ble_eq_true rfl⟩ rfl (Nat.le_of_ble_eq_true rfl) dX6_runs_87 ?_
              exact s_iret hret rfl dX6_runs_90 hf
    · replace hf := if_t c hf
      refine s_iconst (v := (-1)) O dX6_runs_19 rfl ?_
      exact s_iret hret rfl dX6_runs_20 hf
def rm_X6_minutesDown : Room := { frames := 4, cells := 0, slots := 0, locals := 89 }
def fb_X6_minutesDown_l2   (s0 : StA) (v1 : Int32) : Option (StA × ((Int32) ⊕ ((Unit) ⊕ Int32))) :=
  (if 60 < v1 then some (s0, .inr (.inl ())) else bn (f_X6_minuteGoes  s0) (fun s1 r2 => gd 24 63 ((if (gi s1 2 (24 : Int32).toNatClampNeg) = 0 then some (s1, .inr (.inr v1)) else some (s1, .inl (v1 + 1))))))
set_option maxHeartbeats 4000000 in
set_option maxRecDepth 100000 in
theorem wb_X6_minutesDown_l2 {E : XC} (O : OK mM E RX6 cX6_minutesDown 2 rm_X6_minutesDown)    {s0 : StA} {v1 : Int32} {zs : StA} {rr : Int32} (hret : ReI mM E .int cX6_minutesDown zs rr) {bs : StA} {bw : (Int32) ⊕ ((Unit) ⊕ Int32)} (Kc : ∀ v, bw = .inl v → WS mM E 2 2 [(0, rf E 0), (1, .int v)] [] bs) (Ke : ∀ e, bw = .inr (.inl e) → WS mM E 2 30 [] [] bs) (Kr : ∀ r, bw = .inr (.inr r) → some (bs, r) = some (zs, rr)) (hf : fb_X6_minutesDown_l2  s0 v1 = some (bs, bw)) : WS mM E 2 2 [(0, rf E 0), (1, .int v1)] [] s0 := by
  unfold fb_X6_minutesDown_l2 at hf
  refine s_iload_n O 1 dX6_minutesDown_2 rfl rfl ?_
  refine s_bipush (v := 60) O dX6_minutesDown_3 rfl ?_
  refine s_icmp_gt (tgt := 30) O dX6_minutesDown_5 (by decide) (fun c => ?_) (fun c => ?_)
  · replace hf := if_t c hf
    refine s_loc [] rfl ?_
    cases hf
    exact Ke _ rfl
  · replace hf := if_f c hf
    refine s_aload_n O 0 dX6_minutesDown_8 rfl rfl ?_
    obtain ⟨s1, r2, c3, hf⟩ := bn_e hf
    refine s_VV (As := []) (st := []) O lk_RX6_172 (k_X6_minuteGoes c3) rfl ms_0 rfl rfl ⟨rfl, rfl⟩ ⟨Nat.le_of_ble_eq_true rfl, Nat.le_of_ble_eq_true rfl⟩ rfl (Nat.le_of_ble_eq_true rfl) dX6_minutesDown_9 ?_
    refine s_aload_n O 0 dX6_minutesDown_12 rfl rfl ?_
    refine s_getR O fg_RX6_13 ms_0 rfl dX6_minutesDown_13 ?_
    refine s_bipush (v := 24) O dX6_minutesDown_16 rfl ?_
    obtain ⟨h4, hf⟩ := gd_e hf
    refine s_iald O ms_2 h4 dX6_minutesDown_18 ?_
    refine s_if_ne (tgt := 24) O dX6_minutesDown_19 (by decide) (fun c => ?_) (fun c => ?_)
    · replace hf := if_f c hf
      refine s_iinc (v := (v1 + 1)) (lv' := [(1, .int (v1 + 1)), (0, rf E 0)]) O 1 dX6_minutesDown_24 rfl rfl (by decide) rfl ?_
      refine s_goto (tgt := 2) O dX6_minutesDown_27 (by decide) ?_
      refine s_loc [1, 0] rfl ?_
      cases hf
      exact Kc _ rfl
    · replace hf := if_t c hf
      refine s_iload_n O 1 dX6_minutesDown_22 rfl rfl ?_
      cases hf
      exact s_iret hret rfl dX6_minutesDown_23 (Kr _ rfl)
def fl_X6_minutesDown_l2   (s0 : StA) (v : Int32) : Option (StA × (((Unit) ⊕ Int32))) :=
  it (fun s v => fb_X6_minutesDown_l2  s v) FU s0 v
def f_X6_minutesDown  (s0 : StA) : Option (StA × Int32) :=
  bn (fl_X6_minutesDown_l2  s0 1) (fun s5 e6 => match e6 with | .inl _ => some (s5, (-4)) | .inr q2 => some (s5, q2))
set_option maxHeartbeats 4000000 in
set_option maxRecDepth 100000 in
theorem k_X6_minutesDown  {s0 zs : StA} {rr : Int32} (hf : f_X6_minutesDown  s0 = some (zs, rr)) : CtI mM yX6_minutesDown cX6_minutesDown 2 .int rm_X6_minutesDown (fun ph => [.ref (ph 0)]) s0 zs rr := by
  refine CtI.of (by decide +kernel) (fun ph => Nat.le_of_ble_eq_true rfl) (fun E O hret => ?_)
  have O : OK mM E RX6 cX6_minutesDown 2 rm_X6_minutesDown := O
  show WS mM E 2 0 [(0, rf E 0)] [] s0
  unfold f_X6_minutesDown at hf
  refine s_iconst (v := 1) O dX6_minutesDown_0 rfl ?_
  refine s_istore_n (lv' := [(1, .int 1), (0, rf E 0)]) O dX6_minutesDown_1 rfl (by decide) rfl ?_
  refine s_loc [1, 0] rfl ?_
  obtain ⟨s5, e6, c7, hf⟩ := bn_e hf
  refine lp_of (body := fun s v => fb_X6_minutesDown_l2  s v) (X := fun s v => WS mM E 2 2 [(0, rf E 0), (1, .int v)] [] s) (Y := fun s e => match e with | .inl e => WS mM E 2 30 [] [] s | .inr r => some (s, r) = some (zs, rr)) (fun s v s' w hb Kc Ke => wb_X6_minutesDown_l2 (rr := rr) O   hret Kc (fun e he => Ke (.inl e) he) (fun r he => Ke (.inr r) he) hb) FU _ _ (s5, e6) c7 ?_
  rcases e6 with e6 | q2
  · show WS mM E 2 30 [] [] s5
    refine s_bipush (v := (-4)) O dX6_minutesDown_30 rfl ?_
    exact s_iret hret rfl dX6_minutesDown_32 hf
  · exact hf
def rm_X6_falls : Room := { frames := 5, cells := 0, slots := 0, locals := 110 }
def f_X6_falls  (s0 : StA) : Option (StA × Int32) :=
  bn (f_X6_starts  s0) (fun s1 r2 => bn (f_X6_minutesDown  s1) (fun s4 r5 => some (s4, r5)))
set_option maxHeartbeats 4000000 in
set_option maxRecDepth 100000 in
theorem k_X6_falls  {s0 zs : StA} {rr : Int32} (hf : f_X6_falls  s0 = some (zs, rr)) : CtI mM yX6_falls cX6_falls 1 .int rm_X6_falls (fun ph => [.ref (ph 0)]) s0 zs rr := by
  refine CtI.of (by decide +kernel) (fun ph => Nat.le_of_ble_eq_true rfl) (fun E O hret => ?_)
  have O : OK mM E RX6 cX6_falls 1 rm_X6_falls := O
  show WS mM E 1 0 [(0, rf E 0)] [] s0
  unfold f_X6_falls at hf
  refine s_aload_n O 0 dX6_falls_0 rfl rfl ?_
  obtain ⟨s1, r2, c3, hf⟩ := bn_e hf
  refine s_VV (As := []) (st := []) O lk_RX6_175 (k_X6_starts c3) rfl ms_0 rfl rfl ⟨rfl, rfl⟩ ⟨Nat.le_of_ble_eq_true rfl, Nat.le_of_ble_eq_true rfl⟩ rfl (Nat.le_of_ble_eq_true rfl) dX6_falls_1 ?_
  refine s_aload_n O 0 dX6_falls_4 rfl rfl ?_
  obtain ⟨s4, r5, c6, hf⟩ := bn_e hf
  refine s_VI (As := []) (st := []) O lk_RX6_229 (k_X6_minutesDown c6) rfl ms_0 rfl rfl ⟨rfl, rfl⟩ ⟨Nat.le_of_ble_eq_true rfl, Nat.le_of_ble_eq_true rfl⟩ rfl (Nat.le_of_ble_eq_true rfl) dX6_falls_5 ?_
  exact s_iret hret rfl dX6_falls_8 hf
def rm_X6_isPlace : Room := { frames := 1, cells := 0, slots := 0, locals := 25 }
def f_X6_isPlace (a0 : Int32) (s0 : StA) : Option (StA × Int32) :=
  bn (f_X6_in a0.toInt64 0 99 s0) (fun s1 r2 => gz r2 (some (s1, r2)))
set_option maxHeartbeats 4000000 in
set_option maxRecDepth 100000 in
theorem k_X6_isPlace {a0 : Int32} {s0 zs : StA} {rr : Int32} (hf : f_X6_isPlace a0 s0 = some (zs, rr)) : CtI mM yX6_isPlace cX6_isPlace 1 .boolean rm_X6_isPlace (fun ph => [.int a0]) s0 zs rr := by
  refine CtI.of (by decide +kernel) (fun ph => Nat.le_of_ble_eq_true rfl) (fun E O hret => ?_)
  have O : OK mM E RX6 cX6_isPlace 1 rm_X6_isPlace := O
  show WS mM E 1 0 [(0, .int a0)] [] s0
  unfold f_X6_isPlace at hf
  refine s_iload_n O 0 dX6_isPlace_0 rfl rfl ?_
  refine s_i2l O dX6_isPlace_1 ?_
  refine s_lconst (v := 0) O dX6_isPlace_2 rfl ?_
  refine s_ldc2 O cl_RX6_144 dX6_isPlace_3 ?_
  obtain ⟨s1, r2, c3, hf⟩ := bn_e hf
  refine s_SI (As := [.long a0.toInt64, .long 0, .long 99]) (st := []) O lk_RX6_69 (k_X6_in c3) rfl rfl ⟨rfl, rfl⟩ ⟨Nat.le_of_ble_eq_true rfl, Nat.le_of_ble_eq_true rfl⟩ rfl (Nat.le_of_ble_eq_true rfl) dX6_isPlace_6 ?_
  obtain ⟨hz, hf⟩ := gz_e hf
  exact s_iret hret hz.nar dX6_isPlace_9 hf
def rm_X6_minutesTo : Room := { frames := 4, cells := 0, slots := 0, locals := 89 }
def fb_X6_minutesTo_l2 (a1 : Int32) (x1 : Int32) (s0 : StA) (v2 : Int32) : Option (StA × ((Int32) ⊕ ((Unit) ⊕ Int32))) :=
  (if 60 < v2 then some (s0, .inr (.inl ())) else gd 24 63 ((if (gi s0 2 (24 : Int32).toNatClampNeg) = 0 then gd 25 63 ((if (gi s0 2 (25 : Int32).toNatClampNeg) = x1 then some (s0, .inr (.inr v2)) else bn (f_X6_minuteGoes  s0) (fun s6 r7 => some (s6, .inl (v2 + 1))))) else bn (f_X6_minuteGoes  s0) (fun s2 r3 => some (s2, .inl (v2 + 1))))))
set_option maxHeartbeats 4000000 in
set_option maxRecDepth 100000 in
theorem wb_X6_minutesTo_l2 {E : XC} (O : OK mM E RX6 cX6_minutesTo 3 rm_X6_minutesTo) {a1 : Int32}  {x1 : Int32} {s0 : StA} {v2 : Int32} {zs : StA} {rr : Int32} (hret : ReI mM E .int cX6_minutesTo zs rr) {bs : StA} {bw : (Int32) ⊕ ((Unit) ⊕ Int32)} (Kc : ∀ v, bw = .inl v → WS mM E 3 2 [(0, rf E 0), (1, .int x1), (2, .int v)] [] bs) (Ke : ∀ e, bw = .inr (.inl e) → WS mM E 3 41 [] [] bs) (Kr : ∀ r, bw = .inr (.inr r) → some (bs, r) = some (zs, rr)) (hf : fb_X6_minutesTo_l2 a1 x1 s0 v2 = some (bs, bw)) : WS mM E 3 2 [(0, rf E 0), (1, .int x1), (2, .int v2)] [] s0 := by
  unfold fb_X6_minutesTo_l2 at hf
  refine s_iload_n O 2 dX6_minutesTo_2 rfl rfl ?_
  refine s_bipush (v := 60) O dX6_minutesTo_3 rfl ?_
  refine s_icmp_gt (tgt := 41) O dX6_minutesTo_5 (by decide) (fun c => ?_) (fun c => ?_)
  · replace hf := if_t c hf
    refine s_loc [] rfl ?_
    cases hf
    exact Ke _ rfl
  · replace hf := if_f c hf
    refine s_aload_n O 0 dX6_minutesTo_8 rfl rfl ?_
    refine s_getR O fg_RX6_13 ms_0 rfl dX6_minutesTo_9 ?_
    refine s_bipush (v := 24) O dX6_minutesTo_12 rfl ?_
    obtain ⟨h1, hf⟩ := gd_e hf
    refine s_iald O ms_2 h1 dX6_minutesTo_14 ?_
    refine s_if_ne (tgt := 31) O dX6_minutesTo_15 (by decide) (fun c => ?_) (fun c => ?_)
    · replace hf := if_f c hf
      refine s_aload_n O 0 dX6_minutesTo_31 rfl rfl ?_
      obtain ⟨s2, r3, c4, hf⟩ := bn_e hf
      refine s_VV (As := []) (st := []) O lk_RX6_172 (k_X6_minuteGoes c4) rfl ms_0 rfl rfl ⟨rfl, rfl⟩ ⟨Nat.le_of_ble_eq_true rfl, Nat.le_of_ble_eq_true rfl⟩ rfl (Nat.le_of_ble_eq_true rfl) dX6_minutesTo_32 ?_
      refine s_iinc (v := (v2 + 1)) (lv' := [(2, .int (v2 + 1)), (0, rf E 0), (1, .int x1)]) O 2 dX6_minutesTo_35 rfl rfl (by decide) rfl ?_
      refine s_goto (tgt := 2) O dX6_minutesTo_38 (by decide) ?_
      refine s_loc [1, 2, 0] rfl ?_
      cases hf
      exact Kc _ rfl
    · replace hf := if_t c hf
      refine s_aload_n O 0 dX6_minutesTo_18 rfl rfl ?_
      refine s_getR O fg_RX6_13 ms_0 rfl dX6_minutesTo_19 ?_
      refine s_bipush (v := 25) O dX6_minutesTo_22 rfl ?_
      obtain ⟨h5, hf⟩ := gd_e hf
      refine s_iald O ms_2 h5 dX6_minutesTo_24 ?_
      refine s_iload_n O 1 dX6_minutesTo_25 rfl rfl ?_
      refine s_icmp_ne (tgt := 31) O dX6_minutesTo_26 (by decide) (fun c => ?_) (fun c => ?_)
      · replace hf := if_f c hf
        refine s_aload_n O 0 dX6_minutesTo_31 rfl rfl ?_
        obtain ⟨s6, r7, c8, hf⟩ := bn_e hf
        refine s_VV (As := []) (st := []) O lk_RX6_172 (k_X6_minuteGoes c8) rfl ms_0 rfl rfl ⟨rfl, rfl⟩ ⟨Nat.le_of_ble_eq_true rfl, Nat.le_of_ble_eq_true rfl⟩ rfl (Nat.le_of_ble_eq_true rfl) dX6_minutesTo_32 ?_
        refine s_iinc (v := (v2 + 1)) (lv' := [(2, .int (v2 + 1)), (0, rf E 0), (1, .int x1)]) O 2 dX6_minutesTo_35 rfl rfl (by decide) rfl ?_
        refine s_goto (tgt := 2) O dX6_minutesTo_38 (by decide) ?_
        refine s_loc [1, 2, 0] rfl ?_
        cases hf
        exact Kc _ rfl
      · replace hf := if_t c hf
        refine s_iload_n O 2 dX6_minutesTo_29 rfl rfl ?_
        cases hf
        exact s_iret hret rfl dX6_minutesTo_30 (Kr _ rfl)
def fl_X6_minutesTo_l2 (a1 : Int32) (x1 : Int32) (s0 : StA) (v : Int32) : Option (StA × (((Unit) ⊕ Int32))) :=
  it (fun s v => fb_X6_minutesTo_l2 a1 x1 s v) FU s0 v
def f_X6_minutesTo (a1 : Int32) (s0 : StA) : Option (StA × Int32) :=
  bn (fl_X6_minutesTo_l2 a1 a1 s0 0) (fun s9 e10 => match e10 with | .inl _ => some (s9, (-4)) | .inr q2 => some (s9, q2))
set_option maxHeartbeats 4000000 in
set_option maxRecDepth 100000 in
theorem k_X6_minutesTo {a1 : Int32} {s0 zs : StA} {rr : Int32} (hf : f_X6_minutesTo a1 s0 = some (zs, rr)) : CtI mM yX6_minutesTo cX6_minutesTo 3 .int rm_X6_minutesTo (fun ph => [.ref (ph 0), .int a1]) s0 zs rr := by
  refine CtI.of (by decide +kernel) (fun ph => Nat.le_of_ble_eq_true rfl) (fun E O hret => ?_)
  have O : OK mM E RX6 cX6_minutesTo 3 rm_X6_minutesTo := O
  show WS mM E 3 0 [(0, rf E 0), (1, .int a1)] [] s0
  unfold f_X6_minutesTo at hf
  refine s_iconst (v := 0) O dX6_minutesTo_0 rfl ?_
  refine s_istore_n (lv' := [(2, .int 0), (0, rf E 0), (1, .int a1)]) O dX6_minutesTo_1 rfl (by decide) rfl ?_
  refine s_loc [1, 2, 0] rfl ?_
  obtain ⟨s9, e10, c11, hf⟩ := bn_e hf
  refine lp_of (body := fun s v => fb_X6_minutesTo_l2 a1 a1 s v) (X := fun s v => WS mM E 3 2 [(0, rf E 0), (1, .int a1), (2, .int v)] [] s) (Y := fun s e => match e with | .inl e => WS mM E 3 41 [] [] s | .inr r => some (s, r) = some (zs, rr)) (fun s v s' w hb Kc Ke => wb_X6_minutesTo_l2 (rr := rr) O   hret Kc (fun e he => Ke (.inl e) he) (fun r he => Ke (.inr r) he) hb) FU _ _ (s9, e10) c11 ?_
  rcases e10 with e10 | q2
  · show WS mM E 3 41 [] [] s9
    refine s_bipush (v := (-4)) O dX6_minutesTo_41 rfl ?_
    exact s_iret hret rfl dX6_minutesTo_43 hf
  · exact hf
def rm_X6_church : Room := { frames := 5, cells := 0, slots := 0, locals := 111 }
def f_X6_church (a1 : Int32) (s0 : StA) : Option (StA × Int32) :=
  bn (f_X6_isPlace a1 s0) (fun s1 r2 => (if r2 = 0 then some (s1, (-1)) else bn (f_X6_starts  s1) (fun s4 r5 => bn (f_X6_minutesTo a1 s4) (fun s7 r8 => some (s7, r8)))))
set_option maxHeartbeats 4000000 in
set_option maxRecDepth 100000 in
theorem k_X6_church {a1 : Int32} {s0 zs : StA} {rr : Int32} (hf : f_X6_church a1 s0 = some (zs, rr)) : CtI mM yX6_church cX6_church 2 .int rm_X6_church (fun ph => [.ref (ph 0), .int a1]) s0 zs rr := by
  refine CtI.of (by decide +kernel) (fun ph => Nat.le_of_ble_eq_true rfl) (fun E O hret => ?_)
  have O : OK mM E RX6 cX6_church 2 rm_X6_church := O
  show WS mM E 2 0 [(0, rf E 0), (1, .int a1)] [] s0
  unfold f_X6_church at hf
  refine s_iload_n O 1 dX6_church_0 rfl rfl ?_
  obtain ⟨s1, r2, c3, hf⟩ := bn_e hf
  refine s_SI (As := [.int a1]) (st := []) O lk_RX6_232 (k_X6_isPlace c3) rfl rfl ⟨rfl, rfl⟩ ⟨Nat.le_of_ble_eq_true rfl, Nat.le_of_ble_eq_true rfl⟩ rfl (Nat.le_of_ble_eq_true rfl) dX6_church_1 ?_
  refine s_if_ne (tgt := 9) O dX6_church_4 (by decide) (fun c => ?_) (fun c => ?_)
  · replace hf := if_f c hf
    refine s_aload_n O 0 dX6_church_9 rfl rfl ?_
    obtain ⟨s4, r5, c6, hf⟩ := bn_e hf
    refine s_VV (As := []) (st := []) O lk_RX6_175 (k_X6_starts c6) rfl ms_0 rfl rfl ⟨rfl, rfl⟩ ⟨Nat.le_of_ble_eq_true rfl, Nat.le_of_ble_eq_true rfl⟩ rfl (Nat.le_of_ble_eq_true rfl) dX6_church_10 ?_
    refine s_aload_n O 0 dX6_church_13 rfl rfl ?_
    refine s_iload_n O 1 dX6_church_14 rfl rfl ?_
    obtain ⟨s7, r8, c9, hf⟩ := bn_e hf
    refine s_VI (As := [.int a1]) (st := []) O lk_RX6_235 (k_X6_minutesTo c9) rfl ms_0 rfl rfl ⟨rfl, rfl⟩ ⟨Nat.le_of_ble_eq_true rfl, Nat.le_of_ble_eq_true rfl⟩ rfl (Nat.le_of_ble_eq_true rfl) dX6_church_15 ?_
    exact s_iret hret rfl dX6_church_18 hf
  · replace hf := if_t c hf
    refine s_iconst (v := (-1)) O dX6_church_7 rfl ?_
    exact s_iret hret rfl dX6_church_8 hf
def rm_X6_isUnsaid : Room := { frames := 0, cells := 0, slots := 0, locals := 0 }
def f_X6_isUnsaid (a1 : Int32) (s0 : StA) : Option (StA × Int32) :=
  gd ((4 * a1) + 3) 189 ((if (gi s0 1 ((4 * a1) + 3).toNatClampNeg) = 0 then some (s0, 1) else some (s0, 0)))
set_option maxHeartbeats 4000000 in
set_option maxRecDepth 100000 in
theorem k_X6_isUnsaid {a1 : Int32} {s0 zs : StA} {rr : Int32} (hf : f_X6_isUnsaid a1 s0 = some (zs, rr)) : CtI mM yX6_isUnsaid cX6_isUnsaid 2 .boolean rm_X6_isUnsaid (fun ph => [.ref (ph 0), .int a1]) s0 zs rr := by
  refine CtI.of (by decide +kernel) (fun ph => Nat.le_of_ble_eq_true rfl) (fun E O hret => ?_)
  have O : OK mM E RX6 cX6_isUnsaid 2 rm_X6_isUnsaid := O
  show WS mM E 2 0 [(0, rf E 0), (1, .int a1)] [] s0
  unfold f_X6_isUnsaid at hf
  refine s_aload_n O 0 dX6_isUnsaid_0 rfl rfl ?_
  refine s_getR O fg_RX6_7 ms_0 rfl dX6_isUnsaid_1 ?_
  refine s_iconst (v := 4) O dX6_isUnsaid_4 rfl ?_
  refine s_iload_n O 1 dX6_isUnsaid_5 rfl rfl ?_
  refine s_imul O dX6_isUnsaid_6 ?_
  refine s_iconst (v := 3) O dX6_isUnsaid_7 rfl ?_
  refine s_iadd O dX6_isUnsaid_8 ?_
  obtain ⟨h1, hf⟩ := gd_e hf
  refine s_iald O ms_1 h1 dX6_isUnsaid_9 ?_
  refine s_if_ne (tgt := 17) O dX6_isUnsaid_10 (by decide) (fun c => ?_) (fun c => ?_)
  · replace hf := if_f c hf
    refine s_iconst (v := 0) O dX6_isUnsaid_17 rfl ?_
    exact s_iret hret rfl dX6_isUnsaid_18 hf
  · replace hf := if_t c hf
    refine s_iconst (v := 1) O dX6_isUnsaid_13 rfl ?_
    refine s_goto (tgt := 18) O dX6_isUnsaid_14 (by decide) ?_
    exact s_iret hret rfl dX6_isUnsaid_18 hf
def rm_X6_judged : Room := { frames := 0, cells := 0, slots := 0, locals := 0 }
def f_X6_judged (a1 : Int32) (s0 : StA) : Option (StA × Int32) :=
  (if (gi s0 0 22) = (-4) then some (s0, (-4)) else (if a1 = 0 then some (s0, (gi s0 0 22)) else some (s0, (gi s0 0 23))))
set_option maxHeartbeats 4000000 in
set_option maxRecDepth 100000 in
theorem k_X6_judged {a1 : Int32} {s0 zs : StA} {rr : Int32} (hf : f_X6_judged a1 s0 = some (zs, rr)) : CtI mM yX6_judged cX6_judged 2 .int rm_X6_judged (fun ph => [.ref (ph 0), .int a1]) s0 zs rr := by
  refine CtI.of (by decide +kernel) (fun ph => Nat.le_of_ble_eq_true rfl) (fun E O hret => ?_)
  have O : OK mM E RX6 cX6_judged 2 rm_X6_judged := O
  show WS mM E 2 0 [(0, rf E 0), (1, .int a1)] [] s0
  unfold f_X6_judged at hf
  refine s_aload_n O 0 dX6_judged_0 rfl rfl ?_
  refine s_getI O fg_RX6_238 ms_0 rfl dX6_judged_1 ?_
  refine s_bipush (v := (-4)) O dX6_judged_4 rfl ?_
  refine s_icmp_ne (tgt := 14) O dX6_judged_6 (by decide) (fun c => ?_) (fun c => ?_)
  · replace hf := if_f c hf
    refine s_iload_n O 1 dX6_judged_14 rfl rfl ?_
    refine s_if_ne (tgt := 25) O dX6_judged_15 (by decide) (fun c => ?_) (fun c => ?_)
    · replace hf := if_f c hf
      refine s_aload_n O 0 dX6_judged_25 rfl rfl ?_
      refine s_getI O fg_RX6_241 ms_0 rfl dX6_judged_26 ?_
      exact s_iret hret rfl dX6_judged_29 hf
    · replace hf := if_t c hf
      refine s_aload_n O 0 dX6_judged_18 rfl rfl ?_
      refine s_getI O fg_RX6_238 ms_0 rfl dX6_judged_19 ?_
      refine s_goto (tgt := 29) O dX6_judged_22 (by decide) ?_
      exact s_iret hret rfl dX6_judged_29 hf
  · replace hf := if_t c hf
    refine s_bipush (v := (-4)) O dX6_judged_9 rfl ?_
    refine s_goto (tgt := 29) O dX6_judged_11 (by decide) ?_
    exact s_iret hret rfl dX6_judged_29 hf
def rm_X6_judges : Room := { frames := 0, cells := 0, slots := 0, locals := 0 }
def f_X6_judges (a1 : Int32) (a2 : Int32) (s0 : StA) : Option (StA × Unit) :=
  (if a2 = (-4) then some (s0, ()) else (if (gi s0 0 23) ≤ a2 then some (s0, ()) else nms (si s0 0 22 a1) (fun s1 => nms (si s1 0 23 a2) (fun s2 => some (s2, ())))))
set_option maxHeartbeats 4000000 in
set_option maxRecDepth 100000 in
theorem k_X6_judges {a1 : Int32} {a2 : Int32} {s0 zs : StA} {rr : Unit} (hf : f_X6_judges a1 a2 s0 = some (zs, rr)) : CtV mM yX6_judges cX6_judges 3 rm_X6_judges (fun ph => [.ref (ph 0), .int a1, .int a2]) s0 zs := by
  refine CtV.of (by decide +kernel) (fun ph => Nat.le_of_ble_eq_true rfl) (fun E O hret => ?_)
  have O : OK mM E RX6 cX6_judges 3 rm_X6_judges := O
  show WS mM E 3 0 [(0, rf E 0), (1, .int a1), (2, .int a2)] [] s0
  unfold f_X6_judges at hf
  refine s_iload_n O 2 dX6_judges_0 rfl rfl ?_
  refine s_bipush (v := (-4)) O dX6_judges_1 rfl ?_
  refine s_icmp_eq (tgt := 24) O dX6_judges_3 (by decide) (fun c => ?_) (fun c => ?_)
  · replace hf := if_t c hf
    exact s_vret hret dX6_judges_24 hf
  · replace hf := if_f c hf
    refine s_iload_n O 2 dX6_judges_6 rfl rfl ?_
    refine s_aload_n O 0 dX6_judges_7 rfl rfl ?_
    refine s_getI O fg_RX6_241 ms_0 rfl dX6_judges_8 ?_
    refine s_icmp_ge (tgt := 24) O dX6_judges_11 (by decide) (fun c => ?_) (fun c => ?_)
    · replace hf := if_t c hf
      exact s_vret hret dX6_judges_24 hf
    · replace hf := if_f c hf
      refine s_aload_n O 0 dX6_judges_14 rfl rfl ?_
      refine s_iload_n O 1 dX6_judges_15 rfl rfl ?_
      refine s_putI O fp_RX6_238 ms_0 rfl dX6_judges_16 ?_
      refine s_tops (fun s1 es1 => ?_)
      replace hf := nms_e es1 hf
      refine s_aload_n O 0 dX6_judges_19 rfl rfl ?_
      refine s_iload_n O 2 dX6_judges_20 rfl rfl ?_
      refine s_putI O fp_RX6_241 ms_0 rfl dX6_judges_21 ?_
      refine s_tops (fun s2 es2 => ?_)
      replace hf := nms_e es2 hf
      exact s_vret hret dX6_judges_24 hf
def rm_X6_startsJudging : Room := { frames := 0, cells := 0, slots := 0, locals := 0 }
def f_X6_startsJudging (a1 : Int32) (s0 : StA) : Option (StA × Unit) :=
  nms (si s0 0 22 (-4)) (fun s1 => nms (si s1 0 23 a1) (fun s2 => some (s2, ())))
set_option maxHeartbeats 4000000 in
set_option maxRecDepth 100000 in
theorem k_X6_startsJudging {a1 : Int32} {s0 zs : StA} {rr : Unit} (hf : f_X6_startsJudging a1 s0 = some (zs, rr)) : CtV mM yX6_startsJudging cX6_startsJudging 2 rm_X6_startsJudging (fun ph => [.ref (ph 0), .int a1]) s0 zs := by
  refine CtV.of (by decide +kernel) (fun ph => Nat.le_of_ble_eq_true rfl) (fun E O hret => ?_)
  have O : OK mM E RX6 cX6_startsJudging 2 rm_X6_startsJudging := O
  show WS mM E 2 0 [(0, rf E 0), (1, .int a1)] [] s0
  unfold f_X6_startsJudging at hf
  refine s_aload_n O 0 dX6_startsJudging_0 rfl rfl ?_
  refine s_bipush (v := (-4)) O dX6_startsJudging_1 rfl ?_
  refine s_putI O fp_RX6_238 ms_0 rfl dX6_startsJudging_3 ?_
  refine s_tops (fun s1 es1 => ?_)
  replace hf := nms_e es1 hf
  refine s_aload_n O 0 dX6_startsJudging_6 rfl rfl ?_
  refine s_iload_n O 1 dX6_startsJudging_7 rfl rfl ?_
  refine s_putI O fp_RX6_241 ms_0 rfl dX6_startsJudging_8 ?_
  refine s_tops (fun s2 es2 => ?_)
  replace hf := nms_e es2 hf
  exact s_vret hret dX6_startsJudging_11 hf
def rm_X6_best : Room := { frames := 5, cells := 0, slots := 0, locals := 110 }
def fb_X6_best_l17 (a1 : Int32) (x1 : Int32) (s0 : StA) (v2 : Int32) : Option (StA × ((Int32) ⊕ (Unit))) :=
  (if (gi s0 0 3) ≤ v2 then some (s0, .inr ()) else bn (f_X6_isUnsaid v2 s0) (fun s7 r8 => (if r8 = 0 then some (s7, .inl (v2 + 1)) else bn (f_X6_starts  s7) (fun s10 r11 => bn (f_X6_becomesOf v2 3 1 s10) (fun s13 r14 => bn (f_X6_minutesDown  s13) (fun s16 r17 => bn (f_X6_judges v2 r17 s16) (fun s19 r20 => some (s19, .inl (v2 + 1)))))))))
set_option maxHeartbeats 4000000 in
set_option maxRecDepth 100000 in
theorem wb_X6_best_l17 {E : XC} (O : OK mM E RX6 cX6_best 3 rm_X6_best) {a1 : Int32}  {x1 : Int32} {s0 : StA} {v2 : Int32} {zs : StA} {rr : Int32} (hret : ReI mM E .int cX6_best zs rr) {bs : StA} {bw : (Int32) ⊕ (Unit)} (Kc : ∀ v, bw = .inl v → WS mM E 3 17 [(0, rf E 0), (1, .int x1), (2, .int v)] [] bs) (Ke : ∀ e, bw = .inr e → WS mM E 3 59 [(0, rf E 0), (1, .int x1)] [] bs) (hf : fb_X6_best_l17 a1 x1 s0 v2 = some (bs, bw)) : WS mM E 3 17 [(0, rf E 0), (1, .int x1), (2, .int v2)] [] s0 := by
  unfold fb_X6_best_l17 at hf
  refine s_iload_n O 2 dX6_best_17 rfl rfl ?_
  refine s_aload_n O 0 dX6_best_18 rfl rfl ?_
  refine s_getI O fg_RX6_64 ms_0 rfl dX6_best_19 ?_
  refine s_icmp_ge (tgt := 59) O dX6_best_22 (by decide) (fun c => ?_) (fun c => ?_)
  · replace hf := if_t c hf
    refine s_loc [0, 1] rfl ?_
    cases hf
    exact Ke _ rfl
  · replace hf := if_f c hf
    refine s_aload_n O 0 dX6_best_25 rfl rfl ?_
    refine s_iload_n O 2 dX6_best_26 rfl rfl ?_
    obtain ⟨s7, r8, c9, hf⟩ := bn_e hf
    refine s_VI (As := [.int v2]) (st := []) O lk_RX6_248 (k_X6_isUnsaid c9) rfl ms_0 rfl rfl ⟨rfl, rfl⟩ ⟨Nat.le_of_ble_eq_true rfl, Nat.le_of_ble_eq_true rfl⟩ rfl (Nat.le_of_ble_eq_true rfl) dX6_best_27 ?_
    refine s_if_eq (tgt := 53) O dX6_best_30 (by decide) (fun c => ?_) (fun c => ?_)
    · replace hf := if_t c hf
      refine s_iinc (v := (v2 + 1)) (lv' := [(2, .int (v2 + 1)), (0, rf E 0), (1, .int x1)]) O 2 dX6_best_53 rfl rfl (by decide) rfl ?_
      refine s_goto (tgt := 17) O dX6_best_56 (by decide) ?_
      refine s_loc [1, 2, 0] rfl ?_
      cases hf
      exact Kc _ rfl
    · replace hf := if_f c hf
      refine s_aload_n O 0 dX6_best_33 rfl rfl ?_
      obtain ⟨s10, r11, c12, hf⟩ := bn_e hf
      refine s_VV (As := []) (st := []) O lk_RX6_175 (k_X6_starts c12) rfl ms_0 rfl rfl ⟨rfl, rfl⟩ ⟨Nat.le_of_ble_eq_true rfl, Nat.le_of_ble_eq_true rfl⟩ rfl (Nat.le_of_ble_eq_true rfl) dX6_best_34 ?_
      refine s_aload_n O 0 dX6_best_37 rfl rfl ?_
      refine s_iload_n O 2 dX6_best_38 rfl rfl ?_
      refine s_iconst (v := 3) O dX6_best_39 rfl ?_
      refine s_iconst (v := 1) O dX6_best_40 rfl ?_
      obtain ⟨s13, r14, c15, hf⟩ := bn_e hf
      refine s_VV (As := [.int v2, .int 3, .int 1]) (st := []) O lk_RX6_162 (k_X6_becomesOf c15) rfl ms_0 rfl rfl ⟨rfl, rfl⟩ ⟨Nat.le_of_ble_eq_true rfl, Nat.le_of_ble_eq_true rfl⟩ rfl (Nat.le_of_ble_eq_true rfl) dX6_best_41 ?_
      refine s_aload_n O 0 dX6_best_44 rfl rfl ?_
      refine s_iload_n O 2 dX6_best_45 rfl rfl ?_
      refine s_aload_n O 0 dX6_best_46 rfl rfl ?_
      obtain ⟨s16, r17, c18, hf⟩ := bn_e hf
      refine s_VI (As := []) (st := [.int v2, rf E 0]) O lk_RX6_229 (k_X6_minutesDown c18) rfl ms_0 rfl rfl ⟨rfl, rfl⟩ ⟨Nat.le_of_ble_eq_true rfl, Nat.le_of_ble_eq_true rfl⟩ rfl (Nat.le_of_ble_eq_true rfl) dX6_best_47 ?_
      obtain ⟨s19, r20, c21, hf⟩ := bn_e hf
      refine s_VV (As := [.int v2, .int r17]) (st := []) O lk_RX6_251 (k_X6_judges c21) rfl ms_0 rfl rfl ⟨rfl, rfl⟩ ⟨Nat.le_of_ble_eq_true rfl, Nat.le_of_ble_eq_true rfl⟩ rfl (Nat.le_of_ble_eq_true rfl) dX6_best_50 ?_
      refine s_iinc (v := (v2 + 1)) (lv' := [(2, .int (v2 + 1)), (0, rf E 0), (1, .int x1)]) O 2 dX6_best_53 rfl rfl (by decide) rfl ?_
      refine s_goto (tgt := 17) O dX6_best_56 (by decide) ?_
      refine s_loc [1, 2, 0] rfl ?_
      cases hf
      exact Kc _ rfl
def fl_X6_best_l17 (a1 : Int32) (x1 : Int32) (s0 : StA) (v : Int32) : Option (StA × ((Unit))) :=
  it (fun s v => fb_X6_best_l17 a1 x1 s v) FU s0 v
def f_X6_best (a1 : Int32) (s0 : StA) : Option (StA × Int32) :=
  bn (f_X6_isPart a1 s0) (fun s1 r2 => (if r2 = 0 then some (s1, (-1)) else bn (f_X6_startsJudging 1000000 s1) (fun s4 r5 => bn (fl_X6_best_l17 a1 a1 s4 0) (fun s22 e23 => bn (f_X6_judged a1 s22) (fun s25 r26 => some (s25, r26))))))
set_option maxHeartbeats 4000000 in
set_option maxRecDepth 100000 in
theorem k_X6_best {a1 : Int32} {s0 zs : StA} {rr : Int32} (hf : f_X6_best a1 s0 = some (zs, rr)) : CtI mM yX6_best cX6_best 3 .int rm_X6_best (fun ph => [.ref (ph 0), .int a1]) s0 zs rr := by
  refine CtI.of (by decide +kernel) (fun ph => Nat.le_of_ble_eq_true rfl) (fun E O hret => ?_)
  have O : OK mM E RX6 cX6_best 3 rm_X6_best := O
  show WS mM E 3 0 [(0, rf E 0), (1, .int a1)] [] s0
  unfold f_X6_best at hf
  refine s_iload_n O 1 dX6_best_0 rfl rfl ?_
  obtain ⟨s1, r2, c3, hf⟩ := bn_e hf
  refine s_SI (As := [.int a1]) (st := []) O lk_RX6_188 (k_X6_isPart c3) rfl rfl ⟨rfl, rfl⟩ ⟨Nat.le_of_ble_eq_true rfl, Nat.le_of_ble_eq_true rfl⟩ rfl (Nat.le_of_ble_eq_true rfl) dX6_best_1 ?_
  refine s_if_ne (tgt := 9) O dX6_best_4 (by decide) (fun c => ?_) (fun c => ?_)
  · replace hf := if_f c hf
    refine s_aload_n O 0 dX6_best_9 rfl rfl ?_
    refine s_ldc O ci_RX6_244 dX6_best_10 ?_
    obtain ⟨s4, r5, c6, hf⟩ := bn_e hf
    refine s_VV (As := [.int 1000000]) (st := []) O lk_RX6_245 (k_X6_startsJudging c6) rfl ms_0 rfl rfl ⟨rfl, rfl⟩ ⟨Nat.le_of_ble_eq_true rfl, Nat.le_of_ble_eq_true rfl⟩ rfl (Nat.le_of_ble_eq_true rfl) dX6_best_12 ?_
    refine s_iconst (v := 0) O dX6_best_15 rfl ?_
    refine s_istore_n (lv' := [(2, .int 0), (0, rf E 0), (1, .int a1)]) O dX6_best_16 rfl (by decide) rfl ?_
    refine s_loc [1, 2, 0] rfl ?_
    obtain ⟨s22, e23, c24, hf⟩ := bn_e hf
    refine lp_of (body := fun s v => fb_X6_best_l17 a1 a1 s v) (X := fun s v => WS mM E 3 17 [(0, rf E 0), (1, .int a1), (2, .int v)] [] s) (Y := fun s e => WS mM E 3 59 [(0, rf E 0), (1, .int a1)] [] s) (fun s v s' w hb Kc Ke => wb_X6_best_l17 (rr := rr) O   hret Kc Ke hb) FU _ _ (s22, e23) c24 ?_
    show WS mM E 3 59 [(0, rf E 0), (1, .int a1)] [] s22
    refine s_aload_n O 0 dX6_best_59 rfl rfl ?_
    refine s_iload_n O 1 dX6_best_60 rfl rfl ?_
    obtain ⟨s25, r26, c27, hf⟩ := bn_e hf
    refine s_VI (As := [.int a1]) (st := []) O lk_RX6_255 (k_X6_judged c27) rfl ms_0 rfl rfl ⟨rfl, rfl⟩ ⟨Nat.le_of_ble_eq_true rfl, Nat.le_of_ble_eq_true rfl⟩ rfl (Nat.le_of_ble_eq_true rfl) dX6_best_61 ?_
    exact s_iret hret rfl dX6_best_64 hf
  · replace hf := if_t c hf
    refine s_iconst (v := (-1)) O dX6_best_7 rfl ?_
    exact s_iret hret rfl dX6_best_8 hf
def rm_X6_both : Room := { frames := 5, cells := 0, slots := 0, locals := 111 }
def fb_X6_both_l37 (a1 : Int32) (a2 : Int32) (x1 : Int32) (x2 : Int32) (x3 : Int32) (s0 : StA) (v4 : Int32) : Option (StA × ((Int32) ⊕ (Unit))) :=
  (if (gi s0 0 3) ≤ v4 then some (s0, .inr ()) else bn (f_X6_isUnsaid x3 s0) (fun s11 r12 => (if r12 = 0 then some (s11, .inl (v4 + 1)) else bn (f_X6_isUnsaid v4 s11) (fun s14 r15 => (if r15 = 0 then some (s14, .inl (v4 + 1)) else bn (f_X6_starts  s14) (fun s17 r18 => bn (f_X6_becomesOf x3 3 1 s17) (fun s20 r21 => bn (f_X6_becomesOf v4 3 1 s20) (fun s23 r24 => bn (f_X6_minutesTo x1 s23) (fun s26 r27 => bn (f_X6_judges ((10 * x3) + v4) r27 s26) (fun s29 r30 => some (s29, .inl (v4 + 1))))))))))))
set_option maxHeartbeats 4000000 in
set_option maxRecDepth 100000 in
theorem wb_X6_both_l37 {E : XC} (O : OK mM E RX6 cX6_both 5 rm_X6_both) {a1 : Int32} {a2 : Int32}  {x1 : Int32} {x2 : Int32} {x3 : Int32} {s0 : StA} {v4 : Int32} {zs : StA} {rr : Int32} (hret : ReI mM E .int cX6_both zs rr) {bs : StA} {bw : (Int32) ⊕ (Unit)} (Kc : ∀ v, bw = .inl v → WS mM E 5 37 [(0, rf E 0), (1, .int x1), (2, .int x2), (3, .int x3), (4, .int v)] [] bs) (Ke : ∀ e, bw = .inr e → WS mM E 5 104 [(0, rf E 0), (1, .int x1), (2, .int x2), (3, .int x3)] [] bs) (hf : fb_X6_both_l37 a1 a2 x1 x2 x3 s0 v4 = some (bs, bw)) : WS mM E 5 37 [(0, rf E 0), (1, .int x1), (2, .int x2), (3, .int x3), (4, .int v4)] [] s0 := by
  unfold fb_X6_both_l37 at hf
  refine s_iload O 4 dX6_both_37 rfl ?_
  refine s_aload_n O 0 dX6_both_39 rfl rfl ?_
  refine s_getI O fg_RX6_64 ms_0 rfl dX6_both_40 ?_
  refine s_icmp_ge (tgt := 104) O dX6_both_43 (by decide) (fun c => ?_) (fun c => ?_)
  · replace hf := if_t c hf
    refine s_loc [0, 1, 2, 3] rfl ?_
    cases hf
    exact Ke _ rfl
  · replace hf := if_f c hf
    refine s_aload_n O 0 dX6_both_46 rfl rfl ?_
    refine s_iload_n O 3 dX6_both_47 rfl rfl ?_
    obtain ⟨s11, r12, c13, hf⟩ := bn_e hf
    refine s_VI (As := [.int x3]) (st := []) O lk_RX6_248 (k_X6_isUnsaid c13) rfl ms_0 rfl rfl ⟨rfl, rfl⟩ ⟨Nat.le_of_ble_eq_true rfl, Nat.le_of_ble_eq_true rfl⟩ rfl (Nat.le_of_ble_eq_true rfl) dX6_both_48 ?_
    refine s_if_eq (tgt := 98) O dX6_both_51 (by decide) (fun c => ?_) (fun c => ?_)
    · replace hf := if_t c hf
      refine s_iinc (v := (v4 + 1)) (lv' := [(4, .int (v4 + 1)), (0, rf E 0), (1, .int x1), (2, .int x2), (3, .int x3)]) O 4 dX6_both_98 rfl rfl (by decide) rfl ?_
      refine s_goto (tgt := 37) O dX6_both_101 (by decide) ?_
      refine s_loc [1, 2, 3, 4, 0] rfl ?_
      cases hf
      exact Kc _ rfl
    · replace hf := if_f c hf
      refine s_aload_n O 0 dX6_both_54 rfl rfl ?_
      refine s_iload O 4 dX6_both_55 rfl ?_
      obtain ⟨s14, r15, c16, hf⟩ := bn_e hf
      refine s_VI (As := [.int v4]) (st := []) O lk_RX6_248 (k_X6_isUnsaid c16) rfl ms_0 rfl rfl ⟨rfl, rfl⟩ ⟨Nat.le_of_ble_eq_true rfl, Nat.le_of_ble_eq_true rfl⟩ rfl (Nat.le_of_ble_eq_true rfl) dX6_both_57 ?_
      refine s_if_eq (tgt := 98) O dX6_both_60 (by decide) (fun c => ?_) (fun c => ?_)
      · replace hf := if_t c hf
        refine s_iinc (v := (v4 + 1)) (lv' := [(4, .int (v4 + 1)), (0, rf E 0), (1, .int x1), (2, .int x2), (3, .int x3)]) O 4 dX6_both_98 rfl rfl (by decide) rfl ?_
        refine s_goto (tgt := 37) O dX6_both_101 (by decide) ?_
        refine s_loc [1, 2, 3, 4, 0] rfl ?_
        cases hf
        exact Kc _ rfl
      · replace hf := if_f c hf
        refine s_aload_n O 0 dX6_both_63 rfl rfl ?_
        obtain ⟨s17, r18, c19, hf⟩ := bn_e hf
        refine s_VV (As := []) (st := []) O lk_RX6_175 (k_X6_starts c19) rfl ms_0 rfl rfl ⟨rfl, rfl⟩ ⟨Nat.le_of_ble_eq_true rfl, Nat.le_of_ble_eq_true rfl⟩ rfl (Nat.le_of_ble_eq_true rfl) dX6_both_64 ?_
        refine s_aload_n O 0 dX6_both_67 rfl rfl ?_
        refine s_iload_n O 3 dX6_both_68 rfl rfl ?_
        refine s_iconst (v := 3) O dX6_both_69 rfl ?_
        refine s_iconst (v := 1) O dX6_both_70 rfl ?_
        obtain ⟨s20, r21, c22, hf⟩ := bn_e hf
        refine s_VV (As := [.int x3, .int 3, .int 1]) (st := []) O lk_RX6_162 (k_X6_becomesOf c22) rfl ms_0 rfl rfl ⟨rfl, rfl⟩ ⟨Nat.le_of_ble_eq_true rfl, Nat.le_of_ble_eq_true rfl⟩ rfl (Nat.le_of_ble_eq_true rfl) dX6_both_71 ?_
        refine s_aload_n O 0 dX6_both_74 rfl rfl ?_
        refine s_iload O 4 dX6_both_75 rfl ?_
        refine s_iconst (v := 3) O dX6_both_77 rfl ?_
        refine s_iconst (v := 1) O dX6_both_78 rfl ?_
        obtain ⟨s23, r24, c25, hf⟩ := bn_e hf
        refine s_VV (As := [.int v4, .int 3, .int 1]) (st := []) O lk_RX6_162 (k_X6_becomesOf c25) rfl ms_0 rfl rfl ⟨rfl, rfl⟩ ⟨Nat.le_of_ble_eq_true rfl, Nat.le_of_ble_eq_true rfl⟩ rfl (Nat.le_of_ble_eq_true rfl) dX6_both_79 ?_
        refine s_aload_n O 0 dX6_both_82 rfl rfl ?_
        refine s_bipush (v := 10) O dX6_both_83 rfl ?_
        refine s_iload_n O 3 dX6_both_85 rfl rfl ?_
        refine s_imul O dX6_both_86 ?_
        refine s_iload O 4 dX6_both_87 rfl ?_
        refine s_iadd O dX6_both_89 ?_
        refine s_aload_n O 0 dX6_both_90 rfl rfl ?_
        refine s_iload_n O 1 dX6_both_91 rfl rfl ?_
        obtain ⟨s26, r27, c28, hf⟩ := bn_e hf
        refine s_VI (As := [.int x1]) (st := [.int ((10 * x3) + v4), rf E 0]) O lk_RX6_235 (k_X6_minutesTo c28) rfl ms_0 rfl rfl ⟨rfl, rfl⟩ ⟨Nat.le_of_ble_eq_true rfl, Nat.le_of_ble_eq_true rfl⟩ rfl (Nat.le_of_ble_eq_true rfl) dX6_both_92 ?_
        obtain ⟨s29, r30, c31, hf⟩ := bn_e hf
        refine s_VV (As := [.int ((10 * x3) + v4), .int r27]) (st := []) O lk_RX6_251 (k_X6_judges c31) rfl ms_0 rfl rfl ⟨rfl, rfl⟩ ⟨Nat.le_of_ble_eq_true rfl, Nat.le_of_ble_eq_true rfl⟩ rfl (Nat.le_of_ble_eq_true rfl) dX6_both_95 ?_
        refine s_iinc (v := (v4 + 1)) (lv' := [(4, .int (v4 + 1)), (0, rf E 0), (1, .int x1), (2, .int x2), (3, .int x3)]) O 4 dX6_both_98 rfl rfl (by decide) rfl ?_
        refine s_goto (tgt := 37) O dX6_both_101 (by decide) ?_
        refine s_loc [1, 2, 3, 4, 0] rfl ?_
        cases hf
        exact Kc _ rfl
def fl_X6_both_l37 (a1 : Int32) (a2 : Int32) (x1 : Int32) (x2 : Int32) (x3 : Int32) (s0 : StA) (v : Int32) : Option (StA × ((Unit))) :=
  it (fun s v => fb_X6_both_l37 a1 a2 x1 x2 x3 s v) FU s0 v
def fb_X6_both_l24 (a1 : Int32) (a2 : Int32) (x1 : Int32) (x2 : Int32) (s0 : StA) (v3 : Int32) : Option (StA × ((Int32) ⊕ (Unit))) :=
  (if (gi s0 0 3) ≤ v3 then some (s0, .inr ()) else nmi (v3 + 1) (fun n10 => bn (fl_X6_both_l37 a1 a2 x1 x2 v3 s0 n10) (fun s32 e33 => some (s32, .inl (v3 + 1)))))
set_option maxHeartbeats 4000000 in
set_option maxRecDepth 100000 in
theorem wb_X6_both_l24 {E : XC} (O : OK mM E RX6 cX6_both 5 rm_X6_both) {a1 : Int32} {a2 : Int32}  {x1 : Int32} {x2 : Int32} {s0 : StA} {v3 : Int32} {zs : StA} {rr : Int32} (hret : ReI mM E .int cX6_both zs rr) {bs : StA} {bw : (Int32) ⊕ (Unit)} (Kc : ∀ v, bw = .inl v → WS mM E 5 24 [(0, rf E 0), (1, .int x1), (2, .int x2), (3, .int v)] [] bs) (Ke : ∀ e, bw = .inr e → WS mM E 5 110 [(0, rf E 0), (2, .int x2)] [] bs) (hf : fb_X6_both_l24 a1 a2 x1 x2 s0 v3 = some (bs, bw)) : WS mM E 5 24 [(0, rf E 0), (1, .int x1), (2, .int x2), (3, .int v3)] [] s0 := by
  unfold fb_X6_both_l24 at hf
  refine s_iload_n O 3 dX6_both_24 rfl rfl ?_
  refine s_aload_n O 0 dX6_both_25 rfl rfl ?_
  refine s_getI O fg_RX6_64 ms_0 rfl dX6_both_26 ?_
  refine s_icmp_ge (tgt := 110) O dX6_both_29 (by decide) (fun c => ?_) (fun c => ?_)
  · replace hf := if_t c hf
    refine s_loc [0, 2] rfl ?_
    cases hf
    exact Ke _ rfl
  · replace hf := if_f c hf
    refine s_iload_n O 3 dX6_both_32 rfl rfl ?_
    refine s_iconst (v := 1) O dX6_both_33 rfl ?_
    refine s_iadd O dX6_both_34 ?_
    refine s_topi (fun n10 en10 => ?_)
    replace hf := nmi_e en10 hf
    refine s_istore (lv' := [(4, .int n10), (0, rf E 0), (1, .int x1), (2, .int x2), (3, .int v3)]) O dX6_both_35 (by decide) rfl ?_
    refine s_loc [1, 2, 3, 4, 0] rfl ?_
    obtain ⟨s32, e33, c34, hf⟩ := bn_e hf
    refine lp_of (body := fun s v => fb_X6_both_l37 a1 a2 x1 x2 v3 s v) (X := fun s v => WS mM E 5 37 [(0, rf E 0), (1, .int x1), (2, .int x2), (3, .int v3), (4, .int v)] [] s) (Y := fun s e => WS mM E 5 104 [(0, rf E 0), (1, .int x1), (2, .int x2), (3, .int v3)] [] s) (fun s v s' w hb Kc Ke => wb_X6_both_l37 (rr := rr) O   hret Kc Ke hb) FU _ _ (s32, e33) c34 ?_
    show WS mM E 5 104 [(0, rf E 0), (1, .int x1), (2, .int x2), (3, .int v3)] [] s32
    refine s_iinc (v := (v3 + 1)) (lv' := [(3, .int (v3 + 1)), (0, rf E 0), (1, .int x1), (2, .int x2)]) O 3 dX6_both_104 rfl rfl (by decide) rfl ?_
    refine s_goto (tgt := 24) O dX6_both_107 (by decide) ?_
    refine s_loc [1, 2, 3, 0] rfl ?_
    cases hf
    exact Kc _ rfl
def fl_X6_both_l24 (a1 : Int32) (a2 : Int32) (x1 : Int32) (x2 : Int32) (s0 : StA) (v : Int32) : Option (StA × ((Unit))) :=
  it (fun s v => fb_X6_both_l24 a1 a2 x1 x2 s v) FU s0 v
def f_X6_both (a1 : Int32) (a2 : Int32) (s0 : StA) : Option (StA × Int32) :=
  bn (f_X6_isPlace a1 s0) (fun s1 r2 => (if r2 = 0 then some (s1, (-1)) else bn (f_X6_isPart a2 s1) (fun s4 r5 => (if r5 = 0 then some (s4, (-1)) else bn (f_X6_startsJudging 1000000 s4) (fun s7 r8 => bn (fl_X6_both_l24 a1 a2 a1 a2 s7 0) (fun s35 e36 => bn (f_X6_judged a2 s35) (fun s38 r39 => some (s38, r39))))))))
set_option maxHeartbeats 4000000 in
set_option maxRecDepth 100000 in
theorem k_X6_both {a1 : Int32} {a2 : Int32} {s0 zs : StA} {rr : Int32} (hf : f_X6_both a1 a2 s0 = some (zs, rr)) : CtI mM yX6_both cX6_both 5 .int rm_X6_both (fun ph => [.ref (ph 0), .int a1, .int a2]) s0 zs rr := by
  refine CtI.of (by decide +kernel) (fun ph => Nat.le_of_ble_eq_true rfl) (fun E O hret => ?_)
  have O : OK mM E RX6 cX6_both 5 rm_X6_both := O
  show WS mM E 5 0 [(0, rf E 0), (1, .int a1), (2, .int a2)] [] s0
  unfold f_X6_both at hf
  refine s_iload_n O 1 dX6_both_0 rfl rfl ?_
  obtain ⟨s1, r2, c3, hf⟩ := bn_e hf
  refine s_SI (As := [.int a1]) (st := []) O lk_RX6_232 (k_X6_isPlace c3) rfl rfl ⟨rfl, rfl⟩ ⟨Nat.le_of_ble_eq_true rfl, Nat.le_of_ble_eq_true rfl⟩ rfl (Nat.le_of_ble_eq_true rfl) dX6_both_1 ?_
  refine s_if_eq (tgt := 14) O dX6_both_4 (by decide) (fun c => ?_) (fun c => ?_)
  · replace hf := if_t c hf
    refine s_iconst (v := (-1)) O dX6_both_14 rfl ?_
    exact s_iret hret rfl dX6_both_15 hf
  · replace hf := if_f c hf
    refine s_iload_n O 2 dX6_both_7 rfl rfl ?_
    obtain ⟨s4, r5, c6, hf⟩ := bn_e hf
    refine s_SI (As := [.int a2]) (st := []) O lk_RX6_188 (k_X6_isPart c6) rfl rfl ⟨rfl, rfl⟩ ⟨Nat.le_of_ble_eq_true rfl, Nat.le_of_ble_eq_true rfl⟩ rfl (Nat.le_of_ble_eq_true rfl) dX6_both_8 ?_
    refine s_if_ne (tgt := 16) O dX6_both_11 (by decide) (fun c => ?_) (fun c => ?_)
    · replace hf := if_f c hf
      refine s_aload_n O 0 dX6_both_16 rfl rfl ?_
      refine s_ldc O ci_RX6_244 dX6_both_17 ?_
      obtain ⟨s7, r8, c9, hf⟩ := bn_e hf
      refine s_VV (As := [.int 1000000]) (st := []) O lk_RX6_245 (k_X6_startsJudging c9) rfl ms_0 rfl rfl ⟨rfl, rfl⟩ ⟨Nat.le_of_ble_eq_true rfl, Nat.le_of_ble_eq_true rfl⟩ rfl (Nat.le_of_ble_eq_true rfl) dX6_both_19 ?_
      refine s_iconst (v := 0) O dX6_both_22 rfl ?_
      refine s_istore_n (lv' := [(3, .int 0), (0, rf E 0), (1, .int a1), (2, .int a2)]) O dX6_both_23 rfl (by decide) rfl ?_
      refine s_loc [1, 2, 3, 0] rfl ?_
      obtain ⟨s35, e36, c37, hf⟩ := bn_e hf
      refine lp_of (body := fun s v => fb_X6_both_l24 a1 a2 a1 a2 s v) (X := fun s v => WS mM E 5 24 [(0, rf E 0), (1, .int a1), (2, .int a2), (3, .int v)] [] s) (Y := fun s e => WS mM E 5 110 [(0, rf E 0), (2, .int a2)] [] s) (fun s v s' w hb Kc Ke => wb_X6_both_l24 (rr := rr) O   hret Kc Ke hb) FU _ _ (s35, e36) c37 ?_
      show WS mM E 5 110 [(0, rf E 0), (2, .int a2)] [] s35
      refine s_aload_n O 0 dX6_both_110 rfl rfl ?_
      refine s_iload_n O 1 dX6_both_111 rfl rfl ?_
      obtain ⟨s38, r39, c40, hf⟩ := bn_e hf
      refine s_VI (As := [.int a2]) (st := []) O lk_RX6_255 (k_X6_judged c40) rfl ms_0 rfl rfl ⟨rfl, rfl⟩ ⟨Nat.le_of_ble_eq_true rfl, Nat.le_of_ble_eq_true rfl⟩ rfl (Nat.le_of_ble_eq_true rfl) dX6_both_112 ?_
      exact s_iret hret rfl dX6_both_115 hf
    · replace hf := if_t c hf
      refine s_iconst (v := (-1)) O dX6_both_14 rfl ?_
      exact s_iret hret rfl dX6_both_15 hf
def rm_X6_offPlace : Room := { frames := 0, cells := 0, slots := 0, locals := 0 }
def f_X6_offPlace (a1 : Int32) (s0 : StA) : Option (StA × Int32) :=
  gd 25 63 ((if (gi s0 2 (25 : Int32).toNatClampNeg) ≤ a1 then gd 25 63 (some (s0, (a1 - (gi s0 2 (25 : Int32).toNatClampNeg)))) else gd 25 63 (some (s0, ((gi s0 2 (25 : Int32).toNatClampNeg) - a1)))))
set_option maxHeartbeats 4000000 in
set_option maxRecDepth 100000 in
theorem k_X6_offPlace {a1 : Int32} {s0 zs : StA} {rr : Int32} (hf : f_X6_offPlace a1 s0 = some (zs, rr)) : CtI mM yX6_offPlace cX6_offPlace 2 .int rm_X6_offPlace (fun ph => [.ref (ph 0), .int a1]) s0 zs rr := by
  refine CtI.of (by decide +kernel) (fun ph => Nat.le_of_ble_eq_true rfl) (fun E O hret => ?_)
  have O : OK mM E RX6 cX6_offPlace 2 rm_X6_offPlace := O
  show WS mM E 2 0 [(0, rf E 0), (1, .int a1)] [] s0
  unfold f_X6_offPlace at hf
  refine s_aload_n O 0 dX6_offPlace_0 rfl rfl ?_
  refine s_getR O fg_RX6_13 ms_0 rfl dX6_offPlace_1 ?_
  refine s_bipush (v := 25) O dX6_offPlace_4 rfl ?_
  obtain ⟨h1, hf⟩ := gd_e hf
  refine s_iald O ms_2 h1 dX6_offPlace_6 ?_
  refine s_iload_n O 1 dX6_offPlace_7 rfl rfl ?_
  refine s_icmp_le (tgt := 23) O dX6_offPlace_8 (by decide) (fun c => ?_) (fun c => ?_)
  · replace hf := if_t c hf
    refine s_iload_n O 1 dX6_offPlace_23 rfl rfl ?_
    refine s_aload_n O 0 dX6_offPlace_24 rfl rfl ?_
    refine s_getR O fg_RX6_13 ms_0 rfl dX6_offPlace_25 ?_
    refine s_bipush (v := 25) O dX6_offPlace_28 rfl ?_
    obtain ⟨h2, hf⟩ := gd_e hf
    refine s_iald O ms_2 h2 dX6_offPlace_30 ?_
    refine s_isub O dX6_offPlace_31 ?_
    exact s_iret hret rfl dX6_offPlace_32 hf
  · replace hf := if_f c hf
    refine s_aload_n O 0 dX6_offPlace_11 rfl rfl ?_
    refine s_getR O fg_RX6_13 ms_0 rfl dX6_offPlace_12 ?_
    refine s_bipush (v := 25) O dX6_offPlace_15 rfl ?_
    obtain ⟨h3, hf⟩ := gd_e hf
    refine s_iald O ms_2 h3 dX6_offPlace_17 ?_
    refine s_iload_n O 1 dX6_offPlace_18 rfl rfl ?_
    refine s_isub O dX6_offPlace_19 ?_
    refine s_goto (tgt := 32) O dX6_offPlace_20 (by decide) ?_
    exact s_iret hret rfl dX6_offPlace_32 hf
