def rm_X6_when : Room := { frames := 5, cells := 0, slots := 0, locals := 111 }
def fb_X6_when_l41 (a1 : Int32) (a2 : Int32) (a3 : Int32) (a4 : Int32) (x1 : Int32) (x2 : Int32) (x3 : Int32) (x4 : Int32) (s0 : StA) (v5 : Int32) : Option (StA × ((Int32) ⊕ (Unit))) :=
  (if 30 < v5 then some (s0, .inr ()) else bn (f_X6_starts  s0) (fun s16 r17 => nms (si s16 0 18 x1) (fun s19 => gd 27 63 (nms (si s19 0 19 ((gi s19 2 (27 : Int32).toNatClampNeg) + v5)) (fun s21 => bn (f_X6_minutesGo x3 s21) (fun s22 r23 => bn (f_X6_offPlace x2 s22) (fun s25 r26 => bn (f_X6_judges v5 r26 s25) (fun s28 r29 => some (s28, .inl (v5 + 1))))))))))
set_option maxHeartbeats 4000000 in
set_option maxRecDepth 100000 in
theorem wb_X6_when_l41 {E : XC} (O : OK mM E RX6 cX6_when 6 rm_X6_when) {a1 : Int32} {a2 : Int32} {a3 : Int32} {a4 : Int32}  {x1 : Int32} {x2 : Int32} {x3 : Int32} {x4 : Int32} {s0 : StA} {v5 : Int32} {zs : StA} {rr : Int32} (hret : ReI mM E .int cX6_when zs rr) {bs : StA} {bw : (Int32) ⊕ (Unit)} (Kc : ∀ v, bw = .inl v → WS mM E 6 41 [(0, rf E 0), (1, .int x1), (2, .int x2), (3, .int x3), (4, .int x4), (5, .int v)] [] bs) (Ke : ∀ e, bw = .inr e → WS mM E 6 93 [(0, rf E 0), (4, .int x4)] [] bs) (hf : fb_X6_when_l41 a1 a2 a3 a4 x1 x2 x3 x4 s0 v5 = some (bs, bw)) : WS mM E 6 41 [(0, rf E 0), (1, .int x1), (2, .int x2), (3, .int x3), (4, .int x4), (5, .int v5)] [] s0 := by
  unfold fb_X6_when_l41 at hf
  refine s_iload O 5 dX6_when_41 rfl ?_
  refine s_bipush (v := 30) O dX6_when_43 rfl ?_
  refine s_icmp_gt (tgt := 93) O dX6_when_45 (by decide) (fun c => ?_) (fun c => ?_)
  · replace hf := if_t c hf
    refine s_loc [0, 4] rfl ?_
    cases hf
    exact Ke _ rfl
  · replace hf := if_f c hf
    refine s_aload_n O 0 dX6_when_48 rfl rfl ?_
    obtain ⟨s16, r17, c18, hf⟩ := bn_e hf
    refine s_VV (As := []) (st := []) O lk_RX6_175 (k_X6_starts c18) rfl ms_0 rfl rfl ⟨rfl, rfl⟩ ⟨Nat.le_of_ble_eq_true rfl, Nat.le_of_ble_eq_true rfl⟩ rfl (Nat.le_of_ble_eq_true rfl) dX6_when_49 ?_
    refine s_aload_n O 0 dX6_when_52 rfl rfl ?_
    refine s_iload_n O 1 dX6_when_53 rfl rfl ?_
    refine s_putI O fp_RX6_149 ms_0 rfl dX6_when_54 ?_
    refine s_tops (fun s19 es19 => ?_)
    replace hf := nms_e es19 hf
    refine s_aload_n O 0 dX6_when_57 rfl rfl ?_
    refine s_aload_n O 0 dX6_when_58 rfl rfl ?_
    refine s_getR O fg_RX6_13 ms_0 rfl dX6_when_59 ?_
    refine s_bipush (v := 27) O dX6_when_62 rfl ?_
    obtain ⟨h20, hf⟩ := gd_e hf
    refine s_iald O ms_2 h20 dX6_when_64 ?_
    refine s_iload O 5 dX6_when_65 rfl ?_
    refine s_iadd O dX6_when_67 ?_
    refine s_putI O fp_RX6_166 ms_0 rfl dX6_when_68 ?_
    refine s_tops (fun s21 es21 => ?_)
    replace hf := nms_e es21 hf
    refine s_aload_n O 0 dX6_when_71 rfl rfl ?_
    refine s_iload_n O 3 dX6_when_72 rfl rfl ?_
    obtain ⟨s22, r23, c24, hf⟩ := bn_e hf
    refine s_VV (As := [.int x3]) (st := []) O lk_RX6_205 (k_X6_minutesGo c24) rfl ms_0 rfl rfl ⟨rfl, rfl⟩ ⟨Nat.le_of_ble_eq_true rfl, Nat.le_of_ble_eq_true rfl⟩ rfl (Nat.le_of_ble_eq_true rfl) dX6_when_73 ?_
    refine s_aload_n O 0 dX6_when_76 rfl rfl ?_
    refine s_iload O 5 dX6_when_77 rfl ?_
    refine s_aload_n O 0 dX6_when_79 rfl rfl ?_
    refine s_iload_n O 2 dX6_when_80 rfl rfl ?_
    obtain ⟨s25, r26, c27, hf⟩ := bn_e hf
    refine s_VI (As := [.int x2]) (st := [.int v5, rf E 0]) O lk_RX6_258 (k_X6_offPlace c27) rfl ms_0 rfl rfl ⟨rfl, rfl⟩ ⟨Nat.le_of_ble_eq_true rfl, Nat.le_of_ble_eq_true rfl⟩ rfl (Nat.le_of_ble_eq_true rfl) dX6_when_81 ?_
    obtain ⟨s28, r29, c30, hf⟩ := bn_e hf
    refine s_VV (As := [.int v5, .int r26]) (st := []) O lk_RX6_251 (k_X6_judges c30) rfl ms_0 rfl rfl ⟨rfl, rfl⟩ ⟨Nat.le_of_ble_eq_true rfl, Nat.le_of_ble_eq_true rfl⟩ rfl (Nat.le_of_ble_eq_true rfl) dX6_when_84 ?_
    refine s_iinc (v := (v5 + 1)) (lv' := [(5, .int (v5 + 1)), (0, rf E 0), (1, .int x1), (2, .int x2), (3, .int x3), (4, .int x4)]) O 5 dX6_when_87 rfl rfl (by decide) rfl ?_
    refine s_goto (tgt := 41) O dX6_when_90 (by decide) ?_
    refine s_loc [1, 2, 3, 4, 5, 0] rfl ?_
    cases hf
    exact Kc _ rfl
def fl_X6_when_l41 (a1 : Int32) (a2 : Int32) (a3 : Int32) (a4 : Int32) (x1 : Int32) (x2 : Int32) (x3 : Int32) (x4 : Int32) (s0 : StA) (v : Int32) : Option (StA × ((Unit))) :=
  it (fun s v => fb_X6_when_l41 a1 a2 a3 a4 x1 x2 x3 x4 s v) FU s0 v
def f_X6_when (a1 : Int32) (a2 : Int32) (a3 : Int32) (a4 : Int32) (s0 : StA) : Option (StA × Int32) :=
  bn (f_X6_isThing a1 s0) (fun s1 r2 => (if r2 = 0 then some (s1, (-1)) else bn (f_X6_isPlace a2 s1) (fun s4 r5 => (if r5 = 0 then some (s4, (-1)) else bn (f_X6_isFar a3 s4) (fun s7 r8 => (if r8 = 0 then some (s7, (-1)) else bn (f_X6_isPart a4 s7) (fun s10 r11 => (if r11 = 0 then some (s10, (-1)) else bn (f_X6_startsJudging 1000000 s10) (fun s13 r14 => bn (fl_X6_when_l41 a1 a2 a3 a4 a1 a2 a3 a4 s13 0) (fun s31 e32 => bn (f_X6_judged a4 s31) (fun s34 r35 => some (s34, r35))))))))))))
set_option maxHeartbeats 4000000 in
set_option maxRecDepth 100000 in
theorem k_X6_when {a1 : Int32} {a2 : Int32} {a3 : Int32} {a4 : Int32} {s0 zs : StA} {rr : Int32} (hf : f_X6_when a1 a2 a3 a4 s0 = some (zs, rr)) : CtI mM yX6_when cX6_when 6 .int rm_X6_when (fun ph => [.ref (ph 0), .int a1, .int a2, .int a3, .int a4]) s0 zs rr := by
  refine CtI.of (by decide +kernel) (fun ph => Nat.le_of_ble_eq_true rfl) (fun E O hret => ?_)
  have O : OK mM E RX6 cX6_when 6 rm_X6_when := O
  show WS mM E 6 0 [(0, rf E 0), (1, .int a1), (2, .int a2), (3, .int a3), (4, .int a4)] [] s0
  unfold f_X6_when at hf
  refine s_aload_n O 0 dX6_when_0 rfl rfl ?_
  refine s_iload_n O 1 dX6_when_1 rfl rfl ?_
  obtain ⟨s1, r2, c3, hf⟩ := bn_e hf
  refine s_VI (As := [.int a1]) (st := []) O lk_RX6_181 (k_X6_isThing c3) rfl ms_0 rfl rfl ⟨rfl, rfl⟩ ⟨Nat.le_of_ble_eq_true rfl, Nat.le_of_ble_eq_true rfl⟩ rfl (Nat.le_of_ble_eq_true rfl) dX6_when_2 ?_
  refine s_if_eq (tgt := 30) O dX6_when_5 (by decide) (fun c => ?_) (fun c => ?_)
  · replace hf := if_t c hf
    refine s_iconst (v := (-1)) O dX6_when_30 rfl ?_
    exact s_iret hret rfl dX6_when_31 hf
  · replace hf := if_f c hf
    refine s_iload_n O 2 dX6_when_8 rfl rfl ?_
    obtain ⟨s4, r5, c6, hf⟩ := bn_e hf
    refine s_SI (As := [.int a2]) (st := []) O lk_RX6_232 (k_X6_isPlace c6) rfl rfl ⟨rfl, rfl⟩ ⟨Nat.le_of_ble_eq_true rfl, Nat.le_of_ble_eq_true rfl⟩ rfl (Nat.le_of_ble_eq_true rfl) dX6_when_9 ?_
    refine s_if_eq (tgt := 30) O dX6_when_12 (by decide) (fun c => ?_) (fun c => ?_)
    · replace hf := if_t c hf
      refine s_iconst (v := (-1)) O dX6_when_30 rfl ?_
      exact s_iret hret rfl dX6_when_31 hf
    · replace hf := if_f c hf
      refine s_iload_n O 3 dX6_when_15 rfl rfl ?_
      obtain ⟨s7, r8, c9, hf⟩ := bn_e hf
      refine s_SI (As := [.int a3]) (st := []) O lk_RX6_223 (k_X6_isFar c9) rfl rfl ⟨rfl, rfl⟩ ⟨Nat.le_of_ble_eq_true rfl, Nat.le_of_ble_eq_true rfl⟩ rfl (Nat.le_of_ble_eq_true rfl) dX6_when_16 ?_
      refine s_if_eq (tgt := 30) O dX6_when_19 (by decide) (fun c => ?_) (fun c => ?_)
      · replace hf := if_t c hf
        refine s_iconst (v := (-1)) O dX6_when_30 rfl ?_
        exact s_iret hret rfl dX6_when_31 hf
      · replace hf := if_f c hf
        refine s_iload O 4 dX6_when_22 rfl ?_
        obtain ⟨s10, r11, c12, hf⟩ := bn_e hf
        refine s_SI (As := [.int a4]) (st := []) O lk_RX6_188 (k_X6_isPart c12) rfl rfl ⟨rfl, rfl⟩ ⟨Nat.le_of_ble_eq_true rfl, Nat.le_of_ble_eq_true rfl⟩ rfl (Nat.le_of_ble_eq_true rfl) dX6_when_24 ?_
        refine s_if_ne (tgt := 32) O dX6_when_27 (by decide) (fun c => ?_) (fun c => ?_)
        · replace hf := if_f c hf
          refine s_aload_n O 0 dX6_when_32 rfl rfl ?_
          refine s_ldc O ci_RX6_244 dX6_when_33 ?_
          obtain ⟨s13, r14, c15, hf⟩ := bn_e hf
          refine s_VV (As := [.int 1000000]) (st := []) O lk_RX6_245 (k_X6_startsJudging c15) rfl ms_0 rfl rfl ⟨rfl, rfl⟩ ⟨Nat.le_of_ble_eq_true rfl, Nat.le_of_ble_eq_true rfl⟩ rfl (Nat.le_of_ble_eq_true rfl) dX6_when_35 ?_
          refine s_iconst (v := 0) O dX6_when_38 rfl ?_
          refine s_istore (lv' := [(5, .int 0), (0, rf E 0), (1, .int a1), (2, .int a2), (3, .int a3), (4, .int a4)]) O dX6_when_39 (by decide) rfl ?_
          refine s_loc [1, 2, 3, 4, 5, 0] rfl ?_
          obtain ⟨s31, e32, c33, hf⟩ := bn_e hf
          refine lp_of (body := fun s v => fb_X6_when_l41 a1 a2 a3 a4 a1 a2 a3 a4 s v) (X := fun s v => WS mM E 6 41 [(0, rf E 0), (1, .int a1), (2, .int a2), (3, .int a3), (4, .int a4), (5, .int v)] [] s) (Y := fun s e => WS mM E 6 93 [(0, rf E 0), (4, .int a4)] [] s) (fun s v s' w hb Kc Ke => wb_X6_when_l41 (rr := rr) O   hret Kc Ke hb) FU _ _ (s31, e32) c33 ?_
          show WS mM E 6 93 [(0, rf E 0), (4, .int a4)] [] s31
          refine s_aload_n O 0 dX6_when_93 rfl rfl ?_
          refine s_iload O 1 dX6_when_94 rfl ?_
          obtain ⟨s34, r35, c36, hf⟩ := bn_e hf
          refine s_VI (As := [.int a4]) (st := []) O lk_RX6_255 (k_X6_judged c36) rfl ms_0 rfl rfl ⟨rfl, rfl⟩ ⟨Nat.le_of_ble_eq_true rfl, Nat.le_of_ble_eq_true rfl⟩ rfl (Nat.le_of_ble_eq_true rfl) dX6_when_96 ?_
          exact s_iret hret rfl dX6_when_99 hf
        · replace hf := if_t c hf
          refine s_iconst (v := (-1)) O dX6_when_30 rfl ?_
          exact s_iret hret rfl dX6_when_31 hf
def rm_X6_steer : Room := { frames := 5, cells := 0, slots := 0, locals := 111 }
def fb_X6_steer_l40 (a1 : Int32) (a2 : Int32) (a3 : Int32) (a4 : Int32) (x1 : Int32) (x2 : Int32) (x3 : Int32) (x4 : Int32) (s0 : StA) (v5 : Int32) : Option (StA × ((Int32) ⊕ (Unit))) :=
  (if 8 < v5 then some (s0, .inr ()) else bn (f_X6_starts  s0) (fun s16 r17 => gd (28 + x1) 63 (nms (si s16 2 ((28 + x1).toNatClampNeg) v5) (fun s20 => bn (f_X6_minutesGo x3 s20) (fun s21 r22 => bn (f_X6_offPlace x2 s21) (fun s24 r25 => bn (f_X6_judges v5 r25 s24) (fun s27 r28 => some (s27, .inl (v5 + 1)))))))))
set_option maxHeartbeats 4000000 in
set_option maxRecDepth 100000 in
theorem wb_X6_steer_l40 {E : XC} (O : OK mM E RX6 cX6_steer 6 rm_X6_steer) {a1 : Int32} {a2 : Int32} {a3 : Int32} {a4 : Int32}  {x1 : Int32} {x2 : Int32} {x3 : Int32} {x4 : Int32} {s0 : StA} {v5 : Int32} {zs : StA} {rr : Int32} (hret : ReI mM E .int cX6_steer zs rr) {bs : StA} {bw : (Int32) ⊕ (Unit)} (Kc : ∀ v, bw = .inl v → WS mM E 6 40 [(0, rf E 0), (1, .int x1), (2, .int x2), (3, .int x3), (4, .int x4), (5, .int v)] [] bs) (Ke : ∀ e, bw = .inr e → WS mM E 6 84 [(0, rf E 0), (4, .int x4)] [] bs) (hf : fb_X6_steer_l40 a1 a2 a3 a4 x1 x2 x3 x4 s0 v5 = some (bs, bw)) : WS mM E 6 40 [(0, rf E 0), (1, .int x1), (2, .int x2), (3, .int x3), (4, .int x4), (5, .int v5)] [] s0 := by
  unfold fb_X6_steer_l40 at hf
  refine s_iload O 5 dX6_steer_40 rfl ?_
  refine s_bipush (v := 8) O dX6_steer_42 rfl ?_
  refine s_icmp_gt (tgt := 84) O dX6_steer_44 (by decide) (fun c => ?_) (fun c => ?_)
  · replace hf := if_t c hf
    refine s_loc [0, 4] rfl ?_
    cases hf
    exact Ke _ rfl
  · replace hf := if_f c hf
    refine s_aload_n O 0 dX6_steer_47 rfl rfl ?_
    obtain ⟨s16, r17, c18, hf⟩ := bn_e hf
    refine s_VV (As := []) (st := []) O lk_RX6_175 (k_X6_starts c18) rfl ms_0 rfl rfl ⟨rfl, rfl⟩ ⟨Nat.le_of_ble_eq_true rfl, Nat.le_of_ble_eq_true rfl⟩ rfl (Nat.le_of_ble_eq_true rfl) dX6_steer_48 ?_
    refine s_aload_n O 0 dX6_steer_51 rfl rfl ?_
    refine s_getR O fg_RX6_13 ms_0 rfl dX6_steer_52 ?_
    refine s_bipush (v := 28) O dX6_steer_55 rfl ?_
    refine s_iload_n O 1 dX6_steer_57 rfl rfl ?_
    refine s_iadd O dX6_steer_58 ?_
    refine s_iload O 5 dX6_steer_59 rfl ?_
    obtain ⟨h19, hf⟩ := gd_e hf
    refine s_iast O ms_2 h19 dX6_steer_61 ?_
    refine s_tops (fun s20 es20 => ?_)
    replace hf := nms_e es20 hf
    refine s_aload_n O 0 dX6_steer_62 rfl rfl ?_
    refine s_iload_n O 3 dX6_steer_63 rfl rfl ?_
    obtain ⟨s21, r22, c23, hf⟩ := bn_e hf
    refine s_VV (As := [.int x3]) (st := []) O lk_RX6_205 (k_X6_minutesGo c23) rfl ms_0 rfl rfl ⟨rfl, rfl⟩ ⟨Nat.le_of_ble_eq_true rfl, Nat.le_of_ble_eq_true rfl⟩ rfl (Nat.le_of_ble_eq_true rfl) dX6_steer_64 ?_
    refine s_aload_n O 0 dX6_steer_67 rfl rfl ?_
    refine s_iload O 5 dX6_steer_68 rfl ?_
    refine s_aload_n O 0 dX6_steer_70 rfl rfl ?_
    refine s_iload_n O 2 dX6_steer_71 rfl rfl ?_
    obtain ⟨s24, r25, c26, hf⟩ := bn_e hf
    refine s_VI (As := [.int x2]) (st := [.int v5, rf E 0]) O lk_RX6_258 (k_X6_offPlace c26) rfl ms_0 rfl rfl ⟨rfl, rfl⟩ ⟨Nat.le_of_ble_eq_true rfl, Nat.le_of_ble_eq_true rfl⟩ rfl (Nat.le_of_ble_eq_true rfl) dX6_steer_72 ?_
    obtain ⟨s27, r28, c29, hf⟩ := bn_e hf
    refine s_VV (As := [.int v5, .int r25]) (st := []) O lk_RX6_251 (k_X6_judges c29) rfl ms_0 rfl rfl ⟨rfl, rfl⟩ ⟨Nat.le_of_ble_eq_true rfl, Nat.le_of_ble_eq_true rfl⟩ rfl (Nat.le_of_ble_eq_true rfl) dX6_steer_75 ?_
    refine s_iinc (v := (v5 + 1)) (lv' := [(5, .int (v5 + 1)), (0, rf E 0), (1, .int x1), (2, .int x2), (3, .int x3), (4, .int x4)]) O 5 dX6_steer_78 rfl rfl (by decide) rfl ?_
    refine s_goto (tgt := 40) O dX6_steer_81 (by decide) ?_
    refine s_loc [1, 2, 3, 4, 5, 0] rfl ?_
    cases hf
    exact Kc _ rfl
def fl_X6_steer_l40 (a1 : Int32) (a2 : Int32) (a3 : Int32) (a4 : Int32) (x1 : Int32) (x2 : Int32) (x3 : Int32) (x4 : Int32) (s0 : StA) (v : Int32) : Option (StA × ((Unit))) :=
  it (fun s v => fb_X6_steer_l40 a1 a2 a3 a4 x1 x2 x3 x4 s v) FU s0 v
def f_X6_steer (a1 : Int32) (a2 : Int32) (a3 : Int32) (a4 : Int32) (s0 : StA) : Option (StA × Int32) :=
  bn (f_X6_isWind a1 s0) (fun s1 r2 => (if r2 = 0 then some (s1, (-1)) else bn (f_X6_isPlace a2 s1) (fun s4 r5 => (if r5 = 0 then some (s4, (-1)) else bn (f_X6_isFar a3 s4) (fun s7 r8 => (if r8 = 0 then some (s7, (-1)) else bn (f_X6_isPart a4 s7) (fun s10 r11 => (if r11 = 0 then some (s10, (-1)) else bn (f_X6_startsJudging 1000000 s10) (fun s13 r14 => bn (fl_X6_steer_l40 a1 a2 a3 a4 a1 a2 a3 a4 s13 0) (fun s30 e31 => bn (f_X6_judged a4 s30) (fun s33 r34 => some (s33, r34))))))))))))
set_option maxHeartbeats 4000000 in
set_option maxRecDepth 100000 in
theorem k_X6_steer {a1 : Int32} {a2 : Int32} {a3 : Int32} {a4 : Int32} {s0 zs : StA} {rr : Int32} (hf : f_X6_steer a1 a2 a3 a4 s0 = some (zs, rr)) : CtI mM yX6_steer cX6_steer 6 .int rm_X6_steer (fun ph => [.ref (ph 0), .int a1, .int a2, .int a3, .int a4]) s0 zs rr := by
  refine CtI.of (by decide +kernel) (fun ph => Nat.le_of_ble_eq_true rfl) (fun E O hret => ?_)
  have O : OK mM E RX6 cX6_steer 6 rm_X6_steer := O
  show WS mM E 6 0 [(0, rf E 0), (1, .int a1), (2, .int a2), (3, .int a3), (4, .int a4)] [] s0
  unfold f_X6_steer at hf
  refine s_iload_n O 1 dX6_steer_0 rfl rfl ?_
  obtain ⟨s1, r2, c3, hf⟩ := bn_e hf
  refine s_SI (As := [.int a1]) (st := []) O lk_RX6_185 (k_X6_isWind c3) rfl rfl ⟨rfl, rfl⟩ ⟨Nat.le_of_ble_eq_true rfl, Nat.le_of_ble_eq_true rfl⟩ rfl (Nat.le_of_ble_eq_true rfl) dX6_steer_1 ?_
  refine s_if_eq (tgt := 29) O dX6_steer_4 (by decide) (fun c => ?_) (fun c => ?_)
  · replace hf := if_t c hf
    refine s_iconst (v := (-1)) O dX6_steer_29 rfl ?_
    exact s_iret hret rfl dX6_steer_30 hf
  · replace hf := if_f c hf
    refine s_iload_n O 2 dX6_steer_7 rfl rfl ?_
    obtain ⟨s4, r5, c6, hf⟩ := bn_e hf
    refine s_SI (As := [.int a2]) (st := []) O lk_RX6_232 (k_X6_isPlace c6) rfl rfl ⟨rfl, rfl⟩ ⟨Nat.le_of_ble_eq_true rfl, Nat.le_of_ble_eq_true rfl⟩ rfl (Nat.le_of_ble_eq_true rfl) dX6_steer_8 ?_
    refine s_if_eq (tgt := 29) O dX6_steer_11 (by decide) (fun c => ?_) (fun c => ?_)
    · replace hf := if_t c hf
      refine s_iconst (v := (-1)) O dX6_steer_29 rfl ?_
      exact s_iret hret rfl dX6_steer_30 hf
    · replace hf := if_f c hf
      refine s_iload_n O 3 dX6_steer_14 rfl rfl ?_
      obtain ⟨s7, r8, c9, hf⟩ := bn_e hf
      refine s_SI (As := [.int a3]) (st := []) O lk_RX6_223 (k_X6_isFar c9) rfl rfl ⟨rfl, rfl⟩ ⟨Nat.le_of_ble_eq_true rfl, Nat.le_of_ble_eq_true rfl⟩ rfl (Nat.le_of_ble_eq_true rfl) dX6_steer_15 ?_
      refine s_if_eq (tgt := 29) O dX6_steer_18 (by decide) (fun c => ?_) (fun c => ?_)
      · replace hf := if_t c hf
        refine s_iconst (v := (-1)) O dX6_steer_29 rfl ?_
        exact s_iret hret rfl dX6_steer_30 hf
      · replace hf := if_f c hf
        refine s_iload O 4 dX6_steer_21 rfl ?_
        obtain ⟨s10, r11, c12, hf⟩ := bn_e hf
        refine s_SI (As := [.int a4]) (st := []) O lk_RX6_188 (k_X6_isPart c12) rfl rfl ⟨rfl, rfl⟩ ⟨Nat.le_of_ble_eq_true rfl, Nat.le_of_ble_eq_true rfl⟩ rfl (Nat.le_of_ble_eq_true rfl) dX6_steer_23 ?_
        refine s_if_ne (tgt := 31) O dX6_steer_26 (by decide) (fun c => ?_) (fun c => ?_)
        · replace hf := if_f c hf
          refine s_aload_n O 0 dX6_steer_31 rfl rfl ?_
          refine s_ldc O ci_RX6_244 dX6_steer_32 ?_
          obtain ⟨s13, r14, c15, hf⟩ := bn_e hf
          refine s_VV (As := [.int 1000000]) (st := []) O lk_RX6_245 (k_X6_startsJudging c15) rfl ms_0 rfl rfl ⟨rfl, rfl⟩ ⟨Nat.le_of_ble_eq_true rfl, Nat.le_of_ble_eq_true rfl⟩ rfl (Nat.le_of_ble_eq_true rfl) dX6_steer_34 ?_
          refine s_iconst (v := 0) O dX6_steer_37 rfl ?_
          refine s_istore (lv' := [(5, .int 0), (0, rf E 0), (1, .int a1), (2, .int a2), (3, .int a3), (4, .int a4)]) O dX6_steer_38 (by decide) rfl ?_
          refine s_loc [1, 2, 3, 4, 5, 0] rfl ?_
          obtain ⟨s30, e31, c32, hf⟩ := bn_e hf
          refine lp_of (body := fun s v => fb_X6_steer_l40 a1 a2 a3 a4 a1 a2 a3 a4 s v) (X := fun s v => WS mM E 6 40 [(0, rf E 0), (1, .int a1), (2, .int a2), (3, .int a3), (4, .int a4), (5, .int v)] [] s) (Y := fun s e => WS mM E 6 84 [(0, rf E 0), (4, .int a4)] [] s) (fun s v s' w hb Kc Ke => wb_X6_steer_l40 (rr := rr) O   hret Kc Ke hb) FU _ _ (s30, e31) c32 ?_
          show WS mM E 6 84 [(0, rf E 0), (4, .int a4)] [] s30
          refine s_aload_n O 0 dX6_steer_84 rfl rfl ?_
          refine s_iload O 1 dX6_steer_85 rfl ?_
          obtain ⟨s33, r34, c35, hf⟩ := bn_e hf
          refine s_VI (As := [.int a4]) (st := []) O lk_RX6_255 (k_X6_judged c35) rfl ms_0 rfl rfl ⟨rfl, rfl⟩ ⟨Nat.le_of_ble_eq_true rfl, Nat.le_of_ble_eq_true rfl⟩ rfl (Nat.le_of_ble_eq_true rfl) dX6_steer_87 ?_
          exact s_iret hret rfl dX6_steer_90 hf
        · replace hf := if_t c hf
          refine s_iconst (v := (-1)) O dX6_steer_29 rfl ?_
          exact s_iret hret rfl dX6_steer_30 hf
def rm_X6_hush : Room := { frames := 5, cells := 0, slots := 0, locals := 111 }
def fb_X6_hush_l35 (a1 : Int32) (a2 : Int32) (x1 : Int32) (x2 : Int32) (s0 : StA) (v3 : Int32) : Option (StA × ((Int32) ⊕ (Unit))) :=
  gd 33 189 ((if (gi s0 1 (33 : Int32).toNatClampNeg) ≤ v3 then some (s0, .inr ()) else bn (f_X6_starts  s0) (fun s17 r18 => nms (si s17 0 17 (1 <<< (v3 &&& 31))) (fun s20 => bn (f_X6_minutesCount x1 s20) (fun s21 r22 => bn (f_X6_judges v3 (gi s21 0 20) s21) (fun s24 r25 => some (s24, .inl (v3 + 1))))))))
set_option maxHeartbeats 4000000 in
set_option maxRecDepth 100000 in
theorem wb_X6_hush_l35 {E : XC} (O : OK mM E RX6 cX6_hush 4 rm_X6_hush) {a1 : Int32} {a2 : Int32}  {x1 : Int32} {x2 : Int32} {s0 : StA} {v3 : Int32} {zs : StA} {rr : Int32} (hret : ReI mM E .int cX6_hush zs rr) {bs : StA} {bw : (Int32) ⊕ (Unit)} (Kc : ∀ v, bw = .inl v → WS mM E 4 35 [(0, rf E 0), (1, .int x1), (2, .int x2), (3, .int v)] [] bs) (Ke : ∀ e, bw = .inr e → WS mM E 4 77 [(0, rf E 0), (2, .int x2)] [] bs) (hf : fb_X6_hush_l35 a1 a2 x1 x2 s0 v3 = some (bs, bw)) : WS mM E 4 35 [(0, rf E 0), (1, .int x1), (2, .int x2), (3, .int v3)] [] s0 := by
  unfold fb_X6_hush_l35 at hf
  refine s_iload_n O 3 dX6_hush_35 rfl rfl ?_
  refine s_aload_n O 0 dX6_hush_36 rfl rfl ?_
  refine s_getR O fg_RX6_7 ms_0 rfl dX6_hush_37 ?_
  refine s_bipush (v := 33) O dX6_hush_40 rfl ?_
  obtain ⟨h16, hf⟩ := gd_e hf
  refine s_iald O ms_1 h16 dX6_hush_42 ?_
  refine s_icmp_ge (tgt := 77) O dX6_hush_43 (by decide) (fun c => ?_) (fun c => ?_)
  · replace hf := if_t c hf
    refine s_loc [0, 2] rfl ?_
    cases hf
    exact Ke _ rfl
  · replace hf := if_f c hf
    refine s_aload_n O 0 dX6_hush_46 rfl rfl ?_
    obtain ⟨s17, r18, c19, hf⟩ := bn_e hf
    refine s_VV (As := []) (st := []) O lk_RX6_175 (k_X6_starts c19) rfl ms_0 rfl rfl ⟨rfl, rfl⟩ ⟨Nat.le_of_ble_eq_true rfl, Nat.le_of_ble_eq_true rfl⟩ rfl (Nat.le_of_ble_eq_true rfl) dX6_hush_47 ?_
    refine s_aload_n O 0 dX6_hush_50 rfl rfl ?_
    refine s_iconst (v := 1) O dX6_hush_51 rfl ?_
    refine s_iload_n O 3 dX6_hush_52 rfl rfl ?_
    refine s_ishl O dX6_hush_53 ?_
    refine s_putI O fp_RX6_146 ms_0 rfl dX6_hush_54 ?_
    refine s_tops (fun s20 es20 => ?_)
    replace hf := nms_e es20 hf
    refine s_aload_n O 0 dX6_hush_57 rfl rfl ?_
    refine s_iload_n O 1 dX6_hush_58 rfl rfl ?_
    obtain ⟨s21, r22, c23, hf⟩ := bn_e hf
    refine s_VV (As := [.int x1]) (st := []) O lk_RX6_226 (k_X6_minutesCount c23) rfl ms_0 rfl rfl ⟨rfl, rfl⟩ ⟨Nat.le_of_ble_eq_true rfl, Nat.le_of_ble_eq_true rfl⟩ rfl (Nat.le_of_ble_eq_true rfl) dX6_hush_59 ?_
    refine s_aload_n O 0 dX6_hush_62 rfl rfl ?_
    refine s_iload_n O 3 dX6_hush_63 rfl rfl ?_
    refine s_aload_n O 0 dX6_hush_64 rfl rfl ?_
    refine s_getI O fg_RX6_213 ms_0 rfl dX6_hush_65 ?_
    obtain ⟨s24, r25, c26, hf⟩ := bn_e hf
    refine s_VV (As := [.int v3, .int (gi s21 0 20)]) (st := []) O lk_RX6_251 (k_X6_judges c26) rfl ms_0 rfl rfl ⟨rfl, rfl⟩ ⟨Nat.le_of_ble_eq_true rfl, Nat.le_of_ble_eq_true rfl⟩ rfl (Nat.le_of_ble_eq_true rfl) dX6_hush_68 ?_
    refine s_iinc (v := (v3 + 1)) (lv' := [(3, .int (v3 + 1)), (0, rf E 0), (1, .int x1), (2, .int x2)]) O 3 dX6_hush_71 rfl rfl (by decide) rfl ?_
    refine s_goto (tgt := 35) O dX6_hush_74 (by decide) ?_
    refine s_loc [1, 2, 3, 0] rfl ?_
    cases hf
    exact Kc _ rfl
def fl_X6_hush_l35 (a1 : Int32) (a2 : Int32) (x1 : Int32) (x2 : Int32) (s0 : StA) (v : Int32) : Option (StA × ((Unit))) :=
  it (fun s v => fb_X6_hush_l35 a1 a2 x1 x2 s v) FU s0 v
def f_X6_hush (a1 : Int32) (a2 : Int32) (s0 : StA) : Option (StA × Int32) :=
  bn (f_X6_isFar a1 s0) (fun s1 r2 => (if r2 = 0 then some (s1, (-1)) else bn (f_X6_isPart a2 s1) (fun s4 r5 => (if r5 = 0 then some (s4, (-1)) else bn (f_X6_starts  s4) (fun s7 r8 => bn (f_X6_minutesCount a1 s7) (fun s10 r11 => bn (f_X6_startsJudging (gi s10 0 20) s10) (fun s13 r14 => bn (fl_X6_hush_l35 a1 a2 a1 a2 s13 0) (fun s27 e28 => bn (f_X6_judged a2 s27) (fun s30 r31 => some (s30, r31))))))))))
set_option maxHeartbeats 4000000 in
set_option maxRecDepth 100000 in
theorem k_X6_hush {a1 : Int32} {a2 : Int32} {s0 zs : StA} {rr : Int32} (hf : f_X6_hush a1 a2 s0 = some (zs, rr)) : CtI mM yX6_hush cX6_hush 4 .int rm_X6_hush (fun ph => [.ref (ph 0), .int a1, .int a2]) s0 zs rr := by
  refine CtI.of (by decide +kernel) (fun ph => Nat.le_of_ble_eq_true rfl) (fun E O hret => ?_)
  have O : OK mM E RX6 cX6_hush 4 rm_X6_hush := O
  show WS mM E 4 0 [(0, rf E 0), (1, .int a1), (2, .int a2)] [] s0
  unfold f_X6_hush at hf
  refine s_iload_n O 1 dX6_hush_0 rfl rfl ?_
  obtain ⟨s1, r2, c3, hf⟩ := bn_e hf
  refine s_SI (As := [.int a1]) (st := []) O lk_RX6_223 (k_X6_isFar c3) rfl rfl ⟨rfl, rfl⟩ ⟨Nat.le_of_ble_eq_true rfl, Nat.le_of_ble_eq_true rfl⟩ rfl (Nat.le_of_ble_eq_true rfl) dX6_hush_1 ?_
  refine s_if_eq (tgt := 14) O dX6_hush_4 (by decide) (fun c => ?_) (fun c => ?_)
  · replace hf := if_t c hf
    refine s_iconst (v := (-1)) O dX6_hush_14 rfl ?_
    exact s_iret hret rfl dX6_hush_15 hf
  · replace hf := if_f c hf
    refine s_iload_n O 2 dX6_hush_7 rfl rfl ?_
    obtain ⟨s4, r5, c6, hf⟩ := bn_e hf
    refine s_SI (As := [.int a2]) (st := []) O lk_RX6_188 (k_X6_isPart c6) rfl rfl ⟨rfl, rfl⟩ ⟨Nat.le_of_ble_eq_true rfl, Nat.le_of_ble_eq_true rfl⟩ rfl (Nat.le_of_ble_eq_true rfl) dX6_hush_8 ?_
    refine s_if_ne (tgt := 16) O dX6_hush_11 (by decide) (fun c => ?_) (fun c => ?_)
    · replace hf := if_f c hf
      refine s_aload_n O 0 dX6_hush_16 rfl rfl ?_
      obtain ⟨s7, r8, c9, hf⟩ := bn_e hf
      refine s_VV (As := []) (st := []) O lk_RX6_175 (k_X6_starts c9) rfl ms_0 rfl rfl ⟨rfl, rfl⟩ ⟨Nat.le_of_ble_eq_true rfl, Nat.le_of_ble_eq_true rfl⟩ rfl (Nat.le_of_ble_eq_true rfl) dX6_hush_17 ?_
      refine s_aload_n O 0 dX6_hush_20 rfl rfl ?_
      refine s_iload_n O 1 dX6_hush_21 rfl rfl ?_
      obtain ⟨s10, r11, c12, hf⟩ := bn_e hf
      refine s_VV (As := [.int a1]) (st := []) O lk_RX6_226 (k_X6_minutesCount c12) rfl ms_0 rfl rfl ⟨rfl, rfl⟩ ⟨Nat.le_of_ble_eq_true rfl, Nat.le_of_ble_eq_true rfl⟩ rfl (Nat.le_of_ble_eq_true rfl) dX6_hush_22 ?_
      refine s_aload_n O 0 dX6_hush_25 rfl rfl ?_
      refine s_aload_n O 0 dX6_hush_26 rfl rfl ?_
      refine s_getI O fg_RX6_213 ms_0 rfl dX6_hush_27 ?_
      obtain ⟨s13, r14, c15, hf⟩ := bn_e hf
      refine s_VV (As := [.int (gi s10 0 20)]) (st := []) O lk_RX6_245 (k_X6_startsJudging c15) rfl ms_0 rfl rfl ⟨rfl, rfl⟩ ⟨Nat.le_of_ble_eq_true rfl, Nat.le_of_ble_eq_true rfl⟩ rfl (Nat.le_of_ble_eq_true rfl) dX6_hush_30 ?_
      refine s_iconst (v := 0) O dX6_hush_33 rfl ?_
      refine s_istore_n (lv' := [(3, .int 0), (0, rf E 0), (1, .int a1), (2, .int a2)]) O dX6_hush_34 rfl (by decide) rfl ?_
      refine s_loc [1, 2, 3, 0] rfl ?_
      obtain ⟨s27, e28, c29, hf⟩ := bn_e hf
      refine lp_of (body := fun s v => fb_X6_hush_l35 a1 a2 a1 a2 s v) (X := fun s v => WS mM E 4 35 [(0, rf E 0), (1, .int a1), (2, .int a2), (3, .int v)] [] s) (Y := fun s e => WS mM E 4 77 [(0, rf E 0), (2, .int a2)] [] s) (fun s v s' w hb Kc Ke => wb_X6_hush_l35 (rr := rr) O   hret Kc Ke hb) FU _ _ (s27, e28) c29 ?_
      show WS mM E 4 77 [(0, rf E 0), (2, .int a2)] [] s27
      refine s_aload_n O 0 dX6_hush_77 rfl rfl ?_
      refine s_iload_n O 1 dX6_hush_78 rfl rfl ?_
      obtain ⟨s30, r31, c32, hf⟩ := bn_e hf
      refine s_VI (As := [.int a2]) (st := []) O lk_RX6_255 (k_X6_judged c32) rfl ms_0 rfl rfl ⟨rfl, rfl⟩ ⟨Nat.le_of_ble_eq_true rfl, Nat.le_of_ble_eq_true rfl⟩ rfl (Nat.le_of_ble_eq_true rfl) dX6_hush_79 ?_
      exact s_iret hret rfl dX6_hush_82 hf
    · replace hf := if_t c hf
      refine s_iconst (v := (-1)) O dX6_hush_14 rfl ?_
      exact s_iret hret rfl dX6_hush_15 hf
def rm_X6_swap : Room := { frames := 5, cells := 0, slots := 0, locals := 110 }
def fb_X6_swap_l52 (a1 : Int32) (x1 : Int32) (x3 : Int32) (s0 : StA) (v4 : Int32) : Option (StA × ((Int32) ⊕ (Unit))) :=
  gd 33 189 ((if (gi s0 1 (33 : Int32).toNatClampNeg) ≤ v4 then some (s0, .inr ()) else bn (f_X6_starts  s0) (fun s16 r17 => gd ((34 + (2 * v4)) + 1) 189 (gd ((34 + (2 * x3)) + 1) 63 (nms (si s16 2 (((34 + (2 * x3)) + 1).toNatClampNeg) (gi s16 1 ((34 + (2 * v4)) + 1).toNatClampNeg)) (fun s21 => gd ((34 + (2 * x3)) + 1) 189 (gd ((34 + (2 * v4)) + 1) 63 (nms (si s21 2 (((34 + (2 * v4)) + 1).toNatClampNeg) (gi s21 1 ((34 + (2 * x3)) + 1).toNatClampNeg)) (fun s24 => bn (f_X6_minutesDown  s24) (fun s25 r26 => bn (f_X6_judges ((10 * x3) + v4) r26 s25) (fun s28 r29 => some (s28, .inl (v4 + 1)))))))))))))
set_option maxHeartbeats 4000000 in
set_option maxRecDepth 100000 in
theorem wb_X6_swap_l52 {E : XC} (O : OK mM E RX6 cX6_swap 5 rm_X6_swap) {a1 : Int32}  {x1 : Int32} {x3 : Int32} {s0 : StA} {v4 : Int32} {zs : StA} {rr : Int32} (hret : ReI mM E .int cX6_swap zs rr) {bs : StA} {bw : (Int32) ⊕ (Unit)} (Kc : ∀ v, bw = .inl v → WS mM E 5 52 [(0, rf E 0), (1, .int x1), (3, .int x3), (4, .int v)] [] bs) (Ke : ∀ e, bw = .inr e → WS mM E 5 143 [(0, rf E 0), (1, .int x1), (3, .int x3)] [] bs) (hf : fb_X6_swap_l52 a1 x1 x3 s0 v4 = some (bs, bw)) : WS mM E 5 52 [(0, rf E 0), (1, .int x1), (3, .int x3), (4, .int v4)] [] s0 := by
  unfold fb_X6_swap_l52 at hf
  refine s_iload O 3 dX6_swap_52 rfl ?_
  refine s_aload_n O 0 dX6_swap_54 rfl rfl ?_
  refine s_getR O fg_RX6_7 ms_0 rfl dX6_swap_55 ?_
  refine s_bipush (v := 33) O dX6_swap_58 rfl ?_
  obtain ⟨h15, hf⟩ := gd_e hf
  refine s_iald O ms_1 h15 dX6_swap_60 ?_
  refine s_icmp_ge (tgt := 143) O dX6_swap_61 (by decide) (fun c => ?_) (fun c => ?_)
  · replace hf := if_t c hf
    refine s_loc [0, 1, 2] rfl ?_
    cases hf
    exact Ke _ rfl
  · replace hf := if_f c hf
    refine s_aload_n O 0 dX6_swap_64 rfl rfl ?_
    obtain ⟨s16, r17, c18, hf⟩ := bn_e hf
    refine s_VV (As := []) (st := []) O lk_RX6_175 (k_X6_starts c18) rfl ms_0 rfl rfl ⟨rfl, rfl⟩ ⟨Nat.le_of_ble_eq_true rfl, Nat.le_of_ble_eq_true rfl⟩ rfl (Nat.le_of_ble_eq_true rfl) dX6_swap_65 ?_
    refine s_aload_n O 0 dX6_swap_68 rfl rfl ?_
    refine s_getR O fg_RX6_13 ms_0 rfl dX6_swap_69 ?_
    refine s_bipush (v := 34) O dX6_swap_72 rfl ?_
    refine s_iconst (v := 2) O dX6_swap_74 rfl ?_
    refine s_iload_n O 2 dX6_swap_75 rfl rfl ?_
    refine s_imul O dX6_swap_76 ?_
    refine s_iadd O dX6_swap_77 ?_
    refine s_iconst (v := 1) O dX6_swap_78 rfl ?_
    refine s_iadd O dX6_swap_79 ?_
    refine s_aload_n O 0 dX6_swap_80 rfl rfl ?_
    refine s_getR O fg_RX6_7 ms_0 rfl dX6_swap_81 ?_
    refine s_bipush (v := 34) O dX6_swap_84 rfl ?_
    refine s_iconst (v := 2) O dX6_swap_86 rfl ?_
    refine s_iload O 3 dX6_swap_87 rfl ?_
    refine s_imul O dX6_swap_89 ?_
    refine s_iadd O dX6_swap_90 ?_
    refine s_iconst (v := 1) O dX6_swap_91 rfl ?_
    refine s_iadd O dX6_swap_92 ?_
    obtain ⟨h19, hf⟩ := gd_e hf
    refine s_iald O ms_1 h19 dX6_swap_93 ?_
    obtain ⟨h20, hf⟩ := gd_e hf
    refine s_iast O ms_2 h20 dX6_swap_94 ?_
    refine s_tops (fun s21 es21 => ?_)
    replace hf := nms_e es21 hf
    refine s_aload_n O 0 dX6_swap_95 rfl rfl ?_
    refine s_getR O fg_RX6_13 ms_0 rfl dX6_swap_96 ?_
    refine s_bipush (v := 34) O dX6_swap_99 rfl ?_
    refine s_iconst (v := 2) O dX6_swap_101 rfl ?_
    refine s_iload O 3 dX6_swap_102 rfl ?_
    refine s_imul O dX6_swap_104 ?_
    refine s_iadd O dX6_swap_105 ?_
    refine s_iconst (v := 1) O dX6_swap_106 rfl ?_
    refine s_iadd O dX6_swap_107 ?_
    refine s_aload_n O 0 dX6_swap_108 rfl rfl ?_
    refine s_getR O fg_RX6_7 ms_0 rfl dX6_swap_109 ?_
    refine s_bipush (v := 34) O dX6_swap_112 rfl ?_
    refine s_iconst (v := 2) O dX6_swap_114 rfl ?_
    refine s_iload_n O 2 dX6_swap_115 rfl rfl ?_
    refine s_imul O dX6_swap_116 ?_
    refine s_iadd O dX6_swap_117 ?_
    refine s_iconst (v := 1) O dX6_swap_118 rfl ?_
    refine s_iadd O dX6_swap_119 ?_
    obtain ⟨h22, hf⟩ := gd_e hf
    refine s_iald O ms_1 h22 dX6_swap_120 ?_
    obtain ⟨h23, hf⟩ := gd_e hf
    refine s_iast O ms_2 h23 dX6_swap_121 ?_
    refine s_tops (fun s24 es24 => ?_)
    replace hf := nms_e es24 hf
    refine s_aload_n O 0 dX6_swap_122 rfl rfl ?_
    refine s_bipush (v := 10) O dX6_swap_123 rfl ?_
    refine s_iload_n O 2 dX6_swap_125 rfl rfl ?_
    refine s_imul O dX6_swap_126 ?_
    refine s_iload O 3 dX6_swap_127 rfl ?_
    refine s_iadd O dX6_swap_129 ?_
    refine s_aload_n O 0 dX6_swap_130 rfl rfl ?_
    obtain ⟨s25, r26, c27, hf⟩ := bn_e hf
    refine s_VI (As := []) (st := [.int ((10 * x3) + v4), rf E 0]) O lk_RX6_229 (k_X6_minutesDown c27) rfl ms_0 rfl rfl ⟨rfl, rfl⟩ ⟨Nat.le_of_ble_eq_true rfl, Nat.le_of_ble_eq_true rfl⟩ rfl (Nat.le_of_ble_eq_true rfl) dX6_swap_131 ?_
    obtain ⟨s28, r29, c30, hf⟩ := bn_e hf
    refine s_VV (As := [.int ((10 * x3) + v4), .int r26]) (st := []) O lk_RX6_251 (k_X6_judges c30) rfl ms_0 rfl rfl ⟨rfl, rfl⟩ ⟨Nat.le_of_ble_eq_true rfl, Nat.le_of_ble_eq_true rfl⟩ rfl (Nat.le_of_ble_eq_true rfl) dX6_swap_134 ?_
    refine s_iinc (v := (v4 + 1)) (lv' := [(4, .int (v4 + 1)), (0, rf E 0), (1, .int x1), (3, .int x3)]) O 3 dX6_swap_137 rfl rfl (by decide) rfl ?_
    refine s_goto (tgt := 52) O dX6_swap_140 (by decide) ?_
    refine s_loc [1, 2, 3, 0] rfl ?_
    cases hf
    exact Kc _ rfl
def fl_X6_swap_l52 (a1 : Int32) (x1 : Int32) (x3 : Int32) (s0 : StA) (v : Int32) : Option (StA × ((Unit))) :=
  it (fun s v => fb_X6_swap_l52 a1 x1 x3 s v) FU s0 v
def fb_X6_swap_l36 (a1 : Int32) (x1 : Int32) (s0 : StA) (v3 : Int32) : Option (StA × ((Int32) ⊕ (Unit))) :=
  gd 33 189 ((if (gi s0 1 (33 : Int32).toNatClampNeg) ≤ v3 then some (s0, .inr ()) else nmi (v3 + 1) (fun n14 => bn (fl_X6_swap_l52 a1 x1 v3 s0 n14) (fun s31 e32 => some (s31, .inl (v3 + 1))))))
set_option maxHeartbeats 4000000 in
set_option maxRecDepth 100000 in
theorem wb_X6_swap_l36 {E : XC} (O : OK mM E RX6 cX6_swap 5 rm_X6_swap) {a1 : Int32}  {x1 : Int32} {s0 : StA} {v3 : Int32} {zs : StA} {rr : Int32} (hret : ReI mM E .int cX6_swap zs rr) {bs : StA} {bw : (Int32) ⊕ (Unit)} (Kc : ∀ v, bw = .inl v → WS mM E 5 36 [(0, rf E 0), (1, .int x1), (3, .int v)] [] bs) (Ke : ∀ e, bw = .inr e → WS mM E 5 149 [(0, rf E 0), (1, .int x1)] [] bs) (hf : fb_X6_swap_l36 a1 x1 s0 v3 = some (bs, bw)) : WS mM E 5 36 [(0, rf E 0), (1, .int x1), (3, .int v3)] [] s0 := by
  unfold fb_X6_swap_l36 at hf
  refine s_iload_n O 2 dX6_swap_36 rfl rfl ?_
  refine s_aload_n O 0 dX6_swap_37 rfl rfl ?_
  refine s_getR O fg_RX6_7 ms_0 rfl dX6_swap_38 ?_
  refine s_bipush (v := 33) O dX6_swap_41 rfl ?_
  obtain ⟨h13, hf⟩ := gd_e hf
  refine s_iald O ms_1 h13 dX6_swap_43 ?_
  refine s_icmp_ge (tgt := 149) O dX6_swap_44 (by decide) (fun c => ?_) (fun c => ?_)
  · replace hf := if_t c hf
    refine s_loc [0, 1] rfl ?_
    cases hf
    exact Ke _ rfl
  · replace hf := if_f c hf
    refine s_iload_n O 2 dX6_swap_47 rfl rfl ?_
    refine s_iconst (v := 1) O dX6_swap_48 rfl ?_
    refine s_iadd O dX6_swap_49 ?_
    refine s_topi (fun n14 en14 => ?_)
    replace hf := nmi_e en14 hf
    refine s_istore (lv' := [(4, .int n14), (0, rf E 0), (1, .int x1), (3, .int v3)]) O dX6_swap_50 (by decide) rfl ?_
    refine s_loc [1, 2, 3, 0] rfl ?_
    obtain ⟨s31, e32, c33, hf⟩ := bn_e hf
    refine lp_of (body := fun s v => fb_X6_swap_l52 a1 x1 v3 s v) (X := fun s v => WS mM E 5 52 [(0, rf E 0), (1, .int x1), (3, .int v3), (4, .int v)] [] s) (Y := fun s e => WS mM E 5 143 [(0, rf E 0), (1, .int x1), (3, .int v3)] [] s) (fun s v s' w hb Kc Ke => wb_X6_swap_l52 (rr := rr) O   hret Kc Ke hb) FU _ _ (s31, e32) c33 ?_
    show WS mM E 5 143 [(0, rf E 0), (1, .int x1), (3, .int v3)] [] s31
    refine s_iinc (v := (v3 + 1)) (lv' := [(3, .int (v3 + 1)), (0, rf E 0), (1, .int x1)]) O 2 dX6_swap_143 rfl rfl (by decide) rfl ?_
    refine s_goto (tgt := 36) O dX6_swap_146 (by decide) ?_
    refine s_loc [1, 2, 0] rfl ?_
    cases hf
    exact Kc _ rfl
def fl_X6_swap_l36 (a1 : Int32) (x1 : Int32) (s0 : StA) (v : Int32) : Option (StA × ((Unit))) :=
  it (fun s v => fb_X6_swap_l36 a1 x1 s v) FU s0 v
def fj_X6_swap_j31 (a1 : Int32)  (y0 : Int32) (s0 : StA) : Option (StA × (Int32)) :=
  bn (f_X6_startsJudging y0 s0) (fun s10 r11 => bn (fl_X6_swap_l36 a1 a1 s10 0) (fun s34 e35 => bn (f_X6_judged a1 s34) (fun s37 r38 => some (s37, r38))))
set_option maxHeartbeats 4000000 in
set_option maxRecDepth 100000 in
theorem wj_X6_swap_j31 {E : XC} (O : OK mM E RX6 cX6_swap 5 rm_X6_swap) {a1 : Int32}   {y0 : Int32} {s0 : StA} {zs : StA} {rr : Int32} (hret : ReI mM E .int cX6_swap zs rr) (hf : fj_X6_swap_j31 a1 y0 s0 = some (zs, rr)) : WS mM E 5 31 [(0, rf E 0), (1, .int a1)] [.int y0, rf E 0] s0 := by
  unfold fj_X6_swap_j31 at hf
  obtain ⟨s10, r11, c12, hf⟩ := bn_e hf
  refine s_VV (As := [.int y0]) (st := []) O lk_RX6_245 (k_X6_startsJudging c12) rfl ms_0 rfl rfl ⟨rfl, rfl⟩ ⟨Nat.le_of_ble_eq_true rfl, Nat.le_of_ble_eq_true rfl⟩ rfl (Nat.le_of_ble_eq_true rfl) dX6_swap_31 ?_
  refine s_iconst (v := 0) O dX6_swap_34 rfl ?_
  refine s_istore_n (lv' := [(3, .int 0), (0, rf E 0), (1, .int a1)]) O dX6_swap_35 rfl (by decide) rfl ?_
  refine s_loc [1, 2, 0] rfl ?_
  obtain ⟨s34, e35, c36, hf⟩ := bn_e hf
  refine lp_of (body := fun s v => fb_X6_swap_l36 a1 a1 s v) (X := fun s v => WS mM E 5 36 [(0, rf E 0), (1, .int a1), (3, .int v)] [] s) (Y := fun s e => WS mM E 5 149 [(0, rf E 0), (1, .int a1)] [] s) (fun s v s' w hb Kc Ke => wb_X6_swap_l36 (rr := rr) O   hret Kc Ke hb) FU _ _ (s34, e35) c36 ?_
  show WS mM E 5 149 [(0, rf E 0), (1, .int a1)] [] s34
  refine s_aload_n O 0 dX6_swap_149 rfl rfl ?_
  refine s_iload_n O 1 dX6_swap_150 rfl rfl ?_
  obtain ⟨s37, r38, c39, hf⟩ := bn_e hf
  refine s_VI (As := [.int a1]) (st := []) O lk_RX6_255 (k_X6_judged c39) rfl ms_0 rfl rfl ⟨rfl, rfl⟩ ⟨Nat.le_of_ble_eq_true rfl, Nat.le_of_ble_eq_true rfl⟩ rfl (Nat.le_of_ble_eq_true rfl) dX6_swap_151 ?_
  exact s_iret hret rfl dX6_swap_154 hf
def f_X6_swap (a1 : Int32) (s0 : StA) : Option (StA × Int32) :=
  bn (f_X6_isPart a1 s0) (fun s1 r2 => (if r2 = 0 then some (s1, (-1)) else bn (f_X6_starts  s1) (fun s4 r5 => bn (f_X6_minutesDown  s4) (fun s7 r8 => (if r8 = (-4) then fj_X6_swap_j31 a1 1000000 s7 else fj_X6_swap_j31 a1 r8 s7)))))
set_option maxHeartbeats 4000000 in
set_option maxRecDepth 100000 in
theorem k_X6_swap {a1 : Int32} {s0 zs : StA} {rr : Int32} (hf : f_X6_swap a1 s0 = some (zs, rr)) : CtI mM yX6_swap cX6_swap 5 .int rm_X6_swap (fun ph => [.ref (ph 0), .int a1]) s0 zs rr := by
  refine CtI.of (by decide +kernel) (fun ph => Nat.le_of_ble_eq_true rfl) (fun E O hret => ?_)
  have O : OK mM E RX6 cX6_swap 5 rm_X6_swap := O
  show WS mM E 5 0 [(0, rf E 0), (1, .int a1)] [] s0
  unfold f_X6_swap at hf
  refine s_iload_n O 1 dX6_swap_0 rfl rfl ?_
  obtain ⟨s1, r2, c3, hf⟩ := bn_e hf
  refine s_SI (As := [.int a1]) (st := []) O lk_RX6_188 (k_X6_isPart c3) rfl rfl ⟨rfl, rfl⟩ ⟨Nat.le_of_ble_eq_true rfl, Nat.le_of_ble_eq_true rfl⟩ rfl (Nat.le_of_ble_eq_true rfl) dX6_swap_1 ?_
  refine s_if_ne (tgt := 9) O dX6_swap_4 (by decide) (fun c => ?_) (fun c => ?_)
  · replace hf := if_f c hf
    refine s_aload_n O 0 dX6_swap_9 rfl rfl ?_
    obtain ⟨s4, r5, c6, hf⟩ := bn_e hf
    refine s_VV (As := []) (st := []) O lk_RX6_175 (k_X6_starts c6) rfl ms_0 rfl rfl ⟨rfl, rfl⟩ ⟨Nat.le_of_ble_eq_true rfl, Nat.le_of_ble_eq_true rfl⟩ rfl (Nat.le_of_ble_eq_true rfl) dX6_swap_10 ?_
    refine s_aload_n O 0 dX6_swap_13 rfl rfl ?_
    obtain ⟨s7, r8, c9, hf⟩ := bn_e hf
    refine s_VI (As := []) (st := []) O lk_RX6_229 (k_X6_minutesDown c9) rfl ms_0 rfl rfl ⟨rfl, rfl⟩ ⟨Nat.le_of_ble_eq_true rfl, Nat.le_of_ble_eq_true rfl⟩ rfl (Nat.le_of_ble_eq_true rfl) dX6_swap_14 ?_
    refine s_istore_n (lv' := [(2, .int r8), (0, rf E 0), (1, .int a1)]) O dX6_swap_17 rfl (by decide) rfl ?_
    refine s_aload_n O 1 dX6_swap_18 rfl rfl ?_
    refine s_iload_n O 0 dX6_swap_19 rfl rfl ?_
    refine s_bipush (v := (-4)) O dX6_swap_20 rfl ?_
    refine s_icmp_ne (tgt := 30) O dX6_swap_22 (by decide) (fun c => ?_) (fun c => ?_)
    · replace hf := if_f c hf
      refine s_iload_n O 0 dX6_swap_30 rfl rfl ?_
      refine s_loc [1, 2] rfl ?_
      exact wj_X6_swap_j31 (rr := rr) O   hret hf
    · replace hf := if_t c hf
      refine s_ldc O ci_RX6_244 dX6_swap_25 ?_
      refine s_goto (tgt := 31) O dX6_swap_27 (by decide) ?_
      refine s_loc [1, 2] rfl ?_
      exact wj_X6_swap_j31 (rr := rr) O   hret hf
  · replace hf := if_t c hf
    refine s_iconst (v := (-1)) O dX6_swap_7 rfl ?_
    exact s_iret hret rfl dX6_swap_8 hf
def rm_X6_need : Room := { frames := 5, cells := 0, slots := 0, locals := 111 }
def fb_X6_need_l32 (a1 : Int32) (a2 : Int32) (a3 : Int32) (x1 : Int32) (x2 : Int32) (x3 : Int32) (s0 : StA) (v4 : Int32) : Option (StA × ((Int32) ⊕ ((Unit) ⊕ Int32))) :=
  (if 9 < v4 then some (s0, .inr (.inl ())) else bn (f_X6_starts  s0) (fun s10 r11 => bn (f_X6_becomesOf x1 1 v4 s10) (fun s13 r14 => bn (f_X6_minutesGo x2 s13) (fun s16 r17 => gd 24 63 ((if (gi s16 2 (24 : Int32).toNatClampNeg) < x3 then some (s16, .inl (v4 + 1)) else some (s16, .inr (.inr v4))))))))
set_option maxHeartbeats 4000000 in
set_option maxRecDepth 100000 in
theorem wb_X6_need_l32 {E : XC} (O : OK mM E RX6 cX6_need 5 rm_X6_need) {a1 : Int32} {a2 : Int32} {a3 : Int32}  {x1 : Int32} {x2 : Int32} {x3 : Int32} {s0 : StA} {v4 : Int32} {zs : StA} {rr : Int32} (hret : ReI mM E .int cX6_need zs rr) {bs : StA} {bw : (Int32) ⊕ ((Unit) ⊕ Int32)} (Kc : ∀ v, bw = .inl v → WS mM E 5 32 [(0, rf E 0), (1, .int x1), (2, .int x2), (3, .int x3), (4, .int v)] [] bs) (Ke : ∀ e, bw = .inr (.inl e) → WS mM E 5 76 [] [] bs) (Kr : ∀ r, bw = .inr (.inr r) → some (bs, r) = some (zs, rr)) (hf : fb_X6_need_l32 a1 a2 a3 x1 x2 x3 s0 v4 = some (bs, bw)) : WS mM E 5 32 [(0, rf E 0), (1, .int x1), (2, .int x2), (3, .int x3), (4, .int v4)] [] s0 := by
  unfold fb_X6_need_l32 at hf
  refine s_iload O 4 dX6_need_32 rfl ?_
  refine s_bipush (v := 9) O dX6_need_34 rfl ?_
  refine s_icmp_gt (tgt := 76) O dX6_need_36 (by decide) (fun c => ?_) (fun c => ?_)
  · replace hf := if_t c hf
    refine s_loc [] rfl ?_
    cases hf
    exact Ke _ rfl
  · replace hf := if_f c hf
    refine s_aload_n O 0 dX6_need_39 rfl rfl ?_
    obtain ⟨s10, r11, c12, hf⟩ := bn_e hf
    refine s_VV (As := []) (st := []) O lk_RX6_175 (k_X6_starts c12) rfl ms_0 rfl rfl ⟨rfl, rfl⟩ ⟨Nat.le_of_ble_eq_true rfl, Nat.le_of_ble_eq_true rfl⟩ rfl (Nat.le_of_ble_eq_true rfl) dX6_need_40 ?_
    refine s_aload_n O 0 dX6_need_43 rfl rfl ?_
    refine s_iload_n O 1 dX6_need_44 rfl rfl ?_
    refine s_iconst (v := 1) O dX6_need_45 rfl ?_
    refine s_iload O 4 dX6_need_46 rfl ?_
    obtain ⟨s13, r14, c15, hf⟩ := bn_e hf
    refine s_VV (As := [.int x1, .int 1, .int v4]) (st := []) O lk_RX6_162 (k_X6_becomesOf c15) rfl ms_0 rfl rfl ⟨rfl, rfl⟩ ⟨Nat.le_of_ble_eq_true rfl, Nat.le_of_ble_eq_true rfl⟩ rfl (Nat.le_of_ble_eq_true rfl) dX6_need_48 ?_
    refine s_aload_n O 0 dX6_need_51 rfl rfl ?_
    refine s_iload_n O 2 dX6_need_52 rfl rfl ?_
    obtain ⟨s16, r17, c18, hf⟩ := bn_e hf
    refine s_VV (As := [.int x2]) (st := []) O lk_RX6_205 (k_X6_minutesGo c18) rfl ms_0 rfl rfl ⟨rfl, rfl⟩ ⟨Nat.le_of_ble_eq_true rfl, Nat.le_of_ble_eq_true rfl⟩ rfl (Nat.le_of_ble_eq_true rfl) dX6_need_53 ?_
    refine s_aload_n O 0 dX6_need_56 rfl rfl ?_
    refine s_getR O fg_RX6_13 ms_0 rfl dX6_need_57 ?_
    refine s_bipush (v := 24) O dX6_need_60 rfl ?_
    obtain ⟨h19, hf⟩ := gd_e hf
    refine s_iald O ms_2 h19 dX6_need_62 ?_
    refine s_iload_n O 3 dX6_need_63 rfl rfl ?_
    refine s_icmp_lt (tgt := 70) O dX6_need_64 (by decide) (fun c => ?_) (fun c => ?_)
    · replace hf := if_t c hf
      refine s_iinc (v := (v4 + 1)) (lv' := [(4, .int (v4 + 1)), (0, rf E 0), (1, .int x1), (2, .int x2), (3, .int x3)]) O 4 dX6_need_70 rfl rfl (by decide) rfl ?_
      refine s_goto (tgt := 32) O dX6_need_73 (by decide) ?_
      refine s_loc [1, 2, 3, 4, 0] rfl ?_
      cases hf
      exact Kc _ rfl
    · replace hf := if_f c hf
      refine s_iload O 4 dX6_need_67 rfl ?_
      cases hf
      exact s_iret hret rfl dX6_need_69 (Kr _ rfl)
def fl_X6_need_l32 (a1 : Int32) (a2 : Int32) (a3 : Int32) (x1 : Int32) (x2 : Int32) (x3 : Int32) (s0 : StA) (v : Int32) : Option (StA × (((Unit) ⊕ Int32))) :=
  it (fun s v => fb_X6_need_l32 a1 a2 a3 x1 x2 x3 s v) FU s0 v
def f_X6_need (a1 : Int32) (a2 : Int32) (a3 : Int32) (s0 : StA) : Option (StA × Int32) :=
  bn (f_X6_isThing a1 s0) (fun s1 r2 => (if r2 = 0 then some (s1, (-1)) else bn (f_X6_isFar a2 s1) (fun s4 r5 => (if r5 = 0 then some (s4, (-1)) else bn (f_X6_in a3.toInt64 0 60 s4) (fun s7 r8 => (if r8 = 0 then some (s7, (-1)) else bn (fl_X6_need_l32 a1 a2 a3 a1 a2 a3 s7 1) (fun s20 e21 => match e21 with | .inl _ => some (s20, (-4)) | .inr q32 => some (s20, q32))))))))
set_option maxHeartbeats 4000000 in
set_option maxRecDepth 100000 in
theorem k_X6_need {a1 : Int32} {a2 : Int32} {a3 : Int32} {s0 zs : StA} {rr : Int32} (hf : f_X6_need a1 a2 a3 s0 = some (zs, rr)) : CtI mM yX6_need cX6_need 5 .int rm_X6_need (fun ph => [.ref (ph 0), .int a1, .int a2, .int a3]) s0 zs rr := by
  refine CtI.of (by decide +kernel) (fun ph => Nat.le_of_ble_eq_true rfl) (fun E O hret => ?_)
  have O : OK mM E RX6 cX6_need 5 rm_X6_need := O
  show WS mM E 5 0 [(0, rf E 0), (1, .int a1), (2, .int a2), (3, .int a3)] [] s0
  unfold f_X6_need at hf
  refine s_aload_n O 0 dX6_need_0 rfl rfl ?_
  refine s_iload_n O 1 dX6_need_1 rfl rfl ?_
  obtain ⟨s1, r2, c3, hf⟩ := bn_e hf
  refine s_VI (As := [.int a1]) (st := []) O lk_RX6_181 (k_X6_isThing c3) rfl ms_0 rfl rfl ⟨rfl, rfl⟩ ⟨Nat.le_of_ble_eq_true rfl, Nat.le_of_ble_eq_true rfl⟩ rfl (Nat.le_of_ble_eq_true rfl) dX6_need_2 ?_
  refine s_if_eq (tgt := 27) O dX6_need_5 (by decide) (fun c => ?_) (fun c => ?_)
  · replace hf := if_t c hf
    refine s_iconst (v := (-1)) O dX6_need_27 rfl ?_
    exact s_iret hret rfl dX6_need_28 hf
  · replace hf := if_f c hf
    refine s_iload_n O 2 dX6_need_8 rfl rfl ?_
    obtain ⟨s4, r5, c6, hf⟩ := bn_e hf
    refine s_SI (As := [.int a2]) (st := []) O lk_RX6_223 (k_X6_isFar c6) rfl rfl ⟨rfl, rfl⟩ ⟨Nat.le_of_ble_eq_true rfl, Nat.le_of_ble_eq_true rfl⟩ rfl (Nat.le_of_ble_eq_true rfl) dX6_need_9 ?_
    refine s_if_eq (tgt := 27) O dX6_need_12 (by decide) (fun c => ?_) (fun c => ?_)
    · replace hf := if_t c hf
      refine s_iconst (v := (-1)) O dX6_need_27 rfl ?_
      exact s_iret hret rfl dX6_need_28 hf
    · replace hf := if_f c hf
      refine s_iload_n O 3 dX6_need_15 rfl rfl ?_
      refine s_i2l O dX6_need_16 ?_
      refine s_lconst (v := 0) O dX6_need_17 rfl ?_
      refine s_ldc2 O cl_RX6_211 dX6_need_18 ?_
      obtain ⟨s7, r8, c9, hf⟩ := bn_e hf
      refine s_SI (As := [.long a3.toInt64, .long 0, .long 60]) (st := []) O lk_RX6_69 (k_X6_in c9) rfl rfl ⟨rfl, rfl⟩ ⟨Nat.le_of_ble_eq_true rfl, Nat.le_of_ble_eq_true rfl⟩ rfl (Nat.le_of_ble_eq_true rfl) dX6_need_21 ?_
      refine s_if_ne (tgt := 29) O dX6_need_24 (by decide) (fun c => ?_) (fun c => ?_)
      · replace hf := if_f c hf
        refine s_iconst (v := 1) O dX6_need_29 rfl ?_
        refine s_istore (lv' := [(4, .int 1), (0, rf E 0), (1, .int a1), (2, .int a2), (3, .int a3)]) O dX6_need_30 (by decide) rfl ?_
        refine s_loc [1, 2, 3, 4, 0] rfl ?_
        obtain ⟨s20, e21, c22, hf⟩ := bn_e hf
        refine lp_of (body := fun s v => fb_X6_need_l32 a1 a2 a3 a1 a2 a3 s v) (X := fun s v => WS mM E 5 32 [(0, rf E 0), (1, .int a1), (2, .int a2), (3, .int a3), (4, .int v)] [] s) (Y := fun s e => match e with | .inl e => WS mM E 5 76 [] [] s | .inr r => some (s, r) = some (zs, rr)) (fun s v s' w hb Kc Ke => wb_X6_need_l32 (rr := rr) O   hret Kc (fun e he => Ke (.inl e) he) (fun r he => Ke (.inr r) he) hb) FU _ _ (s20, e21) c22 ?_
        rcases e21 with e21 | q32
        · show WS mM E 5 76 [] [] s20
          refine s_bipush (v := (-4)) O dX6_need_76 rfl ?_
          exact s_iret hret rfl dX6_need_78 hf
        · exact hf
      · replace hf := if_t c hf
        refine s_iconst (v := (-1)) O dX6_need_27 rfl ?_
        exact s_iret hret rfl dX6_need_28 hf
