def rm_X5_steer : Room := { frames := 5, cells := 0, slots := 0, locals := 108 }
def fb_X5_steer_l45 (a1 : Int32) (a2 : Int32) (a3 : Int32) (a4 : Int32) (x1 : Int32) (x2 : Int32) (x3 : Int32) (x4 : Int32) (s0 : StA) (v5 : Int32) : Option (StA × ((Int32) ⊕ (Unit))) :=
  (if 8 < v5 then some (s0, .inr ()) else bn (f_X5_restartTrial  s0) (fun s16 r17 => gd x1 5 (nms (si s16 16 x1.toNatClampNeg v5) (fun s20 => bn (f_X1_passAll 12 x3 s20) (fun s21 r22 => bn (f_X1_offFrom 12 x2 s21) (fun s24 r25 => bn (f_X0_offer v5 r25 s24) (fun s27 r28 => some (s27, .inl (v5 + 1)))))))))
set_option maxHeartbeats 4000000 in
set_option maxRecDepth 100000 in
theorem wb_X5_steer_l45 {E : XC} (O : OK cM E RX5 cX5_steer 6 rm_X5_steer) {a1 : Int32} {a2 : Int32} {a3 : Int32} {a4 : Int32}  {x1 : Int32} {x2 : Int32} {x3 : Int32} {x4 : Int32} {s0 : StA} {v5 : Int32} {zs : StA} {rr : Int32} (hret : ReI cM E .int cX5_steer zs rr) {bs : StA} {bw : (Int32) ⊕ (Unit)} (Kc : ∀ v, bw = .inl v → WS cM E 6 45 [(0, rf E 0), (1, .int x1), (2, .int x2), (3, .int x3), (4, .int x4), (5, .int v)] [] bs) (Ke : ∀ e, bw = .inr e → WS cM E 6 98 [(0, rf E 0), (4, .int x4)] [] bs) (hf : fb_X5_steer_l45 a1 a2 a3 a4 x1 x2 x3 x4 s0 v5 = some (bs, bw)) : WS cM E 6 45 [(0, rf E 0), (1, .int x1), (2, .int x2), (3, .int x3), (4, .int x4), (5, .int v5)] [] s0 := by
  unfold fb_X5_steer_l45 at hf
  refine s_iload O 5 dX5_steer_45 rfl ?_
  refine s_bipush (v := 8) O dX5_steer_47 rfl ?_
  refine s_icmp_gt (tgt := 98) O dX5_steer_49 (by decide) (fun c => ?_) (fun c => ?_)
  · replace hf := if_t c hf
    refine s_loc [0, 4] rfl ?_
    cases hf
    exact Ke _ rfl
  · replace hf := if_f c hf
    refine s_aload_n O 0 dX5_steer_52 rfl rfl ?_
    obtain ⟨s16, r17, c18, hf⟩ := bn_e hf
    refine s_VV (As := []) (st := []) O lk_RX5_168 (k_X5_restartTrial c18) rfl cs_0 rfl rfl ⟨rfl, rfl⟩ ⟨Nat.le_of_ble_eq_true rfl, Nat.le_of_ble_eq_true rfl⟩ rfl (Nat.le_of_ble_eq_true rfl) dX5_steer_53 ?_
    refine s_aload_n O 0 dX5_steer_56 rfl rfl ?_
    refine s_getR O fg_RX5_16 cs_0 rfl dX5_steer_57 ?_
    refine s_getR O fg_RX5_133 cs_12 rfl dX5_steer_60 ?_
    refine s_iload_n O 1 dX5_steer_63 rfl rfl ?_
    refine s_iload O 5 dX5_steer_64 rfl ?_
    obtain ⟨h19, hf⟩ := gd_e hf
    refine s_iast O cs_16 h19 dX5_steer_66 ?_
    refine s_tops (fun s20 es20 => ?_)
    replace hf := nms_e es20 hf
    refine s_aload_n O 0 dX5_steer_67 rfl rfl ?_
    refine s_getR O fg_RX5_16 cs_0 rfl dX5_steer_68 ?_
    refine s_iload_n O 3 dX5_steer_71 rfl rfl ?_
    obtain ⟨s21, r22, c23, hf⟩ := bn_e hf
    refine s_VV (As := [.int x3]) (st := []) O lk_RX5_161 (k_X1_passAll fl_is12 c23) rfl cs_12 rfl rfl ⟨rfl, rfl⟩ ⟨Nat.le_of_ble_eq_true rfl, Nat.le_of_ble_eq_true rfl⟩ rfl (Nat.le_of_ble_eq_true rfl) dX5_steer_72 ?_
    refine s_aload_n O 0 dX5_steer_75 rfl rfl ?_
    refine s_getR O fg_RX5_43 cs_0 rfl dX5_steer_76 ?_
    refine s_iload O 5 dX5_steer_79 rfl ?_
    refine s_aload_n O 0 dX5_steer_81 rfl rfl ?_
    refine s_getR O fg_RX5_16 cs_0 rfl dX5_steer_82 ?_
    refine s_iload_n O 2 dX5_steer_85 rfl rfl ?_
    obtain ⟨s24, r25, c26, hf⟩ := bn_e hf
    refine s_VI (As := [.int x2]) (st := [.int v5, rf E 59]) O lk_RX5_205 (k_X1_offFrom fl_is12 c26) rfl cs_12 rfl rfl ⟨rfl, rfl⟩ ⟨Nat.le_of_ble_eq_true rfl, Nat.le_of_ble_eq_true rfl⟩ rfl (Nat.le_of_ble_eq_true rfl) dX5_steer_86 ?_
    obtain ⟨s27, r28, c29, hf⟩ := bn_e hf
    refine s_VV (As := [.int v5, .int r25]) (st := []) O lk_RX5_193 (k_X0_offer c29) rfl cs_59 rfl rfl ⟨rfl, rfl⟩ ⟨Nat.le_of_ble_eq_true rfl, Nat.le_of_ble_eq_true rfl⟩ rfl (Nat.le_of_ble_eq_true rfl) dX5_steer_89 ?_
    refine s_iinc (v := (v5 + 1)) (lv' := [(5, .int (v5 + 1)), (0, rf E 0), (1, .int x1), (2, .int x2), (3, .int x3), (4, .int x4)]) O 5 dX5_steer_92 rfl rfl (by decide) rfl ?_
    refine s_goto (tgt := 45) O dX5_steer_95 (by decide) ?_
    refine s_loc [1, 2, 3, 4, 5, 0] rfl ?_
    cases hf
    exact Kc _ rfl
def fl_X5_steer_l45 (a1 : Int32) (a2 : Int32) (a3 : Int32) (a4 : Int32) (x1 : Int32) (x2 : Int32) (x3 : Int32) (x4 : Int32) (s0 : StA) (v : Int32) : Option (StA × ((Unit))) :=
  it (fun s v => fb_X5_steer_l45 a1 a2 a3 a4 x1 x2 x3 x4 s v) FU s0 v
def f_X5_steer (a1 : Int32) (a2 : Int32) (a3 : Int32) (a4 : Int32) (s0 : StA) : Option (StA × Int32) :=
  bn (f_X5_isWind a1 s0) (fun s1 r2 => (if r2 = 0 then some (s1, (-1)) else bn (f_X5_isPlace a2 s1) (fun s4 r5 => (if r5 = 0 then some (s4, (-1)) else bn (f_X5_isForecast a3 s4) (fun s7 r8 => (if r8 = 0 then some (s7, (-1)) else bn (f_X5_isIn a4 0 1 s7) (fun s10 r11 => (if r11 = 0 then some (s10, (-1)) else bn (f_X0_beginBelow 1000000 s10) (fun s13 r14 => bn (fl_X5_steer_l45 a1 a2 a3 a4 a1 a2 a3 a4 s13 0) (fun s30 e31 => bn (f_X0_answer a4 s30) (fun s33 r34 => some (s33, r34))))))))))))
set_option maxHeartbeats 4000000 in
set_option maxRecDepth 100000 in
theorem k_X5_steer {a1 : Int32} {a2 : Int32} {a3 : Int32} {a4 : Int32} {s0 zs : StA} {rr : Int32} (hf : f_X5_steer a1 a2 a3 a4 s0 = some (zs, rr)) : CtI cM yX5_steer cX5_steer 6 .int rm_X5_steer (fun ph => [.ref (ph 0), .int a1, .int a2, .int a3, .int a4]) s0 zs rr := by
  refine CtI.of (by decide +kernel) (fun ph => Nat.le_of_ble_eq_true rfl) (fun E O hret => ?_)
  have O : OK cM E RX5 cX5_steer 6 rm_X5_steer := O
  show WS cM E 6 0 [(0, rf E 0), (1, .int a1), (2, .int a2), (3, .int a3), (4, .int a4)] [] s0
  unfold f_X5_steer at hf
  refine s_iload_n O 1 dX5_steer_0 rfl rfl ?_
  obtain ⟨s1, r2, c3, hf⟩ := bn_e hf
  refine s_SI (As := [.int a1]) (st := []) O lk_RX5_130 (k_X5_isWind c3) rfl rfl ⟨rfl, rfl⟩ ⟨Nat.le_of_ble_eq_true rfl, Nat.le_of_ble_eq_true rfl⟩ rfl (Nat.le_of_ble_eq_true rfl) dX5_steer_1 ?_
  refine s_if_eq (tgt := 31) O dX5_steer_4 (by decide) (fun c => ?_) (fun c => ?_)
  · replace hf := if_t c hf
    refine s_iconst (v := (-1)) O dX5_steer_31 rfl ?_
    exact s_iret hret rfl dX5_steer_32 hf
  · replace hf := if_f c hf
    refine s_iload_n O 2 dX5_steer_7 rfl rfl ?_
    obtain ⟨s4, r5, c6, hf⟩ := bn_e hf
    refine s_SI (As := [.int a2]) (st := []) O lk_RX5_183 (k_X5_isPlace c6) rfl rfl ⟨rfl, rfl⟩ ⟨Nat.le_of_ble_eq_true rfl, Nat.le_of_ble_eq_true rfl⟩ rfl (Nat.le_of_ble_eq_true rfl) dX5_steer_8 ?_
    refine s_if_eq (tgt := 31) O dX5_steer_11 (by decide) (fun c => ?_) (fun c => ?_)
    · replace hf := if_t c hf
      refine s_iconst (v := (-1)) O dX5_steer_31 rfl ?_
      exact s_iret hret rfl dX5_steer_32 hf
    · replace hf := if_f c hf
      refine s_iload_n O 3 dX5_steer_14 rfl rfl ?_
      obtain ⟨s7, r8, c9, hf⟩ := bn_e hf
      refine s_SI (As := [.int a3]) (st := []) O lk_RX5_165 (k_X5_isForecast c9) rfl rfl ⟨rfl, rfl⟩ ⟨Nat.le_of_ble_eq_true rfl, Nat.le_of_ble_eq_true rfl⟩ rfl (Nat.le_of_ble_eq_true rfl) dX5_steer_15 ?_
      refine s_if_eq (tgt := 31) O dX5_steer_18 (by decide) (fun c => ?_) (fun c => ?_)
      · replace hf := if_t c hf
        refine s_iconst (v := (-1)) O dX5_steer_31 rfl ?_
        exact s_iret hret rfl dX5_steer_32 hf
      · replace hf := if_f c hf
        refine s_iload O 4 dX5_steer_21 rfl ?_
        refine s_iconst (v := 0) O dX5_steer_23 rfl ?_
        refine s_iconst (v := 1) O dX5_steer_24 rfl ?_
        obtain ⟨s10, r11, c12, hf⟩ := bn_e hf
        refine s_SI (As := [.int a4, .int 0, .int 1]) (st := []) O lk_RX5_53 (k_X5_isIn c12) rfl rfl ⟨rfl, rfl⟩ ⟨Nat.le_of_ble_eq_true rfl, Nat.le_of_ble_eq_true rfl⟩ rfl (Nat.le_of_ble_eq_true rfl) dX5_steer_25 ?_
        refine s_if_ne (tgt := 33) O dX5_steer_28 (by decide) (fun c => ?_) (fun c => ?_)
        · replace hf := if_f c hf
          refine s_aload_n O 0 dX5_steer_33 rfl rfl ?_
          refine s_getR O fg_RX5_43 cs_0 rfl dX5_steer_34 ?_
          refine s_ldc O ci_RX5_189 dX5_steer_37 ?_
          obtain ⟨s13, r14, c15, hf⟩ := bn_e hf
          refine s_VV (As := [.int 1000000]) (st := []) O lk_RX5_190 (k_X0_beginBelow c15) rfl cs_59 rfl rfl ⟨rfl, rfl⟩ ⟨Nat.le_of_ble_eq_true rfl, Nat.le_of_ble_eq_true rfl⟩ rfl (Nat.le_of_ble_eq_true rfl) dX5_steer_39 ?_
          refine s_iconst (v := 0) O dX5_steer_42 rfl ?_
          refine s_istore (lv' := [(5, .int 0), (0, rf E 0), (1, .int a1), (2, .int a2), (3, .int a3), (4, .int a4)]) O dX5_steer_43 (by decide) rfl ?_
          refine s_loc [1, 2, 3, 4, 5, 0] rfl ?_
          obtain ⟨s30, e31, c32, hf⟩ := bn_e hf
          refine lp_of (body := fun s v => fb_X5_steer_l45 a1 a2 a3 a4 a1 a2 a3 a4 s v) (X := fun s v => WS cM E 6 45 [(0, rf E 0), (1, .int a1), (2, .int a2), (3, .int a3), (4, .int a4), (5, .int v)] [] s) (Y := fun s e => WS cM E 6 98 [(0, rf E 0), (4, .int a4)] [] s) (fun s v s' w hb Kc Ke => wb_X5_steer_l45 (rr := rr) O   hret Kc Ke hb) FU _ _ (s30, e31) c32 ?_
          show WS cM E 6 98 [(0, rf E 0), (4, .int a4)] [] s30
          refine s_aload_n O 0 dX5_steer_98 rfl rfl ?_
          refine s_getR O fg_RX5_43 cs_0 rfl dX5_steer_99 ?_
          refine s_iload O 1 dX5_steer_102 rfl ?_
          obtain ⟨s33, r34, c35, hf⟩ := bn_e hf
          refine s_VI (As := [.int a4]) (st := []) O lk_RX5_197 (k_X0_answer c35) rfl cs_59 rfl rfl ⟨rfl, rfl⟩ ⟨Nat.le_of_ble_eq_true rfl, Nat.le_of_ble_eq_true rfl⟩ rfl (Nat.le_of_ble_eq_true rfl) dX5_steer_104 ?_
          exact s_iret hret rfl dX5_steer_107 hf
        · replace hf := if_t c hf
          refine s_iconst (v := (-1)) O dX5_steer_31 rfl ?_
          exact s_iret hret rfl dX5_steer_32 hf
def rm_X5_hush : Room := { frames := 5, cells := 0, slots := 0, locals := 109 }
def fb_X5_hush_l39 (a1 : Int32) (a2 : Int32) (x1 : Int32) (x2 : Int32) (s0 : StA) (v3 : Int32) : Option (StA × ((Int32) ⊕ (Unit))) :=
  (if (gi s0 6 2) ≤ v3 then some (s0, .inr ()) else bn (f_X5_restartTrial  s0) (fun s16 r17 => gd v3 8 (nms (si s16 18 v3.toNatClampNeg (-1)) (fun s20 => bn (f_X1_greatestHeight 12 x1 s20) (fun s21 r22 => bn (f_X0_offer v3 r22 s21) (fun s24 r25 => some (s24, .inl (v3 + 1))))))))
set_option maxHeartbeats 4000000 in
set_option maxRecDepth 100000 in
theorem wb_X5_hush_l39 {E : XC} (O : OK cM E RX5 cX5_hush 4 rm_X5_hush) {a1 : Int32} {a2 : Int32}  {x1 : Int32} {x2 : Int32} {s0 : StA} {v3 : Int32} {zs : StA} {rr : Int32} (hret : ReI cM E .int cX5_hush zs rr) {bs : StA} {bw : (Int32) ⊕ (Unit)} (Kc : ∀ v, bw = .inl v → WS cM E 4 39 [(0, rf E 0), (1, .int x1), (2, .int x2), (3, .int v)] [] bs) (Ke : ∀ e, bw = .inr e → WS cM E 4 92 [(0, rf E 0), (2, .int x2)] [] bs) (hf : fb_X5_hush_l39 a1 a2 x1 x2 s0 v3 = some (bs, bw)) : WS cM E 4 39 [(0, rf E 0), (1, .int x1), (2, .int x2), (3, .int v3)] [] s0 := by
  unfold fb_X5_hush_l39 at hf
  refine s_iload_n O 3 dX5_hush_39 rfl rfl ?_
  refine s_aload_n O 0 dX5_hush_40 rfl rfl ?_
  refine s_getR O fg_RX5_10 cs_0 rfl dX5_hush_41 ?_
  refine s_getR O fg_RX5_101 cs_1 rfl dX5_hush_44 ?_
  refine s_getI O fg_RX5_105 cs_6 rfl dX5_hush_47 ?_
  refine s_icmp_ge (tgt := 92) O dX5_hush_50 (by decide) (fun c => ?_) (fun c => ?_)
  · replace hf := if_t c hf
    refine s_loc [0, 2] rfl ?_
    cases hf
    exact Ke _ rfl
  · replace hf := if_f c hf
    refine s_aload_n O 0 dX5_hush_53 rfl rfl ?_
    obtain ⟨s16, r17, c18, hf⟩ := bn_e hf
    refine s_VV (As := []) (st := []) O lk_RX5_168 (k_X5_restartTrial c18) rfl cs_0 rfl rfl ⟨rfl, rfl⟩ ⟨Nat.le_of_ble_eq_true rfl, Nat.le_of_ble_eq_true rfl⟩ rfl (Nat.le_of_ble_eq_true rfl) dX5_hush_54 ?_
    refine s_aload_n O 0 dX5_hush_57 rfl rfl ?_
    refine s_getR O fg_RX5_16 cs_0 rfl dX5_hush_58 ?_
    refine s_getR O fg_RX5_101 cs_12 rfl dX5_hush_61 ?_
    refine s_getR O fg_RX5_136 cs_17 rfl dX5_hush_64 ?_
    refine s_iload_n O 3 dX5_hush_67 rfl rfl ?_
    refine s_iconst (v := (-1)) O dX5_hush_68 rfl ?_
    obtain ⟨h19, hf⟩ := gd_e hf
    refine s_iast O cs_18 h19 dX5_hush_69 ?_
    refine s_tops (fun s20 es20 => ?_)
    replace hf := nms_e es20 hf
    refine s_aload_n O 0 dX5_hush_70 rfl rfl ?_
    refine s_getR O fg_RX5_43 cs_0 rfl dX5_hush_71 ?_
    refine s_iload_n O 3 dX5_hush_74 rfl rfl ?_
    refine s_aload_n O 0 dX5_hush_75 rfl rfl ?_
    refine s_getR O fg_RX5_16 cs_0 rfl dX5_hush_76 ?_
    refine s_iload_n O 1 dX5_hush_79 rfl rfl ?_
    obtain ⟨s21, r22, c23, hf⟩ := bn_e hf
    refine s_VI (As := [.int x1]) (st := [.int v3, rf E 59]) O lk_RX5_171 (k_X1_greatestHeight fl_is12 c23) rfl cs_12 rfl rfl ⟨rfl, rfl⟩ ⟨Nat.le_of_ble_eq_true rfl, Nat.le_of_ble_eq_true rfl⟩ rfl (Nat.le_of_ble_eq_true rfl) dX5_hush_80 ?_
    obtain ⟨s24, r25, c26, hf⟩ := bn_e hf
    refine s_VV (As := [.int v3, .int r22]) (st := []) O lk_RX5_193 (k_X0_offer c26) rfl cs_59 rfl rfl ⟨rfl, rfl⟩ ⟨Nat.le_of_ble_eq_true rfl, Nat.le_of_ble_eq_true rfl⟩ rfl (Nat.le_of_ble_eq_true rfl) dX5_hush_83 ?_
    refine s_iinc (v := (v3 + 1)) (lv' := [(3, .int (v3 + 1)), (0, rf E 0), (1, .int x1), (2, .int x2)]) O 3 dX5_hush_86 rfl rfl (by decide) rfl ?_
    refine s_goto (tgt := 39) O dX5_hush_89 (by decide) ?_
    refine s_loc [1, 2, 3, 0] rfl ?_
    cases hf
    exact Kc _ rfl
def fl_X5_hush_l39 (a1 : Int32) (a2 : Int32) (x1 : Int32) (x2 : Int32) (s0 : StA) (v : Int32) : Option (StA × ((Unit))) :=
  it (fun s v => fb_X5_hush_l39 a1 a2 x1 x2 s v) FU s0 v
def f_X5_hush (a1 : Int32) (a2 : Int32) (s0 : StA) : Option (StA × Int32) :=
  bn (f_X5_isForecast a1 s0) (fun s1 r2 => (if r2 = 0 then some (s1, (-1)) else bn (f_X5_isIn a2 0 1 s1) (fun s4 r5 => (if r5 = 0 then some (s4, (-1)) else bn (f_X5_restartTrial  s4) (fun s7 r8 => bn (f_X1_greatestHeight 12 a1 s7) (fun s10 r11 => bn (f_X0_beginBelow r11 s10) (fun s13 r14 => bn (fl_X5_hush_l39 a1 a2 a1 a2 s13 0) (fun s27 e28 => bn (f_X0_answer a2 s27) (fun s30 r31 => some (s30, r31))))))))))
set_option maxHeartbeats 4000000 in
set_option maxRecDepth 100000 in
theorem k_X5_hush {a1 : Int32} {a2 : Int32} {s0 zs : StA} {rr : Int32} (hf : f_X5_hush a1 a2 s0 = some (zs, rr)) : CtI cM yX5_hush cX5_hush 4 .int rm_X5_hush (fun ph => [.ref (ph 0), .int a1, .int a2]) s0 zs rr := by
  refine CtI.of (by decide +kernel) (fun ph => Nat.le_of_ble_eq_true rfl) (fun E O hret => ?_)
  have O : OK cM E RX5 cX5_hush 4 rm_X5_hush := O
  show WS cM E 4 0 [(0, rf E 0), (1, .int a1), (2, .int a2)] [] s0
  unfold f_X5_hush at hf
  refine s_iload_n O 1 dX5_hush_0 rfl rfl ?_
  obtain ⟨s1, r2, c3, hf⟩ := bn_e hf
  refine s_SI (As := [.int a1]) (st := []) O lk_RX5_165 (k_X5_isForecast c3) rfl rfl ⟨rfl, rfl⟩ ⟨Nat.le_of_ble_eq_true rfl, Nat.le_of_ble_eq_true rfl⟩ rfl (Nat.le_of_ble_eq_true rfl) dX5_hush_1 ?_
  refine s_if_eq (tgt := 16) O dX5_hush_4 (by decide) (fun c => ?_) (fun c => ?_)
  · replace hf := if_t c hf
    refine s_iconst (v := (-1)) O dX5_hush_16 rfl ?_
    exact s_iret hret rfl dX5_hush_17 hf
  · replace hf := if_f c hf
    refine s_iload_n O 2 dX5_hush_7 rfl rfl ?_
    refine s_iconst (v := 0) O dX5_hush_8 rfl ?_
    refine s_iconst (v := 1) O dX5_hush_9 rfl ?_
    obtain ⟨s4, r5, c6, hf⟩ := bn_e hf
    refine s_SI (As := [.int a2, .int 0, .int 1]) (st := []) O lk_RX5_53 (k_X5_isIn c6) rfl rfl ⟨rfl, rfl⟩ ⟨Nat.le_of_ble_eq_true rfl, Nat.le_of_ble_eq_true rfl⟩ rfl (Nat.le_of_ble_eq_true rfl) dX5_hush_10 ?_
    refine s_if_ne (tgt := 18) O dX5_hush_13 (by decide) (fun c => ?_) (fun c => ?_)
    · replace hf := if_f c hf
      refine s_aload_n O 0 dX5_hush_18 rfl rfl ?_
      obtain ⟨s7, r8, c9, hf⟩ := bn_e hf
      refine s_VV (As := []) (st := []) O lk_RX5_168 (k_X5_restartTrial c9) rfl cs_0 rfl rfl ⟨rfl, rfl⟩ ⟨Nat.le_of_ble_eq_true rfl, Nat.le_of_ble_eq_true rfl⟩ rfl (Nat.le_of_ble_eq_true rfl) dX5_hush_19 ?_
      refine s_aload_n O 0 dX5_hush_22 rfl rfl ?_
      refine s_getR O fg_RX5_43 cs_0 rfl dX5_hush_23 ?_
      refine s_aload_n O 0 dX5_hush_26 rfl rfl ?_
      refine s_getR O fg_RX5_16 cs_0 rfl dX5_hush_27 ?_
      refine s_iload_n O 1 dX5_hush_30 rfl rfl ?_
      obtain ⟨s10, r11, c12, hf⟩ := bn_e hf
      refine s_VI (As := [.int a1]) (st := [rf E 59]) O lk_RX5_171 (k_X1_greatestHeight fl_is12 c12) rfl cs_12 rfl rfl ⟨rfl, rfl⟩ ⟨Nat.le_of_ble_eq_true rfl, Nat.le_of_ble_eq_true rfl⟩ rfl (Nat.le_of_ble_eq_true rfl) dX5_hush_31 ?_
      obtain ⟨s13, r14, c15, hf⟩ := bn_e hf
      refine s_VV (As := [.int r11]) (st := []) O lk_RX5_190 (k_X0_beginBelow c15) rfl cs_59 rfl rfl ⟨rfl, rfl⟩ ⟨Nat.le_of_ble_eq_true rfl, Nat.le_of_ble_eq_true rfl⟩ rfl (Nat.le_of_ble_eq_true rfl) dX5_hush_34 ?_
      refine s_iconst (v := 0) O dX5_hush_37 rfl ?_
      refine s_istore_n (lv' := [(3, .int 0), (0, rf E 0), (1, .int a1), (2, .int a2)]) O dX5_hush_38 rfl (by decide) rfl ?_
      refine s_loc [1, 2, 3, 0] rfl ?_
      obtain ⟨s27, e28, c29, hf⟩ := bn_e hf
      refine lp_of (body := fun s v => fb_X5_hush_l39 a1 a2 a1 a2 s v) (X := fun s v => WS cM E 4 39 [(0, rf E 0), (1, .int a1), (2, .int a2), (3, .int v)] [] s) (Y := fun s e => WS cM E 4 92 [(0, rf E 0), (2, .int a2)] [] s) (fun s v s' w hb Kc Ke => wb_X5_hush_l39 (rr := rr) O   hret Kc Ke hb) FU _ _ (s27, e28) c29 ?_
      show WS cM E 4 92 [(0, rf E 0), (2, .int a2)] [] s27
      refine s_aload_n O 0 dX5_hush_92 rfl rfl ?_
      refine s_getR O fg_RX5_43 cs_0 rfl dX5_hush_93 ?_
      refine s_iload_n O 1 dX5_hush_96 rfl rfl ?_
      obtain ⟨s30, r31, c32, hf⟩ := bn_e hf
      refine s_VI (As := [.int a2]) (st := []) O lk_RX5_197 (k_X0_answer c32) rfl cs_59 rfl rfl ⟨rfl, rfl⟩ ⟨Nat.le_of_ble_eq_true rfl, Nat.le_of_ble_eq_true rfl⟩ rfl (Nat.le_of_ble_eq_true rfl) dX5_hush_97 ?_
      exact s_iret hret rfl dX5_hush_100 hf
    · replace hf := if_t c hf
      refine s_iconst (v := (-1)) O dX5_hush_16 rfl ?_
      exact s_iret hret rfl dX5_hush_17 hf
def rm_X5_swap : Room := { frames := 5, cells := 0, slots := 0, locals := 107 }
def fb_X5_swap_l49 (a1 : Int32) (x1 : Int32) (x2 : Int32) (s0 : StA) (v3 : Int32) : Option (StA × ((Int32) ⊕ (Unit))) :=
  (if (gi s0 6 2) ≤ v3 then some (s0, .inr ()) else bn (f_X5_restartTrial  s0) (fun s14 r15 => gd v3 8 (gd x2 8 (nms (si s14 19 x2.toNatClampNeg (gi s14 8 v3.toNatClampNeg)) (fun s19 => gd x2 8 (gd v3 8 (nms (si s19 19 v3.toNatClampNeg (gi s19 8 x2.toNatClampNeg)) (fun s22 => bn (f_X1_firstDown 12 s22) (fun s23 r24 => bn (f_X0_offer ((10 * x2) + v3) r24 s23) (fun s26 r27 => some (s26, .inl (v3 + 1))))))))))))
set_option maxHeartbeats 4000000 in
set_option maxRecDepth 100000 in
theorem wb_X5_swap_l49 {E : XC} (O : OK cM E RX5 cX5_swap 4 rm_X5_swap) {a1 : Int32}  {x1 : Int32} {x2 : Int32} {s0 : StA} {v3 : Int32} {zs : StA} {rr : Int32} (hret : ReI cM E .int cX5_swap zs rr) {bs : StA} {bw : (Int32) ⊕ (Unit)} (Kc : ∀ v, bw = .inl v → WS cM E 4 49 [(0, rf E 0), (1, .int x1), (2, .int x2), (3, .int v)] [] bs) (Ke : ∀ e, bw = .inr e → WS cM E 4 141 [(0, rf E 0), (1, .int x1), (2, .int x2)] [] bs) (hf : fb_X5_swap_l49 a1 x1 x2 s0 v3 = some (bs, bw)) : WS cM E 4 49 [(0, rf E 0), (1, .int x1), (2, .int x2), (3, .int v3)] [] s0 := by
  unfold fb_X5_swap_l49 at hf
  refine s_iload_n O 3 dX5_swap_49 rfl rfl ?_
  refine s_aload_n O 0 dX5_swap_50 rfl rfl ?_
  refine s_getR O fg_RX5_10 cs_0 rfl dX5_swap_51 ?_
  refine s_getR O fg_RX5_101 cs_1 rfl dX5_swap_54 ?_
  refine s_getI O fg_RX5_105 cs_6 rfl dX5_swap_57 ?_
  refine s_icmp_ge (tgt := 141) O dX5_swap_60 (by decide) (fun c => ?_) (fun c => ?_)
  · replace hf := if_t c hf
    refine s_loc [0, 1, 2] rfl ?_
    cases hf
    exact Ke _ rfl
  · replace hf := if_f c hf
    refine s_aload_n O 0 dX5_swap_63 rfl rfl ?_
    obtain ⟨s14, r15, c16, hf⟩ := bn_e hf
    refine s_VV (As := []) (st := []) O lk_RX5_168 (k_X5_restartTrial c16) rfl cs_0 rfl rfl ⟨rfl, rfl⟩ ⟨Nat.le_of_ble_eq_true rfl, Nat.le_of_ble_eq_true rfl⟩ rfl (Nat.le_of_ble_eq_true rfl) dX5_swap_64 ?_
    refine s_aload_n O 0 dX5_swap_67 rfl rfl ?_
    refine s_getR O fg_RX5_16 cs_0 rfl dX5_swap_68 ?_
    refine s_getR O fg_RX5_101 cs_12 rfl dX5_swap_71 ?_
    refine s_getR O fg_RX5_139 cs_17 rfl dX5_swap_74 ?_
    refine s_iload_n O 2 dX5_swap_77 rfl rfl ?_
    refine s_aload_n O 0 dX5_swap_78 rfl rfl ?_
    refine s_getR O fg_RX5_10 cs_0 rfl dX5_swap_79 ?_
    refine s_getR O fg_RX5_101 cs_1 rfl dX5_swap_82 ?_
    refine s_getR O fg_RX5_139 cs_6 rfl dX5_swap_85 ?_
    refine s_iload_n O 3 dX5_swap_88 rfl rfl ?_
    obtain ⟨h17, hf⟩ := gd_e hf
    refine s_iald O cs_8 h17 dX5_swap_89 ?_
    obtain ⟨h18, hf⟩ := gd_e hf
    refine s_iast O cs_19 h18 dX5_swap_90 ?_
    refine s_tops (fun s19 es19 => ?_)
    replace hf := nms_e es19 hf
    refine s_aload_n O 0 dX5_swap_91 rfl rfl ?_
    refine s_getR O fg_RX5_16 cs_0 rfl dX5_swap_92 ?_
    refine s_getR O fg_RX5_101 cs_12 rfl dX5_swap_95 ?_
    refine s_getR O fg_RX5_139 cs_17 rfl dX5_swap_98 ?_
    refine s_iload_n O 3 dX5_swap_101 rfl rfl ?_
    refine s_aload_n O 0 dX5_swap_102 rfl rfl ?_
    refine s_getR O fg_RX5_10 cs_0 rfl dX5_swap_103 ?_
    refine s_getR O fg_RX5_101 cs_1 rfl dX5_swap_106 ?_
    refine s_getR O fg_RX5_139 cs_6 rfl dX5_swap_109 ?_
    refine s_iload_n O 2 dX5_swap_112 rfl rfl ?_
    obtain ⟨h20, hf⟩ := gd_e hf
    refine s_iald O cs_8 h20 dX5_swap_113 ?_
    obtain ⟨h21, hf⟩ := gd_e hf
    refine s_iast O cs_19 h21 dX5_swap_114 ?_
    refine s_tops (fun s22 es22 => ?_)
    replace hf := nms_e es22 hf
    refine s_aload_n O 0 dX5_swap_115 rfl rfl ?_
    refine s_getR O fg_RX5_43 cs_0 rfl dX5_swap_116 ?_
    refine s_bipush (v := 10) O dX5_swap_119 rfl ?_
    refine s_iload_n O 2 dX5_swap_121 rfl rfl ?_
    refine s_imul O dX5_swap_122 ?_
    refine s_iload_n O 3 dX5_swap_123 rfl rfl ?_
    refine s_iadd O dX5_swap_124 ?_
    refine s_aload_n O 0 dX5_swap_125 rfl rfl ?_
    refine s_getR O fg_RX5_16 cs_0 rfl dX5_swap_126 ?_
    obtain ⟨s23, r24, c25, hf⟩ := bn_e hf
    refine s_VI (As := []) (st := [.int ((10 * x2) + v3), rf E 59]) O lk_RX5_177 (k_X1_firstDown fl_is12 c25) rfl cs_12 rfl rfl ⟨rfl, rfl⟩ ⟨Nat.le_of_ble_eq_true rfl, Nat.le_of_ble_eq_true rfl⟩ rfl (Nat.le_of_ble_eq_true rfl) dX5_swap_129 ?_
    obtain ⟨s26, r27, c28, hf⟩ := bn_e hf
    refine s_VV (As := [.int ((10 * x2) + v3), .int r24]) (st := []) O lk_RX5_193 (k_X0_offer c28) rfl cs_59 rfl rfl ⟨rfl, rfl⟩ ⟨Nat.le_of_ble_eq_true rfl, Nat.le_of_ble_eq_true rfl⟩ rfl (Nat.le_of_ble_eq_true rfl) dX5_swap_132 ?_
    refine s_iinc (v := (v3 + 1)) (lv' := [(3, .int (v3 + 1)), (0, rf E 0), (1, .int x1), (2, .int x2)]) O 3 dX5_swap_135 rfl rfl (by decide) rfl ?_
    refine s_goto (tgt := 49) O dX5_swap_138 (by decide) ?_
    refine s_loc [1, 2, 3, 0] rfl ?_
    cases hf
    exact Kc _ rfl
def fl_X5_swap_l49 (a1 : Int32) (x1 : Int32) (x2 : Int32) (s0 : StA) (v : Int32) : Option (StA × ((Unit))) :=
  it (fun s v => fb_X5_swap_l49 a1 x1 x2 s v) FU s0 v
def fb_X5_swap_l31 (a1 : Int32) (x1 : Int32) (s0 : StA) (v2 : Int32) : Option (StA × ((Int32) ⊕ (Unit))) :=
  (if (gi s0 6 2) ≤ v2 then some (s0, .inr ()) else nmi (v2 + 1) (fun n13 => bn (fl_X5_swap_l49 a1 x1 v2 s0 n13) (fun s29 e30 => some (s29, .inl (v2 + 1)))))
set_option maxHeartbeats 4000000 in
set_option maxRecDepth 100000 in
theorem wb_X5_swap_l31 {E : XC} (O : OK cM E RX5 cX5_swap 4 rm_X5_swap) {a1 : Int32}  {x1 : Int32} {s0 : StA} {v2 : Int32} {zs : StA} {rr : Int32} (hret : ReI cM E .int cX5_swap zs rr) {bs : StA} {bw : (Int32) ⊕ (Unit)} (Kc : ∀ v, bw = .inl v → WS cM E 4 31 [(0, rf E 0), (1, .int x1), (2, .int v)] [] bs) (Ke : ∀ e, bw = .inr e → WS cM E 4 147 [(0, rf E 0), (1, .int x1)] [] bs) (hf : fb_X5_swap_l31 a1 x1 s0 v2 = some (bs, bw)) : WS cM E 4 31 [(0, rf E 0), (1, .int x1), (2, .int v2)] [] s0 := by
  unfold fb_X5_swap_l31 at hf
  refine s_iload_n O 2 dX5_swap_31 rfl rfl ?_
  refine s_aload_n O 0 dX5_swap_32 rfl rfl ?_
  refine s_getR O fg_RX5_10 cs_0 rfl dX5_swap_33 ?_
  refine s_getR O fg_RX5_101 cs_1 rfl dX5_swap_36 ?_
  refine s_getI O fg_RX5_105 cs_6 rfl dX5_swap_39 ?_
  refine s_icmp_ge (tgt := 147) O dX5_swap_42 (by decide) (fun c => ?_) (fun c => ?_)
  · replace hf := if_t c hf
    refine s_loc [0, 1] rfl ?_
    cases hf
    exact Ke _ rfl
  · replace hf := if_f c hf
    refine s_iload_n O 2 dX5_swap_45 rfl rfl ?_
    refine s_iconst (v := 1) O dX5_swap_46 rfl ?_
    refine s_iadd O dX5_swap_47 ?_
    refine s_topi (fun n13 en13 => ?_)
    replace hf := nmi_e en13 hf
    refine s_istore_n (lv' := [(3, .int n13), (0, rf E 0), (1, .int x1), (2, .int v2)]) O dX5_swap_48 rfl (by decide) rfl ?_
    refine s_loc [1, 2, 3, 0] rfl ?_
    obtain ⟨s29, e30, c31, hf⟩ := bn_e hf
    refine lp_of (body := fun s v => fb_X5_swap_l49 a1 x1 v2 s v) (X := fun s v => WS cM E 4 49 [(0, rf E 0), (1, .int x1), (2, .int v2), (3, .int v)] [] s) (Y := fun s e => WS cM E 4 141 [(0, rf E 0), (1, .int x1), (2, .int v2)] [] s) (fun s v s' w hb Kc Ke => wb_X5_swap_l49 (rr := rr) O   hret Kc Ke hb) FU _ _ (s29, e30) c31 ?_
    show WS cM E 4 141 [(0, rf E 0), (1, .int x1), (2, .int v2)] [] s29
    refine s_iinc (v := (v2 + 1)) (lv' := [(2, .int (v2 + 1)), (0, rf E 0), (1, .int x1)]) O 2 dX5_swap_141 rfl rfl (by decide) rfl ?_
    refine s_goto (tgt := 31) O dX5_swap_144 (by decide) ?_
    refine s_loc [1, 2, 0] rfl ?_
    cases hf
    exact Kc _ rfl
def fl_X5_swap_l31 (a1 : Int32) (x1 : Int32) (s0 : StA) (v : Int32) : Option (StA × ((Unit))) :=
  it (fun s v => fb_X5_swap_l31 a1 x1 s v) FU s0 v
def f_X5_swap (a1 : Int32) (s0 : StA) : Option (StA × Int32) :=
  bn (f_X5_isIn a1 0 1 s0) (fun s1 r2 => (if r2 = 0 then some (s1, (-1)) else bn (f_X5_restartTrial  s1) (fun s4 r5 => bn (f_X1_firstDown 12 s4) (fun s7 r8 => bn (f_X0_beginBelow r8 s7) (fun s10 r11 => bn (fl_X5_swap_l31 a1 a1 s10 0) (fun s32 e33 => bn (f_X0_answer a1 s32) (fun s35 r36 => some (s35, r36))))))))
set_option maxHeartbeats 4000000 in
set_option maxRecDepth 100000 in
theorem k_X5_swap {a1 : Int32} {s0 zs : StA} {rr : Int32} (hf : f_X5_swap a1 s0 = some (zs, rr)) : CtI cM yX5_swap cX5_swap 4 .int rm_X5_swap (fun ph => [.ref (ph 0), .int a1]) s0 zs rr := by
  refine CtI.of (by decide +kernel) (fun ph => Nat.le_of_ble_eq_true rfl) (fun E O hret => ?_)
  have O : OK cM E RX5 cX5_swap 4 rm_X5_swap := O
  show WS cM E 4 0 [(0, rf E 0), (1, .int a1)] [] s0
  unfold f_X5_swap at hf
  refine s_iload_n O 1 dX5_swap_0 rfl rfl ?_
  refine s_iconst (v := 0) O dX5_swap_1 rfl ?_
  refine s_iconst (v := 1) O dX5_swap_2 rfl ?_
  obtain ⟨s1, r2, c3, hf⟩ := bn_e hf
  refine s_SI (As := [.int a1, .int 0, .int 1]) (st := []) O lk_RX5_53 (k_X5_isIn c3) rfl rfl ⟨rfl, rfl⟩ ⟨Nat.le_of_ble_eq_true rfl, Nat.le_of_ble_eq_true rfl⟩ rfl (Nat.le_of_ble_eq_true rfl) dX5_swap_3 ?_
  refine s_if_ne (tgt := 11) O dX5_swap_6 (by decide) (fun c => ?_) (fun c => ?_)
  · replace hf := if_f c hf
    refine s_aload_n O 0 dX5_swap_11 rfl rfl ?_
    obtain ⟨s4, r5, c6, hf⟩ := bn_e hf
    refine s_VV (As := []) (st := []) O lk_RX5_168 (k_X5_restartTrial c6) rfl cs_0 rfl rfl ⟨rfl, rfl⟩ ⟨Nat.le_of_ble_eq_true rfl, Nat.le_of_ble_eq_true rfl⟩ rfl (Nat.le_of_ble_eq_true rfl) dX5_swap_12 ?_
    refine s_aload_n O 0 dX5_swap_15 rfl rfl ?_
    refine s_getR O fg_RX5_43 cs_0 rfl dX5_swap_16 ?_
    refine s_aload_n O 0 dX5_swap_19 rfl rfl ?_
    refine s_getR O fg_RX5_16 cs_0 rfl dX5_swap_20 ?_
    obtain ⟨s7, r8, c9, hf⟩ := bn_e hf
    refine s_VI (As := []) (st := [rf E 59]) O lk_RX5_177 (k_X1_firstDown fl_is12 c9) rfl cs_12 rfl rfl ⟨rfl, rfl⟩ ⟨Nat.le_of_ble_eq_true rfl, Nat.le_of_ble_eq_true rfl⟩ rfl (Nat.le_of_ble_eq_true rfl) dX5_swap_23 ?_
    obtain ⟨s10, r11, c12, hf⟩ := bn_e hf
    refine s_VV (As := [.int r8]) (st := []) O lk_RX5_190 (k_X0_beginBelow c12) rfl cs_59 rfl rfl ⟨rfl, rfl⟩ ⟨Nat.le_of_ble_eq_true rfl, Nat.le_of_ble_eq_true rfl⟩ rfl (Nat.le_of_ble_eq_true rfl) dX5_swap_26 ?_
    refine s_iconst (v := 0) O dX5_swap_29 rfl ?_
    refine s_istore_n (lv' := [(2, .int 0), (0, rf E 0), (1, .int a1)]) O dX5_swap_30 rfl (by decide) rfl ?_
    refine s_loc [1, 2, 0] rfl ?_
    obtain ⟨s32, e33, c34, hf⟩ := bn_e hf
    refine lp_of (body := fun s v => fb_X5_swap_l31 a1 a1 s v) (X := fun s v => WS cM E 4 31 [(0, rf E 0), (1, .int a1), (2, .int v)] [] s) (Y := fun s e => WS cM E 4 147 [(0, rf E 0), (1, .int a1)] [] s) (fun s v s' w hb Kc Ke => wb_X5_swap_l31 (rr := rr) O   hret Kc Ke hb) FU _ _ (s32, e33) c34 ?_
    show WS cM E 4 147 [(0, rf E 0), (1, .int a1)] [] s32
    refine s_aload_n O 0 dX5_swap_147 rfl rfl ?_
    refine s_getR O fg_RX5_43 cs_0 rfl dX5_swap_148 ?_
    refine s_iload_n O 1 dX5_swap_151 rfl rfl ?_
    obtain ⟨s35, r36, c37, hf⟩ := bn_e hf
    refine s_VI (As := [.int a1]) (st := []) O lk_RX5_197 (k_X0_answer c37) rfl cs_59 rfl rfl ⟨rfl, rfl⟩ ⟨Nat.le_of_ble_eq_true rfl, Nat.le_of_ble_eq_true rfl⟩ rfl (Nat.le_of_ble_eq_true rfl) dX5_swap_152 ?_
    exact s_iret hret rfl dX5_swap_155 hf
  · replace hf := if_t c hf
    refine s_iconst (v := (-1)) O dX5_swap_9 rfl ?_
    exact s_iret hret rfl dX5_swap_10 hf
def rm_X5_isHeight : Room := { frames := 1, cells := 0, slots := 0, locals := 22 }
def f_X5_isHeight (a0 : Int32) (s0 : StA) : Option (StA × Int32) :=
  bn (f_X5_isIn a0 0 60 s0) (fun s1 r2 => gz r2 (some (s1, r2)))
set_option maxHeartbeats 4000000 in
set_option maxRecDepth 100000 in
theorem k_X5_isHeight {a0 : Int32} {s0 zs : StA} {rr : Int32} (hf : f_X5_isHeight a0 s0 = some (zs, rr)) : CtI cM yX5_isHeight cX5_isHeight 1 .boolean rm_X5_isHeight (fun ph => [.int a0]) s0 zs rr := by
  refine CtI.of (by decide +kernel) (fun ph => Nat.le_of_ble_eq_true rfl) (fun E O hret => ?_)
  have O : OK cM E RX5 cX5_isHeight 1 rm_X5_isHeight := O
  show WS cM E 1 0 [(0, .int a0)] [] s0
  unfold f_X5_isHeight at hf
  refine s_iload_n O 0 dX5_isHeight_0 rfl rfl ?_
  refine s_iconst (v := 0) O dX5_isHeight_1 rfl ?_
  refine s_bipush (v := 60) O dX5_isHeight_2 rfl ?_
  obtain ⟨s1, r2, c3, hf⟩ := bn_e hf
  refine s_SI (As := [.int a0, .int 0, .int 60]) (st := []) O lk_RX5_53 (k_X5_isIn c3) rfl rfl ⟨rfl, rfl⟩ ⟨Nat.le_of_ble_eq_true rfl, Nat.le_of_ble_eq_true rfl⟩ rfl (Nat.le_of_ble_eq_true rfl) dX5_isHeight_4 ?_
  obtain ⟨hz, hf⟩ := gz_e hf
  exact s_iret hret hz.nar dX5_isHeight_7 hf
def rm_X5_need : Room := { frames := 5, cells := 0, slots := 0, locals := 108 }
def fb_X5_need_l30 (a1 : Int32) (a2 : Int32) (a3 : Int32) (x1 : Int32) (x2 : Int32) (x3 : Int32) (s0 : StA) (v4 : Int32) : Option (StA × ((Int32) ⊕ ((Unit) ⊕ Int32))) :=
  (if 9 < v4 then some (s0, .inr (.inl ())) else bn (f_X5_restartTrial  s0) (fun s10 r11 => gd x1 6 (nms (si s10 14 x1.toNatClampNeg v4) (fun s14 => bn (f_X1_passAll 12 x2 s14) (fun s15 r16 => (if (gi s15 12 8) < x3 then some (s15, .inl (v4 + 1)) else some (s15, .inr (.inr v4))))))))
set_option maxHeartbeats 4000000 in
set_option maxRecDepth 100000 in
theorem wb_X5_need_l30 {E : XC} (O : OK cM E RX5 cX5_need 5 rm_X5_need) {a1 : Int32} {a2 : Int32} {a3 : Int32}  {x1 : Int32} {x2 : Int32} {x3 : Int32} {s0 : StA} {v4 : Int32} {zs : StA} {rr : Int32} (hret : ReI cM E .int cX5_need zs rr) {bs : StA} {bw : (Int32) ⊕ ((Unit) ⊕ Int32)} (Kc : ∀ v, bw = .inl v → WS cM E 5 30 [(0, rf E 0), (1, .int x1), (2, .int x2), (3, .int x3), (4, .int v)] [] bs) (Ke : ∀ e, bw = .inr (.inl e) → WS cM E 5 80 [] [] bs) (Kr : ∀ r, bw = .inr (.inr r) → some (bs, r) = some (zs, rr)) (hf : fb_X5_need_l30 a1 a2 a3 x1 x2 x3 s0 v4 = some (bs, bw)) : WS cM E 5 30 [(0, rf E 0), (1, .int x1), (2, .int x2), (3, .int x3), (4, .int v4)] [] s0 := by
  unfold fb_X5_need_l30 at hf
  refine s_iload O 4 dX5_need_30 rfl ?_
  refine s_bipush (v := 9) O dX5_need_32 rfl ?_
  refine s_icmp_gt (tgt := 80) O dX5_need_34 (by decide) (fun c => ?_) (fun c => ?_)
  · replace hf := if_t c hf
    refine s_loc [] rfl ?_
    cases hf
    exact Ke _ rfl
  · replace hf := if_f c hf
    refine s_aload_n O 0 dX5_need_37 rfl rfl ?_
    obtain ⟨s10, r11, c12, hf⟩ := bn_e hf
    refine s_VV (As := []) (st := []) O lk_RX5_168 (k_X5_restartTrial c12) rfl cs_0 rfl rfl ⟨rfl, rfl⟩ ⟨Nat.le_of_ble_eq_true rfl, Nat.le_of_ble_eq_true rfl⟩ rfl (Nat.le_of_ble_eq_true rfl) dX5_need_38 ?_
    refine s_aload_n O 0 dX5_need_41 rfl rfl ?_
    refine s_getR O fg_RX5_16 cs_0 rfl dX5_need_42 ?_
    refine s_getR O fg_RX5_118 cs_12 rfl dX5_need_45 ?_
    refine s_iload_n O 1 dX5_need_48 rfl rfl ?_
    refine s_iload O 4 dX5_need_49 rfl ?_
    obtain ⟨h13, hf⟩ := gd_e hf
    refine s_iast O cs_14 h13 dX5_need_51 ?_
    refine s_tops (fun s14 es14 => ?_)
    replace hf := nms_e es14 hf
    refine s_aload_n O 0 dX5_need_52 rfl rfl ?_
    refine s_getR O fg_RX5_16 cs_0 rfl dX5_need_53 ?_
    refine s_iload_n O 2 dX5_need_56 rfl rfl ?_
    obtain ⟨s15, r16, c17, hf⟩ := bn_e hf
    refine s_VV (As := [.int x2]) (st := []) O lk_RX5_161 (k_X1_passAll fl_is12 c17) rfl cs_12 rfl rfl ⟨rfl, rfl⟩ ⟨Nat.le_of_ble_eq_true rfl, Nat.le_of_ble_eq_true rfl⟩ rfl (Nat.le_of_ble_eq_true rfl) dX5_need_57 ?_
    refine s_aload_n O 0 dX5_need_60 rfl rfl ?_
    refine s_getR O fg_RX5_16 cs_0 rfl dX5_need_61 ?_
    refine s_getI O fg_RX5_85 cs_12 rfl dX5_need_64 ?_
    refine s_iload_n O 3 dX5_need_67 rfl rfl ?_
    refine s_icmp_lt (tgt := 74) O dX5_need_68 (by decide) (fun c => ?_) (fun c => ?_)
    · replace hf := if_t c hf
      refine s_iinc (v := (v4 + 1)) (lv' := [(4, .int (v4 + 1)), (0, rf E 0), (1, .int x1), (2, .int x2), (3, .int x3)]) O 4 dX5_need_74 rfl rfl (by decide) rfl ?_
      refine s_goto (tgt := 30) O dX5_need_77 (by decide) ?_
      refine s_loc [1, 2, 3, 4, 0] rfl ?_
      cases hf
      exact Kc _ rfl
    · replace hf := if_f c hf
      refine s_iload O 4 dX5_need_71 rfl ?_
      cases hf
      exact s_iret hret rfl dX5_need_73 (Kr _ rfl)
def fl_X5_need_l30 (a1 : Int32) (a2 : Int32) (a3 : Int32) (x1 : Int32) (x2 : Int32) (x3 : Int32) (s0 : StA) (v : Int32) : Option (StA × (((Unit) ⊕ Int32))) :=
  it (fun s v => fb_X5_need_l30 a1 a2 a3 x1 x2 x3 s v) FU s0 v
def f_X5_need (a1 : Int32) (a2 : Int32) (a3 : Int32) (s0 : StA) : Option (StA × Int32) :=
  bn (f_X1_hasThing 1 a1 s0) (fun s1 r2 => (if r2 = 0 then some (s1, (-1)) else bn (f_X5_isForecast a2 s1) (fun s4 r5 => (if r5 = 0 then some (s4, (-1)) else bn (f_X5_isHeight a3 s4) (fun s7 r8 => (if r8 = 0 then some (s7, (-1)) else bn (fl_X5_need_l30 a1 a2 a3 a1 a2 a3 s7 1) (fun s18 e19 => match e19 with | .inl _ => some (s18, (-4)) | .inr q30 => some (s18, q30))))))))
set_option maxHeartbeats 4000000 in
set_option maxRecDepth 100000 in
theorem k_X5_need {a1 : Int32} {a2 : Int32} {a3 : Int32} {s0 zs : StA} {rr : Int32} (hf : f_X5_need a1 a2 a3 s0 = some (zs, rr)) : CtI cM yX5_need cX5_need 5 .int rm_X5_need (fun ph => [.ref (ph 0), .int a1, .int a2, .int a3]) s0 zs rr := by
  refine CtI.of (by decide +kernel) (fun ph => Nat.le_of_ble_eq_true rfl) (fun E O hret => ?_)
  have O : OK cM E RX5 cX5_need 5 rm_X5_need := O
  show WS cM E 5 0 [(0, rf E 0), (1, .int a1), (2, .int a2), (3, .int a3)] [] s0
  unfold f_X5_need at hf
  refine s_aload_n O 0 dX5_need_0 rfl rfl ?_
  refine s_getR O fg_RX5_10 cs_0 rfl dX5_need_1 ?_
  refine s_iload_n O 1 dX5_need_4 rfl rfl ?_
  obtain ⟨s1, r2, c3, hf⟩ := bn_e hf
  refine s_VI (As := [.int a1]) (st := []) O lk_RX5_110 (k_X1_hasThing fl_is1 c3) rfl cs_1 rfl rfl ⟨rfl, rfl⟩ ⟨Nat.le_of_ble_eq_true rfl, Nat.le_of_ble_eq_true rfl⟩ rfl (Nat.le_of_ble_eq_true rfl) dX5_need_5 ?_
  refine s_if_eq (tgt := 25) O dX5_need_8 (by decide) (fun c => ?_) (fun c => ?_)
  · replace hf := if_t c hf
    refine s_iconst (v := (-1)) O dX5_need_25 rfl ?_
    exact s_iret hret rfl dX5_need_26 hf
  · replace hf := if_f c hf
    refine s_iload_n O 2 dX5_need_11 rfl rfl ?_
    obtain ⟨s4, r5, c6, hf⟩ := bn_e hf
    refine s_SI (As := [.int a2]) (st := []) O lk_RX5_165 (k_X5_isForecast c6) rfl rfl ⟨rfl, rfl⟩ ⟨Nat.le_of_ble_eq_true rfl, Nat.le_of_ble_eq_true rfl⟩ rfl (Nat.le_of_ble_eq_true rfl) dX5_need_12 ?_
    refine s_if_eq (tgt := 25) O dX5_need_15 (by decide) (fun c => ?_) (fun c => ?_)
    · replace hf := if_t c hf
      refine s_iconst (v := (-1)) O dX5_need_25 rfl ?_
      exact s_iret hret rfl dX5_need_26 hf
    · replace hf := if_f c hf
      refine s_iload_n O 3 dX5_need_18 rfl rfl ?_
      obtain ⟨s7, r8, c9, hf⟩ := bn_e hf
      refine s_SI (As := [.int a3]) (st := []) O lk_RX5_208 (k_X5_isHeight c9) rfl rfl ⟨rfl, rfl⟩ ⟨Nat.le_of_ble_eq_true rfl, Nat.le_of_ble_eq_true rfl⟩ rfl (Nat.le_of_ble_eq_true rfl) dX5_need_19 ?_
      refine s_if_ne (tgt := 27) O dX5_need_22 (by decide) (fun c => ?_) (fun c => ?_)
      · replace hf := if_f c hf
        refine s_iconst (v := 1) O dX5_need_27 rfl ?_
        refine s_istore (lv' := [(4, .int 1), (0, rf E 0), (1, .int a1), (2, .int a2), (3, .int a3)]) O dX5_need_28 (by decide) rfl ?_
        refine s_loc [1, 2, 3, 4, 0] rfl ?_
        obtain ⟨s18, e19, c20, hf⟩ := bn_e hf
        refine lp_of (body := fun s v => fb_X5_need_l30 a1 a2 a3 a1 a2 a3 s v) (X := fun s v => WS cM E 5 30 [(0, rf E 0), (1, .int a1), (2, .int a2), (3, .int a3), (4, .int v)] [] s) (Y := fun s e => match e with | .inl e => WS cM E 5 80 [] [] s | .inr r => some (s, r) = some (zs, rr)) (fun s v s' w hb Kc Ke => wb_X5_need_l30 (rr := rr) O   hret Kc (fun e he => Ke (.inl e) he) (fun r he => Ke (.inr r) he) hb) FU _ _ (s18, e19) c20 ?_
        rcases e19 with e19 | q30
        · show WS cM E 5 80 [] [] s18
          refine s_bipush (v := (-4)) O dX5_need_80 rfl ?_
          exact s_iret hret rfl dX5_need_82 hf
        · exact hf
      · replace hf := if_t c hf
        refine s_iconst (v := (-1)) O dX5_need_25 rfl ?_
        exact s_iret hret rfl dX5_need_26 hf
def rm_X5_allOdds : Room := { frames := 0, cells := 0, slots := 0, locals := 0 }
def fb_X5_allOdds_l4   (s0 : StA) (v1 : Int64) (v3 : Int32) : Option (StA × ((Int64 × Int32) ⊕ (Int64))) :=
  (if (gi s0 6 2) ≤ v3 then some (s0, .inr v1) else nml (v1 * 10) (fun n1 => some (s0, .inl (n1, (v3 + 1)))))
set_option maxHeartbeats 4000000 in
set_option maxRecDepth 100000 in
theorem wb_X5_allOdds_l4 {E : XC} (O : OK cM E RX5 cX5_allOdds 4 rm_X5_allOdds)    {s0 : StA} {v1 : Int64} {v3 : Int32} {zs : StA} {rr : Int64} (hret : ReL cM E cX5_allOdds zs rr) {bs : StA} {bw : (Int64 × Int32) ⊕ (Int64)} (Kc : ∀ v, bw = .inl v → WS cM E 4 4 [(0, rf E 0), (1, .long v.1), (3, .int v.2)] [] bs) (Ke : ∀ e, bw = .inr e → WS cM E 4 30 [(1, .long e)] [] bs) (hf : fb_X5_allOdds_l4  s0 v1 v3 = some (bs, bw)) : WS cM E 4 4 [(0, rf E 0), (1, .long v1), (3, .int v3)] [] s0 := by
  unfold fb_X5_allOdds_l4 at hf
  refine s_iload_n O 2 dX5_allOdds_4 rfl rfl ?_
  refine s_aload_n O 0 dX5_allOdds_5 rfl rfl ?_
  refine s_getR O fg_RX5_10 cs_0 rfl dX5_allOdds_6 ?_
  refine s_getR O fg_RX5_101 cs_1 rfl dX5_allOdds_9 ?_
  refine s_getI O fg_RX5_105 cs_6 rfl dX5_allOdds_12 ?_
  refine s_icmp_ge (tgt := 30) O dX5_allOdds_15 (by decide) (fun c => ?_) (fun c => ?_)
  · replace hf := if_t c hf
    refine s_loc [1] rfl ?_
    cases hf
    exact Ke _ rfl
  · replace hf := if_f c hf
    refine s_lload_n O 1 dX5_allOdds_18 rfl rfl ?_
    refine s_ldc2 O cl_RX5_228 dX5_allOdds_19 ?_
    refine s_lmul O dX5_allOdds_22 ?_
    refine s_topl (fun n1 en1 => ?_)
    replace hf := nml_e en1 hf
    refine s_lstore_n (lv' := [(1, .long n1), (0, rf E 0), (3, .int v3)]) O dX5_allOdds_23 rfl (by decide) rfl ?_
    refine s_iinc (v := (v3 + 1)) (lv' := [(3, .int (v3 + 1)), (1, .long n1), (0, rf E 0)]) O 2 dX5_allOdds_24 rfl rfl (by decide) rfl ?_
    refine s_goto (tgt := 4) O dX5_allOdds_27 (by decide) ?_
    refine s_loc [2, 1, 0] rfl ?_
    cases hf
    exact Kc _ rfl
def fl_X5_allOdds_l4   (s0 : StA) (v : Int64 × Int32) : Option (StA × ((Int64))) :=
  it (fun s v => fb_X5_allOdds_l4  s v.1 v.2) FU s0 v
def f_X5_allOdds  (s0 : StA) : Option (StA × Int64) :=
  bn (fl_X5_allOdds_l4  s0 (1, 0)) (fun s2 u4_1 => some (s2, u4_1))
set_option maxHeartbeats 4000000 in
set_option maxRecDepth 100000 in
theorem k_X5_allOdds  {s0 zs : StA} {rr : Int64} (hf : f_X5_allOdds  s0 = some (zs, rr)) : CtL cM yX5_allOdds cX5_allOdds 4 rm_X5_allOdds (fun ph => [.ref (ph 0)]) s0 zs rr := by
  refine CtL.of (by decide +kernel) (fun ph => Nat.le_of_ble_eq_true rfl) (fun E O hret => ?_)
  have O : OK cM E RX5 cX5_allOdds 4 rm_X5_allOdds := O
  show WS cM E 4 0 [(0, rf E 0)] [] s0
  unfold f_X5_allOdds at hf
  refine s_lconst (v := 1) O dX5_allOdds_0 rfl ?_
  refine s_lstore_n (lv' := [(1, .long 1), (0, rf E 0)]) O dX5_allOdds_1 rfl (by decide) rfl ?_
  refine s_iconst (v := 0) O dX5_allOdds_2 rfl ?_
  refine s_istore_n (lv' := [(3, .int 0), (1, .long 1), (0, rf E 0)]) O dX5_allOdds_3 rfl (by decide) rfl ?_
  refine s_loc [2, 1, 0] rfl ?_
  obtain ⟨s2, u4_1, c4, hf⟩ := bn_e hf
  refine lp_of (body := fun s v => fb_X5_allOdds_l4  s v.1 v.2) (X := fun s v => WS cM E 4 4 [(0, rf E 0), (1, .long v.1), (3, .int v.2)] [] s) (Y := fun s e => WS cM E 4 30 [(1, .long e)] [] s) (fun s v s' w hb Kc Ke => wb_X5_allOdds_l4 (rr := rr) O   hret Kc Ke hb) FU _ _ (s2, u4_1) c4 ?_
  show WS cM E 4 30 [(1, .long u4_1)] [] s2
  refine s_lload_n O 0 dX5_allOdds_30 rfl rfl ?_
  exact s_lret hret dX5_allOdds_31 hf
def rm_X5_commonDivisor : Room := { frames := 0, cells := 0, slots := 0, locals := 0 }
def fb_X5_commonDivisor_l3 (a0 : Int64) (a2 : Int64)  (s0 : StA) (v0 : Int64) (v2 : Int64) (v4 : Int32) : Option (StA × ((Int64 × Int64 × Int32) ⊕ (Int64))) :=
  (if 200 ≤ v4 then some (s0, .inr v0) else (if (lg_cmp v2 0) = 0 then some (s0, .inr v0) else g0l v2 (nml (v0 - v0 / v2 * v2) (fun n2 => some (s0, .inl (v2, n2, (v4 + 1)))))))
set_option maxHeartbeats 4000000 in
set_option maxRecDepth 100000 in
theorem wb_X5_commonDivisor_l3 {E : XC} (O : OK cM E RX5 cX5_commonDivisor 7 rm_X5_commonDivisor) {a0 : Int64} {a2 : Int64}   {s0 : StA} {v0 : Int64} {v2 : Int64} {v4 : Int32} {zs : StA} {rr : Int64} (hret : ReL cM E cX5_commonDivisor zs rr) {bs : StA} {bw : (Int64 × Int64 × Int32) ⊕ (Int64)} (Kc : ∀ v, bw = .inl v → WS cM E 7 3 [(0, .long v.1), (2, .long v.2.1), (4, .int v.2.2)] [] bs) (Ke : ∀ e, bw = .inr e → WS cM E 7 33 [(0, .long e)] [] bs) (hf : fb_X5_commonDivisor_l3 a0 a2 s0 v0 v2 v4 = some (bs, bw)) : WS cM E 7 3 [(0, .long v0), (2, .long v2), (4, .int v4)] [] s0 := by
  unfold fb_X5_commonDivisor_l3 at hf
  refine s_iload O 2 dX5_commonDivisor_3 rfl ?_
  refine s_sipush (v := 200) O dX5_commonDivisor_5 rfl ?_
  refine s_icmp_ge (tgt := 33) O dX5_commonDivisor_8 (by decide) (fun c => ?_) (fun c => ?_)
  · replace hf := if_t c hf
    refine s_loc [0] rfl ?_
    cases hf
    exact Ke _ rfl
  · replace hf := if_f c hf
    refine s_lload_n O 1 dX5_commonDivisor_11 rfl rfl ?_
    refine s_lconst (v := 0) O dX5_commonDivisor_12 rfl ?_
    refine s_lcmp O dX5_commonDivisor_13 ?_
    refine s_if_eq (tgt := 33) O dX5_commonDivisor_14 (by decide) (fun c => ?_) (fun c => ?_)
    · replace hf := if_t c hf
      refine s_loc [0] rfl ?_
      cases hf
      exact Ke _ rfl
    · replace hf := if_f c hf
      refine s_lload_n O 0 dX5_commonDivisor_17 rfl rfl ?_
      refine s_lload_n O 1 dX5_commonDivisor_18 rfl rfl ?_
      obtain ⟨h1, hf⟩ := g0l_e hf
      refine s_lrem O dX5_commonDivisor_19 h1 ?_
      refine s_topl (fun n2 en2 => ?_)
      replace hf := nml_e en2 hf
      refine s_lstore (lv' := [(5, .long n2), (0, .long v0), (2, .long v2), (4, .int v4)]) O dX5_commonDivisor_20 (by decide) rfl ?_
      refine s_lload_n O 2 dX5_commonDivisor_22 rfl rfl ?_
      refine s_lstore_n (lv' := [(0, .long v2), (5, .long n2), (2, .long v2), (4, .int v4)]) O dX5_commonDivisor_23 rfl (by decide) rfl ?_
      refine s_lload O 1 dX5_commonDivisor_24 rfl ?_
      refine s_lstore_n (lv' := [(2, .long n2), (0, .long v2), (5, .long n2), (4, .int v4)]) O dX5_commonDivisor_26 rfl (by decide) rfl ?_
      refine s_iinc (v := (v4 + 1)) (lv' := [(4, .int (v4 + 1)), (2, .long n2), (0, .long v2), (5, .long n2)]) O 3 dX5_commonDivisor_27 rfl rfl (by decide) rfl ?_
      refine s_goto (tgt := 3) O dX5_commonDivisor_30 (by decide) ?_
      refine s_loc [2, 1, 0] rfl ?_
      cases hf
      exact Kc _ rfl
def fl_X5_commonDivisor_l3 (a0 : Int64) (a2 : Int64)  (s0 : StA) (v : Int64 × Int64 × Int32) : Option (StA × ((Int64))) :=
  it (fun s v => fb_X5_commonDivisor_l3 a0 a2 s v.1 v.2.1 v.2.2) FU s0 v
def f_X5_commonDivisor (a0 : Int64) (a2 : Int64) (s0 : StA) : Option (StA × Int64) :=
  bn (fl_X5_commonDivisor_l3 a0 a2 s0 (a0, a2, 0)) (fun s3 u3_0 => some (s3, u3_0))
set_option maxHeartbeats 4000000 in
set_option maxRecDepth 100000 in
theorem k_X5_commonDivisor {a0 : Int64} {a2 : Int64} {s0 zs : StA} {rr : Int64} (hf : f_X5_commonDivisor a0 a2 s0 = some (zs, rr)) : CtL cM yX5_commonDivisor cX5_commonDivisor 7 rm_X5_commonDivisor (fun ph => [.long a0, .long a2]) s0 zs rr := by
  refine CtL.of (by decide +kernel) (fun ph => Nat.le_of_ble_eq_true rfl) (fun E O hret => ?_)
  have O : OK cM E RX5 cX5_commonDivisor 7 rm_X5_commonDivisor := O
  show WS cM E 7 0 [(0, .long a0), (2, .long a2)] [] s0
  unfold f_X5_commonDivisor at hf
  refine s_iconst (v := 0) O dX5_commonDivisor_0 rfl ?_
  refine s_istore (lv' := [(4, .int 0), (0, .long a0), (2, .long a2)]) O dX5_commonDivisor_1 (by decide) rfl ?_
  refine s_loc [1, 2, 0] rfl ?_
  obtain ⟨s3, u3_0, c5, hf⟩ := bn_e hf
  refine lp_of (body := fun s v => fb_X5_commonDivisor_l3 a0 a2 s v.1 v.2.1 v.2.2) (X := fun s v => WS cM E 7 3 [(0, .long v.1), (2, .long v.2.1), (4, .int v.2.2)] [] s) (Y := fun s e => WS cM E 7 33 [(0, .long e)] [] s) (fun s v s' w hb Kc Ke => wb_X5_commonDivisor_l3 (rr := rr) O   hret Kc Ke hb) FU _ _ (s3, u3_0) c5 ?_
  show WS cM E 7 33 [(0, .long u3_0)] [] s3
  refine s_lload_n O 0 dX5_commonDivisor_33 rfl rfl ?_
  exact s_lret hret dX5_commonDivisor_34 hf
def rm_X5_inLowestTerms : Room := { frames := 1, cells := 0, slots := 0, locals := 26 }
def fj_X5_inLowestTerms_j10 (a0 : Int64) (a2 : Int64) (a4 : Int32)  (y0 : Int64) (s0 : StA) : Option (StA × (Int64)) :=
  bn (f_X5_commonDivisor a0 a2 s0) (fun s1 r2 => (if (lg_cmp r2 0) ≤ 0 then some (s1, y0) else g0l r2 (some (s1, (y0 / r2)))))
set_option maxHeartbeats 4000000 in
set_option maxRecDepth 100000 in
theorem wj_X5_inLowestTerms_j10 {E : XC} (O : OK cM E RX5 cX5_inLowestTerms 9 rm_X5_inLowestTerms) {a0 : Int64} {a2 : Int64} {a4 : Int32}   {y0 : Int64} {s0 : StA} {zs : StA} {rr : Int64} (hret : ReL cM E cX5_inLowestTerms zs rr) (hf : fj_X5_inLowestTerms_j10 a0 a2 a4 y0 s0 = some (zs, rr)) : WS cM E 9 10 [(0, .long a0), (2, .long a2)] [.long y0] s0 := by
  unfold fj_X5_inLowestTerms_j10 at hf
  refine s_lstore (lv' := [(5, .long y0), (0, .long a0), (2, .long a2)]) O dX5_inLowestTerms_10 (by decide) rfl ?_
  refine s_lload_n O 1 dX5_inLowestTerms_12 rfl rfl ?_
  refine s_lload_n O 2 dX5_inLowestTerms_13 rfl rfl ?_
  obtain ⟨s1, r2, c3, hf⟩ := bn_e hf
  refine s_SL (As := [.long a0, .long a2]) (st := []) O lk_RX5_305 (k_X5_commonDivisor c3) rfl rfl ⟨rfl, rfl⟩ ⟨Nat.le_of_ble_eq_true rfl, Nat.le_of_ble_eq_true rfl⟩ rfl (Nat.le_of_ble_eq_true rfl) dX5_inLowestTerms_14 ?_
  refine s_lstore (lv' := [(7, .long r2), (5, .long y0), (0, .long a0), (2, .long a2)]) O dX5_inLowestTerms_17 (by decide) rfl ?_
  refine s_lload O 0 dX5_inLowestTerms_19 rfl ?_
  refine s_lconst (v := 0) O dX5_inLowestTerms_21 rfl ?_
  refine s_lcmp O dX5_inLowestTerms_22 ?_
  refine s_if_le (tgt := 34) O dX5_inLowestTerms_23 (by decide) (fun c => ?_) (fun c => ?_)
  · replace hf := if_t c hf
    refine s_lload O 1 dX5_inLowestTerms_34 rfl ?_
    exact s_lret hret dX5_inLowestTerms_36 hf
  · replace hf := if_f c hf
    refine s_lload O 1 dX5_inLowestTerms_26 rfl ?_
    refine s_lload O 0 dX5_inLowestTerms_28 rfl ?_
    obtain ⟨h4, hf⟩ := g0l_e hf
    refine s_ldiv O dX5_inLowestTerms_30 h4 ?_
    refine s_goto (tgt := 36) O dX5_inLowestTerms_31 (by decide) ?_
    exact s_lret hret dX5_inLowestTerms_36 hf
def f_X5_inLowestTerms (a0 : Int64) (a2 : Int64) (a4 : Int32) (s0 : StA) : Option (StA × Int64) :=
  (if a4 = 0 then fj_X5_inLowestTerms_j10 a0 a2 a4 a0 s0 else fj_X5_inLowestTerms_j10 a0 a2 a4 a2 s0)
set_option maxHeartbeats 4000000 in
set_option maxRecDepth 100000 in
theorem k_X5_inLowestTerms {a0 : Int64} {a2 : Int64} {a4 : Int32} {s0 zs : StA} {rr : Int64} (hf : f_X5_inLowestTerms a0 a2 a4 s0 = some (zs, rr)) : CtL cM yX5_inLowestTerms cX5_inLowestTerms 9 rm_X5_inLowestTerms (fun ph => [.long a0, .long a2, .int a4]) s0 zs rr := by
  refine CtL.of (by decide +kernel) (fun ph => Nat.le_of_ble_eq_true rfl) (fun E O hret => ?_)
  have O : OK cM E RX5 cX5_inLowestTerms 9 rm_X5_inLowestTerms := O
  show WS cM E 9 0 [(0, .long a0), (2, .long a2), (4, .int a4)] [] s0
  unfold f_X5_inLowestTerms at hf
  refine s_iload O 2 dX5_inLowestTerms_0 rfl ?_
  refine s_if_ne (tgt := 9) O dX5_inLowestTerms_2 (by decide) (fun c => ?_) (fun c => ?_)
  · replace hf := if_f c hf
    refine s_lload_n O 1 dX5_inLowestTerms_9 rfl rfl ?_
    refine s_loc [0, 1] rfl ?_
    exact wj_X5_inLowestTerms_j10 (rr := rr) O   hret hf
  · replace hf := if_t c hf
    refine s_lload_n O 0 dX5_inLowestTerms_5 rfl rfl ?_
    refine s_goto (tgt := 10) O dX5_inLowestTerms_6 (by decide) ?_
    refine s_loc [0, 1] rfl ?_
    exact wj_X5_inLowestTerms_j10 (rr := rr) O   hret hf
def rm_X5_oddsThatFail : Room := { frames := 0, cells := 0, slots := 0, locals := 0 }
def fb_X5_oddsThatFail_l5 (a1 : Int32) (a2 : Int32) (x1 : Int32) (x2 : Int32) (s0 : StA) (v3 : Int64) (v5 : Int32) : Option (StA × ((Int64 × Int32) ⊕ (Int64))) :=
  (if (gi s0 6 2) ≤ v5 then some (s0, .inr v3) else (if ((x1 >>> (v5 &&& 31)) &&& 1) = 1 then nml (v3 * x2.toInt64) (fun n2 => some (s0, .inl (n2, (v5 + 1)))) else nml (v3 * (10 - x2).toInt64) (fun n1 => some (s0, .inl (n1, (v5 + 1))))))
set_option maxHeartbeats 4000000 in
set_option maxRecDepth 100000 in
theorem wb_X5_oddsThatFail_l5 {E : XC} (O : OK cM E RX5 cX5_oddsThatFail 6 rm_X5_oddsThatFail) {a1 : Int32} {a2 : Int32}  {x1 : Int32} {x2 : Int32} {s0 : StA} {v3 : Int64} {v5 : Int32} {zs : StA} {rr : Int64} (hret : ReL cM E cX5_oddsThatFail zs rr) {bs : StA} {bw : (Int64 × Int32) ⊕ (Int64)} (Kc : ∀ v, bw = .inl v → WS cM E 6 5 [(0, rf E 0), (1, .int x1), (2, .int x2), (3, .long v.1), (5, .int v.2)] [] bs) (Ke : ∀ e, bw = .inr e → WS cM E 6 49 [(3, .long e)] [] bs) (hf : fb_X5_oddsThatFail_l5 a1 a2 x1 x2 s0 v3 v5 = some (bs, bw)) : WS cM E 6 5 [(0, rf E 0), (1, .int x1), (2, .int x2), (3, .long v3), (5, .int v5)] [] s0 := by
  unfold fb_X5_oddsThatFail_l5 at hf
  refine s_iload O 4 dX5_oddsThatFail_5 rfl ?_
  refine s_aload_n O 0 dX5_oddsThatFail_7 rfl rfl ?_
  refine s_getR O fg_RX5_10 cs_0 rfl dX5_oddsThatFail_8 ?_
  refine s_getR O fg_RX5_101 cs_1 rfl dX5_oddsThatFail_11 ?_
  refine s_getI O fg_RX5_105 cs_6 rfl dX5_oddsThatFail_14 ?_
  refine s_icmp_ge (tgt := 49) O dX5_oddsThatFail_17 (by decide) (fun c => ?_) (fun c => ?_)
  · replace hf := if_t c hf
    refine s_loc [3] rfl ?_
    cases hf
    exact Ke _ rfl
  · replace hf := if_f c hf
    refine s_lload_n O 3 dX5_oddsThatFail_20 rfl rfl ?_
    refine s_iload_n O 1 dX5_oddsThatFail_21 rfl rfl ?_
    refine s_iload O 4 dX5_oddsThatFail_22 rfl ?_
    refine s_ishr O dX5_oddsThatFail_24 ?_
    refine s_iconst (v := 1) O dX5_oddsThatFail_25 rfl ?_
    refine s_iand O dX5_oddsThatFail_26 ?_
    refine s_iconst (v := 1) O dX5_oddsThatFail_27 rfl ?_
    refine s_icmp_ne (tgt := 36) O dX5_oddsThatFail_28 (by decide) (fun c => ?_) (fun c => ?_)
    · replace hf := if_f c hf
      refine s_bipush (v := 10) O dX5_oddsThatFail_36 rfl ?_
      refine s_iload_n O 2 dX5_oddsThatFail_38 rfl rfl ?_
      refine s_isub O dX5_oddsThatFail_39 ?_
      refine s_i2l O dX5_oddsThatFail_40 ?_
      refine s_lmul O dX5_oddsThatFail_41 ?_
      refine s_topl (fun n1 en1 => ?_)
      replace hf := nml_e en1 hf
      refine s_lstore_n (lv' := [(3, .long n1), (0, rf E 0), (1, .int x1), (2, .int x2), (5, .int v5)]) O dX5_oddsThatFail_42 rfl (by decide) rfl ?_
      refine s_iinc (v := (v5 + 1)) (lv' := [(5, .int (v5 + 1)), (3, .long n1), (0, rf E 0), (1, .int x1), (2, .int x2)]) O 4 dX5_oddsThatFail_43 rfl rfl (by decide) rfl ?_
      refine s_goto (tgt := 5) O dX5_oddsThatFail_46 (by decide) ?_
      refine s_loc [2, 3, 4, 1, 0] rfl ?_
      cases hf
      exact Kc _ rfl
    · replace hf := if_t c hf
      refine s_iload_n O 2 dX5_oddsThatFail_31 rfl rfl ?_
      refine s_i2l O dX5_oddsThatFail_32 ?_
      refine s_goto (tgt := 41) O dX5_oddsThatFail_33 (by decide) ?_
      refine s_lmul O dX5_oddsThatFail_41 ?_
      refine s_topl (fun n2 en2 => ?_)
      replace hf := nml_e en2 hf
      refine s_lstore_n (lv' := [(3, .long n2), (0, rf E 0), (1, .int x1), (2, .int x2), (5, .int v5)]) O dX5_oddsThatFail_42 rfl (by decide) rfl ?_
      refine s_iinc (v := (v5 + 1)) (lv' := [(5, .int (v5 + 1)), (3, .long n2), (0, rf E 0), (1, .int x1), (2, .int x2)]) O 4 dX5_oddsThatFail_43 rfl rfl (by decide) rfl ?_
      refine s_goto (tgt := 5) O dX5_oddsThatFail_46 (by decide) ?_
      refine s_loc [2, 3, 4, 1, 0] rfl ?_
      cases hf
      exact Kc _ rfl
def fl_X5_oddsThatFail_l5 (a1 : Int32) (a2 : Int32) (x1 : Int32) (x2 : Int32) (s0 : StA) (v : Int64 × Int32) : Option (StA × ((Int64))) :=
  it (fun s v => fb_X5_oddsThatFail_l5 a1 a2 x1 x2 s v.1 v.2) FU s0 v
def f_X5_oddsThatFail (a1 : Int32) (a2 : Int32) (s0 : StA) : Option (StA × Int64) :=
  bn (fl_X5_oddsThatFail_l5 a1 a2 a1 a2 s0 (1, 0)) (fun s3 u5_3 => some (s3, u5_3))
set_option maxHeartbeats 4000000 in
set_option maxRecDepth 100000 in
theorem k_X5_oddsThatFail {a1 : Int32} {a2 : Int32} {s0 zs : StA} {rr : Int64} (hf : f_X5_oddsThatFail a1 a2 s0 = some (zs, rr)) : CtL cM yX5_oddsThatFail cX5_oddsThatFail 6 rm_X5_oddsThatFail (fun ph => [.ref (ph 0), .int a1, .int a2]) s0 zs rr := by
  refine CtL.of (by decide +kernel) (fun ph => Nat.le_of_ble_eq_true rfl) (fun E O hret => ?_)
  have O : OK cM E RX5 cX5_oddsThatFail 6 rm_X5_oddsThatFail := O
  show WS cM E 6 0 [(0, rf E 0), (1, .int a1), (2, .int a2)] [] s0
  unfold f_X5_oddsThatFail at hf
  refine s_lconst (v := 1) O dX5_oddsThatFail_0 rfl ?_
  refine s_lstore_n (lv' := [(3, .long 1), (0, rf E 0), (1, .int a1), (2, .int a2)]) O dX5_oddsThatFail_1 rfl (by decide) rfl ?_
  refine s_iconst (v := 0) O dX5_oddsThatFail_2 rfl ?_
  refine s_istore (lv' := [(5, .int 0), (3, .long 1), (0, rf E 0), (1, .int a1), (2, .int a2)]) O dX5_oddsThatFail_3 (by decide) rfl ?_
  refine s_loc [2, 3, 4, 1, 0] rfl ?_
  obtain ⟨s3, u5_3, c5, hf⟩ := bn_e hf
  refine lp_of (body := fun s v => fb_X5_oddsThatFail_l5 a1 a2 a1 a2 s v.1 v.2) (X := fun s v => WS cM E 6 5 [(0, rf E 0), (1, .int a1), (2, .int a2), (3, .long v.1), (5, .int v.2)] [] s) (Y := fun s e => WS cM E 6 49 [(3, .long e)] [] s) (fun s v s' w hb Kc Ke => wb_X5_oddsThatFail_l5 (rr := rr) O   hret Kc Ke hb) FU _ _ (s3, u5_3) c5 ?_
  show WS cM E 6 49 [(3, .long u5_3)] [] s3
  refine s_lload_n O 0 dX5_oddsThatFail_49 rfl rfl ?_
  exact s_lret hret dX5_oddsThatFail_50 hf
def rm_X5_tryWithout : Room := { frames := 5, cells := 0, slots := 0, locals := 108 }
def fb_X5_tryWithout_l6 (a1 : Int32) (a2 : Int32) (x1 : Int32) (x2 : Int32) (s0 : StA) (v3 : Int32) : Option (StA × ((Int32) ⊕ (Unit))) :=
  (if (gi s0 6 2) ≤ v3 then some (s0, .inr ()) else (if ((x1 >>> (v3 &&& 31)) &&& 1) = 1 then gd v3 8 (nms (si s0 18 v3.toNatClampNeg (-1)) (fun s5 => some (s5, .inl (v3 + 1)))) else some (s0, .inl (v3 + 1))))
set_option maxHeartbeats 4000000 in
set_option maxRecDepth 100000 in
theorem wb_X5_tryWithout_l6 {E : XC} (O : OK cM E RX5 cX5_tryWithout 4 rm_X5_tryWithout) {a1 : Int32} {a2 : Int32}  {x1 : Int32} {x2 : Int32} {s0 : StA} {v3 : Int32} {zs : StA} {rr : Unit} (hret : ReV cM E cX5_tryWithout zs) {bs : StA} {bw : (Int32) ⊕ (Unit)} (Kc : ∀ v, bw = .inl v → WS cM E 4 6 [(0, rf E 0), (1, .int x1), (2, .int x2), (3, .int v)] [] bs) (Ke : ∀ e, bw = .inr e → WS cM E 4 48 [(0, rf E 0), (2, .int x2)] [] bs) (hf : fb_X5_tryWithout_l6 a1 a2 x1 x2 s0 v3 = some (bs, bw)) : WS cM E 4 6 [(0, rf E 0), (1, .int x1), (2, .int x2), (3, .int v3)] [] s0 := by
  unfold fb_X5_tryWithout_l6 at hf
  refine s_iload_n O 3 dX5_tryWithout_6 rfl rfl ?_
  refine s_aload_n O 0 dX5_tryWithout_7 rfl rfl ?_
  refine s_getR O fg_RX5_10 cs_0 rfl dX5_tryWithout_8 ?_
  refine s_getR O fg_RX5_101 cs_1 rfl dX5_tryWithout_11 ?_
  refine s_getI O fg_RX5_105 cs_6 rfl dX5_tryWithout_14 ?_
  refine s_icmp_ge (tgt := 48) O dX5_tryWithout_17 (by decide) (fun c => ?_) (fun c => ?_)
  · replace hf := if_t c hf
    refine s_loc [0, 2] rfl ?_
    cases hf
    exact Ke _ rfl
  · replace hf := if_f c hf
    refine s_iload_n O 1 dX5_tryWithout_20 rfl rfl ?_
    refine s_iload_n O 3 dX5_tryWithout_21 rfl rfl ?_
    refine s_ishr O dX5_tryWithout_22 ?_
    refine s_iconst (v := 1) O dX5_tryWithout_23 rfl ?_
    refine s_iand O dX5_tryWithout_24 ?_
    refine s_iconst (v := 1) O dX5_tryWithout_25 rfl ?_
    refine s_icmp_ne (tgt := 42) O dX5_tryWithout_26 (by decide) (fun c => ?_) (fun c => ?_)
    · replace hf := if_f c hf
      refine s_iinc (v := (v3 + 1)) (lv' := [(3, .int (v3 + 1)), (0, rf E 0), (1, .int x1), (2, .int x2)]) O 3 dX5_tryWithout_42 rfl rfl (by decide) rfl ?_
      refine s_goto (tgt := 6) O dX5_tryWithout_45 (by decide) ?_
      refine s_loc [1, 2, 3, 0] rfl ?_
      cases hf
      exact Kc _ rfl
    · replace hf := if_t c hf
      refine s_aload_n O 0 dX5_tryWithout_29 rfl rfl ?_
      refine s_getR O fg_RX5_16 cs_0 rfl dX5_tryWithout_30 ?_
      refine s_getR O fg_RX5_101 cs_12 rfl dX5_tryWithout_33 ?_
      refine s_getR O fg_RX5_136 cs_17 rfl dX5_tryWithout_36 ?_
      refine s_iload_n O 3 dX5_tryWithout_39 rfl rfl ?_
      refine s_iconst (v := (-1)) O dX5_tryWithout_40 rfl ?_
      obtain ⟨h4, hf⟩ := gd_e hf
      refine s_iast O cs_18 h4 dX5_tryWithout_41 ?_
      refine s_tops (fun s5 es5 => ?_)
      replace hf := nms_e es5 hf
      refine s_iinc (v := (v3 + 1)) (lv' := [(3, .int (v3 + 1)), (0, rf E 0), (1, .int x1), (2, .int x2)]) O 3 dX5_tryWithout_42 rfl rfl (by decide) rfl ?_
      refine s_goto (tgt := 6) O dX5_tryWithout_45 (by decide) ?_
      refine s_loc [1, 2, 3, 0] rfl ?_
      cases hf
      exact Kc _ rfl
def fl_X5_tryWithout_l6 (a1 : Int32) (a2 : Int32) (x1 : Int32) (x2 : Int32) (s0 : StA) (v : Int32) : Option (StA × ((Unit))) :=
  it (fun s v => fb_X5_tryWithout_l6 a1 a2 x1 x2 s v) FU s0 v
def f_X5_tryWithout (a1 : Int32) (a2 : Int32) (s0 : StA) : Option (StA × Unit) :=
  bn (f_X5_restartTrial  s0) (fun s1 r2 => bn (fl_X5_tryWithout_l6 a1 a2 a1 a2 s1 0) (fun s6 e7 => bn (f_X1_passAll 12 a2 s6) (fun s9 r10 => some (s9, ()))))
set_option maxHeartbeats 4000000 in
set_option maxRecDepth 100000 in
theorem k_X5_tryWithout {a1 : Int32} {a2 : Int32} {s0 zs : StA} {rr : Unit} (hf : f_X5_tryWithout a1 a2 s0 = some (zs, rr)) : CtV cM yX5_tryWithout cX5_tryWithout 4 rm_X5_tryWithout (fun ph => [.ref (ph 0), .int a1, .int a2]) s0 zs := by
  refine CtV.of (by decide +kernel) (fun ph => Nat.le_of_ble_eq_true rfl) (fun E O hret => ?_)
  have O : OK cM E RX5 cX5_tryWithout 4 rm_X5_tryWithout := O
  show WS cM E 4 0 [(0, rf E 0), (1, .int a1), (2, .int a2)] [] s0
  unfold f_X5_tryWithout at hf
  refine s_aload_n O 0 dX5_tryWithout_0 rfl rfl ?_
  obtain ⟨s1, r2, c3, hf⟩ := bn_e hf
  refine s_VV (As := []) (st := []) O lk_RX5_168 (k_X5_restartTrial c3) rfl cs_0 rfl rfl ⟨rfl, rfl⟩ ⟨Nat.le_of_ble_eq_true rfl, Nat.le_of_ble_eq_true rfl⟩ rfl (Nat.le_of_ble_eq_true rfl) dX5_tryWithout_1 ?_
  refine s_iconst (v := 0) O dX5_tryWithout_4 rfl ?_
  refine s_istore_n (lv' := [(3, .int 0), (0, rf E 0), (1, .int a1), (2, .int a2)]) O dX5_tryWithout_5 rfl (by decide) rfl ?_
  refine s_loc [1, 2, 3, 0] rfl ?_
  obtain ⟨s6, e7, c8, hf⟩ := bn_e hf
  refine lp_of (body := fun s v => fb_X5_tryWithout_l6 a1 a2 a1 a2 s v) (X := fun s v => WS cM E 4 6 [(0, rf E 0), (1, .int a1), (2, .int a2), (3, .int v)] [] s) (Y := fun s e => WS cM E 4 48 [(0, rf E 0), (2, .int a2)] [] s) (fun s v s' w hb Kc Ke => wb_X5_tryWithout_l6 (rr := rr) O   hret Kc Ke hb) FU _ _ (s6, e7) c8 ?_
  show WS cM E 4 48 [(0, rf E 0), (2, .int a2)] [] s6
  refine s_aload_n O 0 dX5_tryWithout_48 rfl rfl ?_
  refine s_getR O fg_RX5_16 cs_0 rfl dX5_tryWithout_49 ?_
  refine s_iload_n O 1 dX5_tryWithout_52 rfl rfl ?_
  obtain ⟨s9, r10, c11, hf⟩ := bn_e hf
  refine s_VV (As := [.int a2]) (st := []) O lk_RX5_161 (k_X1_passAll fl_is12 c11) rfl cs_12 rfl rfl ⟨rfl, rfl⟩ ⟨Nat.le_of_ble_eq_true rfl, Nat.le_of_ble_eq_true rfl⟩ rfl (Nat.le_of_ble_eq_true rfl) dX5_tryWithout_53 ?_
  exact s_vret hret dX5_tryWithout_56 hf
