def rm_X3_nextToken : Room := { frames := 1, cells := 0, slots := 0, locals := 24 }
def fj_X3_nextToken_j46   (y0 : Int32) (s0 : StA) : Option (StA × (Int32)) :=
  nms (si s0 47 6 y0) (fun s6 => nmi (gi s6 47 6) (fun n7 => (if n7 = 0 then some (s6, 1) else if n7 = 1 then bn (f_X3_endOfRun 1 (gi s6 47 5) s6) (fun s8 r9 => nms (si s8 47 5 r9) (fun s11 => some (s11, 1))) else if n7 = 2 then bn (f_X3_endOfRun 2 (gi s6 47 5) s6) (fun s12 r13 => nms (si s12 47 5 r13) (fun s15 => bn (f_X3_valueOf (gi s15 47 7) (gi s15 47 5) s15) (fun s16 r17 => nms (si s16 47 8 r17) (fun s19 => (if ((gi s19 47 5) - (gi s19 47 7)) ≤ 2 then some (s19, 1) else bn (f_X3_failAt (gi s19 47 7) 1 s19) (fun s20 r21 => (if r21 = 0 then some (s20, 0) else some (s20, 1)))))))) else if n7 = 3 then nms (si s6 47 5 ((gi s6 47 5) + 1)) (fun s23 => some (s23, 1)) else bn (f_X3_failAt (gi s6 47 7) 1 s6) (fun s24 r25 => gz r25 (some (s24, r25))))))
set_option maxHeartbeats 4000000 in
set_option maxRecDepth 100000 in
theorem wj_X3_nextToken_j46 {E : XC} (O : OK cM E RX3 cX3_nextToken 1 rm_X3_nextToken)    {y0 : Int32} {s0 : StA} {zs : StA} {rr : Int32} (hret : ReI cM E .boolean cX3_nextToken zs rr) (hf : fj_X3_nextToken_j46 y0 s0 = some (zs, rr)) : WS cM E 1 46 [(0, rf E 47)] [.int y0, rf E 47] s0 := by
  unfold fj_X3_nextToken_j46 at hf
  refine s_putI O fp_RX3_42 cs_47 rfl dX3_nextToken_46 ?_
  refine s_tops (fun s6 es6 => ?_)
  replace hf := nms_e es6 hf
  refine s_aload_n O 0 dX3_nextToken_49 rfl rfl ?_
  refine s_getI O fg_RX3_42 cs_47 rfl dX3_nextToken_50 ?_
  refine s_topi (fun n7 en7 => ?_)
  replace hf := nmi_e en7 hf
  by_cases q0 : n7 = 0
  · replace hf := if_t q0 hf
    refine s_tabE (v := 0) (tgt := 171) O dX3_nextToken_53 q0 (by decide) (by decide) rfl (by decide) ?_
    refine s_iconst (v := 1) O dX3_nextToken_171 rfl ?_
    exact s_iret hret rfl dX3_nextToken_172 hf
  · replace hf := if_f q0 hf
    by_cases q1 : n7 = 1
    · replace hf := if_t q1 hf
      refine s_tabE (v := 1) (tgt := 84) O dX3_nextToken_53 q1 (by decide) (by decide) rfl (by decide) ?_
      refine s_aload_n O 0 dX3_nextToken_84 rfl rfl ?_
      refine s_aload_n O 0 dX3_nextToken_85 rfl rfl ?_
      refine s_iconst (v := 1) O dX3_nextToken_86 rfl ?_
      refine s_aload_n O 0 dX3_nextToken_87 rfl rfl ?_
      refine s_getI O fg_RX3_55 cs_47 rfl dX3_nextToken_88 ?_
      obtain ⟨s8, r9, c10, hf⟩ := bn_e hf
      refine s_VI (As := [.int 1, .int (gi s6 47 5)]) (st := [rf E 47]) O lk_RX3_68 (k_X3_endOfRun c10) rfl cs_47 rfl rfl ⟨rfl, rfl⟩ ⟨Nat.le_of_ble_eq_true rfl, Nat.le_of_ble_eq_true rfl⟩ rfl (Nat.le_of_ble_eq_true rfl) dX3_nextToken_91 ?_
      refine s_putI O fp_RX3_55 cs_47 rfl dX3_nextToken_94 ?_
      refine s_tops (fun s11 es11 => ?_)
      replace hf := nms_e es11 hf
      refine s_iconst (v := 1) O dX3_nextToken_97 rfl ?_
      exact s_iret hret rfl dX3_nextToken_98 hf
    · replace hf := if_f q1 hf
      by_cases q2 : n7 = 2
      · replace hf := if_t q2 hf
        refine s_tabE (v := 2) (tgt := 99) O dX3_nextToken_53 q2 (by decide) (by decide) rfl (by decide) ?_
        refine s_aload_n O 0 dX3_nextToken_99 rfl rfl ?_
        refine s_aload_n O 0 dX3_nextToken_100 rfl rfl ?_
        refine s_iconst (v := 2) O dX3_nextToken_101 rfl ?_
        refine s_aload_n O 0 dX3_nextToken_102 rfl rfl ?_
        refine s_getI O fg_RX3_55 cs_47 rfl dX3_nextToken_103 ?_
        obtain ⟨s12, r13, c14, hf⟩ := bn_e hf
        refine s_VI (As := [.int 2, .int (gi s6 47 5)]) (st := [rf E 47]) O lk_RX3_68 (k_X3_endOfRun c14) rfl cs_47 rfl rfl ⟨rfl, rfl⟩ ⟨Nat.le_of_ble_eq_true rfl, Nat.le_of_ble_eq_true rfl⟩ rfl (Nat.le_of_ble_eq_true rfl) dX3_nextToken_106 ?_
        refine s_putI O fp_RX3_55 cs_47 rfl dX3_nextToken_109 ?_
        refine s_tops (fun s15 es15 => ?_)
        replace hf := nms_e es15 hf
        refine s_aload_n O 0 dX3_nextToken_112 rfl rfl ?_
        refine s_aload_n O 0 dX3_nextToken_113 rfl rfl ?_
        refine s_aload_n O 0 dX3_nextToken_114 rfl rfl ?_
        refine s_getI O fg_RX3_72 cs_47 rfl dX3_nextToken_115 ?_
        refine s_aload_n O 0 dX3_nextToken_118 rfl rfl ?_
        refine s_getI O fg_RX3_55 cs_47 rfl dX3_nextToken_119 ?_
        obtain ⟨s16, r17, c18, hf⟩ := bn_e hf
        refine s_VI (As := [.int (gi s15 47 7), .int (gi s15 47 5)]) (st := [rf E 47]) O lk_RX3_75 (k_X3_valueOf c18) rfl cs_47 rfl rfl ⟨rfl, rfl⟩ ⟨Nat.le_of_ble_eq_true rfl, Nat.le_of_ble_eq_true rfl⟩ rfl (Nat.le_of_ble_eq_true rfl) dX3_nextToken_122 ?_
        refine s_putI O fp_RX3_78 cs_47 rfl dX3_nextToken_125 ?_
        refine s_tops (fun s19 es19 => ?_)
        replace hf := nms_e es19 hf
        refine s_aload_n O 0 dX3_nextToken_128 rfl rfl ?_
        refine s_getI O fg_RX3_55 cs_47 rfl dX3_nextToken_129 ?_
        refine s_aload_n O 0 dX3_nextToken_132 rfl rfl ?_
        refine s_getI O fg_RX3_72 cs_47 rfl dX3_nextToken_133 ?_
        refine s_isub O dX3_nextToken_136 ?_
        refine s_iconst (v := 2) O dX3_nextToken_137 rfl ?_
        refine s_icmp_le (tgt := 153) O dX3_nextToken_138 (by decide) (fun c => ?_) (fun c => ?_)
        · replace hf := if_t c hf
          refine s_iconst (v := 1) O dX3_nextToken_153 rfl ?_
          refine s_goto (tgt := 158) O dX3_nextToken_154 (by decide) ?_
          exact s_iret hret rfl dX3_nextToken_158 hf
        · replace hf := if_f c hf
          refine s_aload_n O 0 dX3_nextToken_141 rfl rfl ?_
          refine s_aload_n O 0 dX3_nextToken_142 rfl rfl ?_
          refine s_getI O fg_RX3_72 cs_47 rfl dX3_nextToken_143 ?_
          refine s_iconst (v := 1) O dX3_nextToken_146 rfl ?_
          obtain ⟨s20, r21, c22, hf⟩ := bn_e hf
          refine s_VI (As := [.int (gi s19 47 7), .int 1]) (st := []) O lk_RX3_81 (k_X3_failAt c22) rfl cs_47 rfl rfl ⟨rfl, rfl⟩ ⟨Nat.le_of_ble_eq_true rfl, Nat.le_of_ble_eq_true rfl⟩ rfl (Nat.le_of_ble_eq_true rfl) dX3_nextToken_147 ?_
          refine s_if_eq (tgt := 157) O dX3_nextToken_150 (by decide) (fun c => ?_) (fun c => ?_)
          · replace hf := if_t c hf
            refine s_iconst (v := 0) O dX3_nextToken_157 rfl ?_
            exact s_iret hret rfl dX3_nextToken_158 hf
          · replace hf := if_f c hf
            refine s_iconst (v := 1) O dX3_nextToken_153 rfl ?_
            refine s_goto (tgt := 158) O dX3_nextToken_154 (by decide) ?_
            exact s_iret hret rfl dX3_nextToken_158 hf
      · replace hf := if_f q2 hf
        by_cases q3 : n7 = 3
        · replace hf := if_t q3 hf
          refine s_tabE (v := 3) (tgt := 159) O dX3_nextToken_53 q3 (by decide) (by decide) rfl (by decide) ?_
          refine s_aload_n O 0 dX3_nextToken_159 rfl rfl ?_
          refine s_dup O dX3_nextToken_160 rfl ?_
          refine s_getI O fg_RX3_55 cs_47 rfl dX3_nextToken_161 ?_
          refine s_iconst (v := 1) O dX3_nextToken_164 rfl ?_
          refine s_iadd O dX3_nextToken_165 ?_
          refine s_putI O fp_RX3_55 cs_47 rfl dX3_nextToken_166 ?_
          refine s_tops (fun s23 es23 => ?_)
          replace hf := nms_e es23 hf
          refine s_iconst (v := 1) O dX3_nextToken_169 rfl ?_
          exact s_iret hret rfl dX3_nextToken_170 hf
        · replace hf := if_f q3 hf
          have z0 := lv_neT q0 (a := 0) rfl
          have z1 := lv_neT q1 (a := 1) rfl
          have z2 := lv_neT q2 (a := 2) rfl
          have z3 := lv_neT q3 (a := 3) rfl
          refine s_tabO (tgt := 173) O dX3_nextToken_53 (by omega) (by decide) ?_
          refine s_aload_n O 0 dX3_nextToken_173 rfl rfl ?_
          refine s_aload_n O 0 dX3_nextToken_174 rfl rfl ?_
          refine s_getI O fg_RX3_72 cs_47 rfl dX3_nextToken_175 ?_
          refine s_iconst (v := 1) O dX3_nextToken_178 rfl ?_
          obtain ⟨s24, r25, c26, hf⟩ := bn_e hf
          refine s_VI (As := [.int (gi s6 47 7), .int 1]) (st := []) O lk_RX3_81 (k_X3_failAt c26) rfl cs_47 rfl rfl ⟨rfl, rfl⟩ ⟨Nat.le_of_ble_eq_true rfl, Nat.le_of_ble_eq_true rfl⟩ rfl (Nat.le_of_ble_eq_true rfl) dX3_nextToken_179 ?_
          obtain ⟨hz, hf⟩ := gz_e hf
          exact s_iret hret hz.nar dX3_nextToken_182 hf
def f_X3_nextToken  (s0 : StA) : Option (StA × Int32) :=
  bn (f_X3_endOfRun 4 (gi s0 47 5) s0) (fun s1 r2 => nms (si s1 47 5 r2) (fun s4 => nms (si s4 47 7 (gi s4 47 5)) (fun s5 => (if (gi s5 47 2) ≤ (gi s5 47 5) then fj_X3_nextToken_j46 0 s5 else gd (gi s5 47 5) 160 (fj_X3_nextToken_j46 (gi s5 49 (gi s5 47 5).toNatClampNeg) s5)))))
set_option maxHeartbeats 4000000 in
set_option maxRecDepth 100000 in
theorem k_X3_nextToken  {s0 zs : StA} {rr : Int32} (hf : f_X3_nextToken  s0 = some (zs, rr)) : CtI cM yX3_nextToken cX3_nextToken 1 .boolean rm_X3_nextToken (fun ph => [.ref (ph 47)]) s0 zs rr := by
  refine CtI.of (by decide +kernel) (fun ph => Nat.le_of_ble_eq_true rfl) (fun E O hret => ?_)
  have O : OK cM E RX3 cX3_nextToken 1 rm_X3_nextToken := O
  show WS cM E 1 0 [(0, rf E 47)] [] s0
  unfold f_X3_nextToken at hf
  refine s_aload_n O 0 dX3_nextToken_0 rfl rfl ?_
  refine s_aload_n O 0 dX3_nextToken_1 rfl rfl ?_
  refine s_iconst (v := 4) O dX3_nextToken_2 rfl ?_
  refine s_aload_n O 0 dX3_nextToken_3 rfl rfl ?_
  refine s_getI O fg_RX3_55 cs_47 rfl dX3_nextToken_4 ?_
  obtain ⟨s1, r2, c3, hf⟩ := bn_e hf
  refine s_VI (As := [.int 4, .int (gi s0 47 5)]) (st := [rf E 47]) O lk_RX3_68 (k_X3_endOfRun c3) rfl cs_47 rfl rfl ⟨rfl, rfl⟩ ⟨Nat.le_of_ble_eq_true rfl, Nat.le_of_ble_eq_true rfl⟩ rfl (Nat.le_of_ble_eq_true rfl) dX3_nextToken_7 ?_
  refine s_putI O fp_RX3_55 cs_47 rfl dX3_nextToken_10 ?_
  refine s_tops (fun s4 es4 => ?_)
  replace hf := nms_e es4 hf
  refine s_aload_n O 0 dX3_nextToken_13 rfl rfl ?_
  refine s_aload_n O 0 dX3_nextToken_14 rfl rfl ?_
  refine s_getI O fg_RX3_55 cs_47 rfl dX3_nextToken_15 ?_
  refine s_putI O fp_RX3_72 cs_47 rfl dX3_nextToken_18 ?_
  refine s_tops (fun s5 es5 => ?_)
  replace hf := nms_e es5 hf
  refine s_aload_n O 0 dX3_nextToken_21 rfl rfl ?_
  refine s_aload_n O 0 dX3_nextToken_22 rfl rfl ?_
  refine s_getI O fg_RX3_55 cs_47 rfl dX3_nextToken_23 ?_
  refine s_aload_n O 0 dX3_nextToken_26 rfl rfl ?_
  refine s_getI O fg_RX3_18 cs_47 rfl dX3_nextToken_27 ?_
  refine s_icmp_ge (tgt := 45) O dX3_nextToken_30 (by decide) (fun c => ?_) (fun c => ?_)
  · replace hf := if_t c hf
    refine s_iconst (v := 0) O dX3_nextToken_45 rfl ?_
    exact wj_X3_nextToken_j46 (rr := rr) O   hret hf
  · replace hf := if_f c hf
    refine s_aload_n O 0 dX3_nextToken_33 rfl rfl ?_
    refine s_getR O fg_RX3_15 cs_47 rfl dX3_nextToken_34 ?_
    refine s_aload_n O 0 dX3_nextToken_37 rfl rfl ?_
    refine s_getI O fg_RX3_55 cs_47 rfl dX3_nextToken_38 ?_
    obtain ⟨h27, hf⟩ := gd_e hf
    refine s_iald O cs_49 h27 dX3_nextToken_41 ?_
    refine s_goto (tgt := 46) O dX3_nextToken_42 (by decide) ?_
    exact wj_X3_nextToken_j46 (rr := rr) O   hret hf
def rm_X3_readNumber : Room := { frames := 2, cells := 0, slots := 0, locals := 44 }
def f_X3_readNumber (a1 : Int32) (a2 : Int32) (s0 : StA) : Option (StA × Int32) :=
  bn (f_X3_nextToken  s0) (fun s1 r2 => (if r2 = 0 then some (s1, 0) else (if (gi s1 47 6) = 2 then bn (f_X5_isIn (gi s1 47 8) a1 a2 s1) (fun s4 r5 => (if r5 = 0 then bn (f_X3_failAt (gi s4 47 7) 3 s4) (fun s7 r8 => (if r8 = 0 then some (s7, 0) else some (s7, 1))) else some (s4, 1))) else bn (f_X3_failAt (gi s1 47 7) 2 s1) (fun s10 r11 => gz r11 (some (s10, r11))))))
set_option maxHeartbeats 4000000 in
set_option maxRecDepth 100000 in
theorem k_X3_readNumber {a1 : Int32} {a2 : Int32} {s0 zs : StA} {rr : Int32} (hf : f_X3_readNumber a1 a2 s0 = some (zs, rr)) : CtI cM yX3_readNumber cX3_readNumber 3 .boolean rm_X3_readNumber (fun ph => [.ref (ph 47), .int a1, .int a2]) s0 zs rr := by
  refine CtI.of (by decide +kernel) (fun ph => Nat.le_of_ble_eq_true rfl) (fun E O hret => ?_)
  have O : OK cM E RX3 cX3_readNumber 3 rm_X3_readNumber := O
  show WS cM E 3 0 [(0, rf E 47), (1, .int a1), (2, .int a2)] [] s0
  unfold f_X3_readNumber at hf
  refine s_aload_n O 0 dX3_readNumber_0 rfl rfl ?_
  obtain ⟨s1, r2, c3, hf⟩ := bn_e hf
  refine s_VI (As := []) (st := []) O lk_RX3_38 (k_X3_nextToken c3) rfl cs_47 rfl rfl ⟨rfl, rfl⟩ ⟨Nat.le_of_ble_eq_true rfl, Nat.le_of_ble_eq_true rfl⟩ rfl (Nat.le_of_ble_eq_true rfl) dX3_readNumber_1 ?_
  refine s_if_ne (tgt := 9) O dX3_readNumber_4 (by decide) (fun c => ?_) (fun c => ?_)
  · replace hf := if_f c hf
    refine s_aload_n O 0 dX3_readNumber_9 rfl rfl ?_
    refine s_getI O fg_RX3_42 cs_47 rfl dX3_readNumber_10 ?_
    refine s_iconst (v := 2) O dX3_readNumber_13 rfl ?_
    refine s_icmp_eq (tgt := 27) O dX3_readNumber_14 (by decide) (fun c => ?_) (fun c => ?_)
    · replace hf := if_t c hf
      refine s_aload_n O 0 dX3_readNumber_27 rfl rfl ?_
      refine s_getI O fg_RX3_78 cs_47 rfl dX3_readNumber_28 ?_
      refine s_iload_n O 1 dX3_readNumber_31 rfl rfl ?_
      refine s_iload_n O 2 dX3_readNumber_32 rfl rfl ?_
      obtain ⟨s4, r5, c6, hf⟩ := bn_e hf
      refine s_NI (As := [.int (gi s1 47 8), .int a1, .int a2]) (st := []) O lk_RX3_26 (k_X5_isIn c6) rfl rfl ⟨rfl, rfl⟩ ⟨Nat.le_of_ble_eq_true rfl, Nat.le_of_ble_eq_true rfl⟩ rfl (Nat.le_of_ble_eq_true rfl) dX3_readNumber_33 ?_
      refine s_if_ne (tgt := 51) O dX3_readNumber_36 (by decide) (fun c => ?_) (fun c => ?_)
      · replace hf := if_f c hf
        refine s_iconst (v := 1) O dX3_readNumber_51 rfl ?_
        refine s_goto (tgt := 56) O dX3_readNumber_52 (by decide) ?_
        exact s_iret hret rfl dX3_readNumber_56 hf
      · replace hf := if_t c hf
        refine s_aload_n O 0 dX3_readNumber_39 rfl rfl ?_
        refine s_aload_n O 0 dX3_readNumber_40 rfl rfl ?_
        refine s_getI O fg_RX3_72 cs_47 rfl dX3_readNumber_41 ?_
        refine s_iconst (v := 3) O dX3_readNumber_44 rfl ?_
        obtain ⟨s7, r8, c9, hf⟩ := bn_e hf
        refine s_VI (As := [.int (gi s4 47 7), .int 3]) (st := []) O lk_RX3_81 (k_X3_failAt c9) rfl cs_47 rfl rfl ⟨rfl, rfl⟩ ⟨Nat.le_of_ble_eq_true rfl, Nat.le_of_ble_eq_true rfl⟩ rfl (Nat.le_of_ble_eq_true rfl) dX3_readNumber_45 ?_
        refine s_if_eq (tgt := 55) O dX3_readNumber_48 (by decide) (fun c => ?_) (fun c => ?_)
        · replace hf := if_t c hf
          refine s_iconst (v := 0) O dX3_readNumber_55 rfl ?_
          exact s_iret hret rfl dX3_readNumber_56 hf
        · replace hf := if_f c hf
          refine s_iconst (v := 1) O dX3_readNumber_51 rfl ?_
          refine s_goto (tgt := 56) O dX3_readNumber_52 (by decide) ?_
          exact s_iret hret rfl dX3_readNumber_56 hf
    · replace hf := if_f c hf
      refine s_aload_n O 0 dX3_readNumber_17 rfl rfl ?_
      refine s_aload_n O 0 dX3_readNumber_18 rfl rfl ?_
      refine s_getI O fg_RX3_72 cs_47 rfl dX3_readNumber_19 ?_
      refine s_iconst (v := 2) O dX3_readNumber_22 rfl ?_
      obtain ⟨s10, r11, c12, hf⟩ := bn_e hf
      refine s_VI (As := [.int (gi s1 47 7), .int 2]) (st := []) O lk_RX3_81 (k_X3_failAt c12) rfl cs_47 rfl rfl ⟨rfl, rfl⟩ ⟨Nat.le_of_ble_eq_true rfl, Nat.le_of_ble_eq_true rfl⟩ rfl (Nat.le_of_ble_eq_true rfl) dX3_readNumber_23 ?_
      obtain ⟨hz, hf⟩ := gz_e hf
      exact s_iret hret hz.nar dX3_readNumber_26 hf
  · replace hf := if_t c hf
    refine s_iconst (v := 0) O dX3_readNumber_7 rfl ?_
    exact s_iret hret rfl dX3_readNumber_8 hf
def rm_X3_readSemicolon : Room := { frames := 2, cells := 0, slots := 0, locals := 44 }
def f_X3_readSemicolon  (s0 : StA) : Option (StA × Int32) :=
  bn (f_X3_nextToken  s0) (fun s1 r2 => (if r2 = 0 then some (s1, 0) else (if (gi s1 47 6) = 3 then some (s1, 1) else bn (f_X3_failAt (gi s1 47 7) 2 s1) (fun s4 r5 => (if r5 = 0 then some (s4, 0) else some (s4, 1))))))
set_option maxHeartbeats 4000000 in
set_option maxRecDepth 100000 in
theorem k_X3_readSemicolon  {s0 zs : StA} {rr : Int32} (hf : f_X3_readSemicolon  s0 = some (zs, rr)) : CtI cM yX3_readSemicolon cX3_readSemicolon 1 .boolean rm_X3_readSemicolon (fun ph => [.ref (ph 47)]) s0 zs rr := by
  refine CtI.of (by decide +kernel) (fun ph => Nat.le_of_ble_eq_true rfl) (fun E O hret => ?_)
  have O : OK cM E RX3 cX3_readSemicolon 1 rm_X3_readSemicolon := O
  show WS cM E 1 0 [(0, rf E 47)] [] s0
  unfold f_X3_readSemicolon at hf
  refine s_aload_n O 0 dX3_readSemicolon_0 rfl rfl ?_
  obtain ⟨s1, r2, c3, hf⟩ := bn_e hf
  refine s_VI (As := []) (st := []) O lk_RX3_38 (k_X3_nextToken c3) rfl cs_47 rfl rfl ⟨rfl, rfl⟩ ⟨Nat.le_of_ble_eq_true rfl, Nat.le_of_ble_eq_true rfl⟩ rfl (Nat.le_of_ble_eq_true rfl) dX3_readSemicolon_1 ?_
  refine s_if_ne (tgt := 9) O dX3_readSemicolon_4 (by decide) (fun c => ?_) (fun c => ?_)
  · replace hf := if_f c hf
    refine s_aload_n O 0 dX3_readSemicolon_9 rfl rfl ?_
    refine s_getI O fg_RX3_42 cs_47 rfl dX3_readSemicolon_10 ?_
    refine s_iconst (v := 3) O dX3_readSemicolon_13 rfl ?_
    refine s_icmp_eq (tgt := 29) O dX3_readSemicolon_14 (by decide) (fun c => ?_) (fun c => ?_)
    · replace hf := if_t c hf
      refine s_iconst (v := 1) O dX3_readSemicolon_29 rfl ?_
      refine s_goto (tgt := 34) O dX3_readSemicolon_30 (by decide) ?_
      exact s_iret hret rfl dX3_readSemicolon_34 hf
    · replace hf := if_f c hf
      refine s_aload_n O 0 dX3_readSemicolon_17 rfl rfl ?_
      refine s_aload_n O 0 dX3_readSemicolon_18 rfl rfl ?_
      refine s_getI O fg_RX3_72 cs_47 rfl dX3_readSemicolon_19 ?_
      refine s_iconst (v := 2) O dX3_readSemicolon_22 rfl ?_
      obtain ⟨s4, r5, c6, hf⟩ := bn_e hf
      refine s_VI (As := [.int (gi s1 47 7), .int 2]) (st := []) O lk_RX3_81 (k_X3_failAt c6) rfl cs_47 rfl rfl ⟨rfl, rfl⟩ ⟨Nat.le_of_ble_eq_true rfl, Nat.le_of_ble_eq_true rfl⟩ rfl (Nat.le_of_ble_eq_true rfl) dX3_readSemicolon_23 ?_
      refine s_if_eq (tgt := 33) O dX3_readSemicolon_26 (by decide) (fun c => ?_) (fun c => ?_)
      · replace hf := if_t c hf
        refine s_iconst (v := 0) O dX3_readSemicolon_33 rfl ?_
        exact s_iret hret rfl dX3_readSemicolon_34 hf
      · replace hf := if_f c hf
        refine s_iconst (v := 1) O dX3_readSemicolon_29 rfl ?_
        refine s_goto (tgt := 34) O dX3_readSemicolon_30 (by decide) ?_
        exact s_iret hret rfl dX3_readSemicolon_34 hf
  · replace hf := if_t c hf
    refine s_iconst (v := 0) O dX3_readSemicolon_7 rfl ?_
    exact s_iret hret rfl dX3_readSemicolon_8 hf
def rm_X3_readRate : Room := { frames := 3, cells := 0, slots := 0, locals := 66 }
def f_X3_readRate (a1 : Nat) (s0 : StA) : Option (StA × Int32) :=
  (if (gi s0 47 10) = 0 then nms (si s0 47 10 1) (fun s1 => bn (f_X3_readNumber 1 9 s1) (fun s2 r3 => (if r3 = 0 then some (s2, 0) else nms (si s2 a1 10 (gi s2 47 8)) (fun s5 => bn (f_X3_readSemicolon  s5) (fun s6 r7 => gz r7 (some (s6, r7))))))) else bn (f_X3_failAt (gi s0 47 7) 4 s0) (fun s9 r10 => gz r10 (some (s9, r10))))
set_option maxHeartbeats 4000000 in
set_option maxRecDepth 100000 in
theorem k_X3_readRate {a1 : Nat} (ha1 : isFl a1) {s0 zs : StA} {rr : Int32} (hf : f_X3_readRate a1 s0 = some (zs, rr)) : CtI cM yX3_readRate cX3_readRate 2 .boolean rm_X3_readRate (fun ph => [.ref (ph 47), .ref (ph a1)]) s0 zs rr := by
  refine CtI.of (by decide +kernel) (fun ph => Nat.le_of_ble_eq_true rfl) (fun E O hret => ?_)
  have O : OK cM E RX3 cX3_readRate 2 rm_X3_readRate := O
  show WS cM E 2 0 [(0, rf E 47), (1, rf E a1)] [] s0
  unfold f_X3_readRate at hf
  refine s_aload_n O 0 dX3_readRate_0 rfl rfl ?_
  refine s_getI O fg_RX3_61 cs_47 rfl dX3_readRate_1 ?_
  refine s_if_eq (tgt := 17) O dX3_readRate_4 (by decide) (fun c => ?_) (fun c => ?_)
  · replace hf := if_t c hf
    refine s_aload_n O 0 dX3_readRate_17 rfl rfl ?_
    refine s_iconst (v := 1) O dX3_readRate_18 rfl ?_
    refine s_putZ O fp_RX3_61 (Or.inr rfl) cs_47 rfl dX3_readRate_19 ?_
    refine s_tops (fun s1 es1 => ?_)
    replace hf := nms_e es1 hf
    refine s_aload_n O 0 dX3_readRate_22 rfl rfl ?_
    refine s_iconst (v := 1) O dX3_readRate_23 rfl ?_
    refine s_bipush (v := 9) O dX3_readRate_24 rfl ?_
    obtain ⟨s2, r3, c4, hf⟩ := bn_e hf
    refine s_VI (As := [.int 1, .int 9]) (st := []) O lk_RX3_141 (k_X3_readNumber c4) rfl cs_47 rfl rfl ⟨rfl, rfl⟩ ⟨Nat.le_of_ble_eq_true rfl, Nat.le_of_ble_eq_true rfl⟩ rfl (Nat.le_of_ble_eq_true rfl) dX3_readRate_26 ?_
    refine s_if_ne (tgt := 34) O dX3_readRate_29 (by decide) (fun c => ?_) (fun c => ?_)
    · replace hf := if_f c hf
      refine s_aload_n O 1 dX3_readRate_34 rfl rfl ?_
      refine s_aload_n O 0 dX3_readRate_35 rfl rfl ?_
      refine s_getI O fg_RX3_78 cs_47 rfl dX3_readRate_36 ?_
      refine s_putI O fp_RX3_153 (fl_0 ha1) rfl dX3_readRate_39 ?_
      refine s_tops (fun s5 es5 => ?_)
      replace hf := nms_e es5 hf
      refine s_aload_n O 0 dX3_readRate_42 rfl rfl ?_
      obtain ⟨s6, r7, c8, hf⟩ := bn_e hf
      refine s_VI (As := []) (st := []) O lk_RX3_147 (k_X3_readSemicolon c8) rfl cs_47 rfl rfl ⟨rfl, rfl⟩ ⟨Nat.le_of_ble_eq_true rfl, Nat.le_of_ble_eq_true rfl⟩ rfl (Nat.le_of_ble_eq_true rfl) dX3_readRate_43 ?_
      obtain ⟨hz, hf⟩ := gz_e hf
      exact s_iret hret hz.nar dX3_readRate_46 hf
    · replace hf := if_t c hf
      refine s_iconst (v := 0) O dX3_readRate_32 rfl ?_
      exact s_iret hret rfl dX3_readRate_33 hf
  · replace hf := if_f c hf
    refine s_aload_n O 0 dX3_readRate_7 rfl rfl ?_
    refine s_aload_n O 0 dX3_readRate_8 rfl rfl ?_
    refine s_getI O fg_RX3_72 cs_47 rfl dX3_readRate_9 ?_
    refine s_iconst (v := 4) O dX3_readRate_12 rfl ?_
    obtain ⟨s9, r10, c11, hf⟩ := bn_e hf
    refine s_VI (As := [.int (gi s0 47 7), .int 4]) (st := []) O lk_RX3_81 (k_X3_failAt c11) rfl cs_47 rfl rfl ⟨rfl, rfl⟩ ⟨Nat.le_of_ble_eq_true rfl, Nat.le_of_ble_eq_true rfl⟩ rfl (Nat.le_of_ble_eq_true rfl) dX3_readRate_13 ?_
    obtain ⟨hz, hf⟩ := gz_e hf
    exact s_iret hret hz.nar dX3_readRate_16 hf
def rm_X3_readStart : Room := { frames := 3, cells := 0, slots := 0, locals := 66 }
def f_X3_readStart (a1 : Nat) (s0 : StA) : Option (StA × Int32) :=
  (if (gi s0 47 11) = 0 then nms (si s0 47 11 1) (fun s1 => bn (f_X3_readNumber 0 60 s1) (fun s2 r3 => (if r3 = 0 then some (s2, 0) else nms (si s2 a1 8 (gi s2 47 8)) (fun s5 => bn (f_X3_readNumber 0 99 s5) (fun s6 r7 => (if r7 = 0 then some (s6, 0) else nms (si s6 a1 9 (gi s6 47 8)) (fun s9 => bn (f_X3_readSemicolon  s9) (fun s10 r11 => gz r11 (some (s10, r11)))))))))) else bn (f_X3_failAt (gi s0 47 7) 4 s0) (fun s13 r14 => gz r14 (some (s13, r14))))
set_option maxHeartbeats 4000000 in
set_option maxRecDepth 100000 in
theorem k_X3_readStart {a1 : Nat} (ha1 : isFl a1) {s0 zs : StA} {rr : Int32} (hf : f_X3_readStart a1 s0 = some (zs, rr)) : CtI cM yX3_readStart cX3_readStart 2 .boolean rm_X3_readStart (fun ph => [.ref (ph 47), .ref (ph a1)]) s0 zs rr := by
  refine CtI.of (by decide +kernel) (fun ph => Nat.le_of_ble_eq_true rfl) (fun E O hret => ?_)
  have O : OK cM E RX3 cX3_readStart 2 rm_X3_readStart := O
  show WS cM E 2 0 [(0, rf E 47), (1, rf E a1)] [] s0
  unfold f_X3_readStart at hf
  refine s_aload_n O 0 dX3_readStart_0 rfl rfl ?_
  refine s_getI O fg_RX3_65 cs_47 rfl dX3_readStart_1 ?_
  refine s_if_eq (tgt := 17) O dX3_readStart_4 (by decide) (fun c => ?_) (fun c => ?_)
  · replace hf := if_t c hf
    refine s_aload_n O 0 dX3_readStart_17 rfl rfl ?_
    refine s_iconst (v := 1) O dX3_readStart_18 rfl ?_
    refine s_putZ O fp_RX3_65 (Or.inr rfl) cs_47 rfl dX3_readStart_19 ?_
    refine s_tops (fun s1 es1 => ?_)
    replace hf := nms_e es1 hf
    refine s_aload_n O 0 dX3_readStart_22 rfl rfl ?_
    refine s_iconst (v := 0) O dX3_readStart_23 rfl ?_
    refine s_bipush (v := 60) O dX3_readStart_24 rfl ?_
    obtain ⟨s2, r3, c4, hf⟩ := bn_e hf
    refine s_VI (As := [.int 0, .int 60]) (st := []) O lk_RX3_141 (k_X3_readNumber c4) rfl cs_47 rfl rfl ⟨rfl, rfl⟩ ⟨Nat.le_of_ble_eq_true rfl, Nat.le_of_ble_eq_true rfl⟩ rfl (Nat.le_of_ble_eq_true rfl) dX3_readStart_26 ?_
    refine s_if_ne (tgt := 34) O dX3_readStart_29 (by decide) (fun c => ?_) (fun c => ?_)
    · replace hf := if_f c hf
      refine s_aload_n O 1 dX3_readStart_34 rfl rfl ?_
      refine s_aload_n O 0 dX3_readStart_35 rfl rfl ?_
      refine s_getI O fg_RX3_78 cs_47 rfl dX3_readStart_36 ?_
      refine s_putI O fp_RX3_155 (fl_0 ha1) rfl dX3_readStart_39 ?_
      refine s_tops (fun s5 es5 => ?_)
      replace hf := nms_e es5 hf
      refine s_aload_n O 0 dX3_readStart_42 rfl rfl ?_
      refine s_iconst (v := 0) O dX3_readStart_43 rfl ?_
      refine s_bipush (v := 99) O dX3_readStart_44 rfl ?_
      obtain ⟨s6, r7, c8, hf⟩ := bn_e hf
      refine s_VI (As := [.int 0, .int 99]) (st := []) O lk_RX3_141 (k_X3_readNumber c8) rfl cs_47 rfl rfl ⟨rfl, rfl⟩ ⟨Nat.le_of_ble_eq_true rfl, Nat.le_of_ble_eq_true rfl⟩ rfl (Nat.le_of_ble_eq_true rfl) dX3_readStart_46 ?_
      refine s_if_ne (tgt := 54) O dX3_readStart_49 (by decide) (fun c => ?_) (fun c => ?_)
      · replace hf := if_f c hf
        refine s_aload_n O 1 dX3_readStart_54 rfl rfl ?_
        refine s_aload_n O 0 dX3_readStart_55 rfl rfl ?_
        refine s_getI O fg_RX3_78 cs_47 rfl dX3_readStart_56 ?_
        refine s_putI O fp_RX3_158 (fl_0 ha1) rfl dX3_readStart_59 ?_
        refine s_tops (fun s9 es9 => ?_)
        replace hf := nms_e es9 hf
        refine s_aload_n O 0 dX3_readStart_62 rfl rfl ?_
        obtain ⟨s10, r11, c12, hf⟩ := bn_e hf
        refine s_VI (As := []) (st := []) O lk_RX3_147 (k_X3_readSemicolon c12) rfl cs_47 rfl rfl ⟨rfl, rfl⟩ ⟨Nat.le_of_ble_eq_true rfl, Nat.le_of_ble_eq_true rfl⟩ rfl (Nat.le_of_ble_eq_true rfl) dX3_readStart_63 ?_
        obtain ⟨hz, hf⟩ := gz_e hf
        exact s_iret hret hz.nar dX3_readStart_66 hf
      · replace hf := if_t c hf
        refine s_iconst (v := 0) O dX3_readStart_52 rfl ?_
        exact s_iret hret rfl dX3_readStart_53 hf
    · replace hf := if_t c hf
      refine s_iconst (v := 0) O dX3_readStart_32 rfl ?_
      exact s_iret hret rfl dX3_readStart_33 hf
  · replace hf := if_f c hf
    refine s_aload_n O 0 dX3_readStart_7 rfl rfl ?_
    refine s_aload_n O 0 dX3_readStart_8 rfl rfl ?_
    refine s_getI O fg_RX3_72 cs_47 rfl dX3_readStart_9 ?_
    refine s_iconst (v := 4) O dX3_readStart_12 rfl ?_
    obtain ⟨s13, r14, c15, hf⟩ := bn_e hf
    refine s_VI (As := [.int (gi s0 47 7), .int 4]) (st := []) O lk_RX3_81 (k_X3_failAt c15) rfl cs_47 rfl rfl ⟨rfl, rfl⟩ ⟨Nat.le_of_ble_eq_true rfl, Nat.le_of_ble_eq_true rfl⟩ rfl (Nat.le_of_ble_eq_true rfl) dX3_readStart_13 ?_
    obtain ⟨hz, hf⟩ := gz_e hf
    exact s_iret hret hz.nar dX3_readStart_16 hf
def rm_X5_greatestOf : Room := { frames := 0, cells := 0, slots := 0, locals := 0 }
def f_X5_greatestOf (a0 : Int32) (s0 : StA) : Option (StA × Int32) :=
  (if a0 = 0 then some (s0, 3) else (if a0 = 1 then some (s0, 9) else some (s0, 1)))
set_option maxHeartbeats 4000000 in
set_option maxRecDepth 100000 in
theorem k_X5_greatestOf {a0 : Int32} {s0 zs : StA} {rr : Int32} (hf : f_X5_greatestOf a0 s0 = some (zs, rr)) : CtI cM yX5_greatestOf cX5_greatestOf 1 .int rm_X5_greatestOf (fun ph => [.int a0]) s0 zs rr := by
  refine CtI.of (by decide +kernel) (fun ph => Nat.le_of_ble_eq_true rfl) (fun E O hret => ?_)
  have O : OK cM E RX5 cX5_greatestOf 1 rm_X5_greatestOf := O
  show WS cM E 1 0 [(0, .int a0)] [] s0
  unfold f_X5_greatestOf at hf
  refine s_iload_n O 0 dX5_greatestOf_0 rfl rfl ?_
  refine s_if_ne (tgt := 8) O dX5_greatestOf_1 (by decide) (fun c => ?_) (fun c => ?_)
  · replace hf := if_f c hf
    refine s_iload_n O 0 dX5_greatestOf_8 rfl rfl ?_
    refine s_iconst (v := 1) O dX5_greatestOf_9 rfl ?_
    refine s_icmp_ne (tgt := 18) O dX5_greatestOf_10 (by decide) (fun c => ?_) (fun c => ?_)
    · replace hf := if_f c hf
      refine s_iconst (v := 1) O dX5_greatestOf_18 rfl ?_
      exact s_iret hret rfl dX5_greatestOf_19 hf
    · replace hf := if_t c hf
      refine s_bipush (v := 9) O dX5_greatestOf_13 rfl ?_
      refine s_goto (tgt := 19) O dX5_greatestOf_15 (by decide) ?_
      exact s_iret hret rfl dX5_greatestOf_19 hf
  · replace hf := if_t c hf
    refine s_iconst (v := 3) O dX5_greatestOf_4 rfl ?_
    refine s_goto (tgt := 19) O dX5_greatestOf_5 (by decide) ?_
    exact s_iret hret rfl dX5_greatestOf_19 hf
def rm_X5_leastOf : Room := { frames := 0, cells := 0, slots := 0, locals := 0 }
def f_X5_leastOf (a0 : Int32) (s0 : StA) : Option (StA × Int32) :=
  (if a0 = 1 then some (s0, 1) else some (s0, 0))
set_option maxHeartbeats 4000000 in
set_option maxRecDepth 100000 in
theorem k_X5_leastOf {a0 : Int32} {s0 zs : StA} {rr : Int32} (hf : f_X5_leastOf a0 s0 = some (zs, rr)) : CtI cM yX5_leastOf cX5_leastOf 1 .int rm_X5_leastOf (fun ph => [.int a0]) s0 zs rr := by
  refine CtI.of (by decide +kernel) (fun ph => Nat.le_of_ble_eq_true rfl) (fun E O hret => ?_)
  have O : OK cM E RX5 cX5_leastOf 1 rm_X5_leastOf := O
  show WS cM E 1 0 [(0, .int a0)] [] s0
  unfold f_X5_leastOf at hf
  refine s_iload_n O 0 dX5_leastOf_0 rfl rfl ?_
  refine s_iconst (v := 1) O dX5_leastOf_1 rfl ?_
  refine s_icmp_ne (tgt := 9) O dX5_leastOf_2 (by decide) (fun c => ?_) (fun c => ?_)
  · replace hf := if_f c hf
    refine s_iconst (v := 0) O dX5_leastOf_9 rfl ?_
    exact s_iret hret rfl dX5_leastOf_10 hf
  · replace hf := if_t c hf
    refine s_iconst (v := 1) O dX5_leastOf_5 rfl ?_
    refine s_goto (tgt := 10) O dX5_leastOf_6 (by decide) ?_
    exact s_iret hret rfl dX5_leastOf_10 hf
def rm_X1_addThing : Room := { frames := 0, cells := 0, slots := 0, locals := 0 }
def f_X1_addThing (k : Nat) (a1 : Int32) (a2 : Int32) (a3 : Int32) (s0 : StA) : Option (StA × Int32) :=
  (if (gi s0 k 6) < 6 then gd (gi s0 k 6) 6 (nms (si s0 (k + 1) ((gi s0 k 6).toNatClampNeg) a1) (fun s2 => gd (gi s2 k 6) 6 (nms (si s2 (k + 2) ((gi s2 k 6).toNatClampNeg) a2) (fun s4 => gd (gi s4 k 6) 6 (nms (si s4 (k + 3) ((gi s4 k 6).toNatClampNeg) a3) (fun s6 => nms (si s6 k 6 ((gi s6 k 6) + 1)) (fun s7 => some (s7, 1)))))))) else some (s0, 0))
set_option maxHeartbeats 4000000 in
set_option maxRecDepth 100000 in
theorem k_X1_addThing {k : Nat} {a1 : Int32} {a2 : Int32} {a3 : Int32} (hk : isFl k) {s0 zs : StA} {rr : Int32} (hf : f_X1_addThing k a1 a2 a3 s0 = some (zs, rr)) : CtI cM yX1_addThing cX1_addThing 4 .boolean rm_X1_addThing (fun ph => [.ref (ph k), .int a1, .int a2, .int a3]) s0 zs rr := by
  refine CtI.of (by decide +kernel) (fun ph => Nat.le_of_ble_eq_true rfl) (fun E O hret => ?_)
  have O : OK cM E RX1 cX1_addThing 4 rm_X1_addThing := O
  show WS cM E 4 0 [(0, rf E k), (1, .int a1), (2, .int a2), (3, .int a3)] [] s0
  unfold f_X1_addThing at hf
  refine s_aload_n O 0 dX1_addThing_0 rfl rfl ?_
  refine s_getI O fg_RX1_46 (fl_0 hk) rfl dX1_addThing_1 ?_
  refine s_bipush (v := 6) O dX1_addThing_4 rfl ?_
  refine s_icmp_lt (tgt := 11) O dX1_addThing_6 (by decide) (fun c => ?_) (fun c => ?_)
  · replace hf := if_t c hf
    refine s_aload_n O 0 dX1_addThing_11 rfl rfl ?_
    refine s_getR O fg_RX1_9 (fl_0 hk) rfl dX1_addThing_12 ?_
    refine s_aload_n O 0 dX1_addThing_15 rfl rfl ?_
    refine s_getI O fg_RX1_46 (fl_0 hk) rfl dX1_addThing_16 ?_
    refine s_iload_n O 1 dX1_addThing_19 rfl rfl ?_
    obtain ⟨h1, hf⟩ := gd_e hf
    refine s_iast O (fl_1 hk) h1 dX1_addThing_20 ?_
    refine s_tops (fun s2 es2 => ?_)
    replace hf := nms_e es2 hf
    refine s_aload_n O 0 dX1_addThing_21 rfl rfl ?_
    refine s_getR O fg_RX1_15 (fl_0 hk) rfl dX1_addThing_22 ?_
    refine s_aload_n O 0 dX1_addThing_25 rfl rfl ?_
    refine s_getI O fg_RX1_46 (fl_0 hk) rfl dX1_addThing_26 ?_
    refine s_iload_n O 2 dX1_addThing_29 rfl rfl ?_
    obtain ⟨h3, hf⟩ := gd_e hf
    refine s_iast O (fl_2 hk) h3 dX1_addThing_30 ?_
    refine s_tops (fun s4 es4 => ?_)
    replace hf := nms_e es4 hf
    refine s_aload_n O 0 dX1_addThing_31 rfl rfl ?_
    refine s_getR O fg_RX1_18 (fl_0 hk) rfl dX1_addThing_32 ?_
    refine s_aload_n O 0 dX1_addThing_35 rfl rfl ?_
    refine s_getI O fg_RX1_46 (fl_0 hk) rfl dX1_addThing_36 ?_
    refine s_iload_n O 3 dX1_addThing_39 rfl rfl ?_
    obtain ⟨h5, hf⟩ := gd_e hf
    refine s_iast O (fl_3 hk) h5 dX1_addThing_40 ?_
    refine s_tops (fun s6 es6 => ?_)
    replace hf := nms_e es6 hf
    refine s_aload_n O 0 dX1_addThing_41 rfl rfl ?_
    refine s_dup O dX1_addThing_42 rfl ?_
    refine s_getI O fg_RX1_46 (fl_0 hk) rfl dX1_addThing_43 ?_
    refine s_iconst (v := 1) O dX1_addThing_46 rfl ?_
    refine s_iadd O dX1_addThing_47 ?_
    refine s_putI O fp_RX1_46 (fl_0 hk) rfl dX1_addThing_48 ?_
    refine s_tops (fun s7 es7 => ?_)
    replace hf := nms_e es7 hf
    refine s_iconst (v := 1) O dX1_addThing_51 rfl ?_
    exact s_iret hret rfl dX1_addThing_52 hf
  · replace hf := if_f c hf
    refine s_iconst (v := 0) O dX1_addThing_9 rfl ?_
    exact s_iret hret rfl dX1_addThing_10 hf
def rm_X3_readThing : Room := { frames := 3, cells := 0, slots := 0, locals := 66 }
def f_X3_readThing (a1 : Nat) (a2 : Int32) (s0 : StA) : Option (StA × Int32) :=
  (if (gi s0 a1 6) < 6 then bn (f_X5_leastOf 1 s0) (fun s1 r2 => bn (f_X5_greatestOf 1 s1) (fun s4 r5 => bn (f_X3_readNumber r2 r5 s4) (fun s7 r8 => (if r8 = 0 then some (s7, 0) else nmi (gi s7 47 8) (fun n10 => bn (f_X5_leastOf 2 s7) (fun s11 r12 => bn (f_X5_greatestOf 2 s11) (fun s14 r15 => bn (f_X3_readNumber r12 r15 s14) (fun s17 r18 => (if r18 = 0 then some (s17, 0) else bn (f_X1_addThing a1 a2 n10 (gi s17 47 8) s17) (fun s20 r21 => (if r21 = 0 then some (s20, 0) else bn (f_X3_readSemicolon  s20) (fun s23 r24 => (if r24 = 0 then some (s23, 0) else some (s23, 1)))))))))))))) else bn (f_X3_failAt (gi s0 47 7) 5 s0) (fun s26 r27 => gz r27 (some (s26, r27))))
set_option maxHeartbeats 4000000 in
set_option maxRecDepth 100000 in
theorem k_X3_readThing {a1 : Nat} {a2 : Int32} (ha1 : isFl a1) {s0 zs : StA} {rr : Int32} (hf : f_X3_readThing a1 a2 s0 = some (zs, rr)) : CtI cM yX3_readThing cX3_readThing 4 .boolean rm_X3_readThing (fun ph => [.ref (ph 47), .ref (ph a1), .int a2]) s0 zs rr := by
  refine CtI.of (by decide +kernel) (fun ph => Nat.le_of_ble_eq_true rfl) (fun E O hret => ?_)
  have O : OK cM E RX3 cX3_readThing 4 rm_X3_readThing := O
  show WS cM E 4 0 [(0, rf E 47), (1, rf E a1), (2, .int a2)] [] s0
  unfold f_X3_readThing at hf
  refine s_aload_n O 1 dX3_readThing_0 rfl rfl ?_
  refine s_getI O fg_RX3_132 (fl_0 ha1) rfl dX3_readThing_1 ?_
  refine s_bipush (v := 6) O dX3_readThing_4 rfl ?_
  refine s_icmp_lt (tgt := 19) O dX3_readThing_6 (by decide) (fun c => ?_) (fun c => ?_)
  · replace hf := if_t c hf
    refine s_aload_n O 0 dX3_readThing_19 rfl rfl ?_
    refine s_iconst (v := 1) O dX3_readThing_20 rfl ?_
    obtain ⟨s1, r2, c3, hf⟩ := bn_e hf
    refine s_NI (As := [.int 1]) (st := [rf E 47]) O lk_RX3_135 (k_X5_leastOf c3) rfl rfl ⟨rfl, rfl⟩ ⟨Nat.le_of_ble_eq_true rfl, Nat.le_of_ble_eq_true rfl⟩ rfl (Nat.le_of_ble_eq_true rfl) dX3_readThing_21 ?_
    refine s_iconst (v := 1) O dX3_readThing_24 rfl ?_
    obtain ⟨s4, r5, c6, hf⟩ := bn_e hf
    refine s_NI (As := [.int 1]) (st := [.int r2, rf E 47]) O lk_RX3_138 (k_X5_greatestOf c6) rfl rfl ⟨rfl, rfl⟩ ⟨Nat.le_of_ble_eq_true rfl, Nat.le_of_ble_eq_true rfl⟩ rfl (Nat.le_of_ble_eq_true rfl) dX3_readThing_25 ?_
    obtain ⟨s7, r8, c9, hf⟩ := bn_e hf
    refine s_VI (As := [.int r2, .int r5]) (st := []) O lk_RX3_141 (k_X3_readNumber c9) rfl cs_47 rfl rfl ⟨rfl, rfl⟩ ⟨Nat.le_of_ble_eq_true rfl, Nat.le_of_ble_eq_true rfl⟩ rfl (Nat.le_of_ble_eq_true rfl) dX3_readThing_28 ?_
    refine s_if_ne (tgt := 36) O dX3_readThing_31 (by decide) (fun c => ?_) (fun c => ?_)
    · replace hf := if_f c hf
      refine s_aload_n O 0 dX3_readThing_36 rfl rfl ?_
      refine s_getI O fg_RX3_78 cs_47 rfl dX3_readThing_37 ?_
      refine s_topi (fun n10 en10 => ?_)
      replace hf := nmi_e en10 hf
      refine s_istore_n (lv' := [(3, .int n10), (0, rf E 47), (1, rf E a1), (2, .int a2)]) O dX3_readThing_40 rfl (by decide) rfl ?_
      refine s_aload_n O 1 dX3_readThing_41 rfl rfl ?_
      refine s_iconst (v := 2) O dX3_readThing_42 rfl ?_
      obtain ⟨s11, r12, c13, hf⟩ := bn_e hf
      refine s_NI (As := [.int 2]) (st := [rf E 47]) O lk_RX3_135 (k_X5_leastOf c13) rfl rfl ⟨rfl, rfl⟩ ⟨Nat.le_of_ble_eq_true rfl, Nat.le_of_ble_eq_true rfl⟩ rfl (Nat.le_of_ble_eq_true rfl) dX3_readThing_43 ?_
      refine s_iconst (v := 2) O dX3_readThing_46 rfl ?_
      obtain ⟨s14, r15, c16, hf⟩ := bn_e hf
      refine s_NI (As := [.int 2]) (st := [.int r12, rf E 47]) O lk_RX3_138 (k_X5_greatestOf c16) rfl rfl ⟨rfl, rfl⟩ ⟨Nat.le_of_ble_eq_true rfl, Nat.le_of_ble_eq_true rfl⟩ rfl (Nat.le_of_ble_eq_true rfl) dX3_readThing_47 ?_
      obtain ⟨s17, r18, c19, hf⟩ := bn_e hf
      refine s_VI (As := [.int r12, .int r15]) (st := []) O lk_RX3_141 (k_X3_readNumber c19) rfl cs_47 rfl rfl ⟨rfl, rfl⟩ ⟨Nat.le_of_ble_eq_true rfl, Nat.le_of_ble_eq_true rfl⟩ rfl (Nat.le_of_ble_eq_true rfl) dX3_readThing_50 ?_
      refine s_if_eq (tgt := 80) O dX3_readThing_53 (by decide) (fun c => ?_) (fun c => ?_)
      · replace hf := if_t c hf
        refine s_iconst (v := 0) O dX3_readThing_80 rfl ?_
        exact s_iret hret rfl dX3_readThing_81 hf
      · replace hf := if_f c hf
        refine s_aload_n O 2 dX3_readThing_56 rfl rfl ?_
        refine s_iload_n O 3 dX3_readThing_57 rfl rfl ?_
        refine s_iload_n O 0 dX3_readThing_58 rfl rfl ?_
        refine s_aload_n O 1 dX3_readThing_59 rfl rfl ?_
        refine s_getI O fg_RX3_78 cs_47 rfl dX3_readThing_60 ?_
        obtain ⟨s20, r21, c22, hf⟩ := bn_e hf
        refine s_VI (As := [.int a2, .int n10, .int (gi s17 47 8)]) (st := []) O lk_RX3_144 (k_X1_addThing ha1 c22) rfl (fl_0 ha1) rfl rfl ⟨rfl, rfl⟩ ⟨Nat.le_of_ble_eq_true rfl, Nat.le_of_ble_eq_true rfl⟩ rfl (Nat.le_of_ble_eq_true rfl) dX3_readThing_63 ?_
        refine s_if_eq (tgt := 80) O dX3_readThing_66 (by decide) (fun c => ?_) (fun c => ?_)
        · replace hf := if_t c hf
          refine s_iconst (v := 0) O dX3_readThing_80 rfl ?_
          exact s_iret hret rfl dX3_readThing_81 hf
        · replace hf := if_f c hf
          refine s_aload_n O 1 dX3_readThing_69 rfl rfl ?_
          obtain ⟨s23, r24, c25, hf⟩ := bn_e hf
          refine s_VI (As := []) (st := []) O lk_RX3_147 (k_X3_readSemicolon c25) rfl cs_47 rfl rfl ⟨rfl, rfl⟩ ⟨Nat.le_of_ble_eq_true rfl, Nat.le_of_ble_eq_true rfl⟩ rfl (Nat.le_of_ble_eq_true rfl) dX3_readThing_70 ?_
          refine s_if_eq (tgt := 80) O dX3_readThing_73 (by decide) (fun c => ?_) (fun c => ?_)
          · replace hf := if_t c hf
            refine s_iconst (v := 0) O dX3_readThing_80 rfl ?_
            exact s_iret hret rfl dX3_readThing_81 hf
          · replace hf := if_f c hf
            refine s_iconst (v := 1) O dX3_readThing_76 rfl ?_
            refine s_goto (tgt := 81) O dX3_readThing_77 (by decide) ?_
            exact s_iret hret rfl dX3_readThing_81 hf
    · replace hf := if_t c hf
      refine s_iconst (v := 0) O dX3_readThing_34 rfl ?_
      exact s_iret hret rfl dX3_readThing_35 hf
  · replace hf := if_f c hf
    refine s_aload_n O 0 dX3_readThing_9 rfl rfl ?_
    refine s_aload_n O 0 dX3_readThing_10 rfl rfl ?_
    refine s_getI O fg_RX3_72 cs_47 rfl dX3_readThing_11 ?_
    refine s_iconst (v := 5) O dX3_readThing_14 rfl ?_
    obtain ⟨s26, r27, c28, hf⟩ := bn_e hf
    refine s_VI (As := [.int (gi s0 47 7), .int 5]) (st := []) O lk_RX3_81 (k_X3_failAt c28) rfl cs_47 rfl rfl ⟨rfl, rfl⟩ ⟨Nat.le_of_ble_eq_true rfl, Nat.le_of_ble_eq_true rfl⟩ rfl (Nat.le_of_ble_eq_true rfl) dX3_readThing_15 ?_
    obtain ⟨hz, hf⟩ := gz_e hf
    exact s_iret hret hz.nar dX3_readThing_18 hf
def rm_X3_readWind : Room := { frames := 3, cells := 0, slots := 0, locals := 66 }
def f_X3_readWind (a1 : Nat) (s0 : StA) : Option (StA × Int32) :=
  bn (f_X3_readNumber 0 4 s0) (fun s1 r2 => (if r2 = 0 then some (s1, 0) else nmi (gi s1 47 8) (fun n4 => (if (((gi s1 47 9) >>> (n4 &&& 31)) &&& 1) = 1 then bn (f_X3_failAt (gi s1 47 7) 4 s1) (fun s14 r15 => gz r15 (some (s14, r15))) else nms (si s1 47 9 ((gi s1 47 9) ||| (1 <<< (n4 &&& 31)))) (fun s5 => bn (f_X3_readNumber 0 8 s5) (fun s6 r7 => (if r7 = 0 then some (s6, 0) else gd n4 5 (nms (si s6 (a1 + 4) n4.toNatClampNeg (gi s6 47 8)) (fun s10 => bn (f_X3_readSemicolon  s10) (fun s11 r12 => gz r12 (some (s11, r12))))))))))))
set_option maxHeartbeats 4000000 in
set_option maxRecDepth 100000 in
theorem k_X3_readWind {a1 : Nat} (ha1 : isFl a1) {s0 zs : StA} {rr : Int32} (hf : f_X3_readWind a1 s0 = some (zs, rr)) : CtI cM yX3_readWind cX3_readWind 3 .boolean rm_X3_readWind (fun ph => [.ref (ph 47), .ref (ph a1)]) s0 zs rr := by
  refine CtI.of (by decide +kernel) (fun ph => Nat.le_of_ble_eq_true rfl) (fun E O hret => ?_)
  have O : OK cM E RX3 cX3_readWind 3 rm_X3_readWind := O
  show WS cM E 3 0 [(0, rf E 47), (1, rf E a1)] [] s0
  unfold f_X3_readWind at hf
  refine s_aload_n O 0 dX3_readWind_0 rfl rfl ?_
  refine s_iconst (v := 0) O dX3_readWind_1 rfl ?_
  refine s_iconst (v := 4) O dX3_readWind_2 rfl ?_
  obtain ⟨s1, r2, c3, hf⟩ := bn_e hf
  refine s_VI (As := [.int 0, .int 4]) (st := []) O lk_RX3_141 (k_X3_readNumber c3) rfl cs_47 rfl rfl ⟨rfl, rfl⟩ ⟨Nat.le_of_ble_eq_true rfl, Nat.le_of_ble_eq_true rfl⟩ rfl (Nat.le_of_ble_eq_true rfl) dX3_readWind_3 ?_
  refine s_if_ne (tgt := 11) O dX3_readWind_6 (by decide) (fun c => ?_) (fun c => ?_)
  · replace hf := if_f c hf
    refine s_aload_n O 0 dX3_readWind_11 rfl rfl ?_
    refine s_getI O fg_RX3_78 cs_47 rfl dX3_readWind_12 ?_
    refine s_topi (fun n4 en4 => ?_)
    replace hf := nmi_e en4 hf
    refine s_istore_n (lv' := [(2, .int n4), (0, rf E 47), (1, rf E a1)]) O dX3_readWind_15 rfl (by decide) rfl ?_
    refine s_aload_n O 1 dX3_readWind_16 rfl rfl ?_
    refine s_getI O fg_RX3_58 cs_47 rfl dX3_readWind_17 ?_
    refine s_iload_n O 0 dX3_readWind_20 rfl rfl ?_
    refine s_ishr O dX3_readWind_21 ?_
    refine s_iconst (v := 1) O dX3_readWind_22 rfl ?_
    refine s_iand O dX3_readWind_23 ?_
    refine s_iconst (v := 1) O dX3_readWind_24 rfl ?_
    refine s_icmp_ne (tgt := 38) O dX3_readWind_25 (by decide) (fun c => ?_) (fun c => ?_)
    · replace hf := if_f c hf
      refine s_aload_n O 1 dX3_readWind_38 rfl rfl ?_
      refine s_dup O dX3_readWind_39 rfl ?_
      refine s_getI O fg_RX3_58 cs_47 rfl dX3_readWind_40 ?_
      refine s_iconst (v := 1) O dX3_readWind_43 rfl ?_
      refine s_iload_n O 0 dX3_readWind_44 rfl rfl ?_
      refine s_ishl O dX3_readWind_45 ?_
      refine s_ior O dX3_readWind_46 ?_
      refine s_putI O fp_RX3_58 cs_47 rfl dX3_readWind_47 ?_
      refine s_tops (fun s5 es5 => ?_)
      replace hf := nms_e es5 hf
      refine s_aload_n O 1 dX3_readWind_50 rfl rfl ?_
      refine s_iconst (v := 0) O dX3_readWind_51 rfl ?_
      refine s_bipush (v := 8) O dX3_readWind_52 rfl ?_
      obtain ⟨s6, r7, c8, hf⟩ := bn_e hf
      refine s_VI (As := [.int 0, .int 8]) (st := []) O lk_RX3_141 (k_X3_readNumber c8) rfl cs_47 rfl rfl ⟨rfl, rfl⟩ ⟨Nat.le_of_ble_eq_true rfl, Nat.le_of_ble_eq_true rfl⟩ rfl (Nat.le_of_ble_eq_true rfl) dX3_readWind_54 ?_
      refine s_if_ne (tgt := 62) O dX3_readWind_57 (by decide) (fun c => ?_) (fun c => ?_)
      · replace hf := if_f c hf
        refine s_aload_n O 2 dX3_readWind_62 rfl rfl ?_
        refine s_getR O fg_RX3_150 (fl_0 ha1) rfl dX3_readWind_63 ?_
        refine s_iload_n O 0 dX3_readWind_66 rfl rfl ?_
        refine s_aload_n O 1 dX3_readWind_67 rfl rfl ?_
        refine s_getI O fg_RX3_78 cs_47 rfl dX3_readWind_68 ?_
        obtain ⟨h9, hf⟩ := gd_e hf
        refine s_iast O (fl_4 ha1) h9 dX3_readWind_71 ?_
        refine s_tops (fun s10 es10 => ?_)
        replace hf := nms_e es10 hf
        refine s_aload_n O 1 dX3_readWind_72 rfl rfl ?_
        obtain ⟨s11, r12, c13, hf⟩ := bn_e hf
        refine s_VI (As := []) (st := []) O lk_RX3_147 (k_X3_readSemicolon c13) rfl cs_47 rfl rfl ⟨rfl, rfl⟩ ⟨Nat.le_of_ble_eq_true rfl, Nat.le_of_ble_eq_true rfl⟩ rfl (Nat.le_of_ble_eq_true rfl) dX3_readWind_73 ?_
        obtain ⟨hz, hf⟩ := gz_e hf
        exact s_iret hret hz.nar dX3_readWind_76 hf
      · replace hf := if_t c hf
        refine s_iconst (v := 0) O dX3_readWind_60 rfl ?_
        exact s_iret hret rfl dX3_readWind_61 hf
    · replace hf := if_t c hf
      refine s_aload_n O 1 dX3_readWind_28 rfl rfl ?_
      refine s_aload_n O 1 dX3_readWind_29 rfl rfl ?_
      refine s_getI O fg_RX3_72 cs_47 rfl dX3_readWind_30 ?_
      refine s_iconst (v := 4) O dX3_readWind_33 rfl ?_
      obtain ⟨s14, r15, c16, hf⟩ := bn_e hf
      refine s_VI (As := [.int (gi s1 47 7), .int 4]) (st := []) O lk_RX3_81 (k_X3_failAt c16) rfl cs_47 rfl rfl ⟨rfl, rfl⟩ ⟨Nat.le_of_ble_eq_true rfl, Nat.le_of_ble_eq_true rfl⟩ rfl (Nat.le_of_ble_eq_true rfl) dX3_readWind_34 ?_
      obtain ⟨hz, hf⟩ := gz_e hf
      exact s_iret hret hz.nar dX3_readWind_37 hf
  · replace hf := if_t c hf
    refine s_iconst (v := 0) O dX3_readWind_9 rfl ?_
    exact s_iret hret rfl dX3_readWind_10 hf
def rm_X5_fault : Room := { frames := 0, cells := 0, slots := 0, locals := 0 }
def f_X5_fault  (s0 : StA) : Option (StA × Int32) :=
  some (s0, (gi s0 47 3))
set_option maxHeartbeats 4000000 in
set_option maxRecDepth 100000 in
theorem k_X5_fault  {s0 zs : StA} {rr : Int32} (hf : f_X5_fault  s0 = some (zs, rr)) : CtI cM yX5_fault cX5_fault 1 .int rm_X5_fault (fun ph => [.ref (ph 0)]) s0 zs rr := by
  refine CtI.of (by decide +kernel) (fun ph => Nat.le_of_ble_eq_true rfl) (fun E O hret => ?_)
  have O : OK cM E RX5 cX5_fault 1 rm_X5_fault := O
  show WS cM E 1 0 [(0, rf E 0)] [] s0
  unfold f_X5_fault at hf
  refine s_aload_n O 0 dX5_fault_0 rfl rfl ?_
  refine s_getR O fg_RX5_30 cs_0 rfl dX5_fault_1 ?_
  refine s_getI O fg_RX5_79 cs_47 rfl dX5_fault_4 ?_
  exact s_iret hret rfl dX5_fault_7 hf
def rm_X5_bounded : Room := { frames := 1, cells := 0, slots := 0, locals := 21 }
def f_X5_bounded (a0 : Int32) (a1 : Int32) (a2 : Int32) (s0 : StA) : Option (StA × Int32) :=
  nmi (if a0 < a2 then a0 else a2) (fun n1 => nmi (if a1 < n1 then n1 else a1) (fun n2 => some (s0, n2)))
set_option maxHeartbeats 4000000 in
set_option maxRecDepth 100000 in
theorem k_X5_bounded {a0 : Int32} {a1 : Int32} {a2 : Int32} {s0 zs : StA} {rr : Int32} (hf : f_X5_bounded a0 a1 a2 s0 = some (zs, rr)) : CtI cM yX5_bounded cX5_bounded 3 .int rm_X5_bounded (fun ph => [.int a0, .int a1, .int a2]) s0 zs rr := by
  refine CtI.of (by decide +kernel) (fun ph => Nat.le_of_ble_eq_true rfl) (fun E O hret => ?_)
  have O : OK cM E RX5 cX5_bounded 3 rm_X5_bounded := O
  show WS cM E 3 0 [(0, .int a0), (1, .int a1), (2, .int a2)] [] s0
  unfold f_X5_bounded at hf
  refine s_iload_n O 1 dX5_bounded_0 rfl rfl ?_
  refine s_iload_n O 2 dX5_bounded_1 rfl rfl ?_
  refine s_iload_n O 0 dX5_bounded_2 rfl rfl ?_
  refine s_mmin (st := [.int a1]) O lk_RX5_203 ⟨Nat.le_of_ble_eq_true rfl, Nat.le_of_ble_eq_true rfl⟩ (Nat.le_of_ble_eq_true rfl) dX5_bounded_3 ?_
  refine s_topi (fun n1 en1 => ?_)
  replace hf := nmi_e en1 hf
  refine s_mmax (st := []) O lk_RX5_266 ⟨Nat.le_of_ble_eq_true rfl, Nat.le_of_ble_eq_true rfl⟩ (Nat.le_of_ble_eq_true rfl) dX5_bounded_6 ?_
  refine s_topi (fun n2 en2 => ?_)
  replace hf := nmi_e en2 hf
  exact s_iret hret rfl dX5_bounded_9 hf
def rm_X1_isSaid : Room := { frames := 0, cells := 0, slots := 0, locals := 0 }
def f_X1_isSaid (k : Nat) (a1 : Int32) (s0 : StA) : Option (StA × Int32) :=
  (if (((gi s0 k 7) >>> (a1 &&& 31)) &&& 1) = 1 then some (s0, 1) else some (s0, 0))
set_option maxHeartbeats 4000000 in
set_option maxRecDepth 100000 in
theorem k_X1_isSaid {k : Nat} {a1 : Int32} (hk : isFl k) {s0 zs : StA} {rr : Int32} (hf : f_X1_isSaid k a1 s0 = some (zs, rr)) : CtI cM yX1_isSaid cX1_isSaid 2 .boolean rm_X1_isSaid (fun ph => [.ref (ph k), .int a1]) s0 zs rr := by
  refine CtI.of (by decide +kernel) (fun ph => Nat.le_of_ble_eq_true rfl) (fun E O hret => ?_)
  have O : OK cM E RX1 cX1_isSaid 2 rm_X1_isSaid := O
  show WS cM E 2 0 [(0, rf E k), (1, .int a1)] [] s0
  unfold f_X1_isSaid at hf
  refine s_aload_n O 0 dX1_isSaid_0 rfl rfl ?_
  refine s_getI O fg_RX1_49 (fl_0 hk) rfl dX1_isSaid_1 ?_
  refine s_iload_n O 1 dX1_isSaid_4 rfl rfl ?_
  refine s_ishr O dX1_isSaid_5 ?_
  refine s_iconst (v := 1) O dX1_isSaid_6 rfl ?_
  refine s_iand O dX1_isSaid_7 ?_
  refine s_iconst (v := 1) O dX1_isSaid_8 rfl ?_
  refine s_icmp_ne (tgt := 16) O dX1_isSaid_9 (by decide) (fun c => ?_) (fun c => ?_)
  · replace hf := if_f c hf
    refine s_iconst (v := 0) O dX1_isSaid_16 rfl ?_
    exact s_iret hret rfl dX1_isSaid_17 hf
  · replace hf := if_t c hf
    refine s_iconst (v := 1) O dX1_isSaid_12 rfl ?_
    refine s_goto (tgt := 17) O dX1_isSaid_13 (by decide) ?_
    exact s_iret hret rfl dX1_isSaid_17 hf
def rm_X1_liftOf : Room := { frames := 1, cells := 0, slots := 0, locals := 21 }
def f_X1_liftOf (k : Nat) (a1 : Int32) (s0 : StA) : Option (StA × Int32) :=
  gd a1 6 (nmi (gi s0 (k + 2) a1.toNatClampNeg) (fun n2 => bn (f_X1_isSaid k a1 s0) (fun s3 r4 => (if r4 = 0 then gd a1 6 ((if (gi s3 (k + 1) a1.toNatClampNeg) = 2 then some (s3, (2 * n2)) else some (s3, n2))) else gd a1 6 (nmi (gi s3 (k + 1) a1.toNatClampNeg) (fun n7 => (if n7 = 1 then some (s3, (n2 / 2)) else if n7 = 3 then some (s3, (-(n2 / 2))) else some (s3, 0))))))))
set_option maxHeartbeats 4000000 in
set_option maxRecDepth 100000 in
theorem k_X1_liftOf {k : Nat} {a1 : Int32} (hk : isFl k) {s0 zs : StA} {rr : Int32} (hf : f_X1_liftOf k a1 s0 = some (zs, rr)) : CtI cM yX1_liftOf cX1_liftOf 3 .int rm_X1_liftOf (fun ph => [.ref (ph k), .int a1]) s0 zs rr := by
  refine CtI.of (by decide +kernel) (fun ph => Nat.le_of_ble_eq_true rfl) (fun E O hret => ?_)
  have O : OK cM E RX1 cX1_liftOf 3 rm_X1_liftOf := O
  show WS cM E 3 0 [(0, rf E k), (1, .int a1)] [] s0
  unfold f_X1_liftOf at hf
  refine s_aload_n O 0 dX1_liftOf_0 rfl rfl ?_
  refine s_getR O fg_RX1_15 (fl_0 hk) rfl dX1_liftOf_1 ?_
  refine s_iload_n O 1 dX1_liftOf_4 rfl rfl ?_
  obtain ⟨h1, hf⟩ := gd_e hf
  refine s_iald O (fl_2 hk) h1 dX1_liftOf_5 ?_
  refine s_topi (fun n2 en2 => ?_)
  replace hf := nmi_e en2 hf
  refine s_istore_n (lv' := [(2, .int n2), (0, rf E k), (1, .int a1)]) O dX1_liftOf_6 rfl (by decide) rfl ?_
  refine s_aload_n O 1 dX1_liftOf_7 rfl rfl ?_
  refine s_iload_n O 2 dX1_liftOf_8 rfl rfl ?_
  obtain ⟨s3, r4, c5, hf⟩ := bn_e hf
  refine s_VI (As := [.int a1]) (st := []) O lk_RX1_80 (k_X1_isSaid hk c5) rfl (fl_0 hk) rfl rfl ⟨rfl, rfl⟩ ⟨Nat.le_of_ble_eq_true rfl, Nat.le_of_ble_eq_true rfl⟩ rfl (Nat.le_of_ble_eq_true rfl) dX1_liftOf_9 ?_
  refine s_if_ne (tgt := 33) O dX1_liftOf_12 (by decide) (fun c => ?_) (fun c => ?_)
  · replace hf := if_f c hf
    refine s_aload_n O 1 dX1_liftOf_33 rfl rfl ?_
    refine s_getR O fg_RX1_9 (fl_0 hk) rfl dX1_liftOf_34 ?_
    refine s_iload_n O 2 dX1_liftOf_37 rfl rfl ?_
    obtain ⟨h6, hf⟩ := gd_e hf
    refine s_iald O (fl_1 hk) h6 dX1_liftOf_38 ?_
    refine s_topi (fun n7 en7 => ?_)
    replace hf := nmi_e en7 hf
    by_cases q1 : n7 = 1
    · replace hf := if_t q1 hf
      refine s_lookE (v := 1) (tgt := 64) O dX1_liftOf_39 q1 (by decide) (by decide) (by decide) ?_
      refine s_iload_n O 0 dX1_liftOf_64 rfl rfl ?_
      refine s_iconst (v := 2) O dX1_liftOf_65 rfl ?_
      refine s_idiv O dX1_liftOf_66 (by decide) ?_
      exact s_iret hret rfl dX1_liftOf_67 hf
    · replace hf := if_f q1 hf
      by_cases q3 : n7 = 3
      · replace hf := if_t q3 hf
        refine s_lookE (v := 3) (tgt := 68) O dX1_liftOf_39 q3 (by decide) (by decide) (by decide) ?_
        refine s_iload_n O 0 dX1_liftOf_68 rfl rfl ?_
        refine s_iconst (v := 2) O dX1_liftOf_69 rfl ?_
        refine s_idiv O dX1_liftOf_70 (by decide) ?_
        refine s_ineg O dX1_liftOf_71 ?_
        exact s_iret hret rfl dX1_liftOf_72 hf
      · replace hf := if_f q3 hf
        refine s_look (off := 34) (tgt := 73) O dX1_liftOf_39 (by decide) ((lv_osw q1 rfl).trans ((lv_osw q3 rfl).trans rfl)) (by decide) ?_
        refine s_iconst (v := 0) O dX1_liftOf_73 rfl ?_
        exact s_iret hret rfl dX1_liftOf_74 hf
  · replace hf := if_t c hf
    refine s_aload_n O 1 dX1_liftOf_15 rfl rfl ?_
    refine s_getR O fg_RX1_9 (fl_0 hk) rfl dX1_liftOf_16 ?_
    refine s_iload_n O 2 dX1_liftOf_19 rfl rfl ?_
    obtain ⟨h8, hf⟩ := gd_e hf
    refine s_iald O (fl_1 hk) h8 dX1_liftOf_20 ?_
    refine s_iconst (v := 2) O dX1_liftOf_21 rfl ?_
    refine s_icmp_ne (tgt := 31) O dX1_liftOf_22 (by decide) (fun c => ?_) (fun c => ?_)
    · replace hf := if_f c hf
      refine s_iload_n O 0 dX1_liftOf_31 rfl rfl ?_
      exact s_iret hret rfl dX1_liftOf_32 hf
    · replace hf := if_t c hf
      refine s_iconst (v := 2) O dX1_liftOf_25 rfl ?_
      refine s_iload_n O 0 dX1_liftOf_26 rfl rfl ?_
      refine s_imul O dX1_liftOf_27 ?_
      refine s_goto (tgt := 32) O dX1_liftOf_28 (by decide) ?_
      exact s_iret hret rfl dX1_liftOf_32 hf
def rm_X1_lift : Room := { frames := 2, cells := 0, slots := 0, locals := 43 }
def fb_X1_lift_l4 (k : Nat)  (s0 : StA) (v1 : Int32) (v2 : Int32) : Option (StA × ((Int32 × Int32) ⊕ (Int32))) :=
  (if (gi s0 k 6) ≤ v2 then some (s0, .inr v1) else bn (f_X1_liftOf k v2 s0) (fun s1 r2 => nmi (v1 + r2) (fun n4 => some (s1, .inl (n4, (v2 + 1))))))
set_option maxHeartbeats 4000000 in
set_option maxRecDepth 100000 in
theorem wb_X1_lift_l4 {E : XC} (O : OK cM E RX1 cX1_lift 3 rm_X1_lift) {k : Nat} (hk : isFl k)   {s0 : StA} {v1 : Int32} {v2 : Int32} {zs : StA} {rr : Int32} (hret : ReI cM E .int cX1_lift zs rr) {bs : StA} {bw : (Int32 × Int32) ⊕ (Int32)} (Kc : ∀ v, bw = .inl v → WS cM E 3 4 [(0, rf E k), (1, .int v.1), (2, .int v.2)] [] bs) (Ke : ∀ e, bw = .inr e → WS cM E 3 26 [(1, .int e)] [] bs) (hf : fb_X1_lift_l4 k s0 v1 v2 = some (bs, bw)) : WS cM E 3 4 [(0, rf E k), (1, .int v1), (2, .int v2)] [] s0 := by
  unfold fb_X1_lift_l4 at hf
  refine s_iload_n O 2 dX1_lift_4 rfl rfl ?_
  refine s_aload_n O 0 dX1_lift_5 rfl rfl ?_
  refine s_getI O fg_RX1_46 (fl_0 hk) rfl dX1_lift_6 ?_
  refine s_icmp_ge (tgt := 26) O dX1_lift_9 (by decide) (fun c => ?_) (fun c => ?_)
  · replace hf := if_t c hf
    refine s_loc [1] rfl ?_
    cases hf
    exact Ke _ rfl
  · replace hf := if_f c hf
    refine s_iload_n O 1 dX1_lift_12 rfl rfl ?_
    refine s_aload_n O 0 dX1_lift_13 rfl rfl ?_
    refine s_iload_n O 2 dX1_lift_14 rfl rfl ?_
    obtain ⟨s1, r2, c3, hf⟩ := bn_e hf
    refine s_VI (As := [.int v2]) (st := [.int v1]) O lk_RX1_83 (k_X1_liftOf hk c3) rfl (fl_0 hk) rfl rfl ⟨rfl, rfl⟩ ⟨Nat.le_of_ble_eq_true rfl, Nat.le_of_ble_eq_true rfl⟩ rfl (Nat.le_of_ble_eq_true rfl) dX1_lift_15 ?_
    refine s_iadd O dX1_lift_18 ?_
    refine s_topi (fun n4 en4 => ?_)
    replace hf := nmi_e en4 hf
    refine s_istore_n (lv' := [(1, .int n4), (0, rf E k), (2, .int v2)]) O dX1_lift_19 rfl (by decide) rfl ?_
    refine s_iinc (v := (v2 + 1)) (lv' := [(2, .int (v2 + 1)), (1, .int n4), (0, rf E k)]) O 2 dX1_lift_20 rfl rfl (by decide) rfl ?_
    refine s_goto (tgt := 4) O dX1_lift_23 (by decide) ?_
    refine s_loc [2, 1, 0] rfl ?_
    cases hf
    exact Kc _ rfl
def fl_X1_lift_l4 (k : Nat)  (s0 : StA) (v : Int32 × Int32) : Option (StA × ((Int32))) :=
  it (fun s v => fb_X1_lift_l4 k s v.1 v.2) FU s0 v
def f_X1_lift (k : Nat) (s0 : StA) : Option (StA × Int32) :=
  bn (fl_X1_lift_l4 k s0 (0, 0)) (fun s5 u4_1 => bn (f_X5_bounded u4_1 0 60 s5) (fun s8 r9 => some (s8, r9)))
set_option maxHeartbeats 4000000 in
set_option maxRecDepth 100000 in
theorem k_X1_lift {k : Nat} (hk : isFl k) {s0 zs : StA} {rr : Int32} (hf : f_X1_lift k s0 = some (zs, rr)) : CtI cM yX1_lift cX1_lift 3 .int rm_X1_lift (fun ph => [.ref (ph k)]) s0 zs rr := by
  refine CtI.of (by decide +kernel) (fun ph => Nat.le_of_ble_eq_true rfl) (fun E O hret => ?_)
  have O : OK cM E RX1 cX1_lift 3 rm_X1_lift := O
  show WS cM E 3 0 [(0, rf E k)] [] s0
  unfold f_X1_lift at hf
  refine s_iconst (v := 0) O dX1_lift_0 rfl ?_
  refine s_istore_n (lv' := [(1, .int 0), (0, rf E k)]) O dX1_lift_1 rfl (by decide) rfl ?_
  refine s_iconst (v := 0) O dX1_lift_2 rfl ?_
  refine s_istore_n (lv' := [(2, .int 0), (1, .int 0), (0, rf E k)]) O dX1_lift_3 rfl (by decide) rfl ?_
  refine s_loc [2, 1, 0] rfl ?_
  obtain ⟨s5, u4_1, c7, hf⟩ := bn_e hf
  refine lp_of (body := fun s v => fb_X1_lift_l4 k s v.1 v.2) (X := fun s v => WS cM E 3 4 [(0, rf E k), (1, .int v.1), (2, .int v.2)] [] s) (Y := fun s e => WS cM E 3 26 [(1, .int e)] [] s) (fun s v s' w hb Kc Ke => wb_X1_lift_l4 (rr := rr) O hk  hret Kc Ke hb) FU _ _ (s5, u4_1) c7 ?_
  show WS cM E 3 26 [(1, .int u4_1)] [] s5
  refine s_iload_n O 0 dX1_lift_26 rfl rfl ?_
  refine s_iconst (v := 0) O dX1_lift_27 rfl ?_
  refine s_bipush (v := 60) O dX1_lift_28 rfl ?_
  obtain ⟨s8, r9, c10, hf⟩ := bn_e hf
  refine s_NI (As := [.int u4_1, .int 0, .int 60]) (st := []) O lk_RX1_87 (k_X5_bounded c10) rfl rfl ⟨rfl, rfl⟩ ⟨Nat.le_of_ble_eq_true rfl, Nat.le_of_ble_eq_true rfl⟩ rfl (Nat.le_of_ble_eq_true rfl) dX1_lift_30 ?_
  exact s_iret hret rfl dX1_lift_33 hf
