def rm_X6_readLineOf : Room := { frames := 4, cells := 0, slots := 0, locals := 91 }
def f_X6_readLineOf (a1 : Int32) (s0 : StA) : Option (StA × Unit) :=
  (if a1 = 4 then bn (f_X6_readWind  s0) (fun s1 r2 => some (s1, ())) else if a1 = 5 then bn (f_X6_readNumber 1 9 s0) (fun s4 r5 => gd 26 63 (nms (si s4 4 ((26 : Int32).toNatClampNeg) r5) (fun s8 => some (s8, ())))) else if a1 = 6 then bn (f_X6_readNumber 0 60 s0) (fun s9 r10 => gd 24 63 (nms (si s9 4 ((24 : Int32).toNatClampNeg) r10) (fun s13 => bn (f_X6_readNumber 0 99 s13) (fun s14 r15 => gd 25 63 (nms (si s14 4 ((25 : Int32).toNatClampNeg) r15) (fun s18 => some (s18, ()))))))) else gd ((4 * (gi s0 0 5)) + 0) 63 (nms (si s0 4 (((4 * (gi s0 0 5)) + 0).toNatClampNeg) a1) (fun s20 => bn (f_X6_readNumber 1 9 s20) (fun s21 r22 => gd ((4 * (gi s20 0 5)) + 1) 63 (nms (si s21 4 (((4 * (gi s20 0 5)) + 1).toNatClampNeg) r22) (fun s25 => bn (f_X6_readNumber 0 1 s25) (fun s26 r27 => gd ((4 * (gi s25 0 5)) + 2) 63 (nms (si s26 4 (((4 * (gi s25 0 5)) + 2).toNatClampNeg) r27) (fun s30 => nms (si s30 0 5 ((gi s30 0 5) + 1)) (fun s31 => some (s31, ())))))))))))
set_option maxHeartbeats 4000000 in
set_option maxRecDepth 100000 in
theorem k_X6_readLineOf {a1 : Int32} {s0 zs : StA} {rr : Unit} (hf : f_X6_readLineOf a1 s0 = some (zs, rr)) : CtV mM yX6_readLineOf cX6_readLineOf 2 rm_X6_readLineOf (fun ph => [.ref (ph 0), .int a1]) s0 zs := by
  refine CtV.of (by decide +kernel) (fun ph => Nat.le_of_ble_eq_true rfl) (fun E O hret => ?_)
  have O : OK mM E RX6 cX6_readLineOf 2 rm_X6_readLineOf := O
  show WS mM E 2 0 [(0, rf E 0), (1, .int a1)] [] s0
  unfold f_X6_readLineOf at hf
  refine s_iload_n O 1 dX6_readLineOf_0 rfl rfl ?_
  by_cases q4 : a1 = 4
  · replace hf := if_t q4 hf
    refine s_tabE (v := 4) (tgt := 28) O dX6_readLineOf_1 q4 (by decide) (by decide) rfl (by decide) ?_
    refine s_aload_n O 0 dX6_readLineOf_28 rfl rfl ?_
    obtain ⟨s1, r2, c3, hf⟩ := bn_e hf
    refine s_VV (As := []) (st := []) O lk_RX6_128 (k_X6_readWind c3) rfl ms_0 rfl rfl ⟨rfl, rfl⟩ ⟨Nat.le_of_ble_eq_true rfl, Nat.le_of_ble_eq_true rfl⟩ rfl (Nat.le_of_ble_eq_true rfl) dX6_readLineOf_29 ?_
    refine s_goto (tgt := 146) O dX6_readLineOf_32 (by decide) ?_
    exact s_vret hret dX6_readLineOf_146 hf
  · replace hf := if_f q4 hf
    by_cases q5 : a1 = 5
    · replace hf := if_t q5 hf
      refine s_tabE (v := 5) (tgt := 35) O dX6_readLineOf_1 q5 (by decide) (by decide) rfl (by decide) ?_
      refine s_aload_n O 0 dX6_readLineOf_35 rfl rfl ?_
      refine s_getR O fg_RX6_20 ms_0 rfl dX6_readLineOf_36 ?_
      refine s_bipush (v := 26) O dX6_readLineOf_39 rfl ?_
      refine s_aload_n O 0 dX6_readLineOf_41 rfl rfl ?_
      refine s_iconst (v := 1) O dX6_readLineOf_42 rfl ?_
      refine s_bipush (v := 9) O dX6_readLineOf_43 rfl ?_
      obtain ⟨s4, r5, c6, hf⟩ := bn_e hf
      refine s_VI (As := [.int 1, .int 9]) (st := [.int 26, rf E 4]) O lk_RX6_125 (k_X6_readNumber c6) rfl ms_0 rfl rfl ⟨rfl, rfl⟩ ⟨Nat.le_of_ble_eq_true rfl, Nat.le_of_ble_eq_true rfl⟩ rfl (Nat.le_of_ble_eq_true rfl) dX6_readLineOf_45 ?_
      obtain ⟨h7, hf⟩ := gd_e hf
      refine s_iast O ms_4 h7 dX6_readLineOf_48 ?_
      refine s_tops (fun s8 es8 => ?_)
      replace hf := nms_e es8 hf
      refine s_goto (tgt := 146) O dX6_readLineOf_49 (by decide) ?_
      exact s_vret hret dX6_readLineOf_146 hf
    · replace hf := if_f q5 hf
      by_cases q6 : a1 = 6
      · replace hf := if_t q6 hf
        refine s_tabE (v := 6) (tgt := 52) O dX6_readLineOf_1 q6 (by decide) (by decide) rfl (by decide) ?_
        refine s_aload_n O 0 dX6_readLineOf_52 rfl rfl ?_
        refine s_getR O fg_RX6_20 ms_0 rfl dX6_readLineOf_53 ?_
        refine s_bipush (v := 24) O dX6_readLineOf_56 rfl ?_
        refine s_aload_n O 0 dX6_readLineOf_58 rfl rfl ?_
        refine s_iconst (v := 0) O dX6_readLineOf_59 rfl ?_
        refine s_bipush (v := 60) O dX6_readLineOf_60 rfl ?_
        obtain ⟨s9, r10, c11, hf⟩ := bn_e hf
        refine s_VI (As := [.int 0, .int 60]) (st := [.int 24, rf E 4]) O lk_RX6_125 (k_X6_readNumber c11) rfl ms_0 rfl rfl ⟨rfl, rfl⟩ ⟨Nat.le_of_ble_eq_true rfl, Nat.le_of_ble_eq_true rfl⟩ rfl (Nat.le_of_ble_eq_true rfl) dX6_readLineOf_62 ?_
        obtain ⟨h12, hf⟩ := gd_e hf
        refine s_iast O ms_4 h12 dX6_readLineOf_65 ?_
        refine s_tops (fun s13 es13 => ?_)
        replace hf := nms_e es13 hf
        refine s_aload_n O 0 dX6_readLineOf_66 rfl rfl ?_
        refine s_getR O fg_RX6_20 ms_0 rfl dX6_readLineOf_67 ?_
        refine s_bipush (v := 25) O dX6_readLineOf_70 rfl ?_
        refine s_aload_n O 0 dX6_readLineOf_72 rfl rfl ?_
        refine s_iconst (v := 0) O dX6_readLineOf_73 rfl ?_
        refine s_bipush (v := 99) O dX6_readLineOf_74 rfl ?_
        obtain ⟨s14, r15, c16, hf⟩ := bn_e hf
        refine s_VI (As := [.int 0, .int 99]) (st := [.int 25, rf E 4]) O lk_RX6_125 (k_X6_readNumber c16) rfl ms_0 rfl rfl ⟨rfl, rfl⟩ ⟨Nat.le_of_ble_eq_true rfl, Nat.le_of_ble_eq_true rfl⟩ rfl (Nat.le_of_ble_eq_true rfl) dX6_readLineOf_76 ?_
        obtain ⟨h17, hf⟩ := gd_e hf
        refine s_iast O ms_4 h17 dX6_readLineOf_79 ?_
        refine s_tops (fun s18 es18 => ?_)
        replace hf := nms_e es18 hf
        refine s_goto (tgt := 146) O dX6_readLineOf_80 (by decide) ?_
        exact s_vret hret dX6_readLineOf_146 hf
      · replace hf := if_f q6 hf
        have z4 := lv_neT q4 (a := 4) rfl
        have z5 := lv_neT q5 (a := 5) rfl
        have z6 := lv_neT q6 (a := 6) rfl
        refine s_tabO (tgt := 83) O dX6_readLineOf_1 (by omega) (by decide) ?_
        refine s_aload_n O 0 dX6_readLineOf_83 rfl rfl ?_
        refine s_getR O fg_RX6_20 ms_0 rfl dX6_readLineOf_84 ?_
        refine s_iconst (v := 4) O dX6_readLineOf_87 rfl ?_
        refine s_aload_n O 0 dX6_readLineOf_88 rfl rfl ?_
        refine s_getI O fg_RX6_50 ms_0 rfl dX6_readLineOf_89 ?_
        refine s_imul O dX6_readLineOf_92 ?_
        refine s_iconst (v := 0) O dX6_readLineOf_93 rfl ?_
        refine s_iadd O dX6_readLineOf_94 ?_
        refine s_iload_n O 1 dX6_readLineOf_95 rfl rfl ?_
        obtain ⟨h19, hf⟩ := gd_e hf
        refine s_iast O ms_4 h19 dX6_readLineOf_96 ?_
        refine s_tops (fun s20 es20 => ?_)
        replace hf := nms_e es20 hf
        refine s_aload_n O 0 dX6_readLineOf_97 rfl rfl ?_
        refine s_getR O fg_RX6_20 ms_0 rfl dX6_readLineOf_98 ?_
        refine s_iconst (v := 4) O dX6_readLineOf_101 rfl ?_
        refine s_aload_n O 0 dX6_readLineOf_102 rfl rfl ?_
        refine s_getI O fg_RX6_50 ms_0 rfl dX6_readLineOf_103 ?_
        refine s_imul O dX6_readLineOf_106 ?_
        refine s_iconst (v := 1) O dX6_readLineOf_107 rfl ?_
        refine s_iadd O dX6_readLineOf_108 ?_
        refine s_aload_n O 0 dX6_readLineOf_109 rfl rfl ?_
        refine s_iconst (v := 1) O dX6_readLineOf_110 rfl ?_
        refine s_bipush (v := 9) O dX6_readLineOf_111 rfl ?_
        obtain ⟨s21, r22, c23, hf⟩ := bn_e hf
        refine s_VI (As := [.int 1, .int 9]) (st := [.int ((4 * (gi s20 0 5)) + 1), rf E 4]) O lk_RX6_125 (k_X6_readNumber c23) rfl ms_0 rfl rfl ⟨rfl, rfl⟩ ⟨Nat.le_of_ble_eq_true rfl, Nat.le_of_ble_eq_true rfl⟩ rfl (Nat.le_of_ble_eq_true rfl) dX6_readLineOf_113 ?_
        obtain ⟨h24, hf⟩ := gd_e hf
        refine s_iast O ms_4 h24 dX6_readLineOf_116 ?_
        refine s_tops (fun s25 es25 => ?_)
        replace hf := nms_e es25 hf
        refine s_aload_n O 0 dX6_readLineOf_117 rfl rfl ?_
        refine s_getR O fg_RX6_20 ms_0 rfl dX6_readLineOf_118 ?_
        refine s_iconst (v := 4) O dX6_readLineOf_121 rfl ?_
        refine s_aload_n O 0 dX6_readLineOf_122 rfl rfl ?_
        refine s_getI O fg_RX6_50 ms_0 rfl dX6_readLineOf_123 ?_
        refine s_imul O dX6_readLineOf_126 ?_
        refine s_iconst (v := 2) O dX6_readLineOf_127 rfl ?_
        refine s_iadd O dX6_readLineOf_128 ?_
        refine s_aload_n O 0 dX6_readLineOf_129 rfl rfl ?_
        refine s_iconst (v := 0) O dX6_readLineOf_130 rfl ?_
        refine s_iconst (v := 1) O dX6_readLineOf_131 rfl ?_
        obtain ⟨s26, r27, c28, hf⟩ := bn_e hf
        refine s_VI (As := [.int 0, .int 1]) (st := [.int ((4 * (gi s25 0 5)) + 2), rf E 4]) O lk_RX6_125 (k_X6_readNumber c28) rfl ms_0 rfl rfl ⟨rfl, rfl⟩ ⟨Nat.le_of_ble_eq_true rfl, Nat.le_of_ble_eq_true rfl⟩ rfl (Nat.le_of_ble_eq_true rfl) dX6_readLineOf_132 ?_
        obtain ⟨h29, hf⟩ := gd_e hf
        refine s_iast O ms_4 h29 dX6_readLineOf_135 ?_
        refine s_tops (fun s30 es30 => ?_)
        replace hf := nms_e es30 hf
        refine s_aload_n O 0 dX6_readLineOf_136 rfl rfl ?_
        refine s_dup O dX6_readLineOf_137 rfl ?_
        refine s_getI O fg_RX6_50 ms_0 rfl dX6_readLineOf_138 ?_
        refine s_iconst (v := 1) O dX6_readLineOf_141 rfl ?_
        refine s_iadd O dX6_readLineOf_142 ?_
        refine s_putI O fp_RX6_50 ms_0 rfl dX6_readLineOf_143 ?_
        refine s_tops (fun s31 es31 => ?_)
        replace hf := nms_e es31 hf
        exact s_vret hret dX6_readLineOf_146 hf
def rm_X6_readLine : Room := { frames := 5, cells := 0, slots := 0, locals := 112 }
def fj_X6_readLine_j184   (y0 : Int32) (s0 : StA) : Option (StA × (Unit)) :=
  bn (f_X6_needs y0 2 s0) (fun s26 r27 => bn (f_X6_takes  s26) (fun s29 r30 => some (s29, ())))
set_option maxHeartbeats 4000000 in
set_option maxRecDepth 100000 in
theorem wj_X6_readLine_j184 {E : XC} (O : OK mM E RX6 cX6_readLine 2 rm_X6_readLine)    {y0 : Int32} {s0 : StA} {zs : StA} {rr : Unit} (hret : ReV mM E cX6_readLine zs) (hf : fj_X6_readLine_j184 y0 s0 = some (zs, rr)) : WS mM E 2 184 [(0, rf E 0)] [.int y0, rf E 0] s0 := by
  unfold fj_X6_readLine_j184 at hf
  refine s_iconst (v := 2) O dX6_readLine_184 rfl ?_
  obtain ⟨s26, r27, c28, hf⟩ := bn_e hf
  refine s_VV (As := [.int y0, .int 2]) (st := []) O lk_RX6_114 (k_X6_needs c28) rfl ms_0 rfl rfl ⟨rfl, rfl⟩ ⟨Nat.le_of_ble_eq_true rfl, Nat.le_of_ble_eq_true rfl⟩ rfl (Nat.le_of_ble_eq_true rfl) dX6_readLine_185 ?_
  refine s_aload_n O 0 dX6_readLine_188 rfl rfl ?_
  obtain ⟨s29, r30, c31, hf⟩ := bn_e hf
  refine s_VV (As := []) (st := []) O lk_RX6_122 (k_X6_takes c31) rfl ms_0 rfl rfl ⟨rfl, rfl⟩ ⟨Nat.le_of_ble_eq_true rfl, Nat.le_of_ble_eq_true rfl⟩ rfl (Nat.le_of_ble_eq_true rfl) dX6_readLine_189 ?_
  exact s_vret hret dX6_readLine_192 hf
def fj_X6_readLine_j143   (j1 : Int32) (y0 : Int32) (s0 : StA) : Option (StA × (Unit)) :=
  gz y0 (nms (si s0 0 8 y0) (fun s16 => bn (f_X6_takes  s16) (fun s17 r18 => (if (gi s17 0 15) ≤ 0 then bn (f_X6_readLineOf j1 s17) (fun s20 r21 => (if (gi s20 0 15) = 0 then (if (gi s20 0 13) = 3 then fj_X6_readLine_j184 1 s20 else fj_X6_readLine_j184 0 s20) else bn (f_X6_takes  s20) (fun s23 r24 => some (s23, ())))) else some (s17, ())))))
set_option maxHeartbeats 4000000 in
set_option maxRecDepth 100000 in
theorem wj_X6_readLine_j143 {E : XC} (O : OK mM E RX6 cX6_readLine 2 rm_X6_readLine)    {j1 : Int32} {y0 : Int32} {s0 : StA} {zs : StA} {rr : Unit} (hret : ReV mM E cX6_readLine zs) (hf : fj_X6_readLine_j143 j1 y0 s0 = some (zs, rr)) : WS mM E 2 143 [(0, rf E 0), (1, .int j1)] [.int y0, rf E 0] s0 := by
  unfold fj_X6_readLine_j143 at hf
  obtain ⟨h15, hf⟩ := gz_e hf
  refine s_putZ O fp_RX6_61 h15 ms_0 rfl dX6_readLine_143 ?_
  refine s_tops (fun s16 es16 => ?_)
  replace hf := nms_e es16 hf
  refine s_aload_n O 0 dX6_readLine_146 rfl rfl ?_
  obtain ⟨s17, r18, c19, hf⟩ := bn_e hf
  refine s_VV (As := []) (st := []) O lk_RX6_122 (k_X6_takes c19) rfl ms_0 rfl rfl ⟨rfl, rfl⟩ ⟨Nat.le_of_ble_eq_true rfl, Nat.le_of_ble_eq_true rfl⟩ rfl (Nat.le_of_ble_eq_true rfl) dX6_readLine_147 ?_
  refine s_aload_n O 0 dX6_readLine_150 rfl rfl ?_
  refine s_getI O fg_RX6_76 ms_0 rfl dX6_readLine_151 ?_
  refine s_if_le (tgt := 158) O dX6_readLine_154 (by decide) (fun c => ?_) (fun c => ?_)
  · replace hf := if_t c hf
    refine s_aload_n O 0 dX6_readLine_158 rfl rfl ?_
    refine s_iload_n O 1 dX6_readLine_159 rfl rfl ?_
    obtain ⟨s20, r21, c22, hf⟩ := bn_e hf
    refine s_VV (As := [.int j1]) (st := []) O lk_RX6_135 (k_X6_readLineOf c22) rfl ms_0 rfl rfl ⟨rfl, rfl⟩ ⟨Nat.le_of_ble_eq_true rfl, Nat.le_of_ble_eq_true rfl⟩ rfl (Nat.le_of_ble_eq_true rfl) dX6_readLine_160 ?_
    refine s_aload_n O 0 dX6_readLine_163 rfl rfl ?_
    refine s_getI O fg_RX6_76 ms_0 rfl dX6_readLine_164 ?_
    refine s_if_ne (tgt := 188) O dX6_readLine_167 (by decide) (fun c => ?_) (fun c => ?_)
    · replace hf := if_f c hf
      refine s_aload_n O 0 dX6_readLine_188 rfl rfl ?_
      obtain ⟨s23, r24, c25, hf⟩ := bn_e hf
      refine s_VV (As := []) (st := []) O lk_RX6_122 (k_X6_takes c25) rfl ms_0 rfl rfl ⟨rfl, rfl⟩ ⟨Nat.le_of_ble_eq_true rfl, Nat.le_of_ble_eq_true rfl⟩ rfl (Nat.le_of_ble_eq_true rfl) dX6_readLine_189 ?_
      exact s_vret hret dX6_readLine_192 hf
    · replace hf := if_t c hf
      refine s_aload_n O 0 dX6_readLine_170 rfl rfl ?_
      refine s_aload_n O 0 dX6_readLine_171 rfl rfl ?_
      refine s_getI O fg_RX6_100 ms_0 rfl dX6_readLine_172 ?_
      refine s_iconst (v := 3) O dX6_readLine_175 rfl ?_
      refine s_icmp_ne (tgt := 183) O dX6_readLine_176 (by decide) (fun c => ?_) (fun c => ?_)
      · replace hf := if_f c hf
        refine s_iconst (v := 0) O dX6_readLine_183 rfl ?_
        refine s_loc [0] rfl ?_
        exact wj_X6_readLine_j184 (rr := rr) O   hret hf
      · replace hf := if_t c hf
        refine s_iconst (v := 1) O dX6_readLine_179 rfl ?_
        refine s_goto (tgt := 184) O dX6_readLine_180 (by decide) ?_
        refine s_loc [0] rfl ?_
        exact wj_X6_readLine_j184 (rr := rr) O   hret hf
  · replace hf := if_f c hf
    exact s_vret hret dX6_readLine_157 hf
def fj_X6_readLine_j138   (j1 : Int32) (s0 : StA) : Option (StA × (Unit)) :=
  fj_X6_readLine_j143 j1 1 s0
set_option maxHeartbeats 4000000 in
set_option maxRecDepth 100000 in
theorem wj_X6_readLine_j138 {E : XC} (O : OK mM E RX6 cX6_readLine 2 rm_X6_readLine)    {j1 : Int32} {s0 : StA} {zs : StA} {rr : Unit} (hret : ReV mM E cX6_readLine zs) (hf : fj_X6_readLine_j138 j1 s0 = some (zs, rr)) : WS mM E 2 138 [(0, rf E 0), (1, .int j1)] [rf E 0] s0 := by
  unfold fj_X6_readLine_j138 at hf
  refine s_iconst (v := 1) O dX6_readLine_138 rfl ?_
  refine s_goto (tgt := 143) O dX6_readLine_139 (by decide) ?_
  exact wj_X6_readLine_j143 (rr := rr) O   hret hf
def fj_X6_readLine_j121   (j1 : Int32) (y0 : Int32) (s0 : StA) : Option (StA × (Unit)) :=
  gz y0 (nms (si s0 0 7 y0) (fun s14 => (if (gi s14 0 8) = 0 then (if j1 = 6 then fj_X6_readLine_j138 j1 s14 else fj_X6_readLine_j143 j1 0 s14) else fj_X6_readLine_j138 j1 s14)))
set_option maxHeartbeats 4000000 in
set_option maxRecDepth 100000 in
theorem wj_X6_readLine_j121 {E : XC} (O : OK mM E RX6 cX6_readLine 2 rm_X6_readLine)    {j1 : Int32} {y0 : Int32} {s0 : StA} {zs : StA} {rr : Unit} (hret : ReV mM E cX6_readLine zs) (hf : fj_X6_readLine_j121 j1 y0 s0 = some (zs, rr)) : WS mM E 2 121 [(0, rf E 0), (1, .int j1)] [.int y0, rf E 0] s0 := by
  unfold fj_X6_readLine_j121 at hf
  obtain ⟨h13, hf⟩ := gz_e hf
  refine s_putZ O fp_RX6_57 h13 ms_0 rfl dX6_readLine_121 ?_
  refine s_tops (fun s14 es14 => ?_)
  replace hf := nms_e es14 hf
  refine s_aload_n O 0 dX6_readLine_124 rfl rfl ?_
  refine s_aload_n O 0 dX6_readLine_125 rfl rfl ?_
  refine s_getI O fg_RX6_61 ms_0 rfl dX6_readLine_126 ?_
  refine s_if_ne (tgt := 138) O dX6_readLine_129 (by decide) (fun c => ?_) (fun c => ?_)
  · replace hf := if_f c hf
    exact wj_X6_readLine_j138 (rr := rr) O   hret hf
  · replace hf := if_t c hf
    refine s_iload_n O 1 dX6_readLine_132 rfl rfl ?_
    refine s_bipush (v := 6) O dX6_readLine_133 rfl ?_
    refine s_icmp_ne (tgt := 142) O dX6_readLine_135 (by decide) (fun c => ?_) (fun c => ?_)
    · replace hf := if_f c hf
      refine s_iconst (v := 0) O dX6_readLine_142 rfl ?_
      exact wj_X6_readLine_j143 (rr := rr) O   hret hf
    · replace hf := if_t c hf
      exact wj_X6_readLine_j138 (rr := rr) O   hret hf
def fj_X6_readLine_j116   (j1 : Int32) (s0 : StA) : Option (StA × (Unit)) :=
  fj_X6_readLine_j121 j1 1 s0
set_option maxHeartbeats 4000000 in
set_option maxRecDepth 100000 in
theorem wj_X6_readLine_j116 {E : XC} (O : OK mM E RX6 cX6_readLine 2 rm_X6_readLine)    {j1 : Int32} {s0 : StA} {zs : StA} {rr : Unit} (hret : ReV mM E cX6_readLine zs) (hf : fj_X6_readLine_j116 j1 s0 = some (zs, rr)) : WS mM E 2 116 [(0, rf E 0), (1, .int j1)] [rf E 0] s0 := by
  unfold fj_X6_readLine_j116 at hf
  refine s_iconst (v := 1) O dX6_readLine_116 rfl ?_
  refine s_goto (tgt := 121) O dX6_readLine_117 (by decide) ?_
  exact wj_X6_readLine_j121 (rr := rr) O   hret hf
def fj_X6_readLine_j99   (j1 : Int32) (y0 : Int32) (s0 : StA) : Option (StA × (Unit)) :=
  bn (f_X6_needs y0 4 s0) (fun s10 r11 => (if (gi s10 0 7) = 0 then (if j1 = 5 then fj_X6_readLine_j116 j1 s10 else fj_X6_readLine_j121 j1 0 s10) else fj_X6_readLine_j116 j1 s10))
set_option maxHeartbeats 4000000 in
set_option maxRecDepth 100000 in
theorem wj_X6_readLine_j99 {E : XC} (O : OK mM E RX6 cX6_readLine 2 rm_X6_readLine)    {j1 : Int32} {y0 : Int32} {s0 : StA} {zs : StA} {rr : Unit} (hret : ReV mM E cX6_readLine zs) (hf : fj_X6_readLine_j99 j1 y0 s0 = some (zs, rr)) : WS mM E 2 99 [(0, rf E 0), (1, .int j1)] [.int y0, rf E 0] s0 := by
  unfold fj_X6_readLine_j99 at hf
  refine s_iconst (v := 4) O dX6_readLine_99 rfl ?_
  obtain ⟨s10, r11, c12, hf⟩ := bn_e hf
  refine s_VV (As := [.int y0, .int 4]) (st := []) O lk_RX6_114 (k_X6_needs c12) rfl ms_0 rfl rfl ⟨rfl, rfl⟩ ⟨Nat.le_of_ble_eq_true rfl, Nat.le_of_ble_eq_true rfl⟩ rfl (Nat.le_of_ble_eq_true rfl) dX6_readLine_100 ?_
  refine s_aload_n O 0 dX6_readLine_103 rfl rfl ?_
  refine s_aload_n O 0 dX6_readLine_104 rfl rfl ?_
  refine s_getI O fg_RX6_57 ms_0 rfl dX6_readLine_105 ?_
  refine s_if_ne (tgt := 116) O dX6_readLine_108 (by decide) (fun c => ?_) (fun c => ?_)
  · replace hf := if_f c hf
    exact wj_X6_readLine_j116 (rr := rr) O   hret hf
  · replace hf := if_t c hf
    refine s_iload_n O 1 dX6_readLine_111 rfl rfl ?_
    refine s_iconst (v := 5) O dX6_readLine_112 rfl ?_
    refine s_icmp_ne (tgt := 120) O dX6_readLine_113 (by decide) (fun c => ?_) (fun c => ?_)
    · replace hf := if_f c hf
      refine s_iconst (v := 0) O dX6_readLine_120 rfl ?_
      exact wj_X6_readLine_j121 (rr := rr) O   hret hf
    · replace hf := if_t c hf
      exact wj_X6_readLine_j116 (rr := rr) O   hret hf
def fj_X6_readLine_j94   (j1 : Int32) (s0 : StA) : Option (StA × (Unit)) :=
  fj_X6_readLine_j99 j1 1 s0
set_option maxHeartbeats 4000000 in
set_option maxRecDepth 100000 in
theorem wj_X6_readLine_j94 {E : XC} (O : OK mM E RX6 cX6_readLine 2 rm_X6_readLine)    {j1 : Int32} {s0 : StA} {zs : StA} {rr : Unit} (hret : ReV mM E cX6_readLine zs) (hf : fj_X6_readLine_j94 j1 s0 = some (zs, rr)) : WS mM E 2 94 [(0, rf E 0), (1, .int j1)] [rf E 0] s0 := by
  unfold fj_X6_readLine_j94 at hf
  refine s_iconst (v := 1) O dX6_readLine_94 rfl ?_
  refine s_goto (tgt := 99) O dX6_readLine_95 (by decide) ?_
  exact wj_X6_readLine_j99 (rr := rr) O   hret hf
def fj_X6_readLine_j76   (j1 : Int32) (y0 : Int32) (s0 : StA) : Option (StA × (Unit)) :=
  bn (f_X6_needs y0 4 s0) (fun s7 r8 => (if j1 = 6 then (if (gi s7 0 8) = 0 then fj_X6_readLine_j94 j1 s7 else fj_X6_readLine_j99 j1 0 s7) else fj_X6_readLine_j94 j1 s7))
set_option maxHeartbeats 4000000 in
set_option maxRecDepth 100000 in
theorem wj_X6_readLine_j76 {E : XC} (O : OK mM E RX6 cX6_readLine 2 rm_X6_readLine)    {j1 : Int32} {y0 : Int32} {s0 : StA} {zs : StA} {rr : Unit} (hret : ReV mM E cX6_readLine zs) (hf : fj_X6_readLine_j76 j1 y0 s0 = some (zs, rr)) : WS mM E 2 76 [(0, rf E 0), (1, .int j1)] [.int y0, rf E 0] s0 := by
  unfold fj_X6_readLine_j76 at hf
  refine s_iconst (v := 4) O dX6_readLine_76 rfl ?_
  obtain ⟨s7, r8, c9, hf⟩ := bn_e hf
  refine s_VV (As := [.int y0, .int 4]) (st := []) O lk_RX6_114 (k_X6_needs c9) rfl ms_0 rfl rfl ⟨rfl, rfl⟩ ⟨Nat.le_of_ble_eq_true rfl, Nat.le_of_ble_eq_true rfl⟩ rfl (Nat.le_of_ble_eq_true rfl) dX6_readLine_77 ?_
  refine s_aload_n O 0 dX6_readLine_80 rfl rfl ?_
  refine s_iload_n O 1 dX6_readLine_81 rfl rfl ?_
  refine s_bipush (v := 6) O dX6_readLine_82 rfl ?_
  refine s_icmp_ne (tgt := 94) O dX6_readLine_84 (by decide) (fun c => ?_) (fun c => ?_)
  · replace hf := if_f c hf
    exact wj_X6_readLine_j94 (rr := rr) O   hret hf
  · replace hf := if_t c hf
    refine s_aload_n O 0 dX6_readLine_87 rfl rfl ?_
    refine s_getI O fg_RX6_61 ms_0 rfl dX6_readLine_88 ?_
    refine s_if_ne (tgt := 98) O dX6_readLine_91 (by decide) (fun c => ?_) (fun c => ?_)
    · replace hf := if_f c hf
      refine s_iconst (v := 0) O dX6_readLine_98 rfl ?_
      exact wj_X6_readLine_j99 (rr := rr) O   hret hf
    · replace hf := if_t c hf
      exact wj_X6_readLine_j94 (rr := rr) O   hret hf
def fj_X6_readLine_j71   (j1 : Int32) (s0 : StA) : Option (StA × (Unit)) :=
  fj_X6_readLine_j76 j1 1 s0
set_option maxHeartbeats 4000000 in
set_option maxRecDepth 100000 in
theorem wj_X6_readLine_j71 {E : XC} (O : OK mM E RX6 cX6_readLine 2 rm_X6_readLine)    {j1 : Int32} {s0 : StA} {zs : StA} {rr : Unit} (hret : ReV mM E cX6_readLine zs) (hf : fj_X6_readLine_j71 j1 s0 = some (zs, rr)) : WS mM E 2 71 [(0, rf E 0), (1, .int j1)] [rf E 0] s0 := by
  unfold fj_X6_readLine_j71 at hf
  refine s_iconst (v := 1) O dX6_readLine_71 rfl ?_
  refine s_goto (tgt := 76) O dX6_readLine_72 (by decide) ?_
  exact wj_X6_readLine_j76 (rr := rr) O   hret hf
def fj_X6_readLine_j54   (j1 : Int32) (y0 : Int32) (s0 : StA) : Option (StA × (Unit)) :=
  bn (f_X6_needs y0 5 s0) (fun s4 r5 => (if j1 = 5 then (if (gi s4 0 7) = 0 then fj_X6_readLine_j71 j1 s4 else fj_X6_readLine_j76 j1 0 s4) else fj_X6_readLine_j71 j1 s4))
set_option maxHeartbeats 4000000 in
set_option maxRecDepth 100000 in
theorem wj_X6_readLine_j54 {E : XC} (O : OK mM E RX6 cX6_readLine 2 rm_X6_readLine)    {j1 : Int32} {y0 : Int32} {s0 : StA} {zs : StA} {rr : Unit} (hret : ReV mM E cX6_readLine zs) (hf : fj_X6_readLine_j54 j1 y0 s0 = some (zs, rr)) : WS mM E 2 54 [(0, rf E 0), (1, .int j1)] [.int y0, rf E 0] s0 := by
  unfold fj_X6_readLine_j54 at hf
  refine s_iconst (v := 5) O dX6_readLine_54 rfl ?_
  obtain ⟨s4, r5, c6, hf⟩ := bn_e hf
  refine s_VV (As := [.int y0, .int 5]) (st := []) O lk_RX6_114 (k_X6_needs c6) rfl ms_0 rfl rfl ⟨rfl, rfl⟩ ⟨Nat.le_of_ble_eq_true rfl, Nat.le_of_ble_eq_true rfl⟩ rfl (Nat.le_of_ble_eq_true rfl) dX6_readLine_55 ?_
  refine s_aload_n O 0 dX6_readLine_58 rfl rfl ?_
  refine s_iload_n O 1 dX6_readLine_59 rfl rfl ?_
  refine s_iconst (v := 5) O dX6_readLine_60 rfl ?_
  refine s_icmp_ne (tgt := 71) O dX6_readLine_61 (by decide) (fun c => ?_) (fun c => ?_)
  · replace hf := if_f c hf
    exact wj_X6_readLine_j71 (rr := rr) O   hret hf
  · replace hf := if_t c hf
    refine s_aload_n O 0 dX6_readLine_64 rfl rfl ?_
    refine s_getI O fg_RX6_57 ms_0 rfl dX6_readLine_65 ?_
    refine s_if_ne (tgt := 75) O dX6_readLine_68 (by decide) (fun c => ?_) (fun c => ?_)
    · replace hf := if_f c hf
      refine s_iconst (v := 0) O dX6_readLine_75 rfl ?_
      exact wj_X6_readLine_j76 (rr := rr) O   hret hf
    · replace hf := if_t c hf
      exact wj_X6_readLine_j71 (rr := rr) O   hret hf
def fj_X6_readLine_j49   (j1 : Int32) (s0 : StA) : Option (StA × (Unit)) :=
  fj_X6_readLine_j54 j1 1 s0
set_option maxHeartbeats 4000000 in
set_option maxRecDepth 100000 in
theorem wj_X6_readLine_j49 {E : XC} (O : OK mM E RX6 cX6_readLine 2 rm_X6_readLine)    {j1 : Int32} {s0 : StA} {zs : StA} {rr : Unit} (hret : ReV mM E cX6_readLine zs) (hf : fj_X6_readLine_j49 j1 s0 = some (zs, rr)) : WS mM E 2 49 [(0, rf E 0), (1, .int j1)] [rf E 0] s0 := by
  unfold fj_X6_readLine_j49 at hf
  refine s_iconst (v := 1) O dX6_readLine_49 rfl ?_
  refine s_goto (tgt := 54) O dX6_readLine_50 (by decide) ?_
  exact wj_X6_readLine_j54 (rr := rr) O   hret hf
def fj_X6_readLine_j30   (j1 : Int32) (y0 : Int32) (s0 : StA) : Option (StA × (Unit)) :=
  bn (f_X6_needs y0 2 s0) (fun s1 r2 => (if 4 ≤ j1 then fj_X6_readLine_j49 j1 s1 else (if 6 ≤ (gi s1 0 5) then fj_X6_readLine_j54 j1 0 s1 else fj_X6_readLine_j49 j1 s1)))
set_option maxHeartbeats 4000000 in
set_option maxRecDepth 100000 in
theorem wj_X6_readLine_j30 {E : XC} (O : OK mM E RX6 cX6_readLine 2 rm_X6_readLine)    {j1 : Int32} {y0 : Int32} {s0 : StA} {zs : StA} {rr : Unit} (hret : ReV mM E cX6_readLine zs) (hf : fj_X6_readLine_j30 j1 y0 s0 = some (zs, rr)) : WS mM E 2 30 [(0, rf E 0), (1, .int j1)] [.int y0, rf E 0] s0 := by
  unfold fj_X6_readLine_j30 at hf
  refine s_iconst (v := 2) O dX6_readLine_30 rfl ?_
  obtain ⟨s1, r2, c3, hf⟩ := bn_e hf
  refine s_VV (As := [.int y0, .int 2]) (st := []) O lk_RX6_114 (k_X6_needs c3) rfl ms_0 rfl rfl ⟨rfl, rfl⟩ ⟨Nat.le_of_ble_eq_true rfl, Nat.le_of_ble_eq_true rfl⟩ rfl (Nat.le_of_ble_eq_true rfl) dX6_readLine_31 ?_
  refine s_aload_n O 0 dX6_readLine_34 rfl rfl ?_
  refine s_iload_n O 1 dX6_readLine_35 rfl rfl ?_
  refine s_iconst (v := 4) O dX6_readLine_36 rfl ?_
  refine s_icmp_ge (tgt := 49) O dX6_readLine_37 (by decide) (fun c => ?_) (fun c => ?_)
  · replace hf := if_t c hf
    exact wj_X6_readLine_j49 (rr := rr) O   hret hf
  · replace hf := if_f c hf
    refine s_aload_n O 0 dX6_readLine_40 rfl rfl ?_
    refine s_getI O fg_RX6_50 ms_0 rfl dX6_readLine_41 ?_
    refine s_bipush (v := 6) O dX6_readLine_44 rfl ?_
    refine s_icmp_ge (tgt := 53) O dX6_readLine_46 (by decide) (fun c => ?_) (fun c => ?_)
    · replace hf := if_t c hf
      refine s_iconst (v := 0) O dX6_readLine_53 rfl ?_
      exact wj_X6_readLine_j54 (rr := rr) O   hret hf
    · replace hf := if_f c hf
      exact wj_X6_readLine_j49 (rr := rr) O   hret hf
def fj_X6_readLine_j17   (y0 : Int32) (s0 : StA) : Option (StA × (Unit)) :=
  (if y0 = (-4) then fj_X6_readLine_j30 y0 0 s0 else fj_X6_readLine_j30 y0 1 s0)
set_option maxHeartbeats 4000000 in
set_option maxRecDepth 100000 in
theorem wj_X6_readLine_j17 {E : XC} (O : OK mM E RX6 cX6_readLine 2 rm_X6_readLine)    {y0 : Int32} {s0 : StA} {zs : StA} {rr : Unit} (hret : ReV mM E cX6_readLine zs) (hf : fj_X6_readLine_j17 y0 s0 = some (zs, rr)) : WS mM E 2 17 [(0, rf E 0)] [.int y0] s0 := by
  unfold fj_X6_readLine_j17 at hf
  refine s_istore_n (lv' := [(1, .int y0), (0, rf E 0)]) O dX6_readLine_17 rfl (by decide) rfl ?_
  refine s_aload_n O 1 dX6_readLine_18 rfl rfl ?_
  refine s_iload_n O 0 dX6_readLine_19 rfl rfl ?_
  refine s_bipush (v := (-4)) O dX6_readLine_20 rfl ?_
  refine s_icmp_eq (tgt := 29) O dX6_readLine_22 (by decide) (fun c => ?_) (fun c => ?_)
  · replace hf := if_t c hf
    refine s_iconst (v := 0) O dX6_readLine_29 rfl ?_
    refine s_loc [1, 0] rfl ?_
    exact wj_X6_readLine_j30 (rr := rr) O   hret hf
  · replace hf := if_f c hf
    refine s_iconst (v := 1) O dX6_readLine_25 rfl ?_
    refine s_goto (tgt := 30) O dX6_readLine_26 (by decide) ?_
    refine s_loc [1, 0] rfl ?_
    exact wj_X6_readLine_j30 (rr := rr) O   hret hf
def f_X6_readLine  (s0 : StA) : Option (StA × Unit) :=
  (if (gi s0 0 13) = 1 then bn (f_X6_lineNow  s0) (fun s32 r33 => fj_X6_readLine_j17 r33 s32) else fj_X6_readLine_j17 (-4) s0)
set_option maxHeartbeats 4000000 in
set_option maxRecDepth 100000 in
theorem k_X6_readLine  {s0 zs : StA} {rr : Unit} (hf : f_X6_readLine  s0 = some (zs, rr)) : CtV mM yX6_readLine cX6_readLine 2 rm_X6_readLine (fun ph => [.ref (ph 0)]) s0 zs := by
  refine CtV.of (by decide +kernel) (fun ph => Nat.le_of_ble_eq_true rfl) (fun E O hret => ?_)
  have O : OK mM E RX6 cX6_readLine 2 rm_X6_readLine := O
  show WS mM E 2 0 [(0, rf E 0)] [] s0
  unfold f_X6_readLine at hf
  refine s_aload_n O 0 dX6_readLine_0 rfl rfl ?_
  refine s_getI O fg_RX6_100 ms_0 rfl dX6_readLine_1 ?_
  refine s_iconst (v := 1) O dX6_readLine_4 rfl ?_
  refine s_icmp_ne (tgt := 15) O dX6_readLine_5 (by decide) (fun c => ?_) (fun c => ?_)
  · replace hf := if_f c hf
    refine s_bipush (v := (-4)) O dX6_readLine_15 rfl ?_
    exact wj_X6_readLine_j17 (rr := rr) O   hret hf
  · replace hf := if_t c hf
    refine s_aload_n O 0 dX6_readLine_8 rfl rfl ?_
    obtain ⟨s32, r33, c34, hf⟩ := bn_e hf
    refine s_VI (As := []) (st := []) O lk_RX6_131 (k_X6_lineNow c34) rfl ms_0 rfl rfl ⟨rfl, rfl⟩ ⟨Nat.le_of_ble_eq_true rfl, Nat.le_of_ble_eq_true rfl⟩ rfl (Nat.le_of_ble_eq_true rfl) dX6_readLine_9 ?_
    refine s_goto (tgt := 17) O dX6_readLine_12 (by decide) ?_
    exact wj_X6_readLine_j17 (rr := rr) O   hret hf
def rm_X6_text : Room := { frames := 6, cells := 0, slots := 0, locals := 133 }
def fb_X6_text_l20   (s0 : StA) (v1 : Int32) : Option (StA × ((Int32) ⊕ (Int32))) :=
  (if (gi s0 0 15) = 0 then (if (gi s0 0 13) = 0 then some (s0, .inr v1) else bn (f_X6_readLine  s0) (fun s9 r10 => some (s9, .inl (v1 + 1)))) else some (s0, .inr v1))
set_option maxHeartbeats 4000000 in
set_option maxRecDepth 100000 in
theorem wb_X6_text_l20 {E : XC} (O : OK mM E RX6 cX6_text 2 rm_X6_text)    {s0 : StA} {v1 : Int32} {zs : StA} {rr : Int32} (hret : ReI mM E .int cX6_text zs rr) {bs : StA} {bw : (Int32) ⊕ (Int32)} (Kc : ∀ v, bw = .inl v → WS mM E 2 20 [(0, rf E 0), (1, .int v)] [] bs) (Ke : ∀ e, bw = .inr e → WS mM E 2 44 [(0, rf E 0), (1, .int e)] [] bs) (hf : fb_X6_text_l20  s0 v1 = some (bs, bw)) : WS mM E 2 20 [(0, rf E 0), (1, .int v1)] [] s0 := by
  unfold fb_X6_text_l20 at hf
  refine s_aload_n O 0 dX6_text_20 rfl rfl ?_
  refine s_getI O fg_RX6_76 ms_0 rfl dX6_text_21 ?_
  refine s_if_ne (tgt := 44) O dX6_text_24 (by decide) (fun c => ?_) (fun c => ?_)
  · replace hf := if_f c hf
    cases hf
    exact Ke _ rfl
  · replace hf := if_t c hf
    refine s_aload_n O 0 dX6_text_27 rfl rfl ?_
    refine s_getI O fg_RX6_100 ms_0 rfl dX6_text_28 ?_
    refine s_if_eq (tgt := 44) O dX6_text_31 (by decide) (fun c => ?_) (fun c => ?_)
    · replace hf := if_t c hf
      cases hf
      exact Ke _ rfl
    · replace hf := if_f c hf
      refine s_aload_n O 0 dX6_text_34 rfl rfl ?_
      obtain ⟨s9, r10, c11, hf⟩ := bn_e hf
      refine s_VV (As := []) (st := []) O lk_RX6_139 (k_X6_readLine c11) rfl ms_0 rfl rfl ⟨rfl, rfl⟩ ⟨Nat.le_of_ble_eq_true rfl, Nat.le_of_ble_eq_true rfl⟩ rfl (Nat.le_of_ble_eq_true rfl) dX6_text_35 ?_
      refine s_iinc (v := (v1 + 1)) (lv' := [(1, .int (v1 + 1)), (0, rf E 0)]) O 1 dX6_text_38 rfl rfl (by decide) rfl ?_
      refine s_goto (tgt := 20) O dX6_text_41 (by decide) ?_
      refine s_loc [1, 0] rfl ?_
      cases hf
      exact Kc _ rfl
def fl_X6_text_l20   (s0 : StA) (v : Int32) : Option (StA × ((Int32))) :=
  it (fun s v => fb_X6_text_l20  s v) FU s0 v
def fj_X6_text_j44   (j1 : Int32) (s0 : StA) : Option (StA × (Int32)) :=
  nms (si s0 0 10 0) (fun s15 => (if (gi s15 0 15) ≤ 0 then bn (f_X6_keepDraft  s15) (fun s16 r17 => some (s16, j1)) else some (s15, ((-10) - (gi s15 0 16)))))
set_option maxHeartbeats 4000000 in
set_option maxRecDepth 100000 in
theorem wj_X6_text_j44 {E : XC} (O : OK mM E RX6 cX6_text 2 rm_X6_text)    {j1 : Int32} {s0 : StA} {zs : StA} {rr : Int32} (hret : ReI mM E .int cX6_text zs rr) (hf : fj_X6_text_j44 j1 s0 = some (zs, rr)) : WS mM E 2 44 [(0, rf E 0), (1, .int j1)] [] s0 := by
  unfold fj_X6_text_j44 at hf
  refine s_aload_n O 0 dX6_text_44 rfl rfl ?_
  refine s_iconst (v := 0) O dX6_text_45 rfl ?_
  refine s_putI O fp_RX6_73 ms_0 rfl dX6_text_46 ?_
  refine s_tops (fun s15 es15 => ?_)
  replace hf := nms_e es15 hf
  refine s_aload_n O 0 dX6_text_49 rfl rfl ?_
  refine s_getI O fg_RX6_76 ms_0 rfl dX6_text_50 ?_
  refine s_if_le (tgt := 64) O dX6_text_53 (by decide) (fun c => ?_) (fun c => ?_)
  · replace hf := if_t c hf
    refine s_aload_n O 0 dX6_text_64 rfl rfl ?_
    obtain ⟨s16, r17, c18, hf⟩ := bn_e hf
    refine s_VV (As := []) (st := []) O lk_RX6_47 (k_X6_keepDraft c18) rfl ms_0 rfl rfl ⟨rfl, rfl⟩ ⟨Nat.le_of_ble_eq_true rfl, Nat.le_of_ble_eq_true rfl⟩ rfl (Nat.le_of_ble_eq_true rfl) dX6_text_65 ?_
    refine s_iload_n O 1 dX6_text_68 rfl rfl ?_
    exact s_iret hret rfl dX6_text_69 hf
  · replace hf := if_f c hf
    refine s_bipush (v := (-10)) O dX6_text_56 rfl ?_
    refine s_aload_n O 0 dX6_text_58 rfl rfl ?_
    refine s_getI O fg_RX6_82 ms_0 rfl dX6_text_59 ?_
    refine s_isub O dX6_text_62 ?_
    exact s_iret hret rfl dX6_text_63 hf
def f_X6_text  (s0 : StA) : Option (StA × Int32) :=
  nms (si s0 0 15 0) (fun s1 => nms (si s1 0 11 0) (fun s2 => bn (f_X6_firstDraft  s2) (fun s3 r4 => bn (f_X6_takes  s3) (fun s6 r7 => bn (fl_X6_text_l20  s6 0) (fun s12 u20_1 => fj_X6_text_j44 u20_1 s12)))))
set_option maxHeartbeats 4000000 in
set_option maxRecDepth 100000 in
theorem k_X6_text  {s0 zs : StA} {rr : Int32} (hf : f_X6_text  s0 = some (zs, rr)) : CtI mM yX6_text cX6_text 2 .int rm_X6_text (fun ph => [.ref (ph 0)]) s0 zs rr := by
  refine CtI.of (by decide +kernel) (fun ph => Nat.le_of_ble_eq_true rfl) (fun E O hret => ?_)
  have O : OK mM E RX6 cX6_text 2 rm_X6_text := O
  show WS mM E 2 0 [(0, rf E 0)] [] s0
  unfold f_X6_text at hf
  refine s_iconst (v := 0) O dX6_text_0 rfl ?_
  refine s_istore_n (lv' := [(1, .int 0), (0, rf E 0)]) O dX6_text_1 rfl (by decide) rfl ?_
  refine s_aload_n O 1 dX6_text_2 rfl rfl ?_
  refine s_iconst (v := 0) O dX6_text_3 rfl ?_
  refine s_putI O fp_RX6_76 ms_0 rfl dX6_text_4 ?_
  refine s_tops (fun s1 es1 => ?_)
  replace hf := nms_e es1 hf
  refine s_aload_n O 1 dX6_text_7 rfl rfl ?_
  refine s_iconst (v := 0) O dX6_text_8 rfl ?_
  refine s_putI O fp_RX6_85 ms_0 rfl dX6_text_9 ?_
  refine s_tops (fun s2 es2 => ?_)
  replace hf := nms_e es2 hf
  refine s_aload_n O 1 dX6_text_12 rfl rfl ?_
  obtain ⟨s3, r4, c5, hf⟩ := bn_e hf
  refine s_VV (As := []) (st := []) O lk_RX6_44 (k_X6_firstDraft c5) rfl ms_0 rfl rfl ⟨rfl, rfl⟩ ⟨Nat.le_of_ble_eq_true rfl, Nat.le_of_ble_eq_true rfl⟩ rfl (Nat.le_of_ble_eq_true rfl) dX6_text_13 ?_
  refine s_aload_n O 1 dX6_text_16 rfl rfl ?_
  obtain ⟨s6, r7, c8, hf⟩ := bn_e hf
  refine s_VV (As := []) (st := []) O lk_RX6_122 (k_X6_takes c8) rfl ms_0 rfl rfl ⟨rfl, rfl⟩ ⟨Nat.le_of_ble_eq_true rfl, Nat.le_of_ble_eq_true rfl⟩ rfl (Nat.le_of_ble_eq_true rfl) dX6_text_17 ?_
  refine s_loc [1, 0] rfl ?_
  obtain ⟨s12, u20_1, c14, hf⟩ := bn_e hf
  refine lp_of (body := fun s v => fb_X6_text_l20  s v) (X := fun s v => WS mM E 2 20 [(0, rf E 0), (1, .int v)] [] s) (Y := fun s e => WS mM E 2 44 [(0, rf E 0), (1, .int e)] [] s) (fun s v s' w hb Kc Ke => wb_X6_text_l20 (rr := rr) O   hret Kc Ke hb) FU _ _ (s12, u20_1) c14 ?_
  show WS mM E 2 44 [(0, rf E 0), (1, .int u20_1)] [] s12
  exact wj_X6_text_j44 (rr := rr) O   hret hf
def rm_X6_fault : Room := { frames := 0, cells := 0, slots := 0, locals := 0 }
def f_X6_fault  (s0 : StA) : Option (StA × Int32) :=
  some (s0, (gi s0 0 15))
set_option maxHeartbeats 4000000 in
set_option maxRecDepth 100000 in
theorem k_X6_fault  {s0 zs : StA} {rr : Int32} (hf : f_X6_fault  s0 = some (zs, rr)) : CtI mM yX6_fault cX6_fault 1 .int rm_X6_fault (fun ph => [.ref (ph 0)]) s0 zs rr := by
  refine CtI.of (by decide +kernel) (fun ph => Nat.le_of_ble_eq_true rfl) (fun E O hret => ?_)
  have O : OK mM E RX6 cX6_fault 1 rm_X6_fault := O
  show WS mM E 1 0 [(0, rf E 0)] [] s0
  unfold f_X6_fault at hf
  refine s_aload_n O 0 dX6_fault_0 rfl rfl ?_
  refine s_getI O fg_RX6_76 ms_0 rfl dX6_fault_1 ?_
  exact s_iret hret rfl dX6_fault_4 hf
def rm_X6_of : Room := { frames := 0, cells := 0, slots := 0, locals := 0 }
def f_X6_of (a1 : Int32) (a2 : Int32) (s0 : StA) : Option (StA × Int32) :=
  gd ((4 * a1) + a2) 63 (some (s0, (gi s0 2 ((4 * a1) + a2).toNatClampNeg)))
set_option maxHeartbeats 4000000 in
set_option maxRecDepth 100000 in
theorem k_X6_of {a1 : Int32} {a2 : Int32} {s0 zs : StA} {rr : Int32} (hf : f_X6_of a1 a2 s0 = some (zs, rr)) : CtI mM yX6_of cX6_of 3 .int rm_X6_of (fun ph => [.ref (ph 0), .int a1, .int a2]) s0 zs rr := by
  refine CtI.of (by decide +kernel) (fun ph => Nat.le_of_ble_eq_true rfl) (fun E O hret => ?_)
  have O : OK mM E RX6 cX6_of 3 rm_X6_of := O
  show WS mM E 3 0 [(0, rf E 0), (1, .int a1), (2, .int a2)] [] s0
  unfold f_X6_of at hf
  refine s_aload_n O 0 dX6_of_0 rfl rfl ?_
  refine s_getR O fg_RX6_13 ms_0 rfl dX6_of_1 ?_
  refine s_iconst (v := 4) O dX6_of_4 rfl ?_
  refine s_iload_n O 1 dX6_of_5 rfl rfl ?_
  refine s_imul O dX6_of_6 ?_
  refine s_iload_n O 2 dX6_of_7 rfl rfl ?_
  refine s_iadd O dX6_of_8 ?_
  obtain ⟨h1, hf⟩ := gd_e hf
  refine s_iald O ms_2 h1 dX6_of_9 ?_
  exact s_iret hret rfl dX6_of_10 hf
def rm_X6_liftOf : Room := { frames := 1, cells := 0, slots := 0, locals := 22 }
def fj_X6_liftOf_j22 (a1 : Int32)  (j2 : Int32) (y0 : Int32) (s0 : StA) : Option (StA × (Int32)) :=
  bn (f_X6_of a1 0 s0) (fun s7 r8 => (if r8 = 1 then (if y0 = 0 then some (s7, j2) else some (s7, (j2 / 2))) else if r8 = 2 then (if y0 = 0 then some (s7, (2 * j2)) else some (s7, 0)) else if r8 = 3 then (if y0 = 0 then some (s7, j2) else some (s7, (-(j2 / 2)))) else (if y0 = 0 then some (s7, j2) else some (s7, 0))))
set_option maxHeartbeats 4000000 in
set_option maxRecDepth 100000 in
theorem wj_X6_liftOf_j22 {E : XC} (O : OK mM E RX6 cX6_liftOf 4 rm_X6_liftOf) {a1 : Int32}   {j2 : Int32} {y0 : Int32} {s0 : StA} {zs : StA} {rr : Int32} (hret : ReI mM E .int cX6_liftOf zs rr) (hf : fj_X6_liftOf_j22 a1 j2 y0 s0 = some (zs, rr)) : WS mM E 4 22 [(0, rf E 0), (1, .int a1), (2, .int j2)] [.int y0] s0 := by
  unfold fj_X6_liftOf_j22 at hf
  refine s_istore_n (lv' := [(3, .int y0), (0, rf E 0), (1, .int a1), (2, .int j2)]) O dX6_liftOf_22 rfl (by decide) rfl ?_
  refine s_aload_n O 1 dX6_liftOf_23 rfl rfl ?_
  refine s_iload_n O 2 dX6_liftOf_24 rfl rfl ?_
  refine s_iconst (v := 0) O dX6_liftOf_25 rfl ?_
  obtain ⟨s7, r8, c9, hf⟩ := bn_e hf
  refine s_VI (As := [.int a1, .int 0]) (st := []) O lk_RX6_152 (k_X6_of c9) rfl ms_0 rfl rfl ⟨rfl, rfl⟩ ⟨Nat.le_of_ble_eq_true rfl, Nat.le_of_ble_eq_true rfl⟩ rfl (Nat.le_of_ble_eq_true rfl) dX6_liftOf_26 ?_
  by_cases q1 : r8 = 1
  · replace hf := if_t q1 hf
    refine s_tabE (v := 1) (tgt := 56) O dX6_liftOf_29 q1 (by decide) (by decide) rfl (by decide) ?_
    refine s_iload_n O 0 dX6_liftOf_56 rfl rfl ?_
    refine s_if_eq (tgt := 66) O dX6_liftOf_57 (by decide) (fun c => ?_) (fun c => ?_)
    · replace hf := if_t c hf
      refine s_iload_n O 3 dX6_liftOf_66 rfl rfl ?_
      exact s_iret hret rfl dX6_liftOf_67 hf
    · replace hf := if_f c hf
      refine s_iload_n O 3 dX6_liftOf_60 rfl rfl ?_
      refine s_iconst (v := 2) O dX6_liftOf_61 rfl ?_
      refine s_idiv O dX6_liftOf_62 (by decide) ?_
      refine s_goto (tgt := 67) O dX6_liftOf_63 (by decide) ?_
      exact s_iret hret rfl dX6_liftOf_67 hf
  · replace hf := if_f q1 hf
    by_cases q2 : r8 = 2
    · replace hf := if_t q2 hf
      refine s_tabE (v := 2) (tgt := 68) O dX6_liftOf_29 q2 (by decide) (by decide) rfl (by decide) ?_
      refine s_iload_n O 0 dX6_liftOf_68 rfl rfl ?_
      refine s_if_eq (tgt := 76) O dX6_liftOf_69 (by decide) (fun c => ?_) (fun c => ?_)
      · replace hf := if_t c hf
        refine s_iconst (v := 2) O dX6_liftOf_76 rfl ?_
        refine s_iload_n O 3 dX6_liftOf_77 rfl rfl ?_
        refine s_imul O dX6_liftOf_78 ?_
        exact s_iret hret rfl dX6_liftOf_79 hf
      · replace hf := if_f c hf
        refine s_iconst (v := 0) O dX6_liftOf_72 rfl ?_
        refine s_goto (tgt := 79) O dX6_liftOf_73 (by decide) ?_
        exact s_iret hret rfl dX6_liftOf_79 hf
    · replace hf := if_f q2 hf
      by_cases q3 : r8 = 3
      · replace hf := if_t q3 hf
        refine s_tabE (v := 3) (tgt := 80) O dX6_liftOf_29 q3 (by decide) (by decide) rfl (by decide) ?_
        refine s_iload_n O 0 dX6_liftOf_80 rfl rfl ?_
        refine s_if_eq (tgt := 91) O dX6_liftOf_81 (by decide) (fun c => ?_) (fun c => ?_)
        · replace hf := if_t c hf
          refine s_iload_n O 3 dX6_liftOf_91 rfl rfl ?_
          exact s_iret hret rfl dX6_liftOf_92 hf
        · replace hf := if_f c hf
          refine s_iload_n O 3 dX6_liftOf_84 rfl rfl ?_
          refine s_iconst (v := 2) O dX6_liftOf_85 rfl ?_
          refine s_idiv O dX6_liftOf_86 (by decide) ?_
          refine s_ineg O dX6_liftOf_87 ?_
          refine s_goto (tgt := 92) O dX6_liftOf_88 (by decide) ?_
          exact s_iret hret rfl dX6_liftOf_92 hf
      · replace hf := if_f q3 hf
        have z1 := lv_neT q1 (a := 1) rfl
        have z2 := lv_neT q2 (a := 2) rfl
        have z3 := lv_neT q3 (a := 3) rfl
        refine s_tabO (tgt := 93) O dX6_liftOf_29 (by omega) (by decide) ?_
        refine s_iload_n O 0 dX6_liftOf_93 rfl rfl ?_
        refine s_if_eq (tgt := 101) O dX6_liftOf_94 (by decide) (fun c => ?_) (fun c => ?_)
        · replace hf := if_t c hf
          refine s_iload_n O 3 dX6_liftOf_101 rfl rfl ?_
          exact s_iret hret rfl dX6_liftOf_102 hf
        · replace hf := if_f c hf
          refine s_iconst (v := 0) O dX6_liftOf_97 rfl ?_
          refine s_goto (tgt := 102) O dX6_liftOf_98 (by decide) ?_
          exact s_iret hret rfl dX6_liftOf_102 hf
def f_X6_liftOf (a1 : Int32) (s0 : StA) : Option (StA × Int32) :=
  bn (f_X6_of a1 1 s0) (fun s1 r2 => bn (f_X6_of a1 3 s1) (fun s4 r5 => (if r5 = 1 then fj_X6_liftOf_j22 a1 r2 1 s4 else fj_X6_liftOf_j22 a1 r2 0 s4)))
set_option maxHeartbeats 4000000 in
set_option maxRecDepth 100000 in
theorem k_X6_liftOf {a1 : Int32} {s0 zs : StA} {rr : Int32} (hf : f_X6_liftOf a1 s0 = some (zs, rr)) : CtI mM yX6_liftOf cX6_liftOf 4 .int rm_X6_liftOf (fun ph => [.ref (ph 0), .int a1]) s0 zs rr := by
  refine CtI.of (by decide +kernel) (fun ph => Nat.le_of_ble_eq_true rfl) (fun E O hret => ?_)
  have O : OK mM E RX6 cX6_liftOf 4 rm_X6_liftOf := O
  show WS mM E 4 0 [(0, rf E 0), (1, .int a1)] [] s0
  unfold f_X6_liftOf at hf
  refine s_aload_n O 0 dX6_liftOf_0 rfl rfl ?_
  refine s_iload_n O 1 dX6_liftOf_1 rfl rfl ?_
  refine s_iconst (v := 1) O dX6_liftOf_2 rfl ?_
  obtain ⟨s1, r2, c3, hf⟩ := bn_e hf
  refine s_VI (As := [.int a1, .int 1]) (st := []) O lk_RX6_152 (k_X6_of c3) rfl ms_0 rfl rfl ⟨rfl, rfl⟩ ⟨Nat.le_of_ble_eq_true rfl, Nat.le_of_ble_eq_true rfl⟩ rfl (Nat.le_of_ble_eq_true rfl) dX6_liftOf_3 ?_
  refine s_istore_n (lv' := [(2, .int r2), (0, rf E 0), (1, .int a1)]) O dX6_liftOf_6 rfl (by decide) rfl ?_
  refine s_aload_n O 1 dX6_liftOf_7 rfl rfl ?_
  refine s_iload_n O 2 dX6_liftOf_8 rfl rfl ?_
  refine s_iconst (v := 3) O dX6_liftOf_9 rfl ?_
  obtain ⟨s4, r5, c6, hf⟩ := bn_e hf
  refine s_VI (As := [.int a1, .int 3]) (st := []) O lk_RX6_152 (k_X6_of c6) rfl ms_0 rfl rfl ⟨rfl, rfl⟩ ⟨Nat.le_of_ble_eq_true rfl, Nat.le_of_ble_eq_true rfl⟩ rfl (Nat.le_of_ble_eq_true rfl) dX6_liftOf_10 ?_
  refine s_iconst (v := 1) O dX6_liftOf_13 rfl ?_
  refine s_icmp_ne (tgt := 21) O dX6_liftOf_14 (by decide) (fun c => ?_) (fun c => ?_)
  · replace hf := if_f c hf
    refine s_iconst (v := 0) O dX6_liftOf_21 rfl ?_
    refine s_loc [1, 2, 0] rfl ?_
    exact wj_X6_liftOf_j22 (rr := rr) O   hret hf
  · replace hf := if_t c hf
    refine s_iconst (v := 1) O dX6_liftOf_17 rfl ?_
    refine s_goto (tgt := 22) O dX6_liftOf_18 (by decide) ?_
    refine s_loc [1, 2, 0] rfl ?_
    exact wj_X6_liftOf_j22 (rr := rr) O   hret hf
def rm_X6_within : Room := { frames := 0, cells := 0, slots := 0, locals := 0 }
def f_X6_within (a0 : Int32) (a1 : Int32) (a2 : Int32) (s0 : StA) : Option (StA × Int32) :=
  (if a1 ≤ a0 then (if a0 ≤ a2 then some (s0, a0) else some (s0, a2)) else some (s0, a1))
set_option maxHeartbeats 4000000 in
set_option maxRecDepth 100000 in
theorem k_X6_within {a0 : Int32} {a1 : Int32} {a2 : Int32} {s0 zs : StA} {rr : Int32} (hf : f_X6_within a0 a1 a2 s0 = some (zs, rr)) : CtI mM yX6_within cX6_within 3 .int rm_X6_within (fun ph => [.int a0, .int a1, .int a2]) s0 zs rr := by
  refine CtI.of (by decide +kernel) (fun ph => Nat.le_of_ble_eq_true rfl) (fun E O hret => ?_)
  have O : OK mM E RX6 cX6_within 3 rm_X6_within := O
  show WS mM E 3 0 [(0, .int a0), (1, .int a1), (2, .int a2)] [] s0
  unfold f_X6_within at hf
  refine s_iload_n O 0 dX6_within_0 rfl rfl ?_
  refine s_iload_n O 1 dX6_within_1 rfl rfl ?_
  refine s_icmp_ge (tgt := 9) O dX6_within_2 (by decide) (fun c => ?_) (fun c => ?_)
  · replace hf := if_t c hf
    refine s_iload_n O 0 dX6_within_9 rfl rfl ?_
    refine s_iload_n O 2 dX6_within_10 rfl rfl ?_
    refine s_icmp_le (tgt := 18) O dX6_within_11 (by decide) (fun c => ?_) (fun c => ?_)
    · replace hf := if_t c hf
      refine s_iload_n O 0 dX6_within_18 rfl rfl ?_
      exact s_iret hret rfl dX6_within_19 hf
    · replace hf := if_f c hf
      refine s_iload_n O 2 dX6_within_14 rfl rfl ?_
      refine s_goto (tgt := 19) O dX6_within_15 (by decide) ?_
      exact s_iret hret rfl dX6_within_19 hf
  · replace hf := if_f c hf
    refine s_iload_n O 1 dX6_within_5 rfl rfl ?_
    refine s_goto (tgt := 19) O dX6_within_6 (by decide) ?_
    exact s_iret hret rfl dX6_within_19 hf
def rm_X6_liftNow : Room := { frames := 2, cells := 0, slots := 0, locals := 45 }
def fb_X6_liftNow_l4   (s0 : StA) (v1 : Int32) (v2 : Int32) : Option (StA × ((Int32 × Int32) ⊕ (Int32))) :=
  (if (gi s0 0 3) ≤ v2 then some (s0, .inr v1) else bn (f_X6_liftOf v2 s0) (fun s1 r2 => nmi (v1 + r2) (fun n4 => some (s1, .inl (n4, (v2 + 1))))))
set_option maxHeartbeats 4000000 in
set_option maxRecDepth 100000 in
theorem wb_X6_liftNow_l4 {E : XC} (O : OK mM E RX6 cX6_liftNow 3 rm_X6_liftNow)    {s0 : StA} {v1 : Int32} {v2 : Int32} {zs : StA} {rr : Int32} (hret : ReI mM E .int cX6_liftNow zs rr) {bs : StA} {bw : (Int32 × Int32) ⊕ (Int32)} (Kc : ∀ v, bw = .inl v → WS mM E 3 4 [(0, rf E 0), (1, .int v.1), (2, .int v.2)] [] bs) (Ke : ∀ e, bw = .inr e → WS mM E 3 26 [(1, .int e)] [] bs) (hf : fb_X6_liftNow_l4  s0 v1 v2 = some (bs, bw)) : WS mM E 3 4 [(0, rf E 0), (1, .int v1), (2, .int v2)] [] s0 := by
  unfold fb_X6_liftNow_l4 at hf
  refine s_iload_n O 2 dX6_liftNow_4 rfl rfl ?_
  refine s_aload_n O 0 dX6_liftNow_5 rfl rfl ?_
  refine s_getI O fg_RX6_64 ms_0 rfl dX6_liftNow_6 ?_
  refine s_icmp_ge (tgt := 26) O dX6_liftNow_9 (by decide) (fun c => ?_) (fun c => ?_)
  · replace hf := if_t c hf
    refine s_loc [1] rfl ?_
    cases hf
    exact Ke _ rfl
  · replace hf := if_f c hf
    refine s_iload_n O 1 dX6_liftNow_12 rfl rfl ?_
    refine s_aload_n O 0 dX6_liftNow_13 rfl rfl ?_
    refine s_iload_n O 2 dX6_liftNow_14 rfl rfl ?_
    obtain ⟨s1, r2, c3, hf⟩ := bn_e hf
    refine s_VI (As := [.int v2]) (st := [.int v1]) O lk_RX6_155 (k_X6_liftOf c3) rfl ms_0 rfl rfl ⟨rfl, rfl⟩ ⟨Nat.le_of_ble_eq_true rfl, Nat.le_of_ble_eq_true rfl⟩ rfl (Nat.le_of_ble_eq_true rfl) dX6_liftNow_15 ?_
    refine s_iadd O dX6_liftNow_18 ?_
    refine s_topi (fun n4 en4 => ?_)
    replace hf := nmi_e en4 hf
    refine s_istore_n (lv' := [(1, .int n4), (0, rf E 0), (2, .int v2)]) O dX6_liftNow_19 rfl (by decide) rfl ?_
    refine s_iinc (v := (v2 + 1)) (lv' := [(2, .int (v2 + 1)), (1, .int n4), (0, rf E 0)]) O 2 dX6_liftNow_20 rfl rfl (by decide) rfl ?_
    refine s_goto (tgt := 4) O dX6_liftNow_23 (by decide) ?_
    refine s_loc [2, 1, 0] rfl ?_
    cases hf
    exact Kc _ rfl
def fl_X6_liftNow_l4   (s0 : StA) (v : Int32 × Int32) : Option (StA × ((Int32))) :=
  it (fun s v => fb_X6_liftNow_l4  s v.1 v.2) FU s0 v
def f_X6_liftNow  (s0 : StA) : Option (StA × Int32) :=
  bn (fl_X6_liftNow_l4  s0 (0, 0)) (fun s5 u4_1 => bn (f_X6_within u4_1 0 60 s5) (fun s8 r9 => some (s8, r9)))
set_option maxHeartbeats 4000000 in
set_option maxRecDepth 100000 in
theorem k_X6_liftNow  {s0 zs : StA} {rr : Int32} (hf : f_X6_liftNow  s0 = some (zs, rr)) : CtI mM yX6_liftNow cX6_liftNow 3 .int rm_X6_liftNow (fun ph => [.ref (ph 0)]) s0 zs rr := by
  refine CtI.of (by decide +kernel) (fun ph => Nat.le_of_ble_eq_true rfl) (fun E O hret => ?_)
  have O : OK mM E RX6 cX6_liftNow 3 rm_X6_liftNow := O
  show WS mM E 3 0 [(0, rf E 0)] [] s0
  unfold f_X6_liftNow at hf
  refine s_iconst (v := 0) O dX6_liftNow_0 rfl ?_
  refine s_istore_n (lv' := [(1, .int 0), (0, rf E 0)]) O dX6_liftNow_1 rfl (by decide) rfl ?_
  refine s_iconst (v := 0) O dX6_liftNow_2 rfl ?_
  refine s_istore_n (lv' := [(2, .int 0), (1, .int 0), (0, rf E 0)]) O dX6_liftNow_3 rfl (by decide) rfl ?_
  refine s_loc [2, 1, 0] rfl ?_
  obtain ⟨s5, u4_1, c7, hf⟩ := bn_e hf
  refine lp_of (body := fun s v => fb_X6_liftNow_l4  s v.1 v.2) (X := fun s v => WS mM E 3 4 [(0, rf E 0), (1, .int v.1), (2, .int v.2)] [] s) (Y := fun s e => WS mM E 3 26 [(1, .int e)] [] s) (fun s v s' w hb Kc Ke => wb_X6_liftNow_l4 (rr := rr) O   hret Kc Ke hb) FU _ _ (s5, u4_1) c7 ?_
  show WS mM E 3 26 [(1, .int u4_1)] [] s5
  refine s_iload_n O 0 dX6_liftNow_26 rfl rfl ?_
  refine s_iconst (v := 0) O dX6_liftNow_27 rfl ?_
  refine s_bipush (v := 60) O dX6_liftNow_28 rfl ?_
  obtain ⟨s8, r9, c10, hf⟩ := bn_e hf
  refine s_SI (As := [.int u4_1, .int 0, .int 60]) (st := []) O lk_RX6_158 (k_X6_within c10) rfl rfl ⟨rfl, rfl⟩ ⟨Nat.le_of_ble_eq_true rfl, Nat.le_of_ble_eq_true rfl⟩ rfl (Nat.le_of_ble_eq_true rfl) dX6_liftNow_30 ?_
  exact s_iret hret rfl dX6_liftNow_33 hf
def rm_X6_saidNow : Room := { frames := 1, cells := 0, slots := 0, locals := 22 }
def fb_X6_saidNow_l4   (s0 : StA) (v1 : Int32) (v2 : Int32) : Option (StA × ((Int32 × Int32) ⊕ (Int32))) :=
  (if (gi s0 0 3) ≤ v2 then some (s0, .inr v1) else bn (f_X6_of v2 3 s0) (fun s1 r2 => nmi (v1 ||| (r2 <<< (v2 &&& 31))) (fun n4 => some (s1, .inl (n4, (v2 + 1))))))
set_option maxHeartbeats 4000000 in
set_option maxRecDepth 100000 in
theorem wb_X6_saidNow_l4 {E : XC} (O : OK mM E RX6 cX6_saidNow 3 rm_X6_saidNow)    {s0 : StA} {v1 : Int32} {v2 : Int32} {zs : StA} {rr : Int32} (hret : ReI mM E .int cX6_saidNow zs rr) {bs : StA} {bw : (Int32 × Int32) ⊕ (Int32)} (Kc : ∀ v, bw = .inl v → WS mM E 3 4 [(0, rf E 0), (1, .int v.1), (2, .int v.2)] [] bs) (Ke : ∀ e, bw = .inr e → WS mM E 3 29 [(1, .int e)] [] bs) (hf : fb_X6_saidNow_l4  s0 v1 v2 = some (bs, bw)) : WS mM E 3 4 [(0, rf E 0), (1, .int v1), (2, .int v2)] [] s0 := by
  unfold fb_X6_saidNow_l4 at hf
  refine s_iload_n O 2 dX6_saidNow_4 rfl rfl ?_
  refine s_aload_n O 0 dX6_saidNow_5 rfl rfl ?_
  refine s_getI O fg_RX6_64 ms_0 rfl dX6_saidNow_6 ?_
  refine s_icmp_ge (tgt := 29) O dX6_saidNow_9 (by decide) (fun c => ?_) (fun c => ?_)
  · replace hf := if_t c hf
    refine s_loc [1] rfl ?_
    cases hf
    exact Ke _ rfl
  · replace hf := if_f c hf
    refine s_iload_n O 1 dX6_saidNow_12 rfl rfl ?_
    refine s_aload_n O 0 dX6_saidNow_13 rfl rfl ?_
    refine s_iload_n O 2 dX6_saidNow_14 rfl rfl ?_
    refine s_iconst (v := 3) O dX6_saidNow_15 rfl ?_
    obtain ⟨s1, r2, c3, hf⟩ := bn_e hf
    refine s_VI (As := [.int v2, .int 3]) (st := [.int v1]) O lk_RX6_152 (k_X6_of c3) rfl ms_0 rfl rfl ⟨rfl, rfl⟩ ⟨Nat.le_of_ble_eq_true rfl, Nat.le_of_ble_eq_true rfl⟩ rfl (Nat.le_of_ble_eq_true rfl) dX6_saidNow_16 ?_
    refine s_iload_n O 2 dX6_saidNow_19 rfl rfl ?_
    refine s_ishl O dX6_saidNow_20 ?_
    refine s_ior O dX6_saidNow_21 ?_
    refine s_topi (fun n4 en4 => ?_)
    replace hf := nmi_e en4 hf
    refine s_istore_n (lv' := [(1, .int n4), (0, rf E 0), (2, .int v2)]) O dX6_saidNow_22 rfl (by decide) rfl ?_
    refine s_iinc (v := (v2 + 1)) (lv' := [(2, .int (v2 + 1)), (1, .int n4), (0, rf E 0)]) O 2 dX6_saidNow_23 rfl rfl (by decide) rfl ?_
    refine s_goto (tgt := 4) O dX6_saidNow_26 (by decide) ?_
    refine s_loc [2, 1, 0] rfl ?_
    cases hf
    exact Kc _ rfl
def fl_X6_saidNow_l4   (s0 : StA) (v : Int32 × Int32) : Option (StA × ((Int32))) :=
  it (fun s v => fb_X6_saidNow_l4  s v.1 v.2) FU s0 v
def f_X6_saidNow  (s0 : StA) : Option (StA × Int32) :=
  bn (fl_X6_saidNow_l4  s0 (0, 0)) (fun s5 u4_1 => some (s5, u4_1))
set_option maxHeartbeats 4000000 in
set_option maxRecDepth 100000 in
theorem k_X6_saidNow  {s0 zs : StA} {rr : Int32} (hf : f_X6_saidNow  s0 = some (zs, rr)) : CtI mM yX6_saidNow cX6_saidNow 3 .int rm_X6_saidNow (fun ph => [.ref (ph 0)]) s0 zs rr := by
  refine CtI.of (by decide +kernel) (fun ph => Nat.le_of_ble_eq_true rfl) (fun E O hret => ?_)
  have O : OK mM E RX6 cX6_saidNow 3 rm_X6_saidNow := O
  show WS mM E 3 0 [(0, rf E 0)] [] s0
  unfold f_X6_saidNow at hf
  refine s_iconst (v := 0) O dX6_saidNow_0 rfl ?_
  refine s_istore_n (lv' := [(1, .int 0), (0, rf E 0)]) O dX6_saidNow_1 rfl (by decide) rfl ?_
  refine s_iconst (v := 0) O dX6_saidNow_2 rfl ?_
  refine s_istore_n (lv' := [(2, .int 0), (1, .int 0), (0, rf E 0)]) O dX6_saidNow_3 rfl (by decide) rfl ?_
  refine s_loc [2, 1, 0] rfl ?_
  obtain ⟨s5, u4_1, c7, hf⟩ := bn_e hf
  refine lp_of (body := fun s v => fb_X6_saidNow_l4  s v.1 v.2) (X := fun s v => WS mM E 3 4 [(0, rf E 0), (1, .int v.1), (2, .int v.2)] [] s) (Y := fun s e => WS mM E 3 29 [(1, .int e)] [] s) (fun s v s' w hb Kc Ke => wb_X6_saidNow_l4 (rr := rr) O   hret Kc Ke hb) FU _ _ (s5, u4_1) c7 ?_
  show WS mM E 3 29 [(1, .int u4_1)] [] s5
  refine s_iload_n O 0 dX6_saidNow_29 rfl rfl ?_
  exact s_iret hret rfl dX6_saidNow_30 hf
def rm_X6_starts : Room := { frames := 0, cells := 0, slots := 0, locals := 0 }
def fb_X6_starts_l2   (s0 : StA) (v1 : Int32) : Option (StA × ((Int32) ⊕ (Unit))) :=
  (if 63 ≤ v1 then some (s0, .inr ()) else gd v1 189 (gd v1 63 (nms (si s0 2 v1.toNatClampNeg (gi s0 1 v1.toNatClampNeg)) (fun s3 => some (s3, .inl (v1 + 1))))))
set_option maxHeartbeats 4000000 in
set_option maxRecDepth 100000 in
theorem wb_X6_starts_l2 {E : XC} (O : OK mM E RX6 cX6_starts 2 rm_X6_starts)    {s0 : StA} {v1 : Int32} {zs : StA} {rr : Unit} (hret : ReV mM E cX6_starts zs) {bs : StA} {bw : (Int32) ⊕ (Unit)} (Kc : ∀ v, bw = .inl v → WS mM E 2 2 [(0, rf E 0), (1, .int v)] [] bs) (Ke : ∀ e, bw = .inr e → WS mM E 2 26 [(0, rf E 0)] [] bs) (hf : fb_X6_starts_l2  s0 v1 = some (bs, bw)) : WS mM E 2 2 [(0, rf E 0), (1, .int v1)] [] s0 := by
  unfold fb_X6_starts_l2 at hf
  refine s_iload_n O 1 dX6_starts_2 rfl rfl ?_
  refine s_bipush (v := 63) O dX6_starts_3 rfl ?_
  refine s_icmp_ge (tgt := 26) O dX6_starts_5 (by decide) (fun c => ?_) (fun c => ?_)
  · replace hf := if_t c hf
    refine s_loc [0] rfl ?_
    cases hf
    exact Ke _ rfl
  · replace hf := if_f c hf
    refine s_aload_n O 0 dX6_starts_8 rfl rfl ?_
    refine s_getR O fg_RX6_13 ms_0 rfl dX6_starts_9 ?_
    refine s_iload_n O 1 dX6_starts_12 rfl rfl ?_
    refine s_aload_n O 0 dX6_starts_13 rfl rfl ?_
    refine s_getR O fg_RX6_7 ms_0 rfl dX6_starts_14 ?_
    refine s_iload_n O 1 dX6_starts_17 rfl rfl ?_
    obtain ⟨h1, hf⟩ := gd_e hf
    refine s_iald O ms_1 h1 dX6_starts_18 ?_
    obtain ⟨h2, hf⟩ := gd_e hf
    refine s_iast O ms_2 h2 dX6_starts_19 ?_
    refine s_tops (fun s3 es3 => ?_)
    replace hf := nms_e es3 hf
    refine s_iinc (v := (v1 + 1)) (lv' := [(1, .int (v1 + 1)), (0, rf E 0)]) O 1 dX6_starts_20 rfl rfl (by decide) rfl ?_
    refine s_goto (tgt := 2) O dX6_starts_23 (by decide) ?_
    refine s_loc [1, 0] rfl ?_
    cases hf
    exact Kc _ rfl
def fl_X6_starts_l2   (s0 : StA) (v : Int32) : Option (StA × ((Unit))) :=
  it (fun s v => fb_X6_starts_l2  s v) FU s0 v
def f_X6_starts  (s0 : StA) : Option (StA × Unit) :=
  bn (fl_X6_starts_l2  s0 0) (fun s4 e5 => nms (si s4 0 17 0) (fun s7 => nms (si s7 0 18 (-4)) (fun s8 => some (s8, ()))))
set_option maxHeartbeats 4000000 in
set_option maxRecDepth 100000 in
theorem k_X6_starts  {s0 zs : StA} {rr : Unit} (hf : f_X6_starts  s0 = some (zs, rr)) : CtV mM yX6_starts cX6_starts 2 rm_X6_starts (fun ph => [.ref (ph 0)]) s0 zs := by
  refine CtV.of (by decide +kernel) (fun ph => Nat.le_of_ble_eq_true rfl) (fun E O hret => ?_)
  have O : OK mM E RX6 cX6_starts 2 rm_X6_starts := O
  show WS mM E 2 0 [(0, rf E 0)] [] s0
  unfold f_X6_starts at hf
  refine s_iconst (v := 0) O dX6_starts_0 rfl ?_
  refine s_istore_n (lv' := [(1, .int 0), (0, rf E 0)]) O dX6_starts_1 rfl (by decide) rfl ?_
  refine s_loc [1, 0] rfl ?_
  obtain ⟨s4, e5, c6, hf⟩ := bn_e hf
  refine lp_of (body := fun s v => fb_X6_starts_l2  s v) (X := fun s v => WS mM E 2 2 [(0, rf E 0), (1, .int v)] [] s) (Y := fun s e => WS mM E 2 26 [(0, rf E 0)] [] s) (fun s v s' w hb Kc Ke => wb_X6_starts_l2 (rr := rr) O   hret Kc Ke hb) FU _ _ (s4, e5) c6 ?_
  show WS mM E 2 26 [(0, rf E 0)] [] s4
  refine s_aload_n O 0 dX6_starts_26 rfl rfl ?_
  refine s_iconst (v := 0) O dX6_starts_27 rfl ?_
  refine s_putI O fp_RX6_146 ms_0 rfl dX6_starts_28 ?_
  refine s_tops (fun s7 es7 => ?_)
  replace hf := nms_e es7 hf
  refine s_aload_n O 0 dX6_starts_31 rfl rfl ?_
  refine s_bipush (v := (-4)) O dX6_starts_32 rfl ?_
  refine s_putI O fp_RX6_149 ms_0 rfl dX6_starts_34 ?_
  refine s_tops (fun s8 es8 => ?_)
  replace hf := nms_e es8 hf
  exact s_vret hret dX6_starts_37 hf
