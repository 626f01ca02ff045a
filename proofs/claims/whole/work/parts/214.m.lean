def rm_X6_swap : Room := { frames := 5, cells := 0, slots := 0, locals := 110 }
def fb_X6_swap_l52 (a1 : Int32) (x1 : Int32) (x3 : Int32) (s0 : StA) (v4 : Int32) : Option (StA × ((Int32) ⊕ (Unit))) :=
  gd 33 189 ((if (gi s0 1 (33 : Int32).toNatClampNeg) ≤ v4 then some (s0, .inr ()) else bn (f_X6_starts  s0) (fun s16 r17 => gd ((34 + (2 * v4)) + 1) 189 (gd ((34 + (2 * x3)) + 1) 63 (nms (si s16 2 (((34 + (2 * x3)) + 1).toNatClampNeg) (gi s16 1 ((34 + (2 * v4)) + 1).toNatClampNeg)) (fun s21 => gd ((34 + (2 * x3)) + 1) 189 (gd ((34 + (2 * v4)) + 1) 63 (nms (si s21 2 (((34 + (2 * v4)) + 1).toNatClampNeg) (gi s21 1 ((34 + (2 * x3)) + 1).toNatClampNeg)) (fun s24 => bn (f_X6_minutesDown  s24) (fun s25 r26 => bn (f_X6_judges ((10 * x3) + v4) r26 s25) (fun s28 r29 => some (s28, .inl (v4 + 1)))))))))))))
set_option maxHeartbeats 4000000 in
set_option maxRecDepth 100000 in
theorem wb_X6_swap_l52 {E : XC} (O : OK mM E RX6 cX6_swap 5 rm_X6_swap) {a1 : Int32}  {x1 : Int32} {x3 : Int32} {s0 : StA} {v4 : Int32} {zs : StA} {rr : Int32} (hret : ReI mM E .int cX6_swap zs rr) {bs : StA} {bw : (Int32) ⊕ (Unit)} (Kc : ∀ v, bw = .inl v → WS mM E 5 52 [(0, rf E 0), (1, .int x1), (3, .int x3), (4, .int v)] [] bs) (Ke : ∀ e, bw = .inr e → WS mM E 5 143 [(0, rf E 0), (1, .int x1), (3, .int x3)] [] bs) (hf : fb_X6_swap_l52 a1 x1 x3 s0 v4 = some (bs, bw)) : WS mM E 5 52 [(0, rf E 0), (1, .int x1), (3, .int x3), (4, .int v4)] [] s0 := by
  unfold fb_X6_swap_l52 at hf
  refine s_iload O 3 dX6_swap_52 rfl ?_
  refine s_aload_n O 0 dX6_swap_54 rfl rfl ?_
  refine s_getR O fg_RX6_7 ms_0 rfl dX6_swap_55 ?_
  refine s_bipush (v := 33) O dX6_swap_58 rfl ?_
  obtain ⟨h15, hf⟩ := gd_e hf
  refine s_iald O ms_1 h15 dX6_swap_60 ?_
  refine s_icmp_ge (tgt := 143) O dX6_swap_61 (by decide) (fun c => ?_) (fun c => ?_)
  · replace hf := if_t c hf
    refine s_loc [0, 1, 2] rfl ?_
    cases hf
    exact Ke _ rfl
  · replace hf := if_f c hf
    refine s_aload_n O 0 dX6_swap_64 rfl rfl ?_
    obtain ⟨s16, r17, c18, hf⟩ := bn_e hf
    refine s_VV (As := []) (st := []) O lk_RX6_175 (k_X6_starts c18) rfl ms_0 rfl rfl ⟨rfl, rfl⟩ ⟨Nat.le_of_ble_eq_true rfl, Nat.le_of_ble_eq_true rfl⟩ rfl (Nat.le_of_ble_eq_true rfl) dX6_swap_65 ?_
    refine s_aload_n O 0 dX6_swap_68 rfl rfl ?_
    refine s_getR O fg_RX6_13 ms_0 rfl dX6_swap_69 ?_
    refine s_bipush (v := 34) O dX6_swap_72 rfl ?_
    refine s_iconst (v := 2) O dX6_swap_74 rfl ?_
    refine s_iload_n O 2 dX6_swap_75 rfl rfl ?_
    refine s_imul O dX6_swap_76 ?_
    refine s_iadd O dX6_swap_77 ?_
    refine s_iconst (v := 1) O dX6_swap_78 rfl ?_
    refine s_iadd O dX6_swap_79 ?_
    refine s_aload_n O 0 dX6_swap_80 rfl rfl ?_
    refine s_getR O fg_RX6_7 ms_0 rfl dX6_swap_81 ?_
    refine s_bipush (v := 34) O dX6_swap_84 rfl ?_
    refine s_iconst (v := 2) O dX6_swap_86 rfl ?_
    refine s_iload O 3 dX6_swap_87 rfl ?_
    refine s_imul O dX6_swap_89 ?_
    refine s_iadd O dX6_swap_90 ?_
    refine s_iconst (v := 1) O dX6_swap_91 rfl ?_
    refine s_iadd O dX6_swap_92 ?_
    obtain ⟨h19, hf⟩ := gd_e hf
    refine s_iald O ms_1 h19 dX6_swap_93 ?_
    obtain ⟨h20, hf⟩ := gd_e hf
    refine s_iast O ms_2 h20 dX6_swap_94 ?_
    refine s_tops (fun s21 es21 => ?_)
    replace hf := nms_e es21 hf
    refine s_aload_n O 0 dX6_swap_95 rfl rfl ?_
    refine s_getR O fg_RX6_13 ms_0 rfl dX6_swap_96 ?_
    refine s_bipush (v := 34) O dX6_swap_99 rfl ?_
    refine s_iconst (v := 2) O dX6_swap_101 rfl ?_
    refine s_iload O 3 dX6_swap_102 rfl ?_
    refine s_imul O dX6_swap_104 ?_
    refine s_iadd O dX6_swap_105 ?_
    refine s_iconst (v := 1) O dX6_swap_106 rfl ?_
    refine s_iadd O dX6_swap_107 ?_
    refine s_aload_n O 0 dX6_swap_108 rfl rfl ?_
    refine s_getR O fg_RX6_7 ms_0 rfl dX6_swap_109 ?_
    refine s_bipush (v := 34) O dX6_swap_112 rfl ?_
    refine s_iconst (v := 2) O dX6_swap_114 rfl ?_
    refine s_iload_n O 2 dX6_swap_115 rfl rfl ?_
    refine s_imul O dX6_swap_116 ?_
    refine s_iadd O dX6_swap_117 ?_
    refine s_iconst (v := 1) O dX6_swap_118 rfl ?_
    refine s_iadd O dX6_swap_119 ?_
    obtain ⟨h22, hf⟩ := gd_e hf
    refine s_iald O ms_1 h22 dX6_swap_120 ?_
    obtain ⟨h23, hf⟩ := gd_e hf
    refine s_iast O ms_2 h23 dX6_swap_121 ?_
    refine s_tops (fun s24 es24 => ?_)
    replace hf := nms_e es24 hf
    refine s_aload_n O 0 dX6_swap_122 rfl rfl ?_
    refine s_bipush (v := 10) O dX6_swap_123 rfl ?_
    refine s_iload_n O 2 dX6_swap_125 rfl rfl ?_
    refine s_imul O dX6_swap_126 ?_
    refine s_iload O 3 dX6_swap_127 rfl ?_
    refine s_iadd O dX6_swap_129 ?_
    refine s_aload_n O 0 dX6_swap_130 rfl rfl ?_
    obtain ⟨s25, r26, c27, hf⟩ := bn_e hf
    refine s_VI (As := []) (st := [.int ((10 * x3) + v4), rf E 0]) O lk_RX6_229 (k_X6_minutesDown c27) rfl ms_0 rfl rfl ⟨rfl, rfl⟩ ⟨Nat.le_of_ble_eq_true rfl, Nat.le_of_ble_eq_true rfl⟩ rfl (Nat.le_of_ble_eq_true rfl) dX6_swap_131 ?_
    obtain ⟨s28, r29, c30, hf⟩ := bn_e hf
    refine s_VV (As := [.int ((10 * x3) + v4), .int r26]) (st := []) O lk_RX6_251 (k_X6_judges c30) rfl ms_0 rfl rfl ⟨rfl, rfl⟩ ⟨Nat.le_of_ble_eq_true rfl, Nat.le_of_ble_eq_true rfl⟩ rfl (Nat.le_of_ble_eq_true rfl) dX6_swap_134 ?_
    refine s_iinc (v := (v4 + 1)) (lv' := [(4, .int (v4 + 1)), (0, rf E 0), (1, .int x1), (3, .int x3)]) O 3 dX6_swap_137 rfl rfl (by decide) rfl ?_
    refine s_goto (tgt := 52) O dX6_swap_140 (by decide) ?_
    refine s_loc [1, 2, 3, 0] rfl ?_
    cases hf
    exact Kc _ rfl
def fl_X6_swap_l52 (a1 : Int32) (x1 : Int32) (x3 : Int32) (s0 : StA) (v : Int32) : Option (StA × ((Unit))) :=
  it (fun s v => fb_X6_swap_l52 a1 x1 x3 s v) FU s0 v
def fb_X6_swap_l36 (a1 : Int32) (x1 : Int32) (s0 : StA) (v3 : Int32) : Option (StA × ((Int32) ⊕ (Unit))) :=
  gd 33 189 ((if (gi s0 1 (33 : Int32).toNatClampNeg) ≤ v3 then some (s0, .inr ()) else nmi (v3 + 1) (fun n14 => bn (fl_X6_swap_l52 a1 x1 v3 s0 n14) (fun s31 e32 => some (s31, .inl (v3 + 1))))))
set_option maxHeartbeats 4000000 in
set_option maxRecDepth 100000 in
theorem wb_X6_swap_l36 {E : XC} (O : OK mM E RX6 cX6_swap 5 rm_X6_swap) {a1 : Int32}  {x1 : Int32} {s0 : StA} {v3 : Int32} {zs : StA} {rr : Int32} (hret : ReI mM E .int cX6_swap zs rr) {bs : StA} {bw : (Int32) ⊕ (Unit)} (Kc : ∀ v, bw = .inl v → WS mM E 5 36 [(0, rf E 0), (1, .int x1), (3, .int v)] [] bs) (Ke : ∀ e, bw = .inr e → WS mM E 5 149 [(0, rf E 0), (1, .int x1)] [] bs) (hf : fb_X6_swap_l36 a1 x1 s0 v3 = some (bs, bw)) : WS mM E 5 36 [(0, rf E 0), (1, .int x1), (3, .int v3)] [] s0 := by
  unfold fb_X6_swap_l36 at hf
  refine s_iload_n O 2 dX6_swap_36 rfl rfl ?_
  refine s_aload_n O 0 dX6_swap_37 rfl rfl ?_
  refine s_getR O fg_RX6_7 ms_0 rfl dX6_swap_38 ?_
  refine s_bipush (v := 33) O dX6_swap_41 rfl ?_
  obtain ⟨h13, hf⟩ := gd_e hf
  refine s_iald O ms_1 h13 dX6_swap_43 ?_
  refine s_icmp_ge (tgt := 149) O dX6_swap_44 (by decide) (fun c => ?_) (fun c => ?_)
  · replace hf := if_t c hf
    refine s_loc [0, 1] rfl ?_
    cases hf
    exact Ke _ rfl
  · replace hf := if_f c hf
    refine s_iload_n O 2 dX6_swap_47 rfl rfl ?_
    refine s_iconst (v := 1) O dX6_swap_48 rfl ?_
    refine s_iadd O dX6_swap_49 ?_
    refine s_topi (fun n14 en14 => ?_)
    replace hf := nmi_e en14 hf
    refine s_istore (lv' := [(4, .int n14), (0, rf E 0), (1, .int x1), (3, .int v3)]) O dX6_swap_50 (by decide) rfl ?_
    refine s_loc [1, 2, 3, 0] rfl ?_
    obtain ⟨s31, e32, c33, hf⟩ := bn_e hf
    refine lp_of (body := fun s v => fb_X6_swap_l52 a1 x1 v3 s v) (X := fun s v => WS mM E 5 52 [(0, rf E 0), (1, .int x1), (3, .int v3), (4, .int v)] [] s) (Y := fun s e => WS mM E 5 143 [(0, rf E 0), (1, .int x1), (3, .int v3)] [] s) (fun s v s' w hb Kc Ke => wb_X6_swap_l52 (rr := rr) O   hret Kc Ke hb) FU _ _ (s31, e32) c33 ?_
    show WS mM E 5 143 [(0, rf E 0), (1, .int x1), (3, .int v3)] [] s31
    refine s_iinc (v := (v3 + 1)) (lv' := [(3, .int (v3 + 1)), (0, rf E 0), (1, .int x1)]) O 2 dX6_swap_143 rfl rfl (by decide) rfl ?_
    refine s_goto (tgt := 36) O dX6_swap_146 (by decide) ?_
    refine s_loc [1, 2, 0] rfl ?_
    cases hf
    exact Kc _ rfl
def fl_X6_swap_l36 (a1 : Int32) (x1 : Int32) (s0 : StA) (v : Int32) : Option (StA × ((Unit))) :=
  it (fun s v => fb_X6_swap_l36 a1 x1 s v) FU s0 v
def fj_X6_swap_j31 (a1 : Int32)  (y0 : Int32) (s0 : StA) : Option (StA × (Int32)) :=
  bn (f_X6_startsJudging y0 s0) (fun s10 r11 => bn (fl_X6_swap_l36 a1 a1 s10 0) (fun s34 e35 => bn (f_X6_judged a1 s34) (fun s37 r38 => some (s37, r38))))
set_option maxHeartbeats 4000000 in
set_option maxRecDepth 100000 in
theorem wj_X6_swap_j31 {E : XC} (O : OK mM E RX6 cX6_swap 5 rm_X6_swap) {a1 : Int32}   {y0 : Int32} {s0 : StA} {zs : StA} {rr : Int32} (hret : ReI mM E .int cX6_swap zs rr) (hf : fj_X6_swap_j31 a1 y0 s0 = some (zs, rr)) : WS mM E 5 31 [(0, rf E 0), (1, .int a1)] [.int y0, rf E 0] s0 := by
  unfold fj_X6_swap_j31 at hf
  obtain ⟨s10, r11, c12, hf⟩ := bn_e hf
  refine s_VV (As := [.int y0]) (st := []) O lk_RX6_245 (k_X6_startsJudging c12) rfl ms_0 rfl rfl ⟨rfl, rfl⟩ ⟨Nat.le_of_ble_eq_true rfl, Nat.le_of_ble_eq_true rfl⟩ rfl (Nat.le_of_ble_eq_true rfl) dX6_swap_31 ?_
  refine s_iconst (v := 0) O dX6_swap_34 rfl ?_
  refine s_istore_n (lv' := [(3, .int 0), (0, rf E 0), (1, .int a1)]) O dX6_swap_35 rfl (by decide) rfl ?_
  refine s_loc [1, 2, 0] rfl ?_
  obtain ⟨s34, e35, c36, hf⟩ := bn_e hf
  refine lp_of (body := fun s v => fb_X6_swap_l36 a1 a1 s v) (X := fun s v => WS mM E 5 36 [(0, rf E 0), (1, .int a1), (3, .int v)] [] s) (Y := fun s e => WS mM E 5 149 [(0, rf E 0), (1, .int a1)] [] s) (fun s v s' w hb Kc Ke => wb_X6_swap_l36 (rr := rr) O   hret Kc Ke hb) FU _ _ (s34, e35) c36 ?_
  show WS mM E 5 149 [(0, rf E 0), (1, .int a1)] [] s34
  refine s_aload_n O 0 dX6_swap_149 rfl rfl ?_
  refine s_iload_n O 1 dX6_swap_150 rfl rfl ?_
  obtain ⟨s37, r38, c39, hf⟩ := bn_e hf
  refine s_VI (As := [.int a1]) (st := []) O lk_RX6_255 (k_X6_judged c39) rfl ms_0 rfl rfl ⟨rfl, rfl⟩ ⟨Nat.le_of_ble_eq_true rfl, Nat.le_of_ble_eq_true rfl⟩ rfl (Nat.le_of_ble_eq_true rfl) dX6_swap_151 ?_
  exact s_iret hret rfl dX6_swap_154 hf
def f_X6_swap (a1 : Int32) (s0 : StA) : Option (StA × Int32) :=
  bn (f_X6_isPart a1 s0) (fun s1 r2 => (if r2 = 0 then some (s1, (-1)) else bn (f_X6_starts  s1) (fun s4 r5 => bn (f_X6_minutesDown  s4) (fun s7 r8 => (if r8 = (-4) then fj_X6_swap_j31 a1 1000000 s7 else fj_X6_swap_j31 a1 r8 s7)))))
set_option maxHeartbeats 4000000 in
set_option maxRecDepth 100000 in
theorem k_X6_swap {a1 : Int32} {s0 zs : StA} {rr : Int32} (hf : f_X6_swap a1 s0 = some (zs, rr)) : CtI mM yX6_swap cX6_swap 5 .int rm_X6_swap (fun ph => [.ref (ph 0), .int a1]) s0 zs rr := by
  refine CtI.of (by decide +kernel) (fun ph => Nat.le_of_ble_eq_true rfl) (fun E O hret => ?_)
  have O : OK mM E RX6 cX6_swap 5 rm_X6_swap := O
  show WS mM E 5 0 [(0, rf E 0), (1, .int a1)] [] s0
  unfold f_X6_swap at hf
  refine s_iload_n O 1 dX6_swap_0 rfl rfl ?_
  obtain ⟨s1, r2, c3, hf⟩ := bn_e hf
  refine s_SI (As := [.int a1]) (st := []) O lk_RX6_188 (k_X6_isPart c3) rfl rfl ⟨rfl, rfl⟩ ⟨Nat.le_of_ble_eq_true rfl, Nat.le_of_ble_eq_true rfl⟩ rfl (Nat.le_of_ble_eq_true rfl) dX6_swap_1 ?_
  refine s_if_ne (tgt := 9) O dX6_swap_4 (by decide) (fun c => ?_) (fun c => ?_)
  · replace hf := if_f c hf
    refine s_aload_n O 0 dX6_swap_9 rfl rfl ?_
    obtain ⟨s4, r5, c6, hf⟩ := bn_e hf
    refine s_VV (As := []) (st := []) O lk_RX6_175 (k_X6_starts c6) rfl ms_0 rfl rfl ⟨rfl, rfl⟩ ⟨Nat.le_of_ble_eq_true rfl, Nat.le_of_ble_eq_true rfl⟩ rfl (Nat.le_of_ble_eq_true rfl) dX6_swap_10 ?_
    refine s_aload_n O 0 dX6_swap_13 rfl rfl ?_
    obtain ⟨s7, r8, c9, hf⟩ := bn_e hf
    refine s_VI (As := []) (st := []) O lk_RX6_229 (k_X6_minutesDown c9) rfl ms_0 rfl rfl ⟨rfl, rfl⟩ ⟨Nat.le_of_ble_eq_true rfl, Nat.le_of_ble_eq_true rfl⟩ rfl (Nat.le_of_ble_eq_true rfl) dX6_swap_14 ?_
    refine s_istore_n (lv' := [(2, .int r8), (0, rf E 0), (1, .int a1)]) O dX6_swap_17 rfl (by decide) rfl ?_
    refine s_aload_n O 1 dX6_swap_18 rfl rfl ?_
    refine s_iload_n O 0 dX6_swap_19 rfl rfl ?_
    refine s_bipush (v := (-4)) O dX6_swap_20 rfl ?_
    refine s_icmp_ne (tgt := 30) O dX6_swap_22 (by decide) (fun c => ?_) (fun c => ?_)
    · replace hf := if_f c hf
      refine s_iload_n O 0 dX6_swap_30 rfl rfl ?_
      refine s_loc [1, 2] rfl ?_
      exact wj_X6_swap_j31 (rr := rr) O   hret hf
    · replace hf := if_t c hf
      refine s_ldc O ci_RX6_244 dX6_swap_25 ?_
      refine s_goto (tgt := 31) O dX6_swap_27 (by decide) ?_
      refine s_loc [1, 2] rfl ?_
      exact wj_X6_swap_j31 (rr := rr) O   hret hf
  · replace hf := if_t c hf
    refine s_iconst (v := (-1)) O dX6_swap_7 rfl ?_
    exact s_iret hret rfl dX6_swap_8 hf
def rm_X6_need : Room := { frames := 5, cells := 0, slots := 0, locals := 111 }
def fb_X6_need_l32 (a1 : Int32) (a2 : Int32) (a3 : Int32) (x1 : Int32) (x2 : Int32) (x3 : Int32) (s0 : StA) (v4 : Int32) : Option (StA × ((Int32) ⊕ ((Unit) ⊕ Int32))) :=
  (if 9 < v4 then some (s0, .inr (.inl ())) else bn (f_X6_starts  s0) (fun s10 r11 => bn (f_X6_becomesOf x1 1 v4 s10) (fun s13 r14 => bn (f_X6_minutesGo x2 s13) (fun s16 r17 => gd 24 63 ((if (gi s16 2 (24 : Int32).toNatClampNeg) < x3 then some (s16, .inl (v4 + 1)) else some (s16, .inr (.inr v4))))))))
set_option maxHeartbeats 4000000 in
set_option maxRecDepth 100000 in
theorem wb_X6_need_l32 {E : XC} (O : OK mM E RX6 cX6_need 5 rm_X6_need) {a1 : Int32} {a2 : Int32} {a3 : Int32}  {x1 : Int32} {x2 : Int32} {x3 : Int32} {s0 : StA} {v4 : Int32} {zs : StA} {rr : Int32} (hret : ReI mM E .int cX6_need zs rr) {bs : StA} {bw : (Int32) ⊕ ((Unit) ⊕ Int32)} (Kc : ∀ v, bw = .inl v → WS mM E 5 32 [(0, rf E 0), (1, .int x1), (2, .int x2), (3, .int x3), (4, .int v)] [] bs) (Ke : ∀ e, bw = .inr (.inl e) → WS mM E 5 76 [] [] bs) (Kr : ∀ r, bw = .inr (.inr r) → some (bs, r) = some (zs, rr)) (hf : fb_X6_need_l32 a1 a2 a3 x1 x2 x3 s0 v4 = some (bs, bw)) : WS mM E 5 32 [(0, rf E 0), (1, .int x1), (2, .int x2), (3, .int x3), (4, .int v4)] [] s0 := by
  unfold fb_X6_need_l32 at hf
  refine s_iload O 4 dX6_need_32 rfl ?_
  refine s_bipush (v := 9) O dX6_need_34 rfl ?_
  refine s_icmp_gt (tgt := 76) O dX6_need_36 (by decide) (fun c => ?_) (fun c => ?_)
  · replace hf := if_t c hf
    refine s_loc [] rfl ?_
    cases hf
    exact Ke _ rfl
  · replace hf := if_f c hf
    refine s_aload_n O 0 dX6_need_39 rfl rfl ?_
    obtain ⟨s10, r11, c12, hf⟩ := bn_e hf
    refine s_VV (As := []) (st := []) O lk_RX6_175 (k_X6_starts c12) rfl ms_0 rfl rfl ⟨rfl, rfl⟩ ⟨Nat.le_of_ble_eq_true rfl, Nat.le_of_ble_eq_true rfl⟩ rfl (Nat.le_of_ble_eq_true rfl) dX6_need_40 ?_
    refine s_aload_n O 0 dX6_need_43 rfl rfl ?_
    refine s_iload_n O 1 dX6_need_44 rfl rfl ?_
    refine s_iconst (v := 1) O dX6_need_45 rfl ?_
    refine s_iload O 4 dX6_need_46 rfl ?_
    obtain ⟨s13, r14, c15, hf⟩ := bn_e hf
    refine s_VV (As := [.int x1, .int 1, .int v4]) (st := []) O lk_RX6_162 (k_X6_becomesOf c15) rfl ms_0 rfl rfl ⟨rfl, rfl⟩ ⟨Nat.le_of_ble_eq_true rfl, Nat.le_of_ble_eq_true rfl⟩ rfl (Nat.le_of_ble_eq_true rfl) dX6_need_48 ?_
    refine s_aload_n O 0 dX6_need_51 rfl rfl ?_
    refine s_iload_n O 2 dX6_need_52 rfl rfl ?_
    obtain ⟨s16, r17, c18, hf⟩ := bn_e hf
    refine s_VV (As := [.int x2]) (st := []) O lk_RX6_205 (k_X6_minutesGo c18) rfl ms_0 rfl rfl ⟨rfl, rfl⟩ ⟨Nat.le_of_ble_eq_true rfl, Nat.le_of_ble_eq_true rfl⟩ rfl (Nat.le_of_ble_eq_true rfl) dX6_need_53 ?_
    refine s_aload_n O 0 dX6_need_56 rfl rfl ?_
    refine s_getR O fg_RX6_13 ms_0 rfl dX6_need_57 ?_
    refine s_bipush (v := 24) O dX6_need_60 rfl ?_
    obtain ⟨h19, hf⟩ := gd_e hf
    refine s_iald O ms_2 h19 dX6_need_62 ?_
    refine s_iload_n O 3 dX6_need_63 rfl rfl ?_
    refine s_icmp_lt (tgt := 70) O dX6_need_64 (by decide) (fun c => ?_) (fun c => ?_)
    · replace hf := if_t c hf
      refine s_iinc (v := (v4 + 1)) (lv' := [(4, .int (v4 + 1)), (0, rf E 0), (1, .int x1), (2, .int x2), (3, .int x3)]) O 4 dX6_need_70 rfl rfl (by decide) rfl ?_
      refine s_goto (tgt := 32) O dX6_need_73 (by decide) ?_
      refine s_loc [1, 2, 3, 4, 0] rfl ?_
      cases hf
      exact Kc _ rfl
    · replace hf := if_f c hf
      refine s_iload O 4 dX6_need_67 rfl ?_
      cases hf
      exact s_iret hret rfl dX6_need_69 (Kr _ rfl)
def fl_X6_need_l32 (a1 : Int32) (a2 : Int32) (a3 : Int32) (x1 : Int32) (x2 : Int32) (x3 : Int32) (s0 : StA) (v : Int32) : Option (StA × (((Unit) ⊕ Int32))) :=
  it (fun s v => fb_X6_need_l32 a1 a2 a3 x1 x2 x3 s v) FU s0 v
def f_X6_need (a1 : Int32) (a2 : Int32) (a3 : Int32) (s0 : StA) : Option (StA × Int32) :=
  bn (f_X6_isThing a1 s0) (fun s1 r2 => (if r2 = 0 then some (s1, (-1)) else bn (f_X6_isFar a2 s1) (fun s4 r5 => (if r5 = 0 then some (s4, (-1)) else bn (f_X6_in a3.toInt64 0 60 s4) (fun s7 r8 => (if r8 = 0 then some (s7, (-1)) else bn (fl_X6_need_l32 a1 a2 a3 a1 a2 a3 s7 1) (fun s20 e21 => match e21 with | .inl _ => some (s20, (-4)) | .inr q32 => some (s20, q32))))))))
set_option maxHeartbeats 4000000 in
set_option maxRecDepth 100000 in
theorem k_X6_need {a1 : Int32} {a2 : Int32} {a3 : Int32} {s0 zs : StA} {rr : Int32} (hf : f_X6_need a1 a2 a3 s0 = some (zs, rr)) : CtI mM yX6_need cX6_need 5 .int rm_X6_need (fun ph => [.ref (ph 0), .int a1, .int a2, .int a3]) s0 zs rr := by
  refine CtI.of (by decide +kernel) (fun ph => Nat.le_of_ble_eq_true rfl) (fun E O hret => ?_)
  have O : OK mM E RX6 cX6_need 5 rm_X6_need := O
  show WS mM E 5 0 [(0, rf E 0), (1, .int a1), (2, .int a2), (3, .int a3)] [] s0
  unfold f_X6_need at hf
  refine s_aload_n O 0 dX6_need_0 rfl rfl ?_
  refine s_iload_n O 1 dX6_need_1 rfl rfl ?_
  obtain ⟨s1, r2, c3, hf⟩ := bn_e hf
  refine s_VI (As := [.int a1]) (st := []) O lk_RX6_181 (k_X6_isThing c3) rfl ms_0 rfl rfl ⟨rfl, rfl⟩ ⟨Nat.le_of_ble_eq_true rfl, Nat.le_of_ble_eq_true rfl⟩ rfl (Nat.le_of_ble_eq_true rfl) dX6_need_2 ?_
  refine s_if_eq (tgt := 27) O dX6_need_5 (by decide) (fun c => ?_) (fun c => ?_)
  · replace hf := if_t c hf
    refine s_iconst (v := (-1)) O dX6_need_27 rfl ?_
    exact s_iret hret rfl dX6_need_28 hf
  · replace hf := if_f c hf
    refine s_iload_n O 2 dX6_need_8 rfl rfl ?_
    obtain ⟨s4, r5, c6, hf⟩ := bn_e hf
    refine s_SI (As := [.int a2]) (st := []) O lk_RX6_223 (k_X6_isFar c6) rfl rfl ⟨rfl, rfl⟩ ⟨Nat.le_of_ble_eq_true rfl, Nat.le_of_ble_eq_true rfl⟩ rfl (Nat.le_of_ble_eq_true rfl) dX6_need_9 ?_
    refine s_if_eq (tgt := 27) O dX6_need_12 (by decide) (fun c => ?_) (fun c => ?_)
    · replace hf := if_t c hf
      refine s_iconst (v := (-1)) O dX6_need_27 rfl ?_
      exact s_iret hret rfl dX6_need_28 hf
    · replace hf := if_f c hf
      refine s_iload_n O 3 dX6_need_15 rfl rfl ?_
      refine s_i2l O dX6_need_16 ?_
      refine s_lconst (v := 0) O dX6_need_17 rfl ?_
      refine s_ldc2 O cl_RX6_211 dX6_need_18 ?_
      obtain ⟨s7, r8, c9, hf⟩ := bn_e hf
      refine s_SI (As := [.long a3.toInt64, .long 0, .long 60]) (st := []) O lk_RX6_69 (k_X6_in c9) rfl rfl ⟨rfl, rfl⟩ ⟨Nat.le_of_ble_eq_true rfl, Nat.le_of_ble_eq_true rfl⟩ rfl (Nat.le_of_ble_eq_true rfl) dX6_need_21 ?_
      refine s_if_ne (tgt := 29) O dX6_need_24 (by decide) (fun c => ?_) (fun c => ?_)
      · replace hf := if_f c hf
        refine s_iconst (v := 1) O dX6_need_29 rfl ?_
        refine s_istore (lv' := [(4, .int 1), (0, rf E 0), (1, .int a1), (2, .int a2), (3, .int a3)]) O dX6_need_30 (by decide) rfl ?_
        refine s_loc [1, 2, 3, 4, 0] rfl ?_
        obtain ⟨s20, e21, c22, hf⟩ := bn_e hf
        refine lp_of (body := fun s v => fb_X6_need_l32 a1 a2 a3 a1 a2 a3 s v) (X := fun s v => WS mM E 5 32 [(0, rf E 0), (1, .int a1), (2, .int a2), (3, .int a3), (4, .int v)] [] s) (Y := fun s e => match e with | .inl e => WS mM E 5 76 [] [] s | .inr r => some (s, r) = some (zs, rr)) (fun s v s' w hb Kc Ke => wb_X6_need_l32 (rr := rr) O   hret Kc (fun e he => Ke (.inl e) he) (fun r he => Ke (.inr r) he) hb) FU _ _ (s20, e21) c22 ?_
        rcases e21 with e21 | q32
        · show WS mM E 5 76 [] [] s20
          refine s_bipush (v := (-4)) O dX6_need_76 rfl ?_
          exact s_iret hret rfl dX6_need_78 hf
        · exact hf
      · replace hf := if_t c hf
        refine s_iconst (v := (-1)) O dX6_need_27 rfl ?_
        exact s_iret hret rfl dX6_need_28 hf
def rm_X6_findOdds : Room := { frames := 5, cells := 0, slots := 0, locals := 111 }
def fb_X6_findOdds_l18 (a1 : Int32) (a2 : Int32) (a3 : Int32) (x1 : Int32) (x2 : Int32) (x3 : Int32) (s0 : StA) (v4 : Int32) : Option (StA × ((Int32) ⊕ (Unit))) :=
  gd 33 189 ((if (gi s0 1 (33 : Int32).toNatClampNeg) ≤ v4 then some (s0, .inr ()) else nms (sl s0 0 26 ((gl s0 0 26) * 10)) (fun s5 => some (s5, .inl (v4 + 1)))))
set_option maxHeartbeats 4000000 in
set_option maxRecDepth 100000 in
theorem wb_X6_findOdds_l18 {E : XC} (O : OK mM E RX6 cX6_findOdds 8 rm_X6_findOdds) {a1 : Int32} {a2 : Int32} {a3 : Int32}  {x1 : Int32} {x2 : Int32} {x3 : Int32} {s0 : StA} {v4 : Int32} {zs : StA} {rr : Unit} (hret : ReV mM E cX6_findOdds zs) {bs : StA} {bw : (Int32) ⊕ (Unit)} (Kc : ∀ v, bw = .inl v → WS mM E 8 18 [(0, rf E 0), (1, .int x1), (2, .int x2), (3, .int x3), (4, .int v)] [] bs) (Ke : ∀ e, bw = .inr e → WS mM E 8 48 [(0, rf E 0), (1, .int x1), (2, .int x2), (3, .int x3)] [] bs) (hf : fb_X6_findOdds_l18 a1 a2 a3 x1 x2 x3 s0 v4 = some (bs, bw)) : WS mM E 8 18 [(0, rf E 0), (1, .int x1), (2, .int x2), (3, .int x3), (4, .int v4)] [] s0 := by
  unfold fb_X6_findOdds_l18 at hf
  refine s_iload O 4 dX6_findOdds_18 rfl ?_
  refine s_aload_n O 0 dX6_findOdds_20 rfl rfl ?_
  refine s_getR O fg_RX6_7 ms_0 rfl dX6_findOdds_21 ?_
  refine s_bipush (v := 33) O dX6_findOdds_24 rfl ?_
  obtain ⟨h4, hf⟩ := gd_e hf
  refine s_iald O ms_1 h4 dX6_findOdds_26 ?_
  refine s_icmp_ge (tgt := 48) O dX6_findOdds_27 (by decide) (fun c => ?_) (fun c => ?_)
  · replace hf := if_t c hf
    refine s_loc [0, 1, 2, 3] rfl ?_
    cases hf
    exact Ke _ rfl
  · replace hf := if_f c hf
    refine s_aload_n O 0 dX6_findOdds_30 rfl rfl ?_
    refine s_dup O dX6_findOdds_31 rfl ?_
    refine s_getL O fg_RX6_272 ms_0 rfl dX6_findOdds_32 ?_
    refine s_ldc2 O cl_RX6_275 dX6_findOdds_35 ?_
    refine s_lmul O dX6_findOdds_38 ?_
    refine s_putL O fp_RX6_272 ms_0 rfl dX6_findOdds_39 ?_
    refine s_tops (fun s5 es5 => ?_)
    replace hf := nms_e es5 hf
    refine s_iinc (v := (v4 + 1)) (lv' := [(4, .int (v4 + 1)), (0, rf E 0), (1, .int x1), (2, .int x2), (3, .int x3)]) O 4 dX6_findOdds_42 rfl rfl (by decide) rfl ?_
    refine s_goto (tgt := 18) O dX6_findOdds_45 (by decide) ?_
    refine s_loc [1, 2, 3, 4, 0] rfl ?_
    cases hf
    exact Kc _ rfl
def fl_X6_findOdds_l18 (a1 : Int32) (a2 : Int32) (a3 : Int32) (x1 : Int32) (x2 : Int32) (x3 : Int32) (s0 : StA) (v : Int32) : Option (StA × ((Unit))) :=
  it (fun s v => fb_X6_findOdds_l18 a1 a2 a3 x1 x2 x3 s v) FU s0 v
def fb_X6_findOdds_l71 (a1 : Int32) (a2 : Int32) (a3 : Int32) (x1 : Int32) (x2 : Int32) (x3 : Int32) (x4 : Int32) (s0 : StA) (v5 : Int64) (v7 : Int32) : Option (StA × ((Int64 × Int32) ⊕ (Int64))) :=
  gd 33 189 ((if (gi s0 1 (33 : Int32).toNatClampNeg) ≤ v7 then some (s0, .inr v5) else (if ((x4 >>> (v7 &&& 31)) &&& 1) = 1 then nml (v5 * x1.toInt64) (fun n12 => some (s0, .inl (n12, (v7 + 1)))) else nml (v5 * (10 - x1).toInt64) (fun n11 => some (s0, .inl (n11, (v7 + 1)))))))
set_option maxHeartbeats 4000000 in
set_option maxRecDepth 100000 in
theorem wb_X6_findOdds_l71 {E : XC} (O : OK mM E RX6 cX6_findOdds 8 rm_X6_findOdds) {a1 : Int32} {a2 : Int32} {a3 : Int32}  {x1 : Int32} {x2 : Int32} {x3 : Int32} {x4 : Int32} {s0 : StA} {v5 : Int64} {v7 : Int32} {zs : StA} {rr : Unit} (hret : ReV mM E cX6_findOdds zs) {bs : StA} {bw : (Int64 × Int32) ⊕ (Int64)} (Kc : ∀ v, bw = .inl v → WS mM E 8 71 [(0, rf E 0), (1, .int x1), (2, .int x2), (3, .int x3), (4, .int x4), (5, .long v.1), (7, .int v.2)] [] bs) (Ke : ∀ e, bw = .inr e → WS mM E 8 115 [(0, rf E 0), (1, .int x1), (2, .int x2), (3, .int x3), (4, .int x4), (5, .long e)] [] bs) (hf : fb_X6_findOdds_l71 a1 a2 a3 x1 x2 x3 x4 s0 v5 v7 = some (bs, bw)) : WS mM E 8 71 [(0, rf E 0), (1, .int x1), (2, .int x2), (3, .int x3), (4, .int x4), (5, .long v5), (7, .int v7)] [] s0 := by
  unfold fb_X6_findOdds_l71 at hf
  refine s_iload O 6 dX6_findOdds_71 rfl ?_
  refine s_aload_n O 0 dX6_findOdds_73 rfl rfl ?_
  refine s_getR O fg_RX6_7 ms_0 rfl dX6_findOdds_74 ?_
  refine s_bipush (v := 33) O dX6_findOdds_77 rfl ?_
  obtain ⟨h10, hf⟩ := gd_e hf
  refine s_iald O ms_1 h10 dX6_findOdds_79 ?_
  refine s_icmp_ge (tgt := 115) O dX6_findOdds_80 (by decide) (fun c => ?_) (fun c => ?_)
  · replace hf := if_t c hf
    refine s_loc [0, 1, 2, 3, 4, 5] rfl ?_
    cases hf
    exact Ke _ rfl
  · replace hf := if_f c hf
    refine s_lload O 5 dX6_findOdds_83 rfl ?_
    refine s_iload O 4 dX6_findOdds_85 rfl ?_
    refine s_iload O 6 dX6_findOdds_87 rfl ?_
    refine s_ishr O dX6_findOdds_89 ?_
    refine s_iconst (v := 1) O dX6_findOdds_90 rfl ?_
    refine s_iand O dX6_findOdds_91 ?_
    refine s_iconst (v := 1) O dX6_findOdds_92 rfl ?_
    refine s_icmp_ne (tgt := 101) O dX6_findOdds_93 (by decide) (fun c => ?_) (fun c => ?_)
    · replace hf := if_f c hf
      refine s_bipush (v := 10) O dX6_findOdds_101 rfl ?_
      refine s_iload_n O 1 dX6_findOdds_103 rfl rfl ?_
      refine s_isub O dX6_findOdds_104 ?_
      refine s_i2l O dX6_findOdds_105 ?_
      refine s_lmul O dX6_findOdds_106 ?_
      refine s_topl (fun n11 en11 => ?_)
      replace hf := nml_e en11 hf
      refine s_lstore (lv' := [(5, .long n11), (0, rf E 0), (1, .int x1), (2, .int x2), (3, .int x3), (4, .int x4), (7, .int v7)]) O dX6_findOdds_107 (by decide) rfl ?_
      refine s_iinc (v := (v7 + 1)) (lv' := [(7, .int (v7 + 1)), (5, .long n11), (0, rf E 0), (1, .int x1), (2, .int x2), (3, .int x3), (4, .int x4)]) O 6 dX6_findOdds_109 rfl rfl (by decide) rfl ?_
      refine s_goto (tgt := 71) O dX6_findOdds_112 (by decide) ?_
      refine s_loc [2, 3, 4, 5, 6, 1, 0] rfl ?_
      cases hf
      exact Kc _ rfl
    · replace hf := if_t c hf
      refine s_iload_n O 1 dX6_findOdds_96 rfl rfl ?_
      refine s_i2l O dX6_findOdds_97 ?_
      refine s_goto (tgt := 106) O dX6_findOdds_98 (by decide) ?_
      refine s_lmul O dX6_findOdds_106 ?_
      refine s_topl (fun n12 en12 => ?_)
      replace hf := nml_e en12 hf
      refine s_lstore (lv' := [(5, .long n12), (0, rf E 0), (1, .int x1), (2, .int x2), (3, .int x3), (4, .int x4), (7, .int v7)]) O dX6_findOdds_107 (by decide) rfl ?_
      refine s_iinc (v := (v7 + 1)) (lv' := [(7, .int (v7 + 1)), (5, .long n12), (0, rf E 0), (1, .int x1), (2, .int x2), (3, .int x3), (4, .int x4)]) O 6 dX6_findOdds_109 rfl rfl (by decide) rfl ?_
      refine s_goto (tgt := 71) O dX6_findOdds_112 (by decide) ?_
      refine s_loc [2, 3, 4, 5, 6, 1, 0] rfl ?_
      cases hf
      exact Kc _ rfl
def fl_X6_findOdds_l71 (a1 : Int32) (a2 : Int32) (a3 : Int32) (x1 : Int32) (x2 : Int32) (x3 : Int32) (x4 : Int32) (s0 : StA) (v : Int64 × Int32) : Option (StA × ((Int64))) :=
  it (fun s v => fb_X6_findOdds_l71 a1 a2 a3 x1 x2 x3 x4 s v.1 v.2) FU s0 v
def fj_X6_findOdds_j152 (a1 : Int32) (a2 : Int32) (a3 : Int32) (x1 : Int32) (x2 : Int32) (x3 : Int32) (j4 : Int32) (j5 : Int64) (y0 : Int64) (y1 : Int64) (s0 : StA) : Option (StA × ((Int32) ⊕ (Unit))) :=
  nms (sl s0 0 24 (y1 + y0)) (fun s24 => gd 24 63 (nms (sl s24 0 25 ((gl s24 0 25) + (j5 * (gi s24 2 (24 : Int32).toNatClampNeg).toInt64))) (fun s26 => some (s26, .inl (j4 + 1)))))
set_option maxHeartbeats 4000000 in
set_option maxRecDepth 100000 in
theorem wj_X6_findOdds_j152 {E : XC} (O : OK mM E RX6 cX6_findOdds 8 rm_X6_findOdds) {a1 : Int32} {a2 : Int32} {a3 : Int32}  {x1 : Int32} {x2 : Int32} {x3 : Int32} {j4 : Int32} {j5 : Int64} {y0 : Int64} {y1 : Int64} {s0 : StA} {zs : StA} {rr : Unit} (hret : ReV mM E cX6_findOdds zs) {bs : StA} {bw : (Int32) ⊕ (Unit)} (Kc : ∀ v, bw = .inl v → WS mM E 8 51 [(0, rf E 0), (1, .int x1), (2, .int x2), (3, .int x3), (4, .int v)] [] bs) (Ke : ∀ e, bw = .inr e → WS mM E 8 182 [] [] bs) (hf : fj_X6_findOdds_j152 a1 a2 a3 x1 x2 x3 j4 j5 y0 y1 s0 = some (bs, bw)) : WS mM E 8 152 [(0, rf E 0), (1, .int x1), (2, .int x2), (3, .int x3), (4, .int j4), (5, .long j5)] [.long y0, .long y1, rf E 0] s0 := by
  unfold fj_X6_findOdds_j152 at hf
  refine s_ladd O dX6_findOdds_152 ?_
  refine s_putL O fp_RX6_265 ms_0 rfl dX6_findOdds_153 ?_
  refine s_tops (fun s24 es24 => ?_)
  replace hf := nms_e es24 hf
  refine s_aload_n O 0 dX6_findOdds_156 rfl rfl ?_
  refine s_dup O dX6_findOdds_157 rfl ?_
  refine s_getL O fg_RX6_269 ms_0 rfl dX6_findOdds_158 ?_
  refine s_lload O 5 dX6_findOdds_161 rfl ?_
  refine s_aload_n O 0 dX6_findOdds_163 rfl rfl ?_
  refine s_getR O fg_RX6_13 ms_0 rfl dX6_findOdds_164 ?_
  refine s_bipush (v := 24) O dX6_findOdds_167 rfl ?_
  obtain ⟨h25, hf⟩ := gd_e hf
  refine s_iald O ms_2 h25 dX6_findOdds_169 ?_
  refine s_i2l O dX6_findOdds_170 ?_
  refine s_lmul O dX6_findOdds_171 ?_
  refine s_ladd O dX6_findOdds_172 ?_
  refine s_putL O fp_RX6_269 ms_0 rfl dX6_findOdds_173 ?_
  refine s_tops (fun s26 es26 => ?_)
  replace hf := nms_e es26 hf
  refine s_iinc (v := (j4 + 1)) (lv' := [(4, .int (j4 + 1)), (0, rf E 0), (1, .int x1), (2, .int x2), (3, .int x3), (5, .long j5)]) O 4 dX6_findOdds_176 rfl rfl (by decide) rfl ?_
  refine s_goto (tgt := 51) O dX6_findOdds_179 (by decide) ?_
  refine s_loc [1, 2, 3, 4, 0] rfl ?_
  cases hf
  exact Kc _ rfl
def fb_X6_findOdds_l51 (a1 : Int32) (a2 : Int32) (a3 : Int32) (x1 : Int32) (x2 : Int32) (x3 : Int32) (s0 : StA) (v4 : Int32) : Option (StA × ((Int32) ⊕ (Unit))) :=
  gd 33 189 ((if (1 <<< ((gi s0 1 (33 : Int32).toNatClampNeg) &&& 31)) ≤ v4 then some (s0, .inr ()) else bn (fl_X6_findOdds_l71 a1 a2 a3 x1 x2 x3 v4 s0 (1, 0)) (fun s13 u71_5 => bn (f_X6_starts  s13) (fun s16 r17 => nms (si s16 0 17 v4) (fun s19 => bn (f_X6_minutesGo x2 s19) (fun s20 r21 => gd 24 63 ((if x3 < (gi s20 2 (24 : Int32).toNatClampNeg) then fj_X6_findOdds_j152 a1 a2 a3 x1 x2 x3 v4 u71_5 0 (gl s20 0 24) s20 else fj_X6_findOdds_j152 a1 a2 a3 x1 x2 x3 v4 u71_5 u71_5 (gl s20 0 24) s20))))))))
set_option maxHeartbeats 4000000 in
set_option maxRecDepth 100000 in
theorem wb_X6_findOdds_l51 {E : XC} (O : OK mM E RX6 cX6_findOdds 8 rm_X6_findOdds) {a1 : Int32} {a2 : Int32} {a3 : Int32}  {x1 : Int32} {x2 : Int32} {x3 : Int32} {s0 : StA} {v4 : Int32} {zs : StA} {rr : Unit} (hret : ReV mM E cX6_findOdds zs) {bs : StA} {bw : (Int32) ⊕ (Unit)} (Kc : ∀ v, bw = .inl v → WS mM E 8 51 [(0, rf E 0), (1, .int x1), (2, .int x2), (3, .int x3), (4, .int v)] [] bs) (Ke : ∀ e, bw = .inr e → WS mM E 8 182 [] [] bs) (hf : fb_X6_findOdds_l51 a1 a2 a3 x1 x2 x3 s0 v4 = some (bs, bw)) : WS mM E 8 51 [(0, rf E 0), (1, .int x1), (2, .int x2), (3, .int x3), (4, .int v4)] [] s0 := by
  unfold fb_X6_findOdds_l51 at hf
  refine s_iload O 4 dX6_findOdds_51 rfl ?_
  refine s_iconst (v := 1) O dX6_findOdds_53 rfl ?_
  refine s_aload_n O 0 dX6_findOdds_54 rfl rfl ?_
  refine s_getR O fg_RX6_7 ms_0 rfl dX6_findOdds_55 ?_
  refine s_bipush (v := 33) O dX6_findOdds_58 rfl ?_
  obtain ⟨h9, hf⟩ := gd_e hf
  refine s_iald O ms_1 h9 dX6_findOdds_60 ?_
  refine s_ishl O dX6_findOdds_61 ?_
  refine s_icmp_ge (tgt := 182) O dX6_findOdds_62 (by decide) (fun c => ?_) (fun c => ?_)
  · replace hf := if_t c hf
    refine s_loc [] rfl ?_
    cases hf
    exact Ke _ rfl
  · replace hf := if_f c hf
    refine s_lconst (v := 1) O dX6_findOdds_65 rfl ?_
    refine s_lstore (lv' := [(5, .long 1), (0, rf E 0), (1, .int x1), (2, .int x2), (3, .int x3), (4, .int v4)]) O dX6_findOdds_66 (by decide) rfl ?_
    refine s_iconst (v := 0) O dX6_findOdds_68 rfl ?_
    refine s_istore (lv' := [(7, .int 0), (5, .long 1), (0, rf E 0), (1, .int x1), (2, .int x2), (3, .int x3), (4, .int v4)]) O dX6_findOdds_69 (by decide) rfl ?_
    refine s_loc [2, 3, 4, 5, 6, 1, 0] rfl ?_
    obtain ⟨s13, u71_5, c15, hf⟩ := bn_e hf
    refine lp_of (body := fun s v => fb_X6_findOdds_l71 a1 a2 a3 x1 x2 x3 v4 s v.1 v.2) (X := fun s v => WS mM E 8 71 [(0, rf E 0), (1, .int x1), (2, .int x2), (3, .int x3), (4, .int v4), (5, .long v.1), (7, .int v.2)] [] s) (Y := fun s e => WS mM E 8 115 [(0, rf E 0), (1, .int x1), (2, .int x2), (3, .int x3), (4, .int v4), (5, .long e)] [] s) (fun s v s' w hb Kc Ke => wb_X6_findOdds_l71 (rr := rr) O   hret Kc Ke hb) FU _ _ (s13, u71_5) c15 ?_
    show WS mM E 8 115 [(0, rf E 0), (1, .int x1), (2, .int x2), (3, .int x3), (4, .int v4), (5, .long u71_5)] [] s13
    refine s_aload_n O 0 dX6_findOdds_115 rfl rfl ?_
    obtain ⟨s16, r17, c18, hf⟩ := bn_e hf
    refine s_VV (As := []) (st := []) O lk_RX6_175 (k_X6_starts c18) rfl ms_0 rfl rfl ⟨rfl, rfl⟩ ⟨Nat.le_of_ble_eq_true rfl, Nat.le_of_ble_eq_true rfl⟩ rfl (Nat.le_of_ble_eq_true rfl) dX6_findOdds_116 ?_
    refine s_aload_n O 0 dX6_findOdds_119 rfl rfl ?_
    refine s_iload O 4 dX6_findOdds_120 rfl ?_
    refine s_putI O fp_RX6_146 ms_0 rfl dX6_findOdds_122 ?_
    refine s_tops (fun s19 es19 => ?_)
    replace hf := nms_e es19 hf
    refine s_aload_n O 0 dX6_findOdds_125 rfl rfl ?_
    refine s_iload_n O 2 dX6_findOdds_126 rfl rfl ?_
    obtain ⟨s20, r21, c22, hf⟩ := bn_e hf
    refine s_VV (As := [.int x2]) (st := []) O lk_RX6_205 (k_X6_minutesGo c22) rfl ms_0 rfl rfl ⟨rfl, rfl⟩ ⟨Nat.le_of_ble_eq_true rfl, Nat.le_of_ble_eq_true rfl⟩ rfl (Nat.le_of_ble_eq_true rfl) dX6_findOdds_127 ?_
    refine s_aload_n O 0 dX6_findOdds_130 rfl rfl ?_
    refine s_dup O dX6_findOdds_131 rfl ?_
    refine s_getL O fg_RX6_265 ms_0 rfl dX6_findOdds_132 ?_
    refine s_aload_n O 0 dX6_findOdds_135 rfl rfl ?_
    refine s_getR O fg_RX6_13 ms_0 rfl dX6_findOdds_136 ?_
    refine s_bipush (v := 24) O dX6_findOdds_139 rfl ?_
    obtain ⟨h23, hf⟩ := gd_e hf
    refine s_iald O ms_2 h23 dX6_findOdds_141 ?_
    refine s_iload_n O 3 dX6_findOdds_142 rfl rfl ?_
    refine s_icmp_gt (tgt := 151) O dX6_findOdds_143 (by decide) (fun c => ?_) (fun c => ?_)
    · replace hf := if_t c hf
      refine s_lconst (v := 0) O dX6_findOdds_151 rfl ?_
      exact wj_X6_findOdds_j152 (rr := rr) O   hret Kc Ke hf
    · replace hf := if_f c hf
      refine s_lload O 5 dX6_findOdds_146 rfl ?_
      refine s_goto (tgt := 152) O dX6_findOdds_148 (by decide) ?_
      exact wj_X6_findOdds_j152 (rr := rr) O   hret Kc Ke hf
def fl_X6_findOdds_l51 (a1 : Int32) (a2 : Int32) (a3 : Int32) (x1 : Int32) (x2 : Int32) (x3 : Int32) (s0 : StA) (v : Int32) : Option (StA × ((Unit))) :=
  it (fun s v => fb_X6_findOdds_l51 a1 a2 a3 x1 x2 x3 s v) FU s0 v
def f_X6_findOdds (a1 : Int32) (a2 : Int32) (a3 : Int32) (s0 : StA) : Option (StA × Unit) :=
  nms (sl s0 0 24 0) (fun s1 => nms (sl s1 0 25 0) (fun s2 => nms (sl s2 0 26 1) (fun s3 => bn (fl_X6_findOdds_l18 a1 a2 a3 a1 a2 a3 s3 0) (fun s6 e7 => bn (fl_X6_findOdds_l51 a1 a2 a3 a1 a2 a3 s6 0) (fun s27 e28 => some (s27, ()))))))
set_option maxHeartbeats 4000000 in
set_option maxRecDepth 100000 in
theorem k_X6_findOdds {a1 : Int32} {a2 : Int32} {a3 : Int32} {s0 zs : StA} {rr : Unit} (hf : f_X6_findOdds a1 a2 a3 s0 = some (zs, rr)) : CtV mM yX6_findOdds cX6_findOdds 8 rm_X6_findOdds (fun ph => [.ref (ph 0), .int a1, .int a2, .int a3]) s0 zs := by
  refine CtV.of (by decide +kernel) (fun ph => Nat.le_of_ble_eq_true rfl) (fun E O hret => ?_)
  have O : OK mM E RX6 cX6_findOdds 8 rm_X6_findOdds := O
  show WS mM E 8 0 [(0, rf E 0), (1, .int a1), (2, .int a2), (3, .int a3)] [] s0
  unfold f_X6_findOdds at hf
  refine s_aload_n O 0 dX6_findOdds_0 rfl rfl ?_
  refine s_lconst (v := 0) O dX6_findOdds_1 rfl ?_
  refine s_putL O fp_RX6_265 ms_0 rfl dX6_findOdds_2 ?_
  refine s_tops (fun s1 es1 => ?_)
  replace hf := nms_e es1 hf
  refine s_aload_n O 0 dX6_findOdds_5 rfl rfl ?_
  refine s_lconst (v := 0) O dX6_findOdds_6 rfl ?_
  refine s_putL O fp_RX6_269 ms_0 rfl dX6_findOdds_7 ?_
  refine s_tops (fun s2 es2 => ?_)
  replace hf := nms_e es2 hf
  refine s_aload_n O 0 dX6_findOdds_10 rfl rfl ?_
  refine s_lconst (v := 1) O dX6_findOdds_11 rfl ?_
  refine s_putL O fp_RX6_272 ms_0 rfl dX6_findOdds_12 ?_
  refine s_tops (fun s3 es3 => ?_)
  replace hf := nms_e es3 hf
  refine s_iconst (v := 0) O dX6_findOdds_15 rfl ?_
  refine s_istore (lv' := [(4, .int 0), (0, rf E 0), (1, .int a1), (2, .int a2), (3, .int a3)]) O dX6_findOdds_16 (by decide) rfl ?_
  refine s_loc [1, 2, 3, 4, 0] rfl ?_
  obtain ⟨s6, e7, c8, hf⟩ := bn_e hf
  refine lp_of (body := fun s v => fb_X6_findOdds_l18 a1 a2 a3 a1 a2 a3 s v) (X := fun s v => WS mM E 8 18 [(0, rf E 0), (1, .int a1), (2, .int a2), (3, .int a3), (4, .int v)] [] s) (Y := fun s e => WS mM E 8 48 [(0, rf E 0), (1, .int a1), (2, .int a2), (3, .int a3)] [] s) (fun s v s' w hb Kc Ke => wb_X6_findOdds_l18 (rr := rr) O   hret Kc Ke hb) FU _ _ (s6, e7) c8 ?_
  show WS mM E 8 48 [(0, rf E 0), (1, .int a1), (2, .int a2), (3, .int a3)] [] s6
  refine s_iconst (v := 0) O dX6_findOdds_48 rfl ?_
  refine s_istore (lv' := [(4, .int 0), (0, rf E 0), (1, .int a1), (2, .int a2), (3, .int a3)]) O dX6_findOdds_49 (by decide) rfl ?_
  refine s_loc [1, 2, 3, 4, 0] rfl ?_
  obtain ⟨s27, e28, c29, hf⟩ := bn_e hf
  refine lp_of (body := fun s v => fb_X6_findOdds_l51 a1 a2 a3 a1 a2 a3 s v) (X := fun s v => WS mM E 8 51 [(0, rf E 0), (1, .int a1), (2, .int a2), (3, .int a3), (4, .int v)] [] s) (Y := fun s e => WS mM E 8 182 [] [] s) (fun s v s' w hb Kc Ke => wb_X6_findOdds_l51 (rr := rr) O   hret Kc Ke hb) FU _ _ (s27, e28) c29 ?_
  show WS mM E 8 182 [] [] s27
  exact s_vret hret dX6_findOdds_182 hf
def rm_X6_common : Room := { frames := 0, cells := 0, slots := 0, locals := 0 }
def fb_X6_common_l6 (a0 : Int64) (a2 : Int64)  (s0 : StA) (v4 : Int64) (v6 : Int64) : Option (StA × ((Int64 × Int64) ⊕ (Int64))) :=
  (if (lg_cmp v6 0) = 0 then some (s0, .inr v4) else g0l v6 (nml (v4 - v4 / v6 * v6) (fun n2 => some (s0, .inl (v6, n2)))))
set_option maxHeartbeats 4000000 in
set_option maxRecDepth 100000 in
theorem wb_X6_common_l6 {E : XC} (O : OK mM E RX6 cX6_common 10 rm_X6_common) {a0 : Int64} {a2 : Int64}   {s0 : StA} {v4 : Int64} {v6 : Int64} {zs : StA} {rr : Int64} (hret : ReL mM E cX6_common zs rr) {bs : StA} {bw : (Int64 × Int64) ⊕ (Int64)} (Kc : ∀ v, bw = .inl v → WS mM E 10 6 [(4, .long v.1), (6, .long v.2)] [] bs) (Ke : ∀ e, bw = .inr e → WS mM E 10 31 [(4, .long e)] [] bs) (hf : fb_X6_common_l6 a0 a2 s0 v4 v6 = some (bs, bw)) : WS mM E 10 6 [(4, .long v4), (6, .long v6)] [] s0 := by
  unfold fb_X6_common_l6 at hf
  refine s_lload O 1 dX6_common_6 rfl ?_
  refine s_lconst (v := 0) O dX6_common_8 rfl ?_
  refine s_lcmp O dX6_common_9 ?_
  refine s_if_eq (tgt := 31) O dX6_common_10 (by decide) (fun c => ?_) (fun c => ?_)
  · replace hf := if_t c hf
    refine s_loc [0] rfl ?_
    cases hf
    exact Ke _ rfl
  · replace hf := if_f c hf
    refine s_lload O 0 dX6_common_13 rfl ?_
    refine s_lload O 1 dX6_common_15 rfl ?_
    obtain ⟨h1, hf⟩ := g0l_e hf
    refine s_lrem O dX6_common_17 h1 ?_
    refine s_topl (fun n2 en2 => ?_)
    replace hf := nml_e en2 hf
    refine s_lstore (lv' := [(8, .long n2), (4, .long v4), (6, .long v6)]) O dX6_common_18 (by decide) rfl ?_
    refine s_lload O 2 dX6_common_20 rfl ?_
    refine s_lstore (lv' := [(4, .long v6), (8, .long n2), (6, .long v6)]) O dX6_common_22 (by decide) rfl ?_
    refine s_lload O 1 dX6_common_24 rfl ?_
    refine s_lstore (lv' := [(6, .long n2), (4, .long v6), (8, .long n2)]) O dX6_common_26 (by decide) rfl ?_
    refine s_goto (tgt := 6) O dX6_common_28 (by decide) ?_
    refine s_loc [1, 0] rfl ?_
    cases hf
    exact Kc _ rfl
def fl_X6_common_l6 (a0 : Int64) (a2 : Int64)  (s0 : StA) (v : Int64 × Int64) : Option (StA × ((Int64))) :=
  it (fun s v => fb_X6_common_l6 a0 a2 s v.1 v.2) FU s0 v
def f_X6_common (a0 : Int64) (a2 : Int64) (s0 : StA) : Option (StA × Int64) :=
  bn (fl_X6_common_l6 a0 a2 s0 (a0, a2)) (fun s3 u6_4 => some (s3, u6_4))
set_option maxHeartbeats 4000000 in
set_option maxRecDepth 100000 in
theorem k_X6_common {a0 : Int64} {a2 : Int64} {s0 zs : StA} {rr : Int64} (hf : f_X6_common a0 a2 s0 = some (zs, rr)) : CtL mM yX6_common cX6_common 10 rm_X6_common (fun ph => [.long a0, .long a2]) s0 zs rr := by
  refine CtL.of (by decide +kernel) (fun ph => Nat.le_of_ble_eq_true rfl) (fun E O hret => ?_)
  have O : OK mM E RX6 cX6_common 10 rm_X6_common := O
  show WS mM E 10 0 [(0, .long a0), (2, .long a2)] [] s0
  unfold f_X6_common at hf
  refine s_lload_n O 0 dX6_common_0 rfl rfl ?_
  refine s_lstore (lv' := [(4, .long a0), (0, .long a0), (2, .long a2)]) O dX6_common_1 (by decide) rfl ?_
  refine s_lload_n O 2 dX6_common_3 rfl rfl ?_
  refine s_lstore (lv' := [(6, .long a2), (4, .long a0), (0, .long a0), (2, .long a2)]) O dX6_common_4 (by decide) rfl ?_
  refine s_loc [1, 0] rfl ?_
  obtain ⟨s3, u6_4, c5, hf⟩ := bn_e hf
  refine lp_of (body := fun s v => fb_X6_common_l6 a0 a2 s v.1 v.2) (X := fun s v => WS mM E 10 6 [(4, .long v.1), (6, .long v.2)] [] s) (Y := fun s e => WS mM E 10 31 [(4, .long e)] [] s) (fun s v s' w hb Kc Ke => wb_X6_common_l6 (rr := rr) O   hret Kc Ke hb) FU _ _ (s3, u6_4) c5 ?_
  show WS mM E 10 31 [(4, .long u6_4)] [] s3
  refine s_lload O 0 dX6_common_31 rfl ?_
  exact s_lret hret dX6_common_33 hf
def rm_X6_told : Room := { frames := 1, cells := 0, slots := 0, locals := 29 }
def f_X6_told (a0 : Int64) (a2 : Int64) (a4 : Int32) (s0 : StA) : Option (StA × Int64) :=
  bn (f_X6_common a2 a0 s0) (fun s1 r2 => (if a4 = 0 then g0l r2 (some (s1, (a0 / r2))) else g0l r2 (some (s1, (a2 / r2)))))
set_option maxHeartbeats 4000000 in
set_option maxRecDepth 100000 in
theorem k_X6_told {a0 : Int64} {a2 : Int64} {a4 : Int32} {s0 zs : StA} {rr : Int64} (hf : f_X6_told a0 a2 a4 s0 = some (zs, rr)) : CtL mM yX6_told cX6_told 7 rm_X6_told (fun ph => [.long a0, .long a2, .int a4]) s0 zs rr := by
  refine CtL.of (by decide +kernel) (fun ph => Nat.le_of_ble_eq_true rfl) (fun E O hret => ?_)
  have O : OK mM E RX6 cX6_told 7 rm_X6_told := O
  show WS mM E 7 0 [(0, .long a0), (2, .long a2), (4, .int a4)] [] s0
  unfold f_X6_told at hf
  refine s_lload_n O 1 dX6_told_0 rfl rfl ?_
  refine s_lload_n O 0 dX6_told_1 rfl rfl ?_
  obtain ⟨s1, r2, c3, hf⟩ := bn_e hf
  refine s_SL (As := [.long a2, .long a0]) (st := []) O lk_RX6_261 (k_X6_common c3) rfl rfl ⟨rfl, rfl⟩ ⟨Nat.le_of_ble_eq_true rfl, Nat.le_of_ble_eq_true rfl⟩ rfl (Nat.le_of_ble_eq_true rfl) dX6_told_2 ?_
  refine s_lstore (lv' := [(5, .long r2), (0, .long a0), (2, .long a2), (4, .int a4)]) O dX6_told_5 (by decide) rfl ?_
  refine s_iload O 3 dX6_told_7 rfl ?_
  refine s_if_ne (tgt := 19) O dX6_told_9 (by decide) (fun c => ?_) (fun c => ?_)
  · replace hf := if_f c hf
    refine s_lload_n O 2 dX6_told_19 rfl rfl ?_
    refine s_lload O 0 dX6_told_20 rfl ?_
    obtain ⟨h4, hf⟩ := g0l_e hf
    refine s_ldiv O dX6_told_22 h4 ?_
    exact s_lret hret dX6_told_23 hf
  · replace hf := if_t c hf
    refine s_lload_n O 1 dX6_told_12 rfl rfl ?_
    refine s_lload O 0 dX6_told_13 rfl ?_
    obtain ⟨h5, hf⟩ := g0l_e hf
    refine s_ldiv O dX6_told_15 h5 ?_
    refine s_goto (tgt := 23) O dX6_told_16 (by decide) ?_
    exact s_lret hret dX6_told_23 hf
def rm_X6_luck : Room := { frames := 6, cells := 0, slots := 0, locals := 138 }
def f_X6_luck (a1 : Int32) (a2 : Int32) (a3 : Int32) (a4 : Int32) (s0 : StA) : Option (StA × Int64) :=
  bn (f_X6_in a1.toInt64 0 10 s0) (fun s1 r2 => (if r2 = 0 then some (s1, (-1)) else bn (f_X6_isFar a2 s1) (fun s4 r5 => (if r5 = 0 then some (s4, (-1)) else bn (f_X6_in a3.toInt64 0 60 s4) (fun s7 r8 => (if r8 = 0 then some (s7, (-1)) else bn (f_X6_isPart a4 s7) (fun s10 r11 => (if r11 = 0 then some (s10, (-1)) else bn (f_X6_findOdds a1 a2 a3 s10) (fun s13 r14 => bn (f_X6_told (gl s13 0 24) (gl s13 0 26) a4 s13) (fun s16 r17 => some (s16, r17)))))))))))
set_option maxHeartbeats 4000000 in
set_option maxRecDepth 100000 in
theorem k_X6_luck {a1 : Int32} {a2 : Int32} {a3 : Int32} {a4 : Int32} {s0 zs : StA} {rr : Int64} (hf : f_X6_luck a1 a2 a3 a4 s0 = some (zs, rr)) : CtL mM yX6_luck cX6_luck 5 rm_X6_luck (fun ph => [.ref (ph 0), .int a1, .int a2, .int a3, .int a4]) s0 zs rr := by
  refine CtL.of (by decide +kernel) (fun ph => Nat.le_of_ble_eq_true rfl) (fun E O hret => ?_)
  have O : OK mM E RX6 cX6_luck 5 rm_X6_luck := O
  show WS mM E 5 0 [(0, rf E 0), (1, .int a1), (2, .int a2), (3, .int a3), (4, .int a4)] [] s0
  unfold f_X6_luck at hf
  refine s_iload_n O 1 dX6_luck_0 rfl rfl ?_
  refine s_i2l O dX6_luck_1 ?_
  refine s_lconst (v := 0) O dX6_luck_2 rfl ?_
  refine s_ldc2 O cl_RX6_275 dX6_luck_3 ?_
  obtain ⟨s1, r2, c3, hf⟩ := bn_e hf
  refine s_SI (As := [.long a1.toInt64, .long 0, .long 10]) (st := []) O lk_RX6_69 (k_X6_in c3) rfl rfl ⟨rfl, rfl⟩ ⟨Nat.le_of_ble_eq_true rfl, Nat.le_of_ble_eq_true rfl⟩ rfl (Nat.le_of_ble_eq_true rfl) dX6_luck_6 ?_
  refine s_if_eq (tgt := 39) O dX6_luck_9 (by decide) (fun c => ?_) (fun c => ?_)
  · replace hf := if_t c hf
    refine s_ldc2 O cl_RX6_277 dX6_luck_39 ?_
    exact s_lret hret dX6_luck_42 hf
  · replace hf := if_f c hf
    refine s_iload_n O 2 dX6_luck_12 rfl rfl ?_
    obtain ⟨s4, r5, c6, hf⟩ := bn_e hf
    refine s_SI (As := [.int a2]) (st := []) O lk_RX6_223 (k_X6_isFar c6) rfl rfl ⟨rfl, rfl⟩ ⟨Nat.le_of_ble_eq_true rfl, Nat.le_of_ble_eq_true rfl⟩ rfl (Nat.le_of_ble_eq_true rfl) dX6_luck_13 ?_
    refine s_if_eq (tgt := 39) O dX6_luck_16 (by decide) (fun c => ?_) (fun c => ?_)
    · replace hf := if_t c hf
      refine s_ldc2 O cl_RX6_277 dX6_luck_39 ?_
      exact s_lret hret dX6_luck_42 hf
    · replace hf := if_f c hf
      refine s_iload_n O 3 dX6_luck_19 rfl rfl ?_
      refine s_i2l O dX6_luck_20 ?_
      refine s_lconst (v := 0) O dX6_luck_21 rfl ?_
      refine s_ldc2 O cl_RX6_211 dX6_luck_22 ?_
      obtain ⟨s7, r8, c9, hf⟩ := bn_e hf
      refine s_SI (As := [.long a3.toInt64, .long 0, .long 60]) (st := []) O lk_RX6_69 (k_X6_in c9) rfl rfl ⟨rfl, rfl⟩ ⟨Nat.le_of_ble_eq_true rfl, Nat.le_of_ble_eq_true rfl⟩ rfl (Nat.le_of_ble_eq_true rfl) dX6_luck_25 ?_
      refine s_if_eq (tgt := 39) O dX6_luck_28 (by decide) (fun c => ?_) (fun c => ?_)
      · replace hf := if_t c hf
        refine s_ldc2 O cl_RX6_277 dX6_luck_39 ?_
        exact s_lret hret dX6_luck_42 hf
      · replace hf := if_f c hf
        refine s_iload O 4 dX6_luck_31 rfl ?_
        obtain ⟨s10, r11, c12, hf⟩ := bn_e hf
        refine s_SI (As := [.int a4]) (st := []) O lk_RX6_188 (k_X6_isPart c12) rfl rfl ⟨rfl, rfl⟩ ⟨Nat.le_of_ble_eq_true rfl, Nat.le_of_ble_eq_true rfl⟩ rfl (Nat.le_of_ble_eq_true rfl) dX6_luck_33 ?_
        refine s_if_ne (tgt := 43) O dX6_luck_36 (by decide) (fun c => ?_) (fun c => ?_)
        · replace hf := if_f c hf
          refine s_aload_n O 0 dX6_luck_43 rfl rfl ?_
          refine s_iload_n O 1 dX6_luck_44 rfl rfl ?_
          refine s_iload_n O 2 dX6_luck_45 rfl rfl ?_
          refine s_iload_n O 3 dX6_luck_46 rfl rfl ?_
          obtain ⟨s13, r14, c15, hf⟩ := bn_e hf
          refine s_VV (As := [.int a1, .int a2, .int a3]) (st := []) O lk_RX6_279 (k_X6_findOdds c15) rfl ms_0 rfl rfl ⟨rfl, rfl⟩ ⟨Nat.le_of_ble_eq_true rfl, Nat.le_of_ble_eq_true rfl⟩ rfl (Nat.le_of_ble_eq_true rfl) dX6_luck_47 ?_
          refine s_aload_n O 0 dX6_luck_50 rfl rfl ?_
          refine s_getL O fg_RX6_265 ms_0 rfl dX6_luck_51 ?_
          refine s_aload_n O 0 dX6_luck_54 rfl rfl ?_
          refine s_getL O fg_RX6_272 ms_0 rfl dX6_luck_55 ?_
          refine s_iload O 4 dX6_luck_58 rfl ?_
          obtain ⟨s16, r17, c18, hf⟩ := bn_e hf
          refine s_SL (As := [.long (gl s13 0 24), .long (gl s13 0 26), .int a4]) (st := []) O lk_RX6_282 (k_X6_told c18) rfl rfl ⟨rfl, rfl⟩ ⟨Nat.le_of_ble_eq_true rfl, Nat.le_of_ble_eq_true rfl⟩ rfl (Nat.le_of_ble_eq_true rfl) dX6_luck_60 ?_
          exact s_lret hret dX6_luck_63 hf
        · replace hf := if_t c hf
          refine s_ldc2 O cl_RX6_277 dX6_luck_39 ?_
          exact s_lret hret dX6_luck_42 hf
def rm_X6_mean : Room := { frames := 6, cells := 0, slots := 0, locals := 138 }
def f_X6_mean (a1 : Int32) (a2 : Int32) (a3 : Int32) (s0 : StA) : Option (StA × Int64) :=
  bn (f_X6_in a1.toInt64 0 10 s0) (fun s1 r2 => (if r2 = 0 then some (s1, (-1)) else bn (f_X6_isFar a2 s1) (fun s4 r5 => (if r5 = 0 then some (s4, (-1)) else bn (f_X6_isPart a3 s4) (fun s7 r8 => (if r8 = 0 then some (s7, (-1)) else bn (f_X6_findOdds a1 a2 0 s7) (fun s10 r11 => bn (f_X6_told (gl s10 0 25) (gl s10 0 26) a3 s10) (fun s13 r14 => some (s13, r14)))))))))
set_option maxHeartbeats 4000000 in
set_option maxRecDepth 100000 in
theorem k_X6_mean {a1 : Int32} {a2 : Int32} {a3 : Int32} {s0 zs : StA} {rr : Int64} (hf : f_X6_mean a1 a2 a3 s0 = some (zs, rr)) : CtL mM yX6_mean cX6_mean 4 rm_X6_mean (fun ph => [.ref (ph 0), .int a1, .int a2, .int a3]) s0 zs rr := by
  refine CtL.of (by decide +kernel) (fun ph => Nat.le_of_ble_eq_true rfl) (fun E O hret => ?_)
  have O : OK mM E RX6 cX6_mean 4 rm_X6_mean := O
  show WS mM E 4 0 [(0, rf E 0), (1, .int a1), (2, .int a2), (3, .int a3)] [] s0
  unfold f_X6_mean at hf
  refine s_iload_n O 1 dX6_mean_0 rfl rfl ?_
  refine s_i2l O dX6_mean_1 ?_
  refine s_lconst (v := 0) O dX6_mean_2 rfl ?_
  refine s_ldc2 O cl_RX6_275 dX6_mean_3 ?_
  obtain ⟨s1, r2, c3, hf⟩ := bn_e hf
  refine s_SI (As := [.long a1.toInt64, .long 0, .long 10]) (st := []) O lk_RX6_69 (k_X6_in c3) rfl rfl ⟨rfl, rfl⟩ ⟨Nat.le_of_ble_eq_true rfl, Nat.le_of_ble_eq_true rfl⟩ rfl (Nat.le_of_ble_eq_true rfl) dX6_mean_6 ?_
  refine s_if_eq (tgt := 26) O dX6_mean_9 (by decide) (fun c => ?_) (fun c => ?_)
  · replace hf := if_t c hf
    refine s_ldc2 O cl_RX6_277 dX6_mean_26 ?_
    exact s_lret hret dX6_mean_29 hf
  · replace hf := if_f c hf
    refine s_iload_n O 2 dX6_mean_12 rfl rfl ?_
    obtain ⟨s4, r5, c6, hf⟩ := bn_e hf
    refine s_SI (As := [.int a2]) (st := []) O lk_RX6_223 (k_X6_isFar c6) rfl rfl ⟨rfl, rfl⟩ ⟨Nat.le_of_ble_eq_true rfl, Nat.le_of_ble_eq_true rfl⟩ rfl (Nat.le_of_ble_eq_true rfl) dX6_mean_13 ?_
    refine s_if_eq (tgt := 26) O dX6_mean_16 (by decide) (fun c => ?_) (fun c => ?_)
    · replace hf := if_t c hf
      refine s_ldc2 O cl_RX6_277 dX6_mean_26 ?_
      exact s_lret hret dX6_mean_29 hf
    · replace hf := if_f c hf
      refine s_iload_n O 3 dX6_mean_19 rfl rfl ?_
      obtain ⟨s7, r8, c9, hf⟩ := bn_e hf
      refine s_SI (As := [.int a3]) (st := []) O lk_RX6_188 (k_X6_isPart c9) rfl rfl ⟨rfl, rfl⟩ ⟨Nat.le_of_ble_eq_true rfl, Nat.le_of_ble_eq_true rfl⟩ rfl (Nat.le_of_ble_eq_true rfl) dX6_mean_20 ?_
      refine s_if_ne (tgt := 30) O dX6_mean_23 (by decide) (fun c => ?_) (fun c => ?_)
      · replace hf := if_f c hf
        refine s_aload_n O 0 dX6_mean_30 rfl rfl ?_
        refine s_iload_n O 1 dX6_mean_31 rfl rfl ?_
        refine s_iload_n O 2 dX6_mean_32 rfl rfl ?_
        refine s_iconst (v := 0) O dX6_mean_33 rfl ?_
        obtain ⟨s10, r11, c12, hf⟩ := bn_e hf
        refine s_VV (As := [.int a1, .int a2, .int 0]) (st := []) O lk_RX6_279 (k_X6_findOdds c12) rfl ms_0 rfl rfl ⟨rfl, rfl⟩ ⟨Nat.le_of_ble_eq_true rfl, Nat.le_of_ble_eq_true rfl⟩ rfl (Nat.le_of_ble_eq_true rfl) dX6_mean_34 ?_
        refine s_aload_n O 0 dX6_mean_37 rfl rfl ?_
        refine s_getL O fg_RX6_269 ms_0 rfl dX6_mean_38 ?_
        refine s_aload_n O 0 dX6_mean_41 rfl rfl ?_
        refine s_getL O fg_RX6_272 ms_0 rfl dX6_mean_42 ?_
        refine s_iload_n O 3 dX6_mean_45 rfl rfl ?_
        obtain ⟨s13, r14, c15, hf⟩ := bn_e hf
        refine s_SL (As := [.long (gl s10 0 25), .long (gl s10 0 26), .int a3]) (st := []) O lk_RX6_282 (k_X6_told c15) rfl rfl ⟨rfl, rfl⟩ ⟨Nat.le_of_ble_eq_true rfl, Nat.le_of_ble_eq_true rfl⟩ rfl (Nat.le_of_ble_eq_true rfl) dX6_mean_46 ?_
        exact s_lret hret dX6_mean_49 hf
      · replace hf := if_t c hf
        refine s_ldc2 O cl_RX6_277 dX6_mean_26 ?_
        exact s_lret hret dX6_mean_29 hf
def rm_X6_see : Room := { frames := 1, cells := 0, slots := 0, locals := 25 }
def f_X6_see (a1 : Int32) (a2 : Int32) (s0 : StA) : Option (StA × Int32) :=
  bn (f_X6_in a1.toInt64 0 30 s0) (fun s1 r2 => (if r2 = 0 then some (s1, (-1)) else bn (f_X6_in a2.toInt64 0 60 s1) (fun s4 r5 => (if r5 = 0 then some (s4, (-1)) else gd 50 189 ((if (gi s4 1 (50 : Int32).toNatClampNeg) = 6 then some (s4, (-3)) else gd 50 189 (nmi (51 + (2 * (gi s4 1 (50 : Int32).toNatClampNeg))) (fun n9 => gd n9 189 (nms (si s4 1 n9.toNatClampNeg a1) (fun s11 => gd (n9 + 1) 189 (nms (si s11 1 ((n9 + 1).toNatClampNeg) a2) (fun s13 => gd 50 189 (gd 50 189 (nms (si s13 1 ((50 : Int32).toNatClampNeg) ((gi s13 1 (50 : Int32).toNatClampNeg) + 1)) (fun s16 => gd 50 189 (some (s16, (gi s16 1 (50 : Int32).toNatClampNeg))))))))))))))))))
set_option maxHeartbeats 4000000 in
set_option maxRecDepth 100000 in
theorem k_X6_see {a1 : Int32} {a2 : Int32} {s0 zs : StA} {rr : Int32} (hf : f_X6_see a1 a2 s0 = some (zs, rr)) : CtI mM yX6_see cX6_see 4 .int rm_X6_see (fun ph => [.ref (ph 0), .int a1, .int a2]) s0 zs rr := by
  refine CtI.of (by decide +kernel) (fun ph => Nat.le_of_ble_eq_true rfl) (fun E O hret => ?_)
  have O : OK mM E RX6 cX6_see 4 rm_X6_see := O
  show WS mM E 4 0 [(0, rf E 0), (1, .int a1), (2, .int a2)] [] s0
  unfold f_X6_see at hf
  refine s_iload_n O 1 dX6_see_0 rfl rfl ?_
  refine s_i2l O dX6_see_1 ?_
  refine s_lconst (v := 0) O dX6_see_2 rfl ?_
  refine s_ldc2 O cl_RX6_203 dX6_see_3 ?_
  obtain ⟨s1, r2, c3, hf⟩ := bn_e hf
  refine s_SI (As := [.long a1.toInt64, .long 0, .long 30]) (st := []) O lk_RX6_69 (k_X6_in c3) rfl rfl ⟨rfl, rfl⟩ ⟨Nat.le_of_ble_eq_true rfl, Nat.le_of_ble_eq_true rfl⟩ rfl (Nat.le_of_ble_eq_true rfl) dX6_see_6 ?_
  refine s_if_eq (tgt := 24) O dX6_see_9 (by decide) (fun c => ?_) (fun c => ?_)
  · replace hf := if_t c hf
    refine s_iconst (v := (-1)) O dX6_see_24 rfl ?_
    exact s_iret hret rfl dX6_see_25 hf
  · replace hf := if_f c hf
    refine s_iload_n O 2 dX6_see_12 rfl rfl ?_
    refine s_i2l O dX6_see_13 ?_
    refine s_lconst (v := 0) O dX6_see_14 rfl ?_
    refine s_ldc2 O cl_RX6_211 dX6_see_15 ?_
    obtain ⟨s4, r5, c6, hf⟩ := bn_e hf
    refine s_SI (As := [.long a2.toInt64, .long 0, .long 60]) (st := []) O lk_RX6_69 (k_X6_in c6) rfl rfl ⟨rfl, rfl⟩ ⟨Nat.le_of_ble_eq_true rfl, Nat.le_of_ble_eq_true rfl⟩ rfl (Nat.le_of_ble_eq_true rfl) dX6_see_18 ?_
    refine s_if_ne (tgt := 26) O dX6_see_21 (by decide) (fun c => ?_) (fun c => ?_)
    · replace hf := if_f c hf
      refine s_aload_n O 0 dX6_see_26 rfl rfl ?_
      refine s_getR O fg_RX6_7 ms_0 rfl dX6_see_27 ?_
      refine s_bipush (v := 50) O dX6_see_30 rfl ?_
      obtain ⟨h7, hf⟩ := gd_e hf
      refine s_iald O ms_1 h7 dX6_see_32 ?_
      refine s_bipush (v := 6) O dX6_see_33 rfl ?_
      refine s_icmp_ne (tgt := 41) O dX6_see_35 (by decide) (fun c => ?_) (fun c => ?_)
      · replace hf := if_f c hf
        refine s_bipush (v := 51) O dX6_see_41 rfl ?_
        refine s_iconst (v := 2) O dX6_see_43 rfl ?_
        refine s_aload_n O 0 dX6_see_44 rfl rfl ?_
        refine s_getR O fg_RX6_7 ms_0 rfl dX6_see_45 ?_
        refine s_bipush (v := 50) O dX6_see_48 rfl ?_
        obtain ⟨h8, hf⟩ := gd_e hf
        refine s_iald O ms_1 h8 dX6_see_50 ?_
        refine s_imul O dX6_see_51 ?_
        refine s_iadd O dX6_see_52 ?_
        refine s_topi (fun n9 en9 => ?_)
        replace hf := nmi_e en9 hf
        refine s_istore_n (lv' := [(3, .int n9), (0, rf E 0), (1, .int a1), (2, .int a2)]) O dX6_see_53 rfl (by decide) rfl ?_
        refine s_aload_n O 1 dX6_see_54 rfl rfl ?_
        refine s_getR O fg_RX6_7 ms_0 rfl dX6_see_55 ?_
        refine s_iload_n O 0 dX6_see_58 rfl rfl ?_
        refine s_iload_n O 2 dX6_see_59 rfl rfl ?_
        obtain ⟨h10, hf⟩ := gd_e hf
        refine s_iast O ms_1 h10 dX6_see_60 ?_
        refine s_tops (fun s11 es11 => ?_)
        replace hf := nms_e es11 hf
        refine s_aload_n O 1 dX6_see_61 rfl rfl ?_
        refine s_getR O fg_RX6_7 ms_0 rfl dX6_see_62 ?_
        refine s_iload_n O 0 dX6_see_65 rfl rfl ?_
        refine s_iconst (v := 1) O dX6_see_66 rfl ?_
        refine s_iadd O dX6_see_67 ?_
        refine s_iload_n O 3 dX6_see_68 rfl rfl ?_
        obtain ⟨h12, hf⟩ := gd_e hf
        refine s_iast O ms_1 h12 dX6_see_69 ?_
        refine s_tops (fun s13 es13 => ?_)
        replace hf := nms_e es13 hf
        refine s_aload_n O 1 dX6_see_70 rfl rfl ?_
        refine s_getR O fg_RX6_7 ms_0 rfl dX6_see_71 ?_
        refine s_bipush (v := 50) O dX6_see_74 rfl ?_
        refine s_dup2 O dX6_see_76 rfl rfl ?_
        obtain ⟨h14, hf⟩ := gd_e hf
        refine s_iald O ms_1 h14 dX6_see_77 ?_
        refine s_iconst (v := 1) O dX6_see_78 rfl ?_
        refine s_iadd O dX6_see_79 ?_
        obtain ⟨h15, hf⟩ := gd_e hf
        refine s_iast O ms_1 h15 dX6_see_80 ?_
        refine s_tops (fun s16 es16 => ?_)
        replace hf := nms_e es16 hf
        refine s_aload_n O 1 dX6_see_81 rfl rfl ?_
        refine s_getR O fg_RX6_7 ms_0 rfl dX6_see_82 ?_
        refine s_bipush (v := 50) O dX6_see_85 rfl ?_
        obtain ⟨h17, hf⟩ := gd_e hf
        refine s_iald O ms_1 h17 dX6_see_87 ?_
        exact s_iret hret rfl dX6_see_88 hf
      · replace hf := if_t c hf
        refine s_bipush (v := (-3)) O dX6_see_38 rfl ?_
        exact s_iret hret rfl dX6_see_40 hf
    · replace hf := if_t c hf
      refine s_iconst (v := (-1)) O dX6_see_24 rfl ?_
      exact s_iret hret rfl dX6_see_25 hf
def rm_X6_forget : Room := { frames := 1, cells := 0, slots := 0, locals := 25 }
def f_X6_forget (a1 : Int32) (s0 : StA) : Option (StA × Int32) :=
  gd 50 189 (bn (f_X6_in a1.toInt64 0 (gi s0 1 (50 : Int32).toNatClampNeg).toInt64 s0) (fun s2 r3 => (if r3 = 0 then some (s2, (-1)) else bn (f_X6_becomes 50 a1 s2) (fun s5 r6 => some (s5, r6)))))
set_option maxHeartbeats 4000000 in
set_option maxRecDepth 100000 in
theorem k_X6_forget {a1 : Int32} {s0 zs : StA} {rr : Int32} (hf : f_X6_forget a1 s0 = some (zs, rr)) : CtI mM yX6_forget cX6_forget 2 .int rm_X6_forget (fun ph => [.ref (ph 0), .int a1]) s0 zs rr := by
  refine CtI.of (by decide +kernel) (fun ph => Nat.le_of_ble_eq_true rfl) (fun E O hret => ?_)
  have O : OK mM E RX6 cX6_forget 2 rm_X6_forget := O
  show WS mM E 2 0 [(0, rf E 0), (1, .int a1)] [] s0
  unfold f_X6_forget at hf
  refine s_iload_n O 1 dX6_forget_0 rfl rfl ?_
  refine s_i2l O dX6_forget_1 ?_
  refine s_lconst (v := 0) O dX6_forget_2 rfl ?_
  refine s_aload_n O 0 dX6_forget_3 rfl rfl ?_
  refine s_getR O fg_RX6_7 ms_0 rfl dX6_forget_4 ?_
  refine s_bipush (v := 50) O dX6_forget_7 rfl ?_
  obtain ⟨h1, hf⟩ := gd_e hf
  refine s_iald O ms_1 h1 dX6_forget_9 ?_
  refine s_i2l O dX6_forget_10 ?_
  obtain ⟨s2, r3, c4, hf⟩ := bn_e hf
  refine s_SI (As := [.long a1.toInt64, .long 0, .long (gi s0 1 (50 : Int32).toNatClampNeg).toInt64]) (st := []) O lk_RX6_69 (k_X6_in c4) rfl rfl ⟨rfl, rfl⟩ ⟨Nat.le_of_ble_eq_true rfl, Nat.le_of_ble_eq_true rfl⟩ rfl (Nat.le_of_ble_eq_true rfl) dX6_forget_11 ?_
  refine s_if_eq (tgt := 27) O dX6_forget_14 (by decide) (fun c => ?_) (fun c => ?_)
  · replace hf := if_t c hf
    refine s_iconst (v := (-1)) O dX6_forget_27 rfl ?_
    exact s_iret hret rfl dX6_forget_28 hf
  · replace hf := if_f c hf
    refine s_aload_n O 0 dX6_forget_17 rfl rfl ?_
    refine s_bipush (v := 50) O dX6_forget_18 rfl ?_
    refine s_iload_n O 1 dX6_forget_20 rfl rfl ?_
    obtain ⟨s5, r6, c7, hf⟩ := bn_e hf
    refine s_VI (As := [.int 50, .int a1]) (st := []) O lk_RX6_195 (k_X6_becomes c7) rfl ms_0 rfl rfl ⟨rfl, rfl⟩ ⟨Nat.le_of_ble_eq_true rfl, Nat.le_of_ble_eq_true rfl⟩ rfl (Nat.le_of_ble_eq_true rfl) dX6_forget_21 ?_
    refine s_goto (tgt := 28) O dX6_forget_24 (by decide) ?_
    exact s_iret hret rfl dX6_forget_28 hf
