def rm_X5_luck : Room := { frames := 6, cells := 0, slots := 0, locals := 131 }
def fb_X5_luck_l44 (a1 : Int32) (a2 : Int32) (a3 : Int32) (a4 : Int32) (x1 : Int32) (x2 : Int32) (x3 : Int32) (x4 : Int32) (s0 : StA) (v5 : Int64) (v7 : Int32) : Option (StA × ((Int64 × Int32) ⊕ (Int64))) :=
  (if (1 <<< ((gi s0 6 2) &&& 31)) ≤ v7 then some (s0, .inr v5) else bn (f_X5_oddsThatFail v7 x1 s0) (fun s13 r14 => (if (lg_cmp r14 0) ≤ 0 then some (s13, .inl (v5, (v7 + 1))) else bn (f_X5_tryWithout v7 x2 s13) (fun s16 r17 => (if x3 < (gi s16 12 8) then nml (v5 + 0) (fun n19 => some (s16, .inl (n19, (v7 + 1)))) else nml (v5 + r14) (fun n20 => some (s16, .inl (n20, (v7 + 1)))))))))
set_option maxHeartbeats 4000000 in
set_option maxRecDepth 100000 in
theorem wb_X5_luck_l44 {E : XC} (O : OK cM E RX5 cX5_luck 10 rm_X5_luck) {a1 : Int32} {a2 : Int32} {a3 : Int32} {a4 : Int32}  {x1 : Int32} {x2 : Int32} {x3 : Int32} {x4 : Int32} {s0 : StA} {v5 : Int64} {v7 : Int32} {zs : StA} {rr : Int64} (hret : ReL cM E cX5_luck zs rr) {bs : StA} {bw : (Int64 × Int32) ⊕ (Int64)} (Kc : ∀ v, bw = .inl v → WS cM E 10 44 [(0, rf E 0), (1, .int x1), (2, .int x2), (3, .int x3), (4, .int x4), (5, .long v.1), (7, .int v.2)] [] bs) (Ke : ∀ e, bw = .inr e → WS cM E 10 112 [(0, rf E 0), (4, .int x4), (5, .long e)] [] bs) (hf : fb_X5_luck_l44 a1 a2 a3 a4 x1 x2 x3 x4 s0 v5 v7 = some (bs, bw)) : WS cM E 10 44 [(0, rf E 0), (1, .int x1), (2, .int x2), (3, .int x3), (4, .int x4), (5, .long v5), (7, .int v7)] [] s0 := by
  unfold fb_X5_luck_l44 at hf
  refine s_iload O 6 dX5_luck_44 rfl ?_
  refine s_iconst (v := 1) O dX5_luck_46 rfl ?_
  refine s_aload_n O 0 dX5_luck_47 rfl rfl ?_
  refine s_getR O fg_RX5_10 cs_0 rfl dX5_luck_48 ?_
  refine s_getR O fg_RX5_101 cs_1 rfl dX5_luck_51 ?_
  refine s_getI O fg_RX5_105 cs_6 rfl dX5_luck_54 ?_
  refine s_ishl O dX5_luck_57 ?_
  refine s_icmp_ge (tgt := 112) O dX5_luck_58 (by decide) (fun c => ?_) (fun c => ?_)
  · replace hf := if_t c hf
    refine s_loc [0, 4, 5] rfl ?_
    cases hf
    exact Ke _ rfl
  · replace hf := if_f c hf
    refine s_aload_n O 0 dX5_luck_61 rfl rfl ?_
    refine s_iload O 6 dX5_luck_62 rfl ?_
    refine s_iload_n O 1 dX5_luck_64 rfl rfl ?_
    obtain ⟨s13, r14, c15, hf⟩ := bn_e hf
    refine s_VL (As := [.int v7, .int x1]) (st := []) O lk_RX5_213 (k_X5_oddsThatFail c15) rfl cs_0 rfl rfl ⟨rfl, rfl⟩ ⟨Nat.le_of_ble_eq_true rfl, Nat.le_of_ble_eq_true rfl⟩ rfl (Nat.le_of_ble_eq_true rfl) dX5_luck_65 ?_
    refine s_lstore (lv' := [(8, .long r14), (0, rf E 0), (1, .int x1), (2, .int x2), (3, .int x3), (4, .int x4), (5, .long v5), (7, .int v7)]) O dX5_luck_68 (by decide) rfl ?_
    refine s_lload O 0 dX5_luck_70 rfl ?_
    refine s_lconst (v := 0) O dX5_luck_72 rfl ?_
    refine s_lcmp O dX5_luck_73 ?_
    refine s_if_le (tgt := 106) O dX5_luck_74 (by decide) (fun c => ?_) (fun c => ?_)
    · replace hf := if_t c hf
      refine s_iinc (v := (v7 + 1)) (lv' := [(7, .int (v7 + 1)), (8, .long r14), (0, rf E 0), (1, .int x1), (2, .int x2), (3, .int x3), (4, .int x4), (5, .long v5)]) O 7 dX5_luck_106 rfl rfl (by decide) rfl ?_
      refine s_goto (tgt := 44) O dX5_luck_109 (by decide) ?_
      refine s_loc [2, 3, 4, 5, 6, 7, 0] rfl ?_
      cases hf
      exact Kc _ rfl
    · replace hf := if_f c hf
      refine s_aload_n O 1 dX5_luck_77 rfl rfl ?_
      refine s_iload O 7 dX5_luck_78 rfl ?_
      refine s_iload_n O 3 dX5_luck_80 rfl rfl ?_
      obtain ⟨s16, r17, c18, hf⟩ := bn_e hf
      refine s_VV (As := [.int v7, .int x2]) (st := []) O lk_RX5_217 (k_X5_tryWithout c18) rfl cs_0 rfl rfl ⟨rfl, rfl⟩ ⟨Nat.le_of_ble_eq_true rfl, Nat.le_of_ble_eq_true rfl⟩ rfl (Nat.le_of_ble_eq_true rfl) dX5_luck_81 ?_
      refine s_lload O 6 dX5_luck_84 rfl ?_
      refine s_aload_n O 1 dX5_luck_86 rfl rfl ?_
      refine s_getR O fg_RX5_16 cs_0 rfl dX5_luck_87 ?_
      refine s_getI O fg_RX5_85 cs_12 rfl dX5_luck_90 ?_
      refine s_iload_n O 4 dX5_luck_93 rfl rfl ?_
      refine s_icmp_gt (tgt := 102) O dX5_luck_94 (by decide) (fun c => ?_) (fun c => ?_)
      · replace hf := if_t c hf
        refine s_lconst (v := 0) O dX5_luck_102 rfl ?_
        refine s_ladd O dX5_luck_103 ?_
        refine s_topl (fun n19 en19 => ?_)
        replace hf := nml_e en19 hf
        refine s_lstore (lv' := [(5, .long n19), (8, .long r14), (0, rf E 0), (1, .int x1), (2, .int x2), (3, .int x3), (4, .int x4), (7, .int v7)]) O dX5_luck_104 (by decide) rfl ?_
        refine s_iinc (v := (v7 + 1)) (lv' := [(7, .int (v7 + 1)), (5, .long n19), (8, .long r14), (0, rf E 0), (1, .int x1), (2, .int x2), (3, .int x3), (4, .int x4)]) O 7 dX5_luck_106 rfl rfl (by decide) rfl ?_
        refine s_goto (tgt := 44) O dX5_luck_109 (by decide) ?_
        refine s_loc [3, 4, 5, 6, 7, 1, 0] rfl ?_
        cases hf
        exact Kc _ rfl
      · replace hf := if_f c hf
        refine s_lload O 0 dX5_luck_97 rfl ?_
        refine s_goto (tgt := 103) O dX5_luck_99 (by decide) ?_
        refine s_ladd O dX5_luck_103 ?_
        refine s_topl (fun n20 en20 => ?_)
        replace hf := nml_e en20 hf
        refine s_lstore (lv' := [(5, .long n20), (8, .long r14), (0, rf E 0), (1, .int x1), (2, .int x2), (3, .int x3), (4, .int x4), (7, .int v7)]) O dX5_luck_104 (by decide) rfl ?_
        refine s_iinc (v := (v7 + 1)) (lv' := [(7, .int (v7 + 1)), (5, .long n20), (8, .long r14), (0, rf E 0), (1, .int x1), (2, .int x2), (3, .int x3), (4, .int x4)]) O 7 dX5_luck_106 rfl rfl (by decide) rfl ?_
        refine s_goto (tgt := 44) O dX5_luck_109 (by decide) ?_
        refine s_loc [3, 4, 5, 6, 7, 1, 0] rfl ?_
        cases hf
        exact Kc _ rfl
def fl_X5_luck_l44 (a1 : Int32) (a2 : Int32) (a3 : Int32) (a4 : Int32) (x1 : Int32) (x2 : Int32) (x3 : Int32) (x4 : Int32) (s0 : StA) (v : Int64 × Int32) : Option (StA × ((Int64))) :=
  it (fun s v => fb_X5_luck_l44 a1 a2 a3 a4 x1 x2 x3 x4 s v.1 v.2) FU s0 v
def f_X5_luck (a1 : Int32) (a2 : Int32) (a3 : Int32) (a4 : Int32) (s0 : StA) : Option (StA × Int64) :=
  bn (f_X5_isIn a1 0 10 s0) (fun s1 r2 => (if r2 = 0 then some (s1, (-1)) else bn (f_X5_isForecast a2 s1) (fun s4 r5 => (if r5 = 0 then some (s4, (-1)) else bn (f_X5_isHeight a3 s4) (fun s7 r8 => (if r8 = 0 then some (s7, (-1)) else bn (f_X5_isIn a4 0 1 s7) (fun s10 r11 => (if r11 = 0 then some (s10, (-1)) else bn (fl_X5_luck_l44 a1 a2 a3 a4 a1 a2 a3 a4 s10 (0, 0)) (fun s21 u44_5 => bn (f_X5_allOdds  s21) (fun s24 r25 => bn (f_X5_inLowestTerms u44_5 r25 a4 s24) (fun s27 r28 => some (s27, r28))))))))))))
set_option maxHeartbeats 4000000 in
set_option maxRecDepth 100000 in
theorem k_X5_luck {a1 : Int32} {a2 : Int32} {a3 : Int32} {a4 : Int32} {s0 zs : StA} {rr : Int64} (hf : f_X5_luck a1 a2 a3 a4 s0 = some (zs, rr)) : CtL cM yX5_luck cX5_luck 10 rm_X5_luck (fun ph => [.ref (ph 0), .int a1, .int a2, .int a3, .int a4]) s0 zs rr := by
  refine CtL.of (by decide +kernel) (fun ph => Nat.le_of_ble_eq_true rfl) (fun E O hret => ?_)
  have O : OK cM E RX5 cX5_luck 10 rm_X5_luck := O
  show WS cM E 10 0 [(0, rf E 0), (1, .int a1), (2, .int a2), (3, .int a3), (4, .int a4)] [] s0
  unfold f_X5_luck at hf
  refine s_iload_n O 1 dX5_luck_0 rfl rfl ?_
  refine s_iconst (v := 0) O dX5_luck_1 rfl ?_
  refine s_bipush (v := 10) O dX5_luck_2 rfl ?_
  obtain ⟨s1, r2, c3, hf⟩ := bn_e hf
  refine s_SI (As := [.int a1, .int 0, .int 10]) (st := []) O lk_RX5_53 (k_X5_isIn c3) rfl rfl ⟨rfl, rfl⟩ ⟨Nat.le_of_ble_eq_true rfl, Nat.le_of_ble_eq_true rfl⟩ rfl (Nat.le_of_ble_eq_true rfl) dX5_luck_4 ?_
  refine s_if_eq (tgt := 34) O dX5_luck_7 (by decide) (fun c => ?_) (fun c => ?_)
  · replace hf := if_t c hf
    refine s_ldc2 O cl_RX5_211 dX5_luck_34 ?_
    exact s_lret hret dX5_luck_37 hf
  · replace hf := if_f c hf
    refine s_iload_n O 2 dX5_luck_10 rfl rfl ?_
    obtain ⟨s4, r5, c6, hf⟩ := bn_e hf
    refine s_SI (As := [.int a2]) (st := []) O lk_RX5_165 (k_X5_isForecast c6) rfl rfl ⟨rfl, rfl⟩ ⟨Nat.le_of_ble_eq_true rfl, Nat.le_of_ble_eq_true rfl⟩ rfl (Nat.le_of_ble_eq_true rfl) dX5_luck_11 ?_
    refine s_if_eq (tgt := 34) O dX5_luck_14 (by decide) (fun c => ?_) (fun c => ?_)
    · replace hf := if_t c hf
      refine s_ldc2 O cl_RX5_211 dX5_luck_34 ?_
      exact s_lret hret dX5_luck_37 hf
    · replace hf := if_f c hf
      refine s_iload_n O 3 dX5_luck_17 rfl rfl ?_
      obtain ⟨s7, r8, c9, hf⟩ := bn_e hf
      refine s_SI (As := [.int a3]) (st := []) O lk_RX5_208 (k_X5_isHeight c9) rfl rfl ⟨rfl, rfl⟩ ⟨Nat.le_of_ble_eq_true rfl, Nat.le_of_ble_eq_true rfl⟩ rfl (Nat.le_of_ble_eq_true rfl) dX5_luck_18 ?_
      refine s_if_eq (tgt := 34) O dX5_luck_21 (by decide) (fun c => ?_) (fun c => ?_)
      · replace hf := if_t c hf
        refine s_ldc2 O cl_RX5_211 dX5_luck_34 ?_
        exact s_lret hret dX5_luck_37 hf
      · replace hf := if_f c hf
        refine s_iload O 4 dX5_luck_24 rfl ?_
        refine s_iconst (v := 0) O dX5_luck_26 rfl ?_
        refine s_iconst (v := 1) O dX5_luck_27 rfl ?_
        obtain ⟨s10, r11, c12, hf⟩ := bn_e hf
        refine s_SI (As := [.int a4, .int 0, .int 1]) (st := []) O lk_RX5_53 (k_X5_isIn c12) rfl rfl ⟨rfl, rfl⟩ ⟨Nat.le_of_ble_eq_true rfl, Nat.le_of_ble_eq_true rfl⟩ rfl (Nat.le_of_ble_eq_true rfl) dX5_luck_28 ?_
        refine s_if_ne (tgt := 38) O dX5_luck_31 (by decide) (fun c => ?_) (fun c => ?_)
        · replace hf := if_f c hf
          refine s_lconst (v := 0) O dX5_luck_38 rfl ?_
          refine s_lstore (lv' := [(5, .long 0), (0, rf E 0), (1, .int a1), (2, .int a2), (3, .int a3), (4, .int a4)]) O dX5_luck_39 (by decide) rfl ?_
          refine s_iconst (v := 0) O dX5_luck_41 rfl ?_
          refine s_istore (lv' := [(7, .int 0), (5, .long 0), (0, rf E 0), (1, .int a1), (2, .int a2), (3, .int a3), (4, .int a4)]) O dX5_luck_42 (by decide) rfl ?_
          refine s_loc [2, 3, 4, 5, 6, 1, 0] rfl ?_
          obtain ⟨s21, u44_5, c23, hf⟩ := bn_e hf
          refine lp_of (body := fun s v => fb_X5_luck_l44 a1 a2 a3 a4 a1 a2 a3 a4 s v.1 v.2) (X := fun s v => WS cM E 10 44 [(0, rf E 0), (1, .int a1), (2, .int a2), (3, .int a3), (4, .int a4), (5, .long v.1), (7, .int v.2)] [] s) (Y := fun s e => WS cM E 10 112 [(0, rf E 0), (4, .int a4), (5, .long e)] [] s) (fun s v s' w hb Kc Ke => wb_X5_luck_l44 (rr := rr) O   hret Kc Ke hb) FU _ _ (s21, u44_5) c23 ?_
          show WS cM E 10 112 [(0, rf E 0), (4, .int a4), (5, .long u44_5)] [] s21
          refine s_lload O 2 dX5_luck_112 rfl ?_
          refine s_aload_n O 0 dX5_luck_114 rfl rfl ?_
          obtain ⟨s24, r25, c26, hf⟩ := bn_e hf
          refine s_VL (As := []) (st := [.long u44_5]) O lk_RX5_220 (k_X5_allOdds c26) rfl cs_0 rfl rfl ⟨rfl, rfl⟩ ⟨Nat.le_of_ble_eq_true rfl, Nat.le_of_ble_eq_true rfl⟩ rfl (Nat.le_of_ble_eq_true rfl) dX5_luck_115 ?_
          refine s_iload O 1 dX5_luck_118 rfl ?_
          obtain ⟨s27, r28, c29, hf⟩ := bn_e hf
          refine s_SL (As := [.long u44_5, .long r25, .int a4]) (st := []) O lk_RX5_224 (k_X5_inLowestTerms c29) rfl rfl ⟨rfl, rfl⟩ ⟨Nat.le_of_ble_eq_true rfl, Nat.le_of_ble_eq_true rfl⟩ rfl (Nat.le_of_ble_eq_true rfl) dX5_luck_120 ?_
          exact s_lret hret dX5_luck_123 hf
        · replace hf := if_t c hf
          refine s_ldc2 O cl_RX5_211 dX5_luck_34 ?_
          exact s_lret hret dX5_luck_37 hf
def rm_X5_mean : Room := { frames := 6, cells := 0, slots := 0, locals := 131 }
def fb_X5_mean_l36 (a1 : Int32) (a2 : Int32) (a3 : Int32) (x1 : Int32) (x2 : Int32) (x3 : Int32) (s0 : StA) (v4 : Int64) (v6 : Int32) : Option (StA × ((Int64 × Int32) ⊕ (Int64))) :=
  (if (1 <<< ((gi s0 6 2) &&& 31)) ≤ v6 then some (s0, .inr v4) else bn (f_X5_oddsThatFail v6 x1 s0) (fun s10 r11 => (if (lg_cmp r11 0) ≤ 0 then some (s10, .inl (v4, (v6 + 1))) else bn (f_X5_tryWithout v6 x2 s10) (fun s13 r14 => nml (v4 + (r11 * (gi s13 12 8).toInt64)) (fun n16 => some (s13, .inl (n16, (v6 + 1))))))))
set_option maxHeartbeats 4000000 in
set_option maxRecDepth 100000 in
theorem wb_X5_mean_l36 {E : XC} (O : OK cM E RX5 cX5_mean 9 rm_X5_mean) {a1 : Int32} {a2 : Int32} {a3 : Int32}  {x1 : Int32} {x2 : Int32} {x3 : Int32} {s0 : StA} {v4 : Int64} {v6 : Int32} {zs : StA} {rr : Int64} (hret : ReL cM E cX5_mean zs rr) {bs : StA} {bw : (Int64 × Int32) ⊕ (Int64)} (Kc : ∀ v, bw = .inl v → WS cM E 9 36 [(0, rf E 0), (1, .int x1), (2, .int x2), (3, .int x3), (4, .long v.1), (6, .int v.2)] [] bs) (Ke : ∀ e, bw = .inr e → WS cM E 9 98 [(0, rf E 0), (3, .int x3), (4, .long e)] [] bs) (hf : fb_X5_mean_l36 a1 a2 a3 x1 x2 x3 s0 v4 v6 = some (bs, bw)) : WS cM E 9 36 [(0, rf E 0), (1, .int x1), (2, .int x2), (3, .int x3), (4, .long v4), (6, .int v6)] [] s0 := by
  unfold fb_X5_mean_l36 at hf
  refine s_iload O 5 dX5_mean_36 rfl ?_
  refine s_iconst (v := 1) O dX5_mean_38 rfl ?_
  refine s_aload_n O 0 dX5_mean_39 rfl rfl ?_
  refine s_getR O fg_RX5_10 cs_0 rfl dX5_mean_40 ?_
  refine s_getR O fg_RX5_101 cs_1 rfl dX5_mean_43 ?_
  refine s_getI O fg_RX5_105 cs_6 rfl dX5_mean_46 ?_
  refine s_ishl O dX5_mean_49 ?_
  refine s_icmp_ge (tgt := 98) O dX5_mean_50 (by decide) (fun c => ?_) (fun c => ?_)
  · replace hf := if_t c hf
    refine s_loc [0, 3, 4] rfl ?_
    cases hf
    exact Ke _ rfl
  · replace hf := if_f c hf
    refine s_aload_n O 0 dX5_mean_53 rfl rfl ?_
    refine s_iload O 5 dX5_mean_54 rfl ?_
    refine s_iload_n O 1 dX5_mean_56 rfl rfl ?_
    obtain ⟨s10, r11, c12, hf⟩ := bn_e hf
    refine s_VL (As := [.int v6, .int x1]) (st := []) O lk_RX5_213 (k_X5_oddsThatFail c12) rfl cs_0 rfl rfl ⟨rfl, rfl⟩ ⟨Nat.le_of_ble_eq_true rfl, Nat.le_of_ble_eq_true rfl⟩ rfl (Nat.le_of_ble_eq_true rfl) dX5_mean_57 ?_
    refine s_lstore (lv' := [(7, .long r11), (0, rf E 0), (1, .int x1), (2, .int x2), (3, .int x3), (4, .long v4), (6, .int v6)]) O dX5_mean_60 (by decide) rfl ?_
    refine s_lload O 0 dX5_mean_62 rfl ?_
    refine s_lconst (v := 0) O dX5_mean_64 rfl ?_
    refine s_lcmp O dX5_mean_65 ?_
    refine s_if_le (tgt := 92) O dX5_mean_66 (by decide) (fun c => ?_) (fun c => ?_)
    · replace hf := if_t c hf
      refine s_iinc (v := (v6 + 1)) (lv' := [(6, .int (v6 + 1)), (7, .long r11), (0, rf E 0), (1, .int x1), (2, .int x2), (3, .int x3), (4, .long v4)]) O 6 dX5_mean_92 rfl rfl (by decide) rfl ?_
      refine s_goto (tgt := 36) O dX5_mean_95 (by decide) ?_
      refine s_loc [2, 3, 4, 5, 6, 0] rfl ?_
      cases hf
      exact Kc _ rfl
    · replace hf := if_f c hf
      refine s_aload_n O 1 dX5_mean_69 rfl rfl ?_
      refine s_iload O 6 dX5_mean_70 rfl ?_
      refine s_iload_n O 3 dX5_mean_72 rfl rfl ?_
      obtain ⟨s13, r14, c15, hf⟩ := bn_e hf
      refine s_VV (As := [.int v6, .int x2]) (st := []) O lk_RX5_217 (k_X5_tryWithout c15) rfl cs_0 rfl rfl ⟨rfl, rfl⟩ ⟨Nat.le_of_ble_eq_true rfl, Nat.le_of_ble_eq_true rfl⟩ rfl (Nat.le_of_ble_eq_true rfl) dX5_mean_73 ?_
      refine s_lload O 5 dX5_mean_76 rfl ?_
      refine s_lload O 0 dX5_mean_78 rfl ?_
      refine s_aload_n O 1 dX5_mean_80 rfl rfl ?_
      refine s_getR O fg_RX5_16 cs_0 rfl dX5_mean_81 ?_
      refine s_getI O fg_RX5_85 cs_12 rfl dX5_mean_84 ?_
      refine s_i2l O dX5_mean_87 ?_
      refine s_lmul O dX5_mean_88 ?_
      refine s_ladd O dX5_mean_89 ?_
      refine s_topl (fun n16 en16 => ?_)
      replace hf := nml_e en16 hf
      refine s_lstore (lv' := [(4, .long n16), (7, .long r11), (0, rf E 0), (1, .int x1), (2, .int x2), (3, .int x3), (6, .int v6)]) O dX5_mean_90 (by decide) rfl ?_
      refine s_iinc (v := (v6 + 1)) (lv' := [(6, .int (v6 + 1)), (4, .long n16), (7, .long r11), (0, rf E 0), (1, .int x1), (2, .int x2), (3, .int x3)]) O 6 dX5_mean_92 rfl rfl (by decide) rfl ?_
      refine s_goto (tgt := 36) O dX5_mean_95 (by decide) ?_
      refine s_loc [3, 4, 5, 6, 1, 0] rfl ?_
      cases hf
      exact Kc _ rfl
def fl_X5_mean_l36 (a1 : Int32) (a2 : Int32) (a3 : Int32) (x1 : Int32) (x2 : Int32) (x3 : Int32) (s0 : StA) (v : Int64 × Int32) : Option (StA × ((Int64))) :=
  it (fun s v => fb_X5_mean_l36 a1 a2 a3 x1 x2 x3 s v.1 v.2) FU s0 v
def f_X5_mean (a1 : Int32) (a2 : Int32) (a3 : Int32) (s0 : StA) : Option (StA × Int64) :=
  bn (f_X5_isIn a1 0 10 s0) (fun s1 r2 => (if r2 = 0 then some (s1, (-1)) else bn (f_X5_isForecast a2 s1) (fun s4 r5 => (if r5 = 0 then some (s4, (-1)) else bn (f_X5_isIn a3 0 1 s4) (fun s7 r8 => (if r8 = 0 then some (s7, (-1)) else bn (fl_X5_mean_l36 a1 a2 a3 a1 a2 a3 s7 (0, 0)) (fun s17 u36_4 => bn (f_X5_allOdds  s17) (fun s20 r21 => bn (f_X5_inLowestTerms u36_4 r21 a3 s20) (fun s23 r24 => some (s23, r24))))))))))
set_option maxHeartbeats 4000000 in
set_option maxRecDepth 100000 in
theorem k_X5_mean {a1 : Int32} {a2 : Int32} {a3 : Int32} {s0 zs : StA} {rr : Int64} (hf : f_X5_mean a1 a2 a3 s0 = some (zs, rr)) : CtL cM yX5_mean cX5_mean 9 rm_X5_mean (fun ph => [.ref (ph 0), .int a1, .int a2, .int a3]) s0 zs rr := by
  refine CtL.of (by decide +kernel) (fun ph => Nat.le_of_ble_eq_true rfl) (fun E O hret => ?_)
  have O : OK cM E RX5 cX5_mean 9 rm_X5_mean := O
  show WS cM E 9 0 [(0, rf E 0), (1, .int a1), (2, .int a2), (3, .int a3)] [] s0
  unfold f_X5_mean at hf
  refine s_iload_n O 1 dX5_mean_0 rfl rfl ?_
  refine s_iconst (v := 0) O dX5_mean_1 rfl ?_
  refine s_bipush (v := 10) O dX5_mean_2 rfl ?_
  obtain ⟨s1, r2, c3, hf⟩ := bn_e hf
  refine s_SI (As := [.int a1, .int 0, .int 10]) (st := []) O lk_RX5_53 (k_X5_isIn c3) rfl rfl ⟨rfl, rfl⟩ ⟨Nat.le_of_ble_eq_true rfl, Nat.le_of_ble_eq_true rfl⟩ rfl (Nat.le_of_ble_eq_true rfl) dX5_mean_4 ?_
  refine s_if_eq (tgt := 26) O dX5_mean_7 (by decide) (fun c => ?_) (fun c => ?_)
  · replace hf := if_t c hf
    refine s_ldc2 O cl_RX5_211 dX5_mean_26 ?_
    exact s_lret hret dX5_mean_29 hf
  · replace hf := if_f c hf
    refine s_iload_n O 2 dX5_mean_10 rfl rfl ?_
    obtain ⟨s4, r5, c6, hf⟩ := bn_e hf
    refine s_SI (As := [.int a2]) (st := []) O lk_RX5_165 (k_X5_isForecast c6) rfl rfl ⟨rfl, rfl⟩ ⟨Nat.le_of_ble_eq_true rfl, Nat.le_of_ble_eq_true rfl⟩ rfl (Nat.le_of_ble_eq_true rfl) dX5_mean_11 ?_
    refine s_if_eq (tgt := 26) O dX5_mean_14 (by decide) (fun c => ?_) (fun c => ?_)
    · replace hf := if_t c hf
      refine s_ldc2 O cl_RX5_211 dX5_mean_26 ?_
      exact s_lret hret dX5_mean_29 hf
    · replace hf := if_f c hf
      refine s_iload_n O 3 dX5_mean_17 rfl rfl ?_
      refine s_iconst (v := 0) O dX5_mean_18 rfl ?_
      refine s_iconst (v := 1) O dX5_mean_19 rfl ?_
      obtain ⟨s7, r8, c9, hf⟩ := bn_e hf
      refine s_SI (As := [.int a3, .int 0, .int 1]) (st := []) O lk_RX5_53 (k_X5_isIn c9) rfl rfl ⟨rfl, rfl⟩ ⟨Nat.le_of_ble_eq_true rfl, Nat.le_of_ble_eq_true rfl⟩ rfl (Nat.le_of_ble_eq_true rfl) dX5_mean_20 ?_
      refine s_if_ne (tgt := 30) O dX5_mean_23 (by decide) (fun c => ?_) (fun c => ?_)
      · replace hf := if_f c hf
        refine s_lconst (v := 0) O dX5_mean_30 rfl ?_
        refine s_lstore (lv' := [(4, .long 0), (0, rf E 0), (1, .int a1), (2, .int a2), (3, .int a3)]) O dX5_mean_31 (by decide) rfl ?_
        refine s_iconst (v := 0) O dX5_mean_33 rfl ?_
        refine s_istore (lv' := [(6, .int 0), (4, .long 0), (0, rf E 0), (1, .int a1), (2, .int a2), (3, .int a3)]) O dX5_mean_34 (by decide) rfl ?_
        refine s_loc [2, 3, 4, 5, 1, 0] rfl ?_
        obtain ⟨s17, u36_4, c19, hf⟩ := bn_e hf
        refine lp_of (body := fun s v => fb_X5_mean_l36 a1 a2 a3 a1 a2 a3 s v.1 v.2) (X := fun s v => WS cM E 9 36 [(0, rf E 0), (1, .int a1), (2, .int a2), (3, .int a3), (4, .long v.1), (6, .int v.2)] [] s) (Y := fun s e => WS cM E 9 98 [(0, rf E 0), (3, .int a3), (4, .long e)] [] s) (fun s v s' w hb Kc Ke => wb_X5_mean_l36 (rr := rr) O   hret Kc Ke hb) FU _ _ (s17, u36_4) c19 ?_
        show WS cM E 9 98 [(0, rf E 0), (3, .int a3), (4, .long u36_4)] [] s17
        refine s_lload O 2 dX5_mean_98 rfl ?_
        refine s_aload_n O 0 dX5_mean_100 rfl rfl ?_
        obtain ⟨s20, r21, c22, hf⟩ := bn_e hf
        refine s_VL (As := []) (st := [.long u36_4]) O lk_RX5_220 (k_X5_allOdds c22) rfl cs_0 rfl rfl ⟨rfl, rfl⟩ ⟨Nat.le_of_ble_eq_true rfl, Nat.le_of_ble_eq_true rfl⟩ rfl (Nat.le_of_ble_eq_true rfl) dX5_mean_101 ?_
        refine s_iload_n O 1 dX5_mean_104 rfl rfl ?_
        obtain ⟨s23, r24, c25, hf⟩ := bn_e hf
        refine s_SL (As := [.long u36_4, .long r21, .int a3]) (st := []) O lk_RX5_224 (k_X5_inLowestTerms c25) rfl rfl ⟨rfl, rfl⟩ ⟨Nat.le_of_ble_eq_true rfl, Nat.le_of_ble_eq_true rfl⟩ rfl (Nat.le_of_ble_eq_true rfl) dX5_mean_105 ?_
        exact s_lret hret dX5_mean_108 hf
      · replace hf := if_t c hf
        refine s_ldc2 O cl_RX5_211 dX5_mean_26 ?_
        exact s_lret hret dX5_mean_29 hf
def rm_X5_see : Room := { frames := 2, cells := 0, slots := 0, locals := 42 }
def f_X5_see (a1 : Int32) (a2 : Int32) (s0 : StA) : Option (StA × Int32) :=
  bn (f_X5_isIn a1 0 30 s0) (fun s1 r2 => (if r2 = 0 then some (s1, (-1)) else bn (f_X5_isHeight a2 s1) (fun s4 r5 => (if r5 = 0 then some (s4, (-1)) else bn (f_X2_add 9 a1 a2 s4) (fun s7 r8 => some (s7, r8))))))
set_option maxHeartbeats 4000000 in
set_option maxRecDepth 100000 in
theorem k_X5_see {a1 : Int32} {a2 : Int32} {s0 zs : StA} {rr : Int32} (hf : f_X5_see a1 a2 s0 = some (zs, rr)) : CtI cM yX5_see cX5_see 3 .int rm_X5_see (fun ph => [.ref (ph 0), .int a1, .int a2]) s0 zs rr := by
  refine CtI.of (by decide +kernel) (fun ph => Nat.le_of_ble_eq_true rfl) (fun E O hret => ?_)
  have O : OK cM E RX5 cX5_see 3 rm_X5_see := O
  show WS cM E 3 0 [(0, rf E 0), (1, .int a1), (2, .int a2)] [] s0
  unfold f_X5_see at hf
  refine s_iload_n O 1 dX5_see_0 rfl rfl ?_
  refine s_iconst (v := 0) O dX5_see_1 rfl ?_
  refine s_bipush (v := 30) O dX5_see_2 rfl ?_
  obtain ⟨s1, r2, c3, hf⟩ := bn_e hf
  refine s_SI (As := [.int a1, .int 0, .int 30]) (st := []) O lk_RX5_53 (k_X5_isIn c3) rfl rfl ⟨rfl, rfl⟩ ⟨Nat.le_of_ble_eq_true rfl, Nat.le_of_ble_eq_true rfl⟩ rfl (Nat.le_of_ble_eq_true rfl) dX5_see_4 ?_
  refine s_if_eq (tgt := 17) O dX5_see_7 (by decide) (fun c => ?_) (fun c => ?_)
  · replace hf := if_t c hf
    refine s_iconst (v := (-1)) O dX5_see_17 rfl ?_
    exact s_iret hret rfl dX5_see_18 hf
  · replace hf := if_f c hf
    refine s_iload_n O 2 dX5_see_10 rfl rfl ?_
    obtain ⟨s4, r5, c6, hf⟩ := bn_e hf
    refine s_SI (As := [.int a2]) (st := []) O lk_RX5_208 (k_X5_isHeight c6) rfl rfl ⟨rfl, rfl⟩ ⟨Nat.le_of_ble_eq_true rfl, Nat.le_of_ble_eq_true rfl⟩ rfl (Nat.le_of_ble_eq_true rfl) dX5_see_11 ?_
    refine s_if_ne (tgt := 19) O dX5_see_14 (by decide) (fun c => ?_) (fun c => ?_)
    · replace hf := if_f c hf
      refine s_aload_n O 0 dX5_see_19 rfl rfl ?_
      refine s_getR O fg_RX5_10 cs_0 rfl dX5_see_20 ?_
      refine s_getR O fg_RX5_230 cs_1 rfl dX5_see_23 ?_
      refine s_iload_n O 1 dX5_see_26 rfl rfl ?_
      refine s_iload_n O 2 dX5_see_27 rfl rfl ?_
      obtain ⟨s7, r8, c9, hf⟩ := bn_e hf
      refine s_VI (As := [.int a1, .int a2]) (st := []) O lk_RX5_233 (k_X2_add pr_is9 c9) rfl cs_9 rfl rfl ⟨rfl, rfl⟩ ⟨Nat.le_of_ble_eq_true rfl, Nat.le_of_ble_eq_true rfl⟩ rfl (Nat.le_of_ble_eq_true rfl) dX5_see_28 ?_
      exact s_iret hret rfl dX5_see_31 hf
    · replace hf := if_t c hf
      refine s_iconst (v := (-1)) O dX5_see_17 rfl ?_
      exact s_iret hret rfl dX5_see_18 hf
def rm_X5_forget : Room := { frames := 2, cells := 0, slots := 0, locals := 44 }
def f_X5_forget (a1 : Int32) (s0 : StA) : Option (StA × Int32) :=
  bn (f_X2_keepFirst 9 a1 s0) (fun s1 r2 => some (s1, r2))
set_option maxHeartbeats 4000000 in
set_option maxRecDepth 100000 in
theorem k_X5_forget {a1 : Int32} {s0 zs : StA} {rr : Int32} (hf : f_X5_forget a1 s0 = some (zs, rr)) : CtI cM yX5_forget cX5_forget 2 .int rm_X5_forget (fun ph => [.ref (ph 0), .int a1]) s0 zs rr := by
  refine CtI.of (by decide +kernel) (fun ph => Nat.le_of_ble_eq_true rfl) (fun E O hret => ?_)
  have O : OK cM E RX5 cX5_forget 2 rm_X5_forget := O
  show WS cM E 2 0 [(0, rf E 0), (1, .int a1)] [] s0
  unfold f_X5_forget at hf
  refine s_aload_n O 0 dX5_forget_0 rfl rfl ?_
  refine s_getR O fg_RX5_10 cs_0 rfl dX5_forget_1 ?_
  refine s_getR O fg_RX5_230 cs_1 rfl dX5_forget_4 ?_
  refine s_iload_n O 1 dX5_forget_7 rfl rfl ?_
  obtain ⟨s1, r2, c3, hf⟩ := bn_e hf
  refine s_VI (As := [.int a1]) (st := []) O lk_RX5_160 (k_X2_keepFirst pr_is9 c3) rfl cs_9 rfl rfl ⟨rfl, rfl⟩ ⟨Nat.le_of_ble_eq_true rfl, Nat.le_of_ble_eq_true rfl⟩ rfl (Nat.le_of_ble_eq_true rfl) dX5_forget_8 ?_
  exact s_iret hret rfl dX5_forget_11 hf
def rm_X1_isAsSeenBehind : Room := { frames := 0, cells := 0, slots := 0, locals := 0 }
def fb_X1_isAsSeenBehind_l2 (k : Nat) (a1 : Int32) (x1 : Int32) (s0 : StA) (v2 : Int32) : Option (StA × ((Int32) ⊕ ((Unit) ⊕ Int32))) :=
  (if (gi s0 (k + 8) 2) ≤ v2 then some (s0, .inr (.inl ())) else gd v2 6 ((if (gi s0 (k + 9) v2.toNatClampNeg) = x1 then gd v2 6 ((if (gi s0 (k + 10) v2.toNatClampNeg) = (gi s0 k 8) then some (s0, .inl (v2 + 1)) else some (s0, .inr (.inr 0)))) else some (s0, .inl (v2 + 1)))))
set_option maxHeartbeats 4000000 in
set_option maxRecDepth 100000 in
theorem wb_X1_isAsSeenBehind_l2 {E : XC} (O : OK cM E RX1 cX1_isAsSeenBehind 3 rm_X1_isAsSeenBehind) {k : Nat} {a1 : Int32} (hk : isFl k)  {x1 : Int32} {s0 : StA} {v2 : Int32} {zs : StA} {rr : Int32} (hret : ReI cM E .boolean cX1_isAsSeenBehind zs rr) {bs : StA} {bw : (Int32) ⊕ ((Unit) ⊕ Int32)} (Kc : ∀ v, bw = .inl v → WS cM E 3 2 [(0, rf E k), (1, .int x1), (2, .int v)] [] bs) (Ke : ∀ e, bw = .inr (.inl e) → WS cM E 3 50 [] [] bs) (Kr : ∀ r, bw = .inr (.inr r) → some (bs, r) = some (zs, rr)) (hf : fb_X1_isAsSeenBehind_l2 k a1 x1 s0 v2 = some (bs, bw)) : WS cM E 3 2 [(0, rf E k), (1, .int x1), (2, .int v2)] [] s0 := by
  unfold fb_X1_isAsSeenBehind_l2 at hf
  refine s_iload_n O 2 dX1_isAsSeenBehind_2 rfl rfl ?_
  refine s_aload_n O 0 dX1_isAsSeenBehind_3 rfl rfl ?_
  refine s_getR O fg_RX1_33 (fl_0 hk) rfl dX1_isAsSeenBehind_4 ?_
  refine s_getI O fg_RX1_61 (fl_8 hk) rfl dX1_isAsSeenBehind_7 ?_
  refine s_icmp_ge (tgt := 50) O dX1_isAsSeenBehind_10 (by decide) (fun c => ?_) (fun c => ?_)
  · replace hf := if_t c hf
    refine s_loc [] rfl ?_
    cases hf
    exact Ke _ rfl
  · replace hf := if_f c hf
    refine s_aload_n O 0 dX1_isAsSeenBehind_13 rfl rfl ?_
    refine s_getR O fg_RX1_33 (fl_0 hk) rfl dX1_isAsSeenBehind_14 ?_
    refine s_getR O fg_RX1_96 (fl_8 hk) rfl dX1_isAsSeenBehind_17 ?_
    refine s_iload_n O 2 dX1_isAsSeenBehind_20 rfl rfl ?_
    obtain ⟨h1, hf⟩ := gd_e hf
    refine s_iald O (fl_9 hk) h1 dX1_isAsSeenBehind_21 ?_
    refine s_iload_n O 1 dX1_isAsSeenBehind_22 rfl rfl ?_
    refine s_icmp_ne (tgt := 44) O dX1_isAsSeenBehind_23 (by decide) (fun c => ?_) (fun c => ?_)
    · replace hf := if_f c hf
      refine s_iinc (v := (v2 + 1)) (lv' := [(2, .int (v2 + 1)), (0, rf E k), (1, .int x1)]) O 2 dX1_isAsSeenBehind_44 rfl rfl (by decide) rfl ?_
      refine s_goto (tgt := 2) O dX1_isAsSeenBehind_47 (by decide) ?_
      refine s_loc [1, 2, 0] rfl ?_
      cases hf
      exact Kc _ rfl
    · replace hf := if_t c hf
      refine s_aload_n O 0 dX1_isAsSeenBehind_26 rfl rfl ?_
      refine s_getR O fg_RX1_33 (fl_0 hk) rfl dX1_isAsSeenBehind_27 ?_
      refine s_getR O fg_RX1_99 (fl_8 hk) rfl dX1_isAsSeenBehind_30 ?_
      refine s_iload_n O 2 dX1_isAsSeenBehind_33 rfl rfl ?_
      obtain ⟨h2, hf⟩ := gd_e hf
      refine s_iald O (fl_10 hk) h2 dX1_isAsSeenBehind_34 ?_
      refine s_aload_n O 0 dX1_isAsSeenBehind_35 rfl rfl ?_
      refine s_getI O fg_RX1_52 (fl_0 hk) rfl dX1_isAsSeenBehind_36 ?_
      refine s_icmp_eq (tgt := 44) O dX1_isAsSeenBehind_39 (by decide) (fun c => ?_) (fun c => ?_)
      · replace hf := if_t c hf
        refine s_iinc (v := (v2 + 1)) (lv' := [(2, .int (v2 + 1)), (0, rf E k), (1, .int x1)]) O 2 dX1_isAsSeenBehind_44 rfl rfl (by decide) rfl ?_
        refine s_goto (tgt := 2) O dX1_isAsSeenBehind_47 (by decide) ?_
        refine s_loc [1, 2, 0] rfl ?_
        cases hf
        exact Kc _ rfl
      · replace hf := if_f c hf
        refine s_iconst (v := 0) O dX1_isAsSeenBehind_42 rfl ?_
        cases hf
        exact s_iret hret rfl dX1_isAsSeenBehind_43 (Kr _ rfl)
def fl_X1_isAsSeenBehind_l2 (k : Nat) (a1 : Int32) (x1 : Int32) (s0 : StA) (v : Int32) : Option (StA × (((Unit) ⊕ Int32))) :=
  it (fun s v => fb_X1_isAsSeenBehind_l2 k a1 x1 s v) FU s0 v
def f_X1_isAsSeenBehind (k : Nat) (a1 : Int32) (s0 : StA) : Option (StA × Int32) :=
  bn (fl_X1_isAsSeenBehind_l2 k a1 a1 s0 0) (fun s3 e4 => match e4 with | .inl _ => some (s3, 1) | .inr q2 => some (s3, q2))
set_option maxHeartbeats 4000000 in
set_option maxRecDepth 100000 in
theorem k_X1_isAsSeenBehind {k : Nat} {a1 : Int32} (hk : isFl k) {s0 zs : StA} {rr : Int32} (hf : f_X1_isAsSeenBehind k a1 s0 = some (zs, rr)) : CtI cM yX1_isAsSeenBehind cX1_isAsSeenBehind 3 .boolean rm_X1_isAsSeenBehind (fun ph => [.ref (ph k), .int a1]) s0 zs rr := by
  refine CtI.of (by decide +kernel) (fun ph => Nat.le_of_ble_eq_true rfl) (fun E O hret => ?_)
  have O : OK cM E RX1 cX1_isAsSeenBehind 3 rm_X1_isAsSeenBehind := O
  show WS cM E 3 0 [(0, rf E k), (1, .int a1)] [] s0
  unfold f_X1_isAsSeenBehind at hf
  refine s_iconst (v := 0) O dX1_isAsSeenBehind_0 rfl ?_
  refine s_istore_n (lv' := [(2, .int 0), (0, rf E k), (1, .int a1)]) O dX1_isAsSeenBehind_1 rfl (by decide) rfl ?_
  refine s_loc [1, 2, 0] rfl ?_
  obtain ⟨s3, e4, c5, hf⟩ := bn_e hf
  refine lp_of (body := fun s v => fb_X1_isAsSeenBehind_l2 k a1 a1 s v) (X := fun s v => WS cM E 3 2 [(0, rf E k), (1, .int a1), (2, .int v)] [] s) (Y := fun s e => match e with | .inl e => WS cM E 3 50 [] [] s | .inr r => some (s, r) = some (zs, rr)) (fun s v s' w hb Kc Ke => wb_X1_isAsSeenBehind_l2 (rr := rr) O hk  hret Kc (fun e he => Ke (.inl e) he) (fun r he => Ke (.inr r) he) hb) FU _ _ (s3, e4) c5 ?_
  rcases e4 with e4 | q2
  · show WS cM E 3 50 [] [] s3
    refine s_iconst (v := 1) O dX1_isAsSeenBehind_50 rfl ?_
    exact s_iret hret rfl dX1_isAsSeenBehind_51 hf
  · exact hf
def rm_X1_goesAsSeen : Room := { frames := 4, cells := 0, slots := 0, locals := 86 }
def fb_X1_goesAsSeen_l2 (k : Nat)  (s0 : StA) (v1 : Int32) : Option (StA × ((Int32) ⊕ ((Unit) ⊕ Int32))) :=
  (if 30 < v1 then some (s0, .inr (.inl ())) else bn (f_X1_isAsSeenBehind k v1 s0) (fun s1 r2 => (if r2 = 0 then some (s1, .inr (.inr 0)) else bn (f_X1_pass k s1) (fun s4 r5 => some (s4, .inl (v1 + 1))))))
set_option maxHeartbeats 4000000 in
set_option maxRecDepth 100000 in
theorem wb_X1_goesAsSeen_l2 {E : XC} (O : OK cM E RX1 cX1_goesAsSeen 2 rm_X1_goesAsSeen) {k : Nat} (hk : isFl k)   {s0 : StA} {v1 : Int32} {zs : StA} {rr : Int32} (hret : ReI cM E .boolean cX1_goesAsSeen zs rr) {bs : StA} {bw : (Int32) ⊕ ((Unit) ⊕ Int32)} (Kc : ∀ v, bw = .inl v → WS cM E 2 2 [(0, rf E k), (1, .int v)] [] bs) (Ke : ∀ e, bw = .inr (.inl e) → WS cM E 2 28 [] [] bs) (Kr : ∀ r, bw = .inr (.inr r) → some (bs, r) = some (zs, rr)) (hf : fb_X1_goesAsSeen_l2 k s0 v1 = some (bs, bw)) : WS cM E 2 2 [(0, rf E k), (1, .int v1)] [] s0 := by
  unfold fb_X1_goesAsSeen_l2 at hf
  refine s_iload_n O 1 dX1_goesAsSeen_2 rfl rfl ?_
  refine s_bipush (v := 30) O dX1_goesAsSeen_3 rfl ?_
  refine s_icmp_gt (tgt := 28) O dX1_goesAsSeen_5 (by decide) (fun c => ?_) (fun c => ?_)
  · replace hf := if_t c hf
    refine s_loc [] rfl ?_
    cases hf
    exact Ke _ rfl
  · replace hf := if_f c hf
    refine s_aload_n O 0 dX1_goesAsSeen_8 rfl rfl ?_
    refine s_iload_n O 1 dX1_goesAsSeen_9 rfl rfl ?_
    obtain ⟨s1, r2, c3, hf⟩ := bn_e hf
    refine s_VI (As := [.int v1]) (st := []) O lk_RX1_120 (k_X1_isAsSeenBehind hk c3) rfl (fl_0 hk) rfl rfl ⟨rfl, rfl⟩ ⟨Nat.le_of_ble_eq_true rfl, Nat.le_of_ble_eq_true rfl⟩ rfl (Nat.le_of_ble_eq_true rfl) dX1_goesAsSeen_10 ?_
    refine s_if_ne (tgt := 18) O dX1_goesAsSeen_13 (by decide) (fun c => ?_) (fun c => ?_)
    · replace hf := if_f c hf
      refine s_aload_n O 0 dX1_goesAsSeen_18 rfl rfl ?_
      obtain ⟨s4, r5, c6, hf⟩ := bn_e hf
      refine s_VV (As := []) (st := []) O lk_RX1_113 (k_X1_pass hk c6) rfl (fl_0 hk) rfl rfl ⟨rfl, rfl⟩ ⟨Nat.le_of_ble_eq_true rfl, Nat.le_of_ble_eq_true rfl⟩ rfl (Nat.le_of_ble_eq_true rfl) dX1_goesAsSeen_19 ?_
      refine s_iinc (v := (v1 + 1)) (lv' := [(1, .int (v1 + 1)), (0, rf E k)]) O 1 dX1_goesAsSeen_22 rfl rfl (by decide) rfl ?_
      refine s_goto (tgt := 2) O dX1_goesAsSeen_25 (by decide) ?_
      refine s_loc [1, 0] rfl ?_
      cases hf
      exact Kc _ rfl
    · replace hf := if_t c hf
      refine s_iconst (v := 0) O dX1_goesAsSeen_16 rfl ?_
      cases hf
      exact s_iret hret rfl dX1_goesAsSeen_17 (Kr _ rfl)
def fl_X1_goesAsSeen_l2 (k : Nat)  (s0 : StA) (v : Int32) : Option (StA × (((Unit) ⊕ Int32))) :=
  it (fun s v => fb_X1_goesAsSeen_l2 k s v) FU s0 v
def f_X1_goesAsSeen (k : Nat) (s0 : StA) : Option (StA × Int32) :=
  bn (fl_X1_goesAsSeen_l2 k s0 0) (fun s7 e8 => match e8 with | .inl _ => some (s7, 1) | .inr q2 => some (s7, q2))
set_option maxHeartbeats 4000000 in
set_option maxRecDepth 100000 in
theorem k_X1_goesAsSeen {k : Nat} (hk : isFl k) {s0 zs : StA} {rr : Int32} (hf : f_X1_goesAsSeen k s0 = some (zs, rr)) : CtI cM yX1_goesAsSeen cX1_goesAsSeen 2 .boolean rm_X1_goesAsSeen (fun ph => [.ref (ph k)]) s0 zs rr := by
  refine CtI.of (by decide +kernel) (fun ph => Nat.le_of_ble_eq_true rfl) (fun E O hret => ?_)
  have O : OK cM E RX1 cX1_goesAsSeen 2 rm_X1_goesAsSeen := O
  show WS cM E 2 0 [(0, rf E k)] [] s0
  unfold f_X1_goesAsSeen at hf
  refine s_iconst (v := 0) O dX1_goesAsSeen_0 rfl ?_
  refine s_istore_n (lv' := [(1, .int 0), (0, rf E k)]) O dX1_goesAsSeen_1 rfl (by decide) rfl ?_
  refine s_loc [1, 0] rfl ?_
  obtain ⟨s7, e8, c9, hf⟩ := bn_e hf
  refine lp_of (body := fun s v => fb_X1_goesAsSeen_l2 k s v) (X := fun s v => WS cM E 2 2 [(0, rf E k), (1, .int v)] [] s) (Y := fun s e => match e with | .inl e => WS cM E 2 28 [] [] s | .inr r => some (s, r) = some (zs, rr)) (fun s v s' w hb Kc Ke => wb_X1_goesAsSeen_l2 (rr := rr) O hk  hret Kc (fun e he => Ke (.inl e) he) (fun r he => Ke (.inr r) he) hb) FU _ _ (s7, e8) c9 ?_
  rcases e8 with e8 | q2
  · show WS cM E 2 28 [] [] s7
    refine s_iconst (v := 1) O dX1_goesAsSeen_28 rfl ?_
    exact s_iret hret rfl dX1_goesAsSeen_29 hf
  · exact hf
def rm_X5_valuesAsSeen : Room := { frames := 5, cells := 0, slots := 0, locals := 107 }
def fb_X5_valuesAsSeen_l8 (a1 : Int32) (a2 : Int32) (x1 : Int32) (x2 : Int32) (s0 : StA) (v3 : Int32) (v4 : Int32) : Option (StA × ((Int32 × Int32) ⊕ (Int32))) :=
  bn (f_X5_greatestOf x2 s0) (fun s4 r5 => (if r5 < v4 then some (s4, .inr v3) else bn (f_X5_restartTrial  s4) (fun s7 r8 => bn (f_X1_rowOf 12 x2 s7) (fun s10 r11 => gr r11 6 (gd x1 6 (nms (si s10 r11 x1.toNatClampNeg v4) (fun s15 => bn (f_X1_goesAsSeen 12 s15) (fun s16 r17 => (if r17 = 0 then some (s16, .inl (v3, (v4 + 1))) else nmi (v3 ||| (1 <<< (v4 &&& 31))) (fun n19 => some (s16, .inl (n19, (v4 + 1)))))))))))))
set_option maxHeartbeats 4000000 in
set_option maxRecDepth 100000 in
theorem wb_X5_valuesAsSeen_l8 {E : XC} (O : OK cM E RX5 cX5_valuesAsSeen 5 rm_X5_valuesAsSeen) {a1 : Int32} {a2 : Int32}  {x1 : Int32} {x2 : Int32} {s0 : StA} {v3 : Int32} {v4 : Int32} {zs : StA} {rr : Int32} (hret : ReI cM E .int cX5_valuesAsSeen zs rr) {bs : StA} {bw : (Int32 × Int32) ⊕ (Int32)} (Kc : ∀ v, bw = .inl v → WS cM E 5 8 [(0, rf E 0), (1, .int x1), (2, .int x2), (3, .int v.1), (4, .int v.2)] [] bs) (Ke : ∀ e, bw = .inr e → WS cM E 5 56 [(3, .int e)] [] bs) (hf : fb_X5_valuesAsSeen_l8 a1 a2 x1 x2 s0 v3 v4 = some (bs, bw)) : WS cM E 5 8 [(0, rf E 0), (1, .int x1), (2, .int x2), (3, .int v3), (4, .int v4)] [] s0 := by
  unfold fb_X5_valuesAsSeen_l8 at hf
  refine s_iload O 4 dX5_valuesAsSeen_8 rfl ?_
  refine s_iload_n O 2 dX5_valuesAsSeen_10 rfl rfl ?_
  obtain ⟨s4, r5, c6, hf⟩ := bn_e hf
  refine s_SI (As := [.int x2]) (st := [.int v4]) O lk_RX5_145 (k_X5_greatestOf c6) rfl rfl ⟨rfl, rfl⟩ ⟨Nat.le_of_ble_eq_true rfl, Nat.le_of_ble_eq_true rfl⟩ rfl (Nat.le_of_ble_eq_true rfl) dX5_valuesAsSeen_11 ?_
  refine s_icmp_gt (tgt := 56) O dX5_valuesAsSeen_14 (by decide) (fun c => ?_) (fun c => ?_)
  · replace hf := if_t c hf
    refine s_loc [3] rfl ?_
    cases hf
    exact Ke _ rfl
  · replace hf := if_f c hf
    refine s_aload_n O 0 dX5_valuesAsSeen_17 rfl rfl ?_
    obtain ⟨s7, r8, c9, hf⟩ := bn_e hf
    refine s_VV (As := []) (st := []) O lk_RX5_168 (k_X5_restartTrial c9) rfl cs_0 rfl rfl ⟨rfl, rfl⟩ ⟨Nat.le_of_ble_eq_true rfl, Nat.le_of_ble_eq_true rfl⟩ rfl (Nat.le_of_ble_eq_true rfl) dX5_valuesAsSeen_18 ?_
    refine s_aload_n O 0 dX5_valuesAsSeen_21 rfl rfl ?_
    refine s_getR O fg_RX5_16 cs_0 rfl dX5_valuesAsSeen_22 ?_
    refine s_iload_n O 2 dX5_valuesAsSeen_25 rfl rfl ?_
    obtain ⟨s10, r11, c12, hf⟩ := bn_e hf
    refine s_VR (As := [.int x2]) (st := []) O lk_RX5_148 (k_X1_rowOf fl_is12 c12) rfl cs_12 rfl rfl ⟨rfl, rfl⟩ ⟨Nat.le_of_ble_eq_true rfl, Nat.le_of_ble_eq_true rfl⟩ rfl (Nat.le_of_ble_eq_true rfl) dX5_valuesAsSeen_26 ?_
    obtain ⟨h13, hf⟩ := gr_e hf
    refine s_iload_n O 1 dX5_valuesAsSeen_29 rfl rfl ?_
    refine s_iload O 4 dX5_valuesAsSeen_30 rfl ?_
    obtain ⟨h14, hf⟩ := gd_e hf
    refine s_iast O h13 h14 dX5_valuesAsSeen_32 ?_
    refine s_tops (fun s15 es15 => ?_)
    replace hf := nms_e es15 hf
    refine s_aload_n O 0 dX5_valuesAsSeen_33 rfl rfl ?_
    refine s_getR O fg_RX5_16 cs_0 rfl dX5_valuesAsSeen_34 ?_
    obtain ⟨s16, r17, c18, hf⟩ := bn_e hf
    refine s_VI (As := []) (st := []) O lk_RX5_239 (k_X1_goesAsSeen fl_is12 c18) rfl cs_12 rfl rfl ⟨rfl, rfl⟩ ⟨Nat.le_of_ble_eq_true rfl, Nat.le_of_ble_eq_true rfl⟩ rfl (Nat.le_of_ble_eq_true rfl) dX5_valuesAsSeen_37 ?_
    refine s_if_eq (tgt := 50) O dX5_valuesAsSeen_40 (by decide) (fun c => ?_) (fun c => ?_)
    · replace hf := if_t c hf
      refine s_iinc (v := (v4 + 1)) (lv' := [(4, .int (v4 + 1)), (0, rf E 0), (1, .int x1), (2, .int x2), (3, .int v3)]) O 4 dX5_valuesAsSeen_50 rfl rfl (by decide) rfl ?_
      refine s_goto (tgt := 8) O dX5_valuesAsSeen_53 (by decide) ?_
      refine s_loc [1, 2, 3, 4, 0] rfl ?_
      cases hf
      exact Kc _ rfl
    · replace hf := if_f c hf
      refine s_iload_n O 3 dX5_valuesAsSeen_43 rfl rfl ?_
      refine s_iconst (v := 1) O dX5_valuesAsSeen_44 rfl ?_
      refine s_iload O 4 dX5_valuesAsSeen_45 rfl ?_
      refine s_ishl O dX5_valuesAsSeen_47 ?_
      refine s_ior O dX5_valuesAsSeen_48 ?_
      refine s_topi (fun n19 en19 => ?_)
      replace hf := nmi_e en19 hf
      refine s_istore_n (lv' := [(3, .int n19), (0, rf E 0), (1, .int x1), (2, .int x2), (4, .int v4)]) O dX5_valuesAsSeen_49 rfl (by decide) rfl ?_
      refine s_iinc (v := (v4 + 1)) (lv' := [(4, .int (v4 + 1)), (3, .int n19), (0, rf E 0), (1, .int x1), (2, .int x2)]) O 4 dX5_valuesAsSeen_50 rfl rfl (by decide) rfl ?_
      refine s_goto (tgt := 8) O dX5_valuesAsSeen_53 (by decide) ?_
      refine s_loc [2, 3, 4, 1, 0] rfl ?_
      cases hf
      exact Kc _ rfl
def fl_X5_valuesAsSeen_l8 (a1 : Int32) (a2 : Int32) (x1 : Int32) (x2 : Int32) (s0 : StA) (v : Int32 × Int32) : Option (StA × ((Int32))) :=
  it (fun s v => fb_X5_valuesAsSeen_l8 a1 a2 x1 x2 s v.1 v.2) FU s0 v
def f_X5_valuesAsSeen (a1 : Int32) (a2 : Int32) (s0 : StA) : Option (StA × Int32) :=
  bn (f_X5_leastOf a2 s0) (fun s1 r2 => bn (fl_X5_valuesAsSeen_l8 a1 a2 a1 a2 s1 (0, r2)) (fun s20 u8_3 => some (s20, u8_3)))
set_option maxHeartbeats 4000000 in
set_option maxRecDepth 100000 in
theorem k_X5_valuesAsSeen {a1 : Int32} {a2 : Int32} {s0 zs : StA} {rr : Int32} (hf : f_X5_valuesAsSeen a1 a2 s0 = some (zs, rr)) : CtI cM yX5_valuesAsSeen cX5_valuesAsSeen 5 .int rm_X5_valuesAsSeen (fun ph => [.ref (ph 0), .int a1, .int a2]) s0 zs rr := by
  refine CtI.of (by decide +kernel) (fun ph => Nat.le_of_ble_eq_true rfl) (fun E O hret => ?_)
  have O : OK cM E RX5 cX5_valuesAsSeen 5 rm_X5_valuesAsSeen := O
  show WS cM E 5 0 [(0, rf E 0), (1, .int a1), (2, .int a2)] [] s0
  unfold f_X5_valuesAsSeen at hf
  refine s_iconst (v := 0) O dX5_valuesAsSeen_0 rfl ?_
  refine s_istore_n (lv' := [(3, .int 0), (0, rf E 0), (1, .int a1), (2, .int a2)]) O dX5_valuesAsSeen_1 rfl (by decide) rfl ?_
  refine s_iload_n O 3 dX5_valuesAsSeen_2 rfl rfl ?_
  obtain ⟨s1, r2, c3, hf⟩ := bn_e hf
  refine s_SI (As := [.int a2]) (st := []) O lk_RX5_142 (k_X5_leastOf c3) rfl rfl ⟨rfl, rfl⟩ ⟨Nat.le_of_ble_eq_true rfl, Nat.le_of_ble_eq_true rfl⟩ rfl (Nat.le_of_ble_eq_true rfl) dX5_valuesAsSeen_3 ?_
  refine s_istore (lv' := [(4, .int r2), (3, .int 0), (0, rf E 0), (1, .int a1), (2, .int a2)]) O dX5_valuesAsSeen_6 (by decide) rfl ?_
  refine s_loc [2, 3, 4, 1, 0] rfl ?_
  obtain ⟨s20, u8_3, c22, hf⟩ := bn_e hf
  refine lp_of (body := fun s v => fb_X5_valuesAsSeen_l8 a1 a2 a1 a2 s v.1 v.2) (X := fun s v => WS cM E 5 8 [(0, rf E 0), (1, .int a1), (2, .int a2), (3, .int v.1), (4, .int v.2)] [] s) (Y := fun s e => WS cM E 5 56 [(3, .int e)] [] s) (fun s v s' w hb Kc Ke => wb_X5_valuesAsSeen_l8 (rr := rr) O   hret Kc Ke hb) FU _ _ (s20, u8_3) c22 ?_
  show WS cM E 5 56 [(3, .int u8_3)] [] s20
  refine s_iload_n O 0 dX5_valuesAsSeen_56 rfl rfl ?_
  exact s_iret hret rfl dX5_valuesAsSeen_57 hf
def rm_X5_kinds : Room := { frames := 6, cells := 0, slots := 0, locals := 131 }
def f_X5_kinds (a1 : Int32) (s0 : StA) : Option (StA × Int32) :=
  bn (f_X1_hasThing 1 a1 s0) (fun s1 r2 => (if r2 = 0 then some (s1, (-1)) else bn (f_X5_valuesAsSeen a1 0 s1) (fun s4 r5 => some (s4, r5))))
set_option maxHeartbeats 4000000 in
set_option maxRecDepth 100000 in
theorem k_X5_kinds {a1 : Int32} {s0 zs : StA} {rr : Int32} (hf : f_X5_kinds a1 s0 = some (zs, rr)) : CtI cM yX5_kinds cX5_kinds 2 .int rm_X5_kinds (fun ph => [.ref (ph 0), .int a1]) s0 zs rr := by
  refine CtI.of (by decide +kernel) (fun ph => Nat.le_of_ble_eq_true rfl) (fun E O hret => ?_)
  have O : OK cM E RX5 cX5_kinds 2 rm_X5_kinds := O
  show WS cM E 2 0 [(0, rf E 0), (1, .int a1)] [] s0
  unfold f_X5_kinds at hf
  refine s_aload_n O 0 dX5_kinds_0 rfl rfl ?_
  refine s_getR O fg_RX5_10 cs_0 rfl dX5_kinds_1 ?_
  refine s_iload_n O 1 dX5_kinds_4 rfl rfl ?_
  obtain ⟨s1, r2, c3, hf⟩ := bn_e hf
  refine s_VI (As := [.int a1]) (st := []) O lk_RX5_110 (k_X1_hasThing fl_is1 c3) rfl cs_1 rfl rfl ⟨rfl, rfl⟩ ⟨Nat.le_of_ble_eq_true rfl, Nat.le_of_ble_eq_true rfl⟩ rfl (Nat.le_of_ble_eq_true rfl) dX5_kinds_5 ?_
  refine s_if_eq (tgt := 20) O dX5_kinds_8 (by decide) (fun c => ?_) (fun c => ?_)
  · replace hf := if_t c hf
    refine s_iconst (v := (-1)) O dX5_kinds_20 rfl ?_
    exact s_iret hret rfl dX5_kinds_21 hf
  · replace hf := if_f c hf
    refine s_aload_n O 0 dX5_kinds_11 rfl rfl ?_
    refine s_iload_n O 1 dX5_kinds_12 rfl rfl ?_
    refine s_iconst (v := 0) O dX5_kinds_13 rfl ?_
    obtain ⟨s4, r5, c6, hf⟩ := bn_e hf
    refine s_VI (As := [.int a1, .int 0]) (st := []) O lk_RX5_236 (k_X5_valuesAsSeen c6) rfl cs_0 rfl rfl ⟨rfl, rfl⟩ ⟨Nat.le_of_ble_eq_true rfl, Nat.le_of_ble_eq_true rfl⟩ rfl (Nat.le_of_ble_eq_true rfl) dX5_kinds_14 ?_
    refine s_goto (tgt := 21) O dX5_kinds_17 (by decide) ?_
    exact s_iret hret rfl dX5_kinds_21 hf
def rm_X5_weights : Room := { frames := 6, cells := 0, slots := 0, locals := 131 }
def f_X5_weights (a1 : Int32) (s0 : StA) : Option (StA × Int32) :=
  bn (f_X1_hasThing 1 a1 s0) (fun s1 r2 => (if r2 = 0 then some (s1, (-1)) else bn (f_X5_valuesAsSeen a1 1 s1) (fun s4 r5 => some (s4, r5))))
set_option maxHeartbeats 4000000 in
set_option maxRecDepth 100000 in
theorem k_X5_weights {a1 : Int32} {s0 zs : StA} {rr : Int32} (hf : f_X5_weights a1 s0 = some (zs, rr)) : CtI cM yX5_weights cX5_weights 2 .int rm_X5_weights (fun ph => [.ref (ph 0), .int a1]) s0 zs rr := by
  refine CtI.of (by decide +kernel) (fun ph => Nat.le_of_ble_eq_true rfl) (fun E O hret => ?_)
  have O : OK cM E RX5 cX5_weights 2 rm_X5_weights := O
  show WS cM E 2 0 [(0, rf E 0), (1, .int a1)] [] s0
  unfold f_X5_weights at hf
  refine s_aload_n O 0 dX5_weights_0 rfl rfl ?_
  refine s_getR O fg_RX5_10 cs_0 rfl dX5_weights_1 ?_
  refine s_iload_n O 1 dX5_weights_4 rfl rfl ?_
  obtain ⟨s1, r2, c3, hf⟩ := bn_e hf
  refine s_VI (As := [.int a1]) (st := []) O lk_RX5_110 (k_X1_hasThing fl_is1 c3) rfl cs_1 rfl rfl ⟨rfl, rfl⟩ ⟨Nat.le_of_ble_eq_true rfl, Nat.le_of_ble_eq_true rfl⟩ rfl (Nat.le_of_ble_eq_true rfl) dX5_weights_5 ?_
  refine s_if_eq (tgt := 20) O dX5_weights_8 (by decide) (fun c => ?_) (fun c => ?_)
  · replace hf := if_t c hf
    refine s_iconst (v := (-1)) O dX5_weights_20 rfl ?_
    exact s_iret hret rfl dX5_weights_21 hf
  · replace hf := if_f c hf
    refine s_aload_n O 0 dX5_weights_11 rfl rfl ?_
    refine s_iload_n O 1 dX5_weights_12 rfl rfl ?_
    refine s_iconst (v := 1) O dX5_weights_13 rfl ?_
    obtain ⟨s4, r5, c6, hf⟩ := bn_e hf
    refine s_VI (As := [.int a1, .int 1]) (st := []) O lk_RX5_236 (k_X5_valuesAsSeen c6) rfl cs_0 rfl rfl ⟨rfl, rfl⟩ ⟨Nat.le_of_ble_eq_true rfl, Nat.le_of_ble_eq_true rfl⟩ rfl (Nat.le_of_ble_eq_true rfl) dX5_weights_14 ?_
    refine s_goto (tgt := 21) O dX5_weights_17 (by decide) ?_
    exact s_iret hret rfl dX5_weights_21 hf
def rm_X5_saids : Room := { frames := 5, cells := 0, slots := 0, locals := 107 }
def fb_X5_saids_l19 (a1 : Int32) (x1 : Int32) (s0 : StA) (v2 : Int32) (v3 : Int32) (v4 : Int32) : Option (StA × ((Int32 × Int32 × Int32) ⊕ (Int32 × Int32))) :=
  (if (1 <<< ((gi s0 1 6) &&& 31)) ≤ v4 then some (s0, .inr (v2, v3)) else bn (f_X5_restartTrial  s0) (fun s4 r5 => nms (si s4 12 7 v4) (fun s7 => bn (f_X1_goesAsSeen 12 s7) (fun s8 r9 => (if r9 = 0 then some (s8, .inl (v2, v3, (v4 + 1))) else (if v2 = 0 then some (s8, .inl ((v2 + 1), v4, (v4 + 1))) else some (s8, .inl ((v2 + 1), v3, (v4 + 1)))))))))
set_option maxHeartbeats 4000000 in
set_option maxRecDepth 100000 in
theorem wb_X5_saids_l19 {E : XC} (O : OK cM E RX5 cX5_saids 5 rm_X5_saids) {a1 : Int32}  {x1 : Int32} {s0 : StA} {v2 : Int32} {v3 : Int32} {v4 : Int32} {zs : StA} {rr : Int32} (hret : ReI cM E .int cX5_saids zs rr) {bs : StA} {bw : (Int32 × Int32 × Int32) ⊕ (Int32 × Int32)} (Kc : ∀ v, bw = .inl v → WS cM E 5 19 [(0, rf E 0), (1, .int x1), (2, .int v.1), (3, .int v.2.1), (4, .int v.2.2)] [] bs) (Ke : ∀ e, bw = .inr e → WS cM E 5 76 [(1, .int x1), (2, .int e.1), (3, .int e.2)] [] bs) (hf : fb_X5_saids_l19 a1 x1 s0 v2 v3 v4 = some (bs, bw)) : WS cM E 5 19 [(0, rf E 0), (1, .int x1), (2, .int v2), (3, .int v3), (4, .int v4)] [] s0 := by
  unfold fb_X5_saids_l19 at hf
  refine s_iload O 4 dX5_saids_19 rfl ?_
  refine s_iconst (v := 1) O dX5_saids_21 rfl ?_
  refine s_aload_n O 0 dX5_saids_22 rfl rfl ?_
  refine s_getR O fg_RX5_10 cs_0 rfl dX5_saids_23 ?_
  refine s_getI O fg_RX5_79 cs_1 rfl dX5_saids_26 ?_
  refine s_ishl O dX5_saids_29 ?_
  refine s_icmp_ge (tgt := 76) O dX5_saids_30 (by decide) (fun c => ?_) (fun c => ?_)
  · replace hf := if_t c hf
    refine s_loc [1, 2, 3] rfl ?_
    cases hf
    exact Ke _ rfl
  · replace hf := if_f c hf
    refine s_aload_n O 0 dX5_saids_33 rfl rfl ?_
    obtain ⟨s4, r5, c6, hf⟩ := bn_e hf
    refine s_VV (As := []) (st := []) O lk_RX5_168 (k_X5_restartTrial c6) rfl cs_0 rfl rfl ⟨rfl, rfl⟩ ⟨Nat.le_of_ble_eq_true rfl, Nat.le_of_ble_eq_true rfl⟩ rfl (Nat.le_of_ble_eq_true rfl) dX5_saids_34 ?_
    refine s_aload_n O 0 dX5_saids_37 rfl rfl ?_
    refine s_getR O fg_RX5_16 cs_0 rfl dX5_saids_38 ?_
    refine s_iload O 4 dX5_saids_41 rfl ?_
    refine s_putI O fp_RX5_95 cs_12 rfl dX5_saids_43 ?_
    refine s_tops (fun s7 es7 => ?_)
    replace hf := nms_e es7 hf
    refine s_aload_n O 0 dX5_saids_46 rfl rfl ?_
    refine s_getR O fg_RX5_16 cs_0 rfl dX5_saids_47 ?_
    obtain ⟨s8, r9, c10, hf⟩ := bn_e hf
    refine s_VI (As := []) (st := []) O lk_RX5_239 (k_X1_goesAsSeen fl_is12 c10) rfl cs_12 rfl rfl ⟨rfl, rfl⟩ ⟨Nat.le_of_ble_eq_true rfl, Nat.le_of_ble_eq_true rfl⟩ rfl (Nat.le_of_ble_eq_true rfl) dX5_saids_50 ?_
    refine s_if_eq (tgt := 70) O dX5_saids_53 (by decide) (fun c => ?_) (fun c => ?_)
    · replace hf := if_t c hf
      refine s_iinc (v := (v4 + 1)) (lv' := [(4, .int (v4 + 1)), (0, rf E 0), (1, .int x1), (2, .int v2), (3, .int v3)]) O 4 dX5_saids_70 rfl rfl (by decide) rfl ?_
      refine s_goto (tgt := 19) O dX5_saids_73 (by decide) ?_
      refine s_loc [1, 2, 3, 4, 0] rfl ?_
      cases hf
      exact Kc _ rfl
    · replace hf := if_f c hf
      refine s_iload_n O 2 dX5_saids_56 rfl rfl ?_
      refine s_if_ne (tgt := 65) O dX5_saids_57 (by decide) (fun c => ?_) (fun c => ?_)
      · replace hf := if_f c hf
        refine s_iload_n O 3 dX5_saids_65 rfl rfl ?_
        refine s_istore_n (lv' := [(3, .int v3), (0, rf E 0), (1, .int x1), (2, .int v2), (4, .int v4)]) O dX5_saids_66 rfl (by decide) rfl ?_
        refine s_iinc (v := (v2 + 1)) (lv' := [(2, .int (v2 + 1)), (3, .int v3), (0, rf E 0), (1, .int x1), (4, .int v4)]) O 3 dX5_saids_67 rfl rfl (by decide) rfl ?_
        refine s_iinc (v := (v4 + 1)) (lv' := [(4, .int (v4 + 1)), (2, .int (v2 + 1)), (3, .int v3), (0, rf E 0), (1, .int x1)]) O 4 dX5_saids_70 rfl rfl (by decide) rfl ?_
        refine s_goto (tgt := 19) O dX5_saids_73 (by decide) ?_
        refine s_loc [3, 4, 1, 2, 0] rfl ?_
        cases hf
        exact Kc _ rfl
      · replace hf := if_t c hf
        refine s_iload O 4 dX5_saids_60 rfl ?_
        refine s_goto (tgt := 66) O dX5_saids_62 (by decide) ?_
        refine s_istore_n (lv' := [(3, .int v4), (0, rf E 0), (1, .int x1), (2, .int v2), (4, .int v4)]) O dX5_saids_66 rfl (by decide) rfl ?_
        refine s_iinc (v := (v2 + 1)) (lv' := [(2, .int (v2 + 1)), (3, .int v4), (0, rf E 0), (1, .int x1), (4, .int v4)]) O 3 dX5_saids_67 rfl rfl (by decide) rfl ?_
        refine s_iinc (v := (v4 + 1)) (lv' := [(4, .int (v4 + 1)), (2, .int (v2 + 1)), (3, .int v4), (0, rf E 0), (1, .int x1)]) O 4 dX5_saids_70 rfl rfl (by decide) rfl ?_
        refine s_goto (tgt := 19) O dX5_saids_73 (by decide) ?_
        refine s_loc [3, 4, 1, 2, 0] rfl ?_
        cases hf
        exact Kc _ rfl
def fl_X5_saids_l19 (a1 : Int32) (x1 : Int32) (s0 : StA) (v : Int32 × Int32 × Int32) : Option (StA × ((Int32 × Int32))) :=
  it (fun s v => fb_X5_saids_l19 a1 x1 s v.1 v.2.1 v.2.2) FU s0 v
def f_X5_saids (a1 : Int32) (s0 : StA) : Option (StA × Int32) :=
  bn (f_X5_isIn a1 0 1 s0) (fun s1 r2 => (if r2 = 0 then some (s1, (-1)) else bn (fl_X5_saids_l19 a1 a1 s1 (0, (-4), 0)) (fun s11 e12 => match e12 with | (u19_2, u19_3) => (if a1 = 0 then some (s11, u19_2) else some (s11, u19_3)))))
set_option maxHeartbeats 4000000 in
set_option maxRecDepth 100000 in
theorem k_X5_saids {a1 : Int32} {s0 zs : StA} {rr : Int32} (hf : f_X5_saids a1 s0 = some (zs, rr)) : CtI cM yX5_saids cX5_saids 5 .int rm_X5_saids (fun ph => [.ref (ph 0), .int a1]) s0 zs rr := by
  refine CtI.of (by decide +kernel) (fun ph => Nat.le_of_ble_eq_true rfl) (fun E O hret => ?_)
  have O : OK cM E RX5 cX5_saids 5 rm_X5_saids := O
  show WS cM E 5 0 [(0, rf E 0), (1, .int a1)] [] s0
  unfold f_X5_saids at hf
  refine s_iload_n O 1 dX5_saids_0 rfl rfl ?_
  refine s_iconst (v := 0) O dX5_saids_1 rfl ?_
  refine s_iconst (v := 1) O dX5_saids_2 rfl ?_
  obtain ⟨s1, r2, c3, hf⟩ := bn_e hf
  refine s_SI (As := [.int a1, .int 0, .int 1]) (st := []) O lk_RX5_53 (k_X5_isIn c3) rfl rfl ⟨rfl, rfl⟩ ⟨Nat.le_of_ble_eq_true rfl, Nat.le_of_ble_eq_true rfl⟩ rfl (Nat.le_of_ble_eq_true rfl) dX5_saids_3 ?_
  refine s_if_ne (tgt := 11) O dX5_saids_6 (by decide) (fun c => ?_) (fun c => ?_)
  · replace hf := if_f c hf
    refine s_iconst (v := 0) O dX5_saids_11 rfl ?_
    refine s_istore_n (lv' := [(2, .int 0), (0, rf E 0), (1, .int a1)]) O dX5_saids_12 rfl (by decide) rfl ?_
    refine s_bipush (v := (-4)) O dX5_saids_13 rfl ?_
    refine s_istore_n (lv' := [(3, .int (-4)), (2, .int 0), (0, rf E 0), (1, .int a1)]) O dX5_saids_15 rfl (by decide) rfl ?_
    refine s_iconst (v := 0) O dX5_saids_16 rfl ?_
    refine s_istore (lv' := [(4, .int 0), (3, .int (-4)), (2, .int 0), (0, rf E 0), (1, .int a1)]) O dX5_saids_17 (by decide) rfl ?_
    refine s_loc [3, 4, 2, 1, 0] rfl ?_
    obtain ⟨s11, e12, c13, hf⟩ := bn_e hf
    obtain ⟨u19_2, u19_3⟩ := e12
    refine lp_of (body := fun s v => fb_X5_saids_l19 a1 a1 s v.1 v.2.1 v.2.2) (X := fun s v => WS cM E 5 19 [(0, rf E 0), (1, .int a1), (2, .int v.1), (3, .int v.2.1), (4, .int v.2.2)] [] s) (Y := fun s e => WS cM E 5 76 [(1, .int a1), (2, .int e.1), (3, .int e.2)] [] s) (fun s v s' w hb Kc Ke => wb_X5_saids_l19 (rr := rr) O   hret Kc Ke hb) FU _ _ (s11, (u19_2, u19_3)) c13 ?_
    show WS cM E 5 76 [(1, .int a1), (2, .int u19_2), (3, .int u19_3)] [] s11
    refine s_iload_n O 0 dX5_saids_76 rfl rfl ?_
    refine s_if_ne (tgt := 84) O dX5_saids_77 (by decide) (fun c => ?_) (fun c => ?_)
    · replace hf := if_f c hf
      refine s_iload_n O 2 dX5_saids_84 rfl rfl ?_
      exact s_iret hret rfl dX5_saids_85 hf
    · replace hf := if_t c hf
      refine s_iload_n O 1 dX5_saids_80 rfl rfl ?_
      refine s_goto (tgt := 85) O dX5_saids_81 (by decide) ?_
      exact s_iret hret rfl dX5_saids_85 hf
  · replace hf := if_t c hf
    refine s_iconst (v := (-1)) O dX5_saids_9 rfl ?_
    exact s_iret hret rfl dX5_saids_10 hf
