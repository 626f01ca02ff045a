def rm_X6_drift : Room := { frames := 4, cells := 0, slots := 0, locals := 89 }
def fb_X6_drift_l41 (a1 : Int32) (a2 : Int32) (a3 : Int32) (x2 : Int32) (x3 : Int32) (s0 : StA) (v4 : Int32) (v5 : Int32) : Option (StA × ((Int32 × Int32) ⊕ (Unit))) :=
  (if x2 ≤ v5 then some (s0, .inr ()) else nmi ((v4 * 1103515245) + 12345) (fun n10 => nmi ((n10 >>> (16 &&& 31)) &&& 32767) (fun n11 => g0 (gi s0 0 3) (bn (f_X6_becomesOf (n11 - n11 / (gi s0 0 3) * (gi s0 0 3)) 3 ((n11 / 8) - (n11 / 8) / 2 * 2) s0) (fun s13 r14 => bn (f_X6_minuteGoes  s13) (fun s16 r17 => some (s16, .inl (n10, (v5 + 1)))))))))
set_option maxHeartbeats 4000000 in
set_option maxRecDepth 100000 in
theorem wb_X6_drift_l41 {E : XC} (O : OK mM E RX6 cX6_drift 7 rm_X6_drift) {a1 : Int32} {a2 : Int32} {a3 : Int32}  {x2 : Int32} {x3 : Int32} {s0 : StA} {v4 : Int32} {v5 : Int32} {zs : StA} {rr : Int32} (hret : ReI mM E .int cX6_drift zs rr) {bs : StA} {bw : (Int32 × Int32) ⊕ (Unit)} (Kc : ∀ v, bw = .inl v → WS mM E 7 41 [(0, rf E 0), (2, .int x2), (3, .int x3), (4, .int v.1), (5, .int v.2)] [] bs) (Ke : ∀ e, bw = .inr e → WS mM E 7 99 [(0, rf E 0), (3, .int x3)] [] bs) (hf : fb_X6_drift_l41 a1 a2 a3 x2 x3 s0 v4 v5 = some (bs, bw)) : WS mM E 7 41 [(0, rf E 0), (2, .int x2), (3, .int x3), (4, .int v4), (5, .int v5)] [] s0 := by
  unfold fb_X6_drift_l41 at hf
  refine s_iload O 4 dX6_drift_41 rfl ?_
  refine s_iload_n O 1 dX6_drift_43 rfl rfl ?_
  refine s_icmp_ge (tgt := 99) O dX6_drift_44 (by decide) (fun c => ?_) (fun c => ?_)
  · replace hf := if_t c hf
    refine s_loc [0, 2] rfl ?_
    cases hf
    exact Ke _ rfl
  · replace hf := if_f c hf
    refine s_iload O 3 dX6_drift_47 rfl ?_
    refine s_ldcw O ci_RX6_294 dX6_drift_49 ?_
    refine s_imul O dX6_drift_52 ?_
    refine s_sipush (v := 12345) O dX6_drift_53 rfl ?_
    refine s_iadd O dX6_drift_56 ?_
    refine s_topi (fun n10 en10 => ?_)
    replace hf := nmi_e en10 hf
    refine s_istore (lv' := [(4, .int n10), (0, rf E 0), (2, .int x2), (3, .int x3), (5, .int v5)]) O dX6_drift_57 (by decide) rfl ?_
    refine s_iload O 0 dX6_drift_59 rfl ?_
    refine s_bipush (v := 16) O dX6_drift_61 rfl ?_
    refine s_ishr O dX6_drift_63 ?_
    refine s_sipush (v := 32767) O dX6_drift_64 rfl ?_
    refine s_iand O dX6_drift_67 ?_
    refine s_topi (fun n11 en11 => ?_)
    replace hf := nmi_e en11 hf
    refine s_istore (lv' := [(6, .int n11), (4, .int n10), (0, rf E 0), (2, .int x2), (3, .int x3), (5, .int v5)]) O dX6_drift_68 (by decide) rfl ?_
    refine s_aload_n O 2 dX6_drift_70 rfl rfl ?_
    refine s_iload O 0 dX6_drift_71 rfl ?_
    refine s_aload_n O 2 dX6_drift_73 rfl rfl ?_
    refine s_getI O fg_RX6_64 ms_0 rfl dX6_drift_74 ?_
    obtain ⟨h12, hf⟩ := g0_e hf
    refine s_irem O dX6_drift_77 h12 ?_
    refine s_iconst (v := 3) O dX6_drift_78 rfl ?_
    refine s_iload O 0 dX6_drift_79 rfl ?_
    refine s_bipush (v := 8) O dX6_drift_81 rfl ?_
    refine s_idiv O dX6_drift_83 (by decide) ?_
    refine s_iconst (v := 2) O dX6_drift_84 rfl ?_
    refine s_irem O dX6_drift_85 (by decide) ?_
    obtain ⟨s13, r14, c15, hf⟩ := bn_e hf
    refine s_VV (As := [.int (n11 - n11 / (gi s0 0 3) * (gi s0 0 3)), .int 3, .int ((n11 / 8) - (n11 / 8) / 2 * 2)]) (st := []) O lk_RX6_162 (k_X6_becomesOf c15) rfl ms_0 rfl rfl ⟨rfl, rfl⟩ ⟨Nat.le_of_ble_eq_true rfl, Nat.le_of_ble_eq_true rfl⟩ rfl (Nat.le_of_ble_eq_true rfl) dX6_drift_86 ?_
    refine s_aload_n O 2 dX6_drift_89 rfl rfl ?_
    obtain ⟨s16, r17, c18, hf⟩ := bn_e hf
    refine s_VV (As := []) (st := []) O lk_RX6_172 (k_X6_minuteGoes c18) rfl ms_0 rfl rfl ⟨rfl, rfl⟩ ⟨Nat.le_of_ble_eq_true rfl, Nat.le_of_ble_eq_true rfl⟩ rfl (Nat.le_of_ble_eq_true rfl) dX6_drift_90 ?_
    refine s_iinc (v := (v5 + 1)) (lv' := [(5, .int (v5 + 1)), (6, .int n11), (4, .int n10), (0, rf E 0), (2, .int x2), (3, .int x3)]) O 5 dX6_drift_93 rfl rfl (by decide) rfl ?_
    refine s_goto (tgt := 41) O dX6_drift_96 (by decide) ?_
    refine s_loc [3, 4, 5, 2, 0] rfl ?_
    cases hf
    exact Kc _ rfl
def fl_X6_drift_l41 (a1 : Int32) (a2 : Int32) (a3 : Int32) (x2 : Int32) (x3 : Int32) (s0 : StA) (v : Int32 × Int32) : Option (StA × ((Unit))) :=
  it (fun s v => fb_X6_drift_l41 a1 a2 a3 x2 x3 s v.1 v.2) FU s0 v
def f_X6_drift (a1 : Int32) (a2 : Int32) (a3 : Int32) (s0 : StA) : Option (StA × Int32) :=
  bn (f_X6_in a2.toInt64 1 60 s0) (fun s1 r2 => (if r2 = 0 then some (s1, (-1)) else bn (f_X6_isPart a3 s1) (fun s4 r5 => (if r5 = 0 then some (s4, (-1)) else (if (gi s4 0 3) = 0 then some (s4, (-2)) else bn (f_X6_starts  s4) (fun s7 r8 => bn (fl_X6_drift_l41 a1 a2 a3 a2 a3 s7 (a1, 0)) (fun s19 e20 => (if a3 = 0 then gd 24 63 (some (s19, (gi s19 2 (24 : Int32).toNatClampNeg))) else gd 25 63 (some (s19, (gi s19 2 (25 : Int32).toNatClampNeg)))))))))))
set_option maxHeartbeats 4000000 in
set_option maxRecDepth 100000 in
theorem k_X6_drift {a1 : Int32} {a2 : Int32} {a3 : Int32} {s0 zs : StA} {rr : Int32} (hf : f_X6_drift a1 a2 a3 s0 = some (zs, rr)) : CtI mM yX6_drift cX6_drift 7 .int rm_X6_drift (fun ph => [.ref (ph 0), .int a1, .int a2, .int a3]) s0 zs rr := by
  refine CtI.of (by decide +kernel) (fun ph => Nat.le_of_ble_eq_true rfl) (fun E O hret => ?_)
  have O : OK mM E RX6 cX6_drift 7 rm_X6_drift := O
  show WS mM E 7 0 [(0, rf E 0), (1, .int a1), (2, .int a2), (3, .int a3)] [] s0
  unfold f_X6_drift at hf
  refine s_iload_n O 2 dX6_drift_0 rfl rfl ?_
  refine s_i2l O dX6_drift_1 ?_
  refine s_lconst (v := 1) O dX6_drift_2 rfl ?_
  refine s_ldc2 O cl_RX6_211 dX6_drift_3 ?_
  obtain ⟨s1, r2, c3, hf⟩ := bn_e hf
  refine s_SI (As := [.long a2.toInt64, .long 1, .long 60]) (st := []) O lk_RX6_69 (k_X6_in c3) rfl rfl ⟨rfl, rfl⟩ ⟨Nat.le_of_ble_eq_true rfl, Nat.le_of_ble_eq_true rfl⟩ rfl (Nat.le_of_ble_eq_true rfl) dX6_drift_6 ?_
  refine s_if_eq (tgt := 19) O dX6_drift_9 (by decide) (fun c => ?_) (fun c => ?_)
  · replace hf := if_t c hf
    refine s_iconst (v := (-1)) O dX6_drift_19 rfl ?_
    exact s_iret hret rfl dX6_drift_20 hf
  · replace hf := if_f c hf
    refine s_iload_n O 3 dX6_drift_12 rfl rfl ?_
    obtain ⟨s4, r5, c6, hf⟩ := bn_e hf
    refine s_SI (As := [.int a3]) (st := []) O lk_RX6_188 (k_X6_isPart c6) rfl rfl ⟨rfl, rfl⟩ ⟨Nat.le_of_ble_eq_true rfl, Nat.le_of_ble_eq_true rfl⟩ rfl (Nat.le_of_ble_eq_true rfl) dX6_drift_13 ?_
    refine s_if_ne (tgt := 21) O dX6_drift_16 (by decide) (fun c => ?_) (fun c => ?_)
    · replace hf := if_f c hf
      refine s_aload_n O 0 dX6_drift_21 rfl rfl ?_
      refine s_getI O fg_RX6_64 ms_0 rfl dX6_drift_22 ?_
      refine s_if_ne (tgt := 31) O dX6_drift_25 (by decide) (fun c => ?_) (fun c => ?_)
      · replace hf := if_f c hf
        refine s_iload_n O 1 dX6_drift_31 rfl rfl ?_
        refine s_istore (lv' := [(4, .int a1), (0, rf E 0), (1, .int a1), (2, .int a2), (3, .int a3)]) O dX6_drift_32 (by decide) rfl ?_
        refine s_aload_n O 1 dX6_drift_34 rfl rfl ?_
        obtain ⟨s7, r8, c9, hf⟩ := bn_e hf
        refine s_VV (As := []) (st := []) O lk_RX6_175 (k_X6_starts c9) rfl ms_0 rfl rfl ⟨rfl, rfl⟩ ⟨Nat.le_of_ble_eq_true rfl, Nat.le_of_ble_eq_true rfl⟩ rfl (Nat.le_of_ble_eq_true rfl) dX6_drift_35 ?_
        refine s_iconst (v := 0) O dX6_drift_38 rfl ?_
        refine s_istore (lv' := [(5, .int 0), (4, .int a1), (0, rf E 0), (1, .int a1), (2, .int a2), (3, .int a3)]) O dX6_drift_39 (by decide) rfl ?_
        refine s_loc [2, 4, 5, 1, 0] rfl ?_
        obtain ⟨s19, e20, c21, hf⟩ := bn_e hf
        refine lp_of (body := fun s v => fb_X6_drift_l41 a1 a2 a3 a2 a3 s v.1 v.2) (X := fun s v => WS mM E 7 41 [(0, rf E 0), (2, .int a2), (3, .int a3), (4, .int v.1), (5, .int v.2)] [] s) (Y := fun s e => WS mM E 7 99 [(0, rf E 0), (3, .int a3)] [] s) (fun s v s' w hb Kc Ke => wb_X6_drift_l41 (rr := rr) O   hret Kc Ke hb) FU _ _ (s19, e20) c21 ?_
        show WS mM E 7 99 [(0, rf E 0), (3, .int a3)] [] s19
        refine s_iload_n O 1 dX6_drift_99 rfl rfl ?_
        refine s_if_ne (tgt := 113) O dX6_drift_100 (by decide) (fun c => ?_) (fun c => ?_)
        · replace hf := if_f c hf
          refine s_aload_n O 0 dX6_drift_113 rfl rfl ?_
          refine s_getR O fg_RX6_13 ms_0 rfl dX6_drift_114 ?_
          refine s_bipush (v := 25) O dX6_drift_117 rfl ?_
          obtain ⟨h22, hf⟩ := gd_e hf
          refine s_iald O ms_2 h22 dX6_drift_119 ?_
          exact s_iret hret rfl dX6_drift_120 hf
        · replace hf := if_t c hf
          refine s_aload_n O 0 dX6_drift_103 rfl rfl ?_
          refine s_getR O fg_RX6_13 ms_0 rfl dX6_drift_104 ?_
          refine s_bipush (v := 24) O dX6_drift_107 rfl ?_
          obtain ⟨h23, hf⟩ := gd_e hf
          refine s_iald O ms_2 h23 dX6_drift_109 ?_
          refine s_goto (tgt := 120) O dX6_drift_110 (by decide) ?_
          exact s_iret hret rfl dX6_drift_120 hf
      · replace hf := if_t c hf
        refine s_bipush (v := (-2)) O dX6_drift_28 rfl ?_
        exact s_iret hret rfl dX6_drift_30 hf
    · replace hf := if_t c hf
      refine s_iconst (v := (-1)) O dX6_drift_19 rfl ?_
      exact s_iret hret rfl dX6_drift_20 hf
def rm_X6_copies : Room := { frames := 0, cells := 0, slots := 0, locals := 0 }
def fb_X6_copies_l2 (a1 : Int32) (a2 : Int32) (x1 : Int32) (x2 : Int32) (s0 : StA) (v3 : Int32) : Option (StA × ((Int32) ⊕ (Unit))) :=
  (if 63 ≤ v3 then some (s0, .inr ()) else gd (x2 + v3) 189 (gd (x1 + v3) 189 (nms (si s0 1 ((x1 + v3).toNatClampNeg) (gi s0 1 (x2 + v3).toNatClampNeg)) (fun s3 => some (s3, .inl (v3 + 1))))))
set_option maxHeartbeats 4000000 in
set_option maxRecDepth 100000 in
theorem wb_X6_copies_l2 {E : XC} (O : OK mM E RX6 cX6_copies 4 rm_X6_copies) {a1 : Int32} {a2 : Int32}  {x1 : Int32} {x2 : Int32} {s0 : StA} {v3 : Int32} {zs : StA} {rr : Unit} (hret : ReV mM E cX6_copies zs) {bs : StA} {bw : (Int32) ⊕ (Unit)} (Kc : ∀ v, bw = .inl v → WS mM E 4 2 [(0, rf E 0), (1, .int x1), (2, .int x2), (3, .int v)] [] bs) (Ke : ∀ e, bw = .inr e → WS mM E 4 30 [] [] bs) (hf : fb_X6_copies_l2 a1 a2 x1 x2 s0 v3 = some (bs, bw)) : WS mM E 4 2 [(0, rf E 0), (1, .int x1), (2, .int x2), (3, .int v3)] [] s0 := by
  unfold fb_X6_copies_l2 at hf
  refine s_iload_n O 3 dX6_copies_2 rfl rfl ?_
  refine s_bipush (v := 63) O dX6_copies_3 rfl ?_
  refine s_icmp_ge (tgt := 30) O dX6_copies_5 (by decide) (fun c => ?_) (fun c => ?_)
  · replace hf := if_t c hf
    refine s_loc [] rfl ?_
    cases hf
    exact Ke _ rfl
  · replace hf := if_f c hf
    refine s_aload_n O 0 dX6_copies_8 rfl rfl ?_
    refine s_getR O fg_RX6_7 ms_0 rfl dX6_copies_9 ?_
    refine s_iload_n O 1 dX6_copies_12 rfl rfl ?_
    refine s_iload_n O 3 dX6_copies_13 rfl rfl ?_
    refine s_iadd O dX6_copies_14 ?_
    refine s_aload_n O 0 dX6_copies_15 rfl rfl ?_
    refine s_getR O fg_RX6_7 ms_0 rfl dX6_copies_16 ?_
    refine s_iload_n O 2 dX6_copies_19 rfl rfl ?_
    refine s_iload_n O 3 dX6_copies_20 rfl rfl ?_
    refine s_iadd O dX6_copies_21 ?_
    obtain ⟨h1, hf⟩ := gd_e hf
    refine s_iald O ms_1 h1 dX6_copies_22 ?_
    obtain ⟨h2, hf⟩ := gd_e hf
    refine s_iast O ms_1 h2 dX6_copies_23 ?_
    refine s_tops (fun s3 es3 => ?_)
    replace hf := nms_e es3 hf
    refine s_iinc (v := (v3 + 1)) (lv' := [(3, .int (v3 + 1)), (0, rf E 0), (1, .int x1), (2, .int x2)]) O 3 dX6_copies_24 rfl rfl (by decide) rfl ?_
    refine s_goto (tgt := 2) O dX6_copies_27 (by decide) ?_
    refine s_loc [1, 2, 3, 0] rfl ?_
    cases hf
    exact Kc _ rfl
def fl_X6_copies_l2 (a1 : Int32) (a2 : Int32) (x1 : Int32) (x2 : Int32) (s0 : StA) (v : Int32) : Option (StA × ((Unit))) :=
  it (fun s v => fb_X6_copies_l2 a1 a2 x1 x2 s v) FU s0 v
def f_X6_copies (a1 : Int32) (a2 : Int32) (s0 : StA) : Option (StA × Unit) :=
  bn (fl_X6_copies_l2 a1 a2 a1 a2 s0 0) (fun s4 e5 => some (s4, ()))
set_option maxHeartbeats 4000000 in
set_option maxRecDepth 100000 in
theorem k_X6_copies {a1 : Int32} {a2 : Int32} {s0 zs : StA} {rr : Unit} (hf : f_X6_copies a1 a2 s0 = some (zs, rr)) : CtV mM yX6_copies cX6_copies 4 rm_X6_copies (fun ph => [.ref (ph 0), .int a1, .int a2]) s0 zs := by
  refine CtV.of (by decide +kernel) (fun ph => Nat.le_of_ble_eq_true rfl) (fun E O hret => ?_)
  have O : OK mM E RX6 cX6_copies 4 rm_X6_copies := O
  show WS mM E 4 0 [(0, rf E 0), (1, .int a1), (2, .int a2)] [] s0
  unfold f_X6_copies at hf
  refine s_iconst (v := 0) O dX6_copies_0 rfl ?_
  refine s_istore_n (lv' := [(3, .int 0), (0, rf E 0), (1, .int a1), (2, .int a2)]) O dX6_copies_1 rfl (by decide) rfl ?_
  refine s_loc [1, 2, 3, 0] rfl ?_
  obtain ⟨s4, e5, c6, hf⟩ := bn_e hf
  refine lp_of (body := fun s v => fb_X6_copies_l2 a1 a2 a1 a2 s v) (X := fun s v => WS mM E 4 2 [(0, rf E 0), (1, .int a1), (2, .int a2), (3, .int v)] [] s) (Y := fun s e => WS mM E 4 30 [] [] s) (fun s v s' w hb Kc Ke => wb_X6_copies_l2 (rr := rr) O   hret Kc Ke hb) FU _ _ (s4, e5) c6 ?_
  show WS mM E 4 30 [] [] s4
  exact s_vret hret dX6_copies_30 hf
def rm_X6_keep : Room := { frames := 1, cells := 0, slots := 0, locals := 25 }
def f_X6_keep (a1 : Int32) (s0 : StA) : Option (StA × Int32) :=
  bn (f_X6_in a1.toInt64 0 1 s0) (fun s1 r2 => (if r2 = 0 then some (s1, (-1)) else gd a1 2 (bn (f_X6_flag (gi s1 3 a1.toNatClampNeg) s1) (fun s5 r6 => gd a1 2 (nms (si s5 3 a1.toNatClampNeg 1) (fun s9 => bn (f_X6_copies (63 * (a1 + 1)) 0 s9) (fun s10 r11 => some (s10, r6))))))))
set_option maxHeartbeats 4000000 in
set_option maxRecDepth 100000 in
theorem k_X6_keep {a1 : Int32} {s0 zs : StA} {rr : Int32} (hf : f_X6_keep a1 s0 = some (zs, rr)) : CtI mM yX6_keep cX6_keep 3 .int rm_X6_keep (fun ph => [.ref (ph 0), .int a1]) s0 zs rr := by
  refine CtI.of (by decide +kernel) (fun ph => Nat.le_of_ble_eq_true rfl) (fun E O hret => ?_)
  have O : OK mM E RX6 cX6_keep 3 rm_X6_keep := O
  show WS mM E 3 0 [(0, rf E 0), (1, .int a1)] [] s0
  unfold f_X6_keep at hf
  refine s_iload_n O 1 dX6_keep_0 rfl rfl ?_
  refine s_i2l O dX6_keep_1 ?_
  refine s_lconst (v := 0) O dX6_keep_2 rfl ?_
  refine s_lconst (v := 1) O dX6_keep_3 rfl ?_
  obtain ⟨s1, r2, c3, hf⟩ := bn_e hf
  refine s_SI (As := [.long a1.toInt64, .long 0, .long 1]) (st := []) O lk_RX6_69 (k_X6_in c3) rfl rfl ⟨rfl, rfl⟩ ⟨Nat.le_of_ble_eq_true rfl, Nat.le_of_ble_eq_true rfl⟩ rfl (Nat.le_of_ble_eq_true rfl) dX6_keep_4 ?_
  refine s_if_ne (tgt := 12) O dX6_keep_7 (by decide) (fun c => ?_) (fun c => ?_)
  · replace hf := if_f c hf
    refine s_aload_n O 0 dX6_keep_12 rfl rfl ?_
    refine s_getR O fg_RX6_16 ms_0 rfl dX6_keep_13 ?_
    refine s_iload_n O 1 dX6_keep_16 rfl rfl ?_
    obtain ⟨h4, hf⟩ := gd_e hf
    refine s_zald O ms_3 h4 dX6_keep_17 ?_
    obtain ⟨s5, r6, c7, hf⟩ := bn_e hf
    refine s_SI (As := [.int (gi s1 3 a1.toNatClampNeg)]) (st := []) O lk_RX6_219 (k_X6_flag c7) rfl rfl ⟨rfl, rfl⟩ ⟨Nat.le_of_ble_eq_true rfl, Nat.le_of_ble_eq_true rfl⟩ rfl (Nat.le_of_ble_eq_true rfl) dX6_keep_18 ?_
    refine s_istore_n (lv' := [(2, .int r6), (0, rf E 0), (1, .int a1)]) O dX6_keep_21 rfl (by decide) rfl ?_
    refine s_aload_n O 1 dX6_keep_22 rfl rfl ?_
    refine s_getR O fg_RX6_16 ms_0 rfl dX6_keep_23 ?_
    refine s_iload_n O 2 dX6_keep_26 rfl rfl ?_
    refine s_iconst (v := 1) O dX6_keep_27 rfl ?_
    obtain ⟨h8, hf⟩ := gd_e hf
    refine s_zast O (Or.inr rfl) ms_3 h8 dX6_keep_28 ?_
    refine s_tops (fun s9 es9 => ?_)
    replace hf := nms_e es9 hf
    refine s_aload_n O 1 dX6_keep_29 rfl rfl ?_
    refine s_bipush (v := 63) O dX6_keep_30 rfl ?_
    refine s_iload_n O 2 dX6_keep_32 rfl rfl ?_
    refine s_iconst (v := 1) O dX6_keep_33 rfl ?_
    refine s_iadd O dX6_keep_34 ?_
    refine s_imul O dX6_keep_35 ?_
    refine s_iconst (v := 0) O dX6_keep_36 rfl ?_
    obtain ⟨s10, r11, c12, hf⟩ := bn_e hf
    refine s_VV (As := [.int (63 * (a1 + 1)), .int 0]) (st := []) O lk_RX6_295 (k_X6_copies c12) rfl ms_0 rfl rfl ⟨rfl, rfl⟩ ⟨Nat.le_of_ble_eq_true rfl, Nat.le_of_ble_eq_true rfl⟩ rfl (Nat.le_of_ble_eq_true rfl) dX6_keep_37 ?_
    refine s_iload_n O 0 dX6_keep_40 rfl rfl ?_
    exact s_iret hret rfl dX6_keep_41 hf
  · replace hf := if_t c hf
    refine s_iconst (v := (-1)) O dX6_keep_10 rfl ?_
    exact s_iret hret rfl dX6_keep_11 hf
def rm_X6_back : Room := { frames := 1, cells := 0, slots := 0, locals := 25 }
def f_X6_back (a1 : Int32) (s0 : StA) : Option (StA × Int32) :=
  bn (f_X6_in a1.toInt64 0 1 s0) (fun s1 r2 => (if r2 = 0 then some (s1, (-1)) else gd a1 2 ((if (gi s1 3 a1.toNatClampNeg) = 0 then some (s1, (-2)) else bn (f_X6_copies 0 (63 * (a1 + 1)) s1) (fun s5 r6 => gd 27 189 (some (s5, (gi s5 1 (27 : Int32).toNatClampNeg))))))))
set_option maxHeartbeats 4000000 in
set_option maxRecDepth 100000 in
theorem k_X6_back {a1 : Int32} {s0 zs : StA} {rr : Int32} (hf : f_X6_back a1 s0 = some (zs, rr)) : CtI mM yX6_back cX6_back 2 .int rm_X6_back (fun ph => [.ref (ph 0), .int a1]) s0 zs rr := by
  refine CtI.of (by decide +kernel) (fun ph => Nat.le_of_ble_eq_true rfl) (fun E O hret => ?_)
  have O : OK mM E RX6 cX6_back 2 rm_X6_back := O
  show WS mM E 2 0 [(0, rf E 0), (1, .int a1)] [] s0
  unfold f_X6_back at hf
  refine s_iload_n O 1 dX6_back_0 rfl rfl ?_
  refine s_i2l O dX6_back_1 ?_
  refine s_lconst (v := 0) O dX6_back_2 rfl ?_
  refine s_lconst (v := 1) O dX6_back_3 rfl ?_
  obtain ⟨s1, r2, c3, hf⟩ := bn_e hf
  refine s_SI (As := [.long a1.toInt64, .long 0, .long 1]) (st := []) O lk_RX6_69 (k_X6_in c3) rfl rfl ⟨rfl, rfl⟩ ⟨Nat.le_of_ble_eq_true rfl, Nat.le_of_ble_eq_true rfl⟩ rfl (Nat.le_of_ble_eq_true rfl) dX6_back_4 ?_
  refine s_if_ne (tgt := 12) O dX6_back_7 (by decide) (fun c => ?_) (fun c => ?_)
  · replace hf := if_f c hf
    refine s_aload_n O 0 dX6_back_12 rfl rfl ?_
    refine s_getR O fg_RX6_16 ms_0 rfl dX6_back_13 ?_
    refine s_iload_n O 1 dX6_back_16 rfl rfl ?_
    obtain ⟨h4, hf⟩ := gd_e hf
    refine s_zald O ms_3 h4 dX6_back_17 ?_
    refine s_if_ne (tgt := 24) O dX6_back_18 (by decide) (fun c => ?_) (fun c => ?_)
    · replace hf := if_f c hf
      refine s_aload_n O 0 dX6_back_24 rfl rfl ?_
      refine s_iconst (v := 0) O dX6_back_25 rfl ?_
      refine s_bipush (v := 63) O dX6_back_26 rfl ?_
      refine s_iload_n O 1 dX6_back_28 rfl rfl ?_
      refine s_iconst (v := 1) O dX6_back_29 rfl ?_
      refine s_iadd O dX6_back_30 ?_
      refine s_imul O dX6_back_31 ?_
      obtain ⟨s5, r6, c7, hf⟩ := bn_e hf
      refine s_VV (As := [.int 0, .int (63 * (a1 + 1))]) (st := []) O lk_RX6_295 (k_X6_copies c7) rfl ms_0 rfl rfl ⟨rfl, rfl⟩ ⟨Nat.le_of_ble_eq_true rfl, Nat.le_of_ble_eq_true rfl⟩ rfl (Nat.le_of_ble_eq_true rfl) dX6_back_32 ?_
      refine s_aload_n O 0 dX6_back_35 rfl rfl ?_
      refine s_getR O fg_RX6_7 ms_0 rfl dX6_back_36 ?_
      refine s_bipush (v := 27) O dX6_back_39 rfl ?_
      obtain ⟨h8, hf⟩ := gd_e hf
      refine s_iald O ms_1 h8 dX6_back_41 ?_
      exact s_iret hret rfl dX6_back_42 hf
    · replace hf := if_t c hf
      refine s_bipush (v := (-2)) O dX6_back_21 rfl ?_
      exact s_iret hret rfl dX6_back_23 hf
  · replace hf := if_t c hf
    refine s_iconst (v := (-1)) O dX6_back_10 rfl ?_
    exact s_iret hret rfl dX6_back_11 hf
def rm_X6_isSheet : Room := { frames := 1, cells := 0, slots := 0, locals := 25 }
def f_X6_isSheet (a0 : Int32) (a1 : Int32) (s0 : StA) : Option (StA × Int32) :=
  bn (f_X6_in a0.toInt64 0 3 s0) (fun s1 r2 => (if r2 = 0 then some (s1, 0) else bn (f_X6_in a1.toInt64 0 2 s1) (fun s4 r5 => (if r5 = 0 then some (s4, 0) else some (s4, 1)))))
set_option maxHeartbeats 4000000 in
set_option maxRecDepth 100000 in
theorem k_X6_isSheet {a0 : Int32} {a1 : Int32} {s0 zs : StA} {rr : Int32} (hf : f_X6_isSheet a0 a1 s0 = some (zs, rr)) : CtI mM yX6_isSheet cX6_isSheet 2 .boolean rm_X6_isSheet (fun ph => [.int a0, .int a1]) s0 zs rr := by
  refine CtI.of (by decide +kernel) (fun ph => Nat.le_of_ble_eq_true rfl) (fun E O hret => ?_)
  have O : OK mM E RX6 cX6_isSheet 2 rm_X6_isSheet := O
  show WS mM E 2 0 [(0, .int a0), (1, .int a1)] [] s0
  unfold f_X6_isSheet at hf
  refine s_iload_n O 0 dX6_isSheet_0 rfl rfl ?_
  refine s_i2l O dX6_isSheet_1 ?_
  refine s_lconst (v := 0) O dX6_isSheet_2 rfl ?_
  refine s_ldc2 O cl_RX6_191 dX6_isSheet_3 ?_
  obtain ⟨s1, r2, c3, hf⟩ := bn_e hf
  refine s_SI (As := [.long a0.toInt64, .long 0, .long 3]) (st := []) O lk_RX6_69 (k_X6_in c3) rfl rfl ⟨rfl, rfl⟩ ⟨Nat.le_of_ble_eq_true rfl, Nat.le_of_ble_eq_true rfl⟩ rfl (Nat.le_of_ble_eq_true rfl) dX6_isSheet_6 ?_
  refine s_if_eq (tgt := 28) O dX6_isSheet_9 (by decide) (fun c => ?_) (fun c => ?_)
  · replace hf := if_t c hf
    refine s_iconst (v := 0) O dX6_isSheet_28 rfl ?_
    exact s_iret hret rfl dX6_isSheet_29 hf
  · replace hf := if_f c hf
    refine s_iload_n O 1 dX6_isSheet_12 rfl rfl ?_
    refine s_i2l O dX6_isSheet_13 ?_
    refine s_lconst (v := 0) O dX6_isSheet_14 rfl ?_
    refine s_ldc2 O cl_RX6_298 dX6_isSheet_15 ?_
    obtain ⟨s4, r5, c6, hf⟩ := bn_e hf
    refine s_SI (As := [.long a1.toInt64, .long 0, .long 2]) (st := []) O lk_RX6_69 (k_X6_in c6) rfl rfl ⟨rfl, rfl⟩ ⟨Nat.le_of_ble_eq_true rfl, Nat.le_of_ble_eq_true rfl⟩ rfl (Nat.le_of_ble_eq_true rfl) dX6_isSheet_18 ?_
    refine s_if_eq (tgt := 28) O dX6_isSheet_21 (by decide) (fun c => ?_) (fun c => ?_)
    · replace hf := if_t c hf
      refine s_iconst (v := 0) O dX6_isSheet_28 rfl ?_
      exact s_iret hret rfl dX6_isSheet_29 hf
    · replace hf := if_f c hf
      refine s_iconst (v := 1) O dX6_isSheet_24 rfl ?_
      refine s_goto (tgt := 29) O dX6_isSheet_25 (by decide) ?_
      exact s_iret hret rfl dX6_isSheet_29 hf
def rm_X6_sheet : Room := { frames := 2, cells := 0, slots := 0, locals := 46 }
def fb_X6_sheet_l40 (a1 : Int32) (a2 : Int32) (a3 : Int32) (x1 : Int32) (s0 : StA) (v4 : Int32) : Option (StA × ((Int32) ⊕ (Unit))) :=
  (if 40 ≤ v4 then some (s0, .inr ()) else gd ((40 * x1) + v4) 160 (nms (si s0 10 (((40 * x1) + v4).toNatClampNeg) 0) (fun s9 => some (s9, .inl (v4 + 1)))))
set_option maxHeartbeats 4000000 in
set_option maxRecDepth 100000 in
theorem wb_X6_sheet_l40 {E : XC} (O : OK mM E RX6 cX6_sheet 5 rm_X6_sheet) {a1 : Int32} {a2 : Int32} {a3 : Int32}  {x1 : Int32} {s0 : StA} {v4 : Int32} {zs : StA} {rr : Int32} (hret : ReI mM E .int cX6_sheet zs rr) {bs : StA} {bw : (Int32) ⊕ (Unit)} (Kc : ∀ v, bw = .inl v → WS mM E 5 40 [(0, rf E 0), (1, .int x1), (4, .int v)] [] bs) (Ke : ∀ e, bw = .inr e → WS mM E 5 66 [] [] bs) (hf : fb_X6_sheet_l40 a1 a2 a3 x1 s0 v4 = some (bs, bw)) : WS mM E 5 40 [(0, rf E 0), (1, .int x1), (4, .int v4)] [] s0 := by
  unfold fb_X6_sheet_l40 at hf
  refine s_iload O 2 dX6_sheet_40 rfl ?_
  refine s_bipush (v := 40) O dX6_sheet_42 rfl ?_
  refine s_icmp_ge (tgt := 66) O dX6_sheet_44 (by decide) (fun c => ?_) (fun c => ?_)
  · replace hf := if_t c hf
    refine s_loc [] rfl ?_
    cases hf
    exact Ke _ rfl
  · replace hf := if_f c hf
    refine s_aload_n O 0 dX6_sheet_47 rfl rfl ?_
    refine s_getR O fg_RX6_38 ms_0 rfl dX6_sheet_48 ?_
    refine s_bipush (v := 40) O dX6_sheet_51 rfl ?_
    refine s_iload_n O 1 dX6_sheet_53 rfl rfl ?_
    refine s_imul O dX6_sheet_54 ?_
    refine s_iload O 2 dX6_sheet_55 rfl ?_
    refine s_iadd O dX6_sheet_57 ?_
    refine s_iconst (v := 0) O dX6_sheet_58 rfl ?_
    obtain ⟨h8, hf⟩ := gd_e hf
    refine s_iast O ms_10 h8 dX6_sheet_59 ?_
    refine s_tops (fun s9 es9 => ?_)
    replace hf := nms_e es9 hf
    refine s_iinc (v := (v4 + 1)) (lv' := [(4, .int (v4 + 1)), (0, rf E 0), (1, .int x1)]) O 2 dX6_sheet_60 rfl rfl (by decide) rfl ?_
    refine s_goto (tgt := 40) O dX6_sheet_63 (by decide) ?_
    refine s_loc [1, 2, 0] rfl ?_
    cases hf
    exact Kc _ rfl
def fl_X6_sheet_l40 (a1 : Int32) (a2 : Int32) (a3 : Int32) (x1 : Int32) (s0 : StA) (v : Int32) : Option (StA × ((Unit))) :=
  it (fun s v => fb_X6_sheet_l40 a1 a2 a3 x1 s v) FU s0 v
def f_X6_sheet (a1 : Int32) (a2 : Int32) (a3 : Int32) (s0 : StA) : Option (StA × Int32) :=
  bn (f_X6_isSheet a1 a2 s0) (fun s1 r2 => (if r2 = 0 then some (s1, (-1)) else (if a3 ≤ 40 then (if 0 ≤ a3 then gd a1 4 (nms (si s1 8 a1.toNatClampNeg a2) (fun s5 => gd a1 4 (nms (si s5 9 a1.toNatClampNeg a3) (fun s7 => bn (fl_X6_sheet_l40 a1 a2 a3 a1 s7 0) (fun s10 e11 => some (s10, 1)))))) else some (s1, (-14))) else some (s1, (-1)))))
set_option maxHeartbeats 4000000 in
set_option maxRecDepth 100000 in
theorem k_X6_sheet {a1 : Int32} {a2 : Int32} {a3 : Int32} {s0 zs : StA} {rr : Int32} (hf : f_X6_sheet a1 a2 a3 s0 = some (zs, rr)) : CtI mM yX6_sheet cX6_sheet 5 .int rm_X6_sheet (fun ph => [.ref (ph 0), .int a1, .int a2, .int a3]) s0 zs rr := by
  refine CtI.of (by decide +kernel) (fun ph => Nat.le_of_ble_eq_true rfl) (fun E O hret => ?_)
  have O : OK mM E RX6 cX6_sheet 5 rm_X6_sheet := O
  show WS mM E 5 0 [(0, rf E 0), (1, .int a1), (2, .int a2), (3, .int a3)] [] s0
  unfold f_X6_sheet at hf
  refine s_iload_n O 1 dX6_sheet_0 rfl rfl ?_
  refine s_iload_n O 2 dX6_sheet_1 rfl rfl ?_
  obtain ⟨s1, r2, c3, hf⟩ := bn_e hf
  refine s_SI (As := [.int a1, .int a2]) (st := []) O lk_RX6_300 (k_X6_isSheet c3) rfl rfl ⟨rfl, rfl⟩ ⟨Nat.le_of_ble_eq_true rfl, Nat.le_of_ble_eq_true rfl⟩ rfl (Nat.le_of_ble_eq_true rfl) dX6_sheet_2 ?_
  refine s_if_eq (tgt := 14) O dX6_sheet_5 (by decide) (fun c => ?_) (fun c => ?_)
  · replace hf := if_t c hf
    refine s_iconst (v := (-1)) O dX6_sheet_14 rfl ?_
    exact s_iret hret rfl dX6_sheet_15 hf
  · replace hf := if_f c hf
    refine s_iload_n O 3 dX6_sheet_8 rfl rfl ?_
    refine s_bipush (v := 40) O dX6_sheet_9 rfl ?_
    refine s_icmp_le (tgt := 16) O dX6_sheet_11 (by decide) (fun c => ?_) (fun c => ?_)
    · replace hf := if_t c hf
      refine s_iload_n O 3 dX6_sheet_16 rfl rfl ?_
      refine s_if_ge (tgt := 23) O dX6_sheet_17 (by decide) (fun c => ?_) (fun c => ?_)
      · replace hf := if_t c hf
        refine s_aload_n O 0 dX6_sheet_23 rfl rfl ?_
        refine s_getR O fg_RX6_32 ms_0 rfl dX6_sheet_24 ?_
        refine s_iload_n O 1 dX6_sheet_27 rfl rfl ?_
        refine s_iload_n O 2 dX6_sheet_28 rfl rfl ?_
        obtain ⟨h4, hf⟩ := gd_e hf
        refine s_iast O ms_8 h4 dX6_sheet_29 ?_
        refine s_tops (fun s5 es5 => ?_)
        replace hf := nms_e es5 hf
        refine s_aload_n O 0 dX6_sheet_30 rfl rfl ?_
        refine s_getR O fg_RX6_35 ms_0 rfl dX6_sheet_31 ?_
        refine s_iload_n O 1 dX6_sheet_34 rfl rfl ?_
        refine s_iload_n O 3 dX6_sheet_35 rfl rfl ?_
        obtain ⟨h6, hf⟩ := gd_e hf
        refine s_iast O ms_9 h6 dX6_sheet_36 ?_
        refine s_tops (fun s7 es7 => ?_)
        replace hf := nms_e es7 hf
        refine s_iconst (v := 0) O dX6_sheet_37 rfl ?_
        refine s_istore (lv' := [(4, .int 0), (0, rf E 0), (1, .int a1), (2, .int a2), (3, .int a3)]) O dX6_sheet_38 (by decide) rfl ?_
        refine s_loc [1, 2, 0] rfl ?_
        obtain ⟨s10, e11, c12, hf⟩ := bn_e hf
        refine lp_of (body := fun s v => fb_X6_sheet_l40 a1 a2 a3 a1 s v) (X := fun s v => WS mM E 5 40 [(0, rf E 0), (1, .int a1), (4, .int v)] [] s) (Y := fun s e => WS mM E 5 66 [] [] s) (fun s v s' w hb Kc Ke => wb_X6_sheet_l40 (rr := rr) O   hret Kc Ke hb) FU _ _ (s10, e11) c12 ?_
        show WS mM E 5 66 [] [] s10
        refine s_iconst (v := 1) O dX6_sheet_66 rfl ?_
        exact s_iret hret rfl dX6_sheet_67 hf
      · replace hf := if_f c hf
        refine s_bipush (v := (-14)) O dX6_sheet_20 rfl ?_
        exact s_iret hret rfl dX6_sheet_22 hf
    · replace hf := if_f c hf
      refine s_iconst (v := (-1)) O dX6_sheet_14 rfl ?_
      exact s_iret hret rfl dX6_sheet_15 hf
def rm_X6_lay : Room := { frames := 2, cells := 0, slots := 0, locals := 46 }
def f_X6_lay (a1 : Int32) (a2 : Int32) (a3 : Int32) (s0 : StA) : Option (StA × Int32) :=
  bn (f_X6_isSheet a1 0 s0) (fun s1 r2 => (if r2 = 0 then some (s1, (-1)) else gd a1 4 ((if (gi s1 8 a1.toNatClampNeg) = (-4) then some (s1, (-11)) else gd a1 4 (bn (f_X6_in a2.toInt64 0 ((gi s1 9 a1.toNatClampNeg) - 1).toInt64 s1) (fun s6 r7 => (if r7 = 0 then some (s6, (-12)) else gd a1 4 ((if (gi s6 8 a1.toNatClampNeg) = 0 then gd ((40 * a1) + a2) 160 (nms (si s6 10 (((40 * a1) + a2).toNatClampNeg) a3.toInt8.toInt32) (fun s16 => some (s16, 1))) else gd a1 4 ((if (gi s6 8 a1.toNatClampNeg) = 1 then gd ((40 * a1) + a2) 160 (nms (si s6 10 (((40 * a1) + a2).toNatClampNeg) a3.toInt16.toInt32) (fun s14 => some (s14, 1))) else gd ((40 * a1) + a2) 160 (nms (si s6 10 (((40 * a1) + a2).toNatClampNeg) a3) (fun s12 => some (s12, 1))))))))))))))
set_option maxHeartbeats 4000000 in
set_option maxRecDepth 100000 in
theorem k_X6_lay {a1 : Int32} {a2 : Int32} {a3 : Int32} {s0 zs : StA} {rr : Int32} (hf : f_X6_lay a1 a2 a3 s0 = some (zs, rr)) : CtI mM yX6_lay cX6_lay 4 .int rm_X6_lay (fun ph => [.ref (ph 0), .int a1, .int a2, .int a3]) s0 zs rr := by
  refine CtI.of (by decide +kernel) (fun ph => Nat.le_of_ble_eq_true rfl) (fun E O hret => ?_)
  have O : OK mM E RX6 cX6_lay 4 rm_X6_lay := O
  show WS mM E 4 0 [(0, rf E 0), (1, .int a1), (2, .int a2), (3, .int a3)] [] s0
  unfold f_X6_lay at hf
  refine s_iload_n O 1 dX6_lay_0 rfl rfl ?_
  refine s_iconst (v := 0) O dX6_lay_1 rfl ?_
  obtain ⟨s1, r2, c3, hf⟩ := bn_e hf
  refine s_SI (As := [.int a1, .int 0]) (st := []) O lk_RX6_300 (k_X6_isSheet c3) rfl rfl ⟨rfl, rfl⟩ ⟨Nat.le_of_ble_eq_true rfl, Nat.le_of_ble_eq_true rfl⟩ rfl (Nat.le_of_ble_eq_true rfl) dX6_lay_2 ?_
  refine s_if_ne (tgt := 10) O dX6_lay_5 (by decide) (fun c => ?_) (fun c => ?_)
  · replace hf := if_f c hf
    refine s_aload_n O 0 dX6_lay_10 rfl rfl ?_
    refine s_getR O fg_RX6_32 ms_0 rfl dX6_lay_11 ?_
    refine s_iload_n O 1 dX6_lay_14 rfl rfl ?_
    obtain ⟨h4, hf⟩ := gd_e hf
    refine s_iald O ms_8 h4 dX6_lay_15 ?_
    refine s_bipush (v := (-4)) O dX6_lay_16 rfl ?_
    refine s_icmp_ne (tgt := 24) O dX6_lay_18 (by decide) (fun c => ?_) (fun c => ?_)
    · replace hf := if_f c hf
      refine s_iload_n O 2 dX6_lay_24 rfl rfl ?_
      refine s_i2l O dX6_lay_25 ?_
      refine s_lconst (v := 0) O dX6_lay_26 rfl ?_
      refine s_aload_n O 0 dX6_lay_27 rfl rfl ?_
      refine s_getR O fg_RX6_35 ms_0 rfl dX6_lay_28 ?_
      refine s_iload_n O 1 dX6_lay_31 rfl rfl ?_
      obtain ⟨h5, hf⟩ := gd_e hf
      refine s_iald O ms_9 h5 dX6_lay_32 ?_
      refine s_iconst (v := 1) O dX6_lay_33 rfl ?_
      refine s_isub O dX6_lay_34 ?_
      refine s_i2l O dX6_lay_35 ?_
      obtain ⟨s6, r7, c8, hf⟩ := bn_e hf
      refine s_SI (As := [.long a2.toInt64, .long 0, .long ((gi s1 9 a1.toNatClampNeg) - 1).toInt64]) (st := []) O lk_RX6_69 (k_X6_in c8) rfl rfl ⟨rfl, rfl⟩ ⟨Nat.le_of_ble_eq_true rfl, Nat.le_of_ble_eq_true rfl⟩ rfl (Nat.le_of_ble_eq_true rfl) dX6_lay_36 ?_
      refine s_if_ne (tgt := 45) O dX6_lay_39 (by decide) (fun c => ?_) (fun c => ?_)
      · replace hf := if_f c hf
        refine s_aload_n O 0 dX6_lay_45 rfl rfl ?_
        refine s_getR O fg_RX6_38 ms_0 rfl dX6_lay_46 ?_
        refine s_bipush (v := 40) O dX6_lay_49 rfl ?_
        refine s_iload_n O 1 dX6_lay_51 rfl rfl ?_
        refine s_imul O dX6_lay_52 ?_
        refine s_iload_n O 2 dX6_lay_53 rfl rfl ?_
        refine s_iadd O dX6_lay_54 ?_
        refine s_aload_n O 0 dX6_lay_55 rfl rfl ?_
        refine s_getR O fg_RX6_32 ms_0 rfl dX6_lay_56 ?_
        refine s_iload_n O 1 dX6_lay_59 rfl rfl ?_
        obtain ⟨h9, hf⟩ := gd_e hf
        refine s_iald O ms_8 h9 dX6_lay_60 ?_
        refine s_if_ne (tgt := 69) O dX6_lay_61 (by decide) (fun c => ?_) (fun c => ?_)
        · replace hf := if_f c hf
          refine s_aload_n O 0 dX6_lay_69 rfl rfl ?_
          refine s_getR O fg_RX6_32 ms_0 rfl dX6_lay_70 ?_
          refine s_iload_n O 1 dX6_lay_73 rfl rfl ?_
          obtain ⟨h10, hf⟩ := gd_e hf
          refine s_iald O ms_8 h10 dX6_lay_74 ?_
          refine s_iconst (v := 1) O dX6_lay_75 rfl ?_
          refine s_icmp_ne (tgt := 84) O dX6_lay_76 (by decide) (fun c => ?_) (fun c => ?_)
          · replace hf := if_f c hf
            refine s_iload_n O 3 dX6_lay_84 rfl rfl ?_
            obtain ⟨h11, hf⟩ := gd_e hf
            refine s_iast O ms_10 h11 dX6_lay_85 ?_
            refine s_tops (fun s12 es12 => ?_)
            replace hf := nms_e es12 hf
            refine s_iconst (v := 1) O dX6_lay_86 rfl ?_
            exact s_iret hret rfl dX6_lay_87 hf
          · replace hf := if_t c hf
            refine s_iload_n O 3 dX6_lay_79 rfl rfl ?_
            refine s_i2s O dX6_lay_80 ?_
            refine s_goto (tgt := 85) O dX6_lay_81 (by decide) ?_
            obtain ⟨h13, hf⟩ := gd_e hf
            refine s_iast O ms_10 h13 dX6_lay_85 ?_
            refine s_tops (fun s14 es14 => ?_)
            replace hf := nms_e es14 hf
            refine s_iconst (v := 1) O dX6_lay_86 rfl ?_
            exact s_iret hret rfl dX6_lay_87 hf
        · replace hf := if_t c hf
          refine s_iload_n O 3 dX6_lay_64 rfl rfl ?_
          refine s_i2b O dX6_lay_65 ?_
          refine s_goto (tgt := 85) O dX6_lay_66 (by decide) ?_
          obtain ⟨h15, hf⟩ := gd_e hf
          refine s_iast O ms_10 h15 dX6_lay_85 ?_
          refine s_tops (fun s16 es16 => ?_)
          replace hf := nms_e es16 hf
          refine s_iconst (v := 1) O dX6_lay_86 rfl ?_
          exact s_iret hret rfl dX6_lay_87 hf
      · replace hf := if_t c hf
        refine s_bipush (v := (-12)) O dX6_lay_42 rfl ?_
        exact s_iret hret rfl dX6_lay_44 hf
    · replace hf := if_t c hf
      refine s_bipush (v := (-11)) O dX6_lay_21 rfl ?_
      exact s_iret hret rfl dX6_lay_23 hf
  · replace hf := if_t c hf
    refine s_iconst (v := (-1)) O dX6_lay_8 rfl ?_
    exact s_iret hret rfl dX6_lay_9 hf
