def rm_X6_isSo : Room := { frames := 4, cells := 0, slots := 0, locals := 89 }
def fb_X6_isSo_l2   (s0 : StA) (v1 : Int32) : Option (StA × ((Int32) ⊕ (Unit))) :=
  (if 30 < v1 then some (s0, .inr ()) else gd 24 63 (gd v1 31 (nms (si s0 6 v1.toNatClampNeg (gi s0 2 (24 : Int32).toNatClampNeg)) (fun s3 => bn (f_X6_minuteGoes  s3) (fun s4 r5 => some (s4, .inl (v1 + 1)))))))
set_option maxHeartbeats 4000000 in
set_option maxRecDepth 100000 in
theorem wb_X6_isSo_l2 {E : XC} (O : OK mM E RX6 cX6_isSo 3 rm_X6_isSo)    {s0 : StA} {v1 : Int32} {zs : StA} {rr : Int32} (hret : ReI mM E .boolean cX6_isSo zs rr) {bs : StA} {bw : (Int32) ⊕ (Unit)} (Kc : ∀ v, bw = .inl v → WS mM E 3 2 [(0, rf E 0), (1, .int v)] [] bs) (Ke : ∀ e, bw = .inr e → WS mM E 3 31 [(0, rf E 0)] [] bs) (hf : fb_X6_isSo_l2  s0 v1 = some (bs, bw)) : WS mM E 3 2 [(0, rf E 0), (1, .int v1)] [] s0 := by
  unfold fb_X6_isSo_l2 at hf
  refine s_iload_n O 1 dX6_isSo_2 rfl rfl ?_
  refine s_bipush (v := 30) O dX6_isSo_3 rfl ?_
  refine s_icmp_gt (tgt := 31) O dX6_isSo_5 (by decide) (fun c => ?_) (fun c => ?_)
  · replace hf := if_t c hf
    refine s_loc [0] rfl ?_
    cases hf
    exact Ke _ rfl
  · replace hf := if_f c hf
    refine s_aload_n O 0 dX6_isSo_8 rfl rfl ?_
    refine s_getR O fg_RX6_26 ms_0 rfl dX6_isSo_9 ?_
    refine s_iload_n O 1 dX6_isSo_12 rfl rfl ?_
    refine s_aload_n O 0 dX6_isSo_13 rfl rfl ?_
    refine s_getR O fg_RX6_13 ms_0 rfl dX6_isSo_14 ?_
    refine s_bipush (v := 24) O dX6_isSo_17 rfl ?_
    obtain ⟨h1, hf⟩ := gd_e hf
    refine s_iald O ms_2 h1 dX6_isSo_19 ?_
    obtain ⟨h2, hf⟩ := gd_e hf
    refine s_iast O ms_6 h2 dX6_isSo_20 ?_
    refine s_tops (fun s3 es3 => ?_)
    replace hf := nms_e es3 hf
    refine s_aload_n O 0 dX6_isSo_21 rfl rfl ?_
    obtain ⟨s4, r5, c6, hf⟩ := bn_e hf
    refine s_VV (As := []) (st := []) O lk_RX6_172 (k_X6_minuteGoes c6) rfl ms_0 rfl rfl ⟨rfl, rfl⟩ ⟨Nat.le_of_ble_eq_true rfl, Nat.le_of_ble_eq_true rfl⟩ rfl (Nat.le_of_ble_eq_true rfl) dX6_isSo_22 ?_
    refine s_iinc (v := (v1 + 1)) (lv' := [(1, .int (v1 + 1)), (0, rf E 0)]) O 1 dX6_isSo_25 rfl rfl (by decide) rfl ?_
    refine s_goto (tgt := 2) O dX6_isSo_28 (by decide) ?_
    refine s_loc [1, 0] rfl ?_
    cases hf
    exact Kc _ rfl
def fl_X6_isSo_l2   (s0 : StA) (v : Int32) : Option (StA × ((Unit))) :=
  it (fun s v => fb_X6_isSo_l2  s v) FU s0 v
def fb_X6_isSo_l35   (s0 : StA) (v1 : Int32) (v2 : Int32) : Option (StA × ((Int32 × Int32) ⊕ (Int32))) :=
  gd 50 189 ((if (gi s0 1 (50 : Int32).toNatClampNeg) ≤ v2 then some (s0, .inr v1) else (if v1 = 0 then some (s0, .inl (0, (v2 + 1))) else gd (51 + (2 * v2)) 189 (gd (gi s0 1 (51 + (2 * v2)).toNatClampNeg) 31 (gd ((51 + (2 * v2)) + 1) 189 ((if (gi s0 6 (gi s0 1 (51 + (2 * v2)).toNatClampNeg).toNatClampNeg) = (gi s0 1 ((51 + (2 * v2)) + 1).toNatClampNeg) then some (s0, .inl (1, (v2 + 1))) else some (s0, .inl (0, (v2 + 1))))))))))
set_option maxHeartbeats 4000000 in
set_option maxRecDepth 100000 in
theorem wb_X6_isSo_l35 {E : XC} (O : OK mM E RX6 cX6_isSo 3 rm_X6_isSo)    {s0 : StA} {v1 : Int32} {v2 : Int32} {zs : StA} {rr : Int32} (hret : ReI mM E .boolean cX6_isSo zs rr) {bs : StA} {bw : (Int32 × Int32) ⊕ (Int32)} (Kc : ∀ v, bw = .inl v → WS mM E 3 35 [(0, rf E 0), (1, .int v.1), (2, .int v.2)] [] bs) (Ke : ∀ e, bw = .inr e → WS mM E 3 94 [(1, .int e)] [] bs) (hf : fb_X6_isSo_l35  s0 v1 v2 = some (bs, bw)) : WS mM E 3 35 [(0, rf E 0), (1, .int v1), (2, .int v2)] [] s0 := by
  unfold fb_X6_isSo_l35 at hf
  refine s_iload_n O 2 dX6_isSo_35 rfl rfl ?_
  refine s_aload_n O 0 dX6_isSo_36 rfl rfl ?_
  refine s_getR O fg_RX6_7 ms_0 rfl dX6_isSo_37 ?_
  refine s_bipush (v := 50) O dX6_isSo_40 rfl ?_
  obtain ⟨h10, hf⟩ := gd_e hf
  refine s_iald O ms_1 h10 dX6_isSo_42 ?_
  refine s_icmp_ge (tgt := 94) O dX6_isSo_43 (by decide) (fun c => ?_) (fun c => ?_)
  · replace hf := if_t c hf
    refine s_loc [1] rfl ?_
    cases hf
    exact Ke _ rfl
  · replace hf := if_f c hf
    refine s_iload_n O 1 dX6_isSo_46 rfl rfl ?_
    refine s_if_eq (tgt := 86) O dX6_isSo_47 (by decide) (fun c => ?_) (fun c => ?_)
    · replace hf := if_t c hf
      refine s_iconst (v := 0) O dX6_isSo_86 rfl ?_
      refine s_istore_n (lv' := [(1, .int 0), (0, rf E 0), (2, .int v2)]) O dX6_isSo_87 rfl (by decide) rfl ?_
      refine s_iinc (v := (v2 + 1)) (lv' := [(2, .int (v2 + 1)), (1, .int 0), (0, rf E 0)]) O 2 dX6_isSo_88 rfl rfl (by decide) rfl ?_
      refine s_goto (tgt := 35) O dX6_isSo_91 (by decide) ?_
      refine s_loc [2, 1, 0] rfl ?_
      cases hf
      exact Kc _ rfl
    · replace hf := if_f c hf
      refine s_aload_n O 0 dX6_isSo_50 rfl rfl ?_
      refine s_getR O fg_RX6_26 ms_0 rfl dX6_isSo_51 ?_
      refine s_aload_n O 0 dX6_isSo_54 rfl rfl ?_
      refine s_getR O fg_RX6_7 ms_0 rfl dX6_isSo_55 ?_
      refine s_bipush (v := 51) O dX6_isSo_58 rfl ?_
      refine s_iconst (v := 2) O dX6_isSo_60 rfl ?_
      refine s_iload_n O 2 dX6_isSo_61 rfl rfl ?_
      refine s_imul O dX6_isSo_62 ?_
      refine s_iadd O dX6_isSo_63 ?_
      obtain ⟨h11, hf⟩ := gd_e hf
      refine s_iald O ms_1 h11 dX6_isSo_64 ?_
      obtain ⟨h12, hf⟩ := gd_e hf
      refine s_iald O ms_6 h12 dX6_isSo_65 ?_
      refine s_aload_n O 0 dX6_isSo_66 rfl rfl ?_
      refine s_getR O fg_RX6_7 ms_0 rfl dX6_isSo_67 ?_
      refine s_bipush (v := 51) O dX6_isSo_70 rfl ?_
      refine s_iconst (v := 2) O dX6_isSo_72 rfl ?_
      refine s_iload_n O 2 dX6_isSo_73 rfl rfl ?_
      refine s_imul O dX6_isSo_74 ?_
      refine s_iadd O dX6_isSo_75 ?_
      refine s_iconst (v := 1) O dX6_isSo_76 rfl ?_
      refine s_iadd O dX6_isSo_77 ?_
      obtain ⟨h13, hf⟩ := gd_e hf
      refine s_iald O ms_1 h13 dX6_isSo_78 ?_
      refine s_icmp_ne (tgt := 86) O dX6_isSo_79 (by decide) (fun c => ?_) (fun c => ?_)
      · replace hf := if_f c hf
        refine s_iconst (v := 0) O dX6_isSo_86 rfl ?_
        refine s_istore_n (lv' := [(1, .int 0), (0, rf E 0), (2, .int v2)]) O dX6_isSo_87 rfl (by decide) rfl ?_
        refine s_iinc (v := (v2 + 1)) (lv' := [(2, .int (v2 + 1)), (1, .int 0), (0, rf E 0)]) O 2 dX6_isSo_88 rfl rfl (by decide) rfl ?_
        refine s_goto (tgt := 35) O dX6_isSo_91 (by decide) ?_
        refine s_loc [2, 1, 0] rfl ?_
        cases hf
        exact Kc _ rfl
      · replace hf := if_t c hf
        refine s_iconst (v := 1) O dX6_isSo_82 rfl ?_
        refine s_goto (tgt := 87) O dX6_isSo_83 (by decide) ?_
        refine s_istore_n (lv' := [(1, .int 1), (0, rf E 0), (2, .int v2)]) O dX6_isSo_87 rfl (by decide) rfl ?_
        refine s_iinc (v := (v2 + 1)) (lv' := [(2, .int (v2 + 1)), (1, .int 1), (0, rf E 0)]) O 2 dX6_isSo_88 rfl rfl (by decide) rfl ?_
        refine s_goto (tgt := 35) O dX6_isSo_91 (by decide) ?_
        refine s_loc [2, 1, 0] rfl ?_
        cases hf
        exact Kc _ rfl
def fl_X6_isSo_l35   (s0 : StA) (v : Int32 × Int32) : Option (StA × ((Int32))) :=
  it (fun s v => fb_X6_isSo_l35  s v.1 v.2) FU s0 v
def f_X6_isSo  (s0 : StA) : Option (StA × Int32) :=
  bn (fl_X6_isSo_l2  s0 0) (fun s7 e8 => bn (fl_X6_isSo_l35  s7 (1, 0)) (fun s14 u35_1 => gz u35_1 (some (s14, u35_1))))
set_option maxHeartbeats 4000000 in
set_option maxRecDepth 100000 in
theorem k_X6_isSo  {s0 zs : StA} {rr : Int32} (hf : f_X6_isSo  s0 = some (zs, rr)) : CtI mM yX6_isSo cX6_isSo 3 .boolean rm_X6_isSo (fun ph => [.ref (ph 0)]) s0 zs rr := by
  refine CtI.of (by decide +kernel) (fun ph => Nat.le_of_ble_eq_true rfl) (fun E O hret => ?_)
  have O : OK mM E RX6 cX6_isSo 3 rm_X6_isSo := O
  show WS mM E 3 0 [(0, rf E 0)] [] s0
  unfold f_X6_isSo at hf
  refine s_iconst (v := 0) O dX6_isSo_0 rfl ?_
  refine s_istore_n (lv' := [(1, .int 0), (0, rf E 0)]) O dX6_isSo_1 rfl (by decide) rfl ?_
  refine s_loc [1, 0] rfl ?_
  obtain ⟨s7, e8, c9, hf⟩ := bn_e hf
  refine lp_of (body := fun s v => fb_X6_isSo_l2  s v) (X := fun s v => WS mM E 3 2 [(0, rf E 0), (1, .int v)] [] s) (Y := fun s e => WS mM E 3 31 [(0, rf E 0)] [] s) (fun s v s' w hb Kc Ke => wb_X6_isSo_l2 (rr := rr) O   hret Kc Ke hb) FU _ _ (s7, e8) c9 ?_
  show WS mM E 3 31 [(0, rf E 0)] [] s7
  refine s_iconst (v := 1) O dX6_isSo_31 rfl ?_
  refine s_istore_n (lv' := [(1, .int 1), (0, rf E 0)]) O dX6_isSo_32 rfl (by decide) rfl ?_
  refine s_iconst (v := 0) O dX6_isSo_33 rfl ?_
  refine s_istore_n (lv' := [(2, .int 0), (1, .int 1), (0, rf E 0)]) O dX6_isSo_34 rfl (by decide) rfl ?_
  refine s_loc [2, 1, 0] rfl ?_
  obtain ⟨s14, u35_1, c16, hf⟩ := bn_e hf
  refine lp_of (body := fun s v => fb_X6_isSo_l35  s v.1 v.2) (X := fun s v => WS mM E 3 35 [(0, rf E 0), (1, .int v.1), (2, .int v.2)] [] s) (Y := fun s e => WS mM E 3 94 [(1, .int e)] [] s) (fun s v s' w hb Kc Ke => wb_X6_isSo_l35 (rr := rr) O   hret Kc Ke hb) FU _ _ (s14, u35_1) c16 ?_
  show WS mM E 3 94 [(1, .int u35_1)] [] s14
  refine s_iload_n O 0 dX6_isSo_94 rfl rfl ?_
  obtain ⟨hz, hf⟩ := gz_e hf
  exact s_iret hret hz.nar dX6_isSo_95 hf
def rm_X6_isSoWith : Room := { frames := 5, cells := 0, slots := 0, locals := 111 }
def f_X6_isSoWith (a1 : Int32) (a2 : Int32) (a3 : Int32) (s0 : StA) : Option (StA × Int32) :=
  bn (f_X6_starts  s0) (fun s1 r2 => bn (f_X6_becomesOf a1 a2 a3 s1) (fun s4 r5 => bn (f_X6_isSo  s4) (fun s7 r8 => gz r8 (some (s7, r8)))))
set_option maxHeartbeats 4000000 in
set_option maxRecDepth 100000 in
theorem k_X6_isSoWith {a1 : Int32} {a2 : Int32} {a3 : Int32} {s0 zs : StA} {rr : Int32} (hf : f_X6_isSoWith a1 a2 a3 s0 = some (zs, rr)) : CtI mM yX6_isSoWith cX6_isSoWith 4 .boolean rm_X6_isSoWith (fun ph => [.ref (ph 0), .int a1, .int a2, .int a3]) s0 zs rr := by
  refine CtI.of (by decide +kernel) (fun ph => Nat.le_of_ble_eq_true rfl) (fun E O hret => ?_)
  have O : OK mM E RX6 cX6_isSoWith 4 rm_X6_isSoWith := O
  show WS mM E 4 0 [(0, rf E 0), (1, .int a1), (2, .int a2), (3, .int a3)] [] s0
  unfold f_X6_isSoWith at hf
  refine s_aload_n O 0 dX6_isSoWith_0 rfl rfl ?_
  obtain ⟨s1, r2, c3, hf⟩ := bn_e hf
  refine s_VV (As := []) (st := []) O lk_RX6_175 (k_X6_starts c3) rfl ms_0 rfl rfl ⟨rfl, rfl⟩ ⟨Nat.le_of_ble_eq_true rfl, Nat.le_of_ble_eq_true rfl⟩ rfl (Nat.le_of_ble_eq_true rfl) dX6_isSoWith_1 ?_
  refine s_aload_n O 0 dX6_isSoWith_4 rfl rfl ?_
  refine s_iload_n O 1 dX6_isSoWith_5 rfl rfl ?_
  refine s_iload_n O 2 dX6_isSoWith_6 rfl rfl ?_
  refine s_iload_n O 3 dX6_isSoWith_7 rfl rfl ?_
  obtain ⟨s4, r5, c6, hf⟩ := bn_e hf
  refine s_VV (As := [.int a1, .int a2, .int a3]) (st := []) O lk_RX6_162 (k_X6_becomesOf c6) rfl ms_0 rfl rfl ⟨rfl, rfl⟩ ⟨Nat.le_of_ble_eq_true rfl, Nat.le_of_ble_eq_true rfl⟩ rfl (Nat.le_of_ble_eq_true rfl) dX6_isSoWith_8 ?_
  refine s_aload_n O 0 dX6_isSoWith_11 rfl rfl ?_
  obtain ⟨s7, r8, c9, hf⟩ := bn_e hf
  refine s_VI (As := []) (st := []) O lk_RX6_286 (k_X6_isSo c9) rfl ms_0 rfl rfl ⟨rfl, rfl⟩ ⟨Nat.le_of_ble_eq_true rfl, Nat.le_of_ble_eq_true rfl⟩ rfl (Nat.le_of_ble_eq_true rfl) dX6_isSoWith_12 ?_
  obtain ⟨hz, hf⟩ := gz_e hf
  exact s_iret hret hz.nar dX6_isSoWith_15 hf
def rm_X6_kinds : Room := { frames := 6, cells := 0, slots := 0, locals := 134 }
def fb_X6_kinds_l14 (a1 : Int32) (x1 : Int32) (s0 : StA) (v2 : Int32) (v3 : Int32) : Option (StA × ((Int32 × Int32) ⊕ (Int32))) :=
  (if 4 ≤ v3 then some (s0, .inr v2) else bn (f_X6_isSoWith x1 0 v3 s0) (fun s4 r5 => bn (f_X6_flag r5 s4) (fun s7 r8 => nmi (v2 ||| (r8 <<< (v3 &&& 31))) (fun n10 => some (s7, .inl (n10, (v3 + 1)))))))
set_option maxHeartbeats 4000000 in
set_option maxRecDepth 100000 in
theorem wb_X6_kinds_l14 {E : XC} (O : OK mM E RX6 cX6_kinds 4 rm_X6_kinds) {a1 : Int32}  {x1 : Int32} {s0 : StA} {v2 : Int32} {v3 : Int32} {zs : StA} {rr : Int32} (hret : ReI mM E .int cX6_kinds zs rr) {bs : StA} {bw : (Int32 × Int32) ⊕ (Int32)} (Kc : ∀ v, bw = .inl v → WS mM E 4 14 [(0, rf E 0), (1, .int x1), (2, .int v.1), (3, .int v.2)] [] bs) (Ke : ∀ e, bw = .inr e → WS mM E 4 40 [(2, .int e)] [] bs) (hf : fb_X6_kinds_l14 a1 x1 s0 v2 v3 = some (bs, bw)) : WS mM E 4 14 [(0, rf E 0), (1, .int x1), (2, .int v2), (3, .int v3)] [] s0 := by
  unfold fb_X6_kinds_l14 at hf
  refine s_iload_n O 3 dX6_kinds_14 rfl rfl ?_
  refine s_iconst (v := 4) O dX6_kinds_15 rfl ?_
  refine s_icmp_ge (tgt := 40) O dX6_kinds_16 (by decide) (fun c => ?_) (fun c => ?_)
  · replace hf := if_t c hf
    refine s_loc [2] rfl ?_
    cases hf
    exact Ke _ rfl
  · replace hf := if_f c hf
    refine s_iload_n O 2 dX6_kinds_19 rfl rfl ?_
    refine s_aload_n O 0 dX6_kinds_20 rfl rfl ?_
    refine s_iload_n O 1 dX6_kinds_21 rfl rfl ?_
    refine s_iconst (v := 0) O dX6_kinds_22 rfl ?_
    refine s_iload_n O 3 dX6_kinds_23 rfl rfl ?_
    obtain ⟨s4, r5, c6, hf⟩ := bn_e hf
    refine s_VI (As := [.int x1, .int 0, .int v3]) (st := [.int v2]) O lk_RX6_290 (k_X6_isSoWith c6) rfl ms_0 rfl rfl ⟨rfl, rfl⟩ ⟨Nat.le_of_ble_eq_true rfl, Nat.le_of_ble_eq_true rfl⟩ rfl (Nat.le_of_ble_eq_true rfl) dX6_kinds_24 ?_
    obtain ⟨s7, r8, c9, hf⟩ := bn_e hf
    refine s_SI (As := [.int r5]) (st := [.int v2]) O lk_RX6_219 (k_X6_flag c9) rfl rfl ⟨rfl, rfl⟩ ⟨Nat.le_of_ble_eq_true rfl, Nat.le_of_ble_eq_true rfl⟩ rfl (Nat.le_of_ble_eq_true rfl) dX6_kinds_27 ?_
    refine s_iload_n O 3 dX6_kinds_30 rfl rfl ?_
    refine s_ishl O dX6_kinds_31 ?_
    refine s_ior O dX6_kinds_32 ?_
    refine s_topi (fun n10 en10 => ?_)
    replace hf := nmi_e en10 hf
    refine s_istore_n (lv' := [(2, .int n10), (0, rf E 0), (1, .int x1), (3, .int v3)]) O dX6_kinds_33 rfl (by decide) rfl ?_
    refine s_iinc (v := (v3 + 1)) (lv' := [(3, .int (v3 + 1)), (2, .int n10), (0, rf E 0), (1, .int x1)]) O 3 dX6_kinds_34 rfl rfl (by decide) rfl ?_
    refine s_goto (tgt := 14) O dX6_kinds_37 (by decide) ?_
    refine s_loc [2, 3, 1, 0] rfl ?_
    cases hf
    exact Kc _ rfl
def fl_X6_kinds_l14 (a1 : Int32) (x1 : Int32) (s0 : StA) (v : Int32 × Int32) : Option (StA × ((Int32))) :=
  it (fun s v => fb_X6_kinds_l14 a1 x1 s v.1 v.2) FU s0 v
def f_X6_kinds (a1 : Int32) (s0 : StA) : Option (StA × Int32) :=
  bn (f_X6_isThing a1 s0) (fun s1 r2 => (if r2 = 0 then some (s1, (-1)) else bn (fl_X6_kinds_l14 a1 a1 s1 (0, 0)) (fun s11 u14_2 => some (s11, u14_2))))
set_option maxHeartbeats 4000000 in
set_option maxRecDepth 100000 in
theorem k_X6_kinds {a1 : Int32} {s0 zs : StA} {rr : Int32} (hf : f_X6_kinds a1 s0 = some (zs, rr)) : CtI mM yX6_kinds cX6_kinds 4 .int rm_X6_kinds (fun ph => [.ref (ph 0), .int a1]) s0 zs rr := by
  refine CtI.of (by decide +kernel) (fun ph => Nat.le_of_ble_eq_true rfl) (fun E O hret => ?_)
  have O : OK mM E RX6 cX6_kinds 4 rm_X6_kinds := O
  show WS mM E 4 0 [(0, rf E 0), (1, .int a1)] [] s0
  unfold f_X6_kinds at hf
  refine s_aload_n O 0 dX6_kinds_0 rfl rfl ?_
  refine s_iload_n O 1 dX6_kinds_1 rfl rfl ?_
  obtain ⟨s1, r2, c3, hf⟩ := bn_e hf
  refine s_VI (As := [.int a1]) (st := []) O lk_RX6_181 (k_X6_isThing c3) rfl ms_0 rfl rfl ⟨rfl, rfl⟩ ⟨Nat.le_of_ble_eq_true rfl, Nat.le_of_ble_eq_true rfl⟩ rfl (Nat.le_of_ble_eq_true rfl) dX6_kinds_2 ?_
  refine s_if_ne (tgt := 10) O dX6_kinds_5 (by decide) (fun c => ?_) (fun c => ?_)
  · replace hf := if_f c hf
    refine s_iconst (v := 0) O dX6_kinds_10 rfl ?_
    refine s_istore_n (lv' := [(2, .int 0), (0, rf E 0), (1, .int a1)]) O dX6_kinds_11 rfl (by decide) rfl ?_
    refine s_iconst (v := 0) O dX6_kinds_12 rfl ?_
    refine s_istore_n (lv' := [(3, .int 0), (2, .int 0), (0, rf E 0), (1, .int a1)]) O dX6_kinds_13 rfl (by decide) rfl ?_
    refine s_loc [2, 3, 1, 0] rfl ?_
    obtain ⟨s11, u14_2, c13, hf⟩ := bn_e hf
    refine lp_of (body := fun s v => fb_X6_kinds_l14 a1 a1 s v.1 v.2) (X := fun s v => WS mM E 4 14 [(0, rf E 0), (1, .int a1), (2, .int v.1), (3, .int v.2)] [] s) (Y := fun s e => WS mM E 4 40 [(2, .int e)] [] s) (fun s v s' w hb Kc Ke => wb_X6_kinds_l14 (rr := rr) O   hret Kc Ke hb) FU _ _ (s11, u14_2) c13 ?_
    show WS mM E 4 40 [(2, .int u14_2)] [] s11
    refine s_iload_n O 0 dX6_kinds_40 rfl rfl ?_
    exact s_iret hret rfl dX6_kinds_41 hf
  · replace hf := if_t c hf
    refine s_iconst (v := (-1)) O dX6_kinds_8 rfl ?_
    exact s_iret hret rfl dX6_kinds_9 hf
def rm_X6_weights : Room := { frames := 6, cells := 0, slots := 0, locals := 134 }
def fb_X6_weights_l14 (a1 : Int32) (x1 : Int32) (s0 : StA) (v2 : Int32) (v3 : Int32) : Option (StA × ((Int32 × Int32) ⊕ (Int32))) :=
  (if 9 < v3 then some (s0, .inr v2) else bn (f_X6_isSoWith x1 1 v3 s0) (fun s4 r5 => bn (f_X6_flag r5 s4) (fun s7 r8 => nmi (v2 ||| (r8 <<< (v3 &&& 31))) (fun n10 => some (s7, .inl (n10, (v3 + 1)))))))
set_option maxHeartbeats 4000000 in
set_option maxRecDepth 100000 in
theorem wb_X6_weights_l14 {E : XC} (O : OK mM E RX6 cX6_weights 4 rm_X6_weights) {a1 : Int32}  {x1 : Int32} {s0 : StA} {v2 : Int32} {v3 : Int32} {zs : StA} {rr : Int32} (hret : ReI mM E .int cX6_weights zs rr) {bs : StA} {bw : (Int32 × Int32) ⊕ (Int32)} (Kc : ∀ v, bw = .inl v → WS mM E 4 14 [(0, rf E 0), (1, .int x1), (2, .int v.1), (3, .int v.2)] [] bs) (Ke : ∀ e, bw = .inr e → WS mM E 4 41 [(2, .int e)] [] bs) (hf : fb_X6_weights_l14 a1 x1 s0 v2 v3 = some (bs, bw)) : WS mM E 4 14 [(0, rf E 0), (1, .int x1), (2, .int v2), (3, .int v3)] [] s0 := by
  unfold fb_X6_weights_l14 at hf
  refine s_iload_n O 3 dX6_weights_14 rfl rfl ?_
  refine s_bipush (v := 9) O dX6_weights_15 rfl ?_
  refine s_icmp_gt (tgt := 41) O dX6_weights_17 (by decide) (fun c => ?_) (fun c => ?_)
  · replace hf := if_t c hf
    refine s_loc [2] rfl ?_
    cases hf
    exact Ke _ rfl
  · replace hf := if_f c hf
    refine s_iload_n O 2 dX6_weights_20 rfl rfl ?_
    refine s_aload_n O 0 dX6_weights_21 rfl rfl ?_
    refine s_iload_n O 1 dX6_weights_22 rfl rfl ?_
    refine s_iconst (v := 1) O dX6_weights_23 rfl ?_
    refine s_iload_n O 3 dX6_weights_24 rfl rfl ?_
    obtain ⟨s4, r5, c6, hf⟩ := bn_e hf
    refine s_VI (As := [.int x1, .int 1, .int v3]) (st := [.int v2]) O lk_RX6_290 (k_X6_isSoWith c6) rfl ms_0 rfl rfl ⟨rfl, rfl⟩ ⟨Nat.le_of_ble_eq_true rfl, Nat.le_of_ble_eq_true rfl⟩ rfl (Nat.le_of_ble_eq_true rfl) dX6_weights_25 ?_
    obtain ⟨s7, r8, c9, hf⟩ := bn_e hf
    refine s_SI (As := [.int r5]) (st := [.int v2]) O lk_RX6_219 (k_X6_flag c9) rfl rfl ⟨rfl, rfl⟩ ⟨Nat.le_of_ble_eq_true rfl, Nat.le_of_ble_eq_true rfl⟩ rfl (Nat.le_of_ble_eq_true rfl) dX6_weights_28 ?_
    refine s_iload_n O 3 dX6_weights_31 rfl rfl ?_
    refine s_ishl O dX6_weights_32 ?_
    refine s_ior O dX6_weights_33 ?_
    refine s_topi (fun n10 en10 => ?_)
    replace hf := nmi_e en10 hf
    refine s_istore_n (lv' := [(2, .int n10), (0, rf E 0), (1, .int x1), (3, .int v3)]) O dX6_weights_34 rfl (by decide) rfl ?_
    refine s_iinc (v := (v3 + 1)) (lv' := [(3, .int (v3 + 1)), (2, .int n10), (0, rf E 0), (1, .int x1)]) O 3 dX6_weights_35 rfl rfl (by decide) rfl ?_
    refine s_goto (tgt := 14) O dX6_weights_38 (by decide) ?_
    refine s_loc [2, 3, 1, 0] rfl ?_
    cases hf
    exact Kc _ rfl
def fl_X6_weights_l14 (a1 : Int32) (x1 : Int32) (s0 : StA) (v : Int32 × Int32) : Option (StA × ((Int32))) :=
  it (fun s v => fb_X6_weights_l14 a1 x1 s v.1 v.2) FU s0 v
def f_X6_weights (a1 : Int32) (s0 : StA) : Option (StA × Int32) :=
  bn (f_X6_isThing a1 s0) (fun s1 r2 => (if r2 = 0 then some (s1, (-1)) else bn (fl_X6_weights_l14 a1 a1 s1 (0, 1)) (fun s11 u14_2 => some (s11, u14_2))))
set_option maxHeartbeats 4000000 in
set_option maxRecDepth 100000 in
theorem k_X6_weights {a1 : Int32} {s0 zs : StA} {rr : Int32} (hf : f_X6_weights a1 s0 = some (zs, rr)) : CtI mM yX6_weights cX6_weights 4 .int rm_X6_weights (fun ph => [.ref (ph 0), .int a1]) s0 zs rr := by
  refine CtI.of (by decide +kernel) (fun ph => Nat.le_of_ble_eq_true rfl) (fun E O hret => ?_)
  have O : OK mM E RX6 cX6_weights 4 rm_X6_weights := O
  show WS mM E 4 0 [(0, rf E 0), (1, .int a1)] [] s0
  unfold f_X6_weights at hf
  refine s_aload_n O 0 dX6_weights_0 rfl rfl ?_
  refine s_iload_n O 1 dX6_weights_1 rfl rfl ?_
  obtain ⟨s1, r2, c3, hf⟩ := bn_e hf
  refine s_VI (As := [.int a1]) (st := []) O lk_RX6_181 (k_X6_isThing c3) rfl ms_0 rfl rfl ⟨rfl, rfl⟩ ⟨Nat.le_of_ble_eq_true rfl, Nat.le_of_ble_eq_true rfl⟩ rfl (Nat.le_of_ble_eq_true rfl) dX6_weights_2 ?_
  refine s_if_ne (tgt := 10) O dX6_weights_5 (by decide) (fun c => ?_) (fun c => ?_)
  · replace hf := if_f c hf
    refine s_iconst (v := 0) O dX6_weights_10 rfl ?_
    refine s_istore_n (lv' := [(2, .int 0), (0, rf E 0), (1, .int a1)]) O dX6_weights_11 rfl (by decide) rfl ?_
    refine s_iconst (v := 1) O dX6_weights_12 rfl ?_
    refine s_istore_n (lv' := [(3, .int 1), (2, .int 0), (0, rf E 0), (1, .int a1)]) O dX6_weights_13 rfl (by decide) rfl ?_
    refine s_loc [2, 3, 1, 0] rfl ?_
    obtain ⟨s11, u14_2, c13, hf⟩ := bn_e hf
    refine lp_of (body := fun s v => fb_X6_weights_l14 a1 a1 s v.1 v.2) (X := fun s v => WS mM E 4 14 [(0, rf E 0), (1, .int a1), (2, .int v.1), (3, .int v.2)] [] s) (Y := fun s e => WS mM E 4 41 [(2, .int e)] [] s) (fun s v s' w hb Kc Ke => wb_X6_weights_l14 (rr := rr) O   hret Kc Ke hb) FU _ _ (s11, u14_2) c13 ?_
    show WS mM E 4 41 [(2, .int u14_2)] [] s11
    refine s_iload_n O 0 dX6_weights_41 rfl rfl ?_
    exact s_iret hret rfl dX6_weights_42 hf
  · replace hf := if_t c hf
    refine s_iconst (v := (-1)) O dX6_weights_8 rfl ?_
    exact s_iret hret rfl dX6_weights_9 hf
def rm_X6_saids : Room := { frames := 5, cells := 0, slots := 0, locals := 111 }
def fb_X6_saids_l35 (a1 : Int32) (x1 : Int32) (x2 : Int32) (x3 : Int32) (x4 : Int32) (s0 : StA) (v5 : Int32) : Option (StA × ((Int32) ⊕ (Unit))) :=
  (if (gi s0 0 3) ≤ v5 then some (s0, .inr ()) else bn (f_X6_becomesOf v5 3 ((x4 >>> (v5 &&& 31)) &&& 1) s0) (fun s7 r8 => some (s7, .inl (v5 + 1))))
set_option maxHeartbeats 4000000 in
set_option maxRecDepth 100000 in
theorem wb_X6_saids_l35 {E : XC} (O : OK mM E RX6 cX6_saids 6 rm_X6_saids) {a1 : Int32}  {x1 : Int32} {x2 : Int32} {x3 : Int32} {x4 : Int32} {s0 : StA} {v5 : Int32} {zs : StA} {rr : Int32} (hret : ReI mM E .int cX6_saids zs rr) {bs : StA} {bw : (Int32) ⊕ (Unit)} (Kc : ∀ v, bw = .inl v → WS mM E 6 35 [(0, rf E 0), (1, .int x1), (2, .int x2), (3, .int x3), (4, .int x4), (5, .int v)] [] bs) (Ke : ∀ e, bw = .inr e → WS mM E 6 64 [(0, rf E 0), (1, .int x1), (2, .int x2), (3, .int x3), (4, .int x4)] [] bs) (hf : fb_X6_saids_l35 a1 x1 x2 x3 x4 s0 v5 = some (bs, bw)) : WS mM E 6 35 [(0, rf E 0), (1, .int x1), (2, .int x2), (3, .int x3), (4, .int x4), (5, .int v5)] [] s0 := by
  unfold fb_X6_saids_l35 at hf
  refine s_iload O 5 dX6_saids_35 rfl ?_
  refine s_aload_n O 0 dX6_saids_37 rfl rfl ?_
  refine s_getI O fg_RX6_64 ms_0 rfl dX6_saids_38 ?_
  refine s_icmp_ge (tgt := 64) O dX6_saids_41 (by decide) (fun c => ?_) (fun c => ?_)
  · replace hf := if_t c hf
    refine s_loc [0, 1, 2, 3, 4] rfl ?_
    cases hf
    exact Ke _ rfl
  · replace hf := if_f c hf
    refine s_aload_n O 0 dX6_saids_44 rfl rfl ?_
    refine s_iload O 5 dX6_saids_45 rfl ?_
    refine s_iconst (v := 3) O dX6_saids_47 rfl ?_
    refine s_iload O 4 dX6_saids_48 rfl ?_
    refine s_iload O 5 dX6_saids_50 rfl ?_
    refine s_ishr O dX6_saids_52 ?_
    refine s_iconst (v := 1) O dX6_saids_53 rfl ?_
    refine s_iand O dX6_saids_54 ?_
    obtain ⟨s7, r8, c9, hf⟩ := bn_e hf
    refine s_VV (As := [.int v5, .int 3, .int ((x4 >>> (v5 &&& 31)) &&& 1)]) (st := []) O lk_RX6_162 (k_X6_becomesOf c9) rfl ms_0 rfl rfl ⟨rfl, rfl⟩ ⟨Nat.le_of_ble_eq_true rfl, Nat.le_of_ble_eq_true rfl⟩ rfl (Nat.le_of_ble_eq_true rfl) dX6_saids_55 ?_
    refine s_iinc (v := (v5 + 1)) (lv' := [(5, .int (v5 + 1)), (0, rf E 0), (1, .int x1), (2, .int x2), (3, .int x3), (4, .int x4)]) O 5 dX6_saids_58 rfl rfl (by decide) rfl ?_
    refine s_goto (tgt := 35) O dX6_saids_61 (by decide) ?_
    refine s_loc [1, 2, 3, 4, 5, 0] rfl ?_
    cases hf
    exact Kc _ rfl
def fl_X6_saids_l35 (a1 : Int32) (x1 : Int32) (x2 : Int32) (x3 : Int32) (x4 : Int32) (s0 : StA) (v : Int32) : Option (StA × ((Unit))) :=
  it (fun s v => fb_X6_saids_l35 a1 x1 x2 x3 x4 s v) FU s0 v
def fb_X6_saids_l17 (a1 : Int32) (x1 : Int32) (s0 : StA) (v2 : Int32) (v3 : Int32) (v4 : Int32) : Option (StA × ((Int32 × Int32 × Int32) ⊕ (Int32 × Int32))) :=
  (if (1 <<< ((gi s0 0 3) &&& 31)) ≤ v4 then some (s0, .inr (v2, v3)) else bn (f_X6_starts  s0) (fun s4 r5 => bn (fl_X6_saids_l35 a1 x1 v2 v3 v4 s4 0) (fun s10 e11 => bn (f_X6_isSo  s10) (fun s13 r14 => (if r14 = 0 then some (s13, .inl (v2, v3, (v4 + 1))) else (if v2 = 0 then some (s13, .inl ((v2 + 1), v4, (v4 + 1))) else some (s13, .inl ((v2 + 1), v3, (v4 + 1)))))))))
set_option maxHeartbeats 4000000 in
set_option maxRecDepth 100000 in
theorem wb_X6_saids_l17 {E : XC} (O : OK mM E RX6 cX6_saids 6 rm_X6_saids) {a1 : Int32}  {x1 : Int32} {s0 : StA} {v2 : Int32} {v3 : Int32} {v4 : Int32} {zs : StA} {rr : Int32} (hret : ReI mM E .int cX6_saids zs rr) {bs : StA} {bw : (Int32 × Int32 × Int32) ⊕ (Int32 × Int32)} (Kc : ∀ v, bw = .inl v → WS mM E 6 17 [(0, rf E 0), (1, .int x1), (2, .int v.1), (3, .int v.2.1), (4, .int v.2.2)] [] bs) (Ke : ∀ e, bw = .inr e → WS mM E 6 91 [(1, .int x1), (2, .int e.1), (3, .int e.2)] [] bs) (hf : fb_X6_saids_l17 a1 x1 s0 v2 v3 v4 = some (bs, bw)) : WS mM E 6 17 [(0, rf E 0), (1, .int x1), (2, .int v2), (3, .int v3), (4, .int v4)] [] s0 := by
  unfold fb_X6_saids_l17 at hf
  refine s_iload O 4 dX6_saids_17 rfl ?_
  refine s_iconst (v := 1) O dX6_saids_19 rfl ?_
  refine s_aload_n O 0 dX6_saids_20 rfl rfl ?_
  refine s_getI O fg_RX6_64 ms_0 rfl dX6_saids_21 ?_
  refine s_ishl O dX6_saids_24 ?_
  refine s_icmp_ge (tgt := 91) O dX6_saids_25 (by decide) (fun c => ?_) (fun c => ?_)
  · replace hf := if_t c hf
    refine s_loc [1, 2, 3] rfl ?_
    cases hf
    exact Ke _ rfl
  · replace hf := if_f c hf
    refine s_aload_n O 0 dX6_saids_28 rfl rfl ?_
    obtain ⟨s4, r5, c6, hf⟩ := bn_e hf
    refine s_VV (As := []) (st := []) O lk_RX6_175 (k_X6_starts c6) rfl ms_0 rfl rfl ⟨rfl, rfl⟩ ⟨Nat.le_of_ble_eq_true rfl, Nat.le_of_ble_eq_true rfl⟩ rfl (Nat.le_of_ble_eq_true rfl) dX6_saids_29 ?_
    refine s_iconst (v := 0) O dX6_saids_32 rfl ?_
    refine s_istore (lv' := [(5, .int 0), (0, rf E 0), (1, .int x1), (2, .int v2), (3, .int v3), (4, .int v4)]) O dX6_saids_33 (by decide) rfl ?_
    refine s_loc [1, 2, 3, 4, 5, 0] rfl ?_
    obtain ⟨s10, e11, c12, hf⟩ := bn_e hf
    refine lp_of (body := fun s v => fb_X6_saids_l35 a1 x1 v2 v3 v4 s v) (X := fun s v => WS mM E 6 35 [(0, rf E 0), (1, .int x1), (2, .int v2), (3, .int v3), (4, .int v4), (5, .int v)] [] s) (Y := fun s e => WS mM E 6 64 [(0, rf E 0), (1, .int x1), (2, .int v2), (3, .int v3), (4, .int v4)] [] s) (fun s v s' w hb Kc Ke => wb_X6_saids_l35 (rr := rr) O   hret Kc Ke hb) FU _ _ (s10, e11) c12 ?_
    show WS mM E 6 64 [(0, rf E 0), (1, .int x1), (2, .int v2), (3, .int v3), (4, .int v4)] [] s10
    refine s_aload_n O 0 dX6_saids_64 rfl rfl ?_
    obtain ⟨s13, r14, c15, hf⟩ := bn_e hf
    refine s_VI (As := []) (st := []) O lk_RX6_286 (k_X6_isSo c15) rfl ms_0 rfl rfl ⟨rfl, rfl⟩ ⟨Nat.le_of_ble_eq_true rfl, Nat.le_of_ble_eq_true rfl⟩ rfl (Nat.le_of_ble_eq_true rfl) dX6_saids_65 ?_
    refine s_if_eq (tgt := 85) O dX6_saids_68 (by decide) (fun c => ?_) (fun c => ?_)
    · replace hf := if_t c hf
      refine s_iinc (v := (v4 + 1)) (lv' := [(4, .int (v4 + 1)), (0, rf E 0), (1, .int x1), (2, .int v2), (3, .int v3)]) O 4 dX6_saids_85 rfl rfl (by decide) rfl ?_
      refine s_goto (tgt := 17) O dX6_saids_88 (by decide) ?_
      refine s_loc [1, 2, 3, 4, 0] rfl ?_
      cases hf
      exact Kc _ rfl
    · replace hf := if_f c hf
      refine s_iload_n O 2 dX6_saids_71 rfl rfl ?_
      refine s_if_ne (tgt := 80) O dX6_saids_72 (by decide) (fun c => ?_) (fun c => ?_)
      · replace hf := if_f c hf
        refine s_iload_n O 3 dX6_saids_80 rfl rfl ?_
        refine s_istore_n (lv' := [(3, .int v3), (0, rf E 0), (1, .int x1), (2, .int v2), (4, .int v4)]) O dX6_saids_81 rfl (by decide) rfl ?_
        refine s_iinc (v := (v2 + 1)) (lv' := [(2, .int (v2 + 1)), (3, .int v3), (0, rf E 0), (1, .int x1), (4, .int v4)]) O 3 dX6_saids_82 rfl rfl (by decide) rfl ?_
        refine s_iinc (v := (v4 + 1)) (lv' := [(4, .int (v4 + 1)), (2, .int (v2 + 1)), (3, .int v3), (0, rf E 0), (1, .int x1)]) O 4 dX6_saids_85 rfl rfl (by decide) rfl ?_
        refine s_goto (tgt := 17) O dX6_saids_88 (by decide) ?_
        refine s_loc [3, 4, 1, 2, 0] rfl ?_
        cases hf
        exact Kc _ rfl
      · replace hf := if_t c hf
        refine s_iload O 4 dX6_saids_75 rfl ?_
        refine s_goto (tgt := 81) O dX6_saids_77 (by decide) ?_
        refine s_istore_n (lv' := [(3, .int v4), (0, rf E 0), (1, .int x1), (2, .int v2), (4, .int v4)]) O dX6_saids_81 rfl (by decide) rfl ?_
        refine s_iinc (v := (v2 + 1)) (lv' := [(2, .int (v2 + 1)), (3, .int v4), (0, rf E 0), (1, .int x1), (4, .int v4)]) O 3 dX6_saids_82 rfl rfl (by decide) rfl ?_
        refine s_iinc (v := (v4 + 1)) (lv' := [(4, .int (v4 + 1)), (2, .int (v2 + 1)), (3, .int v4), (0, rf E 0), (1, .int x1)]) O 4 dX6_saids_85 rfl rfl (by decide) rfl ?_
        refine s_goto (tgt := 17) O dX6_saids_88 (by decide) ?_
        refine s_loc [3, 4, 1, 2, 0] rfl ?_
        cases hf
        exact Kc _ rfl
def fl_X6_saids_l17 (a1 : Int32) (x1 : Int32) (s0 : StA) (v : Int32 × Int32 × Int32) : Option (StA × ((Int32 × Int32))) :=
  it (fun s v => fb_X6_saids_l17 a1 x1 s v.1 v.2.1 v.2.2) FU s0 v
def f_X6_saids (a1 : Int32) (s0 : StA) : Option (StA × Int32) :=
  bn (f_X6_isPart a1 s0) (fun s1 r2 => (if r2 = 0 then some (s1, (-1)) else bn (fl_X6_saids_l17 a1 a1 s1 (0, (-4), 0)) (fun s16 e17 => match e17 with | (u17_2, u17_3) => (if a1 = 0 then some (s16, u17_2) else some (s16, u17_3)))))
set_option maxHeartbeats 4000000 in
set_option maxRecDepth 100000 in
theorem k_X6_saids {a1 : Int32} {s0 zs : StA} {rr : Int32} (hf : f_X6_saids a1 s0 = some (zs, rr)) : CtI mM yX6_saids cX6_saids 6 .int rm_X6_saids (fun ph => [.ref (ph 0), .int a1]) s0 zs rr := by
  refine CtI.of (by decide +kernel) (fun ph => Nat.le_of_ble_eq_true rfl) (fun E O hret => ?_)
  have O : OK mM E RX6 cX6_saids 6 rm_X6_saids := O
  show WS mM E 6 0 [(0, rf E 0), (1, .int a1)] [] s0
  unfold f_X6_saids at hf
  refine s_iload_n O 1 dX6_saids_0 rfl rfl ?_
  obtain ⟨s1, r2, c3, hf⟩ := bn_e hf
  refine s_SI (As := [.int a1]) (st := []) O lk_RX6_188 (k_X6_isPart c3) rfl rfl ⟨rfl, rfl⟩ ⟨Nat.le_of_ble_eq_true rfl, Nat.le_of_ble_eq_true rfl⟩ rfl (Nat.le_of_ble_eq_true rfl) dX6_saids_1 ?_
  refine s_if_ne (tgt := 9) O dX6_saids_4 (by decide) (fun c => ?_) (fun c => ?_)
  · replace hf := if_f c hf
    refine s_iconst (v := 0) O dX6_saids_9 rfl ?_
    refine s_istore_n (lv' := [(2, .int 0), (0, rf E 0), (1, .int a1)]) O dX6_saids_10 rfl (by decide) rfl ?_
    refine s_bipush (v := (-4)) O dX6_saids_11 rfl ?_
    refine s_istore_n (lv' := [(3, .int (-4)), (2, .int 0), (0, rf E 0), (1, .int a1)]) O dX6_saids_13 rfl (by decide) rfl ?_
    refine s_iconst (v := 0) O dX6_saids_14 rfl ?_
    refine s_istore (lv' := [(4, .int 0), (3, .int (-4)), (2, .int 0), (0, rf E 0), (1, .int a1)]) O dX6_saids_15 (by decide) rfl ?_
    refine s_loc [3, 4, 2, 1, 0] rfl ?_
    obtain ⟨s16, e17, c18, hf⟩ := bn_e hf
    obtain ⟨u17_2, u17_3⟩ := e17
    refine lp_of (body := fun s v => fb_X6_saids_l17 a1 a1 s v.1 v.2.1 v.2.2) (X := fun s v => WS mM E 6 17 [(0, rf E 0), (1, .int a1), (2, .int v.1), (3, .int v.2.1), (4, .int v.2.2)] [] s) (Y := fun s e => WS mM E 6 91 [(1, .int a1), (2, .int e.1), (3, .int e.2)] [] s) (fun s v s' w hb Kc Ke => wb_X6_saids_l17 (rr := rr) O   hret Kc Ke hb) FU _ _ (s16, (u17_2, u17_3)) c18 ?_
    show WS mM E 6 91 [(1, .int a1), (2, .int u17_2), (3, .int u17_3)] [] s16
    refine s_iload_n O 0 dX6_saids_91 rfl rfl ?_
    refine s_if_ne (tgt := 99) O dX6_saids_92 (by decide) (fun c => ?_) (fun c => ?_)
    · replace hf := if_f c hf
      refine s_iload_n O 2 dX6_saids_99 rfl rfl ?_
      exact s_iret hret rfl dX6_saids_100 hf
    · replace hf := if_t c hf
      refine s_iload_n O 1 dX6_saids_95 rfl rfl ?_
      refine s_goto (tgt := 100) O dX6_saids_96 (by decide) ?_
      exact s_iret hret rfl dX6_saids_100 hf
  · replace hf := if_t c hf
    refine s_iconst (v := (-1)) O dX6_saids_7 rfl ?_
    exact s_iret hret rfl dX6_saids_8 hf
def rm_X6_ask : Room := { frames := 6, cells := 0, slots := 0, locals := 134 }
def fb_X6_ask_l43 (a1 : Int32) (a2 : Int32) (x1 : Int32) (x2 : Int32) (x3 : Int32) (x4 : Int32) (s0 : StA) (v5 : Int32) : Option (StA × ((Int32) ⊕ (Unit))) :=
  (if 30 < v5 then some (s0, .inr ()) else gd v5 31 (gd ((31 * x3) + v5) 279 (nms (si s0 7 (((31 * x3) + v5).toNatClampNeg) (gi s0 6 v5.toNatClampNeg)) (fun s12 => some (s12, .inl (v5 + 1))))))
set_option maxHeartbeats 4000000 in
set_option maxRecDepth 100000 in
theorem wb_X6_ask_l43 {E : XC} (O : OK mM E RX6 cX6_ask 9 rm_X6_ask) {a1 : Int32} {a2 : Int32}  {x1 : Int32} {x2 : Int32} {x3 : Int32} {x4 : Int32} {s0 : StA} {v5 : Int32} {zs : StA} {rr : Int32} (hret : ReI mM E .int cX6_ask zs rr) {bs : StA} {bw : (Int32) ⊕ (Unit)} (Kc : ∀ v, bw = .inl v → WS mM E 9 43 [(0, rf E 0), (1, .int x1), (2, .int x2), (3, .int x3), (4, .int x4), (5, .int v)] [] bs) (Ke : ∀ e, bw = .inr e → WS mM E 9 75 [(0, rf E 0), (1, .int x1), (2, .int x2), (3, .int x3), (4, .int x4)] [] bs) (hf : fb_X6_ask_l43 a1 a2 x1 x2 x3 x4 s0 v5 = some (bs, bw)) : WS mM E 9 43 [(0, rf E 0), (1, .int x1), (2, .int x2), (3, .int x3), (4, .int x4), (5, .int v5)] [] s0 := by
  unfold fb_X6_ask_l43 at hf
  refine s_iload O 5 dX6_ask_43 rfl ?_
  refine s_bipush (v := 30) O dX6_ask_45 rfl ?_
  refine s_icmp_gt (tgt := 75) O dX6_ask_47 (by decide) (fun c => ?_) (fun c => ?_)
  · replace hf := if_t c hf
    refine s_loc [0, 1, 2, 3, 4] rfl ?_
    cases hf
    exact Ke _ rfl
  · replace hf := if_f c hf
    refine s_aload_n O 0 dX6_ask_50 rfl rfl ?_
    refine s_getR O fg_RX6_29 ms_0 rfl dX6_ask_51 ?_
    refine s_bipush (v := 31) O dX6_ask_54 rfl ?_
    refine s_iload_n O 3 dX6_ask_56 rfl rfl ?_
    refine s_imul O dX6_ask_57 ?_
    refine s_iload O 5 dX6_ask_58 rfl ?_
    refine s_iadd O dX6_ask_60 ?_
    refine s_aload_n O 0 dX6_ask_61 rfl rfl ?_
    refine s_getR O fg_RX6_26 ms_0 rfl dX6_ask_62 ?_
    refine s_iload O 5 dX6_ask_65 rfl ?_
    obtain ⟨h10, hf⟩ := gd_e hf
    refine s_iald O ms_6 h10 dX6_ask_67 ?_
    obtain ⟨h11, hf⟩ := gd_e hf
    refine s_iast O ms_7 h11 dX6_ask_68 ?_
    refine s_tops (fun s12 es12 => ?_)
    replace hf := nms_e es12 hf
    refine s_iinc (v := (v5 + 1)) (lv' := [(5, .int (v5 + 1)), (0, rf E 0), (1, .int x1), (2, .int x2), (3, .int x3), (4, .int x4)]) O 5 dX6_ask_69 rfl rfl (by decide) rfl ?_
    refine s_goto (tgt := 43) O dX6_ask_72 (by decide) ?_
    refine s_loc [1, 2, 3, 4, 5, 0] rfl ?_
    cases hf
    exact Kc _ rfl
def fl_X6_ask_l43 (a1 : Int32) (a2 : Int32) (x1 : Int32) (x2 : Int32) (x3 : Int32) (x4 : Int32) (s0 : StA) (v : Int32) : Option (StA × ((Unit))) :=
  it (fun s v => fb_X6_ask_l43 a1 a2 x1 x2 x3 x4 s v) FU s0 v
def fb_X6_ask_l22 (a1 : Int32) (a2 : Int32) (x1 : Int32) (x2 : Int32) (s0 : StA) (v3 : Int32) (v4 : Int32) : Option (StA × ((Int32 × Int32) ⊕ (Int32))) :=
  (if 9 < v4 then some (s0, .inr v3) else bn (f_X6_isSoWith x1 1 v4 s0) (fun s7 r8 => (if r8 = 0 then some (s7, .inl (v3, (v4 + 1))) else bn (fl_X6_ask_l43 a1 a2 x1 x2 v3 v4 s7 0) (fun s13 e14 => some (s13, .inl ((v3 + 1), (v4 + 1)))))))
set_option maxHeartbeats 4000000 in
set_option maxRecDepth 100000 in
theorem wb_X6_ask_l22 {E : XC} (O : OK mM E RX6 cX6_ask 9 rm_X6_ask) {a1 : Int32} {a2 : Int32}  {x1 : Int32} {x2 : Int32} {s0 : StA} {v3 : Int32} {v4 : Int32} {zs : StA} {rr : Int32} (hret : ReI mM E .int cX6_ask zs rr) {bs : StA} {bw : (Int32 × Int32) ⊕ (Int32)} (Kc : ∀ v, bw = .inl v → WS mM E 9 22 [(0, rf E 0), (1, .int x1), (2, .int x2), (3, .int v.1), (4, .int v.2)] [] bs) (Ke : ∀ e, bw = .inr e → WS mM E 9 84 [(0, rf E 0), (2, .int x2), (3, .int e)] [] bs) (hf : fb_X6_ask_l22 a1 a2 x1 x2 s0 v3 v4 = some (bs, bw)) : WS mM E 9 22 [(0, rf E 0), (1, .int x1), (2, .int x2), (3, .int v3), (4, .int v4)] [] s0 := by
  unfold fb_X6_ask_l22 at hf
  refine s_iload O 4 dX6_ask_22 rfl ?_
  refine s_bipush (v := 9) O dX6_ask_24 rfl ?_
  refine s_icmp_gt (tgt := 84) O dX6_ask_26 (by decide) (fun c => ?_) (fun c => ?_)
  · replace hf := if_t c hf
    refine s_loc [0, 2, 3] rfl ?_
    cases hf
    exact Ke _ rfl
  · replace hf := if_f c hf
    refine s_aload_n O 0 dX6_ask_29 rfl rfl ?_
    refine s_iload_n O 1 dX6_ask_30 rfl rfl ?_
    refine s_iconst (v := 1) O dX6_ask_31 rfl ?_
    refine s_iload O 4 dX6_ask_32 rfl ?_
    obtain ⟨s7, r8, c9, hf⟩ := bn_e hf
    refine s_VI (As := [.int x1, .int 1, .int v4]) (st := []) O lk_RX6_290 (k_X6_isSoWith c9) rfl ms_0 rfl rfl ⟨rfl, rfl⟩ ⟨Nat.le_of_ble_eq_true rfl, Nat.le_of_ble_eq_true rfl⟩ rfl (Nat.le_of_ble_eq_true rfl) dX6_ask_34 ?_
    refine s_if_eq (tgt := 78) O dX6_ask_37 (by decide) (fun c => ?_) (fun c => ?_)
    · replace hf := if_t c hf
      refine s_iinc (v := (v4 + 1)) (lv' := [(4, .int (v4 + 1)), (0, rf E 0), (1, .int x1), (2, .int x2), (3, .int v3)]) O 4 dX6_ask_78 rfl rfl (by decide) rfl ?_
      refine s_goto (tgt := 22) O dX6_ask_81 (by decide) ?_
      refine s_loc [1, 2, 3, 4, 0] rfl ?_
      cases hf
      exact Kc _ rfl
    · replace hf := if_f c hf
      refine s_iconst (v := 0) O dX6_ask_40 rfl ?_
      refine s_istore (lv' := [(5, .int 0), (0, rf E 0), (1, .int x1), (2, .int x2), (3, .int v3), (4, .int v4)]) O dX6_ask_41 (by decide) rfl ?_
      refine s_loc [1, 2, 3, 4, 5, 0] rfl ?_
      obtain ⟨s13, e14, c15, hf⟩ := bn_e hf
      refine lp_of (body := fun s v => fb_X6_ask_l43 a1 a2 x1 x2 v3 v4 s v) (X := fun s v => WS mM E 9 43 [(0, rf E 0), (1, .int x1), (2, .int x2), (3, .int v3), (4, .int v4), (5, .int v)] [] s) (Y := fun s e => WS mM E 9 75 [(0, rf E 0), (1, .int x1), (2, .int x2), (3, .int v3), (4, .int v4)] [] s) (fun s v s' w hb Kc Ke => wb_X6_ask_l43 (rr := rr) O   hret Kc Ke hb) FU _ _ (s13, e14) c15 ?_
      show WS mM E 9 75 [(0, rf E 0), (1, .int x1), (2, .int x2), (3, .int v3), (4, .int v4)] [] s13
      refine s_iinc (v := (v3 + 1)) (lv' := [(3, .int (v3 + 1)), (0, rf E 0), (1, .int x1), (2, .int x2), (4, .int v4)]) O 3 dX6_ask_75 rfl rfl (by decide) rfl ?_
      refine s_iinc (v := (v4 + 1)) (lv' := [(4, .int (v4 + 1)), (3, .int (v3 + 1)), (0, rf E 0), (1, .int x1), (2, .int x2)]) O 4 dX6_ask_78 rfl rfl (by decide) rfl ?_
      refine s_goto (tgt := 22) O dX6_ask_81 (by decide) ?_
      refine s_loc [2, 3, 4, 1, 0] rfl ?_
      cases hf
      exact Kc _ rfl
def fl_X6_ask_l22 (a1 : Int32) (a2 : Int32) (x1 : Int32) (x2 : Int32) (s0 : StA) (v : Int32 × Int32) : Option (StA × ((Int32))) :=
  it (fun s v => fb_X6_ask_l22 a1 a2 x1 x2 s v.1 v.2) FU s0 v
def fb_X6_ask_l117 (a1 : Int32) (a2 : Int32) (x2 : Int32) (x3 : Int32) (x4 : Int32) (x5 : Int32) (x6 : Int32) (s0 : StA) (v7 : Int32) (v8 : Int32) : Option (StA × ((Int32 × Int32) ⊕ (Int32))) :=
  (if x3 ≤ v8 then some (s0, .inr v7) else gd ((31 * x6) + x4) 279 (gd ((31 * v8) + x4) 279 ((if (gi s0 7 ((31 * x6) + x4).toNatClampNeg) = (gi s0 7 ((31 * v8) + x4).toNatClampNeg) then bn (f_X6_flag 1 s0) (fun s28 r29 => nmi (v7 + r29) (fun n31 => some (s28, .inl (n31, (v8 + 1))))) else bn (f_X6_flag 0 s0) (fun s24 r25 => nmi (v7 + r25) (fun n27 => some (s24, .inl (n27, (v8 + 1)))))))))
set_option maxHeartbeats 4000000 in
set_option maxRecDepth 100000 in
theorem wb_X6_ask_l117 {E : XC} (O : OK mM E RX6 cX6_ask 9 rm_X6_ask) {a1 : Int32} {a2 : Int32}  {x2 : Int32} {x3 : Int32} {x4 : Int32} {x5 : Int32} {x6 : Int32} {s0 : StA} {v7 : Int32} {v8 : Int32} {zs : StA} {rr : Int32} (hret : ReI mM E .int cX6_ask zs rr) {bs : StA} {bw : (Int32 × Int32) ⊕ (Int32)} (Kc : ∀ v, bw = .inl v → WS mM E 9 117 [(0, rf E 0), (2, .int x2), (3, .int x3), (4, .int x4), (5, .int x5), (6, .int x6), (7, .int v.1), (8, .int v.2)] [] bs) (Ke : ∀ e, bw = .inr e → WS mM E 9 171 [(0, rf E 0), (2, .int x2), (3, .int x3), (4, .int x4), (5, .int x5), (6, .int x6), (7, .int e)] [] bs) (hf : fb_X6_ask_l117 a1 a2 x2 x3 x4 x5 x6 s0 v7 v8 = some (bs, bw)) : WS mM E 9 117 [(0, rf E 0), (2, .int x2), (3, .int x3), (4, .int x4), (5, .int x5), (6, .int x6), (7, .int v7), (8, .int v8)] [] s0 := by
  unfold fb_X6_ask_l117 at hf
  refine s_iload O 7 dX6_ask_117 rfl ?_
  refine s_iload_n O 2 dX6_ask_119 rfl rfl ?_
  refine s_icmp_ge (tgt := 171) O dX6_ask_120 (by decide) (fun c => ?_) (fun c => ?_)
  · replace hf := if_t c hf
    refine s_loc [0, 1, 2, 3, 4, 5, 6] rfl ?_
    cases hf
    exact Ke _ rfl
  · replace hf := if_f c hf
    refine s_iload O 6 dX6_ask_123 rfl ?_
    refine s_aload_n O 0 dX6_ask_125 rfl rfl ?_
    refine s_getR O fg_RX6_29 ms_0 rfl dX6_ask_126 ?_
    refine s_bipush (v := 31) O dX6_ask_129 rfl ?_
    refine s_iload O 5 dX6_ask_131 rfl ?_
    refine s_imul O dX6_ask_133 ?_
    refine s_iload O 3 dX6_ask_134 rfl ?_
    refine s_iadd O dX6_ask_136 ?_
    obtain ⟨h22, hf⟩ := gd_e hf
    refine s_iald O ms_7 h22 dX6_ask_137 ?_
    refine s_aload_n O 0 dX6_ask_138 rfl rfl ?_
    refine s_getR O fg_RX6_29 ms_0 rfl dX6_ask_139 ?_
    refine s_bipush (v := 31) O dX6_ask_142 rfl ?_
    refine s_iload O 7 dX6_ask_144 rfl ?_
    refine s_imul O dX6_ask_146 ?_
    refine s_iload O 3 dX6_ask_147 rfl ?_
    refine s_iadd O dX6_ask_149 ?_
    obtain ⟨h23, hf⟩ := gd_e hf
    refine s_iald O ms_7 h23 dX6_ask_150 ?_
    refine s_icmp_ne (tgt := 158) O dX6_ask_151 (by decide) (fun c => ?_) (fun c => ?_)
    · replace hf := if_f c hf
      refine s_iconst (v := 0) O dX6_ask_158 rfl ?_
      obtain ⟨s24, r25, c26, hf⟩ := bn_e hf
      refine s_SI (As := [.int 0]) (st := [.int v7]) O lk_RX6_219 (k_X6_flag c26) rfl rfl ⟨rfl, rfl⟩ ⟨Nat.le_of_ble_eq_true rfl, Nat.le_of_ble_eq_true rfl⟩ rfl (Nat.le_of_ble_eq_true rfl) dX6_ask_159 ?_
      refine s_iadd O dX6_ask_162 ?_
      refine s_topi (fun n27 en27 => ?_)
      replace hf := nmi_e en27 hf
      refine s_istore (lv' := [(7, .int n27), (0, rf E 0), (2, .int x2), (3, .int x3), (4, .int x4), (5, .int x5), (6, .int x6), (8, .int v8)]) O dX6_ask_163 (by decide) rfl ?_
      refine s_iinc (v := (v8 + 1)) (lv' := [(8, .int (v8 + 1)), (7, .int n27), (0, rf E 0), (2, .int x2), (3, .int x3), (4, .int x4), (5, .int x5), (6, .int x6)]) O 7 dX6_ask_165 rfl rfl (by decide) rfl ?_
      refine s_goto (tgt := 117) O dX6_ask_168 (by decide) ?_
      refine s_loc [2, 3, 4, 5, 6, 7, 1, 0] rfl ?_
      cases hf
      exact Kc _ rfl
    · replace hf := if_t c hf
      refine s_iconst (v := 1) O dX6_ask_154 rfl ?_
      refine s_goto (tgt := 159) O dX6_ask_155 (by decide) ?_
      obtain ⟨s28, r29, c30, hf⟩ := bn_e hf
      refine s_SI (As := [.int 1]) (st := [.int v7]) O lk_RX6_219 (k_X6_flag c30) rfl rfl ⟨rfl, rfl⟩ ⟨Nat.le_of_ble_eq_true rfl, Nat.le_of_ble_eq_true rfl⟩ rfl (Nat.le_of_ble_eq_true rfl) dX6_ask_159 ?_
      refine s_iadd O dX6_ask_162 ?_
      refine s_topi (fun n31 en31 => ?_)
      replace hf := nmi_e en31 hf
      refine s_istore (lv' := [(7, .int n31), (0, rf E 0), (2, .int x2), (3, .int x3), (4, .int x4), (5, .int x5), (6, .int x6), (8, .int v8)]) O dX6_ask_163 (by decide) rfl ?_
      refine s_iinc (v := (v8 + 1)) (lv' := [(8, .int (v8 + 1)), (7, .int n31), (0, rf E 0), (2, .int x2), (3, .int x3), (4, .int x4), (5, .int x5), (6, .int x6)]) O 7 dX6_ask_165 rfl rfl (by decide) rfl ?_
      refine s_goto (tgt := 117) O dX6_ask_168 (by decide) ?_
      refine s_loc [2, 3, 4, 5, 6, 7, 1, 0] rfl ?_
      cases hf
      exact Kc _ rfl
def fl_X6_ask_l117 (a1 : Int32) (a2 : Int32) (x2 : Int32) (x3 : Int32) (x4 : Int32) (x5 : Int32) (x6 : Int32) (s0 : StA) (v : Int32 × Int32) : Option (StA × ((Int32))) :=
  it (fun s v => fb_X6_ask_l117 a1 a2 x2 x3 x4 x5 x6 s v.1 v.2) FU s0 v
def fb_X6_ask_l105 (a1 : Int32) (a2 : Int32) (x2 : Int32) (x3 : Int32) (x4 : Int32) (s0 : StA) (v5 : Int32) (v6 : Int32) : Option (StA × ((Int32 × Int32) ⊕ (Int32))) :=
  (if x3 ≤ v6 then some (s0, .inr v5) else bn (fl_X6_ask_l117 a1 a2 x2 x3 x4 v5 v6 s0 (0, 0)) (fun s32 u117_7 => (if u117_7 ≤ v5 then some (s32, .inl (v5, (v6 + 1))) else some (s32, .inl (u117_7, (v6 + 1))))))
set_option maxHeartbeats 4000000 in
set_option maxRecDepth 100000 in
theorem wb_X6_ask_l105 {E : XC} (O : OK mM E RX6 cX6_ask 9 rm_X6_ask) {a1 : Int32} {a2 : Int32}  {x2 : Int32} {x3 : Int32} {x4 : Int32} {s0 : StA} {v5 : Int32} {v6 : Int32} {zs : StA} {rr : Int32} (hret : ReI mM E .int cX6_ask zs rr) {bs : StA} {bw : (Int32 × Int32) ⊕ (Int32)} (Kc : ∀ v, bw = .inl v → WS mM E 9 105 [(0, rf E 0), (2, .int x2), (3, .int x3), (4, .int x4), (5, .int v.1), (6, .int v.2)] [] bs) (Ke : ∀ e, bw = .inr e → WS mM E 9 193 [(0, rf E 0), (2, .int x2), (3, .int x3), (4, .int x4), (5, .int e)] [] bs) (hf : fb_X6_ask_l105 a1 a2 x2 x3 x4 s0 v5 v6 = some (bs, bw)) : WS mM E 9 105 [(0, rf E 0), (2, .int x2), (3, .int x3), (4, .int x4), (5, .int v5), (6, .int v6)] [] s0 := by
  unfold fb_X6_ask_l105 at hf
  refine s_iload O 5 dX6_ask_105 rfl ?_
  refine s_iload_n O 2 dX6_ask_107 rfl rfl ?_
  refine s_icmp_ge (tgt := 193) O dX6_ask_108 (by decide) (fun c => ?_) (fun c => ?_)
  · replace hf := if_t c hf
    refine s_loc [0, 1, 2, 3, 4] rfl ?_
    cases hf
    exact Ke _ rfl
  · replace hf := if_f c hf
    refine s_iconst (v := 0) O dX6_ask_111 rfl ?_
    refine s_istore (lv' := [(7, .int 0), (0, rf E 0), (2, .int x2), (3, .int x3), (4, .int x4), (5, .int v5), (6, .int v6)]) O dX6_ask_112 (by decide) rfl ?_
    refine s_iconst (v := 0) O dX6_ask_114 rfl ?_
    refine s_istore (lv' := [(8, .int 0), (7, .int 0), (0, rf E 0), (2, .int x2), (3, .int x3), (4, .int x4), (5, .int v5), (6, .int v6)]) O dX6_ask_115 (by decide) rfl ?_
    refine s_loc [2, 3, 4, 5, 6, 7, 1, 0] rfl ?_
    obtain ⟨s32, u117_7, c34, hf⟩ := bn_e hf
    refine lp_of (body := fun s v => fb_X6_ask_l117 a1 a2 x2 x3 x4 v5 v6 s v.1 v.2) (X := fun s v => WS mM E 9 117 [(0, rf E 0), (2, .int x2), (3, .int x3), (4, .int x4), (5, .int v5), (6, .int v6), (7, .int v.1), (8, .int v.2)] [] s) (Y := fun s e => WS mM E 9 171 [(0, rf E 0), (2, .int x2), (3, .int x3), (4, .int x4), (5, .int v5), (6, .int v6), (7, .int e)] [] s) (fun s v s' w hb Kc Ke => wb_X6_ask_l117 (rr := rr) O   hret Kc Ke hb) FU _ _ (s32, u117_7) c34 ?_
    show WS mM E 9 171 [(0, rf E 0), (2, .int x2), (3, .int x3), (4, .int x4), (5, .int v5), (6, .int v6), (7, .int u117_7)] [] s32
    refine s_iload O 6 dX6_ask_171 rfl ?_
    refine s_iload O 4 dX6_ask_173 rfl ?_
    refine s_icmp_le (tgt := 183) O dX6_ask_175 (by decide) (fun c => ?_) (fun c => ?_)
    · replace hf := if_t c hf
      refine s_iload O 4 dX6_ask_183 rfl ?_
      refine s_istore (lv' := [(5, .int v5), (0, rf E 0), (2, .int x2), (3, .int x3), (4, .int x4), (6, .int v6), (7, .int u117_7)]) O dX6_ask_185 (by decide) rfl ?_
      refine s_iinc (v := (v6 + 1)) (lv' := [(6, .int (v6 + 1)), (5, .int v5), (0, rf E 0), (2, .int x2), (3, .int x3), (4, .int x4), (7, .int u117_7)]) O 5 dX6_ask_187 rfl rfl (by decide) rfl ?_
      refine s_goto (tgt := 105) O dX6_ask_190 (by decide) ?_
      refine s_loc [2, 3, 4, 5, 1, 0] rfl ?_
      cases hf
      exact Kc _ rfl
    · replace hf := if_f c hf
      refine s_iload O 6 dX6_ask_178 rfl ?_
      refine s_goto (tgt := 185) O dX6_ask_180 (by decide) ?_
      refine s_istore (lv' := [(5, .int u117_7), (0, rf E 0), (2, .int x2), (3, .int x3), (4, .int x4), (6, .int v6), (7, .int u117_7)]) O dX6_ask_185 (by decide) rfl ?_
      refine s_iinc (v := (v6 + 1)) (lv' := [(6, .int (v6 + 1)), (5, .int u117_7), (0, rf E 0), (2, .int x2), (3, .int x3), (4, .int x4), (7, .int u117_7)]) O 5 dX6_ask_187 rfl rfl (by decide) rfl ?_
      refine s_goto (tgt := 105) O dX6_ask_190 (by decide) ?_
      refine s_loc [2, 3, 4, 5, 1, 0] rfl ?_
      cases hf
      exact Kc _ rfl
def fl_X6_ask_l105 (a1 : Int32) (a2 : Int32) (x2 : Int32) (x3 : Int32) (x4 : Int32) (s0 : StA) (v : Int32 × Int32) : Option (StA × ((Int32))) :=
  it (fun s v => fb_X6_ask_l105 a1 a2 x2 x3 x4 s v.1 v.2) FU s0 v
def fb_X6_ask_l92 (a1 : Int32) (a2 : Int32) (x2 : Int32) (x3 : Int32) (s0 : StA) (v4 : Int32) : Option (StA × ((Int32) ⊕ (Unit))) :=
  (if 30 < v4 then some (s0, .inr ()) else bn (fl_X6_ask_l105 a1 a2 x2 x3 v4 s0 (0, 0)) (fun s35 u105_5 => bn (f_X6_judges v4 u105_5 s35) (fun s38 r39 => some (s38, .inl (v4 + 1)))))
set_option maxHeartbeats 4000000 in
set_option maxRecDepth 100000 in
theorem wb_X6_ask_l92 {E : XC} (O : OK mM E RX6 cX6_ask 9 rm_X6_ask) {a1 : Int32} {a2 : Int32}  {x2 : Int32} {x3 : Int32} {s0 : StA} {v4 : Int32} {zs : StA} {rr : Int32} (hret : ReI mM E .int cX6_ask zs rr) {bs : StA} {bw : (Int32) ⊕ (Unit)} (Kc : ∀ v, bw = .inl v → WS mM E 9 92 [(0, rf E 0), (2, .int x2), (3, .int x3), (4, .int v)] [] bs) (Ke : ∀ e, bw = .inr e → WS mM E 9 207 [(0, rf E 0), (2, .int x2)] [] bs) (hf : fb_X6_ask_l92 a1 a2 x2 x3 s0 v4 = some (bs, bw)) : WS mM E 9 92 [(0, rf E 0), (2, .int x2), (3, .int x3), (4, .int v4)] [] s0 := by
  unfold fb_X6_ask_l92 at hf
  refine s_iload O 3 dX6_ask_92 rfl ?_
  refine s_bipush (v := 30) O dX6_ask_94 rfl ?_
  refine s_icmp_gt (tgt := 207) O dX6_ask_96 (by decide) (fun c => ?_) (fun c => ?_)
  · replace hf := if_t c hf
    refine s_loc [0, 1] rfl ?_
    cases hf
    exact Ke _ rfl
  · replace hf := if_f c hf
    refine s_iconst (v := 0) O dX6_ask_99 rfl ?_
    refine s_istore (lv' := [(5, .int 0), (0, rf E 0), (2, .int x2), (3, .int x3), (4, .int v4)]) O dX6_ask_100 (by decide) rfl ?_
    refine s_iconst (v := 0) O dX6_ask_102 rfl ?_
    refine s_istore (lv' := [(6, .int 0), (5, .int 0), (0, rf E 0), (2, .int x2), (3, .int x3), (4, .int v4)]) O dX6_ask_103 (by decide) rfl ?_
    refine s_loc [2, 3, 4, 5, 1, 0] rfl ?_
    obtain ⟨s35, u105_5, c37, hf⟩ := bn_e hf
    refine lp_of (body := fun s v => fb_X6_ask_l105 a1 a2 x2 x3 v4 s v.1 v.2) (X := fun s v => WS mM E 9 105 [(0, rf E 0), (2, .int x2), (3, .int x3), (4, .int v4), (5, .int v.1), (6, .int v.2)] [] s) (Y := fun s e => WS mM E 9 193 [(0, rf E 0), (2, .int x2), (3, .int x3), (4, .int v4), (5, .int e)] [] s) (fun s v s' w hb Kc Ke => wb_X6_ask_l105 (rr := rr) O   hret Kc Ke hb) FU _ _ (s35, u105_5) c37 ?_
    show WS mM E 9 193 [(0, rf E 0), (2, .int x2), (3, .int x3), (4, .int v4), (5, .int u105_5)] [] s35
    refine s_aload_n O 0 dX6_ask_193 rfl rfl ?_
    refine s_iload O 3 dX6_ask_194 rfl ?_
    refine s_iload O 4 dX6_ask_196 rfl ?_
    obtain ⟨s38, r39, c40, hf⟩ := bn_e hf
    refine s_VV (As := [.int v4, .int u105_5]) (st := []) O lk_RX6_251 (k_X6_judges c40) rfl ms_0 rfl rfl ⟨rfl, rfl⟩ ⟨Nat.le_of_ble_eq_true rfl, Nat.le_of_ble_eq_true rfl⟩ rfl (Nat.le_of_ble_eq_true rfl) dX6_ask_198 ?_
    refine s_iinc (v := (v4 + 1)) (lv' := [(4, .int (v4 + 1)), (0, rf E 0), (2, .int x2), (3, .int x3), (5, .int u105_5)]) O 3 dX6_ask_201 rfl rfl (by decide) rfl ?_
    refine s_goto (tgt := 92) O dX6_ask_204 (by decide) ?_
    refine s_loc [1, 2, 3, 0] rfl ?_
    cases hf
    exact Kc _ rfl
def fl_X6_ask_l92 (a1 : Int32) (a2 : Int32) (x2 : Int32) (x3 : Int32) (s0 : StA) (v : Int32) : Option (StA × ((Unit))) :=
  it (fun s v => fb_X6_ask_l92 a1 a2 x2 x3 s v) FU s0 v
def f_X6_ask (a1 : Int32) (a2 : Int32) (s0 : StA) : Option (StA × Int32) :=
  bn (f_X6_isThing a1 s0) (fun s1 r2 => (if r2 = 0 then some (s1, (-1)) else bn (f_X6_isPart a2 s1) (fun s4 r5 => (if r5 = 0 then some (s4, (-1)) else bn (fl_X6_ask_l22 a1 a2 a1 a2 s4 (0, 1)) (fun s16 u22_3 => bn (f_X6_startsJudging u22_3 s16) (fun s19 r20 => bn (fl_X6_ask_l92 a1 a2 a2 u22_3 s19 0) (fun s41 e42 => bn (f_X6_judged a2 s41) (fun s44 r45 => some (s44, r45)))))))))
set_option maxHeartbeats 4000000 in
set_option maxRecDepth 100000 in
theorem k_X6_ask {a1 : Int32} {a2 : Int32} {s0 zs : StA} {rr : Int32} (hf : f_X6_ask a1 a2 s0 = some (zs, rr)) : CtI mM yX6_ask cX6_ask 9 .int rm_X6_ask (fun ph => [.ref (ph 0), .int a1, .int a2]) s0 zs rr := by
  refine CtI.of (by decide +kernel) (fun ph => Nat.le_of_ble_eq_true rfl) (fun E O hret => ?_)
  have O : OK mM E RX6 cX6_ask 9 rm_X6_ask := O
  show WS mM E 9 0 [(0, rf E 0), (1, .int a1), (2, .int a2)] [] s0
  unfold f_X6_ask at hf
  refine s_aload_n O 0 dX6_ask_0 rfl rfl ?_
  refine s_iload_n O 1 dX6_ask_1 rfl rfl ?_
  obtain ⟨s1, r2, c3, hf⟩ := bn_e hf
  refine s_VI (As := [.int a1]) (st := []) O lk_RX6_181 (k_X6_isThing c3) rfl ms_0 rfl rfl ⟨rfl, rfl⟩ ⟨Nat.le_of_ble_eq_true rfl, Nat.le_of_ble_eq_true rfl⟩ rfl (Nat.le_of_ble_eq_true rfl) dX6_ask_2 ?_
  refine s_if_eq (tgt := 15) O dX6_ask_5 (by decide) (fun c => ?_) (fun c => ?_)
  · replace hf := if_t c hf
    refine s_iconst (v := (-1)) O dX6_ask_15 rfl ?_
    exact s_iret hret rfl dX6_ask_16 hf
  · replace hf := if_f c hf
    refine s_iload_n O 2 dX6_ask_8 rfl rfl ?_
    obtain ⟨s4, r5, c6, hf⟩ := bn_e hf
    refine s_SI (As := [.int a2]) (st := []) O lk_RX6_188 (k_X6_isPart c6) rfl rfl ⟨rfl, rfl⟩ ⟨Nat.le_of_ble_eq_true rfl, Nat.le_of_ble_eq_true rfl⟩ rfl (Nat.le_of_ble_eq_true rfl) dX6_ask_9 ?_
    refine s_if_ne (tgt := 17) O dX6_ask_12 (by decide) (fun c => ?_) (fun c => ?_)
    · replace hf := if_f c hf
      refine s_iconst (v := 0) O dX6_ask_17 rfl ?_
      refine s_istore_n (lv' := [(3, .int 0), (0, rf E 0), (1, .int a1), (2, .int a2)]) O dX6_ask_18 rfl (by decide) rfl ?_
      refine s_iconst (v := 1) O dX6_ask_19 rfl ?_
      refine s_istore (lv' := [(4, .int 1), (3, .int 0), (0, rf E 0), (1, .int a1), (2, .int a2)]) O dX6_ask_20 (by decide) rfl ?_
      refine s_loc [2, 3, 4, 1, 0] rfl ?_
      obtain ⟨s16, u22_3, c18, hf⟩ := bn_e hf
      refine lp_of (body := fun s v => fb_X6_ask_l22 a1 a2 a1 a2 s v.1 v.2) (X := fun s v => WS mM E 9 22 [(0, rf E 0), (1, .int a1), (2, .int a2), (3, .int v.1), (4, .int v.2)] [] s) (Y := fun s e => WS mM E 9 84 [(0, rf E 0), (2, .int a2), (3, .int e)] [] s) (fun s v s' w hb Kc Ke => wb_X6_ask_l22 (rr := rr) O   hret Kc Ke hb) FU _ _ (s16, u22_3) c18 ?_
      show WS mM E 9 84 [(0, rf E 0), (2, .int a2), (3, .int u22_3)] [] s16
      refine s_aload_n O 0 dX6_ask_84 rfl rfl ?_
      refine s_iload_n O 2 dX6_ask_85 rfl rfl ?_
      obtain ⟨s19, r20, c21, hf⟩ := bn_e hf
      refine s_VV (As := [.int u22_3]) (st := []) O lk_RX6_245 (k_X6_startsJudging c21) rfl ms_0 rfl rfl ⟨rfl, rfl⟩ ⟨Nat.le_of_ble_eq_true rfl, Nat.le_of_ble_eq_true rfl⟩ rfl (Nat.le_of_ble_eq_true rfl) dX6_ask_86 ?_
      refine s_iconst (v := 0) O dX6_ask_89 rfl ?_
      refine s_istore (lv' := [(4, .int 0), (0, rf E 0), (2, .int a2), (3, .int u22_3)]) O dX6_ask_90 (by decide) rfl ?_
      refine s_loc [1, 2, 3, 0] rfl ?_
      obtain ⟨s41, e42, c43, hf⟩ := bn_e hf
      refine lp_of (body := fun s v => fb_X6_ask_l92 a1 a2 a2 u22_3 s v) (X := fun s v => WS mM E 9 92 [(0, rf E 0), (2, .int a2), (3, .int u22_3), (4, .int v)] [] s) (Y := fun s e => WS mM E 9 207 [(0, rf E 0), (2, .int a2)] [] s) (fun s v s' w hb Kc Ke => wb_X6_ask_l92 (rr := rr) O   hret Kc Ke hb) FU _ _ (s41, e42) c43 ?_
      show WS mM E 9 207 [(0, rf E 0), (2, .int a2)] [] s41
      refine s_aload_n O 0 dX6_ask_207 rfl rfl ?_
      refine s_iload_n O 1 dX6_ask_208 rfl rfl ?_
      obtain ⟨s44, r45, c46, hf⟩ := bn_e hf
      refine s_VI (As := [.int a2]) (st := []) O lk_RX6_255 (k_X6_judged c46) rfl ms_0 rfl rfl ⟨rfl, rfl⟩ ⟨Nat.le_of_ble_eq_true rfl, Nat.le_of_ble_eq_true rfl⟩ rfl (Nat.le_of_ble_eq_true rfl) dX6_ask_209 ?_
      exact s_iret hret rfl dX6_ask_212 hf
    · replace hf := if_t c hf
      refine s_iconst (v := (-1)) O dX6_ask_15 rfl ?_
      exact s_iret hret rfl dX6_ask_16 hf
