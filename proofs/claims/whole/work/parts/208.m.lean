def rm_X4_faultAs : Room := { frames := 1, cells := 0, slots := 0, locals := 22 }
def f_X4_faultAs (k : Nat) (a1 : Int32) (a2 : Int32) (s0 : StA) : Option (StA × Int32) :=
  bn (f_X4_isNothing k s0) (fun s1 r2 => (if r2 = 0 then (if (gi s1 k 1) = a1 then bn (f_X5_isIn a2 0 ((gi s1 k 2) - 1) s1) (fun s4 r5 => (if r5 = 0 then some (s4, 2) else some (s4, 0))) else some (s1, 3)) else some (s1, 1)))
set_option maxHeartbeats 4000000 in
set_option maxRecDepth 100000 in
theorem k_X4_faultAs {k : Nat} {a1 : Int32} {a2 : Int32} (hk : isSh k) {s0 zs : StA} {rr : Int32} (hf : f_X4_faultAs k a1 a2 s0 = some (zs, rr)) : CtI cM yX4_faultAs cX4_faultAs 3 .int rm_X4_faultAs (fun ph => [.ref (ph k), .int a1, .int a2]) s0 zs rr := by
  refine CtI.of (by decide +kernel) (fun ph => Nat.le_of_ble_eq_true rfl) (fun E O hret => ?_)
  have O : OK cM E RX4 cX4_faultAs 3 rm_X4_faultAs := O
  show WS cM E 3 0 [(0, rf E k), (1, .int a1), (2, .int a2)] [] s0
  unfold f_X4_faultAs at hf
  refine s_aload_n O 0 dX4_faultAs_0 rfl rfl ?_
  obtain ⟨s1, r2, c3, hf⟩ := bn_e hf
  refine s_VI (As := []) (st := []) O lk_RX4_28 (k_X4_isNothing hk c3) rfl (sk_0 hk) rfl rfl ⟨rfl, rfl⟩ ⟨Nat.le_of_ble_eq_true rfl, Nat.le_of_ble_eq_true rfl⟩ rfl (Nat.le_of_ble_eq_true rfl) dX4_faultAs_1 ?_
  refine s_if_eq (tgt := 9) O dX4_faultAs_4 (by decide) (fun c => ?_) (fun c => ?_)
  · replace hf := if_t c hf
    refine s_aload_n O 0 dX4_faultAs_9 rfl rfl ?_
    refine s_getI O fg_RX4_15 (sk_0 hk) rfl dX4_faultAs_10 ?_
    refine s_iload_n O 1 dX4_faultAs_13 rfl rfl ?_
    refine s_icmp_eq (tgt := 19) O dX4_faultAs_14 (by decide) (fun c => ?_) (fun c => ?_)
    · replace hf := if_t c hf
      refine s_iload_n O 2 dX4_faultAs_19 rfl rfl ?_
      refine s_iconst (v := 0) O dX4_faultAs_20 rfl ?_
      refine s_aload_n O 0 dX4_faultAs_21 rfl rfl ?_
      refine s_getI O fg_RX4_19 (sk_0 hk) rfl dX4_faultAs_22 ?_
      refine s_iconst (v := 1) O dX4_faultAs_25 rfl ?_
      refine s_isub O dX4_faultAs_26 ?_
      obtain ⟨s4, r5, c6, hf⟩ := bn_e hf
      refine s_NI (As := [.int a2, .int 0, .int ((gi s1 k 2) - 1)]) (st := []) O lk_RX4_32 (k_X5_isIn c6) rfl rfl ⟨rfl, rfl⟩ ⟨Nat.le_of_ble_eq_true rfl, Nat.le_of_ble_eq_true rfl⟩ rfl (Nat.le_of_ble_eq_true rfl) dX4_faultAs_27 ?_
      refine s_if_eq (tgt := 37) O dX4_faultAs_30 (by decide) (fun c => ?_) (fun c => ?_)
      · replace hf := if_t c hf
        refine s_iconst (v := 2) O dX4_faultAs_37 rfl ?_
        exact s_iret hret rfl dX4_faultAs_38 hf
      · replace hf := if_f c hf
        refine s_iconst (v := 0) O dX4_faultAs_33 rfl ?_
        refine s_goto (tgt := 38) O dX4_faultAs_34 (by decide) ?_
        exact s_iret hret rfl dX4_faultAs_38 hf
    · replace hf := if_f c hf
      refine s_iconst (v := 3) O dX4_faultAs_17 rfl ?_
      exact s_iret hret rfl dX4_faultAs_18 hf
  · replace hf := if_f c hf
    refine s_iconst (v := 1) O dX4_faultAs_7 rfl ?_
    exact s_iret hret rfl dX4_faultAs_8 hf
def rm_X4_put : Room := { frames := 0, cells := 0, slots := 0, locals := 0 }
def f_X4_put (k : Nat) (a1 : Int32) (a2 : Int32) (s0 : StA) : Option (StA × Unit) :=
  (if (gi s0 k 1) = 0 then gd a1 40 (nms (si s0 (k + 1) a1.toNatClampNeg a2.toInt8.toInt32) (fun s6 => some (s6, ()))) else (if (gi s0 k 1) = 1 then gd a1 40 (nms (si s0 (k + 1) a1.toNatClampNeg a2.toInt16.toInt32) (fun s4 => some (s4, ()))) else gd a1 40 (nms (si s0 (k + 1) a1.toNatClampNeg a2) (fun s2 => some (s2, ())))))
set_option maxHeartbeats 4000000 in
set_option maxRecDepth 100000 in
theorem k_X4_put {k : Nat} {a1 : Int32} {a2 : Int32} (hk : isSh k) {s0 zs : StA} {rr : Unit} (hf : f_X4_put k a1 a2 s0 = some (zs, rr)) : CtV cM yX4_put cX4_put 3 rm_X4_put (fun ph => [.ref (ph k), .int a1, .int a2]) s0 zs := by
  refine CtV.of (by decide +kernel) (fun ph => Nat.le_of_ble_eq_true rfl) (fun E O hret => ?_)
  have O : OK cM E RX4 cX4_put 3 rm_X4_put := O
  show WS cM E 3 0 [(0, rf E k), (1, .int a1), (2, .int a2)] [] s0
  unfold f_X4_put at hf
  refine s_aload_n O 0 dX4_put_0 rfl rfl ?_
  refine s_getR O fg_RX4_9 (sk_0 hk) rfl dX4_put_1 ?_
  refine s_iload_n O 1 dX4_put_4 rfl rfl ?_
  refine s_aload_n O 0 dX4_put_5 rfl rfl ?_
  refine s_getI O fg_RX4_15 (sk_0 hk) rfl dX4_put_6 ?_
  refine s_if_ne (tgt := 17) O dX4_put_9 (by decide) (fun c => ?_) (fun c => ?_)
  · replace hf := if_f c hf
    refine s_aload_n O 0 dX4_put_17 rfl rfl ?_
    refine s_getI O fg_RX4_15 (sk_0 hk) rfl dX4_put_18 ?_
    refine s_iconst (v := 1) O dX4_put_21 rfl ?_
    refine s_icmp_ne (tgt := 30) O dX4_put_22 (by decide) (fun c => ?_) (fun c => ?_)
    · replace hf := if_f c hf
      refine s_iload_n O 2 dX4_put_30 rfl rfl ?_
      obtain ⟨h1, hf⟩ := gd_e hf
      refine s_iast O (sk_1 hk) h1 dX4_put_31 ?_
      refine s_tops (fun s2 es2 => ?_)
      replace hf := nms_e es2 hf
      exact s_vret hret dX4_put_32 hf
    · replace hf := if_t c hf
      refine s_iload_n O 2 dX4_put_25 rfl rfl ?_
      refine s_i2s O dX4_put_26 ?_
      refine s_goto (tgt := 31) O dX4_put_27 (by decide) ?_
      obtain ⟨h3, hf⟩ := gd_e hf
      refine s_iast O (sk_1 hk) h3 dX4_put_31 ?_
      refine s_tops (fun s4 es4 => ?_)
      replace hf := nms_e es4 hf
      exact s_vret hret dX4_put_32 hf
  · replace hf := if_t c hf
    refine s_iload_n O 2 dX4_put_12 rfl rfl ?_
    refine s_i2b O dX4_put_13 ?_
    refine s_goto (tgt := 31) O dX4_put_14 (by decide) ?_
    obtain ⟨h5, hf⟩ := gd_e hf
    refine s_iast O (sk_1 hk) h5 dX4_put_31 ?_
    refine s_tops (fun s6 es6 => ?_)
    replace hf := nms_e es6 hf
    exact s_vret hret dX4_put_32 hf
def rm_X5_lay : Room := { frames := 2, cells := 0, slots := 0, locals := 44 }
def f_X5_lay (a1 : Int32) (a2 : Int32) (a3 : Int32) (s0 : StA) : Option (StA × Int32) :=
  bn (f_X5_isSheet a1 s0) (fun s1 r2 => (if r2 = 0 then some (s1, (-1)) else gd a1 4 (bn (f_X4_faultAs (51 + 2 * a1.toNatClampNeg) (gi s1 (51 + 2 * a1.toNatClampNeg) 1) a2 s1) (fun s5 r6 => (if r6 = 0 then bn (f_X4_put (51 + 2 * a1.toNatClampNeg) a2 a3 s5) (fun s8 r9 => some (s8, 1)) else some (s5, ((-10) - r6)))))))
set_option maxHeartbeats 4000000 in
set_option maxRecDepth 100000 in
theorem k_X5_lay {a1 : Int32} {a2 : Int32} {a3 : Int32} {s0 zs : StA} {rr : Int32} (hf : f_X5_lay a1 a2 a3 s0 = some (zs, rr)) : CtI cM yX5_lay cX5_lay 6 .int rm_X5_lay (fun ph => [.ref (ph 0), .int a1, .int a2, .int a3]) s0 zs rr := by
  refine CtI.of (by decide +kernel) (fun ph => Nat.le_of_ble_eq_true rfl) (fun E O hret => ?_)
  have O : OK cM E RX5 cX5_lay 6 rm_X5_lay := O
  show WS cM E 6 0 [(0, rf E 0), (1, .int a1), (2, .int a2), (3, .int a3)] [] s0
  unfold f_X5_lay at hf
  refine s_iload_n O 1 dX5_lay_0 rfl rfl ?_
  obtain ⟨s1, r2, c3, hf⟩ := bn_e hf
  refine s_SI (As := [.int a1]) (st := []) O lk_RX5_265 (k_X5_isSheet c3) rfl rfl ⟨rfl, rfl⟩ ⟨Nat.le_of_ble_eq_true rfl, Nat.le_of_ble_eq_true rfl⟩ rfl (Nat.le_of_ble_eq_true rfl) dX5_lay_1 ?_
  refine s_if_ne (tgt := 9) O dX5_lay_4 (by decide) (fun c => ?_) (fun c => ?_)
  · replace hf := if_f c hf
    refine s_aload_n O 0 dX5_lay_9 rfl rfl ?_
    refine s_getR O fg_RX5_36 cs_0 rfl dX5_lay_10 ?_
    refine s_iload_n O 1 dX5_lay_13 rfl rfl ?_
    obtain ⟨h4, hf⟩ := gd_e hf
    refine s_aald O cs_50 (Or.inr (Or.inl rfl)) h4 dX5_lay_14 ?_
    refine s_astore (lv' := [(4, rf E (51 + 2 * a1.toNatClampNeg)), (0, rf E 0), (1, .int a1), (2, .int a2), (3, .int a3)]) O dX5_lay_15 (by decide) rfl ?_
    refine s_aload O 0 dX5_lay_17 rfl ?_
    refine s_aload O 0 dX5_lay_19 rfl ?_
    refine s_getI O fg_RX5_274 (sk_0 (im_sh h4)) rfl dX5_lay_21 ?_
    refine s_iload_n O 3 dX5_lay_24 rfl rfl ?_
    obtain ⟨s5, r6, c7, hf⟩ := bn_e hf
    refine s_VI (As := [.int (gi s1 (51 + 2 * a1.toNatClampNeg) 1), .int a2]) (st := []) O lk_RX5_277 (k_X4_faultAs (im_sh h4) c7) rfl (sk_0 (im_sh h4)) rfl rfl ⟨rfl, rfl⟩ ⟨Nat.le_of_ble_eq_true rfl, Nat.le_of_ble_eq_true rfl⟩ rfl (Nat.le_of_ble_eq_true rfl) dX5_lay_25 ?_
    refine s_istore (lv' := [(5, .int r6), (4, rf E (51 + 2 * a1.toNatClampNeg)), (0, rf E 0), (1, .int a1), (2, .int a2), (3, .int a3)]) O dX5_lay_28 (by decide) rfl ?_
    refine s_iload O 0 dX5_lay_30 rfl ?_
    refine s_if_eq (tgt := 41) O dX5_lay_32 (by decide) (fun c => ?_) (fun c => ?_)
    · replace hf := if_t c hf
      refine s_aload O 1 dX5_lay_41 rfl ?_
      refine s_iload_n O 4 dX5_lay_43 rfl rfl ?_
      refine s_iload_n O 5 dX5_lay_44 rfl rfl ?_
      obtain ⟨s8, r9, c10, hf⟩ := bn_e hf
      refine s_VV (As := [.int a2, .int a3]) (st := []) O lk_RX5_280 (k_X4_put (im_sh h4) c10) rfl (sk_0 (im_sh h4)) rfl rfl ⟨rfl, rfl⟩ ⟨Nat.le_of_ble_eq_true rfl, Nat.le_of_ble_eq_true rfl⟩ rfl (Nat.le_of_ble_eq_true rfl) dX5_lay_45 ?_
      refine s_iconst (v := 1) O dX5_lay_48 rfl ?_
      exact s_iret hret rfl dX5_lay_49 hf
    · replace hf := if_f c hf
      refine s_bipush (v := (-10)) O dX5_lay_35 rfl ?_
      refine s_iload O 0 dX5_lay_37 rfl ?_
      refine s_isub O dX5_lay_39 ?_
      exact s_iret hret rfl dX5_lay_40 hf
  · replace hf := if_t c hf
    refine s_iconst (v := (-1)) O dX5_lay_7 rfl ?_
    exact s_iret hret rfl dX5_lay_8 hf
def rm_X4_faultOfPair : Room := { frames := 2, cells := 0, slots := 0, locals := 44 }
def f_X4_faultOfPair (k : Nat) (a1 : Int32) (a2 : Int32) (s0 : StA) : Option (StA × Int32) :=
  bn (f_X4_faultAs k a1 a2 s0) (fun s1 r2 => (if r2 = 0 then bn (f_X4_faultAs k a1 (a2 + 1) s1) (fun s4 r5 => some (s4, r5)) else some (s1, r2)))
set_option maxHeartbeats 4000000 in
set_option maxRecDepth 100000 in
theorem k_X4_faultOfPair {k : Nat} {a1 : Int32} {a2 : Int32} (hk : isSh k) {s0 zs : StA} {rr : Int32} (hf : f_X4_faultOfPair k a1 a2 s0 = some (zs, rr)) : CtI cM yX4_faultOfPair cX4_faultOfPair 4 .int rm_X4_faultOfPair (fun ph => [.ref (ph k), .int a1, .int a2]) s0 zs rr := by
  refine CtI.of (by decide +kernel) (fun ph => Nat.le_of_ble_eq_true rfl) (fun E O hret => ?_)
  have O : OK cM E RX4 cX4_faultOfPair 4 rm_X4_faultOfPair := O
  show WS cM E 4 0 [(0, rf E k), (1, .int a1), (2, .int a2)] [] s0
  unfold f_X4_faultOfPair at hf
  refine s_aload_n O 0 dX4_faultOfPair_0 rfl rfl ?_
  refine s_iload_n O 1 dX4_faultOfPair_1 rfl rfl ?_
  refine s_iload_n O 2 dX4_faultOfPair_2 rfl rfl ?_
  obtain ⟨s1, r2, c3, hf⟩ := bn_e hf
  refine s_VI (As := [.int a1, .int a2]) (st := []) O lk_RX4_36 (k_X4_faultAs hk c3) rfl (sk_0 hk) rfl rfl ⟨rfl, rfl⟩ ⟨Nat.le_of_ble_eq_true rfl, Nat.le_of_ble_eq_true rfl⟩ rfl (Nat.le_of_ble_eq_true rfl) dX4_faultOfPair_3 ?_
  refine s_istore_n (lv' := [(3, .int r2), (0, rf E k), (1, .int a1), (2, .int a2)]) O dX4_faultOfPair_6 rfl (by decide) rfl ?_
  refine s_iload_n O 0 dX4_faultOfPair_7 rfl rfl ?_
  refine s_if_eq (tgt := 15) O dX4_faultOfPair_8 (by decide) (fun c => ?_) (fun c => ?_)
  · replace hf := if_t c hf
    refine s_aload_n O 1 dX4_faultOfPair_15 rfl rfl ?_
    refine s_iload_n O 2 dX4_faultOfPair_16 rfl rfl ?_
    refine s_iload_n O 3 dX4_faultOfPair_17 rfl rfl ?_
    refine s_iconst (v := 1) O dX4_faultOfPair_18 rfl ?_
    refine s_iadd O dX4_faultOfPair_19 ?_
    obtain ⟨s4, r5, c6, hf⟩ := bn_e hf
    refine s_VI (As := [.int a1, .int (a2 + 1)]) (st := []) O lk_RX4_36 (k_X4_faultAs hk c6) rfl (sk_0 hk) rfl rfl ⟨rfl, rfl⟩ ⟨Nat.le_of_ble_eq_true rfl, Nat.le_of_ble_eq_true rfl⟩ rfl (Nat.le_of_ble_eq_true rfl) dX4_faultOfPair_20 ?_
    exact s_iret hret rfl dX4_faultOfPair_23 hf
  · replace hf := if_f c hf
    refine s_iload_n O 0 dX4_faultOfPair_11 rfl rfl ?_
    refine s_goto (tgt := 23) O dX4_faultOfPair_12 (by decide) ?_
    exact s_iret hret rfl dX4_faultOfPair_23 hf
def rm_X5_read : Room := { frames := 3, cells := 0, slots := 0, locals := 67 }
def fb_X5_read_l56 (a1 : Int32) (a2 : Int32) (a3 : Int32) (a4 : Int32) (x2 : Int32) (x3 : Int32) (x4 : Int32) (x6 : Int32) (s0 : StA) (v7 : Int32) (v8 : Int32) (v9 : Int32) : Option (StA × ((Int32 × Int32 × Int32) ⊕ ((Int32) ⊕ Int32))) :=
  (if x4 ≤ v9 then nms (si s0 0 8 v8) (fun s12 => some (s12, .inr (.inr v7))) else (if v8 = 0 then nmi (x3 + (2 * v9)) (fun n14 => bn (f_X4_faultOfPair (51 + 2 * a1.toNatClampNeg) x2 n14 s0) (fun s15 r16 => (if r16 = 0 then gd n14 40 (gd (n14 + 1) 40 (bn (f_X1_addSaying 1 (gi s15 ((51 + 2 * a1.toNatClampNeg) + 1) n14.toNatClampNeg) (gi s15 ((51 + 2 * a1.toNatClampNeg) + 1) (n14 + 1).toNatClampNeg) s15) (fun s20 r21 => (if 0 ≤ r21 then some (s20, .inl ((v7 + 1), r16, (v9 + 1))) else some (s20, .inr (.inl v9)))))) else some (s15, .inl (v7, r16, (v9 + 1)))))) else nms (si s0 0 8 v8) (fun s13 => some (s13, .inr (.inr v7)))))
set_option maxHeartbeats 4000000 in
set_option maxRecDepth 100000 in
theorem wb_X5_read_l56 {E : XC} (O : OK cM E RX5 cX5_read 11 rm_X5_read) {a1 : Int32} {a2 : Int32} {a3 : Int32} {a4 : Int32} (g0 : isSh (51 + 2 * a1.toNatClampNeg)) {x2 : Int32} {x3 : Int32} {x4 : Int32} {x6 : Int32} {s0 : StA} {v7 : Int32} {v8 : Int32} {v9 : Int32} {zs : StA} {rr : Int32} (hret : ReI cM E .int cX5_read zs rr) {bs : StA} {bw : (Int32 × Int32 × Int32) ⊕ ((Int32) ⊕ Int32)} (Kc : ∀ v, bw = .inl v → WS cM E 11 56 [(0, rf E 0), (2, .int x2), (3, .int x3), (4, .int x4), (5, rf E (51 + 2 * a1.toNatClampNeg)), (6, .int x6), (7, .int v.1), (8, .int v.2.1), (9, .int v.2.2)] [] bs) (Ke : ∀ e, bw = .inr (.inl e) → WS cM E 11 119 [(0, rf E 0), (6, .int x6), (9, .int e)] [] bs) (Kr : ∀ r, bw = .inr (.inr r) → some (bs, r) = some (zs, rr)) (hf : fb_X5_read_l56 a1 a2 a3 a4 x2 x3 x4 x6 s0 v7 v8 v9 = some (bs, bw)) : WS cM E 11 56 [(0, rf E 0), (2, .int x2), (3, .int x3), (4, .int x4), (5, rf E (51 + 2 * a1.toNatClampNeg)), (6, .int x6), (7, .int v7), (8, .int v8), (9, .int v9)] [] s0 := by
  unfold fb_X5_read_l56 at hf
  refine s_iload O 8 dX5_read_56 rfl ?_
  refine s_iload O 3 dX5_read_58 rfl ?_
  refine s_icmp_ge (tgt := 147) O dX5_read_60 (by decide) (fun c => ?_) (fun c => ?_)
  · replace hf := if_t c hf
    refine s_aload_n O 0 dX5_read_147 rfl rfl ?_
    refine s_iload O 7 dX5_read_148 rfl ?_
    refine s_putI O fp_RX5_289 cs_0 rfl dX5_read_150 ?_
    refine s_tops (fun s12 es12 => ?_)
    replace hf := nms_e es12 hf
    refine s_iload O 6 dX5_read_153 rfl ?_
    cases hf
    exact s_iret hret rfl dX5_read_155 (Kr _ rfl)
  · replace hf := if_f c hf
    refine s_iload O 7 dX5_read_63 rfl ?_
    refine s_if_ne (tgt := 147) O dX5_read_65 (by decide) (fun c => ?_) (fun c => ?_)
    · replace hf := if_f c hf
      refine s_aload_n O 0 dX5_read_147 rfl rfl ?_
      refine s_iload O 7 dX5_read_148 rfl ?_
      refine s_putI O fp_RX5_289 cs_0 rfl dX5_read_150 ?_
      refine s_tops (fun s13 es13 => ?_)
      replace hf := nms_e es13 hf
      refine s_iload O 6 dX5_read_153 rfl ?_
      cases hf
      exact s_iret hret rfl dX5_read_155 (Kr _ rfl)
    · replace hf := if_t c hf
      refine s_iload_n O 2 dX5_read_68 rfl rfl ?_
      refine s_iconst (v := 2) O dX5_read_69 rfl ?_
      refine s_iload O 8 dX5_read_70 rfl ?_
      refine s_imul O dX5_read_72 ?_
      refine s_iadd O dX5_read_73 ?_
      refine s_topi (fun n14 en14 => ?_)
      replace hf := nmi_e en14 hf
      refine s_istore (lv' := [(10, .int n14), (0, rf E 0), (2, .int x2), (3, .int x3), (4, .int x4), (5, rf E (51 + 2 * a1.toNatClampNeg)), (6, .int x6), (7, .int v7), (8, .int v8), (9, .int v9)]) O dX5_read_74 (by decide) rfl ?_
      refine s_aload O 5 dX5_read_76 rfl ?_
      refine s_iload_n O 2 dX5_read_78 rfl rfl ?_
      refine s_iload O 0 dX5_read_79 rfl ?_
      obtain ⟨s15, r16, c17, hf⟩ := bn_e hf
      refine s_VI (As := [.int x2, .int n14]) (st := []) O lk_RX5_283 (k_X4_faultOfPair g0 c17) rfl (sk_0 g0) rfl rfl ⟨rfl, rfl⟩ ⟨Nat.le_of_ble_eq_true rfl, Nat.le_of_ble_eq_true rfl⟩ rfl (Nat.le_of_ble_eq_true rfl) dX5_read_81 ?_
      refine s_istore (lv' := [(8, .int r16), (10, .int n14), (0, rf E 0), (2, .int x2), (3, .int x3), (4, .int x4), (5, rf E (51 + 2 * a1.toNatClampNeg)), (6, .int x6), (7, .int v7), (9, .int v9)]) O dX5_read_84 (by decide) rfl ?_
      refine s_iload O 0 dX5_read_86 rfl ?_
      refine s_if_ne (tgt := 141) O dX5_read_88 (by decide) (fun c => ?_) (fun c => ?_)
      · replace hf := if_f c hf
        refine s_iinc (v := (v9 + 1)) (lv' := [(9, .int (v9 + 1)), (8, .int r16), (10, .int n14), (0, rf E 0), (2, .int x2), (3, .int x3), (4, .int x4), (5, rf E (51 + 2 * a1.toNatClampNeg)), (6, .int x6), (7, .int v7)]) O 9 dX5_read_141 rfl rfl (by decide) rfl ?_
        refine s_goto (tgt := 56) O dX5_read_144 (by decide) ?_
        refine s_loc [3, 4, 5, 6, 7, 8, 9, 1, 0] rfl ?_
        cases hf
        exact Kc _ rfl
      · replace hf := if_t c hf
        refine s_aload_n O 2 dX5_read_91 rfl rfl ?_
        refine s_getR O fg_RX5_10 cs_0 rfl dX5_read_92 ?_
        refine s_aload O 6 dX5_read_95 rfl ?_
        refine s_getR O fg_RX5_286 (sk_0 g0) rfl dX5_read_97 ?_
        refine s_iload O 1 dX5_read_100 rfl ?_
        obtain ⟨h18, hf⟩ := gd_e hf
        refine s_iald O (sk_1 g0) h18 dX5_read_102 ?_
        refine s_aload O 6 dX5_read_103 rfl ?_
        refine s_getR O fg_RX5_286 (sk_0 g0) rfl dX5_read_105 ?_
        refine s_iload O 1 dX5_read_108 rfl ?_
        refine s_iconst (v := 1) O dX5_read_110 rfl ?_
        refine s_iadd O dX5_read_111 ?_
        obtain ⟨h19, hf⟩ := gd_e hf
        refine s_iald O (sk_1 g0) h19 dX5_read_112 ?_
        obtain ⟨s20, r21, c22, hf⟩ := bn_e hf
        refine s_VI (As := [.int (gi s15 ((51 + 2 * a1.toNatClampNeg) + 1) n14.toNatClampNeg), .int (gi s15 ((51 + 2 * a1.toNatClampNeg) + 1) (n14 + 1).toNatClampNeg)]) (st := []) O lk_RX5_156 (k_X1_addSaying fl_is1 c22) rfl cs_1 rfl rfl ⟨rfl, rfl⟩ ⟨Nat.le_of_ble_eq_true rfl, Nat.le_of_ble_eq_true rfl⟩ rfl (Nat.le_of_ble_eq_true rfl) dX5_read_113 ?_
        refine s_if_ge (tgt := 138) O dX5_read_116 (by decide) (fun c => ?_) (fun c => ?_)
        · replace hf := if_t c hf
          refine s_iinc (v := (v7 + 1)) (lv' := [(7, .int (v7 + 1)), (8, .int r16), (10, .int n14), (0, rf E 0), (2, .int x2), (3, .int x3), (4, .int x4), (5, rf E (51 + 2 * a1.toNatClampNeg)), (6, .int x6), (9, .int v9)]) O 8 dX5_read_138 rfl rfl (by decide) rfl ?_
          refine s_iinc (v := (v9 + 1)) (lv' := [(9, .int (v9 + 1)), (7, .int (v7 + 1)), (8, .int r16), (10, .int n14), (0, rf E 0), (2, .int x2), (3, .int x3), (4, .int x4), (5, rf E (51 + 2 * a1.toNatClampNeg)), (6, .int x6)]) O 9 dX5_read_141 rfl rfl (by decide) rfl ?_
          refine s_goto (tgt := 56) O dX5_read_144 (by decide) ?_
          refine s_loc [4, 5, 6, 7, 8, 9, 1, 2, 0] rfl ?_
          cases hf
          exact Kc _ rfl
        · replace hf := if_f c hf
          refine s_loc [2, 7, 9] rfl ?_
          cases hf
          exact Ke _ rfl
def fl_X5_read_l56 (a1 : Int32) (a2 : Int32) (a3 : Int32) (a4 : Int32) (x2 : Int32) (x3 : Int32) (x4 : Int32) (x6 : Int32) (s0 : StA) (v : Int32 × Int32 × Int32) : Option (StA × (((Int32) ⊕ Int32))) :=
  it (fun s v => fb_X5_read_l56 a1 a2 a3 a4 x2 x3 x4 x6 s v.1 v.2.1 v.2.2) FU s0 v
def f_X5_read (a1 : Int32) (a2 : Int32) (a3 : Int32) (a4 : Int32) (s0 : StA) : Option (StA × Int32) :=
  bn (f_X5_isSheet a1 s0) (fun s1 r2 => (if r2 = 0 then some (s1, (-1)) else bn (f_X5_isLane a2 s1) (fun s4 r5 => (if r5 = 0 then some (s4, (-1)) else bn (f_X5_isIn a4 0 20 s4) (fun s7 r8 => (if r8 = 0 then some (s7, (-1)) else gd a1 4 (nmi (gi s7 6 2) (fun n11 => bn (fl_X5_read_l56 a1 a2 a3 a4 a2 a3 a4 n11 s7 (0, 0, 0)) (fun s23 e24 => match e24 with | .inl u56_9 => bn (f_X2_keepFirst 6 n11 s23) (fun s26 r27 => some (s26, ((-20) - u56_9))) | .inr q56 => some (s23, q56))))))))))
set_option maxHeartbeats 4000000 in
set_option maxRecDepth 100000 in
theorem k_X5_read {a1 : Int32} {a2 : Int32} {a3 : Int32} {a4 : Int32} {s0 zs : StA} {rr : Int32} (hf : f_X5_read a1 a2 a3 a4 s0 = some (zs, rr)) : CtI cM yX5_read cX5_read 11 .int rm_X5_read (fun ph => [.ref (ph 0), .int a1, .int a2, .int a3, .int a4]) s0 zs rr := by
  refine CtI.of (by decide +kernel) (fun ph => Nat.le_of_ble_eq_true rfl) (fun E O hret => ?_)
  have O : OK cM E RX5 cX5_read 11 rm_X5_read := O
  show WS cM E 11 0 [(0, rf E 0), (1, .int a1), (2, .int a2), (3, .int a3), (4, .int a4)] [] s0
  unfold f_X5_read at hf
  refine s_iload_n O 1 dX5_read_0 rfl rfl ?_
  obtain ⟨s1, r2, c3, hf⟩ := bn_e hf
  refine s_SI (As := [.int a1]) (st := []) O lk_RX5_265 (k_X5_isSheet c3) rfl rfl ⟨rfl, rfl⟩ ⟨Nat.le_of_ble_eq_true rfl, Nat.le_of_ble_eq_true rfl⟩ rfl (Nat.le_of_ble_eq_true rfl) dX5_read_1 ?_
  refine s_if_eq (tgt := 25) O dX5_read_4 (by decide) (fun c => ?_) (fun c => ?_)
  · replace hf := if_t c hf
    refine s_iconst (v := (-1)) O dX5_read_25 rfl ?_
    exact s_iret hret rfl dX5_read_26 hf
  · replace hf := if_f c hf
    refine s_iload_n O 2 dX5_read_7 rfl rfl ?_
    obtain ⟨s4, r5, c6, hf⟩ := bn_e hf
    refine s_SI (As := [.int a2]) (st := []) O lk_RX5_268 (k_X5_isLane c6) rfl rfl ⟨rfl, rfl⟩ ⟨Nat.le_of_ble_eq_true rfl, Nat.le_of_ble_eq_true rfl⟩ rfl (Nat.le_of_ble_eq_true rfl) dX5_read_8 ?_
    refine s_if_eq (tgt := 25) O dX5_read_11 (by decide) (fun c => ?_) (fun c => ?_)
    · replace hf := if_t c hf
      refine s_iconst (v := (-1)) O dX5_read_25 rfl ?_
      exact s_iret hret rfl dX5_read_26 hf
    · replace hf := if_f c hf
      refine s_iload O 4 dX5_read_14 rfl ?_
      refine s_iconst (v := 0) O dX5_read_16 rfl ?_
      refine s_bipush (v := 20) O dX5_read_17 rfl ?_
      obtain ⟨s7, r8, c9, hf⟩ := bn_e hf
      refine s_SI (As := [.int a4, .int 0, .int 20]) (st := []) O lk_RX5_53 (k_X5_isIn c9) rfl rfl ⟨rfl, rfl⟩ ⟨Nat.le_of_ble_eq_true rfl, Nat.le_of_ble_eq_true rfl⟩ rfl (Nat.le_of_ble_eq_true rfl) dX5_read_19 ?_
      refine s_if_ne (tgt := 27) O dX5_read_22 (by decide) (fun c => ?_) (fun c => ?_)
      · replace hf := if_f c hf
        refine s_aload_n O 0 dX5_read_27 rfl rfl ?_
        refine s_getR O fg_RX5_36 cs_0 rfl dX5_read_28 ?_
        refine s_iload_n O 1 dX5_read_31 rfl rfl ?_
        obtain ⟨h10, hf⟩ := gd_e hf
        refine s_aald O cs_50 (Or.inr (Or.inl rfl)) h10 dX5_read_32 ?_
        refine s_astore (lv' := [(5, rf E (51 + 2 * a1.toNatClampNeg)), (0, rf E 0), (1, .int a1), (2, .int a2), (3, .int a3), (4, .int a4)]) O dX5_read_33 (by decide) rfl ?_
        refine s_aload_n O 1 dX5_read_35 rfl rfl ?_
        refine s_getR O fg_RX5_10 cs_0 rfl dX5_read_36 ?_
        refine s_getR O fg_RX5_101 cs_1 rfl dX5_read_39 ?_
        refine s_getI O fg_RX5_105 cs_6 rfl dX5_read_42 ?_
        refine s_topi (fun n11 en11 => ?_)
        replace hf := nmi_e en11 hf
        refine s_istore (lv' := [(6, .int n11), (5, rf E (51 + 2 * a1.toNatClampNeg)), (0, rf E 0), (1, .int a1), (2, .int a2), (3, .int a3), (4, .int a4)]) O dX5_read_45 (by decide) rfl ?_
        refine s_iconst (v := 0) O dX5_read_47 rfl ?_
        refine s_istore (lv' := [(7, .int 0), (6, .int n11), (5, rf E (51 + 2 * a1.toNatClampNeg)), (0, rf E 0), (1, .int a1), (2, .int a2), (3, .int a3), (4, .int a4)]) O dX5_read_48 (by decide) rfl ?_
        refine s_iconst (v := 0) O dX5_read_50 rfl ?_
        refine s_istore (lv' := [(8, .int 0), (7, .int 0), (6, .int n11), (5, rf E (51 + 2 * a1.toNatClampNeg)), (0, rf E 0), (1, .int a1), (2, .int a2), (3, .int a3), (4, .int a4)]) O dX5_read_51 (by decide) rfl ?_
        refine s_iconst (v := 0) O dX5_read_53 rfl ?_
        refine s_istore (lv' := [(9, .int 0), (8, .int 0), (7, .int 0), (6, .int n11), (5, rf E (51 + 2 * a1.toNatClampNeg)), (0, rf E 0), (1, .int a1), (2, .int a2), (3, .int a3), (4, .int a4)]) O dX5_read_54 (by decide) rfl ?_
        refine s_loc [5, 7, 8, 9, 4, 3, 2, 1, 0] rfl ?_
        obtain ⟨s23, e24, c25, hf⟩ := bn_e hf
        refine lp_of (body := fun s v => fb_X5_read_l56 a1 a2 a3 a4 a2 a3 a4 n11 s v.1 v.2.1 v.2.2) (X := fun s v => WS cM E 11 56 [(0, rf E 0), (2, .int a2), (3, .int a3), (4, .int a4), (5, rf E (51 + 2 * a1.toNatClampNeg)), (6, .int n11), (7, .int v.1), (8, .int v.2.1), (9, .int v.2.2)] [] s) (Y := fun s e => match e with | .inl e => WS cM E 11 119 [(0, rf E 0), (6, .int n11), (9, .int e)] [] s | .inr r => some (s, r) = some (zs, rr)) (fun s v s' w hb Kc Ke => wb_X5_read_l56 (rr := rr) O  (im_sh h10) hret Kc (fun e he => Ke (.inl e) he) (fun r he => Ke (.inr r) he) hb) FU _ _ (s23, e24) c25 ?_
        rcases e24 with e24 | q56
        · obtain ⟨u56_9, rfl⟩ : ∃ z, z = e24 := ⟨_, rfl⟩
          show WS cM E 11 119 [(0, rf E 0), (6, .int n11), (9, .int u56_9)] [] s23
          refine s_aload_n O 0 dX5_read_119 rfl rfl ?_
          refine s_getR O fg_RX5_10 cs_0 rfl dX5_read_120 ?_
          refine s_getR O fg_RX5_101 cs_1 rfl dX5_read_123 ?_
          refine s_iload O 1 dX5_read_126 rfl ?_
          obtain ⟨s26, r27, c28, hf⟩ := bn_e hf
          refine s_VI (As := [.int n11]) (st := []) O lk_RX5_160 (k_X2_keepFirst pr_is6 c28) rfl cs_6 rfl rfl ⟨rfl, rfl⟩ ⟨Nat.le_of_ble_eq_true rfl, Nat.le_of_ble_eq_true rfl⟩ rfl (Nat.le_of_ble_eq_true rfl) dX5_read_128 ?_
          refine s_pop O dX5_read_131 rfl ?_
          refine s_bipush (v := (-20)) O dX5_read_132 rfl ?_
          refine s_iload O 2 dX5_read_134 rfl ?_
          refine s_isub O dX5_read_136 ?_
          exact s_iret hret rfl dX5_read_137 hf
        · exact hf
      · replace hf := if_t c hf
        refine s_iconst (v := (-1)) O dX5_read_25 rfl ?_
        exact s_iret hret rfl dX5_read_26 hf
def rm_X5_torn : Room := { frames := 0, cells := 0, slots := 0, locals := 0 }
def f_X5_torn  (s0 : StA) : Option (StA × Int32) :=
  some (s0, (gi s0 0 8))
set_option maxHeartbeats 4000000 in
set_option maxRecDepth 100000 in
theorem k_X5_torn  {s0 zs : StA} {rr : Int32} (hf : f_X5_torn  s0 = some (zs, rr)) : CtI cM yX5_torn cX5_torn 1 .int rm_X5_torn (fun ph => [.ref (ph 0)]) s0 zs rr := by
  refine CtI.of (by decide +kernel) (fun ph => Nat.le_of_ble_eq_true rfl) (fun E O hret => ?_)
  have O : OK cM E RX5 cX5_torn 1 rm_X5_torn := O
  show WS cM E 1 0 [(0, rf E 0)] [] s0
  unfold f_X5_torn at hf
  refine s_aload_n O 0 dX5_torn_0 rfl rfl ?_
  refine s_getI O fg_RX5_289 cs_0 rfl dX5_torn_1 ?_
  exact s_iret hret rfl dX5_torn_4 hf
def rm_X5_keptImages : Room := { frames := 0, cells := 0, slots := 0, locals := 0 }
def fb_X5_keptImages_l4   (s0 : StA) (v1 : Int32) (v2 : Int32) : Option (StA × ((Int32 × Int32) ⊕ (Int32))) :=
  (if 2 ≤ v2 then some (s0, .inr v1) else gd v2 2 ((if (gi s0 46 v2.toNatClampNeg) = 0 then nmi (v1 + 0) (fun n2 => some (s0, .inl (n2, (v2 + 1)))) else nmi (v1 + 1) (fun n3 => some (s0, .inl (n3, (v2 + 1)))))))
set_option maxHeartbeats 4000000 in
set_option maxRecDepth 100000 in
theorem wb_X5_keptImages_l4 {E : XC} (O : OK cM E RX5 cX5_keptImages 3 rm_X5_keptImages)    {s0 : StA} {v1 : Int32} {v2 : Int32} {zs : StA} {rr : Int32} (hret : ReI cM E .int cX5_keptImages zs rr) {bs : StA} {bw : (Int32 × Int32) ⊕ (Int32)} (Kc : ∀ v, bw = .inl v → WS cM E 3 4 [(0, rf E 0), (1, .int v.1), (2, .int v.2)] [] bs) (Ke : ∀ e, bw = .inr e → WS cM E 3 32 [(1, .int e)] [] bs) (hf : fb_X5_keptImages_l4  s0 v1 v2 = some (bs, bw)) : WS cM E 3 4 [(0, rf E 0), (1, .int v1), (2, .int v2)] [] s0 := by
  unfold fb_X5_keptImages_l4 at hf
  refine s_iload_n O 2 dX5_keptImages_4 rfl rfl ?_
  refine s_iconst (v := 2) O dX5_keptImages_5 rfl ?_
  refine s_icmp_ge (tgt := 32) O dX5_keptImages_6 (by decide) (fun c => ?_) (fun c => ?_)
  · replace hf := if_t c hf
    refine s_loc [1] rfl ?_
    cases hf
    exact Ke _ rfl
  · replace hf := if_f c hf
    refine s_iload_n O 1 dX5_keptImages_9 rfl rfl ?_
    refine s_aload_n O 0 dX5_keptImages_10 rfl rfl ?_
    refine s_getR O fg_RX5_23 cs_0 rfl dX5_keptImages_11 ?_
    refine s_iload_n O 2 dX5_keptImages_14 rfl rfl ?_
    obtain ⟨h1, hf⟩ := gd_e hf
    refine s_zald O cs_46 h1 dX5_keptImages_15 ?_
    refine s_if_eq (tgt := 23) O dX5_keptImages_16 (by decide) (fun c => ?_) (fun c => ?_)
    · replace hf := if_t c hf
      refine s_iconst (v := 0) O dX5_keptImages_23 rfl ?_
      refine s_iadd O dX5_keptImages_24 ?_
      refine s_topi (fun n2 en2 => ?_)
      replace hf := nmi_e en2 hf
      refine s_istore_n (lv' := [(1, .int n2), (0, rf E 0), (2, .int v2)]) O dX5_keptImages_25 rfl (by decide) rfl ?_
      refine s_iinc (v := (v2 + 1)) (lv' := [(2, .int (v2 + 1)), (1, .int n2), (0, rf E 0)]) O 2 dX5_keptImages_26 rfl rfl (by decide) rfl ?_
      refine s_goto (tgt := 4) O dX5_keptImages_29 (by decide) ?_
      refine s_loc [2, 1, 0] rfl ?_
      cases hf
      exact Kc _ rfl
    · replace hf := if_f c hf
      refine s_iconst (v := 1) O dX5_keptImages_19 rfl ?_
      refine s_goto (tgt := 24) O dX5_keptImages_20 (by decide) ?_
      refine s_iadd O dX5_keptImages_24 ?_
      refine s_topi (fun n3 en3 => ?_)
      replace hf := nmi_e en3 hf
      refine s_istore_n (lv' := [(1, .int n3), (0, rf E 0), (2, .int v2)]) O dX5_keptImages_25 rfl (by decide) rfl ?_
      refine s_iinc (v := (v2 + 1)) (lv' := [(2, .int (v2 + 1)), (1, .int n3), (0, rf E 0)]) O 2 dX5_keptImages_26 rfl rfl (by decide) rfl ?_
      refine s_goto (tgt := 4) O dX5_keptImages_29 (by decide) ?_
      refine s_loc [2, 1, 0] rfl ?_
      cases hf
      exact Kc _ rfl
def fl_X5_keptImages_l4   (s0 : StA) (v : Int32 × Int32) : Option (StA × ((Int32))) :=
  it (fun s v => fb_X5_keptImages_l4  s v.1 v.2) FU s0 v
def f_X5_keptImages  (s0 : StA) : Option (StA × Int32) :=
  bn (fl_X5_keptImages_l4  s0 (0, 0)) (fun s4 u4_1 => some (s4, u4_1))
set_option maxHeartbeats 4000000 in
set_option maxRecDepth 100000 in
theorem k_X5_keptImages  {s0 zs : StA} {rr : Int32} (hf : f_X5_keptImages  s0 = some (zs, rr)) : CtI cM yX5_keptImages cX5_keptImages 3 .int rm_X5_keptImages (fun ph => [.ref (ph 0)]) s0 zs rr := by
  refine CtI.of (by decide +kernel) (fun ph => Nat.le_of_ble_eq_true rfl) (fun E O hret => ?_)
  have O : OK cM E RX5 cX5_keptImages 3 rm_X5_keptImages := O
  show WS cM E 3 0 [(0, rf E 0)] [] s0
  unfold f_X5_keptImages at hf
  refine s_iconst (v := 0) O dX5_keptImages_0 rfl ?_
  refine s_istore_n (lv' := [(1, .int 0), (0, rf E 0)]) O dX5_keptImages_1 rfl (by decide) rfl ?_
  refine s_iconst (v := 0) O dX5_keptImages_2 rfl ?_
  refine s_istore_n (lv' := [(2, .int 0), (1, .int 0), (0, rf E 0)]) O dX5_keptImages_3 rfl (by decide) rfl ?_
  refine s_loc [2, 1, 0] rfl ?_
  obtain ⟨s4, u4_1, c6, hf⟩ := bn_e hf
  refine lp_of (body := fun s v => fb_X5_keptImages_l4  s v.1 v.2) (X := fun s v => WS cM E 3 4 [(0, rf E 0), (1, .int v.1), (2, .int v.2)] [] s) (Y := fun s e => WS cM E 3 32 [(1, .int e)] [] s) (fun s v s' w hb Kc Ke => wb_X5_keptImages_l4 (rr := rr) O   hret Kc Ke hb) FU _ _ (s4, u4_1) c6 ?_
  show WS cM E 3 32 [(1, .int u4_1)] [] s4
  refine s_iload_n O 0 dX5_keptImages_32 rfl rfl ?_
  exact s_iret hret rfl dX5_keptImages_33 hf
def rm_X1_unsaidWeight : Room := { frames := 1, cells := 0, slots := 0, locals := 21 }
def fb_X1_unsaidWeight_l4 (k : Nat) (a1 : Int32) (x1 : Int32) (s0 : StA) (v2 : Int32) (v3 : Int32) : Option (StA × ((Int32 × Int32) ⊕ (Int32))) :=
  (if (gi s0 k 6) ≤ v3 then some (s0, .inr v2) else gd v3 6 ((if (gi s0 (k + 3) v3.toNatClampNeg) = x1 then bn (f_X1_isSaid k v3 s0) (fun s2 r3 => (if r3 = 0 then gd v3 6 (nmi (v2 + (gi s2 (k + 2) v3.toNatClampNeg)) (fun n6 => some (s2, .inl (n6, (v3 + 1))))) else some (s2, .inl (v2, (v3 + 1))))) else some (s0, .inl (v2, (v3 + 1))))))
set_option maxHeartbeats 4000000 in
set_option maxRecDepth 100000 in
theorem wb_X1_unsaidWeight_l4 {E : XC} (O : OK cM E RX1 cX1_unsaidWeight 4 rm_X1_unsaidWeight) {k : Nat} {a1 : Int32} (hk : isFl k)  {x1 : Int32} {s0 : StA} {v2 : Int32} {v3 : Int32} {zs : StA} {rr : Int32} (hret : ReI cM E .int cX1_unsaidWeight zs rr) {bs : StA} {bw : (Int32 × Int32) ⊕ (Int32)} (Kc : ∀ v, bw = .inl v → WS cM E 4 4 [(0, rf E k), (1, .int x1), (2, .int v.1), (3, .int v.2)] [] bs) (Ke : ∀ e, bw = .inr e → WS cM E 4 45 [(2, .int e)] [] bs) (hf : fb_X1_unsaidWeight_l4 k a1 x1 s0 v2 v3 = some (bs, bw)) : WS cM E 4 4 [(0, rf E k), (1, .int x1), (2, .int v2), (3, .int v3)] [] s0 := by
  unfold fb_X1_unsaidWeight_l4 at hf
  refine s_iload_n O 3 dX1_unsaidWeight_4 rfl rfl ?_
  refine s_aload_n O 0 dX1_unsaidWeight_5 rfl rfl ?_
  refine s_getI O fg_RX1_46 (fl_0 hk) rfl dX1_unsaidWeight_6 ?_
  refine s_icmp_ge (tgt := 45) O dX1_unsaidWeight_9 (by decide) (fun c => ?_) (fun c => ?_)
  · replace hf := if_t c hf
    refine s_loc [2] rfl ?_
    cases hf
    exact Ke _ rfl
  · replace hf := if_f c hf
    refine s_aload_n O 0 dX1_unsaidWeight_12 rfl rfl ?_
    refine s_getR O fg_RX1_18 (fl_0 hk) rfl dX1_unsaidWeight_13 ?_
    refine s_iload_n O 3 dX1_unsaidWeight_16 rfl rfl ?_
    obtain ⟨h1, hf⟩ := gd_e hf
    refine s_iald O (fl_3 hk) h1 dX1_unsaidWeight_17 ?_
    refine s_iload_n O 1 dX1_unsaidWeight_18 rfl rfl ?_
    refine s_icmp_ne (tgt := 39) O dX1_unsaidWeight_19 (by decide) (fun c => ?_) (fun c => ?_)
    · replace hf := if_f c hf
      refine s_iinc (v := (v3 + 1)) (lv' := [(3, .int (v3 + 1)), (0, rf E k), (1, .int x1), (2, .int v2)]) O 3 dX1_unsaidWeight_39 rfl rfl (by decide) rfl ?_
      refine s_goto (tgt := 4) O dX1_unsaidWeight_42 (by decide) ?_
      refine s_loc [1, 2, 3, 0] rfl ?_
      cases hf
      exact Kc _ rfl
    · replace hf := if_t c hf
      refine s_aload_n O 0 dX1_unsaidWeight_22 rfl rfl ?_
      refine s_iload_n O 3 dX1_unsaidWeight_23 rfl rfl ?_
      obtain ⟨s2, r3, c4, hf⟩ := bn_e hf
      refine s_VI (As := [.int v3]) (st := []) O lk_RX1_80 (k_X1_isSaid hk c4) rfl (fl_0 hk) rfl rfl ⟨rfl, rfl⟩ ⟨Nat.le_of_ble_eq_true rfl, Nat.le_of_ble_eq_true rfl⟩ rfl (Nat.le_of_ble_eq_true rfl) dX1_unsaidWeight_24 ?_
      refine s_if_ne (tgt := 39) O dX1_unsaidWeight_27 (by decide) (fun c => ?_) (fun c => ?_)
      · replace hf := if_f c hf
        refine s_iinc (v := (v3 + 1)) (lv' := [(3, .int (v3 + 1)), (0, rf E k), (1, .int x1), (2, .int v2)]) O 3 dX1_unsaidWeight_39 rfl rfl (by decide) rfl ?_
        refine s_goto (tgt := 4) O dX1_unsaidWeight_42 (by decide) ?_
        refine s_loc [1, 2, 3, 0] rfl ?_
        cases hf
        exact Kc _ rfl
      · replace hf := if_t c hf
        refine s_iload_n O 2 dX1_unsaidWeight_30 rfl rfl ?_
        refine s_aload_n O 0 dX1_unsaidWeight_31 rfl rfl ?_
        refine s_getR O fg_RX1_15 (fl_0 hk) rfl dX1_unsaidWeight_32 ?_
        refine s_iload_n O 3 dX1_unsaidWeight_35 rfl rfl ?_
        obtain ⟨h5, hf⟩ := gd_e hf
        refine s_iald O (fl_2 hk) h5 dX1_unsaidWeight_36 ?_
        refine s_iadd O dX1_unsaidWeight_37 ?_
        refine s_topi (fun n6 en6 => ?_)
        replace hf := nmi_e en6 hf
        refine s_istore_n (lv' := [(2, .int n6), (0, rf E k), (1, .int x1), (3, .int v3)]) O dX1_unsaidWeight_38 rfl (by decide) rfl ?_
        refine s_iinc (v := (v3 + 1)) (lv' := [(3, .int (v3 + 1)), (2, .int n6), (0, rf E k), (1, .int x1)]) O 3 dX1_unsaidWeight_39 rfl rfl (by decide) rfl ?_
        refine s_goto (tgt := 4) O dX1_unsaidWeight_42 (by decide) ?_
        refine s_loc [2, 3, 1, 0] rfl ?_
        cases hf
        exact Kc _ rfl
def fl_X1_unsaidWeight_l4 (k : Nat) (a1 : Int32) (x1 : Int32) (s0 : StA) (v : Int32 × Int32) : Option (StA × ((Int32))) :=
  it (fun s v => fb_X1_unsaidWeight_l4 k a1 x1 s v.1 v.2) FU s0 v
def f_X1_unsaidWeight (k : Nat) (a1 : Int32) (s0 : StA) : Option (StA × Int32) :=
  bn (fl_X1_unsaidWeight_l4 k a1 a1 s0 (0, 0)) (fun s7 u4_2 => some (s7, u4_2))
set_option maxHeartbeats 4000000 in
set_option maxRecDepth 100000 in
theorem k_X1_unsaidWeight {k : Nat} {a1 : Int32} (hk : isFl k) {s0 zs : StA} {rr : Int32} (hf : f_X1_unsaidWeight k a1 s0 = some (zs, rr)) : CtI cM yX1_unsaidWeight cX1_unsaidWeight 4 .int rm_X1_unsaidWeight (fun ph => [.ref (ph k), .int a1]) s0 zs rr := by
  refine CtI.of (by decide +kernel) (fun ph => Nat.le_of_ble_eq_true rfl) (fun E O hret => ?_)
  have O : OK cM E RX1 cX1_unsaidWeight 4 rm_X1_unsaidWeight := O
  show WS cM E 4 0 [(0, rf E k), (1, .int a1)] [] s0
  unfold f_X1_unsaidWeight at hf
  refine s_iconst (v := 0) O dX1_unsaidWeight_0 rfl ?_
  refine s_istore_n (lv' := [(2, .int 0), (0, rf E k), (1, .int a1)]) O dX1_unsaidWeight_1 rfl (by decide) rfl ?_
  refine s_iconst (v := 0) O dX1_unsaidWeight_2 rfl ?_
  refine s_istore_n (lv' := [(3, .int 0), (2, .int 0), (0, rf E k), (1, .int a1)]) O dX1_unsaidWeight_3 rfl (by decide) rfl ?_
  refine s_loc [2, 3, 1, 0] rfl ?_
  obtain ⟨s7, u4_2, c9, hf⟩ := bn_e hf
  refine lp_of (body := fun s v => fb_X1_unsaidWeight_l4 k a1 a1 s v.1 v.2) (X := fun s v => WS cM E 4 4 [(0, rf E k), (1, .int a1), (2, .int v.1), (3, .int v.2)] [] s) (Y := fun s e => WS cM E 4 45 [(2, .int e)] [] s) (fun s v s' w hb Kc Ke => wb_X1_unsaidWeight_l4 (rr := rr) O hk  hret Kc Ke hb) FU _ _ (s7, u4_2) c9 ?_
  show WS cM E 4 45 [(2, .int u4_2)] [] s7
  refine s_iload_n O 0 dX1_unsaidWeight_45 rfl rfl ?_
  exact s_iret hret rfl dX1_unsaidWeight_46 hf
def rm_X5_count : Room := { frames := 2, cells := 0, slots := 0, locals := 44 }
def f_X5_count (a1 : Int32) (s0 : StA) : Option (StA × Int32) :=
  (if a1 = 0 then some (s0, (gi s0 9 2)) else if a1 = 1 then bn (f_X5_keptImages  s0) (fun s1 r2 => some (s1, r2)) else if a1 = 2 then some (s0, (gi s0 47 2)) else if a1 = 3 then gd 0 4 (bn (f_X4_isNothing (51 + 2 * (0 : Int32).toNatClampNeg) s0) (fun s5 r6 => (if r6 = 0 then gd 0 4 (some (s5, (gi s5 (51 + 2 * (0 : Int32).toNatClampNeg) 2))) else some (s5, (-4))))) else if a1 = 4 then bn (f_X1_unsaidWeight 1 0 s0) (fun s9 r10 => some (s9, r10)) else if a1 = 5 then bn (f_X1_unsaidWeight 1 1 s0) (fun s12 r13 => some (s12, r13)) else some (s0, (-1)))
set_option maxHeartbeats 4000000 in
set_option maxRecDepth 100000 in
theorem k_X5_count {a1 : Int32} {s0 zs : StA} {rr : Int32} (hf : f_X5_count a1 s0 = some (zs, rr)) : CtI cM yX5_count cX5_count 2 .int rm_X5_count (fun ph => [.ref (ph 0), .int a1]) s0 zs rr := by
  refine CtI.of (by decide +kernel) (fun ph => Nat.le_of_ble_eq_true rfl) (fun E O hret => ?_)
  have O : OK cM E RX5 cX5_count 2 rm_X5_count := O
  show WS cM E 2 0 [(0, rf E 0), (1, .int a1)] [] s0
  unfold f_X5_count at hf
  refine s_iload_n O 1 dX5_count_0 rfl rfl ?_
  by_cases q0 : a1 = 0
  · replace hf := if_t q0 hf
    refine s_tabE (v := 0) (tgt := 40) O dX5_count_1 q0 (by decide) (by decide) rfl (by decide) ?_
    refine s_aload_n O 0 dX5_count_40 rfl rfl ?_
    refine s_getR O fg_RX5_10 cs_0 rfl dX5_count_41 ?_
    refine s_getR O fg_RX5_230 cs_1 rfl dX5_count_44 ?_
    refine s_getI O fg_RX5_105 cs_9 rfl dX5_count_47 ?_
    exact s_iret hret rfl dX5_count_50 hf
  · replace hf := if_f q0 hf
    by_cases q1 : a1 = 1
    · replace hf := if_t q1 hf
      refine s_tabE (v := 1) (tgt := 51) O dX5_count_1 q1 (by decide) (by decide) rfl (by decide) ?_
      refine s_aload_n O 0 dX5_count_51 rfl rfl ?_
      obtain ⟨s1, r2, c3, hf⟩ := bn_e hf
      refine s_VI (As := []) (st := []) O lk_RX5_292 (k_X5_keptImages c3) rfl cs_0 rfl rfl ⟨rfl, rfl⟩ ⟨Nat.le_of_ble_eq_true rfl, Nat.le_of_ble_eq_true rfl⟩ rfl (Nat.le_of_ble_eq_true rfl) dX5_count_52 ?_
      exact s_iret hret rfl dX5_count_55 hf
    · replace hf := if_f q1 hf
      by_cases q2 : a1 = 2
      · replace hf := if_t q2 hf
        refine s_tabE (v := 2) (tgt := 56) O dX5_count_1 q2 (by decide) (by decide) rfl (by decide) ?_
        refine s_aload_n O 0 dX5_count_56 rfl rfl ?_
        refine s_getR O fg_RX5_30 cs_0 rfl dX5_count_57 ?_
        refine s_getI O fg_RX5_295 cs_47 rfl dX5_count_60 ?_
        exact s_iret hret rfl dX5_count_63 hf
      · replace hf := if_f q2 hf
        by_cases q3 : a1 = 3
        · replace hf := if_t q3 hf
          refine s_tabE (v := 3) (tgt := 64) O dX5_count_1 q3 (by decide) (by decide) rfl (by decide) ?_
          refine s_aload_n O 0 dX5_count_64 rfl rfl ?_
          refine s_getR O fg_RX5_36 cs_0 rfl dX5_count_65 ?_
          refine s_iconst (v := 0) O dX5_count_68 rfl ?_
          obtain ⟨h4, hf⟩ := gd_e hf
          refine s_aald O cs_50 (Or.inr (Or.inl rfl)) h4 dX5_count_69 ?_
          obtain ⟨s5, r6, c7, hf⟩ := bn_e hf
          refine s_VI (As := []) (st := []) O lk_RX5_298 (k_X4_isNothing (im_sh h4) c7) rfl (sk_0 (im_sh h4)) rfl rfl ⟨rfl, rfl⟩ ⟨Nat.le_of_ble_eq_true rfl, Nat.le_of_ble_eq_true rfl⟩ rfl (Nat.le_of_ble_eq_true rfl) dX5_count_70 ?_
          refine s_if_eq (tgt := 81) O dX5_count_73 (by decide) (fun c => ?_) (fun c => ?_)
          · replace hf := if_t c hf
            refine s_aload_n O 0 dX5_count_81 rfl rfl ?_
            refine s_getR O fg_RX5_36 cs_0 rfl dX5_count_82 ?_
            refine s_iconst (v := 0) O dX5_count_85 rfl ?_
            obtain ⟨h8, hf⟩ := gd_e hf
            refine s_aald O cs_50 (Or.inr (Or.inl rfl)) h8 dX5_count_86 ?_
            refine s_getI O fg_RX5_301 (sk_0 (im_sh h8)) rfl dX5_count_87 ?_
            exact s_iret hret rfl dX5_count_90 hf
          · replace hf := if_f c hf
            refine s_bipush (v := (-4)) O dX5_count_76 rfl ?_
            refine s_goto (tgt := 90) O dX5_count_78 (by decide) ?_
            exact s_iret hret rfl dX5_count_90 hf
        · replace hf := if_f q3 hf
          by_cases q4 : a1 = 4
          · replace hf := if_t q4 hf
            refine s_tabE (v := 4) (tgt := 91) O dX5_count_1 q4 (by decide) (by decide) rfl (by decide) ?_
            refine s_aload_n O 0 dX5_count_91 rfl rfl ?_
            refine s_getR O fg_RX5_10 cs_0 rfl dX5_count_92 ?_
            refine s_iconst (v := 0) O dX5_count_95 rfl ?_
            obtain ⟨s9, r10, c11, hf⟩ := bn_e hf
            refine s_VI (As := [.int 0]) (st := []) O lk_RX5_302 (k_X1_unsaidWeight fl_is1 c11) rfl cs_1 rfl rfl ⟨rfl, rfl⟩ ⟨Nat.le_of_ble_eq_true rfl, Nat.le_of_ble_eq_true rfl⟩ rfl (Nat.le_of_ble_eq_true rfl) dX5_count_96 ?_
            exact s_iret hret rfl dX5_count_99 hf
          · replace hf := if_f q4 hf
            by_cases q5 : a1 = 5
            · replace hf := if_t q5 hf
              refine s_tabE (v := 5) (tgt := 100) O dX5_count_1 q5 (by decide) (by decide) rfl (by decide) ?_
              refine s_aload_n O 0 dX5_count_100 rfl rfl ?_
              refine s_getR O fg_RX5_10 cs_0 rfl dX5_count_101 ?_
              refine s_iconst (v := 1) O dX5_count_104 rfl ?_
              obtain ⟨s12, r13, c14, hf⟩ := bn_e hf
              refine s_VI (As := [.int 1]) (st := []) O lk_RX5_302 (k_X1_unsaidWeight fl_is1 c14) rfl cs_1 rfl rfl ⟨rfl, rfl⟩ ⟨Nat.le_of_ble_eq_true rfl, Nat.le_of_ble_eq_true rfl⟩ rfl (Nat.le_of_ble_eq_true rfl) dX5_count_105 ?_
              exact s_iret hret rfl dX5_count_108 hf
            · replace hf := if_f q5 hf
              have z0 := lv_neT q0 (a := 0) rfl
              have z1 := lv_neT q1 (a := 1) rfl
              have z2 := lv_neT q2 (a := 2) rfl
              have z3 := lv_neT q3 (a := 3) rfl
              have z4 := lv_neT q4 (a := 4) rfl
              have z5 := lv_neT q5 (a := 5) rfl
              refine s_tabO (tgt := 109) O dX5_count_1 (by omega) (by decide) ?_
              refine s_iconst (v := (-1)) O dX5_count_109 rfl ?_
              exact s_iret hret rfl dX5_count_110 hf
def rm_X6_firstDraft : Room := { frames := 0, cells := 0, slots := 0, locals := 0 }
def fb_X6_firstDraft_l2   (s0 : StA) (v1 : Int32) : Option (StA × ((Int32) ⊕ (Unit))) :=
  (if 63 ≤ v1 then some (s0, .inr ()) else gd v1 63 (nms (si s0 4 v1.toNatClampNeg 0) (fun s2 => some (s2, .inl (v1 + 1)))))
set_option maxHeartbeats 4000000 in
set_option maxRecDepth 100000 in
theorem wb_X6_firstDraft_l2 {E : XC} (O : OK mM E RX6 cX6_firstDraft 2 rm_X6_firstDraft)    {s0 : StA} {v1 : Int32} {zs : StA} {rr : Unit} (hret : ReV mM E cX6_firstDraft zs) {bs : StA} {bw : (Int32) ⊕ (Unit)} (Kc : ∀ v, bw = .inl v → WS mM E 2 2 [(0, rf E 0), (1, .int v)] [] bs) (Ke : ∀ e, bw = .inr e → WS mM E 2 21 [(0, rf E 0)] [] bs) (hf : fb_X6_firstDraft_l2  s0 v1 = some (bs, bw)) : WS mM E 2 2 [(0, rf E 0), (1, .int v1)] [] s0 := by
  unfold fb_X6_firstDraft_l2 at hf
  refine s_iload_n O 1 dX6_firstDraft_2 rfl rfl ?_
  refine s_bipush (v := 63) O dX6_firstDraft_3 rfl ?_
  refine s_icmp_ge (tgt := 21) O dX6_firstDraft_5 (by decide) (fun c => ?_) (fun c => ?_)
  · replace hf := if_t c hf
    refine s_loc [0] rfl ?_
    cases hf
    exact Ke _ rfl
  · replace hf := if_f c hf
    refine s_aload_n O 0 dX6_firstDraft_8 rfl rfl ?_
    refine s_getR O fg_RX6_20 ms_0 rfl dX6_firstDraft_9 ?_
    refine s_iload_n O 1 dX6_firstDraft_12 rfl rfl ?_
    refine s_iconst (v := 0) O dX6_firstDraft_13 rfl ?_
    obtain ⟨h1, hf⟩ := gd_e hf
    refine s_iast O ms_4 h1 dX6_firstDraft_14 ?_
    refine s_tops (fun s2 es2 => ?_)
    replace hf := nms_e es2 hf
    refine s_iinc (v := (v1 + 1)) (lv' := [(1, .int (v1 + 1)), (0, rf E 0)]) O 1 dX6_firstDraft_15 rfl rfl (by decide) rfl ?_
    refine s_goto (tgt := 2) O dX6_firstDraft_18 (by decide) ?_
    refine s_loc [1, 0] rfl ?_
    cases hf
    exact Kc _ rfl
def fl_X6_firstDraft_l2   (s0 : StA) (v : Int32) : Option (StA × ((Unit))) :=
  it (fun s v => fb_X6_firstDraft_l2  s v) FU s0 v
def fb_X6_firstDraft_l23   (s0 : StA) (v1 : Int32) : Option (StA × ((Int32) ⊕ (Unit))) :=
  (if 5 ≤ v1 then some (s0, .inr ()) else gd (28 + v1) 63 (nms (si s0 4 ((28 + v1).toNatClampNeg) 4) (fun s7 => some (s7, .inl (v1 + 1)))))
set_option maxHeartbeats 4000000 in
set_option maxRecDepth 100000 in
theorem wb_X6_firstDraft_l23 {E : XC} (O : OK mM E RX6 cX6_firstDraft 2 rm_X6_firstDraft)    {s0 : StA} {v1 : Int32} {zs : StA} {rr : Unit} (hret : ReV mM E cX6_firstDraft zs) {bs : StA} {bw : (Int32) ⊕ (Unit)} (Kc : ∀ v, bw = .inl v → WS mM E 2 23 [(0, rf E 0), (1, .int v)] [] bs) (Ke : ∀ e, bw = .inr e → WS mM E 2 44 [(0, rf E 0)] [] bs) (hf : fb_X6_firstDraft_l23  s0 v1 = some (bs, bw)) : WS mM E 2 23 [(0, rf E 0), (1, .int v1)] [] s0 := by
  unfold fb_X6_firstDraft_l23 at hf
  refine s_iload_n O 1 dX6_firstDraft_23 rfl rfl ?_
  refine s_iconst (v := 5) O dX6_firstDraft_24 rfl ?_
  refine s_icmp_ge (tgt := 44) O dX6_firstDraft_25 (by decide) (fun c => ?_) (fun c => ?_)
  · replace hf := if_t c hf
    refine s_loc [0] rfl ?_
    cases hf
    exact Ke _ rfl
  · replace hf := if_f c hf
    refine s_aload_n O 0 dX6_firstDraft_28 rfl rfl ?_
    refine s_getR O fg_RX6_20 ms_0 rfl dX6_firstDraft_29 ?_
    refine s_bipush (v := 28) O dX6_firstDraft_32 rfl ?_
    refine s_iload_n O 1 dX6_firstDraft_34 rfl rfl ?_
    refine s_iadd O dX6_firstDraft_35 ?_
    refine s_iconst (v := 4) O dX6_firstDraft_36 rfl ?_
    obtain ⟨h6, hf⟩ := gd_e hf
    refine s_iast O ms_4 h6 dX6_firstDraft_37 ?_
    refine s_tops (fun s7 es7 => ?_)
    replace hf := nms_e es7 hf
    refine s_iinc (v := (v1 + 1)) (lv' := [(1, .int (v1 + 1)), (0, rf E 0)]) O 1 dX6_firstDraft_38 rfl rfl (by decide) rfl ?_
    refine s_goto (tgt := 23) O dX6_firstDraft_41 (by decide) ?_
    refine s_loc [1, 0] rfl ?_
    cases hf
    exact Kc _ rfl
def fl_X6_firstDraft_l23   (s0 : StA) (v : Int32) : Option (StA × ((Unit))) :=
  it (fun s v => fb_X6_firstDraft_l23  s v) FU s0 v
def f_X6_firstDraft  (s0 : StA) : Option (StA × Unit) :=
  bn (fl_X6_firstDraft_l2  s0 0) (fun s3 e4 => bn (fl_X6_firstDraft_l23  s3 0) (fun s8 e9 => gd 26 63 (nms (si s8 4 ((26 : Int32).toNatClampNeg) 1) (fun s12 => nms (si s12 0 5 0) (fun s13 => nms (si s13 0 6 0) (fun s14 => nms (si s14 0 7 0) (fun s15 => nms (si s15 0 8 0) (fun s16 => some (s16, ())))))))))
set_option maxHeartbeats 4000000 in
set_option maxRecDepth 100000 in
theorem k_X6_firstDraft  {s0 zs : StA} {rr : Unit} (hf : f_X6_firstDraft  s0 = some (zs, rr)) : CtV mM yX6_firstDraft cX6_firstDraft 2 rm_X6_firstDraft (fun ph => [.ref (ph 0)]) s0 zs := by
  refine CtV.of (by decide +kernel) (fun ph => Nat.le_of_ble_eq_true rfl) (fun E O hret => ?_)
  have O : OK mM E RX6 cX6_firstDraft 2 rm_X6_firstDraft := O
  show WS mM E 2 0 [(0, rf E 0)] [] s0
  unfold f_X6_firstDraft at hf
  refine s_iconst (v := 0) O dX6_firstDraft_0 rfl ?_
  refine s_istore_n (lv' := [(1, .int 0), (0, rf E 0)]) O dX6_firstDraft_1 rfl (by decide) rfl ?_
  refine s_loc [1, 0] rfl ?_
  obtain ⟨s3, e4, c5, hf⟩ := bn_e hf
  refine lp_of (body := fun s v => fb_X6_firstDraft_l2  s v) (X := fun s v => WS mM E 2 2 [(0, rf E 0), (1, .int v)] [] s) (Y := fun s e => WS mM E 2 21 [(0, rf E 0)] [] s) (fun s v s' w hb Kc Ke => wb_X6_firstDraft_l2 (rr := rr) O   hret Kc Ke hb) FU _ _ (s3, e4) c5 ?_
  show WS mM E 2 21 [(0, rf E 0)] [] s3
  refine s_iconst (v := 0) O dX6_firstDraft_21 rfl ?_
  refine s_istore_n (lv' := [(1, .int 0), (0, rf E 0)]) O dX6_firstDraft_22 rfl (by decide) rfl ?_
  refine s_loc [1, 0] rfl ?_
  obtain ⟨s8, e9, c10, hf⟩ := bn_e hf
  refine lp_of (body := fun s v => fb_X6_firstDraft_l23  s v) (X := fun s v => WS mM E 2 23 [(0, rf E 0), (1, .int v)] [] s) (Y := fun s e => WS mM E 2 44 [(0, rf E 0)] [] s) (fun s v s' w hb Kc Ke => wb_X6_firstDraft_l23 (rr := rr) O   hret Kc Ke hb) FU _ _ (s8, e9) c10 ?_
  show WS mM E 2 44 [(0, rf E 0)] [] s8
  refine s_aload_n O 0 dX6_firstDraft_44 rfl rfl ?_
  refine s_getR O fg_RX6_20 ms_0 rfl dX6_firstDraft_45 ?_
  refine s_bipush (v := 26) O dX6_firstDraft_48 rfl ?_
  refine s_iconst (v := 1) O dX6_firstDraft_50 rfl ?_
  obtain ⟨h11, hf⟩ := gd_e hf
  refine s_iast O ms_4 h11 dX6_firstDraft_51 ?_
  refine s_tops (fun s12 es12 => ?_)
  replace hf := nms_e es12 hf
  refine s_aload_n O 0 dX6_firstDraft_52 rfl rfl ?_
  refine s_iconst (v := 0) O dX6_firstDraft_53 rfl ?_
  refine s_putI O fp_RX6_50 ms_0 rfl dX6_firstDraft_54 ?_
  refine s_tops (fun s13 es13 => ?_)
  replace hf := nms_e es13 hf
  refine s_aload_n O 0 dX6_firstDraft_57 rfl rfl ?_
  refine s_iconst (v := 0) O dX6_firstDraft_58 rfl ?_
  refine s_putI O fp_RX6_54 ms_0 rfl dX6_firstDraft_59 ?_
  refine s_tops (fun s14 es14 => ?_)
  replace hf := nms_e es14 hf
  refine s_aload_n O 0 dX6_firstDraft_62 rfl rfl ?_
  refine s_iconst (v := 0) O dX6_firstDraft_63 rfl ?_
  refine s_putZ O fp_RX6_57 (Or.inl rfl) ms_0 rfl dX6_firstDraft_64 ?_
  refine s_tops (fun s15 es15 => ?_)
  replace hf := nms_e es15 hf
  refine s_aload_n O 0 dX6_firstDraft_67 rfl rfl ?_
  refine s_iconst (v := 0) O dX6_firstDraft_68 rfl ?_
  refine s_putZ O fp_RX6_61 (Or.inl rfl) ms_0 rfl dX6_firstDraft_69 ?_
  refine s_tops (fun s16 es16 => ?_)
  replace hf := nms_e es16 hf
  exact s_vret hret dX6_firstDraft_72 hf
def rm_X6_keepDraft : Room := { frames := 0, cells := 0, slots := 0, locals := 0 }
def fb_X6_keepDraft_l2   (s0 : StA) (v1 : Int32) : Option (StA × ((Int32) ⊕ (Unit))) :=
  (if 63 ≤ v1 then some (s0, .inr ()) else gd v1 63 (gd v1 189 (nms (si s0 1 v1.toNatClampNeg (gi s0 4 v1.toNatClampNeg)) (fun s3 => some (s3, .inl (v1 + 1))))))
set_option maxHeartbeats 4000000 in
set_option maxRecDepth 100000 in
theorem wb_X6_keepDraft_l2 {E : XC} (O : OK mM E RX6 cX6_keepDraft 2 rm_X6_keepDraft)    {s0 : StA} {v1 : Int32} {zs : StA} {rr : Unit} (hret : ReV mM E cX6_keepDraft zs) {bs : StA} {bw : (Int32) ⊕ (Unit)} (Kc : ∀ v, bw = .inl v → WS mM E 2 2 [(0, rf E 0), (1, .int v)] [] bs) (Ke : ∀ e, bw = .inr e → WS mM E 2 26 [(0, rf E 0)] [] bs) (hf : fb_X6_keepDraft_l2  s0 v1 = some (bs, bw)) : WS mM E 2 2 [(0, rf E 0), (1, .int v1)] [] s0 := by
  unfold fb_X6_keepDraft_l2 at hf
  refine s_iload_n O 1 dX6_keepDraft_2 rfl rfl ?_
  refine s_bipush (v := 63) O dX6_keepDraft_3 rfl ?_
  refine s_icmp_ge (tgt := 26) O dX6_keepDraft_5 (by decide) (fun c => ?_) (fun c => ?_)
  · replace hf := if_t c hf
    refine s_loc [0] rfl ?_
    cases hf
    exact Ke _ rfl
  · replace hf := if_f c hf
    refine s_aload_n O 0 dX6_keepDraft_8 rfl rfl ?_
    refine s_getR O fg_RX6_7 ms_0 rfl dX6_keepDraft_9 ?_
    refine s_iload_n O 1 dX6_keepDraft_12 rfl rfl ?_
    refine s_aload_n O 0 dX6_keepDraft_13 rfl rfl ?_
    refine s_getR O fg_RX6_20 ms_0 rfl dX6_keepDraft_14 ?_
    refine s_iload_n O 1 dX6_keepDraft_17 rfl rfl ?_
    obtain ⟨h1, hf⟩ := gd_e hf
    refine s_iald O ms_4 h1 dX6_keepDraft_18 ?_
    obtain ⟨h2, hf⟩ := gd_e hf
    refine s_iast O ms_1 h2 dX6_keepDraft_19 ?_
    refine s_tops (fun s3 es3 => ?_)
    replace hf := nms_e es3 hf
    refine s_iinc (v := (v1 + 1)) (lv' := [(1, .int (v1 + 1)), (0, rf E 0)]) O 1 dX6_keepDraft_20 rfl rfl (by decide) rfl ?_
    refine s_goto (tgt := 2) O dX6_keepDraft_23 (by decide) ?_
    refine s_loc [1, 0] rfl ?_
    cases hf
    exact Kc _ rfl
def fl_X6_keepDraft_l2   (s0 : StA) (v : Int32) : Option (StA × ((Unit))) :=
  it (fun s v => fb_X6_keepDraft_l2  s v) FU s0 v
def f_X6_keepDraft  (s0 : StA) : Option (StA × Unit) :=
  bn (fl_X6_keepDraft_l2  s0 0) (fun s4 e5 => nms (si s4 0 3 (gi s4 0 5)) (fun s7 => gd 0 2 (nms (si s7 3 ((0 : Int32).toNatClampNeg) 0) (fun s9 => gd 1 2 (nms (si s9 3 ((1 : Int32).toNatClampNeg) 0) (fun s11 => some (s11, ())))))))
set_option maxHeartbeats 4000000 in
set_option maxRecDepth 100000 in
theorem k_X6_keepDraft  {s0 zs : StA} {rr : Unit} (hf : f_X6_keepDraft  s0 = some (zs, rr)) : CtV mM yX6_keepDraft cX6_keepDraft 2 rm_X6_keepDraft (fun ph => [.ref (ph 0)]) s0 zs := by
  refine CtV.of (by decide +kernel) (fun ph => Nat.le_of_ble_eq_true rfl) (fun E O hret => ?_)
  have O : OK mM E RX6 cX6_keepDraft 2 rm_X6_keepDraft := O
  show WS mM E 2 0 [(0, rf E 0)] [] s0
  unfold f_X6_keepDraft at hf
  refine s_iconst (v := 0) O dX6_keepDraft_0 rfl ?_
  refine s_istore_n (lv' := [(1, .int 0), (0, rf E 0)]) O dX6_keepDraft_1 rfl (by decide) rfl ?_
  refine s_loc [1, 0] rfl ?_
  obtain ⟨s4, e5, c6, hf⟩ := bn_e hf
  refine lp_of (body := fun s v => fb_X6_keepDraft_l2  s v) (X := fun s v => WS mM E 2 2 [(0, rf E 0), (1, .int v)] [] s) (Y := fun s e => WS mM E 2 26 [(0, rf E 0)] [] s) (fun s v s' w hb Kc Ke => wb_X6_keepDraft_l2 (rr := rr) O   hret Kc Ke hb) FU _ _ (s4, e5) c6 ?_
  show WS mM E 2 26 [(0, rf E 0)] [] s4
  refine s_aload_n O 0 dX6_keepDraft_26 rfl rfl ?_
  refine s_aload_n O 0 dX6_keepDraft_27 rfl rfl ?_
  refine s_getI O fg_RX6_50 ms_0 rfl dX6_keepDraft_28 ?_
  refine s_putI O fp_RX6_64 ms_0 rfl dX6_keepDraft_31 ?_
  refine s_tops (fun s7 es7 => ?_)
  replace hf := nms_e es7 hf
  refine s_aload_n O 0 dX6_keepDraft_34 rfl rfl ?_
  refine s_getR O fg_RX6_16 ms_0 rfl dX6_keepDraft_35 ?_
  refine s_iconst (v := 0) O dX6_keepDraft_38 rfl ?_
  refine s_iconst (v := 0) O dX6_keepDraft_39 rfl ?_
  obtain ⟨h8, hf⟩ := gd_e hf
  refine s_zast O (Or.inl rfl) ms_3 h8 dX6_keepDraft_40 ?_
  refine s_tops (fun s9 es9 => ?_)
  replace hf := nms_e es9 hf
  refine s_aload_n O 0 dX6_keepDraft_41 rfl rfl ?_
  refine s_getR O fg_RX6_16 ms_0 rfl dX6_keepDraft_42 ?_
  refine s_iconst (v := 1) O dX6_keepDraft_45 rfl ?_
  refine s_iconst (v := 0) O dX6_keepDraft_46 rfl ?_
  obtain ⟨h10, hf⟩ := gd_e hf
  refine s_zast O (Or.inl rfl) ms_3 h10 dX6_keepDraft_47 ?_
  refine s_tops (fun s11 es11 => ?_)
  replace hf := nms_e es11 hf
  exact s_vret hret dX6_keepDraft_48 hf
def rm_X6_in : Room := { frames := 0, cells := 0, slots := 0, locals := 0 }
def f_X6_in (a0 : Int64) (a2 : Int64) (a4 : Int64) (s0 : StA) : Option (StA × Int32) :=
  (if (lg_cmp a0 a2) < 0 then some (s0, 0) else (if 0 < (lg_cmp a0 a4) then some (s0, 0) else some (s0, 1)))
set_option maxHeartbeats 4000000 in
set_option maxRecDepth 100000 in
theorem k_X6_in {a0 : Int64} {a2 : Int64} {a4 : Int64} {s0 zs : StA} {rr : Int32} (hf : f_X6_in a0 a2 a4 s0 = some (zs, rr)) : CtI mM yX6_in cX6_in 6 .boolean rm_X6_in (fun ph => [.long a0, .long a2, .long a4]) s0 zs rr := by
  refine CtI.of (by decide +kernel) (fun ph => Nat.le_of_ble_eq_true rfl) (fun E O hret => ?_)
  have O : OK mM E RX6 cX6_in 6 rm_X6_in := O
  show WS mM E 6 0 [(0, .long a0), (2, .long a2), (4, .long a4)] [] s0
  unfold f_X6_in at hf
  refine s_lload_n O 0 dX6_in_0 rfl rfl ?_
  refine s_lload_n O 1 dX6_in_1 rfl rfl ?_
  refine s_lcmp O dX6_in_2 ?_
  refine s_if_lt (tgt := 17) O dX6_in_3 (by decide) (fun c => ?_) (fun c => ?_)
  · replace hf := if_t c hf
    refine s_iconst (v := 0) O dX6_in_17 rfl ?_
    exact s_iret hret rfl dX6_in_18 hf
  · replace hf := if_f c hf
    refine s_lload_n O 0 dX6_in_6 rfl rfl ?_
    refine s_lload O 2 dX6_in_7 rfl ?_
    refine s_lcmp O dX6_in_9 ?_
    refine s_if_gt (tgt := 17) O dX6_in_10 (by decide) (fun c => ?_) (fun c => ?_)
    · replace hf := if_t c hf
      refine s_iconst (v := 0) O dX6_in_17 rfl ?_
      exact s_iret hret rfl dX6_in_18 hf
    · replace hf := if_f c hf
      refine s_iconst (v := 1) O dX6_in_13 rfl ?_
      refine s_goto (tgt := 18) O dX6_in_14 (by decide) ?_
      exact s_iret hret rfl dX6_in_18 hf
def rm_X6_feed : Room := { frames := 1, cells := 0, slots := 0, locals := 25 }
def f_X6_feed (a1 : Int32) (s0 : StA) : Option (StA × Int32) :=
  bn (f_X6_in a1.toInt64 0 127 s0) (fun s1 r2 => (if r2 = 0 then some (s1, (-1)) else (if (gi s1 0 10) = 160 then some (s1, (-3)) else gd (gi s1 0 10) 160 (nms (si s1 5 ((gi s1 0 10).toNatClampNeg) a1) (fun s5 => nms (si s5 0 10 ((gi s5 0 10) + 1)) (fun s6 => some (s6, (gi s6 0 10))))))))
set_option maxHeartbeats 4000000 in
set_option maxRecDepth 100000 in
theorem k_X6_feed {a1 : Int32} {s0 zs : StA} {rr : Int32} (hf : f_X6_feed a1 s0 = some (zs, rr)) : CtI mM yX6_feed cX6_feed 2 .int rm_X6_feed (fun ph => [.ref (ph 0), .int a1]) s0 zs rr := by
  refine CtI.of (by decide +kernel) (fun ph => Nat.le_of_ble_eq_true rfl) (fun E O hret => ?_)
  have O : OK mM E RX6 cX6_feed 2 rm_X6_feed := O
  show WS mM E 2 0 [(0, rf E 0), (1, .int a1)] [] s0
  unfold f_X6_feed at hf
  refine s_iload_n O 1 dX6_feed_0 rfl rfl ?_
  refine s_i2l O dX6_feed_1 ?_
  refine s_lconst (v := 0) O dX6_feed_2 rfl ?_
  refine s_ldc2 O cl_RX6_67 dX6_feed_3 ?_
  obtain ⟨s1, r2, c3, hf⟩ := bn_e hf
  refine s_SI (As := [.long a1.toInt64, .long 0, .long 127]) (st := []) O lk_RX6_69 (k_X6_in c3) rfl rfl ⟨rfl, rfl⟩ ⟨Nat.le_of_ble_eq_true rfl, Nat.le_of_ble_eq_true rfl⟩ rfl (Nat.le_of_ble_eq_true rfl) dX6_feed_6 ?_
  refine s_if_ne (tgt := 14) O dX6_feed_9 (by decide) (fun c => ?_) (fun c => ?_)
  · replace hf := if_f c hf
    refine s_aload_n O 0 dX6_feed_14 rfl rfl ?_
    refine s_getI O fg_RX6_73 ms_0 rfl dX6_feed_15 ?_
    refine s_sipush (v := 160) O dX6_feed_18 rfl ?_
    refine s_icmp_ne (tgt := 27) O dX6_feed_21 (by decide) (fun c => ?_) (fun c => ?_)
    · replace hf := if_f c hf
      refine s_aload_n O 0 dX6_feed_27 rfl rfl ?_
      refine s_getR O fg_RX6_23 ms_0 rfl dX6_feed_28 ?_
      refine s_aload_n O 0 dX6_feed_31 rfl rfl ?_
      refine s_getI O fg_RX6_73 ms_0 rfl dX6_feed_32 ?_
      refine s_iload_n O 1 dX6_feed_35 rfl rfl ?_
      obtain ⟨h4, hf⟩ := gd_e hf
      refine s_iast O ms_5 h4 dX6_feed_36 ?_
      refine s_tops (fun s5 es5 => ?_)
      replace hf := nms_e es5 hf
      refine s_aload_n O 0 dX6_feed_37 rfl rfl ?_
      refine s_dup O dX6_feed_38 rfl ?_
      refine s_getI O fg_RX6_73 ms_0 rfl dX6_feed_39 ?_
      refine s_iconst (v := 1) O dX6_feed_42 rfl ?_
      refine s_iadd O dX6_feed_43 ?_
      refine s_putI O fp_RX6_73 ms_0 rfl dX6_feed_44 ?_
      refine s_tops (fun s6 es6 => ?_)
      replace hf := nms_e es6 hf
      refine s_aload_n O 0 dX6_feed_47 rfl rfl ?_
      refine s_getI O fg_RX6_73 ms_0 rfl dX6_feed_48 ?_
      exact s_iret hret rfl dX6_feed_51 hf
    · replace hf := if_t c hf
      refine s_bipush (v := (-3)) O dX6_feed_24 rfl ?_
      exact s_iret hret rfl dX6_feed_26 hf
  · replace hf := if_t c hf
    refine s_iconst (v := (-1)) O dX6_feed_12 rfl ?_
    exact s_iret hret rfl dX6_feed_13 hf
