def rm_J7_fill_53178 : Room := { frames := 0, cells := 0, slots := 0, locals := 0 }
def fb_J7_fill_53178_l5 (a0 : Nat) (a0n : Nat) (a1 : Int32) (x1 : Int32) (x3 : Int32) (s0 : StA) (v2 : Int32) : Option (StA × ((Int32) ⊕ (Unit))) :=
  (if x3 ≤ v2 then some (s0, .inr ()) else gd v2 a0n (nms (si s0 a0 v2.toNatClampNeg x1) (fun s3 => some (s3, .inl (v2 + 1)))))
set_option maxHeartbeats 4000000 in
set_option maxRecDepth 100000 in
theorem wb_J7_fill_53178_l5 {M : MW} {E : XC} (O : OK M E RJ7 cJ7_fill_53178 4 rm_J7_fill_53178) {a0 : Nat} {a0n : Nat} {a1 : Int32} (ha0 : a0 < M.1 ∧ M.2 a0 = .inr (.inl (0, a0n)))  {x1 : Int32} {x3 : Int32} {s0 : StA} {v2 : Int32} {zs : StA} {rr : Unit} (hret : ReV M E cJ7_fill_53178 zs) {bs : StA} {bw : (Int32) ⊕ (Unit)} (Kc : ∀ v, bw = .inl v → WS M E 4 5 [(0, rf E a0), (1, .int x1), (2, .int v), (3, .int x3)] [] bs) (Ke : ∀ e, bw = .inr e → WS M E 4 20 [] [] bs) (hf : fb_J7_fill_53178_l5 a0 a0n a1 x1 x3 s0 v2 = some (bs, bw)) : WS M E 4 5 [(0, rf E a0), (1, .int x1), (2, .int v2), (3, .int x3)] [] s0 := by
  unfold fb_J7_fill_53178_l5 at hf
  refine s_iload_n O 2 dJ7_fill_53178_5 rfl rfl ?_
  refine s_iload_n O 3 dJ7_fill_53178_6 rfl rfl ?_
  refine s_icmp_ge (tgt := 20) O dJ7_fill_53178_7 (by decide) (fun c => ?_) (fun c => ?_)
  · replace hf := if_t c hf
    refine s_loc [] rfl ?_
    cases hf
    exact Ke _ rfl
  · replace hf := if_f c hf
    refine s_aload_n O 0 dJ7_fill_53178_10 rfl rfl ?_
    refine s_iload_n O 2 dJ7_fill_53178_11 rfl rfl ?_
    refine s_iload_n O 1 dJ7_fill_53178_12 rfl rfl ?_
    obtain ⟨h2, hf⟩ := gd_e hf
    refine s_iast O ha0 h2 dJ7_fill_53178_13 ?_
    refine s_tops (fun s3 es3 => ?_)
    replace hf := nms_e es3 hf
    refine s_iinc (v := (v2 + 1)) (lv' := [(2, .int (v2 + 1)), (0, rf E a0), (1, .int x1), (3, .int x3)]) O 2 dJ7_fill_53178_14 rfl rfl (by decide) rfl ?_
    refine s_goto (tgt := 5) O dJ7_fill_53178_17 (by decide) ?_
    refine s_loc [1, 2, 0, 3] rfl ?_
    cases hf
    exact Kc _ rfl
def fl_J7_fill_53178_l5 (a0 : Nat) (a0n : Nat) (a1 : Int32) (x1 : Int32) (x3 : Int32) (s0 : StA) (v : Int32) : Option (StA × ((Unit))) :=
  it (fun s v => fb_J7_fill_53178_l5 a0 a0n a1 x1 x3 s v) FU s0 v
def f_J7_fill_53178 (a0 : Nat) (a0n : Nat) (a1 : Int32) (s0 : StA) : Option (StA × Unit) :=
  nmi (Int32.ofNat a0n) (fun n1 => bn (fl_J7_fill_53178_l5 a0 a0n a1 a1 n1 s0 0) (fun s4 e5 => some (s4, ())))
set_option maxHeartbeats 4000000 in
set_option maxRecDepth 100000 in
theorem k_J7_fill_53178 {M : MW} {a0 : Nat} {a0n : Nat} {a1 : Int32} (ha0 : a0 < M.1 ∧ M.2 a0 = .inr (.inl (0, a0n))) {s0 zs : StA} {rr : Unit} (hf : f_J7_fill_53178 a0 a0n a1 s0 = some (zs, rr)) : CtV M yJ7_fill_53178 cJ7_fill_53178 4 rm_J7_fill_53178 (fun ph => [.ref (ph a0), .int a1]) s0 zs := by
  refine CtV.of (by decide +kernel) (fun ph => Nat.le_of_ble_eq_true rfl) (fun E O hret => ?_)
  have O : OK M E RJ7 cJ7_fill_53178 4 rm_J7_fill_53178 := O
  show WS M E 4 0 [(0, rf E a0), (1, .int a1)] [] s0
  unfold f_J7_fill_53178 at hf
  refine s_iconst (v := 0) O dJ7_fill_53178_0 rfl ?_
  refine s_istore_n (lv' := [(2, .int 0), (0, rf E a0), (1, .int a1)]) O dJ7_fill_53178_1 rfl (by decide) rfl ?_
  refine s_aload_n O 1 dJ7_fill_53178_2 rfl rfl ?_
  refine s_alen O ha0 rfl dJ7_fill_53178_3 ?_
  refine s_topi (fun n1 en1 => ?_)
  replace hf := nmi_e en1 hf
  refine s_istore_n (lv' := [(3, .int n1), (2, .int 0), (0, rf E a0), (1, .int a1)]) O dJ7_fill_53178_4 rfl (by decide) rfl ?_
  refine s_loc [2, 3, 1, 0] rfl ?_
  obtain ⟨s4, e5, c6, hf⟩ := bn_e hf
  refine lp_of (body := fun s v => fb_J7_fill_53178_l5 a0 a0n a1 a1 n1 s v) (X := fun s v => WS M E 4 5 [(0, rf E a0), (1, .int a1), (2, .int v), (3, .int n1)] [] s) (Y := fun s e => WS M E 4 20 [] [] s) (fun s v s' w hb Kc Ke => wb_J7_fill_53178_l5 (rr := rr) O ha0  hret Kc Ke hb) FU _ _ (s4, e5) c6 ?_
  show WS M E 4 20 [] [] s4
  exact s_vret hret dJ7_fill_53178_20 hf
def rm_X5_isIn : Room := { frames := 0, cells := 0, slots := 0, locals := 0 }
def f_X5_isIn (a0 : Int32) (a1 : Int32) (a2 : Int32) (s0 : StA) : Option (StA × Int32) :=
  (if a0 < a1 then some (s0, 0) else (if a2 < a0 then some (s0, 0) else some (s0, 1)))
set_option maxHeartbeats 4000000 in
set_option maxRecDepth 100000 in
theorem k_X5_isIn {a0 : Int32} {a1 : Int32} {a2 : Int32} {s0 zs : StA} {rr : Int32} (hf : f_X5_isIn a0 a1 a2 s0 = some (zs, rr)) : CtI cM yX5_isIn cX5_isIn 3 .boolean rm_X5_isIn (fun ph => [.int a0, .int a1, .int a2]) s0 zs rr := by
  refine CtI.of (by decide +kernel) (fun ph => Nat.le_of_ble_eq_true rfl) (fun E O hret => ?_)
  have O : OK cM E RX5 cX5_isIn 3 rm_X5_isIn := O
  show WS cM E 3 0 [(0, .int a0), (1, .int a1), (2, .int a2)] [] s0
  unfold f_X5_isIn at hf
  refine s_iload_n O 0 dX5_isIn_0 rfl rfl ?_
  refine s_iload_n O 1 dX5_isIn_1 rfl rfl ?_
  refine s_icmp_lt (tgt := 14) O dX5_isIn_2 (by decide) (fun c => ?_) (fun c => ?_)
  · replace hf := if_t c hf
    refine s_iconst (v := 0) O dX5_isIn_14 rfl ?_
    exact s_iret hret rfl dX5_isIn_15 hf
  · replace hf := if_f c hf
    refine s_iload_n O 0 dX5_isIn_5 rfl rfl ?_
    refine s_iload_n O 2 dX5_isIn_6 rfl rfl ?_
    refine s_icmp_gt (tgt := 14) O dX5_isIn_7 (by decide) (fun c => ?_) (fun c => ?_)
    · replace hf := if_t c hf
      refine s_iconst (v := 0) O dX5_isIn_14 rfl ?_
      exact s_iret hret rfl dX5_isIn_15 hf
    · replace hf := if_f c hf
      refine s_iconst (v := 1) O dX5_isIn_10 rfl ?_
      refine s_goto (tgt := 15) O dX5_isIn_11 (by decide) ?_
      exact s_iret hret rfl dX5_isIn_15 hf
def rm_X3_sortOf : Room := { frames := 1, cells := 0, slots := 0, locals := 22 }
def f_X3_sortOf (a0 : Int32) (s0 : StA) : Option (StA × Int32) :=
  bn (f_X5_isIn a0 97 122 s0) (fun s1 r2 => (if r2 = 0 then bn (f_X5_isIn a0 48 57 s1) (fun s4 r5 => (if r5 = 0 then (if a0 = 59 then some (s4, 3) else (if a0 = 32 then some (s4, 4) else some (s4, 5))) else some (s4, 2))) else some (s1, 1)))
set_option maxHeartbeats 4000000 in
set_option maxRecDepth 100000 in
theorem k_X3_sortOf {a0 : Int32} {s0 zs : StA} {rr : Int32} (hf : f_X3_sortOf a0 s0 = some (zs, rr)) : CtI cM yX3_sortOf cX3_sortOf 1 .int rm_X3_sortOf (fun ph => [.int a0]) s0 zs rr := by
  refine CtI.of (by decide +kernel) (fun ph => Nat.le_of_ble_eq_true rfl) (fun E O hret => ?_)
  have O : OK cM E RX3 cX3_sortOf 1 rm_X3_sortOf := O
  show WS cM E 1 0 [(0, .int a0)] [] s0
  unfold f_X3_sortOf at hf
  refine s_iload_n O 0 dX3_sortOf_0 rfl rfl ?_
  refine s_bipush (v := 97) O dX3_sortOf_1 rfl ?_
  refine s_bipush (v := 122) O dX3_sortOf_3 rfl ?_
  obtain ⟨s1, r2, c3, hf⟩ := bn_e hf
  refine s_NI (As := [.int a0, .int 97, .int 122]) (st := []) O lk_RX3_26 (k_X5_isIn c3) rfl rfl ⟨rfl, rfl⟩ ⟨Nat.le_of_ble_eq_true rfl, Nat.le_of_ble_eq_true rfl⟩ rfl (Nat.le_of_ble_eq_true rfl) dX3_sortOf_5 ?_
  refine s_if_eq (tgt := 13) O dX3_sortOf_8 (by decide) (fun c => ?_) (fun c => ?_)
  · replace hf := if_t c hf
    refine s_iload_n O 0 dX3_sortOf_13 rfl rfl ?_
    refine s_bipush (v := 48) O dX3_sortOf_14 rfl ?_
    refine s_bipush (v := 57) O dX3_sortOf_16 rfl ?_
    obtain ⟨s4, r5, c6, hf⟩ := bn_e hf
    refine s_NI (As := [.int a0, .int 48, .int 57]) (st := []) O lk_RX3_26 (k_X5_isIn c6) rfl rfl ⟨rfl, rfl⟩ ⟨Nat.le_of_ble_eq_true rfl, Nat.le_of_ble_eq_true rfl⟩ rfl (Nat.le_of_ble_eq_true rfl) dX3_sortOf_18 ?_
    refine s_if_eq (tgt := 26) O dX3_sortOf_21 (by decide) (fun c => ?_) (fun c => ?_)
    · replace hf := if_t c hf
      refine s_iload_n O 0 dX3_sortOf_26 rfl rfl ?_
      refine s_bipush (v := 59) O dX3_sortOf_27 rfl ?_
      refine s_icmp_ne (tgt := 36) O dX3_sortOf_29 (by decide) (fun c => ?_) (fun c => ?_)
      · replace hf := if_f c hf
        refine s_iload_n O 0 dX3_sortOf_36 rfl rfl ?_
        refine s_bipush (v := 32) O dX3_sortOf_37 rfl ?_
        refine s_icmp_ne (tgt := 46) O dX3_sortOf_39 (by decide) (fun c => ?_) (fun c => ?_)
        · replace hf := if_f c hf
          refine s_iconst (v := 5) O dX3_sortOf_46 rfl ?_
          exact s_iret hret rfl dX3_sortOf_47 hf
        · replace hf := if_t c hf
          refine s_iconst (v := 4) O dX3_sortOf_42 rfl ?_
          refine s_goto (tgt := 47) O dX3_sortOf_43 (by decide) ?_
          exact s_iret hret rfl dX3_sortOf_47 hf
      · replace hf := if_t c hf
        refine s_iconst (v := 3) O dX3_sortOf_32 rfl ?_
        refine s_goto (tgt := 47) O dX3_sortOf_33 (by decide) ?_
        exact s_iret hret rfl dX3_sortOf_47 hf
    · replace hf := if_f c hf
      refine s_iconst (v := 2) O dX3_sortOf_24 rfl ?_
      exact s_iret hret rfl dX3_sortOf_25 hf
  · replace hf := if_f c hf
    refine s_iconst (v := 1) O dX3_sortOf_11 rfl ?_
    exact s_iret hret rfl dX3_sortOf_12 hf
def rm_X3_append : Room := { frames := 2, cells := 0, slots := 0, locals := 42 }
def f_X3_append (a1 : Int32) (s0 : StA) : Option (StA × Int32) :=
  (if (gi s0 47 2) < 160 then gd (gi s0 47 2) 160 (nms (si s0 48 ((gi s0 47 2).toNatClampNeg) a1) (fun s2 => bn (f_X3_sortOf a1 s2) (fun s3 r4 => gd (gi s2 47 2) 160 (nms (si s3 49 ((gi s2 47 2).toNatClampNeg) r4) (fun s7 => nms (si s7 47 2 ((gi s7 47 2) + 1)) (fun s8 => some (s8, (gi s8 47 2)))))))) else some (s0, (-3)))
set_option maxHeartbeats 4000000 in
set_option maxRecDepth 100000 in
theorem k_X3_append {a1 : Int32} {s0 zs : StA} {rr : Int32} (hf : f_X3_append a1 s0 = some (zs, rr)) : CtI cM yX3_append cX3_append 2 .int rm_X3_append (fun ph => [.ref (ph 47), .int a1]) s0 zs rr := by
  refine CtI.of (by decide +kernel) (fun ph => Nat.le_of_ble_eq_true rfl) (fun E O hret => ?_)
  have O : OK cM E RX3 cX3_append 2 rm_X3_append := O
  show WS cM E 2 0 [(0, rf E 47), (1, .int a1)] [] s0
  unfold f_X3_append at hf
  refine s_aload_n O 0 dX3_append_0 rfl rfl ?_
  refine s_getI O fg_RX3_18 cs_47 rfl dX3_append_1 ?_
  refine s_sipush (v := 160) O dX3_append_4 rfl ?_
  refine s_icmp_lt (tgt := 13) O dX3_append_7 (by decide) (fun c => ?_) (fun c => ?_)
  · replace hf := if_t c hf
    refine s_aload_n O 0 dX3_append_13 rfl rfl ?_
    refine s_getR O fg_RX3_9 cs_47 rfl dX3_append_14 ?_
    refine s_aload_n O 0 dX3_append_17 rfl rfl ?_
    refine s_getI O fg_RX3_18 cs_47 rfl dX3_append_18 ?_
    refine s_iload_n O 1 dX3_append_21 rfl rfl ?_
    obtain ⟨h1, hf⟩ := gd_e hf
    refine s_iast O cs_48 h1 dX3_append_22 ?_
    refine s_tops (fun s2 es2 => ?_)
    replace hf := nms_e es2 hf
    refine s_aload_n O 0 dX3_append_23 rfl rfl ?_
    refine s_getR O fg_RX3_15 cs_47 rfl dX3_append_24 ?_
    refine s_aload_n O 0 dX3_append_27 rfl rfl ?_
    refine s_getI O fg_RX3_18 cs_47 rfl dX3_append_28 ?_
    refine s_iload_n O 1 dX3_append_31 rfl rfl ?_
    obtain ⟨s3, r4, c5, hf⟩ := bn_e hf
    refine s_SI (As := [.int a1]) (st := [.int (gi s2 47 2), rf E 49]) O lk_RX3_22 (k_X3_sortOf c5) rfl rfl ⟨rfl, rfl⟩ ⟨Nat.le_of_ble_eq_true rfl, Nat.le_of_ble_eq_true rfl⟩ rfl (Nat.le_of_ble_eq_true rfl) dX3_append_32 ?_
    obtain ⟨h6, hf⟩ := gd_e hf
    refine s_iast O cs_49 h6 dX3_append_35 ?_
    refine s_tops (fun s7 es7 => ?_)
    replace hf := nms_e es7 hf
    refine s_aload_n O 0 dX3_append_36 rfl rfl ?_
    refine s_dup O dX3_append_37 rfl ?_
    refine s_getI O fg_RX3_18 cs_47 rfl dX3_append_38 ?_
    refine s_iconst (v := 1) O dX3_append_41 rfl ?_
    refine s_iadd O dX3_append_42 ?_
    refine s_putI O fp_RX3_18 cs_47 rfl dX3_append_43 ?_
    refine s_tops (fun s8 es8 => ?_)
    replace hf := nms_e es8 hf
    refine s_aload_n O 0 dX3_append_46 rfl rfl ?_
    refine s_getI O fg_RX3_18 cs_47 rfl dX3_append_47 ?_
    exact s_iret hret rfl dX3_append_50 hf
  · replace hf := if_f c hf
    refine s_bipush (v := (-3)) O dX3_append_10 rfl ?_
    exact s_iret hret rfl dX3_append_12 hf
def rm_X5_feed : Room := { frames := 3, cells := 0, slots := 0, locals := 63 }
def f_X5_feed (a1 : Int32) (s0 : StA) : Option (StA × Int32) :=
  bn (f_X5_isIn a1 0 127 s0) (fun s1 r2 => (if r2 = 0 then some (s1, (-1)) else bn (f_X3_append a1 s1) (fun s4 r5 => some (s4, r5))))
set_option maxHeartbeats 4000000 in
set_option maxRecDepth 100000 in
theorem k_X5_feed {a1 : Int32} {s0 zs : StA} {rr : Int32} (hf : f_X5_feed a1 s0 = some (zs, rr)) : CtI cM yX5_feed cX5_feed 2 .int rm_X5_feed (fun ph => [.ref (ph 0), .int a1]) s0 zs rr := by
  refine CtI.of (by decide +kernel) (fun ph => Nat.le_of_ble_eq_true rfl) (fun E O hret => ?_)
  have O : OK cM E RX5 cX5_feed 2 rm_X5_feed := O
  show WS cM E 2 0 [(0, rf E 0), (1, .int a1)] [] s0
  unfold f_X5_feed at hf
  refine s_iload_n O 1 dX5_feed_0 rfl rfl ?_
  refine s_iconst (v := 0) O dX5_feed_1 rfl ?_
  refine s_bipush (v := 127) O dX5_feed_2 rfl ?_
  obtain ⟨s1, r2, c3, hf⟩ := bn_e hf
  refine s_SI (As := [.int a1, .int 0, .int 127]) (st := []) O lk_RX5_53 (k_X5_isIn c3) rfl rfl ⟨rfl, rfl⟩ ⟨Nat.le_of_ble_eq_true rfl, Nat.le_of_ble_eq_true rfl⟩ rfl (Nat.le_of_ble_eq_true rfl) dX5_feed_4 ?_
  refine s_if_ne (tgt := 12) O dX5_feed_7 (by decide) (fun c => ?_) (fun c => ?_)
  · replace hf := if_f c hf
    refine s_aload_n O 0 dX5_feed_12 rfl rfl ?_
    refine s_getR O fg_RX5_30 cs_0 rfl dX5_feed_13 ?_
    refine s_iload_n O 1 dX5_feed_16 rfl rfl ?_
    obtain ⟨s4, r5, c6, hf⟩ := bn_e hf
    refine s_VI (As := [.int a1]) (st := []) O lk_RX5_57 (k_X3_append c6) rfl cs_47 rfl rfl ⟨rfl, rfl⟩ ⟨Nat.le_of_ble_eq_true rfl, Nat.le_of_ble_eq_true rfl⟩ rfl (Nat.le_of_ble_eq_true rfl) dX5_feed_17 ?_
    exact s_iret hret rfl dX5_feed_20 hf
  · replace hf := if_t c hf
    refine s_iconst (v := (-1)) O dX5_feed_10 rfl ?_
    exact s_iret hret rfl dX5_feed_11 hf
def rm_X3_keepFirst : Room := { frames := 1, cells := 0, slots := 0, locals := 22 }
def f_X3_keepFirst (a1 : Int32) (s0 : StA) : Option (StA × Int32) :=
  bn (f_X5_isIn a1 0 (gi s0 47 2) s0) (fun s1 r2 => (if r2 = 0 then some (s1, (-1)) else nmi (gi s1 47 2) (fun n4 => nms (si s1 47 2 a1) (fun s5 => some (s5, n4)))))
set_option maxHeartbeats 4000000 in
set_option maxRecDepth 100000 in
theorem k_X3_keepFirst {a1 : Int32} {s0 zs : StA} {rr : Int32} (hf : f_X3_keepFirst a1 s0 = some (zs, rr)) : CtI cM yX3_keepFirst cX3_keepFirst 3 .int rm_X3_keepFirst (fun ph => [.ref (ph 47), .int a1]) s0 zs rr := by
  refine CtI.of (by decide +kernel) (fun ph => Nat.le_of_ble_eq_true rfl) (fun E O hret => ?_)
  have O : OK cM E RX3 cX3_keepFirst 3 rm_X3_keepFirst := O
  show WS cM E 3 0 [(0, rf E 47), (1, .int a1)] [] s0
  unfold f_X3_keepFirst at hf
  refine s_iload_n O 1 dX3_keepFirst_0 rfl rfl ?_
  refine s_iconst (v := 0) O dX3_keepFirst_1 rfl ?_
  refine s_aload_n O 0 dX3_keepFirst_2 rfl rfl ?_
  refine s_getI O fg_RX3_18 cs_47 rfl dX3_keepFirst_3 ?_
  obtain ⟨s1, r2, c3, hf⟩ := bn_e hf
  refine s_NI (As := [.int a1, .int 0, .int (gi s0 47 2)]) (st := []) O lk_RX3_26 (k_X5_isIn c3) rfl rfl ⟨rfl, rfl⟩ ⟨Nat.le_of_ble_eq_true rfl, Nat.le_of_ble_eq_true rfl⟩ rfl (Nat.le_of_ble_eq_true rfl) dX3_keepFirst_6 ?_
  refine s_if_ne (tgt := 14) O dX3_keepFirst_9 (by decide) (fun c => ?_) (fun c => ?_)
  · replace hf := if_f c hf
    refine s_aload_n O 0 dX3_keepFirst_14 rfl rfl ?_
    refine s_getI O fg_RX3_18 cs_47 rfl dX3_keepFirst_15 ?_
    refine s_topi (fun n4 en4 => ?_)
    replace hf := nmi_e en4 hf
    refine s_istore_n (lv' := [(2, .int n4), (0, rf E 47), (1, .int a1)]) O dX3_keepFirst_18 rfl (by decide) rfl ?_
    refine s_aload_n O 1 dX3_keepFirst_19 rfl rfl ?_
    refine s_iload_n O 2 dX3_keepFirst_20 rfl rfl ?_
    refine s_putI O fp_RX3_18 cs_47 rfl dX3_keepFirst_21 ?_
    refine s_tops (fun s5 es5 => ?_)
    replace hf := nms_e es5 hf
    refine s_iload_n O 0 dX3_keepFirst_24 rfl rfl ?_
    exact s_iret hret rfl dX3_keepFirst_25 hf
  · replace hf := if_t c hf
    refine s_iconst (v := (-1)) O dX3_keepFirst_12 rfl ?_
    exact s_iret hret rfl dX3_keepFirst_13 hf
def rm_X5_end : Room := { frames := 2, cells := 0, slots := 0, locals := 44 }
def f_X5_end (a1 : Int32) (s0 : StA) : Option (StA × Int32) :=
  bn (f_X3_keepFirst a1 s0) (fun s1 r2 => some (s1, r2))
set_option maxHeartbeats 4000000 in
set_option maxRecDepth 100000 in
theorem k_X5_end {a1 : Int32} {s0 zs : StA} {rr : Int32} (hf : f_X5_end a1 s0 = some (zs, rr)) : CtI cM yX5_end cX5_end 2 .int rm_X5_end (fun ph => [.ref (ph 0), .int a1]) s0 zs rr := by
  refine CtI.of (by decide +kernel) (fun ph => Nat.le_of_ble_eq_true rfl) (fun E O hret => ?_)
  have O : OK cM E RX5 cX5_end 2 rm_X5_end := O
  show WS cM E 2 0 [(0, rf E 0), (1, .int a1)] [] s0
  unfold f_X5_end at hf
  refine s_aload_n O 0 dX5_end_0 rfl rfl ?_
  refine s_getR O fg_RX5_30 cs_0 rfl dX5_end_1 ?_
  refine s_iload_n O 1 dX5_end_4 rfl rfl ?_
  obtain ⟨s1, r2, c3, hf⟩ := bn_e hf
  refine s_VI (As := [.int a1]) (st := []) O lk_RX5_61 (k_X3_keepFirst c3) rfl cs_47 rfl rfl ⟨rfl, rfl⟩ ⟨Nat.le_of_ble_eq_true rfl, Nat.le_of_ble_eq_true rfl⟩ rfl (Nat.le_of_ble_eq_true rfl) dX5_end_5 ?_
  exact s_iret hret rfl dX5_end_8 hf
def rm_X5_forgetImages : Room := { frames := 0, cells := 0, slots := 0, locals := 0 }
def fb_X5_forgetImages_l2   (s0 : StA) (v1 : Int32) : Option (StA × ((Int32) ⊕ (Unit))) :=
  (if 2 ≤ v1 then some (s0, .inr ()) else gd v1 2 (nms (si s0 46 v1.toNatClampNeg 0) (fun s2 => some (s2, .inl (v1 + 1)))))
set_option maxHeartbeats 4000000 in
set_option maxRecDepth 100000 in
theorem wb_X5_forgetImages_l2 {E : XC} (O : OK cM E RX5 cX5_forgetImages 2 rm_X5_forgetImages)    {s0 : StA} {v1 : Int32} {zs : StA} {rr : Unit} (hret : ReV cM E cX5_forgetImages zs) {bs : StA} {bw : (Int32) ⊕ (Unit)} (Kc : ∀ v, bw = .inl v → WS cM E 2 2 [(0, rf E 0), (1, .int v)] [] bs) (Ke : ∀ e, bw = .inr e → WS cM E 2 20 [] [] bs) (hf : fb_X5_forgetImages_l2  s0 v1 = some (bs, bw)) : WS cM E 2 2 [(0, rf E 0), (1, .int v1)] [] s0 := by
  unfold fb_X5_forgetImages_l2 at hf
  refine s_iload_n O 1 dX5_forgetImages_2 rfl rfl ?_
  refine s_iconst (v := 2) O dX5_forgetImages_3 rfl ?_
  refine s_icmp_ge (tgt := 20) O dX5_forgetImages_4 (by decide) (fun c => ?_) (fun c => ?_)
  · replace hf := if_t c hf
    refine s_loc [] rfl ?_
    cases hf
    exact Ke _ rfl
  · replace hf := if_f c hf
    refine s_aload_n O 0 dX5_forgetImages_7 rfl rfl ?_
    refine s_getR O fg_RX5_23 cs_0 rfl dX5_forgetImages_8 ?_
    refine s_iload_n O 1 dX5_forgetImages_11 rfl rfl ?_
    refine s_iconst (v := 0) O dX5_forgetImages_12 rfl ?_
    obtain ⟨h1, hf⟩ := gd_e hf
    refine s_zast O (Or.inl rfl) cs_46 h1 dX5_forgetImages_13 ?_
    refine s_tops (fun s2 es2 => ?_)
    replace hf := nms_e es2 hf
    refine s_iinc (v := (v1 + 1)) (lv' := [(1, .int (v1 + 1)), (0, rf E 0)]) O 1 dX5_forgetImages_14 rfl rfl (by decide) rfl ?_
    refine s_goto (tgt := 2) O dX5_forgetImages_17 (by decide) ?_
    refine s_loc [1, 0] rfl ?_
    cases hf
    exact Kc _ rfl
def fl_X5_forgetImages_l2   (s0 : StA) (v : Int32) : Option (StA × ((Unit))) :=
  it (fun s v => fb_X5_forgetImages_l2  s v) FU s0 v
def f_X5_forgetImages  (s0 : StA) : Option (StA × Unit) :=
  bn (fl_X5_forgetImages_l2  s0 0) (fun s3 e4 => some (s3, ()))
set_option maxHeartbeats 4000000 in
set_option maxRecDepth 100000 in
theorem k_X5_forgetImages  {s0 zs : StA} {rr : Unit} (hf : f_X5_forgetImages  s0 = some (zs, rr)) : CtV cM yX5_forgetImages cX5_forgetImages 2 rm_X5_forgetImages (fun ph => [.ref (ph 0)]) s0 zs := by
  refine CtV.of (by decide +kernel) (fun ph => Nat.le_of_ble_eq_true rfl) (fun E O hret => ?_)
  have O : OK cM E RX5 cX5_forgetImages 2 rm_X5_forgetImages := O
  show WS cM E 2 0 [(0, rf E 0)] [] s0
  unfold f_X5_forgetImages at hf
  refine s_iconst (v := 0) O dX5_forgetImages_0 rfl ?_
  refine s_istore_n (lv' := [(1, .int 0), (0, rf E 0)]) O dX5_forgetImages_1 rfl (by decide) rfl ?_
  refine s_loc [1, 0] rfl ?_
  obtain ⟨s3, e4, c5, hf⟩ := bn_e hf
  refine lp_of (body := fun s v => fb_X5_forgetImages_l2  s v) (X := fun s v => WS cM E 2 2 [(0, rf E 0), (1, .int v)] [] s) (Y := fun s e => WS cM E 2 20 [] [] s) (fun s v s' w hb Kc Ke => wb_X5_forgetImages_l2 (rr := rr) O   hret Kc Ke hb) FU _ _ (s3, e4) c5 ?_
  show WS cM E 2 20 [] [] s3
  exact s_vret hret dX5_forgetImages_20 hf
def rm_X2_copyFrom : Room := { frames := 0, cells := 0, slots := 0, locals := 0 }
def fb_X2_copyFrom_l10 (k : Nat) (a1 : Nat)  (s0 : StA) (v2 : Int32) : Option (StA × ((Int32) ⊕ (Unit))) :=
  (if (gi s0 k 2) ≤ v2 then some (s0, .inr ()) else gd v2 (pr_n a1) (gd v2 (pr_n k) (nms (si s0 (k + 1) v2.toNatClampNeg (gi s0 (a1 + 1) v2.toNatClampNeg)) (fun s4 => gd v2 (pr_n a1) (gd v2 (pr_n k) (nms (si s4 (k + 2) v2.toNatClampNeg (gi s4 (a1 + 2) v2.toNatClampNeg)) (fun s7 => some (s7, .inl (v2 + 1)))))))))
set_option maxHeartbeats 4000000 in
set_option maxRecDepth 100000 in
theorem wb_X2_copyFrom_l10 {E : XC} (O : OK cM E RX2 cX2_copyFrom 3 rm_X2_copyFrom) {k : Nat} {a1 : Nat} (hk : isPr k) (ha1 : isPr a1)   {s0 : StA} {v2 : Int32} {zs : StA} {rr : Unit} (hret : ReV cM E cX2_copyFrom zs) {bs : StA} {bw : (Int32) ⊕ (Unit)} (Kc : ∀ v, bw = .inl v → WS cM E 3 10 [(0, rf E k), (1, rf E a1), (2, .int v)] [] bs) (Ke : ∀ e, bw = .inr e → WS cM E 3 48 [] [] bs) (hf : fb_X2_copyFrom_l10 k a1 s0 v2 = some (bs, bw)) : WS cM E 3 10 [(0, rf E k), (1, rf E a1), (2, .int v2)] [] s0 := by
  unfold fb_X2_copyFrom_l10 at hf
  refine s_iload_n O 2 dX2_copyFrom_10 rfl rfl ?_
  refine s_aload_n O 0 dX2_copyFrom_11 rfl rfl ?_
  refine s_getI O fg_RX2_24 (pr_0 hk) rfl dX2_copyFrom_12 ?_
  refine s_icmp_ge (tgt := 48) O dX2_copyFrom_15 (by decide) (fun c => ?_) (fun c => ?_)
  · replace hf := if_t c hf
    refine s_loc [] rfl ?_
    cases hf
    exact Ke _ rfl
  · replace hf := if_f c hf
    refine s_aload_n O 0 dX2_copyFrom_18 rfl rfl ?_
    refine s_getR O fg_RX2_15 (pr_0 hk) rfl dX2_copyFrom_19 ?_
    refine s_iload_n O 2 dX2_copyFrom_22 rfl rfl ?_
    refine s_aload_n O 1 dX2_copyFrom_23 rfl rfl ?_
    refine s_getR O fg_RX2_15 (pr_0 ha1) rfl dX2_copyFrom_24 ?_
    refine s_iload_n O 2 dX2_copyFrom_27 rfl rfl ?_
    obtain ⟨h2, hf⟩ := gd_e hf
    refine s_iald O (pr_1 ha1) h2 dX2_copyFrom_28 ?_
    obtain ⟨h3, hf⟩ := gd_e hf
    refine s_iast O (pr_1 hk) h3 dX2_copyFrom_29 ?_
    refine s_tops (fun s4 es4 => ?_)
    replace hf := nms_e es4 hf
    refine s_aload_n O 0 dX2_copyFrom_30 rfl rfl ?_
    refine s_getR O fg_RX2_21 (pr_0 hk) rfl dX2_copyFrom_31 ?_
    refine s_iload_n O 2 dX2_copyFrom_34 rfl rfl ?_
    refine s_aload_n O 1 dX2_copyFrom_35 rfl rfl ?_
    refine s_getR O fg_RX2_21 (pr_0 ha1) rfl dX2_copyFrom_36 ?_
    refine s_iload_n O 2 dX2_copyFrom_39 rfl rfl ?_
    obtain ⟨h5, hf⟩ := gd_e hf
    refine s_iald O (pr_2 ha1) h5 dX2_copyFrom_40 ?_
    obtain ⟨h6, hf⟩ := gd_e hf
    refine s_iast O (pr_2 hk) h6 dX2_copyFrom_41 ?_
    refine s_tops (fun s7 es7 => ?_)
    replace hf := nms_e es7 hf
    refine s_iinc (v := (v2 + 1)) (lv' := [(2, .int (v2 + 1)), (0, rf E k), (1, rf E a1)]) O 2 dX2_copyFrom_42 rfl rfl (by decide) rfl ?_
    refine s_goto (tgt := 10) O dX2_copyFrom_45 (by decide) ?_
    refine s_loc [1, 2, 0] rfl ?_
    cases hf
    exact Kc _ rfl
def fl_X2_copyFrom_l10 (k : Nat) (a1 : Nat)  (s0 : StA) (v : Int32) : Option (StA × ((Unit))) :=
  it (fun s v => fb_X2_copyFrom_l10 k a1 s v) FU s0 v
def f_X2_copyFrom (k : Nat) (a1 : Nat) (s0 : StA) : Option (StA × Unit) :=
  nms (si s0 k 2 (gi s0 a1 2)) (fun s1 => bn (fl_X2_copyFrom_l10 k a1 s1 0) (fun s8 e9 => some (s8, ())))
set_option maxHeartbeats 4000000 in
set_option maxRecDepth 100000 in
theorem k_X2_copyFrom {k : Nat} {a1 : Nat} (hk : isPr k) (ha1 : isPr a1) {s0 zs : StA} {rr : Unit} (hf : f_X2_copyFrom k a1 s0 = some (zs, rr)) : CtV cM yX2_copyFrom cX2_copyFrom 3 rm_X2_copyFrom (fun ph => [.ref (ph k), .ref (ph a1)]) s0 zs := by
  refine CtV.of (by decide +kernel) (fun ph => Nat.le_of_ble_eq_true rfl) (fun E O hret => ?_)
  have O : OK cM E RX2 cX2_copyFrom 3 rm_X2_copyFrom := O
  show WS cM E 3 0 [(0, rf E k), (1, rf E a1)] [] s0
  unfold f_X2_copyFrom at hf
  refine s_aload_n O 0 dX2_copyFrom_0 rfl rfl ?_
  refine s_aload_n O 1 dX2_copyFrom_1 rfl rfl ?_
  refine s_getI O fg_RX2_24 (pr_0 ha1) rfl dX2_copyFrom_2 ?_
  refine s_putI O fp_RX2_24 (pr_0 hk) rfl dX2_copyFrom_5 ?_
  refine s_tops (fun s1 es1 => ?_)
  replace hf := nms_e es1 hf
  refine s_iconst (v := 0) O dX2_copyFrom_8 rfl ?_
  refine s_istore_n (lv' := [(2, .int 0), (0, rf E k), (1, rf E a1)]) O dX2_copyFrom_9 rfl (by decide) rfl ?_
  refine s_loc [1, 2, 0] rfl ?_
  obtain ⟨s8, e9, c10, hf⟩ := bn_e hf
  refine lp_of (body := fun s v => fb_X2_copyFrom_l10 k a1 s v) (X := fun s v => WS cM E 3 10 [(0, rf E k), (1, rf E a1), (2, .int v)] [] s) (Y := fun s e => WS cM E 3 48 [] [] s) (fun s v s' w hb Kc Ke => wb_X2_copyFrom_l10 (rr := rr) O hk ha1  hret Kc Ke hb) FU _ _ (s8, e9) c10 ?_
  show WS cM E 3 48 [] [] s8
  exact s_vret hret dX2_copyFrom_48 hf
def rm_X1_copyFrom : Room := { frames := 1, cells := 0, slots := 0, locals := 22 }
def fb_X1_copyFrom_l10 (k : Nat) (a1 : Nat)  (s0 : StA) (v2 : Int32) : Option (StA × ((Int32) ⊕ (Unit))) :=
  (if (gi s0 k 6) ≤ v2 then some (s0, .inr ()) else gd v2 6 (gd v2 6 (nms (si s0 (k + 1) v2.toNatClampNeg (gi s0 (a1 + 1) v2.toNatClampNeg)) (fun s4 => gd v2 6 (gd v2 6 (nms (si s4 (k + 2) v2.toNatClampNeg (gi s4 (a1 + 2) v2.toNatClampNeg)) (fun s7 => gd v2 6 (gd v2 6 (nms (si s7 (k + 3) v2.toNatClampNeg (gi s7 (a1 + 3) v2.toNatClampNeg)) (fun s10 => some (s10, .inl (v2 + 1))))))))))))
set_option maxHeartbeats 4000000 in
set_option maxRecDepth 100000 in
theorem wb_X1_copyFrom_l10 {E : XC} (O : OK cM E RX1 cX1_copyFrom 3 rm_X1_copyFrom) {k : Nat} {a1 : Nat} (hk : isFl k) (ha1 : isFl a1)   {s0 : StA} {v2 : Int32} {zs : StA} {rr : Unit} (hret : ReV cM E cX1_copyFrom zs) {bs : StA} {bw : (Int32) ⊕ (Unit)} (Kc : ∀ v, bw = .inl v → WS cM E 3 10 [(0, rf E k), (1, rf E a1), (2, .int v)] [] bs) (Ke : ∀ e, bw = .inr e → WS cM E 3 60 [(0, rf E k), (1, rf E a1)] [] bs) (hf : fb_X1_copyFrom_l10 k a1 s0 v2 = some (bs, bw)) : WS cM E 3 10 [(0, rf E k), (1, rf E a1), (2, .int v2)] [] s0 := by
  unfold fb_X1_copyFrom_l10 at hf
  refine s_iload_n O 2 dX1_copyFrom_10 rfl rfl ?_
  refine s_aload_n O 0 dX1_copyFrom_11 rfl rfl ?_
  refine s_getI O fg_RX1_46 (fl_0 hk) rfl dX1_copyFrom_12 ?_
  refine s_icmp_ge (tgt := 60) O dX1_copyFrom_15 (by decide) (fun c => ?_) (fun c => ?_)
  · replace hf := if_t c hf
    refine s_loc [0, 1] rfl ?_
    cases hf
    exact Ke _ rfl
  · replace hf := if_f c hf
    refine s_aload_n O 0 dX1_copyFrom_18 rfl rfl ?_
    refine s_getR O fg_RX1_9 (fl_0 hk) rfl dX1_copyFrom_19 ?_
    refine s_iload_n O 2 dX1_copyFrom_22 rfl rfl ?_
    refine s_aload_n O 1 dX1_copyFrom_23 rfl rfl ?_
    refine s_getR O fg_RX1_9 (fl_0 ha1) rfl dX1_copyFrom_24 ?_
    refine s_iload_n O 2 dX1_copyFrom_27 rfl rfl ?_
    obtain ⟨h2, hf⟩ := gd_e hf
    refine s_iald O (fl_1 ha1) h2 dX1_copyFrom_28 ?_
    obtain ⟨h3, hf⟩ := gd_e hf
    refine s_iast O (fl_1 hk) h3 dX1_copyFrom_29 ?_
    refine s_tops (fun s4 es4 => ?_)
    replace hf := nms_e es4 hf
    refine s_aload_n O 0 dX1_copyFrom_30 rfl rfl ?_
    refine s_getR O fg_RX1_15 (fl_0 hk) rfl dX1_copyFrom_31 ?_
    refine s_iload_n O 2 dX1_copyFrom_34 rfl rfl ?_
    refine s_aload_n O 1 dX1_copyFrom_35 rfl rfl ?_
    refine s_getR O fg_RX1_15 (fl_0 ha1) rfl dX1_copyFrom_36 ?_
    refine s_iload_n O 2 dX1_copyFrom_39 rfl rfl ?_
    obtain ⟨h5, hf⟩ := gd_e hf
    refine s_iald O (fl_2 ha1) h5 dX1_copyFrom_40 ?_
    obtain ⟨h6, hf⟩ := gd_e hf
    refine s_iast O (fl_2 hk) h6 dX1_copyFrom_41 ?_
    refine s_tops (fun s7 es7 => ?_)
    replace hf := nms_e es7 hf
    refine s_aload_n O 0 dX1_copyFrom_42 rfl rfl ?_
    refine s_getR O fg_RX1_18 (fl_0 hk) rfl dX1_copyFrom_43 ?_
    refine s_iload_n O 2 dX1_copyFrom_46 rfl rfl ?_
    refine s_aload_n O 1 dX1_copyFrom_47 rfl rfl ?_
    refine s_getR O fg_RX1_18 (fl_0 ha1) rfl dX1_copyFrom_48 ?_
    refine s_iload_n O 2 dX1_copyFrom_51 rfl rfl ?_
    obtain ⟨h8, hf⟩ := gd_e hf
    refine s_iald O (fl_3 ha1) h8 dX1_copyFrom_52 ?_
    obtain ⟨h9, hf⟩ := gd_e hf
    refine s_iast O (fl_3 hk) h9 dX1_copyFrom_53 ?_
    refine s_tops (fun s10 es10 => ?_)
    replace hf := nms_e es10 hf
    refine s_iinc (v := (v2 + 1)) (lv' := [(2, .int (v2 + 1)), (0, rf E k), (1, rf E a1)]) O 2 dX1_copyFrom_54 rfl rfl (by decide) rfl ?_
    refine s_goto (tgt := 10) O dX1_copyFrom_57 (by decide) ?_
    refine s_loc [1, 2, 0] rfl ?_
    cases hf
    exact Kc _ rfl
def fl_X1_copyFrom_l10 (k : Nat) (a1 : Nat)  (s0 : StA) (v : Int32) : Option (StA × ((Unit))) :=
  it (fun s v => fb_X1_copyFrom_l10 k a1 s v) FU s0 v
def fb_X1_copyFrom_l62 (k : Nat) (a1 : Nat)  (s0 : StA) (v2 : Int32) : Option (StA × ((Int32) ⊕ (Unit))) :=
  (if 5 ≤ v2 then some (s0, .inr ()) else gd v2 5 (gd v2 5 (nms (si s0 (k + 4) v2.toNatClampNeg (gi s0 (a1 + 4) v2.toNatClampNeg)) (fun s16 => some (s16, .inl (v2 + 1))))))
set_option maxHeartbeats 4000000 in
set_option maxRecDepth 100000 in
theorem wb_X1_copyFrom_l62 {E : XC} (O : OK cM E RX1 cX1_copyFrom 3 rm_X1_copyFrom) {k : Nat} {a1 : Nat} (hk : isFl k) (ha1 : isFl a1)   {s0 : StA} {v2 : Int32} {zs : StA} {rr : Unit} (hret : ReV cM E cX1_copyFrom zs) {bs : StA} {bw : (Int32) ⊕ (Unit)} (Kc : ∀ v, bw = .inl v → WS cM E 3 62 [(0, rf E k), (1, rf E a1), (2, .int v)] [] bs) (Ke : ∀ e, bw = .inr e → WS cM E 3 85 [(0, rf E k), (1, rf E a1)] [] bs) (hf : fb_X1_copyFrom_l62 k a1 s0 v2 = some (bs, bw)) : WS cM E 3 62 [(0, rf E k), (1, rf E a1), (2, .int v2)] [] s0 := by
  unfold fb_X1_copyFrom_l62 at hf
  refine s_iload_n O 2 dX1_copyFrom_62 rfl rfl ?_
  refine s_iconst (v := 5) O dX1_copyFrom_63 rfl ?_
  refine s_icmp_ge (tgt := 85) O dX1_copyFrom_64 (by decide) (fun c => ?_) (fun c => ?_)
  · replace hf := if_t c hf
    refine s_loc [0, 1] rfl ?_
    cases hf
    exact Ke _ rfl
  · replace hf := if_f c hf
    refine s_aload_n O 0 dX1_copyFrom_67 rfl rfl ?_
    refine s_getR O fg_RX1_21 (fl_0 hk) rfl dX1_copyFrom_68 ?_
    refine s_iload_n O 2 dX1_copyFrom_71 rfl rfl ?_
    refine s_aload_n O 1 dX1_copyFrom_72 rfl rfl ?_
    refine s_getR O fg_RX1_21 (fl_0 ha1) rfl dX1_copyFrom_73 ?_
    refine s_iload_n O 2 dX1_copyFrom_76 rfl rfl ?_
    obtain ⟨h14, hf⟩ := gd_e hf
    refine s_iald O (fl_4 ha1) h14 dX1_copyFrom_77 ?_
    obtain ⟨h15, hf⟩ := gd_e hf
    refine s_iast O (fl_4 hk) h15 dX1_copyFrom_78 ?_
    refine s_tops (fun s16 es16 => ?_)
    replace hf := nms_e es16 hf
    refine s_iinc (v := (v2 + 1)) (lv' := [(2, .int (v2 + 1)), (0, rf E k), (1, rf E a1)]) O 2 dX1_copyFrom_79 rfl rfl (by decide) rfl ?_
    refine s_goto (tgt := 62) O dX1_copyFrom_82 (by decide) ?_
    refine s_loc [1, 2, 0] rfl ?_
    cases hf
    exact Kc _ rfl
def fl_X1_copyFrom_l62 (k : Nat) (a1 : Nat)  (s0 : StA) (v : Int32) : Option (StA × ((Unit))) :=
  it (fun s v => fb_X1_copyFrom_l62 k a1 s v) FU s0 v
def f_X1_copyFrom (k : Nat) (a1 : Nat) (s0 : StA) : Option (StA × Unit) :=
  nms (si s0 k 6 (gi s0 a1 6)) (fun s1 => bn (fl_X1_copyFrom_l10 k a1 s1 0) (fun s11 e12 => bn (fl_X1_copyFrom_l62 k a1 s11 0) (fun s17 e18 => bn (f_X2_copyFrom (k + 5) (a1 + 5) s17) (fun s20 r21 => bn (f_X2_copyFrom (k + 8) (a1 + 8) s20) (fun s23 r24 => nms (si s23 k 7 (gi s23 a1 7)) (fun s26 => nms (si s26 k 8 (gi s26 a1 8)) (fun s27 => nms (si s27 k 9 (gi s27 a1 9)) (fun s28 => nms (si s28 k 10 (gi s28 a1 10)) (fun s29 => nms (si s29 k 11 (gi s29 a1 11)) (fun s30 => some (s30, ())))))))))))
set_option maxHeartbeats 4000000 in
set_option maxRecDepth 100000 in
theorem k_X1_copyFrom {k : Nat} {a1 : Nat} (hk : isFl k) (ha1 : isFl a1) {s0 zs : StA} {rr : Unit} (hf : f_X1_copyFrom k a1 s0 = some (zs, rr)) : CtV cM yX1_copyFrom cX1_copyFrom 3 rm_X1_copyFrom (fun ph => [.ref (ph k), .ref (ph a1)]) s0 zs := by
  refine CtV.of (by decide +kernel) (fun ph => Nat.le_of_ble_eq_true rfl) (fun E O hret => ?_)
  have O : OK cM E RX1 cX1_copyFrom 3 rm_X1_copyFrom := O
  show WS cM E 3 0 [(0, rf E k), (1, rf E a1)] [] s0
  unfold f_X1_copyFrom at hf
  refine s_aload_n O 0 dX1_copyFrom_0 rfl rfl ?_
  refine s_aload_n O 1 dX1_copyFrom_1 rfl rfl ?_
  refine s_getI O fg_RX1_46 (fl_0 ha1) rfl dX1_copyFrom_2 ?_
  refine s_putI O fp_RX1_46 (fl_0 hk) rfl dX1_copyFrom_5 ?_
  refine s_tops (fun s1 es1 => ?_)
  replace hf := nms_e es1 hf
  refine s_iconst (v := 0) O dX1_copyFrom_8 rfl ?_
  refine s_istore_n (lv' := [(2, .int 0), (0, rf E k), (1, rf E a1)]) O dX1_copyFrom_9 rfl (by decide) rfl ?_
  refine s_loc [1, 2, 0] rfl ?_
  obtain ⟨s11, e12, c13, hf⟩ := bn_e hf
  refine lp_of (body := fun s v => fb_X1_copyFrom_l10 k a1 s v) (X := fun s v => WS cM E 3 10 [(0, rf E k), (1, rf E a1), (2, .int v)] [] s) (Y := fun s e => WS cM E 3 60 [(0, rf E k), (1, rf E a1)] [] s) (fun s v s' w hb Kc Ke => wb_X1_copyFrom_l10 (rr := rr) O hk ha1  hret Kc Ke hb) FU _ _ (s11, e12) c13 ?_
  show WS cM E 3 60 [(0, rf E k), (1, rf E a1)] [] s11
  refine s_iconst (v := 0) O dX1_copyFrom_60 rfl ?_
  refine s_istore_n (lv' := [(2, .int 0), (0, rf E k), (1, rf E a1)]) O dX1_copyFrom_61 rfl (by decide) rfl ?_
  refine s_loc [1, 2, 0] rfl ?_
  obtain ⟨s17, e18, c19, hf⟩ := bn_e hf
  refine lp_of (body := fun s v => fb_X1_copyFrom_l62 k a1 s v) (X := fun s v => WS cM E 3 62 [(0, rf E k), (1, rf E a1), (2, .int v)] [] s) (Y := fun s e => WS cM E 3 85 [(0, rf E k), (1, rf E a1)] [] s) (fun s v s' w hb Kc Ke => wb_X1_copyFrom_l62 (rr := rr) O hk ha1  hret Kc Ke hb) FU _ _ (s17, e18) c19 ?_
  show WS cM E 3 85 [(0, rf E k), (1, rf E a1)] [] s17
  refine s_aload_n O 0 dX1_copyFrom_85 rfl rfl ?_
  refine s_getR O fg_RX1_29 (fl_0 hk) rfl dX1_copyFrom_86 ?_
  refine s_aload_n O 1 dX1_copyFrom_89 rfl rfl ?_
  refine s_getR O fg_RX1_29 (fl_0 ha1) rfl dX1_copyFrom_90 ?_
  obtain ⟨s20, r21, c22, hf⟩ := bn_e hf
  refine s_VV (As := [rf E (a1 + 5)]) (st := []) O lk_RX1_64 (k_X2_copyFrom (fp_5 hk) (fp_5 ha1) c22) rfl (fl_5 hk) rfl rfl ⟨rfl, rfl⟩ ⟨Nat.le_of_ble_eq_true rfl, Nat.le_of_ble_eq_true rfl⟩ rfl (Nat.le_of_ble_eq_true rfl) dX1_copyFrom_93 ?_
  refine s_aload_n O 0 dX1_copyFrom_96 rfl rfl ?_
  refine s_getR O fg_RX1_33 (fl_0 hk) rfl dX1_copyFrom_97 ?_
  refine s_aload_n O 1 dX1_copyFrom_100 rfl rfl ?_
  refine s_getR O fg_RX1_33 (fl_0 ha1) rfl dX1_copyFrom_101 ?_
  obtain ⟨s23, r24, c25, hf⟩ := bn_e hf
  refine s_VV (As := [rf E (a1 + 8)]) (st := []) O lk_RX1_64 (k_X2_copyFrom (fp_8 hk) (fp_8 ha1) c25) rfl (fl_8 hk) rfl rfl ⟨rfl, rfl⟩ ⟨Nat.le_of_ble_eq_true rfl, Nat.le_of_ble_eq_true rfl⟩ rfl (Nat.le_of_ble_eq_true rfl) dX1_copyFrom_104 ?_
  refine s_aload_n O 0 dX1_copyFrom_107 rfl rfl ?_
  refine s_aload_n O 1 dX1_copyFrom_108 rfl rfl ?_
  refine s_getI O fg_RX1_49 (fl_0 ha1) rfl dX1_copyFrom_109 ?_
  refine s_putI O fp_RX1_49 (fl_0 hk) rfl dX1_copyFrom_112 ?_
  refine s_tops (fun s26 es26 => ?_)
  replace hf := nms_e es26 hf
  refine s_aload_n O 0 dX1_copyFrom_115 rfl rfl ?_
  refine s_aload_n O 1 dX1_copyFrom_116 rfl rfl ?_
  refine s_getI O fg_RX1_52 (fl_0 ha1) rfl dX1_copyFrom_117 ?_
  refine s_putI O fp_RX1_52 (fl_0 hk) rfl dX1_copyFrom_120 ?_
  refine s_tops (fun s27 es27 => ?_)
  replace hf := nms_e es27 hf
  refine s_aload_n O 0 dX1_copyFrom_123 rfl rfl ?_
  refine s_aload_n O 1 dX1_copyFrom_124 rfl rfl ?_
  refine s_getI O fg_RX1_55 (fl_0 ha1) rfl dX1_copyFrom_125 ?_
  refine s_putI O fp_RX1_55 (fl_0 hk) rfl dX1_copyFrom_128 ?_
  refine s_tops (fun s28 es28 => ?_)
  replace hf := nms_e es28 hf
  refine s_aload_n O 0 dX1_copyFrom_131 rfl rfl ?_
  refine s_aload_n O 1 dX1_copyFrom_132 rfl rfl ?_
  refine s_getI O fg_RX1_36 (fl_0 ha1) rfl dX1_copyFrom_133 ?_
  refine s_putI O fp_RX1_36 (fl_0 hk) rfl dX1_copyFrom_136 ?_
  refine s_tops (fun s29 es29 => ?_)
  replace hf := nms_e es29 hf
  refine s_aload_n O 0 dX1_copyFrom_139 rfl rfl ?_
  refine s_aload_n O 1 dX1_copyFrom_140 rfl rfl ?_
  refine s_getI O fg_RX1_58 (fl_0 ha1) rfl dX1_copyFrom_141 ?_
  refine s_putI O fp_RX1_58 (fl_0 hk) rfl dX1_copyFrom_144 ?_
  refine s_tops (fun s30 es30 => ?_)
  replace hf := nms_e es30 hf
  exact s_vret hret dX1_copyFrom_147 hf
def rm_X1_clear : Room := { frames := 1, cells := 0, slots := 0, locals := 23 }
def f_X1_clear (k : Nat) (s0 : StA) : Option (StA × Unit) :=
  nms (si s0 k 6 0) (fun s1 => nms (si s1 k 7 0) (fun s2 => nms (si s2 k 8 0) (fun s3 => nms (si s3 k 9 0) (fun s4 => nms (si s4 k 10 1) (fun s5 => nms (si s5 k 11 0) (fun s6 => bn (f_J7_fill_53178 (k + 4) 5 4 s6) (fun s7 r8 => nms (si s7 (k + 5) 2 0) (fun s10 => nms (si s10 (k + 8) 2 0) (fun s11 => some (s11, ()))))))))))
set_option maxHeartbeats 4000000 in
set_option maxRecDepth 100000 in
theorem k_X1_clear {k : Nat} (hk : isFl k) {s0 zs : StA} {rr : Unit} (hf : f_X1_clear k s0 = some (zs, rr)) : CtV cM yX1_clear cX1_clear 1 rm_X1_clear (fun ph => [.ref (ph k)]) s0 zs := by
  refine CtV.of (by decide +kernel) (fun ph => Nat.le_of_ble_eq_true rfl) (fun E O hret => ?_)
  have O : OK cM E RX1 cX1_clear 1 rm_X1_clear := O
  show WS cM E 1 0 [(0, rf E k)] [] s0
  unfold f_X1_clear at hf
  refine s_aload_n O 0 dX1_clear_0 rfl rfl ?_
  refine s_iconst (v := 0) O dX1_clear_1 rfl ?_
  refine s_putI O fp_RX1_46 (fl_0 hk) rfl dX1_clear_2 ?_
  refine s_tops (fun s1 es1 => ?_)
  replace hf := nms_e es1 hf
  refine s_aload_n O 0 dX1_clear_5 rfl rfl ?_
  refine s_iconst (v := 0) O dX1_clear_6 rfl ?_
  refine s_putI O fp_RX1_49 (fl_0 hk) rfl dX1_clear_7 ?_
  refine s_tops (fun s2 es2 => ?_)
  replace hf := nms_e es2 hf
  refine s_aload_n O 0 dX1_clear_10 rfl rfl ?_
  refine s_iconst (v := 0) O dX1_clear_11 rfl ?_
  refine s_putI O fp_RX1_52 (fl_0 hk) rfl dX1_clear_12 ?_
  refine s_tops (fun s3 es3 => ?_)
  replace hf := nms_e es3 hf
  refine s_aload_n O 0 dX1_clear_15 rfl rfl ?_
  refine s_iconst (v := 0) O dX1_clear_16 rfl ?_
  refine s_putI O fp_RX1_55 (fl_0 hk) rfl dX1_clear_17 ?_
  refine s_tops (fun s4 es4 => ?_)
  replace hf := nms_e es4 hf
  refine s_aload_n O 0 dX1_clear_20 rfl rfl ?_
  refine s_iconst (v := 1) O dX1_clear_21 rfl ?_
  refine s_putI O fp_RX1_36 (fl_0 hk) rfl dX1_clear_22 ?_
  refine s_tops (fun s5 es5 => ?_)
  replace hf := nms_e es5 hf
  refine s_aload_n O 0 dX1_clear_25 rfl rfl ?_
  refine s_iconst (v := 0) O dX1_clear_26 rfl ?_
  refine s_putI O fp_RX1_58 (fl_0 hk) rfl dX1_clear_27 ?_
  refine s_tops (fun s6 es6 => ?_)
  replace hf := nms_e es6 hf
  refine s_aload_n O 0 dX1_clear_30 rfl rfl ?_
  refine s_getR O fg_RX1_21 (fl_0 hk) rfl dX1_clear_31 ?_
  refine s_iconst (v := 4) O dX1_clear_34 rfl ?_
  obtain ⟨s7, r8, c9, hf⟩ := bn_e hf
  refine s_SV (As := [rf E (k + 4), .int 4]) (st := []) O lk_RX1_40 (k_J7_fill_53178 (fl_4 hk) c9) rfl rfl ⟨rfl, rfl⟩ ⟨Nat.le_of_ble_eq_true rfl, Nat.le_of_ble_eq_true rfl⟩ rfl (Nat.le_of_ble_eq_true rfl) dX1_clear_35 ?_
  refine s_aload_n O 0 dX1_clear_38 rfl rfl ?_
  refine s_getR O fg_RX1_29 (fl_0 hk) rfl dX1_clear_39 ?_
  refine s_iconst (v := 0) O dX1_clear_42 rfl ?_
  refine s_putI O fp_RX1_61 (fl_5 hk) rfl dX1_clear_43 ?_
  refine s_tops (fun s10 es10 => ?_)
  replace hf := nms_e es10 hf
  refine s_aload_n O 0 dX1_clear_46 rfl rfl ?_
  refine s_getR O fg_RX1_33 (fl_0 hk) rfl dX1_clear_47 ?_
  refine s_iconst (v := 0) O dX1_clear_50 rfl ?_
  refine s_putI O fp_RX1_61 (fl_8 hk) rfl dX1_clear_51 ?_
  refine s_tops (fun s11 es11 => ?_)
  replace hf := nms_e es11 hf
  exact s_vret hret dX1_clear_54 hf
def rm_X3_begin : Room := { frames := 0, cells := 0, slots := 0, locals := 0 }
def f_X3_begin  (s0 : StA) : Option (StA × Unit) :=
  nms (si s0 47 3 0) (fun s1 => nms (si s1 47 4 0) (fun s2 => nms (si s2 47 5 0) (fun s3 => nms (si s3 47 9 0) (fun s4 => nms (si s4 47 10 0) (fun s5 => nms (si s5 47 11 0) (fun s6 => some (s6, ())))))))
set_option maxHeartbeats 4000000 in
set_option maxRecDepth 100000 in
theorem k_X3_begin  {s0 zs : StA} {rr : Unit} (hf : f_X3_begin  s0 = some (zs, rr)) : CtV cM yX3_begin cX3_begin 1 rm_X3_begin (fun ph => [.ref (ph 47)]) s0 zs := by
  refine CtV.of (by decide +kernel) (fun ph => Nat.le_of_ble_eq_true rfl) (fun E O hret => ?_)
  have O : OK cM E RX3 cX3_begin 1 rm_X3_begin := O
  show WS cM E 1 0 [(0, rf E 47)] [] s0
  unfold f_X3_begin at hf
  refine s_aload_n O 0 dX3_begin_0 rfl rfl ?_
  refine s_iconst (v := 0) O dX3_begin_1 rfl ?_
  refine s_putI O fp_RX3_52 cs_47 rfl dX3_begin_2 ?_
  refine s_tops (fun s1 es1 => ?_)
  replace hf := nms_e es1 hf
  refine s_aload_n O 0 dX3_begin_5 rfl rfl ?_
  refine s_iconst (v := 0) O dX3_begin_6 rfl ?_
  refine s_putI O fp_RX3_49 cs_47 rfl dX3_begin_7 ?_
  refine s_tops (fun s2 es2 => ?_)
  replace hf := nms_e es2 hf
  refine s_aload_n O 0 dX3_begin_10 rfl rfl ?_
  refine s_iconst (v := 0) O dX3_begin_11 rfl ?_
  refine s_putI O fp_RX3_55 cs_47 rfl dX3_begin_12 ?_
  refine s_tops (fun s3 es3 => ?_)
  replace hf := nms_e es3 hf
  refine s_aload_n O 0 dX3_begin_15 rfl rfl ?_
  refine s_iconst (v := 0) O dX3_begin_16 rfl ?_
  refine s_putI O fp_RX3_58 cs_47 rfl dX3_begin_17 ?_
  refine s_tops (fun s4 es4 => ?_)
  replace hf := nms_e es4 hf
  refine s_aload_n O 0 dX3_begin_20 rfl rfl ?_
  refine s_iconst (v := 0) O dX3_begin_21 rfl ?_
  refine s_putZ O fp_RX3_61 (Or.inl rfl) cs_47 rfl dX3_begin_22 ?_
  refine s_tops (fun s5 es5 => ?_)
  replace hf := nms_e es5 hf
  refine s_aload_n O 0 dX3_begin_25 rfl rfl ?_
  refine s_iconst (v := 0) O dX3_begin_26 rfl ?_
  refine s_putZ O fp_RX3_65 (Or.inl rfl) cs_47 rfl dX3_begin_27 ?_
  refine s_tops (fun s6 es6 => ?_)
  replace hf := nms_e es6 hf
  exact s_vret hret dX3_begin_30 hf
def rm_X3_endOfRun : Room := { frames := 0, cells := 0, slots := 0, locals := 0 }
def fb_X3_endOfRun_l2 (a1 : Int32) (a2 : Int32) (x1 : Int32) (s0 : StA) (v3 : Int32) : Option (StA × ((Int32) ⊕ (Int32))) :=
  (if (gi s0 47 2) ≤ v3 then some (s0, .inr v3) else gd v3 160 ((if (gi s0 49 v3.toNatClampNeg) = x1 then some (s0, .inl (v3 + 1)) else some (s0, .inr v3))))
set_option maxHeartbeats 4000000 in
set_option maxRecDepth 100000 in
theorem wb_X3_endOfRun_l2 {E : XC} (O : OK cM E RX3 cX3_endOfRun 4 rm_X3_endOfRun) {a1 : Int32} {a2 : Int32}  {x1 : Int32} {s0 : StA} {v3 : Int32} {zs : StA} {rr : Int32} (hret : ReI cM E .int cX3_endOfRun zs rr) {bs : StA} {bw : (Int32) ⊕ (Int32)} (Kc : ∀ v, bw = .inl v → WS cM E 4 2 [(0, rf E 47), (1, .int x1), (3, .int v)] [] bs) (Ke : ∀ e, bw = .inr e → WS cM E 4 26 [(3, .int e)] [] bs) (hf : fb_X3_endOfRun_l2 a1 a2 x1 s0 v3 = some (bs, bw)) : WS cM E 4 2 [(0, rf E 47), (1, .int x1), (3, .int v3)] [] s0 := by
  unfold fb_X3_endOfRun_l2 at hf
  refine s_iload_n O 2 dX3_endOfRun_2 rfl rfl ?_
  refine s_aload_n O 0 dX3_endOfRun_3 rfl rfl ?_
  refine s_getI O fg_RX3_18 cs_47 rfl dX3_endOfRun_4 ?_
  refine s_icmp_ge (tgt := 26) O dX3_endOfRun_7 (by decide) (fun c => ?_) (fun c => ?_)
  · replace hf := if_t c hf
    refine s_loc [2] rfl ?_
    cases hf
    exact Ke _ rfl
  · replace hf := if_f c hf
    refine s_aload_n O 0 dX3_endOfRun_10 rfl rfl ?_
    refine s_getR O fg_RX3_15 cs_47 rfl dX3_endOfRun_11 ?_
    refine s_iload_n O 2 dX3_endOfRun_14 rfl rfl ?_
    obtain ⟨h1, hf⟩ := gd_e hf
    refine s_iald O cs_49 h1 dX3_endOfRun_15 ?_
    refine s_iload_n O 1 dX3_endOfRun_16 rfl rfl ?_
    refine s_icmp_ne (tgt := 26) O dX3_endOfRun_17 (by decide) (fun c => ?_) (fun c => ?_)
    · replace hf := if_f c hf
      refine s_loc [2] rfl ?_
      cases hf
      exact Ke _ rfl
    · replace hf := if_t c hf
      refine s_iinc (v := (v3 + 1)) (lv' := [(3, .int (v3 + 1)), (0, rf E 47), (1, .int x1)]) O 2 dX3_endOfRun_20 rfl rfl (by decide) rfl ?_
      refine s_goto (tgt := 2) O dX3_endOfRun_23 (by decide) ?_
      refine s_loc [1, 2, 0] rfl ?_
      cases hf
      exact Kc _ rfl
def fl_X3_endOfRun_l2 (a1 : Int32) (a2 : Int32) (x1 : Int32) (s0 : StA) (v : Int32) : Option (StA × ((Int32))) :=
  it (fun s v => fb_X3_endOfRun_l2 a1 a2 x1 s v) FU s0 v
def f_X3_endOfRun (a1 : Int32) (a2 : Int32) (s0 : StA) : Option (StA × Int32) :=
  bn (fl_X3_endOfRun_l2 a1 a2 a1 s0 a2) (fun s2 u2_3 => some (s2, u2_3))
set_option maxHeartbeats 4000000 in
set_option maxRecDepth 100000 in
theorem k_X3_endOfRun {a1 : Int32} {a2 : Int32} {s0 zs : StA} {rr : Int32} (hf : f_X3_endOfRun a1 a2 s0 = some (zs, rr)) : CtI cM yX3_endOfRun cX3_endOfRun 4 .int rm_X3_endOfRun (fun ph => [.ref (ph 47), .int a1, .int a2]) s0 zs rr := by
  refine CtI.of (by decide +kernel) (fun ph => Nat.le_of_ble_eq_true rfl) (fun E O hret => ?_)
  have O : OK cM E RX3 cX3_endOfRun 4 rm_X3_endOfRun := O
  show WS cM E 4 0 [(0, rf E 47), (1, .int a1), (2, .int a2)] [] s0
  unfold f_X3_endOfRun at hf
  refine s_iload_n O 2 dX3_endOfRun_0 rfl rfl ?_
  refine s_istore_n (lv' := [(3, .int a2), (0, rf E 47), (1, .int a1), (2, .int a2)]) O dX3_endOfRun_1 rfl (by decide) rfl ?_
  refine s_loc [1, 2, 0] rfl ?_
  obtain ⟨s2, u2_3, c4, hf⟩ := bn_e hf
  refine lp_of (body := fun s v => fb_X3_endOfRun_l2 a1 a2 a1 s v) (X := fun s v => WS cM E 4 2 [(0, rf E 47), (1, .int a1), (3, .int v)] [] s) (Y := fun s e => WS cM E 4 26 [(3, .int e)] [] s) (fun s v s' w hb Kc Ke => wb_X3_endOfRun_l2 (rr := rr) O   hret Kc Ke hb) FU _ _ (s2, u2_3) c4 ?_
  show WS cM E 4 26 [(3, .int u2_3)] [] s2
  refine s_iload_n O 0 dX3_endOfRun_26 rfl rfl ?_
  exact s_iret hret rfl dX3_endOfRun_27 hf
def rm_X3_failAt : Room := { frames := 0, cells := 0, slots := 0, locals := 0 }
def f_X3_failAt (a1 : Int32) (a2 : Int32) (s0 : StA) : Option (StA × Int32) :=
  nms (si s0 47 4 a1) (fun s1 => nms (si s1 47 3 a2) (fun s2 => some (s2, 0)))
set_option maxHeartbeats 4000000 in
set_option maxRecDepth 100000 in
theorem k_X3_failAt {a1 : Int32} {a2 : Int32} {s0 zs : StA} {rr : Int32} (hf : f_X3_failAt a1 a2 s0 = some (zs, rr)) : CtI cM yX3_failAt cX3_failAt 3 .boolean rm_X3_failAt (fun ph => [.ref (ph 47), .int a1, .int a2]) s0 zs rr := by
  refine CtI.of (by decide +kernel) (fun ph => Nat.le_of_ble_eq_true rfl) (fun E O hret => ?_)
  have O : OK cM E RX3 cX3_failAt 3 rm_X3_failAt := O
  show WS cM E 3 0 [(0, rf E 47), (1, .int a1), (2, .int a2)] [] s0
  unfold f_X3_failAt at hf
  refine s_aload_n O 0 dX3_failAt_0 rfl rfl ?_
  refine s_iload_n O 1 dX3_failAt_1 rfl rfl ?_
  refine s_putI O fp_RX3_49 cs_47 rfl dX3_failAt_2 ?_
  refine s_tops (fun s1 es1 => ?_)
  replace hf := nms_e es1 hf
  refine s_aload_n O 0 dX3_failAt_5 rfl rfl ?_
  refine s_iload_n O 2 dX3_failAt_6 rfl rfl ?_
  refine s_putI O fp_RX3_52 cs_47 rfl dX3_failAt_7 ?_
  refine s_tops (fun s2 es2 => ?_)
  replace hf := nms_e es2 hf
  refine s_iconst (v := 0) O dX3_failAt_10 rfl ?_
  exact s_iret hret rfl dX3_failAt_11 hf
def rm_X3_valueOf : Room := { frames := 0, cells := 0, slots := 0, locals := 0 }
def fb_X3_valueOf_l5 (a1 : Int32) (a2 : Int32) (x2 : Int32) (s0 : StA) (v3 : Int32) (v4 : Int32) : Option (StA × ((Int32 × Int32) ⊕ (Int32))) :=
  (if x2 ≤ v4 then some (s0, .inr v3) else gd v4 160 (nmi (((10 * v3) + (gi s0 48 v4.toNatClampNeg)) - 48) (fun n2 => some (s0, .inl (n2, (v4 + 1))))))
set_option maxHeartbeats 4000000 in
set_option maxRecDepth 100000 in
theorem wb_X3_valueOf_l5 {E : XC} (O : OK cM E RX3 cX3_valueOf 5 rm_X3_valueOf) {a1 : Int32} {a2 : Int32}  {x2 : Int32} {s0 : StA} {v3 : Int32} {v4 : Int32} {zs : StA} {rr : Int32} (hret : ReI cM E .int cX3_valueOf zs rr) {bs : StA} {bw : (Int32 × Int32) ⊕ (Int32)} (Kc : ∀ v, bw = .inl v → WS cM E 5 5 [(0, rf E 47), (2, .int x2), (3, .int v.1), (4, .int v.2)] [] bs) (Ke : ∀ e, bw = .inr e → WS cM E 5 33 [(3, .int e)] [] bs) (hf : fb_X3_valueOf_l5 a1 a2 x2 s0 v3 v4 = some (bs, bw)) : WS cM E 5 5 [(0, rf E 47), (2, .int x2), (3, .int v3), (4, .int v4)] [] s0 := by
  unfold fb_X3_valueOf_l5 at hf
  refine s_iload O 3 dX3_valueOf_5 rfl ?_
  refine s_iload_n O 1 dX3_valueOf_7 rfl rfl ?_
  refine s_icmp_ge (tgt := 33) O dX3_valueOf_8 (by decide) (fun c => ?_) (fun c => ?_)
  · replace hf := if_t c hf
    refine s_loc [2] rfl ?_
    cases hf
    exact Ke _ rfl
  · replace hf := if_f c hf
    refine s_bipush (v := 10) O dX3_valueOf_11 rfl ?_
    refine s_iload_n O 2 dX3_valueOf_13 rfl rfl ?_
    refine s_imul O dX3_valueOf_14 ?_
    refine s_aload_n O 0 dX3_valueOf_15 rfl rfl ?_
    refine s_getR O fg_RX3_9 cs_47 rfl dX3_valueOf_16 ?_
    refine s_iload O 3 dX3_valueOf_19 rfl ?_
    obtain ⟨h1, hf⟩ := gd_e hf
    refine s_iald O cs_48 h1 dX3_valueOf_21 ?_
    refine s_iadd O dX3_valueOf_22 ?_
    refine s_bipush (v := 48) O dX3_valueOf_23 rfl ?_
    refine s_isub O dX3_valueOf_25 ?_
    refine s_topi (fun n2 en2 => ?_)
    replace hf := nmi_e en2 hf
    refine s_istore_n (lv' := [(3, .int n2), (0, rf E 47), (2, .int x2), (4, .int v4)]) O dX3_valueOf_26 rfl (by decide) rfl ?_
    refine s_iinc (v := (v4 + 1)) (lv' := [(4, .int (v4 + 1)), (3, .int n2), (0, rf E 47), (2, .int x2)]) O 3 dX3_valueOf_27 rfl rfl (by decide) rfl ?_
    refine s_goto (tgt := 5) O dX3_valueOf_30 (by decide) ?_
    refine s_loc [2, 3, 1, 0] rfl ?_
    cases hf
    exact Kc _ rfl
def fl_X3_valueOf_l5 (a1 : Int32) (a2 : Int32) (x2 : Int32) (s0 : StA) (v : Int32 × Int32) : Option (StA × ((Int32))) :=
  it (fun s v => fb_X3_valueOf_l5 a1 a2 x2 s v.1 v.2) FU s0 v
def f_X3_valueOf (a1 : Int32) (a2 : Int32) (s0 : StA) : Option (StA × Int32) :=
  bn (fl_X3_valueOf_l5 a1 a2 a2 s0 (0, a1)) (fun s3 u5_3 => some (s3, u5_3))
set_option maxHeartbeats 4000000 in
set_option maxRecDepth 100000 in
theorem k_X3_valueOf {a1 : Int32} {a2 : Int32} {s0 zs : StA} {rr : Int32} (hf : f_X3_valueOf a1 a2 s0 = some (zs, rr)) : CtI cM yX3_valueOf cX3_valueOf 5 .int rm_X3_valueOf (fun ph => [.ref (ph 47), .int a1, .int a2]) s0 zs rr := by
  refine CtI.of (by decide +kernel) (fun ph => Nat.le_of_ble_eq_true rfl) (fun E O hret => ?_)
  have O : OK cM E RX3 cX3_valueOf 5 rm_X3_valueOf := O
  show WS cM E 5 0 [(0, rf E 47), (1, .int a1), (2, .int a2)] [] s0
  unfold f_X3_valueOf at hf
  refine s_iconst (v := 0) O dX3_valueOf_0 rfl ?_
  refine s_istore_n (lv' := [(3, .int 0), (0, rf E 47), (1, .int a1), (2, .int a2)]) O dX3_valueOf_1 rfl (by decide) rfl ?_
  refine s_iload_n O 2 dX3_valueOf_2 rfl rfl ?_
  refine s_istore (lv' := [(4, .int a1), (3, .int 0), (0, rf E 47), (1, .int a1), (2, .int a2)]) O dX3_valueOf_3 (by decide) rfl ?_
  refine s_loc [2, 4, 1, 0] rfl ?_
  obtain ⟨s3, u5_3, c5, hf⟩ := bn_e hf
  refine lp_of (body := fun s v => fb_X3_valueOf_l5 a1 a2 a2 s v.1 v.2) (X := fun s v => WS cM E 5 5 [(0, rf E 47), (2, .int a2), (3, .int v.1), (4, .int v.2)] [] s) (Y := fun s e => WS cM E 5 33 [(3, .int e)] [] s) (fun s v s' w hb Kc Ke => wb_X3_valueOf_l5 (rr := rr) O   hret Kc Ke hb) FU _ _ (s3, u5_3) c5 ?_
  show WS cM E 5 33 [(3, .int u5_3)] [] s3
  refine s_iload_n O 0 dX3_valueOf_33 rfl rfl ?_
  exact s_iret hret rfl dX3_valueOf_34 hf
