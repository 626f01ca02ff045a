def rm_X5_blow : Room := { frames := 2, cells := 0, slots := 0, locals := 42 }
def f_X5_blow (a1 : Int32) (a2 : Int32) (s0 : StA) : Option (StA × Int32) :=
  bn (f_X5_isWind a1 s0) (fun s1 r2 => (if r2 = 0 then some (s1, (-1)) else bn (f_X5_isIn a2 0 8 s1) (fun s4 r5 => (if r5 = 0 then some (s4, (-1)) else gd a1 5 (nmi (gi s4 5 a1.toNatClampNeg) (fun n8 => gd a1 5 (nms (si s4 5 a1.toNatClampNeg a2) (fun s10 => some (s10, n8)))))))))
set_option maxHeartbeats 4000000 in
set_option maxRecDepth 100000 in
theorem k_X5_blow {a1 : Int32} {a2 : Int32} {s0 zs : StA} {rr : Int32} (hf : f_X5_blow a1 a2 s0 = some (zs, rr)) : CtI cM yX5_blow cX5_blow 4 .int rm_X5_blow (fun ph => [.ref (ph 0), .int a1, .int a2]) s0 zs rr := by
  refine CtI.of (by decide +kernel) (fun ph => Nat.le_of_ble_eq_true rfl) (fun E O hret => ?_)
  have O : OK cM E RX5 cX5_blow 4 rm_X5_blow := O
  show WS cM E 4 0 [(0, rf E 0), (1, .int a1), (2, .int a2)] [] s0
  unfold f_X5_blow at hf
  refine s_iload_n O 1 dX5_blow_0 rfl rfl ?_
  obtain ⟨s1, r2, c3, hf⟩ := bn_e hf
  refine s_SI (As := [.int a1]) (st := []) O lk_RX5_130 (k_X5_isWind c3) rfl rfl ⟨rfl, rfl⟩ ⟨Nat.le_of_ble_eq_true rfl, Nat.le_of_ble_eq_true rfl⟩ rfl (Nat.le_of_ble_eq_true rfl) dX5_blow_1 ?_
  refine s_if_eq (tgt := 17) O dX5_blow_4 (by decide) (fun c => ?_) (fun c => ?_)
  · replace hf := if_t c hf
    refine s_iconst (v := (-1)) O dX5_blow_17 rfl ?_
    exact s_iret hret rfl dX5_blow_18 hf
  · replace hf := if_f c hf
    refine s_iload_n O 2 dX5_blow_7 rfl rfl ?_
    refine s_iconst (v := 0) O dX5_blow_8 rfl ?_
    refine s_bipush (v := 8) O dX5_blow_9 rfl ?_
    obtain ⟨s4, r5, c6, hf⟩ := bn_e hf
    refine s_SI (As := [.int a2, .int 0, .int 8]) (st := []) O lk_RX5_53 (k_X5_isIn c6) rfl rfl ⟨rfl, rfl⟩ ⟨Nat.le_of_ble_eq_true rfl, Nat.le_of_ble_eq_true rfl⟩ rfl (Nat.le_of_ble_eq_true rfl) dX5_blow_11 ?_
    refine s_if_ne (tgt := 19) O dX5_blow_14 (by decide) (fun c => ?_) (fun c => ?_)
    · replace hf := if_f c hf
      refine s_aload_n O 0 dX5_blow_19 rfl rfl ?_
      refine s_getR O fg_RX5_10 cs_0 rfl dX5_blow_20 ?_
      refine s_getR O fg_RX5_133 cs_1 rfl dX5_blow_23 ?_
      refine s_iload_n O 1 dX5_blow_26 rfl rfl ?_
      obtain ⟨h7, hf⟩ := gd_e hf
      refine s_iald O cs_5 h7 dX5_blow_27 ?_
      refine s_topi (fun n8 en8 => ?_)
      replace hf := nmi_e en8 hf
      refine s_istore_n (lv' := [(3, .int n8), (0, rf E 0), (1, .int a1), (2, .int a2)]) O dX5_blow_28 rfl (by decide) rfl ?_
      refine s_aload_n O 1 dX5_blow_29 rfl rfl ?_
      refine s_getR O fg_RX5_10 cs_0 rfl dX5_blow_30 ?_
      refine s_getR O fg_RX5_133 cs_1 rfl dX5_blow_33 ?_
      refine s_iload_n O 2 dX5_blow_36 rfl rfl ?_
      refine s_iload_n O 3 dX5_blow_37 rfl rfl ?_
      obtain ⟨h9, hf⟩ := gd_e hf
      refine s_iast O cs_5 h9 dX5_blow_38 ?_
      refine s_tops (fun s10 es10 => ?_)
      replace hf := nms_e es10 hf
      refine s_iload_n O 0 dX5_blow_39 rfl rfl ?_
      exact s_iret hret rfl dX5_blow_40 hf
    · replace hf := if_t c hf
      refine s_iconst (v := (-1)) O dX5_blow_17 rfl ?_
      exact s_iret hret rfl dX5_blow_18 hf
def rm_X5_rate : Room := { frames := 1, cells := 0, slots := 0, locals := 22 }
def f_X5_rate (a1 : Int32) (s0 : StA) : Option (StA × Int32) :=
  bn (f_X5_isIn a1 1 9 s0) (fun s1 r2 => (if r2 = 0 then some (s1, (-1)) else nmi (gi s1 1 10) (fun n4 => nms (si s1 1 10 a1) (fun s5 => some (s5, n4)))))
set_option maxHeartbeats 4000000 in
set_option maxRecDepth 100000 in
theorem k_X5_rate {a1 : Int32} {s0 zs : StA} {rr : Int32} (hf : f_X5_rate a1 s0 = some (zs, rr)) : CtI cM yX5_rate cX5_rate 3 .int rm_X5_rate (fun ph => [.ref (ph 0), .int a1]) s0 zs rr := by
  refine CtI.of (by decide +kernel) (fun ph => Nat.le_of_ble_eq_true rfl) (fun E O hret => ?_)
  have O : OK cM E RX5 cX5_rate 3 rm_X5_rate := O
  show WS cM E 3 0 [(0, rf E 0), (1, .int a1)] [] s0
  unfold f_X5_rate at hf
  refine s_iload_n O 1 dX5_rate_0 rfl rfl ?_
  refine s_iconst (v := 1) O dX5_rate_1 rfl ?_
  refine s_bipush (v := 9) O dX5_rate_2 rfl ?_
  obtain ⟨s1, r2, c3, hf⟩ := bn_e hf
  refine s_SI (As := [.int a1, .int 1, .int 9]) (st := []) O lk_RX5_53 (k_X5_isIn c3) rfl rfl ⟨rfl, rfl⟩ ⟨Nat.le_of_ble_eq_true rfl, Nat.le_of_ble_eq_true rfl⟩ rfl (Nat.le_of_ble_eq_true rfl) dX5_rate_4 ?_
  refine s_if_ne (tgt := 12) O dX5_rate_7 (by decide) (fun c => ?_) (fun c => ?_)
  · replace hf := if_f c hf
    refine s_aload_n O 0 dX5_rate_12 rfl rfl ?_
    refine s_getR O fg_RX5_10 cs_0 rfl dX5_rate_13 ?_
    refine s_getI O fg_RX5_98 cs_1 rfl dX5_rate_16 ?_
    refine s_topi (fun n4 en4 => ?_)
    replace hf := nmi_e en4 hf
    refine s_istore_n (lv' := [(2, .int n4), (0, rf E 0), (1, .int a1)]) O dX5_rate_19 rfl (by decide) rfl ?_
    refine s_aload_n O 1 dX5_rate_20 rfl rfl ?_
    refine s_getR O fg_RX5_10 cs_0 rfl dX5_rate_21 ?_
    refine s_iload_n O 2 dX5_rate_24 rfl rfl ?_
    refine s_putI O fp_RX5_98 cs_1 rfl dX5_rate_25 ?_
    refine s_tops (fun s5 es5 => ?_)
    replace hf := nms_e es5 hf
    refine s_iload_n O 0 dX5_rate_28 rfl rfl ?_
    exact s_iret hret rfl dX5_rate_29 hf
  · replace hf := if_t c hf
    refine s_iconst (v := (-1)) O dX5_rate_10 rfl ?_
    exact s_iret hret rfl dX5_rate_11 hf
def rm_X1_setSaid : Room := { frames := 0, cells := 0, slots := 0, locals := 0 }
def f_X1_setSaid (k : Nat) (a1 : Int32) (a2 : Int32) (s0 : StA) : Option (StA × Unit) :=
  (if a2 = 0 then nms (si s0 k 7 ((gi s0 k 7) &&& ((1 <<< (a1 &&& 31)) ^^^ (-1)))) (fun s1 => some (s1, ())) else nms (si s0 k 7 ((gi s0 k 7) ||| (1 <<< (a1 &&& 31)))) (fun s2 => some (s2, ())))
set_option maxHeartbeats 4000000 in
set_option maxRecDepth 100000 in
theorem k_X1_setSaid {k : Nat} {a1 : Int32} {a2 : Int32} (hk : isFl k) {s0 zs : StA} {rr : Unit} (hf : f_X1_setSaid k a1 a2 s0 = some (zs, rr)) : CtV cM yX1_setSaid cX1_setSaid 3 rm_X1_setSaid (fun ph => [.ref (ph k), .int a1, .int a2]) s0 zs := by
  refine CtV.of (by decide +kernel) (fun ph => Nat.le_of_ble_eq_true rfl) (fun E O hret => ?_)
  have O : OK cM E RX1 cX1_setSaid 3 rm_X1_setSaid := O
  show WS cM E 3 0 [(0, rf E k), (1, .int a1), (2, .int a2)] [] s0
  unfold f_X1_setSaid at hf
  refine s_aload_n O 0 dX1_setSaid_0 rfl rfl ?_
  refine s_iload_n O 2 dX1_setSaid_1 rfl rfl ?_
  refine s_if_eq (tgt := 16) O dX1_setSaid_2 (by decide) (fun c => ?_) (fun c => ?_)
  · replace hf := if_t c hf
    refine s_aload_n O 0 dX1_setSaid_16 rfl rfl ?_
    refine s_getI O fg_RX1_49 (fl_0 hk) rfl dX1_setSaid_17 ?_
    refine s_iconst (v := 1) O dX1_setSaid_20 rfl ?_
    refine s_iload_n O 1 dX1_setSaid_21 rfl rfl ?_
    refine s_ishl O dX1_setSaid_22 ?_
    refine s_iconst (v := (-1)) O dX1_setSaid_23 rfl ?_
    refine s_ixor O dX1_setSaid_24 ?_
    refine s_iand O dX1_setSaid_25 ?_
    refine s_putI O fp_RX1_49 (fl_0 hk) rfl dX1_setSaid_26 ?_
    refine s_tops (fun s1 es1 => ?_)
    replace hf := nms_e es1 hf
    exact s_vret hret dX1_setSaid_29 hf
  · replace hf := if_f c hf
    refine s_aload_n O 0 dX1_setSaid_5 rfl rfl ?_
    refine s_getI O fg_RX1_49 (fl_0 hk) rfl dX1_setSaid_6 ?_
    refine s_iconst (v := 1) O dX1_setSaid_9 rfl ?_
    refine s_iload_n O 1 dX1_setSaid_10 rfl rfl ?_
    refine s_ishl O dX1_setSaid_11 ?_
    refine s_ior O dX1_setSaid_12 ?_
    refine s_goto (tgt := 26) O dX1_setSaid_13 (by decide) ?_
    refine s_putI O fp_RX1_49 (fl_0 hk) rfl dX1_setSaid_26 ?_
    refine s_tops (fun s2 es2 => ?_)
    replace hf := nms_e es2 hf
    exact s_vret hret dX1_setSaid_29 hf
def rm_X5_say : Room := { frames := 3, cells := 0, slots := 0, locals := 65 }
def f_X5_say (a1 : Int32) (s0 : StA) : Option (StA × Int32) :=
  bn (f_X1_hasThing 1 a1 s0) (fun s1 r2 => (if r2 = 0 then some (s1, (-1)) else bn (f_X1_isSaid 1 a1 s1) (fun s4 r5 => (if r5 = 0 then bn (f_X1_setSaid 1 a1 1 s4) (fun s7 r8 => bn (f_X1_lift 1 s7) (fun s10 r11 => some (s10, r11))) else some (s4, (-2))))))
set_option maxHeartbeats 4000000 in
set_option maxRecDepth 100000 in
theorem k_X5_say {a1 : Int32} {s0 zs : StA} {rr : Int32} (hf : f_X5_say a1 s0 = some (zs, rr)) : CtI cM yX5_say cX5_say 2 .int rm_X5_say (fun ph => [.ref (ph 0), .int a1]) s0 zs rr := by
  refine CtI.of (by decide +kernel) (fun ph => Nat.le_of_ble_eq_true rfl) (fun E O hret => ?_)
  have O : OK cM E RX5 cX5_say 2 rm_X5_say := O
  show WS cM E 2 0 [(0, rf E 0), (1, .int a1)] [] s0
  unfold f_X5_say at hf
  refine s_aload_n O 0 dX5_say_0 rfl rfl ?_
  refine s_getR O fg_RX5_10 cs_0 rfl dX5_say_1 ?_
  refine s_iload_n O 1 dX5_say_4 rfl rfl ?_
  obtain ⟨s1, r2, c3, hf⟩ := bn_e hf
  refine s_VI (As := [.int a1]) (st := []) O lk_RX5_110 (k_X1_hasThing fl_is1 c3) rfl cs_1 rfl rfl ⟨rfl, rfl⟩ ⟨Nat.le_of_ble_eq_true rfl, Nat.le_of_ble_eq_true rfl⟩ rfl (Nat.le_of_ble_eq_true rfl) dX5_say_5 ?_
  refine s_if_ne (tgt := 13) O dX5_say_8 (by decide) (fun c => ?_) (fun c => ?_)
  · replace hf := if_f c hf
    refine s_aload_n O 0 dX5_say_13 rfl rfl ?_
    refine s_getR O fg_RX5_10 cs_0 rfl dX5_say_14 ?_
    refine s_iload_n O 1 dX5_say_17 rfl rfl ?_
    obtain ⟨s4, r5, c6, hf⟩ := bn_e hf
    refine s_VI (As := [.int a1]) (st := []) O lk_RX5_124 (k_X1_isSaid fl_is1 c6) rfl cs_1 rfl rfl ⟨rfl, rfl⟩ ⟨Nat.le_of_ble_eq_true rfl, Nat.le_of_ble_eq_true rfl⟩ rfl (Nat.le_of_ble_eq_true rfl) dX5_say_18 ?_
    refine s_if_eq (tgt := 27) O dX5_say_21 (by decide) (fun c => ?_) (fun c => ?_)
    · replace hf := if_t c hf
      refine s_aload_n O 0 dX5_say_27 rfl rfl ?_
      refine s_getR O fg_RX5_10 cs_0 rfl dX5_say_28 ?_
      refine s_iload_n O 1 dX5_say_31 rfl rfl ?_
      refine s_iconst (v := 1) O dX5_say_32 rfl ?_
      obtain ⟨s7, r8, c9, hf⟩ := bn_e hf
      refine s_VV (As := [.int a1, .int 1]) (st := []) O lk_RX5_152 (k_X1_setSaid fl_is1 c9) rfl cs_1 rfl rfl ⟨rfl, rfl⟩ ⟨Nat.le_of_ble_eq_true rfl, Nat.le_of_ble_eq_true rfl⟩ rfl (Nat.le_of_ble_eq_true rfl) dX5_say_33 ?_
      refine s_aload_n O 0 dX5_say_36 rfl rfl ?_
      refine s_getR O fg_RX5_10 cs_0 rfl dX5_say_37 ?_
      obtain ⟨s10, r11, c12, hf⟩ := bn_e hf
      refine s_VI (As := []) (st := []) O lk_RX5_91 (k_X1_lift fl_is1 c12) rfl cs_1 rfl rfl ⟨rfl, rfl⟩ ⟨Nat.le_of_ble_eq_true rfl, Nat.le_of_ble_eq_true rfl⟩ rfl (Nat.le_of_ble_eq_true rfl) dX5_say_40 ?_
      exact s_iret hret rfl dX5_say_43 hf
    · replace hf := if_f c hf
      refine s_bipush (v := (-2)) O dX5_say_24 rfl ?_
      exact s_iret hret rfl dX5_say_26 hf
  · replace hf := if_t c hf
    refine s_iconst (v := (-1)) O dX5_say_11 rfl ?_
    exact s_iret hret rfl dX5_say_12 hf
def rm_X5_take : Room := { frames := 3, cells := 0, slots := 0, locals := 65 }
def f_X5_take (a1 : Int32) (s0 : StA) : Option (StA × Int32) :=
  bn (f_X1_hasThing 1 a1 s0) (fun s1 r2 => (if r2 = 0 then some (s1, (-1)) else bn (f_X1_isSaid 1 a1 s1) (fun s4 r5 => (if r5 = 0 then some (s4, (-2)) else bn (f_X1_setSaid 1 a1 0 s4) (fun s7 r8 => bn (f_X1_lift 1 s7) (fun s10 r11 => some (s10, r11)))))))
set_option maxHeartbeats 4000000 in
set_option maxRecDepth 100000 in
theorem k_X5_take {a1 : Int32} {s0 zs : StA} {rr : Int32} (hf : f_X5_take a1 s0 = some (zs, rr)) : CtI cM yX5_take cX5_take 2 .int rm_X5_take (fun ph => [.ref (ph 0), .int a1]) s0 zs rr := by
  refine CtI.of (by decide +kernel) (fun ph => Nat.le_of_ble_eq_true rfl) (fun E O hret => ?_)
  have O : OK cM E RX5 cX5_take 2 rm_X5_take := O
  show WS cM E 2 0 [(0, rf E 0), (1, .int a1)] [] s0
  unfold f_X5_take at hf
  refine s_aload_n O 0 dX5_take_0 rfl rfl ?_
  refine s_getR O fg_RX5_10 cs_0 rfl dX5_take_1 ?_
  refine s_iload_n O 1 dX5_take_4 rfl rfl ?_
  obtain ⟨s1, r2, c3, hf⟩ := bn_e hf
  refine s_VI (As := [.int a1]) (st := []) O lk_RX5_110 (k_X1_hasThing fl_is1 c3) rfl cs_1 rfl rfl ⟨rfl, rfl⟩ ⟨Nat.le_of_ble_eq_true rfl, Nat.le_of_ble_eq_true rfl⟩ rfl (Nat.le_of_ble_eq_true rfl) dX5_take_5 ?_
  refine s_if_ne (tgt := 13) O dX5_take_8 (by decide) (fun c => ?_) (fun c => ?_)
  · replace hf := if_f c hf
    refine s_aload_n O 0 dX5_take_13 rfl rfl ?_
    refine s_getR O fg_RX5_10 cs_0 rfl dX5_take_14 ?_
    refine s_iload_n O 1 dX5_take_17 rfl rfl ?_
    obtain ⟨s4, r5, c6, hf⟩ := bn_e hf
    refine s_VI (As := [.int a1]) (st := []) O lk_RX5_124 (k_X1_isSaid fl_is1 c6) rfl cs_1 rfl rfl ⟨rfl, rfl⟩ ⟨Nat.le_of_ble_eq_true rfl, Nat.le_of_ble_eq_true rfl⟩ rfl (Nat.le_of_ble_eq_true rfl) dX5_take_18 ?_
    refine s_if_ne (tgt := 27) O dX5_take_21 (by decide) (fun c => ?_) (fun c => ?_)
    · replace hf := if_f c hf
      refine s_aload_n O 0 dX5_take_27 rfl rfl ?_
      refine s_getR O fg_RX5_10 cs_0 rfl dX5_take_28 ?_
      refine s_iload_n O 1 dX5_take_31 rfl rfl ?_
      refine s_iconst (v := 0) O dX5_take_32 rfl ?_
      obtain ⟨s7, r8, c9, hf⟩ := bn_e hf
      refine s_VV (As := [.int a1, .int 0]) (st := []) O lk_RX5_152 (k_X1_setSaid fl_is1 c9) rfl cs_1 rfl rfl ⟨rfl, rfl⟩ ⟨Nat.le_of_ble_eq_true rfl, Nat.le_of_ble_eq_true rfl⟩ rfl (Nat.le_of_ble_eq_true rfl) dX5_take_33 ?_
      refine s_aload_n O 0 dX5_take_36 rfl rfl ?_
      refine s_getR O fg_RX5_10 cs_0 rfl dX5_take_37 ?_
      obtain ⟨s10, r11, c12, hf⟩ := bn_e hf
      refine s_VI (As := []) (st := []) O lk_RX5_91 (k_X1_lift fl_is1 c12) rfl cs_1 rfl rfl ⟨rfl, rfl⟩ ⟨Nat.le_of_ble_eq_true rfl, Nat.le_of_ble_eq_true rfl⟩ rfl (Nat.le_of_ble_eq_true rfl) dX5_take_40 ?_
      exact s_iret hret rfl dX5_take_43 hf
    · replace hf := if_t c hf
      refine s_bipush (v := (-2)) O dX5_take_24 rfl ?_
      exact s_iret hret rfl dX5_take_26 hf
  · replace hf := if_t c hf
    refine s_iconst (v := (-1)) O dX5_take_11 rfl ?_
    exact s_iret hret rfl dX5_take_12 hf
def rm_X2_add : Room := { frames := 0, cells := 0, slots := 0, locals := 0 }
def f_X2_add (k : Nat) (a1 : Int32) (a2 : Int32) (s0 : StA) : Option (StA × Int32) :=
  (if (gi s0 k 2) < (Int32.ofNat (pr_n k)) then gd (gi s0 k 2) (pr_n k) (nms (si s0 (k + 1) ((gi s0 k 2).toNatClampNeg) a1) (fun s2 => gd (gi s2 k 2) (pr_n k) (nms (si s2 (k + 2) ((gi s2 k 2).toNatClampNeg) a2) (fun s4 => nms (si s4 k 2 ((gi s4 k 2) + 1)) (fun s5 => some (s5, (gi s5 k 2))))))) else some (s0, (-3)))
set_option maxHeartbeats 4000000 in
set_option maxRecDepth 100000 in
theorem k_X2_add {k : Nat} {a1 : Int32} {a2 : Int32} (hk : isPr k) {s0 zs : StA} {rr : Int32} (hf : f_X2_add k a1 a2 s0 = some (zs, rr)) : CtI cM yX2_add cX2_add 3 .int rm_X2_add (fun ph => [.ref (ph k), .int a1, .int a2]) s0 zs rr := by
  refine CtI.of (by decide +kernel) (fun ph => Nat.le_of_ble_eq_true rfl) (fun E O hret => ?_)
  have O : OK cM E RX2 cX2_add 3 rm_X2_add := O
  show WS cM E 3 0 [(0, rf E k), (1, .int a1), (2, .int a2)] [] s0
  unfold f_X2_add at hf
  refine s_aload_n O 0 dX2_add_0 rfl rfl ?_
  refine s_getI O fg_RX2_24 (pr_0 hk) rfl dX2_add_1 ?_
  refine s_aload_n O 0 dX2_add_4 rfl rfl ?_
  refine s_getR O fg_RX2_15 (pr_0 hk) rfl dX2_add_5 ?_
  refine s_alen O (pr_1 hk) rfl dX2_add_8 ?_
  refine s_icmp_lt (tgt := 15) O dX2_add_9 (by decide) (fun c => ?_) (fun c => ?_)
  · replace hf := if_t c hf
    refine s_aload_n O 0 dX2_add_15 rfl rfl ?_
    refine s_getR O fg_RX2_15 (pr_0 hk) rfl dX2_add_16 ?_
    refine s_aload_n O 0 dX2_add_19 rfl rfl ?_
    refine s_getI O fg_RX2_24 (pr_0 hk) rfl dX2_add_20 ?_
    refine s_iload_n O 1 dX2_add_23 rfl rfl ?_
    obtain ⟨h1, hf⟩ := gd_e hf
    refine s_iast O (pr_1 hk) h1 dX2_add_24 ?_
    refine s_tops (fun s2 es2 => ?_)
    replace hf := nms_e es2 hf
    refine s_aload_n O 0 dX2_add_25 rfl rfl ?_
    refine s_getR O fg_RX2_21 (pr_0 hk) rfl dX2_add_26 ?_
    refine s_aload_n O 0 dX2_add_29 rfl rfl ?_
    refine s_getI O fg_RX2_24 (pr_0 hk) rfl dX2_add_30 ?_
    refine s_iload_n O 2 dX2_add_33 rfl rfl ?_
    obtain ⟨h3, hf⟩ := gd_e hf
    refine s_iast O (pr_2 hk) h3 dX2_add_34 ?_
    refine s_tops (fun s4 es4 => ?_)
    replace hf := nms_e es4 hf
    refine s_aload_n O 0 dX2_add_35 rfl rfl ?_
    refine s_dup O dX2_add_36 rfl ?_
    refine s_getI O fg_RX2_24 (pr_0 hk) rfl dX2_add_37 ?_
    refine s_iconst (v := 1) O dX2_add_40 rfl ?_
    refine s_iadd O dX2_add_41 ?_
    refine s_putI O fp_RX2_24 (pr_0 hk) rfl dX2_add_42 ?_
    refine s_tops (fun s5 es5 => ?_)
    replace hf := nms_e es5 hf
    refine s_aload_n O 0 dX2_add_45 rfl rfl ?_
    refine s_getI O fg_RX2_24 (pr_0 hk) rfl dX2_add_46 ?_
    exact s_iret hret rfl dX2_add_49 hf
  · replace hf := if_f c hf
    refine s_bipush (v := (-3)) O dX2_add_12 rfl ?_
    exact s_iret hret rfl dX2_add_14 hf
def rm_X1_addSaying : Room := { frames := 2, cells := 0, slots := 0, locals := 43 }
def f_X1_addSaying (k : Nat) (a1 : Int32) (a2 : Int32) (s0 : StA) : Option (StA × Int32) :=
  bn (f_X5_isIn a1 0 99 s0) (fun s1 r2 => (if r2 = 0 then some (s1, (-1)) else bn (f_X1_hasThing k a2 s1) (fun s4 r5 => (if r5 = 0 then some (s4, (-1)) else bn (f_X2_add (k + 5) a1 a2 s4) (fun s7 r8 => some (s7, r8))))))
set_option maxHeartbeats 4000000 in
set_option maxRecDepth 100000 in
theorem k_X1_addSaying {k : Nat} {a1 : Int32} {a2 : Int32} (hk : isFl k) {s0 zs : StA} {rr : Int32} (hf : f_X1_addSaying k a1 a2 s0 = some (zs, rr)) : CtI cM yX1_addSaying cX1_addSaying 3 .int rm_X1_addSaying (fun ph => [.ref (ph k), .int a1, .int a2]) s0 zs rr := by
  refine CtI.of (by decide +kernel) (fun ph => Nat.le_of_ble_eq_true rfl) (fun E O hret => ?_)
  have O : OK cM E RX1 cX1_addSaying 3 rm_X1_addSaying := O
  show WS cM E 3 0 [(0, rf E k), (1, .int a1), (2, .int a2)] [] s0
  unfold f_X1_addSaying at hf
  refine s_iload_n O 1 dX1_addSaying_0 rfl rfl ?_
  refine s_iconst (v := 0) O dX1_addSaying_1 rfl ?_
  refine s_bipush (v := 99) O dX1_addSaying_2 rfl ?_
  obtain ⟨s1, r2, c3, hf⟩ := bn_e hf
  refine s_NI (As := [.int a1, .int 0, .int 99]) (st := []) O lk_RX1_68 (k_X5_isIn c3) rfl rfl ⟨rfl, rfl⟩ ⟨Nat.le_of_ble_eq_true rfl, Nat.le_of_ble_eq_true rfl⟩ rfl (Nat.le_of_ble_eq_true rfl) dX1_addSaying_4 ?_
  refine s_if_eq (tgt := 18) O dX1_addSaying_7 (by decide) (fun c => ?_) (fun c => ?_)
  · replace hf := if_t c hf
    refine s_iconst (v := (-1)) O dX1_addSaying_18 rfl ?_
    exact s_iret hret rfl dX1_addSaying_19 hf
  · replace hf := if_f c hf
    refine s_aload_n O 0 dX1_addSaying_10 rfl rfl ?_
    refine s_iload_n O 2 dX1_addSaying_11 rfl rfl ?_
    obtain ⟨s4, r5, c6, hf⟩ := bn_e hf
    refine s_VI (As := [.int a2]) (st := []) O lk_RX1_72 (k_X1_hasThing hk c6) rfl (fl_0 hk) rfl rfl ⟨rfl, rfl⟩ ⟨Nat.le_of_ble_eq_true rfl, Nat.le_of_ble_eq_true rfl⟩ rfl (Nat.le_of_ble_eq_true rfl) dX1_addSaying_12 ?_
    refine s_if_ne (tgt := 20) O dX1_addSaying_15 (by decide) (fun c => ?_) (fun c => ?_)
    · replace hf := if_f c hf
      refine s_aload_n O 0 dX1_addSaying_20 rfl rfl ?_
      refine s_getR O fg_RX1_29 (fl_0 hk) rfl dX1_addSaying_21 ?_
      refine s_iload_n O 1 dX1_addSaying_24 rfl rfl ?_
      refine s_iload_n O 2 dX1_addSaying_25 rfl rfl ?_
      obtain ⟨s7, r8, c9, hf⟩ := bn_e hf
      refine s_VI (As := [.int a1, .int a2]) (st := []) O lk_RX1_76 (k_X2_add (fp_5 hk) c9) rfl (fl_5 hk) rfl rfl ⟨rfl, rfl⟩ ⟨Nat.le_of_ble_eq_true rfl, Nat.le_of_ble_eq_true rfl⟩ rfl (Nat.le_of_ble_eq_true rfl) dX1_addSaying_26 ?_
      exact s_iret hret rfl dX1_addSaying_29 hf
    · replace hf := if_t c hf
      refine s_iconst (v := (-1)) O dX1_addSaying_18 rfl ?_
      exact s_iret hret rfl dX1_addSaying_19 hf
def rm_X5_plan : Room := { frames := 3, cells := 0, slots := 0, locals := 65 }
def f_X5_plan (a1 : Int32) (a2 : Int32) (s0 : StA) : Option (StA × Int32) :=
  bn (f_X1_addSaying 1 a1 a2 s0) (fun s1 r2 => some (s1, r2))
set_option maxHeartbeats 4000000 in
set_option maxRecDepth 100000 in
theorem k_X5_plan {a1 : Int32} {a2 : Int32} {s0 zs : StA} {rr : Int32} (hf : f_X5_plan a1 a2 s0 = some (zs, rr)) : CtI cM yX5_plan cX5_plan 3 .int rm_X5_plan (fun ph => [.ref (ph 0), .int a1, .int a2]) s0 zs rr := by
  refine CtI.of (by decide +kernel) (fun ph => Nat.le_of_ble_eq_true rfl) (fun E O hret => ?_)
  have O : OK cM E RX5 cX5_plan 3 rm_X5_plan := O
  show WS cM E 3 0 [(0, rf E 0), (1, .int a1), (2, .int a2)] [] s0
  unfold f_X5_plan at hf
  refine s_aload_n O 0 dX5_plan_0 rfl rfl ?_
  refine s_getR O fg_RX5_10 cs_0 rfl dX5_plan_1 ?_
  refine s_iload_n O 1 dX5_plan_4 rfl rfl ?_
  refine s_iload_n O 2 dX5_plan_5 rfl rfl ?_
  obtain ⟨s1, r2, c3, hf⟩ := bn_e hf
  refine s_VI (As := [.int a1, .int a2]) (st := []) O lk_RX5_156 (k_X1_addSaying fl_is1 c3) rfl cs_1 rfl rfl ⟨rfl, rfl⟩ ⟨Nat.le_of_ble_eq_true rfl, Nat.le_of_ble_eq_true rfl⟩ rfl (Nat.le_of_ble_eq_true rfl) dX5_plan_6 ?_
  exact s_iret hret rfl dX5_plan_9 hf
def rm_X2_keepFirst : Room := { frames := 1, cells := 0, slots := 0, locals := 22 }
def f_X2_keepFirst (k : Nat) (a1 : Int32) (s0 : StA) : Option (StA × Int32) :=
  bn (f_X5_isIn a1 0 (gi s0 k 2) s0) (fun s1 r2 => (if r2 = 0 then some (s1, (-1)) else nmi (gi s1 k 2) (fun n4 => nms (si s1 k 2 a1) (fun s5 => some (s5, n4)))))
set_option maxHeartbeats 4000000 in
set_option maxRecDepth 100000 in
theorem k_X2_keepFirst {k : Nat} {a1 : Int32} (hk : isPr k) {s0 zs : StA} {rr : Int32} (hf : f_X2_keepFirst k a1 s0 = some (zs, rr)) : CtI cM yX2_keepFirst cX2_keepFirst 3 .int rm_X2_keepFirst (fun ph => [.ref (ph k), .int a1]) s0 zs rr := by
  refine CtI.of (by decide +kernel) (fun ph => Nat.le_of_ble_eq_true rfl) (fun E O hret => ?_)
  have O : OK cM E RX2 cX2_keepFirst 3 rm_X2_keepFirst := O
  show WS cM E 3 0 [(0, rf E k), (1, .int a1)] [] s0
  unfold f_X2_keepFirst at hf
  refine s_iload_n O 1 dX2_keepFirst_0 rfl rfl ?_
  refine s_iconst (v := 0) O dX2_keepFirst_1 rfl ?_
  refine s_aload_n O 0 dX2_keepFirst_2 rfl rfl ?_
  refine s_getI O fg_RX2_24 (pr_0 hk) rfl dX2_keepFirst_3 ?_
  obtain ⟨s1, r2, c3, hf⟩ := bn_e hf
  refine s_NI (As := [.int a1, .int 0, .int (gi s0 k 2)]) (st := []) O lk_RX2_28 (k_X5_isIn c3) rfl rfl ⟨rfl, rfl⟩ ⟨Nat.le_of_ble_eq_true rfl, Nat.le_of_ble_eq_true rfl⟩ rfl (Nat.le_of_ble_eq_true rfl) dX2_keepFirst_6 ?_
  refine s_if_ne (tgt := 14) O dX2_keepFirst_9 (by decide) (fun c => ?_) (fun c => ?_)
  · replace hf := if_f c hf
    refine s_aload_n O 0 dX2_keepFirst_14 rfl rfl ?_
    refine s_getI O fg_RX2_24 (pr_0 hk) rfl dX2_keepFirst_15 ?_
    refine s_topi (fun n4 en4 => ?_)
    replace hf := nmi_e en4 hf
    refine s_istore_n (lv' := [(2, .int n4), (0, rf E k), (1, .int a1)]) O dX2_keepFirst_18 rfl (by decide) rfl ?_
    refine s_aload_n O 1 dX2_keepFirst_19 rfl rfl ?_
    refine s_iload_n O 2 dX2_keepFirst_20 rfl rfl ?_
    refine s_putI O fp_RX2_24 (pr_0 hk) rfl dX2_keepFirst_21 ?_
    refine s_tops (fun s5 es5 => ?_)
    replace hf := nms_e es5 hf
    refine s_iload_n O 0 dX2_keepFirst_24 rfl rfl ?_
    exact s_iret hret rfl dX2_keepFirst_25 hf
  · replace hf := if_t c hf
    refine s_iconst (v := (-1)) O dX2_keepFirst_12 rfl ?_
    exact s_iret hret rfl dX2_keepFirst_13 hf
def rm_X5_cut : Room := { frames := 2, cells := 0, slots := 0, locals := 44 }
def f_X5_cut (a1 : Int32) (s0 : StA) : Option (StA × Int32) :=
  bn (f_X2_keepFirst 6 a1 s0) (fun s1 r2 => some (s1, r2))
set_option maxHeartbeats 4000000 in
set_option maxRecDepth 100000 in
theorem k_X5_cut {a1 : Int32} {s0 zs : StA} {rr : Int32} (hf : f_X5_cut a1 s0 = some (zs, rr)) : CtI cM yX5_cut cX5_cut 2 .int rm_X5_cut (fun ph => [.ref (ph 0), .int a1]) s0 zs rr := by
  refine CtI.of (by decide +kernel) (fun ph => Nat.le_of_ble_eq_true rfl) (fun E O hret => ?_)
  have O : OK cM E RX5 cX5_cut 2 rm_X5_cut := O
  show WS cM E 2 0 [(0, rf E 0), (1, .int a1)] [] s0
  unfold f_X5_cut at hf
  refine s_aload_n O 0 dX5_cut_0 rfl rfl ?_
  refine s_getR O fg_RX5_10 cs_0 rfl dX5_cut_1 ?_
  refine s_getR O fg_RX5_101 cs_1 rfl dX5_cut_4 ?_
  refine s_iload_n O 1 dX5_cut_7 rfl rfl ?_
  obtain ⟨s1, r2, c3, hf⟩ := bn_e hf
  refine s_VI (As := [.int a1]) (st := []) O lk_RX5_160 (k_X2_keepFirst pr_is6 c3) rfl cs_6 rfl rfl ⟨rfl, rfl⟩ ⟨Nat.le_of_ble_eq_true rfl, Nat.le_of_ble_eq_true rfl⟩ rfl (Nat.le_of_ble_eq_true rfl) dX5_cut_8 ?_
  exact s_iret hret rfl dX5_cut_11 hf
def rm_X1_windAloft : Room := { frames := 2, cells := 0, slots := 0, locals := 43 }
def f_X1_windAloft (k : Nat) (s0 : StA) : Option (StA × Int32) :=
  bn (f_X5_bounded ((gi s0 k 8) / 10) 0 4 s0) (fun s1 r2 => some (s1, r2))
set_option maxHeartbeats 4000000 in
set_option maxRecDepth 100000 in
theorem k_X1_windAloft {k : Nat} (hk : isFl k) {s0 zs : StA} {rr : Int32} (hf : f_X1_windAloft k s0 = some (zs, rr)) : CtI cM yX1_windAloft cX1_windAloft 1 .int rm_X1_windAloft (fun ph => [.ref (ph k)]) s0 zs rr := by
  refine CtI.of (by decide +kernel) (fun ph => Nat.le_of_ble_eq_true rfl) (fun E O hret => ?_)
  have O : OK cM E RX1 cX1_windAloft 1 rm_X1_windAloft := O
  show WS cM E 1 0 [(0, rf E k)] [] s0
  unfold f_X1_windAloft at hf
  refine s_aload_n O 0 dX1_windAloft_0 rfl rfl ?_
  refine s_getI O fg_RX1_52 (fl_0 hk) rfl dX1_windAloft_1 ?_
  refine s_bipush (v := 10) O dX1_windAloft_4 rfl ?_
  refine s_idiv O dX1_windAloft_6 (by decide) ?_
  refine s_iconst (v := 0) O dX1_windAloft_7 rfl ?_
  refine s_iconst (v := 4) O dX1_windAloft_8 rfl ?_
  obtain ⟨s1, r2, c3, hf⟩ := bn_e hf
  refine s_NI (As := [.int ((gi s0 k 8) / 10), .int 0, .int 4]) (st := []) O lk_RX1_87 (k_X5_bounded c3) rfl rfl ⟨rfl, rfl⟩ ⟨Nat.le_of_ble_eq_true rfl, Nat.le_of_ble_eq_true rfl⟩ rfl (Nat.le_of_ble_eq_true rfl) dX1_windAloft_9 ?_
  exact s_iret hret rfl dX1_windAloft_12 hf
def rm_X1_pass : Room := { frames := 3, cells := 0, slots := 0, locals := 65 }
def fb_X1_pass_l2 (k : Nat)  (s0 : StA) (v1 : Int32) : Option (StA × ((Int32) ⊕ (Unit))) :=
  (if (gi s0 (k + 5) 2) ≤ v1 then some (s0, .inr ()) else gd v1 8 ((if (gi s0 (k + 6) v1.toNatClampNeg) = (gi s0 k 11) then gd v1 8 (bn (f_X1_setSaid k (gi s0 (k + 7) v1.toNatClampNeg) 1 s0) (fun s3 r4 => some (s3, .inl (v1 + 1)))) else some (s0, .inl (v1 + 1)))))
set_option maxHeartbeats 4000000 in
set_option maxRecDepth 100000 in
theorem wb_X1_pass_l2 {E : XC} (O : OK cM E RX1 cX1_pass 2 rm_X1_pass) {k : Nat} (hk : isFl k)   {s0 : StA} {v1 : Int32} {zs : StA} {rr : Unit} (hret : ReV cM E cX1_pass zs) {bs : StA} {bw : (Int32) ⊕ (Unit)} (Kc : ∀ v, bw = .inl v → WS cM E 2 2 [(0, rf E k), (1, .int v)] [] bs) (Ke : ∀ e, bw = .inr e → WS cM E 2 49 [(0, rf E k)] [] bs) (hf : fb_X1_pass_l2 k s0 v1 = some (bs, bw)) : WS cM E 2 2 [(0, rf E k), (1, .int v1)] [] s0 := by
  unfold fb_X1_pass_l2 at hf
  refine s_iload_n O 1 dX1_pass_2 rfl rfl ?_
  refine s_aload_n O 0 dX1_pass_3 rfl rfl ?_
  refine s_getR O fg_RX1_29 (fl_0 hk) rfl dX1_pass_4 ?_
  refine s_getI O fg_RX1_61 (fl_5 hk) rfl dX1_pass_7 ?_
  refine s_icmp_ge (tgt := 49) O dX1_pass_10 (by decide) (fun c => ?_) (fun c => ?_)
  · replace hf := if_t c hf
    refine s_loc [0] rfl ?_
    cases hf
    exact Ke _ rfl
  · replace hf := if_f c hf
    refine s_aload_n O 0 dX1_pass_13 rfl rfl ?_
    refine s_getR O fg_RX1_29 (fl_0 hk) rfl dX1_pass_14 ?_
    refine s_getR O fg_RX1_96 (fl_5 hk) rfl dX1_pass_17 ?_
    refine s_iload_n O 1 dX1_pass_20 rfl rfl ?_
    obtain ⟨h1, hf⟩ := gd_e hf
    refine s_iald O (fl_6 hk) h1 dX1_pass_21 ?_
    refine s_aload_n O 0 dX1_pass_22 rfl rfl ?_
    refine s_getI O fg_RX1_58 (fl_0 hk) rfl dX1_pass_23 ?_
    refine s_icmp_ne (tgt := 43) O dX1_pass_26 (by decide) (fun c => ?_) (fun c => ?_)
    · replace hf := if_f c hf
      refine s_iinc (v := (v1 + 1)) (lv' := [(1, .int (v1 + 1)), (0, rf E k)]) O 1 dX1_pass_43 rfl rfl (by decide) rfl ?_
      refine s_goto (tgt := 2) O dX1_pass_46 (by decide) ?_
      refine s_loc [1, 0] rfl ?_
      cases hf
      exact Kc _ rfl
    · replace hf := if_t c hf
      refine s_aload_n O 0 dX1_pass_29 rfl rfl ?_
      refine s_aload_n O 0 dX1_pass_30 rfl rfl ?_
      refine s_getR O fg_RX1_29 (fl_0 hk) rfl dX1_pass_31 ?_
      refine s_getR O fg_RX1_99 (fl_5 hk) rfl dX1_pass_34 ?_
      refine s_iload_n O 1 dX1_pass_37 rfl rfl ?_
      obtain ⟨h2, hf⟩ := gd_e hf
      refine s_iald O (fl_7 hk) h2 dX1_pass_38 ?_
      refine s_iconst (v := 1) O dX1_pass_39 rfl ?_
      obtain ⟨s3, r4, c5, hf⟩ := bn_e hf
      refine s_VV (As := [.int (gi s0 (k + 7) v1.toNatClampNeg), .int 1]) (st := []) O lk_RX1_102 (k_X1_setSaid hk c5) rfl (fl_0 hk) rfl rfl ⟨rfl, rfl⟩ ⟨Nat.le_of_ble_eq_true rfl, Nat.le_of_ble_eq_true rfl⟩ rfl (Nat.le_of_ble_eq_true rfl) dX1_pass_40 ?_
      refine s_iinc (v := (v1 + 1)) (lv' := [(1, .int (v1 + 1)), (0, rf E k)]) O 1 dX1_pass_43 rfl rfl (by decide) rfl ?_
      refine s_goto (tgt := 2) O dX1_pass_46 (by decide) ?_
      refine s_loc [1, 0] rfl ?_
      cases hf
      exact Kc _ rfl
def fl_X1_pass_l2 (k : Nat)  (s0 : StA) (v : Int32) : Option (StA × ((Unit))) :=
  it (fun s v => fb_X1_pass_l2 k s v) FU s0 v
def f_X1_pass (k : Nat) (s0 : StA) : Option (StA × Unit) :=
  bn (fl_X1_pass_l2 k s0 0) (fun s6 e7 => bn (f_X1_lift k s6) (fun s9 r10 => bn (f_X5_bounded (r10 - (gi s9 k 8)) (-(gi s9 k 10)) (gi s9 k 10) s9) (fun s12 r13 => nms (si s12 k 8 ((gi s6 k 8) + r13)) (fun s15 => bn (f_X1_windAloft k s15) (fun s16 r17 => gd r17 5 (bn (f_X5_bounded (((gi s15 k 9) + (gi s16 (k + 4) r17.toNatClampNeg)) - 4) 0 99 s16) (fun s20 r21 => nms (si s20 k 9 r21) (fun s23 => nms (si s23 k 11 ((gi s23 k 11) + 1)) (fun s24 => some (s24, ()))))))))))
set_option maxHeartbeats 4000000 in
set_option maxRecDepth 100000 in
theorem k_X1_pass {k : Nat} (hk : isFl k) {s0 zs : StA} {rr : Unit} (hf : f_X1_pass k s0 = some (zs, rr)) : CtV cM yX1_pass cX1_pass 2 rm_X1_pass (fun ph => [.ref (ph k)]) s0 zs := by
  refine CtV.of (by decide +kernel) (fun ph => Nat.le_of_ble_eq_true rfl) (fun E O hret => ?_)
  have O : OK cM E RX1 cX1_pass 2 rm_X1_pass := O
  show WS cM E 2 0 [(0, rf E k)] [] s0
  unfold f_X1_pass at hf
  refine s_iconst (v := 0) O dX1_pass_0 rfl ?_
  refine s_istore_n (lv' := [(1, .int 0), (0, rf E k)]) O dX1_pass_1 rfl (by decide) rfl ?_
  refine s_loc [1, 0] rfl ?_
  obtain ⟨s6, e7, c8, hf⟩ := bn_e hf
  refine lp_of (body := fun s v => fb_X1_pass_l2 k s v) (X := fun s v => WS cM E 2 2 [(0, rf E k), (1, .int v)] [] s) (Y := fun s e => WS cM E 2 49 [(0, rf E k)] [] s) (fun s v s' w hb Kc Ke => wb_X1_pass_l2 (rr := rr) O hk  hret Kc Ke hb) FU _ _ (s6, e7) c8 ?_
  show WS cM E 2 49 [(0, rf E k)] [] s6
  refine s_aload_n O 0 dX1_pass_49 rfl rfl ?_
  refine s_dup O dX1_pass_50 rfl ?_
  refine s_getI O fg_RX1_52 (fl_0 hk) rfl dX1_pass_51 ?_
  refine s_aload_n O 0 dX1_pass_54 rfl rfl ?_
  obtain ⟨s9, r10, c11, hf⟩ := bn_e hf
  refine s_VI (As := []) (st := [.int (gi s6 k 8), rf E k]) O lk_RX1_106 (k_X1_lift hk c11) rfl (fl_0 hk) rfl rfl ⟨rfl, rfl⟩ ⟨Nat.le_of_ble_eq_true rfl, Nat.le_of_ble_eq_true rfl⟩ rfl (Nat.le_of_ble_eq_true rfl) dX1_pass_55 ?_
  refine s_aload_n O 0 dX1_pass_58 rfl rfl ?_
  refine s_getI O fg_RX1_52 (fl_0 hk) rfl dX1_pass_59 ?_
  refine s_isub O dX1_pass_62 ?_
  refine s_aload_n O 0 dX1_pass_63 rfl rfl ?_
  refine s_getI O fg_RX1_36 (fl_0 hk) rfl dX1_pass_64 ?_
  refine s_ineg O dX1_pass_67 ?_
  refine s_aload_n O 0 dX1_pass_68 rfl rfl ?_
  refine s_getI O fg_RX1_36 (fl_0 hk) rfl dX1_pass_69 ?_
  obtain ⟨s12, r13, c14, hf⟩ := bn_e hf
  refine s_NI (As := [.int (r10 - (gi s9 k 8)), .int (-(gi s9 k 10)), .int (gi s9 k 10)]) (st := [.int (gi s6 k 8), rf E k]) O lk_RX1_87 (k_X5_bounded c14) rfl rfl ⟨rfl, rfl⟩ ⟨Nat.le_of_ble_eq_true rfl, Nat.le_of_ble_eq_true rfl⟩ rfl (Nat.le_of_ble_eq_true rfl) dX1_pass_72 ?_
  refine s_iadd O dX1_pass_75 ?_
  refine s_putI O fp_RX1_52 (fl_0 hk) rfl dX1_pass_76 ?_
  refine s_tops (fun s15 es15 => ?_)
  replace hf := nms_e es15 hf
  refine s_aload_n O 0 dX1_pass_79 rfl rfl ?_
  refine s_aload_n O 0 dX1_pass_80 rfl rfl ?_
  refine s_getI O fg_RX1_55 (fl_0 hk) rfl dX1_pass_81 ?_
  refine s_aload_n O 0 dX1_pass_84 rfl rfl ?_
  refine s_getR O fg_RX1_21 (fl_0 hk) rfl dX1_pass_85 ?_
  refine s_aload_n O 0 dX1_pass_88 rfl rfl ?_
  obtain ⟨s16, r17, c18, hf⟩ := bn_e hf
  refine s_VI (As := []) (st := [rf E (k + 4), .int (gi s15 k 9), rf E k]) O lk_RX1_110 (k_X1_windAloft hk c18) rfl (fl_0 hk) rfl rfl ⟨rfl, rfl⟩ ⟨Nat.le_of_ble_eq_true rfl, Nat.le_of_ble_eq_true rfl⟩ rfl (Nat.le_of_ble_eq_true rfl) dX1_pass_89 ?_
  obtain ⟨h19, hf⟩ := gd_e hf
  refine s_iald O (fl_4 hk) h19 dX1_pass_92 ?_
  refine s_iadd O dX1_pass_93 ?_
  refine s_iconst (v := 4) O dX1_pass_94 rfl ?_
  refine s_isub O dX1_pass_95 ?_
  refine s_iconst (v := 0) O dX1_pass_96 rfl ?_
  refine s_bipush (v := 99) O dX1_pass_97 rfl ?_
  obtain ⟨s20, r21, c22, hf⟩ := bn_e hf
  refine s_NI (As := [.int (((gi s15 k 9) + (gi s16 (k + 4) r17.toNatClampNeg)) - 4), .int 0, .int 99]) (st := [rf E k]) O lk_RX1_87 (k_X5_bounded c22) rfl rfl ⟨rfl, rfl⟩ ⟨Nat.le_of_ble_eq_true rfl, Nat.le_of_ble_eq_true rfl⟩ rfl (Nat.le_of_ble_eq_true rfl) dX1_pass_99 ?_
  refine s_putI O fp_RX1_55 (fl_0 hk) rfl dX1_pass_102 ?_
  refine s_tops (fun s23 es23 => ?_)
  replace hf := nms_e es23 hf
  refine s_aload_n O 0 dX1_pass_105 rfl rfl ?_
  refine s_dup O dX1_pass_106 rfl ?_
  refine s_getI O fg_RX1_58 (fl_0 hk) rfl dX1_pass_107 ?_
  refine s_iconst (v := 1) O dX1_pass_110 rfl ?_
  refine s_iadd O dX1_pass_111 ?_
  refine s_putI O fp_RX1_58 (fl_0 hk) rfl dX1_pass_112 ?_
  refine s_tops (fun s24 es24 => ?_)
  replace hf := nms_e es24 hf
  exact s_vret hret dX1_pass_115 hf
def rm_X1_passAll : Room := { frames := 4, cells := 0, slots := 0, locals := 86 }
def fb_X1_passAll_l2 (k : Nat) (a1 : Int32) (x1 : Int32) (s0 : StA) (v2 : Int32) : Option (StA × ((Int32) ⊕ (Unit))) :=
  (if x1 ≤ v2 then some (s0, .inr ()) else bn (f_X1_pass k s0) (fun s1 r2 => some (s1, .inl (v2 + 1))))
set_option maxHeartbeats 4000000 in
set_option maxRecDepth 100000 in
theorem wb_X1_passAll_l2 {E : XC} (O : OK cM E RX1 cX1_passAll 3 rm_X1_passAll) {k : Nat} {a1 : Int32} (hk : isFl k)  {x1 : Int32} {s0 : StA} {v2 : Int32} {zs : StA} {rr : Unit} (hret : ReV cM E cX1_passAll zs) {bs : StA} {bw : (Int32) ⊕ (Unit)} (Kc : ∀ v, bw = .inl v → WS cM E 3 2 [(0, rf E k), (1, .int x1), (2, .int v)] [] bs) (Ke : ∀ e, bw = .inr e → WS cM E 3 17 [] [] bs) (hf : fb_X1_passAll_l2 k a1 x1 s0 v2 = some (bs, bw)) : WS cM E 3 2 [(0, rf E k), (1, .int x1), (2, .int v2)] [] s0 := by
  unfold fb_X1_passAll_l2 at hf
  refine s_iload_n O 2 dX1_passAll_2 rfl rfl ?_
  refine s_iload_n O 1 dX1_passAll_3 rfl rfl ?_
  refine s_icmp_ge (tgt := 17) O dX1_passAll_4 (by decide) (fun c => ?_) (fun c => ?_)
  · replace hf := if_t c hf
    refine s_loc [] rfl ?_
    cases hf
    exact Ke _ rfl
  · replace hf := if_f c hf
    refine s_aload_n O 0 dX1_passAll_7 rfl rfl ?_
    obtain ⟨s1, r2, c3, hf⟩ := bn_e hf
    refine s_VV (As := []) (st := []) O lk_RX1_113 (k_X1_pass hk c3) rfl (fl_0 hk) rfl rfl ⟨rfl, rfl⟩ ⟨Nat.le_of_ble_eq_true rfl, Nat.le_of_ble_eq_true rfl⟩ rfl (Nat.le_of_ble_eq_true rfl) dX1_passAll_8 ?_
    refine s_iinc (v := (v2 + 1)) (lv' := [(2, .int (v2 + 1)), (0, rf E k), (1, .int x1)]) O 2 dX1_passAll_11 rfl rfl (by decide) rfl ?_
    refine s_goto (tgt := 2) O dX1_passAll_14 (by decide) ?_
    refine s_loc [1, 2, 0] rfl ?_
    cases hf
    exact Kc _ rfl
def fl_X1_passAll_l2 (k : Nat) (a1 : Int32) (x1 : Int32) (s0 : StA) (v : Int32) : Option (StA × ((Unit))) :=
  it (fun s v => fb_X1_passAll_l2 k a1 x1 s v) FU s0 v
def f_X1_passAll (k : Nat) (a1 : Int32) (s0 : StA) : Option (StA × Unit) :=
  bn (fl_X1_passAll_l2 k a1 a1 s0 0) (fun s4 e5 => some (s4, ()))
set_option maxHeartbeats 4000000 in
set_option maxRecDepth 100000 in
theorem k_X1_passAll {k : Nat} {a1 : Int32} (hk : isFl k) {s0 zs : StA} {rr : Unit} (hf : f_X1_passAll k a1 s0 = some (zs, rr)) : CtV cM yX1_passAll cX1_passAll 3 rm_X1_passAll (fun ph => [.ref (ph k), .int a1]) s0 zs := by
  refine CtV.of (by decide +kernel) (fun ph => Nat.le_of_ble_eq_true rfl) (fun E O hret => ?_)
  have O : OK cM E RX1 cX1_passAll 3 rm_X1_passAll := O
  show WS cM E 3 0 [(0, rf E k), (1, .int a1)] [] s0
  unfold f_X1_passAll at hf
  refine s_iconst (v := 0) O dX1_passAll_0 rfl ?_
  refine s_istore_n (lv' := [(2, .int 0), (0, rf E k), (1, .int a1)]) O dX1_passAll_1 rfl (by decide) rfl ?_
  refine s_loc [1, 2, 0] rfl ?_
  obtain ⟨s4, e5, c6, hf⟩ := bn_e hf
  refine lp_of (body := fun s v => fb_X1_passAll_l2 k a1 a1 s v) (X := fun s v => WS cM E 3 2 [(0, rf E k), (1, .int a1), (2, .int v)] [] s) (Y := fun s e => WS cM E 3 17 [] [] s) (fun s v s' w hb Kc Ke => wb_X1_passAll_l2 (rr := rr) O hk  hret Kc Ke hb) FU _ _ (s4, e5) c6 ?_
  show WS cM E 3 17 [] [] s4
  exact s_vret hret dX1_passAll_17 hf
def rm_X5_minutes : Room := { frames := 5, cells := 0, slots := 0, locals := 108 }
def f_X5_minutes (a1 : Int32) (s0 : StA) : Option (StA × Int32) :=
  bn (f_X5_isIn a1 0 30 s0) (fun s1 r2 => (if r2 = 0 then some (s1, (-1)) else (if ((gi s1 1 11) + a1) < 1000 then bn (f_X1_passAll 1 a1 s1) (fun s4 r5 => some (s4, (gi s4 1 8))) else some (s1, (-3)))))
set_option maxHeartbeats 4000000 in
set_option maxRecDepth 100000 in
theorem k_X5_minutes {a1 : Int32} {s0 zs : StA} {rr : Int32} (hf : f_X5_minutes a1 s0 = some (zs, rr)) : CtI cM yX5_minutes cX5_minutes 2 .int rm_X5_minutes (fun ph => [.ref (ph 0), .int a1]) s0 zs rr := by
  refine CtI.of (by decide +kernel) (fun ph => Nat.le_of_ble_eq_true rfl) (fun E O hret => ?_)
  have O : OK cM E RX5 cX5_minutes 2 rm_X5_minutes := O
  show WS cM E 2 0 [(0, rf E 0), (1, .int a1)] [] s0
  unfold f_X5_minutes at hf
  refine s_iload_n O 1 dX5_minutes_0 rfl rfl ?_
  refine s_iconst (v := 0) O dX5_minutes_1 rfl ?_
  refine s_bipush (v := 30) O dX5_minutes_2 rfl ?_
  obtain ⟨s1, r2, c3, hf⟩ := bn_e hf
  refine s_SI (As := [.int a1, .int 0, .int 30]) (st := []) O lk_RX5_53 (k_X5_isIn c3) rfl rfl ⟨rfl, rfl⟩ ⟨Nat.le_of_ble_eq_true rfl, Nat.le_of_ble_eq_true rfl⟩ rfl (Nat.le_of_ble_eq_true rfl) dX5_minutes_4 ?_
  refine s_if_ne (tgt := 12) O dX5_minutes_7 (by decide) (fun c => ?_) (fun c => ?_)
  · replace hf := if_f c hf
    refine s_aload_n O 0 dX5_minutes_12 rfl rfl ?_
    refine s_getR O fg_RX5_10 cs_0 rfl dX5_minutes_13 ?_
    refine s_getI O fg_RX5_82 cs_1 rfl dX5_minutes_16 ?_
    refine s_iload_n O 1 dX5_minutes_19 rfl rfl ?_
    refine s_iadd O dX5_minutes_20 ?_
    refine s_sipush (v := 1000) O dX5_minutes_21 rfl ?_
    refine s_icmp_lt (tgt := 30) O dX5_minutes_24 (by decide) (fun c => ?_) (fun c => ?_)
    · replace hf := if_t c hf
      refine s_aload_n O 0 dX5_minutes_30 rfl rfl ?_
      refine s_getR O fg_RX5_10 cs_0 rfl dX5_minutes_31 ?_
      refine s_iload_n O 1 dX5_minutes_34 rfl rfl ?_
      obtain ⟨s4, r5, c6, hf⟩ := bn_e hf
      refine s_VV (As := [.int a1]) (st := []) O lk_RX5_161 (k_X1_passAll fl_is1 c6) rfl cs_1 rfl rfl ⟨rfl, rfl⟩ ⟨Nat.le_of_ble_eq_true rfl, Nat.le_of_ble_eq_true rfl⟩ rfl (Nat.le_of_ble_eq_true rfl) dX5_minutes_35 ?_
      refine s_aload_n O 0 dX5_minutes_38 rfl rfl ?_
      refine s_getR O fg_RX5_10 cs_0 rfl dX5_minutes_39 ?_
      refine s_getI O fg_RX5_85 cs_1 rfl dX5_minutes_42 ?_
      exact s_iret hret rfl dX5_minutes_45 hf
    · replace hf := if_f c hf
      refine s_bipush (v := (-3)) O dX5_minutes_27 rfl ?_
      exact s_iret hret rfl dX5_minutes_29 hf
  · replace hf := if_t c hf
    refine s_iconst (v := (-1)) O dX5_minutes_10 rfl ?_
    exact s_iret hret rfl dX5_minutes_11 hf
def rm_X5_isForecast : Room := { frames := 1, cells := 0, slots := 0, locals := 22 }
def f_X5_isForecast (a0 : Int32) (s0 : StA) : Option (StA × Int32) :=
  bn (f_X5_isIn a0 0 60 s0) (fun s1 r2 => gz r2 (some (s1, r2)))
set_option maxHeartbeats 4000000 in
set_option maxRecDepth 100000 in
theorem k_X5_isForecast {a0 : Int32} {s0 zs : StA} {rr : Int32} (hf : f_X5_isForecast a0 s0 = some (zs, rr)) : CtI cM yX5_isForecast cX5_isForecast 1 .boolean rm_X5_isForecast (fun ph => [.int a0]) s0 zs rr := by
  refine CtI.of (by decide +kernel) (fun ph => Nat.le_of_ble_eq_true rfl) (fun E O hret => ?_)
  have O : OK cM E RX5 cX5_isForecast 1 rm_X5_isForecast := O
  show WS cM E 1 0 [(0, .int a0)] [] s0
  unfold f_X5_isForecast at hf
  refine s_iload_n O 0 dX5_isForecast_0 rfl rfl ?_
  refine s_iconst (v := 0) O dX5_isForecast_1 rfl ?_
  refine s_bipush (v := 60) O dX5_isForecast_2 rfl ?_
  obtain ⟨s1, r2, c3, hf⟩ := bn_e hf
  refine s_SI (As := [.int a0, .int 0, .int 60]) (st := []) O lk_RX5_53 (k_X5_isIn c3) rfl rfl ⟨rfl, rfl⟩ ⟨Nat.le_of_ble_eq_true rfl, Nat.le_of_ble_eq_true rfl⟩ rfl (Nat.le_of_ble_eq_true rfl) dX5_isForecast_4 ?_
  obtain ⟨hz, hf⟩ := gz_e hf
  exact s_iret hret hz.nar dX5_isForecast_7 hf
def rm_X5_restartTrial : Room := { frames := 2, cells := 0, slots := 0, locals := 44 }
def f_X5_restartTrial  (s0 : StA) : Option (StA × Unit) :=
  bn (f_X1_copyFrom 12 1 s0) (fun s1 r2 => some (s1, ()))
set_option maxHeartbeats 4000000 in
set_option maxRecDepth 100000 in
theorem k_X5_restartTrial  {s0 zs : StA} {rr : Unit} (hf : f_X5_restartTrial  s0 = some (zs, rr)) : CtV cM yX5_restartTrial cX5_restartTrial 1 rm_X5_restartTrial (fun ph => [.ref (ph 0)]) s0 zs := by
  refine CtV.of (by decide +kernel) (fun ph => Nat.le_of_ble_eq_true rfl) (fun E O hret => ?_)
  have O : OK cM E RX5 cX5_restartTrial 1 rm_X5_restartTrial := O
  show WS cM E 1 0 [(0, rf E 0)] [] s0
  unfold f_X5_restartTrial at hf
  refine s_aload_n O 0 dX5_restartTrial_0 rfl rfl ?_
  refine s_getR O fg_RX5_16 cs_0 rfl dX5_restartTrial_1 ?_
  refine s_aload_n O 0 dX5_restartTrial_4 rfl rfl ?_
  refine s_getR O fg_RX5_10 cs_0 rfl dX5_restartTrial_5 ?_
  obtain ⟨s1, r2, c3, hf⟩ := bn_e hf
  refine s_VV (As := [rf E 1]) (st := []) O lk_RX5_68 (k_X1_copyFrom fl_is12 fl_is1 c3) rfl cs_12 rfl rfl ⟨rfl, rfl⟩ ⟨Nat.le_of_ble_eq_true rfl, Nat.le_of_ble_eq_true rfl⟩ rfl (Nat.le_of_ble_eq_true rfl) dX5_restartTrial_8 ?_
  exact s_vret hret dX5_restartTrial_11 hf
def rm_X1_greatestHeight : Room := { frames := 4, cells := 0, slots := 0, locals := 86 }
def fb_X1_greatestHeight_l7 (k : Nat) (a1 : Int32) (x1 : Int32) (s0 : StA) (v2 : Int32) (v3 : Int32) : Option (StA × ((Int32 × Int32) ⊕ (Int32))) :=
  (if x1 ≤ v3 then some (s0, .inr v2) else bn (f_X1_pass k s0) (fun s2 r3 => nmi (if v2 < (gi s2 k 8) then (gi s2 k 8) else v2) (fun n5 => some (s2, .inl (n5, (v3 + 1))))))
set_option maxHeartbeats 4000000 in
set_option maxRecDepth 100000 in
theorem wb_X1_greatestHeight_l7 {E : XC} (O : OK cM E RX1 cX1_greatestHeight 4 rm_X1_greatestHeight) {k : Nat} {a1 : Int32} (hk : isFl k)  {x1 : Int32} {s0 : StA} {v2 : Int32} {v3 : Int32} {zs : StA} {rr : Int32} (hret : ReI cM E .int cX1_greatestHeight zs rr) {bs : StA} {bw : (Int32 × Int32) ⊕ (Int32)} (Kc : ∀ v, bw = .inl v → WS cM E 4 7 [(0, rf E k), (1, .int x1), (2, .int v.1), (3, .int v.2)] [] bs) (Ke : ∀ e, bw = .inr e → WS cM E 4 31 [(2, .int e)] [] bs) (hf : fb_X1_greatestHeight_l7 k a1 x1 s0 v2 v3 = some (bs, bw)) : WS cM E 4 7 [(0, rf E k), (1, .int x1), (2, .int v2), (3, .int v3)] [] s0 := by
  unfold fb_X1_greatestHeight_l7 at hf
  refine s_iload_n O 3 dX1_greatestHeight_7 rfl rfl ?_
  refine s_iload_n O 1 dX1_greatestHeight_8 rfl rfl ?_
  refine s_icmp_ge (tgt := 31) O dX1_greatestHeight_9 (by decide) (fun c => ?_) (fun c => ?_)
  · replace hf := if_t c hf
    refine s_loc [2] rfl ?_
    cases hf
    exact Ke _ rfl
  · replace hf := if_f c hf
    refine s_aload_n O 0 dX1_greatestHeight_12 rfl rfl ?_
    obtain ⟨s2, r3, c4, hf⟩ := bn_e hf
    refine s_VV (As := []) (st := []) O lk_RX1_113 (k_X1_pass hk c4) rfl (fl_0 hk) rfl rfl ⟨rfl, rfl⟩ ⟨Nat.le_of_ble_eq_true rfl, Nat.le_of_ble_eq_true rfl⟩ rfl (Nat.le_of_ble_eq_true rfl) dX1_greatestHeight_13 ?_
    refine s_iload_n O 2 dX1_greatestHeight_16 rfl rfl ?_
    refine s_aload_n O 0 dX1_greatestHeight_17 rfl rfl ?_
    refine s_getI O fg_RX1_52 (fl_0 hk) rfl dX1_greatestHeight_18 ?_
    refine s_mmax (st := []) O lk_RX1_116 ⟨Nat.le_of_ble_eq_true rfl, Nat.le_of_ble_eq_true rfl⟩ (Nat.le_of_ble_eq_true rfl) dX1_greatestHeight_21 ?_
    refine s_topi (fun n5 en5 => ?_)
    replace hf := nmi_e en5 hf
    refine s_istore_n (lv' := [(2, .int n5), (0, rf E k), (1, .int x1), (3, .int v3)]) O dX1_greatestHeight_24 rfl (by decide) rfl ?_
    refine s_iinc (v := (v3 + 1)) (lv' := [(3, .int (v3 + 1)), (2, .int n5), (0, rf E k), (1, .int x1)]) O 3 dX1_greatestHeight_25 rfl rfl (by decide) rfl ?_
    refine s_goto (tgt := 7) O dX1_greatestHeight_28 (by decide) ?_
    refine s_loc [2, 3, 1, 0] rfl ?_
    cases hf
    exact Kc _ rfl
def fl_X1_greatestHeight_l7 (k : Nat) (a1 : Int32) (x1 : Int32) (s0 : StA) (v : Int32 × Int32) : Option (StA × ((Int32))) :=
  it (fun s v => fb_X1_greatestHeight_l7 k a1 x1 s v.1 v.2) FU s0 v
def f_X1_greatestHeight (k : Nat) (a1 : Int32) (s0 : StA) : Option (StA × Int32) :=
  nmi (gi s0 k 8) (fun n1 => bn (fl_X1_greatestHeight_l7 k a1 a1 s0 (n1, 0)) (fun s6 u7_2 => some (s6, u7_2)))
set_option maxHeartbeats 4000000 in
set_option maxRecDepth 100000 in
theorem k_X1_greatestHeight {k : Nat} {a1 : Int32} (hk : isFl k) {s0 zs : StA} {rr : Int32} (hf : f_X1_greatestHeight k a1 s0 = some (zs, rr)) : CtI cM yX1_greatestHeight cX1_greatestHeight 4 .int rm_X1_greatestHeight (fun ph => [.ref (ph k), .int a1]) s0 zs rr := by
  refine CtI.of (by decide +kernel) (fun ph => Nat.le_of_ble_eq_true rfl) (fun E O hret => ?_)
  have O : OK cM E RX1 cX1_greatestHeight 4 rm_X1_greatestHeight := O
  show WS cM E 4 0 [(0, rf E k), (1, .int a1)] [] s0
  unfold f_X1_greatestHeight at hf
  refine s_aload_n O 0 dX1_greatestHeight_0 rfl rfl ?_
  refine s_getI O fg_RX1_52 (fl_0 hk) rfl dX1_greatestHeight_1 ?_
  refine s_topi (fun n1 en1 => ?_)
  replace hf := nmi_e en1 hf
  refine s_istore_n (lv' := [(2, .int n1), (0, rf E k), (1, .int a1)]) O dX1_greatestHeight_4 rfl (by decide) rfl ?_
  refine s_iconst (v := 0) O dX1_greatestHeight_5 rfl ?_
  refine s_istore_n (lv' := [(3, .int 0), (2, .int n1), (0, rf E k), (1, .int a1)]) O dX1_greatestHeight_6 rfl (by decide) rfl ?_
  refine s_loc [2, 3, 1, 0] rfl ?_
  obtain ⟨s6, u7_2, c8, hf⟩ := bn_e hf
  refine lp_of (body := fun s v => fb_X1_greatestHeight_l7 k a1 a1 s v.1 v.2) (X := fun s v => WS cM E 4 7 [(0, rf E k), (1, .int a1), (2, .int v.1), (3, .int v.2)] [] s) (Y := fun s e => WS cM E 4 31 [(2, .int e)] [] s) (fun s v s' w hb Kc Ke => wb_X1_greatestHeight_l7 (rr := rr) O hk  hret Kc Ke hb) FU _ _ (s6, u7_2) c8 ?_
  show WS cM E 4 31 [(2, .int u7_2)] [] s6
  refine s_iload_n O 0 dX1_greatestHeight_31 rfl rfl ?_
  exact s_iret hret rfl dX1_greatestHeight_32 hf
def rm_X1_timesDown : Room := { frames := 4, cells := 0, slots := 0, locals := 86 }
def fb_X1_timesDown_l4 (k : Nat) (a1 : Int32) (x1 : Int32) (s0 : StA) (v2 : Int32) (v3 : Int32) : Option (StA × ((Int32 × Int32) ⊕ (Int32))) :=
  (if x1 ≤ v3 then some (s0, .inr v2) else bn (f_X1_pass k s0) (fun s1 r2 => (if (gi s1 k 8) = 0 then nmi (v2 + 1) (fun n5 => some (s1, .inl (n5, (v3 + 1)))) else nmi (v2 + 0) (fun n4 => some (s1, .inl (n4, (v3 + 1)))))))
set_option maxHeartbeats 4000000 in
set_option maxRecDepth 100000 in
theorem wb_X1_timesDown_l4 {E : XC} (O : OK cM E RX1 cX1_timesDown 4 rm_X1_timesDown) {k : Nat} {a1 : Int32} (hk : isFl k)  {x1 : Int32} {s0 : StA} {v2 : Int32} {v3 : Int32} {zs : StA} {rr : Int32} (hret : ReI cM E .int cX1_timesDown zs rr) {bs : StA} {bw : (Int32 × Int32) ⊕ (Int32)} (Kc : ∀ v, bw = .inl v → WS cM E 4 4 [(0, rf E k), (1, .int x1), (2, .int v.1), (3, .int v.2)] [] bs) (Ke : ∀ e, bw = .inr e → WS cM E 4 34 [(2, .int e)] [] bs) (hf : fb_X1_timesDown_l4 k a1 x1 s0 v2 v3 = some (bs, bw)) : WS cM E 4 4 [(0, rf E k), (1, .int x1), (2, .int v2), (3, .int v3)] [] s0 := by
  unfold fb_X1_timesDown_l4 at hf
  refine s_iload_n O 3 dX1_timesDown_4 rfl rfl ?_
  refine s_iload_n O 1 dX1_timesDown_5 rfl rfl ?_
  refine s_icmp_ge (tgt := 34) O dX1_timesDown_6 (by decide) (fun c => ?_) (fun c => ?_)
  · replace hf := if_t c hf
    refine s_loc [2] rfl ?_
    cases hf
    exact Ke _ rfl
  · replace hf := if_f c hf
    refine s_aload_n O 0 dX1_timesDown_9 rfl rfl ?_
    obtain ⟨s1, r2, c3, hf⟩ := bn_e hf
    refine s_VV (As := []) (st := []) O lk_RX1_113 (k_X1_pass hk c3) rfl (fl_0 hk) rfl rfl ⟨rfl, rfl⟩ ⟨Nat.le_of_ble_eq_true rfl, Nat.le_of_ble_eq_true rfl⟩ rfl (Nat.le_of_ble_eq_true rfl) dX1_timesDown_10 ?_
    refine s_iload_n O 2 dX1_timesDown_13 rfl rfl ?_
    refine s_aload_n O 0 dX1_timesDown_14 rfl rfl ?_
    refine s_getI O fg_RX1_52 (fl_0 hk) rfl dX1_timesDown_15 ?_
    refine s_if_ne (tgt := 25) O dX1_timesDown_18 (by decide) (fun c => ?_) (fun c => ?_)
    · replace hf := if_f c hf
      refine s_iconst (v := 0) O dX1_timesDown_25 rfl ?_
      refine s_iadd O dX1_timesDown_26 ?_
      refine s_topi (fun n4 en4 => ?_)
      replace hf := nmi_e en4 hf
      refine s_istore_n (lv' := [(2, .int n4), (0, rf E k), (1, .int x1), (3, .int v3)]) O dX1_timesDown_27 rfl (by decide) rfl ?_
      refine s_iinc (v := (v3 + 1)) (lv' := [(3, .int (v3 + 1)), (2, .int n4), (0, rf E k), (1, .int x1)]) O 3 dX1_timesDown_28 rfl rfl (by decide) rfl ?_
      refine s_goto (tgt := 4) O dX1_timesDown_31 (by decide) ?_
      refine s_loc [2, 3, 1, 0] rfl ?_
      cases hf
      exact Kc _ rfl
    · replace hf := if_t c hf
      refine s_iconst (v := 1) O dX1_timesDown_21 rfl ?_
      refine s_goto (tgt := 26) O dX1_timesDown_22 (by decide) ?_
      refine s_iadd O dX1_timesDown_26 ?_
      refine s_topi (fun n5 en5 => ?_)
      replace hf := nmi_e en5 hf
      refine s_istore_n (lv' := [(2, .int n5), (0, rf E k), (1, .int x1), (3, .int v3)]) O dX1_timesDown_27 rfl (by decide) rfl ?_
      refine s_iinc (v := (v3 + 1)) (lv' := [(3, .int (v3 + 1)), (2, .int n5), (0, rf E k), (1, .int x1)]) O 3 dX1_timesDown_28 rfl rfl (by decide) rfl ?_
      refine s_goto (tgt := 4) O dX1_timesDown_31 (by decide) ?_
      refine s_loc [2, 3, 1, 0] rfl ?_
      cases hf
      exact Kc _ rfl
def fl_X1_timesDown_l4 (k : Nat) (a1 : Int32) (x1 : Int32) (s0 : StA) (v : Int32 × Int32) : Option (StA × ((Int32))) :=
  it (fun s v => fb_X1_timesDown_l4 k a1 x1 s v.1 v.2) FU s0 v
def f_X1_timesDown (k : Nat) (a1 : Int32) (s0 : StA) : Option (StA × Int32) :=
  bn (fl_X1_timesDown_l4 k a1 a1 s0 (0, 0)) (fun s6 u4_2 => some (s6, u4_2))
set_option maxHeartbeats 4000000 in
set_option maxRecDepth 100000 in
theorem k_X1_timesDown {k : Nat} {a1 : Int32} (hk : isFl k) {s0 zs : StA} {rr : Int32} (hf : f_X1_timesDown k a1 s0 = some (zs, rr)) : CtI cM yX1_timesDown cX1_timesDown 4 .int rm_X1_timesDown (fun ph => [.ref (ph k), .int a1]) s0 zs rr := by
  refine CtI.of (by decide +kernel) (fun ph => Nat.le_of_ble_eq_true rfl) (fun E O hret => ?_)
  have O : OK cM E RX1 cX1_timesDown 4 rm_X1_timesDown := O
  show WS cM E 4 0 [(0, rf E k), (1, .int a1)] [] s0
  unfold f_X1_timesDown at hf
  refine s_iconst (v := 0) O dX1_timesDown_0 rfl ?_
  refine s_istore_n (lv' := [(2, .int 0), (0, rf E k), (1, .int a1)]) O dX1_timesDown_1 rfl (by decide) rfl ?_
  refine s_iconst (v := 0) O dX1_timesDown_2 rfl ?_
  refine s_istore_n (lv' := [(3, .int 0), (2, .int 0), (0, rf E k), (1, .int a1)]) O dX1_timesDown_3 rfl (by decide) rfl ?_
  refine s_loc [2, 3, 1, 0] rfl ?_
  obtain ⟨s6, u4_2, c8, hf⟩ := bn_e hf
  refine lp_of (body := fun s v => fb_X1_timesDown_l4 k a1 a1 s v.1 v.2) (X := fun s v => WS cM E 4 4 [(0, rf E k), (1, .int a1), (2, .int v.1), (3, .int v.2)] [] s) (Y := fun s e => WS cM E 4 34 [(2, .int e)] [] s) (fun s v s' w hb Kc Ke => wb_X1_timesDown_l4 (rr := rr) O hk  hret Kc Ke hb) FU _ _ (s6, u4_2) c8 ?_
  show WS cM E 4 34 [(2, .int u4_2)] [] s6
  refine s_iload_n O 0 dX1_timesDown_34 rfl rfl ?_
  exact s_iret hret rfl dX1_timesDown_35 hf
def rm_X5_runs : Room := { frames := 5, cells := 0, slots := 0, locals := 109 }
def f_X5_runs (a1 : Int32) (a2 : Int32) (s0 : StA) : Option (StA × Int32) :=
  bn (f_X5_isForecast a1 s0) (fun s1 r2 => (if r2 = 0 then some (s1, (-1)) else bn (f_X5_restartTrial  s1) (fun s4 r5 => (if a2 = 0 then bn (f_X1_passAll 12 a1 s4) (fun s7 r8 => some (s7, (gi s7 12 8))) else if a2 = 1 then bn (f_X1_passAll 12 a1 s4) (fun s10 r11 => some (s10, (gi s10 12 9))) else if a2 = 2 then bn (f_X1_greatestHeight 12 a1 s4) (fun s13 r14 => some (s13, r14)) else if a2 = 3 then bn (f_X1_timesDown 12 a1 s4) (fun s16 r17 => some (s16, r17)) else if a2 = 4 then bn (f_X1_passAll 12 a1 s4) (fun s19 r20 => some (s19, (gi s19 12 7))) else some (s4, (-1))))))
set_option maxHeartbeats 4000000 in
set_option maxRecDepth 100000 in
theorem k_X5_runs {a1 : Int32} {a2 : Int32} {s0 zs : StA} {rr : Int32} (hf : f_X5_runs a1 a2 s0 = some (zs, rr)) : CtI cM yX5_runs cX5_runs 3 .int rm_X5_runs (fun ph => [.ref (ph 0), .int a1, .int a2]) s0 zs rr := by
  refine CtI.of (by decide +kernel) (fun ph => Nat.le_of_ble_eq_true rfl) (fun E O hret => ?_)
  have O : OK cM E RX5 cX5_runs 3 rm_X5_runs := O
  show WS cM E 3 0 [(0, rf E 0), (1, .int a1), (2, .int a2)] [] s0
  unfold f_X5_runs at hf
  refine s_iload_n O 1 dX5_runs_0 rfl rfl ?_
  obtain ⟨s1, r2, c3, hf⟩ := bn_e hf
  refine s_SI (As := [.int a1]) (st := []) O lk_RX5_165 (k_X5_isForecast c3) rfl rfl ⟨rfl, rfl⟩ ⟨Nat.le_of_ble_eq_true rfl, Nat.le_of_ble_eq_true rfl⟩ rfl (Nat.le_of_ble_eq_true rfl) dX5_runs_1 ?_
  refine s_if_ne (tgt := 9) O dX5_runs_4 (by decide) (fun c => ?_) (fun c => ?_)
  · replace hf := if_f c hf
    refine s_aload_n O 0 dX5_runs_9 rfl rfl ?_
    obtain ⟨s4, r5, c6, hf⟩ := bn_e hf
    refine s_VV (As := []) (st := []) O lk_RX5_168 (k_X5_restartTrial c6) rfl cs_0 rfl rfl ⟨rfl, rfl⟩ ⟨Nat.le_of_ble_eq_true rfl, Nat.le_of_ble_eq_true rfl⟩ rfl (Nat.le_of_ble_eq_true rfl) dX5_runs_10 ?_
    refine s_iload_n O 2 dX5_runs_13 rfl rfl ?_
    by_cases q0 : a2 = 0
    · replace hf := if_t q0 hf
      refine s_tabE (v := 0) (tgt := 48) O dX5_runs_14 q0 (by decide) (by decide) rfl (by decide) ?_
      refine s_aload_n O 0 dX5_runs_48 rfl rfl ?_
      refine s_getR O fg_RX5_16 cs_0 rfl dX5_runs_49 ?_
      refine s_iload_n O 1 dX5_runs_52 rfl rfl ?_
      obtain ⟨s7, r8, c9, hf⟩ := bn_e hf
      refine s_VV (As := [.int a1]) (st := []) O lk_RX5_161 (k_X1_passAll fl_is12 c9) rfl cs_12 rfl rfl ⟨rfl, rfl⟩ ⟨Nat.le_of_ble_eq_true rfl, Nat.le_of_ble_eq_true rfl⟩ rfl (Nat.le_of_ble_eq_true rfl) dX5_runs_53 ?_
      refine s_aload_n O 0 dX5_runs_56 rfl rfl ?_
      refine s_getR O fg_RX5_16 cs_0 rfl dX5_runs_57 ?_
      refine s_getI O fg_RX5_85 cs_12 rfl dX5_runs_60 ?_
      exact s_iret hret rfl dX5_runs_63 hf
    · replace hf := if_f q0 hf
      by_cases q1 : a2 = 1
      · replace hf := if_t q1 hf
        refine s_tabE (v := 1) (tgt := 64) O dX5_runs_14 q1 (by decide) (by decide) rfl (by decide) ?_
        refine s_aload_n O 0 dX5_runs_64 rfl rfl ?_
        refine s_getR O fg_RX5_16 cs_0 rfl dX5_runs_65 ?_
        refine s_iload_n O 1 dX5_runs_68 rfl rfl ?_
        obtain ⟨s10, r11, c12, hf⟩ := bn_e hf
        refine s_VV (As := [.int a1]) (st := []) O lk_RX5_161 (k_X1_passAll fl_is12 c12) rfl cs_12 rfl rfl ⟨rfl, rfl⟩ ⟨Nat.le_of_ble_eq_true rfl, Nat.le_of_ble_eq_true rfl⟩ rfl (Nat.le_of_ble_eq_true rfl) dX5_runs_69 ?_
        refine s_aload_n O 0 dX5_runs_72 rfl rfl ?_
        refine s_getR O fg_RX5_16 cs_0 rfl dX5_runs_73 ?_
        refine s_getI O fg_RX5_88 cs_12 rfl dX5_runs_76 ?_
        exact s_iret hret rfl dX5_runs_79 hf
      · replace hf := if_f q1 hf
        by_cases q2 : a2 = 2
        · replace hf := if_t q2 hf
          refine s_tabE (v := 2) (tgt := 80) O dX5_runs_14 q2 (by decide) (by decide) rfl (by decide) ?_
          refine s_aload_n O 0 dX5_runs_80 rfl rfl ?_
          refine s_getR O fg_RX5_16 cs_0 rfl dX5_runs_81 ?_
          refine s_iload_n O 1 dX5_runs_84 rfl rfl ?_
          obtain ⟨s13, r14, c15, hf⟩ := bn_e hf
          refine s_VI (As := [.int a1]) (st := []) O lk_RX5_171 (k_X1_greatestHeight fl_is12 c15) rfl cs_12 rfl rfl ⟨rfl, rfl⟩ ⟨Nat.le_of_ble_eq_true rfl, Nat.le_of_ble_eq_true rfl⟩ rfl (Nat.le_of_ble_eq_true rfl) dX5_runs_85 ?_
          exact s_iret hret rfl dX5_runs_88 hf
        · replace hf := if_f q2 hf
          by_cases q3 : a2 = 3
          · replace hf := if_t q3 hf
            refine s_tabE (v := 3) (tgt := 89) O dX5_runs_14 q3 (by decide) (by decide) rfl (by decide) ?_
            refine s_aload_n O 0 dX5_runs_89 rfl rfl ?_
            refine s_getR O fg_RX5_16 cs_0 rfl dX5_runs_90 ?_
            refine s_iload_n O 1 dX5_runs_93 rfl rfl ?_
            obtain ⟨s16, r17, c18, hf⟩ := bn_e hf
            refine s_VI (As := [.int a1]) (st := []) O lk_RX5_174 (k_X1_timesDown fl_is12 c18) rfl cs_12 rfl rfl ⟨rfl, rfl⟩ ⟨Nat.le_of_ble_eq_true rfl, Nat.le_of_ble_eq_true rfl⟩ rfl (Nat.le_of_ble_eq_true rfl) dX5_runs_94 ?_
            exact s_iret hret rfl dX5_runs_97 hf
          · replace hf := if_f q3 hf
            by_cases q4 : a2 = 4
            · replace hf := if_t q4 hf
              refine s_tabE (v := 4) (tgt := 98) O dX5_runs_14 q4 (by decide) (by decide) rfl (by decide) ?_
              refine s_aload_n O 0 dX5_runs_98 rfl rfl ?_
              refine s_getR O fg_RX5_16 cs_0 rfl dX5_runs_99 ?_
              refine s_iload_n O 1 dX5_runs_102 rfl rfl ?_
              obtain ⟨s19, r20, c21, hf⟩ := bn_e hf
              refine s_VV (As := [.int a1]) (st := []) O lk_RX5_161 (k_X1_passAll fl_is12 c21) rfl cs_12 rfl rfl ⟨rfl, rfl⟩ ⟨Nat.le_of_ble_eq_true rfl, Nat.le_of_ble_eq_true rfl⟩ rfl (Nat.le_of_ble_eq_true rfl) dX5_runs_103 ?_
              refine s_aload_n O 0 dX5_runs_106 rfl rfl ?_
              refine s_getR O fg_RX5_16 cs_0 rfl dX5_runs_107 ?_
              refine s_getI O fg_RX5_95 cs_12 rfl dX5_runs_110 ?_
              exact s_iret hret rfl dX5_runs_113 hf
            · replace hf := if_f q4 hf
              have z0 := lv_neT q0 (a := 0) rfl
              have z1 := lv_neT q1 (a := 1) rfl
              have z2 := lv_neT q2 (a := 2) rfl
              have z3 := lv_neT q3 (a := 3) rfl
              have z4 := lv_neT q4 (a := 4) rfl
              refine s_tabO (tgt := 114) O dX5_runs_14 (by omega) (by decide) ?_
              refine s_iconst (v := (-1)) O dX5_runs_114 rfl ?_
              exact s_iret hret rfl dX5_runs_115 hf
  · replace hf := if_t c hf
    refine s_iconst (v := (-1)) O dX5_runs_7 rfl ?_
    exact s_iret hret rfl dX5_runs_8 hf
def rm_X5_orNone : Room := { frames := 0, cells := 0, slots := 0, locals := 0 }
def f_X5_orNone (a0 : Int32) (s0 : StA) : Option (StA × Int32) :=
  (if a0 = 1000000 then some (s0, (-4)) else some (s0, a0))
set_option maxHeartbeats 4000000 in
set_option maxRecDepth 100000 in
theorem k_X5_orNone {a0 : Int32} {s0 zs : StA} {rr : Int32} (hf : f_X5_orNone a0 s0 = some (zs, rr)) : CtI cM yX5_orNone cX5_orNone 1 .int rm_X5_orNone (fun ph => [.int a0]) s0 zs rr := by
  refine CtI.of (by decide +kernel) (fun ph => Nat.le_of_ble_eq_true rfl) (fun E O hret => ?_)
  have O : OK cM E RX5 cX5_orNone 1 rm_X5_orNone := O
  show WS cM E 1 0 [(0, .int a0)] [] s0
  unfold f_X5_orNone at hf
  refine s_iload_n O 0 dX5_orNone_0 rfl rfl ?_
  refine s_ldc O ci_RX5_189 dX5_orNone_1 ?_
  refine s_icmp_ne (tgt := 11) O dX5_orNone_3 (by decide) (fun c => ?_) (fun c => ?_)
  · replace hf := if_f c hf
    refine s_iload_n O 0 dX5_orNone_11 rfl rfl ?_
    exact s_iret hret rfl dX5_orNone_12 hf
  · replace hf := if_t c hf
    refine s_bipush (v := (-4)) O dX5_orNone_6 rfl ?_
    refine s_goto (tgt := 12) O dX5_orNone_8 (by decide) ?_
    exact s_iret hret rfl dX5_orNone_12 hf
