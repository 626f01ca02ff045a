def rm_X6_judges : Room := { frames := 0, cells := 0, slots := 0, locals := 0 }
def f_X6_judges (a1 : Int32) (a2 : Int32) (s0 : StA) : Option (StA × Unit) :=
  (if a2 = (-4) then some (s0, ()) else (if (gi s0 0 23) ≤ a2 then some (s0, ()) else nms (si s0 0 22 a1) (fun s1 => nms (si s1 0 23 a2) (fun s2 => some (s2, ())))))
set_option maxHeartbeats 4000000 in
set_option maxRecDepth 100000 in
theorem k_X6_judges {a1 : Int32} {a2 : Int32} {s0 zs : StA} {rr : Unit} (hf : f_X6_judges a1 a2 s0 = some (zs, rr)) : CtV mM yX6_judges cX6_judges 3 rm_X6_judges (fun ph => [.ref (ph 0), .int a1, .int a2]) s0 zs := by
  refine CtV.of (by decide +kernel) (fun ph => Nat.le_of_ble_eq_true rfl) (fun E O hret => ?_)
  have O : OK mM E RX6 cX6_judges 3 rm_X6_judges := O
  show WS mM E 3 0 [(0, rf E 0), (1, .int a1), (2, .int a2)] [] s0
  unfold f_X6_judges at hf
  refine s_iload_n O 2 dX6_judges_0 rfl rfl ?_
  refine s_bipush (v := (-4)) O dX6_judges_1 rfl ?_
  refine s_icmp_eq (tgt := 24) O dX6_judges_3 (by decide) (fun c => ?_) (fun c => ?_)
  · replace hf := if_t c hf
    exact s_vret hret dX6_judges_24 hf
  · replace hf := if_f c hf
    refine s_iload_n O 2 dX6_judges_6 rfl rfl ?_
    refine s_aload_n O 0 dX6_judges_7 rfl rfl ?_
    refine s_getI O fg_RX6_241 ms_0 rfl dX6_judges_8 ?_
    refine s_icmp_ge (tgt := 24) O dX6_judges_11 (by decide) (fun c => ?_) (fun c => ?_)
    · replace hf := if_t c hf
      exact s_vret hret dX6_judges_24 hf
    · replace hf := if_f c hf
      refine s_aload_n O 0 dX6_judges_14 rfl rfl ?_
      refine s_iload_n O 1 dX6_judges_15 rfl rfl ?_
      refine s_putI O fp_RX6_238 ms_0 rfl dX6_judges_16 ?_
      refine s_tops (fun s1 es1 => ?_)
      replace hf := nms_e es1 hf
      refine s_aload_n O 0 dX6_judges_19 rfl rfl ?_
      refine s_iload_n O 2 dX6_judges_20 rfl rfl ?_
      refine s_putI O fp_RX6_241 ms_0 rfl dX6_judges_21 ?_
      refine s_tops (fun s2 es2 => ?_)
      replace hf := nms_e es2 hf
      exact s_vret hret dX6_judges_24 hf
def rm_X6_startsJudging : Room := { frames := 0, cells := 0, slots := 0, locals := 0 }
def f_X6_startsJudging (a1 : Int32) (s0 : StA) : Option (StA × Unit) :=
  nms (si s0 0 22 (-4)) (fun s1 => nms (si s1 0 23 a1) (fun s2 => some (s2, ())))
set_option maxHeartbeats 4000000 in
set_option maxRecDepth 100000 in
theorem k_X6_startsJudging {a1 : Int32} {s0 zs : StA} {rr : Unit} (hf : f_X6_startsJudging a1 s0 = some (zs, rr)) : CtV mM yX6_startsJudging cX6_startsJudging 2 rm_X6_startsJudging (fun ph => [.ref (ph 0), .int a1]) s0 zs := by
  refine CtV.of (by decide +kernel) (fun ph => Nat.le_of_ble_eq_true rfl) (fun E O hret => ?_)
  have O : OK mM E RX6 cX6_startsJudging 2 rm_X6_startsJudging := O
  show WS mM E 2 0 [(0, rf E 0), (1, .int a1)] [] s0
  unfold f_X6_startsJudging at hf
  refine s_aload_n O 0 dX6_startsJudging_0 rfl rfl ?_
  refine s_bipush (v := (-4)) O dX6_startsJudging_1 rfl ?_
  refine s_putI O fp_RX6_238 ms_0 rfl dX6_startsJudging_3 ?_
  refine s_tops (fun s1 es1 => ?_)
  replace hf := nms_e es1 hf
  refine s_aload_n O 0 dX6_startsJudging_6 rfl rfl ?_
  refine s_iload_n O 1 dX6_startsJudging_7 rfl rfl ?_
  refine s_putI O fp_RX6_241 ms_0 rfl dX6_startsJudging_8 ?_
  refine s_tops (fun s2 es2 => ?_)
  replace hf := nms_e es2 hf
  exact s_vret hret dX6_startsJudging_11 hf
def rm_X6_best : Room := { frames := 5, cells := 0, slots := 0, locals := 110 }
def fb_X6_best_l17 (a1 : Int32) (x1 : Int32) (s0 : StA) (v2 : Int32) : Option (StA × ((Int32) ⊕ (Unit))) :=
  (if (gi s0 0 3) ≤ v2 then some (s0, .inr ()) else bn (f_X6_isUnsaid v2 s0) (fun s7 r8 => (if r8 = 0 then some (s7, .inl (v2 + 1)) else bn (f_X6_starts  s7) (fun s10 r11 => bn (f_X6_becomesOf v2 3 1 s10) (fun s13 r14 => bn (f_X6_minutesDown  s13) (fun s16 r17 => bn (f_X6_judges v2 r17 s16) (fun s19 r20 => some (s19, .inl (v2 + 1)))))))))
set_option maxHeartbeats 4000000 in
set_option maxRecDepth 100000 in
theorem wb_X6_best_l17 {E : XC} (O : OK mM E RX6 cX6_best 3 rm_X6_best) {a1 : Int32}  {x1 : Int32} {s0 : StA} {v2 : Int32} {zs : StA} {rr : Int32} (hret : ReI mM E .int cX6_best zs rr) {bs : StA} {bw : (Int32) ⊕ (Unit)} (Kc : ∀ v, bw = .inl v → WS mM E 3 17 [(0, rf E 0), (1, .int x1), (2, .int v)] [] bs) (Ke : ∀ e, bw = .inr e → WS mM E 3 59 [(0, rf E 0), (1, .int x1)] [] bs) (hf : fb_X6_best_l17 a1 x1 s0 v2 = some (bs, bw)) : WS mM E 3 17 [(0, rf E 0), (1, .int x1), (2, .int v2)] [] s0 := by
  unfold fb_X6_best_l17 at hf
  refine s_iload_n O 2 dX6_best_17 rfl rfl ?_
  refine s_aload_n O 0 dX6_best_18 rfl rfl ?_
  refine s_getI O fg_RX6_64 ms_0 rfl dX6_best_19 ?_
  refine s_icmp_ge (tgt := 59) O dX6_best_22 (by decide) (fun c => ?_) (fun c => ?_)
  · replace hf := if_t c hf
    refine s_loc [0, 1] rfl ?_
    cases hf
    exact Ke _ rfl
  · replace hf := if_f c hf
    refine s_aload_n O 0 dX6_best_25 rfl rfl ?_
    refine s_iload_n O 2 dX6_best_26 rfl rfl ?_
    obtain ⟨s7, r8, c9, hf⟩ := bn_e hf
    refine s_VI (As := [.int v2]) (st := []) O lk_RX6_248 (k_X6_isUnsaid c9) rfl ms_0 rfl rfl ⟨rfl, rfl⟩ ⟨Nat.le_of_ble_eq_true rfl, Nat.le_of_ble_eq_true rfl⟩ rfl (Nat.le_of_ble_eq_true rfl) dX6_best_27 ?_
    refine s_if_eq (tgt := 53) O dX6_best_30 (by decide) (fun c => ?_) (fun c => ?_)
    · replace hf := if_t c hf
      refine s_iinc (v := (v2 + 1)) (lv' := [(2, .int (v2 + 1)), (0, rf E 0), (1, .int x1)]) O 2 dX6_best_53 rfl rfl (by decide) rfl ?_
      refine s_goto (tgt := 17) O dX6_best_56 (by decide) ?_
      refine s_loc [1, 2, 0] rfl ?_
      cases hf
      exact Kc _ rfl
    · replace hf := if_f c hf
      refine s_aload_n O 0 dX6_best_33 rfl rfl ?_
      obtain ⟨s10, r11, c12, hf⟩ := bn_e hf
      refine s_VV (As := []) (st := []) O lk_RX6_175 (k_X6_starts c12) rfl ms_0 rfl rfl ⟨rfl, rfl⟩ ⟨Nat.le_of_ble_eq_true rfl, Nat.le_of_ble_eq_true rfl⟩ rfl (Nat.le_of_ble_eq_true rfl) dX6_best_34 ?_
      refine s_aload_n O 0 dX6_best_37 rfl rfl ?_
      refine s_iload_n O 2 dX6_best_38 rfl rfl ?_
      refine s_iconst (v := 3) O dX6_best_39 rfl ?_
      refine s_iconst (v := 1) O dX6_best_40 rfl ?_
      obtain ⟨s13, r14, c15, hf⟩ := bn_e hf
      refine s_VV (As := [.int v2, .int 3, .int 1]) (st := []) O lk_RX6_162 (k_X6_becomesOf c15) rfl ms_0 rfl rfl ⟨rfl, rfl⟩ ⟨Nat.le_of_ble_eq_true rfl, Nat.le_of_ble_eq_true rfl⟩ rfl (Nat.le_of_ble_eq_true rfl) dX6_best_41 ?_
      refine s_aload_n O 0 dX6_best_44 rfl rfl ?_
      refine s_iload_n O 2 dX6_best_45 rfl rfl ?_
      refine s_aload_n O 0 dX6_best_46 rfl rfl ?_
      obtain ⟨s16, r17, c18, hf⟩ := bn_e hf
      refine s_VI (As := []) (st := [.int v2, rf E 0]) O lk_RX6_229 (k_X6_minutesDown c18) rfl ms_0 rfl rfl ⟨rfl, rfl⟩ ⟨Nat.le_of_ble_eq_true rfl, Nat.le_of_ble_eq_true rfl⟩ rfl (Nat.le_of_ble_eq_true rfl) dX6_best_47 ?_
      obtain ⟨s19, r20, c21, hf⟩ := bn_e hf
      refine s_VV (As := [.int v2, .int r17]) (st := []) O lk_RX6_251 (k_X6_judges c21) rfl ms_0 rfl rfl ⟨rfl, rfl⟩ ⟨Nat.le_of_ble_eq_true rfl, Nat.le_of_ble_eq_true rfl⟩ rfl (Nat.le_of_ble_eq_true rfl) dX6_best_50 ?_
      refine s_iinc (v := (v2 + 1)) (lv' := [(2, .int (v2 + 1)), (0, rf E 0), (1, .int x1)]) O 2 dX6_best_53 rfl rfl (by decide) rfl ?_
      refine s_goto (tgt := 17) O dX6_best_56 (by decide) ?_
      refine s_loc [1, 2, 0] rfl ?_
      cases hf
      exact Kc _ rfl
def fl_X6_best_l17 (a1 : Int32) (x1 : Int32) (s0 : StA) (v : Int32) : Option (StA × ((Unit))) :=
  it (fun s v => fb_X6_best_l17 a1 x1 s v) FU s0 v
def f_X6_best (a1 : Int32) (s0 : StA) : Option (StA × Int32) :=
  bn (f_X6_isPart a1 s0) (fun s1 r2 => (if r2 = 0 then some (s1, (-1)) else bn (f_X6_startsJudging 1000000 s1) (fun s4 r5 => bn (fl_X6_best_l17 a1 a1 s4 0) (fun s22 e23 => bn (f_X6_judged a1 s22) (fun s25 r26 => some (s25, r26))))))
set_option maxHeartbeats 4000000 in
set_option maxRecDepth 100000 in
theorem k_X6_best {a1 : Int32} {s0 zs : StA} {rr : Int32} (hf : f_X6_best a1 s0 = some (zs, rr)) : CtI mM yX6_best cX6_best 3 .int rm_X6_best (fun ph => [.ref (ph 0), .int a1]) s0 zs rr := by
  refine CtI.of (by decide +kernel) (fun ph => Nat.le_of_ble_eq_true rfl) (fun E O hret => ?_)
  have O : OK mM E RX6 cX6_best 3 rm_X6_best := O
  show WS mM E 3 0 [(0, rf E 0), (1, .int a1)] [] s0
  unfold f_X6_best at hf
  refine s_iload_n O 1 dX6_best_0 rfl rfl ?_
  obtain ⟨s1, r2, c3, hf⟩ := bn_e hf
  refine s_SI (As := [.int a1]) (st := []) O lk_RX6_188 (k_X6_isPart c3) rfl rfl ⟨rfl, rfl⟩ ⟨Nat.le_of_ble_eq_true rfl, Nat.le_of_ble_eq_true rfl⟩ rfl (Nat.le_of_ble_eq_true rfl) dX6_best_1 ?_
  refine s_if_ne (tgt := 9) O dX6_best_4 (by decide) (fun c => ?_) (fun c => ?_)
  · replace hf := if_f c hf
    refine s_aload_n O 0 dX6_best_9 rfl rfl ?_
    refine s_ldc O ci_RX6_244 dX6_best_10 ?_
    obtain ⟨s4, r5, c6, hf⟩ := bn_e hf
    refine s_VV (As := [.int 1000000]) (st := []) O lk_RX6_245 (k_X6_startsJudging c6) rfl ms_0 rfl rfl ⟨rfl, rfl⟩ ⟨Nat.le_of_ble_eq_true rfl, Nat.le_of_ble_eq_true rfl⟩ rfl (Nat.le_of_ble_eq_true rfl) dX6_best_12 ?_
    refine s_iconst (v := 0) O dX6_best_15 rfl ?_
    refine s_istore_n (lv' := [(2, .int 0), (0, rf E 0), (1, .int a1)]) O dX6_best_16 rfl (by decide) rfl ?_
    refine s_loc [1, 2, 0] rfl ?_
    obtain ⟨s22, e23, c24, hf⟩ := bn_e hf
    refine lp_of (body := fun s v => fb_X6_best_l17 a1 a1 s v) (X := fun s v => WS mM E 3 17 [(0, rf E 0), (1, .int a1), (2, .int v)] [] s) (Y := fun s e => WS mM E 3 59 [(0, rf E 0), (1, .int a1)] [] s) (fun s v s' w hb Kc Ke => wb_X6_best_l17 (rr := rr) O   hret Kc Ke hb) FU _ _ (s22, e23) c24 ?_
    show WS mM E 3 59 [(0, rf E 0), (1, .int a1)] [] s22
    refine s_aload_n O 0 dX6_best_59 rfl rfl ?_
    refine s_iload_n O 1 dX6_best_60 rfl rfl ?_
    obtain ⟨s25, r26, c27, hf⟩ := bn_e hf
    refine s_VI (As := [.int a1]) (st := []) O lk_RX6_255 (k_X6_judged c27) rfl ms_0 rfl rfl ⟨rfl, rfl⟩ ⟨Nat.le_of_ble_eq_true rfl, Nat.le_of_ble_eq_true rfl⟩ rfl (Nat.le_of_ble_eq_true rfl) dX6_best_61 ?_
    exact s_iret hret rfl dX6_best_64 hf
  · replace hf := if_t c hf
    refine s_iconst (v := (-1)) O dX6_best_7 rfl ?_
    exact s_iret hret rfl dX6_best_8 hf
def rm_X6_both : Room := { frames := 5, cells := 0, slots := 0, locals := 111 }
def fb_X6_both_l37 (a1 : Int32) (a2 : Int32) (x1 : Int32) (x2 : Int32) (x3 : Int32) (s0 : StA) (v4 : Int32) : Option (StA × ((Int32) ⊕ (Unit))) :=
  (if (gi s0 0 3) ≤ v4 then some (s0, .inr ()) else bn (f_X6_isUnsaid x3 s0) (fun s11 r12 => (if r12 = 0 then some (s11, .inl (v4 + 1)) else bn (f_X6_isUnsaid v4 s11) (fun s14 r15 => (if r15 = 0 then some (s14, .inl (v4 + 1)) else bn (f_X6_starts  s14) (fun s17 r18 => bn (f_X6_becomesOf x3 3 1 s17) (fun s20 r21 => bn (f_X6_becomesOf v4 3 1 s20) (fun s23 r24 => bn (f_X6_minutesTo x1 s23) (fun s26 r27 => bn (f_X6_judges ((10 * x3) + v4) r27 s26) (fun s29 r30 => some (s29, .inl (v4 + 1))))))))))))
set_option maxHeartbeats 4000000 in
set_option maxRecDepth 100000 in
theorem wb_X6_both_l37 {E : XC} (O : OK mM E RX6 cX6_both 5 rm_X6_both) {a1 : Int32} {a2 : Int32}  {x1 : Int32} {x2 : Int32} {x3 : Int32} {s0 : StA} {v4 : Int32} {zs : StA} {rr : Int32} (hret : ReI mM E .int cX6_both zs rr) {bs : StA} {bw : (Int32) ⊕ (Unit)} (Kc : ∀ v, bw = .inl v → WS mM E 5 37 [(0, rf E 0), (1, .int x1), (2, .int x2), (3, .int x3), (4, .int v)] [] bs) (Ke : ∀ e, bw = .inr e → WS mM E 5 104 [(0, rf E 0), (1, .int x1), (2, .int x2), (3, .int x3)] [] bs) (hf : fb_X6_both_l37 a1 a2 x1 x2 x3 s0 v4 = some (bs, bw)) : WS mM E 5 37 [(0, rf E 0), (1, .int x1), (2, .int x2), (3, .int x3), (4, .int v4)] [] s0 := by
  unfold fb_X6_both_l37 at hf
  refine s_iload O 4 dX6_both_37 rfl ?_
  refine s_aload_n O 0 dX6_both_39 rfl rfl ?_
  refine s_getI O fg_RX6_64 ms_0 rfl dX6_both_40 ?_
  refine s_icmp_ge (tgt := 104) O dX6_both_43 (by decide) (fun c => ?_) (fun c => ?_)
  · replace hf := if_t c hf
    refine s_loc [0, 1, 2, 3] rfl ?_
    cases hf
    exact Ke _ rfl
  · replace hf := if_f c hf
    refine s_aload_n O 0 dX6_both_46 rfl rfl ?_
    refine s_iload_n O 3 dX6_both_47 rfl rfl ?_
    obtain ⟨s11, r12, c13, hf⟩ := bn_e hf
    refine s_VI (As := [.int x3]) (st := []) O lk_RX6_248 (k_X6_isUnsaid c13) rfl ms_0 rfl rfl ⟨rfl, rfl⟩ ⟨Nat.le_of_ble_eq_true rfl, Nat.le_of_ble_eq_true rfl⟩ rfl (Nat.le_of_ble_eq_true rfl) dX6_both_48 ?_
    refine s_if_eq (tgt := 98) O dX6_both_51 (by decide) (fun c => ?_) (fun c => ?_)
    · replace hf := if_t c hf
      refine s_iinc (v := (v4 + 1)) (lv' := [(4, .int (v4 + 1)), (0, rf E 0), (1, .int x1), (2, .int x2), (3, .int x3)]) O 4 dX6_both_98 rfl rfl (by decide) rfl ?_
      refine s_goto (tgt := 37) O dX6_both_101 (by decide) ?_
      refine s_loc [1, 2, 3, 4, 0] rfl ?_
      cases hf
      exact Kc _ rfl
    · replace hf := if_f c hf
      refine s_aload_n O 0 dX6_both_54 rfl rfl ?_
      refine s_iload O 4 dX6_both_55 rfl ?_
      obtain ⟨s14, r15, c16, hf⟩ := bn_e hf
      refine s_VI (As := [.int v4]) (st := []) O lk_RX6_248 (k_X6_isUnsaid c16) rfl ms_0 rfl rfl ⟨rfl, rfl⟩ ⟨Nat.le_of_ble_eq_true rfl, Nat.le_of_ble_eq_true rfl⟩ rfl (Nat.le_of_ble_eq_true rfl) dX6_both_57 ?_
      refine s_if_eq (tgt := 98) O dX6_both_60 (by decide) (fun c => ?_) (fun c => ?_)
      · replace hf := if_t c hf
        refine s_iinc (v := (v4 + 1)) (lv' := [(4, .int (v4 + 1)), (0, rf E 0), (1, .int x1), (2, .int x2), (3, .int x3)]) O 4 dX6_both_98 rfl rfl (by decide) rfl ?_
        refine s_goto (tgt := 37) O dX6_both_101 (by decide) ?_
        refine s_loc [1, 2, 3, 4, 0] rfl ?_
        cases hf
        exact Kc _ rfl
      · replace hf := if_f c hf
        refine s_aload_n O 0 dX6_both_63 rfl rfl ?_
        obtain ⟨s17, r18, c19, hf⟩ := bn_e hf
        refine s_VV (As := []) (st := []) O lk_RX6_175 (k_X6_starts c19) rfl ms_0 rfl rfl ⟨rfl, rfl⟩ ⟨Nat.le_of_ble_eq_true rfl, Nat.le_of_ble_eq_true rfl⟩ rfl (Nat.le_of_ble_eq_true rfl) dX6_both_64 ?_
        refine s_aload_n O 0 dX6_both_67 rfl rfl ?_
        refine s_iload_n O 3 dX6_both_68 rfl rfl ?_
        refine s_iconst (v := 3) O dX6_both_69 rfl ?_
        refine s_iconst (v := 1) O dX6_both_70 rfl ?_
        obtain ⟨s20, r21, c22, hf⟩ := bn_e hf
        refine s_VV (As := [.int x3, .int 3, .int 1]) (st := []) O lk_RX6_162 (k_X6_becomesOf c22) rfl ms_0 rfl rfl ⟨rfl, rfl⟩ ⟨Nat.le_of_ble_eq_true rfl, Nat.le_of_ble_eq_true rfl⟩ rfl (Nat.le_of_ble_eq_true rfl) dX6_both_71 ?_
        refine s_aload_n O 0 dX6_both_74 rfl rfl ?_
        refine s_iload O 4 dX6_both_75 rfl ?_
        refine s_iconst (v := 3) O dX6_both_77 rfl ?_
        refine s_iconst (v := 1) O dX6_both_78 rfl ?_
        obtain ⟨s23, r24, c25, hf⟩ := bn_e hf
        refine s_VV (As := [.int v4, .int 3, .int 1]) (st := []) O lk_RX6_162 (k_X6_becomesOf c25) rfl ms_0 rfl rfl ⟨rfl, rfl⟩ ⟨Nat.le_of_ble_eq_true rfl, Nat.le_of_ble_eq_true rfl⟩ rfl (Nat.le_of_ble_eq_true rfl) dX6_both_79 ?_
        refine s_aload_n O 0 dX6_both_82 rfl rfl ?_
        refine s_bipush (v := 10) O dX6_both_83 rfl ?_
        refine s_iload_n O 3 dX6_both_85 rfl rfl ?_
        refine s_imul O dX6_both_86 ?_
        refine s_iload O 4 dX6_both_87 rfl ?_
        refine s_iadd O dX6_both_89 ?_
        refine s_aload_n O 0 dX6_both_90 rfl rfl ?_
        refine s_iload_n O 1 dX6_both_91 rfl rfl ?_
        obtain ⟨s26, r27, c28, hf⟩ := bn_e hf
        refine s_VI (As := [.int x1]) (st := [.int ((10 * x3) + v4), rf E 0]) O lk_RX6_235 (k_X6_minutesTo c28) rfl ms_0 rfl rfl ⟨rfl, rfl⟩ ⟨Nat.le_of_ble_eq_true rfl, Nat.le_of_ble_eq_true rfl⟩ rfl (Nat.le_of_ble_eq_true rfl) dX6_both_92 ?_
        obtain ⟨s29, r30, c31, hf⟩ := bn_e hf
        refine s_VV (As := [.int ((10 * x3) + v4), .int r27]) (st := []) O lk_RX6_251 (k_X6_judges c31) rfl ms_0 rfl rfl ⟨rfl, rfl⟩ ⟨Nat.le_of_ble_eq_true rfl, Nat.le_of_ble_eq_true rfl⟩ rfl (Nat.le_of_ble_eq_true rfl) dX6_both_95 ?_
        refine s_iinc (v := (v4 + 1)) (lv' := [(4, .int (v4 + 1)), (0, rf E 0), (1, .int x1), (2, .int x2), (3, .int x3)]) O 4 dX6_both_98 rfl rfl (by decide) rfl ?_
        refine s_goto (tgt := 37) O dX6_both_101 (by decide) ?_
        refine s_loc [1, 2, 3, 4, 0] rfl ?_
        cases hf
        exact Kc _ rfl
def fl_X6_both_l37 (a1 : Int32) (a2 : Int32) (x1 : Int32) (x2 : Int32) (x3 : Int32) (s0 : StA) (v : Int32) : Option (StA × ((Unit))) :=
  it (fun s v => fb_X6_both_l37 a1 a2 x1 x2 x3 s v) FU s0 v
def fb_X6_both_l24 (a1 : Int32) (a2 : Int32) (x1 : Int32) (x2 : Int32) (s0 : StA) (v3 : Int32) : Option (StA × ((Int32) ⊕ (Unit))) :=
  (if (gi s0 0 3) ≤ v3 then some (s0, .inr ()) else nmi (v3 + 1) (fun n10 => bn (fl_X6_both_l37 a1 a2 x1 x2 v3 s0 n10) (fun s32 e33 => some (s32, .inl (v3 + 1)))))
set_option maxHeartbeats 4000000 in
set_option maxRecDepth 100000 in
theorem wb_X6_both_l24 {E : XC} (O : OK mM E RX6 cX6_both 5 rm_X6_both) {a1 : Int32} {a2 : Int32}  {x1 : Int32} {x2 : Int32} {s0 : StA} {v3 : Int32} {zs : StA} {rr : Int32} (hret : ReI mM E .int cX6_both zs rr) {bs : StA} {bw : (Int32) ⊕ (Unit)} (Kc : ∀ v, bw = .inl v → WS mM E 5 24 [(0, rf E 0), (1, .int x1), (2, .int x2), (3, .int v)] [] bs) (Ke : ∀ e, bw = .inr e → WS mM E 5 110 [(0, rf E 0), (2, .int x2)] [] bs) (hf : fb_X6_both_l24 a1 a2 x1 x2 s0 v3 = some (bs, bw)) : WS mM E 5 24 [(0, rf E 0), (1, .int x1), (2, .int x2), (3, .int v3)] [] s0 := by
  unfold fb_X6_both_l24 at hf
  refine s_iload_n O 3 dX6_both_24 rfl rfl ?_
  refine s_aload_n O 0 dX6_both_25 rfl rfl ?_
  refine s_getI O fg_RX6_64 ms_0 rfl dX6_both_26 ?_
  refine s_icmp_ge (tgt := 110) O dX6_both_29 (by decide) (fun c => ?_) (fun c => ?_)
  · replace hf := if_t c hf
    refine s_loc [0, 2] rfl ?_
    cases hf
    exact Ke _ rfl
  · replace hf := if_f c hf
    refine s_iload_n O 3 dX6_both_32 rfl rfl ?_
    refine s_iconst (v := 1) O dX6_both_33 rfl ?_
    refine s_iadd O dX6_both_34 ?_
    refine s_topi (fun n10 en10 => ?_)
    replace hf := nmi_e en10 hf
    refine s_istore (lv' := [(4, .int n10), (0, rf E 0), (1, .int x1), (2, .int x2), (3, .int v3)]) O dX6_both_35 (by decide) rfl ?_
    refine s_loc [1, 2, 3, 4, 0] rfl ?_
    obtain ⟨s32, e33, c34, hf⟩ := bn_e hf
    refine lp_of (body := fun s v => fb_X6_both_l37 a1 a2 x1 x2 v3 s v) (X := fun s v => WS mM E 5 37 [(0, rf E 0), (1, .int x1), (2, .int x2), (3, .int v3), (4, .int v)] [] s) (Y := fun s e => WS mM E 5 104 [(0, rf E 0), (1, .int x1), (2, .int x2), (3, .int v3)] [] s) (fun s v s' w hb Kc Ke => wb_X6_both_l37 (rr := rr) O   hret Kc Ke hb) FU _ _ (s32, e33) c34 ?_
    show WS mM E 5 104 [(0, rf E 0), (1, .int x1), (2, .int x2), (3, .int v3)] [] s32
    refine s_iinc (v := (v3 + 1)) (lv' := [(3, .int (v3 + 1)), (0, rf E 0), (1, .int x1), (2, .int x2)]) O 3 dX6_both_104 rfl rfl (by decide) rfl ?_
    refine s_goto (tgt := 24) O dX6_both_107 (by decide) ?_
    refine s_loc [1, 2, 3, 0] rfl ?_
    cases hf
    exact Kc _ rfl
def fl_X6_both_l24 (a1 : Int32) (a2 : Int32) (x1 : Int32) (x2 : Int32) (s0 : StA) (v : Int32) : Option (StA × ((Unit))) :=
  it (fun s v => fb_X6_both_l24 a1 a2 x1 x2 s v) FU s0 v
def f_X6_both (a1 : Int32) (a2 : Int32) (s0 : StA) : Option (StA × Int32) :=
  bn (f_X6_isPlace a1 s0) (fun s1 r2 => (if r2 = 0 then some (s1, (-1)) else bn (f_X6_isPart a2 s1) (fun s4 r5 => (if r5 = 0 then some (s4, (-1)) else bn (f_X6_startsJudging 1000000 s4) (fun s7 r8 => bn (fl_X6_both_l24 a1 a2 a1 a2 s7 0) (fun s35 e36 => bn (f_X6_judged a2 s35) (fun s38 r39 => some (s38, r39))))))))
set_option maxHeartbeats 4000000 in
set_option maxRecDepth 100000 in
theorem k_X6_both {a1 : Int32} {a2 : Int32} {s0 zs : StA} {rr : Int32} (hf : f_X6_both a1 a2 s0 = some (zs, rr)) : CtI mM yX6_both cX6_both 5 .int rm_X6_both (fun ph => [.ref (ph 0), .int a1, .int a2]) s0 zs rr := by
  refine CtI.of (by decide +kernel) (fun ph => Nat.le_of_ble_eq_true rfl) (fun E O hret => ?_)
  have O : OK mM E RX6 cX6_both 5 rm_X6_both := O
  show WS mM E 5 0 [(0, rf E 0), (1, .int a1), (2, .int a2)] [] s0
  unfold f_X6_both at hf
  refine s_iload_n O 1 dX6_both_0 rfl rfl ?_
  obtain ⟨s1, r2, c3, hf⟩ := bn_e hf
  refine s_SI (As := [.int a1]) (st := []) O lk_RX6_232 (k_X6_isPlace c3) rfl rfl ⟨rfl, rfl⟩ ⟨Nat.le_of_ble_eq_true rfl, Nat.le_of_ble_eq_true rfl⟩ rfl (Nat.le_of_ble_eq_true rfl) dX6_both_1 ?_
  refine s_if_eq (tgt := 14) O dX6_both_4 (by decide) (fun c => ?_) (fun c => ?_)
  · replace hf := if_t c hf
    refine s_iconst (v := (-1)) O dX6_both_14 rfl ?_
    exact s_iret hret rfl dX6_both_15 hf
  · replace hf := if_f c hf
    refine s_iload_n O 2 dX6_both_7 rfl rfl ?_
    obtain ⟨s4, r5, c6, hf⟩ := bn_e hf
    refine s_SI (As := [.int a2]) (st := []) O lk_RX6_188 (k_X6_isPart c6) rfl rfl ⟨rfl, rfl⟩ ⟨Nat.le_of_ble_eq_true rfl, Nat.le_of_ble_eq_true rfl⟩ rfl (Nat.le_of_ble_eq_true rfl) dX6_both_8 ?_
    refine s_if_ne (tgt := 16) O dX6_both_11 (by decide) (fun c => ?_) (fun c => ?_)
    · replace hf := if_f c hf
      refine s_aload_n O 0 dX6_both_16 rfl rfl ?_
      refine s_ldc O ci_RX6_244 dX6_both_17 ?_
      obtain ⟨s7, r8, c9, hf⟩ := bn_e hf
      refine s_VV (As := [.int 1000000]) (st := []) O lk_RX6_245 (k_X6_startsJudging c9) rfl ms_0 rfl rfl ⟨rfl, rfl⟩ ⟨Nat.le_of_ble_eq_true rfl, Nat.le_of_ble_eq_true rfl⟩ rfl (Nat.le_of_ble_eq_true rfl) dX6_both_19 ?_
      refine s_iconst (v := 0) O dX6_both_22 rfl ?_
      refine s_istore_n (lv' := [(3, .int 0), (0, rf E 0), (1, .int a1), (2, .int a2)]) O dX6_both_23 rfl (by decide) rfl ?_
      refine s_loc [1, 2, 3, 0] rfl ?_
      obtain ⟨s35, e36, c37, hf⟩ := bn_e hf
      refine lp_of (body := fun s v => fb_X6_both_l24 a1 a2 a1 a2 s v) (X := fun s v => WS mM E 5 24 [(0, rf E 0), (1, .int a1), (2, .int a2), (3, .int v)] [] s) (Y := fun s e => WS mM E 5 110 [(0, rf E 0), (2, .int a2)] [] s) (fun s v s' w hb Kc Ke => wb_X6_both_l24 (rr := rr) O   hret Kc Ke hb) FU _ _ (s35, e36) c37 ?_
      show WS mM E 5 110 [(0, rf E 0), (2, .int a2)] [] s35
      refine s_aload_n O 0 dX6_both_110 rfl rfl ?_
      refine s_iload_n O 1 dX6_both_111 rfl rfl ?_
      obtain ⟨s38, r39, c40, hf⟩ := bn_e hf
      refine s_VI (As := [.int a2]) (st := []) O lk_RX6_255 (k_X6_judged c40) rfl ms_0 rfl rfl ⟨rfl, rfl⟩ ⟨Nat.le_of_ble_eq_true rfl, Nat.le_of_ble_eq_true rfl⟩ rfl (Nat.le_of_ble_eq_true rfl) dX6_both_112 ?_
      exact s_iret hret rfl dX6_both_115 hf
    · replace hf := if_t c hf
      refine s_iconst (v := (-1)) O dX6_both_14 rfl ?_
      exact s_iret hret rfl dX6_both_15 hf
def rm_X6_offPlace : Room := { frames := 0, cells := 0, slots := 0, locals := 0 }
def f_X6_offPlace (a1 : Int32) (s0 : StA) : Option (StA × Int32) :=
  gd 25 63 ((if (gi s0 2 (25 : Int32).toNatClampNeg) ≤ a1 then gd 25 63 (some (s0, (a1 - (gi s0 2 (25 : Int32).toNatClampNeg)))) else gd 25 63 (some (s0, ((gi s0 2 (25 : Int32).toNatClampNeg) - a1)))))
set_option maxHeartbeats 4000000 in
set_option maxRecDepth 100000 in
theorem k_X6_offPlace {a1 : Int32} {s0 zs : StA} {rr : Int32} (hf : f_X6_offPlace a1 s0 = some (zs, rr)) : CtI mM yX6_offPlace cX6_offPlace 2 .int rm_X6_offPlace (fun ph => [.ref (ph 0), .int a1]) s0 zs rr := by
  refine CtI.of (by decide +kernel) (fun ph => Nat.le_of_ble_eq_true rfl) (fun E O hret => ?_)
  have O : OK mM E RX6 cX6_offPlace 2 rm_X6_offPlace := O
  show WS mM E 2 0 [(0, rf E 0), (1, .int a1)] [] s0
  unfold f_X6_offPlace at hf
  refine s_aload_n O 0 dX6_offPlace_0 rfl rfl ?_
  refine s_getR O fg_RX6_13 ms_0 rfl dX6_offPlace_1 ?_
  refine s_bipush (v := 25) O dX6_offPlace_4 rfl ?_
  obtain ⟨h1, hf⟩ := gd_e hf
  refine s_iald O ms_2 h1 dX6_offPlace_6 ?_
  refine s_iload_n O 1 dX6_offPlace_7 rfl rfl ?_
  refine s_icmp_le (tgt := 23) O dX6_offPlace_8 (by decide) (fun c => ?_) (fun c => ?_)
  · replace hf := if_t c hf
    refine s_iload_n O 1 dX6_offPlace_23 rfl rfl ?_
    refine s_aload_n O 0 dX6_offPlace_24 rfl rfl ?_
    refine s_getR O fg_RX6_13 ms_0 rfl dX6_offPlace_25 ?_
    refine s_bipush (v := 25) O dX6_offPlace_28 rfl ?_
    obtain ⟨h2, hf⟩ := gd_e hf
    refine s_iald O ms_2 h2 dX6_offPlace_30 ?_
    refine s_isub O dX6_offPlace_31 ?_
    exact s_iret hret rfl dX6_offPlace_32 hf
  · replace hf := if_f c hf
    refine s_aload_n O 0 dX6_offPlace_11 rfl rfl ?_
    refine s_getR O fg_RX6_13 ms_0 rfl dX6_offPlace_12 ?_
    refine s_bipush (v := 25) O dX6_offPlace_15 rfl ?_
    obtain ⟨h3, hf⟩ := gd_e hf
    refine s_iald O ms_2 h3 dX6_offPlace_17 ?_
    refine s_iload_n O 1 dX6_offPlace_18 rfl rfl ?_
    refine s_isub O dX6_offPlace_19 ?_
    refine s_goto (tgt := 32) O dX6_offPlace_20 (by decide) ?_
    exact s_iret hret rfl dX6_offPlace_32 hf
def rm_X6_when : Room := { frames := 5, cells := 0, slots := 0, locals := 111 }
def fb_X6_when_l41 (a1 : Int32) (a2 : Int32) (a3 : Int32) (a4 : Int32) (x1 : Int32) (x2 : Int32) (x3 : Int32) (x4 : Int32) (s0 : StA) (v5 : Int32) : Option (StA × ((Int32) ⊕ (Unit))) :=
  (if 30 < v5 then some (s0, .inr ()) else bn (f_X6_starts  s0) (fun s16 r17 => nms (si s16 0 18 x1) (fun s19 => gd 27 63 (nms (si s19 0 19 ((gi s19 2 (27 : Int32).toNatClampNeg) + v5)) (fun s21 => bn (f_X6_minutesGo x3 s21) (fun s22 r23 => bn (f_X6_offPlace x2 s22) (fun s25 r26 => bn (f_X6_judges v5 r26 s25) (fun s28 r29 => some (s28, .inl (v5 + 1))))))))))
set_option maxHeartbeats 4000000 in
set_option maxRecDepth 100000 in
theorem wb_X6_when_l41 {E : XC} (O : OK mM E RX6 cX6_when 6 rm_X6_when) {a1 : Int32} {a2 : Int32} {a3 : Int32} {a4 : Int32}  {x1 : Int32} {x2 : Int32} {x3 : Int32} {x4 : Int32} {s0 : StA} {v5 : Int32} {zs : StA} {rr : Int32} (hret : ReI mM E .int cX6_when zs rr) {bs : StA} {bw : (Int32) ⊕ (Unit)} (Kc : ∀ v, bw = .inl v → WS mM E 6 41 [(0, rf E 0), (1, .int x1), (2, .int x2), (3, .int x3), (4, .int x4), (5, .int v)] [] bs) (Ke : ∀ e, bw = .inr e → WS mM E 6 93 [(0, rf E 0), (4, .int x4)] [] bs) (hf : fb_X6_when_l41 a1 a2 a3 a4 x1 x2 x3 x4 s0 v5 = some (bs, bw)) : WS mM E 6 41 [(0, rf E 0), (1, .int x1), (2, .int x2), (3, .int x3), (4, .int x4), (5, .int v5)] [] s0 := by
  unfold fb_X6_when_l41 at hf
  refine s_iload O 5 dX6_when_41 rfl ?_
  refine s_bipush (v := 30) O dX6_when_43 rfl ?_
  refine s_icmp_gt (tgt := 93) O dX6_when_45 (by decide) (fun c => ?_) (fun c => ?_)
  · replace hf := if_t c hf
    refine s_loc [0, 4] rfl ?_
    cases hf
    exact Ke _ rfl
  · replace hf := if_f c hf
    refine s_aload_n O 0 dX6_when_48 rfl rfl ?_
    obtain ⟨s16, r17, c18, hf⟩ := bn_e hf
    refine s_VV (As := []) (st := []) O lk_RX6_175 (k_X6_starts c18) rfl ms_0 rfl rfl ⟨rfl, rfl⟩ ⟨Nat.le_of_ble_eq_true rfl, Nat.le_of_ble_eq_true rfl⟩ rfl (Nat.le_of_ble_eq_true rfl) dX6_when_49 ?_
    refine s_aload_n O 0 dX6_when_52 rfl rfl ?_
    refine s_iload_n O 1 dX6_when_53 rfl rfl ?_
    refine s_putI O fp_RX6_149 ms_0 rfl dX6_when_54 ?_
    refine s_tops (fun s19 es19 => ?_)
    replace hf := nms_e es19 hf
    refine s_aload_n O 0 dX6_when_57 rfl rfl ?_
    refine s_aload_n O 0 dX6_when_58 rfl rfl ?_
    refine s_getR O fg_RX6_13 ms_0 rfl dX6_when_59 ?_
    refine s_bipush (v := 27) O dX6_when_62 rfl ?_
    obtain ⟨h20, hf⟩ := gd_e hf
    refine s_iald O ms_2 h20 dX6_when_64 ?_
    refine s_iload O 5 dX6_when_65 rfl ?_
    refine s_iadd O dX6_when_67 ?_
    refine s_putI O fp_RX6_166 ms_0 rfl dX6_when_68 ?_
    refine s_tops (fun s21 es21 => ?_)
    replace hf := nms_e es21 hf
    refine s_aload_n O 0 dX6_when_71 rfl rfl ?_
    refine s_iload_n O 3 dX6_when_72 rfl rfl ?_
    obtain ⟨s22, r23, c24, hf⟩ := bn_e hf
    refine s_VV (As := [.int x3]) (st := []) O lk_RX6_205 (k_X6_minutesGo c24) rfl ms_0 rfl rfl ⟨rfl, rfl⟩ ⟨Nat.le_of_ble_eq_true rfl, Nat.le_of_ble_eq_true rfl⟩ rfl (Nat.le_of_ble_eq_true rfl) dX6_when_73 ?_
    refine s_aload_n O 0 dX6_when_76 rfl rfl ?_
    refine s_iload O 5 dX6_when_77 rfl ?_
    refine s_aload_n O 0 dX6_when_79 rfl rfl ?_
    refine s_iload_n O 2 dX6_when_80 rfl rfl ?_
    obtain ⟨s25, r26, c27, hf⟩ := bn_e hf
    refine s_VI (As := [.int x2]) (st := [.int v5, rf E 0]) O lk_RX6_258 (k_X6_offPlace c27) rfl ms_0 rfl rfl ⟨rfl, rfl⟩ ⟨Nat.le_of_ble_eq_true rfl, Nat.le_of_ble_eq_true rfl⟩ rfl (Nat.le_of_ble_eq_true rfl) dX6_when_81 ?_
    obtain ⟨s28, r29, c30, hf⟩ := bn_e hf
    refine s_VV (As := [.int v5, .int r26]) (st := []) O lk_RX6_251 (k_X6_judges c30) rfl ms_0 rfl rfl ⟨rfl, rfl⟩ ⟨Nat.le_of_ble_eq_true rfl, Nat.le_of_ble_eq_true rfl⟩ rfl (Nat.le_of_ble_eq_true rfl) dX6_when_84 ?_
    refine s_iinc (v := (v5 + 1)) (lv' := [(5, .int (v5 + 1)), (0, rf E 0), (1, .int x1), (2, .int x2), (3, .int x3), (4, .int x4)]) O 5 dX6_when_87 rfl rfl (by decide) rfl ?_
    refine s_goto (tgt := 41) O dX6_when_90 (by decide) ?_
    refine s_loc [1, 2, 3, 4, 5, 0] rfl ?_
    cases hf
    exact Kc _ rfl
def fl_X6_when_l41 (a1 : Int32) (a2 : Int32) (a3 : Int32) (a4 : Int32) (x1 : Int32) (x2 : Int32) (x3 : Int32) (x4 : Int32) (s0 : StA) (v : Int32) : Option (StA × ((Unit))) :=
  it (fun s v => fb_X6_when_l41 a1 a2 a3 a4 x1 x2 x3 x4 s v) FU s0 v
def f_X6_when (a1 : Int32) (a2 : Int32) (a3 : Int32) (a4 : Int32) (s0 : StA) : Option (StA × Int32) :=
  bn (f_X6_isThing a1 s0) (fun s1 r2 => (if r2 = 0 then some (s1, (-1)) else bn (f_X6_isPlace a2 s1) (fun s4 r5 => (if r5 = 0 then some (s4, (-1)) else bn (f_X6_isFar a3 s4) (fun s7 r8 => (if r8 = 0 then some (s7, (-1)) else bn (f_X6_isPart a4 s7) (fun s10 r11 => (if r11 = 0 then some (s10, (-1)) else bn (f_X6_startsJudging 1000000 s10) (fun s13 r14 => bn (fl_X6_when_l41 a1 a2 a3 a4 a1 a2 a3 a4 s13 0) (fun s31 e32 => bn (f_X6_judged a4 s31) (fun s34 r35 => some (s34, r35))))))))))))
set_option maxHeartbeats 4000000 in
set_option maxRecDepth 100000 in
theorem k_X6_when {a1 : Int32} {a2 : Int32} {a3 : Int32} {a4 : Int32} {s0 zs : StA} {rr : Int32} (hf : f_X6_when a1 a2 a3 a4 s0 = some (zs, rr)) : CtI mM yX6_when cX6_when 6 .int rm_X6_when (fun ph => [.ref (ph 0), .int a1, .int a2, .int a3, .int a4]) s0 zs rr := by
  refine CtI.of (by decide +kernel) (fun ph => Nat.le_of_ble_eq_true rfl) (fun E O hret => ?_)
  have O : OK mM E RX6 cX6_when 6 rm_X6_when := O
  show WS mM E 6 0 [(0, rf E 0), (1, .int a1), (2, .int a2), (3, .int a3), (4, .int a4)] [] s0
  unfold f_X6_when at hf
  refine s_aload_n O 0 dX6_when_0 rfl rfl ?_
  refine s_iload_n O 1 dX6_when_1 rfl rfl ?_
  obtain ⟨s1, r2, c3, hf⟩ := bn_e hf
  refine s_VI (As := [.int a1]) (st := []) O lk_RX6_181 (k_X6_isThing c3) rfl ms_0 rfl rfl ⟨rfl, rfl⟩ ⟨Nat.le_of_ble_eq_true rfl, Nat.le_of_ble_eq_true rfl⟩ rfl (Nat.le_of_ble_eq_true rfl) dX6_when_2 ?_
  refine s_if_eq (tgt := 30) O dX6_when_5 (by decide) (fun c => ?_) (fun c => ?_)
  · replace hf := if_t c hf
    refine s_iconst (v := (-1)) O dX6_when_30 rfl ?_
    exact s_iret hret rfl dX6_when_31 hf
  · replace hf := if_f c hf
    refine s_iload_n O 2 dX6_when_8 rfl rfl ?_
    obtain ⟨s4, r5, c6, hf⟩ := bn_e hf
    refine s_SI (As := [.int a2]) (st := []) O lk_RX6_232 (k_X6_isPlace c6) rfl rfl ⟨rfl, rfl⟩ ⟨Nat.le_of_ble_eq_true rfl, Nat.le_of_ble_eq_true rfl⟩ rfl (Nat.le_of_ble_eq_true rfl) dX6_when_9 ?_
    refine s_if_eq (tgt := 30) O dX6_when_12 (by decide) (fun c => ?_) (fun c => ?_)
    · replace hf := if_t c hf
      refine s_iconst (v := (-1)) O dX6_when_30 rfl ?_
      exact s_iret hret rfl dX6_when_31 hf
    · replace hf := if_f c hf
      refine s_iload_n O 3 dX6_when_15 rfl rfl ?_
      obtain ⟨s7, r8, c9, hf⟩ := bn_e hf
      refine s_SI (As := [.int a3]) (st := []) O lk_RX6_223 (k_X6_isFar c9) rfl rfl ⟨rfl, rfl⟩ ⟨Nat.le_of_ble_eq_true rfl, Nat.le_of_ble_eq_true rfl⟩ rfl (Nat.le_of_ble_eq_true rfl) dX6_when_16 ?_
      refine s_if_eq (tgt := 30) O dX6_when_19 (by decide) (fun c => ?_) (fun c => ?_)
      · replace hf := if_t c hf
        refine s_iconst (v := (-1)) O dX6_when_30 rfl ?_
        exact s_iret hret rfl dX6_when_31 hf
      · replace hf := if_f c hf
        refine s_iload O 4 dX6_when_22 rfl ?_
        obtain ⟨s10, r11, c12, hf⟩ := bn_e hf
        refine s_SI (As := [.int a4]) (st := []) O lk_RX6_188 (k_X6_isPart c12) rfl rfl ⟨rfl, rfl⟩ ⟨Nat.le_of_ble_eq_true rfl, Nat.le_of_ble_eq_true rfl⟩ rfl (Nat.le_of_ble_eq_true rfl) dX6_when_24 ?_
        refine s_if_ne (tgt := 32) O dX6_when_27 (by decide) (fun c => ?_) (fun c => ?_)
        · replace hf := if_f c hf
          refine s_aload_n O 0 dX6_when_32 rfl rfl ?_
          refine s_ldc O ci_RX6_244 dX6_when_33 ?_
          obtain ⟨s13, r14, c15, hf⟩ := bn_e hf
          refine s_VV (As := [.int 1000000]) (st := []) O lk_RX6_245 (k_X6_startsJudging c15) rfl ms_0 rfl rfl ⟨rfl, rfl⟩ ⟨Nat.le_of_ble_eq_true rfl, Nat.le_of_ble_eq_true rfl⟩ rfl (Nat.le_of_ble_eq_true rfl) dX6_when_35 ?_
          refine s_iconst (v := 0) O dX6_when_38 rfl ?_
          refine s_istore (lv' := [(5, .int 0), (0, rf E 0), (1, .int a1), (2, .int a2), (3, .int a3), (4, .int a4)]) O dX6_when_39 (by decide) rfl ?_
          refine s_loc [1, 2, 3, 4, 5, 0] rfl ?_
          obtain ⟨s31, e32, c33, hf⟩ := bn_e hf
          refine lp_of (body := fun s v => fb_X6_when_l41 a1 a2 a3 a4 a1 a2 a3 a4 s v) (X := fun s v => WS mM E 6 41 [(0, rf E 0), (1, .int a1), (2, .int a2), (3, .int a3), (4, .int a4), (5, .int v)] [] s) (Y := fun s e => WS mM E 6 93 [(0, rf E 0), (4, .int a4)] [] s) (fun s v s' w hb Kc Ke => wb_X6_when_l41 (rr := rr) O   hret Kc Ke hb) FU _ _ (s31, e32) c33 ?_
          show WS mM E 6 93 [(0, rf E 0), (4, .int a4)] [] s31
          refine s_aload_n O 0 dX6_when_93 rfl rfl ?_
          refine s_iload O 1 dX6_when_94 rfl ?_
          obtain ⟨s34, r35, c36, hf⟩ := bn_e hf
          refine s_VI (As := [.int a4]) (st := []) O lk_RX6_255 (k_X6_judged c36) rfl ms_0 rfl rfl ⟨rfl, rfl⟩ ⟨Nat.le_of_ble_eq_true rfl, Nat.le_of_ble_eq_true rfl⟩ rfl (Nat.le_of_ble_eq_true rfl) dX6_when_96 ?_
          exact s_iret hret rfl dX6_when_99 hf
        · replace hf := if_t c hf
          refine s_iconst (v := (-1)) O dX6_when_30 rfl ?_
          exact s_iret hret rfl dX6_when_31 hf
def rm_X6_steer : Room := { frames := 5, cells := 0, slots := 0, locals := 111 }
def fb_X6_steer_l40 (a1 : Int32) (a2 : Int32) (a3 : Int32) (a4 : Int32) (x1 : Int32) (x2 : Int32) (x3 : Int32) (x4 : Int32) (s0 : StA) (v5 : Int32) : Option (StA × ((Int32) ⊕ (Unit))) :=
  (if 8 < v5 then some (s0, .inr ()) else bn (f_X6_starts  s0) (fun s16 r17 => gd (28 + x1) 63 (nms (si s16 2 ((28 + x1).toNatClampNeg) v5) (fun s20 => bn (f_X6_minutesGo x3 s20) (fun s21 r22 => bn (f_X6_offPlace x2 s21) (fun s24 r25 => bn (f_X6_judges v5 r25 s24) (fun s27 r28 => some (s27, .inl (v5 + 1)))))))))
set_option maxHeartbeats 4000000 in
set_option maxRecDepth 100000 in
theorem wb_X6_steer_l40 {E : XC} (O : OK mM E RX6 cX6_steer 6 rm_X6_steer) {a1 : Int32} {a2 : Int32} {a3 : Int32} {a4 : Int32}  {x1 : Int32} {x2 : Int32} {x3 : Int32} {x4 : Int32} {s0 : StA} {v5 : Int32} {zs : StA} {rr : Int32} (hret : ReI mM E .int cX6_steer zs rr) {bs : StA} {bw : (Int32) ⊕ (Unit)} (Kc : ∀ v, bw = .inl v → WS mM E 6 40 [(0, rf E 0), (1, .int x1), (2, .int x2), (3, .int x3), (4, .int x4), (5, .int v)] [] bs) (Ke : ∀ e, bw = .inr e → WS mM E 6 84 [(0, rf E 0), (4, .int x4)] [] bs) (hf : fb_X6_steer_l40 a1 a2 a3 a4 x1 x2 x3 x4 s0 v5 = some (bs, bw)) : WS mM E 6 40 [(0, rf E 0), (1, .int x1), (2, .int x2), (3, .int x3), (4, .int x4), (5, .int v5)] [] s0 := by
  unfold fb_X6_steer_l40 at hf
  refine s_iload O 5 dX6_steer_40 rfl ?_
  refine s_bipush (v := 8) O dX6_steer_42 rfl ?_
  refine s_icmp_gt (tgt := 84) O dX6_steer_44 (by decide) (fun c => ?_) (fun c => ?_)
  · replace hf := if_t c hf
    refine s_loc [0, 4] rfl ?_
    cases hf
    exact Ke _ rfl
  · replace hf := if_f c hf
    refine s_aload_n O 0 dX6_steer_47 rfl rfl ?_
    obtain ⟨s16, r17, c18, hf⟩ := bn_e hf
    refine s_VV (As := []) (st := []) O lk_RX6_175 (k_X6_starts c18) rfl ms_0 rfl rfl ⟨rfl, rfl⟩ ⟨Nat.le_of_ble_eq_true rfl, Nat.le_of_ble_eq_true rfl⟩ rfl (Nat.le_of_ble_eq_true rfl) dX6_steer_48 ?_
    refine s_aload_n O 0 dX6_steer_51 rfl rfl ?_
    refine s_getR O fg_RX6_13 ms_0 rfl dX6_steer_52 ?_
    refine s_bipush (v := 28) O dX6_steer_55 rfl ?_
    refine s_iload_n O 1 dX6_steer_57 rfl rfl ?_
    refine s_iadd O dX6_steer_58 ?_
    refine s_iload O 5 dX6_steer_59 rfl ?_
    obtain ⟨h19, hf⟩ := gd_e hf
    refine s_iast O ms_2 h19 dX6_steer_61 ?_
    refine s_tops (fun s20 es20 => ?_)
    replace hf := nms_e es20 hf
    refine s_aload_n O 0 dX6_steer_62 rfl rfl ?_
    refine s_iload_n O 3 dX6_steer_63 rfl rfl ?_
    obtain ⟨s21, r22, c23, hf⟩ := bn_e hf
    refine s_VV (As := [.int x3]) (st := []) O lk_RX6_205 (k_X6_minutesGo c23) rfl ms_0 rfl rfl ⟨rfl, rfl⟩ ⟨Nat.le_of_ble_eq_true rfl, Nat.le_of_ble_eq_true rfl⟩ rfl (Nat.le_of_ble_eq_true rfl) dX6_steer_64 ?_
    refine s_aload_n O 0 dX6_steer_67 rfl rfl ?_
    refine s_iload O 5 dX6_steer_68 rfl ?_
    refine s_aload_n O 0 dX6_steer_70 rfl rfl ?_
    refine s_iload_n O 2 dX6_steer_71 rfl rfl ?_
    obtain ⟨s24, r25, c26, hf⟩ := bn_e hf
    refine s_VI (As := [.int x2]) (st := [.int v5, rf E 0]) O lk_RX6_258 (k_X6_offPlace c26) rfl ms_0 rfl rfl ⟨rfl, rfl⟩ ⟨Nat.le_of_ble_eq_true rfl, Nat.le_of_ble_eq_true rfl⟩ rfl (Nat.le_of_ble_eq_true rfl) dX6_steer_72 ?_
    obtain ⟨s27, r28, c29, hf⟩ := bn_e hf
    refine s_VV (As := [.int v5, .int r25]) (st := []) O lk_RX6_251 (k_X6_judges c29) rfl ms_0 rfl rfl ⟨rfl, rfl⟩ ⟨Nat.le_of_ble_eq_true rfl, Nat.le_of_ble_eq_true rfl⟩ rfl (Nat.le_of_ble_eq_true rfl) dX6_steer_75 ?_
    refine s_iinc (v := (v5 + 1)) (lv' := [(5, .int (v5 + 1)), (0, rf E 0), (1, .int x1), (2, .int x2), (3, .int x3), (4, .int x4)]) O 5 dX6_steer_78 rfl rfl (by decide) rfl ?_
    refine s_goto (tgt := 40) O dX6_steer_81 (by decide) ?_
    refine s_loc [1, 2, 3, 4, 5, 0] rfl ?_
    cases hf
    exact Kc _ rfl
def fl_X6_steer_l40 (a1 : Int32) (a2 : Int32) (a3 : Int32) (a4 : Int32) (x1 : Int32) (x2 : Int32) (x3 : Int32) (x4 : Int32) (s0 : StA) (v : Int32) : Option (StA × ((Unit))) :=
  it (fun s v => fb_X6_steer_l40 a1 a2 a3 a4 x1 x2 x3 x4 s v) FU s0 v
def f_X6_steer (a1 : Int32) (a2 : Int32) (a3 : Int32) (a4 : Int32) (s0 : StA) : Option (StA × Int32) :=
  bn (f_X6_isWind a1 s0) (fun s1 r2 => (if r2 = 0 then some (s1, (-1)) else bn (f_X6_isPlace a2 s1) (fun s4 r5 => (if r5 = 0 then some (s4, (-1)) else bn (f_X6_isFar a3 s4) (fun s7 r8 => (if r8 = 0 then some (s7, (-1)) else bn (f_X6_isPart a4 s7) (fun s10 r11 => (if r11 = 0 then some (s10, (-1)) else bn (f_X6_startsJudging 1000000 s10) (fun s13 r14 => bn (fl_X6_steer_l40 a1 a2 a3 a4 a1 a2 a3 a4 s13 0) (fun s30 e31 => bn (f_X6_judged a4 s30) (fun s33 r34 => some (s33, r34))))))))))))
set_option maxHeartbeats 4000000 in
set_option maxRecDepth 100000 in
theorem k_X6_steer {a1 : Int32} {a2 : Int32} {a3 : Int32} {a4 : Int32} {s0 zs : StA} {rr : Int32} (hf : f_X6_steer a1 a2 a3 a4 s0 = some (zs, rr)) : CtI mM yX6_steer cX6_steer 6 .int rm_X6_steer (fun ph => [.ref (ph 0), .int a1, .int a2, .int a3, .int a4]) s0 zs rr := by
  refine CtI.of (by decide +kernel) (fun ph => Nat.le_of_ble_eq_true rfl) (fun E O hret => ?_)
  have O : OK mM E RX6 cX6_steer 6 rm_X6_steer := O
  show WS mM E 6 0 [(0, rf E 0), (1, .int a1), (2, .int a2), (3, .int a3), (4, .int a4)] [] s0
  unfold f_X6_steer at hf
  refine s_iload_n O 1 dX6_steer_0 rfl rfl ?_
  obtain ⟨s1, r2, c3, hf⟩ := bn_e hf
  refine s_SI (As := [.int a1]) (st := []) O lk_RX6_185 (k_X6_isWind c3) rfl rfl ⟨rfl, rfl⟩ ⟨Nat.le_of_ble_eq_true rfl, Nat.le_of_ble_eq_true rfl⟩ rfl (Nat.le_of_ble_eq_true rfl) dX6_steer_1 ?_
  refine s_if_eq (tgt := 29) O dX6_steer_4 (by decide) (fun c => ?_) (fun c => ?_)
  · replace hf := if_t c hf
    refine s_iconst (v := (-1)) O dX6_steer_29 rfl ?_
    exact s_iret hret rfl dX6_steer_30 hf
  · replace hf := if_f c hf
    refine s_iload_n O 2 dX6_steer_7 rfl rfl ?_
    obtain ⟨s4, r5, c6, hf⟩ := bn_e hf
    refine s_SI (As := [.int a2]) (st := []) O lk_RX6_232 (k_X6_isPlace c6) rfl rfl ⟨rfl, rfl⟩ ⟨Nat.le_of_ble_eq_true rfl, Nat.le_of_ble_eq_true rfl⟩ rfl (Nat.le_of_ble_eq_true rfl) dX6_steer_8 ?_
    refine s_if_eq (tgt := 29) O dX6_steer_11 (by decide) (fun c => ?_) (fun c => ?_)
    · replace hf := if_t c hf
      refine s_iconst (v := (-1)) O dX6_steer_29 rfl ?_
      exact s_iret hret rfl dX6_steer_30 hf
    · replace hf := if_f c hf
      refine s_iload_n O 3 dX6_steer_14 rfl rfl ?_
      obtain ⟨s7, r8, c9, hf⟩ := bn_e hf
      refine s_SI (As := [.int a3]) (st := []) O lk_RX6_223 (k_X6_isFar c9) rfl rfl ⟨rfl, rfl⟩ ⟨Nat.le_of_ble_eq_true rfl, Nat.le_of_ble_eq_true rfl⟩ rfl (Nat.le_of_ble_eq_true rfl) dX6_steer_15 ?_
      refine s_if_eq (tgt := 29) O dX6_steer_18 (by decide) (fun c => ?_) (fun c => ?_)
      · replace hf := if_t c hf
        refine s_iconst (v := (-1)) O dX6_steer_29 rfl ?_
        exact s_iret hret rfl dX6_steer_30 hf
      · replace hf := if_f c hf
        refine s_iload O 4 dX6_steer_21 rfl ?_
        obtain ⟨s10, r11, c12, hf⟩ := bn_e hf
        refine s_SI (As := [.int a4]) (st := []) O lk_RX6_188 (k_X6_isPart c12) rfl rfl ⟨rfl, rfl⟩ ⟨Nat.le_of_ble_eq_true rfl, Nat.le_of_ble_eq_true rfl⟩ rfl (Nat.le_of_ble_eq_true rfl) dX6_steer_23 ?_
        refine s_if_ne (tgt := 31) O dX6_steer_26 (by decide) (fun c => ?_) (fun c => ?_)
        · replace hf := if_f c hf
          refine s_aload_n O 0 dX6_steer_31 rfl rfl ?_
          refine s_ldc O ci_RX6_244 dX6_steer_32 ?_
          obtain ⟨s13, r14, c15, hf⟩ := bn_e hf
          refine s_VV (As := [.int 1000000]) (st := []) O lk_RX6_245 (k_X6_startsJudging c15) rfl ms_0 rfl rfl ⟨rfl, rfl⟩ ⟨Nat.le_of_ble_eq_true rfl, Nat.le_of_ble_eq_true rfl⟩ rfl (Nat.le_of_ble_eq_true rfl) dX6_steer_34 ?_
          refine s_iconst (v := 0) O dX6_steer_37 rfl ?_
          refine s_istore (lv' := [(5, .int 0), (0, rf E 0), (1, .int a1), (2, .int a2), (3, .int a3), (4, .int a4)]) O dX6_steer_38 (by decide) rfl ?_
          refine s_loc [1, 2, 3, 4, 5, 0] rfl ?_
          obtain ⟨s30, e31, c32, hf⟩ := bn_e hf
          refine lp_of (body := fun s v => fb_X6_steer_l40 a1 a2 a3 a4 a1 a2 a3 a4 s v) (X := fun s v => WS mM E 6 40 [(0, rf E 0), (1, .int a1), (2, .int a2), (3, .int a3), (4, .int a4), (5, .int v)] [] s) (Y := fun s e => WS mM E 6 84 [(0, rf E 0), (4, .int a4)] [] s) (fun s v s' w hb Kc Ke => wb_X6_steer_l40 (rr := rr) O   hret Kc Ke hb) FU _ _ (s30, e31) c32 ?_
          show WS mM E 6 84 [(0, rf E 0), (4, .int a4)] [] s30
          refine s_aload_n O 0 dX6_steer_84 rfl rfl ?_
          refine s_iload O 1 dX6_steer_85 rfl ?_
          obtain ⟨s33, r34, c35, hf⟩ := bn_e hf
          refine s_VI (As := [.int a4]) (st := []) O lk_RX6_255 (k_X6_judged c35) rfl ms_0 rfl rfl ⟨rfl, rfl⟩ ⟨Nat.le_of_ble_eq_true rfl, Nat.le_of_ble_eq_true rfl⟩ rfl (Nat.le_of_ble_eq_true rfl) dX6_steer_87 ?_
          exact s_iret hret rfl dX6_steer_90 hf
        · replace hf := if_t c hf
          refine s_iconst (v := (-1)) O dX6_steer_29 rfl ?_
          exact s_iret hret rfl dX6_steer_30 hf
def rm_X6_hush : Room := { frames := 5, cells := 0, slots := 0, locals := 111 }
def fb_X6_hush_l35 (a1 : Int32) (a2 : Int32) (x1 : Int32) (x2 : Int32) (s0 : StA) (v3 : Int32) : Option (StA × ((Int32) ⊕ (Unit))) :=
  gd 33 189 ((if (gi s0 1 (33 : Int32).toNatClampNeg) ≤ v3 then some (s0, .inr ()) else bn (f_X6_starts  s0) (fun s17 r18 => nms (si s17 0 17 (1 <<< (v3 &&& 31))) (fun s20 => bn (f_X6_minutesCount x1 s20) (fun s21 r22 => bn (f_X6_judges v3 (gi s21 0 20) s21) (fun s24 r25 => some (s24, .inl (v3 + 1))))))))
set_option maxHeartbeats 4000000 in
set_option maxRecDepth 100000 in
theorem wb_X6_hush_l35 {E : XC} (O : OK mM E RX6 cX6_hush 4 rm_X6_hush) {a1 : Int32} {a2 : Int32}  {x1 : Int32} {x2 : Int32} {s0 : StA} {v3 : Int32} {zs : StA} {rr : Int32} (hret : ReI mM E .int cX6_hush zs rr) {bs : StA} {bw : (Int32) ⊕ (Unit)} (Kc : ∀ v, bw = .inl v → WS mM E 4 35 [(0, rf E 0), (1, .int x1), (2, .int x2), (3, .int v)] [] bs) (Ke : ∀ e, bw = .inr e → WS mM E 4 77 [(0, rf E 0), (2, .int x2)] [] bs) (hf : fb_X6_hush_l35 a1 a2 x1 x2 s0 v3 = some (bs, bw)) : WS mM E 4 35 [(0, rf E 0), (1, .int x1), (2, .int x2), (3, .int v3)] [] s0 := by
  unfold fb_X6_hush_l35 at hf
  refine s_iload_n O 3 dX6_hush_35 rfl rfl ?_
  refine s_aload_n O 0 dX6_hush_36 rfl rfl ?_
  refine s_getR O fg_RX6_7 ms_0 rfl dX6_hush_37 ?_
  refine s_bipush (v := 33) O dX6_hush_40 rfl ?_
  obtain ⟨h16, hf⟩ := gd_e hf
  refine s_iald O ms_1 h16 dX6_hush_42 ?_
  refine s_icmp_ge (tgt := 77) O dX6_hush_43 (by decide) (fun c => ?_) (fun c => ?_)
  · replace hf := if_t c hf
    refine s_loc [0, 2] rfl ?_
    cases hf
    exact Ke _ rfl
  · replace hf := if_f c hf
    refine s_aload_n O 0 dX6_hush_46 rfl rfl ?_
    obtain ⟨s17, r18, c19, hf⟩ := bn_e hf
    refine s_VV (As := []) (st := []) O lk_RX6_175 (k_X6_starts c19) rfl ms_0 rfl rfl ⟨rfl, rfl⟩ ⟨Nat.le_of_ble_eq_true rfl, Nat.le_of_ble_eq_true rfl⟩ rfl (Nat.le_of_ble_eq_true rfl) dX6_hush_47 ?_
    refine s_aload_n O 0 dX6_hush_50 rfl rfl ?_
    refine s_iconst (v := 1) O dX6_hush_51 rfl ?_
    refine s_iload_n O 3 dX6_hush_52 rfl rfl ?_
    refine s_ishl O dX6_hush_53 ?_
    refine s_putI O fp_RX6_146 ms_0 rfl dX6_hush_54 ?_
    refine s_tops (fun s20 es20 => ?_)
    replace hf := nms_e es20 hf
    refine s_aload_n O 0 dX6_hush_57 rfl rfl ?_
    refine s_iload_n O 1 dX6_hush_58 rfl rfl ?_
    obtain ⟨s21, r22, c23, hf⟩ := bn_e hf
    refine s_VV (As := [.int x1]) (st := []) O lk_RX6_226 (k_X6_minutesCount c23) rfl ms_0 rfl rfl ⟨rfl, rfl⟩ ⟨Nat.le_of_ble_eq_true rfl, Nat.le_of_ble_eq_true rfl⟩ rfl (Nat.le_of_ble_eq_true rfl) dX6_hush_59 ?_
    refine s_aload_n O 0 dX6_hush_62 rfl rfl ?_
    refine s_iload_n O 3 dX6_hush_63 rfl rfl ?_
    refine s_aload_n O 0 dX6_hush_64 rfl rfl ?_
    refine s_getI O fg_RX6_213 ms_0 rfl dX6_hush_65 ?_
    obtain ⟨s24, r25, c26, hf⟩ := bn_e hf
    refine s_VV (As := [.int v3, .int (gi s21 0 20)]) (st := []) O lk_RX6_251 (k_X6_judges c26) rfl ms_0 rfl rfl ⟨rfl, rfl⟩ ⟨Nat.le_of_ble_eq_true rfl, Nat.le_of_ble_eq_true rfl⟩ rfl (Nat.le_of_ble_eq_true rfl) dX6_hush_68 ?_
    refine s_iinc (v := (v3 + 1)) (lv' := [(3, .int (v3 + 1)), (0, rf E 0), (1, .int x1), (2, .int x2)]) O 3 dX6_hush_71 rfl rfl (by decide) rfl ?_
    refine s_goto (tgt := 35) O dX6_hush_74 (by decide) ?_
    refine s_loc [1, 2, 3, 0] rfl ?_
    cases hf
    exact Kc _ rfl
def fl_X6_hush_l35 (a1 : Int32) (a2 : Int32) (x1 : Int32) (x2 : Int32) (s0 : StA) (v : Int32) : Option (StA × ((Unit))) :=
  it (fun s v => fb_X6_hush_l35 a1 a2 x1 x2 s v) FU s0 v
def f_X6_hush (a1 : Int32) (a2 : Int32) (s0 : StA) : Option (StA × Int32) :=
  bn (f_X6_isFar a1 s0) (fun s1 r2 => (if r2 = 0 then some (s1, (-1)) else bn (f_X6_isPart a2 s1) (fun s4 r5 => (if r5 = 0 then some (s4, (-1)) else bn (f_X6_starts  s4) (fun s7 r8 => bn (f_X6_minutesCount a1 s7) (fun s10 r11 => bn (f_X6_startsJudging (gi s10 0 20) s10) (fun s13 r14 => bn (fl_X6_hush_l35 a1 a2 a1 a2 s13 0) (fun s27 e28 => bn (f_X6_judged a2 s27) (fun s30 r31 => some (s30, r31))))))))))
set_option maxHeartbeats 4000000 in
set_option maxRecDepth 100000 in
theorem k_X6_hush {a1 : Int32} {a2 : Int32} {s0 zs : StA} {rr : Int32} (hf : f_X6_hush a1 a2 s0 = some (zs, rr)) : CtI mM yX6_hush cX6_hush 4 .int rm_X6_hush (fun ph => [.ref (ph 0), .int a1, .int a2]) s0 zs rr := by
  refine CtI.of (by decide +kernel) (fun ph => Nat.le_of_ble_eq_true rfl) (fun E O hret => ?_)
  have O : OK mM E RX6 cX6_hush 4 rm_X6_hush := O
  show WS mM E 4 0 [(0, rf E 0), (1, .int a1), (2, .int a2)] [] s0
  unfold f_X6_hush at hf
  refine s_iload_n O 1 dX6_hush_0 rfl rfl ?_
  obtain ⟨s1, r2, c3, hf⟩ := bn_e hf
  refine s_SI (As := [.int a1]) (st := []) O lk_RX6_223 (k_X6_isFar c3) rfl rfl ⟨rfl, rfl⟩ ⟨Nat.le_of_ble_eq_true rfl, Nat.le_of_ble_eq_true rfl⟩ rfl (Nat.le_of_ble_eq_true rfl) dX6_hush_1 ?_
  refine s_if_eq (tgt := 14) O dX6_hush_4 (by decide) (fun c => ?_) (fun c => ?_)
  · replace hf := if_t c hf
    refine s_iconst (v := (-1)) O dX6_hush_14 rfl ?_
    exact s_iret hret rfl dX6_hush_15 hf
  · replace hf := if_f c hf
    refine s_iload_n O 2 dX6_hush_7 rfl rfl ?_
    obtain ⟨s4, r5, c6, hf⟩ := bn_e hf
    refine s_SI (As := [.int a2]) (st := []) O lk_RX6_188 (k_X6_isPart c6) rfl rfl ⟨rfl, rfl⟩ ⟨Nat.le_of_ble_eq_true rfl, Nat.le_of_ble_eq_true rfl⟩ rfl (Nat.le_of_ble_eq_true rfl) dX6_hush_8 ?_
    refine s_if_ne (tgt := 16) O dX6_hush_11 (by decide) (fun c => ?_) (fun c => ?_)
    · replace hf := if_f c hf
      refine s_aload_n O 0 dX6_hush_16 rfl rfl ?_
      obtain ⟨s7, r8, c9, hf⟩ := bn_e hf
      refine s_VV (As := []) (st := []) O lk_RX6_175 (k_X6_starts c9) rfl ms_0 rfl rfl ⟨rfl, rfl⟩ ⟨Nat.le_of_ble_eq_true rfl, Nat.le_of_ble_eq_true rfl⟩ rfl (Nat.le_of_ble_eq_true rfl) dX6_hush_17 ?_
      refine s_aload_n O 0 dX6_hush_20 rfl rfl ?_
      refine s_iload_n O 1 dX6_hush_21 rfl rfl ?_
      obtain ⟨s10, r11, c12, hf⟩ := bn_e hf
      refine s_VV (As := [.int a1]) (st := []) O lk_RX6_226 (k_X6_minutesCount c12) rfl ms_0 rfl rfl ⟨rfl, rfl⟩ ⟨Nat.le_of_ble_eq_true rfl, Nat.le_of_ble_eq_true rfl⟩ rfl (Nat.le_of_ble_eq_true rfl) dX6_hush_22 ?_
      refine s_aload_n O 0 dX6_hush_25 rfl rfl ?_
      refine s_aload_n O 0 dX6_hush_26 rfl rfl ?_
      refine s_getI O fg_RX6_213 ms_0 rfl dX6_hush_27 ?_
      obtain ⟨s13, r14, c15, hf⟩ := bn_e hf
      refine s_VV (As := [.int (gi s10 0 20)]) (st := []) O lk_RX6_245 (k_X6_startsJudging c15) rfl ms_0 rfl rfl ⟨rfl, rfl⟩ ⟨Nat.le_of_ble_eq_true rfl, Nat.le_of_ble_eq_true rfl⟩ rfl (Nat.le_of_ble_eq_true rfl) dX6_hush_30 ?_
      refine s_iconst (v := 0) O dX6_hush_33 rfl ?_
      refine s_istore_n (lv' := [(3, .int 0), (0, rf E 0), (1, .int a1), (2, .int a2)]) O dX6_hush_34 rfl (by decide) rfl ?_
      refine s_loc [1, 2, 3, 0] rfl ?_
      obtain ⟨s27, e28, c29, hf⟩ := bn_e hf
      refine lp_of (body := fun s v => fb_X6_hush_l35 a1 a2 a1 a2 s v) (X := fun s v => WS mM E 4 35 [(0, rf E 0), (1, .int a1), (2, .int a2), (3, .int v)] [] s) (Y := fun s e => WS mM E 4 77 [(0, rf E 0), (2, .int a2)] [] s) (fun s v s' w hb Kc Ke => wb_X6_hush_l35 (rr := rr) O   hret Kc Ke hb) FU _ _ (s27, e28) c29 ?_
      show WS mM E 4 77 [(0, rf E 0), (2, .int a2)] [] s27
      refine s_aload_n O 0 dX6_hush_77 rfl rfl ?_
      refine s_iload_n O 1 dX6_hush_78 rfl rfl ?_
      obtain ⟨s30, r31, c32, hf⟩ := bn_e hf
      refine s_VI (As := [.int a2]) (st := []) O lk_RX6_255 (k_X6_judged c32) rfl ms_0 rfl rfl ⟨rfl, rfl⟩ ⟨Nat.le_of_ble_eq_true rfl, Nat.le_of_ble_eq_true rfl⟩ rfl (Nat.le_of_ble_eq_true rfl) dX6_hush_79 ?_
      exact s_iret hret rfl dX6_hush_82 hf
    · replace hf := if_t c hf
      refine s_iconst (v := (-1)) O dX6_hush_14 rfl ?_
      exact s_iret hret rfl dX6_hush_15 hf
