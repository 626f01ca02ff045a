def rm_X3_readLine : Room := { frames := 6, cells := 0, slots := 0, locals := 128 }
def fj_X3_readLine_j17 (a1 : Nat)  (y0 : Int32) (s0 : StA) : Option (StA × (Int32)) :=
  (if y0 = 0 then bn (f_X3_readThing a1 y0 s0) (fun s1 r2 => gz r2 (some (s1, r2))) else if y0 = 1 then bn (f_X3_readThing a1 y0 s0) (fun s4 r5 => gz r5 (some (s4, r5))) else if y0 = 2 then bn (f_X3_readThing a1 y0 s0) (fun s7 r8 => gz r8 (some (s7, r8))) else if y0 = 3 then bn (f_X3_readThing a1 y0 s0) (fun s10 r11 => gz r11 (some (s10, r11))) else if y0 = 4 then bn (f_X3_readWind a1 s0) (fun s13 r14 => gz r14 (some (s13, r14))) else if y0 = 5 then bn (f_X3_readRate a1 s0) (fun s16 r17 => gz r17 (some (s16, r17))) else if y0 = 6 then bn (f_X3_readStart a1 s0) (fun s19 r20 => gz r20 (some (s19, r20))) else bn (f_X3_failAt (gi s0 47 7) 2 s0) (fun s22 r23 => gz r23 (some (s22, r23))))
set_option maxHeartbeats 4000000 in
set_option maxRecDepth 100000 in
theorem wj_X3_readLine_j17 {E : XC} (O : OK cM E RX3 cX3_readLine 3 rm_X3_readLine) {a1 : Nat} (ha1 : isFl a1)   {y0 : Int32} {s0 : StA} {zs : StA} {rr : Int32} (hret : ReI cM E .boolean cX3_readLine zs rr) (hf : fj_X3_readLine_j17 a1 y0 s0 = some (zs, rr)) : WS cM E 3 17 [(0, rf E 47), (1, rf E a1)] [.int y0] s0 := by
  unfold fj_X3_readLine_j17 at hf
  refine s_istore_n (lv' := [(2, .int y0), (0, rf E 47), (1, rf E a1)]) O dX3_readLine_17 rfl (by decide) rfl ?_
  refine s_iload_n O 0 dX3_readLine_18 rfl rfl ?_
  by_cases q0 : y0 = 0
  · replace hf := if_t q0 hf
    refine s_tabE (v := 0) (tgt := 60) O dX3_readLine_19 q0 (by decide) (by decide) rfl (by decide) ?_
    refine s_aload_n O 1 dX3_readLine_60 rfl rfl ?_
    refine s_aload_n O 2 dX3_readLine_61 rfl rfl ?_
    refine s_iload_n O 0 dX3_readLine_62 rfl rfl ?_
    obtain ⟨s1, r2, c3, hf⟩ := bn_e hf
    refine s_VI (As := [rf E a1, .int y0]) (st := []) O lk_RX3_89 (k_X3_readThing ha1 c3) rfl cs_47 rfl rfl ⟨rfl, rfl⟩ ⟨Nat.le_of_ble_eq_true rfl, Nat.le_of_ble_eq_true rfl⟩ rfl (Nat.le_of_ble_eq_true rfl) dX3_readLine_63 ?_
    obtain ⟨hz, hf⟩ := gz_e hf
    exact s_iret hret hz.nar dX3_readLine_66 hf
  · replace hf := if_f q0 hf
    by_cases q1 : y0 = 1
    · replace hf := if_t q1 hf
      refine s_tabE (v := 1) (tgt := 60) O dX3_readLine_19 q1 (by decide) (by decide) rfl (by decide) ?_
      refine s_aload_n O 1 dX3_readLine_60 rfl rfl ?_
      refine s_aload_n O 2 dX3_readLine_61 rfl rfl ?_
      refine s_iload_n O 0 dX3_readLine_62 rfl rfl ?_
      obtain ⟨s4, r5, c6, hf⟩ := bn_e hf
      refine s_VI (As := [rf E a1, .int y0]) (st := []) O lk_RX3_89 (k_X3_readThing ha1 c6) rfl cs_47 rfl rfl ⟨rfl, rfl⟩ ⟨Nat.le_of_ble_eq_true rfl, Nat.le_of_ble_eq_true rfl⟩ rfl (Nat.le_of_ble_eq_true rfl) dX3_readLine_63 ?_
      obtain ⟨hz, hf⟩ := gz_e hf
      exact s_iret hret hz.nar dX3_readLine_66 hf
    · replace hf := if_f q1 hf
      by_cases q2 : y0 = 2
      · replace hf := if_t q2 hf
        refine s_tabE (v := 2) (tgt := 60) O dX3_readLine_19 q2 (by decide) (by decide) rfl (by decide) ?_
        refine s_aload_n O 1 dX3_readLine_60 rfl rfl ?_
        refine s_aload_n O 2 dX3_readLine_61 rfl rfl ?_
        refine s_iload_n O 0 dX3_readLine_62 rfl rfl ?_
        obtain ⟨s7, r8, c9, hf⟩ := bn_e hf
        refine s_VI (As := [rf E a1, .int y0]) (st := []) O lk_RX3_89 (k_X3_readThing ha1 c9) rfl cs_47 rfl rfl ⟨rfl, rfl⟩ ⟨Nat.le_of_ble_eq_true rfl, Nat.le_of_ble_eq_true rfl⟩ rfl (Nat.le_of_ble_eq_true rfl) dX3_readLine_63 ?_
        obtain ⟨hz, hf⟩ := gz_e hf
        exact s_iret hret hz.nar dX3_readLine_66 hf
      · replace hf := if_f q2 hf
        by_cases q3 : y0 = 3
        · replace hf := if_t q3 hf
          refine s_tabE (v := 3) (tgt := 60) O dX3_readLine_19 q3 (by decide) (by decide) rfl (by decide) ?_
          refine s_aload_n O 1 dX3_readLine_60 rfl rfl ?_
          refine s_aload_n O 2 dX3_readLine_61 rfl rfl ?_
          refine s_iload_n O 0 dX3_readLine_62 rfl rfl ?_
          obtain ⟨s10, r11, c12, hf⟩ := bn_e hf
          refine s_VI (As := [rf E a1, .int y0]) (st := []) O lk_RX3_89 (k_X3_readThing ha1 c12) rfl cs_47 rfl rfl ⟨rfl, rfl⟩ ⟨Nat.le_of_ble_eq_true rfl, Nat.le_of_ble_eq_true rfl⟩ rfl (Nat.le_of_ble_eq_true rfl) dX3_readLine_63 ?_
          obtain ⟨hz, hf⟩ := gz_e hf
          exact s_iret hret hz.nar dX3_readLine_66 hf
        · replace hf := if_f q3 hf
          by_cases q4 : y0 = 4
          · replace hf := if_t q4 hf
            refine s_tabE (v := 4) (tgt := 67) O dX3_readLine_19 q4 (by decide) (by decide) rfl (by decide) ?_
            refine s_aload_n O 1 dX3_readLine_67 rfl rfl ?_
            refine s_aload_n O 2 dX3_readLine_68 rfl rfl ?_
            obtain ⟨s13, r14, c15, hf⟩ := bn_e hf
            refine s_VI (As := [rf E a1]) (st := []) O lk_RX3_93 (k_X3_readWind ha1 c15) rfl cs_47 rfl rfl ⟨rfl, rfl⟩ ⟨Nat.le_of_ble_eq_true rfl, Nat.le_of_ble_eq_true rfl⟩ rfl (Nat.le_of_ble_eq_true rfl) dX3_readLine_69 ?_
            obtain ⟨hz, hf⟩ := gz_e hf
            exact s_iret hret hz.nar dX3_readLine_72 hf
          · replace hf := if_f q4 hf
            by_cases q5 : y0 = 5
            · replace hf := if_t q5 hf
              refine s_tabE (v := 5) (tgt := 73) O dX3_readLine_19 q5 (by decide) (by decide) rfl (by decide) ?_
              refine s_aload_n O 1 dX3_readLine_73 rfl rfl ?_
              refine s_aload_n O 2 dX3_readLine_74 rfl rfl ?_
              obtain ⟨s16, r17, c18, hf⟩ := bn_e hf
              refine s_VI (As := [rf E a1]) (st := []) O lk_RX3_96 (k_X3_readRate ha1 c18) rfl cs_47 rfl rfl ⟨rfl, rfl⟩ ⟨Nat.le_of_ble_eq_true rfl, Nat.le_of_ble_eq_true rfl⟩ rfl (Nat.le_of_ble_eq_true rfl) dX3_readLine_75 ?_
              obtain ⟨hz, hf⟩ := gz_e hf
              exact s_iret hret hz.nar dX3_readLine_78 hf
            · replace hf := if_f q5 hf
              by_cases q6 : y0 = 6
              · replace hf := if_t q6 hf
                refine s_tabE (v := 6) (tgt := 79) O dX3_readLine_19 q6 (by decide) (by decide) rfl (by decide) ?_
                refine s_aload_n O 1 dX3_readLine_79 rfl rfl ?_
                refine s_aload_n O 2 dX3_readLine_80 rfl rfl ?_
                obtain ⟨s19, r20, c21, hf⟩ := bn_e hf
                refine s_VI (As := [rf E a1]) (st := []) O lk_RX3_99 (k_X3_readStart ha1 c21) rfl cs_47 rfl rfl ⟨rfl, rfl⟩ ⟨Nat.le_of_ble_eq_true rfl, Nat.le_of_ble_eq_true rfl⟩ rfl (Nat.le_of_ble_eq_true rfl) dX3_readLine_81 ?_
                obtain ⟨hz, hf⟩ := gz_e hf
                exact s_iret hret hz.nar dX3_readLine_84 hf
              · replace hf := if_f q6 hf
                have z0 := lv_neT q0 (a := 0) rfl
                have z1 := lv_neT q1 (a := 1) rfl
                have z2 := lv_neT q2 (a := 2) rfl
                have z3 := lv_neT q3 (a := 3) rfl
                have z4 := lv_neT q4 (a := 4) rfl
                have z5 := lv_neT q5 (a := 5) rfl
                have z6 := lv_neT q6 (a := 6) rfl
                refine s_tabO (tgt := 85) O dX3_readLine_19 (by omega) (by decide) ?_
                refine s_aload_n O 1 dX3_readLine_85 rfl rfl ?_
                refine s_aload_n O 1 dX3_readLine_86 rfl rfl ?_
                refine s_getI O fg_RX3_72 cs_47 rfl dX3_readLine_87 ?_
                refine s_iconst (v := 2) O dX3_readLine_90 rfl ?_
                obtain ⟨s22, r23, c24, hf⟩ := bn_e hf
                refine s_VI (As := [.int (gi s0 47 7), .int 2]) (st := []) O lk_RX3_81 (k_X3_failAt c24) rfl cs_47 rfl rfl ⟨rfl, rfl⟩ ⟨Nat.le_of_ble_eq_true rfl, Nat.le_of_ble_eq_true rfl⟩ rfl (Nat.le_of_ble_eq_true rfl) dX3_readLine_91 ?_
                obtain ⟨hz, hf⟩ := gz_e hf
                exact s_iret hret hz.nar dX3_readLine_94 hf
def f_X3_readLine (a1 : Nat) (s0 : StA) : Option (StA × Int32) :=
  (if (gi s0 47 6) = 1 then bn (f_X3_lineOfName  s0) (fun s25 r26 => fj_X3_readLine_j17 a1 r26 s25) else fj_X3_readLine_j17 a1 7 s0)
set_option maxHeartbeats 4000000 in
set_option maxRecDepth 100000 in
theorem k_X3_readLine {a1 : Nat} (ha1 : isFl a1) {s0 zs : StA} {rr : Int32} (hf : f_X3_readLine a1 s0 = some (zs, rr)) : CtI cM yX3_readLine cX3_readLine 3 .boolean rm_X3_readLine (fun ph => [.ref (ph 47), .ref (ph a1)]) s0 zs rr := by
  refine CtI.of (by decide +kernel) (fun ph => Nat.le_of_ble_eq_true rfl) (fun E O hret => ?_)
  have O : OK cM E RX3 cX3_readLine 3 rm_X3_readLine := O
  show WS cM E 3 0 [(0, rf E 47), (1, rf E a1)] [] s0
  unfold f_X3_readLine at hf
  refine s_aload_n O 0 dX3_readLine_0 rfl rfl ?_
  refine s_getI O fg_RX3_42 cs_47 rfl dX3_readLine_1 ?_
  refine s_iconst (v := 1) O dX3_readLine_4 rfl ?_
  refine s_icmp_ne (tgt := 15) O dX3_readLine_5 (by decide) (fun c => ?_) (fun c => ?_)
  · replace hf := if_f c hf
    refine s_bipush (v := 7) O dX3_readLine_15 rfl ?_
    exact wj_X3_readLine_j17 (rr := rr) O ha1  hret hf
  · replace hf := if_t c hf
    refine s_aload_n O 0 dX3_readLine_8 rfl rfl ?_
    obtain ⟨s25, r26, c27, hf⟩ := bn_e hf
    refine s_VI (As := []) (st := []) O lk_RX3_85 (k_X3_lineOfName c27) rfl cs_47 rfl rfl ⟨rfl, rfl⟩ ⟨Nat.le_of_ble_eq_true rfl, Nat.le_of_ble_eq_true rfl⟩ rfl (Nat.le_of_ble_eq_true rfl) dX3_readLine_9 ?_
    refine s_goto (tgt := 17) O dX3_readLine_12 (by decide) ?_
    exact wj_X3_readLine_j17 (rr := rr) O ha1  hret hf
def rm_X3_tell : Room := { frames := 7, cells := 0, slots := 0, locals := 150 }
def fb_X3_tell_l15 (a1 : Nat)  (s0 : StA) (v2 : Int32) (v3 : Int32) : Option (StA × ((Int32 × Int32) ⊕ (Int32 × Int32))) :=
  (if v3 = 0 then some (s0, .inr (v2, v3)) else (if (gi s0 47 6) = 0 then some (s0, .inr (v2, v3)) else (if 160 ≤ v2 then some (s0, .inr (v2, v3)) else bn (f_X3_readLine a1 s0) (fun s10 r11 => (if r11 = 0 then some (s10, .inl ((v2 + 1), 0)) else bn (f_X3_nextToken  s10) (fun s13 r14 => (if r14 = 0 then some (s13, .inl ((v2 + 1), 0)) else some (s13, .inl ((v2 + 1), 1)))))))))
set_option maxHeartbeats 4000000 in
set_option maxRecDepth 100000 in
theorem wb_X3_tell_l15 {E : XC} (O : OK cM E RX3 cX3_tell 4 rm_X3_tell) {a1 : Nat} (ha1 : isFl a1)   {s0 : StA} {v2 : Int32} {v3 : Int32} {zs : StA} {rr : Int32} (hret : ReI cM E .int cX3_tell zs rr) {bs : StA} {bw : (Int32 × Int32) ⊕ (Int32 × Int32)} (Kc : ∀ v, bw = .inl v → WS cM E 4 15 [(0, rf E 47), (1, rf E a1), (2, .int v.1), (3, .int v.2)] [] bs) (Ke : ∀ e, bw = .inr e → WS cM E 4 60 [(0, rf E 47), (2, .int e.1), (3, .int e.2)] [] bs) (hf : fb_X3_tell_l15 a1 s0 v2 v3 = some (bs, bw)) : WS cM E 4 15 [(0, rf E 47), (1, rf E a1), (2, .int v2), (3, .int v3)] [] s0 := by
  unfold fb_X3_tell_l15 at hf
  refine s_iload_n O 3 dX3_tell_15 rfl rfl ?_
  refine s_if_eq (tgt := 60) O dX3_tell_16 (by decide) (fun c => ?_) (fun c => ?_)
  · replace hf := if_t c hf
    refine s_loc [0, 2, 3] rfl ?_
    cases hf
    exact Ke _ rfl
  · replace hf := if_f c hf
    refine s_aload_n O 0 dX3_tell_19 rfl rfl ?_
    refine s_getI O fg_RX3_42 cs_47 rfl dX3_tell_20 ?_
    refine s_if_eq (tgt := 60) O dX3_tell_23 (by decide) (fun c => ?_) (fun c => ?_)
    · replace hf := if_t c hf
      refine s_loc [0, 2, 3] rfl ?_
      cases hf
      exact Ke _ rfl
    · replace hf := if_f c hf
      refine s_iload_n O 2 dX3_tell_26 rfl rfl ?_
      refine s_sipush (v := 160) O dX3_tell_27 rfl ?_
      refine s_icmp_ge (tgt := 60) O dX3_tell_30 (by decide) (fun c => ?_) (fun c => ?_)
      · replace hf := if_t c hf
        refine s_loc [0, 2, 3] rfl ?_
        cases hf
        exact Ke _ rfl
      · replace hf := if_f c hf
        refine s_aload_n O 0 dX3_tell_33 rfl rfl ?_
        refine s_aload_n O 1 dX3_tell_34 rfl rfl ?_
        obtain ⟨s10, r11, c12, hf⟩ := bn_e hf
        refine s_VI (As := [rf E a1]) (st := []) O lk_RX3_45 (k_X3_readLine ha1 c12) rfl cs_47 rfl rfl ⟨rfl, rfl⟩ ⟨Nat.le_of_ble_eq_true rfl, Nat.le_of_ble_eq_true rfl⟩ rfl (Nat.le_of_ble_eq_true rfl) dX3_tell_35 ?_
        refine s_if_eq (tgt := 52) O dX3_tell_38 (by decide) (fun c => ?_) (fun c => ?_)
        · replace hf := if_t c hf
          refine s_iconst (v := 0) O dX3_tell_52 rfl ?_
          refine s_istore_n (lv' := [(3, .int 0), (0, rf E 47), (1, rf E a1), (2, .int v2)]) O dX3_tell_53 rfl (by decide) rfl ?_
          refine s_iinc (v := (v2 + 1)) (lv' := [(2, .int (v2 + 1)), (3, .int 0), (0, rf E 47), (1, rf E a1)]) O 3 dX3_tell_54 rfl rfl (by decide) rfl ?_
          refine s_goto (tgt := 15) O dX3_tell_57 (by decide) ?_
          refine s_loc [2, 3, 0, 1] rfl ?_
          cases hf
          exact Kc _ rfl
        · replace hf := if_f c hf
          refine s_aload_n O 0 dX3_tell_41 rfl rfl ?_
          obtain ⟨s13, r14, c15, hf⟩ := bn_e hf
          refine s_VI (As := []) (st := []) O lk_RX3_38 (k_X3_nextToken c15) rfl cs_47 rfl rfl ⟨rfl, rfl⟩ ⟨Nat.le_of_ble_eq_true rfl, Nat.le_of_ble_eq_true rfl⟩ rfl (Nat.le_of_ble_eq_true rfl) dX3_tell_42 ?_
          refine s_if_eq (tgt := 52) O dX3_tell_45 (by decide) (fun c => ?_) (fun c => ?_)
          · replace hf := if_t c hf
            refine s_iconst (v := 0) O dX3_tell_52 rfl ?_
            refine s_istore_n (lv' := [(3, .int 0), (0, rf E 47), (1, rf E a1), (2, .int v2)]) O dX3_tell_53 rfl (by decide) rfl ?_
            refine s_iinc (v := (v2 + 1)) (lv' := [(2, .int (v2 + 1)), (3, .int 0), (0, rf E 47), (1, rf E a1)]) O 3 dX3_tell_54 rfl rfl (by decide) rfl ?_
            refine s_goto (tgt := 15) O dX3_tell_57 (by decide) ?_
            refine s_loc [2, 3, 0, 1] rfl ?_
            cases hf
            exact Kc _ rfl
          · replace hf := if_f c hf
            refine s_iconst (v := 1) O dX3_tell_48 rfl ?_
            refine s_goto (tgt := 53) O dX3_tell_49 (by decide) ?_
            refine s_istore_n (lv' := [(3, .int 1), (0, rf E 47), (1, rf E a1), (2, .int v2)]) O dX3_tell_53 rfl (by decide) rfl ?_
            refine s_iinc (v := (v2 + 1)) (lv' := [(2, .int (v2 + 1)), (3, .int 1), (0, rf E 47), (1, rf E a1)]) O 3 dX3_tell_54 rfl rfl (by decide) rfl ?_
            refine s_goto (tgt := 15) O dX3_tell_57 (by decide) ?_
            refine s_loc [2, 3, 0, 1] rfl ?_
            cases hf
            exact Kc _ rfl
def fl_X3_tell_l15 (a1 : Nat)  (s0 : StA) (v : Int32 × Int32) : Option (StA × ((Int32 × Int32))) :=
  it (fun s v => fb_X3_tell_l15 a1 s v.1 v.2) FU s0 v
def fj_X3_tell_j60 (a1 : Nat)  (j2 : Int32) (j3 : Int32) (s0 : StA) : Option (StA × (Int32)) :=
  nms (si s0 47 2 0) (fun s19 => (if j3 = 0 then some (s19, ((-10) - (gi s19 47 4))) else some (s19, j2)))
set_option maxHeartbeats 4000000 in
set_option maxRecDepth 100000 in
theorem wj_X3_tell_j60 {E : XC} (O : OK cM E RX3 cX3_tell 4 rm_X3_tell) {a1 : Nat} (ha1 : isFl a1)   {j2 : Int32} {j3 : Int32} {s0 : StA} {zs : StA} {rr : Int32} (hret : ReI cM E .int cX3_tell zs rr) (hf : fj_X3_tell_j60 a1 j2 j3 s0 = some (zs, rr)) : WS cM E 4 60 [(0, rf E 47), (2, .int j2), (3, .int j3)] [] s0 := by
  unfold fj_X3_tell_j60 at hf
  refine s_aload_n O 0 dX3_tell_60 rfl rfl ?_
  refine s_iconst (v := 0) O dX3_tell_61 rfl ?_
  refine s_putI O fp_RX3_18 cs_47 rfl dX3_tell_62 ?_
  refine s_tops (fun s19 es19 => ?_)
  replace hf := nms_e es19 hf
  refine s_iload_n O 2 dX3_tell_65 rfl rfl ?_
  refine s_if_eq (tgt := 73) O dX3_tell_66 (by decide) (fun c => ?_) (fun c => ?_)
  · replace hf := if_t c hf
    refine s_bipush (v := (-10)) O dX3_tell_73 rfl ?_
    refine s_aload_n O 0 dX3_tell_75 rfl rfl ?_
    refine s_getI O fg_RX3_49 cs_47 rfl dX3_tell_76 ?_
    refine s_isub O dX3_tell_79 ?_
    exact s_iret hret rfl dX3_tell_80 hf
  · replace hf := if_f c hf
    refine s_iload_n O 1 dX3_tell_69 rfl rfl ?_
    refine s_goto (tgt := 80) O dX3_tell_70 (by decide) ?_
    exact s_iret hret rfl dX3_tell_80 hf
def f_X3_tell (a1 : Nat) (s0 : StA) : Option (StA × Int32) :=
  bn (f_X1_clear a1 s0) (fun s1 r2 => bn (f_X3_begin  s1) (fun s4 r5 => bn (f_X3_nextToken  s4) (fun s7 r8 => bn (fl_X3_tell_l15 a1 s7 (0, r8)) (fun s16 e17 => match e17 with | (u15_2, u15_3) => fj_X3_tell_j60 a1 u15_2 u15_3 s16))))
set_option maxHeartbeats 4000000 in
set_option maxRecDepth 100000 in
theorem k_X3_tell {a1 : Nat} (ha1 : isFl a1) {s0 zs : StA} {rr : Int32} (hf : f_X3_tell a1 s0 = some (zs, rr)) : CtI cM yX3_tell cX3_tell 4 .int rm_X3_tell (fun ph => [.ref (ph 47), .ref (ph a1)]) s0 zs rr := by
  refine CtI.of (by decide +kernel) (fun ph => Nat.le_of_ble_eq_true rfl) (fun E O hret => ?_)
  have O : OK cM E RX3 cX3_tell 4 rm_X3_tell := O
  show WS cM E 4 0 [(0, rf E 47), (1, rf E a1)] [] s0
  unfold f_X3_tell at hf
  refine s_aload_n O 1 dX3_tell_0 rfl rfl ?_
  obtain ⟨s1, r2, c3, hf⟩ := bn_e hf
  refine s_VV (As := []) (st := []) O lk_RX3_30 (k_X1_clear ha1 c3) rfl (fl_0 ha1) rfl rfl ⟨rfl, rfl⟩ ⟨Nat.le_of_ble_eq_true rfl, Nat.le_of_ble_eq_true rfl⟩ rfl (Nat.le_of_ble_eq_true rfl) dX3_tell_1 ?_
  refine s_aload_n O 0 dX3_tell_4 rfl rfl ?_
  obtain ⟨s4, r5, c6, hf⟩ := bn_e hf
  refine s_VV (As := []) (st := []) O lk_RX3_35 (k_X3_begin c6) rfl cs_47 rfl rfl ⟨rfl, rfl⟩ ⟨Nat.le_of_ble_eq_true rfl, Nat.le_of_ble_eq_true rfl⟩ rfl (Nat.le_of_ble_eq_true rfl) dX3_tell_5 ?_
  refine s_iconst (v := 0) O dX3_tell_8 rfl ?_
  refine s_istore_n (lv' := [(2, .int 0), (0, rf E 47), (1, rf E a1)]) O dX3_tell_9 rfl (by decide) rfl ?_
  refine s_aload_n O 1 dX3_tell_10 rfl rfl ?_
  obtain ⟨s7, r8, c9, hf⟩ := bn_e hf
  refine s_VI (As := []) (st := []) O lk_RX3_38 (k_X3_nextToken c9) rfl cs_47 rfl rfl ⟨rfl, rfl⟩ ⟨Nat.le_of_ble_eq_true rfl, Nat.le_of_ble_eq_true rfl⟩ rfl (Nat.le_of_ble_eq_true rfl) dX3_tell_11 ?_
  refine s_istore_n (lv' := [(3, .int r8), (2, .int 0), (0, rf E 47), (1, rf E a1)]) O dX3_tell_14 rfl (by decide) rfl ?_
  refine s_loc [2, 3, 1, 0] rfl ?_
  obtain ⟨s16, e17, c18, hf⟩ := bn_e hf
  obtain ⟨u15_2, u15_3⟩ := e17
  refine lp_of (body := fun s v => fb_X3_tell_l15 a1 s v.1 v.2) (X := fun s v => WS cM E 4 15 [(0, rf E 47), (1, rf E a1), (2, .int v.1), (3, .int v.2)] [] s) (Y := fun s e => WS cM E 4 60 [(0, rf E 47), (2, .int e.1), (3, .int e.2)] [] s) (fun s v s' w hb Kc Ke => wb_X3_tell_l15 (rr := rr) O ha1  hret Kc Ke hb) FU _ _ (s16, (u15_2, u15_3)) c18 ?_
  show WS cM E 4 60 [(0, rf E 47), (2, .int u15_2), (3, .int u15_3)] [] s16
  exact wj_X3_tell_j60 (rr := rr) O ha1  hret hf
def rm_X5_text : Room := { frames := 8, cells := 0, slots := 0, locals := 173 }
def f_X5_text  (s0 : StA) : Option (StA × Int32) :=
  bn (f_X3_tell 12 s0) (fun s1 r2 => (if r2 < 0 then some (s1, r2) else bn (f_X1_copyFrom 1 12 s1) (fun s4 r5 => bn (f_X5_forgetImages  s4) (fun s7 r8 => some (s7, r2)))))
set_option maxHeartbeats 4000000 in
set_option maxRecDepth 100000 in
theorem k_X5_text  {s0 zs : StA} {rr : Int32} (hf : f_X5_text  s0 = some (zs, rr)) : CtI cM yX5_text cX5_text 2 .int rm_X5_text (fun ph => [.ref (ph 0)]) s0 zs rr := by
  refine CtI.of (by decide +kernel) (fun ph => Nat.le_of_ble_eq_true rfl) (fun E O hret => ?_)
  have O : OK cM E RX5 cX5_text 2 rm_X5_text := O
  show WS cM E 2 0 [(0, rf E 0)] [] s0
  unfold f_X5_text at hf
  refine s_aload_n O 0 dX5_text_0 rfl rfl ?_
  refine s_getR O fg_RX5_30 cs_0 rfl dX5_text_1 ?_
  refine s_aload_n O 0 dX5_text_4 rfl rfl ?_
  refine s_getR O fg_RX5_16 cs_0 rfl dX5_text_5 ?_
  obtain ⟨s1, r2, c3, hf⟩ := bn_e hf
  refine s_VI (As := [rf E 12]) (st := []) O lk_RX5_64 (k_X3_tell fl_is12 c3) rfl cs_47 rfl rfl ⟨rfl, rfl⟩ ⟨Nat.le_of_ble_eq_true rfl, Nat.le_of_ble_eq_true rfl⟩ rfl (Nat.le_of_ble_eq_true rfl) dX5_text_8 ?_
  refine s_istore_n (lv' := [(1, .int r2), (0, rf E 0)]) O dX5_text_11 rfl (by decide) rfl ?_
  refine s_iload_n O 0 dX5_text_12 rfl rfl ?_
  refine s_if_lt (tgt := 31) O dX5_text_13 (by decide) (fun c => ?_) (fun c => ?_)
  · replace hf := if_t c hf
    refine s_iload_n O 0 dX5_text_31 rfl rfl ?_
    exact s_iret hret rfl dX5_text_32 hf
  · replace hf := if_f c hf
    refine s_aload_n O 1 dX5_text_16 rfl rfl ?_
    refine s_getR O fg_RX5_10 cs_0 rfl dX5_text_17 ?_
    refine s_aload_n O 1 dX5_text_20 rfl rfl ?_
    refine s_getR O fg_RX5_16 cs_0 rfl dX5_text_21 ?_
    obtain ⟨s4, r5, c6, hf⟩ := bn_e hf
    refine s_VV (As := [rf E 12]) (st := []) O lk_RX5_68 (k_X1_copyFrom fl_is1 fl_is12 c6) rfl cs_1 rfl rfl ⟨rfl, rfl⟩ ⟨Nat.le_of_ble_eq_true rfl, Nat.le_of_ble_eq_true rfl⟩ rfl (Nat.le_of_ble_eq_true rfl) dX5_text_24 ?_
    refine s_aload_n O 1 dX5_text_27 rfl rfl ?_
    obtain ⟨s7, r8, c9, hf⟩ := bn_e hf
    refine s_VV (As := []) (st := []) O lk_RX5_72 (k_X5_forgetImages c9) rfl cs_0 rfl rfl ⟨rfl, rfl⟩ ⟨Nat.le_of_ble_eq_true rfl, Nat.le_of_ble_eq_true rfl⟩ rfl (Nat.le_of_ble_eq_true rfl) dX5_text_28 ?_
    refine s_iload_n O 0 dX5_text_31 rfl rfl ?_
    exact s_iret hret rfl dX5_text_32 hf
def rm_X5_fault : Room := { frames := 0, cells := 0, slots := 0, locals := 0 }
def f_X5_fault  (s0 : StA) : Option (StA × Int32) :=
  some (s0, (gi s0 47 3))
set_option maxHeartbeats 4000000 in
set_option maxRecDepth 100000 in
theorem k_X5_fault  {s0 zs : StA} {rr : Int32} (hf : f_X5_fault  s0 = some (zs, rr)) : CtI cM yX5_fault cX5_fault 1 .int rm_X5_fault (fun ph => [.ref (ph 0)]) s0 zs rr := by
  refine CtI.of (by decide +kernel) (fun ph => Nat.le_of_ble_eq_true rfl) (fun E O hret => ?_)
  have O : OK cM E RX5 cX5_fault 1 rm_X5_fault := O
  show WS cM E 1 0 [(0, rf E 0)] [] s0
  unfold f_X5_fault at hf
  refine s_aload_n O 0 dX5_fault_0 rfl rfl ?_
  refine s_getR O fg_RX5_30 cs_0 rfl dX5_fault_1 ?_
  refine s_getI O fg_RX5_75 cs_47 rfl dX5_fault_4 ?_
  exact s_iret hret rfl dX5_fault_7 hf
def rm_X5_bounded : Room := { frames := 1, cells := 0, slots := 0, locals := 21 }
def f_X5_bounded (a0 : Int32) (a1 : Int32) (a2 : Int32) (s0 : StA) : Option (StA × Int32) :=
  nmi (if a0 < a2 then a0 else a2) (fun n1 => nmi (if a1 < n1 then n1 else a1) (fun n2 => some (s0, n2)))
set_option maxHeartbeats 4000000 in
set_option maxRecDepth 100000 in
theorem k_X5_bounded {a0 : Int32} {a1 : Int32} {a2 : Int32} {s0 zs : StA} {rr : Int32} (hf : f_X5_bounded a0 a1 a2 s0 = some (zs, rr)) : CtI cM yX5_bounded cX5_bounded 3 .int rm_X5_bounded (fun ph => [.int a0, .int a1, .int a2]) s0 zs rr := by
  refine CtI.of (by decide +kernel) (fun ph => Nat.le_of_ble_eq_true rfl) (fun E O hret => ?_)
  have O : OK cM E RX5 cX5_bounded 3 rm_X5_bounded := O
  show WS cM E 3 0 [(0, .int a0), (1, .int a1), (2, .int a2)] [] s0
  unfold f_X5_bounded at hf
  refine s_iload_n O 1 dX5_bounded_0 rfl rfl ?_
  refine s_iload_n O 2 dX5_bounded_1 rfl rfl ?_
  refine s_iload_n O 0 dX5_bounded_2 rfl rfl ?_
  refine s_mmin (st := [.int a1]) O lk_RX5_200 ⟨Nat.le_of_ble_eq_true rfl, Nat.le_of_ble_eq_true rfl⟩ (Nat.le_of_ble_eq_true rfl) dX5_bounded_3 ?_
  refine s_topi (fun n1 en1 => ?_)
  replace hf := nmi_e en1 hf
  refine s_mmax (st := []) O lk_RX5_261 ⟨Nat.le_of_ble_eq_true rfl, Nat.le_of_ble_eq_true rfl⟩ (Nat.le_of_ble_eq_true rfl) dX5_bounded_6 ?_
  refine s_topi (fun n2 en2 => ?_)
  replace hf := nmi_e en2 hf
  exact s_iret hret rfl dX5_bounded_9 hf
def rm_X1_isSaid : Room := { frames := 0, cells := 0, slots := 0, locals := 0 }
def f_X1_isSaid (k : Nat) (a1 : Int32) (s0 : StA) : Option (StA × Int32) :=
  (if (((gi s0 k 7) >>> (a1 &&& 31)) &&& 1) = 1 then some (s0, 1) else some (s0, 0))
set_option maxHeartbeats 4000000 in
set_option maxRecDepth 100000 in
theorem k_X1_isSaid {k : Nat} {a1 : Int32} (hk : isFl k) {s0 zs : StA} {rr : Int32} (hf : f_X1_isSaid k a1 s0 = some (zs, rr)) : CtI cM yX1_isSaid cX1_isSaid 2 .boolean rm_X1_isSaid (fun ph => [.ref (ph k), .int a1]) s0 zs rr := by
  refine CtI.of (by decide +kernel) (fun ph => Nat.le_of_ble_eq_true rfl) (fun E O hret => ?_)
  have O : OK cM E RX1 cX1_isSaid 2 rm_X1_isSaid := O
  show WS cM E 2 0 [(0, rf E k), (1, .int a1)] [] s0
  unfold f_X1_isSaid at hf
  refine s_aload_n O 0 dX1_isSaid_0 rfl rfl ?_
  refine s_getI O fg_RX1_49 (fl_0 hk) rfl dX1_isSaid_1 ?_
  refine s_iload_n O 1 dX1_isSaid_4 rfl rfl ?_
  refine s_ishr O dX1_isSaid_5 ?_
  refine s_iconst (v := 1) O dX1_isSaid_6 rfl ?_
  refine s_iand O dX1_isSaid_7 ?_
  refine s_iconst (v := 1) O dX1_isSaid_8 rfl ?_
  refine s_icmp_ne (tgt := 16) O dX1_isSaid_9 (by decide) (fun c => ?_) (fun c => ?_)
  · replace hf := if_f c hf
    refine s_iconst (v := 0) O dX1_isSaid_16 rfl ?_
    exact s_iret hret rfl dX1_isSaid_17 hf
  · replace hf := if_t c hf
    refine s_iconst (v := 1) O dX1_isSaid_12 rfl ?_
    refine s_goto (tgt := 17) O dX1_isSaid_13 (by decide) ?_
    exact s_iret hret rfl dX1_isSaid_17 hf
def rm_X1_liftOf : Room := { frames := 1, cells := 0, slots := 0, locals := 21 }
def f_X1_liftOf (k : Nat) (a1 : Int32) (s0 : StA) : Option (StA × Int32) :=
  gd a1 6 (nmi (gi s0 (k + 2) a1.toNatClampNeg) (fun n2 => bn (f_X1_isSaid k a1 s0) (fun s3 r4 => (if r4 = 0 then gd a1 6 ((if (gi s3 (k + 1) a1.toNatClampNeg) = 2 then some (s3, (2 * n2)) else some (s3, n2))) else gd a1 6 (nmi (gi s3 (k + 1) a1.toNatClampNeg) (fun n7 => (if n7 = 1 then some (s3, (n2 / 2)) else if n7 = 3 then some (s3, (-(n2 / 2))) else some (s3, 0))))))))
set_option maxHeartbeats 4000000 in
set_option maxRecDepth 100000 in
theorem k_X1_liftOf {k : Nat} {a1 : Int32} (hk : isFl k) {s0 zs : StA} {rr : Int32} (hf : f_X1_liftOf k a1 s0 = some (zs, rr)) : CtI cM yX1_liftOf cX1_liftOf 3 .int rm_X1_liftOf (fun ph => [.ref (ph k), .int a1]) s0 zs rr := by
  refine CtI.of (by decide +kernel) (fun ph => Nat.le_of_ble_eq_true rfl) (fun E O hret => ?_)
  have O : OK cM E RX1 cX1_liftOf 3 rm_X1_liftOf := O
  show WS cM E 3 0 [(0, rf E k), (1, .int a1)] [] s0
  unfold f_X1_liftOf at hf
  refine s_aload_n O 0 dX1_liftOf_0 rfl rfl ?_
  refine s_getR O fg_RX1_15 (fl_0 hk) rfl dX1_liftOf_1 ?_
  refine s_iload_n O 1 dX1_liftOf_4 rfl rfl ?_
  obtain ⟨h1, hf⟩ := gd_e hf
  refine s_iald O (fl_2 hk) h1 dX1_liftOf_5 ?_
  refine s_topi (fun n2 en2 => ?_)
  replace hf := nmi_e en2 hf
  refine s_istore_n (lv' := [(2, .int n2), (0, rf E k), (1, .int a1)]) O dX1_liftOf_6 rfl (by decide) rfl ?_
  refine s_aload_n O 1 dX1_liftOf_7 rfl rfl ?_
  refine s_iload_n O 2 dX1_liftOf_8 rfl rfl ?_
  obtain ⟨s3, r4, c5, hf⟩ := bn_e hf
  refine s_VI (As := [.int a1]) (st := []) O lk_RX1_80 (k_X1_isSaid hk c5) rfl (fl_0 hk) rfl rfl ⟨rfl, rfl⟩ ⟨Nat.le_of_ble_eq_true rfl, Nat.le_of_ble_eq_true rfl⟩ rfl (Nat.le_of_ble_eq_true rfl) dX1_liftOf_9 ?_
  refine s_if_ne (tgt := 33) O dX1_liftOf_12 (by decide) (fun c => ?_) (fun c => ?_)
  · replace hf := if_f c hf
    refine s_aload_n O 1 dX1_liftOf_33 rfl rfl ?_
    refine s_getR O fg_RX1_9 (fl_0 hk) rfl dX1_liftOf_34 ?_
    refine s_iload_n O 2 dX1_liftOf_37 rfl rfl ?_
    obtain ⟨h6, hf⟩ := gd_e hf
    refine s_iald O (fl_1 hk) h6 dX1_liftOf_38 ?_
    refine s_topi (fun n7 en7 => ?_)
    replace hf := nmi_e en7 hf
    by_cases q1 : n7 = 1
    · replace hf := if_t q1 hf
      refine s_lookE (v := 1) (tgt := 64) O dX1_liftOf_39 q1 (by decide) (by decide) (by decide) ?_
      refine s_iload_n O 0 dX1_liftOf_64 rfl rfl ?_
      refine s_iconst (v := 2) O dX1_liftOf_65 rfl ?_
      refine s_idiv O dX1_liftOf_66 (by decide) ?_
      exact s_iret hret rfl dX1_liftOf_67 hf
    · replace hf := if_f q1 hf
      by_cases q3 : n7 = 3
      · replace hf := if_t q3 hf
        refine s_lookE (v := 3) (tgt := 68) O dX1_liftOf_39 q3 (by decide) (by decide) (by decide) ?_
        refine s_iload_n O 0 dX1_liftOf_68 rfl rfl ?_
        refine s_iconst (v := 2) O dX1_liftOf_69 rfl ?_
        refine s_idiv O dX1_liftOf_70 (by decide) ?_
        refine s_ineg O dX1_liftOf_71 ?_
        exact s_iret hret rfl dX1_liftOf_72 hf
      · replace hf := if_f q3 hf
        refine s_look (off := 34) (tgt := 73) O dX1_liftOf_39 (by decide) ((lv_osw q1 rfl).trans ((lv_osw q3 rfl).trans rfl)) (by decide) ?_
        refine s_iconst (v := 0) O dX1_liftOf_73 rfl ?_
        exact s_iret hret rfl dX1_liftOf_74 hf
  · replace hf := if_t c hf
    refine s_aload_n O 1 dX1_liftOf_15 rfl rfl ?_
    refine s_getR O fg_RX1_9 (fl_0 hk) rfl dX1_liftOf_16 ?_
    refine s_iload_n O 2 dX1_liftOf_19 rfl rfl ?_
    obtain ⟨h8, hf⟩ := gd_e hf
    refine s_iald O (fl_1 hk) h8 dX1_liftOf_20 ?_
    refine s_iconst (v := 2) O dX1_liftOf_21 rfl ?_
    refine s_icmp_ne (tgt := 31) O dX1_liftOf_22 (by decide) (fun c => ?_) (fun c => ?_)
    · replace hf := if_f c hf
      refine s_iload_n O 0 dX1_liftOf_31 rfl rfl ?_
      exact s_iret hret rfl dX1_liftOf_32 hf
    · replace hf := if_t c hf
      refine s_iconst (v := 2) O dX1_liftOf_25 rfl ?_
      refine s_iload_n O 0 dX1_liftOf_26 rfl rfl ?_
      refine s_imul O dX1_liftOf_27 ?_
      refine s_goto (tgt := 32) O dX1_liftOf_28 (by decide) ?_
      exact s_iret hret rfl dX1_liftOf_32 hf
def rm_X1_lift : Room := { frames := 2, cells := 0, slots := 0, locals := 43 }
def fb_X1_lift_l4 (k : Nat)  (s0 : StA) (v1 : Int32) (v2 : Int32) : Option (StA × ((Int32 × Int32) ⊕ (Int32))) :=
  (if (gi s0 k 6) ≤ v2 then some (s0, .inr v1) else bn (f_X1_liftOf k v2 s0) (fun s1 r2 => nmi (v1 + r2) (fun n4 => some (s1, .inl (n4, (v2 + 1))))))
set_option maxHeartbeats 4000000 in
set_option maxRecDepth 100000 in
theorem wb_X1_lift_l4 {E : XC} (O : OK cM E RX1 cX1_lift 3 rm_X1_lift) {k : Nat} (hk : isFl k)   {s0 : StA} {v1 : Int32} {v2 : Int32} {zs : StA} {rr : Int32} (hret : ReI cM E .int cX1_lift zs rr) {bs : StA} {bw : (Int32 × Int32) ⊕ (Int32)} (Kc : ∀ v, bw = .inl v → WS cM E 3 4 [(0, rf E k), (1, .int v.1), (2, .int v.2)] [] bs) (Ke : ∀ e, bw = .inr e → WS cM E 3 26 [(1, .int e)] [] bs) (hf : fb_X1_lift_l4 k s0 v1 v2 = some (bs, bw)) : WS cM E 3 4 [(0, rf E k), (1, .int v1), (2, .int v2)] [] s0 := by
  unfold fb_X1_lift_l4 at hf
  refine s_iload_n O 2 dX1_lift_4 rfl rfl ?_
  refine s_aload_n O 0 dX1_lift_5 rfl rfl ?_
  refine s_getI O fg_RX1_46 (fl_0 hk) rfl dX1_lift_6 ?_
  refine s_icmp_ge (tgt := 26) O dX1_lift_9 (by decide) (fun c => ?_) (fun c => ?_)
  · replace hf := if_t c hf
    refine s_loc [1] rfl ?_
    cases hf
    exact Ke _ rfl
  · replace hf := if_f c hf
    refine s_iload_n O 1 dX1_lift_12 rfl rfl ?_
    refine s_aload_n O 0 dX1_lift_13 rfl rfl ?_
    refine s_iload_n O 2 dX1_lift_14 rfl rfl ?_
    obtain ⟨s1, r2, c3, hf⟩ := bn_e hf
    refine s_VI (As := [.int v2]) (st := [.int v1]) O lk_RX1_83 (k_X1_liftOf hk c3) rfl (fl_0 hk) rfl rfl ⟨rfl, rfl⟩ ⟨Nat.le_of_ble_eq_true rfl, Nat.le_of_ble_eq_true rfl⟩ rfl (Nat.le_of_ble_eq_true rfl) dX1_lift_15 ?_
    refine s_iadd O dX1_lift_18 ?_
    refine s_topi (fun n4 en4 => ?_)
    replace hf := nmi_e en4 hf
    refine s_istore_n (lv' := [(1, .int n4), (0, rf E k), (2, .int v2)]) O dX1_lift_19 rfl (by decide) rfl ?_
    refine s_iinc (v := (v2 + 1)) (lv' := [(2, .int (v2 + 1)), (1, .int n4), (0, rf E k)]) O 2 dX1_lift_20 rfl rfl (by decide) rfl ?_
    refine s_goto (tgt := 4) O dX1_lift_23 (by decide) ?_
    refine s_loc [2, 1, 0] rfl ?_
    cases hf
    exact Kc _ rfl
def fl_X1_lift_l4 (k : Nat)  (s0 : StA) (v : Int32 × Int32) : Option (StA × ((Int32))) :=
  it (fun s v => fb_X1_lift_l4 k s v.1 v.2) FU s0 v
def f_X1_lift (k : Nat) (s0 : StA) : Option (StA × Int32) :=
  bn (fl_X1_lift_l4 k s0 (0, 0)) (fun s5 u4_1 => bn (f_X5_bounded u4_1 0 60 s5) (fun s8 r9 => some (s8, r9)))
set_option maxHeartbeats 4000000 in
set_option maxRecDepth 100000 in
theorem k_X1_lift {k : Nat} (hk : isFl k) {s0 zs : StA} {rr : Int32} (hf : f_X1_lift k s0 = some (zs, rr)) : CtI cM yX1_lift cX1_lift 3 .int rm_X1_lift (fun ph => [.ref (ph k)]) s0 zs rr := by
  refine CtI.of (by decide +kernel) (fun ph => Nat.le_of_ble_eq_true rfl) (fun E O hret => ?_)
  have O : OK cM E RX1 cX1_lift 3 rm_X1_lift := O
  show WS cM E 3 0 [(0, rf E k)] [] s0
  unfold f_X1_lift at hf
  refine s_iconst (v := 0) O dX1_lift_0 rfl ?_
  refine s_istore_n (lv' := [(1, .int 0), (0, rf E k)]) O dX1_lift_1 rfl (by decide) rfl ?_
  refine s_iconst (v := 0) O dX1_lift_2 rfl ?_
  refine s_istore_n (lv' := [(2, .int 0), (1, .int 0), (0, rf E k)]) O dX1_lift_3 rfl (by decide) rfl ?_
  refine s_loc [2, 1, 0] rfl ?_
  obtain ⟨s5, u4_1, c7, hf⟩ := bn_e hf
  refine lp_of (body := fun s v => fb_X1_lift_l4 k s v.1 v.2) (X := fun s v => WS cM E 3 4 [(0, rf E k), (1, .int v.1), (2, .int v.2)] [] s) (Y := fun s e => WS cM E 3 26 [(1, .int e)] [] s) (fun s v s' w hb Kc Ke => wb_X1_lift_l4 (rr := rr) O hk  hret Kc Ke hb) FU _ _ (s5, u4_1) c7 ?_
  show WS cM E 3 26 [(1, .int u4_1)] [] s5
  refine s_iload_n O 0 dX1_lift_26 rfl rfl ?_
  refine s_iconst (v := 0) O dX1_lift_27 rfl ?_
  refine s_bipush (v := 60) O dX1_lift_28 rfl ?_
  obtain ⟨s8, r9, c10, hf⟩ := bn_e hf
  refine s_NI (As := [.int u4_1, .int 0, .int 60]) (st := []) O lk_RX1_87 (k_X5_bounded c10) rfl rfl ⟨rfl, rfl⟩ ⟨Nat.le_of_ble_eq_true rfl, Nat.le_of_ble_eq_true rfl⟩ rfl (Nat.le_of_ble_eq_true rfl) dX1_lift_30 ?_
  exact s_iret hret rfl dX1_lift_33 hf
def rm_X5_rule : Room := { frames := 3, cells := 0, slots := 0, locals := 65 }
def f_X5_rule (a1 : Int32) (s0 : StA) : Option (StA × Int32) :=
  (if a1 = 0 then some (s0, (gi s0 1 6)) else if a1 = 1 then some (s0, (gi s0 1 11)) else if a1 = 2 then some (s0, (gi s0 1 8)) else if a1 = 3 then some (s0, (gi s0 1 9)) else if a1 = 4 then bn (f_X1_lift 1 s0) (fun s1 r2 => some (s1, r2)) else if a1 = 5 then some (s0, (gi s0 1 7)) else if a1 = 6 then some (s0, (gi s0 1 10)) else if a1 = 7 then some (s0, (gi s0 6 2)) else some (s0, (-1)))
set_option maxHeartbeats 4000000 in
set_option maxRecDepth 100000 in
theorem k_X5_rule {a1 : Int32} {s0 zs : StA} {rr : Int32} (hf : f_X5_rule a1 s0 = some (zs, rr)) : CtI cM yX5_rule cX5_rule 2 .int rm_X5_rule (fun ph => [.ref (ph 0), .int a1]) s0 zs rr := by
  refine CtI.of (by decide +kernel) (fun ph => Nat.le_of_ble_eq_true rfl) (fun E O hret => ?_)
  have O : OK cM E RX5 cX5_rule 2 rm_X5_rule := O
  show WS cM E 2 0 [(0, rf E 0), (1, .int a1)] [] s0
  unfold f_X5_rule at hf
  refine s_iload_n O 1 dX5_rule_0 rfl rfl ?_
  by_cases q0 : a1 = 0
  · replace hf := if_t q0 hf
    refine s_tabE (v := 0) (tgt := 48) O dX5_rule_1 q0 (by decide) (by decide) rfl (by decide) ?_
    refine s_aload_n O 0 dX5_rule_48 rfl rfl ?_
    refine s_getR O fg_RX5_10 cs_0 rfl dX5_rule_49 ?_
    refine s_getI O fg_RX5_79 cs_1 rfl dX5_rule_52 ?_
    exact s_iret hret rfl dX5_rule_55 hf
  · replace hf := if_f q0 hf
    by_cases q1 : a1 = 1
    · replace hf := if_t q1 hf
      refine s_tabE (v := 1) (tgt := 56) O dX5_rule_1 q1 (by decide) (by decide) rfl (by decide) ?_
      refine s_aload_n O 0 dX5_rule_56 rfl rfl ?_
      refine s_getR O fg_RX5_10 cs_0 rfl dX5_rule_57 ?_
      refine s_getI O fg_RX5_82 cs_1 rfl dX5_rule_60 ?_
      exact s_iret hret rfl dX5_rule_63 hf
    · replace hf := if_f q1 hf
      by_cases q2 : a1 = 2
      · replace hf := if_t q2 hf
        refine s_tabE (v := 2) (tgt := 64) O dX5_rule_1 q2 (by decide) (by decide) rfl (by decide) ?_
        refine s_aload_n O 0 dX5_rule_64 rfl rfl ?_
        refine s_getR O fg_RX5_10 cs_0 rfl dX5_rule_65 ?_
        refine s_getI O fg_RX5_85 cs_1 rfl dX5_rule_68 ?_
        exact s_iret hret rfl dX5_rule_71 hf
      · replace hf := if_f q2 hf
        by_cases q3 : a1 = 3
        · replace hf := if_t q3 hf
          refine s_tabE (v := 3) (tgt := 72) O dX5_rule_1 q3 (by decide) (by decide) rfl (by decide) ?_
          refine s_aload_n O 0 dX5_rule_72 rfl rfl ?_
          refine s_getR O fg_RX5_10 cs_0 rfl dX5_rule_73 ?_
          refine s_getI O fg_RX5_88 cs_1 rfl dX5_rule_76 ?_
          exact s_iret hret rfl dX5_rule_79 hf
        · replace hf := if_f q3 hf
          by_cases q4 : a1 = 4
          · replace hf := if_t q4 hf
            refine s_tabE (v := 4) (tgt := 80) O dX5_rule_1 q4 (by decide) (by decide) rfl (by decide) ?_
            refine s_aload_n O 0 dX5_rule_80 rfl rfl ?_
            refine s_getR O fg_RX5_10 cs_0 rfl dX5_rule_81 ?_
            obtain ⟨s1, r2, c3, hf⟩ := bn_e hf
            refine s_VI (As := []) (st := []) O lk_RX5_91 (k_X1_lift fl_is1 c3) rfl cs_1 rfl rfl ⟨rfl, rfl⟩ ⟨Nat.le_of_ble_eq_true rfl, Nat.le_of_ble_eq_true rfl⟩ rfl (Nat.le_of_ble_eq_true rfl) dX5_rule_84 ?_
            exact s_iret hret rfl dX5_rule_87 hf
          · replace hf := if_f q4 hf
            by_cases q5 : a1 = 5
            · replace hf := if_t q5 hf
              refine s_tabE (v := 5) (tgt := 88) O dX5_rule_1 q5 (by decide) (by decide) rfl (by decide) ?_
              refine s_aload_n O 0 dX5_rule_88 rfl rfl ?_
              refine s_getR O fg_RX5_10 cs_0 rfl dX5_rule_89 ?_
              refine s_getI O fg_RX5_95 cs_1 rfl dX5_rule_92 ?_
              exact s_iret hret rfl dX5_rule_95 hf
            · replace hf := if_f q5 hf
              by_cases q6 : a1 = 6
              · replace hf := if_t q6 hf
                refine s_tabE (v := 6) (tgt := 96) O dX5_rule_1 q6 (by decide) (by decide) rfl (by decide) ?_
                refine s_aload_n O 0 dX5_rule_96 rfl rfl ?_
                refine s_getR O fg_RX5_10 cs_0 rfl dX5_rule_97 ?_
                refine s_getI O fg_RX5_98 cs_1 rfl dX5_rule_100 ?_
                exact s_iret hret rfl dX5_rule_103 hf
              · replace hf := if_f q6 hf
                by_cases q7 : a1 = 7
                · replace hf := if_t q7 hf
                  refine s_tabE (v := 7) (tgt := 104) O dX5_rule_1 q7 (by decide) (by decide) rfl (by decide) ?_
                  refine s_aload_n O 0 dX5_rule_104 rfl rfl ?_
                  refine s_getR O fg_RX5_10 cs_0 rfl dX5_rule_105 ?_
                  refine s_getR O fg_RX5_101 cs_1 rfl dX5_rule_108 ?_
                  refine s_getI O fg_RX5_105 cs_6 rfl dX5_rule_111 ?_
                  exact s_iret hret rfl dX5_rule_114 hf
                · replace hf := if_f q7 hf
                  have z0 := lv_neT q0 (a := 0) rfl
                  have z1 := lv_neT q1 (a := 1) rfl
                  have z2 := lv_neT q2 (a := 2) rfl
                  have z3 := lv_neT q3 (a := 3) rfl
                  have z4 := lv_neT q4 (a := 4) rfl
                  have z5 := lv_neT q5 (a := 5) rfl
                  have z6 := lv_neT q6 (a := 6) rfl
                  have z7 := lv_neT q7 (a := 7) rfl
                  refine s_tabO (tgt := 115) O dX5_rule_1 (by omega) (by decide) ?_
                  refine s_iconst (v := (-1)) O dX5_rule_115 rfl ?_
                  exact s_iret hret rfl dX5_rule_116 hf
def rm_X1_hasThing : Room := { frames := 1, cells := 0, slots := 0, locals := 22 }
def f_X1_hasThing (k : Nat) (a1 : Int32) (s0 : StA) : Option (StA × Int32) :=
  bn (f_X5_isIn a1 0 ((gi s0 k 6) - 1) s0) (fun s1 r2 => gz r2 (some (s1, r2)))
set_option maxHeartbeats 4000000 in
set_option maxRecDepth 100000 in
theorem k_X1_hasThing {k : Nat} {a1 : Int32} (hk : isFl k) {s0 zs : StA} {rr : Int32} (hf : f_X1_hasThing k a1 s0 = some (zs, rr)) : CtI cM yX1_hasThing cX1_hasThing 2 .boolean rm_X1_hasThing (fun ph => [.ref (ph k), .int a1]) s0 zs rr := by
  refine CtI.of (by decide +kernel) (fun ph => Nat.le_of_ble_eq_true rfl) (fun E O hret => ?_)
  have O : OK cM E RX1 cX1_hasThing 2 rm_X1_hasThing := O
  show WS cM E 2 0 [(0, rf E k), (1, .int a1)] [] s0
  unfold f_X1_hasThing at hf
  refine s_iload_n O 1 dX1_hasThing_0 rfl rfl ?_
  refine s_iconst (v := 0) O dX1_hasThing_1 rfl ?_
  refine s_aload_n O 0 dX1_hasThing_2 rfl rfl ?_
  refine s_getI O fg_RX1_46 (fl_0 hk) rfl dX1_hasThing_3 ?_
  refine s_iconst (v := 1) O dX1_hasThing_6 rfl ?_
  refine s_isub O dX1_hasThing_7 ?_
  obtain ⟨s1, r2, c3, hf⟩ := bn_e hf
  refine s_NI (As := [.int a1, .int 0, .int ((gi s0 k 6) - 1)]) (st := []) O lk_RX1_68 (k_X5_isIn c3) rfl rfl ⟨rfl, rfl⟩ ⟨Nat.le_of_ble_eq_true rfl, Nat.le_of_ble_eq_true rfl⟩ rfl (Nat.le_of_ble_eq_true rfl) dX1_hasThing_8 ?_
  obtain ⟨hz, hf⟩ := gz_e hf
  exact s_iret hret hz.nar dX1_hasThing_11 hf
def rm_X5_thing : Room := { frames := 2, cells := 0, slots := 0, locals := 43 }
def f_X5_thing (a1 : Int32) (a2 : Int32) (s0 : StA) : Option (StA × Int32) :=
  bn (f_X1_hasThing 1 a1 s0) (fun s1 r2 => (if r2 = 0 then some (s1, (-1)) else (if a2 = 0 then gd a1 6 (some (s1, (gi s1 2 a1.toNatClampNeg))) else if a2 = 1 then gd a1 6 (some (s1, (gi s1 3 a1.toNatClampNeg))) else if a2 = 2 then gd a1 6 (some (s1, (gi s1 4 a1.toNatClampNeg))) else if a2 = 3 then bn (f_X1_isSaid 1 a1 s1) (fun s7 r8 => (if r8 = 0 then some (s7, 0) else some (s7, 1))) else if a2 = 4 then bn (f_X1_liftOf 1 a1 s1) (fun s10 r11 => some (s10, (20 + r11))) else some (s1, (-1)))))
set_option maxHeartbeats 4000000 in
set_option maxRecDepth 100000 in
theorem k_X5_thing {a1 : Int32} {a2 : Int32} {s0 zs : StA} {rr : Int32} (hf : f_X5_thing a1 a2 s0 = some (zs, rr)) : CtI cM yX5_thing cX5_thing 3 .int rm_X5_thing (fun ph => [.ref (ph 0), .int a1, .int a2]) s0 zs rr := by
  refine CtI.of (by decide +kernel) (fun ph => Nat.le_of_ble_eq_true rfl) (fun E O hret => ?_)
  have O : OK cM E RX5 cX5_thing 3 rm_X5_thing := O
  show WS cM E 3 0 [(0, rf E 0), (1, .int a1), (2, .int a2)] [] s0
  unfold f_X5_thing at hf
  refine s_aload_n O 0 dX5_thing_0 rfl rfl ?_
  refine s_getR O fg_RX5_10 cs_0 rfl dX5_thing_1 ?_
  refine s_iload_n O 1 dX5_thing_4 rfl rfl ?_
  obtain ⟨s1, r2, c3, hf⟩ := bn_e hf
  refine s_VI (As := [.int a1]) (st := []) O lk_RX5_110 (k_X1_hasThing fl_is1 c3) rfl cs_1 rfl rfl ⟨rfl, rfl⟩ ⟨Nat.le_of_ble_eq_true rfl, Nat.le_of_ble_eq_true rfl⟩ rfl (Nat.le_of_ble_eq_true rfl) dX5_thing_5 ?_
  refine s_if_ne (tgt := 13) O dX5_thing_8 (by decide) (fun c => ?_) (fun c => ?_)
  · replace hf := if_f c hf
    refine s_iload_n O 2 dX5_thing_13 rfl rfl ?_
    by_cases q0 : a2 = 0
    · replace hf := if_t q0 hf
      refine s_tabE (v := 0) (tgt := 48) O dX5_thing_14 q0 (by decide) (by decide) rfl (by decide) ?_
      refine s_aload_n O 0 dX5_thing_48 rfl rfl ?_
      refine s_getR O fg_RX5_10 cs_0 rfl dX5_thing_49 ?_
      refine s_getR O fg_RX5_114 cs_1 rfl dX5_thing_52 ?_
      refine s_iload_n O 1 dX5_thing_55 rfl rfl ?_
      obtain ⟨h4, hf⟩ := gd_e hf
      refine s_iald O cs_2 h4 dX5_thing_56 ?_
      exact s_iret hret rfl dX5_thing_57 hf
    · replace hf := if_f q0 hf
      by_cases q1 : a2 = 1
      · replace hf := if_t q1 hf
        refine s_tabE (v := 1) (tgt := 58) O dX5_thing_14 q1 (by decide) (by decide) rfl (by decide) ?_
        refine s_aload_n O 0 dX5_thing_58 rfl rfl ?_
        refine s_getR O fg_RX5_10 cs_0 rfl dX5_thing_59 ?_
        refine s_getR O fg_RX5_118 cs_1 rfl dX5_thing_62 ?_
        refine s_iload_n O 1 dX5_thing_65 rfl rfl ?_
        obtain ⟨h5, hf⟩ := gd_e hf
        refine s_iald O cs_3 h5 dX5_thing_66 ?_
        exact s_iret hret rfl dX5_thing_67 hf
      · replace hf := if_f q1 hf
        by_cases q2 : a2 = 2
        · replace hf := if_t q2 hf
          refine s_tabE (v := 2) (tgt := 68) O dX5_thing_14 q2 (by decide) (by decide) rfl (by decide) ?_
          refine s_aload_n O 0 dX5_thing_68 rfl rfl ?_
          refine s_getR O fg_RX5_10 cs_0 rfl dX5_thing_69 ?_
          refine s_getR O fg_RX5_121 cs_1 rfl dX5_thing_72 ?_
          refine s_iload_n O 1 dX5_thing_75 rfl rfl ?_
          obtain ⟨h6, hf⟩ := gd_e hf
          refine s_iald O cs_4 h6 dX5_thing_76 ?_
          exact s_iret hret rfl dX5_thing_77 hf
        · replace hf := if_f q2 hf
          by_cases q3 : a2 = 3
          · replace hf := if_t q3 hf
            refine s_tabE (v := 3) (tgt := 78) O dX5_thing_14 q3 (by decide) (by decide) rfl (by decide) ?_
            refine s_aload_n O 0 dX5_thing_78 rfl rfl ?_
            refine s_getR O fg_RX5_10 cs_0 rfl dX5_thing_79 ?_
            refine s_iload_n O 1 dX5_thing_82 rfl rfl ?_
            obtain ⟨s7, r8, c9, hf⟩ := bn_e hf
            refine s_VI (As := [.int a1]) (st := []) O lk_RX5_124 (k_X1_isSaid fl_is1 c9) rfl cs_1 rfl rfl ⟨rfl, rfl⟩ ⟨Nat.le_of_ble_eq_true rfl, Nat.le_of_ble_eq_true rfl⟩ rfl (Nat.le_of_ble_eq_true rfl) dX5_thing_83 ?_
            refine s_if_eq (tgt := 93) O dX5_thing_86 (by decide) (fun c => ?_) (fun c => ?_)
            · replace hf := if_t c hf
              refine s_iconst (v := 0) O dX5_thing_93 rfl ?_
              exact s_iret hret rfl dX5_thing_94 hf
            · replace hf := if_f c hf
              refine s_iconst (v := 1) O dX5_thing_89 rfl ?_
              refine s_goto (tgt := 94) O dX5_thing_90 (by decide) ?_
              exact s_iret hret rfl dX5_thing_94 hf
          · replace hf := if_f q3 hf
            by_cases q4 : a2 = 4
            · replace hf := if_t q4 hf
              refine s_tabE (v := 4) (tgt := 95) O dX5_thing_14 q4 (by decide) (by decide) rfl (by decide) ?_
              refine s_bipush (v := 20) O dX5_thing_95 rfl ?_
              refine s_aload_n O 0 dX5_thing_97 rfl rfl ?_
              refine s_getR O fg_RX5_10 cs_0 rfl dX5_thing_98 ?_
              refine s_iload_n O 1 dX5_thing_101 rfl rfl ?_
              obtain ⟨s10, r11, c12, hf⟩ := bn_e hf
              refine s_VI (As := [.int a1]) (st := [.int 20]) O lk_RX5_127 (k_X1_liftOf fl_is1 c12) rfl cs_1 rfl rfl ⟨rfl, rfl⟩ ⟨Nat.le_of_ble_eq_true rfl, Nat.le_of_ble_eq_true rfl⟩ rfl (Nat.le_of_ble_eq_true rfl) dX5_thing_102 ?_
              refine s_iadd O dX5_thing_105 ?_
              exact s_iret hret rfl dX5_thing_106 hf
            · replace hf := if_f q4 hf
              have z0 := lv_neT q0 (a := 0) rfl
              have z1 := lv_neT q1 (a := 1) rfl
              have z2 := lv_neT q2 (a := 2) rfl
              have z3 := lv_neT q3 (a := 3) rfl
              have z4 := lv_neT q4 (a := 4) rfl
              refine s_tabO (tgt := 107) O dX5_thing_14 (by omega) (by decide) ?_
              refine s_iconst (v := (-1)) O dX5_thing_107 rfl ?_
              exact s_iret hret rfl dX5_thing_108 hf
  · replace hf := if_t c hf
    refine s_iconst (v := (-1)) O dX5_thing_11 rfl ?_
    exact s_iret hret rfl dX5_thing_12 hf
def rm_X5_isWind : Room := { frames := 1, cells := 0, slots := 0, locals := 22 }
def f_X5_isWind (a0 : Int32) (s0 : StA) : Option (StA × Int32) :=
  bn (f_X5_isIn a0 0 4 s0) (fun s1 r2 => gz r2 (some (s1, r2)))
set_option maxHeartbeats 4000000 in
set_option maxRecDepth 100000 in
theorem k_X5_isWind {a0 : Int32} {s0 zs : StA} {rr : Int32} (hf : f_X5_isWind a0 s0 = some (zs, rr)) : CtI cM yX5_isWind cX5_isWind 1 .boolean rm_X5_isWind (fun ph => [.int a0]) s0 zs rr := by
  refine CtI.of (by decide +kernel) (fun ph => Nat.le_of_ble_eq_true rfl) (fun E O hret => ?_)
  have O : OK cM E RX5 cX5_isWind 1 rm_X5_isWind := O
  show WS cM E 1 0 [(0, .int a0)] [] s0
  unfold f_X5_isWind at hf
  refine s_iload_n O 0 dX5_isWind_0 rfl rfl ?_
  refine s_iconst (v := 0) O dX5_isWind_1 rfl ?_
  refine s_iconst (v := 4) O dX5_isWind_2 rfl ?_
  obtain ⟨s1, r2, c3, hf⟩ := bn_e hf
  refine s_SI (As := [.int a0, .int 0, .int 4]) (st := []) O lk_RX5_53 (k_X5_isIn c3) rfl rfl ⟨rfl, rfl⟩ ⟨Nat.le_of_ble_eq_true rfl, Nat.le_of_ble_eq_true rfl⟩ rfl (Nat.le_of_ble_eq_true rfl) dX5_isWind_3 ?_
  obtain ⟨hz, hf⟩ := gz_e hf
  exact s_iret hret hz.nar dX5_isWind_6 hf
def rm_X5_wind : Room := { frames := 2, cells := 0, slots := 0, locals := 42 }
def f_X5_wind (a1 : Int32) (s0 : StA) : Option (StA × Int32) :=
  bn (f_X5_isWind a1 s0) (fun s1 r2 => (if r2 = 0 then some (s1, (-1)) else gd a1 5 (some (s1, (gi s1 5 a1.toNatClampNeg)))))
set_option maxHeartbeats 4000000 in
set_option maxRecDepth 100000 in
theorem k_X5_wind {a1 : Int32} {s0 zs : StA} {rr : Int32} (hf : f_X5_wind a1 s0 = some (zs, rr)) : CtI cM yX5_wind cX5_wind 2 .int rm_X5_wind (fun ph => [.ref (ph 0), .int a1]) s0 zs rr := by
  refine CtI.of (by decide +kernel) (fun ph => Nat.le_of_ble_eq_true rfl) (fun E O hret => ?_)
  have O : OK cM E RX5 cX5_wind 2 rm_X5_wind := O
  show WS cM E 2 0 [(0, rf E 0), (1, .int a1)] [] s0
  unfold f_X5_wind at hf
  refine s_iload_n O 1 dX5_wind_0 rfl rfl ?_
  obtain ⟨s1, r2, c3, hf⟩ := bn_e hf
  refine s_SI (As := [.int a1]) (st := []) O lk_RX5_130 (k_X5_isWind c3) rfl rfl ⟨rfl, rfl⟩ ⟨Nat.le_of_ble_eq_true rfl, Nat.le_of_ble_eq_true rfl⟩ rfl (Nat.le_of_ble_eq_true rfl) dX5_wind_1 ?_
  refine s_if_eq (tgt := 19) O dX5_wind_4 (by decide) (fun c => ?_) (fun c => ?_)
  · replace hf := if_t c hf
    refine s_iconst (v := (-1)) O dX5_wind_19 rfl ?_
    exact s_iret hret rfl dX5_wind_20 hf
  · replace hf := if_f c hf
    refine s_aload_n O 0 dX5_wind_7 rfl rfl ?_
    refine s_getR O fg_RX5_10 cs_0 rfl dX5_wind_8 ?_
    refine s_getR O fg_RX5_133 cs_1 rfl dX5_wind_11 ?_
    refine s_iload_n O 1 dX5_wind_14 rfl rfl ?_
    obtain ⟨h4, hf⟩ := gd_e hf
    refine s_iald O cs_5 h4 dX5_wind_15 ?_
    refine s_goto (tgt := 20) O dX5_wind_16 (by decide) ?_
    exact s_iret hret rfl dX5_wind_20 hf
def rm_X5_saying : Room := { frames := 1, cells := 0, slots := 0, locals := 22 }
def f_X5_saying (a1 : Int32) (a2 : Int32) (s0 : StA) : Option (StA × Int32) :=
  bn (f_X5_isIn a1 0 ((gi s0 6 2) - 1) s0) (fun s1 r2 => (if r2 = 0 then some (s1, (-1)) else bn (f_X5_isIn a2 0 1 s1) (fun s4 r5 => (if r5 = 0 then some (s4, (-1)) else (if a2 = 0 then gd a1 8 (some (s4, (gi s4 7 a1.toNatClampNeg))) else gd a1 8 (some (s4, (gi s4 8 a1.toNatClampNeg))))))))
set_option maxHeartbeats 4000000 in
set_option maxRecDepth 100000 in
theorem k_X5_saying {a1 : Int32} {a2 : Int32} {s0 zs : StA} {rr : Int32} (hf : f_X5_saying a1 a2 s0 = some (zs, rr)) : CtI cM yX5_saying cX5_saying 3 .int rm_X5_saying (fun ph => [.ref (ph 0), .int a1, .int a2]) s0 zs rr := by
  refine CtI.of (by decide +kernel) (fun ph => Nat.le_of_ble_eq_true rfl) (fun E O hret => ?_)
  have O : OK cM E RX5 cX5_saying 3 rm_X5_saying := O
  show WS cM E 3 0 [(0, rf E 0), (1, .int a1), (2, .int a2)] [] s0
  unfold f_X5_saying at hf
  refine s_iload_n O 1 dX5_saying_0 rfl rfl ?_
  refine s_iconst (v := 0) O dX5_saying_1 rfl ?_
  refine s_aload_n O 0 dX5_saying_2 rfl rfl ?_
  refine s_getR O fg_RX5_10 cs_0 rfl dX5_saying_3 ?_
  refine s_getR O fg_RX5_101 cs_1 rfl dX5_saying_6 ?_
  refine s_getI O fg_RX5_105 cs_6 rfl dX5_saying_9 ?_
  refine s_iconst (v := 1) O dX5_saying_12 rfl ?_
  refine s_isub O dX5_saying_13 ?_
  obtain ⟨s1, r2, c3, hf⟩ := bn_e hf
  refine s_SI (As := [.int a1, .int 0, .int ((gi s0 6 2) - 1)]) (st := []) O lk_RX5_53 (k_X5_isIn c3) rfl rfl ⟨rfl, rfl⟩ ⟨Nat.le_of_ble_eq_true rfl, Nat.le_of_ble_eq_true rfl⟩ rfl (Nat.le_of_ble_eq_true rfl) dX5_saying_14 ?_
  refine s_if_eq (tgt := 29) O dX5_saying_17 (by decide) (fun c => ?_) (fun c => ?_)
  · replace hf := if_t c hf
    refine s_iconst (v := (-1)) O dX5_saying_29 rfl ?_
    exact s_iret hret rfl dX5_saying_30 hf
  · replace hf := if_f c hf
    refine s_iload_n O 2 dX5_saying_20 rfl rfl ?_
    refine s_iconst (v := 0) O dX5_saying_21 rfl ?_
    refine s_iconst (v := 1) O dX5_saying_22 rfl ?_
    obtain ⟨s4, r5, c6, hf⟩ := bn_e hf
    refine s_SI (As := [.int a2, .int 0, .int 1]) (st := []) O lk_RX5_53 (k_X5_isIn c6) rfl rfl ⟨rfl, rfl⟩ ⟨Nat.le_of_ble_eq_true rfl, Nat.le_of_ble_eq_true rfl⟩ rfl (Nat.le_of_ble_eq_true rfl) dX5_saying_23 ?_
    refine s_if_ne (tgt := 31) O dX5_saying_26 (by decide) (fun c => ?_) (fun c => ?_)
    · replace hf := if_f c hf
      refine s_iload_n O 2 dX5_saying_31 rfl rfl ?_
      refine s_if_ne (tgt := 50) O dX5_saying_32 (by decide) (fun c => ?_) (fun c => ?_)
      · replace hf := if_f c hf
        refine s_aload_n O 0 dX5_saying_50 rfl rfl ?_
        refine s_getR O fg_RX5_10 cs_0 rfl dX5_saying_51 ?_
        refine s_getR O fg_RX5_101 cs_1 rfl dX5_saying_54 ?_
        refine s_getR O fg_RX5_139 cs_6 rfl dX5_saying_57 ?_
        refine s_iload_n O 1 dX5_saying_60 rfl rfl ?_
        obtain ⟨h7, hf⟩ := gd_e hf
        refine s_iald O cs_8 h7 dX5_saying_61 ?_
        exact s_iret hret rfl dX5_saying_62 hf
      · replace hf := if_t c hf
        refine s_aload_n O 0 dX5_saying_35 rfl rfl ?_
        refine s_getR O fg_RX5_10 cs_0 rfl dX5_saying_36 ?_
        refine s_getR O fg_RX5_101 cs_1 rfl dX5_saying_39 ?_
        refine s_getR O fg_RX5_136 cs_6 rfl dX5_saying_42 ?_
        refine s_iload_n O 1 dX5_saying_45 rfl rfl ?_
        obtain ⟨h8, hf⟩ := gd_e hf
        refine s_iald O cs_7 h8 dX5_saying_46 ?_
        refine s_goto (tgt := 62) O dX5_saying_47 (by decide) ?_
        exact s_iret hret rfl dX5_saying_62 hf
    · replace hf := if_t c hf
      refine s_iconst (v := (-1)) O dX5_saying_29 rfl ?_
      exact s_iret hret rfl dX5_saying_30 hf
def rm_X1_rowOf : Room := { frames := 0, cells := 0, slots := 0, locals := 0 }
def f_X1_rowOf (k : Nat) (a1 : Int32) (s0 : StA) : Option (StA × Nat) :=
  (if a1 = 0 then some (s0, (k + 1)) else (if a1 = 1 then some (s0, (k + 2)) else some (s0, (k + 3))))
set_option maxHeartbeats 4000000 in
set_option maxRecDepth 100000 in
theorem k_X1_rowOf {k : Nat} {a1 : Int32} (hk : isFl k) {s0 zs : StA} {rr : Nat} (hf : f_X1_rowOf k a1 s0 = some (zs, rr)) : CtR cM yX1_rowOf cX1_rowOf 2 (.array .int) rm_X1_rowOf (fun ph => [.ref (ph k), .int a1]) s0 zs rr := by
  refine CtR.of (Or.inr ⟨_, rfl⟩) (by decide +kernel) (fun ph => Nat.le_of_ble_eq_true rfl) (fun E O hret => ?_)
  have O : OK cM E RX1 cX1_rowOf 2 rm_X1_rowOf := O
  show WS cM E 2 0 [(0, rf E k), (1, .int a1)] [] s0
  unfold f_X1_rowOf at hf
  refine s_iload_n O 1 dX1_rowOf_0 rfl rfl ?_
  refine s_if_ne (tgt := 11) O dX1_rowOf_1 (by decide) (fun c => ?_) (fun c => ?_)
  · replace hf := if_f c hf
    refine s_iload_n O 1 dX1_rowOf_11 rfl rfl ?_
    refine s_iconst (v := 1) O dX1_rowOf_12 rfl ?_
    refine s_icmp_ne (tgt := 23) O dX1_rowOf_13 (by decide) (fun c => ?_) (fun c => ?_)
    · replace hf := if_f c hf
      refine s_aload_n O 0 dX1_rowOf_23 rfl rfl ?_
      refine s_getR O fg_RX1_18 (fl_0 hk) rfl dX1_rowOf_24 ?_
      exact s_aret hret dX1_rowOf_27 hf
    · replace hf := if_t c hf
      refine s_aload_n O 0 dX1_rowOf_16 rfl rfl ?_
      refine s_getR O fg_RX1_15 (fl_0 hk) rfl dX1_rowOf_17 ?_
      refine s_goto (tgt := 27) O dX1_rowOf_20 (by decide) ?_
      exact s_aret hret dX1_rowOf_27 hf
  · replace hf := if_t c hf
    refine s_aload_n O 0 dX1_rowOf_4 rfl rfl ?_
    refine s_getR O fg_RX1_9 (fl_0 hk) rfl dX1_rowOf_5 ?_
    refine s_goto (tgt := 27) O dX1_rowOf_8 (by decide) ?_
    exact s_aret hret dX1_rowOf_27 hf
def rm_X5_alter : Room := { frames := 2, cells := 0, slots := 0, locals := 43 }
def f_X5_alter (a1 : Int32) (a2 : Int32) (a3 : Int32) (s0 : StA) : Option (StA × Int32) :=
  bn (f_X1_hasThing 1 a1 s0) (fun s1 r2 => (if r2 = 0 then some (s1, (-1)) else bn (f_X5_isIn a2 0 2 s1) (fun s4 r5 => (if r5 = 0 then some (s4, (-1)) else bn (f_X5_leastOf a2 s4) (fun s7 r8 => bn (f_X5_greatestOf a2 s7) (fun s10 r11 => bn (f_X5_isIn a3 r8 r11 s10) (fun s13 r14 => (if r14 = 0 then some (s13, (-1)) else bn (f_X1_rowOf 1 a2 s13) (fun s16 r17 => gr r17 6 (gd a1 6 (nmi (gi s16 r17 a1.toNatClampNeg) (fun n21 => gd a1 6 (nms (si s16 r17 a1.toNatClampNeg a3) (fun s23 => some (s23, n21)))))))))))))))
set_option maxHeartbeats 4000000 in
set_option maxRecDepth 100000 in
theorem k_X5_alter {a1 : Int32} {a2 : Int32} {a3 : Int32} {s0 zs : StA} {rr : Int32} (hf : f_X5_alter a1 a2 a3 s0 = some (zs, rr)) : CtI cM yX5_alter cX5_alter 6 .int rm_X5_alter (fun ph => [.ref (ph 0), .int a1, .int a2, .int a3]) s0 zs rr := by
  refine CtI.of (by decide +kernel) (fun ph => Nat.le_of_ble_eq_true rfl) (fun E O hret => ?_)
  have O : OK cM E RX5 cX5_alter 6 rm_X5_alter := O
  show WS cM E 6 0 [(0, rf E 0), (1, .int a1), (2, .int a2), (3, .int a3)] [] s0
  unfold f_X5_alter at hf
  refine s_aload_n O 0 dX5_alter_0 rfl rfl ?_
  refine s_getR O fg_RX5_10 cs_0 rfl dX5_alter_1 ?_
  refine s_iload_n O 1 dX5_alter_4 rfl rfl ?_
  obtain ⟨s1, r2, c3, hf⟩ := bn_e hf
  refine s_VI (As := [.int a1]) (st := []) O lk_RX5_110 (k_X1_hasThing fl_is1 c3) rfl cs_1 rfl rfl ⟨rfl, rfl⟩ ⟨Nat.le_of_ble_eq_true rfl, Nat.le_of_ble_eq_true rfl⟩ rfl (Nat.le_of_ble_eq_true rfl) dX5_alter_5 ?_
  refine s_if_eq (tgt := 35) O dX5_alter_8 (by decide) (fun c => ?_) (fun c => ?_)
  · replace hf := if_t c hf
    refine s_iconst (v := (-1)) O dX5_alter_35 rfl ?_
    exact s_iret hret rfl dX5_alter_36 hf
  · replace hf := if_f c hf
    refine s_iload_n O 2 dX5_alter_11 rfl rfl ?_
    refine s_iconst (v := 0) O dX5_alter_12 rfl ?_
    refine s_iconst (v := 2) O dX5_alter_13 rfl ?_
    obtain ⟨s4, r5, c6, hf⟩ := bn_e hf
    refine s_SI (As := [.int a2, .int 0, .int 2]) (st := []) O lk_RX5_53 (k_X5_isIn c6) rfl rfl ⟨rfl, rfl⟩ ⟨Nat.le_of_ble_eq_true rfl, Nat.le_of_ble_eq_true rfl⟩ rfl (Nat.le_of_ble_eq_true rfl) dX5_alter_14 ?_
    refine s_if_eq (tgt := 35) O dX5_alter_17 (by decide) (fun c => ?_) (fun c => ?_)
    · replace hf := if_t c hf
      refine s_iconst (v := (-1)) O dX5_alter_35 rfl ?_
      exact s_iret hret rfl dX5_alter_36 hf
    · replace hf := if_f c hf
      refine s_iload_n O 3 dX5_alter_20 rfl rfl ?_
      refine s_iload_n O 2 dX5_alter_21 rfl rfl ?_
      obtain ⟨s7, r8, c9, hf⟩ := bn_e hf
      refine s_SI (As := [.int a2]) (st := [.int a3]) O lk_RX5_142 (k_X5_leastOf c9) rfl rfl ⟨rfl, rfl⟩ ⟨Nat.le_of_ble_eq_true rfl, Nat.le_of_ble_eq_true rfl⟩ rfl (Nat.le_of_ble_eq_true rfl) dX5_alter_22 ?_
      refine s_iload_n O 2 dX5_alter_25 rfl rfl ?_
      obtain ⟨s10, r11, c12, hf⟩ := bn_e hf
      refine s_SI (As := [.int a2]) (st := [.int r8, .int a3]) O lk_RX5_145 (k_X5_greatestOf c12) rfl rfl ⟨rfl, rfl⟩ ⟨Nat.le_of_ble_eq_true rfl, Nat.le_of_ble_eq_true rfl⟩ rfl (Nat.le_of_ble_eq_true rfl) dX5_alter_26 ?_
      obtain ⟨s13, r14, c15, hf⟩ := bn_e hf
      refine s_SI (As := [.int a3, .int r8, .int r11]) (st := []) O lk_RX5_53 (k_X5_isIn c15) rfl rfl ⟨rfl, rfl⟩ ⟨Nat.le_of_ble_eq_true rfl, Nat.le_of_ble_eq_true rfl⟩ rfl (Nat.le_of_ble_eq_true rfl) dX5_alter_29 ?_
      refine s_if_ne (tgt := 37) O dX5_alter_32 (by decide) (fun c => ?_) (fun c => ?_)
      · replace hf := if_f c hf
        refine s_aload_n O 0 dX5_alter_37 rfl rfl ?_
        refine s_getR O fg_RX5_10 cs_0 rfl dX5_alter_38 ?_
        refine s_iload_n O 2 dX5_alter_41 rfl rfl ?_
        obtain ⟨s16, r17, c18, hf⟩ := bn_e hf
        refine s_VR (As := [.int a2]) (st := []) O lk_RX5_148 (k_X1_rowOf fl_is1 c18) rfl cs_1 rfl rfl ⟨rfl, rfl⟩ ⟨Nat.le_of_ble_eq_true rfl, Nat.le_of_ble_eq_true rfl⟩ rfl (Nat.le_of_ble_eq_true rfl) dX5_alter_42 ?_
        obtain ⟨h19, hf⟩ := gr_e hf
        refine s_astore (lv' := [(4, rf E r17), (0, rf E 0), (1, .int a1), (2, .int a2), (3, .int a3)]) O dX5_alter_45 (by decide) rfl ?_
        refine s_aload O 0 dX5_alter_47 rfl ?_
        refine s_iload_n O 2 dX5_alter_49 rfl rfl ?_
        obtain ⟨h20, hf⟩ := gd_e hf
        refine s_iald O h19 h20 dX5_alter_50 ?_
        refine s_topi (fun n21 en21 => ?_)
        replace hf := nmi_e en21 hf
        refine s_istore (lv' := [(5, .int n21), (4, rf E r17), (0, rf E 0), (1, .int a1), (2, .int a2), (3, .int a3)]) O dX5_alter_51 (by decide) rfl ?_
        refine s_aload O 1 dX5_alter_53 rfl ?_
        refine s_iload_n O 3 dX5_alter_55 rfl rfl ?_
        refine s_iload_n O 5 dX5_alter_56 rfl rfl ?_
        obtain ⟨h22, hf⟩ := gd_e hf
        refine s_iast O h19 h22 dX5_alter_57 ?_
        refine s_tops (fun s23 es23 => ?_)
        replace hf := nms_e es23 hf
        refine s_iload O 0 dX5_alter_58 rfl ?_
        exact s_iret hret rfl dX5_alter_60 hf
      · replace hf := if_t c hf
        refine s_iconst (v := (-1)) O dX5_alter_35 rfl ?_
        exact s_iret hret rfl dX5_alter_36 hf
