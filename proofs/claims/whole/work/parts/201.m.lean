def rm_X3_nextToken : Room := { frames := 1, cells := 0, slots := 0, locals := 24 }
def fj_X3_nextToken_j46   (y0 : Int32) (s0 : StA) : Option (StA × (Int32)) :=
  nms (si s0 47 6 y0) (fun s6 => nmi (gi s6 47 6) (fun n7 => (if n7 = 0 then some (s6, 1) else if n7 = 1 then bn (f_X3_endOfRun 1 (gi s6 47 5) s6) (fun s8 r9 => nms (si s8 47 5 r9) (fun s11 => some (s11, 1))) else if n7 = 2 then bn (f_X3_endOfRun 2 (gi s6 47 5) s6) (fun s12 r13 => nms (si s12 47 5 r13) (fun s15 => bn (f_X3_valueOf (gi s15 47 7) (gi s15 47 5) s15) (fun s16 r17 => nms (si s16 47 8 r17) (fun s19 => (if ((gi s19 47 5) - (gi s19 47 7)) ≤ 2 then some (s19, 1) else bn (f_X3_failAt (gi s19 47 7) 1 s19) (fun s20 r21 => (if r21 = 0 then some (s20, 0) else some (s20, 1)))))))) else if n7 = 3 then nms (si s6 47 5 ((gi s6 47 5) + 1)) (fun s23 => some (s23, 1)) else bn (f_X3_failAt (gi s6 47 7) 1 s6) (fun s24 r25 => gz r25 (some (s24, r25))))))
set_option maxHeartbeats 4000000 in
set_option maxRecDepth 100000 in
theorem wj_X3_nextToken_j46 {E : XC} (O : OK cM E RX3 cX3_nextToken 1 rm_X3_nextToken)    {y0 : Int32} {s0 : StA} {zs : StA} {rr : Int32} (hret : ReI cM E .boolean cX3_nextToken zs rr) (hf : fj_X3_nextToken_j46 y0 s0 = some (zs, rr)) : WS cM E 1 46 [(0, rf E 47)] [.int y0, rf E 47] s0 := by
  unfold fj_X3_nextToken_j46 at hf
  refine s_putI O fp_RX3_42 cs_47 rfl dX3_nextToken_46 ?_
  refine s_tops (fun s6 es6 => ?_)
  replace hf := nms_e es6 hf
  refine s_aload_n O 0 dX3_nextToken_49 rfl rfl ?_
  refine s_getI O fg_RX3_42 cs_47 rfl dX3_nextToken_50 ?_
  refine s_topi (fun n7 en7 => ?_)
  replace hf := nmi_e en7 hf
  by_cases q0 : n7 = 0
  · replace hf := if_t q0 hf
    refine s_tabE (v := 0) (tgt := 171) O dX3_nextToken_53 q0 (by decide) (by decide) rfl (by decide) ?_
    refine s_iconst (v := 1) O dX3_nextToken_171 rfl ?_
    exact s_iret hret rfl dX3_nextToken_172 hf
  · replace hf := if_f q0 hf
    by_cases q1 : n7 = 1
    · replace hf := if_t q1 hf
      refine s_tabE (v := 1) (tgt := 84) O dX3_nextToken_53 q1 (by decide) (by decide) rfl (by decide) ?_
      refine s_aload_n O 0 dX3_nextToken_84 rfl rfl ?_
      refine s_aload_n O 0 dX3_nextToken_85 rfl rfl ?_
      refine s_iconst (v := 1) O dX3_nextToken_86 rfl ?_
      refine s_aload_n O 0 dX3_nextToken_87 rfl rfl ?_
      refine s_getI O fg_RX3_55 cs_47 rfl dX3_nextToken_88 ?_
      obtain ⟨s8, r9, c10, hf⟩ := bn_e hf
      refine s_VI (As := [.int 1, .int (gi s6 47 5)]) (st := [rf E 47]) O lk_RX3_68 (k_X3_endOfRun c10) rfl cs_47 rfl rfl ⟨rfl, rfl⟩ ⟨Nat.le_of_ble_eq_true rfl, Nat.le_of_ble_eq_true rfl⟩ rfl (Nat.le_of_ble_eq_true rfl) dX3_nextToken_91 ?_
      refine s_putI O fp_RX3_55 cs_47 rfl dX3_nextToken_94 ?_
      refine s_tops (fun s11 es11 => ?_)
      replace hf := nms_e es11 hf
      refine s_iconst (v := 1) O dX3_nextToken_97 rfl ?_
      exact s_iret hret rfl dX3_nextToken_98 hf
    · replace hf := if_f q1 hf
      by_cases q2 : n7 = 2
      · replace hf := if_t q2 hf
        refine s_tabE (v := 2) (tgt := 99) O dX3_nextToken_53 q2 (by decide) (by decide) rfl (by decide) ?_
        refine s_aload_n O 0 dX3_nextToken_99 rfl rfl ?_
        refine s_aload_n O 0 dX3_nextToken_100 rfl rfl ?_
        refine s_iconst (v := 2) O dX3_nextToken_101 rfl ?_
        refine s_aload_n O 0 dX3_nextToken_102 rfl rfl ?_
        refine s_getI O fg_RX3_55 cs_47 rfl dX3_nextToken_103 ?_
        obtain ⟨s12, r13, c14, hf⟩ := bn_e hf
        refine s_VI (As := [.int 2, .int (gi s6 47 5)]) (st := [rf E 47]) O lk_RX3_68 (k_X3_endOfRun c14) rfl cs_47 rfl rfl ⟨rfl, rfl⟩ ⟨Nat.le_of_ble_eq_true rfl, Nat.le_of_ble_eq_true rfl⟩ rfl (Nat.le_of_ble_eq_true rfl) dX3_nextToken_106 ?_
        refine s_putI O fp_RX3_55 cs_47 rfl dX3_nextToken_109 ?_
        refine s_tops (fun s15 es15 => ?_)
        replace hf := nms_e es15 hf
        refine s_aload_n O 0 dX3_nextToken_112 rfl rfl ?_
        refine s_aload_n O 0 dX3_nextToken_113 rfl rfl ?_
        refine s_aload_n O 0 dX3_nextToken_114 rfl rfl ?_
        refine s_getI O fg_RX3_72 cs_47 rfl dX3_nextToken_115 ?_
        refine s_aload_n O 0 dX3_nextToken_118 rfl rfl ?_
        refine s_getI O fg_RX3_55 cs_47 rfl dX3_nextToken_119 ?_
        obtain ⟨s16, r17, c18, hf⟩ := bn_e hf
        refine s_VI (As := [.int (gi s15 47 7), .int (gi s15 47 5)]) (st := [rf E 47]) O lk_RX3_75 (k_X3_valueOf c18) rfl cs_47 rfl rfl ⟨rfl, rfl⟩ ⟨Nat.le_of_ble_eq_true rfl, Nat.le_of_ble_eq_true rfl⟩ rfl (Nat.le_of_ble_eq_true rfl) dX3_nextToken_122 ?_
        refine s_putI O fp_RX3_78 cs_47 rfl dX3_nextToken_125 ?_
        refine s_tops (fun s19 es19 => ?_)
        replace hf := nms_e es19 hf
        refine s_aload_n O 0 dX3_nextToken_128 rfl rfl ?_
        refine s_getI O fg_RX3_55 cs_47 rfl dX3_nextToken_129 ?_
        refine s_aload_n O 0 dX3_nextToken_132 rfl rfl ?_
        refine s_getI O fg_RX3_72 cs_47 rfl dX3_nextToken_133 ?_
        refine s_isub O dX3_nextToken_136 ?_
        refine s_iconst (v := 2) O dX3_nextToken_137 rfl ?_
        refine s_icmp_le (tgt := 153) O dX3_nextToken_138 (by decide) (fun c => ?_) (fun c => ?_)
        · replace hf := if_t c hf
          refine s_iconst (v := 1) O dX3_nextToken_153 rfl ?_
          refine s_goto (tgt := 158) O dX3_nextToken_154 (by decide) ?_
          exact s_iret hret rfl dX3_nextToken_158 hf
        · replace hf := if_f c hf
          refine s_aload_n O 0 dX3_nextToken_141 rfl rfl ?_
          refine s_aload_n O 0 dX3_nextToken_142 rfl rfl ?_
          refine s_getI O fg_RX3_72 cs_47 rfl dX3_nextToken_143 ?_
          refine s_iconst (v := 1) O dX3_nextToken_146 rfl ?_
          obtain ⟨s20, r21, c22, hf⟩ := bn_e hf
          refine s_VI (As := [.int (gi s19 47 7), .int 1]) (st := []) O lk_RX3_81 (k_X3_failAt c22) rfl cs_47 rfl rfl ⟨rfl, rfl⟩ ⟨Nat.le_of_ble_eq_true rfl, Nat.le_of_ble_eq_true rfl⟩ rfl (Nat.le_of_ble_eq_true rfl) dX3_nextToken_147 ?_
          refine s_if_eq (tgt := 157) O dX3_nextToken_150 (by decide) (fun c => ?_) (fun c => ?_)
          · replace hf := if_t c hf
            refine s_iconst (v := 0) O dX3_nextToken_157 rfl ?_
            exact s_iret hret rfl dX3_nextToken_158 hf
          · replace hf := if_f c hf
            refine s_iconst (v := 1) O dX3_nextToken_153 rfl ?_
            refine s_goto (tgt := 158) O dX3_nextToken_154 (by decide) ?_
            exact s_iret hret rfl dX3_nextToken_158 hf
      · replace hf := if_f q2 hf
        by_cases q3 : n7 = 3
        · replace hf := if_t q3 hf
          refine s_tabE (v := 3) (tgt := 159) O dX3_nextToken_53 q3 (by decide) (by decide) rfl (by decide) ?_
          refine s_aload_n O 0 dX3_nextToken_159 rfl rfl ?_
          refine s_dup O dX3_nextToken_160 rfl ?_
          refine s_getI O fg_RX3_55 cs_47 rfl dX3_nextToken_161 ?_
          refine s_iconst (v := 1) O dX3_nextToken_164 rfl ?_
          refine s_iadd O dX3_nextToken_165 ?_
          refine s_putI O fp_RX3_55 cs_47 rfl dX3_nextToken_166 ?_
          refine s_tops (fun s23 es23 => ?_)
          replace hf := nms_e es23 hf
          refine s_iconst (v := 1) O dX3_nextToken_169 rfl ?_
          exact s_iret hret rfl dX3_nextToken_170 hf
        · replace hf := if_f q3 hf
          have z0 := lv_neT q0 (a := 0) rfl
          have z1 := lv_neT q1 (a := 1) rfl
          have z2 := lv_neT q2 (a := 2) rfl
          have z3 := lv_neT q3 (a := 3) rfl
          refine s_tabO (tgt := 173) O dX3_nextToken_53 (by omega) (by decide) ?_
          refine s_aload_n O 0 dX3_nextToken_173 rfl rfl ?_
          refine s_aload_n O 0 dX3_nextToken_174 rfl rfl ?_
          refine s_getI O fg_RX3_72 cs_47 rfl dX3_nextToken_175 ?_
          refine s_iconst (v := 1) O dX3_nextToken_178 rfl ?_
          obtain ⟨s24, r25, c26, hf⟩ := bn_e hf
          refine s_VI (As := [.int (gi s6 47 7), .int 1]) (st := []) O lk_RX3_81 (k_X3_failAt c26) rfl cs_47 rfl rfl ⟨rfl, rfl⟩ ⟨Nat.le_of_ble_eq_true rfl, Nat.le_of_ble_eq_true rfl⟩ rfl (Nat.le_of_ble_eq_true rfl) dX3_nextToken_179 ?_
          obtain ⟨hz, hf⟩ := gz_e hf
          exact s_iret hret hz.nar dX3_nextToken_182 hf
def f_X3_nextToken  (s0 : StA) : Option (StA × Int32) :=
  bn (f_X3_endOfRun 4 (gi s0 47 5) s0) (fun s1 r2 => nms (si s1 47 5 r2) (fun s4 => nms (si s4 47 7 (gi s4 47 5)) (fun s5 => (if (gi s5 47 2) ≤ (gi s5 47 5) then fj_X3_nextToken_j46 0 s5 else gd (gi s5 47 5) 160 (fj_X3_nextToken_j46 (gi s5 49 (gi s5 47 5).toNatClampNeg) s5)))))
set_option maxHeartbeats 4000000 in
set_option maxRecDepth 100000 in
theorem k_X3_nextToken  {s0 zs : StA} {rr : Int32} (hf : f_X3_nextToken  s0 = some (zs, rr)) : CtI cM yX3_nextToken cX3_nextToken 1 .boolean rm_X3_nextToken (fun ph => [.ref (ph 47)]) s0 zs rr := by
  refine CtI.of (by decide +kernel) (fun ph => Nat.le_of_ble_eq_true rfl) (fun E O hret => ?_)
  have O : OK cM E RX3 cX3_nextToken 1 rm_X3_nextToken := O
  show WS cM E 1 0 [(0, rf E 47)] [] s0
  unfold f_X3_nextToken at hf
  refine s_aload_n O 0 dX3_nextToken_0 rfl rfl ?_
  refine s_aload_n O 0 dX3_nextToken_1 rfl rfl ?_
  refine s_iconst (v := 4) O dX3_nextToken_2 rfl ?_
  refine s_aload_n O 0 dX3_nextToken_3 rfl rfl ?_
  refine s_getI O fg_RX3_55 cs_47 rfl dX3_nextToken_4 ?_
  obtain ⟨s1, r2, c3, hf⟩ := bn_e hf
  refine s_VI (As := [.int 4, .int (gi s0 47 5)]) (st := [rf E 47]) O lk_RX3_68 (k_X3_endOfRun c3) rfl cs_47 rfl rfl ⟨rfl, rfl⟩ ⟨Nat.le_of_ble_eq_true rfl, Nat.le_of_ble_eq_true rfl⟩ rfl (Nat.le_of_ble_eq_true rfl) dX3_nextToken_7 ?_
  refine s_putI O fp_RX3_55 cs_47 rfl dX3_nextToken_10 ?_
  refine s_tops (fun s4 es4 => ?_)
  replace hf := nms_e es4 hf
  refine s_aload_n O 0 dX3_nextToken_13 rfl rfl ?_
  refine s_aload_n O 0 dX3_nextToken_14 rfl rfl ?_
  refine s_getI O fg_RX3_55 cs_47 rfl dX3_nextToken_15 ?_
  refine s_putI O fp_RX3_72 cs_47 rfl dX3_nextToken_18 ?_
  refine s_tops (fun s5 es5 => ?_)
  replace hf := nms_e es5 hf
  refine s_aload_n O 0 dX3_nextToken_21 rfl rfl ?_
  refine s_aload_n O 0 dX3_nextToken_22 rfl rfl ?_
  refine s_getI O fg_RX3_55 cs_47 rfl dX3_nextToken_23 ?_
  refine s_aload_n O 0 dX3_nextToken_26 rfl rfl ?_
  refine s_getI O fg_RX3_18 cs_47 rfl dX3_nextToken_27 ?_
  refine s_icmp_ge (tgt := 45) O dX3_nextToken_30 (by decide) (fun c => ?_) (fun c => ?_)
  · replace hf := if_t c hf
    refine s_iconst (v := 0) O dX3_nextToken_45 rfl ?_
    exact wj_X3_nextToken_j46 (rr := rr) O   hret hf
  · replace hf := if_f c hf
    refine s_aload_n O 0 dX3_nextToken_33 rfl rfl ?_
    refine s_getR O fg_RX3_15 cs_47 rfl dX3_nextToken_34 ?_
    refine s_aload_n O 0 dX3_nextToken_37 rfl rfl ?_
    refine s_getI O fg_RX3_55 cs_47 rfl dX3_nextToken_38 ?_
    obtain ⟨h27, hf⟩ := gd_e hf
    refine s_iald O cs_49 h27 dX3_nextToken_41 ?_
    refine s_goto (tgt := 46) O dX3_nextToken_42 (by decide) ?_
    exact wj_X3_nextToken_j46 (rr := rr) O   hret hf
def rm_X3_nameIs : Room := { frames := 4, cells := 0, slots := 0, locals := 85 }
def fb_X3_nameIs_l20 (a1 : Nat)  (s0 : StA) (v2 : Int32) : Option (StA × ((Int32) ⊕ ((Unit) ⊕ Int32))) :=
  (if (Int32.ofNat (js_n a1)) ≤ v2 then some (s0, .inr (.inl ())) else gd ((gi s0 47 7) + v2) 160 (gd v2 (js_n a1) ((if (gi s0 48 ((gi s0 47 7) + v2).toNatClampNeg) = (js_c a1 v2.toNatClampNeg) then some (s0, .inl (v2 + 1)) else some (s0, .inr (.inr 0))))))
set_option maxHeartbeats 4000000 in
set_option maxRecDepth 100000 in
theorem wb_X3_nameIs_l20 {E : XC} (O : OK cM E RX3 cX3_nameIs 3 rm_X3_nameIs) {a1 : Nat} (ha1 : isStr a1)   {s0 : StA} {v2 : Int32} {zs : StA} {rr : Int32} (hret : ReI cM E .boolean cX3_nameIs zs rr) {bs : StA} {bw : (Int32) ⊕ ((Unit) ⊕ Int32)} (Kc : ∀ v, bw = .inl v → WS cM E 3 20 [(0, rf E 47), (1, rf E a1), (2, .int v)] [] bs) (Ke : ∀ e, bw = .inr (.inl e) → WS cM E 3 55 [] [] bs) (Kr : ∀ r, bw = .inr (.inr r) → some (bs, r) = some (zs, rr)) (hf : fb_X3_nameIs_l20 a1 s0 v2 = some (bs, bw)) : WS cM E 3 20 [(0, rf E 47), (1, rf E a1), (2, .int v2)] [] s0 := by
  unfold fb_X3_nameIs_l20 at hf
  refine s_iload_n O 2 dX3_nameIs_20 rfl rfl ?_
  refine s_aload_n O 1 dX3_nameIs_21 rfl rfl ?_
  refine s_WI (As := []) (st := [.int v2]) O ha1 rfl lk_RX3_124 (k_strlen ha1 s0) rfl rfl ⟨rfl, rfl⟩ ⟨Nat.le_of_ble_eq_true rfl, Nat.le_of_ble_eq_true rfl⟩ rfl (Nat.le_of_ble_eq_true rfl) dX3_nameIs_22 ?_
  refine s_icmp_ge (tgt := 55) O dX3_nameIs_25 (by decide) (fun c => ?_) (fun c => ?_)
  · replace hf := if_t c hf
    refine s_loc [] rfl ?_
    cases hf
    exact Ke _ rfl
  · replace hf := if_f c hf
    refine s_aload_n O 0 dX3_nameIs_28 rfl rfl ?_
    refine s_getR O fg_RX3_9 cs_47 rfl dX3_nameIs_29 ?_
    refine s_aload_n O 0 dX3_nameIs_32 rfl rfl ?_
    refine s_getI O fg_RX3_72 cs_47 rfl dX3_nameIs_33 ?_
    refine s_iload_n O 2 dX3_nameIs_36 rfl rfl ?_
    refine s_iadd O dX3_nameIs_37 ?_
    obtain ⟨h1, hf⟩ := gd_e hf
    refine s_iald O cs_48 h1 dX3_nameIs_38 ?_
    refine s_aload_n O 1 dX3_nameIs_39 rfl rfl ?_
    refine s_iload_n O 2 dX3_nameIs_40 rfl rfl ?_
    obtain ⟨h2, hf⟩ := gd_e hf
    refine s_WI (As := [.int v2]) (st := [.int (gi s0 48 ((gi s0 47 7) + v2).toNatClampNeg)]) O ha1 rfl lk_RX3_128 (k_schr ha1 h2 s0) rfl rfl ⟨rfl, rfl⟩ ⟨Nat.le_of_ble_eq_true rfl, Nat.le_of_ble_eq_true rfl⟩ rfl (Nat.le_of_ble_eq_true rfl) dX3_nameIs_41 ?_
    refine s_icmp_eq (tgt := 49) O dX3_nameIs_44 (by decide) (fun c => ?_) (fun c => ?_)
    · replace hf := if_t c hf
      refine s_iinc (v := (v2 + 1)) (lv' := [(2, .int (v2 + 1)), (0, rf E 47), (1, rf E a1)]) O 2 dX3_nameIs_49 rfl rfl (by decide) rfl ?_
      refine s_goto (tgt := 20) O dX3_nameIs_52 (by decide) ?_
      refine s_loc [1, 2, 0] rfl ?_
      cases hf
      exact Kc _ rfl
    · replace hf := if_f c hf
      refine s_iconst (v := 0) O dX3_nameIs_47 rfl ?_
      cases hf
      exact s_iret hret rfl dX3_nameIs_48 (Kr _ rfl)
def fl_X3_nameIs_l20 (a1 : Nat)  (s0 : StA) (v : Int32) : Option (StA × (((Unit) ⊕ Int32))) :=
  it (fun s v => fb_X3_nameIs_l20 a1 s v) FU s0 v
def f_X3_nameIs (a1 : Nat) (s0 : StA) : Option (StA × Int32) :=
  (if ((gi s0 47 5) - (gi s0 47 7)) = (Int32.ofNat (js_n a1)) then bn (fl_X3_nameIs_l20 a1 s0 0) (fun s3 e4 => match e4 with | .inl _ => some (s3, 1) | .inr q20 => some (s3, q20)) else some (s0, 0))
set_option maxHeartbeats 4000000 in
set_option maxRecDepth 100000 in
theorem k_X3_nameIs {a1 : Nat} (ha1 : isStr a1) {s0 zs : StA} {rr : Int32} (hf : f_X3_nameIs a1 s0 = some (zs, rr)) : CtI cM yX3_nameIs cX3_nameIs 3 .boolean rm_X3_nameIs (fun ph => [.ref (ph 47), .ref (ph a1)]) s0 zs rr := by
  refine CtI.of (by decide +kernel) (fun ph => Nat.le_of_ble_eq_true rfl) (fun E O hret => ?_)
  have O : OK cM E RX3 cX3_nameIs 3 rm_X3_nameIs := O
  show WS cM E 3 0 [(0, rf E 47), (1, rf E a1)] [] s0
  unfold f_X3_nameIs at hf
  refine s_aload_n O 0 dX3_nameIs_0 rfl rfl ?_
  refine s_getI O fg_RX3_55 cs_47 rfl dX3_nameIs_1 ?_
  refine s_aload_n O 0 dX3_nameIs_4 rfl rfl ?_
  refine s_getI O fg_RX3_72 cs_47 rfl dX3_nameIs_5 ?_
  refine s_isub O dX3_nameIs_8 ?_
  refine s_aload_n O 1 dX3_nameIs_9 rfl rfl ?_
  refine s_WI (As := []) (st := [.int ((gi s0 47 5) - (gi s0 47 7))]) O ha1 rfl lk_RX3_124 (k_strlen ha1 s0) rfl rfl ⟨rfl, rfl⟩ ⟨Nat.le_of_ble_eq_true rfl, Nat.le_of_ble_eq_true rfl⟩ rfl (Nat.le_of_ble_eq_true rfl) dX3_nameIs_10 ?_
  refine s_icmp_eq (tgt := 18) O dX3_nameIs_13 (by decide) (fun c => ?_) (fun c => ?_)
  · replace hf := if_t c hf
    refine s_iconst (v := 0) O dX3_nameIs_18 rfl ?_
    refine s_istore_n (lv' := [(2, .int 0), (0, rf E 47), (1, rf E a1)]) O dX3_nameIs_19 rfl (by decide) rfl ?_
    refine s_loc [1, 2, 0] rfl ?_
    obtain ⟨s3, e4, c5, hf⟩ := bn_e hf
    refine lp_of (body := fun s v => fb_X3_nameIs_l20 a1 s v) (X := fun s v => WS cM E 3 20 [(0, rf E 47), (1, rf E a1), (2, .int v)] [] s) (Y := fun s e => match e with | .inl e => WS cM E 3 55 [] [] s | .inr r => some (s, r) = some (zs, rr)) (fun s v s' w hb Kc Ke => wb_X3_nameIs_l20 (rr := rr) O ha1  hret Kc (fun e he => Ke (.inl e) he) (fun r he => Ke (.inr r) he) hb) FU _ _ (s3, e4) c5 ?_
    rcases e4 with e4 | q20
    · show WS cM E 3 55 [] [] s3
      refine s_iconst (v := 1) O dX3_nameIs_55 rfl ?_
      exact s_iret hret rfl dX3_nameIs_56 hf
    · exact hf
  · replace hf := if_f c hf
    refine s_iconst (v := 0) O dX3_nameIs_16 rfl ?_
    exact s_iret hret rfl dX3_nameIs_17 hf
def rm_X3_wordOf : Room := { frames := 0, cells := 0, slots := 0, locals := 0 }
def f_X3_wordOf (a0 : Int32) (s0 : StA) : Option (StA × Nat) :=
  (if a0 = 0 then some (s0, 100) else if a0 = 1 then some (s0, 101) else if a0 = 2 then some (s0, 102) else if a0 = 3 then some (s0, 103) else if a0 = 4 then some (s0, 104) else if a0 = 5 then some (s0, 105) else some (s0, 106))
set_option maxHeartbeats 4000000 in
set_option maxRecDepth 100000 in
theorem k_X3_wordOf {a0 : Int32} {s0 zs : StA} {rr : Nat} (hf : f_X3_wordOf a0 s0 = some (zs, rr)) : CtR cM yX3_wordOf cX3_wordOf 1 (.object "java/lang/String") rm_X3_wordOf (fun ph => [.int a0]) s0 zs rr := by
  refine CtR.of (Or.inl ⟨_, rfl⟩) (by decide +kernel) (fun ph => Nat.le_of_ble_eq_true rfl) (fun E O hret => ?_)
  have O : OK cM E RX3 cX3_wordOf 1 rm_X3_wordOf := O
  show WS cM E 1 0 [(0, .int a0)] [] s0
  unfold f_X3_wordOf at hf
  refine s_iload_n O 0 dX3_wordOf_0 rfl rfl ?_
  by_cases q0 : a0 = 0
  · replace hf := if_t q0 hf
    refine s_tabE (v := 0) (tgt := 40) O dX3_wordOf_1 q0 (by decide) (by decide) rfl (by decide) ?_
    refine s_ldcS (i := 0) O (by decide) rfl dX3_wordOf_40 ?_
    exact s_aret hret dX3_wordOf_42 hf
  · replace hf := if_f q0 hf
    by_cases q1 : a0 = 1
    · replace hf := if_t q1 hf
      refine s_tabE (v := 1) (tgt := 43) O dX3_wordOf_1 q1 (by decide) (by decide) rfl (by decide) ?_
      refine s_ldcS (i := 1) O (by decide) rfl dX3_wordOf_43 ?_
      exact s_aret hret dX3_wordOf_45 hf
    · replace hf := if_f q1 hf
      by_cases q2 : a0 = 2
      · replace hf := if_t q2 hf
        refine s_tabE (v := 2) (tgt := 46) O dX3_wordOf_1 q2 (by decide) (by decide) rfl (by decide) ?_
        refine s_ldcS (i := 2) O (by decide) rfl dX3_wordOf_46 ?_
        exact s_aret hret dX3_wordOf_48 hf
      · replace hf := if_f q2 hf
        by_cases q3 : a0 = 3
        · replace hf := if_t q3 hf
          refine s_tabE (v := 3) (tgt := 49) O dX3_wordOf_1 q3 (by decide) (by decide) rfl (by decide) ?_
          refine s_ldcS (i := 3) O (by decide) rfl dX3_wordOf_49 ?_
          exact s_aret hret dX3_wordOf_51 hf
        · replace hf := if_f q3 hf
          by_cases q4 : a0 = 4
          · replace hf := if_t q4 hf
            refine s_tabE (v := 4) (tgt := 52) O dX3_wordOf_1 q4 (by decide) (by decide) rfl (by decide) ?_
            refine s_ldcS (i := 4) O (by decide) rfl dX3_wordOf_52 ?_
            exact s_aret hret dX3_wordOf_54 hf
          · replace hf := if_f q4 hf
            by_cases q5 : a0 = 5
            · replace hf := if_t q5 hf
              refine s_tabE (v := 5) (tgt := 55) O dX3_wordOf_1 q5 (by decide) (by decide) rfl (by decide) ?_
              refine s_ldcS (i := 5) O (by decide) rfl dX3_wordOf_55 ?_
              exact s_aret hret dX3_wordOf_57 hf
            · replace hf := if_f q5 hf
              have z0 := lv_neT q0 (a := 0) rfl
              have z1 := lv_neT q1 (a := 1) rfl
              have z2 := lv_neT q2 (a := 2) rfl
              have z3 := lv_neT q3 (a := 3) rfl
              have z4 := lv_neT q4 (a := 4) rfl
              have z5 := lv_neT q5 (a := 5) rfl
              refine s_tabO (tgt := 58) O dX3_wordOf_1 (by omega) (by decide) ?_
              refine s_ldcS (i := 6) O (by decide) rfl dX3_wordOf_58 ?_
              exact s_aret hret dX3_wordOf_60 hf
def rm_X3_lineOfName : Room := { frames := 5, cells := 0, slots := 0, locals := 107 }
def fb_X3_lineOfName_l2   (s0 : StA) (v1 : Int32) : Option (StA × ((Int32) ⊕ ((Unit) ⊕ Int32))) :=
  (if 7 ≤ v1 then some (s0, .inr (.inl ())) else bn (f_X3_wordOf v1 s0) (fun s1 r2 => gst r2 (bn (f_X3_nameIs r2 s1) (fun s5 r6 => (if r6 = 0 then some (s5, .inl (v1 + 1)) else some (s5, .inr (.inr v1)))))))
set_option maxHeartbeats 4000000 in
set_option maxRecDepth 100000 in
theorem wb_X3_lineOfName_l2 {E : XC} (O : OK cM E RX3 cX3_lineOfName 2 rm_X3_lineOfName)    {s0 : StA} {v1 : Int32} {zs : StA} {rr : Int32} (hret : ReI cM E .int cX3_lineOfName zs rr) {bs : StA} {bw : (Int32) ⊕ ((Unit) ⊕ Int32)} (Kc : ∀ v, bw = .inl v → WS cM E 2 2 [(0, rf E 47), (1, .int v)] [] bs) (Ke : ∀ e, bw = .inr (.inl e) → WS cM E 2 27 [] [] bs) (Kr : ∀ r, bw = .inr (.inr r) → some (bs, r) = some (zs, rr)) (hf : fb_X3_lineOfName_l2  s0 v1 = some (bs, bw)) : WS cM E 2 2 [(0, rf E 47), (1, .int v1)] [] s0 := by
  unfold fb_X3_lineOfName_l2 at hf
  refine s_iload_n O 1 dX3_lineOfName_2 rfl rfl ?_
  refine s_bipush (v := 7) O dX3_lineOfName_3 rfl ?_
  refine s_icmp_ge (tgt := 27) O dX3_lineOfName_5 (by decide) (fun c => ?_) (fun c => ?_)
  · replace hf := if_t c hf
    refine s_loc [] rfl ?_
    cases hf
    exact Ke _ rfl
  · replace hf := if_f c hf
    refine s_aload_n O 0 dX3_lineOfName_8 rfl rfl ?_
    refine s_iload_n O 1 dX3_lineOfName_9 rfl rfl ?_
    obtain ⟨s1, r2, c3, hf⟩ := bn_e hf
    refine s_SR (As := [.int v1]) (st := [rf E 47]) O lk_RX3_102 (k_X3_wordOf c3) rfl rfl ⟨rfl, rfl⟩ ⟨Nat.le_of_ble_eq_true rfl, Nat.le_of_ble_eq_true rfl⟩ rfl (Nat.le_of_ble_eq_true rfl) dX3_lineOfName_10 ?_
    obtain ⟨h4, hf⟩ := gst_e hf
    obtain ⟨s5, r6, c7, hf⟩ := bn_e hf
    refine s_VI (As := [rf E r2]) (st := []) O lk_RX3_106 (k_X3_nameIs h4 c7) rfl cs_47 rfl rfl ⟨rfl, rfl⟩ ⟨Nat.le_of_ble_eq_true rfl, Nat.le_of_ble_eq_true rfl⟩ rfl (Nat.le_of_ble_eq_true rfl) dX3_lineOfName_13 ?_
    refine s_if_eq (tgt := 21) O dX3_lineOfName_16 (by decide) (fun c => ?_) (fun c => ?_)
    · replace hf := if_t c hf
      refine s_iinc (v := (v1 + 1)) (lv' := [(1, .int (v1 + 1)), (0, rf E 47)]) O 1 dX3_lineOfName_21 rfl rfl (by decide) rfl ?_
      refine s_goto (tgt := 2) O dX3_lineOfName_24 (by decide) ?_
      refine s_loc [1, 0] rfl ?_
      cases hf
      exact Kc _ rfl
    · replace hf := if_f c hf
      refine s_iload_n O 1 dX3_lineOfName_19 rfl rfl ?_
      cases hf
      exact s_iret hret rfl dX3_lineOfName_20 (Kr _ rfl)
def fl_X3_lineOfName_l2   (s0 : StA) (v : Int32) : Option (StA × (((Unit) ⊕ Int32))) :=
  it (fun s v => fb_X3_lineOfName_l2  s v) FU s0 v
def f_X3_lineOfName  (s0 : StA) : Option (StA × Int32) :=
  bn (fl_X3_lineOfName_l2  s0 0) (fun s8 e9 => match e9 with | .inl _ => some (s8, 7) | .inr q2 => some (s8, q2))
set_option maxHeartbeats 4000000 in
set_option maxRecDepth 100000 in
theorem k_X3_lineOfName  {s0 zs : StA} {rr : Int32} (hf : f_X3_lineOfName  s0 = some (zs, rr)) : CtI cM yX3_lineOfName cX3_lineOfName 2 .int rm_X3_lineOfName (fun ph => [.ref (ph 47)]) s0 zs rr := by
  refine CtI.of (by decide +kernel) (fun ph => Nat.le_of_ble_eq_true rfl) (fun E O hret => ?_)
  have O : OK cM E RX3 cX3_lineOfName 2 rm_X3_lineOfName := O
  show WS cM E 2 0 [(0, rf E 47)] [] s0
  unfold f_X3_lineOfName at hf
  refine s_iconst (v := 0) O dX3_lineOfName_0 rfl ?_
  refine s_istore_n (lv' := [(1, .int 0), (0, rf E 47)]) O dX3_lineOfName_1 rfl (by decide) rfl ?_
  refine s_loc [1, 0] rfl ?_
  obtain ⟨s8, e9, c10, hf⟩ := bn_e hf
  refine lp_of (body := fun s v => fb_X3_lineOfName_l2  s v) (X := fun s v => WS cM E 2 2 [(0, rf E 47), (1, .int v)] [] s) (Y := fun s e => match e with | .inl e => WS cM E 2 27 [] [] s | .inr r => some (s, r) = some (zs, rr)) (fun s v s' w hb Kc Ke => wb_X3_lineOfName_l2 (rr := rr) O   hret Kc (fun e he => Ke (.inl e) he) (fun r he => Ke (.inr r) he) hb) FU _ _ (s8, e9) c10 ?_
  rcases e9 with e9 | q2
  · show WS cM E 2 27 [] [] s8
    refine s_bipush (v := 7) O dX3_lineOfName_27 rfl ?_
    exact s_iret hret rfl dX3_lineOfName_29 hf
  · exact hf
def rm_X3_readNumber : Room := { frames := 2, cells := 0, slots := 0, locals := 44 }
def f_X3_readNumber (a1 : Int32) (a2 : Int32) (s0 : StA) : Option (StA × Int32) :=
  bn (f_X3_nextToken  s0) (fun s1 r2 => (if r2 = 0 then some (s1, 0) else (if (gi s1 47 6) = 2 then bn (f_X5_isIn (gi s1 47 8) a1 a2 s1) (fun s4 r5 => (if r5 = 0 then bn (f_X3_failAt (gi s4 47 7) 3 s4) (fun s7 r8 => (if r8 = 0 then some (s7, 0) else some (s7, 1))) else some (s4, 1))) else bn (f_X3_failAt (gi s1 47 7) 2 s1) (fun s10 r11 => gz r11 (some (s10, r11))))))
set_option maxHeartbeats 4000000 in
set_option maxRecDepth 100000 in
theorem k_X3_readNumber {a1 : Int32} {a2 : Int32} {s0 zs : StA} {rr : Int32} (hf : f_X3_readNumber a1 a2 s0 = some (zs, rr)) : CtI cM yX3_readNumber cX3_readNumber 3 .boolean rm_X3_readNumber (fun ph => [.ref (ph 47), .int a1, .int a2]) s0 zs rr := by
  refine CtI.of (by decide +kernel) (fun ph => Nat.le_of_ble_eq_true rfl) (fun E O hret => ?_)
  have O : OK cM E RX3 cX3_readNumber 3 rm_X3_readNumber := O
  show WS cM E 3 0 [(0, rf E 47), (1, .int a1), (2, .int a2)] [] s0
  unfold f_X3_readNumber at hf
  refine s_aload_n O 0 dX3_readNumber_0 rfl rfl ?_
  obtain ⟨s1, r2, c3, hf⟩ := bn_e hf
  refine s_VI (As := []) (st := []) O lk_RX3_38 (k_X3_nextToken c3) rfl cs_47 rfl rfl ⟨rfl, rfl⟩ ⟨Nat.le_of_ble_eq_true rfl, Nat.le_of_ble_eq_true rfl⟩ rfl (Nat.le_of_ble_eq_true rfl) dX3_readNumber_1 ?_
  refine s_if_ne (tgt := 9) O dX3_readNumber_4 (by decide) (fun c => ?_) (fun c => ?_)
  · replace hf := if_f c hf
    refine s_aload_n O 0 dX3_readNumber_9 rfl rfl ?_
    refine s_getI O fg_RX3_42 cs_47 rfl dX3_readNumber_10 ?_
    refine s_iconst (v := 2) O dX3_readNumber_13 rfl ?_
    refine s_icmp_eq (tgt := 27) O dX3_readNumber_14 (by decide) (fun c => ?_) (fun c => ?_)
    · replace hf := if_t c hf
      refine s_aload_n O 0 dX3_readNumber_27 rfl rfl ?_
      refine s_getI O fg_RX3_78 cs_47 rfl dX3_readNumber_28 ?_
      refine s_iload_n O 1 dX3_readNumber_31 rfl rfl ?_
      refine s_iload_n O 2 dX3_readNumber_32 rfl rfl ?_
      obtain ⟨s4, r5, c6, hf⟩ := bn_e hf
      refine s_NI (As := [.int (gi s1 47 8), .int a1, .int a2]) (st := []) O lk_RX3_26 (k_X5_isIn c6) rfl rfl ⟨rfl, rfl⟩ ⟨Nat.le_of_ble_eq_true rfl, Nat.le_of_ble_eq_true rfl⟩ rfl (Nat.le_of_ble_eq_true rfl) dX3_readNumber_33 ?_
      refine s_if_ne (tgt := 51) O dX3_readNumber_36 (by decide) (fun c => ?_) (fun c => ?_)
      · replace hf := if_f c hf
        refine s_iconst (v := 1) O dX3_readNumber_51 rfl ?_
        refine s_goto (tgt := 56) O dX3_readNumber_52 (by decide) ?_
        exact s_iret hret rfl dX3_readNumber_56 hf
      · replace hf := if_t c hf
        refine s_aload_n O 0 dX3_readNumber_39 rfl rfl ?_
        refine s_aload_n O 0 dX3_readNumber_40 rfl rfl ?_
        refine s_getI O fg_RX3_72 cs_47 rfl dX3_readNumber_41 ?_
        refine s_iconst (v := 3) O dX3_readNumber_44 rfl ?_
        obtain ⟨s7, r8, c9, hf⟩ := bn_e hf
        refine s_VI (As := [.int (gi s4 47 7), .int 3]) (st := []) O lk_RX3_81 (k_X3_failAt c9) rfl cs_47 rfl rfl ⟨rfl, rfl⟩ ⟨Nat.le_of_ble_eq_true rfl, Nat.le_of_ble_eq_true rfl⟩ rfl (Nat.le_of_ble_eq_true rfl) dX3_readNumber_45 ?_
        refine s_if_eq (tgt := 55) O dX3_readNumber_48 (by decide) (fun c => ?_) (fun c => ?_)
        · replace hf := if_t c hf
          refine s_iconst (v := 0) O dX3_readNumber_55 rfl ?_
          exact s_iret hret rfl dX3_readNumber_56 hf
        · replace hf := if_f c hf
          refine s_iconst (v := 1) O dX3_readNumber_51 rfl ?_
          refine s_goto (tgt := 56) O dX3_readNumber_52 (by decide) ?_
          exact s_iret hret rfl dX3_readNumber_56 hf
    · replace hf := if_f c hf
      refine s_aload_n O 0 dX3_readNumber_17 rfl rfl ?_
      refine s_aload_n O 0 dX3_readNumber_18 rfl rfl ?_
      refine s_getI O fg_RX3_72 cs_47 rfl dX3_readNumber_19 ?_
      refine s_iconst (v := 2) O dX3_readNumber_22 rfl ?_
      obtain ⟨s10, r11, c12, hf⟩ := bn_e hf
      refine s_VI (As := [.int (gi s1 47 7), .int 2]) (st := []) O lk_RX3_81 (k_X3_failAt c12) rfl cs_47 rfl rfl ⟨rfl, rfl⟩ ⟨Nat.le_of_ble_eq_true rfl, Nat.le_of_ble_eq_true rfl⟩ rfl (Nat.le_of_ble_eq_true rfl) dX3_readNumber_23 ?_
      obtain ⟨hz, hf⟩ := gz_e hf
      exact s_iret hret hz.nar dX3_readNumber_26 hf
  · replace hf := if_t c hf
    refine s_iconst (v := 0) O dX3_readNumber_7 rfl ?_
    exact s_iret hret rfl dX3_readNumber_8 hf
def rm_X3_readSemicolon : Room := { frames := 2, cells := 0, slots := 0, locals := 44 }
def f_X3_readSemicolon  (s0 : StA) : Option (StA × Int32) :=
  bn (f_X3_nextToken  s0) (fun s1 r2 => (if r2 = 0 then some (s1, 0) else (if (gi s1 47 6) = 3 then some (s1, 1) else bn (f_X3_failAt (gi s1 47 7) 2 s1) (fun s4 r5 => (if r5 = 0 then some (s4, 0) else some (s4, 1))))))
set_option maxHeartbeats 4000000 in
set_option maxRecDepth 100000 in
theorem k_X3_readSemicolon  {s0 zs : StA} {rr : Int32} (hf : f_X3_readSemicolon  s0 = some (zs, rr)) : CtI cM yX3_readSemicolon cX3_readSemicolon 1 .boolean rm_X3_readSemicolon (fun ph => [.ref (ph 47)]) s0 zs rr := by
  refine CtI.of (by decide +kernel) (fun ph => Nat.le_of_ble_eq_true rfl) (fun E O hret => ?_)
  have O : OK cM E RX3 cX3_readSemicolon 1 rm_X3_readSemicolon := O
  show WS cM E 1 0 [(0, rf E 47)] [] s0
  unfold f_X3_readSemicolon at hf
  refine s_aload_n O 0 dX3_readSemicolon_0 rfl rfl ?_
  obtain ⟨s1, r2, c3, hf⟩ := bn_e hf
  refine s_VI (As := []) (st := []) O lk_RX3_38 (k_X3_nextToken c3) rfl cs_47 rfl rfl ⟨rfl, rfl⟩ ⟨Nat.le_of_ble_eq_true rfl, Nat.le_of_ble_eq_true rfl⟩ rfl (Nat.le_of_ble_eq_true rfl) dX3_readSemicolon_1 ?_
  refine s_if_ne (tgt := 9) O dX3_readSemicolon_4 (by decide) (fun c => ?_) (fun c => ?_)
  · replace hf := if_f c hf
    refine s_aload_n O 0 dX3_readSemicolon_9 rfl rfl ?_
    refine s_getI O fg_RX3_42 cs_47 rfl dX3_readSemicolon_10 ?_
    refine s_iconst (v := 3) O dX3_readSemicolon_13 rfl ?_
    refine s_icmp_eq (tgt := 29) O dX3_readSemicolon_14 (by decide) (fun c => ?_) (fun c => ?_)
    · replace hf := if_t c hf
      refine s_iconst (v := 1) O dX3_readSemicolon_29 rfl ?_
      refine s_goto (tgt := 34) O dX3_readSemicolon_30 (by decide) ?_
      exact s_iret hret rfl dX3_readSemicolon_34 hf
    · replace hf := if_f c hf
      refine s_aload_n O 0 dX3_readSemicolon_17 rfl rfl ?_
      refine s_aload_n O 0 dX3_readSemicolon_18 rfl rfl ?_
      refine s_getI O fg_RX3_72 cs_47 rfl dX3_readSemicolon_19 ?_
      refine s_iconst (v := 2) O dX3_readSemicolon_22 rfl ?_
      obtain ⟨s4, r5, c6, hf⟩ := bn_e hf
      refine s_VI (As := [.int (gi s1 47 7), .int 2]) (st := []) O lk_RX3_81 (k_X3_failAt c6) rfl cs_47 rfl rfl ⟨rfl, rfl⟩ ⟨Nat.le_of_ble_eq_true rfl, Nat.le_of_ble_eq_true rfl⟩ rfl (Nat.le_of_ble_eq_true rfl) dX3_readSemicolon_23 ?_
      refine s_if_eq (tgt := 33) O dX3_readSemicolon_26 (by decide) (fun c => ?_) (fun c => ?_)
      · replace hf := if_t c hf
        refine s_iconst (v := 0) O dX3_readSemicolon_33 rfl ?_
        exact s_iret hret rfl dX3_readSemicolon_34 hf
      · replace hf := if_f c hf
        refine s_iconst (v := 1) O dX3_readSemicolon_29 rfl ?_
        refine s_goto (tgt := 34) O dX3_readSemicolon_30 (by decide) ?_
        exact s_iret hret rfl dX3_readSemicolon_34 hf
  · replace hf := if_t c hf
    refine s_iconst (v := 0) O dX3_readSemicolon_7 rfl ?_
    exact s_iret hret rfl dX3_readSemicolon_8 hf
def rm_X3_readRate : Room := { frames := 3, cells := 0, slots := 0, locals := 66 }
def f_X3_readRate (a1 : Nat) (s0 : StA) : Option (StA × Int32) :=
  (if (gi s0 47 10) = 0 then nms (si s0 47 10 1) (fun s1 => bn (f_X3_readNumber 1 9 s1) (fun s2 r3 => (if r3 = 0 then some (s2, 0) else nms (si s2 a1 10 (gi s2 47 8)) (fun s5 => bn (f_X3_readSemicolon  s5) (fun s6 r7 => gz r7 (some (s6, r7))))))) else bn (f_X3_failAt (gi s0 47 7) 4 s0) (fun s9 r10 => gz r10 (some (s9, r10))))
set_option maxHeartbeats 4000000 in
set_option maxRecDepth 100000 in
theorem k_X3_readRate {a1 : Nat} (ha1 : isFl a1) {s0 zs : StA} {rr : Int32} (hf : f_X3_readRate a1 s0 = some (zs, rr)) : CtI cM yX3_readRate cX3_readRate 2 .boolean rm_X3_readRate (fun ph => [.ref (ph 47), .ref (ph a1)]) s0 zs rr := by
  refine CtI.of (by decide +kernel) (fun ph => Nat.le_of_ble_eq_true rfl) (fun E O hret => ?_)
  have O : OK cM E RX3 cX3_readRate 2 rm_X3_readRate := O
  show WS cM E 2 0 [(0, rf E 47), (1, rf E a1)] [] s0
  unfold f_X3_readRate at hf
  refine s_aload_n O 0 dX3_readRate_0 rfl rfl ?_
  refine s_getI O fg_RX3_61 cs_47 rfl dX3_readRate_1 ?_
  refine s_if_eq (tgt := 17) O dX3_readRate_4 (by decide) (fun c => ?_) (fun c => ?_)
  · replace hf := if_t c hf
    refine s_aload_n O 0 dX3_readRate_17 rfl rfl ?_
    refine s_iconst (v := 1) O dX3_readRate_18 rfl ?_
    refine s_putZ O fp_RX3_61 (Or.inr rfl) cs_47 rfl dX3_readRate_19 ?_
    refine s_tops (fun s1 es1 => ?_)
    replace hf := nms_e es1 hf
    refine s_aload_n O 0 dX3_readRate_22 rfl rfl ?_
    refine s_iconst (v := 1) O dX3_readRate_23 rfl ?_
    refine s_bipush (v := 9) O dX3_readRate_24 rfl ?_
    obtain ⟨s2, r3, c4, hf⟩ := bn_e hf
    refine s_VI (As := [.int 1, .int 9]) (st := []) O lk_RX3_141 (k_X3_readNumber c4) rfl cs_47 rfl rfl ⟨rfl, rfl⟩ ⟨Nat.le_of_ble_eq_true rfl, Nat.le_of_ble_eq_true rfl⟩ rfl (Nat.le_of_ble_eq_true rfl) dX3_readRate_26 ?_
    refine s_if_ne (tgt := 34) O dX3_readRate_29 (by decide) (fun c => ?_) (fun c => ?_)
    · replace hf := if_f c hf
      refine s_aload_n O 1 dX3_readRate_34 rfl rfl ?_
      refine s_aload_n O 0 dX3_readRate_35 rfl rfl ?_
      refine s_getI O fg_RX3_78 cs_47 rfl dX3_readRate_36 ?_
      refine s_putI O fp_RX3_153 (fl_0 ha1) rfl dX3_readRate_39 ?_
      refine s_tops (fun s5 es5 => ?_)
      replace hf := nms_e es5 hf
      refine s_aload_n O 0 dX3_readRate_42 rfl rfl ?_
      obtain ⟨s6, r7, c8, hf⟩ := bn_e hf
      refine s_VI (As := []) (st := []) O lk_RX3_147 (k_X3_readSemicolon c8) rfl cs_47 rfl rfl ⟨rfl, rfl⟩ ⟨Nat.le_of_ble_eq_true rfl, Nat.le_of_ble_eq_true rfl⟩ rfl (Nat.le_of_ble_eq_true rfl) dX3_readRate_43 ?_
      obtain ⟨hz, hf⟩ := gz_e hf
      exact s_iret hret hz.nar dX3_readRate_46 hf
    · replace hf := if_t c hf
      refine s_iconst (v := 0) O dX3_readRate_32 rfl ?_
      exact s_iret hret rfl dX3_readRate_33 hf
  · replace hf := if_f c hf
    refine s_aload_n O 0 dX3_readRate_7 rfl rfl ?_
    refine s_aload_n O 0 dX3_readRate_8 rfl rfl ?_
    refine s_getI O fg_RX3_72 cs_47 rfl dX3_readRate_9 ?_
    refine s_iconst (v := 4) O dX3_readRate_12 rfl ?_
    obtain ⟨s9, r10, c11, hf⟩ := bn_e hf
    refine s_VI (As := [.int (gi s0 47 7), .int 4]) (st := []) O lk_RX3_81 (k_X3_failAt c11) rfl cs_47 rfl rfl ⟨rfl, rfl⟩ ⟨Nat.le_of_ble_eq_true rfl, Nat.le_of_ble_eq_true rfl⟩ rfl (Nat.le_of_ble_eq_true rfl) dX3_readRate_13 ?_
    obtain ⟨hz, hf⟩ := gz_e hf
    exact s_iret hret hz.nar dX3_readRate_16 hf
def rm_X3_readStart : Room := { frames := 3, cells := 0, slots := 0, locals := 66 }
def f_X3_readStart (a1 : Nat) (s0 : StA) : Option (StA × Int32) :=
  (if (gi s0 47 11) = 0 then nms (si s0 47 11 1) (fun s1 => bn (f_X3_readNumber 0 60 s1) (fun s2 r3 => (if r3 = 0 then some (s2, 0) else nms (si s2 a1 8 (gi s2 47 8)) (fun s5 => bn (f_X3_readNumber 0 99 s5) (fun s6 r7 => (if r7 = 0 then some (s6, 0) else nms (si s6 a1 9 (gi s6 47 8)) (fun s9 => bn (f_X3_readSemicolon  s9) (fun s10 r11 => gz r11 (some (s10, r11)))))))))) else bn (f_X3_failAt (gi s0 47 7) 4 s0) (fun s13 r14 => gz r14 (some (s13, r14))))
set_option maxHeartbeats 4000000 in
set_option maxRecDepth 100000 in
theorem k_X3_readStart {a1 : Nat} (ha1 : isFl a1) {s0 zs : StA} {rr : Int32} (hf : f_X3_readStart a1 s0 = some (zs, rr)) : CtI cM yX3_readStart cX3_readStart 2 .boolean rm_X3_readStart (fun ph => [.ref (ph 47), .ref (ph a1)]) s0 zs rr := by
  refine CtI.of (by decide +kernel) (fun ph => Nat.le_of_ble_eq_true rfl) (fun E O hret => ?_)
  have O : OK cM E RX3 cX3_readStart 2 rm_X3_readStart := O
  show WS cM E 2 0 [(0, rf E 47), (1, rf E a1)] [] s0
  unfold f_X3_readStart at hf
  refine s_aload_n O 0 dX3_readStart_0 rfl rfl ?_
  refine s_getI O fg_RX3_65 cs_47 rfl dX3_readStart_1 ?_
  refine s_if_eq (tgt := 17) O dX3_readStart_4 (by decide) (fun c => ?_) (fun c => ?_)
  · replace hf := if_t c hf
    refine s_aload_n O 0 dX3_readStart_17 rfl rfl ?_
    refine s_iconst (v := 1) O dX3_readStart_18 rfl ?_
    refine s_putZ O fp_RX3_65 (Or.inr rfl) cs_47 rfl dX3_readStart_19 ?_
    refine s_tops (fun s1 es1 => ?_)
    replace hf := nms_e es1 hf
    refine s_aload_n O 0 dX3_readStart_22 rfl rfl ?_
    refine s_iconst (v := 0) O dX3_readStart_23 rfl ?_
    refine s_bipush (v := 60) O dX3_readStart_24 rfl ?_
    obtain ⟨s2, r3, c4, hf⟩ := bn_e hf
    refine s_VI (As := [.int 0, .int 60]) (st := []) O lk_RX3_141 (k_X3_readNumber c4) rfl cs_47 rfl rfl ⟨rfl, rfl⟩ ⟨Nat.le_of_ble_eq_true rfl, Nat.le_of_ble_eq_true rfl⟩ rfl (Nat.le_of_ble_eq_true rfl) dX3_readStart_26 ?_
    refine s_if_ne (tgt := 34) O dX3_readStart_29 (by decide) (fun c => ?_) (fun c => ?_)
    · replace hf := if_f c hf
      refine s_aload_n O 1 dX3_readStart_34 rfl rfl ?_
      refine s_aload_n O 0 dX3_readStart_35 rfl rfl ?_
      refine s_getI O fg_RX3_78 cs_47 rfl dX3_readStart_36 ?_
      refine s_putI O fp_RX3_155 (fl_0 ha1) rfl dX3_readStart_39 ?_
      refine s_tops (fun s5 es5 => ?_)
      replace hf := nms_e es5 hf
      refine s_aload_n O 0 dX3_readStart_42 rfl rfl ?_
      refine s_iconst (v := 0) O dX3_readStart_43 rfl ?_
      refine s_bipush (v := 99) O dX3_readStart_44 rfl ?_
      obtain ⟨s6, r7, c8, hf⟩ := bn_e hf
      refine s_VI (As := [.int 0, .int 99]) (st := []) O lk_RX3_141 (k_X3_readNumber c8) rfl cs_47 rfl rfl ⟨rfl, rfl⟩ ⟨Nat.le_of_ble_eq_true rfl, Nat.le_of_ble_eq_true rfl⟩ rfl (Nat.le_of_ble_eq_true rfl) dX3_readStart_46 ?_
      refine s_if_ne (tgt := 54) O dX3_readStart_49 (by decide) (fun c => ?_) (fun c => ?_)
      · replace hf := if_f c hf
        refine s_aload_n O 1 dX3_readStart_54 rfl rfl ?_
        refine s_aload_n O 0 dX3_readStart_55 rfl rfl ?_
        refine s_getI O fg_RX3_78 cs_47 rfl dX3_readStart_56 ?_
        refine s_putI O fp_RX3_158 (fl_0 ha1) rfl dX3_readStart_59 ?_
        refine s_tops (fun s9 es9 => ?_)
        replace hf := nms_e es9 hf
        refine s_aload_n O 0 dX3_readStart_62 rfl rfl ?_
        obtain ⟨s10, r11, c12, hf⟩ := bn_e hf
        refine s_VI (As := []) (st := []) O lk_RX3_147 (k_X3_readSemicolon c12) rfl cs_47 rfl rfl ⟨rfl, rfl⟩ ⟨Nat.le_of_ble_eq_true rfl, Nat.le_of_ble_eq_true rfl⟩ rfl (Nat.le_of_ble_eq_true rfl) dX3_readStart_63 ?_
        obtain ⟨hz, hf⟩ := gz_e hf
        exact s_iret hret hz.nar dX3_readStart_66 hf
      · replace hf := if_t c hf
        refine s_iconst (v := 0) O dX3_readStart_52 rfl ?_
        exact s_iret hret rfl dX3_readStart_53 hf
    · replace hf := if_t c hf
      refine s_iconst (v := 0) O dX3_readStart_32 rfl ?_
      exact s_iret hret rfl dX3_readStart_33 hf
  · replace hf := if_f c hf
    refine s_aload_n O 0 dX3_readStart_7 rfl rfl ?_
    refine s_aload_n O 0 dX3_readStart_8 rfl rfl ?_
    refine s_getI O fg_RX3_72 cs_47 rfl dX3_readStart_9 ?_
    refine s_iconst (v := 4) O dX3_readStart_12 rfl ?_
    obtain ⟨s13, r14, c15, hf⟩ := bn_e hf
    refine s_VI (As := [.int (gi s0 47 7), .int 4]) (st := []) O lk_RX3_81 (k_X3_failAt c15) rfl cs_47 rfl rfl ⟨rfl, rfl⟩ ⟨Nat.le_of_ble_eq_true rfl, Nat.le_of_ble_eq_true rfl⟩ rfl (Nat.le_of_ble_eq_true rfl) dX3_readStart_13 ?_
    obtain ⟨hz, hf⟩ := gz_e hf
    exact s_iret hret hz.nar dX3_readStart_16 hf
def rm_X5_greatestOf : Room := { frames := 0, cells := 0, slots := 0, locals := 0 }
def f_X5_greatestOf (a0 : Int32) (s0 : StA) : Option (StA × Int32) :=
  (if a0 = 0 then some (s0, 3) else (if a0 = 1 then some (s0, 9) else some (s0, 1)))
set_option maxHeartbeats 4000000 in
set_option maxRecDepth 100000 in
theorem k_X5_greatestOf {a0 : Int32} {s0 zs : StA} {rr : Int32} (hf : f_X5_greatestOf a0 s0 = some (zs, rr)) : CtI cM yX5_greatestOf cX5_greatestOf 1 .int rm_X5_greatestOf (fun ph => [.int a0]) s0 zs rr := by
  refine CtI.of (by decide +kernel) (fun ph => Nat.le_of_ble_eq_true rfl) (fun E O hret => ?_)
  have O : OK cM E RX5 cX5_greatestOf 1 rm_X5_greatestOf := O
  show WS cM E 1 0 [(0, .int a0)] [] s0
  unfold f_X5_greatestOf at hf
  refine s_iload_n O 0 dX5_greatestOf_0 rfl rfl ?_
  refine s_if_ne (tgt := 8) O dX5_greatestOf_1 (by decide) (fun c => ?_) (fun c => ?_)
  · replace hf := if_f c hf
    refine s_iload_n O 0 dX5_greatestOf_8 rfl rfl ?_
    refine s_iconst (v := 1) O dX5_greatestOf_9 rfl ?_
    refine s_icmp_ne (tgt := 18) O dX5_greatestOf_10 (by decide) (fun c => ?_) (fun c => ?_)
    · replace hf := if_f c hf
      refine s_iconst (v := 1) O dX5_greatestOf_18 rfl ?_
      exact s_iret hret rfl dX5_greatestOf_19 hf
    · replace hf := if_t c hf
      refine s_bipush (v := 9) O dX5_greatestOf_13 rfl ?_
      refine s_goto (tgt := 19) O dX5_greatestOf_15 (by decide) ?_
      exact s_iret hret rfl dX5_greatestOf_19 hf
  · replace hf := if_t c hf
    refine s_iconst (v := 3) O dX5_greatestOf_4 rfl ?_
    refine s_goto (tgt := 19) O dX5_greatestOf_5 (by decide) ?_
    exact s_iret hret rfl dX5_greatestOf_19 hf
def rm_X5_leastOf : Room := { frames := 0, cells := 0, slots := 0, locals := 0 }
def f_X5_leastOf (a0 : Int32) (s0 : StA) : Option (StA × Int32) :=
  (if a0 = 1 then some (s0, 1) else some (s0, 0))
set_option maxHeartbeats 4000000 in
set_option maxRecDepth 100000 in
theorem k_X5_leastOf {a0 : Int32} {s0 zs : StA} {rr : Int32} (hf : f_X5_leastOf a0 s0 = some (zs, rr)) : CtI cM yX5_leastOf cX5_leastOf 1 .int rm_X5_leastOf (fun ph => [.int a0]) s0 zs rr := by
  refine CtI.of (by decide +kernel) (fun ph => Nat.le_of_ble_eq_true rfl) (fun E O hret => ?_)
  have O : OK cM E RX5 cX5_leastOf 1 rm_X5_leastOf := O
  show WS cM E 1 0 [(0, .int a0)] [] s0
  unfold f_X5_leastOf at hf
  refine s_iload_n O 0 dX5_leastOf_0 rfl rfl ?_
  refine s_iconst (v := 1) O dX5_leastOf_1 rfl ?_
  refine s_icmp_ne (tgt := 9) O dX5_leastOf_2 (by decide) (fun c => ?_) (fun c => ?_)
  · replace hf := if_f c hf
    refine s_iconst (v := 0) O dX5_leastOf_9 rfl ?_
    exact s_iret hret rfl dX5_leastOf_10 hf
  · replace hf := if_t c hf
    refine s_iconst (v := 1) O dX5_leastOf_5 rfl ?_
    refine s_goto (tgt := 10) O dX5_leastOf_6 (by decide) ?_
    exact s_iret hret rfl dX5_leastOf_10 hf
def rm_X1_addThing : Room := { frames := 0, cells := 0, slots := 0, locals := 0 }
def f_X1_addThing (k : Nat) (a1 : Int32) (a2 : Int32) (a3 : Int32) (s0 : StA) : Option (StA × Int32) :=
  (if (gi s0 k 6) < 6 then gd (gi s0 k 6) 6 (nms (si s0 (k + 1) ((gi s0 k 6).toNatClampNeg) a1) (fun s2 => gd (gi s2 k 6) 6 (nms (si s2 (k + 2) ((gi s2 k 6).toNatClampNeg) a2) (fun s4 => gd (gi s4 k 6) 6 (nms (si s4 (k + 3) ((gi s4 k 6).toNatClampNeg) a3) (fun s6 => nms (si s6 k 6 ((gi s6 k 6) + 1)) (fun s7 => some (s7, 1)))))))) else some (s0, 0))
set_option maxHeartbeats 4000000 in
set_option maxRecDepth 100000 in
theorem k_X1_addThing {k : Nat} {a1 : Int32} {a2 : Int32} {a3 : Int32} (hk : isFl k) {s0 zs : StA} {rr : Int32} (hf : f_X1_addThing k a1 a2 a3 s0 = some (zs, rr)) : CtI cM yX1_addThing cX1_addThing 4 .boolean rm_X1_addThing (fun ph => [.ref (ph k), .int a1, .int a2, .int a3]) s0 zs rr := by
  refine CtI.of (by decide +kernel) (fun ph => Nat.le_of_ble_eq_true rfl) (fun E O hret => ?_)
  have O : OK cM E RX1 cX1_addThing 4 rm_X1_addThing := O
  show WS cM E 4 0 [(0, rf E k), (1, .int a1), (2, .int a2), (3, .int a3)] [] s0
  unfold f_X1_addThing at hf
  refine s_aload_n O 0 dX1_addThing_0 rfl rfl ?_
  refine s_getI O fg_RX1_46 (fl_0 hk) rfl dX1_addThing_1 ?_
  refine s_bipush (v := 6) O dX1_addThing_4 rfl ?_
  refine s_icmp_lt (tgt := 11) O dX1_addThing_6 (by decide) (fun c => ?_) (fun c => ?_)
  · replace hf := if_t c hf
    refine s_aload_n O 0 dX1_addThing_11 rfl rfl ?_
    refine s_getR O fg_RX1_9 (fl_0 hk) rfl dX1_addThing_12 ?_
    refine s_aload_n O 0 dX1_addThing_15 rfl rfl ?_
    refine s_getI O fg_RX1_46 (fl_0 hk) rfl dX1_addThing_16 ?_
    refine s_iload_n O 1 dX1_addThing_19 rfl rfl ?_
    obtain ⟨h1, hf⟩ := gd_e hf
    refine s_iast O (fl_1 hk) h1 dX1_addThing_20 ?_
    refine s_tops (fun s2 es2 => ?_)
    replace hf := nms_e es2 hf
    refine s_aload_n O 0 dX1_addThing_21 rfl rfl ?_
    refine s_getR O fg_RX1_15 (fl_0 hk) rfl dX1_addThing_22 ?_
    refine s_aload_n O 0 dX1_addThing_25 rfl rfl ?_
    refine s_getI O fg_RX1_46 (fl_0 hk) rfl dX1_addThing_26 ?_
    refine s_iload_n O 2 dX1_addThing_29 rfl rfl ?_
    obtain ⟨h3, hf⟩ := gd_e hf
    refine s_iast O (fl_2 hk) h3 dX1_addThing_30 ?_
    refine s_tops (fun s4 es4 => ?_)
    replace hf := nms_e es4 hf
    refine s_aload_n O 0 dX1_addThing_31 rfl rfl ?_
    refine s_getR O fg_RX1_18 (fl_0 hk) rfl dX1_addThing_32 ?_
    refine s_aload_n O 0 dX1_addThing_35 rfl rfl ?_
    refine s_getI O fg_RX1_46 (fl_0 hk) rfl dX1_addThing_36 ?_
    refine s_iload_n O 3 dX1_addThing_39 rfl rfl ?_
    obtain ⟨h5, hf⟩ := gd_e hf
    refine s_iast O (fl_3 hk) h5 dX1_addThing_40 ?_
    refine s_tops (fun s6 es6 => ?_)
    replace hf := nms_e es6 hf
    refine s_aload_n O 0 dX1_addThing_41 rfl rfl ?_
    refine s_dup O dX1_addThing_42 rfl ?_
    refine s_getI O fg_RX1_46 (fl_0 hk) rfl dX1_addThing_43 ?_
    refine s_iconst (v := 1) O dX1_addThing_46 rfl ?_
    refine s_iadd O dX1_addThing_47 ?_
    refine s_putI O fp_RX1_46 (fl_0 hk) rfl dX1_addThing_48 ?_
    refine s_tops (fun s7 es7 => ?_)
    replace hf := nms_e es7 hf
    refine s_iconst (v := 1) O dX1_addThing_51 rfl ?_
    exact s_iret hret rfl dX1_addThing_52 hf
  · replace hf := if_f c hf
    refine s_iconst (v := 0) O dX1_addThing_9 rfl ?_
    exact s_iret hret rfl dX1_addThing_10 hf
def rm_X3_readThing : Room := { frames := 3, cells := 0, slots := 0, locals := 66 }
def f_X3_readThing (a1 : Nat) (a2 : Int32) (s0 : StA) : Option (StA × Int32) :=
  (if (gi s0 a1 6) < 6 then bn (f_X5_leastOf 1 s0) (fun s1 r2 => bn (f_X5_greatestOf 1 s1) (fun s4 r5 => bn (f_X3_readNumber r2 r5 s4) (fun s7 r8 => (if r8 = 0 then some (s7, 0) else nmi (gi s7 47 8) (fun n10 => bn (f_X5_leastOf 2 s7) (fun s11 r12 => bn (f_X5_greatestOf 2 s11) (fun s14 r15 => bn (f_X3_readNumber r12 r15 s14) (fun s17 r18 => (if r18 = 0 then some (s17, 0) else bn (f_X1_addThing a1 a2 n10 (gi s17 47 8) s17) (fun s20 r21 => (if r21 = 0 then some (s20, 0) else bn (f_X3_readSemicolon  s20) (fun s23 r24 => (if r24 = 0 then some (s23, 0) else some (s23, 1)))))))))))))) else bn (f_X3_failAt (gi s0 47 7) 5 s0) (fun s26 r27 => gz r27 (some (s26, r27))))
set_option maxHeartbeats 4000000 in
set_option maxRecDepth 100000 in
theorem k_X3_readThing {a1 : Nat} {a2 : Int32} (ha1 : isFl a1) {s0 zs : StA} {rr : Int32} (hf : f_X3_readThing a1 a2 s0 = some (zs, rr)) : CtI cM yX3_readThing cX3_readThing 4 .boolean rm_X3_readThing (fun ph => [.ref (ph 47), .ref (ph a1), .int a2]) s0 zs rr := by
  refine CtI.of (by decide +kernel) (fun ph => Nat.le_of_ble_eq_true rfl) (fun E O hret => ?_)
  have O : OK cM E RX3 cX3_readThing 4 rm_X3_readThing := O
  show WS cM E 4 0 [(0, rf E 47), (1, rf E a1), (2, .int a2)] [] s0
  unfold f_X3_readThing at hf
  refine s_aload_n O 1 dX3_readThing_0 rfl rfl ?_
  refine s_getI O fg_RX3_132 (fl_0 ha1) rfl dX3_readThing_1 ?_
  refine s_bipush (v := 6) O dX3_readThing_4 rfl ?_
  refine s_icmp_lt (tgt := 19) O dX3_readThing_6 (by decide) (fun c => ?_) (fun c => ?_)
  · replace hf := if_t c hf
    refine s_aload_n O 0 dX3_readThing_19 rfl rfl ?_
    refine s_iconst (v := 1) O dX3_readThing_20 rfl ?_
    obtain ⟨s1, r2, c3, hf⟩ := bn_e hf
    refine s_NI (As := [.int 1]) (st := [rf E 47]) O lk_RX3_135 (k_X5_leastOf c3) rfl rfl ⟨rfl, rfl⟩ ⟨Nat.le_of_ble_eq_true rfl, Nat.le_of_ble_eq_true rfl⟩ rfl (Nat.le_of_ble_eq_true rfl) dX3_readThing_21 ?_
    refine s_iconst (v := 1) O dX3_readThing_24 rfl ?_
    obtain ⟨s4, r5, c6, hf⟩ := bn_e hf
    refine s_NI (As := [.int 1]) (st := [.int r2, rf E 47]) O lk_RX3_138 (k_X5_greatestOf c6) rfl rfl ⟨rfl, rfl⟩ ⟨Nat.le_of_ble_eq_true rfl, Nat.le_of_ble_eq_true rfl⟩ rfl (Nat.le_of_ble_eq_true rfl) dX3_readThing_25 ?_
    obtain ⟨s7, r8, c9, hf⟩ := bn_e hf
    refine s_VI (As := [.int r2, .int r5]) (st := []) O lk_RX3_141 (k_X3_readNumber c9) rfl cs_47 rfl rfl ⟨rfl, rfl⟩ ⟨Nat.le_of_ble_eq_true rfl, Nat.le_of_ble_eq_true rfl⟩ rfl (Nat.le_of_ble_eq_true rfl) dX3_readThing_28 ?_
    refine s_if_ne (tgt := 36) O dX3_readThing_31 (by decide) (fun c => ?_) (fun c => ?_)
    · replace hf := if_f c hf
      refine s_aload_n O 0 dX3_readThing_36 rfl rfl ?_
      refine s_getI O fg_RX3_78 cs_47 rfl dX3_readThing_37 ?_
      refine s_topi (fun n10 en10 => ?_)
      replace hf := nmi_e en10 hf
      refine s_istore_n (lv' := [(3, .int n10), (0, rf E 47), (1, rf E a1), (2, .int a2)]) O dX3_readThing_40 rfl (by decide) rfl ?_
      refine s_aload_n O 1 dX3_readThing_41 rfl rfl ?_
      refine s_iconst (v := 2) O dX3_readThing_42 rfl ?_
      obtain ⟨s11, r12, c13, hf⟩ := bn_e hf
      refine s_NI (As := [.int 2]) (st := [rf E 47]) O lk_RX3_135 (k_X5_leastOf c13) rfl rfl ⟨rfl, rfl⟩ ⟨Nat.le_of_ble_eq_true rfl, Nat.le_of_ble_eq_true rfl⟩ rfl (Nat.le_of_ble_eq_true rfl) dX3_readThing_43 ?_
      refine s_iconst (v := 2) O dX3_readThing_46 rfl ?_
      obtain ⟨s14, r15, c16, hf⟩ := bn_e hf
      refine s_NI (As := [.int 2]) (st := [.int r12, rf E 47]) O lk_RX3_138 (k_X5_greatestOf c16) rfl rfl ⟨rfl, rfl⟩ ⟨Nat.le_of_ble_eq_true rfl, Nat.le_of_ble_eq_true rfl⟩ rfl (Nat.le_of_ble_eq_true rfl) dX3_readThing_47 ?_
      obtain ⟨s17, r18, c19, hf⟩ := bn_e hf
      refine s_VI (As := [.int r12, .int r15]) (st := []) O lk_RX3_141 (k_X3_readNumber c19) rfl cs_47 rfl rfl ⟨rfl, rfl⟩ ⟨Nat.le_of_ble_eq_true rfl, Nat.le_of_ble_eq_true rfl⟩ rfl (Nat.le_of_ble_eq_true rfl) dX3_readThing_50 ?_
      refine s_if_eq (tgt := 80) O dX3_readThing_53 (by decide) (fun c => ?_) (fun c => ?_)
      · replace hf := if_t c hf
        refine s_iconst (v := 0) O dX3_readThing_80 rfl ?_
        exact s_iret hret rfl dX3_readThing_81 hf
      · replace hf := if_f c hf
        refine s_aload_n O 2 dX3_readThing_56 rfl rfl ?_
        refine s_iload_n O 3 dX3_readThing_57 rfl rfl ?_
        refine s_iload_n O 0 dX3_readThing_58 rfl rfl ?_
        refine s_aload_n O 1 dX3_readThing_59 rfl rfl ?_
        refine s_getI O fg_RX3_78 cs_47 rfl dX3_readThing_60 ?_
        obtain ⟨s20, r21, c22, hf⟩ := bn_e hf
        refine s_VI (As := [.int a2, .int n10, .int (gi s17 47 8)]) (st := []) O lk_RX3_144 (k_X1_addThing ha1 c22) rfl (fl_0 ha1) rfl rfl ⟨rfl, rfl⟩ ⟨Nat.le_of_ble_eq_true rfl, Nat.le_of_ble_eq_true rfl⟩ rfl (Nat.le_of_ble_eq_true rfl) dX3_readThing_63 ?_
        refine s_if_eq (tgt := 80) O dX3_readThing_66 (by decide) (fun c => ?_) (fun c => ?_)
        · replace hf := if_t c hf
          refine s_iconst (v := 0) O dX3_readThing_80 rfl ?_
          exact s_iret hret rfl dX3_readThing_81 hf
        · replace hf := if_f c hf
          refine s_aload_n O 1 dX3_readThing_69 rfl rfl ?_
          obtain ⟨s23, r24, c25, hf⟩ := bn_e hf
          refine s_VI (As := []) (st := []) O lk_RX3_147 (k_X3_readSemicolon c25) rfl cs_47 rfl rfl ⟨rfl, rfl⟩ ⟨Nat.le_of_ble_eq_true rfl, Nat.le_of_ble_eq_true rfl⟩ rfl (Nat.le_of_ble_eq_true rfl) dX3_readThing_70 ?_
          refine s_if_eq (tgt := 80) O dX3_readThing_73 (by decide) (fun c => ?_) (fun c => ?_)
          · replace hf := if_t c hf
            refine s_iconst (v := 0) O dX3_readThing_80 rfl ?_
            exact s_iret hret rfl dX3_readThing_81 hf
          · replace hf := if_f c hf
            refine s_iconst (v := 1) O dX3_readThing_76 rfl ?_
            refine s_goto (tgt := 81) O dX3_readThing_77 (by decide) ?_
            exact s_iret hret rfl dX3_readThing_81 hf
    · replace hf := if_t c hf
      refine s_iconst (v := 0) O dX3_readThing_34 rfl ?_
      exact s_iret hret rfl dX3_readThing_35 hf
  · replace hf := if_f c hf
    refine s_aload_n O 0 dX3_readThing_9 rfl rfl ?_
    refine s_aload_n O 0 dX3_readThing_10 rfl rfl ?_
    refine s_getI O fg_RX3_72 cs_47 rfl dX3_readThing_11 ?_
    refine s_iconst (v := 5) O dX3_readThing_14 rfl ?_
    obtain ⟨s26, r27, c28, hf⟩ := bn_e hf
    refine s_VI (As := [.int (gi s0 47 7), .int 5]) (st := []) O lk_RX3_81 (k_X3_failAt c28) rfl cs_47 rfl rfl ⟨rfl, rfl⟩ ⟨Nat.le_of_ble_eq_true rfl, Nat.le_of_ble_eq_true rfl⟩ rfl (Nat.le_of_ble_eq_true rfl) dX3_readThing_15 ?_
    obtain ⟨hz, hf⟩ := gz_e hf
    exact s_iret hret hz.nar dX3_readThing_18 hf
def rm_X3_readWind : Room := { frames := 3, cells := 0, slots := 0, locals := 66 }
def f_X3_readWind (a1 : Nat) (s0 : StA) : Option (StA × Int32) :=
  bn (f_X3_readNumber 0 4 s0) (fun s1 r2 => (if r2 = 0 then some (s1, 0) else nmi (gi s1 47 8) (fun n4 => (if (((gi s1 47 9) >>> (n4 &&& 31)) &&& 1) = 1 then bn (f_X3_failAt (gi s1 47 7) 4 s1) (fun s14 r15 => gz r15 (some (s14, r15))) else nms (si s1 47 9 ((gi s1 47 9) ||| (1 <<< (n4 &&& 31)))) (fun s5 => bn (f_X3_readNumber 0 8 s5) (fun s6 r7 => (if r7 = 0 then some (s6, 0) else gd n4 5 (nms (si s6 (a1 + 4) n4.toNatClampNeg (gi s6 47 8)) (fun s10 => bn (f_X3_readSemicolon  s10) (fun s11 r12 => gz r12 (some (s11, r12))))))))))))
set_option maxHeartbeats 4000000 in
set_option maxRecDepth 100000 in
theorem k_X3_readWind {a1 : Nat} (ha1 : isFl a1) {s0 zs : StA} {rr : Int32} (hf : f_X3_readWind a1 s0 = some (zs, rr)) : CtI cM yX3_readWind cX3_readWind 3 .boolean rm_X3_readWind (fun ph => [.ref (ph 47), .ref (ph a1)]) s0 zs rr := by
  refine CtI.of (by decide +kernel) (fun ph => Nat.le_of_ble_eq_true rfl) (fun E O hret => ?_)
  have O : OK cM E RX3 cX3_readWind 3 rm_X3_readWind := O
  show WS cM E 3 0 [(0, rf E 47), (1, rf E a1)] [] s0
  unfold f_X3_readWind at hf
  refine s_aload_n O 0 dX3_readWind_0 rfl rfl ?_
  refine s_iconst (v := 0) O dX3_readWind_1 rfl ?_
  refine s_iconst (v := 4) O dX3_readWind_2 rfl ?_
  obtain ⟨s1, r2, c3, hf⟩ := bn_e hf
  refine s_VI (As := [.int 0, .int 4]) (st := []) O lk_RX3_141 (k_X3_readNumber c3) rfl cs_47 rfl rfl ⟨rfl, rfl⟩ ⟨Nat.le_of_ble_eq_true rfl, Nat.le_of_ble_eq_true rfl⟩ rfl (Nat.le_of_ble_eq_true rfl) dX3_readWind_3 ?_
  refine s_if_ne (tgt := 11) O dX3_readWind_6 (by decide) (fun c => ?_) (fun c => ?_)
  · replace hf := if_f c hf
    refine s_aload_n O 0 dX3_readWind_11 rfl rfl ?_
    refine s_getI O fg_RX3_78 cs_47 rfl dX3_readWind_12 ?_
    refine s_topi (fun n4 en4 => ?_)
    replace hf := nmi_e en4 hf
    refine s_istore_n (lv' := [(2, .int n4), (0, rf E 47), (1, rf E a1)]) O dX3_readWind_15 rfl (by decide) rfl ?_
    refine s_aload_n O 1 dX3_readWind_16 rfl rfl ?_
    refine s_getI O fg_RX3_58 cs_47 rfl dX3_readWind_17 ?_
    refine s_iload_n O 0 dX3_readWind_20 rfl rfl ?_
    refine s_ishr O dX3_readWind_21 ?_
    refine s_iconst (v := 1) O dX3_readWind_22 rfl ?_
    refine s_iand O dX3_readWind_23 ?_
    refine s_iconst (v := 1) O dX3_readWind_24 rfl ?_
    refine s_icmp_ne (tgt := 38) O dX3_readWind_25 (by decide) (fun c => ?_) (fun c => ?_)
    · replace hf := if_f c hf
      refine s_aload_n O 1 dX3_readWind_38 rfl rfl ?_
      refine s_dup O dX3_readWind_39 rfl ?_
      refine s_getI O fg_RX3_58 cs_47 rfl dX3_readWind_40 ?_
      refine s_iconst (v := 1) O dX3_readWind_43 rfl ?_
      refine s_iload_n O 0 dX3_readWind_44 rfl rfl ?_
      refine s_ishl O dX3_readWind_45 ?_
      refine s_ior O dX3_readWind_46 ?_
      refine s_putI O fp_RX3_58 cs_47 rfl dX3_readWind_47 ?_
      refine s_tops (fun s5 es5 => ?_)
      replace hf := nms_e es5 hf
      refine s_aload_n O 1 dX3_readWind_50 rfl rfl ?_
      refine s_iconst (v := 0) O dX3_readWind_51 rfl ?_
      refine s_bipush (v := 8) O dX3_readWind_52 rfl ?_
      obtain ⟨s6, r7, c8, hf⟩ := bn_e hf
      refine s_VI (As := [.int 0, .int 8]) (st := []) O lk_RX3_141 (k_X3_readNumber c8) rfl cs_47 rfl rfl ⟨rfl, rfl⟩ ⟨Nat.le_of_ble_eq_true rfl, Nat.le_of_ble_eq_true rfl⟩ rfl (Nat.le_of_ble_eq_true rfl) dX3_readWind_54 ?_
      refine s_if_ne (tgt := 62) O dX3_readWind_57 (by decide) (fun c => ?_) (fun c => ?_)
      · replace hf := if_f c hf
        refine s_aload_n O 2 dX3_readWind_62 rfl rfl ?_
        refine s_getR O fg_RX3_150 (fl_0 ha1) rfl dX3_readWind_63 ?_
        refine s_iload_n O 0 dX3_readWind_66 rfl rfl ?_
        refine s_aload_n O 1 dX3_readWind_67 rfl rfl ?_
        refine s_getI O fg_RX3_78 cs_47 rfl dX3_readWind_68 ?_
        obtain ⟨h9, hf⟩ := gd_e hf
        refine s_iast O (fl_4 ha1) h9 dX3_readWind_71 ?_
        refine s_tops (fun s10 es10 => ?_)
        replace hf := nms_e es10 hf
        refine s_aload_n O 1 dX3_readWind_72 rfl rfl ?_
        obtain ⟨s11, r12, c13, hf⟩ := bn_e hf
        refine s_VI (As := []) (st := []) O lk_RX3_147 (k_X3_readSemicolon c13) rfl cs_47 rfl rfl ⟨rfl, rfl⟩ ⟨Nat.le_of_ble_eq_true rfl, Nat.le_of_ble_eq_true rfl⟩ rfl (Nat.le_of_ble_eq_true rfl) dX3_readWind_73 ?_
        obtain ⟨hz, hf⟩ := gz_e hf
        exact s_iret hret hz.nar dX3_readWind_76 hf
      · replace hf := if_t c hf
        refine s_iconst (v := 0) O dX3_readWind_60 rfl ?_
        exact s_iret hret rfl dX3_readWind_61 hf
    · replace hf := if_t c hf
      refine s_aload_n O 1 dX3_readWind_28 rfl rfl ?_
      refine s_aload_n O 1 dX3_readWind_29 rfl rfl ?_
      refine s_getI O fg_RX3_72 cs_47 rfl dX3_readWind_30 ?_
      refine s_iconst (v := 4) O dX3_readWind_33 rfl ?_
      obtain ⟨s14, r15, c16, hf⟩ := bn_e hf
      refine s_VI (As := [.int (gi s1 47 7), .int 4]) (st := []) O lk_RX3_81 (k_X3_failAt c16) rfl cs_47 rfl rfl ⟨rfl, rfl⟩ ⟨Nat.le_of_ble_eq_true rfl, Nat.le_of_ble_eq_true rfl⟩ rfl (Nat.le_of_ble_eq_true rfl) dX3_readWind_34 ?_
      obtain ⟨hz, hf⟩ := gz_e hf
      exact s_iret hret hz.nar dX3_readWind_37 hf
  · replace hf := if_t c hf
    refine s_iconst (v := 0) O dX3_readWind_9 rfl ?_
    exact s_iret hret rfl dX3_readWind_10 hf
