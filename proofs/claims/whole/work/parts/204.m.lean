def rm_X5_both : Room := { frames := 5, cells := 0, slots := 0, locals := 108 }
def fb_X5_both_l45 (a1 : Int32) (a2 : Int32) (x1 : Int32) (x2 : Int32) (x3 : Int32) (s0 : StA) (v4 : Int32) : Option (StA × ((Int32) ⊕ (Unit))) :=
  (if (gi s0 1 6) ≤ v4 then some (s0, .inr ()) else bn (f_X1_isSaid 1 x3 s0) (fun s11 r12 => (if r12 = 0 then bn (f_X1_isSaid 1 v4 s11) (fun s14 r15 => (if r15 = 0 then bn (f_X5_restartTrial  s14) (fun s17 r18 => bn (f_X1_setSaid 12 x3 1 s17) (fun s20 r21 => bn (f_X1_setSaid 12 v4 1 s20) (fun s23 r24 => bn (f_X1_firstDownAt 12 x1 s23) (fun s26 r27 => bn (f_X0_offer ((10 * x3) + v4) r27 s26) (fun s29 r30 => some (s29, .inl (v4 + 1))))))) else some (s14, .inl (v4 + 1)))) else some (s11, .inl (v4 + 1)))))
set_option maxHeartbeats 4000000 in
set_option maxRecDepth 100000 in
theorem wb_X5_both_l45 {E : XC} (O : OK cM E RX5 cX5_both 5 rm_X5_both) {a1 : Int32} {a2 : Int32}  {x1 : Int32} {x2 : Int32} {x3 : Int32} {s0 : StA} {v4 : Int32} {zs : StA} {rr : Int32} (hret : ReI cM E .int cX5_both zs rr) {bs : StA} {bw : (Int32) ⊕ (Unit)} (Kc : ∀ v, bw = .inl v → WS cM E 5 45 [(0, rf E 0), (1, .int x1), (2, .int x2), (3, .int x3), (4, .int v)] [] bs) (Ke : ∀ e, bw = .inr e → WS cM E 5 131 [(0, rf E 0), (1, .int x1), (2, .int x2), (3, .int x3)] [] bs) (hf : fb_X5_both_l45 a1 a2 x1 x2 x3 s0 v4 = some (bs, bw)) : WS cM E 5 45 [(0, rf E 0), (1, .int x1), (2, .int x2), (3, .int x3), (4, .int v4)] [] s0 := by
  unfold fb_X5_both_l45 at hf
  refine s_iload O 4 dX5_both_45 rfl ?_
  refine s_aload_n O 0 dX5_both_47 rfl rfl ?_
  refine s_getR O fg_RX5_10 cs_0 rfl dX5_both_48 ?_
  refine s_getI O fg_RX5_83 cs_1 rfl dX5_both_51 ?_
  refine s_icmp_ge (tgt := 131) O dX5_both_54 (by decide) (fun c => ?_) (fun c => ?_)
  · replace hf := if_t c hf
    refine s_loc [0, 1, 2, 3] rfl ?_
    cases hf
    exact Ke _ rfl
  · replace hf := if_f c hf
    refine s_aload_n O 0 dX5_both_57 rfl rfl ?_
    refine s_getR O fg_RX5_10 cs_0 rfl dX5_both_58 ?_
    refine s_iload_n O 3 dX5_both_61 rfl rfl ?_
    obtain ⟨s11, r12, c13, hf⟩ := bn_e hf
    refine s_VI (As := [.int x3]) (st := []) O lk_RX5_127 (k_X1_isSaid fl_is1 c13) rfl cs_1 rfl rfl ⟨rfl, rfl⟩ ⟨Nat.le_of_ble_eq_true rfl, Nat.le_of_ble_eq_true rfl⟩ rfl (Nat.le_of_ble_eq_true rfl) dX5_both_62 ?_
    refine s_if_ne (tgt := 125) O dX5_both_65 (by decide) (fun c => ?_) (fun c => ?_)
    · replace hf := if_f c hf
      refine s_iinc (v := (v4 + 1)) (lv' := [(4, .int (v4 + 1)), (0, rf E 0), (1, .int x1), (2, .int x2), (3, .int x3)]) O 4 dX5_both_125 rfl rfl (by decide) rfl ?_
      refine s_goto (tgt := 45) O dX5_both_128 (by decide) ?_
      refine s_loc [1, 2, 3, 4, 0] rfl ?_
      cases hf
      exact Kc _ rfl
    · replace hf := if_t c hf
      refine s_aload_n O 0 dX5_both_68 rfl rfl ?_
      refine s_getR O fg_RX5_10 cs_0 rfl dX5_both_69 ?_
      refine s_iload O 4 dX5_both_72 rfl ?_
      obtain ⟨s14, r15, c16, hf⟩ := bn_e hf
      refine s_VI (As := [.int v4]) (st := []) O lk_RX5_127 (k_X1_isSaid fl_is1 c16) rfl cs_1 rfl rfl ⟨rfl, rfl⟩ ⟨Nat.le_of_ble_eq_true rfl, Nat.le_of_ble_eq_true rfl⟩ rfl (Nat.le_of_ble_eq_true rfl) dX5_both_74 ?_
      refine s_if_ne (tgt := 125) O dX5_both_77 (by decide) (fun c => ?_) (fun c => ?_)
      · replace hf := if_f c hf
        refine s_iinc (v := (v4 + 1)) (lv' := [(4, .int (v4 + 1)), (0, rf E 0), (1, .int x1), (2, .int x2), (3, .int x3)]) O 4 dX5_both_125 rfl rfl (by decide) rfl ?_
        refine s_goto (tgt := 45) O dX5_both_128 (by decide) ?_
        refine s_loc [1, 2, 3, 4, 0] rfl ?_
        cases hf
        exact Kc _ rfl
      · replace hf := if_t c hf
        refine s_aload_n O 0 dX5_both_80 rfl rfl ?_
        obtain ⟨s17, r18, c19, hf⟩ := bn_e hf
        refine s_VV (As := []) (st := []) O lk_RX5_171 (k_X5_restartTrial c19) rfl cs_0 rfl rfl ⟨rfl, rfl⟩ ⟨Nat.le_of_ble_eq_true rfl, Nat.le_of_ble_eq_true rfl⟩ rfl (Nat.le_of_ble_eq_true rfl) dX5_both_81 ?_
        refine s_aload_n O 0 dX5_both_84 rfl rfl ?_
        refine s_getR O fg_RX5_16 cs_0 rfl dX5_both_85 ?_
        refine s_iload_n O 3 dX5_both_88 rfl rfl ?_
        refine s_iconst (v := 1) O dX5_both_89 rfl ?_
        obtain ⟨s20, r21, c22, hf⟩ := bn_e hf
        refine s_VV (As := [.int x3, .int 1]) (st := []) O lk_RX5_155 (k_X1_setSaid fl_is12 c22) rfl cs_12 rfl rfl ⟨rfl, rfl⟩ ⟨Nat.le_of_ble_eq_true rfl, Nat.le_of_ble_eq_true rfl⟩ rfl (Nat.le_of_ble_eq_true rfl) dX5_both_90 ?_
        refine s_aload_n O 0 dX5_both_93 rfl rfl ?_
        refine s_getR O fg_RX5_16 cs_0 rfl dX5_both_94 ?_
        refine s_iload O 4 dX5_both_97 rfl ?_
        refine s_iconst (v := 1) O dX5_both_99 rfl ?_
        obtain ⟨s23, r24, c25, hf⟩ := bn_e hf
        refine s_VV (As := [.int v4, .int 1]) (st := []) O lk_RX5_155 (k_X1_setSaid fl_is12 c25) rfl cs_12 rfl rfl ⟨rfl, rfl⟩ ⟨Nat.le_of_ble_eq_true rfl, Nat.le_of_ble_eq_true rfl⟩ rfl (Nat.le_of_ble_eq_true rfl) dX5_both_100 ?_
        refine s_aload_n O 0 dX5_both_103 rfl rfl ?_
        refine s_getR O fg_RX5_43 cs_0 rfl dX5_both_104 ?_
        refine s_bipush (v := 10) O dX5_both_107 rfl ?_
        refine s_iload_n O 3 dX5_both_109 rfl rfl ?_
        refine s_imul O dX5_both_110 ?_
        refine s_iload O 4 dX5_both_111 rfl ?_
        refine s_iadd O dX5_both_113 ?_
        refine s_aload_n O 0 dX5_both_114 rfl rfl ?_
        refine s_getR O fg_RX5_16 cs_0 rfl dX5_both_115 ?_
        refine s_iload_n O 1 dX5_both_118 rfl rfl ?_
        obtain ⟨s26, r27, c28, hf⟩ := bn_e hf
        refine s_VI (As := [.int x1]) (st := [.int ((10 * x3) + v4), rf E 59]) O lk_RX5_189 (k_X1_firstDownAt fl_is12 c28) rfl cs_12 rfl rfl ⟨rfl, rfl⟩ ⟨Nat.le_of_ble_eq_true rfl, Nat.le_of_ble_eq_true rfl⟩ rfl (Nat.le_of_ble_eq_true rfl) dX5_both_119 ?_
        obtain ⟨s29, r30, c31, hf⟩ := bn_e hf
        refine s_VV (As := [.int ((10 * x3) + v4), .int r27]) (st := []) O lk_RX5_196 (k_X0_offer c31) rfl cs_59 rfl rfl ⟨rfl, rfl⟩ ⟨Nat.le_of_ble_eq_true rfl, Nat.le_of_ble_eq_true rfl⟩ rfl (Nat.le_of_ble_eq_true rfl) dX5_both_122 ?_
        refine s_iinc (v := (v4 + 1)) (lv' := [(4, .int (v4 + 1)), (0, rf E 0), (1, .int x1), (2, .int x2), (3, .int x3)]) O 4 dX5_both_125 rfl rfl (by decide) rfl ?_
        refine s_goto (tgt := 45) O dX5_both_128 (by decide) ?_
        refine s_loc [1, 2, 3, 4, 0] rfl ?_
        cases hf
        exact Kc _ rfl
def fl_X5_both_l45 (a1 : Int32) (a2 : Int32) (x1 : Int32) (x2 : Int32) (x3 : Int32) (s0 : StA) (v : Int32) : Option (StA × ((Unit))) :=
  it (fun s v => fb_X5_both_l45 a1 a2 x1 x2 x3 s v) FU s0 v
def fb_X5_both_l29 (a1 : Int32) (a2 : Int32) (x1 : Int32) (x2 : Int32) (s0 : StA) (v3 : Int32) : Option (StA × ((Int32) ⊕ (Unit))) :=
  (if (gi s0 1 6) ≤ v3 then some (s0, .inr ()) else nmi (v3 + 1) (fun n10 => bn (fl_X5_both_l45 a1 a2 x1 x2 v3 s0 n10) (fun s32 e33 => some (s32, .inl (v3 + 1)))))
set_option maxHeartbeats 4000000 in
set_option maxRecDepth 100000 in
theorem wb_X5_both_l29 {E : XC} (O : OK cM E RX5 cX5_both 5 rm_X5_both) {a1 : Int32} {a2 : Int32}  {x1 : Int32} {x2 : Int32} {s0 : StA} {v3 : Int32} {zs : StA} {rr : Int32} (hret : ReI cM E .int cX5_both zs rr) {bs : StA} {bw : (Int32) ⊕ (Unit)} (Kc : ∀ v, bw = .inl v → WS cM E 5 29 [(0, rf E 0), (1, .int x1), (2, .int x2), (3, .int v)] [] bs) (Ke : ∀ e, bw = .inr e → WS cM E 5 137 [(0, rf E 0), (2, .int x2)] [] bs) (hf : fb_X5_both_l29 a1 a2 x1 x2 s0 v3 = some (bs, bw)) : WS cM E 5 29 [(0, rf E 0), (1, .int x1), (2, .int x2), (3, .int v3)] [] s0 := by
  unfold fb_X5_both_l29 at hf
  refine s_iload_n O 3 dX5_both_29 rfl rfl ?_
  refine s_aload_n O 0 dX5_both_30 rfl rfl ?_
  refine s_getR O fg_RX5_10 cs_0 rfl dX5_both_31 ?_
  refine s_getI O fg_RX5_83 cs_1 rfl dX5_both_34 ?_
  refine s_icmp_ge (tgt := 137) O dX5_both_37 (by decide) (fun c => ?_) (fun c => ?_)
  · replace hf := if_t c hf
    refine s_loc [0, 2] rfl ?_
    cases hf
    exact Ke _ rfl
  · replace hf := if_f c hf
    refine s_iload_n O 3 dX5_both_40 rfl rfl ?_
    refine s_iconst (v := 1) O dX5_both_41 rfl ?_
    refine s_iadd O dX5_both_42 ?_
    refine s_topi (fun n10 en10 => ?_)
    replace hf := nmi_e en10 hf
    refine s_istore (lv' := [(4, .int n10), (0, rf E 0), (1, .int x1), (2, .int x2), (3, .int v3)]) O dX5_both_43 (by decide) rfl ?_
    refine s_loc [1, 2, 3, 4, 0] rfl ?_
    obtain ⟨s32, e33, c34, hf⟩ := bn_e hf
    refine lp_of (body := fun s v => fb_X5_both_l45 a1 a2 x1 x2 v3 s v) (X := fun s v => WS cM E 5 45 [(0, rf E 0), (1, .int x1), (2, .int x2), (3, .int v3), (4, .int v)] [] s) (Y := fun s e => WS cM E 5 131 [(0, rf E 0), (1, .int x1), (2, .int x2), (3, .int v3)] [] s) (fun s v s' w hb Kc Ke => wb_X5_both_l45 (rr := rr) O   hret Kc Ke hb) FU _ _ (s32, e33) c34 ?_
    show WS cM E 5 131 [(0, rf E 0), (1, .int x1), (2, .int x2), (3, .int v3)] [] s32
    refine s_iinc (v := (v3 + 1)) (lv' := [(3, .int (v3 + 1)), (0, rf E 0), (1, .int x1), (2, .int x2)]) O 3 dX5_both_131 rfl rfl (by decide) rfl ?_
    refine s_goto (tgt := 29) O dX5_both_134 (by decide) ?_
    refine s_loc [1, 2, 3, 0] rfl ?_
    cases hf
    exact Kc _ rfl
def fl_X5_both_l29 (a1 : Int32) (a2 : Int32) (x1 : Int32) (x2 : Int32) (s0 : StA) (v : Int32) : Option (StA × ((Unit))) :=
  it (fun s v => fb_X5_both_l29 a1 a2 x1 x2 s v) FU s0 v
def f_X5_both (a1 : Int32) (a2 : Int32) (s0 : StA) : Option (StA × Int32) :=
  bn (f_X5_isPlace a1 s0) (fun s1 r2 => (if r2 = 0 then some (s1, (-1)) else bn (f_X5_isIn a2 0 1 s1) (fun s4 r5 => (if r5 = 0 then some (s4, (-1)) else bn (f_X0_beginBelow 1000000 s4) (fun s7 r8 => bn (fl_X5_both_l29 a1 a2 a1 a2 s7 0) (fun s35 e36 => bn (f_X0_answer a2 s35) (fun s38 r39 => some (s38, r39))))))))
set_option maxHeartbeats 4000000 in
set_option maxRecDepth 100000 in
theorem k_X5_both {a1 : Int32} {a2 : Int32} {s0 zs : StA} {rr : Int32} (hf : f_X5_both a1 a2 s0 = some (zs, rr)) : CtI cM yX5_both cX5_both 5 .int rm_X5_both (fun ph => [.ref (ph 0), .int a1, .int a2]) s0 zs rr := by
  refine CtI.of (by decide +kernel) (fun ph => Nat.le_of_ble_eq_true rfl) (fun E O hret => ?_)
  have O : OK cM E RX5 cX5_both 5 rm_X5_both := O
  show WS cM E 5 0 [(0, rf E 0), (1, .int a1), (2, .int a2)] [] s0
  unfold f_X5_both at hf
  refine s_iload_n O 1 dX5_both_0 rfl rfl ?_
  obtain ⟨s1, r2, c3, hf⟩ := bn_e hf
  refine s_SI (As := [.int a1]) (st := []) O lk_RX5_186 (k_X5_isPlace c3) rfl rfl ⟨rfl, rfl⟩ ⟨Nat.le_of_ble_eq_true rfl, Nat.le_of_ble_eq_true rfl⟩ rfl (Nat.le_of_ble_eq_true rfl) dX5_both_1 ?_
  refine s_if_eq (tgt := 16) O dX5_both_4 (by decide) (fun c => ?_) (fun c => ?_)
  · replace hf := if_t c hf
    refine s_iconst (v := (-1)) O dX5_both_16 rfl ?_
    exact s_iret hret rfl dX5_both_17 hf
  · replace hf := if_f c hf
    refine s_iload_n O 2 dX5_both_7 rfl rfl ?_
    refine s_iconst (v := 0) O dX5_both_8 rfl ?_
    refine s_iconst (v := 1) O dX5_both_9 rfl ?_
    obtain ⟨s4, r5, c6, hf⟩ := bn_e hf
    refine s_SI (As := [.int a2, .int 0, .int 1]) (st := []) O lk_RX5_57 (k_X5_isIn c6) rfl rfl ⟨rfl, rfl⟩ ⟨Nat.le_of_ble_eq_true rfl, Nat.le_of_ble_eq_true rfl⟩ rfl (Nat.le_of_ble_eq_true rfl) dX5_both_10 ?_
    refine s_if_ne (tgt := 18) O dX5_both_13 (by decide) (fun c => ?_) (fun c => ?_)
    · replace hf := if_f c hf
      refine s_aload_n O 0 dX5_both_18 rfl rfl ?_
      refine s_getR O fg_RX5_43 cs_0 rfl dX5_both_19 ?_
      refine s_ldc O ci_RX5_192 dX5_both_22 ?_
      obtain ⟨s7, r8, c9, hf⟩ := bn_e hf
      refine s_VV (As := [.int 1000000]) (st := []) O lk_RX5_193 (k_X0_beginBelow c9) rfl cs_59 rfl rfl ⟨rfl, rfl⟩ ⟨Nat.le_of_ble_eq_true rfl, Nat.le_of_ble_eq_true rfl⟩ rfl (Nat.le_of_ble_eq_true rfl) dX5_both_24 ?_
      refine s_iconst (v := 0) O dX5_both_27 rfl ?_
      refine s_istore_n (lv' := [(3, .int 0), (0, rf E 0), (1, .int a1), (2, .int a2)]) O dX5_both_28 rfl (by decide) rfl ?_
      refine s_loc [1, 2, 3, 0] rfl ?_
      obtain ⟨s35, e36, c37, hf⟩ := bn_e hf
      refine lp_of (body := fun s v => fb_X5_both_l29 a1 a2 a1 a2 s v) (X := fun s v => WS cM E 5 29 [(0, rf E 0), (1, .int a1), (2, .int a2), (3, .int v)] [] s) (Y := fun s e => WS cM E 5 137 [(0, rf E 0), (2, .int a2)] [] s) (fun s v s' w hb Kc Ke => wb_X5_both_l29 (rr := rr) O   hret Kc Ke hb) FU _ _ (s35, e36) c37 ?_
      show WS cM E 5 137 [(0, rf E 0), (2, .int a2)] [] s35
      refine s_aload_n O 0 dX5_both_137 rfl rfl ?_
      refine s_getR O fg_RX5_43 cs_0 rfl dX5_both_138 ?_
      refine s_iload_n O 1 dX5_both_141 rfl rfl ?_
      obtain ⟨s38, r39, c40, hf⟩ := bn_e hf
      refine s_VI (As := [.int a2]) (st := []) O lk_RX5_200 (k_X0_answer c40) rfl cs_59 rfl rfl ⟨rfl, rfl⟩ ⟨Nat.le_of_ble_eq_true rfl, Nat.le_of_ble_eq_true rfl⟩ rfl (Nat.le_of_ble_eq_true rfl) dX5_both_142 ?_
      exact s_iret hret rfl dX5_both_145 hf
    · replace hf := if_t c hf
      refine s_iconst (v := (-1)) O dX5_both_16 rfl ?_
      exact s_iret hret rfl dX5_both_17 hf
def rm_X1_offFrom : Room := { frames := 1, cells := 0, slots := 0, locals := 21 }
def f_X1_offFrom (k : Nat) (a1 : Int32) (s0 : StA) : Option (StA × Int32) :=
  nmi (if 0 ≤ ((gi s0 k 9) - a1) then ((gi s0 k 9) - a1) else 0 - ((gi s0 k 9) - a1)) (fun n1 => some (s0, n1))
set_option maxHeartbeats 4000000 in
set_option maxRecDepth 100000 in
theorem k_X1_offFrom {k : Nat} {a1 : Int32} (hk : isFl k) {s0 zs : StA} {rr : Int32} (hf : f_X1_offFrom k a1 s0 = some (zs, rr)) : CtI cM yX1_offFrom cX1_offFrom 2 .int rm_X1_offFrom (fun ph => [.ref (ph k), .int a1]) s0 zs rr := by
  refine CtI.of (by decide +kernel) (fun ph => Nat.le_of_ble_eq_true rfl) (fun E O hret => ?_)
  have O : OK cM E RX1 cX1_offFrom 2 rm_X1_offFrom := O
  show WS cM E 2 0 [(0, rf E k), (1, .int a1)] [] s0
  unfold f_X1_offFrom at hf
  refine s_aload_n O 0 dX1_offFrom_0 rfl rfl ?_
  refine s_getI O fg_RX1_55 (fl_0 hk) rfl dX1_offFrom_1 ?_
  refine s_iload_n O 1 dX1_offFrom_4 rfl rfl ?_
  refine s_isub O dX1_offFrom_5 ?_
  refine s_mabs (st := []) O lk_RX1_91 ⟨Nat.le_of_ble_eq_true rfl, Nat.le_of_ble_eq_true rfl⟩ (Nat.le_of_ble_eq_true rfl) dX1_offFrom_6 ?_
  refine s_topi (fun n1 en1 => ?_)
  replace hf := nmi_e en1 hf
  exact s_iret hret rfl dX1_offFrom_9 hf
def rm_X5_when : Room := { frames := 5, cells := 0, slots := 0, locals := 108 }
def fj_X5_when_j99 (a1 : Int32) (a2 : Int32) (a3 : Int32) (a4 : Int32) (x1 : Int32) (x2 : Int32) (x3 : Int32) (x4 : Int32) (j5 : Int32) (s0 : StA) : Option (StA × ((Int32) ⊕ (Unit))) :=
  bn (f_X1_offFrom 12 x2 s0) (fun s23 r24 => bn (f_X0_offer j5 r24 s23) (fun s26 r27 => some (s26, .inl (j5 + 1))))
set_option maxHeartbeats 4000000 in
set_option maxRecDepth 100000 in
theorem wj_X5_when_j99 {E : XC} (O : OK cM E RX5 cX5_when 6 rm_X5_when) {a1 : Int32} {a2 : Int32} {a3 : Int32} {a4 : Int32}  {x1 : Int32} {x2 : Int32} {x3 : Int32} {x4 : Int32} {j5 : Int32} {s0 : StA} {zs : StA} {rr : Int32} (hret : ReI cM E .int cX5_when zs rr) {bs : StA} {bw : (Int32) ⊕ (Unit)} (Kc : ∀ v, bw = .inl v → WS cM E 6 49 [(0, rf E 0), (1, .int x1), (2, .int x2), (3, .int x3), (4, .int x4), (5, .int v)] [] bs) (Ke : ∀ e, bw = .inr e → WS cM E 6 122 [(0, rf E 0), (4, .int x4)] [] bs) (hf : fj_X5_when_j99 a1 a2 a3 a4 x1 x2 x3 x4 j5 s0 = some (bs, bw)) : WS cM E 6 99 [(0, rf E 0), (1, .int x1), (2, .int x2), (3, .int x3), (4, .int x4), (5, .int j5)] [] s0 := by
  unfold fj_X5_when_j99 at hf
  refine s_aload_n O 0 dX5_when_99 rfl rfl ?_
  refine s_getR O fg_RX5_43 cs_0 rfl dX5_when_100 ?_
  refine s_iload O 5 dX5_when_103 rfl ?_
  refine s_aload_n O 0 dX5_when_105 rfl rfl ?_
  refine s_getR O fg_RX5_16 cs_0 rfl dX5_when_106 ?_
  refine s_iload_n O 2 dX5_when_109 rfl rfl ?_
  obtain ⟨s23, r24, c25, hf⟩ := bn_e hf
  refine s_VI (As := [.int x2]) (st := [.int j5, rf E 59]) O lk_RX5_208 (k_X1_offFrom fl_is12 c25) rfl cs_12 rfl rfl ⟨rfl, rfl⟩ ⟨Nat.le_of_ble_eq_true rfl, Nat.le_of_ble_eq_true rfl⟩ rfl (Nat.le_of_ble_eq_true rfl) dX5_when_110 ?_
  obtain ⟨s26, r27, c28, hf⟩ := bn_e hf
  refine s_VV (As := [.int j5, .int r24]) (st := []) O lk_RX5_196 (k_X0_offer c28) rfl cs_59 rfl rfl ⟨rfl, rfl⟩ ⟨Nat.le_of_ble_eq_true rfl, Nat.le_of_ble_eq_true rfl⟩ rfl (Nat.le_of_ble_eq_true rfl) dX5_when_113 ?_
  refine s_iinc (v := (j5 + 1)) (lv' := [(5, .int (j5 + 1)), (0, rf E 0), (1, .int x1), (2, .int x2), (3, .int x3), (4, .int x4)]) O 5 dX5_when_116 rfl rfl (by decide) rfl ?_
  refine s_goto (tgt := 49) O dX5_when_119 (by decide) ?_
  refine s_loc [1, 2, 3, 4, 5, 0] rfl ?_
  cases hf
  exact Kc _ rfl
def fb_X5_when_l49 (a1 : Int32) (a2 : Int32) (a3 : Int32) (a4 : Int32) (x1 : Int32) (x2 : Int32) (x3 : Int32) (x4 : Int32) (s0 : StA) (v5 : Int32) : Option (StA × ((Int32) ⊕ (Unit))) :=
  (if 30 < v5 then some (s0, .inr ()) else bn (f_X5_restartTrial  s0) (fun s16 r17 => nmi (if x3 < v5 then x3 else v5) (fun n19 => bn (f_X1_passAll 12 n19 s16) (fun s20 r21 => (if x3 ≤ v5 then fj_X5_when_j99 a1 a2 a3 a4 x1 x2 x3 x4 v5 s20 else bn (f_X1_setSaid 12 x1 1 s20) (fun s29 r30 => bn (f_X1_passAll 12 (x3 - v5) s29) (fun s32 r33 => fj_X5_when_j99 a1 a2 a3 a4 x1 x2 x3 x4 v5 s32)))))))
set_option maxHeartbeats 4000000 in
set_option maxRecDepth 100000 in
theorem wb_X5_when_l49 {E : XC} (O : OK cM E RX5 cX5_when 6 rm_X5_when) {a1 : Int32} {a2 : Int32} {a3 : Int32} {a4 : Int32}  {x1 : Int32} {x2 : Int32} {x3 : Int32} {x4 : Int32} {s0 : StA} {v5 : Int32} {zs : StA} {rr : Int32} (hret : ReI cM E .int cX5_when zs rr) {bs : StA} {bw : (Int32) ⊕ (Unit)} (Kc : ∀ v, bw = .inl v → WS cM E 6 49 [(0, rf E 0), (1, .int x1), (2, .int x2), (3, .int x3), (4, .int x4), (5, .int v)] [] bs) (Ke : ∀ e, bw = .inr e → WS cM E 6 122 [(0, rf E 0), (4, .int x4)] [] bs) (hf : fb_X5_when_l49 a1 a2 a3 a4 x1 x2 x3 x4 s0 v5 = some (bs, bw)) : WS cM E 6 49 [(0, rf E 0), (1, .int x1), (2, .int x2), (3, .int x3), (4, .int x4), (5, .int v5)] [] s0 := by
  unfold fb_X5_when_l49 at hf
  refine s_iload O 5 dX5_when_49 rfl ?_
  refine s_bipush (v := 30) O dX5_when_51 rfl ?_
  refine s_icmp_gt (tgt := 122) O dX5_when_53 (by decide) (fun c => ?_) (fun c => ?_)
  · replace hf := if_t c hf
    refine s_loc [0, 4] rfl ?_
    cases hf
    exact Ke _ rfl
  · replace hf := if_f c hf
    refine s_aload_n O 0 dX5_when_56 rfl rfl ?_
    obtain ⟨s16, r17, c18, hf⟩ := bn_e hf
    refine s_VV (As := []) (st := []) O lk_RX5_171 (k_X5_restartTrial c18) rfl cs_0 rfl rfl ⟨rfl, rfl⟩ ⟨Nat.le_of_ble_eq_true rfl, Nat.le_of_ble_eq_true rfl⟩ rfl (Nat.le_of_ble_eq_true rfl) dX5_when_57 ?_
    refine s_aload_n O 0 dX5_when_60 rfl rfl ?_
    refine s_getR O fg_RX5_16 cs_0 rfl dX5_when_61 ?_
    refine s_iload O 5 dX5_when_64 rfl ?_
    refine s_iload_n O 3 dX5_when_66 rfl rfl ?_
    refine s_mmin (st := [rf E 12]) O lk_RX5_203 ⟨Nat.le_of_ble_eq_true rfl, Nat.le_of_ble_eq_true rfl⟩ (Nat.le_of_ble_eq_true rfl) dX5_when_67 ?_
    refine s_topi (fun n19 en19 => ?_)
    replace hf := nmi_e en19 hf
    obtain ⟨s20, r21, c22, hf⟩ := bn_e hf
    refine s_VV (As := [.int n19]) (st := []) O lk_RX5_164 (k_X1_passAll fl_is12 c22) rfl cs_12 rfl rfl ⟨rfl, rfl⟩ ⟨Nat.le_of_ble_eq_true rfl, Nat.le_of_ble_eq_true rfl⟩ rfl (Nat.le_of_ble_eq_true rfl) dX5_when_70 ?_
    refine s_iload O 5 dX5_when_73 rfl ?_
    refine s_iload_n O 3 dX5_when_75 rfl rfl ?_
    refine s_icmp_ge (tgt := 99) O dX5_when_76 (by decide) (fun c => ?_) (fun c => ?_)
    · replace hf := if_t c hf
      exact wj_X5_when_j99 (rr := rr) O   hret Kc Ke hf
    · replace hf := if_f c hf
      refine s_aload_n O 0 dX5_when_79 rfl rfl ?_
      refine s_getR O fg_RX5_16 cs_0 rfl dX5_when_80 ?_
      refine s_iload_n O 1 dX5_when_83 rfl rfl ?_
      refine s_iconst (v := 1) O dX5_when_84 rfl ?_
      obtain ⟨s29, r30, c31, hf⟩ := bn_e hf
      refine s_VV (As := [.int x1, .int 1]) (st := []) O lk_RX5_155 (k_X1_setSaid fl_is12 c31) rfl cs_12 rfl rfl ⟨rfl, rfl⟩ ⟨Nat.le_of_ble_eq_true rfl, Nat.le_of_ble_eq_true rfl⟩ rfl (Nat.le_of_ble_eq_true rfl) dX5_when_85 ?_
      refine s_aload_n O 0 dX5_when_88 rfl rfl ?_
      refine s_getR O fg_RX5_16 cs_0 rfl dX5_when_89 ?_
      refine s_iload_n O 3 dX5_when_92 rfl rfl ?_
      refine s_iload O 5 dX5_when_93 rfl ?_
      refine s_isub O dX5_when_95 ?_
      obtain ⟨s32, r33, c34, hf⟩ := bn_e hf
      refine s_VV (As := [.int (x3 - v5)]) (st := []) O lk_RX5_164 (k_X1_passAll fl_is12 c34) rfl cs_12 rfl rfl ⟨rfl, rfl⟩ ⟨Nat.le_of_ble_eq_true rfl, Nat.le_of_ble_eq_true rfl⟩ rfl (Nat.le_of_ble_eq_true rfl) dX5_when_96 ?_
      exact wj_X5_when_j99 (rr := rr) O   hret Kc Ke hf
def fl_X5_when_l49 (a1 : Int32) (a2 : Int32) (a3 : Int32) (a4 : Int32) (x1 : Int32) (x2 : Int32) (x3 : Int32) (x4 : Int32) (s0 : StA) (v : Int32) : Option (StA × ((Unit))) :=
  it (fun s v => fb_X5_when_l49 a1 a2 a3 a4 x1 x2 x3 x4 s v) FU s0 v
def f_X5_when (a1 : Int32) (a2 : Int32) (a3 : Int32) (a4 : Int32) (s0 : StA) : Option (StA × Int32) :=
  bn (f_X1_hasThing 1 a1 s0) (fun s1 r2 => (if r2 = 0 then some (s1, (-1)) else bn (f_X5_isPlace a2 s1) (fun s4 r5 => (if r5 = 0 then some (s4, (-1)) else bn (f_X5_isForecast a3 s4) (fun s7 r8 => (if r8 = 0 then some (s7, (-1)) else bn (f_X5_isIn a4 0 1 s7) (fun s10 r11 => (if r11 = 0 then some (s10, (-1)) else bn (f_X0_beginBelow 1000000 s10) (fun s13 r14 => bn (fl_X5_when_l49 a1 a2 a3 a4 a1 a2 a3 a4 s13 0) (fun s35 e36 => bn (f_X0_answer a4 s35) (fun s38 r39 => some (s38, r39))))))))))))
set_option maxHeartbeats 4000000 in
set_option maxRecDepth 100000 in
theorem k_X5_when {a1 : Int32} {a2 : Int32} {a3 : Int32} {a4 : Int32} {s0 zs : StA} {rr : Int32} (hf : f_X5_when a1 a2 a3 a4 s0 = some (zs, rr)) : CtI cM yX5_when cX5_when 6 .int rm_X5_when (fun ph => [.ref (ph 0), .int a1, .int a2, .int a3, .int a4]) s0 zs rr := by
  refine CtI.of (by decide +kernel) (fun ph => Nat.le_of_ble_eq_true rfl) (fun E O hret => ?_)
  have O : OK cM E RX5 cX5_when 6 rm_X5_when := O
  show WS cM E 6 0 [(0, rf E 0), (1, .int a1), (2, .int a2), (3, .int a3), (4, .int a4)] [] s0
  unfold f_X5_when at hf
  refine s_aload_n O 0 dX5_when_0 rfl rfl ?_
  refine s_getR O fg_RX5_10 cs_0 rfl dX5_when_1 ?_
  refine s_iload_n O 1 dX5_when_4 rfl rfl ?_
  obtain ⟨s1, r2, c3, hf⟩ := bn_e hf
  refine s_VI (As := [.int a1]) (st := []) O lk_RX5_114 (k_X1_hasThing fl_is1 c3) rfl cs_1 rfl rfl ⟨rfl, rfl⟩ ⟨Nat.le_of_ble_eq_true rfl, Nat.le_of_ble_eq_true rfl⟩ rfl (Nat.le_of_ble_eq_true rfl) dX5_when_5 ?_
  refine s_if_eq (tgt := 35) O dX5_when_8 (by decide) (fun c => ?_) (fun c => ?_)
  · replace hf := if_t c hf
    refine s_iconst (v := (-1)) O dX5_when_35 rfl ?_
    exact s_iret hret rfl dX5_when_36 hf
  · replace hf := if_f c hf
    refine s_iload_n O 2 dX5_when_11 rfl rfl ?_
    obtain ⟨s4, r5, c6, hf⟩ := bn_e hf
    refine s_SI (As := [.int a2]) (st := []) O lk_RX5_186 (k_X5_isPlace c6) rfl rfl ⟨rfl, rfl⟩ ⟨Nat.le_of_ble_eq_true rfl, Nat.le_of_ble_eq_true rfl⟩ rfl (Nat.le_of_ble_eq_true rfl) dX5_when_12 ?_
    refine s_if_eq (tgt := 35) O dX5_when_15 (by decide) (fun c => ?_) (fun c => ?_)
    · replace hf := if_t c hf
      refine s_iconst (v := (-1)) O dX5_when_35 rfl ?_
      exact s_iret hret rfl dX5_when_36 hf
    · replace hf := if_f c hf
      refine s_iload_n O 3 dX5_when_18 rfl rfl ?_
      obtain ⟨s7, r8, c9, hf⟩ := bn_e hf
      refine s_SI (As := [.int a3]) (st := []) O lk_RX5_168 (k_X5_isForecast c9) rfl rfl ⟨rfl, rfl⟩ ⟨Nat.le_of_ble_eq_true rfl, Nat.le_of_ble_eq_true rfl⟩ rfl (Nat.le_of_ble_eq_true rfl) dX5_when_19 ?_
      refine s_if_eq (tgt := 35) O dX5_when_22 (by decide) (fun c => ?_) (fun c => ?_)
      · replace hf := if_t c hf
        refine s_iconst (v := (-1)) O dX5_when_35 rfl ?_
        exact s_iret hret rfl dX5_when_36 hf
      · replace hf := if_f c hf
        refine s_iload O 4 dX5_when_25 rfl ?_
        refine s_iconst (v := 0) O dX5_when_27 rfl ?_
        refine s_iconst (v := 1) O dX5_when_28 rfl ?_
        obtain ⟨s10, r11, c12, hf⟩ := bn_e hf
        refine s_SI (As := [.int a4, .int 0, .int 1]) (st := []) O lk_RX5_57 (k_X5_isIn c12) rfl rfl ⟨rfl, rfl⟩ ⟨Nat.le_of_ble_eq_true rfl, Nat.le_of_ble_eq_true rfl⟩ rfl (Nat.le_of_ble_eq_true rfl) dX5_when_29 ?_
        refine s_if_ne (tgt := 37) O dX5_when_32 (by decide) (fun c => ?_) (fun c => ?_)
        · replace hf := if_f c hf
          refine s_aload_n O 0 dX5_when_37 rfl rfl ?_
          refine s_getR O fg_RX5_43 cs_0 rfl dX5_when_38 ?_
          refine s_ldc O ci_RX5_192 dX5_when_41 ?_
          obtain ⟨s13, r14, c15, hf⟩ := bn_e hf
          refine s_VV (As := [.int 1000000]) (st := []) O lk_RX5_193 (k_X0_beginBelow c15) rfl cs_59 rfl rfl ⟨rfl, rfl⟩ ⟨Nat.le_of_ble_eq_true rfl, Nat.le_of_ble_eq_true rfl⟩ rfl (Nat.le_of_ble_eq_true rfl) dX5_when_43 ?_
          refine s_iconst (v := 0) O dX5_when_46 rfl ?_
          refine s_istore (lv' := [(5, .int 0), (0, rf E 0), (1, .int a1), (2, .int a2), (3, .int a3), (4, .int a4)]) O dX5_when_47 (by decide) rfl ?_
          refine s_loc [1, 2, 3, 4, 5, 0] rfl ?_
          obtain ⟨s35, e36, c37, hf⟩ := bn_e hf
          refine lp_of (body := fun s v => fb_X5_when_l49 a1 a2 a3 a4 a1 a2 a3 a4 s v) (X := fun s v => WS cM E 6 49 [(0, rf E 0), (1, .int a1), (2, .int a2), (3, .int a3), (4, .int a4), (5, .int v)] [] s) (Y := fun s e => WS cM E 6 122 [(0, rf E 0), (4, .int a4)] [] s) (fun s v s' w hb Kc Ke => wb_X5_when_l49 (rr := rr) O   hret Kc Ke hb) FU _ _ (s35, e36) c37 ?_
          show WS cM E 6 122 [(0, rf E 0), (4, .int a4)] [] s35
          refine s_aload_n O 0 dX5_when_122 rfl rfl ?_
          refine s_getR O fg_RX5_43 cs_0 rfl dX5_when_123 ?_
          refine s_iload O 1 dX5_when_126 rfl ?_
          obtain ⟨s38, r39, c40, hf⟩ := bn_e hf
          refine s_VI (As := [.int a4]) (st := []) O lk_RX5_200 (k_X0_answer c40) rfl cs_59 rfl rfl ⟨rfl, rfl⟩ ⟨Nat.le_of_ble_eq_true rfl, Nat.le_of_ble_eq_true rfl⟩ rfl (Nat.le_of_ble_eq_true rfl) dX5_when_128 ?_
          exact s_iret hret rfl dX5_when_131 hf
        · replace hf := if_t c hf
          refine s_iconst (v := (-1)) O dX5_when_35 rfl ?_
          exact s_iret hret rfl dX5_when_36 hf
def rm_X5_steer : Room := { frames := 5, cells := 0, slots := 0, locals := 108 }
def fb_X5_steer_l45 (a1 : Int32) (a2 : Int32) (a3 : Int32) (a4 : Int32) (x1 : Int32) (x2 : Int32) (x3 : Int32) (x4 : Int32) (s0 : StA) (v5 : Int32) : Option (StA × ((Int32) ⊕ (Unit))) :=
  (if 8 < v5 then some (s0, .inr ()) else bn (f_X5_restartTrial  s0) (fun s16 r17 => gd x1 5 (nms (si s16 16 x1.toNatClampNeg v5) (fun s20 => bn (f_X1_passAll 12 x3 s20) (fun s21 r22 => bn (f_X1_offFrom 12 x2 s21) (fun s24 r25 => bn (f_X0_offer v5 r25 s24) (fun s27 r28 => some (s27, .inl (v5 + 1)))))))))
set_option maxHeartbeats 4000000 in
set_option maxRecDepth 100000 in
theorem wb_X5_steer_l45 {E : XC} (O : OK cM E RX5 cX5_steer 6 rm_X5_steer) {a1 : Int32} {a2 : Int32} {a3 : Int32} {a4 : Int32}  {x1 : Int32} {x2 : Int32} {x3 : Int32} {x4 : Int32} {s0 : StA} {v5 : Int32} {zs : StA} {rr : Int32} (hret : ReI cM E .int cX5_steer zs rr) {bs : StA} {bw : (Int32) ⊕ (Unit)} (Kc : ∀ v, bw = .inl v → WS cM E 6 45 [(0, rf E 0), (1, .int x1), (2, .int x2), (3, .int x3), (4, .int x4), (5, .int v)] [] bs) (Ke : ∀ e, bw = .inr e → WS cM E 6 98 [(0, rf E 0), (4, .int x4)] [] bs) (hf : fb_X5_steer_l45 a1 a2 a3 a4 x1 x2 x3 x4 s0 v5 = some (bs, bw)) : WS cM E 6 45 [(0, rf E 0), (1, .int x1), (2, .int x2), (3, .int x3), (4, .int x4), (5, .int v5)] [] s0 := by
  unfold fb_X5_steer_l45 at hf
  refine s_iload O 5 dX5_steer_45 rfl ?_
  refine s_bipush (v := 8) O dX5_steer_47 rfl ?_
  refine s_icmp_gt (tgt := 98) O dX5_steer_49 (by decide) (fun c => ?_) (fun c => ?_)
  · replace hf := if_t c hf
    refine s_loc [0, 4] rfl ?_
    cases hf
    exact Ke _ rfl
  · replace hf := if_f c hf
    refine s_aload_n O 0 dX5_steer_52 rfl rfl ?_
    obtain ⟨s16, r17, c18, hf⟩ := bn_e hf
    refine s_VV (As := []) (st := []) O lk_RX5_171 (k_X5_restartTrial c18) rfl cs_0 rfl rfl ⟨rfl, rfl⟩ ⟨Nat.le_of_ble_eq_true rfl, Nat.le_of_ble_eq_true rfl⟩ rfl (Nat.le_of_ble_eq_true rfl) dX5_steer_53 ?_
    refine s_aload_n O 0 dX5_steer_56 rfl rfl ?_
    refine s_getR O fg_RX5_16 cs_0 rfl dX5_steer_57 ?_
    refine s_getR O fg_RX5_136 cs_12 rfl dX5_steer_60 ?_
    refine s_iload_n O 1 dX5_steer_63 rfl rfl ?_
    refine s_iload O 5 dX5_steer_64 rfl ?_
    obtain ⟨h19, hf⟩ := gd_e hf
    refine s_iast O cs_16 h19 dX5_steer_66 ?_
    refine s_tops (fun s20 es20 => ?_)
    replace hf := nms_e es20 hf
    refine s_aload_n O 0 dX5_steer_67 rfl rfl ?_
    refine s_getR O fg_RX5_16 cs_0 rfl dX5_steer_68 ?_
    refine s_iload_n O 3 dX5_steer_71 rfl rfl ?_
    obtain ⟨s21, r22, c23, hf⟩ := bn_e hf
    refine s_VV (As := [.int x3]) (st := []) O lk_RX5_164 (k_X1_passAll fl_is12 c23) rfl cs_12 rfl rfl ⟨rfl, rfl⟩ ⟨Nat.le_of_ble_eq_true rfl, Nat.le_of_ble_eq_true rfl⟩ rfl (Nat.le_of_ble_eq_true rfl) dX5_steer_72 ?_
    refine s_aload_n O 0 dX5_steer_75 rfl rfl ?_
    refine s_getR O fg_RX5_43 cs_0 rfl dX5_steer_76 ?_
    refine s_iload O 5 dX5_steer_79 rfl ?_
    refine s_aload_n O 0 dX5_steer_81 rfl rfl ?_
    refine s_getR O fg_RX5_16 cs_0 rfl dX5_steer_82 ?_
    refine s_iload_n O 2 dX5_steer_85 rfl rfl ?_
    obtain ⟨s24, r25, c26, hf⟩ := bn_e hf
    refine s_VI (As := [.int x2]) (st := [.int v5, rf E 59]) O lk_RX5_208 (k_X1_offFrom fl_is12 c26) rfl cs_12 rfl rfl ⟨rfl, rfl⟩ ⟨Nat.le_of_ble_eq_true rfl, Nat.le_of_ble_eq_true rfl⟩ rfl (Nat.le_of_ble_eq_true rfl) dX5_steer_86 ?_
    obtain ⟨s27, r28, c29, hf⟩ := bn_e hf
    refine s_VV (As := [.int v5, .int r25]) (st := []) O lk_RX5_196 (k_X0_offer c29) rfl cs_59 rfl rfl ⟨rfl, rfl⟩ ⟨Nat.le_of_ble_eq_true rfl, Nat.le_of_ble_eq_true rfl⟩ rfl (Nat.le_of_ble_eq_true rfl) dX5_steer_89 ?_
    refine s_iinc (v := (v5 + 1)) (lv' := [(5, .int (v5 + 1)), (0, rf E 0), (1, .int x1), (2, .int x2), (3, .int x3), (4, .int x4)]) O 5 dX5_steer_92 rfl rfl (by decide) rfl ?_
    refine s_goto (tgt := 45) O dX5_steer_95 (by decide) ?_
    refine s_loc [1, 2, 3, 4, 5, 0] rfl ?_
    cases hf
    exact Kc _ rfl
def fl_X5_steer_l45 (a1 : Int32) (a2 : Int32) (a3 : Int32) (a4 : Int32) (x1 : Int32) (x2 : Int32) (x3 : Int32) (x4 : Int32) (s0 : StA) (v : Int32) : Option (StA × ((Unit))) :=
  it (fun s v => fb_X5_steer_l45 a1 a2 a3 a4 x1 x2 x3 x4 s v) FU s0 v
def f_X5_steer (a1 : Int32) (a2 : Int32) (a3 : Int32) (a4 : Int32) (s0 : StA) : Option (StA × Int32) :=
  bn (f_X5_isWind a1 s0) (fun s1 r2 => (if r2 = 0 then some (s1, (-1)) else bn (f_X5_isPlace a2 s1) (fun s4 r5 => (if r5 = 0 then some (s4, (-1)) else bn (f_X5_isForecast a3 s4) (fun s7 r8 => (if r8 = 0 then some (s7, (-1)) else bn (f_X5_isIn a4 0 1 s7) (fun s10 r11 => (if r11 = 0 then some (s10, (-1)) else bn (f_X0_beginBelow 1000000 s10) (fun s13 r14 => bn (fl_X5_steer_l45 a1 a2 a3 a4 a1 a2 a3 a4 s13 0) (fun s30 e31 => bn (f_X0_answer a4 s30) (fun s33 r34 => some (s33, r34))))))))))))
set_option maxHeartbeats 4000000 in
set_option maxRecDepth 100000 in
theorem k_X5_steer {a1 : Int32} {a2 : Int32} {a3 : Int32} {a4 : Int32} {s0 zs : StA} {rr : Int32} (hf : f_X5_steer a1 a2 a3 a4 s0 = some (zs, rr)) : CtI cM yX5_steer cX5_steer 6 .int rm_X5_steer (fun ph => [.ref (ph 0), .int a1, .int a2, .int a3, .int a4]) s0 zs rr := by
  refine CtI.of (by decide +kernel) (fun ph => Nat.le_of_ble_eq_true rfl) (fun E O hret => ?_)
  have O : OK cM E RX5 cX5_steer 6 rm_X5_steer := O
  show WS cM E 6 0 [(0, rf E 0), (1, .int a1), (2, .int a2), (3, .int a3), (4, .int a4)] [] s0
  unfold f_X5_steer at hf
  refine s_iload_n O 1 dX5_steer_0 rfl rfl ?_
  obtain ⟨s1, r2, c3, hf⟩ := bn_e hf
  refine s_SI (As := [.int a1]) (st := []) O lk_RX5_133 (k_X5_isWind c3) rfl rfl ⟨rfl, rfl⟩ ⟨Nat.le_of_ble_eq_true rfl, Nat.le_of_ble_eq_true rfl⟩ rfl (Nat.le_of_ble_eq_true rfl) dX5_steer_1 ?_
  refine s_if_eq (tgt := 31) O dX5_steer_4 (by decide) (fun c => ?_) (fun c => ?_)
  · replace hf := if_t c hf
    refine s_iconst (v := (-1)) O dX5_steer_31 rfl ?_
    exact s_iret hret rfl dX5_steer_32 hf
  · replace hf := if_f c hf
    refine s_iload_n O 2 dX5_steer_7 rfl rfl ?_
    obtain ⟨s4, r5, c6, hf⟩ := bn_e hf
    refine s_SI (As := [.int a2]) (st := []) O lk_RX5_186 (k_X5_isPlace c6) rfl rfl ⟨rfl, rfl⟩ ⟨Nat.le_of_ble_eq_true rfl, Nat.le_of_ble_eq_true rfl⟩ rfl (Nat.le_of_ble_eq_true rfl) dX5_steer_8 ?_
    refine s_if_eq (tgt := 31) O dX5_steer_11 (by decide) (fun c => ?_) (fun c => ?_)
    · replace hf := if_t c hf
      refine s_iconst (v := (-1)) O dX5_steer_31 rfl ?_
      exact s_iret hret rfl dX5_steer_32 hf
    · replace hf := if_f c hf
      refine s_iload_n O 3 dX5_steer_14 rfl rfl ?_
      obtain ⟨s7, r8, c9, hf⟩ := bn_e hf
      refine s_SI (As := [.int a3]) (st := []) O lk_RX5_168 (k_X5_isForecast c9) rfl rfl ⟨rfl, rfl⟩ ⟨Nat.le_of_ble_eq_true rfl, Nat.le_of_ble_eq_true rfl⟩ rfl (Nat.le_of_ble_eq_true rfl) dX5_steer_15 ?_
      refine s_if_eq (tgt := 31) O dX5_steer_18 (by decide) (fun c => ?_) (fun c => ?_)
      · replace hf := if_t c hf
        refine s_iconst (v := (-1)) O dX5_steer_31 rfl ?_
        exact s_iret hret rfl dX5_steer_32 hf
      · replace hf := if_f c hf
        refine s_iload O 4 dX5_steer_21 rfl ?_
        refine s_iconst (v := 0) O dX5_steer_23 rfl ?_
        refine s_iconst (v := 1) O dX5_steer_24 rfl ?_
        obtain ⟨s10, r11, c12, hf⟩ := bn_e hf
        refine s_SI (As := [.int a4, .int 0, .int 1]) (st := []) O lk_RX5_57 (k_X5_isIn c12) rfl rfl ⟨rfl, rfl⟩ ⟨Nat.le_of_ble_eq_true rfl, Nat.le_of_ble_eq_true rfl⟩ rfl (Nat.le_of_ble_eq_true rfl) dX5_steer_25 ?_
        refine s_if_ne (tgt := 33) O dX5_steer_28 (by decide) (fun c => ?_) (fun c => ?_)
        · replace hf := if_f c hf
          refine s_aload_n O 0 dX5_steer_33 rfl rfl ?_
          refine s_getR O fg_RX5_43 cs_0 rfl dX5_steer_34 ?_
          refine s_ldc O ci_RX5_192 dX5_steer_37 ?_
          obtain ⟨s13, r14, c15, hf⟩ := bn_e hf
          refine s_VV (As := [.int 1000000]) (st := []) O lk_RX5_193 (k_X0_beginBelow c15) rfl cs_59 rfl rfl ⟨rfl, rfl⟩ ⟨Nat.le_of_ble_eq_true rfl, Nat.le_of_ble_eq_true rfl⟩ rfl (Nat.le_of_ble_eq_true rfl) dX5_steer_39 ?_
          refine s_iconst (v := 0) O dX5_steer_42 rfl ?_
          refine s_istore (lv' := [(5, .int 0), (0, rf E 0), (1, .int a1), (2, .int a2), (3, .int a3), (4, .int a4)]) O dX5_steer_43 (by decide) rfl ?_
          refine s_loc [1, 2, 3, 4, 5, 0] rfl ?_
          obtain ⟨s30, e31, c32, hf⟩ := bn_e hf
          refine lp_of (body := fun s v => fb_X5_steer_l45 a1 a2 a3 a4 a1 a2 a3 a4 s v) (X := fun s v => WS cM E 6 45 [(0, rf E 0), (1, .int a1), (2, .int a2), (3, .int a3), (4, .int a4), (5, .int v)] [] s) (Y := fun s e => WS cM E 6 98 [(0, rf E 0), (4, .int a4)] [] s) (fun s v s' w hb Kc Ke => wb_X5_steer_l45 (rr := rr) O   hret Kc Ke hb) FU _ _ (s30, e31) c32 ?_
          show WS cM E 6 98 [(0, rf E 0), (4, .int a4)] [] s30
          refine s_aload_n O 0 dX5_steer_98 rfl rfl ?_
          refine s_getR O fg_RX5_43 cs_0 rfl dX5_steer_99 ?_
          refine s_iload O 1 dX5_steer_102 rfl ?_
          obtain ⟨s33, r34, c35, hf⟩ := bn_e hf
          refine s_VI (As := [.int a4]) (st := []) O lk_RX5_200 (k_X0_answer c35) rfl cs_59 rfl rfl ⟨rfl, rfl⟩ ⟨Nat.le_of_ble_eq_true rfl, Nat.le_of_ble_eq_true rfl⟩ rfl (Nat.le_of_ble_eq_true rfl) dX5_steer_104 ?_
          exact s_iret hret rfl dX5_steer_107 hf
        · replace hf := if_t c hf
          refine s_iconst (v := (-1)) O dX5_steer_31 rfl ?_
          exact s_iret hret rfl dX5_steer_32 hf
def rm_X5_hush : Room := { frames := 5, cells := 0, slots := 0, locals := 109 }
def fb_X5_hush_l39 (a1 : Int32) (a2 : Int32) (x1 : Int32) (x2 : Int32) (s0 : StA) (v3 : Int32) : Option (StA × ((Int32) ⊕ (Unit))) :=
  (if (gi s0 6 2) ≤ v3 then some (s0, .inr ()) else bn (f_X5_restartTrial  s0) (fun s16 r17 => gd v3 8 (nms (si s16 18 v3.toNatClampNeg (-1)) (fun s20 => bn (f_X1_greatestHeight 12 x1 s20) (fun s21 r22 => bn (f_X0_offer v3 r22 s21) (fun s24 r25 => some (s24, .inl (v3 + 1))))))))
set_option maxHeartbeats 4000000 in
set_option maxRecDepth 100000 in
theorem wb_X5_hush_l39 {E : XC} (O : OK cM E RX5 cX5_hush 4 rm_X5_hush) {a1 : Int32} {a2 : Int32}  {x1 : Int32} {x2 : Int32} {s0 : StA} {v3 : Int32} {zs : StA} {rr : Int32} (hret : ReI cM E .int cX5_hush zs rr) {bs : StA} {bw : (Int32) ⊕ (Unit)} (Kc : ∀ v, bw = .inl v → WS cM E 4 39 [(0, rf E 0), (1, .int x1), (2, .int x2), (3, .int v)] [] bs) (Ke : ∀ e, bw = .inr e → WS cM E 4 92 [(0, rf E 0), (2, .int x2)] [] bs) (hf : fb_X5_hush_l39 a1 a2 x1 x2 s0 v3 = some (bs, bw)) : WS cM E 4 39 [(0, rf E 0), (1, .int x1), (2, .int x2), (3, .int v3)] [] s0 := by
  unfold fb_X5_hush_l39 at hf
  refine s_iload_n O 3 dX5_hush_39 rfl rfl ?_
  refine s_aload_n O 0 dX5_hush_40 rfl rfl ?_
  refine s_getR O fg_RX5_10 cs_0 rfl dX5_hush_41 ?_
  refine s_getR O fg_RX5_105 cs_1 rfl dX5_hush_44 ?_
  refine s_getI O fg_RX5_109 cs_6 rfl dX5_hush_47 ?_
  refine s_icmp_ge (tgt := 92) O dX5_hush_50 (by decide) (fun c => ?_) (fun c => ?_)
  · replace hf := if_t c hf
    refine s_loc [0, 2] rfl ?_
    cases hf
    exact Ke _ rfl
  · replace hf := if_f c hf
    refine s_aload_n O 0 dX5_hush_53 rfl rfl ?_
    obtain ⟨s16, r17, c18, hf⟩ := bn_e hf
    refine s_VV (As := []) (st := []) O lk_RX5_171 (k_X5_restartTrial c18) rfl cs_0 rfl rfl ⟨rfl, rfl⟩ ⟨Nat.le_of_ble_eq_true rfl, Nat.le_of_ble_eq_true rfl⟩ rfl (Nat.le_of_ble_eq_true rfl) dX5_hush_54 ?_
    refine s_aload_n O 0 dX5_hush_57 rfl rfl ?_
    refine s_getR O fg_RX5_16 cs_0 rfl dX5_hush_58 ?_
    refine s_getR O fg_RX5_105 cs_12 rfl dX5_hush_61 ?_
    refine s_getR O fg_RX5_139 cs_17 rfl dX5_hush_64 ?_
    refine s_iload_n O 3 dX5_hush_67 rfl rfl ?_
    refine s_iconst (v := (-1)) O dX5_hush_68 rfl ?_
    obtain ⟨h19, hf⟩ := gd_e hf
    refine s_iast O cs_18 h19 dX5_hush_69 ?_
    refine s_tops (fun s20 es20 => ?_)
    replace hf := nms_e es20 hf
    refine s_aload_n O 0 dX5_hush_70 rfl rfl ?_
    refine s_getR O fg_RX5_43 cs_0 rfl dX5_hush_71 ?_
    refine s_iload_n O 3 dX5_hush_74 rfl rfl ?_
    refine s_aload_n O 0 dX5_hush_75 rfl rfl ?_
    refine s_getR O fg_RX5_16 cs_0 rfl dX5_hush_76 ?_
    refine s_iload_n O 1 dX5_hush_79 rfl rfl ?_
    obtain ⟨s21, r22, c23, hf⟩ := bn_e hf
    refine s_VI (As := [.int x1]) (st := [.int v3, rf E 59]) O lk_RX5_174 (k_X1_greatestHeight fl_is12 c23) rfl cs_12 rfl rfl ⟨rfl, rfl⟩ ⟨Nat.le_of_ble_eq_true rfl, Nat.le_of_ble_eq_true rfl⟩ rfl (Nat.le_of_ble_eq_true rfl) dX5_hush_80 ?_
    obtain ⟨s24, r25, c26, hf⟩ := bn_e hf
    refine s_VV (As := [.int v3, .int r22]) (st := []) O lk_RX5_196 (k_X0_offer c26) rfl cs_59 rfl rfl ⟨rfl, rfl⟩ ⟨Nat.le_of_ble_eq_true rfl, Nat.le_of_ble_eq_true rfl⟩ rfl (Nat.le_of_ble_eq_true rfl) dX5_hush_83 ?_
    refine s_iinc (v := (v3 + 1)) (lv' := [(3, .int (v3 + 1)), (0, rf E 0), (1, .int x1), (2, .int x2)]) O 3 dX5_hush_86 rfl rfl (by decide) rfl ?_
    refine s_goto (tgt := 39) O dX5_hush_89 (by decide) ?_
    refine s_loc [1, 2, 3, 0] rfl ?_
    cases hf
    exact Kc _ rfl
def fl_X5_hush_l39 (a1 : Int32) (a2 : Int32) (x1 : Int32) (x2 : Int32) (s0 : StA) (v : Int32) : Option (StA × ((Unit))) :=
  it (fun s v => fb_X5_hush_l39 a1 a2 x1 x2 s v) FU s0 v
def f_X5_hush (a1 : Int32) (a2 : Int32) (s0 : StA) : Option (StA × Int32) :=
  bn (f_X5_isForecast a1 s0) (fun s1 r2 => (if r2 = 0 then some (s1, (-1)) else bn (f_X5_isIn a2 0 1 s1) (fun s4 r5 => (if r5 = 0 then some (s4, (-1)) else bn (f_X5_restartTrial  s4) (fun s7 r8 => bn (f_X1_greatestHeight 12 a1 s7) (fun s10 r11 => bn (f_X0_beginBelow r11 s10) (fun s13 r14 => bn (fl_X5_hush_l39 a1 a2 a1 a2 s13 0) (fun s27 e28 => bn (f_X0_answer a2 s27) (fun s30 r31 => some (s30, r31))))))))))
set_option maxHeartbeats 4000000 in
set_option maxRecDepth 100000 in
theorem k_X5_hush {a1 : Int32} {a2 : Int32} {s0 zs : StA} {rr : Int32} (hf : f_X5_hush a1 a2 s0 = some (zs, rr)) : CtI cM yX5_hush cX5_hush 4 .int rm_X5_hush (fun ph => [.ref (ph 0), .int a1, .int a2]) s0 zs rr := by
  refine CtI.of (by decide +kernel) (fun ph => Nat.le_of_ble_eq_true rfl) (fun E O hret => ?_)
  have O : OK cM E RX5 cX5_hush 4 rm_X5_hush := O
  show WS cM E 4 0 [(0, rf E 0), (1, .int a1), (2, .int a2)] [] s0
  unfold f_X5_hush at hf
  refine s_iload_n O 1 dX5_hush_0 rfl rfl ?_
  obtain ⟨s1, r2, c3, hf⟩ := bn_e hf
  refine s_SI (As := [.int a1]) (st := []) O lk_RX5_168 (k_X5_isForecast c3) rfl rfl ⟨rfl, rfl⟩ ⟨Nat.le_of_ble_eq_true rfl, Nat.le_of_ble_eq_true rfl⟩ rfl (Nat.le_of_ble_eq_true rfl) dX5_hush_1 ?_
  refine s_if_eq (tgt := 16) O dX5_hush_4 (by decide) (fun c => ?_) (fun c => ?_)
  · replace hf := if_t c hf
    refine s_iconst (v := (-1)) O dX5_hush_16 rfl ?_
    exact s_iret hret rfl dX5_hush_17 hf
  · replace hf := if_f c hf
    refine s_iload_n O 2 dX5_hush_7 rfl rfl ?_
    refine s_iconst (v := 0) O dX5_hush_8 rfl ?_
    refine s_iconst (v := 1) O dX5_hush_9 rfl ?_
    obtain ⟨s4, r5, c6, hf⟩ := bn_e hf
    refine s_SI (As := [.int a2, .int 0, .int 1]) (st := []) O lk_RX5_57 (k_X5_isIn c6) rfl rfl ⟨rfl, rfl⟩ ⟨Nat.le_of_ble_eq_true rfl, Nat.le_of_ble_eq_true rfl⟩ rfl (Nat.le_of_ble_eq_true rfl) dX5_hush_10 ?_
    refine s_if_ne (tgt := 18) O dX5_hush_13 (by decide) (fun c => ?_) (fun c => ?_)
    · replace hf := if_f c hf
      refine s_aload_n O 0 dX5_hush_18 rfl rfl ?_
      obtain ⟨s7, r8, c9, hf⟩ := bn_e hf
      refine s_VV (As := []) (st := []) O lk_RX5_171 (k_X5_restartTrial c9) rfl cs_0 rfl rfl ⟨rfl, rfl⟩ ⟨Nat.le_of_ble_eq_true rfl, Nat.le_of_ble_eq_true rfl⟩ rfl (Nat.le_of_ble_eq_true rfl) dX5_hush_19 ?_
      refine s_aload_n O 0 dX5_hush_22 rfl rfl ?_
      refine s_getR O fg_RX5_43 cs_0 rfl dX5_hush_23 ?_
      refine s_aload_n O 0 dX5_hush_26 rfl rfl ?_
      refine s_getR O fg_RX5_16 cs_0 rfl dX5_hush_27 ?_
      refine s_iload_n O 1 dX5_hush_30 rfl rfl ?_
      obtain ⟨s10, r11, c12, hf⟩ := bn_e hf
      refine s_VI (As := [.int a1]) (st := [rf E 59]) O lk_RX5_174 (k_X1_greatestHeight fl_is12 c12) rfl cs_12 rfl rfl ⟨rfl, rfl⟩ ⟨Nat.le_of_ble_eq_true rfl, Nat.le_of_ble_eq_true rfl⟩ rfl (Nat.le_of_ble_eq_true rfl) dX5_hush_31 ?_
      obtain ⟨s13, r14, c15, hf⟩ := bn_e hf
      refine s_VV (As := [.int r11]) (st := []) O lk_RX5_193 (k_X0_beginBelow c15) rfl cs_59 rfl rfl ⟨rfl, rfl⟩ ⟨Nat.le_of_ble_eq_true rfl, Nat.le_of_ble_eq_true rfl⟩ rfl (Nat.le_of_ble_eq_true rfl) dX5_hush_34 ?_
      refine s_iconst (v := 0) O dX5_hush_37 rfl ?_
      refine s_istore_n (lv' := [(3, .int 0), (0, rf E 0), (1, .int a1), (2, .int a2)]) O dX5_hush_38 rfl (by decide) rfl ?_
      refine s_loc [1, 2, 3, 0] rfl ?_
      obtain ⟨s27, e28, c29, hf⟩ := bn_e hf
      refine lp_of (body := fun s v => fb_X5_hush_l39 a1 a2 a1 a2 s v) (X := fun s v => WS cM E 4 39 [(0, rf E 0), (1, .int a1), (2, .int a2), (3, .int v)] [] s) (Y := fun s e => WS cM E 4 92 [(0, rf E 0), (2, .int a2)] [] s) (fun s v s' w hb Kc Ke => wb_X5_hush_l39 (rr := rr) O   hret Kc Ke hb) FU _ _ (s27, e28) c29 ?_
      show WS cM E 4 92 [(0, rf E 0), (2, .int a2)] [] s27
      refine s_aload_n O 0 dX5_hush_92 rfl rfl ?_
      refine s_getR O fg_RX5_43 cs_0 rfl dX5_hush_93 ?_
      refine s_iload_n O 1 dX5_hush_96 rfl rfl ?_
      obtain ⟨s30, r31, c32, hf⟩ := bn_e hf
      refine s_VI (As := [.int a2]) (st := []) O lk_RX5_200 (k_X0_answer c32) rfl cs_59 rfl rfl ⟨rfl, rfl⟩ ⟨Nat.le_of_ble_eq_true rfl, Nat.le_of_ble_eq_true rfl⟩ rfl (Nat.le_of_ble_eq_true rfl) dX5_hush_97 ?_
      exact s_iret hret rfl dX5_hush_100 hf
    · replace hf := if_t c hf
      refine s_iconst (v := (-1)) O dX5_hush_16 rfl ?_
      exact s_iret hret rfl dX5_hush_17 hf
def rm_X5_swap : Room := { frames := 5, cells := 0, slots := 0, locals := 107 }
def fb_X5_swap_l49 (a1 : Int32) (x1 : Int32) (x2 : Int32) (s0 : StA) (v3 : Int32) : Option (StA × ((Int32) ⊕ (Unit))) :=
  (if (gi s0 6 2) ≤ v3 then some (s0, .inr ()) else bn (f_X5_restartTrial  s0) (fun s14 r15 => gd v3 8 (gd x2 8 (nms (si s14 19 x2.toNatClampNeg (gi s14 8 v3.toNatClampNeg)) (fun s19 => gd x2 8 (gd v3 8 (nms (si s19 19 v3.toNatClampNeg (gi s19 8 x2.toNatClampNeg)) (fun s22 => bn (f_X1_firstDown 12 s22) (fun s23 r24 => bn (f_X0_offer ((10 * x2) + v3) r24 s23) (fun s26 r27 => some (s26, .inl (v3 + 1))))))))))))
set_option maxHeartbeats 4000000 in
set_option maxRecDepth 100000 in
theorem wb_X5_swap_l49 {E : XC} (O : OK cM E RX5 cX5_swap 4 rm_X5_swap) {a1 : Int32}  {x1 : Int32} {x2 : Int32} {s0 : StA} {v3 : Int32} {zs : StA} {rr : Int32} (hret : ReI cM E .int cX5_swap zs rr) {bs : StA} {bw : (Int32) ⊕ (Unit)} (Kc : ∀ v, bw = .inl v → WS cM E 4 49 [(0, rf E 0), (1, .int x1), (2, .int x2), (3, .int v)] [] bs) (Ke : ∀ e, bw = .inr e → WS cM E 4 141 [(0, rf E 0), (1, .int x1), (2, .int x2)] [] bs) (hf : fb_X5_swap_l49 a1 x1 x2 s0 v3 = some (bs, bw)) : WS cM E 4 49 [(0, rf E 0), (1, .int x1), (2, .int x2), (3, .int v3)] [] s0 := by
  unfold fb_X5_swap_l49 at hf
  refine s_iload_n O 3 dX5_swap_49 rfl rfl ?_
  refine s_aload_n O 0 dX5_swap_50 rfl rfl ?_
  refine s_getR O fg_RX5_10 cs_0 rfl dX5_swap_51 ?_
  refine s_getR O fg_RX5_105 cs_1 rfl dX5_swap_54 ?_
  refine s_getI O fg_RX5_109 cs_6 rfl dX5_swap_57 ?_
  refine s_icmp_ge (tgt := 141) O dX5_swap_60 (by decide) (fun c => ?_) (fun c => ?_)
  · replace hf := if_t c hf
    refine s_loc [0, 1, 2] rfl ?_
    cases hf
    exact Ke _ rfl
  · replace hf := if_f c hf
    refine s_aload_n O 0 dX5_swap_63 rfl rfl ?_
    obtain ⟨s14, r15, c16, hf⟩ := bn_e hf
    refine s_VV (As := []) (st := []) O lk_RX5_171 (k_X5_restartTrial c16) rfl cs_0 rfl rfl ⟨rfl, rfl⟩ ⟨Nat.le_of_ble_eq_true rfl, Nat.le_of_ble_eq_true rfl⟩ rfl (Nat.le_of_ble_eq_true rfl) dX5_swap_64 ?_
    refine s_aload_n O 0 dX5_swap_67 rfl rfl ?_
    refine s_getR O fg_RX5_16 cs_0 rfl dX5_swap_68 ?_
    refine s_getR O fg_RX5_105 cs_12 rfl dX5_swap_71 ?_
    refine s_getR O fg_RX5_142 cs_17 rfl dX5_swap_74 ?_
    refine s_iload_n O 2 dX5_swap_77 rfl rfl ?_
    refine s_aload_n O 0 dX5_swap_78 rfl rfl ?_
    refine s_getR O fg_RX5_10 cs_0 rfl dX5_swap_79 ?_
    refine s_getR O fg_RX5_105 cs_1 rfl dX5_swap_82 ?_
    refine s_getR O fg_RX5_142 cs_6 rfl dX5_swap_85 ?_
    refine s_iload_n O 3 dX5_swap_88 rfl rfl ?_
    obtain ⟨h17, hf⟩ := gd_e hf
    refine s_iald O cs_8 h17 dX5_swap_89 ?_
    obtain ⟨h18, hf⟩ := gd_e hf
    refine s_iast O cs_19 h18 dX5_swap_90 ?_
    refine s_tops (fun s19 es19 => ?_)
    replace hf := nms_e es19 hf
    refine s_aload_n O 0 dX5_swap_91 rfl rfl ?_
    refine s_getR O fg_RX5_16 cs_0 rfl dX5_swap_92 ?_
    refine s_getR O fg_RX5_105 cs_12 rfl dX5_swap_95 ?_
    refine s_getR O fg_RX5_142 cs_17 rfl dX5_swap_98 ?_
    refine s_iload_n O 3 dX5_swap_101 rfl rfl ?_
    refine s_aload_n O 0 dX5_swap_102 rfl rfl ?_
    refine s_getR O fg_RX5_10 cs_0 rfl dX5_swap_103 ?_
    refine s_getR O fg_RX5_105 cs_1 rfl dX5_swap_106 ?_
    refine s_getR O fg_RX5_142 cs_6 rfl dX5_swap_109 ?_
    refine s_iload_n O 2 dX5_swap_112 rfl rfl ?_
    obtain ⟨h20, hf⟩ := gd_e hf
    refine s_iald O cs_8 h20 dX5_swap_113 ?_
    obtain ⟨h21, hf⟩ := gd_e hf
    refine s_iast O cs_19 h21 dX5_swap_114 ?_
    refine s_tops (fun s22 es22 => ?_)
    replace hf := nms_e es22 hf
    refine s_aload_n O 0 dX5_swap_115 rfl rfl ?_
    refine s_getR O fg_RX5_43 cs_0 rfl dX5_swap_116 ?_
    refine s_bipush (v := 10) O dX5_swap_119 rfl ?_
    refine s_iload_n O 2 dX5_swap_121 rfl rfl ?_
    refine s_imul O dX5_swap_122 ?_
    refine s_iload_n O 3 dX5_swap_123 rfl rfl ?_
    refine s_iadd O dX5_swap_124 ?_
    refine s_aload_n O 0 dX5_swap_125 rfl rfl ?_
    refine s_getR O fg_RX5_16 cs_0 rfl dX5_swap_126 ?_
    obtain ⟨s23, r24, c25, hf⟩ := bn_e hf
    refine s_VI (As := []) (st := [.int ((10 * x2) + v3), rf E 59]) O lk_RX5_180 (k_X1_firstDown fl_is12 c25) rfl cs_12 rfl rfl ⟨rfl, rfl⟩ ⟨Nat.le_of_ble_eq_true rfl, Nat.le_of_ble_eq_true rfl⟩ rfl (Nat.le_of_ble_eq_true rfl) dX5_swap_129 ?_
    obtain ⟨s26, r27, c28, hf⟩ := bn_e hf
    refine s_VV (As := [.int ((10 * x2) + v3), .int r24]) (st := []) O lk_RX5_196 (k_X0_offer c28) rfl cs_59 rfl rfl ⟨rfl, rfl⟩ ⟨Nat.le_of_ble_eq_true rfl, Nat.le_of_ble_eq_true rfl⟩ rfl (Nat.le_of_ble_eq_true rfl) dX5_swap_132 ?_
    refine s_iinc (v := (v3 + 1)) (lv' := [(3, .int (v3 + 1)), (0, rf E 0), (1, .int x1), (2, .int x2)]) O 3 dX5_swap_135 rfl rfl (by decide) rfl ?_
    refine s_goto (tgt := 49) O dX5_swap_138 (by decide) ?_
    refine s_loc [1, 2, 3, 0] rfl ?_
    cases hf
    exact Kc _ rfl
def fl_X5_swap_l49 (a1 : Int32) (x1 : Int32) (x2 : Int32) (s0 : StA) (v : Int32) : Option (StA × ((Unit))) :=
  it (fun s v => fb_X5_swap_l49 a1 x1 x2 s v) FU s0 v
def fb_X5_swap_l31 (a1 : Int32) (x1 : Int32) (s0 : StA) (v2 : Int32) : Option (StA × ((Int32) ⊕ (Unit))) :=
  (if (gi s0 6 2) ≤ v2 then some (s0, .inr ()) else nmi (v2 + 1) (fun n13 => bn (fl_X5_swap_l49 a1 x1 v2 s0 n13) (fun s29 e30 => some (s29, .inl (v2 + 1)))))
set_option maxHeartbeats 4000000 in
set_option maxRecDepth 100000 in
theorem wb_X5_swap_l31 {E : XC} (O : OK cM E RX5 cX5_swap 4 rm_X5_swap) {a1 : Int32}  {x1 : Int32} {s0 : StA} {v2 : Int32} {zs : StA} {rr : Int32} (hret : ReI cM E .int cX5_swap zs rr) {bs : StA} {bw : (Int32) ⊕ (Unit)} (Kc : ∀ v, bw = .inl v → WS cM E 4 31 [(0, rf E 0), (1, .int x1), (2, .int v)] [] bs) (Ke : ∀ e, bw = .inr e → WS cM E 4 147 [(0, rf E 0), (1, .int x1)] [] bs) (hf : fb_X5_swap_l31 a1 x1 s0 v2 = some (bs, bw)) : WS cM E 4 31 [(0, rf E 0), (1, .int x1), (2, .int v2)] [] s0 := by
  unfold fb_X5_swap_l31 at hf
  refine s_iload_n O 2 dX5_swap_31 rfl rfl ?_
  refine s_aload_n O 0 dX5_swap_32 rfl rfl ?_
  refine s_getR O fg_RX5_10 cs_0 rfl dX5_swap_33 ?_
  refine s_getR O fg_RX5_105 cs_1 rfl dX5_swap_36 ?_
  refine s_getI O fg_RX5_109 cs_6 rfl dX5_swap_39 ?_
  refine s_icmp_ge (tgt := 147) O dX5_swap_42 (by decide) (fun c => ?_) (fun c => ?_)
  · replace hf := if_t c hf
    refine s_loc [0, 1] rfl ?_
    cases hf
    exact Ke _ rfl
  · replace hf := if_f c hf
    refine s_iload_n O 2 dX5_swap_45 rfl rfl ?_
    refine s_iconst (v := 1) O dX5_swap_46 rfl ?_
    refine s_iadd O dX5_swap_47 ?_
    refine s_topi (fun n13 en13 => ?_)
    replace hf := nmi_e en13 hf
    refine s_istore_n (lv' := [(3, .int n13), (0, rf E 0), (1, .int x1), (2, .int v2)]) O dX5_swap_48 rfl (by decide) rfl ?_
    refine s_loc [1, 2, 3, 0] rfl ?_
    obtain ⟨s29, e30, c31, hf⟩ := bn_e hf
    refine lp_of (body := fun s v => fb_X5_swap_l49 a1 x1 v2 s v) (X := fun s v => WS cM E 4 49 [(0, rf E 0), (1, .int x1), (2, .int v2), (3, .int v)] [] s) (Y := fun s e => WS cM E 4 141 [(0, rf E 0), (1, .int x1), (2, .int v2)] [] s) (fun s v s' w hb Kc Ke => wb_X5_swap_l49 (rr := rr) O   hret Kc Ke hb) FU _ _ (s29, e30) c31 ?_
    show WS cM E 4 141 [(0, rf E 0), (1, .int x1), (2, .int v2)] [] s29
    refine s_iinc (v := (v2 + 1)) (lv' := [(2, .int (v2 + 1)), (0, rf E 0), (1, .int x1)]) O 2 dX5_swap_141 rfl rfl (by decide) rfl ?_
    refine s_goto (tgt := 31) O dX5_swap_144 (by decide) ?_
    refine s_loc [1, 2, 0] rfl ?_
    cases hf
    exact Kc _ rfl
def fl_X5_swap_l31 (a1 : Int32) (x1 : Int32) (s0 : StA) (v : Int32) : Option (StA × ((Unit))) :=
  it (fun s v => fb_X5_swap_l31 a1 x1 s v) FU s0 v
def f_X5_swap (a1 : Int32) (s0 : StA) : Option (StA × Int32) :=
  bn (f_X5_isIn a1 0 1 s0) (fun s1 r2 => (if r2 = 0 then some (s1, (-1)) else bn (f_X5_restartTrial  s1) (fun s4 r5 => bn (f_X1_firstDown 12 s4) (fun s7 r8 => bn (f_X0_beginBelow r8 s7) (fun s10 r11 => bn (fl_X5_swap_l31 a1 a1 s10 0) (fun s32 e33 => bn (f_X0_answer a1 s32) (fun s35 r36 => some (s35, r36))))))))
set_option maxHeartbeats 4000000 in
set_option maxRecDepth 100000 in
theorem k_X5_swap {a1 : Int32} {s0 zs : StA} {rr : Int32} (hf : f_X5_swap a1 s0 = some (zs, rr)) : CtI cM yX5_swap cX5_swap 4 .int rm_X5_swap (fun ph => [.ref (ph 0), .int a1]) s0 zs rr := by
  refine CtI.of (by decide +kernel) (fun ph => Nat.le_of_ble_eq_true rfl) (fun E O hret => ?_)
  have O : OK cM E RX5 cX5_swap 4 rm_X5_swap := O
  show WS cM E 4 0 [(0, rf E 0), (1, .int a1)] [] s0
  unfold f_X5_swap at hf
  refine s_iload_n O 1 dX5_swap_0 rfl rfl ?_
  refine s_iconst (v := 0) O dX5_swap_1 rfl ?_
  refine s_iconst (v := 1) O dX5_swap_2 rfl ?_
  obtain ⟨s1, r2, c3, hf⟩ := bn_e hf
  refine s_SI (As := [.int a1, .int 0, .int 1]) (st := []) O lk_RX5_57 (k_X5_isIn c3) rfl rfl ⟨rfl, rfl⟩ ⟨Nat.le_of_ble_eq_true rfl, Nat.le_of_ble_eq_true rfl⟩ rfl (Nat.le_of_ble_eq_true rfl) dX5_swap_3 ?_
  refine s_if_ne (tgt := 11) O dX5_swap_6 (by decide) (fun c => ?_) (fun c => ?_)
  · replace hf := if_f c hf
    refine s_aload_n O 0 dX5_swap_11 rfl rfl ?_
    obtain ⟨s4, r5, c6, hf⟩ := bn_e hf
    refine s_VV (As := []) (st := []) O lk_RX5_171 (k_X5_restartTrial c6) rfl cs_0 rfl rfl ⟨rfl, rfl⟩ ⟨Nat.le_of_ble_eq_true rfl, Nat.le_of_ble_eq_true rfl⟩ rfl (Nat.le_of_ble_eq_true rfl) dX5_swap_12 ?_
    refine s_aload_n O 0 dX5_swap_15 rfl rfl ?_
    refine s_getR O fg_RX5_43 cs_0 rfl dX5_swap_16 ?_
    refine s_aload_n O 0 dX5_swap_19 rfl rfl ?_
    refine s_getR O fg_RX5_16 cs_0 rfl dX5_swap_20 ?_
    obtain ⟨s7, r8, c9, hf⟩ := bn_e hf
    refine s_VI (As := []) (st := [rf E 59]) O lk_RX5_180 (k_X1_firstDown fl_is12 c9) rfl cs_12 rfl rfl ⟨rfl, rfl⟩ ⟨Nat.le_of_ble_eq_true rfl, Nat.le_of_ble_eq_true rfl⟩ rfl (Nat.le_of_ble_eq_true rfl) dX5_swap_23 ?_
    obtain ⟨s10, r11, c12, hf⟩ := bn_e hf
    refine s_VV (As := [.int r8]) (st := []) O lk_RX5_193 (k_X0_beginBelow c12) rfl cs_59 rfl rfl ⟨rfl, rfl⟩ ⟨Nat.le_of_ble_eq_true rfl, Nat.le_of_ble_eq_true rfl⟩ rfl (Nat.le_of_ble_eq_true rfl) dX5_swap_26 ?_
    refine s_iconst (v := 0) O dX5_swap_29 rfl ?_
    refine s_istore_n (lv' := [(2, .int 0), (0, rf E 0), (1, .int a1)]) O dX5_swap_30 rfl (by decide) rfl ?_
    refine s_loc [1, 2, 0] rfl ?_
    obtain ⟨s32, e33, c34, hf⟩ := bn_e hf
    refine lp_of (body := fun s v => fb_X5_swap_l31 a1 a1 s v) (X := fun s v => WS cM E 4 31 [(0, rf E 0), (1, .int a1), (2, .int v)] [] s) (Y := fun s e => WS cM E 4 147 [(0, rf E 0), (1, .int a1)] [] s) (fun s v s' w hb Kc Ke => wb_X5_swap_l31 (rr := rr) O   hret Kc Ke hb) FU _ _ (s32, e33) c34 ?_
    show WS cM E 4 147 [(0, rf E 0), (1, .int a1)] [] s32
    refine s_aload_n O 0 dX5_swap_147 rfl rfl ?_
    refine s_getR O fg_RX5_43 cs_0 rfl dX5_swap_148 ?_
    refine s_iload_n O 1 dX5_swap_151 rfl rfl ?_
    obtain ⟨s35, r36, c37, hf⟩ := bn_e hf
    refine s_VI (As := [.int a1]) (st := []) O lk_RX5_200 (k_X0_answer c37) rfl cs_59 rfl rfl ⟨rfl, rfl⟩ ⟨Nat.le_of_ble_eq_true rfl, Nat.le_of_ble_eq_true rfl⟩ rfl (Nat.le_of_ble_eq_true rfl) dX5_swap_152 ?_
    exact s_iret hret rfl dX5_swap_155 hf
  · replace hf := if_t c hf
    refine s_iconst (v := (-1)) O dX5_swap_9 rfl ?_
    exact s_iret hret rfl dX5_swap_10 hf
def rm_X5_isHeight : Room := { frames := 1, cells := 0, slots := 0, locals := 22 }
def f_X5_isHeight (a0 : Int32) (s0 : StA) : Option (StA × Int32) :=
  bn (f_X5_isIn a0 0 60 s0) (fun s1 r2 => gz r2 (some (s1, r2)))
set_option maxHeartbeats 4000000 in
set_option maxRecDepth 100000 in
theorem k_X5_isHeight {a0 : Int32} {s0 zs : StA} {rr : Int32} (hf : f_X5_isHeight a0 s0 = some (zs, rr)) : CtI cM yX5_isHeight cX5_isHeight 1 .boolean rm_X5_isHeight (fun ph => [.int a0]) s0 zs rr := by
  refine CtI.of (by decide +kernel) (fun ph => Nat.le_of_ble_eq_true rfl) (fun E O hret => ?_)
  have O : OK cM E RX5 cX5_isHeight 1 rm_X5_isHeight := O
  show WS cM E 1 0 [(0, .int a0)] [] s0
  unfold f_X5_isHeight at hf
  refine s_iload_n O 0 dX5_isHeight_0 rfl rfl ?_
  refine s_iconst (v := 0) O dX5_isHeight_1 rfl ?_
  refine s_bipush (v := 60) O dX5_isHeight_2 rfl ?_
  obtain ⟨s1, r2, c3, hf⟩ := bn_e hf
  refine s_SI (As := [.int a0, .int 0, .int 60]) (st := []) O lk_RX5_57 (k_X5_isIn c3) rfl rfl ⟨rfl, rfl⟩ ⟨Nat.le_of_ble_eq_true rfl, Nat.le_of_ble_eq_true rfl⟩ rfl (Nat.le_of_ble_eq_true rfl) dX5_isHeight_4 ?_
  obtain ⟨hz, hf⟩ := gz_e hf
  exact s_iret hret hz.nar dX5_isHeight_7 hf
