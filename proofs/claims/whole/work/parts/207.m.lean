def rm_X5_drift : Room := { frames := 4, cells := 0, slots := 0, locals := 86 }
def fj_X5_drift_j103 (a1 : Int32) (a2 : Int32) (a3 : Int32) (x2 : Int32) (x3 : Int32) (j4 : Int32) (j5 : Int32) (y0 : Int32) (y1 : Int32) (s0 : StA) : Option (StA × ((Int32 × Int32) ⊕ (Unit))) :=
  bn (f_X1_setSaid 12 y1 y0 s0) (fun s13 r14 => bn (f_X1_pass 12 s13) (fun s16 r17 => some (s16, .inl (j4, (j5 + 1)))))
set_option maxHeartbeats 4000000 in
set_option maxRecDepth 100000 in
theorem wj_X5_drift_j103 {E : XC} (O : OK cM E RX5 cX5_drift 7 rm_X5_drift) {a1 : Int32} {a2 : Int32} {a3 : Int32}  {x2 : Int32} {x3 : Int32} {j4 : Int32} {j5 : Int32} {y0 : Int32} {y1 : Int32} {s0 : StA} {zs : StA} {rr : Int32} (hret : ReI cM E .int cX5_drift zs rr) {bs : StA} {bw : (Int32 × Int32) ⊕ (Unit)} (Kc : ∀ v, bw = .inl v → WS cM E 7 44 [(0, rf E 0), (2, .int x2), (3, .int x3), (4, .int v.1), (5, .int v.2)] [] bs) (Ke : ∀ e, bw = .inr e → WS cM E 7 119 [(0, rf E 0), (3, .int x3)] [] bs) (hf : fj_X5_drift_j103 a1 a2 a3 x2 x3 j4 j5 y0 y1 s0 = some (bs, bw)) : WS cM E 7 103 [(0, rf E 0), (2, .int x2), (3, .int x3), (4, .int j4), (5, .int j5)] [.int y0, .int y1, rf E 12] s0 := by
  unfold fj_X5_drift_j103 at hf
  obtain ⟨s13, r14, c15, hf⟩ := bn_e hf
  refine s_VV (As := [.int y1, .int y0]) (st := []) O lk_RX5_155 (k_X1_setSaid fl_is12 c15) rfl cs_12 rfl rfl ⟨rfl, rfl⟩ ⟨Nat.le_of_ble_eq_true rfl, Nat.le_of_ble_eq_true rfl⟩ rfl (Nat.le_of_ble_eq_true rfl) dX5_drift_103 ?_
  refine s_aload_n O 0 dX5_drift_106 rfl rfl ?_
  refine s_getR O fg_RX5_16 cs_0 rfl dX5_drift_107 ?_
  obtain ⟨s16, r17, c18, hf⟩ := bn_e hf
  refine s_VV (As := []) (st := []) O lk_RX5_257 (k_X1_pass fl_is12 c18) rfl cs_12 rfl rfl ⟨rfl, rfl⟩ ⟨Nat.le_of_ble_eq_true rfl, Nat.le_of_ble_eq_true rfl⟩ rfl (Nat.le_of_ble_eq_true rfl) dX5_drift_110 ?_
  refine s_iinc (v := (j5 + 1)) (lv' := [(5, .int (j5 + 1)), (0, rf E 0), (2, .int x2), (3, .int x3), (4, .int j4)]) O 4 dX5_drift_113 rfl rfl (by decide) rfl ?_
  refine s_goto (tgt := 44) O dX5_drift_116 (by decide) ?_
  refine s_loc [1, 2, 3, 4, 0] rfl ?_
  cases hf
  exact Kc _ rfl
def fb_X5_drift_l44 (a1 : Int32) (a2 : Int32) (a3 : Int32) (x2 : Int32) (x3 : Int32) (s0 : StA) (v4 : Int32) (v5 : Int32) : Option (StA × ((Int32 × Int32) ⊕ (Unit))) :=
  (if x2 ≤ v5 then some (s0, .inr ()) else nmi ((v4 * 1103515245) + 12345) (fun n10 => nmi ((n10 >>> (16 &&& 31)) &&& 32767) (fun n11 => g0 (gi s0 1 6) ((if ((n11 / 8) - (n11 / 8) / 2 * 2) = 1 then fj_X5_drift_j103 a1 a2 a3 x2 x3 n10 v5 1 (n11 - n11 / (gi s0 1 6) * (gi s0 1 6)) s0 else fj_X5_drift_j103 a1 a2 a3 x2 x3 n10 v5 0 (n11 - n11 / (gi s0 1 6) * (gi s0 1 6)) s0)))))
set_option maxHeartbeats 4000000 in
set_option maxRecDepth 100000 in
theorem wb_X5_drift_l44 {E : XC} (O : OK cM E RX5 cX5_drift 7 rm_X5_drift) {a1 : Int32} {a2 : Int32} {a3 : Int32}  {x2 : Int32} {x3 : Int32} {s0 : StA} {v4 : Int32} {v5 : Int32} {zs : StA} {rr : Int32} (hret : ReI cM E .int cX5_drift zs rr) {bs : StA} {bw : (Int32 × Int32) ⊕ (Unit)} (Kc : ∀ v, bw = .inl v → WS cM E 7 44 [(0, rf E 0), (2, .int x2), (3, .int x3), (4, .int v.1), (5, .int v.2)] [] bs) (Ke : ∀ e, bw = .inr e → WS cM E 7 119 [(0, rf E 0), (3, .int x3)] [] bs) (hf : fb_X5_drift_l44 a1 a2 a3 x2 x3 s0 v4 v5 = some (bs, bw)) : WS cM E 7 44 [(0, rf E 0), (2, .int x2), (3, .int x3), (4, .int v4), (5, .int v5)] [] s0 := by
  unfold fb_X5_drift_l44 at hf
  refine s_iload O 4 dX5_drift_44 rfl ?_
  refine s_iload_n O 1 dX5_drift_46 rfl rfl ?_
  refine s_icmp_ge (tgt := 119) O dX5_drift_47 (by decide) (fun c => ?_) (fun c => ?_)
  · replace hf := if_t c hf
    refine s_loc [0, 2] rfl ?_
    cases hf
    exact Ke _ rfl
  · replace hf := if_f c hf
    refine s_iload O 3 dX5_drift_50 rfl ?_
    refine s_ldcw O ci_RX5_269 dX5_drift_52 ?_
    refine s_imul O dX5_drift_55 ?_
    refine s_sipush (v := 12345) O dX5_drift_56 rfl ?_
    refine s_iadd O dX5_drift_59 ?_
    refine s_topi (fun n10 en10 => ?_)
    replace hf := nmi_e en10 hf
    refine s_istore (lv' := [(4, .int n10), (0, rf E 0), (2, .int x2), (3, .int x3), (5, .int v5)]) O dX5_drift_60 (by decide) rfl ?_
    refine s_iload O 0 dX5_drift_62 rfl ?_
    refine s_bipush (v := 16) O dX5_drift_64 rfl ?_
    refine s_ishr O dX5_drift_66 ?_
    refine s_sipush (v := 32767) O dX5_drift_67 rfl ?_
    refine s_iand O dX5_drift_70 ?_
    refine s_topi (fun n11 en11 => ?_)
    replace hf := nmi_e en11 hf
    refine s_istore (lv' := [(6, .int n11), (4, .int n10), (0, rf E 0), (2, .int x2), (3, .int x3), (5, .int v5)]) O dX5_drift_71 (by decide) rfl ?_
    refine s_aload_n O 2 dX5_drift_73 rfl rfl ?_
    refine s_getR O fg_RX5_16 cs_0 rfl dX5_drift_74 ?_
    refine s_iload O 0 dX5_drift_77 rfl ?_
    refine s_aload_n O 2 dX5_drift_79 rfl rfl ?_
    refine s_getR O fg_RX5_10 cs_0 rfl dX5_drift_80 ?_
    refine s_getI O fg_RX5_83 cs_1 rfl dX5_drift_83 ?_
    obtain ⟨h12, hf⟩ := g0_e hf
    refine s_irem O dX5_drift_86 h12 ?_
    refine s_iload O 0 dX5_drift_87 rfl ?_
    refine s_bipush (v := 8) O dX5_drift_89 rfl ?_
    refine s_idiv O dX5_drift_91 (by decide) ?_
    refine s_iconst (v := 2) O dX5_drift_92 rfl ?_
    refine s_irem O dX5_drift_93 (by decide) ?_
    refine s_iconst (v := 1) O dX5_drift_94 rfl ?_
    refine s_icmp_ne (tgt := 102) O dX5_drift_95 (by decide) (fun c => ?_) (fun c => ?_)
    · replace hf := if_f c hf
      refine s_iconst (v := 0) O dX5_drift_102 rfl ?_
      refine s_loc [2, 3, 4, 1, 5] rfl ?_
      exact wj_X5_drift_j103 (rr := rr) O   hret Kc Ke hf
    · replace hf := if_t c hf
      refine s_iconst (v := 1) O dX5_drift_98 rfl ?_
      refine s_goto (tgt := 103) O dX5_drift_99 (by decide) ?_
      refine s_loc [2, 3, 4, 1, 5] rfl ?_
      exact wj_X5_drift_j103 (rr := rr) O   hret Kc Ke hf
def fl_X5_drift_l44 (a1 : Int32) (a2 : Int32) (a3 : Int32) (x2 : Int32) (x3 : Int32) (s0 : StA) (v : Int32 × Int32) : Option (StA × ((Unit))) :=
  it (fun s v => fb_X5_drift_l44 a1 a2 a3 x2 x3 s v.1 v.2) FU s0 v
def f_X5_drift (a1 : Int32) (a2 : Int32) (a3 : Int32) (s0 : StA) : Option (StA × Int32) :=
  bn (f_X5_isIn a2 1 60 s0) (fun s1 r2 => (if r2 = 0 then some (s1, (-1)) else bn (f_X5_isIn a3 0 1 s1) (fun s4 r5 => (if r5 = 0 then some (s4, (-1)) else (if 0 < (gi s4 1 6) then bn (f_X5_restartTrial  s4) (fun s7 r8 => bn (fl_X5_drift_l44 a1 a2 a3 a2 a3 s7 (a1, 0)) (fun s19 e20 => (if a3 = 0 then some (s19, (gi s19 12 8)) else some (s19, (gi s19 12 9))))) else some (s4, (-2)))))))
set_option maxHeartbeats 4000000 in
set_option maxRecDepth 100000 in
theorem k_X5_drift {a1 : Int32} {a2 : Int32} {a3 : Int32} {s0 zs : StA} {rr : Int32} (hf : f_X5_drift a1 a2 a3 s0 = some (zs, rr)) : CtI cM yX5_drift cX5_drift 7 .int rm_X5_drift (fun ph => [.ref (ph 0), .int a1, .int a2, .int a3]) s0 zs rr := by
  refine CtI.of (by decide +kernel) (fun ph => Nat.le_of_ble_eq_true rfl) (fun E O hret => ?_)
  have O : OK cM E RX5 cX5_drift 7 rm_X5_drift := O
  show WS cM E 7 0 [(0, rf E 0), (1, .int a1), (2, .int a2), (3, .int a3)] [] s0
  unfold f_X5_drift at hf
  refine s_iload_n O 2 dX5_drift_0 rfl rfl ?_
  refine s_iconst (v := 1) O dX5_drift_1 rfl ?_
  refine s_bipush (v := 60) O dX5_drift_2 rfl ?_
  obtain ⟨s1, r2, c3, hf⟩ := bn_e hf
  refine s_SI (As := [.int a2, .int 1, .int 60]) (st := []) O lk_RX5_57 (k_X5_isIn c3) rfl rfl ⟨rfl, rfl⟩ ⟨Nat.le_of_ble_eq_true rfl, Nat.le_of_ble_eq_true rfl⟩ rfl (Nat.le_of_ble_eq_true rfl) dX5_drift_4 ?_
  refine s_if_eq (tgt := 19) O dX5_drift_7 (by decide) (fun c => ?_) (fun c => ?_)
  · replace hf := if_t c hf
    refine s_iconst (v := (-1)) O dX5_drift_19 rfl ?_
    exact s_iret hret rfl dX5_drift_20 hf
  · replace hf := if_f c hf
    refine s_iload_n O 3 dX5_drift_10 rfl rfl ?_
    refine s_iconst (v := 0) O dX5_drift_11 rfl ?_
    refine s_iconst (v := 1) O dX5_drift_12 rfl ?_
    obtain ⟨s4, r5, c6, hf⟩ := bn_e hf
    refine s_SI (As := [.int a3, .int 0, .int 1]) (st := []) O lk_RX5_57 (k_X5_isIn c6) rfl rfl ⟨rfl, rfl⟩ ⟨Nat.le_of_ble_eq_true rfl, Nat.le_of_ble_eq_true rfl⟩ rfl (Nat.le_of_ble_eq_true rfl) dX5_drift_13 ?_
    refine s_if_ne (tgt := 21) O dX5_drift_16 (by decide) (fun c => ?_) (fun c => ?_)
    · replace hf := if_f c hf
      refine s_aload_n O 0 dX5_drift_21 rfl rfl ?_
      refine s_getR O fg_RX5_10 cs_0 rfl dX5_drift_22 ?_
      refine s_getI O fg_RX5_83 cs_1 rfl dX5_drift_25 ?_
      refine s_if_gt (tgt := 34) O dX5_drift_28 (by decide) (fun c => ?_) (fun c => ?_)
      · replace hf := if_t c hf
        refine s_aload_n O 0 dX5_drift_34 rfl rfl ?_
        obtain ⟨s7, r8, c9, hf⟩ := bn_e hf
        refine s_VV (As := []) (st := []) O lk_RX5_171 (k_X5_restartTrial c9) rfl cs_0 rfl rfl ⟨rfl, rfl⟩ ⟨Nat.le_of_ble_eq_true rfl, Nat.le_of_ble_eq_true rfl⟩ rfl (Nat.le_of_ble_eq_true rfl) dX5_drift_35 ?_
        refine s_iload_n O 1 dX5_drift_38 rfl rfl ?_
        refine s_istore (lv' := [(4, .int a1), (0, rf E 0), (1, .int a1), (2, .int a2), (3, .int a3)]) O dX5_drift_39 (by decide) rfl ?_
        refine s_iconst (v := 0) O dX5_drift_41 rfl ?_
        refine s_istore (lv' := [(5, .int 0), (4, .int a1), (0, rf E 0), (1, .int a1), (2, .int a2), (3, .int a3)]) O dX5_drift_42 (by decide) rfl ?_
        refine s_loc [2, 4, 5, 1, 0] rfl ?_
        obtain ⟨s19, e20, c21, hf⟩ := bn_e hf
        refine lp_of (body := fun s v => fb_X5_drift_l44 a1 a2 a3 a2 a3 s v.1 v.2) (X := fun s v => WS cM E 7 44 [(0, rf E 0), (2, .int a2), (3, .int a3), (4, .int v.1), (5, .int v.2)] [] s) (Y := fun s e => WS cM E 7 119 [(0, rf E 0), (3, .int a3)] [] s) (fun s v s' w hb Kc Ke => wb_X5_drift_l44 (rr := rr) O   hret Kc Ke hb) FU _ _ (s19, e20) c21 ?_
        show WS cM E 7 119 [(0, rf E 0), (3, .int a3)] [] s19
        refine s_iload_n O 1 dX5_drift_119 rfl rfl ?_
        refine s_if_ne (tgt := 133) O dX5_drift_120 (by decide) (fun c => ?_) (fun c => ?_)
        · replace hf := if_f c hf
          refine s_aload_n O 0 dX5_drift_133 rfl rfl ?_
          refine s_getR O fg_RX5_16 cs_0 rfl dX5_drift_134 ?_
          refine s_getI O fg_RX5_92 cs_12 rfl dX5_drift_137 ?_
          exact s_iret hret rfl dX5_drift_140 hf
        · replace hf := if_t c hf
          refine s_aload_n O 0 dX5_drift_123 rfl rfl ?_
          refine s_getR O fg_RX5_16 cs_0 rfl dX5_drift_124 ?_
          refine s_getI O fg_RX5_89 cs_12 rfl dX5_drift_127 ?_
          refine s_goto (tgt := 140) O dX5_drift_130 (by decide) ?_
          exact s_iret hret rfl dX5_drift_140 hf
      · replace hf := if_f c hf
        refine s_bipush (v := (-2)) O dX5_drift_31 rfl ?_
        exact s_iret hret rfl dX5_drift_33 hf
    · replace hf := if_t c hf
      refine s_iconst (v := (-1)) O dX5_drift_19 rfl ?_
      exact s_iret hret rfl dX5_drift_20 hf
def rm_X5_keep : Room := { frames := 2, cells := 0, slots := 0, locals := 44 }
def fj_X5_keep_j25 (a1 : Int32)  (y0 : Int32) (s0 : StA) : Option (StA × (Int32)) :=
  gd a1 2 (bn (f_X1_copyFrom (23 + 11 * a1.toNatClampNeg) 1 s0) (fun s6 r7 => gd a1 2 (nms (si s6 46 a1.toNatClampNeg 1) (fun s10 => some (s10, y0)))))
set_option maxHeartbeats 4000000 in
set_option maxRecDepth 100000 in
theorem wj_X5_keep_j25 {E : XC} (O : OK cM E RX5 cX5_keep 3 rm_X5_keep) {a1 : Int32}   {y0 : Int32} {s0 : StA} {zs : StA} {rr : Int32} (hret : ReI cM E .int cX5_keep zs rr) (hf : fj_X5_keep_j25 a1 y0 s0 = some (zs, rr)) : WS cM E 3 25 [(0, rf E 0), (1, .int a1)] [.int y0] s0 := by
  unfold fj_X5_keep_j25 at hf
  refine s_istore_n (lv' := [(2, .int y0), (0, rf E 0), (1, .int a1)]) O dX5_keep_25 rfl (by decide) rfl ?_
  refine s_aload_n O 1 dX5_keep_26 rfl rfl ?_
  refine s_getR O fg_RX5_19 cs_0 rfl dX5_keep_27 ?_
  refine s_iload_n O 2 dX5_keep_30 rfl rfl ?_
  obtain ⟨h5, hf⟩ := gd_e hf
  refine s_aald O cs_45 (Or.inl rfl) h5 dX5_keep_31 ?_
  refine s_aload_n O 1 dX5_keep_32 rfl rfl ?_
  refine s_getR O fg_RX5_10 cs_0 rfl dX5_keep_33 ?_
  obtain ⟨s6, r7, c8, hf⟩ := bn_e hf
  refine s_VV (As := [rf E 1]) (st := []) O lk_RX5_72 (k_X1_copyFrom (im_fl h5) fl_is1 c8) rfl (fl_0 (im_fl h5)) rfl rfl ⟨rfl, rfl⟩ ⟨Nat.le_of_ble_eq_true rfl, Nat.le_of_ble_eq_true rfl⟩ rfl (Nat.le_of_ble_eq_true rfl) dX5_keep_36 ?_
  refine s_aload_n O 1 dX5_keep_39 rfl rfl ?_
  refine s_getR O fg_RX5_23 cs_0 rfl dX5_keep_40 ?_
  refine s_iload_n O 2 dX5_keep_43 rfl rfl ?_
  refine s_iconst (v := 1) O dX5_keep_44 rfl ?_
  obtain ⟨h9, hf⟩ := gd_e hf
  refine s_zast O (Or.inr rfl) cs_46 h9 dX5_keep_45 ?_
  refine s_tops (fun s10 es10 => ?_)
  replace hf := nms_e es10 hf
  refine s_iload_n O 0 dX5_keep_46 rfl rfl ?_
  exact s_iret hret rfl dX5_keep_47 hf
def f_X5_keep (a1 : Int32) (s0 : StA) : Option (StA × Int32) :=
  bn (f_X5_isIn a1 0 1 s0) (fun s1 r2 => (if r2 = 0 then some (s1, (-1)) else gd a1 2 ((if (gi s1 46 a1.toNatClampNeg) = 0 then fj_X5_keep_j25 a1 0 s1 else fj_X5_keep_j25 a1 1 s1))))
set_option maxHeartbeats 4000000 in
set_option maxRecDepth 100000 in
theorem k_X5_keep {a1 : Int32} {s0 zs : StA} {rr : Int32} (hf : f_X5_keep a1 s0 = some (zs, rr)) : CtI cM yX5_keep cX5_keep 3 .int rm_X5_keep (fun ph => [.ref (ph 0), .int a1]) s0 zs rr := by
  refine CtI.of (by decide +kernel) (fun ph => Nat.le_of_ble_eq_true rfl) (fun E O hret => ?_)
  have O : OK cM E RX5 cX5_keep 3 rm_X5_keep := O
  show WS cM E 3 0 [(0, rf E 0), (1, .int a1)] [] s0
  unfold f_X5_keep at hf
  refine s_iload_n O 1 dX5_keep_0 rfl rfl ?_
  refine s_iconst (v := 0) O dX5_keep_1 rfl ?_
  refine s_iconst (v := 1) O dX5_keep_2 rfl ?_
  obtain ⟨s1, r2, c3, hf⟩ := bn_e hf
  refine s_SI (As := [.int a1, .int 0, .int 1]) (st := []) O lk_RX5_57 (k_X5_isIn c3) rfl rfl ⟨rfl, rfl⟩ ⟨Nat.le_of_ble_eq_true rfl, Nat.le_of_ble_eq_true rfl⟩ rfl (Nat.le_of_ble_eq_true rfl) dX5_keep_3 ?_
  refine s_if_ne (tgt := 11) O dX5_keep_6 (by decide) (fun c => ?_) (fun c => ?_)
  · replace hf := if_f c hf
    refine s_aload_n O 0 dX5_keep_11 rfl rfl ?_
    refine s_getR O fg_RX5_23 cs_0 rfl dX5_keep_12 ?_
    refine s_iload_n O 1 dX5_keep_15 rfl rfl ?_
    obtain ⟨h4, hf⟩ := gd_e hf
    refine s_zald O cs_46 h4 dX5_keep_16 ?_
    refine s_if_eq (tgt := 24) O dX5_keep_17 (by decide) (fun c => ?_) (fun c => ?_)
    · replace hf := if_t c hf
      refine s_iconst (v := 0) O dX5_keep_24 rfl ?_
      exact wj_X5_keep_j25 (rr := rr) O   hret hf
    · replace hf := if_f c hf
      refine s_iconst (v := 1) O dX5_keep_20 rfl ?_
      refine s_goto (tgt := 25) O dX5_keep_21 (by decide) ?_
      exact wj_X5_keep_j25 (rr := rr) O   hret hf
  · replace hf := if_t c hf
    refine s_iconst (v := (-1)) O dX5_keep_9 rfl ?_
    exact s_iret hret rfl dX5_keep_10 hf
def rm_X5_back : Room := { frames := 2, cells := 0, slots := 0, locals := 44 }
def f_X5_back (a1 : Int32) (s0 : StA) : Option (StA × Int32) :=
  bn (f_X5_isIn a1 0 1 s0) (fun s1 r2 => (if r2 = 0 then some (s1, (-1)) else gd a1 2 ((if (gi s1 46 a1.toNatClampNeg) = 0 then some (s1, (-2)) else gd a1 2 (bn (f_X1_copyFrom 1 (23 + 11 * a1.toNatClampNeg) s1) (fun s6 r7 => some (s6, (gi s6 1 11))))))))
set_option maxHeartbeats 4000000 in
set_option maxRecDepth 100000 in
theorem k_X5_back {a1 : Int32} {s0 zs : StA} {rr : Int32} (hf : f_X5_back a1 s0 = some (zs, rr)) : CtI cM yX5_back cX5_back 2 .int rm_X5_back (fun ph => [.ref (ph 0), .int a1]) s0 zs rr := by
  refine CtI.of (by decide +kernel) (fun ph => Nat.le_of_ble_eq_true rfl) (fun E O hret => ?_)
  have O : OK cM E RX5 cX5_back 2 rm_X5_back := O
  show WS cM E 2 0 [(0, rf E 0), (1, .int a1)] [] s0
  unfold f_X5_back at hf
  refine s_iload_n O 1 dX5_back_0 rfl rfl ?_
  refine s_iconst (v := 0) O dX5_back_1 rfl ?_
  refine s_iconst (v := 1) O dX5_back_2 rfl ?_
  obtain ⟨s1, r2, c3, hf⟩ := bn_e hf
  refine s_SI (As := [.int a1, .int 0, .int 1]) (st := []) O lk_RX5_57 (k_X5_isIn c3) rfl rfl ⟨rfl, rfl⟩ ⟨Nat.le_of_ble_eq_true rfl, Nat.le_of_ble_eq_true rfl⟩ rfl (Nat.le_of_ble_eq_true rfl) dX5_back_3 ?_
  refine s_if_ne (tgt := 11) O dX5_back_6 (by decide) (fun c => ?_) (fun c => ?_)
  · replace hf := if_f c hf
    refine s_aload_n O 0 dX5_back_11 rfl rfl ?_
    refine s_getR O fg_RX5_23 cs_0 rfl dX5_back_12 ?_
    refine s_iload_n O 1 dX5_back_15 rfl rfl ?_
    obtain ⟨h4, hf⟩ := gd_e hf
    refine s_zald O cs_46 h4 dX5_back_16 ?_
    refine s_if_ne (tgt := 23) O dX5_back_17 (by decide) (fun c => ?_) (fun c => ?_)
    · replace hf := if_f c hf
      refine s_aload_n O 0 dX5_back_23 rfl rfl ?_
      refine s_getR O fg_RX5_10 cs_0 rfl dX5_back_24 ?_
      refine s_aload_n O 0 dX5_back_27 rfl rfl ?_
      refine s_getR O fg_RX5_19 cs_0 rfl dX5_back_28 ?_
      refine s_iload_n O 1 dX5_back_31 rfl rfl ?_
      obtain ⟨h5, hf⟩ := gd_e hf
      refine s_aald O cs_45 (Or.inl rfl) h5 dX5_back_32 ?_
      obtain ⟨s6, r7, c8, hf⟩ := bn_e hf
      refine s_VV (As := [rf E (23 + 11 * a1.toNatClampNeg)]) (st := []) O lk_RX5_72 (k_X1_copyFrom fl_is1 (im_fl h5) c8) rfl cs_1 rfl rfl ⟨rfl, rfl⟩ ⟨Nat.le_of_ble_eq_true rfl, Nat.le_of_ble_eq_true rfl⟩ rfl (Nat.le_of_ble_eq_true rfl) dX5_back_33 ?_
      refine s_aload_n O 0 dX5_back_36 rfl rfl ?_
      refine s_getR O fg_RX5_10 cs_0 rfl dX5_back_37 ?_
      refine s_getI O fg_RX5_86 cs_1 rfl dX5_back_40 ?_
      exact s_iret hret rfl dX5_back_43 hf
    · replace hf := if_t c hf
      refine s_bipush (v := (-2)) O dX5_back_20 rfl ?_
      exact s_iret hret rfl dX5_back_22 hf
  · replace hf := if_t c hf
    refine s_iconst (v := (-1)) O dX5_back_9 rfl ?_
    exact s_iret hret rfl dX5_back_10 hf
def rm_X5_isLane : Room := { frames := 1, cells := 0, slots := 0, locals := 22 }
def f_X5_isLane (a0 : Int32) (s0 : StA) : Option (StA × Int32) :=
  bn (f_X5_isIn a0 0 2 s0) (fun s1 r2 => gz r2 (some (s1, r2)))
set_option maxHeartbeats 4000000 in
set_option maxRecDepth 100000 in
theorem k_X5_isLane {a0 : Int32} {s0 zs : StA} {rr : Int32} (hf : f_X5_isLane a0 s0 = some (zs, rr)) : CtI cM yX5_isLane cX5_isLane 1 .boolean rm_X5_isLane (fun ph => [.int a0]) s0 zs rr := by
  refine CtI.of (by decide +kernel) (fun ph => Nat.le_of_ble_eq_true rfl) (fun E O hret => ?_)
  have O : OK cM E RX5 cX5_isLane 1 rm_X5_isLane := O
  show WS cM E 1 0 [(0, .int a0)] [] s0
  unfold f_X5_isLane at hf
  refine s_iload_n O 0 dX5_isLane_0 rfl rfl ?_
  refine s_iconst (v := 0) O dX5_isLane_1 rfl ?_
  refine s_iconst (v := 2) O dX5_isLane_2 rfl ?_
  obtain ⟨s1, r2, c3, hf⟩ := bn_e hf
  refine s_SI (As := [.int a0, .int 0, .int 2]) (st := []) O lk_RX5_57 (k_X5_isIn c3) rfl rfl ⟨rfl, rfl⟩ ⟨Nat.le_of_ble_eq_true rfl, Nat.le_of_ble_eq_true rfl⟩ rfl (Nat.le_of_ble_eq_true rfl) dX5_isLane_3 ?_
  obtain ⟨hz, hf⟩ := gz_e hf
  exact s_iret hret hz.nar dX5_isLane_6 hf
def rm_X5_isSheet : Room := { frames := 1, cells := 0, slots := 0, locals := 22 }
def f_X5_isSheet (a0 : Int32) (s0 : StA) : Option (StA × Int32) :=
  bn (f_X5_isIn a0 0 3 s0) (fun s1 r2 => gz r2 (some (s1, r2)))
set_option maxHeartbeats 4000000 in
set_option maxRecDepth 100000 in
theorem k_X5_isSheet {a0 : Int32} {s0 zs : StA} {rr : Int32} (hf : f_X5_isSheet a0 s0 = some (zs, rr)) : CtI cM yX5_isSheet cX5_isSheet 1 .boolean rm_X5_isSheet (fun ph => [.int a0]) s0 zs rr := by
  refine CtI.of (by decide +kernel) (fun ph => Nat.le_of_ble_eq_true rfl) (fun E O hret => ?_)
  have O : OK cM E RX5 cX5_isSheet 1 rm_X5_isSheet := O
  show WS cM E 1 0 [(0, .int a0)] [] s0
  unfold f_X5_isSheet at hf
  refine s_iload_n O 0 dX5_isSheet_0 rfl rfl ?_
  refine s_iconst (v := 0) O dX5_isSheet_1 rfl ?_
  refine s_iconst (v := 3) O dX5_isSheet_2 rfl ?_
  obtain ⟨s1, r2, c3, hf⟩ := bn_e hf
  refine s_SI (As := [.int a0, .int 0, .int 3]) (st := []) O lk_RX5_57 (k_X5_isIn c3) rfl rfl ⟨rfl, rfl⟩ ⟨Nat.le_of_ble_eq_true rfl, Nat.le_of_ble_eq_true rfl⟩ rfl (Nat.le_of_ble_eq_true rfl) dX5_isSheet_3 ?_
  obtain ⟨hz, hf⟩ := gz_e hf
  exact s_iret hret hz.nar dX5_isSheet_6 hf
def rm_X4_renew : Room := { frames := 1, cells := 0, slots := 0, locals := 23 }
def f_X4_renew (k : Nat) (a1 : Int32) (a2 : Int32) (s0 : StA) : Option (StA × Unit) :=
  nms (si s0 k 1 a1) (fun s1 => nms (si s1 k 2 a2) (fun s2 => bn (f_J7_fill_53178 (k + 1) 40 0 s2) (fun s3 r4 => some (s3, ()))))
set_option maxHeartbeats 4000000 in
set_option maxRecDepth 100000 in
theorem k_X4_renew {k : Nat} {a1 : Int32} {a2 : Int32} (hk : isSh k) {s0 zs : StA} {rr : Unit} (hf : f_X4_renew k a1 a2 s0 = some (zs, rr)) : CtV cM yX4_renew cX4_renew 3 rm_X4_renew (fun ph => [.ref (ph k), .int a1, .int a2]) s0 zs := by
  refine CtV.of (by decide +kernel) (fun ph => Nat.le_of_ble_eq_true rfl) (fun E O hret => ?_)
  have O : OK cM E RX4 cX4_renew 3 rm_X4_renew := O
  show WS cM E 3 0 [(0, rf E k), (1, .int a1), (2, .int a2)] [] s0
  unfold f_X4_renew at hf
  refine s_aload_n O 0 dX4_renew_0 rfl rfl ?_
  refine s_iload_n O 1 dX4_renew_1 rfl rfl ?_
  refine s_putI O fp_RX4_15 (sk_0 hk) rfl dX4_renew_2 ?_
  refine s_tops (fun s1 es1 => ?_)
  replace hf := nms_e es1 hf
  refine s_aload_n O 0 dX4_renew_5 rfl rfl ?_
  refine s_iload_n O 2 dX4_renew_6 rfl rfl ?_
  refine s_putI O fp_RX4_19 (sk_0 hk) rfl dX4_renew_7 ?_
  refine s_tops (fun s2 es2 => ?_)
  replace hf := nms_e es2 hf
  refine s_aload_n O 0 dX4_renew_10 rfl rfl ?_
  refine s_getR O fg_RX4_9 (sk_0 hk) rfl dX4_renew_11 ?_
  refine s_iconst (v := 0) O dX4_renew_14 rfl ?_
  obtain ⟨s3, r4, c5, hf⟩ := bn_e hf
  refine s_SV (As := [rf E (k + 1), .int 0]) (st := []) O lk_RX4_22 (k_J7_fill_53178 (sk_1 hk) c5) rfl rfl ⟨rfl, rfl⟩ ⟨Nat.le_of_ble_eq_true rfl, Nat.le_of_ble_eq_true rfl⟩ rfl (Nat.le_of_ble_eq_true rfl) dX4_renew_15 ?_
  exact s_vret hret dX4_renew_18 hf
def rm_X5_sheet : Room := { frames := 2, cells := 0, slots := 0, locals := 45 }
def f_X5_sheet (a1 : Int32) (a2 : Int32) (a3 : Int32) (s0 : StA) : Option (StA × Int32) :=
  bn (f_X5_isSheet a1 s0) (fun s1 r2 => (if r2 = 0 then some (s1, (-1)) else bn (f_X5_isLane a2 s1) (fun s4 r5 => (if r5 = 0 then some (s4, (-1)) else (if a3 ≤ 40 then (if 0 ≤ a3 then gd a1 4 (bn (f_X4_renew (51 + 2 * a1.toNatClampNeg) a2 a3 s4) (fun s8 r9 => some (s8, 1))) else some (s4, (-14))) else some (s4, (-1)))))))
set_option maxHeartbeats 4000000 in
set_option maxRecDepth 100000 in
theorem k_X5_sheet {a1 : Int32} {a2 : Int32} {a3 : Int32} {s0 zs : StA} {rr : Int32} (hf : f_X5_sheet a1 a2 a3 s0 = some (zs, rr)) : CtI cM yX5_sheet cX5_sheet 4 .int rm_X5_sheet (fun ph => [.ref (ph 0), .int a1, .int a2, .int a3]) s0 zs rr := by
  refine CtI.of (by decide +kernel) (fun ph => Nat.le_of_ble_eq_true rfl) (fun E O hret => ?_)
  have O : OK cM E RX5 cX5_sheet 4 rm_X5_sheet := O
  show WS cM E 4 0 [(0, rf E 0), (1, .int a1), (2, .int a2), (3, .int a3)] [] s0
  unfold f_X5_sheet at hf
  refine s_iload_n O 1 dX5_sheet_0 rfl rfl ?_
  obtain ⟨s1, r2, c3, hf⟩ := bn_e hf
  refine s_SI (As := [.int a1]) (st := []) O lk_RX5_270 (k_X5_isSheet c3) rfl rfl ⟨rfl, rfl⟩ ⟨Nat.le_of_ble_eq_true rfl, Nat.le_of_ble_eq_true rfl⟩ rfl (Nat.le_of_ble_eq_true rfl) dX5_sheet_1 ?_
  refine s_if_eq (tgt := 20) O dX5_sheet_4 (by decide) (fun c => ?_) (fun c => ?_)
  · replace hf := if_t c hf
    refine s_iconst (v := (-1)) O dX5_sheet_20 rfl ?_
    exact s_iret hret rfl dX5_sheet_21 hf
  · replace hf := if_f c hf
    refine s_iload_n O 2 dX5_sheet_7 rfl rfl ?_
    obtain ⟨s4, r5, c6, hf⟩ := bn_e hf
    refine s_SI (As := [.int a2]) (st := []) O lk_RX5_273 (k_X5_isLane c6) rfl rfl ⟨rfl, rfl⟩ ⟨Nat.le_of_ble_eq_true rfl, Nat.le_of_ble_eq_true rfl⟩ rfl (Nat.le_of_ble_eq_true rfl) dX5_sheet_8 ?_
    refine s_if_eq (tgt := 20) O dX5_sheet_11 (by decide) (fun c => ?_) (fun c => ?_)
    · replace hf := if_t c hf
      refine s_iconst (v := (-1)) O dX5_sheet_20 rfl ?_
      exact s_iret hret rfl dX5_sheet_21 hf
    · replace hf := if_f c hf
      refine s_iload_n O 3 dX5_sheet_14 rfl rfl ?_
      refine s_bipush (v := 40) O dX5_sheet_15 rfl ?_
      refine s_icmp_le (tgt := 22) O dX5_sheet_17 (by decide) (fun c => ?_) (fun c => ?_)
      · replace hf := if_t c hf
        refine s_iload_n O 3 dX5_sheet_22 rfl rfl ?_
        refine s_if_ge (tgt := 29) O dX5_sheet_23 (by decide) (fun c => ?_) (fun c => ?_)
        · replace hf := if_t c hf
          refine s_aload_n O 0 dX5_sheet_29 rfl rfl ?_
          refine s_getR O fg_RX5_36 cs_0 rfl dX5_sheet_30 ?_
          refine s_iload_n O 1 dX5_sheet_33 rfl rfl ?_
          obtain ⟨h7, hf⟩ := gd_e hf
          refine s_aald O cs_50 (Or.inr (Or.inl rfl)) h7 dX5_sheet_34 ?_
          refine s_iload_n O 2 dX5_sheet_35 rfl rfl ?_
          refine s_iload_n O 3 dX5_sheet_36 rfl rfl ?_
          obtain ⟨s8, r9, c10, hf⟩ := bn_e hf
          refine s_VV (As := [.int a2, .int a3]) (st := []) O lk_RX5_276 (k_X4_renew (im_sh h7) c10) rfl (sk_0 (im_sh h7)) rfl rfl ⟨rfl, rfl⟩ ⟨Nat.le_of_ble_eq_true rfl, Nat.le_of_ble_eq_true rfl⟩ rfl (Nat.le_of_ble_eq_true rfl) dX5_sheet_37 ?_
          refine s_iconst (v := 1) O dX5_sheet_40 rfl ?_
          exact s_iret hret rfl dX5_sheet_41 hf
        · replace hf := if_f c hf
          refine s_bipush (v := (-14)) O dX5_sheet_26 rfl ?_
          exact s_iret hret rfl dX5_sheet_28 hf
      · replace hf := if_f c hf
        refine s_iconst (v := (-1)) O dX5_sheet_20 rfl ?_
        exact s_iret hret rfl dX5_sheet_21 hf
def rm_X4_isNothing : Room := { frames := 0, cells := 0, slots := 0, locals := 0 }
def f_X4_isNothing (k : Nat) (s0 : StA) : Option (StA × Int32) :=
  (if (gi s0 k 1) = (-1) then some (s0, 1) else some (s0, 0))
set_option maxHeartbeats 4000000 in
set_option maxRecDepth 100000 in
theorem k_X4_isNothing {k : Nat} (hk : isSh k) {s0 zs : StA} {rr : Int32} (hf : f_X4_isNothing k s0 = some (zs, rr)) : CtI cM yX4_isNothing cX4_isNothing 1 .boolean rm_X4_isNothing (fun ph => [.ref (ph k)]) s0 zs rr := by
  refine CtI.of (by decide +kernel) (fun ph => Nat.le_of_ble_eq_true rfl) (fun E O hret => ?_)
  have O : OK cM E RX4 cX4_isNothing 1 rm_X4_isNothing := O
  show WS cM E 1 0 [(0, rf E k)] [] s0
  unfold f_X4_isNothing at hf
  refine s_aload_n O 0 dX4_isNothing_0 rfl rfl ?_
  refine s_getI O fg_RX4_15 (sk_0 hk) rfl dX4_isNothing_1 ?_
  refine s_iconst (v := (-1)) O dX4_isNothing_4 rfl ?_
  refine s_icmp_ne (tgt := 12) O dX4_isNothing_5 (by decide) (fun c => ?_) (fun c => ?_)
  · replace hf := if_f c hf
    refine s_iconst (v := 0) O dX4_isNothing_12 rfl ?_
    exact s_iret hret rfl dX4_isNothing_13 hf
  · replace hf := if_t c hf
    refine s_iconst (v := 1) O dX4_isNothing_8 rfl ?_
    refine s_goto (tgt := 13) O dX4_isNothing_9 (by decide) ?_
    exact s_iret hret rfl dX4_isNothing_13 hf
def rm_X4_faultAs : Room := { frames := 1, cells := 0, slots := 0, locals := 22 }
def f_X4_faultAs (k : Nat) (a1 : Int32) (a2 : Int32) (s0 : StA) : Option (StA × Int32) :=
  bn (f_X4_isNothing k s0) (fun s1 r2 => (if r2 = 0 then (if (gi s1 k 1) = a1 then bn (f_X5_isIn a2 0 ((gi s1 k 2) - 1) s1) (fun s4 r5 => (if r5 = 0 then some (s4, 2) else some (s4, 0))) else some (s1, 3)) else some (s1, 1)))
set_option maxHeartbeats 4000000 in
set_option maxRecDepth 100000 in
theorem k_X4_faultAs {k : Nat} {a1 : Int32} {a2 : Int32} (hk : isSh k) {s0 zs : StA} {rr : Int32} (hf : f_X4_faultAs k a1 a2 s0 = some (zs, rr)) : CtI cM yX4_faultAs cX4_faultAs 3 .int rm_X4_faultAs (fun ph => [.ref (ph k), .int a1, .int a2]) s0 zs rr := by
  refine CtI.of (by decide +kernel) (fun ph => Nat.le_of_ble_eq_true rfl) (fun E O hret => ?_)
  have O : OK cM E RX4 cX4_faultAs 3 rm_X4_faultAs := O
  show WS cM E 3 0 [(0, rf E k), (1, .int a1), (2, .int a2)] [] s0
  unfold f_X4_faultAs at hf
  refine s_aload_n O 0 dX4_faultAs_0 rfl rfl ?_
  obtain ⟨s1, r2, c3, hf⟩ := bn_e hf
  refine s_VI (As := []) (st := []) O lk_RX4_28 (k_X4_isNothing hk c3) rfl (sk_0 hk) rfl rfl ⟨rfl, rfl⟩ ⟨Nat.le_of_ble_eq_true rfl, Nat.le_of_ble_eq_true rfl⟩ rfl (Nat.le_of_ble_eq_true rfl) dX4_faultAs_1 ?_
  refine s_if_eq (tgt := 9) O dX4_faultAs_4 (by decide) (fun c => ?_) (fun c => ?_)
  · replace hf := if_t c hf
    refine s_aload_n O 0 dX4_faultAs_9 rfl rfl ?_
    refine s_getI O fg_RX4_15 (sk_0 hk) rfl dX4_faultAs_10 ?_
    refine s_iload_n O 1 dX4_faultAs_13 rfl rfl ?_
    refine s_icmp_eq (tgt := 19) O dX4_faultAs_14 (by decide) (fun c => ?_) (fun c => ?_)
    · replace hf := if_t c hf
      refine s_iload_n O 2 dX4_faultAs_19 rfl rfl ?_
      refine s_iconst (v := 0) O dX4_faultAs_20 rfl ?_
      refine s_aload_n O 0 dX4_faultAs_21 rfl rfl ?_
      refine s_getI O fg_RX4_19 (sk_0 hk) rfl dX4_faultAs_22 ?_
      refine s_iconst (v := 1) O dX4_faultAs_25 rfl ?_
      refine s_isub O dX4_faultAs_26 ?_
      obtain ⟨s4, r5, c6, hf⟩ := bn_e hf
      refine s_NI (As := [.int a2, .int 0, .int ((gi s1 k 2) - 1)]) (st := []) O lk_RX4_32 (k_X5_isIn c6) rfl rfl ⟨rfl, rfl⟩ ⟨Nat.le_of_ble_eq_true rfl, Nat.le_of_ble_eq_true rfl⟩ rfl (Nat.le_of_ble_eq_true rfl) dX4_faultAs_27 ?_
      refine s_if_eq (tgt := 37) O dX4_faultAs_30 (by decide) (fun c => ?_) (fun c => ?_)
      · replace hf := if_t c hf
        refine s_iconst (v := 2) O dX4_faultAs_37 rfl ?_
        exact s_iret hret rfl dX4_faultAs_38 hf
      · replace hf := if_f c hf
        refine s_iconst (v := 0) O dX4_faultAs_33 rfl ?_
        refine s_goto (tgt := 38) O dX4_faultAs_34 (by decide) ?_
        exact s_iret hret rfl dX4_faultAs_38 hf
    · replace hf := if_f c hf
      refine s_iconst (v := 3) O dX4_faultAs_17 rfl ?_
      exact s_iret hret rfl dX4_faultAs_18 hf
  · replace hf := if_f c hf
    refine s_iconst (v := 1) O dX4_faultAs_7 rfl ?_
    exact s_iret hret rfl dX4_faultAs_8 hf
def rm_X4_put : Room := { frames := 0, cells := 0, slots := 0, locals := 0 }
def f_X4_put (k : Nat) (a1 : Int32) (a2 : Int32) (s0 : StA) : Option (StA × Unit) :=
  (if (gi s0 k 1) = 0 then gd a1 40 (nms (si s0 (k + 1) a1.toNatClampNeg a2.toInt8.toInt32) (fun s6 => some (s6, ()))) else (if (gi s0 k 1) = 1 then gd a1 40 (nms (si s0 (k + 1) a1.toNatClampNeg a2.toInt16.toInt32) (fun s4 => some (s4, ()))) else gd a1 40 (nms (si s0 (k + 1) a1.toNatClampNeg a2) (fun s2 => some (s2, ())))))
set_option maxHeartbeats 4000000 in
set_option maxRecDepth 100000 in
theorem k_X4_put {k : Nat} {a1 : Int32} {a2 : Int32} (hk : isSh k) {s0 zs : StA} {rr : Unit} (hf : f_X4_put k a1 a2 s0 = some (zs, rr)) : CtV cM yX4_put cX4_put 3 rm_X4_put (fun ph => [.ref (ph k), .int a1, .int a2]) s0 zs := by
  refine CtV.of (by decide +kernel) (fun ph => Nat.le_of_ble_eq_true rfl) (fun E O hret => ?_)
  have O : OK cM E RX4 cX4_put 3 rm_X4_put := O
  show WS cM E 3 0 [(0, rf E k), (1, .int a1), (2, .int a2)] [] s0
  unfold f_X4_put at hf
  refine s_aload_n O 0 dX4_put_0 rfl rfl ?_
  refine s_getR O fg_RX4_9 (sk_0 hk) rfl dX4_put_1 ?_
  refine s_iload_n O 1 dX4_put_4 rfl rfl ?_
  refine s_aload_n O 0 dX4_put_5 rfl rfl ?_
  refine s_getI O fg_RX4_15 (sk_0 hk) rfl dX4_put_6 ?_
  refine s_if_ne (tgt := 17) O dX4_put_9 (by decide) (fun c => ?_) (fun c => ?_)
  · replace hf := if_f c hf
    refine s_aload_n O 0 dX4_put_17 rfl rfl ?_
    refine s_getI O fg_RX4_15 (sk_0 hk) rfl dX4_put_18 ?_
    refine s_iconst (v := 1) O dX4_put_21 rfl ?_
    refine s_icmp_ne (tgt := 30) O dX4_put_22 (by decide) (fun c => ?_) (fun c => ?_)
    · replace hf := if_f c hf
      refine s_iload_n O 2 dX4_put_30 rfl rfl ?_
      obtain ⟨h1, hf⟩ := gd_e hf
      refine s_iast O (sk_1 hk) h1 dX4_put_31 ?_
      refine s_tops (fun s2 es2 => ?_)
      replace hf := nms_e es2 hf
      exact s_vret hret dX4_put_32 hf
    · replace hf := if_t c hf
      refine s_iload_n O 2 dX4_put_25 rfl rfl ?_
      refine s_i2s O dX4_put_26 ?_
      refine s_goto (tgt := 31) O dX4_put_27 (by decide) ?_
      obtain ⟨h3, hf⟩ := gd_e hf
      refine s_iast O (sk_1 hk) h3 dX4_put_31 ?_
      refine s_tops (fun s4 es4 => ?_)
      replace hf := nms_e es4 hf
      exact s_vret hret dX4_put_32 hf
  · replace hf := if_t c hf
    refine s_iload_n O 2 dX4_put_12 rfl rfl ?_
    refine s_i2b O dX4_put_13 ?_
    refine s_goto (tgt := 31) O dX4_put_14 (by decide) ?_
    obtain ⟨h5, hf⟩ := gd_e hf
    refine s_iast O (sk_1 hk) h5 dX4_put_31 ?_
    refine s_tops (fun s6 es6 => ?_)
    replace hf := nms_e es6 hf
    exact s_vret hret dX4_put_32 hf
def rm_X5_lay : Room := { frames := 2, cells := 0, slots := 0, locals := 44 }
def f_X5_lay (a1 : Int32) (a2 : Int32) (a3 : Int32) (s0 : StA) : Option (StA × Int32) :=
  bn (f_X5_isSheet a1 s0) (fun s1 r2 => (if r2 = 0 then some (s1, (-1)) else gd a1 4 (bn (f_X4_faultAs (51 + 2 * a1.toNatClampNeg) (gi s1 (51 + 2 * a1.toNatClampNeg) 1) a2 s1) (fun s5 r6 => (if r6 = 0 then bn (f_X4_put (51 + 2 * a1.toNatClampNeg) a2 a3 s5) (fun s8 r9 => some (s8, 1)) else some (s5, ((-10) - r6)))))))
set_option maxHeartbeats 4000000 in
set_option maxRecDepth 100000 in
theorem k_X5_lay {a1 : Int32} {a2 : Int32} {a3 : Int32} {s0 zs : StA} {rr : Int32} (hf : f_X5_lay a1 a2 a3 s0 = some (zs, rr)) : CtI cM yX5_lay cX5_lay 6 .int rm_X5_lay (fun ph => [.ref (ph 0), .int a1, .int a2, .int a3]) s0 zs rr := by
  refine CtI.of (by decide +kernel) (fun ph => Nat.le_of_ble_eq_true rfl) (fun E O hret => ?_)
  have O : OK cM E RX5 cX5_lay 6 rm_X5_lay := O
  show WS cM E 6 0 [(0, rf E 0), (1, .int a1), (2, .int a2), (3, .int a3)] [] s0
  unfold f_X5_lay at hf
  refine s_iload_n O 1 dX5_lay_0 rfl rfl ?_
  obtain ⟨s1, r2, c3, hf⟩ := bn_e hf
  refine s_SI (As := [.int a1]) (st := []) O lk_RX5_270 (k_X5_isSheet c3) rfl rfl ⟨rfl, rfl⟩ ⟨Nat.le_of_ble_eq_true rfl, Nat.le_of_ble_eq_true rfl⟩ rfl (Nat.le_of_ble_eq_true rfl) dX5_lay_1 ?_
  refine s_if_ne (tgt := 9) O dX5_lay_4 (by decide) (fun c => ?_) (fun c => ?_)
  · replace hf := if_f c hf
    refine s_aload_n O 0 dX5_lay_9 rfl rfl ?_
    refine s_getR O fg_RX5_36 cs_0 rfl dX5_lay_10 ?_
    refine s_iload_n O 1 dX5_lay_13 rfl rfl ?_
    obtain ⟨h4, hf⟩ := gd_e hf
    refine s_aald O cs_50 (Or.inr (Or.inl rfl)) h4 dX5_lay_14 ?_
    refine s_astore (lv' := [(4, rf E (51 + 2 * a1.toNatClampNeg)), (0, rf E 0), (1, .int a1), (2, .int a2), (3, .int a3)]) O dX5_lay_15 (by decide) rfl ?_
    refine s_aload O 0 dX5_lay_17 rfl ?_
    refine s_aload O 0 dX5_lay_19 rfl ?_
    refine s_getI O fg_RX5_279 (sk_0 (im_sh h4)) rfl dX5_lay_21 ?_
    refine s_iload_n O 3 dX5_lay_24 rfl rfl ?_
    obtain ⟨s5, r6, c7, hf⟩ := bn_e hf
    refine s_VI (As := [.int (gi s1 (51 + 2 * a1.toNatClampNeg) 1), .int a2]) (st := []) O lk_RX5_282 (k_X4_faultAs (im_sh h4) c7) rfl (sk_0 (im_sh h4)) rfl rfl ⟨rfl, rfl⟩ ⟨Nat.le_of_ble_eq_true rfl, Nat.le_of_ble_eq_true rfl⟩ rfl (Nat.le_of_ble_eq_true rfl) dX5_lay_25 ?_
    refine s_istore (lv' := [(5, .int r6), (4, rf E (51 + 2 * a1.toNatClampNeg)), (0, rf E 0), (1, .int a1), (2, .int a2), (3, .int a3)]) O dX5_lay_28 (by decide) rfl ?_
    refine s_iload O 0 dX5_lay_30 rfl ?_
    refine s_if_eq (tgt := 41) O dX5_lay_32 (by decide) (fun c => ?_) (fun c => ?_)
    · replace hf := if_t c hf
      refine s_aload O 1 dX5_lay_41 rfl ?_
      refine s_iload_n O 4 dX5_lay_43 rfl rfl ?_
      refine s_iload_n O 5 dX5_lay_44 rfl rfl ?_
      obtain ⟨s8, r9, c10, hf⟩ := bn_e hf
      refine s_VV (As := [.int a2, .int a3]) (st := []) O lk_RX5_285 (k_X4_put (im_sh h4) c10) rfl (sk_0 (im_sh h4)) rfl rfl ⟨rfl, rfl⟩ ⟨Nat.le_of_ble_eq_true rfl, Nat.le_of_ble_eq_true rfl⟩ rfl (Nat.le_of_ble_eq_true rfl) dX5_lay_45 ?_
      refine s_iconst (v := 1) O dX5_lay_48 rfl ?_
      exact s_iret hret rfl dX5_lay_49 hf
    · replace hf := if_f c hf
      refine s_bipush (v := (-10)) O dX5_lay_35 rfl ?_
      refine s_iload O 0 dX5_lay_37 rfl ?_
      refine s_isub O dX5_lay_39 ?_
      exact s_iret hret rfl dX5_lay_40 hf
  · replace hf := if_t c hf
    refine s_iconst (v := (-1)) O dX5_lay_7 rfl ?_
    exact s_iret hret rfl dX5_lay_8 hf
def rm_X4_faultOfPair : Room := { frames := 2, cells := 0, slots := 0, locals := 44 }
def f_X4_faultOfPair (k : Nat) (a1 : Int32) (a2 : Int32) (s0 : StA) : Option (StA × Int32) :=
  bn (f_X4_faultAs k a1 a2 s0) (fun s1 r2 => (if r2 = 0 then bn (f_X4_faultAs k a1 (a2 + 1) s1) (fun s4 r5 => some (s4, r5)) else some (s1, r2)))
set_option maxHeartbeats 4000000 in
set_option maxRecDepth 100000 in
theorem k_X4_faultOfPair {k : Nat} {a1 : Int32} {a2 : Int32} (hk : isSh k) {s0 zs : StA} {rr : Int32} (hf : f_X4_faultOfPair k a1 a2 s0 = some (zs, rr)) : CtI cM yX4_faultOfPair cX4_faultOfPair 4 .int rm_X4_faultOfPair (fun ph => [.ref (ph k), .int a1, .int a2]) s0 zs rr := by
  refine CtI.of (by decide +kernel) (fun ph => Nat.le_of_ble_eq_true rfl) (fun E O hret => ?_)
  have O : OK cM E RX4 cX4_faultOfPair 4 rm_X4_faultOfPair := O
  show WS cM E 4 0 [(0, rf E k), (1, .int a1), (2, .int a2)] [] s0
  unfold f_X4_faultOfPair at hf
  refine s_aload_n O 0 dX4_faultOfPair_0 rfl rfl ?_
  refine s_iload_n O 1 dX4_faultOfPair_1 rfl rfl ?_
  refine s_iload_n O 2 dX4_faultOfPair_2 rfl rfl ?_
  obtain ⟨s1, r2, c3, hf⟩ := bn_e hf
  refine s_VI (As := [.int a1, .int a2]) (st := []) O lk_RX4_36 (k_X4_faultAs hk c3) rfl (sk_0 hk) rfl rfl ⟨rfl, rfl⟩ ⟨Nat.le_of_ble_eq_true rfl, Nat.le_of_ble_eq_true rfl⟩ rfl (Nat.le_of_ble_eq_true rfl) dX4_faultOfPair_3 ?_
  refine s_istore_n (lv' := [(3, .int r2), (0, rf E k), (1, .int a1), (2, .int a2)]) O dX4_faultOfPair_6 rfl (by decide) rfl ?_
  refine s_iload_n O 0 dX4_faultOfPair_7 rfl rfl ?_
  refine s_if_eq (tgt := 15) O dX4_faultOfPair_8 (by decide) (fun c => ?_) (fun c => ?_)
  · replace hf := if_t c hf
    refine s_aload_n O 1 dX4_faultOfPair_15 rfl rfl ?_
    refine s_iload_n O 2 dX4_faultOfPair_16 rfl rfl ?_
    refine s_iload_n O 3 dX4_faultOfPair_17 rfl rfl ?_
    refine s_iconst (v := 1) O dX4_faultOfPair_18 rfl ?_
    refine s_iadd O dX4_faultOfPair_19 ?_
    obtain ⟨s4, r5, c6, hf⟩ := bn_e hf
    refine s_VI (As := [.int a1, .int (a2 + 1)]) (st := []) O lk_RX4_36 (k_X4_faultAs hk c6) rfl (sk_0 hk) rfl rfl ⟨rfl, rfl⟩ ⟨Nat.le_of_ble_eq_true rfl, Nat.le_of_ble_eq_true rfl⟩ rfl (Nat.le_of_ble_eq_true rfl) dX4_faultOfPair_20 ?_
    exact s_iret hret rfl dX4_faultOfPair_23 hf
  · replace hf := if_f c hf
    refine s_iload_n O 0 dX4_faultOfPair_11 rfl rfl ?_
    refine s_goto (tgt := 23) O dX4_faultOfPair_12 (by decide) ?_
    exact s_iret hret rfl dX4_faultOfPair_23 hf
def rm_X5_read : Room := { frames := 3, cells := 0, slots := 0, locals := 67 }
def fb_X5_read_l53 (a1 : Int32) (a2 : Int32) (a3 : Int32) (a4 : Int32) (x2 : Int32) (x3 : Int32) (x4 : Int32) (x6 : Int32) (s0 : StA) (v7 : Int32) (v8 : Int32) : Option (StA × ((Int32 × Int32) ⊕ ((Int32) ⊕ Int32))) :=
  (if x4 ≤ v7 then nms (si s0 0 9 v8) (fun s12 => some (s12, .inr (.inr v7))) else (if v8 = 0 then nmi (x3 + (2 * v7)) (fun n14 => bn (f_X4_faultOfPair (51 + 2 * a1.toNatClampNeg) x2 n14 s0) (fun s15 r16 => (if r16 = 0 then gd n14 40 (gd (n14 + 1) 40 (bn (f_X1_addSaying 1 (gi s15 ((51 + 2 * a1.toNatClampNeg) + 1) n14.toNatClampNeg) (gi s15 ((51 + 2 * a1.toNatClampNeg) + 1) (n14 + 1).toNatClampNeg) s15) (fun s20 r21 => (if 0 ≤ r21 then some (s20, .inl ((v7 + 1), r16)) else some (s20, .inr (.inl v7)))))) else some (s15, .inl (v7, r16))))) else nms (si s0 0 9 v8) (fun s13 => some (s13, .inr (.inr v7)))))
set_option maxHeartbeats 4000000 in
set_option maxRecDepth 100000 in
theorem wb_X5_read_l53 {E : XC} (O : OK cM E RX5 cX5_read 10 rm_X5_read) {a1 : Int32} {a2 : Int32} {a3 : Int32} {a4 : Int32} (g0 : isSh (51 + 2 * a1.toNatClampNeg)) {x2 : Int32} {x3 : Int32} {x4 : Int32} {x6 : Int32} {s0 : StA} {v7 : Int32} {v8 : Int32} {zs : StA} {rr : Int32} (hret : ReI cM E .int cX5_read zs rr) {bs : StA} {bw : (Int32 × Int32) ⊕ ((Int32) ⊕ Int32)} (Kc : ∀ v, bw = .inl v → WS cM E 10 53 [(0, rf E 0), (2, .int x2), (3, .int x3), (4, .int x4), (5, rf E (51 + 2 * a1.toNatClampNeg)), (6, .int x6), (7, .int v.1), (8, .int v.2)] [] bs) (Ke : ∀ e, bw = .inr (.inl e) → WS cM E 10 116 [(0, rf E 0), (6, .int x6), (7, .int e)] [] bs) (Kr : ∀ r, bw = .inr (.inr r) → some (bs, r) = some (zs, rr)) (hf : fb_X5_read_l53 a1 a2 a3 a4 x2 x3 x4 x6 s0 v7 v8 = some (bs, bw)) : WS cM E 10 53 [(0, rf E 0), (2, .int x2), (3, .int x3), (4, .int x4), (5, rf E (51 + 2 * a1.toNatClampNeg)), (6, .int x6), (7, .int v7), (8, .int v8)] [] s0 := by
  unfold fb_X5_read_l53 at hf
  refine s_iload O 6 dX5_read_53 rfl ?_
  refine s_iload O 3 dX5_read_55 rfl ?_
  refine s_icmp_ge (tgt := 141) O dX5_read_57 (by decide) (fun c => ?_) (fun c => ?_)
  · replace hf := if_t c hf
    refine s_aload_n O 0 dX5_read_141 rfl rfl ?_
    refine s_iload O 7 dX5_read_142 rfl ?_
    refine s_putI O fp_RX5_294 cs_0 rfl dX5_read_144 ?_
    refine s_tops (fun s12 es12 => ?_)
    replace hf := nms_e es12 hf
    refine s_iload O 6 dX5_read_147 rfl ?_
    cases hf
    exact s_iret hret rfl dX5_read_149 (Kr _ rfl)
  · replace hf := if_f c hf
    refine s_iload O 7 dX5_read_60 rfl ?_
    refine s_if_ne (tgt := 141) O dX5_read_62 (by decide) (fun c => ?_) (fun c => ?_)
    · replace hf := if_f c hf
      refine s_aload_n O 0 dX5_read_141 rfl rfl ?_
      refine s_iload O 7 dX5_read_142 rfl ?_
      refine s_putI O fp_RX5_294 cs_0 rfl dX5_read_144 ?_
      refine s_tops (fun s13 es13 => ?_)
      replace hf := nms_e es13 hf
      refine s_iload O 6 dX5_read_147 rfl ?_
      cases hf
      exact s_iret hret rfl dX5_read_149 (Kr _ rfl)
    · replace hf := if_t c hf
      refine s_iload_n O 2 dX5_read_65 rfl rfl ?_
      refine s_iconst (v := 2) O dX5_read_66 rfl ?_
      refine s_iload O 6 dX5_read_67 rfl ?_
      refine s_imul O dX5_read_69 ?_
      refine s_iadd O dX5_read_70 ?_
      refine s_topi (fun n14 en14 => ?_)
      replace hf := nmi_e en14 hf
      refine s_istore (lv' := [(9, .int n14), (0, rf E 0), (2, .int x2), (3, .int x3), (4, .int x4), (5, rf E (51 + 2 * a1.toNatClampNeg)), (6, .int x6), (7, .int v7), (8, .int v8)]) O dX5_read_71 (by decide) rfl ?_
      refine s_aload O 5 dX5_read_73 rfl ?_
      refine s_iload_n O 2 dX5_read_75 rfl rfl ?_
      refine s_iload O 0 dX5_read_76 rfl ?_
      obtain ⟨s15, r16, c17, hf⟩ := bn_e hf
      refine s_VI (As := [.int x2, .int n14]) (st := []) O lk_RX5_288 (k_X4_faultOfPair g0 c17) rfl (sk_0 g0) rfl rfl ⟨rfl, rfl⟩ ⟨Nat.le_of_ble_eq_true rfl, Nat.le_of_ble_eq_true rfl⟩ rfl (Nat.le_of_ble_eq_true rfl) dX5_read_78 ?_
      refine s_istore (lv' := [(8, .int r16), (9, .int n14), (0, rf E 0), (2, .int x2), (3, .int x3), (4, .int x4), (5, rf E (51 + 2 * a1.toNatClampNeg)), (6, .int x6), (7, .int v7)]) O dX5_read_81 (by decide) rfl ?_
      refine s_iload O 0 dX5_read_83 rfl ?_
      refine s_if_ne (tgt := 138) O dX5_read_85 (by decide) (fun c => ?_) (fun c => ?_)
      · replace hf := if_f c hf
        refine s_goto (tgt := 53) O dX5_read_138 (by decide) ?_
        refine s_loc [2, 3, 4, 5, 6, 7, 8, 0] rfl ?_
        cases hf
        exact Kc _ rfl
      · replace hf := if_t c hf
        refine s_aload_n O 2 dX5_read_88 rfl rfl ?_
        refine s_getR O fg_RX5_10 cs_0 rfl dX5_read_89 ?_
        refine s_aload O 6 dX5_read_92 rfl ?_
        refine s_getR O fg_RX5_291 (sk_0 g0) rfl dX5_read_94 ?_
        refine s_iload O 1 dX5_read_97 rfl ?_
        obtain ⟨h18, hf⟩ := gd_e hf
        refine s_iald O (sk_1 g0) h18 dX5_read_99 ?_
        refine s_aload O 6 dX5_read_100 rfl ?_
        refine s_getR O fg_RX5_291 (sk_0 g0) rfl dX5_read_102 ?_
        refine s_iload O 1 dX5_read_105 rfl ?_
        refine s_iconst (v := 1) O dX5_read_107 rfl ?_
        refine s_iadd O dX5_read_108 ?_
        obtain ⟨h19, hf⟩ := gd_e hf
        refine s_iald O (sk_1 g0) h19 dX5_read_109 ?_
        obtain ⟨s20, r21, c22, hf⟩ := bn_e hf
        refine s_VI (As := [.int (gi s15 ((51 + 2 * a1.toNatClampNeg) + 1) n14.toNatClampNeg), .int (gi s15 ((51 + 2 * a1.toNatClampNeg) + 1) (n14 + 1).toNatClampNeg)]) (st := []) O lk_RX5_159 (k_X1_addSaying fl_is1 c22) rfl cs_1 rfl rfl ⟨rfl, rfl⟩ ⟨Nat.le_of_ble_eq_true rfl, Nat.le_of_ble_eq_true rfl⟩ rfl (Nat.le_of_ble_eq_true rfl) dX5_read_110 ?_
        refine s_if_ge (tgt := 135) O dX5_read_113 (by decide) (fun c => ?_) (fun c => ?_)
        · replace hf := if_t c hf
          refine s_iinc (v := (v7 + 1)) (lv' := [(7, .int (v7 + 1)), (8, .int r16), (9, .int n14), (0, rf E 0), (2, .int x2), (3, .int x3), (4, .int x4), (5, rf E (51 + 2 * a1.toNatClampNeg)), (6, .int x6)]) O 8 dX5_read_135 rfl rfl (by decide) rfl ?_
          refine s_goto (tgt := 53) O dX5_read_138 (by decide) ?_
          refine s_loc [3, 4, 5, 6, 7, 8, 0, 1] rfl ?_
          cases hf
          exact Kc _ rfl
        · replace hf := if_f c hf
          refine s_loc [2, 7, 8] rfl ?_
          cases hf
          exact Ke _ rfl
def fl_X5_read_l53 (a1 : Int32) (a2 : Int32) (a3 : Int32) (a4 : Int32) (x2 : Int32) (x3 : Int32) (x4 : Int32) (x6 : Int32) (s0 : StA) (v : Int32 × Int32) : Option (StA × (((Int32) ⊕ Int32))) :=
  it (fun s v => fb_X5_read_l53 a1 a2 a3 a4 x2 x3 x4 x6 s v.1 v.2) FU s0 v
def f_X5_read (a1 : Int32) (a2 : Int32) (a3 : Int32) (a4 : Int32) (s0 : StA) : Option (StA × Int32) :=
  bn (f_X5_isSheet a1 s0) (fun s1 r2 => (if r2 = 0 then some (s1, (-1)) else bn (f_X5_isLane a2 s1) (fun s4 r5 => (if r5 = 0 then some (s4, (-1)) else bn (f_X5_isIn a4 0 20 s4) (fun s7 r8 => (if r8 = 0 then some (s7, (-1)) else gd a1 4 (nmi (gi s7 6 2) (fun n11 => bn (fl_X5_read_l53 a1 a2 a3 a4 a2 a3 a4 n11 s7 (0, 0)) (fun s23 e24 => match e24 with | .inl u53_7 => bn (f_X2_keepFirst 6 n11 s23) (fun s26 r27 => some (s26, ((-20) - u53_7))) | .inr q53 => some (s23, q53))))))))))
set_option maxHeartbeats 4000000 in
set_option maxRecDepth 100000 in
theorem k_X5_read {a1 : Int32} {a2 : Int32} {a3 : Int32} {a4 : Int32} {s0 zs : StA} {rr : Int32} (hf : f_X5_read a1 a2 a3 a4 s0 = some (zs, rr)) : CtI cM yX5_read cX5_read 10 .int rm_X5_read (fun ph => [.ref (ph 0), .int a1, .int a2, .int a3, .int a4]) s0 zs rr := by
  refine CtI.of (by decide +kernel) (fun ph => Nat.le_of_ble_eq_true rfl) (fun E O hret => ?_)
  have O : OK cM E RX5 cX5_read 10 rm_X5_read := O
  show WS cM E 10 0 [(0, rf E 0), (1, .int a1), (2, .int a2), (3, .int a3), (4, .int a4)] [] s0
  unfold f_X5_read at hf
  refine s_iload_n O 1 dX5_read_0 rfl rfl ?_
  obtain ⟨s1, r2, c3, hf⟩ := bn_e hf
  refine s_SI (As := [.int a1]) (st := []) O lk_RX5_270 (k_X5_isSheet c3) rfl rfl ⟨rfl, rfl⟩ ⟨Nat.le_of_ble_eq_true rfl, Nat.le_of_ble_eq_true rfl⟩ rfl (Nat.le_of_ble_eq_true rfl) dX5_read_1 ?_
  refine s_if_eq (tgt := 25) O dX5_read_4 (by decide) (fun c => ?_) (fun c => ?_)
  · replace hf := if_t c hf
    refine s_iconst (v := (-1)) O dX5_read_25 rfl ?_
    exact s_iret hret rfl dX5_read_26 hf
  · replace hf := if_f c hf
    refine s_iload_n O 2 dX5_read_7 rfl rfl ?_
    obtain ⟨s4, r5, c6, hf⟩ := bn_e hf
    refine s_SI (As := [.int a2]) (st := []) O lk_RX5_273 (k_X5_isLane c6) rfl rfl ⟨rfl, rfl⟩ ⟨Nat.le_of_ble_eq_true rfl, Nat.le_of_ble_eq_true rfl⟩ rfl (Nat.le_of_ble_eq_true rfl) dX5_read_8 ?_
    refine s_if_eq (tgt := 25) O dX5_read_11 (by decide) (fun c => ?_) (fun c => ?_)
    · replace hf := if_t c hf
      refine s_iconst (v := (-1)) O dX5_read_25 rfl ?_
      exact s_iret hret rfl dX5_read_26 hf
    · replace hf := if_f c hf
      refine s_iload O 4 dX5_read_14 rfl ?_
      refine s_iconst (v := 0) O dX5_read_16 rfl ?_
      refine s_bipush (v := 20) O dX5_read_17 rfl ?_
      obtain ⟨s7, r8, c9, hf⟩ := bn_e hf
      refine s_SI (As := [.int a4, .int 0, .int 20]) (st := []) O lk_RX5_57 (k_X5_isIn c9) rfl rfl ⟨rfl, rfl⟩ ⟨Nat.le_of_ble_eq_true rfl, Nat.le_of_ble_eq_true rfl⟩ rfl (Nat.le_of_ble_eq_true rfl) dX5_read_19 ?_
      refine s_if_ne (tgt := 27) O dX5_read_22 (by decide) (fun c => ?_) (fun c => ?_)
      · replace hf := if_f c hf
        refine s_aload_n O 0 dX5_read_27 rfl rfl ?_
        refine s_getR O fg_RX5_36 cs_0 rfl dX5_read_28 ?_
        refine s_iload_n O 1 dX5_read_31 rfl rfl ?_
        obtain ⟨h10, hf⟩ := gd_e hf
        refine s_aald O cs_50 (Or.inr (Or.inl rfl)) h10 dX5_read_32 ?_
        refine s_astore (lv' := [(5, rf E (51 + 2 * a1.toNatClampNeg)), (0, rf E 0), (1, .int a1), (2, .int a2), (3, .int a3), (4, .int a4)]) O dX5_read_33 (by decide) rfl ?_
        refine s_aload_n O 1 dX5_read_35 rfl rfl ?_
        refine s_getR O fg_RX5_10 cs_0 rfl dX5_read_36 ?_
        refine s_getR O fg_RX5_105 cs_1 rfl dX5_read_39 ?_
        refine s_getI O fg_RX5_109 cs_6 rfl dX5_read_42 ?_
        refine s_topi (fun n11 en11 => ?_)
        replace hf := nmi_e en11 hf
        refine s_istore (lv' := [(6, .int n11), (5, rf E (51 + 2 * a1.toNatClampNeg)), (0, rf E 0), (1, .int a1), (2, .int a2), (3, .int a3), (4, .int a4)]) O dX5_read_45 (by decide) rfl ?_
        refine s_iconst (v := 0) O dX5_read_47 rfl ?_
        refine s_istore (lv' := [(7, .int 0), (6, .int n11), (5, rf E (51 + 2 * a1.toNatClampNeg)), (0, rf E 0), (1, .int a1), (2, .int a2), (3, .int a3), (4, .int a4)]) O dX5_read_48 (by decide) rfl ?_
        refine s_iconst (v := 0) O dX5_read_50 rfl ?_
        refine s_istore (lv' := [(8, .int 0), (7, .int 0), (6, .int n11), (5, rf E (51 + 2 * a1.toNatClampNeg)), (0, rf E 0), (1, .int a1), (2, .int a2), (3, .int a3), (4, .int a4)]) O dX5_read_51 (by decide) rfl ?_
        refine s_loc [4, 6, 7, 8, 3, 2, 1, 0] rfl ?_
        obtain ⟨s23, e24, c25, hf⟩ := bn_e hf
        refine lp_of (body := fun s v => fb_X5_read_l53 a1 a2 a3 a4 a2 a3 a4 n11 s v.1 v.2) (X := fun s v => WS cM E 10 53 [(0, rf E 0), (2, .int a2), (3, .int a3), (4, .int a4), (5, rf E (51 + 2 * a1.toNatClampNeg)), (6, .int n11), (7, .int v.1), (8, .int v.2)] [] s) (Y := fun s e => match e with | .inl e => WS cM E 10 116 [(0, rf E 0), (6, .int n11), (7, .int e)] [] s | .inr r => some (s, r) = some (zs, rr)) (fun s v s' w hb Kc Ke => wb_X5_read_l53 (rr := rr) O  (im_sh h10) hret Kc (fun e he => Ke (.inl e) he) (fun r he => Ke (.inr r) he) hb) FU _ _ (s23, e24) c25 ?_
        rcases e24 with e24 | q53
        · obtain ⟨u53_7, rfl⟩ : ∃ z, z = e24 := ⟨_, rfl⟩
          show WS cM E 10 116 [(0, rf E 0), (6, .int n11), (7, .int u53_7)] [] s23
          refine s_aload_n O 0 dX5_read_116 rfl rfl ?_
          refine s_getR O fg_RX5_10 cs_0 rfl dX5_read_117 ?_
          refine s_getR O fg_RX5_105 cs_1 rfl dX5_read_120 ?_
          refine s_iload O 1 dX5_read_123 rfl ?_
          obtain ⟨s26, r27, c28, hf⟩ := bn_e hf
          refine s_VI (As := [.int n11]) (st := []) O lk_RX5_163 (k_X2_keepFirst pr_is6 c28) rfl cs_6 rfl rfl ⟨rfl, rfl⟩ ⟨Nat.le_of_ble_eq_true rfl, Nat.le_of_ble_eq_true rfl⟩ rfl (Nat.le_of_ble_eq_true rfl) dX5_read_125 ?_
          refine s_pop O dX5_read_128 rfl ?_
          refine s_bipush (v := (-20)) O dX5_read_129 rfl ?_
          refine s_iload O 2 dX5_read_131 rfl ?_
          refine s_isub O dX5_read_133 ?_
          exact s_iret hret rfl dX5_read_134 hf
        · exact hf
      · replace hf := if_t c hf
        refine s_iconst (v := (-1)) O dX5_read_25 rfl ?_
        exact s_iret hret rfl dX5_read_26 hf
def rm_X5_torn : Room := { frames := 0, cells := 0, slots := 0, locals := 0 }
def f_X5_torn  (s0 : StA) : Option (StA × Int32) :=
  some (s0, (gi s0 0 9))
set_option maxHeartbeats 4000000 in
set_option maxRecDepth 100000 in
theorem k_X5_torn  {s0 zs : StA} {rr : Int32} (hf : f_X5_torn  s0 = some (zs, rr)) : CtI cM yX5_torn cX5_torn 1 .int rm_X5_torn (fun ph => [.ref (ph 0)]) s0 zs rr := by
  refine CtI.of (by decide +kernel) (fun ph => Nat.le_of_ble_eq_true rfl) (fun E O hret => ?_)
  have O : OK cM E RX5 cX5_torn 1 rm_X5_torn := O
  show WS cM E 1 0 [(0, rf E 0)] [] s0
  unfold f_X5_torn at hf
  refine s_aload_n O 0 dX5_torn_0 rfl rfl ?_
  refine s_getI O fg_RX5_294 cs_0 rfl dX5_torn_1 ?_
  exact s_iret hret rfl dX5_torn_4 hf
def rm_X5_keptImages : Room := { frames := 0, cells := 0, slots := 0, locals := 0 }
def fb_X5_keptImages_l4   (s0 : StA) (v1 : Int32) (v2 : Int32) : Option (StA × ((Int32 × Int32) ⊕ (Int32))) :=
  (if 2 ≤ v2 then some (s0, .inr v1) else gd v2 2 ((if (gi s0 46 v2.toNatClampNeg) = 0 then nmi (v1 + 0) (fun n2 => some (s0, .inl (n2, (v2 + 1)))) else nmi (v1 + 1) (fun n3 => some (s0, .inl (n3, (v2 + 1)))))))
set_option maxHeartbeats 4000000 in
set_option maxRecDepth 100000 in
theorem wb_X5_keptImages_l4 {E : XC} (O : OK cM E RX5 cX5_keptImages 3 rm_X5_keptImages)    {s0 : StA} {v1 : Int32} {v2 : Int32} {zs : StA} {rr : Int32} (hret : ReI cM E .int cX5_keptImages zs rr) {bs : StA} {bw : (Int32 × Int32) ⊕ (Int32)} (Kc : ∀ v, bw = .inl v → WS cM E 3 4 [(0, rf E 0), (1, .int v.1), (2, .int v.2)] [] bs) (Ke : ∀ e, bw = .inr e → WS cM E 3 32 [(1, .int e)] [] bs) (hf : fb_X5_keptImages_l4  s0 v1 v2 = some (bs, bw)) : WS cM E 3 4 [(0, rf E 0), (1, .int v1), (2, .int v2)] [] s0 := by
  unfold fb_X5_keptImages_l4 at hf
  refine s_iload_n O 2 dX5_keptImages_4 rfl rfl ?_
  refine s_iconst (v := 2) O dX5_keptImages_5 rfl ?_
  refine s_icmp_ge (tgt := 32) O dX5_keptImages_6 (by decide) (fun c => ?_) (fun c => ?_)
  · replace hf := if_t c hf
    refine s_loc [1] rfl ?_
    cases hf
    exact Ke _ rfl
  · replace hf := if_f c hf
    refine s_iload_n O 1 dX5_keptImages_9 rfl rfl ?_
    refine s_aload_n O 0 dX5_keptImages_10 rfl rfl ?_
    refine s_getR O fg_RX5_23 cs_0 rfl dX5_keptImages_11 ?_
    refine s_iload_n O 2 dX5_keptImages_14 rfl rfl ?_
    obtain ⟨h1, hf⟩ := gd_e hf
    refine s_zald O cs_46 h1 dX5_keptImages_15 ?_
    refine s_if_eq (tgt := 23) O dX5_keptImages_16 (by decide) (fun c => ?_) (fun c => ?_)
    · replace hf := if_t c hf
      refine s_iconst (v := 0) O dX5_keptImages_23 rfl ?_
      refine s_iadd O dX5_keptImages_24 ?_
      refine s_topi (fun n2 en2 => ?_)
      replace hf := nmi_e en2 hf
      refine s_istore_n (lv' := [(1, .int n2), (0, rf E 0), (2, .int v2)]) O dX5_keptImages_25 rfl (by decide) rfl ?_
      refine s_iinc (v := (v2 + 1)) (lv' := [(2, .int (v2 + 1)), (1, .int n2), (0, rf E 0)]) O 2 dX5_keptImages_26 rfl rfl (by decide) rfl ?_
      refine s_goto (tgt := 4) O dX5_keptImages_29 (by decide) ?_
      refine s_loc [2, 1, 0] rfl ?_
      cases hf
      exact Kc _ rfl
    · replace hf := if_f c hf
      refine s_iconst (v := 1) O dX5_keptImages_19 rfl ?_
      refine s_goto (tgt := 24) O dX5_keptImages_20 (by decide) ?_
      refine s_iadd O dX5_keptImages_24 ?_
      refine s_topi (fun n3 en3 => ?_)
      replace hf := nmi_e en3 hf
      refine s_istore_n (lv' := [(1, .int n3), (0, rf E 0), (2, .int v2)]) O dX5_keptImages_25 rfl (by decide) rfl ?_
      refine s_iinc (v := (v2 + 1)) (lv' := [(2, .int (v2 + 1)), (1, .int n3), (0, rf E 0)]) O 2 dX5_keptImages_26 rfl rfl (by decide) rfl ?_
      refine s_goto (tgt := 4) O dX5_keptImages_29 (by decide) ?_
      refine s_loc [2, 1, 0] rfl ?_
      cases hf
      exact Kc _ rfl
def fl_X5_keptImages_l4   (s0 : StA) (v : Int32 × Int32) : Option (StA × ((Int32))) :=
  it (fun s v => fb_X5_keptImages_l4  s v.1 v.2) FU s0 v
def f_X5_keptImages  (s0 : StA) : Option (StA × Int32) :=
  bn (fl_X5_keptImages_l4  s0 (0, 0)) (fun s4 u4_1 => some (s4, u4_1))
set_option maxHeartbeats 4000000 in
set_option maxRecDepth 100000 in
theorem k_X5_keptImages  {s0 zs : StA} {rr : Int32} (hf : f_X5_keptImages  s0 = some (zs, rr)) : CtI cM yX5_keptImages cX5_keptImages 3 .int rm_X5_keptImages (fun ph => [.ref (ph 0)]) s0 zs rr := by
  refine CtI.of (by decide +kernel) (fun ph => Nat.le_of_ble_eq_true rfl) (fun E O hret => ?_)
  have O : OK cM E RX5 cX5_keptImages 3 rm_X5_keptImages := O
  show WS cM E 3 0 [(0, rf E 0)] [] s0
  unfold f_X5_keptImages at hf
  refine s_iconst (v := 0) O dX5_keptImages_0 rfl ?_
  refine s_istore_n (lv' := [(1, .int 0), (0, rf E 0)]) O dX5_keptImages_1 rfl (by decide) rfl ?_
  refine s_iconst (v := 0) O dX5_keptImages_2 rfl ?_
  refine s_istore_n (lv' := [(2, .int 0), (1, .int 0), (0, rf E 0)]) O dX5_keptImages_3 rfl (by decide) rfl ?_
  refine s_loc [2, 1, 0] rfl ?_
  obtain ⟨s4, u4_1, c6, hf⟩ := bn_e hf
  refine lp_of (body := fun s v => fb_X5_keptImages_l4  s v.1 v.2) (X := fun s v => WS cM E 3 4 [(0, rf E 0), (1, .int v.1), (2, .int v.2)] [] s) (Y := fun s e => WS cM E 3 32 [(1, .int e)] [] s) (fun s v s' w hb Kc Ke => wb_X5_keptImages_l4 (rr := rr) O   hret Kc Ke hb) FU _ _ (s4, u4_1) c6 ?_
  show WS cM E 3 32 [(1, .int u4_1)] [] s4
  refine s_iload_n O 0 dX5_keptImages_32 rfl rfl ?_
  exact s_iret hret rfl dX5_keptImages_33 hf
