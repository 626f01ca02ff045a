def rm_X6_minuteGoes : Room := { frames := 3, cells := 0, slots := 0, locals := 67 }
def fb_X6_minuteGoes_l2   (s0 : StA) (v1 : Int32) : Option (StA × ((Int32) ⊕ (Unit))) :=
  gd 33 63 ((if (gi s0 2 (33 : Int32).toNatClampNeg) ≤ v1 then some (s0, .inr ()) else (if (((gi s0 0 17) >>> (v1 &&& 31)) &&& 1) = 0 then gd (34 + (2 * v1)) 63 (gd 27 63 ((if (gi s0 2 (34 + (2 * v1)).toNatClampNeg) = (gi s0 2 (27 : Int32).toNatClampNeg) then gd ((34 + (2 * v1)) + 1) 63 (bn (f_X6_becomesOf (gi s0 2 ((34 + (2 * v1)) + 1).toNatClampNeg) 3 1 s0) (fun s5 r6 => some (s5, .inl (v1 + 1)))) else some (s0, .inl (v1 + 1))))) else some (s0, .inl (v1 + 1)))))
set_option maxHeartbeats 4000000 in
set_option maxRecDepth 100000 in
theorem wb_X6_minuteGoes_l2 {E : XC} (O : OK mM E RX6 cX6_minuteGoes 3 rm_X6_minuteGoes)    {s0 : StA} {v1 : Int32} {zs : StA} {rr : Unit} (hret : ReV mM E cX6_minuteGoes zs) {bs : StA} {bw : (Int32) ⊕ (Unit)} (Kc : ∀ v, bw = .inl v → WS mM E 3 2 [(0, rf E 0), (1, .int v)] [] bs) (Ke : ∀ e, bw = .inr e → WS mM E 3 70 [(0, rf E 0)] [] bs) (hf : fb_X6_minuteGoes_l2  s0 v1 = some (bs, bw)) : WS mM E 3 2 [(0, rf E 0), (1, .int v1)] [] s0 := by
  unfold fb_X6_minuteGoes_l2 at hf
  refine s_iload_n O 1 dX6_minuteGoes_2 rfl rfl ?_
  refine s_aload_n O 0 dX6_minuteGoes_3 rfl rfl ?_
  refine s_getR O fg_RX6_13 ms_0 rfl dX6_minuteGoes_4 ?_
  refine s_bipush (v := 33) O dX6_minuteGoes_7 rfl ?_
  obtain ⟨h1, hf⟩ := gd_e hf
  refine s_iald O ms_2 h1 dX6_minuteGoes_9 ?_
  refine s_icmp_ge (tgt := 70) O dX6_minuteGoes_10 (by decide) (fun c => ?_) (fun c => ?_)
  · replace hf := if_t c hf
    refine s_loc [0] rfl ?_
    cases hf
    exact Ke _ rfl
  · replace hf := if_f c hf
    refine s_aload_n O 0 dX6_minuteGoes_13 rfl rfl ?_
    refine s_getI O fg_RX6_146 ms_0 rfl dX6_minuteGoes_14 ?_
    refine s_iload_n O 1 dX6_minuteGoes_17 rfl rfl ?_
    refine s_ishr O dX6_minuteGoes_18 ?_
    refine s_iconst (v := 1) O dX6_minuteGoes_19 rfl ?_
    refine s_iand O dX6_minuteGoes_20 ?_
    refine s_if_ne (tgt := 64) O dX6_minuteGoes_21 (by decide) (fun c => ?_) (fun c => ?_)
    · replace hf := if_f c hf
      refine s_iinc (v := (v1 + 1)) (lv' := [(1, .int (v1 + 1)), (0, rf E 0)]) O 1 dX6_minuteGoes_64 rfl rfl (by decide) rfl ?_
      refine s_goto (tgt := 2) O dX6_minuteGoes_67 (by decide) ?_
      refine s_loc [1, 0] rfl ?_
      cases hf
      exact Kc _ rfl
    · replace hf := if_t c hf
      refine s_aload_n O 0 dX6_minuteGoes_24 rfl rfl ?_
      refine s_getR O fg_RX6_13 ms_0 rfl dX6_minuteGoes_25 ?_
      refine s_bipush (v := 34) O dX6_minuteGoes_28 rfl ?_
      refine s_iconst (v := 2) O dX6_minuteGoes_30 rfl ?_
      refine s_iload_n O 1 dX6_minuteGoes_31 rfl rfl ?_
      refine s_imul O dX6_minuteGoes_32 ?_
      refine s_iadd O dX6_minuteGoes_33 ?_
      obtain ⟨h2, hf⟩ := gd_e hf
      refine s_iald O ms_2 h2 dX6_minuteGoes_34 ?_
      refine s_aload_n O 0 dX6_minuteGoes_35 rfl rfl ?_
      refine s_getR O fg_RX6_13 ms_0 rfl dX6_minuteGoes_36 ?_
      refine s_bipush (v := 27) O dX6_minuteGoes_39 rfl ?_
      obtain ⟨h3, hf⟩ := gd_e hf
      refine s_iald O ms_2 h3 dX6_minuteGoes_41 ?_
      refine s_icmp_ne (tgt := 64) O dX6_minuteGoes_42 (by decide) (fun c => ?_) (fun c => ?_)
      · replace hf := if_f c hf
        refine s_iinc (v := (v1 + 1)) (lv' := [(1, .int (v1 + 1)), (0, rf E 0)]) O 1 dX6_minuteGoes_64 rfl rfl (by decide) rfl ?_
        refine s_goto (tgt := 2) O dX6_minuteGoes_67 (by decide) ?_
        refine s_loc [1, 0] rfl ?_
        cases hf
        exact Kc _ rfl
      · replace hf := if_t c hf
        refine s_aload_n O 0 dX6_minuteGoes_45 rfl rfl ?_
        refine s_aload_n O 0 dX6_minuteGoes_46 rfl rfl ?_
        refine s_getR O fg_RX6_13 ms_0 rfl dX6_minuteGoes_47 ?_
        refine s_bipush (v := 34) O dX6_minuteGoes_50 rfl ?_
        refine s_iconst (v := 2) O dX6_minuteGoes_52 rfl ?_
        refine s_iload_n O 1 dX6_minuteGoes_53 rfl rfl ?_
        refine s_imul O dX6_minuteGoes_54 ?_
        refine s_iadd O dX6_minuteGoes_55 ?_
        refine s_iconst (v := 1) O dX6_minuteGoes_56 rfl ?_
        refine s_iadd O dX6_minuteGoes_57 ?_
        obtain ⟨h4, hf⟩ := gd_e hf
        refine s_iald O ms_2 h4 dX6_minuteGoes_58 ?_
        refine s_iconst (v := 3) O dX6_minuteGoes_59 rfl ?_
        refine s_iconst (v := 1) O dX6_minuteGoes_60 rfl ?_
        obtain ⟨s5, r6, c7, hf⟩ := bn_e hf
        refine s_VV (As := [.int (gi s0 2 ((34 + (2 * v1)) + 1).toNatClampNeg), .int 3, .int 1]) (st := []) O lk_RX6_162 (k_X6_becomesOf c7) rfl ms_0 rfl rfl ⟨rfl, rfl⟩ ⟨Nat.le_of_ble_eq_true rfl, Nat.le_of_ble_eq_true rfl⟩ rfl (Nat.le_of_ble_eq_true rfl) dX6_minuteGoes_61 ?_
        refine s_iinc (v := (v1 + 1)) (lv' := [(1, .int (v1 + 1)), (0, rf E 0)]) O 1 dX6_minuteGoes_64 rfl rfl (by decide) rfl ?_
        refine s_goto (tgt := 2) O dX6_minuteGoes_67 (by decide) ?_
        refine s_loc [1, 0] rfl ?_
        cases hf
        exact Kc _ rfl
def fl_X6_minuteGoes_l2   (s0 : StA) (v : Int32) : Option (StA × ((Unit))) :=
  it (fun s v => fb_X6_minuteGoes_l2  s v) FU s0 v
def fj_X6_minuteGoes_j175   (y0 : Int32) (s0 : StA) : Option (StA × (Unit)) :=
  gd 25 63 (gd (28 + y0) 63 (bn (f_X6_within (((gi s0 2 (25 : Int32).toNatClampNeg) + (gi s0 2 (28 + y0).toNatClampNeg)) - 4) 0 99 s0) (fun s26 r27 => gd 25 63 (nms (si s26 2 ((25 : Int32).toNatClampNeg) r27) (fun s30 => gd 27 63 (gd 27 63 (nms (si s30 2 ((27 : Int32).toNatClampNeg) ((gi s30 2 (27 : Int32).toNatClampNeg) + 1)) (fun s33 => some (s33, ())))))))))
set_option maxHeartbeats 4000000 in
set_option maxRecDepth 100000 in
theorem wj_X6_minuteGoes_j175 {E : XC} (O : OK mM E RX6 cX6_minuteGoes 3 rm_X6_minuteGoes)    {y0 : Int32} {s0 : StA} {zs : StA} {rr : Unit} (hret : ReV mM E cX6_minuteGoes zs) (hf : fj_X6_minuteGoes_j175 y0 s0 = some (zs, rr)) : WS mM E 3 175 [(0, rf E 0)] [.int y0] s0 := by
  unfold fj_X6_minuteGoes_j175 at hf
  refine s_istore_n (lv' := [(2, .int y0), (0, rf E 0)]) O dX6_minuteGoes_175 rfl (by decide) rfl ?_
  refine s_aload_n O 1 dX6_minuteGoes_176 rfl rfl ?_
  refine s_getR O fg_RX6_13 ms_0 rfl dX6_minuteGoes_177 ?_
  refine s_bipush (v := 25) O dX6_minuteGoes_180 rfl ?_
  refine s_aload_n O 1 dX6_minuteGoes_182 rfl rfl ?_
  refine s_getR O fg_RX6_13 ms_0 rfl dX6_minuteGoes_183 ?_
  refine s_bipush (v := 25) O dX6_minuteGoes_186 rfl ?_
  obtain ⟨h24, hf⟩ := gd_e hf
  refine s_iald O ms_2 h24 dX6_minuteGoes_188 ?_
  refine s_aload_n O 1 dX6_minuteGoes_189 rfl rfl ?_
  refine s_getR O fg_RX6_13 ms_0 rfl dX6_minuteGoes_190 ?_
  refine s_bipush (v := 28) O dX6_minuteGoes_193 rfl ?_
  refine s_iload_n O 0 dX6_minuteGoes_195 rfl rfl ?_
  refine s_iadd O dX6_minuteGoes_196 ?_
  obtain ⟨h25, hf⟩ := gd_e hf
  refine s_iald O ms_2 h25 dX6_minuteGoes_197 ?_
  refine s_iadd O dX6_minuteGoes_198 ?_
  refine s_iconst (v := 4) O dX6_minuteGoes_199 rfl ?_
  refine s_isub O dX6_minuteGoes_200 ?_
  refine s_iconst (v := 0) O dX6_minuteGoes_201 rfl ?_
  refine s_bipush (v := 99) O dX6_minuteGoes_202 rfl ?_
  obtain ⟨s26, r27, c28, hf⟩ := bn_e hf
  refine s_SI (As := [.int (((gi s0 2 (25 : Int32).toNatClampNeg) + (gi s0 2 (28 + y0).toNatClampNeg)) - 4), .int 0, .int 99]) (st := [.int 25, rf E 2]) O lk_RX6_158 (k_X6_within c28) rfl rfl ⟨rfl, rfl⟩ ⟨Nat.le_of_ble_eq_true rfl, Nat.le_of_ble_eq_true rfl⟩ rfl (Nat.le_of_ble_eq_true rfl) dX6_minuteGoes_204 ?_
  obtain ⟨h29, hf⟩ := gd_e hf
  refine s_iast O ms_2 h29 dX6_minuteGoes_207 ?_
  refine s_tops (fun s30 es30 => ?_)
  replace hf := nms_e es30 hf
  refine s_aload_n O 1 dX6_minuteGoes_208 rfl rfl ?_
  refine s_getR O fg_RX6_13 ms_0 rfl dX6_minuteGoes_209 ?_
  refine s_bipush (v := 27) O dX6_minuteGoes_212 rfl ?_
  refine s_dup2 O dX6_minuteGoes_214 rfl rfl ?_
  obtain ⟨h31, hf⟩ := gd_e hf
  refine s_iald O ms_2 h31 dX6_minuteGoes_215 ?_
  refine s_iconst (v := 1) O dX6_minuteGoes_216 rfl ?_
  refine s_iadd O dX6_minuteGoes_217 ?_
  obtain ⟨h32, hf⟩ := gd_e hf
  refine s_iast O ms_2 h32 dX6_minuteGoes_218 ?_
  refine s_tops (fun s33 es33 => ?_)
  replace hf := nms_e es33 hf
  exact s_vret hret dX6_minuteGoes_219 hf
def fj_X6_minuteGoes_j103    (s0 : StA) : Option (StA × (Unit)) :=
  bn (f_X6_liftNow  s0) (fun s11 r12 => gd 24 63 (gd 26 63 (gd 24 63 (gd 26 63 (bn (f_X6_within r12 ((gi s11 2 (24 : Int32).toNatClampNeg) - (gi s11 2 (26 : Int32).toNatClampNeg)) ((gi s11 2 (24 : Int32).toNatClampNeg) + (gi s11 2 (26 : Int32).toNatClampNeg)) s11) (fun s18 r19 => gd 24 63 (nms (si s18 2 ((24 : Int32).toNatClampNeg) r19) (fun s22 => gd 24 63 ((if 50 ≤ (gi s22 2 (24 : Int32).toNatClampNeg) then fj_X6_minuteGoes_j175 4 s22 else gd 24 63 (fj_X6_minuteGoes_j175 ((gi s22 2 (24 : Int32).toNatClampNeg) / 10) s22)))))))))))
set_option maxHeartbeats 4000000 in
set_option maxRecDepth 100000 in
theorem wj_X6_minuteGoes_j103 {E : XC} (O : OK mM E RX6 cX6_minuteGoes 3 rm_X6_minuteGoes)     {s0 : StA} {zs : StA} {rr : Unit} (hret : ReV mM E cX6_minuteGoes zs) (hf : fj_X6_minuteGoes_j103  s0 = some (zs, rr)) : WS mM E 3 103 [(0, rf E 0)] [] s0 := by
  unfold fj_X6_minuteGoes_j103 at hf
  refine s_aload_n O 0 dX6_minuteGoes_103 rfl rfl ?_
  obtain ⟨s11, r12, c13, hf⟩ := bn_e hf
  refine s_VI (As := []) (st := []) O lk_RX6_169 (k_X6_liftNow c13) rfl ms_0 rfl rfl ⟨rfl, rfl⟩ ⟨Nat.le_of_ble_eq_true rfl, Nat.le_of_ble_eq_true rfl⟩ rfl (Nat.le_of_ble_eq_true rfl) dX6_minuteGoes_104 ?_
  refine s_istore_n (lv' := [(1, .int r12), (0, rf E 0)]) O dX6_minuteGoes_107 rfl (by decide) rfl ?_
  refine s_aload_n O 1 dX6_minuteGoes_108 rfl rfl ?_
  refine s_getR O fg_RX6_13 ms_0 rfl dX6_minuteGoes_109 ?_
  refine s_bipush (v := 24) O dX6_minuteGoes_112 rfl ?_
  refine s_iload_n O 0 dX6_minuteGoes_114 rfl rfl ?_
  refine s_aload_n O 1 dX6_minuteGoes_115 rfl rfl ?_
  refine s_getR O fg_RX6_13 ms_0 rfl dX6_minuteGoes_116 ?_
  refine s_bipush (v := 24) O dX6_minuteGoes_119 rfl ?_
  obtain ⟨h14, hf⟩ := gd_e hf
  refine s_iald O ms_2 h14 dX6_minuteGoes_121 ?_
  refine s_aload_n O 1 dX6_minuteGoes_122 rfl rfl ?_
  refine s_getR O fg_RX6_13 ms_0 rfl dX6_minuteGoes_123 ?_
  refine s_bipush (v := 26) O dX6_minuteGoes_126 rfl ?_
  obtain ⟨h15, hf⟩ := gd_e hf
  refine s_iald O ms_2 h15 dX6_minuteGoes_128 ?_
  refine s_isub O dX6_minuteGoes_129 ?_
  refine s_aload_n O 1 dX6_minuteGoes_130 rfl rfl ?_
  refine s_getR O fg_RX6_13 ms_0 rfl dX6_minuteGoes_131 ?_
  refine s_bipush (v := 24) O dX6_minuteGoes_134 rfl ?_
  obtain ⟨h16, hf⟩ := gd_e hf
  refine s_iald O ms_2 h16 dX6_minuteGoes_136 ?_
  refine s_aload_n O 1 dX6_minuteGoes_137 rfl rfl ?_
  refine s_getR O fg_RX6_13 ms_0 rfl dX6_minuteGoes_138 ?_
  refine s_bipush (v := 26) O dX6_minuteGoes_141 rfl ?_
  obtain ⟨h17, hf⟩ := gd_e hf
  refine s_iald O ms_2 h17 dX6_minuteGoes_143 ?_
  refine s_iadd O dX6_minuteGoes_144 ?_
  obtain ⟨s18, r19, c20, hf⟩ := bn_e hf
  refine s_SI (As := [.int r12, .int ((gi s11 2 (24 : Int32).toNatClampNeg) - (gi s11 2 (26 : Int32).toNatClampNeg)), .int ((gi s11 2 (24 : Int32).toNatClampNeg) + (gi s11 2 (26 : Int32).toNatClampNeg))]) (st := [.int 24, rf E 2]) O lk_RX6_158 (k_X6_within c20) rfl rfl ⟨rfl, rfl⟩ ⟨Nat.le_of_ble_eq_true rfl, Nat.le_of_ble_eq_true rfl⟩ rfl (Nat.le_of_ble_eq_true rfl) dX6_minuteGoes_145 ?_
  obtain ⟨h21, hf⟩ := gd_e hf
  refine s_iast O ms_2 h21 dX6_minuteGoes_148 ?_
  refine s_tops (fun s22 es22 => ?_)
  replace hf := nms_e es22 hf
  refine s_aload_n O 1 dX6_minuteGoes_149 rfl rfl ?_
  refine s_getR O fg_RX6_13 ms_0 rfl dX6_minuteGoes_150 ?_
  refine s_bipush (v := 24) O dX6_minuteGoes_153 rfl ?_
  obtain ⟨h23, hf⟩ := gd_e hf
  refine s_iald O ms_2 h23 dX6_minuteGoes_155 ?_
  refine s_bipush (v := 50) O dX6_minuteGoes_156 rfl ?_
  refine s_icmp_ge (tgt := 174) O dX6_minuteGoes_158 (by decide) (fun c => ?_) (fun c => ?_)
  · replace hf := if_t c hf
    refine s_iconst (v := 4) O dX6_minuteGoes_174 rfl ?_
    refine s_loc [1] rfl ?_
    exact wj_X6_minuteGoes_j175 (rr := rr) O   hret hf
  · replace hf := if_f c hf
    refine s_aload_n O 1 dX6_minuteGoes_161 rfl rfl ?_
    refine s_getR O fg_RX6_13 ms_0 rfl dX6_minuteGoes_162 ?_
    refine s_bipush (v := 24) O dX6_minuteGoes_165 rfl ?_
    obtain ⟨h34, hf⟩ := gd_e hf
    refine s_iald O ms_2 h34 dX6_minuteGoes_167 ?_
    refine s_bipush (v := 10) O dX6_minuteGoes_168 rfl ?_
    refine s_idiv O dX6_minuteGoes_170 (by decide) ?_
    refine s_goto (tgt := 175) O dX6_minuteGoes_171 (by decide) ?_
    refine s_loc [1] rfl ?_
    exact wj_X6_minuteGoes_j175 (rr := rr) O   hret hf
def f_X6_minuteGoes  (s0 : StA) : Option (StA × Unit) :=
  bn (fl_X6_minuteGoes_l2  s0 0) (fun s8 e9 => (if (gi s8 0 18) = (-4) then fj_X6_minuteGoes_j103  s8 else gd 27 63 ((if (gi s8 0 19) = (gi s8 2 (27 : Int32).toNatClampNeg) then bn (f_X6_becomesOf (gi s8 0 18) 3 1 s8) (fun s36 r37 => fj_X6_minuteGoes_j103  s36) else fj_X6_minuteGoes_j103  s8))))
set_option maxHeartbeats 4000000 in
set_option maxRecDepth 100000 in
theorem k_X6_minuteGoes  {s0 zs : StA} {rr : Unit} (hf : f_X6_minuteGoes  s0 = some (zs, rr)) : CtV mM yX6_minuteGoes cX6_minuteGoes 3 rm_X6_minuteGoes (fun ph => [.ref (ph 0)]) s0 zs := by
  refine CtV.of (by decide +kernel) (fun ph => Nat.le_of_ble_eq_true rfl) (fun E O hret => ?_)
  have O : OK mM E RX6 cX6_minuteGoes 3 rm_X6_minuteGoes := O
  show WS mM E 3 0 [(0, rf E 0)] [] s0
  unfold f_X6_minuteGoes at hf
  refine s_iconst (v := 0) O dX6_minuteGoes_0 rfl ?_
  refine s_istore_n (lv' := [(1, .int 0), (0, rf E 0)]) O dX6_minuteGoes_1 rfl (by decide) rfl ?_
  refine s_loc [1, 0] rfl ?_
  obtain ⟨s8, e9, c10, hf⟩ := bn_e hf
  refine lp_of (body := fun s v => fb_X6_minuteGoes_l2  s v) (X := fun s v => WS mM E 3 2 [(0, rf E 0), (1, .int v)] [] s) (Y := fun s e => WS mM E 3 70 [(0, rf E 0)] [] s) (fun s v s' w hb Kc Ke => wb_X6_minuteGoes_l2 (rr := rr) O   hret Kc Ke hb) FU _ _ (s8, e9) c10 ?_
  show WS mM E 3 70 [(0, rf E 0)] [] s8
  refine s_aload_n O 0 dX6_minuteGoes_70 rfl rfl ?_
  refine s_getI O fg_RX6_149 ms_0 rfl dX6_minuteGoes_71 ?_
  refine s_bipush (v := (-4)) O dX6_minuteGoes_74 rfl ?_
  refine s_icmp_eq (tgt := 103) O dX6_minuteGoes_76 (by decide) (fun c => ?_) (fun c => ?_)
  · replace hf := if_t c hf
    exact wj_X6_minuteGoes_j103 (rr := rr) O   hret hf
  · replace hf := if_f c hf
    refine s_aload_n O 0 dX6_minuteGoes_79 rfl rfl ?_
    refine s_getI O fg_RX6_166 ms_0 rfl dX6_minuteGoes_80 ?_
    refine s_aload_n O 0 dX6_minuteGoes_83 rfl rfl ?_
    refine s_getR O fg_RX6_13 ms_0 rfl dX6_minuteGoes_84 ?_
    refine s_bipush (v := 27) O dX6_minuteGoes_87 rfl ?_
    obtain ⟨h35, hf⟩ := gd_e hf
    refine s_iald O ms_2 h35 dX6_minuteGoes_89 ?_
    refine s_icmp_ne (tgt := 103) O dX6_minuteGoes_90 (by decide) (fun c => ?_) (fun c => ?_)
    · replace hf := if_f c hf
      exact wj_X6_minuteGoes_j103 (rr := rr) O   hret hf
    · replace hf := if_t c hf
      refine s_aload_n O 0 dX6_minuteGoes_93 rfl rfl ?_
      refine s_aload_n O 0 dX6_minuteGoes_94 rfl rfl ?_
      refine s_getI O fg_RX6_149 ms_0 rfl dX6_minuteGoes_95 ?_
      refine s_iconst (v := 3) O dX6_minuteGoes_98 rfl ?_
      refine s_iconst (v := 1) O dX6_minuteGoes_99 rfl ?_
      obtain ⟨s36, r37, c38, hf⟩ := bn_e hf
      refine s_VV (As := [.int (gi s8 0 18), .int 3, .int 1]) (st := []) O lk_RX6_162 (k_X6_becomesOf c38) rfl ms_0 rfl rfl ⟨rfl, rfl⟩ ⟨Nat.le_of_ble_eq_true rfl, Nat.le_of_ble_eq_true rfl⟩ rfl (Nat.le_of_ble_eq_true rfl) dX6_minuteGoes_100 ?_
      exact wj_X6_minuteGoes_j103 (rr := rr) O   hret hf
def rm_X6_minutesGo : Room := { frames := 4, cells := 0, slots := 0, locals := 89 }
def fb_X6_minutesGo_l2 (a1 : Int32) (x1 : Int32) (s0 : StA) (v2 : Int32) : Option (StA × ((Int32) ⊕ (Unit))) :=
  (if x1 ≤ v2 then some (s0, .inr ()) else bn (f_X6_minuteGoes  s0) (fun s1 r2 => some (s1, .inl (v2 + 1))))
set_option maxHeartbeats 4000000 in
set_option maxRecDepth 100000 in
theorem wb_X6_minutesGo_l2 {E : XC} (O : OK mM E RX6 cX6_minutesGo 3 rm_X6_minutesGo) {a1 : Int32}  {x1 : Int32} {s0 : StA} {v2 : Int32} {zs : StA} {rr : Unit} (hret : ReV mM E cX6_minutesGo zs) {bs : StA} {bw : (Int32) ⊕ (Unit)} (Kc : ∀ v, bw = .inl v → WS mM E 3 2 [(0, rf E 0), (1, .int x1), (2, .int v)] [] bs) (Ke : ∀ e, bw = .inr e → WS mM E 3 17 [] [] bs) (hf : fb_X6_minutesGo_l2 a1 x1 s0 v2 = some (bs, bw)) : WS mM E 3 2 [(0, rf E 0), (1, .int x1), (2, .int v2)] [] s0 := by
  unfold fb_X6_minutesGo_l2 at hf
  refine s_iload_n O 2 dX6_minutesGo_2 rfl rfl ?_
  refine s_iload_n O 1 dX6_minutesGo_3 rfl rfl ?_
  refine s_icmp_ge (tgt := 17) O dX6_minutesGo_4 (by decide) (fun c => ?_) (fun c => ?_)
  · replace hf := if_t c hf
    refine s_loc [] rfl ?_
    cases hf
    exact Ke _ rfl
  · replace hf := if_f c hf
    refine s_aload_n O 0 dX6_minutesGo_7 rfl rfl ?_
    obtain ⟨s1, r2, c3, hf⟩ := bn_e hf
    refine s_VV (As := []) (st := []) O lk_RX6_172 (k_X6_minuteGoes c3) rfl ms_0 rfl rfl ⟨rfl, rfl⟩ ⟨Nat.le_of_ble_eq_true rfl, Nat.le_of_ble_eq_true rfl⟩ rfl (Nat.le_of_ble_eq_true rfl) dX6_minutesGo_8 ?_
    refine s_iinc (v := (v2 + 1)) (lv' := [(2, .int (v2 + 1)), (0, rf E 0), (1, .int x1)]) O 2 dX6_minutesGo_11 rfl rfl (by decide) rfl ?_
    refine s_goto (tgt := 2) O dX6_minutesGo_14 (by decide) ?_
    refine s_loc [1, 2, 0] rfl ?_
    cases hf
    exact Kc _ rfl
def fl_X6_minutesGo_l2 (a1 : Int32) (x1 : Int32) (s0 : StA) (v : Int32) : Option (StA × ((Unit))) :=
  it (fun s v => fb_X6_minutesGo_l2 a1 x1 s v) FU s0 v
def f_X6_minutesGo (a1 : Int32) (s0 : StA) : Option (StA × Unit) :=
  bn (fl_X6_minutesGo_l2 a1 a1 s0 0) (fun s4 e5 => some (s4, ()))
set_option maxHeartbeats 4000000 in
set_option maxRecDepth 100000 in
theorem k_X6_minutesGo {a1 : Int32} {s0 zs : StA} {rr : Unit} (hf : f_X6_minutesGo a1 s0 = some (zs, rr)) : CtV mM yX6_minutesGo cX6_minutesGo 3 rm_X6_minutesGo (fun ph => [.ref (ph 0), .int a1]) s0 zs := by
  refine CtV.of (by decide +kernel) (fun ph => Nat.le_of_ble_eq_true rfl) (fun E O hret => ?_)
  have O : OK mM E RX6 cX6_minutesGo 3 rm_X6_minutesGo := O
  show WS mM E 3 0 [(0, rf E 0), (1, .int a1)] [] s0
  unfold f_X6_minutesGo at hf
  refine s_iconst (v := 0) O dX6_minutesGo_0 rfl ?_
  refine s_istore_n (lv' := [(2, .int 0), (0, rf E 0), (1, .int a1)]) O dX6_minutesGo_1 rfl (by decide) rfl ?_
  refine s_loc [1, 2, 0] rfl ?_
  obtain ⟨s4, e5, c6, hf⟩ := bn_e hf
  refine lp_of (body := fun s v => fb_X6_minutesGo_l2 a1 a1 s v) (X := fun s v => WS mM E 3 2 [(0, rf E 0), (1, .int a1), (2, .int v)] [] s) (Y := fun s e => WS mM E 3 17 [] [] s) (fun s v s' w hb Kc Ke => wb_X6_minutesGo_l2 (rr := rr) O   hret Kc Ke hb) FU _ _ (s4, e5) c6 ?_
  show WS mM E 3 17 [] [] s4
  exact s_vret hret dX6_minutesGo_17 hf
def rm_X6_settles : Room := { frames := 0, cells := 0, slots := 0, locals := 0 }
def fb_X6_settles_l2   (s0 : StA) (v1 : Int32) : Option (StA × ((Int32) ⊕ (Unit))) :=
  (if 63 ≤ v1 then some (s0, .inr ()) else gd v1 63 (gd v1 189 (nms (si s0 1 v1.toNatClampNeg (gi s0 2 v1.toNatClampNeg)) (fun s3 => some (s3, .inl (v1 + 1))))))
set_option maxHeartbeats 4000000 in
set_option maxRecDepth 100000 in
theorem wb_X6_settles_l2 {E : XC} (O : OK mM E RX6 cX6_settles 2 rm_X6_settles)    {s0 : StA} {v1 : Int32} {zs : StA} {rr : Unit} (hret : ReV mM E cX6_settles zs) {bs : StA} {bw : (Int32) ⊕ (Unit)} (Kc : ∀ v, bw = .inl v → WS mM E 2 2 [(0, rf E 0), (1, .int v)] [] bs) (Ke : ∀ e, bw = .inr e → WS mM E 2 26 [] [] bs) (hf : fb_X6_settles_l2  s0 v1 = some (bs, bw)) : WS mM E 2 2 [(0, rf E 0), (1, .int v1)] [] s0 := by
  unfold fb_X6_settles_l2 at hf
  refine s_iload_n O 1 dX6_settles_2 rfl rfl ?_
  refine s_bipush (v := 63) O dX6_settles_3 rfl ?_
  refine s_icmp_ge (tgt := 26) O dX6_settles_5 (by decide) (fun c => ?_) (fun c => ?_)
  · replace hf := if_t c hf
    refine s_loc [] rfl ?_
    cases hf
    exact Ke _ rfl
  · replace hf := if_f c hf
    refine s_aload_n O 0 dX6_settles_8 rfl rfl ?_
    refine s_getR O fg_RX6_7 ms_0 rfl dX6_settles_9 ?_
    refine s_iload_n O 1 dX6_settles_12 rfl rfl ?_
    refine s_aload_n O 0 dX6_settles_13 rfl rfl ?_
    refine s_getR O fg_RX6_13 ms_0 rfl dX6_settles_14 ?_
    refine s_iload_n O 1 dX6_settles_17 rfl rfl ?_
    obtain ⟨h1, hf⟩ := gd_e hf
    refine s_iald O ms_2 h1 dX6_settles_18 ?_
    obtain ⟨h2, hf⟩ := gd_e hf
    refine s_iast O ms_1 h2 dX6_settles_19 ?_
    refine s_tops (fun s3 es3 => ?_)
    replace hf := nms_e es3 hf
    refine s_iinc (v := (v1 + 1)) (lv' := [(1, .int (v1 + 1)), (0, rf E 0)]) O 1 dX6_settles_20 rfl rfl (by decide) rfl ?_
    refine s_goto (tgt := 2) O dX6_settles_23 (by decide) ?_
    refine s_loc [1, 0] rfl ?_
    cases hf
    exact Kc _ rfl
def fl_X6_settles_l2   (s0 : StA) (v : Int32) : Option (StA × ((Unit))) :=
  it (fun s v => fb_X6_settles_l2  s v) FU s0 v
def f_X6_settles  (s0 : StA) : Option (StA × Unit) :=
  bn (fl_X6_settles_l2  s0 0) (fun s4 e5 => some (s4, ()))
set_option maxHeartbeats 4000000 in
set_option maxRecDepth 100000 in
theorem k_X6_settles  {s0 zs : StA} {rr : Unit} (hf : f_X6_settles  s0 = some (zs, rr)) : CtV mM yX6_settles cX6_settles 2 rm_X6_settles (fun ph => [.ref (ph 0)]) s0 zs := by
  refine CtV.of (by decide +kernel) (fun ph => Nat.le_of_ble_eq_true rfl) (fun E O hret => ?_)
  have O : OK mM E RX6 cX6_settles 2 rm_X6_settles := O
  show WS mM E 2 0 [(0, rf E 0)] [] s0
  unfold f_X6_settles at hf
  refine s_iconst (v := 0) O dX6_settles_0 rfl ?_
  refine s_istore_n (lv' := [(1, .int 0), (0, rf E 0)]) O dX6_settles_1 rfl (by decide) rfl ?_
  refine s_loc [1, 0] rfl ?_
  obtain ⟨s4, e5, c6, hf⟩ := bn_e hf
  refine lp_of (body := fun s v => fb_X6_settles_l2  s v) (X := fun s v => WS mM E 2 2 [(0, rf E 0), (1, .int v)] [] s) (Y := fun s e => WS mM E 2 26 [] [] s) (fun s v s' w hb Kc Ke => wb_X6_settles_l2 (rr := rr) O   hret Kc Ke hb) FU _ _ (s4, e5) c6 ?_
  show WS mM E 2 26 [] [] s4
  exact s_vret hret dX6_settles_26 hf
def rm_X6_minutes : Room := { frames := 5, cells := 0, slots := 0, locals := 111 }
def f_X6_minutes (a1 : Int32) (s0 : StA) : Option (StA × Int32) :=
  bn (f_X6_in a1.toInt64 0 30 s0) (fun s1 r2 => (if r2 = 0 then some (s1, (-1)) else gd 27 189 ((if ((gi s1 1 (27 : Int32).toNatClampNeg) + a1) ≤ 999 then bn (f_X6_starts  s1) (fun s5 r6 => bn (f_X6_minutesGo a1 s5) (fun s8 r9 => bn (f_X6_settles  s8) (fun s11 r12 => gd 24 189 (some (s11, (gi s11 1 (24 : Int32).toNatClampNeg)))))) else some (s1, (-3))))))
set_option maxHeartbeats 4000000 in
set_option maxRecDepth 100000 in
theorem k_X6_minutes {a1 : Int32} {s0 zs : StA} {rr : Int32} (hf : f_X6_minutes a1 s0 = some (zs, rr)) : CtI mM yX6_minutes cX6_minutes 2 .int rm_X6_minutes (fun ph => [.ref (ph 0), .int a1]) s0 zs rr := by
  refine CtI.of (by decide +kernel) (fun ph => Nat.le_of_ble_eq_true rfl) (fun E O hret => ?_)
  have O : OK mM E RX6 cX6_minutes 2 rm_X6_minutes := O
  show WS mM E 2 0 [(0, rf E 0), (1, .int a1)] [] s0
  unfold f_X6_minutes at hf
  refine s_iload_n O 1 dX6_minutes_0 rfl rfl ?_
  refine s_i2l O dX6_minutes_1 ?_
  refine s_lconst (v := 0) O dX6_minutes_2 rfl ?_
  refine s_ldc2 O cl_RX6_203 dX6_minutes_3 ?_
  obtain ⟨s1, r2, c3, hf⟩ := bn_e hf
  refine s_SI (As := [.long a1.toInt64, .long 0, .long 30]) (st := []) O lk_RX6_69 (k_X6_in c3) rfl rfl ⟨rfl, rfl⟩ ⟨Nat.le_of_ble_eq_true rfl, Nat.le_of_ble_eq_true rfl⟩ rfl (Nat.le_of_ble_eq_true rfl) dX6_minutes_6 ?_
  refine s_if_ne (tgt := 14) O dX6_minutes_9 (by decide) (fun c => ?_) (fun c => ?_)
  · replace hf := if_f c hf
    refine s_aload_n O 0 dX6_minutes_14 rfl rfl ?_
    refine s_getR O fg_RX6_7 ms_0 rfl dX6_minutes_15 ?_
    refine s_bipush (v := 27) O dX6_minutes_18 rfl ?_
    obtain ⟨h4, hf⟩ := gd_e hf
    refine s_iald O ms_1 h4 dX6_minutes_20 ?_
    refine s_iload_n O 1 dX6_minutes_21 rfl rfl ?_
    refine s_iadd O dX6_minutes_22 ?_
    refine s_sipush (v := 999) O dX6_minutes_23 rfl ?_
    refine s_icmp_le (tgt := 32) O dX6_minutes_26 (by decide) (fun c => ?_) (fun c => ?_)
    · replace hf := if_t c hf
      refine s_aload_n O 0 dX6_minutes_32 rfl rfl ?_
      obtain ⟨s5, r6, c7, hf⟩ := bn_e hf
      refine s_VV (As := []) (st := []) O lk_RX6_175 (k_X6_starts c7) rfl ms_0 rfl rfl ⟨rfl, rfl⟩ ⟨Nat.le_of_ble_eq_true rfl, Nat.le_of_ble_eq_true rfl⟩ rfl (Nat.le_of_ble_eq_true rfl) dX6_minutes_33 ?_
      refine s_aload_n O 0 dX6_minutes_36 rfl rfl ?_
      refine s_iload_n O 1 dX6_minutes_37 rfl rfl ?_
      obtain ⟨s8, r9, c10, hf⟩ := bn_e hf
      refine s_VV (As := [.int a1]) (st := []) O lk_RX6_205 (k_X6_minutesGo c10) rfl ms_0 rfl rfl ⟨rfl, rfl⟩ ⟨Nat.le_of_ble_eq_true rfl, Nat.le_of_ble_eq_true rfl⟩ rfl (Nat.le_of_ble_eq_true rfl) dX6_minutes_38 ?_
      refine s_aload_n O 0 dX6_minutes_41 rfl rfl ?_
      obtain ⟨s11, r12, c13, hf⟩ := bn_e hf
      refine s_VV (As := []) (st := []) O lk_RX6_208 (k_X6_settles c13) rfl ms_0 rfl rfl ⟨rfl, rfl⟩ ⟨Nat.le_of_ble_eq_true rfl, Nat.le_of_ble_eq_true rfl⟩ rfl (Nat.le_of_ble_eq_true rfl) dX6_minutes_42 ?_
      refine s_aload_n O 0 dX6_minutes_45 rfl rfl ?_
      refine s_getR O fg_RX6_7 ms_0 rfl dX6_minutes_46 ?_
      refine s_bipush (v := 24) O dX6_minutes_49 rfl ?_
      obtain ⟨h14, hf⟩ := gd_e hf
      refine s_iald O ms_1 h14 dX6_minutes_51 ?_
      exact s_iret hret rfl dX6_minutes_52 hf
    · replace hf := if_f c hf
      refine s_bipush (v := (-3)) O dX6_minutes_29 rfl ?_
      exact s_iret hret rfl dX6_minutes_31 hf
  · replace hf := if_t c hf
    refine s_iconst (v := (-1)) O dX6_minutes_12 rfl ?_
    exact s_iret hret rfl dX6_minutes_13 hf
def rm_X6_isFar : Room := { frames := 1, cells := 0, slots := 0, locals := 25 }
def f_X6_isFar (a0 : Int32) (s0 : StA) : Option (StA × Int32) :=
  bn (f_X6_in a0.toInt64 0 60 s0) (fun s1 r2 => gz r2 (some (s1, r2)))
set_option maxHeartbeats 4000000 in
set_option maxRecDepth 100000 in
theorem k_X6_isFar {a0 : Int32} {s0 zs : StA} {rr : Int32} (hf : f_X6_isFar a0 s0 = some (zs, rr)) : CtI mM yX6_isFar cX6_isFar 1 .boolean rm_X6_isFar (fun ph => [.int a0]) s0 zs rr := by
  refine CtI.of (by decide +kernel) (fun ph => Nat.le_of_ble_eq_true rfl) (fun E O hret => ?_)
  have O : OK mM E RX6 cX6_isFar 1 rm_X6_isFar := O
  show WS mM E 1 0 [(0, .int a0)] [] s0
  unfold f_X6_isFar at hf
  refine s_iload_n O 0 dX6_isFar_0 rfl rfl ?_
  refine s_i2l O dX6_isFar_1 ?_
  refine s_lconst (v := 0) O dX6_isFar_2 rfl ?_
  refine s_ldc2 O cl_RX6_211 dX6_isFar_3 ?_
  obtain ⟨s1, r2, c3, hf⟩ := bn_e hf
  refine s_SI (As := [.long a0.toInt64, .long 0, .long 60]) (st := []) O lk_RX6_69 (k_X6_in c3) rfl rfl ⟨rfl, rfl⟩ ⟨Nat.le_of_ble_eq_true rfl, Nat.le_of_ble_eq_true rfl⟩ rfl (Nat.le_of_ble_eq_true rfl) dX6_isFar_6 ?_
  obtain ⟨hz, hf⟩ := gz_e hf
  exact s_iret hret hz.nar dX6_isFar_9 hf
def rm_X6_flag : Room := { frames := 0, cells := 0, slots := 0, locals := 0 }
def f_X6_flag (a0 : Int32) (s0 : StA) : Option (StA × Int32) :=
  (if a0 = 0 then some (s0, 0) else some (s0, 1))
set_option maxHeartbeats 4000000 in
set_option maxRecDepth 100000 in
theorem k_X6_flag {a0 : Int32} {s0 zs : StA} {rr : Int32} (hf : f_X6_flag a0 s0 = some (zs, rr)) : CtI mM yX6_flag cX6_flag 1 .int rm_X6_flag (fun ph => [.int a0]) s0 zs rr := by
  refine CtI.of (by decide +kernel) (fun ph => Nat.le_of_ble_eq_true rfl) (fun E O hret => ?_)
  have O : OK mM E RX6 cX6_flag 1 rm_X6_flag := O
  show WS mM E 1 0 [(0, .int a0)] [] s0
  unfold f_X6_flag at hf
  refine s_iload_n O 0 dX6_flag_0 rfl rfl ?_
  refine s_if_eq (tgt := 8) O dX6_flag_1 (by decide) (fun c => ?_) (fun c => ?_)
  · replace hf := if_t c hf
    refine s_iconst (v := 0) O dX6_flag_8 rfl ?_
    exact s_iret hret rfl dX6_flag_9 hf
  · replace hf := if_f c hf
    refine s_iconst (v := 1) O dX6_flag_4 rfl ?_
    refine s_goto (tgt := 9) O dX6_flag_5 (by decide) ?_
    exact s_iret hret rfl dX6_flag_9 hf
def rm_X6_minutesCount : Room := { frames := 4, cells := 0, slots := 0, locals := 89 }
def fj_X6_minutesCount_j56 (a1 : Int32) (x1 : Int32) (j2 : Int32) (y0 : Int32) (s0 : StA) : Option (StA × ((Int32) ⊕ (Unit))) :=
  nms (si s0 0 20 y0) (fun s8 => gd 24 63 ((if (gi s8 2 (24 : Int32).toNatClampNeg) = 0 then bn (f_X6_flag 1 s8) (fun s14 r15 => nms (si s14 0 21 ((gi s8 0 21) + r15)) (fun s17 => some (s17, .inl (j2 + 1)))) else bn (f_X6_flag 0 s8) (fun s10 r11 => nms (si s10 0 21 ((gi s8 0 21) + r11)) (fun s13 => some (s13, .inl (j2 + 1)))))))
set_option maxHeartbeats 4000000 in
set_option maxRecDepth 100000 in
theorem wj_X6_minutesCount_j56 {E : XC} (O : OK mM E RX6 cX6_minutesCount 3 rm_X6_minutesCount) {a1 : Int32}  {x1 : Int32} {j2 : Int32} {y0 : Int32} {s0 : StA} {zs : StA} {rr : Unit} (hret : ReV mM E cX6_minutesCount zs) {bs : StA} {bw : (Int32) ⊕ (Unit)} (Kc : ∀ v, bw = .inl v → WS mM E 3 18 [(0, rf E 0), (1, .int x1), (2, .int v)] [] bs) (Ke : ∀ e, bw = .inr e → WS mM E 3 92 [] [] bs) (hf : fj_X6_minutesCount_j56 a1 x1 j2 y0 s0 = some (bs, bw)) : WS mM E 3 56 [(0, rf E 0), (1, .int x1), (2, .int j2)] [.int y0, rf E 0] s0 := by
  unfold fj_X6_minutesCount_j56 at hf
  refine s_putI O fp_RX6_213 ms_0 rfl dX6_minutesCount_56 ?_
  refine s_tops (fun s8 es8 => ?_)
  replace hf := nms_e es8 hf
  refine s_aload_n O 0 dX6_minutesCount_59 rfl rfl ?_
  refine s_dup O dX6_minutesCount_60 rfl ?_
  refine s_getI O fg_RX6_216 ms_0 rfl dX6_minutesCount_61 ?_
  refine s_aload_n O 0 dX6_minutesCount_64 rfl rfl ?_
  refine s_getR O fg_RX6_13 ms_0 rfl dX6_minutesCount_65 ?_
  refine s_bipush (v := 24) O dX6_minutesCount_68 rfl ?_
  obtain ⟨h9, hf⟩ := gd_e hf
  refine s_iald O ms_2 h9 dX6_minutesCount_70 ?_
  refine s_if_ne (tgt := 78) O dX6_minutesCount_71 (by decide) (fun c => ?_) (fun c => ?_)
  · replace hf := if_f c hf
    refine s_iconst (v := 0) O dX6_minutesCount_78 rfl ?_
    obtain ⟨s10, r11, c12, hf⟩ := bn_e hf
    refine s_SI (As := [.int 0]) (st := [.int (gi s8 0 21), rf E 0]) O lk_RX6_219 (k_X6_flag c12) rfl rfl ⟨rfl, rfl⟩ ⟨Nat.le_of_ble_eq_true rfl, Nat.le_of_ble_eq_true rfl⟩ rfl (Nat.le_of_ble_eq_true rfl) dX6_minutesCount_79 ?_
    refine s_iadd O dX6_minutesCount_82 ?_
    refine s_putI O fp_RX6_216 ms_0 rfl dX6_minutesCount_83 ?_
    refine s_tops (fun s13 es13 => ?_)
    replace hf := nms_e es13 hf
    refine s_iinc (v := (j2 + 1)) (lv' := [(2, .int (j2 + 1)), (0, rf E 0), (1, .int x1)]) O 2 dX6_minutesCount_86 rfl rfl (by decide) rfl ?_
    refine s_goto (tgt := 18) O dX6_minutesCount_89 (by decide) ?_
    refine s_loc [1, 2, 0] rfl ?_
    cases hf
    exact Kc _ rfl
  · replace hf := if_t c hf
    refine s_iconst (v := 1) O dX6_minutesCount_74 rfl ?_
    refine s_goto (tgt := 79) O dX6_minutesCount_75 (by decide) ?_
    obtain ⟨s14, r15, c16, hf⟩ := bn_e hf
    refine s_SI (As := [.int 1]) (st := [.int (gi s8 0 21), rf E 0]) O lk_RX6_219 (k_X6_flag c16) rfl rfl ⟨rfl, rfl⟩ ⟨Nat.le_of_ble_eq_true rfl, Nat.le_of_ble_eq_true rfl⟩ rfl (Nat.le_of_ble_eq_true rfl) dX6_minutesCount_79 ?_
    refine s_iadd O dX6_minutesCount_82 ?_
    refine s_putI O fp_RX6_216 ms_0 rfl dX6_minutesCount_83 ?_
    refine s_tops (fun s17 es17 => ?_)
    replace hf := nms_e es17 hf
    refine s_iinc (v := (j2 + 1)) (lv' := [(2, .int (j2 + 1)), (0, rf E 0), (1, .int x1)]) O 2 dX6_minutesCount_86 rfl rfl (by decide) rfl ?_
    refine s_goto (tgt := 18) O dX6_minutesCount_89 (by decide) ?_
    refine s_loc [1, 2, 0] rfl ?_
    cases hf
    exact Kc _ rfl
def fb_X6_minutesCount_l18 (a1 : Int32) (x1 : Int32) (s0 : StA) (v2 : Int32) : Option (StA × ((Int32) ⊕ (Unit))) :=
  (if x1 ≤ v2 then some (s0, .inr ()) else bn (f_X6_minuteGoes  s0) (fun s4 r5 => gd 24 63 ((if (gi s4 2 (24 : Int32).toNatClampNeg) ≤ (gi s4 0 20) then fj_X6_minutesCount_j56 a1 x1 v2 (gi s4 0 20) s4 else gd 24 63 (fj_X6_minutesCount_j56 a1 x1 v2 (gi s4 2 (24 : Int32).toNatClampNeg) s4)))))
set_option maxHeartbeats 4000000 in
set_option maxRecDepth 100000 in
theorem wb_X6_minutesCount_l18 {E : XC} (O : OK mM E RX6 cX6_minutesCount 3 rm_X6_minutesCount) {a1 : Int32}  {x1 : Int32} {s0 : StA} {v2 : Int32} {zs : StA} {rr : Unit} (hret : ReV mM E cX6_minutesCount zs) {bs : StA} {bw : (Int32) ⊕ (Unit)} (Kc : ∀ v, bw = .inl v → WS mM E 3 18 [(0, rf E 0), (1, .int x1), (2, .int v)] [] bs) (Ke : ∀ e, bw = .inr e → WS mM E 3 92 [] [] bs) (hf : fb_X6_minutesCount_l18 a1 x1 s0 v2 = some (bs, bw)) : WS mM E 3 18 [(0, rf E 0), (1, .int x1), (2, .int v2)] [] s0 := by
  unfold fb_X6_minutesCount_l18 at hf
  refine s_iload_n O 2 dX6_minutesCount_18 rfl rfl ?_
  refine s_iload_n O 1 dX6_minutesCount_19 rfl rfl ?_
  refine s_icmp_ge (tgt := 92) O dX6_minutesCount_20 (by decide) (fun c => ?_) (fun c => ?_)
  · replace hf := if_t c hf
    refine s_loc [] rfl ?_
    cases hf
    exact Ke _ rfl
  · replace hf := if_f c hf
    refine s_aload_n O 0 dX6_minutesCount_23 rfl rfl ?_
    obtain ⟨s4, r5, c6, hf⟩ := bn_e hf
    refine s_VV (As := []) (st := []) O lk_RX6_172 (k_X6_minuteGoes c6) rfl ms_0 rfl rfl ⟨rfl, rfl⟩ ⟨Nat.le_of_ble_eq_true rfl, Nat.le_of_ble_eq_true rfl⟩ rfl (Nat.le_of_ble_eq_true rfl) dX6_minutesCount_24 ?_
    refine s_aload_n O 0 dX6_minutesCount_27 rfl rfl ?_
    refine s_aload_n O 0 dX6_minutesCount_28 rfl rfl ?_
    refine s_getR O fg_RX6_13 ms_0 rfl dX6_minutesCount_29 ?_
    refine s_bipush (v := 24) O dX6_minutesCount_32 rfl ?_
    obtain ⟨h7, hf⟩ := gd_e hf
    refine s_iald O ms_2 h7 dX6_minutesCount_34 ?_
    refine s_aload_n O 0 dX6_minutesCount_35 rfl rfl ?_
    refine s_getI O fg_RX6_213 ms_0 rfl dX6_minutesCount_36 ?_
    refine s_icmp_le (tgt := 52) O dX6_minutesCount_39 (by decide) (fun c => ?_) (fun c => ?_)
    · replace hf := if_t c hf
      refine s_aload_n O 0 dX6_minutesCount_52 rfl rfl ?_
      refine s_getI O fg_RX6_213 ms_0 rfl dX6_minutesCount_53 ?_
      exact wj_X6_minutesCount_j56 (rr := rr) O   hret Kc Ke hf
    · replace hf := if_f c hf
      refine s_aload_n O 0 dX6_minutesCount_42 rfl rfl ?_
      refine s_getR O fg_RX6_13 ms_0 rfl dX6_minutesCount_43 ?_
      refine s_bipush (v := 24) O dX6_minutesCount_46 rfl ?_
      obtain ⟨h18, hf⟩ := gd_e hf
      refine s_iald O ms_2 h18 dX6_minutesCount_48 ?_
      refine s_goto (tgt := 56) O dX6_minutesCount_49 (by decide) ?_
      exact wj_X6_minutesCount_j56 (rr := rr) O   hret Kc Ke hf
def fl_X6_minutesCount_l18 (a1 : Int32) (x1 : Int32) (s0 : StA) (v : Int32) : Option (StA × ((Unit))) :=
  it (fun s v => fb_X6_minutesCount_l18 a1 x1 s v) FU s0 v
def f_X6_minutesCount (a1 : Int32) (s0 : StA) : Option (StA × Unit) :=
  gd 24 63 (nms (si s0 0 20 (gi s0 2 (24 : Int32).toNatClampNeg)) (fun s2 => nms (si s2 0 21 0) (fun s3 => bn (fl_X6_minutesCount_l18 a1 a1 s3 0) (fun s19 e20 => some (s19, ())))))
set_option maxHeartbeats 4000000 in
set_option maxRecDepth 100000 in
theorem k_X6_minutesCount {a1 : Int32} {s0 zs : StA} {rr : Unit} (hf : f_X6_minutesCount a1 s0 = some (zs, rr)) : CtV mM yX6_minutesCount cX6_minutesCount 3 rm_X6_minutesCount (fun ph => [.ref (ph 0), .int a1]) s0 zs := by
  refine CtV.of (by decide +kernel) (fun ph => Nat.le_of_ble_eq_true rfl) (fun E O hret => ?_)
  have O : OK mM E RX6 cX6_minutesCount 3 rm_X6_minutesCount := O
  show WS mM E 3 0 [(0, rf E 0), (1, .int a1)] [] s0
  unfold f_X6_minutesCount at hf
  refine s_aload_n O 0 dX6_minutesCount_0 rfl rfl ?_
  refine s_aload_n O 0 dX6_minutesCount_1 rfl rfl ?_
  refine s_getR O fg_RX6_13 ms_0 rfl dX6_minutesCount_2 ?_
  refine s_bipush (v := 24) O dX6_minutesCount_5 rfl ?_
  obtain ⟨h1, hf⟩ := gd_e hf
  refine s_iald O ms_2 h1 dX6_minutesCount_7 ?_
  refine s_putI O fp_RX6_213 ms_0 rfl dX6_minutesCount_8 ?_
  refine s_tops (fun s2 es2 => ?_)
  replace hf := nms_e es2 hf
  refine s_aload_n O 0 dX6_minutesCount_11 rfl rfl ?_
  refine s_iconst (v := 0) O dX6_minutesCount_12 rfl ?_
  refine s_putI O fp_RX6_216 ms_0 rfl dX6_minutesCount_13 ?_
  refine s_tops (fun s3 es3 => ?_)
  replace hf := nms_e es3 hf
  refine s_iconst (v := 0) O dX6_minutesCount_16 rfl ?_
  refine s_istore_n (lv' := [(2, .int 0), (0, rf E 0), (1, .int a1)]) O dX6_minutesCount_17 rfl (by decide) rfl ?_
  refine s_loc [1, 2, 0] rfl ?_
  obtain ⟨s19, e20, c21, hf⟩ := bn_e hf
  refine lp_of (body := fun s v => fb_X6_minutesCount_l18 a1 a1 s v) (X := fun s v => WS mM E 3 18 [(0, rf E 0), (1, .int a1), (2, .int v)] [] s) (Y := fun s e => WS mM E 3 92 [] [] s) (fun s v s' w hb Kc Ke => wb_X6_minutesCount_l18 (rr := rr) O   hret Kc Ke hb) FU _ _ (s19, e20) c21 ?_
  show WS mM E 3 92 [] [] s19
  exact s_vret hret dX6_minutesCount_92 hf
def rm_X6_runs : Room := { frames := 5, cells := 0, slots := 0, locals := 111 }
def f_X6_runs (a1 : Int32) (a2 : Int32) (s0 : StA) : Option (StA × Int32) :=
  bn (f_X6_isFar a1 s0) (fun s1 r2 => (if r2 = 0 then some (s1, (-1)) else bn (f_X6_in a2.toInt64 0 4 s1) (fun s4 r5 => (if r5 = 0 then some (s4, (-1)) else bn (f_X6_starts  s4) (fun s7 r8 => bn (f_X6_minutesCount a1 s7) (fun s10 r11 => (if a2 = 0 then gd 24 63 (some (s10, (gi s10 2 (24 : Int32).toNatClampNeg))) else if a2 = 1 then gd 25 63 (some (s10, (gi s10 2 (25 : Int32).toNatClampNeg))) else if a2 = 2 then some (s10, (gi s10 0 20)) else if a2 = 3 then some (s10, (gi s10 0 21)) else bn (f_X6_saidNow  s10) (fun s15 r16 => some (s15, r16)))))))))
set_option maxHeartbeats 4000000 in
set_option maxRecDepth 100000 in
theorem k_X6_runs {a1 : Int32} {a2 : Int32} {s0 zs : StA} {rr : Int32} (hf : f_X6_runs a1 a2 s0 = some (zs, rr)) : CtI mM yX6_runs cX6_runs 3 .int rm_X6_runs (fun ph => [.ref (ph 0), .int a1, .int a2]) s0 zs rr := by
  refine CtI.of (by decide +kernel) (fun ph => Nat.le_of_ble_eq_true rfl) (fun E O hret => ?_)
  have O : OK mM E RX6 cX6_runs 3 rm_X6_runs := O
  show WS mM E 3 0 [(0, rf E 0), (1, .int a1), (2, .int a2)] [] s0
  unfold f_X6_runs at hf
  refine s_iload_n O 1 dX6_runs_0 rfl rfl ?_
  obtain ⟨s1, r2, c3, hf⟩ := bn_e hf
  refine s_SI (As := [.int a1]) (st := []) O lk_RX6_223 (k_X6_isFar c3) rfl rfl ⟨rfl, rfl⟩ ⟨Nat.le_of_ble_eq_true rfl, Nat.le_of_ble_eq_true rfl⟩ rfl (Nat.le_of_ble_eq_true rfl) dX6_runs_1 ?_
  refine s_if_eq (tgt := 19) O dX6_runs_4 (by decide) (fun c => ?_) (fun c => ?_)
  · replace hf := if_t c hf
    refine s_iconst (v := (-1)) O dX6_runs_19 rfl ?_
    exact s_iret hret rfl dX6_runs_20 hf
  · replace hf := if_f c hf
    refine s_iload_n O 2 dX6_runs_7 rfl rfl ?_
    refine s_i2l O dX6_runs_8 ?_
    refine s_lconst (v := 0) O dX6_runs_9 rfl ?_
    refine s_ldc2 O cl_RX6_142 dX6_runs_10 ?_
    obtain ⟨s4, r5, c6, hf⟩ := bn_e hf
    refine s_SI (As := [.long a2.toInt64, .long 0, .long 4]) (st := []) O lk_RX6_69 (k_X6_in c6) rfl rfl ⟨rfl, rfl⟩ ⟨Nat.le_of_ble_eq_true rfl, Nat.le_of_ble_eq_true rfl⟩ rfl (Nat.le_of_ble_eq_true rfl) dX6_runs_13 ?_
    refine s_if_ne (tgt := 21) O dX6_runs_16 (by decide) (fun c => ?_) (fun c => ?_)
    · replace hf := if_f c hf
      refine s_aload_n O 0 dX6_runs_21 rfl rfl ?_
      obtain ⟨s7, r8, c9, hf⟩ := bn_e hf
      refine s_VV (As := []) (st := []) O lk_RX6_175 (k_X6_starts c9) rfl ms_0 rfl rfl ⟨rfl, rfl⟩ ⟨Nat.le_of_ble_eq_true rfl, Nat.le_of_ble_eq_true rfl⟩ rfl (Nat.le_of_ble_eq_true rfl) dX6_runs_22 ?_
      refine s_aload_n O 0 dX6_runs_25 rfl rfl ?_
      refine s_iload_n O 1 dX6_runs_26 rfl rfl ?_
      obtain ⟨s10, r11, c12, hf⟩ := bn_e hf
      refine s_VV (As := [.int a1]) (st := []) O lk_RX6_226 (k_X6_minutesCount c12) rfl ms_0 rfl rfl ⟨rfl, rfl⟩ ⟨Nat.le_of_ble_eq_true rfl, Nat.le_of_ble_eq_true rfl⟩ rfl (Nat.le_of_ble_eq_true rfl) dX6_runs_27 ?_
      refine s_iload_n O 2 dX6_runs_30 rfl rfl ?_
      by_cases q0 : a2 = 0
      · replace hf := if_t q0 hf
        refine s_tabE (v := 0) (tgt := 60) O dX6_runs_31 q0 (by decide) (by decide) rfl (by decide) ?_
        refine s_aload_n O 0 dX6_runs_60 rfl rfl ?_
        refine s_getR O fg_RX6_13 ms_0 rfl dX6_runs_61 ?_
        refine s_bipush (v := 24) O dX6_runs_64 rfl ?_
        obtain ⟨h13, hf⟩ := gd_e hf
        refine s_iald O ms_2 h13 dX6_runs_66 ?_
        exact s_iret hret rfl dX6_runs_67 hf
      · replace hf := if_f q0 hf
        by_cases q1 : a2 = 1
        · replace hf := if_t q1 hf
          refine s_tabE (v := 1) (tgt := 68) O dX6_runs_31 q1 (by decide) (by decide) rfl (by decide) ?_
          refine s_aload_n O 0 dX6_runs_68 rfl rfl ?_
          refine s_getR O fg_RX6_13 ms_0 rfl dX6_runs_69 ?_
          refine s_bipush (v := 25) O dX6_runs_72 rfl ?_
          obtain ⟨h14, hf⟩ := gd_e hf
          refine s_iald O ms_2 h14 dX6_runs_74 ?_
          exact s_iret hret rfl dX6_runs_75 hf
        · replace hf := if_f q1 hf
          by_cases q2 : a2 = 2
          · replace hf := if_t q2 hf
            refine s_tabE (v := 2) (tgt := 76) O dX6_runs_31 q2 (by decide) (by decide) rfl (by decide) ?_
            refine s_aload_n O 0 dX6_runs_76 rfl rfl ?_
            refine s_getI O fg_RX6_213 ms_0 rfl dX6_runs_77 ?_
            exact s_iret hret rfl dX6_runs_80 hf
          · replace hf := if_f q2 hf
            by_cases q3 : a2 = 3
            · replace hf := if_t q3 hf
              refine s_tabE (v := 3) (tgt := 81) O dX6_runs_31 q3 (by decide) (by decide) rfl (by decide) ?_
              refine s_aload_n O 0 dX6_runs_81 rfl rfl ?_
              refine s_getI O fg_RX6_216 ms_0 rfl dX6_runs_82 ?_
              exact s_iret hret rfl dX6_runs_85 hf
            · replace hf := if_f q3 hf
              have z0 := lv_neT q0 (a := 0) rfl
              have z1 := lv_neT q1 (a := 1) rfl
              have z2 := lv_neT q2 (a := 2) rfl
              have z3 := lv_neT q3 (a := 3) rfl
              refine s_tabO (tgt := 86) O dX6_runs_31 (by omega) (by decide) ?_
              refine s_aload_n O 0 dX6_runs_86 rfl rfl ?_
              obtain ⟨s15, r16, c17, hf⟩ := bn_e hf
              refine s_VI (As := []) (st := []) O lk_RX6_178 (k_X6_saidNow c17) rfl ms_0 rfl rfl ⟨rfl, rfl⟩ ⟨Nat.le_of_ble_eq_true rfl, Nat.le_of_ble_eq_true rfl⟩ rfl (Nat.le_of_ble_eq_true rfl) dX6_runs_87 ?_
              exact s_iret hret rfl dX6_runs_90 hf
    · replace hf := if_t c hf
      refine s_iconst (v := (-1)) O dX6_runs_19 rfl ?_
      exact s_iret hret rfl dX6_runs_20 hf
def rm_X6_minutesDown : Room := { frames := 4, cells := 0, slots := 0, locals := 89 }
def fb_X6_minutesDown_l2   (s0 : StA) (v1 : Int32) : Option (StA × ((Int32) ⊕ ((Unit) ⊕ Int32))) :=
  (if 60 < v1 then some (s0, .inr (.inl ())) else bn (f_X6_minuteGoes  s0) (fun s1 r2 => gd 24 63 ((if (gi s1 2 (24 : Int32).toNatClampNeg) = 0 then some (s1, .inr (.inr v1)) else some (s1, .inl (v1 + 1))))))
set_option maxHeartbeats 4000000 in
set_option maxRecDepth 100000 in
theorem wb_X6_minutesDown_l2 {E : XC} (O : OK mM E RX6 cX6_minutesDown 2 rm_X6_minutesDown)    {s0 : StA} {v1 : Int32} {zs : StA} {rr : Int32} (hret : ReI mM E .int cX6_minutesDown zs rr) {bs : StA} {bw : (Int32) ⊕ ((Unit) ⊕ Int32)} (Kc : ∀ v, bw = .inl v → WS mM E 2 2 [(0, rf E 0), (1, .int v)] [] bs) (Ke : ∀ e, bw = .inr (.inl e) → WS mM E 2 30 [] [] bs) (Kr : ∀ r, bw = .inr (.inr r) → some (bs, r) = some (zs, rr)) (hf : fb_X6_minutesDown_l2  s0 v1 = some (bs, bw)) : WS mM E 2 2 [(0, rf E 0), (1, .int v1)] [] s0 := by
  unfold fb_X6_minutesDown_l2 at hf
  refine s_iload_n O 1 dX6_minutesDown_2 rfl rfl ?_
  refine s_bipush (v := 60) O dX6_minutesDown_3 rfl ?_
  refine s_icmp_gt (tgt := 30) O dX6_minutesDown_5 (by decide) (fun c => ?_) (fun c => ?_)
  · replace hf := if_t c hf
    refine s_loc [] rfl ?_
    cases hf
    exact Ke _ rfl
  · replace hf := if_f c hf
    refine s_aload_n O 0 dX6_minutesDown_8 rfl rfl ?_
    obtain ⟨s1, r2, c3, hf⟩ := bn_e hf
    refine s_VV (As := []) (st := []) O lk_RX6_172 (k_X6_minuteGoes c3) rfl ms_0 rfl rfl ⟨rfl, rfl⟩ ⟨Nat.le_of_ble_eq_true rfl, Nat.le_of_ble_eq_true rfl⟩ rfl (Nat.le_of_ble_eq_true rfl) dX6_minutesDown_9 ?_
    refine s_aload_n O 0 dX6_minutesDown_12 rfl rfl ?_
    refine s_getR O fg_RX6_13 ms_0 rfl dX6_minutesDown_13 ?_
    refine s_bipush (v := 24) O dX6_minutesDown_16 rfl ?_
    obtain ⟨h4, hf⟩ := gd_e hf
    refine s_iald O ms_2 h4 dX6_minutesDown_18 ?_
    refine s_if_ne (tgt := 24) O dX6_minutesDown_19 (by decide) (fun c => ?_) (fun c => ?_)
    · replace hf := if_f c hf
      refine s_iinc (v := (v1 + 1)) (lv' := [(1, .int (v1 + 1)), (0, rf E 0)]) O 1 dX6_minutesDown_24 rfl rfl (by decide) rfl ?_
      refine s_goto (tgt := 2) O dX6_minutesDown_27 (by decide) ?_
      refine s_loc [1, 0] rfl ?_
      cases hf
      exact Kc _ rfl
    · replace hf := if_t c hf
      refine s_iload_n O 1 dX6_minutesDown_22 rfl rfl ?_
      cases hf
      exact s_iret hret rfl dX6_minutesDown_23 (Kr _ rfl)
def fl_X6_minutesDown_l2   (s0 : StA) (v : Int32) : Option (StA × (((Unit) ⊕ Int32))) :=
  it (fun s v => fb_X6_minutesDown_l2  s v) FU s0 v
def f_X6_minutesDown  (s0 : StA) : Option (StA × Int32) :=
  bn (fl_X6_minutesDown_l2  s0 1) (fun s5 e6 => match e6 with | .inl _ => some (s5, (-4)) | .inr q2 => some (s5, q2))
set_option maxHeartbeats 4000000 in
set_option maxRecDepth 100000 in
theorem k_X6_minutesDown  {s0 zs : StA} {rr : Int32} (hf : f_X6_minutesDown  s0 = some (zs, rr)) : CtI mM yX6_minutesDown cX6_minutesDown 2 .int rm_X6_minutesDown (fun ph => [.ref (ph 0)]) s0 zs rr := by
  refine CtI.of (by decide +kernel) (fun ph => Nat.le_of_ble_eq_true rfl) (fun E O hret => ?_)
  have O : OK mM E RX6 cX6_minutesDown 2 rm_X6_minutesDown := O
  show WS mM E 2 0 [(0, rf E 0)] [] s0
  unfold f_X6_minutesDown at hf
  refine s_iconst (v := 1) O dX6_minutesDown_0 rfl ?_
  refine s_istore_n (lv' := [(1, .int 1), (0, rf E 0)]) O dX6_minutesDown_1 rfl (by decide) rfl ?_
  refine s_loc [1, 0] rfl ?_
  obtain ⟨s5, e6, c7, hf⟩ := bn_e hf
  refine lp_of (body := fun s v => fb_X6_minutesDown_l2  s v) (X := fun s v => WS mM E 2 2 [(0, rf E 0), (1, .int v)] [] s) (Y := fun s e => match e with | .inl e => WS mM E 2 30 [] [] s | .inr r => some (s, r) = some (zs, rr)) (fun s v s' w hb Kc Ke => wb_X6_minutesDown_l2 (rr := rr) O   hret Kc (fun e he => Ke (.inl e) he) (fun r he => Ke (.inr r) he) hb) FU _ _ (s5, e6) c7 ?_
  rcases e6 with e6 | q2
  · show WS mM E 2 30 [] [] s5
    refine s_bipush (v := (-4)) O dX6_minutesDown_30 rfl ?_
    exact s_iret hret rfl dX6_minutesDown_32 hf
  · exact hf
def rm_X6_falls : Room := { frames := 5, cells := 0, slots := 0, locals := 110 }
def f_X6_falls  (s0 : StA) : Option (StA × Int32) :=
  bn (f_X6_starts  s0) (fun s1 r2 => bn (f_X6_minutesDown  s1) (fun s4 r5 => some (s4, r5)))
set_option maxHeartbeats 4000000 in
set_option maxRecDepth 100000 in
theorem k_X6_falls  {s0 zs : StA} {rr : Int32} (hf : f_X6_falls  s0 = some (zs, rr)) : CtI mM yX6_falls cX6_falls 1 .int rm_X6_falls (fun ph => [.ref (ph 0)]) s0 zs rr := by
  refine CtI.of (by decide +kernel) (fun ph => Nat.le_of_ble_eq_true rfl) (fun E O hret => ?_)
  have O : OK mM E RX6 cX6_falls 1 rm_X6_falls := O
  show WS mM E 1 0 [(0, rf E 0)] [] s0
  unfold f_X6_falls at hf
  refine s_aload_n O 0 dX6_falls_0 rfl rfl ?_
  obtain ⟨s1, r2, c3, hf⟩ := bn_e hf
  refine s_VV (As := []) (st := []) O lk_RX6_175 (k_X6_starts c3) rfl ms_0 rfl rfl ⟨rfl, rfl⟩ ⟨Nat.le_of_ble_eq_true rfl, Nat.le_of_ble_eq_true rfl⟩ rfl (Nat.le_of_ble_eq_true rfl) dX6_falls_1 ?_
  refine s_aload_n O 0 dX6_falls_4 rfl rfl ?_
  obtain ⟨s4, r5, c6, hf⟩ := bn_e hf
  refine s_VI (As := []) (st := []) O lk_RX6_229 (k_X6_minutesDown c6) rfl ms_0 rfl rfl ⟨rfl, rfl⟩ ⟨Nat.le_of_ble_eq_true rfl, Nat.le_of_ble_eq_true rfl⟩ rfl (Nat.le_of_ble_eq_true rfl) dX6_falls_5 ?_
  exact s_iret hret rfl dX6_falls_8 hf
def rm_X6_isPlace : Room := { frames := 1, cells := 0, slots := 0, locals := 25 }
def f_X6_isPlace (a0 : Int32) (s0 : StA) : Option (StA × Int32) :=
  bn (f_X6_in a0.toInt64 0 99 s0) (fun s1 r2 => gz r2 (some (s1, r2)))
set_option maxHeartbeats 4000000 in
set_option maxRecDepth 100000 in
theorem k_X6_isPlace {a0 : Int32} {s0 zs : StA} {rr : Int32} (hf : f_X6_isPlace a0 s0 = some (zs, rr)) : CtI mM yX6_isPlace cX6_isPlace 1 .boolean rm_X6_isPlace (fun ph => [.int a0]) s0 zs rr := by
  refine CtI.of (by decide +kernel) (fun ph => Nat.le_of_ble_eq_true rfl) (fun E O hret => ?_)
  have O : OK mM E RX6 cX6_isPlace 1 rm_X6_isPlace := O
  show WS mM E 1 0 [(0, .int a0)] [] s0
  unfold f_X6_isPlace at hf
  refine s_iload_n O 0 dX6_isPlace_0 rfl rfl ?_
  refine s_i2l O dX6_isPlace_1 ?_
  refine s_lconst (v := 0) O dX6_isPlace_2 rfl ?_
  refine s_ldc2 O cl_RX6_144 dX6_isPlace_3 ?_
  obtain ⟨s1, r2, c3, hf⟩ := bn_e hf
  refine s_SI (As := [.long a0.toInt64, .long 0, .long 99]) (st := []) O lk_RX6_69 (k_X6_in c3) rfl rfl ⟨rfl, rfl⟩ ⟨Nat.le_of_ble_eq_true rfl, Nat.le_of_ble_eq_true rfl⟩ rfl (Nat.le_of_ble_eq_true rfl) dX6_isPlace_6 ?_
  obtain ⟨hz, hf⟩ := gz_e hf
  exact s_iret hret hz.nar dX6_isPlace_9 hf
def rm_X6_minutesTo : Room := { frames := 4, cells := 0, slots := 0, locals := 89 }
def fb_X6_minutesTo_l2 (a1 : Int32) (x1 : Int32) (s0 : StA) (v2 : Int32) : Option (StA × ((Int32) ⊕ ((Unit) ⊕ Int32))) :=
  (if 60 < v2 then some (s0, .inr (.inl ())) else gd 24 63 ((if (gi s0 2 (24 : Int32).toNatClampNeg) = 0 then gd 25 63 ((if (gi s0 2 (25 : Int32).toNatClampNeg) = x1 then some (s0, .inr (.inr v2)) else bn (f_X6_minuteGoes  s0) (fun s6 r7 => some (s6, .inl (v2 + 1))))) else bn (f_X6_minuteGoes  s0) (fun s2 r3 => some (s2, .inl (v2 + 1))))))
set_option maxHeartbeats 4000000 in
set_option maxRecDepth 100000 in
theorem wb_X6_minutesTo_l2 {E : XC} (O : OK mM E RX6 cX6_minutesTo 3 rm_X6_minutesTo) {a1 : Int32}  {x1 : Int32} {s0 : StA} {v2 : Int32} {zs : StA} {rr : Int32} (hret : ReI mM E .int cX6_minutesTo zs rr) {bs : StA} {bw : (Int32) ⊕ ((Unit) ⊕ Int32)} (Kc : ∀ v, bw = .inl v → WS mM E 3 2 [(0, rf E 0), (1, .int x1), (2, .int v)] [] bs) (Ke : ∀ e, bw = .inr (.inl e) → WS mM E 3 41 [] [] bs) (Kr : ∀ r, bw = .inr (.inr r) → some (bs, r) = some (zs, rr)) (hf : fb_X6_minutesTo_l2 a1 x1 s0 v2 = some (bs, bw)) : WS mM E 3 2 [(0, rf E 0), (1, .int x1), (2, .int v2)] [] s0 := by
  unfold fb_X6_minutesTo_l2 at hf
  refine s_iload_n O 2 dX6_minutesTo_2 rfl rfl ?_
  refine s_bipush (v := 60) O dX6_minutesTo_3 rfl ?_
  refine s_icmp_gt (tgt := 41) O dX6_minutesTo_5 (by decide) (fun c => ?_) (fun c => ?_)
  · replace hf := if_t c hf
    refine s_loc [] rfl ?_
    cases hf
    exact Ke _ rfl
  · replace hf := if_f c hf
    refine s_aload_n O 0 dX6_minutesTo_8 rfl rfl ?_
    refine s_getR O fg_RX6_13 ms_0 rfl dX6_minutesTo_9 ?_
    refine s_bipush (v := 24) O dX6_minutesTo_12 rfl ?_
    obtain ⟨h1, hf⟩ := gd_e hf
    refine s_iald O ms_2 h1 dX6_minutesTo_14 ?_
    refine s_if_ne (tgt := 31) O dX6_minutesTo_15 (by decide) (fun c => ?_) (fun c => ?_)
    · replace hf := if_f c hf
      refine s_aload_n O 0 dX6_minutesTo_31 rfl rfl ?_
      obtain ⟨s2, r3, c4, hf⟩ := bn_e hf
      refine s_VV (As := []) (st := []) O lk_RX6_172 (k_X6_minuteGoes c4) rfl ms_0 rfl rfl ⟨rfl, rfl⟩ ⟨Nat.le_of_ble_eq_true rfl, Nat.le_of_ble_eq_true rfl⟩ rfl (Nat.le_of_ble_eq_true rfl) dX6_minutesTo_32 ?_
      refine s_iinc (v := (v2 + 1)) (lv' := [(2, .int (v2 + 1)), (0, rf E 0), (1, .int x1)]) O 2 dX6_minutesTo_35 rfl rfl (by decide) rfl ?_
      refine s_goto (tgt := 2) O dX6_minutesTo_38 (by decide) ?_
      refine s_loc [1, 2, 0] rfl ?_
      cases hf
      exact Kc _ rfl
    · replace hf := if_t c hf
      refine s_aload_n O 0 dX6_minutesTo_18 rfl rfl ?_
      refine s_getR O fg_RX6_13 ms_0 rfl dX6_minutesTo_19 ?_
      refine s_bipush (v := 25) O dX6_minutesTo_22 rfl ?_
      obtain ⟨h5, hf⟩ := gd_e hf
      refine s_iald O ms_2 h5 dX6_minutesTo_24 ?_
      refine s_iload_n O 1 dX6_minutesTo_25 rfl rfl ?_
      refine s_icmp_ne (tgt := 31) O dX6_minutesTo_26 (by decide) (fun c => ?_) (fun c => ?_)
      · replace hf := if_f c hf
        refine s_aload_n O 0 dX6_minutesTo_31 rfl rfl ?_
        obtain ⟨s6, r7, c8, hf⟩ := bn_e hf
        refine s_VV (As := []) (st := []) O lk_RX6_172 (k_X6_minuteGoes c8) rfl ms_0 rfl rfl ⟨rfl, rfl⟩ ⟨Nat.le_of_ble_eq_true rfl, Nat.le_of_ble_eq_true rfl⟩ rfl (Nat.le_of_ble_eq_true rfl) dX6_minutesTo_32 ?_
        refine s_iinc (v := (v2 + 1)) (lv' := [(2, .int (v2 + 1)), (0, rf E 0), (1, .int x1)]) O 2 dX6_minutesTo_35 rfl rfl (by decide) rfl ?_
        refine s_goto (tgt := 2) O dX6_minutesTo_38 (by decide) ?_
        refine s_loc [1, 2, 0] rfl ?_
        cases hf
        exact Kc _ rfl
      · replace hf := if_t c hf
        refine s_iload_n O 2 dX6_minutesTo_29 rfl rfl ?_
        cases hf
        exact s_iret hret rfl dX6_minutesTo_30 (Kr _ rfl)
def fl_X6_minutesTo_l2 (a1 : Int32) (x1 : Int32) (s0 : StA) (v : Int32) : Option (StA × (((Unit) ⊕ Int32))) :=
  it (fun s v => fb_X6_minutesTo_l2 a1 x1 s v) FU s0 v
def f_X6_minutesTo (a1 : Int32) (s0 : StA) : Option (StA × Int32) :=
  bn (fl_X6_minutesTo_l2 a1 a1 s0 0) (fun s9 e10 => match e10 with | .inl _ => some (s9, (-4)) | .inr q2 => some (s9, q2))
set_option maxHeartbeats 4000000 in
set_option maxRecDepth 100000 in
theorem k_X6_minutesTo {a1 : Int32} {s0 zs : StA} {rr : Int32} (hf : f_X6_minutesTo a1 s0 = some (zs, rr)) : CtI mM yX6_minutesTo cX6_minutesTo 3 .int rm_X6_minutesTo (fun ph => [.ref (ph 0), .int a1]) s0 zs rr := by
  refine CtI.of (by decide +kernel) (fun ph => Nat.le_of_ble_eq_true rfl) (fun E O hret => ?_)
  have O : OK mM E RX6 cX6_minutesTo 3 rm_X6_minutesTo := O
  show WS mM E 3 0 [(0, rf E 0), (1, .int a1)] [] s0
  unfold f_X6_minutesTo at hf
  refine s_iconst (v := 0) O dX6_minutesTo_0 rfl ?_
  refine s_istore_n (lv' := [(2, .int 0), (0, rf E 0), (1, .int a1)]) O dX6_minutesTo_1 rfl (by decide) rfl ?_
  refine s_loc [1, 2, 0] rfl ?_
  obtain ⟨s9, e10, c11, hf⟩ := bn_e hf
  refine lp_of (body := fun s v => fb_X6_minutesTo_l2 a1 a1 s v) (X := fun s v => WS mM E 3 2 [(0, rf E 0), (1, .int a1), (2, .int v)] [] s) (Y := fun s e => match e with | .inl e => WS mM E 3 41 [] [] s | .inr r => some (s, r) = some (zs, rr)) (fun s v s' w hb Kc Ke => wb_X6_minutesTo_l2 (rr := rr) O   hret Kc (fun e he => Ke (.inl e) he) (fun r he => Ke (.inr r) he) hb) FU _ _ (s9, e10) c11 ?_
  rcases e10 with e10 | q2
  · show WS mM E 3 41 [] [] s9
    refine s_bipush (v := (-4)) O dX6_minutesTo_41 rfl ?_
    exact s_iret hret rfl dX6_minutesTo_43 hf
  · exact hf
def rm_X6_church : Room := { frames := 5, cells := 0, slots := 0, locals := 111 }
def f_X6_church (a1 : Int32) (s0 : StA) : Option (StA × Int32) :=
  bn (f_X6_isPlace a1 s0) (fun s1 r2 => (if r2 = 0 then some (s1, (-1)) else bn (f_X6_starts  s1) (fun s4 r5 => bn (f_X6_minutesTo a1 s4) (fun s7 r8 => some (s7, r8)))))
set_option maxHeartbeats 4000000 in
set_option maxRecDepth 100000 in
theorem k_X6_church {a1 : Int32} {s0 zs : StA} {rr : Int32} (hf : f_X6_church a1 s0 = some (zs, rr)) : CtI mM yX6_church cX6_church 2 .int rm_X6_church (fun ph => [.ref (ph 0), .int a1]) s0 zs rr := by
  refine CtI.of (by decide +kernel) (fun ph => Nat.le_of_ble_eq_true rfl) (fun E O hret => ?_)
  have O : OK mM E RX6 cX6_church 2 rm_X6_church := O
  show WS mM E 2 0 [(0, rf E 0), (1, .int a1)] [] s0
  unfold f_X6_church at hf
  refine s_iload_n O 1 dX6_church_0 rfl rfl ?_
  obtain ⟨s1, r2, c3, hf⟩ := bn_e hf
  refine s_SI (As := [.int a1]) (st := []) O lk_RX6_232 (k_X6_isPlace c3) rfl rfl ⟨rfl, rfl⟩ ⟨Nat.le_of_ble_eq_true rfl, Nat.le_of_ble_eq_true rfl⟩ rfl (Nat.le_of_ble_eq_true rfl) dX6_church_1 ?_
  refine s_if_ne (tgt := 9) O dX6_church_4 (by decide) (fun c => ?_) (fun c => ?_)
  · replace hf := if_f c hf
    refine s_aload_n O 0 dX6_church_9 rfl rfl ?_
    obtain ⟨s4, r5, c6, hf⟩ := bn_e hf
    refine s_VV (As := []) (st := []) O lk_RX6_175 (k_X6_starts c6) rfl ms_0 rfl rfl ⟨rfl, rfl⟩ ⟨Nat.le_of_ble_eq_true rfl, Nat.le_of_ble_eq_true rfl⟩ rfl (Nat.le_of_ble_eq_true rfl) dX6_church_10 ?_
    refine s_aload_n O 0 dX6_church_13 rfl rfl ?_
    refine s_iload_n O 1 dX6_church_14 rfl rfl ?_
    obtain ⟨s7, r8, c9, hf⟩ := bn_e hf
    refine s_VI (As := [.int a1]) (st := []) O lk_RX6_235 (k_X6_minutesTo c9) rfl ms_0 rfl rfl ⟨rfl, rfl⟩ ⟨Nat.le_of_ble_eq_true rfl, Nat.le_of_ble_eq_true rfl⟩ rfl (Nat.le_of_ble_eq_true rfl) dX6_church_15 ?_
    exact s_iret hret rfl dX6_church_18 hf
  · replace hf := if_t c hf
    refine s_iconst (v := (-1)) O dX6_church_7 rfl ?_
    exact s_iret hret rfl dX6_church_8 hf
def rm_X6_isUnsaid : Room := { frames := 0, cells := 0, slots := 0, locals := 0 }
def f_X6_isUnsaid (a1 : Int32) (s0 : StA) : Option (StA × Int32) :=
  gd ((4 * a1) + 3) 189 ((if (gi s0 1 ((4 * a1) + 3).toNatClampNeg) = 0 then some (s0, 1) else some (s0, 0)))
set_option maxHeartbeats 4000000 in
set_option maxRecDepth 100000 in
theorem k_X6_isUnsaid {a1 : Int32} {s0 zs : StA} {rr : Int32} (hf : f_X6_isUnsaid a1 s0 = some (zs, rr)) : CtI mM yX6_isUnsaid cX6_isUnsaid 2 .boolean rm_X6_isUnsaid (fun ph => [.ref (ph 0), .int a1]) s0 zs rr := by
  refine CtI.of (by decide +kernel) (fun ph => Nat.le_of_ble_eq_true rfl) (fun E O hret => ?_)
  have O : OK mM E RX6 cX6_isUnsaid 2 rm_X6_isUnsaid := O
  show WS mM E 2 0 [(0, rf E 0), (1, .int a1)] [] s0
  unfold f_X6_isUnsaid at hf
  refine s_aload_n O 0 dX6_isUnsaid_0 rfl rfl ?_
  refine s_getR O fg_RX6_7 ms_0 rfl dX6_isUnsaid_1 ?_
  refine s_iconst (v := 4) O dX6_isUnsaid_4 rfl ?_
  refine s_iload_n O 1 dX6_isUnsaid_5 rfl rfl ?_
  refine s_imul O dX6_isUnsaid_6 ?_
  refine s_iconst (v := 3) O dX6_isUnsaid_7 rfl ?_
  refine s_iadd O dX6_isUnsaid_8 ?_
  obtain ⟨h1, hf⟩ := gd_e hf
  refine s_iald O ms_1 h1 dX6_isUnsaid_9 ?_
  refine s_if_ne (tgt := 17) O dX6_isUnsaid_10 (by decide) (fun c => ?_) (fun c => ?_)
  · replace hf := if_f c hf
    refine s_iconst (v := 0) O dX6_isUnsaid_17 rfl ?_
    exact s_iret hret rfl dX6_isUnsaid_18 hf
  · replace hf := if_t c hf
    refine s_iconst (v := 1) O dX6_isUnsaid_13 rfl ?_
    refine s_goto (tgt := 18) O dX6_isUnsaid_14 (by decide) ?_
    exact s_iret hret rfl dX6_isUnsaid_18 hf
def rm_X6_judged : Room := { frames := 0, cells := 0, slots := 0, locals := 0 }
def f_X6_judged (a1 : Int32) (s0 : StA) : Option (StA × Int32) :=
  (if (gi s0 0 22) = (-4) then some (s0, (-4)) else (if a1 = 0 then some (s0, (gi s0 0 22)) else some (s0, (gi s0 0 23))))
set_option maxHeartbeats 4000000 in
set_option maxRecDepth 100000 in
theorem k_X6_judged {a1 : Int32} {s0 zs : StA} {rr : Int32} (hf : f_X6_judged a1 s0 = some (zs, rr)) : CtI mM yX6_judged cX6_judged 2 .int rm_X6_judged (fun ph => [.ref (ph 0), .int a1]) s0 zs rr := by
  refine CtI.of (by decide +kernel) (fun ph => Nat.le_of_ble_eq_true rfl) (fun E O hret => ?_)
  have O : OK mM E RX6 cX6_judged 2 rm_X6_judged := O
  show WS mM E 2 0 [(0, rf E 0), (1, .int a1)] [] s0
  unfold f_X6_judged at hf
  refine s_aload_n O 0 dX6_judged_0 rfl rfl ?_
  refine s_getI O fg_RX6_238 ms_0 rfl dX6_judged_1 ?_
  refine s_bipush (v := (-4)) O dX6_judged_4 rfl ?_
  refine s_icmp_ne (tgt := 14) O dX6_judged_6 (by decide) (fun c => ?_) (fun c => ?_)
  · replace hf := if_f c hf
    refine s_iload_n O 1 dX6_judged_14 rfl rfl ?_
    refine s_if_ne (tgt := 25) O dX6_judged_15 (by decide) (fun c => ?_) (fun c => ?_)
    · replace hf := if_f c hf
      refine s_aload_n O 0 dX6_judged_25 rfl rfl ?_
      refine s_getI O fg_RX6_241 ms_0 rfl dX6_judged_26 ?_
      exact s_iret hret rfl dX6_judged_29 hf
    · replace hf := if_t c hf
      refine s_aload_n O 0 dX6_judged_18 rfl rfl ?_
      refine s_getI O fg_RX6_238 ms_0 rfl dX6_judged_19 ?_
      refine s_goto (tgt := 29) O dX6_judged_22 (by decide) ?_
      exact s_iret hret rfl dX6_judged_29 hf
  · replace hf := if_t c hf
    refine s_bipush (v := (-4)) O dX6_judged_9 rfl ?_
    refine s_goto (tgt := 29) O dX6_judged_11 (by decide) ?_
    exact s_iret hret rfl dX6_judged_29 hf
