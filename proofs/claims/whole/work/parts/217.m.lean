def rm_X6_read : Room := { frames := 3, cells := 0, slots := 0, locals := 69 }
def fb_X6_read_l26 (a1 : Int32) (a2 : Int32) (a3 : Int32) (a4 : Int32) (x1 : Int32) (x2 : Int32) (x3 : Int32) (x4 : Int32) (s0 : StA) (v5 : Int32) : Option (StA × ((Int32) ⊕ (Unit))) :=
  (if 63 ≤ v5 then some (s0, .inr ()) else gd v5 189 (gd v5 63 (nms (si s0 11 v5.toNatClampNeg (gi s0 1 v5.toNatClampNeg)) (fun s9 => some (s9, .inl (v5 + 1))))))
set_option maxHeartbeats 4000000 in
set_option maxRecDepth 100000 in
theorem wb_X6_read_l26 {E : XC} (O : OK mM E RX6 cX6_read 11 rm_X6_read) {a1 : Int32} {a2 : Int32} {a3 : Int32} {a4 : Int32}  {x1 : Int32} {x2 : Int32} {x3 : Int32} {x4 : Int32} {s0 : StA} {v5 : Int32} {zs : StA} {rr : Int32} (hret : ReI mM E .int cX6_read zs rr) {bs : StA} {bw : (Int32) ⊕ (Unit)} (Kc : ∀ v, bw = .inl v → WS mM E 11 26 [(0, rf E 0), (1, .int x1), (2, .int x2), (3, .int x3), (4, .int x4), (5, .int v)] [] bs) (Ke : ∀ e, bw = .inr e → WS mM E 11 53 [(0, rf E 0), (1, .int x1), (2, .int x2), (3, .int x3), (4, .int x4)] [] bs) (hf : fb_X6_read_l26 a1 a2 a3 a4 x1 x2 x3 x4 s0 v5 = some (bs, bw)) : WS mM E 11 26 [(0, rf E 0), (1, .int x1), (2, .int x2), (3, .int x3), (4, .int x4), (5, .int v5)] [] s0 := by
  unfold fb_X6_read_l26 at hf
  refine s_iload O 5 dX6_read_26 rfl ?_
  refine s_bipush (v := 63) O dX6_read_28 rfl ?_
  refine s_icmp_ge (tgt := 53) O dX6_read_30 (by decide) (fun c => ?_) (fun c => ?_)
  · replace hf := if_t c hf
    refine s_loc [0, 1, 2, 3, 4] rfl ?_
    cases hf
    exact Ke _ rfl
  · replace hf := if_f c hf
    refine s_aload_n O 0 dX6_read_33 rfl rfl ?_
    refine s_getR O fg_RX6_41 ms_0 rfl dX6_read_34 ?_
    refine s_iload O 5 dX6_read_37 rfl ?_
    refine s_aload_n O 0 dX6_read_39 rfl rfl ?_
    refine s_getR O fg_RX6_7 ms_0 rfl dX6_read_40 ?_
    refine s_iload O 5 dX6_read_43 rfl ?_
    obtain ⟨h7, hf⟩ := gd_e hf
    refine s_iald O ms_1 h7 dX6_read_45 ?_
    obtain ⟨h8, hf⟩ := gd_e hf
    refine s_iast O ms_11 h8 dX6_read_46 ?_
    refine s_tops (fun s9 es9 => ?_)
    replace hf := nms_e es9 hf
    refine s_iinc (v := (v5 + 1)) (lv' := [(5, .int (v5 + 1)), (0, rf E 0), (1, .int x1), (2, .int x2), (3, .int x3), (4, .int x4)]) O 5 dX6_read_47 rfl rfl (by decide) rfl ?_
    refine s_goto (tgt := 26) O dX6_read_50 (by decide) ?_
    refine s_loc [1, 2, 3, 4, 5, 0] rfl ?_
    cases hf
    exact Kc _ rfl
def fl_X6_read_l26 (a1 : Int32) (a2 : Int32) (a3 : Int32) (a4 : Int32) (x1 : Int32) (x2 : Int32) (x3 : Int32) (x4 : Int32) (s0 : StA) (v : Int32) : Option (StA × ((Unit))) :=
  it (fun s v => fb_X6_read_l26 a1 a2 a3 a4 x1 x2 x3 x4 s v) FU s0 v
def fb_X6_read_l77 (a1 : Int32) (a2 : Int32) (a3 : Int32) (a4 : Int32) (x1 : Int32) (x2 : Int32) (x3 : Int32) (x4 : Int32) (x6 : Int32) (x7 : Int32) (s0 : StA) (v5 : Int32) (v8 : Int32) : Option (StA × ((Int32 × Int32) ⊕ (Int32))) :=
  (if 2 ≤ v8 then some (s0, .inr v5) else (if v5 = 0 then nml ((x3.toInt64 + (2 * x7).toInt64) + v8.toInt64) (fun n15 => gd x1 4 ((if (gi s0 8 x1.toNatClampNeg) = (-4) then some (s0, .inl (1, (v8 + 1))) else gd x1 4 ((if (gi s0 8 x1.toNatClampNeg) = x2 then (if (lg_cmp n15 0) < 0 then some (s0, .inl (2, (v8 + 1))) else gd x1 4 ((if (lg_cmp n15 (gi s0 9 x1.toNatClampNeg).toInt64) < 0 then some (s0, .inl (0, (v8 + 1))) else some (s0, .inl (2, (v8 + 1)))))) else some (s0, .inl (3, (v8 + 1)))))))) else some (s0, .inr v5)))
set_option maxHeartbeats 4000000 in
set_option maxRecDepth 100000 in
theorem wb_X6_read_l77 {E : XC} (O : OK mM E RX6 cX6_read 11 rm_X6_read) {a1 : Int32} {a2 : Int32} {a3 : Int32} {a4 : Int32}  {x1 : Int32} {x2 : Int32} {x3 : Int32} {x4 : Int32} {x6 : Int32} {x7 : Int32} {s0 : StA} {v5 : Int32} {v8 : Int32} {zs : StA} {rr : Int32} (hret : ReI mM E .int cX6_read zs rr) {bs : StA} {bw : (Int32 × Int32) ⊕ (Int32)} (Kc : ∀ v, bw = .inl v → WS mM E 11 77 [(0, rf E 0), (1, .int x1), (2, .int x2), (3, .int x3), (4, .int x4), (5, .int v.1), (6, .int x6), (7, .int x7), (8, .int v.2)] [] bs) (Ke : ∀ e, bw = .inr e → WS mM E 11 164 [(0, rf E 0), (1, .int x1), (2, .int x2), (3, .int x3), (4, .int x4), (5, .int e), (6, .int x6), (7, .int x7)] [] bs) (hf : fb_X6_read_l77 a1 a2 a3 a4 x1 x2 x3 x4 x6 x7 s0 v5 v8 = some (bs, bw)) : WS mM E 11 77 [(0, rf E 0), (1, .int x1), (2, .int x2), (3, .int x3), (4, .int x4), (5, .int v5), (6, .int x6), (7, .int x7), (8, .int v8)] [] s0 := by
  unfold fb_X6_read_l77 at hf
  refine s_iload O 8 dX6_read_77 rfl ?_
  refine s_iconst (v := 2) O dX6_read_79 rfl ?_
  refine s_icmp_ge (tgt := 164) O dX6_read_80 (by decide) (fun c => ?_) (fun c => ?_)
  · replace hf := if_t c hf
    refine s_loc [0, 1, 2, 3, 4, 5, 6, 7] rfl ?_
    cases hf
    exact Ke _ rfl
  · replace hf := if_f c hf
    refine s_iload O 5 dX6_read_83 rfl ?_
    refine s_if_ne (tgt := 164) O dX6_read_85 (by decide) (fun c => ?_) (fun c => ?_)
    · replace hf := if_f c hf
      refine s_loc [0, 1, 2, 3, 4, 5, 6, 7] rfl ?_
      cases hf
      exact Ke _ rfl
    · replace hf := if_t c hf
      refine s_iload_n O 3 dX6_read_88 rfl rfl ?_
      refine s_i2l O dX6_read_89 ?_
      refine s_iconst (v := 2) O dX6_read_90 rfl ?_
      refine s_iload O 7 dX6_read_91 rfl ?_
      refine s_imul O dX6_read_93 ?_
      refine s_i2l O dX6_read_94 ?_
      refine s_ladd O dX6_read_95 ?_
      refine s_iload O 8 dX6_read_96 rfl ?_
      refine s_i2l O dX6_read_98 ?_
      refine s_ladd O dX6_read_99 ?_
      refine s_topl (fun n15 en15 => ?_)
      replace hf := nml_e en15 hf
      refine s_lstore (lv' := [(9, .long n15), (0, rf E 0), (1, .int x1), (2, .int x2), (3, .int x3), (4, .int x4), (5, .int v5), (6, .int x6), (7, .int x7), (8, .int v8)]) O dX6_read_100 (by decide) rfl ?_
      refine s_aload_n O 1 dX6_read_102 rfl rfl ?_
      refine s_getR O fg_RX6_32 ms_0 rfl dX6_read_103 ?_
      refine s_iload_n O 2 dX6_read_106 rfl rfl ?_
      obtain ⟨h16, hf⟩ := gd_e hf
      refine s_iald O ms_8 h16 dX6_read_107 ?_
      refine s_bipush (v := (-4)) O dX6_read_108 rfl ?_
      refine s_icmp_ne (tgt := 117) O dX6_read_110 (by decide) (fun c => ?_) (fun c => ?_)
      · replace hf := if_f c hf
        refine s_aload_n O 1 dX6_read_117 rfl rfl ?_
        refine s_getR O fg_RX6_32 ms_0 rfl dX6_read_118 ?_
        refine s_iload_n O 2 dX6_read_121 rfl rfl ?_
        obtain ⟨h17, hf⟩ := gd_e hf
        refine s_iald O ms_8 h17 dX6_read_122 ?_
        refine s_iload_n O 3 dX6_read_123 rfl rfl ?_
        refine s_icmp_eq (tgt := 131) O dX6_read_124 (by decide) (fun c => ?_) (fun c => ?_)
        · replace hf := if_t c hf
          refine s_lload O 0 dX6_read_131 rfl ?_
          refine s_lconst (v := 0) O dX6_read_133 rfl ?_
          refine s_lcmp O dX6_read_134 ?_
          refine s_if_lt (tgt := 151) O dX6_read_135 (by decide) (fun c => ?_) (fun c => ?_)
          · replace hf := if_t c hf
            refine s_iconst (v := 2) O dX6_read_151 rfl ?_
            refine s_goto (tgt := 156) O dX6_read_152 (by decide) ?_
            refine s_istore (lv' := [(5, .int 2), (9, .long n15), (0, rf E 0), (1, .int x1), (2, .int x2), (3, .int x3), (4, .int x4), (6, .int x6), (7, .int x7), (8, .int v8)]) O dX6_read_156 (by decide) rfl ?_
            refine s_iinc (v := (v8 + 1)) (lv' := [(8, .int (v8 + 1)), (5, .int 2), (9, .long n15), (0, rf E 0), (1, .int x1), (2, .int x2), (3, .int x3), (4, .int x4), (6, .int x6), (7, .int x7)]) O 9 dX6_read_158 rfl rfl (by decide) rfl ?_
            refine s_goto (tgt := 77) O dX6_read_161 (by decide) ?_
            refine s_loc [3, 4, 5, 6, 7, 1, 8, 9, 0] rfl ?_
            cases hf
            exact Kc _ rfl
          · replace hf := if_f c hf
            refine s_lload O 0 dX6_read_138 rfl ?_
            refine s_aload_n O 1 dX6_read_140 rfl rfl ?_
            refine s_getR O fg_RX6_35 ms_0 rfl dX6_read_141 ?_
            refine s_iload_n O 2 dX6_read_144 rfl rfl ?_
            obtain ⟨h18, hf⟩ := gd_e hf
            refine s_iald O ms_9 h18 dX6_read_145 ?_
            refine s_i2l O dX6_read_146 ?_
            refine s_lcmp O dX6_read_147 ?_
            refine s_if_lt (tgt := 155) O dX6_read_148 (by decide) (fun c => ?_) (fun c => ?_)
            · replace hf := if_t c hf
              refine s_iconst (v := 0) O dX6_read_155 rfl ?_
              refine s_istore (lv' := [(5, .int 0), (9, .long n15), (0, rf E 0), (1, .int x1), (2, .int x2), (3, .int x3), (4, .int x4), (6, .int x6), (7, .int x7), (8, .int v8)]) O dX6_read_156 (by decide) rfl ?_
              refine s_iinc (v := (v8 + 1)) (lv' := [(8, .int (v8 + 1)), (5, .int 0), (9, .long n15), (0, rf E 0), (1, .int x1), (2, .int x2), (3, .int x3), (4, .int x4), (6, .int x6), (7, .int x7)]) O 9 dX6_read_158 rfl rfl (by decide) rfl ?_
              refine s_goto (tgt := 77) O dX6_read_161 (by decide) ?_
              refine s_loc [3, 4, 5, 6, 7, 1, 8, 9, 0] rfl ?_
              cases hf
              exact Kc _ rfl
            · replace hf := if_f c hf
              refine s_iconst (v := 2) O dX6_read_151 rfl ?_
              refine s_goto (tgt := 156) O dX6_read_152 (by decide) ?_
              refine s_istore (lv' := [(5, .int 2), (9, .long n15), (0, rf E 0), (1, .int x1), (2, .int x2), (3, .int x3), (4, .int x4), (6, .int x6), (7, .int x7), (8, .int v8)]) O dX6_read_156 (by decide) rfl ?_
              refine s_iinc (v := (v8 + 1)) (lv' := [(8, .int (v8 + 1)), (5, .int 2), (9, .long n15), (0, rf E 0), (1, .int x1), (2, .int x2), (3, .int x3), (4, .int x4), (6, .int x6), (7, .int x7)]) O 9 dX6_read_158 rfl rfl (by decide) rfl ?_
              refine s_goto (tgt := 77) O dX6_read_161 (by decide) ?_
              refine s_loc [3, 4, 5, 6, 7, 1, 8, 9, 0] rfl ?_
              cases hf
              exact Kc _ rfl
        · replace hf := if_f c hf
          refine s_iconst (v := 3) O dX6_read_127 rfl ?_
          refine s_goto (tgt := 156) O dX6_read_128 (by decide) ?_
          refine s_istore (lv' := [(5, .int 3), (9, .long n15), (0, rf E 0), (1, .int x1), (2, .int x2), (3, .int x3), (4, .int x4), (6, .int x6), (7, .int x7), (8, .int v8)]) O dX6_read_156 (by decide) rfl ?_
          refine s_iinc (v := (v8 + 1)) (lv' := [(8, .int (v8 + 1)), (5, .int 3), (9, .long n15), (0, rf E 0), (1, .int x1), (2, .int x2), (3, .int x3), (4, .int x4), (6, .int x6), (7, .int x7)]) O 9 dX6_read_158 rfl rfl (by decide) rfl ?_
          refine s_goto (tgt := 77) O dX6_read_161 (by decide) ?_
          refine s_loc [3, 4, 5, 6, 7, 1, 8, 9, 0] rfl ?_
          cases hf
          exact Kc _ rfl
      · replace hf := if_t c hf
        refine s_iconst (v := 1) O dX6_read_113 rfl ?_
        refine s_goto (tgt := 156) O dX6_read_114 (by decide) ?_
        refine s_istore (lv' := [(5, .int 1), (9, .long n15), (0, rf E 0), (1, .int x1), (2, .int x2), (3, .int x3), (4, .int x4), (6, .int x6), (7, .int x7), (8, .int v8)]) O dX6_read_156 (by decide) rfl ?_
        refine s_iinc (v := (v8 + 1)) (lv' := [(8, .int (v8 + 1)), (5, .int 1), (9, .long n15), (0, rf E 0), (1, .int x1), (2, .int x2), (3, .int x3), (4, .int x4), (6, .int x6), (7, .int x7)]) O 9 dX6_read_158 rfl rfl (by decide) rfl ?_
        refine s_goto (tgt := 77) O dX6_read_161 (by decide) ?_
        refine s_loc [3, 4, 5, 6, 7, 1, 8, 9, 0] rfl ?_
        cases hf
        exact Kc _ rfl
def fl_X6_read_l77 (a1 : Int32) (a2 : Int32) (a3 : Int32) (a4 : Int32) (x1 : Int32) (x2 : Int32) (x3 : Int32) (x4 : Int32) (x6 : Int32) (x7 : Int32) (s0 : StA) (v : Int32 × Int32) : Option (StA × ((Int32))) :=
  it (fun s v => fb_X6_read_l77 a1 a2 a3 a4 x1 x2 x3 x4 x6 x7 s v.1 v.2) FU s0 v
def fj_X6_read_j164 (a1 : Int32) (a2 : Int32) (a3 : Int32) (a4 : Int32) (x1 : Int32) (x2 : Int32) (x3 : Int32) (x4 : Int32) (j5 : Int32) (j6 : Int32) (j7 : Int32) (s0 : StA) : Option (StA × ((Int32 × Int32 × Int32) ⊕ ((Int32) ⊕ Int32))) :=
  (if j5 = 0 then nmi (((40 * x1) + x3) + (2 * j7)) (fun n22 => gd n22 160 (gd (n22 + 1) 160 (bn (f_X6_plan (gi s0 10 n22.toNatClampNeg) (gi s0 10 (n22 + 1).toNatClampNeg) s0) (fun s25 r26 => (if 0 ≤ r26 then some (s25, .inl (j5, (j6 + 1), (j7 + 1))) else some (s25, .inr (.inl j7))))))) else some (s0, .inl (j5, j6, (j7 + 1))))
set_option maxHeartbeats 4000000 in
set_option maxRecDepth 100000 in
theorem wj_X6_read_j164 {E : XC} (O : OK mM E RX6 cX6_read 11 rm_X6_read) {a1 : Int32} {a2 : Int32} {a3 : Int32} {a4 : Int32}  {x1 : Int32} {x2 : Int32} {x3 : Int32} {x4 : Int32} {j5 : Int32} {j6 : Int32} {j7 : Int32} {s0 : StA} {zs : StA} {rr : Int32} (hret : ReI mM E .int cX6_read zs rr) {bs : StA} {bw : (Int32 × Int32 × Int32) ⊕ ((Int32) ⊕ Int32)} (Kc : ∀ v, bw = .inl v → WS mM E 11 62 [(0, rf E 0), (1, .int x1), (2, .int x2), (3, .int x3), (4, .int x4), (5, .int v.1), (6, .int v.2.1), (7, .int v.2.2)] [] bs) (Ke : ∀ e, bw = .inr (.inl e) → WS mM E 11 205 [(0, rf E 0), (7, .int e)] [] bs) (Kr : ∀ r, bw = .inr (.inr r) → some (bs, r) = some (zs, rr)) (hf : fj_X6_read_j164 a1 a2 a3 a4 x1 x2 x3 x4 j5 j6 j7 s0 = some (bs, bw)) : WS mM E 11 164 [(0, rf E 0), (1, .int x1), (2, .int x2), (3, .int x3), (4, .int x4), (5, .int j5), (6, .int j6), (7, .int j7)] [] s0 := by
  unfold fj_X6_read_j164 at hf
  refine s_iload O 5 dX6_read_164 rfl ?_
  refine s_if_ne (tgt := 244) O dX6_read_166 (by decide) (fun c => ?_) (fun c => ?_)
  · replace hf := if_f c hf
    refine s_iinc (v := (j7 + 1)) (lv' := [(7, .int (j7 + 1)), (0, rf E 0), (1, .int x1), (2, .int x2), (3, .int x3), (4, .int x4), (5, .int j5), (6, .int j6)]) O 7 dX6_read_244 rfl rfl (by decide) rfl ?_
    refine s_goto (tgt := 62) O dX6_read_247 (by decide) ?_
    refine s_loc [1, 2, 3, 4, 5, 6, 7, 0] rfl ?_
    cases hf
    exact Kc _ rfl
  · replace hf := if_t c hf
    refine s_bipush (v := 40) O dX6_read_169 rfl ?_
    refine s_iload_n O 1 dX6_read_171 rfl rfl ?_
    refine s_imul O dX6_read_172 ?_
    refine s_iload_n O 3 dX6_read_173 rfl rfl ?_
    refine s_iadd O dX6_read_174 ?_
    refine s_iconst (v := 2) O dX6_read_175 rfl ?_
    refine s_iload O 7 dX6_read_176 rfl ?_
    refine s_imul O dX6_read_178 ?_
    refine s_iadd O dX6_read_179 ?_
    refine s_topi (fun n22 en22 => ?_)
    replace hf := nmi_e en22 hf
    refine s_istore (lv' := [(8, .int n22), (0, rf E 0), (1, .int x1), (2, .int x2), (3, .int x3), (4, .int x4), (5, .int j5), (6, .int j6), (7, .int j7)]) O dX6_read_180 (by decide) rfl ?_
    refine s_aload_n O 1 dX6_read_182 rfl rfl ?_
    refine s_aload_n O 1 dX6_read_183 rfl rfl ?_
    refine s_getR O fg_RX6_38 ms_0 rfl dX6_read_184 ?_
    refine s_iload O 0 dX6_read_187 rfl ?_
    obtain ⟨h23, hf⟩ := gd_e hf
    refine s_iald O ms_10 h23 dX6_read_189 ?_
    refine s_aload_n O 1 dX6_read_190 rfl rfl ?_
    refine s_getR O fg_RX6_38 ms_0 rfl dX6_read_191 ?_
    refine s_iload O 0 dX6_read_194 rfl ?_
    refine s_iconst (v := 1) O dX6_read_196 rfl ?_
    refine s_iadd O dX6_read_197 ?_
    obtain ⟨h24, hf⟩ := gd_e hf
    refine s_iald O ms_10 h24 dX6_read_198 ?_
    obtain ⟨s25, r26, c27, hf⟩ := bn_e hf
    refine s_VI (As := [.int (gi s0 10 n22.toNatClampNeg), .int (gi s0 10 (n22 + 1).toNatClampNeg)]) (st := []) O lk_RX6_305 (k_X6_plan c27) rfl ms_0 rfl rfl ⟨rfl, rfl⟩ ⟨Nat.le_of_ble_eq_true rfl, Nat.le_of_ble_eq_true rfl⟩ rfl (Nat.le_of_ble_eq_true rfl) dX6_read_199 ?_
    refine s_if_ge (tgt := 241) O dX6_read_202 (by decide) (fun c => ?_) (fun c => ?_)
    · replace hf := if_t c hf
      refine s_iinc (v := (j6 + 1)) (lv' := [(6, .int (j6 + 1)), (8, .int n22), (0, rf E 0), (1, .int x1), (2, .int x2), (3, .int x3), (4, .int x4), (5, .int j5), (7, .int j7)]) O 7 dX6_read_241 rfl rfl (by decide) rfl ?_
      refine s_iinc (v := (j7 + 1)) (lv' := [(7, .int (j7 + 1)), (6, .int (j6 + 1)), (8, .int n22), (0, rf E 0), (1, .int x1), (2, .int x2), (3, .int x3), (4, .int x4), (5, .int j5)]) O 8 dX6_read_244 rfl rfl (by decide) rfl ?_
      refine s_goto (tgt := 62) O dX6_read_247 (by decide) ?_
      refine s_loc [3, 4, 5, 6, 7, 8, 1, 0] rfl ?_
      cases hf
      exact Kc _ rfl
    · replace hf := if_f c hf
      refine s_loc [1, 8] rfl ?_
      cases hf
      exact Ke _ rfl
def fb_X6_read_l62 (a1 : Int32) (a2 : Int32) (a3 : Int32) (a4 : Int32) (x1 : Int32) (x2 : Int32) (x3 : Int32) (x4 : Int32) (s0 : StA) (v5 : Int32) (v6 : Int32) (v7 : Int32) : Option (StA × ((Int32 × Int32 × Int32) ⊕ ((Int32) ⊕ Int32))) :=
  (if x4 ≤ v7 then nms (si s0 0 32 v5) (fun s13 => some (s13, .inr (.inr v6))) else (if v5 = 0 then bn (fl_X6_read_l77 a1 a2 a3 a4 x1 x2 x3 x4 v6 v7 s0 (v5, 0)) (fun s19 u77_5 => fj_X6_read_j164 a1 a2 a3 a4 x1 x2 x3 x4 u77_5 v6 v7 s19) else nms (si s0 0 32 v5) (fun s14 => some (s14, .inr (.inr v6)))))
set_option maxHeartbeats 4000000 in
set_option maxRecDepth 100000 in
theorem wb_X6_read_l62 {E : XC} (O : OK mM E RX6 cX6_read 11 rm_X6_read) {a1 : Int32} {a2 : Int32} {a3 : Int32} {a4 : Int32}  {x1 : Int32} {x2 : Int32} {x3 : Int32} {x4 : Int32} {s0 : StA} {v5 : Int32} {v6 : Int32} {v7 : Int32} {zs : StA} {rr : Int32} (hret : ReI mM E .int cX6_read zs rr) {bs : StA} {bw : (Int32 × Int32 × Int32) ⊕ ((Int32) ⊕ Int32)} (Kc : ∀ v, bw = .inl v → WS mM E 11 62 [(0, rf E 0), (1, .int x1), (2, .int x2), (3, .int x3), (4, .int x4), (5, .int v.1), (6, .int v.2.1), (7, .int v.2.2)] [] bs) (Ke : ∀ e, bw = .inr (.inl e) → WS mM E 11 205 [(0, rf E 0), (7, .int e)] [] bs) (Kr : ∀ r, bw = .inr (.inr r) → some (bs, r) = some (zs, rr)) (hf : fb_X6_read_l62 a1 a2 a3 a4 x1 x2 x3 x4 s0 v5 v6 v7 = some (bs, bw)) : WS mM E 11 62 [(0, rf E 0), (1, .int x1), (2, .int x2), (3, .int x3), (4, .int x4), (5, .int v5), (6, .int v6), (7, .int v7)] [] s0 := by
  unfold fb_X6_read_l62 at hf
  refine s_iload O 7 dX6_read_62 rfl ?_
  refine s_iload O 4 dX6_read_64 rfl ?_
  refine s_icmp_ge (tgt := 250) O dX6_read_66 (by decide) (fun c => ?_) (fun c => ?_)
  · replace hf := if_t c hf
    refine s_aload_n O 0 dX6_read_250 rfl rfl ?_
    refine s_iload O 5 dX6_read_251 rfl ?_
    refine s_putI O fp_RX6_308 ms_0 rfl dX6_read_253 ?_
    refine s_tops (fun s13 es13 => ?_)
    replace hf := nms_e es13 hf
    refine s_iload O 6 dX6_read_256 rfl ?_
    cases hf
    exact s_iret hret rfl dX6_read_258 (Kr _ rfl)
  · replace hf := if_f c hf
    refine s_iload O 5 dX6_read_69 rfl ?_
    refine s_if_ne (tgt := 250) O dX6_read_71 (by decide) (fun c => ?_) (fun c => ?_)
    · replace hf := if_f c hf
      refine s_aload_n O 0 dX6_read_250 rfl rfl ?_
      refine s_iload O 5 dX6_read_251 rfl ?_
      refine s_putI O fp_RX6_308 ms_0 rfl dX6_read_253 ?_
      refine s_tops (fun s14 es14 => ?_)
      replace hf := nms_e es14 hf
      refine s_iload O 6 dX6_read_256 rfl ?_
      cases hf
      exact s_iret hret rfl dX6_read_258 (Kr _ rfl)
    · replace hf := if_t c hf
      refine s_iconst (v := 0) O dX6_read_74 rfl ?_
      refine s_istore (lv' := [(8, .int 0), (0, rf E 0), (1, .int x1), (2, .int x2), (3, .int x3), (4, .int x4), (5, .int v5), (6, .int v6), (7, .int v7)]) O dX6_read_75 (by decide) rfl ?_
      refine s_loc [1, 2, 3, 4, 5, 6, 7, 8, 0] rfl ?_
      obtain ⟨s19, u77_5, c21, hf⟩ := bn_e hf
      refine lp_of (body := fun s v => fb_X6_read_l77 a1 a2 a3 a4 x1 x2 x3 x4 v6 v7 s v.1 v.2) (X := fun s v => WS mM E 11 77 [(0, rf E 0), (1, .int x1), (2, .int x2), (3, .int x3), (4, .int x4), (5, .int v.1), (6, .int v6), (7, .int v7), (8, .int v.2)] [] s) (Y := fun s e => WS mM E 11 164 [(0, rf E 0), (1, .int x1), (2, .int x2), (3, .int x3), (4, .int x4), (5, .int e), (6, .int v6), (7, .int v7)] [] s) (fun s v s' w hb Kc Ke => wb_X6_read_l77 (rr := rr) O   hret Kc Ke hb) FU _ _ (s19, u77_5) c21 ?_
      show WS mM E 11 164 [(0, rf E 0), (1, .int x1), (2, .int x2), (3, .int x3), (4, .int x4), (5, .int u77_5), (6, .int v6), (7, .int v7)] [] s19
      exact wj_X6_read_j164 (rr := rr) O   hret Kc Ke Kr hf
def fl_X6_read_l62 (a1 : Int32) (a2 : Int32) (a3 : Int32) (a4 : Int32) (x1 : Int32) (x2 : Int32) (x3 : Int32) (x4 : Int32) (s0 : StA) (v : Int32 × Int32 × Int32) : Option (StA × (((Int32) ⊕ Int32))) :=
  it (fun s v => fb_X6_read_l62 a1 a2 a3 a4 x1 x2 x3 x4 s v.1 v.2.1 v.2.2) FU s0 v
def fb_X6_read_l208 (a1 : Int32) (a2 : Int32) (a3 : Int32) (a4 : Int32) (x7 : Int32) (s0 : StA) (v9 : Int32) : Option (StA × ((Int32) ⊕ (Unit))) :=
  (if 63 ≤ v9 then some (s0, .inr ()) else gd v9 63 (gd v9 189 (nms (si s0 1 v9.toNatClampNeg (gi s0 11 v9.toNatClampNeg)) (fun s33 => some (s33, .inl (v9 + 1))))))
set_option maxHeartbeats 4000000 in
set_option maxRecDepth 100000 in
theorem wb_X6_read_l208 {E : XC} (O : OK mM E RX6 cX6_read 11 rm_X6_read) {a1 : Int32} {a2 : Int32} {a3 : Int32} {a4 : Int32}  {x7 : Int32} {s0 : StA} {v9 : Int32} {zs : StA} {rr : Int32} (hret : ReI mM E .int cX6_read zs rr) {bs : StA} {bw : (Int32) ⊕ (Unit)} (Kc : ∀ v, bw = .inl v → WS mM E 11 208 [(0, rf E 0), (7, .int x7), (9, .int v)] [] bs) (Ke : ∀ e, bw = .inr e → WS mM E 11 235 [(7, .int x7)] [] bs) (hf : fb_X6_read_l208 a1 a2 a3 a4 x7 s0 v9 = some (bs, bw)) : WS mM E 11 208 [(0, rf E 0), (7, .int x7), (9, .int v9)] [] s0 := by
  unfold fb_X6_read_l208 at hf
  refine s_iload O 2 dX6_read_208 rfl ?_
  refine s_bipush (v := 63) O dX6_read_210 rfl ?_
  refine s_icmp_ge (tgt := 235) O dX6_read_212 (by decide) (fun c => ?_) (fun c => ?_)
  · replace hf := if_t c hf
    refine s_loc [1] rfl ?_
    cases hf
    exact Ke _ rfl
  · replace hf := if_f c hf
    refine s_aload_n O 0 dX6_read_215 rfl rfl ?_
    refine s_getR O fg_RX6_7 ms_0 rfl dX6_read_216 ?_
    refine s_iload O 2 dX6_read_219 rfl ?_
    refine s_aload_n O 0 dX6_read_221 rfl rfl ?_
    refine s_getR O fg_RX6_41 ms_0 rfl dX6_read_222 ?_
    refine s_iload O 2 dX6_read_225 rfl ?_
    obtain ⟨h31, hf⟩ := gd_e hf
    refine s_iald O ms_11 h31 dX6_read_227 ?_
    obtain ⟨h32, hf⟩ := gd_e hf
    refine s_iast O ms_1 h32 dX6_read_228 ?_
    refine s_tops (fun s33 es33 => ?_)
    replace hf := nms_e es33 hf
    refine s_iinc (v := (v9 + 1)) (lv' := [(9, .int (v9 + 1)), (0, rf E 0), (7, .int x7)]) O 2 dX6_read_229 rfl rfl (by decide) rfl ?_
    refine s_goto (tgt := 208) O dX6_read_232 (by decide) ?_
    refine s_loc [1, 2, 0] rfl ?_
    cases hf
    exact Kc _ rfl
def fl_X6_read_l208 (a1 : Int32) (a2 : Int32) (a3 : Int32) (a4 : Int32) (x7 : Int32) (s0 : StA) (v : Int32) : Option (StA × ((Unit))) :=
  it (fun s v => fb_X6_read_l208 a1 a2 a3 a4 x7 s v) FU s0 v
def f_X6_read (a1 : Int32) (a2 : Int32) (a3 : Int32) (a4 : Int32) (s0 : StA) : Option (StA × Int32) :=
  bn (f_X6_isSheet a1 a2 s0) (fun s1 r2 => (if r2 = 0 then some (s1, (-1)) else bn (f_X6_in a4.toInt64 0 20 s1) (fun s4 r5 => (if r5 = 0 then some (s4, (-1)) else bn (fl_X6_read_l26 a1 a2 a3 a4 a1 a2 a3 a4 s4 0) (fun s10 e11 => bn (fl_X6_read_l62 a1 a2 a3 a4 a1 a2 a3 a4 s10 (0, 0, 0)) (fun s28 e29 => match e29 with | .inl u62_7 => bn (fl_X6_read_l208 a1 a2 a3 a4 u62_7 s28 0) (fun s34 e35 => some (s34, ((-20) - u62_7))) | .inr q62 => some (s28, q62)))))))
set_option maxHeartbeats 4000000 in
set_option maxRecDepth 100000 in
theorem k_X6_read {a1 : Int32} {a2 : Int32} {a3 : Int32} {a4 : Int32} {s0 zs : StA} {rr : Int32} (hf : f_X6_read a1 a2 a3 a4 s0 = some (zs, rr)) : CtI mM yX6_read cX6_read 11 .int rm_X6_read (fun ph => [.ref (ph 0), .int a1, .int a2, .int a3, .int a4]) s0 zs rr := by
  refine CtI.of (by decide +kernel) (fun ph => Nat.le_of_ble_eq_true rfl) (fun E O hret => ?_)
  have O : OK mM E RX6 cX6_read 11 rm_X6_read := O
  show WS mM E 11 0 [(0, rf E 0), (1, .int a1), (2, .int a2), (3, .int a3), (4, .int a4)] [] s0
  unfold f_X6_read at hf
  refine s_iload_n O 1 dX6_read_0 rfl rfl ?_
  refine s_iload_n O 2 dX6_read_1 rfl rfl ?_
  obtain ⟨s1, r2, c3, hf⟩ := bn_e hf
  refine s_SI (As := [.int a1, .int a2]) (st := []) O lk_RX6_300 (k_X6_isSheet c3) rfl rfl ⟨rfl, rfl⟩ ⟨Nat.le_of_ble_eq_true rfl, Nat.le_of_ble_eq_true rfl⟩ rfl (Nat.le_of_ble_eq_true rfl) dX6_read_2 ?_
  refine s_if_eq (tgt := 21) O dX6_read_5 (by decide) (fun c => ?_) (fun c => ?_)
  · replace hf := if_t c hf
    refine s_iconst (v := (-1)) O dX6_read_21 rfl ?_
    exact s_iret hret rfl dX6_read_22 hf
  · replace hf := if_f c hf
    refine s_iload O 4 dX6_read_8 rfl ?_
    refine s_i2l O dX6_read_10 ?_
    refine s_lconst (v := 0) O dX6_read_11 rfl ?_
    refine s_ldc2 O cl_RX6_303 dX6_read_12 ?_
    obtain ⟨s4, r5, c6, hf⟩ := bn_e hf
    refine s_SI (As := [.long a4.toInt64, .long 0, .long 20]) (st := []) O lk_RX6_69 (k_X6_in c6) rfl rfl ⟨rfl, rfl⟩ ⟨Nat.le_of_ble_eq_true rfl, Nat.le_of_ble_eq_true rfl⟩ rfl (Nat.le_of_ble_eq_true rfl) dX6_read_15 ?_
    refine s_if_ne (tgt := 23) O dX6_read_18 (by decide) (fun c => ?_) (fun c => ?_)
    · replace hf := if_f c hf
      refine s_iconst (v := 0) O dX6_read_23 rfl ?_
      refine s_istore (lv' := [(5, .int 0), (0, rf E 0), (1, .int a1), (2, .int a2), (3, .int a3), (4, .int a4)]) O dX6_read_24 (by decide) rfl ?_
      refine s_loc [1, 2, 3, 4, 5, 0] rfl ?_
      obtain ⟨s10, e11, c12, hf⟩ := bn_e hf
      refine lp_of (body := fun s v => fb_X6_read_l26 a1 a2 a3 a4 a1 a2 a3 a4 s v) (X := fun s v => WS mM E 11 26 [(0, rf E 0), (1, .int a1), (2, .int a2), (3, .int a3), (4, .int a4), (5, .int v)] [] s) (Y := fun s e => WS mM E 11 53 [(0, rf E 0), (1, .int a1), (2, .int a2), (3, .int a3), (4, .int a4)] [] s) (fun s v s' w hb Kc Ke => wb_X6_read_l26 (rr := rr) O   hret Kc Ke hb) FU _ _ (s10, e11) c12 ?_
      show WS mM E 11 53 [(0, rf E 0), (1, .int a1), (2, .int a2), (3, .int a3), (4, .int a4)] [] s10
      refine s_iconst (v := 0) O dX6_read_53 rfl ?_
      refine s_istore (lv' := [(5, .int 0), (0, rf E 0), (1, .int a1), (2, .int a2), (3, .int a3), (4, .int a4)]) O dX6_read_54 (by decide) rfl ?_
      refine s_iconst (v := 0) O dX6_read_56 rfl ?_
      refine s_istore (lv' := [(6, .int 0), (5, .int 0), (0, rf E 0), (1, .int a1), (2, .int a2), (3, .int a3), (4, .int a4)]) O dX6_read_57 (by decide) rfl ?_
      refine s_iconst (v := 0) O dX6_read_59 rfl ?_
      refine s_istore (lv' := [(7, .int 0), (6, .int 0), (5, .int 0), (0, rf E 0), (1, .int a1), (2, .int a2), (3, .int a3), (4, .int a4)]) O dX6_read_60 (by decide) rfl ?_
      refine s_loc [3, 4, 5, 6, 7, 2, 1, 0] rfl ?_
      obtain ⟨s28, e29, c30, hf⟩ := bn_e hf
      refine lp_of (body := fun s v => fb_X6_read_l62 a1 a2 a3 a4 a1 a2 a3 a4 s v.1 v.2.1 v.2.2) (X := fun s v => WS mM E 11 62 [(0, rf E 0), (1, .int a1), (2, .int a2), (3, .int a3), (4, .int a4), (5, .int v.1), (6, .int v.2.1), (7, .int v.2.2)] [] s) (Y := fun s e => match e with | .inl e => WS mM E 11 205 [(0, rf E 0), (7, .int e)] [] s | .inr r => some (s, r) = some (zs, rr)) (fun s v s' w hb Kc Ke => wb_X6_read_l62 (rr := rr) O   hret Kc (fun e he => Ke (.inl e) he) (fun r he => Ke (.inr r) he) hb) FU _ _ (s28, e29) c30 ?_
      rcases e29 with e29 | q62
      · obtain ⟨u62_7, rfl⟩ : ∃ z, z = e29 := ⟨_, rfl⟩
        show WS mM E 11 205 [(0, rf E 0), (7, .int u62_7)] [] s28
        refine s_iconst (v := 0) O dX6_read_205 rfl ?_
        refine s_istore (lv' := [(9, .int 0), (0, rf E 0), (7, .int u62_7)]) O dX6_read_206 (by decide) rfl ?_
        refine s_loc [1, 2, 0] rfl ?_
        obtain ⟨s34, e35, c36, hf⟩ := bn_e hf
        refine lp_of (body := fun s v => fb_X6_read_l208 a1 a2 a3 a4 u62_7 s v) (X := fun s v => WS mM E 11 208 [(0, rf E 0), (7, .int u62_7), (9, .int v)] [] s) (Y := fun s e => WS mM E 11 235 [(7, .int u62_7)] [] s) (fun s v s' w hb Kc Ke => wb_X6_read_l208 (rr := rr) O   hret Kc Ke hb) FU _ _ (s34, e35) c36 ?_
        show WS mM E 11 235 [(7, .int u62_7)] [] s34
        refine s_bipush (v := (-20)) O dX6_read_235 rfl ?_
        refine s_iload O 0 dX6_read_237 rfl ?_
        refine s_isub O dX6_read_239 ?_
        exact s_iret hret rfl dX6_read_240 hf
      · exact hf
    · replace hf := if_t c hf
      refine s_iconst (v := (-1)) O dX6_read_21 rfl ?_
      exact s_iret hret rfl dX6_read_22 hf
def rm_X6_torn : Room := { frames := 0, cells := 0, slots := 0, locals := 0 }
def f_X6_torn  (s0 : StA) : Option (StA × Int32) :=
  some (s0, (gi s0 0 32))
set_option maxHeartbeats 4000000 in
set_option maxRecDepth 100000 in
theorem k_X6_torn  {s0 zs : StA} {rr : Int32} (hf : f_X6_torn  s0 = some (zs, rr)) : CtI mM yX6_torn cX6_torn 1 .int rm_X6_torn (fun ph => [.ref (ph 0)]) s0 zs rr := by
  refine CtI.of (by decide +kernel) (fun ph => Nat.le_of_ble_eq_true rfl) (fun E O hret => ?_)
  have O : OK mM E RX6 cX6_torn 1 rm_X6_torn := O
  show WS mM E 1 0 [(0, rf E 0)] [] s0
  unfold f_X6_torn at hf
  refine s_aload_n O 0 dX6_torn_0 rfl rfl ?_
  refine s_getI O fg_RX6_308 ms_0 rfl dX6_torn_1 ?_
  exact s_iret hret rfl dX6_torn_4 hf
def rm_X6_count : Room := { frames := 1, cells := 0, slots := 0, locals := 20 }
def fj_X6_count_j60 (a1 : Int32) (x1 : Int32) (j2 : Int32) (j3 : Int32) (j4 : Int32) (j5 : Int32) (y0 : Int32) (y1 : Int32) (s0 : StA) : Option (StA × ((Int32 × Int32 × Int32) ⊕ (Int32 × Int32))) :=
  nmi (y1 + y0) (fun n3 => gd (j5 + 3) 189 ((if (gi s0 1 (j5 + 3).toNatClampNeg) = 0 then gd (j5 + 2) 189 ((if (gi s0 1 (j5 + 2).toNatClampNeg) = 1 then gd (j5 + 1) 189 (nmi (j3 + (gi s0 1 (j5 + 1).toNatClampNeg)) (fun n9 => some (s0, .inl (n3, n9, (j4 + 1))))) else nmi (j3 + 0) (fun n7 => some (s0, .inl (n3, n7, (j4 + 1)))))) else nmi (j3 + 0) (fun n5 => some (s0, .inl (n3, n5, (j4 + 1)))))))
set_option maxHeartbeats 4000000 in
set_option maxRecDepth 100000 in
theorem wj_X6_count_j60 {E : XC} (O : OK mM E RX6 cX6_count 6 rm_X6_count) {a1 : Int32}  {x1 : Int32} {j2 : Int32} {j3 : Int32} {j4 : Int32} {j5 : Int32} {y0 : Int32} {y1 : Int32} {s0 : StA} {zs : StA} {rr : Int32} (hret : ReI mM E .int cX6_count zs rr) {bs : StA} {bw : (Int32 × Int32 × Int32) ⊕ (Int32 × Int32)} (Kc : ∀ v, bw = .inl v → WS mM E 6 7 [(0, rf E 0), (1, .int x1), (2, .int v.1), (3, .int v.2.1), (4, .int v.2.2)] [] bs) (Ke : ∀ e, bw = .inr e → WS mM E 6 109 [(0, rf E 0), (1, .int x1), (2, .int e.1), (3, .int e.2)] [] bs) (hf : fj_X6_count_j60 a1 x1 j2 j3 j4 j5 y0 y1 s0 = some (bs, bw)) : WS mM E 6 60 [(0, rf E 0), (1, .int x1), (2, .int j2), (3, .int j3), (4, .int j4), (5, .int j5)] [.int y0, .int y1] s0 := by
  unfold fj_X6_count_j60 at hf
  refine s_iadd O dX6_count_60 ?_
  refine s_topi (fun n3 en3 => ?_)
  replace hf := nmi_e en3 hf
  refine s_istore_n (lv' := [(2, .int n3), (0, rf E 0), (1, .int x1), (3, .int j3), (4, .int j4), (5, .int j5)]) O dX6_count_61 rfl (by decide) rfl ?_
  refine s_iload_n O 3 dX6_count_62 rfl rfl ?_
  refine s_aload_n O 1 dX6_count_63 rfl rfl ?_
  refine s_getR O fg_RX6_7 ms_0 rfl dX6_count_64 ?_
  refine s_iload O 5 dX6_count_67 rfl ?_
  refine s_iconst (v := 3) O dX6_count_69 rfl ?_
  refine s_iadd O dX6_count_70 ?_
  obtain ⟨h4, hf⟩ := gd_e hf
  refine s_iald O ms_1 h4 dX6_count_71 ?_
  refine s_if_ne (tgt := 100) O dX6_count_72 (by decide) (fun c => ?_) (fun c => ?_)
  · replace hf := if_f c hf
    refine s_iconst (v := 0) O dX6_count_100 rfl ?_
    refine s_iadd O dX6_count_101 ?_
    refine s_topi (fun n5 en5 => ?_)
    replace hf := nmi_e en5 hf
    refine s_istore_n (lv' := [(3, .int n5), (2, .int n3), (0, rf E 0), (1, .int x1), (4, .int j4), (5, .int j5)]) O dX6_count_102 rfl (by decide) rfl ?_
    refine s_iinc (v := (j4 + 1)) (lv' := [(4, .int (j4 + 1)), (3, .int n5), (2, .int n3), (0, rf E 0), (1, .int x1), (5, .int j5)]) O 4 dX6_count_103 rfl rfl (by decide) rfl ?_
    refine s_goto (tgt := 7) O dX6_count_106 (by decide) ?_
    refine s_loc [3, 4, 2, 1, 0] rfl ?_
    cases hf
    exact Kc _ rfl
  · replace hf := if_t c hf
    refine s_aload_n O 1 dX6_count_75 rfl rfl ?_
    refine s_getR O fg_RX6_7 ms_0 rfl dX6_count_76 ?_
    refine s_iload O 5 dX6_count_79 rfl ?_
    refine s_iconst (v := 2) O dX6_count_81 rfl ?_
    refine s_iadd O dX6_count_82 ?_
    obtain ⟨h6, hf⟩ := gd_e hf
    refine s_iald O ms_1 h6 dX6_count_83 ?_
    refine s_iconst (v := 1) O dX6_count_84 rfl ?_
    refine s_icmp_ne (tgt := 100) O dX6_count_85 (by decide) (fun c => ?_) (fun c => ?_)
    · replace hf := if_f c hf
      refine s_iconst (v := 0) O dX6_count_100 rfl ?_
      refine s_iadd O dX6_count_101 ?_
      refine s_topi (fun n7 en7 => ?_)
      replace hf := nmi_e en7 hf
      refine s_istore_n (lv' := [(3, .int n7), (2, .int n3), (0, rf E 0), (1, .int x1), (4, .int j4), (5, .int j5)]) O dX6_count_102 rfl (by decide) rfl ?_
      refine s_iinc (v := (j4 + 1)) (lv' := [(4, .int (j4 + 1)), (3, .int n7), (2, .int n3), (0, rf E 0), (1, .int x1), (5, .int j5)]) O 4 dX6_count_103 rfl rfl (by decide) rfl ?_
      refine s_goto (tgt := 7) O dX6_count_106 (by decide) ?_
      refine s_loc [3, 4, 2, 1, 0] rfl ?_
      cases hf
      exact Kc _ rfl
    · replace hf := if_t c hf
      refine s_aload_n O 1 dX6_count_88 rfl rfl ?_
      refine s_getR O fg_RX6_7 ms_0 rfl dX6_count_89 ?_
      refine s_iload O 5 dX6_count_92 rfl ?_
      refine s_iconst (v := 1) O dX6_count_94 rfl ?_
      refine s_iadd O dX6_count_95 ?_
      obtain ⟨h8, hf⟩ := gd_e hf
      refine s_iald O ms_1 h8 dX6_count_96 ?_
      refine s_goto (tgt := 101) O dX6_count_97 (by decide) ?_
      refine s_iadd O dX6_count_101 ?_
      refine s_topi (fun n9 en9 => ?_)
      replace hf := nmi_e en9 hf
      refine s_istore_n (lv' := [(3, .int n9), (2, .int n3), (0, rf E 0), (1, .int x1), (4, .int j4), (5, .int j5)]) O dX6_count_102 rfl (by decide) rfl ?_
      refine s_iinc (v := (j4 + 1)) (lv' := [(4, .int (j4 + 1)), (3, .int n9), (2, .int n3), (0, rf E 0), (1, .int x1), (5, .int j5)]) O 4 dX6_count_103 rfl rfl (by decide) rfl ?_
      refine s_goto (tgt := 7) O dX6_count_106 (by decide) ?_
      refine s_loc [3, 4, 2, 1, 0] rfl ?_
      cases hf
      exact Kc _ rfl
def fj_X6_count_j59 (a1 : Int32) (x1 : Int32) (j2 : Int32) (j3 : Int32) (j4 : Int32) (j5 : Int32) (y0 : Int32) (s0 : StA) : Option (StA × ((Int32 × Int32 × Int32) ⊕ (Int32 × Int32))) :=
  fj_X6_count_j60 a1 x1 j2 j3 j4 j5 0 y0 s0
set_option maxHeartbeats 4000000 in
set_option maxRecDepth 100000 in
theorem wj_X6_count_j59 {E : XC} (O : OK mM E RX6 cX6_count 6 rm_X6_count) {a1 : Int32}  {x1 : Int32} {j2 : Int32} {j3 : Int32} {j4 : Int32} {j5 : Int32} {y0 : Int32} {s0 : StA} {zs : StA} {rr : Int32} (hret : ReI mM E .int cX6_count zs rr) {bs : StA} {bw : (Int32 × Int32 × Int32) ⊕ (Int32 × Int32)} (Kc : ∀ v, bw = .inl v → WS mM E 6 7 [(0, rf E 0), (1, .int x1), (2, .int v.1), (3, .int v.2.1), (4, .int v.2.2)] [] bs) (Ke : ∀ e, bw = .inr e → WS mM E 6 109 [(0, rf E 0), (1, .int x1), (2, .int e.1), (3, .int e.2)] [] bs) (hf : fj_X6_count_j59 a1 x1 j2 j3 j4 j5 y0 s0 = some (bs, bw)) : WS mM E 6 59 [(0, rf E 0), (1, .int x1), (2, .int j2), (3, .int j3), (4, .int j4), (5, .int j5)] [.int y0] s0 := by
  unfold fj_X6_count_j59 at hf
  refine s_iconst (v := 0) O dX6_count_59 rfl ?_
  exact wj_X6_count_j60 (rr := rr) O   hret Kc Ke hf
def fb_X6_count_l7 (a1 : Int32) (x1 : Int32) (s0 : StA) (v2 : Int32) (v3 : Int32) (v4 : Int32) : Option (StA × ((Int32 × Int32 × Int32) ⊕ (Int32 × Int32))) :=
  (if (gi s0 0 3) ≤ v4 then some (s0, .inr (v2, v3)) else nmi (4 * v4) (fun n1 => gd (n1 + 3) 189 ((if (gi s0 1 (n1 + 3).toNatClampNeg) = 0 then gd (n1 + 2) 189 ((if (gi s0 1 (n1 + 2).toNatClampNeg) = 0 then gd (n1 + 1) 189 (fj_X6_count_j60 a1 x1 v2 v3 v4 n1 (gi s0 1 (n1 + 1).toNatClampNeg) v2 s0) else fj_X6_count_j59 a1 x1 v2 v3 v4 n1 v2 s0)) else fj_X6_count_j59 a1 x1 v2 v3 v4 n1 v2 s0))))
set_option maxHeartbeats 4000000 in
set_option maxRecDepth 100000 in
theorem wb_X6_count_l7 {E : XC} (O : OK mM E RX6 cX6_count 6 rm_X6_count) {a1 : Int32}  {x1 : Int32} {s0 : StA} {v2 : Int32} {v3 : Int32} {v4 : Int32} {zs : StA} {rr : Int32} (hret : ReI mM E .int cX6_count zs rr) {bs : StA} {bw : (Int32 × Int32 × Int32) ⊕ (Int32 × Int32)} (Kc : ∀ v, bw = .inl v → WS mM E 6 7 [(0, rf E 0), (1, .int x1), (2, .int v.1), (3, .int v.2.1), (4, .int v.2.2)] [] bs) (Ke : ∀ e, bw = .inr e → WS mM E 6 109 [(0, rf E 0), (1, .int x1), (2, .int e.1), (3, .int e.2)] [] bs) (hf : fb_X6_count_l7 a1 x1 s0 v2 v3 v4 = some (bs, bw)) : WS mM E 6 7 [(0, rf E 0), (1, .int x1), (2, .int v2), (3, .int v3), (4, .int v4)] [] s0 := by
  unfold fb_X6_count_l7 at hf
  refine s_iload O 4 dX6_count_7 rfl ?_
  refine s_aload_n O 0 dX6_count_9 rfl rfl ?_
  refine s_getI O fg_RX6_64 ms_0 rfl dX6_count_10 ?_
  refine s_icmp_ge (tgt := 109) O dX6_count_13 (by decide) (fun c => ?_) (fun c => ?_)
  · replace hf := if_t c hf
    refine s_loc [0, 1, 2, 3] rfl ?_
    cases hf
    exact Ke _ rfl
  · replace hf := if_f c hf
    refine s_iconst (v := 4) O dX6_count_16 rfl ?_
    refine s_iload O 4 dX6_count_17 rfl ?_
    refine s_imul O dX6_count_19 ?_
    refine s_topi (fun n1 en1 => ?_)
    replace hf := nmi_e en1 hf
    refine s_istore (lv' := [(5, .int n1), (0, rf E 0), (1, .int x1), (2, .int v2), (3, .int v3), (4, .int v4)]) O dX6_count_20 (by decide) rfl ?_
    refine s_iload_n O 3 dX6_count_22 rfl rfl ?_
    refine s_aload_n O 1 dX6_count_23 rfl rfl ?_
    refine s_getR O fg_RX6_7 ms_0 rfl dX6_count_24 ?_
    refine s_iload O 0 dX6_count_27 rfl ?_
    refine s_iconst (v := 3) O dX6_count_29 rfl ?_
    refine s_iadd O dX6_count_30 ?_
    obtain ⟨h2, hf⟩ := gd_e hf
    refine s_iald O ms_1 h2 dX6_count_31 ?_
    refine s_if_ne (tgt := 59) O dX6_count_32 (by decide) (fun c => ?_) (fun c => ?_)
    · replace hf := if_f c hf
      refine s_loc [1, 2, 3, 4, 5, 0] rfl ?_
      exact wj_X6_count_j59 (rr := rr) O   hret Kc Ke hf
    · replace hf := if_t c hf
      refine s_aload_n O 1 dX6_count_35 rfl rfl ?_
      refine s_getR O fg_RX6_7 ms_0 rfl dX6_count_36 ?_
      refine s_iload O 0 dX6_count_39 rfl ?_
      refine s_iconst (v := 2) O dX6_count_41 rfl ?_
      refine s_iadd O dX6_count_42 ?_
      obtain ⟨h10, hf⟩ := gd_e hf
      refine s_iald O ms_1 h10 dX6_count_43 ?_
      refine s_if_ne (tgt := 59) O dX6_count_44 (by decide) (fun c => ?_) (fun c => ?_)
      · replace hf := if_f c hf
        refine s_loc [1, 2, 3, 4, 5, 0] rfl ?_
        exact wj_X6_count_j59 (rr := rr) O   hret Kc Ke hf
      · replace hf := if_t c hf
        refine s_aload_n O 1 dX6_count_47 rfl rfl ?_
        refine s_getR O fg_RX6_7 ms_0 rfl dX6_count_48 ?_
        refine s_iload O 0 dX6_count_51 rfl ?_
        refine s_iconst (v := 1) O dX6_count_53 rfl ?_
        refine s_iadd O dX6_count_54 ?_
        obtain ⟨h11, hf⟩ := gd_e hf
        refine s_iald O ms_1 h11 dX6_count_55 ?_
        refine s_goto (tgt := 60) O dX6_count_56 (by decide) ?_
        refine s_loc [1, 2, 3, 4, 5, 0] rfl ?_
        exact wj_X6_count_j60 (rr := rr) O   hret Kc Ke hf
def fl_X6_count_l7 (a1 : Int32) (x1 : Int32) (s0 : StA) (v : Int32 × Int32 × Int32) : Option (StA × ((Int32 × Int32))) :=
  it (fun s v => fb_X6_count_l7 a1 x1 s v.1 v.2.1 v.2.2) FU s0 v
def f_X6_count (a1 : Int32) (s0 : StA) : Option (StA × Int32) :=
  bn (fl_X6_count_l7 a1 a1 s0 (0, 0, 0)) (fun s12 e13 => match e13 with | (u7_2, u7_3) => (if a1 = 0 then gd 50 189 (some (s12, (gi s12 1 (50 : Int32).toNatClampNeg))) else if a1 = 1 then gd 0 2 (bn (f_X6_flag (gi s12 3 (0 : Int32).toNatClampNeg) s12) (fun s17 r18 => gd 1 2 (bn (f_X6_flag (gi s17 3 (1 : Int32).toNatClampNeg) s17) (fun s21 r22 => some (s21, (r18 + r22)))))) else if a1 = 2 then some (s12, (gi s12 0 10)) else if a1 = 3 then gd 0 4 ((if (gi s12 8 (0 : Int32).toNatClampNeg) = (-4) then some (s12, (-4)) else gd 0 4 (some (s12, (gi s12 9 (0 : Int32).toNatClampNeg))))) else if a1 = 4 then some (s12, u7_2) else if a1 = 5 then some (s12, u7_3) else some (s12, (-1))))
set_option maxHeartbeats 4000000 in
set_option maxRecDepth 100000 in
theorem k_X6_count {a1 : Int32} {s0 zs : StA} {rr : Int32} (hf : f_X6_count a1 s0 = some (zs, rr)) : CtI mM yX6_count cX6_count 6 .int rm_X6_count (fun ph => [.ref (ph 0), .int a1]) s0 zs rr := by
  refine CtI.of (by decide +kernel) (fun ph => Nat.le_of_ble_eq_true rfl) (fun E O hret => ?_)
  have O : OK mM E RX6 cX6_count 6 rm_X6_count := O
  show WS mM E 6 0 [(0, rf E 0), (1, .int a1)] [] s0
  unfold f_X6_count at hf
  refine s_iconst (v := 0) O dX6_count_0 rfl ?_
  refine s_istore_n (lv' := [(2, .int 0), (0, rf E 0), (1, .int a1)]) O dX6_count_1 rfl (by decide) rfl ?_
  refine s_iconst (v := 0) O dX6_count_2 rfl ?_
  refine s_istore_n (lv' := [(3, .int 0), (2, .int 0), (0, rf E 0), (1, .int a1)]) O dX6_count_3 rfl (by decide) rfl ?_
  refine s_iconst (v := 0) O dX6_count_4 rfl ?_
  refine s_istore (lv' := [(4, .int 0), (3, .int 0), (2, .int 0), (0, rf E 0), (1, .int a1)]) O dX6_count_5 (by decide) rfl ?_
  refine s_loc [3, 4, 2, 1, 0] rfl ?_
  obtain ⟨s12, e13, c14, hf⟩ := bn_e hf
  obtain ⟨u7_2, u7_3⟩ := e13
  refine lp_of (body := fun s v => fb_X6_count_l7 a1 a1 s v.1 v.2.1 v.2.2) (X := fun s v => WS mM E 6 7 [(0, rf E 0), (1, .int a1), (2, .int v.1), (3, .int v.2.1), (4, .int v.2.2)] [] s) (Y := fun s e => WS mM E 6 109 [(0, rf E 0), (1, .int a1), (2, .int e.1), (3, .int e.2)] [] s) (fun s v s' w hb Kc Ke => wb_X6_count_l7 (rr := rr) O   hret Kc Ke hb) FU _ _ (s12, (u7_2, u7_3)) c14 ?_
  show WS mM E 6 109 [(0, rf E 0), (1, .int a1), (2, .int u7_2), (3, .int u7_3)] [] s12
  refine s_iload_n O 1 dX6_count_109 rfl rfl ?_
  by_cases q0 : a1 = 0
  · replace hf := if_t q0 hf
    refine s_tabE (v := 0) (tgt := 148) O dX6_count_110 q0 (by decide) (by decide) rfl (by decide) ?_
    refine s_aload_n O 0 dX6_count_148 rfl rfl ?_
    refine s_getR O fg_RX6_7 ms_0 rfl dX6_count_149 ?_
    refine s_bipush (v := 50) O dX6_count_152 rfl ?_
    obtain ⟨h15, hf⟩ := gd_e hf
    refine s_iald O ms_1 h15 dX6_count_154 ?_
    exact s_iret hret rfl dX6_count_155 hf
  · replace hf := if_f q0 hf
    by_cases q1 : a1 = 1
    · replace hf := if_t q1 hf
      refine s_tabE (v := 1) (tgt := 156) O dX6_count_110 q1 (by decide) (by decide) rfl (by decide) ?_
      refine s_aload_n O 0 dX6_count_156 rfl rfl ?_
      refine s_getR O fg_RX6_16 ms_0 rfl dX6_count_157 ?_
      refine s_iconst (v := 0) O dX6_count_160 rfl ?_
      obtain ⟨h16, hf⟩ := gd_e hf
      refine s_zald O ms_3 h16 dX6_count_161 ?_
      obtain ⟨s17, r18, c19, hf⟩ := bn_e hf
      refine s_SI (As := [.int (gi s12 3 (0 : Int32).toNatClampNeg)]) (st := []) O lk_RX6_219 (k_X6_flag c19) rfl rfl ⟨rfl, rfl⟩ ⟨Nat.le_of_ble_eq_true rfl, Nat.le_of_ble_eq_true rfl⟩ rfl (Nat.le_of_ble_eq_true rfl) dX6_count_162 ?_
      refine s_aload_n O 0 dX6_count_165 rfl rfl ?_
      refine s_getR O fg_RX6_16 ms_0 rfl dX6_count_166 ?_
      refine s_iconst (v := 1) O dX6_count_169 rfl ?_
      obtain ⟨h20, hf⟩ := gd_e hf
      refine s_zald O ms_3 h20 dX6_count_170 ?_
      obtain ⟨s21, r22, c23, hf⟩ := bn_e hf
      refine s_SI (As := [.int (gi s17 3 (1 : Int32).toNatClampNeg)]) (st := [.int r18]) O lk_RX6_219 (k_X6_flag c23) rfl rfl ⟨rfl, rfl⟩ ⟨Nat.le_of_ble_eq_true rfl, Nat.le_of_ble_eq_true rfl⟩ rfl (Nat.le_of_ble_eq_true rfl) dX6_count_171 ?_
      refine s_iadd O dX6_count_174 ?_
      exact s_iret hret rfl dX6_count_175 hf
    · replace hf := if_f q1 hf
      by_cases q2 : a1 = 2
      · replace hf := if_t q2 hf
        refine s_tabE (v := 2) (tgt := 176) O dX6_count_110 q2 (by decide) (by decide) rfl (by decide) ?_
        refine s_aload_n O 0 dX6_count_176 rfl rfl ?_
        refine s_getI O fg_RX6_73 ms_0 rfl dX6_count_177 ?_
        exact s_iret hret rfl dX6_count_180 hf
      · replace hf := if_f q2 hf
        by_cases q3 : a1 = 3
        · replace hf := if_t q3 hf
          refine s_tabE (v := 3) (tgt := 181) O dX6_count_110 q3 (by decide) (by decide) rfl (by decide) ?_
          refine s_aload_n O 0 dX6_count_181 rfl rfl ?_
          refine s_getR O fg_RX6_32 ms_0 rfl dX6_count_182 ?_
          refine s_iconst (v := 0) O dX6_count_185 rfl ?_
          obtain ⟨h24, hf⟩ := gd_e hf
          refine s_iald O ms_8 h24 dX6_count_186 ?_
          refine s_bipush (v := (-4)) O dX6_count_187 rfl ?_
          refine s_icmp_ne (tgt := 197) O dX6_count_189 (by decide) (fun c => ?_) (fun c => ?_)
          · replace hf := if_f c hf
            refine s_aload_n O 0 dX6_count_197 rfl rfl ?_
            refine s_getR O fg_RX6_35 ms_0 rfl dX6_count_198 ?_
            refine s_iconst (v := 0) O dX6_count_201 rfl ?_
            obtain ⟨h25, hf⟩ := gd_e hf
            refine s_iald O ms_9 h25 dX6_count_202 ?_
            exact s_iret hret rfl dX6_count_203 hf
          · replace hf := if_t c hf
            refine s_bipush (v := (-4)) O dX6_count_192 rfl ?_
            refine s_goto (tgt := 203) O dX6_count_194 (by decide) ?_
            exact s_iret hret rfl dX6_count_203 hf
        · replace hf := if_f q3 hf
          by_cases q4 : a1 = 4
          · replace hf := if_t q4 hf
            refine s_tabE (v := 4) (tgt := 204) O dX6_count_110 q4 (by decide) (by decide) rfl (by decide) ?_
            refine s_iload_n O 2 dX6_count_204 rfl rfl ?_
            exact s_iret hret rfl dX6_count_205 hf
          · replace hf := if_f q4 hf
            by_cases q5 : a1 = 5
            · replace hf := if_t q5 hf
              refine s_tabE (v := 5) (tgt := 206) O dX6_count_110 q5 (by decide) (by decide) rfl (by decide) ?_
              refine s_iload_n O 3 dX6_count_206 rfl rfl ?_
              exact s_iret hret rfl dX6_count_207 hf
            · replace hf := if_f q5 hf
              have z0 := lv_neT q0 (a := 0) rfl
              have z1 := lv_neT q1 (a := 1) rfl
              have z2 := lv_neT q2 (a := 2) rfl
              have z3 := lv_neT q3 (a := 3) rfl
              have z4 := lv_neT q4 (a := 4) rfl
              have z5 := lv_neT q5 (a := 5) rfl
              refine s_tabO (tgt := 208) O dX6_count_110 (by omega) (by decide) ?_
              refine s_iconst (v := (-1)) O dX6_count_208 rfl ?_
              exact s_iret hret rfl dX6_count_209 hf
