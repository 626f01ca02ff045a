def rm_X1_unsaidWeight : Room := { frames := 1, cells := 0, slots := 0, locals := 21 }
def fb_X1_unsaidWeight_l4 (k : Nat) (a1 : Int32) (x1 : Int32) (s0 : StA) (v2 : Int32) (v3 : Int32) : Option (StA × ((Int32 × Int32) ⊕ (Int32))) :=
  (if (gi s0 k 6) ≤ v3 then some (s0, .inr v2) else gd v3 6 ((if (gi s0 (k + 3) v3.toNatClampNeg) = x1 then bn (f_X1_isSaid k v3 s0) (fun s2 r3 => (if r3 = 0 then gd v3 6 (nmi (v2 + (gi s2 (k + 2) v3.toNatClampNeg)) (fun n6 => some (s2, .inl (n6, (v3 + 1))))) else some (s2, .inl (v2, (v3 + 1))))) else some (s0, .inl (v2, (v3 + 1))))))
set_option maxHeartbeats 4000000 in
set_option maxRecDepth 100000 in
theorem wb_X1_unsaidWeight_l4 {E : XC} (O : OK cM E RX1 cX1_unsaidWeight 4 rm_X1_unsaidWeight) {k : Nat} {a1 : Int32} (hk : isFl k)  {x1 : Int32} {s0 : StA} {v2 : Int32} {v3 : Int32} {zs : StA} {rr : Int32} (hret : ReI cM E .int cX1_unsaidWeight zs rr) {bs : StA} {bw : (Int32 × Int32) ⊕ (Int32)} (Kc : ∀ v, bw = .inl v → WS cM E 4 4 [(0, rf E k), (1, .int x1), (2, .int v.1), (3, .int v.2)] [] bs) (Ke : ∀ e, bw = .inr e → WS cM E 4 45 [(2, .int e)] [] bs) (hf : fb_X1_unsaidWeight_l4 k a1 x1 s0 v2 v3 = some (bs, bw)) : WS cM E 4 4 [(0, rf E k), (1, .int x1), (2, .int v2), (3, .int v3)] [] s0 := by
  unfold fb_X1_unsaidWeight_l4 at hf
  refine s_iload_n O 3 dX1_unsaidWeight_4 rfl rfl ?_
  refine s_aload_n O 0 dX1_unsaidWeight_5 rfl rfl ?_
  refine s_getI O fg_RX1_46 (fl_0 hk) rfl dX1_unsaidWeight_6 ?_
  refine s_icmp_ge (tgt := 45) O dX1_unsaidWeight_9 (by decide) (fun c => ?_) (fun c => ?_)
  · replace hf := if_t c hf
    refine s_loc [2] rfl ?_
    cases hf
    exact Ke _ rfl
  · replace hf := if_f c hf
    refine s_aload_n O 0 dX1_unsaidWeight_12 rfl rfl ?_
    refine s_getR O fg_RX1_18 (fl_0 hk) rfl dX1_unsaidWeight_13 ?_
    refine s_iload_n O 3 dX1_unsaidWeight_16 rfl rfl ?_
    obtain ⟨h1, hf⟩ := gd_e hf
    refine s_iald O (fl_3 hk) h1 dX1_unsaidWeight_17 ?_
    refine s_iload_n O 1 dX1_unsaidWeight_18 rfl rfl ?_
    refine s_icmp_ne (tgt := 39) O dX1_unsaidWeight_19 (by decide) (fun c => ?_) (fun c => ?_)
    · replace hf := if_f c hf
      refine s_iinc (v := (v3 + 1)) (lv' := [(3, .int (v3 + 1)), (0, rf E k), (1, .int x1), (2, .int v2)]) O 3 dX1_unsaidWeight_39 rfl rfl (by decide) rfl ?_
      refine s_goto (tgt := 4) O dX1_unsaidWeight_42 (by decide) ?_
      refine s_loc [1, 2, 3, 0] rfl ?_
      cases hf
      exact Kc _ rfl
    · replace hf := if_t c hf
      refine s_aload_n O 0 dX1_unsaidWeight_22 rfl rfl ?_
      refine s_iload_n O 3 dX1_unsaidWeight_23 rfl rfl ?_
      obtain ⟨s2, r3, c4, hf⟩ := bn_e hf
      refine s_VI (As := [.int v3]) (st := []) O lk_RX1_80 (k_X1_isSaid hk c4) rfl (fl_0 hk) rfl rfl ⟨rfl, rfl⟩ ⟨Nat.le_of_ble_eq_true rfl, Nat.le_of_ble_eq_true rfl⟩ rfl (Nat.le_of_ble_eq_true rfl) dX1_unsaidWeight_24 ?_
      refine s_if_ne (tgt := 39) O dX1_unsaidWeight_27 (by decide) (fun c => ?_) (fun c => ?_)
      · replace hf := if_f c hf
        refine s_iinc (v := (v3 + 1)) (lv' := [(3, .int (v3 + 1)), (0, rf E k), (1, .int x1), (2, .int v2)]) O 3 dX1_unsaidWeight_39 rfl rfl (by decide) rfl ?_
        refine s_goto (tgt := 4) O dX1_unsaidWeight_42 (by decide) ?_
        refine s_loc [1, 2, 3, 0] rfl ?_
        cases hf
        exact Kc _ rfl
      · replace hf := if_t c hf
        refine s_iload_n O 2 dX1_unsaidWeight_30 rfl rfl ?_
        refine s_aload_n O 0 dX1_unsaidWeight_31 rfl rfl ?_
        refine s_getR O fg_RX1_15 (fl_0 hk) rfl dX1_unsaidWeight_32 ?_
        refine s_iload_n O 3 dX1_unsaidWeight_35 rfl rfl ?_
        obtain ⟨h5, hf⟩ := gd_e hf
        refine s_iald O (fl_2 hk) h5 dX1_unsaidWeight_36 ?_
        refine s_iadd O dX1_unsaidWeight_37 ?_
        refine s_topi (fun n6 en6 => ?_)
        replace hf := nmi_e en6 hf
        refine s_istore_n (lv' := [(2, .int n6), (0, rf E k), (1, .int x1), (3, .int v3)]) O dX1_unsaidWeight_38 rfl (by decide) rfl ?_
        refine s_iinc (v := (v3 + 1)) (lv' := [(3, .int (v3 + 1)), (2, .int n6), (0, rf E k), (1, .int x1)]) O 3 dX1_unsaidWeight_39 rfl rfl (by decide) rfl ?_
        refine s_goto (tgt := 4) O dX1_unsaidWeight_42 (by decide) ?_
        refine s_loc [2, 3, 1, 0] rfl ?_
        cases hf
        exact Kc _ rfl
def fl_X1_unsaidWeight_l4 (k : Nat) (a1 : Int32) (x1 : Int32) (s0 : StA) (v : Int32 × Int32) : Option (StA × ((Int32))) :=
  it (fun s v => fb_X1_unsaidWeight_l4 k a1 x1 s v.1 v.2) FU s0 v
def f_X1_unsaidWeight (k : Nat) (a1 : Int32) (s0 : StA) : Option (StA × Int32) :=
  bn (fl_X1_unsaidWeight_l4 k a1 a1 s0 (0, 0)) (fun s7 u4_2 => some (s7, u4_2))
set_option maxHeartbeats 4000000 in
set_option maxRecDepth 100000 in
theorem k_X1_unsaidWeight {k : Nat} {a1 : Int32} (hk : isFl k) {s0 zs : StA} {rr : Int32} (hf : f_X1_unsaidWeight k a1 s0 = some (zs, rr)) : CtI cM yX1_unsaidWeight cX1_unsaidWeight 4 .int rm_X1_unsaidWeight (fun ph => [.ref (ph k), .int a1]) s0 zs rr := by
  refine CtI.of (by decide +kernel) (fun ph => Nat.le_of_ble_eq_true rfl) (fun E O hret => ?_)
  have O : OK cM E RX1 cX1_unsaidWeight 4 rm_X1_unsaidWeight := O
  show WS cM E 4 0 [(0, rf E k), (1, .int a1)] [] s0
  unfold f_X1_unsaidWeight at hf
  refine s_iconst (v := 0) O dX1_unsaidWeight_0 rfl ?_
  refine s_istore_n (lv' := [(2, .int 0), (0, rf E k), (1, .int a1)]) O dX1_unsaidWeight_1 rfl (by decide) rfl ?_
  refine s_iconst (v := 0) O dX1_unsaidWeight_2 rfl ?_
  refine s_istore_n (lv' := [(3, .int 0), (2, .int 0), (0, rf E k), (1, .int a1)]) O dX1_unsaidWeight_3 rfl (by decide) rfl ?_
  refine s_loc [2, 3, 1, 0] rfl ?_
  obtain ⟨s7, u4_2, c9, hf⟩ := bn_e hf
  refine lp_of (body := fun s v => fb_X1_unsaidWeight_l4 k a1 a1 s v.1 v.2) (X := fun s v => WS cM E 4 4 [(0, rf E k), (1, .int a1), (2, .int v.1), (3, .int v.2)] [] s) (Y := fun s e => WS cM E 4 45 [(2, .int e)] [] s) (fun s v s' w hb Kc Ke => wb_X1_unsaidWeight_l4 (rr := rr) O hk  hret Kc Ke hb) FU _ _ (s7, u4_2) c9 ?_
  show WS cM E 4 45 [(2, .int u4_2)] [] s7
  refine s_iload_n O 0 dX1_unsaidWeight_45 rfl rfl ?_
  exact s_iret hret rfl dX1_unsaidWeight_46 hf
def rm_X5_count : Room := { frames := 2, cells := 0, slots := 0, locals := 44 }
def f_X5_count (a1 : Int32) (s0 : StA) : Option (StA × Int32) :=
  (if a1 = 0 then some (s0, (gi s0 9 2)) else if a1 = 1 then bn (f_X5_keptImages  s0) (fun s1 r2 => some (s1, r2)) else if a1 = 2 then some (s0, (gi s0 47 2)) else if a1 = 3 then gd 0 4 (bn (f_X4_isNothing (51 + 2 * (0 : Int32).toNatClampNeg) s0) (fun s5 r6 => (if r6 = 0 then gd 0 4 (some (s5, (gi s5 (51 + 2 * (0 : Int32).toNatClampNeg) 2))) else some (s5, (-4))))) else if a1 = 4 then bn (f_X1_unsaidWeight 1 0 s0) (fun s9 r10 => some (s9, r10)) else if a1 = 5 then bn (f_X1_unsaidWeight 1 1 s0) (fun s12 r13 => some (s12, r13)) else some (s0, (-1)))
set_option maxHeartbeats 4000000 in
set_option maxRecDepth 100000 in
theorem k_X5_count {a1 : Int32} {s0 zs : StA} {rr : Int32} (hf : f_X5_count a1 s0 = some (zs, rr)) : CtI cM yX5_count cX5_count 2 .int rm_X5_count (fun ph => [.ref (ph 0), .int a1]) s0 zs rr := by
  refine CtI.of (by decide +kernel) (fun ph => Nat.le_of_ble_eq_true rfl) (fun E O hret => ?_)
  have O : OK cM E RX5 cX5_count 2 rm_X5_count := O
  show WS cM E 2 0 [(0, rf E 0), (1, .int a1)] [] s0
  unfold f_X5_count at hf
  refine s_iload_n O 1 dX5_count_0 rfl rfl ?_
  by_cases q0 : a1 = 0
  · replace hf := if_t q0 hf
    refine s_tabE (v := 0) (tgt := 40) O dX5_count_1 q0 (by decide) (by decide) rfl (by decide) ?_
    refine s_aload_n O 0 dX5_count_40 rfl rfl ?_
    refine s_getR O fg_RX5_10 cs_0 rfl dX5_count_41 ?_
    refine s_getR O fg_RX5_233 cs_1 rfl dX5_count_44 ?_
    refine s_getI O fg_RX5_109 cs_9 rfl dX5_count_47 ?_
    exact s_iret hret rfl dX5_count_50 hf
  · replace hf := if_f q0 hf
    by_cases q1 : a1 = 1
    · replace hf := if_t q1 hf
      refine s_tabE (v := 1) (tgt := 51) O dX5_count_1 q1 (by decide) (by decide) rfl (by decide) ?_
      refine s_aload_n O 0 dX5_count_51 rfl rfl ?_
      obtain ⟨s1, r2, c3, hf⟩ := bn_e hf
      refine s_VI (As := []) (st := []) O lk_RX5_297 (k_X5_keptImages c3) rfl cs_0 rfl rfl ⟨rfl, rfl⟩ ⟨Nat.le_of_ble_eq_true rfl, Nat.le_of_ble_eq_true rfl⟩ rfl (Nat.le_of_ble_eq_true rfl) dX5_count_52 ?_
      exact s_iret hret rfl dX5_count_55 hf
    · replace hf := if_f q1 hf
      by_cases q2 : a1 = 2
      · replace hf := if_t q2 hf
        refine s_tabE (v := 2) (tgt := 56) O dX5_count_1 q2 (by decide) (by decide) rfl (by decide) ?_
        refine s_aload_n O 0 dX5_count_56 rfl rfl ?_
        refine s_getR O fg_RX5_30 cs_0 rfl dX5_count_57 ?_
        refine s_getI O fg_RX5_300 cs_47 rfl dX5_count_60 ?_
        exact s_iret hret rfl dX5_count_63 hf
      · replace hf := if_f q2 hf
        by_cases q3 : a1 = 3
        · replace hf := if_t q3 hf
          refine s_tabE (v := 3) (tgt := 64) O dX5_count_1 q3 (by decide) (by decide) rfl (by decide) ?_
          refine s_aload_n O 0 dX5_count_64 rfl rfl ?_
          refine s_getR O fg_RX5_36 cs_0 rfl dX5_count_65 ?_
          refine s_iconst (v := 0) O dX5_count_68 rfl ?_
          obtain ⟨h4, hf⟩ := gd_e hf
          refine s_aald O cs_50 (Or.inr (Or.inl rfl)) h4 dX5_count_69 ?_
          obtain ⟨s5, r6, c7, hf⟩ := bn_e hf
          refine s_VI (As := []) (st := []) O lk_RX5_303 (k_X4_isNothing (im_sh h4) c7) rfl (sk_0 (im_sh h4)) rfl rfl ⟨rfl, rfl⟩ ⟨Nat.le_of_ble_eq_true rfl, Nat.le_of_ble_eq_true rfl⟩ rfl (Nat.le_of_ble_eq_true rfl) dX5_count_70 ?_
          refine s_if_eq (tgt := 81) O dX5_count_73 (by decide) (fun c => ?_) (fun c => ?_)
          · replace hf := if_t c hf
            refine s_aload_n O 0 dX5_count_81 rfl rfl ?_
            refine s_getR O fg_RX5_36 cs_0 rfl dX5_count_82 ?_
            refine s_iconst (v := 0) O dX5_count_85 rfl ?_
            obtain ⟨h8, hf⟩ := gd_e hf
            refine s_aald O cs_50 (Or.inr (Or.inl rfl)) h8 dX5_count_86 ?_
            refine s_getI O fg_RX5_306 (sk_0 (im_sh h8)) rfl dX5_count_87 ?_
            exact s_iret hret rfl dX5_count_90 hf
          · replace hf := if_f c hf
            refine s_bipush (v := (-4)) O dX5_count_76 rfl ?_
            refine s_goto (tgt := 90) O dX5_count_78 (by decide) ?_
            exact s_iret hret rfl dX5_count_90 hf
        · replace hf := if_f q3 hf
          by_cases q4 : a1 = 4
          · replace hf := if_t q4 hf
            refine s_tabE (v := 4) (tgt := 91) O dX5_count_1 q4 (by decide) (by decide) rfl (by decide) ?_
            refine s_aload_n O 0 dX5_count_91 rfl rfl ?_
            refine s_getR O fg_RX5_10 cs_0 rfl dX5_count_92 ?_
            refine s_iconst (v := 0) O dX5_count_95 rfl ?_
            obtain ⟨s9, r10, c11, hf⟩ := bn_e hf
            refine s_VI (As := [.int 0]) (st := []) O lk_RX5_307 (k_X1_unsaidWeight fl_is1 c11) rfl cs_1 rfl rfl ⟨rfl, rfl⟩ ⟨Nat.le_of_ble_eq_true rfl, Nat.le_of_ble_eq_true rfl⟩ rfl (Nat.le_of_ble_eq_true rfl) dX5_count_96 ?_
            exact s_iret hret rfl dX5_count_99 hf
          · replace hf := if_f q4 hf
            by_cases q5 : a1 = 5
            · replace hf := if_t q5 hf
              refine s_tabE (v := 5) (tgt := 100) O dX5_count_1 q5 (by decide) (by decide) rfl (by decide) ?_
              refine s_aload_n O 0 dX5_count_100 rfl rfl ?_
              refine s_getR O fg_RX5_10 cs_0 rfl dX5_count_101 ?_
              refine s_iconst (v := 1) O dX5_count_104 rfl ?_
              obtain ⟨s12, r13, c14, hf⟩ := bn_e hf
              refine s_VI (As := [.int 1]) (st := []) O lk_RX5_307 (k_X1_unsaidWeight fl_is1 c14) rfl cs_1 rfl rfl ⟨rfl, rfl⟩ ⟨Nat.le_of_ble_eq_true rfl, Nat.le_of_ble_eq_true rfl⟩ rfl (Nat.le_of_ble_eq_true rfl) dX5_count_105 ?_
              exact s_iret hret rfl dX5_count_108 hf
            · replace hf := if_f q5 hf
              have z0 := lv_neT q0 (a := 0) rfl
              have z1 := lv_neT q1 (a := 1) rfl
              have z2 := lv_neT q2 (a := 2) rfl
              have z3 := lv_neT q3 (a := 3) rfl
              have z4 := lv_neT q4 (a := 4) rfl
              have z5 := lv_neT q5 (a := 5) rfl
              refine s_tabO (tgt := 109) O dX5_count_1 (by omega) (by decide) ?_
              refine s_iconst (v := (-1)) O dX5_count_109 rfl ?_
              exact s_iret hret rfl dX5_count_110 hf
def rm_X6_firstDraft : Room := { frames := 0, cells := 0, slots := 0, locals := 0 }
def fb_X6_firstDraft_l2   (s0 : StA) (v1 : Int32) : Option (StA × ((Int32) ⊕ (Unit))) :=
  (if 63 ≤ v1 then some (s0, .inr ()) else gd v1 63 (nms (si s0 4 v1.toNatClampNeg 0) (fun s2 => some (s2, .inl (v1 + 1)))))
set_option maxHeartbeats 4000000 in
set_option maxRecDepth 100000 in
theorem wb_X6_firstDraft_l2 {E : XC} (O : OK mM E RX6 cX6_firstDraft 2 rm_X6_firstDraft)    {s0 : StA} {v1 : Int32} {zs : StA} {rr : Unit} (hret : ReV mM E cX6_firstDraft zs) {bs : StA} {bw : (Int32) ⊕ (Unit)} (Kc : ∀ v, bw = .inl v → WS mM E 2 2 [(0, rf E 0), (1, .int v)] [] bs) (Ke : ∀ e, bw = .inr e → WS mM E 2 21 [(0, rf E 0)] [] bs) (hf : fb_X6_firstDraft_l2  s0 v1 = some (bs, bw)) : WS mM E 2 2 [(0, rf E 0), (1, .int v1)] [] s0 := by
  unfold fb_X6_firstDraft_l2 at hf
  refine s_iload_n O 1 dX6_firstDraft_2 rfl rfl ?_
  refine s_bipush (v := 63) O dX6_firstDraft_3 rfl ?_
  refine s_icmp_ge (tgt := 21) O dX6_firstDraft_5 (by decide) (fun c => ?_) (fun c => ?_)
  · replace hf := if_t c hf
    refine s_loc [0] rfl ?_
    cases hf
    exact Ke _ rfl
  · replace hf := if_f c hf
    refine s_aload_n O 0 dX6_firstDraft_8 rfl rfl ?_
    refine s_getR O fg_RX6_20 ms_0 rfl dX6_firstDraft_9 ?_
    refine s_iload_n O 1 dX6_firstDraft_12 rfl rfl ?_
    refine s_iconst (v := 0) O dX6_firstDraft_13 rfl ?_
    obtain ⟨h1, hf⟩ := gd_e hf
    refine s_iast O ms_4 h1 dX6_firstDraft_14 ?_
    refine s_tops (fun s2 es2 => ?_)
    replace hf := nms_e es2 hf
    refine s_iinc (v := (v1 + 1)) (lv' := [(1, .int (v1 + 1)), (0, rf E 0)]) O 1 dX6_firstDraft_15 rfl rfl (by decide) rfl ?_
    refine s_goto (tgt := 2) O dX6_firstDraft_18 (by decide) ?_
    refine s_loc [1, 0] rfl ?_
    cases hf
    exact Kc _ rfl
def fl_X6_firstDraft_l2   (s0 : StA) (v : Int32) : Option (StA × ((Unit))) :=
  it (fun s v => fb_X6_firstDraft_l2  s v) FU s0 v
def fb_X6_firstDraft_l23   (s0 : StA) (v1 : Int32) : Option (StA × ((Int32) ⊕ (Unit))) :=
  (if 5 ≤ v1 then some (s0, .inr ()) else gd (28 + v1) 63 (nms (si s0 4 ((28 + v1).toNatClampNeg) 4) (fun s7 => some (s7, .inl (v1 + 1)))))
set_option maxHeartbeats 4000000 in
set_option maxRecDepth 100000 in
theorem wb_X6_firstDraft_l23 {E : XC} (O : OK mM E RX6 cX6_firstDraft 2 rm_X6_firstDraft)    {s0 : StA} {v1 : Int32} {zs : StA} {rr : Unit} (hret : ReV mM E cX6_firstDraft zs) {bs : StA} {bw : (Int32) ⊕ (Unit)} (Kc : ∀ v, bw = .inl v → WS mM E 2 23 [(0, rf E 0), (1, .int v)] [] bs) (Ke : ∀ e, bw = .inr e → WS mM E 2 44 [(0, rf E 0)] [] bs) (hf : fb_X6_firstDraft_l23  s0 v1 = some (bs, bw)) : WS mM E 2 23 [(0, rf E 0), (1, .int v1)] [] s0 := by
  unfold fb_X6_firstDraft_l23 at hf
  refine s_iload_n O 1 dX6_firstDraft_23 rfl rfl ?_
  refine s_iconst (v := 5) O dX6_firstDraft_24 rfl ?_
  refine s_icmp_ge (tgt := 44) O dX6_firstDraft_25 (by decide) (fun c => ?_) (fun c => ?_)
  · replace hf := if_t c hf
    refine s_loc [0] rfl ?_
    cases hf
    exact Ke _ rfl
  · replace hf := if_f c hf
    refine s_aload_n O 0 dX6_firstDraft_28 rfl rfl ?_
    refine s_getR O fg_RX6_20 ms_0 rfl dX6_firstDraft_29 ?_
    refine s_bipush (v := 28) O dX6_firstDraft_32 rfl ?_
    refine s_iload_n O 1 dX6_firstDraft_34 rfl rfl ?_
    refine s_iadd O dX6_firstDraft_35 ?_
    refine s_iconst (v := 4) O dX6_firstDraft_36 rfl ?_
    obtain ⟨h6, hf⟩ := gd_e hf
    refine s_iast O ms_4 h6 dX6_firstDraft_37 ?_
    refine s_tops (fun s7 es7 => ?_)
    replace hf := nms_e es7 hf
    refine s_iinc (v := (v1 + 1)) (lv' := [(1, .int (v1 + 1)), (0, rf E 0)]) O 1 dX6_firstDraft_38 rfl rfl (by decide) rfl ?_
    refine s_goto (tgt := 23) O dX6_firstDraft_41 (by decide) ?_
    refine s_loc [1, 0] rfl ?_
    cases hf
    exact Kc _ rfl
def fl_X6_firstDraft_l23   (s0 : StA) (v : Int32) : Option (StA × ((Unit))) :=
  it (fun s v => fb_X6_firstDraft_l23  s v) FU s0 v
def f_X6_firstDraft  (s0 : StA) : Option (StA × Unit) :=
  bn (fl_X6_firstDraft_l2  s0 0) (fun s3 e4 => bn (fl_X6_firstDraft_l23  s3 0) (fun s8 e9 => gd 26 63 (nms (si s8 4 ((26 : Int32).toNatClampNeg) 1) (fun s12 => nms (si s12 0 5 0) (fun s13 => nms (si s13 0 6 0) (fun s14 => nms (si s14 0 7 0) (fun s15 => nms (si s15 0 8 0) (fun s16 => some (s16, ())))))))))
set_option maxHeartbeats 4000000 in
set_option maxRecDepth 100000 in
theorem k_X6_firstDraft  {s0 zs : StA} {rr : Unit} (hf : f_X6_firstDraft  s0 = some (zs, rr)) : CtV mM yX6_firstDraft cX6_firstDraft 2 rm_X6_firstDraft (fun ph => [.ref (ph 0)]) s0 zs := by
  refine CtV.of (by decide +kernel) (fun ph => Nat.le_of_ble_eq_true rfl) (fun E O hret => ?_)
  have O : OK mM E RX6 cX6_firstDraft 2 rm_X6_firstDraft := O
  show WS mM E 2 0 [(0, rf E 0)] [] s0
  unfold f_X6_firstDraft at hf
  refine s_iconst (v := 0) O dX6_firstDraft_0 rfl ?_
  refine s_istore_n (lv' := [(1, .int 0), (0, rf E 0)]) O dX6_firstDraft_1 rfl (by decide) rfl ?_
  refine s_loc [1, 0] rfl ?_
  obtain ⟨s3, e4, c5, hf⟩ := bn_e hf
  refine lp_of (body := fun s v => fb_X6_firstDraft_l2  s v) (X := fun s v => WS mM E 2 2 [(0, rf E 0), (1, .int v)] [] s) (Y := fun s e => WS mM E 2 21 [(0, rf E 0)] [] s) (fun s v s' w hb Kc Ke => wb_X6_firstDraft_l2 (rr := rr) O   hret Kc Ke hb) FU _ _ (s3, e4) c5 ?_
  show WS mM E 2 21 [(0, rf E 0)] [] s3
  refine s_iconst (v := 0) O dX6_firstDraft_21 rfl ?_
  refine s_istore_n (lv' := [(1, .int 0), (0, rf E 0)]) O dX6_firstDraft_22 rfl (by decide) rfl ?_
  refine s_loc [1, 0] rfl ?_
  obtain ⟨s8, e9, c10, hf⟩ := bn_e hf
  refine lp_of (body := fun s v => fb_X6_firstDraft_l23  s v) (X := fun s v => WS mM E 2 23 [(0, rf E 0), (1, .int v)] [] s) (Y := fun s e => WS mM E 2 44 [(0, rf E 0)] [] s) (fun s v s' w hb Kc Ke => wb_X6_firstDraft_l23 (rr := rr) O   hret Kc Ke hb) FU _ _ (s8, e9) c10 ?_
  show WS mM E 2 44 [(0, rf E 0)] [] s8
  refine s_aload_n O 0 dX6_firstDraft_44 rfl rfl ?_
  refine s_getR O fg_RX6_20 ms_0 rfl dX6_firstDraft_45 ?_
  refine s_bipush (v := 26) O dX6_firstDraft_48 rfl ?_
  refine s_iconst (v := 1) O dX6_firstDraft_50 rfl ?_
  obtain ⟨h11, hf⟩ := gd_e hf
  refine s_iast O ms_4 h11 dX6_firstDraft_51 ?_
  refine s_tops (fun s12 es12 => ?_)
  replace hf := nms_e es12 hf
  refine s_aload_n O 0 dX6_firstDraft_52 rfl rfl ?_
  refine s_iconst (v := 0) O dX6_firstDraft_53 rfl ?_
  refine s_putI O fp_RX6_50 ms_0 rfl dX6_firstDraft_54 ?_
  refine s_tops (fun s13 es13 => ?_)
  replace hf := nms_e es13 hf
  refine s_aload_n O 0 dX6_firstDraft_57 rfl rfl ?_
  refine s_iconst (v := 0) O dX6_firstDraft_58 rfl ?_
  refine s_putI O fp_RX6_54 ms_0 rfl dX6_firstDraft_59 ?_
  refine s_tops (fun s14 es14 => ?_)
  replace hf := nms_e es14 hf
  refine s_aload_n O 0 dX6_firstDraft_62 rfl rfl ?_
  refine s_iconst (v := 0) O dX6_firstDraft_63 rfl ?_
  refine s_putZ O fp_RX6_57 (Or.inl rfl) ms_0 rfl dX6_firstDraft_64 ?_
  refine s_tops (fun s15 es15 => ?_)
  replace hf := nms_e es15 hf
  refine s_aload_n O 0 dX6_firstDraft_67 rfl rfl ?_
  refine s_iconst (v := 0) O dX6_firstDraft_68 rfl ?_
  refine s_putZ O fp_RX6_61 (Or.inl rfl) ms_0 rfl dX6_firstDraft_69 ?_
  refine s_tops (fun s16 es16 => ?_)
  replace hf := nms_e es16 hf
  exact s_vret hret dX6_firstDraft_72 hf
def rm_X6_keepDraft : Room := { frames := 0, cells := 0, slots := 0, locals := 0 }
def fb_X6_keepDraft_l2   (s0 : StA) (v1 : Int32) : Option (StA × ((Int32) ⊕ (Unit))) :=
  (if 63 ≤ v1 then some (s0, .inr ()) else gd v1 63 (gd v1 189 (nms (si s0 1 v1.toNatClampNeg (gi s0 4 v1.toNatClampNeg)) (fun s3 => some (s3, .inl (v1 + 1))))))
set_option maxHeartbeats 4000000 in
set_option maxRecDepth 100000 in
theorem wb_X6_keepDraft_l2 {E : XC} (O : OK mM E RX6 cX6_keepDraft 2 rm_X6_keepDraft)    {s0 : StA} {v1 : Int32} {zs : StA} {rr : Unit} (hret : ReV mM E cX6_keepDraft zs) {bs : StA} {bw : (Int32) ⊕ (Unit)} (Kc : ∀ v, bw = .inl v → WS mM E 2 2 [(0, rf E 0), (1, .int v)] [] bs) (Ke : ∀ e, bw = .inr e → WS mM E 2 26 [(0, rf E 0)] [] bs) (hf : fb_X6_keepDraft_l2  s0 v1 = some (bs, bw)) : WS mM E 2 2 [(0, rf E 0), (1, .int v1)] [] s0 := by
  unfold fb_X6_keepDraft_l2 at hf
  refine s_iload_n O 1 dX6_keepDraft_2 rfl rfl ?_
  refine s_bipush (v := 63) O dX6_keepDraft_3 rfl ?_
  refine s_icmp_ge (tgt := 26) O dX6_keepDraft_5 (by decide) (fun c => ?_) (fun c => ?_)
  · replace hf := if_t c hf
    refine s_loc [0] rfl ?_
    cases hf
    exact Ke _ rfl
  · replace hf := if_f c hf
    refine s_aload_n O 0 dX6_keepDraft_8 rfl rfl ?_
    refine s_getR O fg_RX6_7 ms_0 rfl dX6_keepDraft_9 ?_
    refine s_iload_n O 1 dX6_keepDraft_12 rfl rfl ?_
    refine s_aload_n O 0 dX6_keepDraft_13 rfl rfl ?_
    refine s_getR O fg_RX6_20 ms_0 rfl dX6_keepDraft_14 ?_
    refine s_iload_n O 1 dX6_keepDraft_17 rfl rfl ?_
    obtain ⟨h1, hf⟩ := gd_e hf
    refine s_iald O ms_4 h1 dX6_keepDraft_18 ?_
    obtain ⟨h2, hf⟩ := gd_e hf
    refine s_iast O ms_1 h2 dX6_keepDraft_19 ?_
    refine s_tops (fun s3 es3 => ?_)
    replace hf := nms_e es3 hf
    refine s_iinc (v := (v1 + 1)) (lv' := [(1, .int (v1 + 1)), (0, rf E 0)]) O 1 dX6_keepDraft_20 rfl rfl (by decide) rfl ?_
    refine s_goto (tgt := 2) O dX6_keepDraft_23 (by decide) ?_
    refine s_loc [1, 0] rfl ?_
    cases hf
    exact Kc _ rfl
def fl_X6_keepDraft_l2   (s0 : StA) (v : Int32) : Option (StA × ((Unit))) :=
  it (fun s v => fb_X6_keepDraft_l2  s v) FU s0 v
def f_X6_keepDraft  (s0 : StA) : Option (StA × Unit) :=
  bn (fl_X6_keepDraft_l2  s0 0) (fun s4 e5 => nms (si s4 0 3 (gi s4 0 5)) (fun s7 => gd 0 2 (nms (si s7 3 ((0 : Int32).toNatClampNeg) 0) (fun s9 => gd 1 2 (nms (si s9 3 ((1 : Int32).toNatClampNeg) 0) (fun s11 => some (s11, ())))))))
set_option maxHeartbeats 4000000 in
set_option maxRecDepth 100000 in
theorem k_X6_keepDraft  {s0 zs : StA} {rr : Unit} (hf : f_X6_keepDraft  s0 = some (zs, rr)) : CtV mM yX6_keepDraft cX6_keepDraft 2 rm_X6_keepDraft (fun ph => [.ref (ph 0)]) s0 zs := by
  refine CtV.of (by decide +kernel) (fun ph => Nat.le_of_ble_eq_true rfl) (fun E O hret => ?_)
  have O : OK mM E RX6 cX6_keepDraft 2 rm_X6_keepDraft := O
  show WS mM E 2 0 [(0, rf E 0)] [] s0
  unfold f_X6_keepDraft at hf
  refine s_iconst (v := 0) O dX6_keepDraft_0 rfl ?_
  refine s_istore_n (lv' := [(1, .int 0), (0, rf E 0)]) O dX6_keepDraft_1 rfl (by decide) rfl ?_
  refine s_loc [1, 0] rfl ?_
  obtain ⟨s4, e5, c6, hf⟩ := bn_e hf
  refine lp_of (body := fun s v => fb_X6_keepDraft_l2  s v) (X := fun s v => WS mM E 2 2 [(0, rf E 0), (1, .int v)] [] s) (Y := fun s e => WS mM E 2 26 [(0, rf E 0)] [] s) (fun s v s' w hb Kc Ke => wb_X6_keepDraft_l2 (rr := rr) O   hret Kc Ke hb) FU _ _ (s4, e5) c6 ?_
  show WS mM E 2 26 [(0, rf E 0)] [] s4
  refine s_aload_n O 0 dX6_keepDraft_26 rfl rfl ?_
  refine s_aload_n O 0 dX6_keepDraft_27 rfl rfl ?_
  refine s_getI O fg_RX6_50 ms_0 rfl dX6_keepDraft_28 ?_
  refine s_putI O fp_RX6_64 ms_0 rfl dX6_keepDraft_31 ?_
  refine s_tops (fun s7 es7 => ?_)
  replace hf := nms_e es7 hf
  refine s_aload_n O 0 dX6_keepDraft_34 rfl rfl ?_
  refine s_getR O fg_RX6_16 ms_0 rfl dX6_keepDraft_35 ?_
  refine s_iconst (v := 0) O dX6_keepDraft_38 rfl ?_
  refine s_iconst (v := 0) O dX6_keepDraft_39 rfl ?_
  obtain ⟨h8, hf⟩ := gd_e hf
  refine s_zast O (Or.inl rfl) ms_3 h8 dX6_keepDraft_40 ?_
  refine s_tops (fun s9 es9 => ?_)
  replace hf := nms_e es9 hf
  refine s_aload_n O 0 dX6_keepDraft_41 rfl rfl ?_
  refine s_getR O fg_RX6_16 ms_0 rfl dX6_keepDraft_42 ?_
  refine s_iconst (v := 1) O dX6_keepDraft_45 rfl ?_
  refine s_iconst (v := 0) O dX6_keepDraft_46 rfl ?_
  obtain ⟨h10, hf⟩ := gd_e hf
  refine s_zast O (Or.inl rfl) ms_3 h10 dX6_keepDraft_47 ?_
  refine s_tops (fun s11 es11 => ?_)
  replace hf := nms_e es11 hf
  exact s_vret hret dX6_keepDraft_48 hf
def rm_X6_in : Room := { frames := 0, cells := 0, slots := 0, locals := 0 }
def f_X6_in (a0 : Int64) (a2 : Int64) (a4 : Int64) (s0 : StA) : Option (StA × Int32) :=
  (if (lg_cmp a0 a2) < 0 then some (s0, 0) else (if 0 < (lg_cmp a0 a4) then some (s0, 0) else some (s0, 1)))
set_option maxHeartbeats 4000000 in
set_option maxRecDepth 100000 in
theorem k_X6_in {a0 : Int64} {a2 : Int64} {a4 : Int64} {s0 zs : StA} {rr : Int32} (hf : f_X6_in a0 a2 a4 s0 = some (zs, rr)) : CtI mM yX6_in cX6_in 6 .boolean rm_X6_in (fun ph => [.long a0, .long a2, .long a4]) s0 zs rr := by
  refine CtI.of (by decide +kernel) (fun ph => Nat.le_of_ble_eq_true rfl) (fun E O hret => ?_)
  have O : OK mM E RX6 cX6_in 6 rm_X6_in := O
  show WS mM E 6 0 [(0, .long a0), (2, .long a2), (4, .long a4)] [] s0
  unfold f_X6_in at hf
  refine s_lload_n O 0 dX6_in_0 rfl rfl ?_
  refine s_lload_n O 1 dX6_in_1 rfl rfl ?_
  refine s_lcmp O dX6_in_2 ?_
  refine s_if_lt (tgt := 17) O dX6_in_3 (by decide) (fun c => ?_) (fun c => ?_)
  · replace hf := if_t c hf
    refine s_iconst (v := 0) O dX6_in_17 rfl ?_
    exact s_iret hret rfl dX6_in_18 hf
  · replace hf := if_f c hf
    refine s_lload_n O 0 dX6_in_6 rfl rfl ?_
    refine s_lload O 2 dX6_in_7 rfl ?_
    refine s_lcmp O dX6_in_9 ?_
    refine s_if_gt (tgt := 17) O dX6_in_10 (by decide) (fun c => ?_) (fun c => ?_)
    · replace hf := if_t c hf
      refine s_iconst (v := 0) O dX6_in_17 rfl ?_
      exact s_iret hret rfl dX6_in_18 hf
    · replace hf := if_f c hf
      refine s_iconst (v := 1) O dX6_in_13 rfl ?_
      refine s_goto (tgt := 18) O dX6_in_14 (by decide) ?_
      exact s_iret hret rfl dX6_in_18 hf
def rm_X6_feed : Room := { frames := 1, cells := 0, slots := 0, locals := 25 }
def f_X6_feed (a1 : Int32) (s0 : StA) : Option (StA × Int32) :=
  bn (f_X6_in a1.toInt64 0 127 s0) (fun s1 r2 => (if r2 = 0 then some (s1, (-1)) else (if (gi s1 0 10) = 160 then some (s1, (-3)) else gd (gi s1 0 10) 160 (nms (si s1 5 ((gi s1 0 10).toNatClampNeg) a1) (fun s5 => nms (si s5 0 10 ((gi s5 0 10) + 1)) (fun s6 => some (s6, (gi s6 0 10))))))))
set_option maxHeartbeats 4000000 in
set_option maxRecDepth 100000 in
theorem k_X6_feed {a1 : Int32} {s0 zs : StA} {rr : Int32} (hf : f_X6_feed a1 s0 = some (zs, rr)) : CtI mM yX6_feed cX6_feed 2 .int rm_X6_feed (fun ph => [.ref (ph 0), .int a1]) s0 zs rr := by
  refine CtI.of (by decide +kernel) (fun ph => Nat.le_of_ble_eq_true rfl) (fun E O hret => ?_)
  have O : OK mM E RX6 cX6_feed 2 rm_X6_feed := O
  show WS mM E 2 0 [(0, rf E 0), (1, .int a1)] [] s0
  unfold f_X6_feed at hf
  refine s_iload_n O 1 dX6_feed_0 rfl rfl ?_
  refine s_i2l O dX6_feed_1 ?_
  refine s_lconst (v := 0) O dX6_feed_2 rfl ?_
  refine s_ldc2 O cl_RX6_67 dX6_feed_3 ?_
  obtain ⟨s1, r2, c3, hf⟩ := bn_e hf
  refine s_SI (As := [.long a1.toInt64, .long 0, .long 127]) (st := []) O lk_RX6_69 (k_X6_in c3) rfl rfl ⟨rfl, rfl⟩ ⟨Nat.le_of_ble_eq_true rfl, Nat.le_of_ble_eq_true rfl⟩ rfl (Nat.le_of_ble_eq_true rfl) dX6_feed_6 ?_
  refine s_if_ne (tgt := 14) O dX6_feed_9 (by decide) (fun c => ?_) (fun c => ?_)
  · replace hf := if_f c hf
    refine s_aload_n O 0 dX6_feed_14 rfl rfl ?_
    refine s_getI O fg_RX6_73 ms_0 rfl dX6_feed_15 ?_
    refine s_sipush (v := 160) O dX6_feed_18 rfl ?_
    refine s_icmp_ne (tgt := 27) O dX6_feed_21 (by decide) (fun c => ?_) (fun c => ?_)
    · replace hf := if_f c hf
      refine s_aload_n O 0 dX6_feed_27 rfl rfl ?_
      refine s_getR O fg_RX6_23 ms_0 rfl dX6_feed_28 ?_
      refine s_aload_n O 0 dX6_feed_31 rfl rfl ?_
      refine s_getI O fg_RX6_73 ms_0 rfl dX6_feed_32 ?_
      refine s_iload_n O 1 dX6_feed_35 rfl rfl ?_
      obtain ⟨h4, hf⟩ := gd_e hf
      refine s_iast O ms_5 h4 dX6_feed_36 ?_
      refine s_tops (fun s5 es5 => ?_)
      replace hf := nms_e es5 hf
      refine s_aload_n O 0 dX6_feed_37 rfl rfl ?_
      refine s_dup O dX6_feed_38 rfl ?_
      refine s_getI O fg_RX6_73 ms_0 rfl dX6_feed_39 ?_
      refine s_iconst (v := 1) O dX6_feed_42 rfl ?_
      refine s_iadd O dX6_feed_43 ?_
      refine s_putI O fp_RX6_73 ms_0 rfl dX6_feed_44 ?_
      refine s_tops (fun s6 es6 => ?_)
      replace hf := nms_e es6 hf
      refine s_aload_n O 0 dX6_feed_47 rfl rfl ?_
      refine s_getI O fg_RX6_73 ms_0 rfl dX6_feed_48 ?_
      exact s_iret hret rfl dX6_feed_51 hf
    · replace hf := if_t c hf
      refine s_bipush (v := (-3)) O dX6_feed_24 rfl ?_
      exact s_iret hret rfl dX6_feed_26 hf
  · replace hf := if_t c hf
    refine s_iconst (v := (-1)) O dX6_feed_12 rfl ?_
    exact s_iret hret rfl dX6_feed_13 hf
def rm_X6_end : Room := { frames := 1, cells := 0, slots := 0, locals := 25 }
def f_X6_end (a1 : Int32) (s0 : StA) : Option (StA × Int32) :=
  bn (f_X6_in a1.toInt64 0 (gi s0 0 10).toInt64 s0) (fun s1 r2 => (if r2 = 0 then some (s1, (-1)) else nmi (gi s1 0 10) (fun n4 => nms (si s1 0 10 a1) (fun s5 => some (s5, n4)))))
set_option maxHeartbeats 4000000 in
set_option maxRecDepth 100000 in
theorem k_X6_end {a1 : Int32} {s0 zs : StA} {rr : Int32} (hf : f_X6_end a1 s0 = some (zs, rr)) : CtI mM yX6_end cX6_end 3 .int rm_X6_end (fun ph => [.ref (ph 0), .int a1]) s0 zs rr := by
  refine CtI.of (by decide +kernel) (fun ph => Nat.le_of_ble_eq_true rfl) (fun E O hret => ?_)
  have O : OK mM E RX6 cX6_end 3 rm_X6_end := O
  show WS mM E 3 0 [(0, rf E 0), (1, .int a1)] [] s0
  unfold f_X6_end at hf
  refine s_iload_n O 1 dX6_end_0 rfl rfl ?_
  refine s_i2l O dX6_end_1 ?_
  refine s_lconst (v := 0) O dX6_end_2 rfl ?_
  refine s_aload_n O 0 dX6_end_3 rfl rfl ?_
  refine s_getI O fg_RX6_73 ms_0 rfl dX6_end_4 ?_
  refine s_i2l O dX6_end_7 ?_
  obtain ⟨s1, r2, c3, hf⟩ := bn_e hf
  refine s_SI (As := [.long a1.toInt64, .long 0, .long (gi s0 0 10).toInt64]) (st := []) O lk_RX6_69 (k_X6_in c3) rfl rfl ⟨rfl, rfl⟩ ⟨Nat.le_of_ble_eq_true rfl, Nat.le_of_ble_eq_true rfl⟩ rfl (Nat.le_of_ble_eq_true rfl) dX6_end_8 ?_
  refine s_if_ne (tgt := 16) O dX6_end_11 (by decide) (fun c => ?_) (fun c => ?_)
  · replace hf := if_f c hf
    refine s_aload_n O 0 dX6_end_16 rfl rfl ?_
    refine s_getI O fg_RX6_73 ms_0 rfl dX6_end_17 ?_
    refine s_topi (fun n4 en4 => ?_)
    replace hf := nmi_e en4 hf
    refine s_istore_n (lv' := [(2, .int n4), (0, rf E 0), (1, .int a1)]) O dX6_end_20 rfl (by decide) rfl ?_
    refine s_aload_n O 1 dX6_end_21 rfl rfl ?_
    refine s_iload_n O 2 dX6_end_22 rfl rfl ?_
    refine s_putI O fp_RX6_73 ms_0 rfl dX6_end_23 ?_
    refine s_tops (fun s5 es5 => ?_)
    replace hf := nms_e es5 hf
    refine s_iload_n O 0 dX6_end_26 rfl rfl ?_
    exact s_iret hret rfl dX6_end_27 hf
  · replace hf := if_t c hf
    refine s_iconst (v := (-1)) O dX6_end_14 rfl ?_
    exact s_iret hret rfl dX6_end_15 hf
def rm_X6_byteAt : Room := { frames := 0, cells := 0, slots := 0, locals := 0 }
def f_X6_byteAt (a1 : Int32) (s0 : StA) : Option (StA × Int32) :=
  (if (gi s0 0 10) ≤ a1 then some (s0, (-1)) else gd a1 160 (some (s0, (gi s0 5 a1.toNatClampNeg))))
set_option maxHeartbeats 4000000 in
set_option maxRecDepth 100000 in
theorem k_X6_byteAt {a1 : Int32} {s0 zs : StA} {rr : Int32} (hf : f_X6_byteAt a1 s0 = some (zs, rr)) : CtI mM yX6_byteAt cX6_byteAt 2 .int rm_X6_byteAt (fun ph => [.ref (ph 0), .int a1]) s0 zs rr := by
  refine CtI.of (by decide +kernel) (fun ph => Nat.le_of_ble_eq_true rfl) (fun E O hret => ?_)
  have O : OK mM E RX6 cX6_byteAt 2 rm_X6_byteAt := O
  show WS mM E 2 0 [(0, rf E 0), (1, .int a1)] [] s0
  unfold f_X6_byteAt at hf
  refine s_iload_n O 1 dX6_byteAt_0 rfl rfl ?_
  refine s_aload_n O 0 dX6_byteAt_1 rfl rfl ?_
  refine s_getI O fg_RX6_73 ms_0 rfl dX6_byteAt_2 ?_
  refine s_icmp_ge (tgt := 17) O dX6_byteAt_5 (by decide) (fun c => ?_) (fun c => ?_)
  · replace hf := if_t c hf
    refine s_iconst (v := (-1)) O dX6_byteAt_17 rfl ?_
    exact s_iret hret rfl dX6_byteAt_18 hf
  · replace hf := if_f c hf
    refine s_aload_n O 0 dX6_byteAt_8 rfl rfl ?_
    refine s_getR O fg_RX6_23 ms_0 rfl dX6_byteAt_9 ?_
    refine s_iload_n O 1 dX6_byteAt_12 rfl rfl ?_
    obtain ⟨h1, hf⟩ := gd_e hf
    refine s_iald O ms_5 h1 dX6_byteAt_13 ?_
    refine s_goto (tgt := 18) O dX6_byteAt_14 (by decide) ?_
    exact s_iret hret rfl dX6_byteAt_18 hf
def rm_X6_ends : Room := { frames := 1, cells := 0, slots := 0, locals := 21 }
def f_X6_ends (a1 : Int32) (a2 : Int32) (s0 : StA) : Option (StA × Int32) :=
  bn (f_X6_byteAt ((gi s0 0 12) + 4) s0) (fun s1 r2 => (if r2 = a1 then (if a2 = 0 then some (s1, 1) else bn (f_X6_byteAt ((gi s1 0 12) + 5) s1) (fun s4 r5 => (if r5 = a2 then some (s4, 1) else some (s4, 0)))) else some (s1, 0)))
set_option maxHeartbeats 4000000 in
set_option maxRecDepth 100000 in
theorem k_X6_ends {a1 : Int32} {a2 : Int32} {s0 zs : StA} {rr : Int32} (hf : f_X6_ends a1 a2 s0 = some (zs, rr)) : CtI mM yX6_ends cX6_ends 3 .boolean rm_X6_ends (fun ph => [.ref (ph 0), .int a1, .int a2]) s0 zs rr := by
  refine CtI.of (by decide +kernel) (fun ph => Nat.le_of_ble_eq_true rfl) (fun E O hret => ?_)
  have O : OK mM E RX6 cX6_ends 3 rm_X6_ends := O
  show WS mM E 3 0 [(0, rf E 0), (1, .int a1), (2, .int a2)] [] s0
  unfold f_X6_ends at hf
  refine s_aload_n O 0 dX6_ends_0 rfl rfl ?_
  refine s_aload_n O 0 dX6_ends_1 rfl rfl ?_
  refine s_getI O fg_RX6_79 ms_0 rfl dX6_ends_2 ?_
  refine s_iconst (v := 4) O dX6_ends_5 rfl ?_
  refine s_iadd O dX6_ends_6 ?_
  obtain ⟨s1, r2, c3, hf⟩ := bn_e hf
  refine s_VI (As := [.int ((gi s0 0 12) + 4)]) (st := []) O lk_RX6_88 (k_X6_byteAt c3) rfl ms_0 rfl rfl ⟨rfl, rfl⟩ ⟨Nat.le_of_ble_eq_true rfl, Nat.le_of_ble_eq_true rfl⟩ rfl (Nat.le_of_ble_eq_true rfl) dX6_ends_7 ?_
  refine s_iload_n O 1 dX6_ends_10 rfl rfl ?_
  refine s_icmp_ne (tgt := 36) O dX6_ends_11 (by decide) (fun c => ?_) (fun c => ?_)
  · replace hf := if_f c hf
    refine s_iconst (v := 0) O dX6_ends_36 rfl ?_
    exact s_iret hret rfl dX6_ends_37 hf
  · replace hf := if_t c hf
    refine s_iload_n O 2 dX6_ends_14 rfl rfl ?_
    refine s_if_eq (tgt := 32) O dX6_ends_15 (by decide) (fun c => ?_) (fun c => ?_)
    · replace hf := if_t c hf
      refine s_iconst (v := 1) O dX6_ends_32 rfl ?_
      refine s_goto (tgt := 37) O dX6_ends_33 (by decide) ?_
      exact s_iret hret rfl dX6_ends_37 hf
    · replace hf := if_f c hf
      refine s_aload_n O 0 dX6_ends_18 rfl rfl ?_
      refine s_aload_n O 0 dX6_ends_19 rfl rfl ?_
      refine s_getI O fg_RX6_79 ms_0 rfl dX6_ends_20 ?_
      refine s_iconst (v := 5) O dX6_ends_23 rfl ?_
      refine s_iadd O dX6_ends_24 ?_
      obtain ⟨s4, r5, c6, hf⟩ := bn_e hf
      refine s_VI (As := [.int ((gi s1 0 12) + 5)]) (st := []) O lk_RX6_88 (k_X6_byteAt c6) rfl ms_0 rfl rfl ⟨rfl, rfl⟩ ⟨Nat.le_of_ble_eq_true rfl, Nat.le_of_ble_eq_true rfl⟩ rfl (Nat.le_of_ble_eq_true rfl) dX6_ends_25 ?_
      refine s_iload_n O 2 dX6_ends_28 rfl rfl ?_
      refine s_icmp_ne (tgt := 36) O dX6_ends_29 (by decide) (fun c => ?_) (fun c => ?_)
      · replace hf := if_f c hf
        refine s_iconst (v := 0) O dX6_ends_36 rfl ?_
        exact s_iret hret rfl dX6_ends_37 hf
      · replace hf := if_t c hf
        refine s_iconst (v := 1) O dX6_ends_32 rfl ?_
        refine s_goto (tgt := 37) O dX6_ends_33 (by decide) ?_
        exact s_iret hret rfl dX6_ends_37 hf
def rm_X6_is : Room := { frames := 1, cells := 0, slots := 0, locals := 21 }
def f_X6_is (a1 : Int32) (a2 : Int32) (a3 : Int32) (a4 : Int32) (a5 : Int32) (s0 : StA) : Option (StA × Int32) :=
  (if ((gi s0 0 11) - (gi s0 0 12)) = a1 then bn (f_X6_byteAt (gi s0 0 12) s0) (fun s1 r2 => (if r2 = a2 then bn (f_X6_byteAt ((gi s1 0 12) + 1) s1) (fun s4 r5 => (if r5 = a3 then bn (f_X6_byteAt ((gi s4 0 12) + 2) s4) (fun s7 r8 => (if r8 = a4 then bn (f_X6_byteAt ((gi s7 0 12) + 3) s7) (fun s10 r11 => (if r11 = a5 then some (s10, 1) else some (s10, 0))) else some (s7, 0))) else some (s4, 0))) else some (s1, 0))) else some (s0, 0))
set_option maxHeartbeats 4000000 in
set_option maxRecDepth 100000 in
theorem k_X6_is {a1 : Int32} {a2 : Int32} {a3 : Int32} {a4 : Int32} {a5 : Int32} {s0 zs : StA} {rr : Int32} (hf : f_X6_is a1 a2 a3 a4 a5 s0 = some (zs, rr)) : CtI mM yX6_is cX6_is 6 .boolean rm_X6_is (fun ph => [.ref (ph 0), .int a1, .int a2, .int a3, .int a4, .int a5]) s0 zs rr := by
  refine CtI.of (by decide +kernel) (fun ph => Nat.le_of_ble_eq_true rfl) (fun E O hret => ?_)
  have O : OK mM E RX6 cX6_is 6 rm_X6_is := O
  show WS mM E 6 0 [(0, rf E 0), (1, .int a1), (2, .int a2), (3, .int a3), (4, .int a4), (5, .int a5)] [] s0
  unfold f_X6_is at hf
  refine s_aload_n O 0 dX6_is_0 rfl rfl ?_
  refine s_getI O fg_RX6_85 ms_0 rfl dX6_is_1 ?_
  refine s_aload_n O 0 dX6_is_4 rfl rfl ?_
  refine s_getI O fg_RX6_79 ms_0 rfl dX6_is_5 ?_
  refine s_isub O dX6_is_8 ?_
  refine s_iload_n O 1 dX6_is_9 rfl rfl ?_
  refine s_icmp_ne (tgt := 73) O dX6_is_10 (by decide) (fun c => ?_) (fun c => ?_)
  · replace hf := if_f c hf
    refine s_iconst (v := 0) O dX6_is_73 rfl ?_
    exact s_iret hret rfl dX6_is_74 hf
  · replace hf := if_t c hf
    refine s_aload_n O 0 dX6_is_13 rfl rfl ?_
    refine s_aload_n O 0 dX6_is_14 rfl rfl ?_
    refine s_getI O fg_RX6_79 ms_0 rfl dX6_is_15 ?_
    obtain ⟨s1, r2, c3, hf⟩ := bn_e hf
    refine s_VI (As := [.int (gi s0 0 12)]) (st := []) O lk_RX6_88 (k_X6_byteAt c3) rfl ms_0 rfl rfl ⟨rfl, rfl⟩ ⟨Nat.le_of_ble_eq_true rfl, Nat.le_of_ble_eq_true rfl⟩ rfl (Nat.le_of_ble_eq_true rfl) dX6_is_18 ?_
    refine s_iload_n O 2 dX6_is_21 rfl rfl ?_
    refine s_icmp_ne (tgt := 73) O dX6_is_22 (by decide) (fun c => ?_) (fun c => ?_)
    · replace hf := if_f c hf
      refine s_iconst (v := 0) O dX6_is_73 rfl ?_
      exact s_iret hret rfl dX6_is_74 hf
    · replace hf := if_t c hf
      refine s_aload_n O 0 dX6_is_25 rfl rfl ?_
      refine s_aload_n O 0 dX6_is_26 rfl rfl ?_
      refine s_getI O fg_RX6_79 ms_0 rfl dX6_is_27 ?_
      refine s_iconst (v := 1) O dX6_is_30 rfl ?_
      refine s_iadd O dX6_is_31 ?_
      obtain ⟨s4, r5, c6, hf⟩ := bn_e hf
      refine s_VI (As := [.int ((gi s1 0 12) + 1)]) (st := []) O lk_RX6_88 (k_X6_byteAt c6) rfl ms_0 rfl rfl ⟨rfl, rfl⟩ ⟨Nat.le_of_ble_eq_true rfl, Nat.le_of_ble_eq_true rfl⟩ rfl (Nat.le_of_ble_eq_true rfl) dX6_is_32 ?_
      refine s_iload_n O 3 dX6_is_35 rfl rfl ?_
      refine s_icmp_ne (tgt := 73) O dX6_is_36 (by decide) (fun c => ?_) (fun c => ?_)
      · replace hf := if_f c hf
        refine s_iconst (v := 0) O dX6_is_73 rfl ?_
        exact s_iret hret rfl dX6_is_74 hf
      · replace hf := if_t c hf
        refine s_aload_n O 0 dX6_is_39 rfl rfl ?_
        refine s_aload_n O 0 dX6_is_40 rfl rfl ?_
        refine s_getI O fg_RX6_79 ms_0 rfl dX6_is_41 ?_
        refine s_iconst (v := 2) O dX6_is_44 rfl ?_
        refine s_iadd O dX6_is_45 ?_
        obtain ⟨s7, r8, c9, hf⟩ := bn_e hf
        refine s_VI (As := [.int ((gi s4 0 12) + 2)]) (st := []) O lk_RX6_88 (k_X6_byteAt c9) rfl ms_0 rfl rfl ⟨rfl, rfl⟩ ⟨Nat.le_of_ble_eq_true rfl, Nat.le_of_ble_eq_true rfl⟩ rfl (Nat.le_of_ble_eq_true rfl) dX6_is_46 ?_
        refine s_iload O 4 dX6_is_49 rfl ?_
        refine s_icmp_ne (tgt := 73) O dX6_is_51 (by decide) (fun c => ?_) (fun c => ?_)
        · replace hf := if_f c hf
          refine s_iconst (v := 0) O dX6_is_73 rfl ?_
          exact s_iret hret rfl dX6_is_74 hf
        · replace hf := if_t c hf
          refine s_aload_n O 0 dX6_is_54 rfl rfl ?_
          refine s_aload_n O 0 dX6_is_55 rfl rfl ?_
          refine s_getI O fg_RX6_79 ms_0 rfl dX6_is_56 ?_
          refine s_iconst (v := 3) O dX6_is_59 rfl ?_
          refine s_iadd O dX6_is_60 ?_
          obtain ⟨s10, r11, c12, hf⟩ := bn_e hf
          refine s_VI (As := [.int ((gi s7 0 12) + 3)]) (st := []) O lk_RX6_88 (k_X6_byteAt c12) rfl ms_0 rfl rfl ⟨rfl, rfl⟩ ⟨Nat.le_of_ble_eq_true rfl, Nat.le_of_ble_eq_true rfl⟩ rfl (Nat.le_of_ble_eq_true rfl) dX6_is_61 ?_
          refine s_iload O 5 dX6_is_64 rfl ?_
          refine s_icmp_ne (tgt := 73) O dX6_is_66 (by decide) (fun c => ?_) (fun c => ?_)
          · replace hf := if_f c hf
            refine s_iconst (v := 0) O dX6_is_73 rfl ?_
            exact s_iret hret rfl dX6_is_74 hf
          · replace hf := if_t c hf
            refine s_iconst (v := 1) O dX6_is_69 rfl ?_
            refine s_goto (tgt := 74) O dX6_is_70 (by decide) ?_
            exact s_iret hret rfl dX6_is_74 hf
def rm_X6_lineNow : Room := { frames := 2, cells := 0, slots := 0, locals := 46 }
def fj_X6_lineNow_j76    (s0 : StA) : Option (StA × (Int32)) :=
  bn (f_X6_is 4 106 111 107 101 s0) (fun s10 r11 => (if r11 = 0 then bn (f_X6_is 4 119 105 110 100 s10) (fun s13 r14 => (if r14 = 0 then bn (f_X6_is 4 114 97 116 101 s13) (fun s16 r17 => (if r17 = 0 then bn (f_X6_is 5 115 116 97 114 s16) (fun s19 r20 => (if r20 = 0 then some (s19, (-4)) else bn (f_X6_ends 116 0 s19) (fun s22 r23 => (if r23 = 0 then some (s22, (-4)) else some (s22, 6))))) else some (s16, 5))) else some (s13, 4))) else some (s10, 3)))
set_option maxHeartbeats 4000000 in
set_option maxRecDepth 100000 in
theorem wj_X6_lineNow_j76 {E : XC} (O : OK mM E RX6 cX6_lineNow 1 rm_X6_lineNow)     {s0 : StA} {zs : StA} {rr : Int32} (hret : ReI mM E .int cX6_lineNow zs rr) (hf : fj_X6_lineNow_j76  s0 = some (zs, rr)) : WS mM E 1 76 [(0, rf E 0)] [] s0 := by
  unfold fj_X6_lineNow_j76 at hf
  refine s_aload_n O 0 dX6_lineNow_76 rfl rfl ?_
  refine s_iconst (v := 4) O dX6_lineNow_77 rfl ?_
  refine s_bipush (v := 106) O dX6_lineNow_78 rfl ?_
  refine s_bipush (v := 111) O dX6_lineNow_80 rfl ?_
  refine s_bipush (v := 107) O dX6_lineNow_82 rfl ?_
  refine s_bipush (v := 101) O dX6_lineNow_84 rfl ?_
  obtain ⟨s10, r11, c12, hf⟩ := bn_e hf
  refine s_VI (As := [.int 4, .int 106, .int 111, .int 107, .int 101]) (st := []) O lk_RX6_92 (k_X6_is c12) rfl ms_0 rfl rfl ⟨rfl, rfl⟩ ⟨Nat.le_of_ble_eq_true rfl, Nat.le_of_ble_eq_true rfl⟩ rfl (Nat.le_of_ble_eq_true rfl) dX6_lineNow_86 ?_
  refine s_if_eq (tgt := 94) O dX6_lineNow_89 (by decide) (fun c => ?_) (fun c => ?_)
  · replace hf := if_t c hf
    refine s_aload_n O 0 dX6_lineNow_94 rfl rfl ?_
    refine s_iconst (v := 4) O dX6_lineNow_95 rfl ?_
    refine s_bipush (v := 119) O dX6_lineNow_96 rfl ?_
    refine s_bipush (v := 105) O dX6_lineNow_98 rfl ?_
    refine s_bipush (v := 110) O dX6_lineNow_100 rfl ?_
    refine s_bipush (v := 100) O dX6_lineNow_102 rfl ?_
    obtain ⟨s13, r14, c15, hf⟩ := bn_e hf
    refine s_VI (As := [.int 4, .int 119, .int 105, .int 110, .int 100]) (st := []) O lk_RX6_92 (k_X6_is c15) rfl ms_0 rfl rfl ⟨rfl, rfl⟩ ⟨Nat.le_of_ble_eq_true rfl, Nat.le_of_ble_eq_true rfl⟩ rfl (Nat.le_of_ble_eq_true rfl) dX6_lineNow_104 ?_
    refine s_if_eq (tgt := 112) O dX6_lineNow_107 (by decide) (fun c => ?_) (fun c => ?_)
    · replace hf := if_t c hf
      refine s_aload_n O 0 dX6_lineNow_112 rfl rfl ?_
      refine s_iconst (v := 4) O dX6_lineNow_113 rfl ?_
      refine s_bipush (v := 114) O dX6_lineNow_114 rfl ?_
      refine s_bipush (v := 97) O dX6_lineNow_116 rfl ?_
      refine s_bipush (v := 116) O dX6_lineNow_118 rfl ?_
      refine s_bipush (v := 101) O dX6_lineNow_120 rfl ?_
      obtain ⟨s16, r17, c18, hf⟩ := bn_e hf
      refine s_VI (As := [.int 4, .int 114, .int 97, .int 116, .int 101]) (st := []) O lk_RX6_92 (k_X6_is c18) rfl ms_0 rfl rfl ⟨rfl, rfl⟩ ⟨Nat.le_of_ble_eq_true rfl, Nat.le_of_ble_eq_true rfl⟩ rfl (Nat.le_of_ble_eq_true rfl) dX6_lineNow_122 ?_
      refine s_if_eq (tgt := 132) O dX6_lineNow_125 (by decide) (fun c => ?_) (fun c => ?_)
      · replace hf := if_t c hf
        refine s_aload_n O 0 dX6_lineNow_132 rfl rfl ?_
        refine s_iconst (v := 5) O dX6_lineNow_133 rfl ?_
        refine s_bipush (v := 115) O dX6_lineNow_134 rfl ?_
        refine s_bipush (v := 116) O dX6_lineNow_136 rfl ?_
        refine s_bipush (v := 97) O dX6_lineNow_138 rfl ?_
        refine s_bipush (v := 114) O dX6_lineNow_140 rfl ?_
        obtain ⟨s19, r20, c21, hf⟩ := bn_e hf
        refine s_VI (As := [.int 5, .int 115, .int 116, .int 97, .int 114]) (st := []) O lk_RX6_92 (k_X6_is c21) rfl ms_0 rfl rfl ⟨rfl, rfl⟩ ⟨Nat.le_of_ble_eq_true rfl, Nat.le_of_ble_eq_true rfl⟩ rfl (Nat.le_of_ble_eq_true rfl) dX6_lineNow_142 ?_
        refine s_if_eq (tgt := 163) O dX6_lineNow_145 (by decide) (fun c => ?_) (fun c => ?_)
        · replace hf := if_t c hf
          refine s_bipush (v := (-4)) O dX6_lineNow_163 rfl ?_
          exact s_iret hret rfl dX6_lineNow_165 hf
        · replace hf := if_f c hf
          refine s_aload_n O 0 dX6_lineNow_148 rfl rfl ?_
          refine s_bipush (v := 116) O dX6_lineNow_149 rfl ?_
          refine s_iconst (v := 0) O dX6_lineNow_151 rfl ?_
          obtain ⟨s22, r23, c24, hf⟩ := bn_e hf
          refine s_VI (As := [.int 116, .int 0]) (st := []) O lk_RX6_96 (k_X6_ends c24) rfl ms_0 rfl rfl ⟨rfl, rfl⟩ ⟨Nat.le_of_ble_eq_true rfl, Nat.le_of_ble_eq_true rfl⟩ rfl (Nat.le_of_ble_eq_true rfl) dX6_lineNow_152 ?_
          refine s_if_eq (tgt := 163) O dX6_lineNow_155 (by decide) (fun c => ?_) (fun c => ?_)
          · replace hf := if_t c hf
            refine s_bipush (v := (-4)) O dX6_lineNow_163 rfl ?_
            exact s_iret hret rfl dX6_lineNow_165 hf
          · replace hf := if_f c hf
            refine s_bipush (v := 6) O dX6_lineNow_158 rfl ?_
            refine s_goto (tgt := 165) O dX6_lineNow_160 (by decide) ?_
            exact s_iret hret rfl dX6_lineNow_165 hf
      · replace hf := if_f c hf
        refine s_iconst (v := 5) O dX6_lineNow_128 rfl ?_
        refine s_goto (tgt := 165) O dX6_lineNow_129 (by decide) ?_
        exact s_iret hret rfl dX6_lineNow_165 hf
    · replace hf := if_f c hf
      refine s_iconst (v := 4) O dX6_lineNow_110 rfl ?_
      exact s_iret hret rfl dX6_lineNow_111 hf
  · replace hf := if_f c hf
    refine s_iconst (v := 3) O dX6_lineNow_92 rfl ?_
    exact s_iret hret rfl dX6_lineNow_93 hf
def fj_X6_lineNow_j28    (s0 : StA) : Option (StA × (Int32)) :=
  bn (f_X6_is 4 116 97 99 116 s0) (fun s4 r5 => (if r5 = 0 then bn (f_X6_is 6 115 101 99 114 s4) (fun s7 r8 => (if r8 = 0 then fj_X6_lineNow_j76  s7 else bn (f_X6_ends 101 116 s7) (fun s25 r26 => (if r26 = 0 then fj_X6_lineNow_j76  s25 else some (s25, 2))))) else some (s4, 1)))
set_option maxHeartbeats 4000000 in
set_option maxRecDepth 100000 in
theorem wj_X6_lineNow_j28 {E : XC} (O : OK mM E RX6 cX6_lineNow 1 rm_X6_lineNow)     {s0 : StA} {zs : StA} {rr : Int32} (hret : ReI mM E .int cX6_lineNow zs rr) (hf : fj_X6_lineNow_j28  s0 = some (zs, rr)) : WS mM E 1 28 [(0, rf E 0)] [] s0 := by
  unfold fj_X6_lineNow_j28 at hf
  refine s_aload_n O 0 dX6_lineNow_28 rfl rfl ?_
  refine s_iconst (v := 4) O dX6_lineNow_29 rfl ?_
  refine s_bipush (v := 116) O dX6_lineNow_30 rfl ?_
  refine s_bipush (v := 97) O dX6_lineNow_32 rfl ?_
  refine s_bipush (v := 99) O dX6_lineNow_34 rfl ?_
  refine s_bipush (v := 116) O dX6_lineNow_36 rfl ?_
  obtain ⟨s4, r5, c6, hf⟩ := bn_e hf
  refine s_VI (As := [.int 4, .int 116, .int 97, .int 99, .int 116]) (st := []) O lk_RX6_92 (k_X6_is c6) rfl ms_0 rfl rfl ⟨rfl, rfl⟩ ⟨Nat.le_of_ble_eq_true rfl, Nat.le_of_ble_eq_true rfl⟩ rfl (Nat.le_of_ble_eq_true rfl) dX6_lineNow_38 ?_
  refine s_if_eq (tgt := 46) O dX6_lineNow_41 (by decide) (fun c => ?_) (fun c => ?_)
  · replace hf := if_t c hf
    refine s_aload_n O 0 dX6_lineNow_46 rfl rfl ?_
    refine s_bipush (v := 6) O dX6_lineNow_47 rfl ?_
    refine s_bipush (v := 115) O dX6_lineNow_49 rfl ?_
    refine s_bipush (v := 101) O dX6_lineNow_51 rfl ?_
    refine s_bipush (v := 99) O dX6_lineNow_53 rfl ?_
    refine s_bipush (v := 114) O dX6_lineNow_55 rfl ?_
    obtain ⟨s7, r8, c9, hf⟩ := bn_e hf
    refine s_VI (As := [.int 6, .int 115, .int 101, .int 99, .int 114]) (st := []) O lk_RX6_92 (k_X6_is c9) rfl ms_0 rfl rfl ⟨rfl, rfl⟩ ⟨Nat.le_of_ble_eq_true rfl, Nat.le_of_ble_eq_true rfl⟩ rfl (Nat.le_of_ble_eq_true rfl) dX6_lineNow_57 ?_
    refine s_if_eq (tgt := 76) O dX6_lineNow_60 (by decide) (fun c => ?_) (fun c => ?_)
    · replace hf := if_t c hf
      exact wj_X6_lineNow_j76 (rr := rr) O   hret hf
    · replace hf := if_f c hf
      refine s_aload_n O 0 dX6_lineNow_63 rfl rfl ?_
      refine s_bipush (v := 101) O dX6_lineNow_64 rfl ?_
      refine s_bipush (v := 116) O dX6_lineNow_66 rfl ?_
      obtain ⟨s25, r26, c27, hf⟩ := bn_e hf
      refine s_VI (As := [.int 101, .int 116]) (st := []) O lk_RX6_96 (k_X6_ends c27) rfl ms_0 rfl rfl ⟨rfl, rfl⟩ ⟨Nat.le_of_ble_eq_true rfl, Nat.le_of_ble_eq_true rfl⟩ rfl (Nat.le_of_ble_eq_true rfl) dX6_lineNow_68 ?_
      refine s_if_eq (tgt := 76) O dX6_lineNow_71 (by decide) (fun c => ?_) (fun c => ?_)
      · replace hf := if_t c hf
        exact wj_X6_lineNow_j76 (rr := rr) O   hret hf
      · replace hf := if_f c hf
        refine s_iconst (v := 2) O dX6_lineNow_74 rfl ?_
        exact s_iret hret rfl dX6_lineNow_75 hf
  · replace hf := if_f c hf
    refine s_iconst (v := 1) O dX6_lineNow_44 rfl ?_
    exact s_iret hret rfl dX6_lineNow_45 hf
def f_X6_lineNow  (s0 : StA) : Option (StA × Int32) :=
  bn (f_X6_is 5 112 108 97 105 s0) (fun s1 r2 => (if r2 = 0 then fj_X6_lineNow_j28  s1 else bn (f_X6_ends 110 0 s1) (fun s28 r29 => (if r29 = 0 then fj_X6_lineNow_j28  s28 else some (s28, 0)))))
set_option maxHeartbeats 4000000 in
set_option maxRecDepth 100000 in
theorem k_X6_lineNow  {s0 zs : StA} {rr : Int32} (hf : f_X6_lineNow  s0 = some (zs, rr)) : CtI mM yX6_lineNow cX6_lineNow 1 .int rm_X6_lineNow (fun ph => [.ref (ph 0)]) s0 zs rr := by
  refine CtI.of (by decide +kernel) (fun ph => Nat.le_of_ble_eq_true rfl) (fun E O hret => ?_)
  have O : OK mM E RX6 cX6_lineNow 1 rm_X6_lineNow := O
  show WS mM E 1 0 [(0, rf E 0)] [] s0
  unfold f_X6_lineNow at hf
  refine s_aload_n O 0 dX6_lineNow_0 rfl rfl ?_
  refine s_iconst (v := 5) O dX6_lineNow_1 rfl ?_
  refine s_bipush (v := 112) O dX6_lineNow_2 rfl ?_
  refine s_bipush (v := 108) O dX6_lineNow_4 rfl ?_
  refine s_bipush (v := 97) O dX6_lineNow_6 rfl ?_
  refine s_bipush (v := 105) O dX6_lineNow_8 rfl ?_
  obtain ⟨s1, r2, c3, hf⟩ := bn_e hf
  refine s_VI (As := [.int 5, .int 112, .int 108, .int 97, .int 105]) (st := []) O lk_RX6_92 (k_X6_is c3) rfl ms_0 rfl rfl ⟨rfl, rfl⟩ ⟨Nat.le_of_ble_eq_true rfl, Nat.le_of_ble_eq_true rfl⟩ rfl (Nat.le_of_ble_eq_true rfl) dX6_lineNow_10 ?_
  refine s_if_eq (tgt := 28) O dX6_lineNow_13 (by decide) (fun c => ?_) (fun c => ?_)
  · replace hf := if_t c hf
    exact wj_X6_lineNow_j28 (rr := rr) O   hret hf
  · replace hf := if_f c hf
    refine s_aload_n O 0 dX6_lineNow_16 rfl rfl ?_
    refine s_bipush (v := 110) O dX6_lineNow_17 rfl ?_
    refine s_iconst (v := 0) O dX6_lineNow_19 rfl ?_
    obtain ⟨s28, r29, c30, hf⟩ := bn_e hf
    refine s_VI (As := [.int 110, .int 0]) (st := []) O lk_RX6_96 (k_X6_ends c30) rfl ms_0 rfl rfl ⟨rfl, rfl⟩ ⟨Nat.le_of_ble_eq_true rfl, Nat.le_of_ble_eq_true rfl⟩ rfl (Nat.le_of_ble_eq_true rfl) dX6_lineNow_20 ?_
    refine s_if_eq (tgt := 28) O dX6_lineNow_23 (by decide) (fun c => ?_) (fun c => ?_)
    · replace hf := if_t c hf
      exact wj_X6_lineNow_j28 (rr := rr) O   hret hf
    · replace hf := if_f c hf
      refine s_iconst (v := 0) O dX6_lineNow_26 rfl ?_
      exact s_iret hret rfl dX6_lineNow_27 hf
def rm_X6_needs : Room := { frames := 0, cells := 0, slots := 0, locals := 0 }
def f_X6_needs (a1 : Int32) (a2 : Int32) (s0 : StA) : Option (StA × Unit) :=
  (if a1 = 0 then (if (gi s0 0 15) = 0 then nms (si s0 0 15 a2) (fun s1 => nms (si s1 0 16 (gi s1 0 12)) (fun s2 => some (s2, ()))) else some (s0, ())) else some (s0, ()))
set_option maxHeartbeats 4000000 in
set_option maxRecDepth 100000 in
theorem k_X6_needs {a1 : Int32} {a2 : Int32} {s0 zs : StA} {rr : Unit} (hf : f_X6_needs a1 a2 s0 = some (zs, rr)) : CtV mM yX6_needs cX6_needs 3 rm_X6_needs (fun ph => [.ref (ph 0), .int a1, .int a2]) s0 zs := by
  refine CtV.of (by decide +kernel) (fun ph => Nat.le_of_ble_eq_true rfl) (fun E O hret => ?_)
  have O : OK mM E RX6 cX6_needs 3 rm_X6_needs := O
  show WS mM E 3 0 [(0, rf E 0), (1, .int a1), (2, .int a2)] [] s0
  unfold f_X6_needs at hf
  refine s_iload_n O 1 dX6_needs_0 rfl rfl ?_
  refine s_if_ne (tgt := 24) O dX6_needs_1 (by decide) (fun c => ?_) (fun c => ?_)
  · replace hf := if_f c hf
    exact s_vret hret dX6_needs_24 hf
  · replace hf := if_t c hf
    refine s_aload_n O 0 dX6_needs_4 rfl rfl ?_
    refine s_getI O fg_RX6_76 ms_0 rfl dX6_needs_5 ?_
    refine s_if_ne (tgt := 24) O dX6_needs_8 (by decide) (fun c => ?_) (fun c => ?_)
    · replace hf := if_f c hf
      exact s_vret hret dX6_needs_24 hf
    · replace hf := if_t c hf
      refine s_aload_n O 0 dX6_needs_11 rfl rfl ?_
      refine s_iload_n O 2 dX6_needs_12 rfl rfl ?_
      refine s_putI O fp_RX6_76 ms_0 rfl dX6_needs_13 ?_
      refine s_tops (fun s1 es1 => ?_)
      replace hf := nms_e es1 hf
      refine s_aload_n O 0 dX6_needs_16 rfl rfl ?_
      refine s_aload_n O 0 dX6_needs_17 rfl rfl ?_
      refine s_getI O fg_RX6_79 ms_0 rfl dX6_needs_18 ?_
      refine s_putI O fp_RX6_82 ms_0 rfl dX6_needs_21 ?_
      refine s_tops (fun s2 es2 => ?_)
      replace hf := nms_e es2 hf
      exact s_vret hret dX6_needs_24 hf
def rm_X6_looked : Room := { frames := 1, cells := 0, slots := 0, locals := 25 }
def fj_X6_looked_j25 (a1 : Int32) (a2 : Int32)   (s0 : StA) : Option (StA × (Int32)) :=
  (if (gi s0 0 15) = 0 then bn (f_X6_in (gi s0 0 14).toInt64 a1.toInt64 a2.toInt64 s0) (fun s1 r2 => bn (f_X6_needs r2 3 s1) (fun s4 r5 => (if (gi s4 0 15) = 0 then some (s4, (gi s4 0 14)) else some (s4, 0)))) else (if (gi s0 0 15) = 0 then some (s0, (gi s0 0 14)) else some (s0, 0)))
set_option maxHeartbeats 4000000 in
set_option maxRecDepth 100000 in
theorem wj_X6_looked_j25 {E : XC} (O : OK mM E RX6 cX6_looked 3 rm_X6_looked) {a1 : Int32} {a2 : Int32}    {s0 : StA} {zs : StA} {rr : Int32} (hret : ReI mM E .int cX6_looked zs rr) (hf : fj_X6_looked_j25 a1 a2 s0 = some (zs, rr)) : WS mM E 3 25 [(0, rf E 0), (1, .int a1), (2, .int a2)] [] s0 := by
  unfold fj_X6_looked_j25 at hf
  refine s_aload_n O 0 dX6_looked_25 rfl rfl ?_
  refine s_getI O fg_RX6_76 ms_0 rfl dX6_looked_26 ?_
  refine s_if_ne (tgt := 49) O dX6_looked_29 (by decide) (fun c => ?_) (fun c => ?_)
  · replace hf := if_f c hf
    refine s_aload_n O 0 dX6_looked_49 rfl rfl ?_
    refine s_getI O fg_RX6_76 ms_0 rfl dX6_looked_50 ?_
    refine s_if_ne (tgt := 63) O dX6_looked_53 (by decide) (fun c => ?_) (fun c => ?_)
    · replace hf := if_f c hf
      refine s_iconst (v := 0) O dX6_looked_63 rfl ?_
      exact s_iret hret rfl dX6_looked_64 hf
    · replace hf := if_t c hf
      refine s_aload_n O 0 dX6_looked_56 rfl rfl ?_
      refine s_getI O fg_RX6_111 ms_0 rfl dX6_looked_57 ?_
      refine s_goto (tgt := 64) O dX6_looked_60 (by decide) ?_
      exact s_iret hret rfl dX6_looked_64 hf
  · replace hf := if_t c hf
    refine s_aload_n O 0 dX6_looked_32 rfl rfl ?_
    refine s_aload_n O 0 dX6_looked_33 rfl rfl ?_
    refine s_getI O fg_RX6_111 ms_0 rfl dX6_looked_34 ?_
    refine s_i2l O dX6_looked_37 ?_
    refine s_iload_n O 1 dX6_looked_38 rfl rfl ?_
    refine s_i2l O dX6_looked_39 ?_
    refine s_iload_n O 2 dX6_looked_40 rfl rfl ?_
    refine s_i2l O dX6_looked_41 ?_
    obtain ⟨s1, r2, c3, hf⟩ := bn_e hf
    refine s_SI (As := [.long (gi s0 0 14).toInt64, .long a1.toInt64, .long a2.toInt64]) (st := [rf E 0]) O lk_RX6_69 (k_X6_in c3) rfl rfl ⟨rfl, rfl⟩ ⟨Nat.le_of_ble_eq_true rfl, Nat.le_of_ble_eq_true rfl⟩ rfl (Nat.le_of_ble_eq_true rfl) dX6_looked_42 ?_
    refine s_iconst (v := 3) O dX6_looked_45 rfl ?_
    obtain ⟨s4, r5, c6, hf⟩ := bn_e hf
    refine s_VV (As := [.int r2, .int 3]) (st := []) O lk_RX6_114 (k_X6_needs c6) rfl ms_0 rfl rfl ⟨rfl, rfl⟩ ⟨Nat.le_of_ble_eq_true rfl, Nat.le_of_ble_eq_true rfl⟩ rfl (Nat.le_of_ble_eq_true rfl) dX6_looked_46 ?_
    refine s_aload_n O 0 dX6_looked_49 rfl rfl ?_
    refine s_getI O fg_RX6_76 ms_0 rfl dX6_looked_50 ?_
    refine s_if_ne (tgt := 63) O dX6_looked_53 (by decide) (fun c => ?_) (fun c => ?_)
    · replace hf := if_f c hf
      refine s_iconst (v := 0) O dX6_looked_63 rfl ?_
      exact s_iret hret rfl dX6_looked_64 hf
    · replace hf := if_t c hf
      refine s_aload_n O 0 dX6_looked_56 rfl rfl ?_
      refine s_getI O fg_RX6_111 ms_0 rfl dX6_looked_57 ?_
      refine s_goto (tgt := 64) O dX6_looked_60 (by decide) ?_
      exact s_iret hret rfl dX6_looked_64 hf
def fj_X6_looked_j21 (a1 : Int32) (a2 : Int32)  (y0 : Int32) (s0 : StA) : Option (StA × (Int32)) :=
  bn (f_X6_needs y0 2 s0) (fun s7 r8 => fj_X6_looked_j25 a1 a2 s7)
set_option maxHeartbeats 4000000 in
set_option maxRecDepth 100000 in
theorem wj_X6_looked_j21 {E : XC} (O : OK mM E RX6 cX6_looked 3 rm_X6_looked) {a1 : Int32} {a2 : Int32}   {y0 : Int32} {s0 : StA} {zs : StA} {rr : Int32} (hret : ReI mM E .int cX6_looked zs rr) (hf : fj_X6_looked_j21 a1 a2 y0 s0 = some (zs, rr)) : WS mM E 3 21 [(0, rf E 0), (1, .int a1), (2, .int a2)] [.int y0, rf E 0] s0 := by
  unfold fj_X6_looked_j21 at hf
  refine s_iconst (v := 2) O dX6_looked_21 rfl ?_
  obtain ⟨s7, r8, c9, hf⟩ := bn_e hf
  refine s_VV (As := [.int y0, .int 2]) (st := []) O lk_RX6_114 (k_X6_needs c9) rfl ms_0 rfl rfl ⟨rfl, rfl⟩ ⟨Nat.le_of_ble_eq_true rfl, Nat.le_of_ble_eq_true rfl⟩ rfl (Nat.le_of_ble_eq_true rfl) dX6_looked_22 ?_
  exact wj_X6_looked_j25 (rr := rr) O   hret hf
def f_X6_looked (a1 : Int32) (a2 : Int32) (s0 : StA) : Option (StA × Int32) :=
  (if (gi s0 0 15) = 0 then (if (gi s0 0 13) = 2 then fj_X6_looked_j21 a1 a2 1 s0 else fj_X6_looked_j21 a1 a2 0 s0) else fj_X6_looked_j25 a1 a2 s0)
set_option maxHeartbeats 4000000 in
set_option maxRecDepth 100000 in
theorem k_X6_looked {a1 : Int32} {a2 : Int32} {s0 zs : StA} {rr : Int32} (hf : f_X6_looked a1 a2 s0 = some (zs, rr)) : CtI mM yX6_looked cX6_looked 3 .int rm_X6_looked (fun ph => [.ref (ph 0), .int a1, .int a2]) s0 zs rr := by
  refine CtI.of (by decide +kernel) (fun ph => Nat.le_of_ble_eq_true rfl) (fun E O hret => ?_)
  have O : OK mM E RX6 cX6_looked 3 rm_X6_looked := O
  show WS mM E 3 0 [(0, rf E 0), (1, .int a1), (2, .int a2)] [] s0
  unfold f_X6_looked at hf
  refine s_aload_n O 0 dX6_looked_0 rfl rfl ?_
  refine s_getI O fg_RX6_76 ms_0 rfl dX6_looked_1 ?_
  refine s_if_ne (tgt := 25) O dX6_looked_4 (by decide) (fun c => ?_) (fun c => ?_)
  · replace hf := if_f c hf
    exact wj_X6_looked_j25 (rr := rr) O   hret hf
  · replace hf := if_t c hf
    refine s_aload_n O 0 dX6_looked_7 rfl rfl ?_
    refine s_aload_n O 0 dX6_looked_8 rfl rfl ?_
    refine s_getI O fg_RX6_100 ms_0 rfl dX6_looked_9 ?_
    refine s_iconst (v := 2) O dX6_looked_12 rfl ?_
    refine s_icmp_ne (tgt := 20) O dX6_looked_13 (by decide) (fun c => ?_) (fun c => ?_)
    · replace hf := if_f c hf
      refine s_iconst (v := 0) O dX6_looked_20 rfl ?_
      exact wj_X6_looked_j21 (rr := rr) O   hret hf
    · replace hf := if_t c hf
      refine s_iconst (v := 1) O dX6_looked_16 rfl ?_
      refine s_goto (tgt := 21) O dX6_looked_17 (by decide) ?_
      exact wj_X6_looked_j21 (rr := rr) O   hret hf
