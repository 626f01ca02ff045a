def rm_X5_foreseeHeightsByWeight : Room := { frames := 4, cells := 0, slots := 0, locals := 86 }
def fb_X5_foreseeHeightsByWeight_l24 (a1 : Int32) (x1 : Int32) (x2 : Int32) (s0 : StA) (v3 : Int32) : Option (StA × ((Int32) ⊕ (Unit))) :=
  (if 30 < v3 then some (s0, .inr ()) else gd x2 10 (gd v3 31 (nms (si s0 (61 + 1 * x2.toNatClampNeg) v3.toNatClampNeg (gi s0 12 8)) (fun s8 => bn (f_X1_pass 12 s8) (fun s9 r10 => some (s9, .inl (v3 + 1)))))))
set_option maxHeartbeats 4000000 in
set_option maxRecDepth 100000 in
theorem wb_X5_foreseeHeightsByWeight_l24 {E : XC} (O : OK cM E RX5 cX5_foreseeHeightsByWeight 4 rm_X5_foreseeHeightsByWeight) {a1 : Int32}  {x1 : Int32} {x2 : Int32} {s0 : StA} {v3 : Int32} {zs : StA} {rr : Unit} (hret : ReV cM E cX5_foreseeHeightsByWeight zs) {bs : StA} {bw : (Int32) ⊕ (Unit)} (Kc : ∀ v, bw = .inl v → WS cM E 4 24 [(0, rf E 0), (1, .int x1), (2, .int x2), (3, .int v)] [] bs) (Ke : ∀ e, bw = .inr e → WS cM E 4 58 [(0, rf E 0), (1, .int x1), (2, .int x2)] [] bs) (hf : fb_X5_foreseeHeightsByWeight_l24 a1 x1 x2 s0 v3 = some (bs, bw)) : WS cM E 4 24 [(0, rf E 0), (1, .int x1), (2, .int x2), (3, .int v3)] [] s0 := by
  unfold fb_X5_foreseeHeightsByWeight_l24 at hf
  refine s_iload_n O 3 dX5_foreseeHeightsByWeight_24 rfl rfl ?_
  refine s_bipush (v := 30) O dX5_foreseeHeightsByWeight_25 rfl ?_
  refine s_icmp_gt (tgt := 58) O dX5_foreseeHeightsByWeight_27 (by decide) (fun c => ?_) (fun c => ?_)
  · replace hf := if_t c hf
    refine s_loc [0, 1, 2] rfl ?_
    cases hf
    exact Ke _ rfl
  · replace hf := if_f c hf
    refine s_aload_n O 0 dX5_foreseeHeightsByWeight_30 rfl rfl ?_
    refine s_getR O fg_RX5_49 cs_0 rfl dX5_foreseeHeightsByWeight_31 ?_
    refine s_iload_n O 2 dX5_foreseeHeightsByWeight_34 rfl rfl ?_
    obtain ⟨h6, hf⟩ := gd_e hf
    refine s_aald O cs_60 (Or.inr (Or.inr rfl)) h6 dX5_foreseeHeightsByWeight_35 ?_
    refine s_iload_n O 3 dX5_foreseeHeightsByWeight_36 rfl rfl ?_
    refine s_aload_n O 0 dX5_foreseeHeightsByWeight_37 rfl rfl ?_
    refine s_getR O fg_RX5_16 cs_0 rfl dX5_foreseeHeightsByWeight_38 ?_
    refine s_getI O fg_RX5_85 cs_12 rfl dX5_foreseeHeightsByWeight_41 ?_
    obtain ⟨h7, hf⟩ := gd_e hf
    refine s_iast O (im_hb h6) h7 dX5_foreseeHeightsByWeight_44 ?_
    refine s_tops (fun s8 es8 => ?_)
    replace hf := nms_e es8 hf
    refine s_aload_n O 0 dX5_foreseeHeightsByWeight_45 rfl rfl ?_
    refine s_getR O fg_RX5_16 cs_0 rfl dX5_foreseeHeightsByWeight_46 ?_
    obtain ⟨s9, r10, c11, hf⟩ := bn_e hf
    refine s_VV (As := []) (st := []) O lk_RX5_254 (k_X1_pass fl_is12 c11) rfl cs_12 rfl rfl ⟨rfl, rfl⟩ ⟨Nat.le_of_ble_eq_true rfl, Nat.le_of_ble_eq_true rfl⟩ rfl (Nat.le_of_ble_eq_true rfl) dX5_foreseeHeightsByWeight_49 ?_
    refine s_iinc (v := (v3 + 1)) (lv' := [(3, .int (v3 + 1)), (0, rf E 0), (1, .int x1), (2, .int x2)]) O 3 dX5_foreseeHeightsByWeight_52 rfl rfl (by decide) rfl ?_
    refine s_goto (tgt := 24) O dX5_foreseeHeightsByWeight_55 (by decide) ?_
    refine s_loc [1, 2, 3, 0] rfl ?_
    cases hf
    exact Kc _ rfl
def fl_X5_foreseeHeightsByWeight_l24 (a1 : Int32) (x1 : Int32) (x2 : Int32) (s0 : StA) (v : Int32) : Option (StA × ((Unit))) :=
  it (fun s v => fb_X5_foreseeHeightsByWeight_l24 a1 x1 x2 s v) FU s0 v
def fb_X5_foreseeHeightsByWeight_l2 (a1 : Int32) (x1 : Int32) (s0 : StA) (v2 : Int32) : Option (StA × ((Int32) ⊕ (Unit))) :=
  (if 9 < v2 then some (s0, .inr ()) else bn (f_X5_restartTrial  s0) (fun s1 r2 => gd x1 6 (nms (si s1 14 x1.toNatClampNeg v2) (fun s5 => bn (fl_X5_foreseeHeightsByWeight_l24 a1 x1 v2 s5 0) (fun s12 e13 => some (s12, .inl (v2 + 1)))))))
set_option maxHeartbeats 4000000 in
set_option maxRecDepth 100000 in
theorem wb_X5_foreseeHeightsByWeight_l2 {E : XC} (O : OK cM E RX5 cX5_foreseeHeightsByWeight 4 rm_X5_foreseeHeightsByWeight) {a1 : Int32}  {x1 : Int32} {s0 : StA} {v2 : Int32} {zs : StA} {rr : Unit} (hret : ReV cM E cX5_foreseeHeightsByWeight zs) {bs : StA} {bw : (Int32) ⊕ (Unit)} (Kc : ∀ v, bw = .inl v → WS cM E 4 2 [(0, rf E 0), (1, .int x1), (2, .int v)] [] bs) (Ke : ∀ e, bw = .inr e → WS cM E 4 64 [] [] bs) (hf : fb_X5_foreseeHeightsByWeight_l2 a1 x1 s0 v2 = some (bs, bw)) : WS cM E 4 2 [(0, rf E 0), (1, .int x1), (2, .int v2)] [] s0 := by
  unfold fb_X5_foreseeHeightsByWeight_l2 at hf
  refine s_iload_n O 2 dX5_foreseeHeightsByWeight_2 rfl rfl ?_
  refine s_bipush (v := 9) O dX5_foreseeHeightsByWeight_3 rfl ?_
  refine s_icmp_gt (tgt := 64) O dX5_foreseeHeightsByWeight_5 (by decide) (fun c => ?_) (fun c => ?_)
  · replace hf := if_t c hf
    refine s_loc [] rfl ?_
    cases hf
    exact Ke _ rfl
  · replace hf := if_f c hf
    refine s_aload_n O 0 dX5_foreseeHeightsByWeight_8 rfl rfl ?_
    obtain ⟨s1, r2, c3, hf⟩ := bn_e hf
    refine s_VV (As := []) (st := []) O lk_RX5_168 (k_X5_restartTrial c3) rfl cs_0 rfl rfl ⟨rfl, rfl⟩ ⟨Nat.le_of_ble_eq_true rfl, Nat.le_of_ble_eq_true rfl⟩ rfl (Nat.le_of_ble_eq_true rfl) dX5_foreseeHeightsByWeight_9 ?_
    refine s_aload_n O 0 dX5_foreseeHeightsByWeight_12 rfl rfl ?_
    refine s_getR O fg_RX5_16 cs_0 rfl dX5_foreseeHeightsByWeight_13 ?_
    refine s_getR O fg_RX5_118 cs_12 rfl dX5_foreseeHeightsByWeight_16 ?_
    refine s_iload_n O 1 dX5_foreseeHeightsByWeight_19 rfl rfl ?_
    refine s_iload_n O 2 dX5_foreseeHeightsByWeight_20 rfl rfl ?_
    obtain ⟨h4, hf⟩ := gd_e hf
    refine s_iast O cs_14 h4 dX5_foreseeHeightsByWeight_21 ?_
    refine s_tops (fun s5 es5 => ?_)
    replace hf := nms_e es5 hf
    refine s_iconst (v := 0) O dX5_foreseeHeightsByWeight_22 rfl ?_
    refine s_istore_n (lv' := [(3, .int 0), (0, rf E 0), (1, .int x1), (2, .int v2)]) O dX5_foreseeHeightsByWeight_23 rfl (by decide) rfl ?_
    refine s_loc [1, 2, 3, 0] rfl ?_
    obtain ⟨s12, e13, c14, hf⟩ := bn_e hf
    refine lp_of (body := fun s v => fb_X5_foreseeHeightsByWeight_l24 a1 x1 v2 s v) (X := fun s v => WS cM E 4 24 [(0, rf E 0), (1, .int x1), (2, .int v2), (3, .int v)] [] s) (Y := fun s e => WS cM E 4 58 [(0, rf E 0), (1, .int x1), (2, .int v2)] [] s) (fun s v s' w hb Kc Ke => wb_X5_foreseeHeightsByWeight_l24 (rr := rr) O   hret Kc Ke hb) FU _ _ (s12, e13) c14 ?_
    show WS cM E 4 58 [(0, rf E 0), (1, .int x1), (2, .int v2)] [] s12
    refine s_iinc (v := (v2 + 1)) (lv' := [(2, .int (v2 + 1)), (0, rf E 0), (1, .int x1)]) O 2 dX5_foreseeHeightsByWeight_58 rfl rfl (by decide) rfl ?_
    refine s_goto (tgt := 2) O dX5_foreseeHeightsByWeight_61 (by decide) ?_
    refine s_loc [1, 2, 0] rfl ?_
    cases hf
    exact Kc _ rfl
def fl_X5_foreseeHeightsByWeight_l2 (a1 : Int32) (x1 : Int32) (s0 : StA) (v : Int32) : Option (StA × ((Unit))) :=
  it (fun s v => fb_X5_foreseeHeightsByWeight_l2 a1 x1 s v) FU s0 v
def f_X5_foreseeHeightsByWeight (a1 : Int32) (s0 : StA) : Option (StA × Unit) :=
  bn (fl_X5_foreseeHeightsByWeight_l2 a1 a1 s0 1) (fun s15 e16 => some (s15, ()))
set_option maxHeartbeats 4000000 in
set_option maxRecDepth 100000 in
theorem k_X5_foreseeHeightsByWeight {a1 : Int32} {s0 zs : StA} {rr : Unit} (hf : f_X5_foreseeHeightsByWeight a1 s0 = some (zs, rr)) : CtV cM yX5_foreseeHeightsByWeight cX5_foreseeHeightsByWeight 4 rm_X5_foreseeHeightsByWeight (fun ph => [.ref (ph 0), .int a1]) s0 zs := by
  refine CtV.of (by decide +kernel) (fun ph => Nat.le_of_ble_eq_true rfl) (fun E O hret => ?_)
  have O : OK cM E RX5 cX5_foreseeHeightsByWeight 4 rm_X5_foreseeHeightsByWeight := O
  show WS cM E 4 0 [(0, rf E 0), (1, .int a1)] [] s0
  unfold f_X5_foreseeHeightsByWeight at hf
  refine s_iconst (v := 1) O dX5_foreseeHeightsByWeight_0 rfl ?_
  refine s_istore_n (lv' := [(2, .int 1), (0, rf E 0), (1, .int a1)]) O dX5_foreseeHeightsByWeight_1 rfl (by decide) rfl ?_
  refine s_loc [1, 2, 0] rfl ?_
  obtain ⟨s15, e16, c17, hf⟩ := bn_e hf
  refine lp_of (body := fun s v => fb_X5_foreseeHeightsByWeight_l2 a1 a1 s v) (X := fun s v => WS cM E 4 2 [(0, rf E 0), (1, .int a1), (2, .int v)] [] s) (Y := fun s e => WS cM E 4 64 [] [] s) (fun s v s' w hb Kc Ke => wb_X5_foreseeHeightsByWeight_l2 (rr := rr) O   hret Kc Ke hb) FU _ _ (s15, e16) c17 ?_
  show WS cM E 4 64 [] [] s15
  exact s_vret hret dX5_foreseeHeightsByWeight_64 hf
def rm_X5_alikeBehind : Room := { frames := 0, cells := 0, slots := 0, locals := 0 }
def fb_X5_alikeBehind_l6 (a1 : Int32) (a2 : Int32) (a3 : Int32) (x1 : Int32) (x2 : Int32) (x3 : Int32) (s0 : StA) (v4 : Int32) (v5 : Int32) : Option (StA × ((Int32 × Int32) ⊕ (Int32))) :=
  (if 9 < v5 then some (s0, .inr v4) else (if ((x2 >>> (v5 &&& 31)) &&& 1) = 1 then gd v5 10 (gd x3 31 (gd x1 10 (gd x3 31 ((if (gi s0 (61 + 1 * v5.toNatClampNeg) x3.toNatClampNeg) = (gi s0 (61 + 1 * x1.toNatClampNeg) x3.toNatClampNeg) then some (s0, .inl ((v4 + 1), (v5 + 1))) else some (s0, .inl (v4, (v5 + 1)))))))) else some (s0, .inl (v4, (v5 + 1)))))
set_option maxHeartbeats 4000000 in
set_option maxRecDepth 100000 in
theorem wb_X5_alikeBehind_l6 {E : XC} (O : OK cM E RX5 cX5_alikeBehind 6 rm_X5_alikeBehind) {a1 : Int32} {a2 : Int32} {a3 : Int32}  {x1 : Int32} {x2 : Int32} {x3 : Int32} {s0 : StA} {v4 : Int32} {v5 : Int32} {zs : StA} {rr : Int32} (hret : ReI cM E .int cX5_alikeBehind zs rr) {bs : StA} {bw : (Int32 × Int32) ⊕ (Int32)} (Kc : ∀ v, bw = .inl v → WS cM E 6 6 [(0, rf E 0), (1, .int x1), (2, .int x2), (3, .int x3), (4, .int v.1), (5, .int v.2)] [] bs) (Ke : ∀ e, bw = .inr e → WS cM E 6 52 [(4, .int e)] [] bs) (hf : fb_X5_alikeBehind_l6 a1 a2 a3 x1 x2 x3 s0 v4 v5 = some (bs, bw)) : WS cM E 6 6 [(0, rf E 0), (1, .int x1), (2, .int x2), (3, .int x3), (4, .int v4), (5, .int v5)] [] s0 := by
  unfold fb_X5_alikeBehind_l6 at hf
  refine s_iload O 5 dX5_alikeBehind_6 rfl ?_
  refine s_bipush (v := 9) O dX5_alikeBehind_8 rfl ?_
  refine s_icmp_gt (tgt := 52) O dX5_alikeBehind_10 (by decide) (fun c => ?_) (fun c => ?_)
  · replace hf := if_t c hf
    refine s_loc [4] rfl ?_
    cases hf
    exact Ke _ rfl
  · replace hf := if_f c hf
    refine s_iload_n O 2 dX5_alikeBehind_13 rfl rfl ?_
    refine s_iload O 5 dX5_alikeBehind_14 rfl ?_
    refine s_ishr O dX5_alikeBehind_16 ?_
    refine s_iconst (v := 1) O dX5_alikeBehind_17 rfl ?_
    refine s_iand O dX5_alikeBehind_18 ?_
    refine s_iconst (v := 1) O dX5_alikeBehind_19 rfl ?_
    refine s_icmp_ne (tgt := 46) O dX5_alikeBehind_20 (by decide) (fun c => ?_) (fun c => ?_)
    · replace hf := if_f c hf
      refine s_iinc (v := (v5 + 1)) (lv' := [(5, .int (v5 + 1)), (0, rf E 0), (1, .int x1), (2, .int x2), (3, .int x3), (4, .int v4)]) O 5 dX5_alikeBehind_46 rfl rfl (by decide) rfl ?_
      refine s_goto (tgt := 6) O dX5_alikeBehind_49 (by decide) ?_
      refine s_loc [1, 2, 3, 4, 5, 0] rfl ?_
      cases hf
      exact Kc _ rfl
    · replace hf := if_t c hf
      refine s_aload_n O 0 dX5_alikeBehind_23 rfl rfl ?_
      refine s_getR O fg_RX5_49 cs_0 rfl dX5_alikeBehind_24 ?_
      refine s_iload O 5 dX5_alikeBehind_27 rfl ?_
      obtain ⟨h1, hf⟩ := gd_e hf
      refine s_aald O cs_60 (Or.inr (Or.inr rfl)) h1 dX5_alikeBehind_29 ?_
      refine s_iload_n O 3 dX5_alikeBehind_30 rfl rfl ?_
      obtain ⟨h2, hf⟩ := gd_e hf
      refine s_iald O (im_hb h1) h2 dX5_alikeBehind_31 ?_
      refine s_aload_n O 0 dX5_alikeBehind_32 rfl rfl ?_
      refine s_getR O fg_RX5_49 cs_0 rfl dX5_alikeBehind_33 ?_
      refine s_iload_n O 1 dX5_alikeBehind_36 rfl rfl ?_
      obtain ⟨h3, hf⟩ := gd_e hf
      refine s_aald O cs_60 (Or.inr (Or.inr rfl)) h3 dX5_alikeBehind_37 ?_
      refine s_iload_n O 3 dX5_alikeBehind_38 rfl rfl ?_
      obtain ⟨h4, hf⟩ := gd_e hf
      refine s_iald O (im_hb h3) h4 dX5_alikeBehind_39 ?_
      refine s_icmp_ne (tgt := 46) O dX5_alikeBehind_40 (by decide) (fun c => ?_) (fun c => ?_)
      · replace hf := if_f c hf
        refine s_iinc (v := (v5 + 1)) (lv' := [(5, .int (v5 + 1)), (0, rf E 0), (1, .int x1), (2, .int x2), (3, .int x3), (4, .int v4)]) O 5 dX5_alikeBehind_46 rfl rfl (by decide) rfl ?_
        refine s_goto (tgt := 6) O dX5_alikeBehind_49 (by decide) ?_
        refine s_loc [1, 2, 3, 4, 5, 0] rfl ?_
        cases hf
        exact Kc _ rfl
      · replace hf := if_t c hf
        refine s_iinc (v := (v4 + 1)) (lv' := [(4, .int (v4 + 1)), (0, rf E 0), (1, .int x1), (2, .int x2), (3, .int x3), (5, .int v5)]) O 4 dX5_alikeBehind_43 rfl rfl (by decide) rfl ?_
        refine s_iinc (v := (v5 + 1)) (lv' := [(5, .int (v5 + 1)), (4, .int (v4 + 1)), (0, rf E 0), (1, .int x1), (2, .int x2), (3, .int x3)]) O 5 dX5_alikeBehind_46 rfl rfl (by decide) rfl ?_
        refine s_goto (tgt := 6) O dX5_alikeBehind_49 (by decide) ?_
        refine s_loc [2, 3, 4, 5, 1, 0] rfl ?_
        cases hf
        exact Kc _ rfl
def fl_X5_alikeBehind_l6 (a1 : Int32) (a2 : Int32) (a3 : Int32) (x1 : Int32) (x2 : Int32) (x3 : Int32) (s0 : StA) (v : Int32 × Int32) : Option (StA × ((Int32))) :=
  it (fun s v => fb_X5_alikeBehind_l6 a1 a2 a3 x1 x2 x3 s v.1 v.2) FU s0 v
def f_X5_alikeBehind (a1 : Int32) (a2 : Int32) (a3 : Int32) (s0 : StA) : Option (StA × Int32) :=
  bn (fl_X5_alikeBehind_l6 a1 a2 a3 a1 a2 a3 s0 (0, 1)) (fun s5 u6_4 => some (s5, u6_4))
set_option maxHeartbeats 4000000 in
set_option maxRecDepth 100000 in
theorem k_X5_alikeBehind {a1 : Int32} {a2 : Int32} {a3 : Int32} {s0 zs : StA} {rr : Int32} (hf : f_X5_alikeBehind a1 a2 a3 s0 = some (zs, rr)) : CtI cM yX5_alikeBehind cX5_alikeBehind 6 .int rm_X5_alikeBehind (fun ph => [.ref (ph 0), .int a1, .int a2, .int a3]) s0 zs rr := by
  refine CtI.of (by decide +kernel) (fun ph => Nat.le_of_ble_eq_true rfl) (fun E O hret => ?_)
  have O : OK cM E RX5 cX5_alikeBehind 6 rm_X5_alikeBehind := O
  show WS cM E 6 0 [(0, rf E 0), (1, .int a1), (2, .int a2), (3, .int a3)] [] s0
  unfold f_X5_alikeBehind at hf
  refine s_iconst (v := 0) O dX5_alikeBehind_0 rfl ?_
  refine s_istore (lv' := [(4, .int 0), (0, rf E 0), (1, .int a1), (2, .int a2), (3, .int a3)]) O dX5_alikeBehind_1 (by decide) rfl ?_
  refine s_iconst (v := 1) O dX5_alikeBehind_3 rfl ?_
  refine s_istore (lv' := [(5, .int 1), (4, .int 0), (0, rf E 0), (1, .int a1), (2, .int a2), (3, .int a3)]) O dX5_alikeBehind_4 (by decide) rfl ?_
  refine s_loc [2, 3, 4, 5, 1, 0] rfl ?_
  obtain ⟨s5, u6_4, c7, hf⟩ := bn_e hf
  refine lp_of (body := fun s v => fb_X5_alikeBehind_l6 a1 a2 a3 a1 a2 a3 s v.1 v.2) (X := fun s v => WS cM E 6 6 [(0, rf E 0), (1, .int a1), (2, .int a2), (3, .int a3), (4, .int v.1), (5, .int v.2)] [] s) (Y := fun s e => WS cM E 6 52 [(4, .int e)] [] s) (fun s v s' w hb Kc Ke => wb_X5_alikeBehind_l6 (rr := rr) O   hret Kc Ke hb) FU _ _ (s5, u6_4) c7 ?_
  show WS cM E 6 52 [(4, .int u6_4)] [] s5
  refine s_iload O 0 dX5_alikeBehind_52 rfl ?_
  exact s_iret hret rfl dX5_alikeBehind_54 hf
def rm_X5_mostLeftByLooking : Room := { frames := 1, cells := 0, slots := 0, locals := 25 }
def fb_X5_mostLeftByLooking_l5 (a1 : Int32) (a2 : Int32) (x1 : Int32) (x2 : Int32) (s0 : StA) (v3 : Int32) (v4 : Int32) : Option (StA × ((Int32 × Int32) ⊕ (Int32))) :=
  (if 9 < v4 then some (s0, .inr v3) else (if ((x1 >>> (v4 &&& 31)) &&& 1) = 1 then bn (f_X5_alikeBehind v4 x1 x2 s0) (fun s1 r2 => nmi (if v3 < r2 then r2 else v3) (fun n4 => some (s1, .inl (n4, (v4 + 1))))) else some (s0, .inl (v3, (v4 + 1)))))
set_option maxHeartbeats 4000000 in
set_option maxRecDepth 100000 in
theorem wb_X5_mostLeftByLooking_l5 {E : XC} (O : OK cM E RX5 cX5_mostLeftByLooking 5 rm_X5_mostLeftByLooking) {a1 : Int32} {a2 : Int32}  {x1 : Int32} {x2 : Int32} {s0 : StA} {v3 : Int32} {v4 : Int32} {zs : StA} {rr : Int32} (hret : ReI cM E .int cX5_mostLeftByLooking zs rr) {bs : StA} {bw : (Int32 × Int32) ⊕ (Int32)} (Kc : ∀ v, bw = .inl v → WS cM E 5 5 [(0, rf E 0), (1, .int x1), (2, .int x2), (3, .int v.1), (4, .int v.2)] [] bs) (Ke : ∀ e, bw = .inr e → WS cM E 5 41 [(3, .int e)] [] bs) (hf : fb_X5_mostLeftByLooking_l5 a1 a2 x1 x2 s0 v3 v4 = some (bs, bw)) : WS cM E 5 5 [(0, rf E 0), (1, .int x1), (2, .int x2), (3, .int v3), (4, .int v4)] [] s0 := by
  unfold fb_X5_mostLeftByLooking_l5 at hf
  refine s_iload O 4 dX5_mostLeftByLooking_5 rfl ?_
  refine s_bipush (v := 9) O dX5_mostLeftByLooking_7 rfl ?_
  refine s_icmp_gt (tgt := 41) O dX5_mostLeftByLooking_9 (by decide) (fun c => ?_) (fun c => ?_)
  · replace hf := if_t c hf
    refine s_loc [3] rfl ?_
    cases hf
    exact Ke _ rfl
  · replace hf := if_f c hf
    refine s_iload_n O 1 dX5_mostLeftByLooking_12 rfl rfl ?_
    refine s_iload O 4 dX5_mostLeftByLooking_13 rfl ?_
    refine s_ishr O dX5_mostLeftByLooking_15 ?_
    refine s_iconst (v := 1) O dX5_mostLeftByLooking_16 rfl ?_
    refine s_iand O dX5_mostLeftByLooking_17 ?_
    refine s_iconst (v := 1) O dX5_mostLeftByLooking_18 rfl ?_
    refine s_icmp_ne (tgt := 35) O dX5_mostLeftByLooking_19 (by decide) (fun c => ?_) (fun c => ?_)
    · replace hf := if_f c hf
      refine s_iinc (v := (v4 + 1)) (lv' := [(4, .int (v4 + 1)), (0, rf E 0), (1, .int x1), (2, .int x2), (3, .int v3)]) O 4 dX5_mostLeftByLooking_35 rfl rfl (by decide) rfl ?_
      refine s_goto (tgt := 5) O dX5_mostLeftByLooking_38 (by decide) ?_
      refine s_loc [1, 2, 3, 4, 0] rfl ?_
      cases hf
      exact Kc _ rfl
    · replace hf := if_t c hf
      refine s_iload_n O 3 dX5_mostLeftByLooking_22 rfl rfl ?_
      refine s_aload_n O 0 dX5_mostLeftByLooking_23 rfl rfl ?_
      refine s_iload O 4 dX5_mostLeftByLooking_24 rfl ?_
      refine s_iload_n O 1 dX5_mostLeftByLooking_26 rfl rfl ?_
      refine s_iload_n O 2 dX5_mostLeftByLooking_27 rfl rfl ?_
      obtain ⟨s1, r2, c3, hf⟩ := bn_e hf
      refine s_VI (As := [.int v4, .int x1, .int x2]) (st := [.int v3]) O lk_RX5_257 (k_X5_alikeBehind c3) rfl cs_0 rfl rfl ⟨rfl, rfl⟩ ⟨Nat.le_of_ble_eq_true rfl, Nat.le_of_ble_eq_true rfl⟩ rfl (Nat.le_of_ble_eq_true rfl) dX5_mostLeftByLooking_28 ?_
      refine s_mmax (st := []) O lk_RX5_261 ⟨Nat.le_of_ble_eq_true rfl, Nat.le_of_ble_eq_true rfl⟩ (Nat.le_of_ble_eq_true rfl) dX5_mostLeftByLooking_31 ?_
      refine s_topi (fun n4 en4 => ?_)
      replace hf := nmi_e en4 hf
      refine s_istore_n (lv' := [(3, .int n4), (0, rf E 0), (1, .int x1), (2, .int x2), (4, .int v4)]) O dX5_mostLeftByLooking_34 rfl (by decide) rfl ?_
      refine s_iinc (v := (v4 + 1)) (lv' := [(4, .int (v4 + 1)), (3, .int n4), (0, rf E 0), (1, .int x1), (2, .int x2)]) O 4 dX5_mostLeftByLooking_35 rfl rfl (by decide) rfl ?_
      refine s_goto (tgt := 5) O dX5_mostLeftByLooking_38 (by decide) ?_
      refine s_loc [2, 3, 4, 1, 0] rfl ?_
      cases hf
      exact Kc _ rfl
def fl_X5_mostLeftByLooking_l5 (a1 : Int32) (a2 : Int32) (x1 : Int32) (x2 : Int32) (s0 : StA) (v : Int32 × Int32) : Option (StA × ((Int32))) :=
  it (fun s v => fb_X5_mostLeftByLooking_l5 a1 a2 x1 x2 s v.1 v.2) FU s0 v
def f_X5_mostLeftByLooking (a1 : Int32) (a2 : Int32) (s0 : StA) : Option (StA × Int32) :=
  bn (fl_X5_mostLeftByLooking_l5 a1 a2 a1 a2 s0 (0, 1)) (fun s5 u5_3 => some (s5, u5_3))
set_option maxHeartbeats 4000000 in
set_option maxRecDepth 100000 in
theorem k_X5_mostLeftByLooking {a1 : Int32} {a2 : Int32} {s0 zs : StA} {rr : Int32} (hf : f_X5_mostLeftByLooking a1 a2 s0 = some (zs, rr)) : CtI cM yX5_mostLeftByLooking cX5_mostLeftByLooking 5 .int rm_X5_mostLeftByLooking (fun ph => [.ref (ph 0), .int a1, .int a2]) s0 zs rr := by
  refine CtI.of (by decide +kernel) (fun ph => Nat.le_of_ble_eq_true rfl) (fun E O hret => ?_)
  have O : OK cM E RX5 cX5_mostLeftByLooking 5 rm_X5_mostLeftByLooking := O
  show WS cM E 5 0 [(0, rf E 0), (1, .int a1), (2, .int a2)] [] s0
  unfold f_X5_mostLeftByLooking at hf
  refine s_iconst (v := 0) O dX5_mostLeftByLooking_0 rfl ?_
  refine s_istore_n (lv' := [(3, .int 0), (0, rf E 0), (1, .int a1), (2, .int a2)]) O dX5_mostLeftByLooking_1 rfl (by decide) rfl ?_
  refine s_iconst (v := 1) O dX5_mostLeftByLooking_2 rfl ?_
  refine s_istore (lv' := [(4, .int 1), (3, .int 0), (0, rf E 0), (1, .int a1), (2, .int a2)]) O dX5_mostLeftByLooking_3 (by decide) rfl ?_
  refine s_loc [2, 3, 4, 1, 0] rfl ?_
  obtain ⟨s5, u5_3, c7, hf⟩ := bn_e hf
  refine lp_of (body := fun s v => fb_X5_mostLeftByLooking_l5 a1 a2 a1 a2 s v.1 v.2) (X := fun s v => WS cM E 5 5 [(0, rf E 0), (1, .int a1), (2, .int a2), (3, .int v.1), (4, .int v.2)] [] s) (Y := fun s e => WS cM E 5 41 [(3, .int e)] [] s) (fun s v s' w hb Kc Ke => wb_X5_mostLeftByLooking_l5 (rr := rr) O   hret Kc Ke hb) FU _ _ (s5, u5_3) c7 ?_
  show WS cM E 5 41 [(3, .int u5_3)] [] s5
  refine s_iload_n O 0 dX5_mostLeftByLooking_41 rfl rfl ?_
  exact s_iret hret rfl dX5_mostLeftByLooking_42 hf
def rm_J6_bitCount_0f7a4 : Room := { frames := 0, cells := 0, slots := 0, locals := 0 }
def f_J6_bitCount_0f7a4 (a0 : Int32) (s0 : StA) : Option (StA × Int32) :=
  nmi (a0 - ((a0.toUInt32 >>> ((1 : Int32).toUInt32 &&& Int32.toUInt32 31)).toInt32 &&& 1431655765)) (fun n1 => nmi ((n1 &&& 858993459) + ((n1.toUInt32 >>> ((2 : Int32).toUInt32 &&& Int32.toUInt32 31)).toInt32 &&& 858993459)) (fun n2 => nmi ((n2 + (n2.toUInt32 >>> ((4 : Int32).toUInt32 &&& Int32.toUInt32 31)).toInt32) &&& 252645135) (fun n3 => nmi (n3 + (n3.toUInt32 >>> ((8 : Int32).toUInt32 &&& Int32.toUInt32 31)).toInt32) (fun n4 => nmi (n4 + (n4.toUInt32 >>> ((16 : Int32).toUInt32 &&& Int32.toUInt32 31)).toInt32) (fun n5 => some (s0, (n5 &&& 63)))))))
set_option maxHeartbeats 4000000 in
set_option maxRecDepth 100000 in
theorem k_J6_bitCount_0f7a4 {M : MW} {a0 : Int32} {s0 zs : StA} {rr : Int32} (hf : f_J6_bitCount_0f7a4 a0 s0 = some (zs, rr)) : CtI M yJ6_bitCount_0f7a4 cJ6_bitCount_0f7a4 1 .int rm_J6_bitCount_0f7a4 (fun ph => [.int a0]) s0 zs rr := by
  refine CtI.of (by decide +kernel) (fun ph => Nat.le_of_ble_eq_true rfl) (fun E O hret => ?_)
  have O : OK M E RJ6 cJ6_bitCount_0f7a4 1 rm_J6_bitCount_0f7a4 := O
  show WS M E 1 0 [(0, .int a0)] [] s0
  unfold f_J6_bitCount_0f7a4 at hf
  refine s_iload_n O 0 dJ6_bitCount_0f7a4_0 rfl rfl ?_
  refine s_iload_n O 0 dJ6_bitCount_0f7a4_1 rfl rfl ?_
  refine s_iconst (v := 1) O dJ6_bitCount_0f7a4_2 rfl ?_
  refine s_iushr O dJ6_bitCount_0f7a4_3 rfl ?_
  refine s_ldcw O ci_RJ6_265 dJ6_bitCount_0f7a4_4 ?_
  refine s_iand O dJ6_bitCount_0f7a4_7 ?_
  refine s_isub O dJ6_bitCount_0f7a4_8 ?_
  refine s_topi (fun n1 en1 => ?_)
  replace hf := nmi_e en1 hf
  refine s_istore_n (lv' := [(0, .int n1)]) O dJ6_bitCount_0f7a4_9 rfl (by decide) rfl ?_
  refine s_iload_n O 0 dJ6_bitCount_0f7a4_10 rfl rfl ?_
  refine s_ldcw O ci_RJ6_266 dJ6_bitCount_0f7a4_11 ?_
  refine s_iand O dJ6_bitCount_0f7a4_14 ?_
  refine s_iload_n O 0 dJ6_bitCount_0f7a4_15 rfl rfl ?_
  refine s_iconst (v := 2) O dJ6_bitCount_0f7a4_16 rfl ?_
  refine s_iushr O dJ6_bitCount_0f7a4_17 rfl ?_
  refine s_ldcw O ci_RJ6_266 dJ6_bitCount_0f7a4_18 ?_
  refine s_iand O dJ6_bitCount_0f7a4_21 ?_
  refine s_iadd O dJ6_bitCount_0f7a4_22 ?_
  refine s_topi (fun n2 en2 => ?_)
  replace hf := nmi_e en2 hf
  refine s_istore_n (lv' := [(0, .int n2)]) O dJ6_bitCount_0f7a4_23 rfl (by decide) rfl ?_
  refine s_iload_n O 0 dJ6_bitCount_0f7a4_24 rfl rfl ?_
  refine s_iload_n O 0 dJ6_bitCount_0f7a4_25 rfl rfl ?_
  refine s_iconst (v := 4) O dJ6_bitCount_0f7a4_26 rfl ?_
  refine s_iushr O dJ6_bitCount_0f7a4_27 rfl ?_
  refine s_iadd O dJ6_bitCount_0f7a4_28 ?_
  refine s_ldcw O ci_RJ6_267 dJ6_bitCount_0f7a4_29 ?_
  refine s_iand O dJ6_bitCount_0f7a4_32 ?_
  refine s_topi (fun n3 en3 => ?_)
  replace hf := nmi_e en3 hf
  refine s_istore_n (lv' := [(0, .int n3)]) O dJ6_bitCount_0f7a4_33 rfl (by decide) rfl ?_
  refine s_iload_n O 0 dJ6_bitCount_0f7a4_34 rfl rfl ?_
  refine s_iload_n O 0 dJ6_bitCount_0f7a4_35 rfl rfl ?_
  refine s_bipush (v := 8) O dJ6_bitCount_0f7a4_36 rfl ?_
  refine s_iushr O dJ6_bitCount_0f7a4_38 rfl ?_
  refine s_iadd O dJ6_bitCount_0f7a4_39 ?_
  refine s_topi (fun n4 en4 => ?_)
  replace hf := nmi_e en4 hf
  refine s_istore_n (lv' := [(0, .int n4)]) O dJ6_bitCount_0f7a4_40 rfl (by decide) rfl ?_
  refine s_iload_n O 0 dJ6_bitCount_0f7a4_41 rfl rfl ?_
  refine s_iload_n O 0 dJ6_bitCount_0f7a4_42 rfl rfl ?_
  refine s_bipush (v := 16) O dJ6_bitCount_0f7a4_43 rfl ?_
  refine s_iushr O dJ6_bitCount_0f7a4_45 rfl ?_
  refine s_iadd O dJ6_bitCount_0f7a4_46 ?_
  refine s_topi (fun n5 en5 => ?_)
  replace hf := nmi_e en5 hf
  refine s_istore_n (lv' := [(0, .int n5)]) O dJ6_bitCount_0f7a4_47 rfl (by decide) rfl ?_
  refine s_iload_n O 0 dJ6_bitCount_0f7a4_48 rfl rfl ?_
  refine s_bipush (v := 63) O dJ6_bitCount_0f7a4_49 rfl ?_
  refine s_iand O dJ6_bitCount_0f7a4_51 ?_
  exact s_iret hret rfl dJ6_bitCount_0f7a4_52 hf
def rm_X5_ask : Room := { frames := 6, cells := 0, slots := 0, locals := 131 }
def fb_X5_ask_l48 (a1 : Int32) (a2 : Int32) (x2 : Int32) (x3 : Int32) (s0 : StA) (v4 : Int32) : Option (StA × ((Int32) ⊕ (Unit))) :=
  (if 30 < v4 then some (s0, .inr ()) else bn (f_X5_mostLeftByLooking x3 v4 s0) (fun s19 r20 => bn (f_X0_offer v4 r20 s19) (fun s22 r23 => some (s22, .inl (v4 + 1)))))
set_option maxHeartbeats 4000000 in
set_option maxRecDepth 100000 in
theorem wb_X5_ask_l48 {E : XC} (O : OK cM E RX5 cX5_ask 5 rm_X5_ask) {a1 : Int32} {a2 : Int32}  {x2 : Int32} {x3 : Int32} {s0 : StA} {v4 : Int32} {zs : StA} {rr : Int32} (hret : ReI cM E .int cX5_ask zs rr) {bs : StA} {bw : (Int32) ⊕ (Unit)} (Kc : ∀ v, bw = .inl v → WS cM E 5 48 [(0, rf E 0), (2, .int x2), (3, .int x3), (4, .int v)] [] bs) (Ke : ∀ e, bw = .inr e → WS cM E 5 77 [(0, rf E 0), (2, .int x2)] [] bs) (hf : fb_X5_ask_l48 a1 a2 x2 x3 s0 v4 = some (bs, bw)) : WS cM E 5 48 [(0, rf E 0), (2, .int x2), (3, .int x3), (4, .int v4)] [] s0 := by
  unfold fb_X5_ask_l48 at hf
  refine s_iload O 3 dX5_ask_48 rfl ?_
  refine s_bipush (v := 30) O dX5_ask_50 rfl ?_
  refine s_icmp_gt (tgt := 77) O dX5_ask_52 (by decide) (fun c => ?_) (fun c => ?_)
  · replace hf := if_t c hf
    refine s_loc [0, 1] rfl ?_
    cases hf
    exact Ke _ rfl
  · replace hf := if_f c hf
    refine s_aload_n O 0 dX5_ask_55 rfl rfl ?_
    refine s_getR O fg_RX5_43 cs_0 rfl dX5_ask_56 ?_
    refine s_iload O 3 dX5_ask_59 rfl ?_
    refine s_aload_n O 0 dX5_ask_61 rfl rfl ?_
    refine s_iload_n O 2 dX5_ask_62 rfl rfl ?_
    refine s_iload O 3 dX5_ask_63 rfl ?_
    obtain ⟨s19, r20, c21, hf⟩ := bn_e hf
    refine s_VI (As := [.int x3, .int v4]) (st := [.int v4, rf E 59]) O lk_RX5_251 (k_X5_mostLeftByLooking c21) rfl cs_0 rfl rfl ⟨rfl, rfl⟩ ⟨Nat.le_of_ble_eq_true rfl, Nat.le_of_ble_eq_true rfl⟩ rfl (Nat.le_of_ble_eq_true rfl) dX5_ask_65 ?_
    obtain ⟨s22, r23, c24, hf⟩ := bn_e hf
    refine s_VV (As := [.int v4, .int r20]) (st := []) O lk_RX5_193 (k_X0_offer c24) rfl cs_59 rfl rfl ⟨rfl, rfl⟩ ⟨Nat.le_of_ble_eq_true rfl, Nat.le_of_ble_eq_true rfl⟩ rfl (Nat.le_of_ble_eq_true rfl) dX5_ask_68 ?_
    refine s_iinc (v := (v4 + 1)) (lv' := [(4, .int (v4 + 1)), (0, rf E 0), (2, .int x2), (3, .int x3)]) O 3 dX5_ask_71 rfl rfl (by decide) rfl ?_
    refine s_goto (tgt := 48) O dX5_ask_74 (by decide) ?_
    refine s_loc [1, 2, 3, 0] rfl ?_
    cases hf
    exact Kc _ rfl
def fl_X5_ask_l48 (a1 : Int32) (a2 : Int32) (x2 : Int32) (x3 : Int32) (s0 : StA) (v : Int32) : Option (StA × ((Unit))) :=
  it (fun s v => fb_X5_ask_l48 a1 a2 x2 x3 s v) FU s0 v
def f_X5_ask (a1 : Int32) (a2 : Int32) (s0 : StA) : Option (StA × Int32) :=
  bn (f_X1_hasThing 1 a1 s0) (fun s1 r2 => (if r2 = 0 then some (s1, (-1)) else bn (f_X5_isIn a2 0 1 s1) (fun s4 r5 => (if r5 = 0 then some (s4, (-1)) else bn (f_X5_valuesAsSeen a1 1 s4) (fun s7 r8 => bn (f_X5_foreseeHeightsByWeight a1 s7) (fun s10 r11 => bn (f_J6_bitCount_0f7a4 r8 s10) (fun s13 r14 => bn (f_X0_beginBelow r14 s13) (fun s16 r17 => bn (fl_X5_ask_l48 a1 a2 a2 r8 s16 0) (fun s25 e26 => bn (f_X0_answer a2 s25) (fun s28 r29 => some (s28, r29)))))))))))
set_option maxHeartbeats 4000000 in
set_option maxRecDepth 100000 in
theorem k_X5_ask {a1 : Int32} {a2 : Int32} {s0 zs : StA} {rr : Int32} (hf : f_X5_ask a1 a2 s0 = some (zs, rr)) : CtI cM yX5_ask cX5_ask 5 .int rm_X5_ask (fun ph => [.ref (ph 0), .int a1, .int a2]) s0 zs rr := by
  refine CtI.of (by decide +kernel) (fun ph => Nat.le_of_ble_eq_true rfl) (fun E O hret => ?_)
  have O : OK cM E RX5 cX5_ask 5 rm_X5_ask := O
  show WS cM E 5 0 [(0, rf E 0), (1, .int a1), (2, .int a2)] [] s0
  unfold f_X5_ask at hf
  refine s_aload_n O 0 dX5_ask_0 rfl rfl ?_
  refine s_getR O fg_RX5_10 cs_0 rfl dX5_ask_1 ?_
  refine s_iload_n O 1 dX5_ask_4 rfl rfl ?_
  obtain ⟨s1, r2, c3, hf⟩ := bn_e hf
  refine s_VI (As := [.int a1]) (st := []) O lk_RX5_110 (k_X1_hasThing fl_is1 c3) rfl cs_1 rfl rfl ⟨rfl, rfl⟩ ⟨Nat.le_of_ble_eq_true rfl, Nat.le_of_ble_eq_true rfl⟩ rfl (Nat.le_of_ble_eq_true rfl) dX5_ask_5 ?_
  refine s_if_eq (tgt := 20) O dX5_ask_8 (by decide) (fun c => ?_) (fun c => ?_)
  · replace hf := if_t c hf
    refine s_iconst (v := (-1)) O dX5_ask_20 rfl ?_
    exact s_iret hret rfl dX5_ask_21 hf
  · replace hf := if_f c hf
    refine s_iload_n O 2 dX5_ask_11 rfl rfl ?_
    refine s_iconst (v := 0) O dX5_ask_12 rfl ?_
    refine s_iconst (v := 1) O dX5_ask_13 rfl ?_
    obtain ⟨s4, r5, c6, hf⟩ := bn_e hf
    refine s_SI (As := [.int a2, .int 0, .int 1]) (st := []) O lk_RX5_53 (k_X5_isIn c6) rfl rfl ⟨rfl, rfl⟩ ⟨Nat.le_of_ble_eq_true rfl, Nat.le_of_ble_eq_true rfl⟩ rfl (Nat.le_of_ble_eq_true rfl) dX5_ask_14 ?_
    refine s_if_ne (tgt := 22) O dX5_ask_17 (by decide) (fun c => ?_) (fun c => ?_)
    · replace hf := if_f c hf
      refine s_aload_n O 0 dX5_ask_22 rfl rfl ?_
      refine s_iload_n O 1 dX5_ask_23 rfl rfl ?_
      refine s_iconst (v := 1) O dX5_ask_24 rfl ?_
      obtain ⟨s7, r8, c9, hf⟩ := bn_e hf
      refine s_VI (As := [.int a1, .int 1]) (st := []) O lk_RX5_236 (k_X5_valuesAsSeen c9) rfl cs_0 rfl rfl ⟨rfl, rfl⟩ ⟨Nat.le_of_ble_eq_true rfl, Nat.le_of_ble_eq_true rfl⟩ rfl (Nat.le_of_ble_eq_true rfl) dX5_ask_25 ?_
      refine s_istore_n (lv' := [(3, .int r8), (0, rf E 0), (1, .int a1), (2, .int a2)]) O dX5_ask_28 rfl (by decide) rfl ?_
      refine s_aload_n O 1 dX5_ask_29 rfl rfl ?_
      refine s_iload_n O 2 dX5_ask_30 rfl rfl ?_
      obtain ⟨s10, r11, c12, hf⟩ := bn_e hf
      refine s_VV (As := [.int a1]) (st := []) O lk_RX5_243 (k_X5_foreseeHeightsByWeight c12) rfl cs_0 rfl rfl ⟨rfl, rfl⟩ ⟨Nat.le_of_ble_eq_true rfl, Nat.le_of_ble_eq_true rfl⟩ rfl (Nat.le_of_ble_eq_true rfl) dX5_ask_31 ?_
      refine s_aload_n O 1 dX5_ask_34 rfl rfl ?_
      refine s_getR O fg_RX5_43 cs_0 rfl dX5_ask_35 ?_
      refine s_iload_n O 0 dX5_ask_38 rfl rfl ?_
      obtain ⟨s13, r14, c15, hf⟩ := bn_e hf
      refine s_SI (As := [.int r8]) (st := [rf E 59]) O lk_RX5_246 (k_J6_bitCount_0f7a4 c15) rfl rfl ⟨rfl, rfl⟩ ⟨Nat.le_of_ble_eq_true rfl, Nat.le_of_ble_eq_true rfl⟩ rfl (Nat.le_of_ble_eq_true rfl) dX5_ask_39 ?_
      obtain ⟨s16, r17, c18, hf⟩ := bn_e hf
      refine s_VV (As := [.int r14]) (st := []) O lk_RX5_190 (k_X0_beginBelow c18) rfl cs_59 rfl rfl ⟨rfl, rfl⟩ ⟨Nat.le_of_ble_eq_true rfl, Nat.le_of_ble_eq_true rfl⟩ rfl (Nat.le_of_ble_eq_true rfl) dX5_ask_42 ?_
      refine s_iconst (v := 0) O dX5_ask_45 rfl ?_
      refine s_istore (lv' := [(4, .int 0), (3, .int r8), (0, rf E 0), (1, .int a1), (2, .int a2)]) O dX5_ask_46 (by decide) rfl ?_
      refine s_loc [2, 4, 1, 0] rfl ?_
      obtain ⟨s25, e26, c27, hf⟩ := bn_e hf
      refine lp_of (body := fun s v => fb_X5_ask_l48 a1 a2 a2 r8 s v) (X := fun s v => WS cM E 5 48 [(0, rf E 0), (2, .int a2), (3, .int r8), (4, .int v)] [] s) (Y := fun s e => WS cM E 5 77 [(0, rf E 0), (2, .int a2)] [] s) (fun s v s' w hb Kc Ke => wb_X5_ask_l48 (rr := rr) O   hret Kc Ke hb) FU _ _ (s25, e26) c27 ?_
      show WS cM E 5 77 [(0, rf E 0), (2, .int a2)] [] s25
      refine s_aload_n O 0 dX5_ask_77 rfl rfl ?_
      refine s_getR O fg_RX5_43 cs_0 rfl dX5_ask_78 ?_
      refine s_iload_n O 1 dX5_ask_81 rfl rfl ?_
      obtain ⟨s28, r29, c30, hf⟩ := bn_e hf
      refine s_VI (As := [.int a2]) (st := []) O lk_RX5_197 (k_X0_answer c30) rfl cs_59 rfl rfl ⟨rfl, rfl⟩ ⟨Nat.le_of_ble_eq_true rfl, Nat.le_of_ble_eq_true rfl⟩ rfl (Nat.le_of_ble_eq_true rfl) dX5_ask_82 ?_
      exact s_iret hret rfl dX5_ask_85 hf
    · replace hf := if_t c hf
      refine s_iconst (v := (-1)) O dX5_ask_20 rfl ?_
      exact s_iret hret rfl dX5_ask_21 hf
def rm_X5_drift : Room := { frames := 4, cells := 0, slots := 0, locals := 86 }
def fj_X5_drift_j103 (a1 : Int32) (a2 : Int32) (a3 : Int32) (x2 : Int32) (x3 : Int32) (j4 : Int32) (j5 : Int32) (y0 : Int32) (y1 : Int32) (s0 : StA) : Option (StA × ((Int32 × Int32) ⊕ (Unit))) :=
  bn (f_X1_setSaid 12 y1 y0 s0) (fun s13 r14 => bn (f_X1_pass 12 s13) (fun s16 r17 => some (s16, .inl (j4, (j5 + 1)))))
set_option maxHeartbeats 4000000 in
set_option maxRecDepth 100000 in
theorem wj_X5_drift_j103 {E : XC} (O : OK cM E RX5 cX5_drift 7 rm_X5_drift) {a1 : Int32} {a2 : Int32} {a3 : Int32}  {x2 : Int32} {x3 : Int32} {j4 : Int32} {j5 : Int32} {y0 : Int32} {y1 : Int32} {s0 : StA} {zs : StA} {rr : Int32} (hret : ReI cM E .int cX5_drift zs rr) {bs : StA} {bw : (Int32 × Int32) ⊕ (Unit)} (Kc : ∀ v, bw = .inl v → WS cM E 7 44 [(0, rf E 0), (2, .int x2), (3, .int x3), (4, .int v.1), (5, .int v.2)] [] bs) (Ke : ∀ e, bw = .inr e → WS cM E 7 119 [(0, rf E 0), (3, .int x3)] [] bs) (hf : fj_X5_drift_j103 a1 a2 a3 x2 x3 j4 j5 y0 y1 s0 = some (bs, bw)) : WS cM E 7 103 [(0, rf E 0), (2, .int x2), (3, .int x3), (4, .int j4), (5, .int j5)] [.int y0, .int y1, rf E 12] s0 := by
  unfold fj_X5_drift_j103 at hf
  obtain ⟨s13, r14, c15, hf⟩ := bn_e hf
  refine s_VV (As := [.int y1, .int y0]) (st := []) O lk_RX5_152 (k_X1_setSaid fl_is12 c15) rfl cs_12 rfl rfl ⟨rfl, rfl⟩ ⟨Nat.le_of_ble_eq_true rfl, Nat.le_of_ble_eq_true rfl⟩ rfl (Nat.le_of_ble_eq_true rfl) dX5_drift_103 ?_
  refine s_aload_n O 0 dX5_drift_106 rfl rfl ?_
  refine s_getR O fg_RX5_16 cs_0 rfl dX5_drift_107 ?_
  obtain ⟨s16, r17, c18, hf⟩ := bn_e hf
  refine s_VV (As := []) (st := []) O lk_RX5_254 (k_X1_pass fl_is12 c18) rfl cs_12 rfl rfl ⟨rfl, rfl⟩ ⟨Nat.le_of_ble_eq_true rfl, Nat.le_of_ble_eq_true rfl⟩ rfl (Nat.le_of_ble_eq_true rfl) dX5_drift_110 ?_
  refine s_iinc (v := (j5 + 1)) (lv' := [(5, .int (j5 + 1)), (0, rf E 0), (2, .int x2), (3, .int x3), (4, .int j4)]) O 4 dX5_drift_113 rfl rfl (by decide) rfl ?_
  refine s_goto (tgt := 44) O dX5_drift_116 (by decide) ?_
  refine s_loc [1, 2, 3, 4, 0] rfl ?_
  cases hf
  exact Kc _ rfl
def fb_X5_drift_l44 (a1 : Int32) (a2 : Int32) (a3 : Int32) (x2 : Int32) (x3 : Int32) (s0 : StA) (v4 : Int32) (v5 : Int32) : Option (StA × ((Int32 × Int32) ⊕ (Unit))) :=
  (if x2 ≤ v5 then some (s0, .inr ()) else nmi ((v4 * 1103515245) + 12345) (fun n10 => nmi ((n10 >>> (16 &&& 31)) &&& 32767) (fun n11 => g0 (gi s0 1 6) ((if ((n11 / 8) - (n11 / 8) / 2 * 2) = 1 then fj_X5_drift_j103 a1 a2 a3 x2 x3 n10 v5 1 (n11 - n11 / (gi s0 1 6) * (gi s0 1 6)) s0 else fj_X5_drift_j103 a1 a2 a3 x2 x3 n10 v5 0 (n11 - n11 / (gi s0 1 6) * (gi s0 1 6)) s0)))))
set_option maxHeartbeats 4000000 in
set_option maxRecDepth 100000 in
theorem wb_X5_drift_l44 {E : XC} (O : OK cM E RX5 cX5_drift 7 rm_X5_drift) {a1 : Int32} {a2 : Int32} {a3 : Int32}  {x2 : Int32} {x3 : Int32} {s0 : StA} {v4 : Int32} {v5 : Int32} {zs : StA} {rr : Int32} (hret : ReI cM E .int cX5_drift zs rr) {bs : StA} {bw : (Int32 × Int32) ⊕ (Unit)} (Kc : ∀ v, bw = .inl v → WS cM E 7 44 [(0, rf E 0), (2, .int x2), (3, .int x3), (4, .int v.1), (5, .int v.2)] [] bs) (Ke : ∀ e, bw = .inr e → WS cM E 7 119 [(0, rf E 0), (3, .int x3)] [] bs) (hf : fb_X5_drift_l44 a1 a2 a3 x2 x3 s0 v4 v5 = some (bs, bw)) : WS cM E 7 44 [(0, rf E 0), (2, .int x2), (3, .int x3), (4, .int v4), (5, .int v5)] [] s0 := by
  unfold fb_X5_drift_l44 at hf
  refine s_iload O 4 dX5_drift_44 rfl ?_
  refine s_iload_n O 1 dX5_drift_46 rfl rfl ?_
  refine s_icmp_ge (tgt := 119) O dX5_drift_47 (by decide) (fun c => ?_) (fun c => ?_)
  · replace hf := if_t c hf
    refine s_loc [0, 2] rfl ?_
    cases hf
    exact Ke _ rfl
  · replace hf := if_f c hf
    refine s_iload O 3 dX5_drift_50 rfl ?_
    refine s_ldcw O ci_RX5_264 dX5_drift_52 ?_
    refine s_imul O dX5_drift_55 ?_
    refine s_sipush (v := 12345) O dX5_drift_56 rfl ?_
    refine s_iadd O dX5_drift_59 ?_
    refine s_topi (fun n10 en10 => ?_)
    replace hf := nmi_e en10 hf
    refine s_istore (lv' := [(4, .int n10), (0, rf E 0), (2, .int x2), (3, .int x3), (5, .int v5)]) O dX5_drift_60 (by decide) rfl ?_
    refine s_iload O 0 dX5_drift_62 rfl ?_
    refine s_bipush (v := 16) O dX5_drift_64 rfl ?_
    refine s_ishr O dX5_drift_66 ?_
    refine s_sipush (v := 32767) O dX5_drift_67 rfl ?_
    refine s_iand O dX5_drift_70 ?_
    refine s_topi (fun n11 en11 => ?_)
    replace hf := nmi_e en11 hf
    refine s_istore (lv' := [(6, .int n11), (4, .int n10), (0, rf E 0), (2, .int x2), (3, .int x3), (5, .int v5)]) O dX5_drift_71 (by decide) rfl ?_
    refine s_aload_n O 2 dX5_drift_73 rfl rfl ?_
    refine s_getR O fg_RX5_16 cs_0 rfl dX5_drift_74 ?_
    refine s_iload O 0 dX5_drift_77 rfl ?_
    refine s_aload_n O 2 dX5_drift_79 rfl rfl ?_
    refine s_getR O fg_RX5_10 cs_0 rfl dX5_drift_80 ?_
    refine s_getI O fg_RX5_79 cs_1 rfl dX5_drift_83 ?_
    obtain ⟨h12, hf⟩ := g0_e hf
    refine s_irem O dX5_drift_86 h12 ?_
    refine s_iload O 0 dX5_drift_87 rfl ?_
    refine s_bipush (v := 8) O dX5_drift_89 rfl ?_
    refine s_idiv O dX5_drift_91 (by decide) ?_
    refine s_iconst (v := 2) O dX5_drift_92 rfl ?_
    refine s_irem O dX5_drift_93 (by decide) ?_
    refine s_iconst (v := 1) O dX5_drift_94 rfl ?_
    refine s_icmp_ne (tgt := 102) O dX5_drift_95 (by decide) (fun c => ?_) (fun c => ?_)
    · replace hf := if_f c hf
      refine s_iconst (v := 0) O dX5_drift_102 rfl ?_
      refine s_loc [2, 3, 4, 1, 5] rfl ?_
      exact wj_X5_drift_j103 (rr := rr) O   hret Kc Ke hf
    · replace hf := if_t c hf
      refine s_iconst (v := 1) O dX5_drift_98 rfl ?_
      refine s_goto (tgt := 103) O dX5_drift_99 (by decide) ?_
      refine s_loc [2, 3, 4, 1, 5] rfl ?_
      exact wj_X5_drift_j103 (rr := rr) O   hret Kc Ke hf
def fl_X5_drift_l44 (a1 : Int32) (a2 : Int32) (a3 : Int32) (x2 : Int32) (x3 : Int32) (s0 : StA) (v : Int32 × Int32) : Option (StA × ((Unit))) :=
  it (fun s v => fb_X5_drift_l44 a1 a2 a3 x2 x3 s v.1 v.2) FU s0 v
def f_X5_drift (a1 : Int32) (a2 : Int32) (a3 : Int32) (s0 : StA) : Option (StA × Int32) :=
  bn (f_X5_isIn a2 1 60 s0) (fun s1 r2 => (if r2 = 0 then some (s1, (-1)) else bn (f_X5_isIn a3 0 1 s1) (fun s4 r5 => (if r5 = 0 then some (s4, (-1)) else (if 0 < (gi s4 1 6) then bn (f_X5_restartTrial  s4) (fun s7 r8 => bn (fl_X5_drift_l44 a1 a2 a3 a2 a3 s7 (a1, 0)) (fun s19 e20 => (if a3 = 0 then some (s19, (gi s19 12 8)) else some (s19, (gi s19 12 9))))) else some (s4, (-2)))))))
set_option maxHeartbeats 4000000 in
set_option maxRecDepth 100000 in
theorem k_X5_drift {a1 : Int32} {a2 : Int32} {a3 : Int32} {s0 zs : StA} {rr : Int32} (hf : f_X5_drift a1 a2 a3 s0 = some (zs, rr)) : CtI cM yX5_drift cX5_drift 7 .int rm_X5_drift (fun ph => [.ref (ph 0), .int a1, .int a2, .int a3]) s0 zs rr := by
  refine CtI.of (by decide +kernel) (fun ph => Nat.le_of_ble_eq_true rfl) (fun E O hret => ?_)
  have O : OK cM E RX5 cX5_drift 7 rm_X5_drift := O
  show WS cM E 7 0 [(0, rf E 0), (1, .int a1), (2, .int a2), (3, .int a3)] [] s0
  unfold f_X5_drift at hf
  refine s_iload_n O 2 dX5_drift_0 rfl rfl ?_
  refine s_iconst (v := 1) O dX5_drift_1 rfl ?_
  refine s_bipush (v := 60) O dX5_drift_2 rfl ?_
  obtain ⟨s1, r2, c3, hf⟩ := bn_e hf
  refine s_SI (As := [.int a2, .int 1, .int 60]) (st := []) O lk_RX5_53 (k_X5_isIn c3) rfl rfl ⟨rfl, rfl⟩ ⟨Nat.le_of_ble_eq_true rfl, Nat.le_of_ble_eq_true rfl⟩ rfl (Nat.le_of_ble_eq_true rfl) dX5_drift_4 ?_
  refine s_if_eq (tgt := 19) O dX5_drift_7 (by decide) (fun c => ?_) (fun c => ?_)
  · replace hf := if_t c hf
    refine s_iconst (v := (-1)) O dX5_drift_19 rfl ?_
    exact s_iret hret rfl dX5_drift_20 hf
  · replace hf := if_f c hf
    refine s_iload_n O 3 dX5_drift_10 rfl rfl ?_
    refine s_iconst (v := 0) O dX5_drift_11 rfl ?_
    refine s_iconst (v := 1) O dX5_drift_12 rfl ?_
    obtain ⟨s4, r5, c6, hf⟩ := bn_e hf
    refine s_SI (As := [.int a3, .int 0, .int 1]) (st := []) O lk_RX5_53 (k_X5_isIn c6) rfl rfl ⟨rfl, rfl⟩ ⟨Nat.le_of_ble_eq_true rfl, Nat.le_of_ble_eq_true rfl⟩ rfl (Nat.le_of_ble_eq_true rfl) dX5_drift_13 ?_
    refine s_if_ne (tgt := 21) O dX5_drift_16 (by decide) (fun c => ?_) (fun c => ?_)
    · replace hf := if_f c hf
      refine s_aload_n O 0 dX5_drift_21 rfl rfl ?_
      refine s_getR O fg_RX5_10 cs_0 rfl dX5_drift_22 ?_
      refine s_getI O fg_RX5_79 cs_1 rfl dX5_drift_25 ?_
      refine s_if_gt (tgt := 34) O dX5_drift_28 (by decide) (fun c => ?_) (fun c => ?_)
      · replace hf := if_t c hf
        refine s_aload_n O 0 dX5_drift_34 rfl rfl ?_
        obtain ⟨s7, r8, c9, hf⟩ := bn_e hf
        refine s_VV (As := []) (st := []) O lk_RX5_168 (k_X5_restartTrial c9) rfl cs_0 rfl rfl ⟨rfl, rfl⟩ ⟨Nat.le_of_ble_eq_true rfl, Nat.le_of_ble_eq_true rfl⟩ rfl (Nat.le_of_ble_eq_true rfl) dX5_drift_35 ?_
        refine s_iload_n O 1 dX5_drift_38 rfl rfl ?_
        refine s_istore (lv' := [(4, .int a1), (0, rf E 0), (1, .int a1), (2, .int a2), (3, .int a3)]) O dX5_drift_39 (by decide) rfl ?_
        refine s_iconst (v := 0) O dX5_drift_41 rfl ?_
        refine s_istore (lv' := [(5, .int 0), (4, .int a1), (0, rf E 0), (1, .int a1), (2, .int a2), (3, .int a3)]) O dX5_drift_42 (by decide) rfl ?_
        refine s_loc [2, 4, 5, 1, 0] rfl ?_
        obtain ⟨s19, e20, c21, hf⟩ := bn_e hf
        refine lp_of (body := fun s v => fb_X5_drift_l44 a1 a2 a3 a2 a3 s v.1 v.2) (X := fun s v => WS cM E 7 44 [(0, rf E 0), (2, .int a2), (3, .int a3), (4, .int v.1), (5, .int v.2)] [] s) (Y := fun s e => WS cM E 7 119 [(0, rf E 0), (3, .int a3)] [] s) (fun s v s' w hb Kc Ke => wb_X5_drift_l44 (rr := rr) O   hret Kc Ke hb) FU _ _ (s19, e20) c21 ?_
        show WS cM E 7 119 [(0, rf E 0), (3, .int a3)] [] s19
        refine s_iload_n O 1 dX5_drift_119 rfl rfl ?_
        refine s_if_ne (tgt := 133) O dX5_drift_120 (by decide) (fun c => ?_) (fun c => ?_)
        · replace hf := if_f c hf
          refine s_aload_n O 0 dX5_drift_133 rfl rfl ?_
          refine s_getR O fg_RX5_16 cs_0 rfl dX5_drift_134 ?_
          refine s_getI O fg_RX5_88 cs_12 rfl dX5_drift_137 ?_
          exact s_iret hret rfl dX5_drift_140 hf
        · replace hf := if_t c hf
          refine s_aload_n O 0 dX5_drift_123 rfl rfl ?_
          refine s_getR O fg_RX5_16 cs_0 rfl dX5_drift_124 ?_
          refine s_getI O fg_RX5_85 cs_12 rfl dX5_drift_127 ?_
          refine s_goto (tgt := 140) O dX5_drift_130 (by decide) ?_
          exact s_iret hret rfl dX5_drift_140 hf
      · replace hf := if_f c hf
        refine s_bipush (v := (-2)) O dX5_drift_31 rfl ?_
        exact s_iret hret rfl dX5_drift_33 hf
    · replace hf := if_t c hf
      refine s_iconst (v := (-1)) O dX5_drift_19 rfl ?_
      exact s_iret hret rfl dX5_drift_20 hf
def rm_X5_keep : Room := { frames := 2, cells := 0, slots := 0, locals := 44 }
def fj_X5_keep_j25 (a1 : Int32)  (y0 : Int32) (s0 : StA) : Option (StA × (Int32)) :=
  gd a1 2 (bn (f_X1_copyFrom (23 + 11 * a1.toNatClampNeg) 1 s0) (fun s6 r7 => gd a1 2 (nms (si s6 46 a1.toNatClampNeg 1) (fun s10 => some (s10, y0)))))
set_option maxHeartbeats 4000000 in
set_option maxRecDepth 100000 in
theorem wj_X5_keep_j25 {E : XC} (O : OK cM E RX5 cX5_keep 3 rm_X5_keep) {a1 : Int32}   {y0 : Int32} {s0 : StA} {zs : StA} {rr : Int32} (hret : ReI cM E .int cX5_keep zs rr) (hf : fj_X5_keep_j25 a1 y0 s0 = some (zs, rr)) : WS cM E 3 25 [(0, rf E 0), (1, .int a1)] [.int y0] s0 := by
  unfold fj_X5_keep_j25 at hf
  refine s_istore_n (lv' := [(2, .int y0), (0, rf E 0), (1, .int a1)]) O dX5_keep_25 rfl (by decide) rfl ?_
  refine s_aload_n O 1 dX5_keep_26 rfl rfl ?_
  refine s_getR O fg_RX5_19 cs_0 rfl dX5_keep_27 ?_
  refine s_iload_n O 2 dX5_keep_30 rfl rfl ?_
  obtain ⟨h5, hf⟩ := gd_e hf
  refine s_aald O cs_45 (Or.inl rfl) h5 dX5_keep_31 ?_
  refine s_aload_n O 1 dX5_keep_32 rfl rfl ?_
  refine s_getR O fg_RX5_10 cs_0 rfl dX5_keep_33 ?_
  obtain ⟨s6, r7, c8, hf⟩ := bn_e hf
  refine s_VV (As := [rf E 1]) (st := []) O lk_RX5_68 (k_X1_copyFrom (im_fl h5) fl_is1 c8) rfl (fl_0 (im_fl h5)) rfl rfl ⟨rfl, rfl⟩ ⟨Nat.le_of_ble_eq_true rfl, Nat.le_of_ble_eq_true rfl⟩ rfl (Nat.le_of_ble_eq_true rfl) dX5_keep_36 ?_
  refine s_aload_n O 1 dX5_keep_39 rfl rfl ?_
  refine s_getR O fg_RX5_23 cs_0 rfl dX5_keep_40 ?_
  refine s_iload_n O 2 dX5_keep_43 rfl rfl ?_
  refine s_iconst (v := 1) O dX5_keep_44 rfl ?_
  obtain ⟨h9, hf⟩ := gd_e hf
  refine s_zast O (Or.inr rfl) cs_46 h9 dX5_keep_45 ?_
  refine s_tops (fun s10 es10 => ?_)
  replace hf := nms_e es10 hf
  refine s_iload_n O 0 dX5_keep_46 rfl rfl ?_
  exact s_iret hret rfl dX5_keep_47 hf
def f_X5_keep (a1 : Int32) (s0 : StA) : Option (StA × Int32) :=
  bn (f_X5_isIn a1 0 1 s0) (fun s1 r2 => (if r2 = 0 then some (s1, (-1)) else gd a1 2 ((if (gi s1 46 a1.toNatClampNeg) = 0 then fj_X5_keep_j25 a1 0 s1 else fj_X5_keep_j25 a1 1 s1))))
set_option maxHeartbeats 4000000 in
set_option maxRecDepth 100000 in
theorem k_X5_keep {a1 : Int32} {s0 zs : StA} {rr : Int32} (hf : f_X5_keep a1 s0 = some (zs, rr)) : CtI cM yX5_keep cX5_keep 3 .int rm_X5_keep (fun ph => [.ref (ph 0), .int a1]) s0 zs rr := by
  refine CtI.of (by decide +kernel) (fun ph => Nat.le_of_ble_eq_true rfl) (fun E O hret => ?_)
  have O : OK cM E RX5 cX5_keep 3 rm_X5_keep := O
  show WS cM E 3 0 [(0, rf E 0), (1, .int a1)] [] s0
  unfold f_X5_keep at hf
  refine s_iload_n O 1 dX5_keep_0 rfl rfl ?_
  refine s_iconst (v := 0) O dX5_keep_1 rfl ?_
  refine s_iconst (v := 1) O dX5_keep_2 rfl ?_
  obtain ⟨s1, r2, c3, hf⟩ := bn_e hf
  refine s_SI (As := [.int a1, .int 0, .int 1]) (st := []) O lk_RX5_53 (k_X5_isIn c3) rfl rfl ⟨rfl, rfl⟩ ⟨Nat.le_of_ble_eq_true rfl, Nat.le_of_ble_eq_true rfl⟩ rfl (Nat.le_of_ble_eq_true rfl) dX5_keep_3 ?_
  refine s_if_ne (tgt := 11) O dX5_keep_6 (by decide) (fun c => ?_) (fun c => ?_)
  · replace hf := if_f c hf
    refine s_aload_n O 0 dX5_keep_11 rfl rfl ?_
    refine s_getR O fg_RX5_23 cs_0 rfl dX5_keep_12 ?_
    refine s_iload_n O 1 dX5_keep_15 rfl rfl ?_
    obtain ⟨h4, hf⟩ := gd_e hf
    refine s_zald O cs_46 h4 dX5_keep_16 ?_
    refine s_if_eq (tgt := 24) O dX5_keep_17 (by decide) (fun c => ?_) (fun c => ?_)
    · replace hf := if_t c hf
      refine s_iconst (v := 0) O dX5_keep_24 rfl ?_
      exact wj_X5_keep_j25 (rr := rr) O   hret hf
    · replace hf := if_f c hf
      refine s_iconst (v := 1) O dX5_keep_20 rfl ?_
      refine s_goto (tgt := 25) O dX5_keep_21 (by decide) ?_
      exact wj_X5_keep_j25 (rr := rr) O   hret hf
  · replace hf := if_t c hf
    refine s_iconst (v := (-1)) O dX5_keep_9 rfl ?_
    exact s_iret hret rfl dX5_keep_10 hf
def rm_X5_back : Room := { frames := 2, cells := 0, slots := 0, locals := 44 }
def f_X5_back (a1 : Int32) (s0 : StA) : Option (StA × Int32) :=
  bn (f_X5_isIn a1 0 1 s0) (fun s1 r2 => (if r2 = 0 then some (s1, (-1)) else gd a1 2 ((if (gi s1 46 a1.toNatClampNeg) = 0 then some (s1, (-2)) else gd a1 2 (bn (f_X1_copyFrom 1 (23 + 11 * a1.toNatClampNeg) s1) (fun s6 r7 => some (s6, (gi s6 1 11))))))))
set_option maxHeartbeats 4000000 in
set_option maxRecDepth 100000 in
theorem k_X5_back {a1 : Int32} {s0 zs : StA} {rr : Int32} (hf : f_X5_back a1 s0 = some (zs, rr)) : CtI cM yX5_back cX5_back 2 .int rm_X5_back (fun ph => [.ref (ph 0), .int a1]) s0 zs rr := by
  refine CtI.of (by decide +kernel) (fun ph => Nat.le_of_ble_eq_true rfl) (fun E O hret => ?_)
  have O : OK cM E RX5 cX5_back 2 rm_X5_back := O
  show WS cM E 2 0 [(0, rf E 0), (1, .int a1)] [] s0
  unfold f_X5_back at hf
  refine s_iload_n O 1 dX5_back_0 rfl rfl ?_
  refine s_iconst (v := 0) O dX5_back_1 rfl ?_
  refine s_iconst (v := 1) O dX5_back_2 rfl ?_
  obtain ⟨s1, r2, c3, hf⟩ := bn_e hf
  refine s_SI (As := [.int a1, .int 0, .int 1]) (st := []) O lk_RX5_53 (k_X5_isIn c3) rfl rfl ⟨rfl, rfl⟩ ⟨Nat.le_of_ble_eq_true rfl, Nat.le_of_ble_eq_true rfl⟩ rfl (Nat.le_of_ble_eq_true rfl) dX5_back_3 ?_
  refine s_if_ne (tgt := 11) O dX5_back_6 (by decide) (fun c => ?_) (fun c => ?_)
  · replace hf := if_f c hf
    refine s_aload_n O 0 dX5_back_11 rfl rfl ?_
    refine s_getR O fg_RX5_23 cs_0 rfl dX5_back_12 ?_
    refine s_iload_n O 1 dX5_back_15 rfl rfl ?_
    obtain ⟨h4, hf⟩ := gd_e hf
    refine s_zald O cs_46 h4 dX5_back_16 ?_
    refine s_if_ne (tgt := 23) O dX5_back_17 (by decide) (fun c => ?_) (fun c => ?_)
    · replace hf := if_f c hf
      refine s_aload_n O 0 dX5_back_23 rfl rfl ?_
      refine s_getR O fg_RX5_10 cs_0 rfl dX5_back_24 ?_
      refine s_aload_n O 0 dX5_back_27 rfl rfl ?_
      refine s_getR O fg_RX5_19 cs_0 rfl dX5_back_28 ?_
      refine s_iload_n O 1 dX5_back_31 rfl rfl ?_
      obtain ⟨h5, hf⟩ := gd_e hf
      refine s_aald O cs_45 (Or.inl rfl) h5 dX5_back_32 ?_
      obtain ⟨s6, r7, c8, hf⟩ := bn_e hf
      refine s_VV (As := [rf E (23 + 11 * a1.toNatClampNeg)]) (st := []) O lk_RX5_68 (k_X1_copyFrom fl_is1 (im_fl h5) c8) rfl cs_1 rfl rfl ⟨rfl, rfl⟩ ⟨Nat.le_of_ble_eq_true rfl, Nat.le_of_ble_eq_true rfl⟩ rfl (Nat.le_of_ble_eq_true rfl) dX5_back_33 ?_
      refine s_aload_n O 0 dX5_back_36 rfl rfl ?_
      refine s_getR O fg_RX5_10 cs_0 rfl dX5_back_37 ?_
      refine s_getI O fg_RX5_82 cs_1 rfl dX5_back_40 ?_
      exact s_iret hret rfl dX5_back_43 hf
    · replace hf := if_t c hf
      refine s_bipush (v := (-2)) O dX5_back_20 rfl ?_
      exact s_iret hret rfl dX5_back_22 hf
  · replace hf := if_t c hf
    refine s_iconst (v := (-1)) O dX5_back_9 rfl ?_
    exact s_iret hret rfl dX5_back_10 hf
def rm_X5_isLane : Room := { frames := 1, cells := 0, slots := 0, locals := 22 }
def f_X5_isLane (a0 : Int32) (s0 : StA) : Option (StA × Int32) :=
  bn (f_X5_isIn a0 0 2 s0) (fun s1 r2 => gz r2 (some (s1, r2)))
set_option maxHeartbeats 4000000 in
set_option maxRecDepth 100000 in
theorem k_X5_isLane {a0 : Int32} {s0 zs : StA} {rr : Int32} (hf : f_X5_isLane a0 s0 = some (zs, rr)) : CtI cM yX5_isLane cX5_isLane 1 .boolean rm_X5_isLane (fun ph => [.int a0]) s0 zs rr := by
  refine CtI.of (by decide +kernel) (fun ph => Nat.le_of_ble_eq_true rfl) (fun E O hret => ?_)
  have O : OK cM E RX5 cX5_isLane 1 rm_X5_isLane := O
  show WS cM E 1 0 [(0, .int a0)] [] s0
  unfold f_X5_isLane at hf
  refine s_iload_n O 0 dX5_isLane_0 rfl rfl ?_
  refine s_iconst (v := 0) O dX5_isLane_1 rfl ?_
  refine s_iconst (v := 2) O dX5_isLane_2 rfl ?_
  obtain ⟨s1, r2, c3, hf⟩ := bn_e hf
  refine s_SI (As := [.int a0, .int 0, .int 2]) (st := []) O lk_RX5_53 (k_X5_isIn c3) rfl rfl ⟨rfl, rfl⟩ ⟨Nat.le_of_ble_eq_true rfl, Nat.le_of_ble_eq_true rfl⟩ rfl (Nat.le_of_ble_eq_true rfl) dX5_isLane_3 ?_
  obtain ⟨hz, hf⟩ := gz_e hf
  exact s_iret hret hz.nar dX5_isLane_6 hf
def rm_X5_isSheet : Room := { frames := 1, cells := 0, slots := 0, locals := 22 }
def f_X5_isSheet (a0 : Int32) (s0 : StA) : Option (StA × Int32) :=
  bn (f_X5_isIn a0 0 3 s0) (fun s1 r2 => gz r2 (some (s1, r2)))
set_option maxHeartbeats 4000000 in
set_option maxRecDepth 100000 in
theorem k_X5_isSheet {a0 : Int32} {s0 zs : StA} {rr : Int32} (hf : f_X5_isSheet a0 s0 = some (zs, rr)) : CtI cM yX5_isSheet cX5_isSheet 1 .boolean rm_X5_isSheet (fun ph => [.int a0]) s0 zs rr := by
  refine CtI.of (by decide +kernel) (fun ph => Nat.le_of_ble_eq_true rfl) (fun E O hret => ?_)
  have O : OK cM E RX5 cX5_isSheet 1 rm_X5_isSheet := O
  show WS cM E 1 0 [(0, .int a0)] [] s0
  unfold f_X5_isSheet at hf
  refine s_iload_n O 0 dX5_isSheet_0 rfl rfl ?_
  refine s_iconst (v := 0) O dX5_isSheet_1 rfl ?_
  refine s_iconst (v := 3) O dX5_isSheet_2 rfl ?_
  obtain ⟨s1, r2, c3, hf⟩ := bn_e hf
  refine s_SI (As := [.int a0, .int 0, .int 3]) (st := []) O lk_RX5_53 (k_X5_isIn c3) rfl rfl ⟨rfl, rfl⟩ ⟨Nat.le_of_ble_eq_true rfl, Nat.le_of_ble_eq_true rfl⟩ rfl (Nat.le_of_ble_eq_true rfl) dX5_isSheet_3 ?_
  obtain ⟨hz, hf⟩ := gz_e hf
  exact s_iret hret hz.nar dX5_isSheet_6 hf
def rm_X4_renew : Room := { frames := 1, cells := 0, slots := 0, locals := 23 }
def f_X4_renew (k : Nat) (a1 : Int32) (a2 : Int32) (s0 : StA) : Option (StA × Unit) :=
  nms (si s0 k 1 a1) (fun s1 => nms (si s1 k 2 a2) (fun s2 => bn (f_J7_fill_53178 (k + 1) 40 0 s2) (fun s3 r4 => some (s3, ()))))
set_option maxHeartbeats 4000000 in
set_option maxRecDepth 100000 in
theorem k_X4_renew {k : Nat} {a1 : Int32} {a2 : Int32} (hk : isSh k) {s0 zs : StA} {rr : Unit} (hf : f_X4_renew k a1 a2 s0 = some (zs, rr)) : CtV cM yX4_renew cX4_renew 3 rm_X4_renew (fun ph => [.ref (ph k), .int a1, .int a2]) s0 zs := by
  refine CtV.of (by decide +kernel) (fun ph => Nat.le_of_ble_eq_true rfl) (fun E O hret => ?_)
  have O : OK cM E RX4 cX4_renew 3 rm_X4_renew := O
  show WS cM E 3 0 [(0, rf E k), (1, .int a1), (2, .int a2)] [] s0
  unfold f_X4_renew at hf
  refine s_aload_n O 0 dX4_renew_0 rfl rfl ?_
  refine s_iload_n O 1 dX4_renew_1 rfl rfl ?_
  refine s_putI O fp_RX4_15 (sk_0 hk) rfl dX4_renew_2 ?_
  refine s_tops (fun s1 es1 => ?_)
  replace hf := nms_e es1 hf
  refine s_aload_n O 0 dX4_renew_5 rfl rfl ?_
  refine s_iload_n O 2 dX4_renew_6 rfl rfl ?_
  refine s_putI O fp_RX4_19 (sk_0 hk) rfl dX4_renew_7 ?_
  refine s_tops (fun s2 es2 => ?_)
  replace hf := nms_e es2 hf
  refine s_aload_n O 0 dX4_renew_10 rfl rfl ?_
  refine s_getR O fg_RX4_9 (sk_0 hk) rfl dX4_renew_11 ?_
  refine s_iconst (v := 0) O dX4_renew_14 rfl ?_
  obtain ⟨s3, r4, c5, hf⟩ := bn_e hf
  refine s_SV (As := [rf E (k + 1), .int 0]) (st := []) O lk_RX4_22 (k_J7_fill_53178 (sk_1 hk) c5) rfl rfl ⟨rfl, rfl⟩ ⟨Nat.le_of_ble_eq_true rfl, Nat.le_of_ble_eq_true rfl⟩ rfl (Nat.le_of_ble_eq_true rfl) dX4_renew_15 ?_
  exact s_vret hret dX4_renew_18 hf
def rm_X5_sheet : Room := { frames := 2, cells := 0, slots := 0, locals := 45 }
def f_X5_sheet (a1 : Int32) (a2 : Int32) (a3 : Int32) (s0 : StA) : Option (StA × Int32) :=
  bn (f_X5_isSheet a1 s0) (fun s1 r2 => (if r2 = 0 then some (s1, (-1)) else bn (f_X5_isLane a2 s1) (fun s4 r5 => (if r5 = 0 then some (s4, (-1)) else (if a3 ≤ 40 then (if 0 ≤ a3 then gd a1 4 (bn (f_X4_renew (51 + 2 * a1.toNatClampNeg) a2 a3 s4) (fun s8 r9 => some (s8, 1))) else some (s4, (-14))) else some (s4, (-1)))))))
set_option maxHeartbeats 4000000 in
set_option maxRecDepth 100000 in
theorem k_X5_sheet {a1 : Int32} {a2 : Int32} {a3 : Int32} {s0 zs : StA} {rr : Int32} (hf : f_X5_sheet a1 a2 a3 s0 = some (zs, rr)) : CtI cM yX5_sheet cX5_sheet 4 .int rm_X5_sheet (fun ph => [.ref (ph 0), .int a1, .int a2, .int a3]) s0 zs rr := by
  refine CtI.of (by decide +kernel) (fun ph => Nat.le_of_ble_eq_true rfl) (fun E O hret => ?_)
  have O : OK cM E RX5 cX5_sheet 4 rm_X5_sheet := O
  show WS cM E 4 0 [(0, rf E 0), (1, .int a1), (2, .int a2), (3, .int a3)] [] s0
  unfold f_X5_sheet at hf
  refine s_iload_n O 1 dX5_sheet_0 rfl rfl ?_
  obtain ⟨s1, r2, c3, hf⟩ := bn_e hf
  refine s_SI (As := [.int a1]) (st := []) O lk_RX5_265 (k_X5_isSheet c3) rfl rfl ⟨rfl, rfl⟩ ⟨Nat.le_of_ble_eq_true rfl, Nat.le_of_ble_eq_true rfl⟩ rfl (Nat.le_of_ble_eq_true rfl) dX5_sheet_1 ?_
  refine s_if_eq (tgt := 20) O dX5_sheet_4 (by decide) (fun c => ?_) (fun c => ?_)
  · replace hf := if_t c hf
    refine s_iconst (v := (-1)) O dX5_sheet_20 rfl ?_
    exact s_iret hret rfl dX5_sheet_21 hf
  · replace hf := if_f c hf
    refine s_iload_n O 2 dX5_sheet_7 rfl rfl ?_
    obtain ⟨s4, r5, c6, hf⟩ := bn_e hf
    refine s_SI (As := [.int a2]) (st := []) O lk_RX5_268 (k_X5_isLane c6) rfl rfl ⟨rfl, rfl⟩ ⟨Nat.le_of_ble_eq_true rfl, Nat.le_of_ble_eq_true rfl⟩ rfl (Nat.le_of_ble_eq_true rfl) dX5_sheet_8 ?_
    refine s_if_eq (tgt := 20) O dX5_sheet_11 (by decide) (fun c => ?_) (fun c => ?_)
    · replace hf := if_t c hf
      refine s_iconst (v := (-1)) O dX5_sheet_20 rfl ?_
      exact s_iret hret rfl dX5_sheet_21 hf
    · replace hf := if_f c hf
      refine s_iload_n O 3 dX5_sheet_14 rfl rfl ?_
      refine s_bipush (v := 40) O dX5_sheet_15 rfl ?_
      refine s_icmp_le (tgt := 22) O dX5_sheet_17 (by decide) (fun c => ?_) (fun c => ?_)
      · replace hf := if_t c hf
        refine s_iload_n O 3 dX5_sheet_22 rfl rfl ?_
        refine s_if_ge (tgt := 29) O dX5_sheet_23 (by decide) (fun c => ?_) (fun c => ?_)
        · replace hf := if_t c hf
          refine s_aload_n O 0 dX5_sheet_29 rfl rfl ?_
          refine s_getR O fg_RX5_36 cs_0 rfl dX5_sheet_30 ?_
          refine s_iload_n O 1 dX5_sheet_33 rfl rfl ?_
          obtain ⟨h7, hf⟩ := gd_e hf
          refine s_aald O cs_50 (Or.inr (Or.inl rfl)) h7 dX5_sheet_34 ?_
          refine s_iload_n O 2 dX5_sheet_35 rfl rfl ?_
          refine s_iload_n O 3 dX5_sheet_36 rfl rfl ?_
          obtain ⟨s8, r9, c10, hf⟩ := bn_e hf
          refine s_VV (As := [.int a2, .int a3]) (st := []) O lk_RX5_271 (k_X4_renew (im_sh h7) c10) rfl (sk_0 (im_sh h7)) rfl rfl ⟨rfl, rfl⟩ ⟨Nat.le_of_ble_eq_true rfl, Nat.le_of_ble_eq_true rfl⟩ rfl (Nat.le_of_ble_eq_true rfl) dX5_sheet_37 ?_
          refine s_iconst (v := 1) O dX5_sheet_40 rfl ?_
          exact s_iret hret rfl dX5_sheet_41 hf
        · replace hf := if_f c hf
          refine s_bipush (v := (-14)) O dX5_sheet_26 rfl ?_
          exact s_iret hret rfl dX5_sheet_28 hf
      · replace hf := if_f c hf
        refine s_iconst (v := (-1)) O dX5_sheet_20 rfl ?_
        exact s_iret hret rfl dX5_sheet_21 hf
def rm_X4_isNothing : Room := { frames := 0, cells := 0, slots := 0, locals := 0 }
def f_X4_isNothing (k : Nat) (s0 : StA) : Option (StA × Int32) :=
  (if (gi s0 k 1) = (-1) then some (s0, 1) else some (s0, 0))
set_option maxHeartbeats 4000000 in
set_option maxRecDepth 100000 in
theorem k_X4_isNothing {k : Nat} (hk : isSh k) {s0 zs : StA} {rr : Int32} (hf : f_X4_isNothing k s0 = some (zs, rr)) : CtI cM yX4_isNothing cX4_isNothing 1 .boolean rm_X4_isNothing (fun ph => [.ref (ph k)]) s0 zs rr := by
  refine CtI.of (by decide +kernel) (fun ph => Nat.le_of_ble_eq_true rfl) (fun E O hret => ?_)
  have O : OK cM E RX4 cX4_isNothing 1 rm_X4_isNothing := O
  show WS cM E 1 0 [(0, rf E k)] [] s0
  unfold f_X4_isNothing at hf
  refine s_aload_n O 0 dX4_isNothing_0 rfl rfl ?_
  refine s_getI O fg_RX4_15 (sk_0 hk) rfl dX4_isNothing_1 ?_
  refine s_iconst (v := (-1)) O dX4_isNothing_4 rfl ?_
  refine s_icmp_ne (tgt := 12) O dX4_isNothing_5 (by decide) (fun c => ?_) (fun c => ?_)
  · replace hf := if_f c hf
    refine s_iconst (v := 0) O dX4_isNothing_12 rfl ?_
    exact s_iret hret rfl dX4_isNothing_13 hf
  · replace hf := if_t c hf
    refine s_iconst (v := 1) O dX4_isNothing_8 rfl ?_
    refine s_goto (tgt := 13) O dX4_isNothing_9 (by decide) ?_
    exact s_iret hret rfl dX4_isNothing_13 hf
