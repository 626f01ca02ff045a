def rm_X6_weights : Room := { frames := 6, cells := 0, slots := 0, locals := 134 }
def fb_X6_weights_l14 (a1 : Int32) (x1 : Int32) (s0 : StA) (v2 : Int32) (v3 : Int32) : Option (StA × ((Int32 × Int32) ⊕ (Int32))) :=
  (if 9 < v3 then some (s0, .inr v2) else bn (f_X6_isSoWith x1 1 v3 s0) (fun s4 r5 => bn (f_X6_flag r5 s4) (fun s7 r8 => nmi (v2 ||| (r8 <<< (v3 &&& 31))) (fun n10 => some (s7, .inl (n10, (v3 + 1)))))))
set_option maxHeartbeats 4000000 in
set_option maxRecDepth 100000 in
theorem wb_X6_weights_l14 {E : XC} (O : OK mM E RX6 cX6_weights 4 rm_X6_weights) {a1 : Int32}  {x1 : Int32} {s0 : StA} {v2 : Int32} {v3 : Int32} {zs : StA} {rr : Int32} (hret : ReI mM E .int cX6_weights zs rr) {bs : StA} {bw : (Int32 × Int32) ⊕ (Int32)} (Kc : ∀ v, bw = .inl v → WS mM E 4 14 [(0, rf E 0), (1, .int x1), (2, .int v.1), (3, .int v.2)] [] bs) (Ke : ∀ e, bw = .inr e → WS mM E 4 41 [(2, .int e)] [] bs) (hf : fb_X6_weights_l14 a1 x1 s0 v2 v3 = some (bs, bw)) : WS mM E 4 14 [(0, rf E 0), (1, .int x1), (2, .int v2), (3, .int v3)] [] s0 := by
  unfold fb_X6_weights_l14 at hf
  refine s_iload_n O 3 dX6_weights_14 rfl rfl ?_
  refine s_bipush (v := 9) O dX6_weights_15 rfl ?_
  refine s_icmp_gt (tgt := 41) O dX6_weights_17 (by decide) (fun c => ?_) (fun c => ?_)
  · replace hf := if_t c hf
    refine s_loc [2] rfl ?_
    cases hf
    exact Ke _ rfl
  · replace hf := if_f c hf
    refine s_iload_n O 2 dX6_weights_20 rfl rfl ?_
    refine s_aload_n O 0 dX6_weights_21 rfl rfl ?_
    refine s_iload_n O 1 dX6_weights_22 rfl rfl ?_
    refine s_iconst (v := 1) O dX6_weights_23 rfl ?_
    refine s_iload_n O 3 dX6_weights_24 rfl rfl ?_
    obtain ⟨s4, r5, c6, hf⟩ := bn_e hf
    refine s_VI (As := [.int x1, .int 1, .int v3]) (st := [.int v2]) O lk_RX6_290 (k_X6_isSoWith c6) rfl ms_0 rfl rfl ⟨rfl, rfl⟩ ⟨Nat.le_of_ble_eq_true rfl, Nat.le_of_ble_eq_true rfl⟩ rfl (Nat.le_of_ble_eq_true rfl) dX6_weights_25 ?_
    obtain ⟨s7, r8, c9, hf⟩ := bn_e hf
    refine s_SI (As := [.int r5]) (st := [.int v2]) O lk_RX6_219 (k_X6_flag c9) rfl rfl ⟨rfl, rfl⟩ ⟨Nat.le_of_ble_eq_true rfl, Nat.le_of_ble_eq_true rfl⟩ rfl (Nat.le_of_ble_eq_true rfl) dX6_weights_28 ?_
    refine s_iload_n O 3 dX6_weights_31 rfl rfl ?_
    refine s_ishl O dX6_weights_32 ?_
    refine s_ior O dX6_weights_33 ?_
    refine s_topi (fun n10 en10 => ?_)
    replace hf := nmi_e en10 hf
    refine s_istore_n (lv' := [(2, .int n10), (0, rf E 0), (1, .int x1), (3, .int v3)]) O dX6_weights_34 rfl (by decide) rfl ?_
    refine s_iinc (v := (v3 + 1)) (lv' := [(3, .int (v3 + 1)), (2, .int n10), (0, rf E 0), (1, .int x1)]) O 3 dX6_weights_35 rfl rfl (by decide) rfl ?_
    refine s_goto (tgt := 14) O dX6_weights_38 (by decide) ?_
    refine s_loc [2, 3, 1, 0] rfl ?_
    cases hf
    exact Kc _ rfl
def fl_X6_weights_l14 (a1 : Int32) (x1 : Int32) (s0 : StA) (v : Int32 × Int32) : Option (StA × ((Int32))) :=
  it (fun s v => fb_X6_weights_l14 a1 x1 s v.1 v.2) FU s0 v
def f_X6_weights (a1 : Int32) (s0 : StA) : Option (StA × Int32) :=
  bn (f_X6_isThing a1 s0) (fun s1 r2 => (if r2 = 0 then some (s1, (-1)) else bn (fl_X6_weights_l14 a1 a1 s1 (0, 1)) (fun s11 u14_2 => some (s11, u14_2))))
set_option maxHeartbeats 4000000 in
set_option maxRecDepth 100000 in
theorem k_X6_weights {a1 : Int32} {s0 zs : StA} {rr : Int32} (hf : f_X6_weights a1 s0 = some (zs, rr)) : CtI mM yX6_weights cX6_weights 4 .int rm_X6_weights (fun ph => [.ref (ph 0), .int a1]) s0 zs rr := by
  refine CtI.of (by decide +kernel) (fun ph => Nat.le_of_ble_eq_true rfl) (fun E O hret => ?_)
  have O : OK mM E RX6 cX6_weights 4 rm_X6_weights := O
  show WS mM E 4 0 [(0, rf E 0), (1, .int a1)] [] s0
  unfold f_X6_weights at hf
  refine s_aload_n O 0 dX6_weights_0 rfl rfl ?_
  refine s_iload_n O 1 dX6_weights_1 rfl rfl ?_
  obtain ⟨s1, r2, c3, hf⟩ := bn_e hf
  refine s_VI (As := [.int a1]) (st := []) O lk_RX6_181 (k_X6_isThing c3) rfl ms_0 rfl rfl ⟨rfl, rfl⟩ ⟨Nat.le_of_ble_eq_true rfl, Nat.le_of_ble_eq_true rfl⟩ rfl (Nat.le_of_ble_eq_true rfl) dX6_weights_2 ?_
  refine s_if_ne (tgt := 10) O dX6_weights_5 (by decide) (fun c => ?_) (fun c => ?_)
  · replace hf := if_f c hf
    refine s_iconst (v := 0) O dX6_weights_10 rfl ?_
    refine s_istore_n (lv' := [(2, .int 0), (0, rf E 0), (1, .int a1)]) O dX6_weights_11 rfl (by decide) rfl ?_
    refine s_iconst (v := 1) O dX6_weights_12 rfl ?_
    refine s_istore_n (lv' := [(3, .int 1), (2, .int 0), (0, rf E 0), (1, .int a1)]) O dX6_weights_13 rfl (by decide) rfl ?_
    refine s_loc [2, 3, 1, 0] rfl ?_
    obtain ⟨s11, u14_2, c13, hf⟩ := bn_e hf
    refine lp_of (body := fun s v => fb_X6_weights_l14 a1 a1 s v.1 v.2) (X := fun s v => WS mM E 4 14 [(0, rf E 0), (1, .int a1), (2, .int v.1), (3, .int v.2)] [] s) (Y := fun s e => WS mM E 4 41 [(2, .int e)] [] s) (fun s v s' w hb Kc Ke => wb_X6_weights_l14 (rr := rr) O   hret Kc Ke hb) FU _ _ (s11, u14_2) c13 ?_
    show WS mM E 4 41 [(2, .int u14_2)] [] s11
    refine s_iload_n O 0 dX6_weights_41 rfl rfl ?_
    exact s_iret hret rfl dX6_weights_42 hf
  · replace hf := if_t c hf
    refine s_iconst (v := (-1)) O dX6_weights_8 rfl ?_
    exact s_iret hret rfl dX6_weights_9 hf
def rm_X6_saids : Room := { frames := 5, cells := 0, slots := 0, locals := 111 }
def fb_X6_saids_l35 (a1 : Int32) (x1 : Int32) (x2 : Int32) (x3 : Int32) (x4 : Int32) (s0 : StA) (v5 : Int32) : Option (StA × ((Int32) ⊕ (Unit))) :=
  (if (gi s0 0 3) ≤ v5 then some (s0, .inr ()) else bn (f_X6_becomesOf v5 3 ((x4 >>> (v5 &&& 31)) &&& 1) s0) (fun s7 r8 => some (s7, .inl (v5 + 1))))
set_option maxHeartbeats 4000000 in
set_option maxRecDepth 100000 in
theorem wb_X6_saids_l35 {E : XC} (O : OK mM E RX6 cX6_saids 6 rm_X6_saids) {a1 : Int32}  {x1 : Int32} {x2 : Int32} {x3 : Int32} {x4 : Int32} {s0 : StA} {v5 : Int32} {zs : StA} {rr : Int32} (hret : ReI mM E .int cX6_saids zs rr) {bs : StA} {bw : (Int32) ⊕ (Unit)} (Kc : ∀ v, bw = .inl v → WS mM E 6 35 [(0, rf E 0), (1, .int x1), (2, .int x2), (3, .int x3), (4, .int x4), (5, .int v)] [] bs) (Ke : ∀ e, bw = .inr e → WS mM E 6 64 [(0, rf E 0), (1, .int x1), (2, .int x2), (3, .int x3), (4, .int x4)] [] bs) (hf : fb_X6_saids_l35 a1 x1 x2 x3 x4 s0 v5 = some (bs, bw)) : WS mM E 6 35 [(0, rf E 0), (1, .int x1), (2, .int x2), (3, .int x3), (4, .int x4), (5, .int v5)] [] s0 := by
  unfold fb_X6_saids_l35 at hf
  refine s_iload O 5 dX6_saids_35 rfl ?_
  refine s_aload_n O 0 dX6_saids_37 rfl rfl ?_
  refine s_getI O fg_RX6_64 ms_0 rfl dX6_saids_38 ?_
  refine s_icmp_ge (tgt := 64) O dX6_saids_41 (by decide) (fun c => ?_) (fun c => ?_)
  · replace hf := if_t c hf
    refine s_loc [0, 1, 2, 3, 4] rfl ?_
    cases hf
    exact Ke _ rfl
  · replace hf := if_f c hf
    refine s_aload_n O 0 dX6_saids_44 rfl rfl ?_
    refine s_iload O 5 dX6_saids_45 rfl ?_
    refine s_iconst (v := 3) O dX6_saids_47 rfl ?_
    refine s_iload O 4 dX6_saids_48 rfl ?_
    refine s_iload O 5 dX6_saids_50 rfl ?_
    refine s_ishr O dX6_saids_52 ?_
    refine s_iconst (v := 1) O dX6_saids_53 rfl ?_
    refine s_iand O dX6_saids_54 ?_
    obtain ⟨s7, r8, c9, hf⟩ := bn_e hf
    refine s_VV (As := [.int v5, .int 3, .int ((x4 >>> (v5 &&& 31)) &&& 1)]) (st := []) O lk_RX6_162 (k_X6_becomesOf c9) rfl ms_0 rfl rfl ⟨rfl, rfl⟩ ⟨Nat.le_of_ble_eq_true rfl, Nat.le_of_ble_eq_true rfl⟩ rfl (Nat.le_of_ble_eq_true rfl) dX6_saids_55 ?_
    refine s_iinc (v := (v5 + 1)) (lv' := [(5, .int (v5 + 1)), (0, rf E 0), (1, .int x1), (2, .int x2), (3, .int x3), (4, .int x4)]) O 5 dX6_saids_58 rfl rfl (by decide) rfl ?_
    refine s_goto (tgt := 35) O dX6_saids_61 (by decide) ?_
    refine s_loc [1, 2, 3, 4, 5, 0] rfl ?_
    cases hf
    exact Kc _ rfl
def fl_X6_saids_l35 (a1 : Int32) (x1 : Int32) (x2 : Int32) (x3 : Int32) (x4 : Int32) (s0 : StA) (v : Int32) : Option (StA × ((Unit))) :=
  it (fun s v => fb_X6_saids_l35 a1 x1 x2 x3 x4 s v) FU s0 v
def fb_X6_saids_l17 (a1 : Int32) (x1 : Int32) (s0 : StA) (v2 : Int32) (v3 : Int32) (v4 : Int32) : Option (StA × ((Int32 × Int32 × Int32) ⊕ (Int32 × Int32))) :=
  (if (1 <<< ((gi s0 0 3) &&& 31)) ≤ v4 then some (s0, .inr (v2, v3)) else bn (f_X6_starts  s0) (fun s4 r5 => bn (fl_X6_saids_l35 a1 x1 v2 v3 v4 s4 0) (fun s10 e11 => bn (f_X6_isSo  s10) (fun s13 r14 => (if r14 = 0 then some (s13, .inl (v2, v3, (v4 + 1))) else (if v2 = 0 then some (s13, .inl ((v2 + 1), v4, (v4 + 1))) else some (s13, .inl ((v2 + 1), v3, (v4 + 1)))))))))
set_option maxHeartbeats 4000000 in
set_option maxRecDepth 100000 in
theorem wb_X6_saids_l17 {E : XC} (O : OK mM E RX6 cX6_saids 6 rm_X6_saids) {a1 : Int32}  {x1 : Int32} {s0 : StA} {v2 : Int32} {v3 : Int32} {v4 : Int32} {zs : StA} {rr : Int32} (hret : ReI mM E .int cX6_saids zs rr) {bs : StA} {bw : (Int32 × Int32 × Int32) ⊕ (Int32 × Int32)} (Kc : ∀ v, bw = .inl v → WS mM E 6 17 [(0, rf E 0), (1, .int x1), (2, .int v.1), (3, .int v.2.1), (4, .int v.2.2)] [] bs) (Ke : ∀ e, bw = .inr e → WS mM E 6 91 [(1, .int x1), (2, .int e.1), (3, .int e.2)] [] bs) (hf : fb_X6_saids_l17 a1 x1 s0 v2 v3 v4 = some (bs, bw)) : WS mM E 6 17 [(0, rf E 0), (1, .int x1), (2, .int v2), (3, .int v3), (4, .int v4)] [] s0 := by
  unfold fb_X6_saids_l17 at hf
  refine s_iload O 4 dX6_saids_17 rfl ?_
  refine s_iconst (v := 1) O dX6_saids_19 rfl ?_
  refine s_aload_n O 0 dX6_saids_20 rfl rfl ?_
  refine s_getI O fg_RX6_64 ms_0 rfl dX6_saids_21 ?_
  refine s_ishl O dX6_saids_24 ?_
  refine s_icmp_ge (tgt := 91) O dX6_saids_25 (by decide) (fun c => ?_) (fun c => ?_)
  · replace hf := if_t c hf
    refine s_loc [1, 2, 3] rfl ?_
    cases hf
    exact Ke _ rfl
  · replace hf := if_f c hf
    refine s_aload_n O 0 dX6_saids_28 rfl rfl ?_
    obtain ⟨s4, r5, c6, hf⟩ := bn_e hf
    refine s_VV (As := []) (st := []) O lk_RX6_175 (k_X6_starts c6) rfl ms_0 rfl rfl ⟨rfl, rfl⟩ ⟨Nat.le_of_ble_eq_true rfl, Nat.le_of_ble_eq_true rfl⟩ rfl (Nat.le_of_ble_eq_true rfl) dX6_saids_29 ?_
    refine s_iconst (v := 0) O dX6_saids_32 rfl ?_
    refine s_istore (lv' := [(5, .int 0), (0, rf E 0), (1, .int x1), (2, .int v2), (3, .int v3), (4, .int v4)]) O dX6_saids_33 (by decide) rfl ?_
    refine s_loc [1, 2, 3, 4, 5, 0] rfl ?_
    obtain ⟨s10, e11, c12, hf⟩ := bn_e hf
    refine lp_of (body := fun s v => fb_X6_saids_l35 a1 x1 v2 v3 v4 s v) (X := fun s v => WS mM E 6 35 [(0, rf E 0), (1, .int x1), (2, .int v2), (3, .int v3), (4, .int v4), (5, .int v)] [] s) (Y := fun s e => WS mM E 6 64 [(0, rf E 0), (1, .int x1), (2, .int v2), (3, .int v3), (4, .int v4)] [] s) (fun s v s' w hb Kc Ke => wb_X6_saids_l35 (rr := rr) O   hret Kc Ke hb) FU _ _ (s10, e11) c12 ?_
    show WS mM E 6 64 [(0, rf E 0), (1, .int x1), (2, .int v2), (3, .int v3), (4, .int v4)] [] s10
    refine s_aload_n O 0 dX6_saids_64 rfl rfl ?_
    obtain ⟨s13, r14, c15, hf⟩ := bn_e hf
    refine s_VI (As := []) (st := []) O lk_RX6_286 (k_X6_isSo c15) rfl ms_0 rfl rfl ⟨rfl, rfl⟩ ⟨Nat.le_of_ble_eq_true rfl, Nat.le_of_ble_eq_true rfl⟩ rfl (Nat.le_of_ble_eq_true rfl) dX6_saids_65 ?_
    refine s_if_eq (tgt := 85) O dX6_saids_68 (by decide) (fun c => ?_) (fun c => ?_)
    · replace hf := if_t c hf
      refine s_iinc (v := (v4 + 1)) (lv' := [(4, .int (v4 + 1)), (0, rf E 0), (1, .int x1), (2, .int v2), (3, .int v3)]) O 4 dX6_saids_85 rfl rfl (by decide) rfl ?_
      refine s_goto (tgt := 17) O dX6_saids_88 (by decide) ?_
      refine s_loc [1, 2, 3, 4, 0] rfl ?_
      cases hf
      exact Kc _ rfl
    · replace hf := if_f c hf
      refine s_iload_n O 2 dX6_saids_71 rfl rfl ?_
      refine s_if_ne (tgt := 80) O dX6_saids_72 (by decide) (fun c => ?_) (fun c => ?_)
      · replace hf := if_f c hf
        refine s_iload_n O 3 dX6_saids_80 rfl rfl ?_
        refine s_istore_n (lv' := [(3, .int v3), (0, rf E 0), (1, .int x1), (2, .int v2), (4, .int v4)]) O dX6_saids_81 rfl (by decide) rfl ?_
        refine s_iinc (v := (v2 + 1)) (lv' := [(2, .int (v2 + 1)), (3, .int v3), (0, rf E 0), (1, .int x1), (4, .int v4)]) O 3 dX6_saids_82 rfl rfl (by decide) rfl ?_
        refine s_iinc (v := (v4 + 1)) (lv' := [(4, .int (v4 + 1)), (2, .int (v2 + 1)), (3, .int v3), (0, rf E 0), (1, .int x1)]) O 4 dX6_saids_85 rfl rfl (by decide) rfl ?_
        refine s_goto (tgt := 17) O dX6_saids_88 (by decide) ?_
        refine s_loc [3, 4, 1, 2, 0] rfl ?_
        cases hf
        exact Kc _ rfl
      · replace hf := if_t c hf
        refine s_iload O 4 dX6_saids_75 rfl ?_
        refine s_goto (tgt := 81) O dX6_saids_77 (by decide) ?_
        refine s_istore_n (lv' := [(3, .int v4), (0, rf E 0), (1, .int x1), (2, .int v2), (4, .int v4)]) O dX6_saids_81 rfl (by decide) rfl ?_
        refine s_iinc (v := (v2 + 1)) (lv' := [(2, .int (v2 + 1)), (3, .int v4), (0, rf E 0), (1, .int x1), (4, .int v4)]) O 3 dX6_saids_82 rfl rfl (by decide) rfl ?_
        refine s_iinc (v := (v4 + 1)) (lv' := [(4, .int (v4 + 1)), (2, .int (v2 + 1)), (3, .int v4), (0, rf E 0), (1, .int x1)]) O 4 dX6_saids_85 rfl rfl (by decide) rfl ?_
        refine s_goto (tgt := 17) O dX6_saids_88 (by decide) ?_
        refine s_loc [3, 4, 1, 2, 0] rfl ?_
        cases hf
        exact Kc _ rfl
def fl_X6_saids_l17 (a1 : Int32) (x1 : Int32) (s0 : StA) (v : Int32 × Int32 × Int32) : Option (StA × ((Int32 × Int32))) :=
  it (fun s v => fb_X6_saids_l17 a1 x1 s v.1 v.2.1 v.2.2) FU s0 v
def f_X6_saids (a1 : Int32) (s0 : StA) : Option (StA × Int32) :=
  bn (f_X6_isPart a1 s0) (fun s1 r2 => (if r2 = 0 then some (s1, (-1)) else bn (fl_X6_saids_l17 a1 a1 s1 (0, (-4), 0)) (fun s16 e17 => match e17 with | (u17_2, u17_3) => (if a1 = 0 then some (s16, u17_2) else some (s16, u17_3)))))
set_option maxHeartbeats 4000000 in
set_option maxRecDepth 100000 in
theorem k_X6_saids {a1 : Int32} {s0 zs : StA} {rr : Int32} (hf : f_X6_saids a1 s0 = some (zs, rr)) : CtI mM yX6_saids cX6_saids 6 .int rm_X6_saids (fun ph => [.ref (ph 0), .int a1]) s0 zs rr := by
  refine CtI.of (by decide +kernel) (fun ph => Nat.le_of_ble_eq_true rfl) (fun E O hret => ?_)
  have O : OK mM E RX6 cX6_saids 6 rm_X6_saids := O
  show WS mM E 6 0 [(0, rf E 0), (1, .int a1)] [] s0
  unfold f_X6_saids at hf
  refine s_iload_n O 1 dX6_saids_0 rfl rfl ?_
  obtain ⟨s1, r2, c3, hf⟩ := bn_e hf
  refine s_SI (As := [.int a1]) (st := []) O lk_RX6_188 (k_X6_isPart c3) rfl rfl ⟨rfl, rfl⟩ ⟨Nat.le_of_ble_eq_true rfl, Nat.le_of_ble_eq_true rfl⟩ rfl (Nat.le_of_ble_eq_true rfl) dX6_saids_1 ?_
  refine s_if_ne (tgt := 9) O dX6_saids_4 (by decide) (fun c => ?_) (fun c => ?_)
  · replace hf := if_f c hf
    refine s_iconst (v := 0) O dX6_saids_9 rfl ?_
    refine s_istore_n (lv' := [(2, .int 0), (0, rf E 0), (1, .int a1)]) O dX6_saids_10 rfl (by decide) rfl ?_
    refine s_bipush (v := (-4)) O dX6_saids_11 rfl ?_
    refine s_istore_n (lv' := [(3, .int (-4)), (2, .int 0), (0, rf E 0), (1, .int a1)]) O dX6_saids_13 rfl (by decide) rfl ?_
    refine s_iconst (v := 0) O dX6_saids_14 rfl ?_
    refine s_istore (lv' := [(4, .int 0), (3, .int (-4)), (2, .int 0), (0, rf E 0), (1, .int a1)]) O dX6_saids_15 (by decide) rfl ?_
    refine s_loc [3, 4, 2, 1, 0] rfl ?_
    obtain ⟨s16, e17, c18, hf⟩ := bn_e hf
    obtain ⟨u17_2, u17_3⟩ := e17
    refine lp_of (body := fun s v => fb_X6_saids_l17 a1 a1 s v.1 v.2.1 v.2.2) (X := fun s v => WS mM E 6 17 [(0, rf E 0), (1, .int a1), (2, .int v.1), (3, .int v.2.1), (4, .int v.2.2)] [] s) (Y := fun s e => WS mM E 6 91 [(1, .int a1), (2, .int e.1), (3, .int e.2)] [] s) (fun s v s' w hb Kc Ke => wb_X6_saids_l17 (rr := rr) O   hret Kc Ke hb) FU _ _ (s16, (u17_2, u17_3)) c18 ?_
    show WS mM E 6 91 [(1, .int a1), (2, .int u17_2), (3, .int u17_3)] [] s16
    refine s_iload_n O 0 dX6_saids_91 rfl rfl ?_
    refine s_if_ne (tgt := 99) O dX6_saids_92 (by decide) (fun c => ?_) (fun c => ?_)
    · replace hf := if_f c hf
      refine s_iload_n O 2 dX6_saids_99 rfl rfl ?_
      exact s_iret hret rfl dX6_saids_100 hf
    · replace hf := if_t c hf
      refine s_iload_n O 1 dX6_saids_95 rfl rfl ?_
      refine s_goto (tgt := 100) O dX6_saids_96 (by decide) ?_
      exact s_iret hret rfl dX6_saids_100 hf
  · replace hf := if_t c hf
    refine s_iconst (v := (-1)) O dX6_saids_7 rfl ?_
    exact s_iret hret rfl dX6_saids_8 hf
def rm_X6_ask : Room := { frames := 6, cells := 0, slots := 0, locals := 134 }
def fb_X6_ask_l43 (a1 : Int32) (a2 : Int32) (x1 : Int32) (x2 : Int32) (x3 : Int32) (x4 : Int32) (s0 : StA) (v5 : Int32) : Option (StA × ((Int32) ⊕ (Unit))) :=
  (if 30 < v5 then some (s0, .inr ()) else gd v5 31 (gd ((31 * x3) + v5) 279 (nms (si s0 7 (((31 * x3) + v5).toNatClampNeg) (gi s0 6 v5.toNatClampNeg)) (fun s12 => some (s12, .inl (v5 + 1))))))
set_option maxHeartbeats 4000000 in
set_option maxRecDepth 100000 in
theorem wb_X6_ask_l43 {E : XC} (O : OK mM E RX6 cX6_ask 9 rm_X6_ask) {a1 : Int32} {a2 : Int32}  {x1 : Int32} {x2 : Int32} {x3 : Int32} {x4 : Int32} {s0 : StA} {v5 : Int32} {zs : StA} {rr : Int32} (hret : ReI mM E .int cX6_ask zs rr) {bs : StA} {bw : (Int32) ⊕ (Unit)} (Kc : ∀ v, bw = .inl v → WS mM E 9 43 [(0, rf E 0), (1, .int x1), (2, .int x2), (3, .int x3), (4, .int x4), (5, .int v)] [] bs) (Ke : ∀ e, bw = .inr e → WS mM E 9 75 [(0, rf E 0), (1, .int x1), (2, .int x2), (3, .int x3), (4, .int x4)] [] bs) (hf : fb_X6_ask_l43 a1 a2 x1 x2 x3 x4 s0 v5 = some (bs, bw)) : WS mM E 9 43 [(0, rf E 0), (1, .int x1), (2, .int x2), (3, .int x3), (4, .int x4), (5, .int v5)] [] s0 := by
  unfold fb_X6_ask_l43 at hf
  refine s_iload O 5 dX6_ask_43 rfl ?_
  refine s_bipush (v := 30) O dX6_ask_45 rfl ?_
  refine s_icmp_gt (tgt := 75) O dX6_ask_47 (by decide) (fun c => ?_) (fun c => ?_)
  · replace hf := if_t c hf
    refine s_loc [0, 1, 2, 3, 4] rfl ?_
    cases hf
    exact Ke _ rfl
  · replace hf := if_f c hf
    refine s_aload_n O 0 dX6_ask_50 rfl rfl ?_
    refine s_getR O fg_RX6_29 ms_0 rfl dX6_ask_51 ?_
    refine s_bipush (v := 31) O dX6_ask_54 rfl ?_
    refine s_iload_n O 3 dX6_ask_56 rfl rfl ?_
    refine s_imul O dX6_ask_57 ?_
    refine s_iload O 5 dX6_ask_58 rfl ?_
    refine s_iadd O dX6_ask_60 ?_
    refine s_aload_n O 0 dX6_ask_61 rfl rfl ?_
    refine s_getR O fg_RX6_26 ms_0 rfl dX6_ask_62 ?_
    refine s_iload O 5 dX6_ask_65 rfl ?_
    obtain ⟨h10, hf⟩ := gd_e hf
    refine s_iald O ms_6 h10 dX6_ask_67 ?_
    obtain ⟨h11, hf⟩ := gd_e hf
    refine s_iast O ms_7 h11 dX6_ask_68 ?_
    refine s_tops (fun s12 es12 => ?_)
    replace hf := nms_e es12 hf
    refine s_iinc (v := (v5 + 1)) (lv' := [(5, .int (v5 + 1)), (0, rf E 0), (1, .int x1), (2, .int x2), (3, .int x3), (4, .int x4)]) O 5 dX6_ask_69 rfl rfl (by decide) rfl ?_
    refine s_goto (tgt := 43) O dX6_ask_72 (by decide) ?_
    refine s_loc [1, 2, 3, 4, 5, 0] rfl ?_
    cases hf
    exact Kc _ rfl
def fl_X6_ask_l43 (a1 : Int32) (a2 : Int32) (x1 : Int32) (x2 : Int32) (x3 : Int32) (x4 : Int32) (s0 : StA) (v : Int32) : Option (StA × ((Unit))) :=
  it (fun s v => fb_X6_ask_l43 a1 a2 x1 x2 x3 x4 s v) FU s0 v
def fb_X6_ask_l22 (a1 : Int32) (a2 : Int32) (x1 : Int32) (x2 : Int32) (s0 : StA) (v3 : Int32) (v4 : Int32) : Option (StA × ((Int32 × Int32) ⊕ (Int32))) :=
  (if 9 < v4 then some (s0, .inr v3) else bn (f_X6_isSoWith x1 1 v4 s0) (fun s7 r8 => (if r8 = 0 then some (s7, .inl (v3, (v4 + 1))) else bn (fl_X6_ask_l43 a1 a2 x1 x2 v3 v4 s7 0) (fun s13 e14 => some (s13, .inl ((v3 + 1), (v4 + 1)))))))
set_option maxHeartbeats 4000000 in
set_option maxRecDepth 100000 in
theorem wb_X6_ask_l22 {E : XC} (O : OK mM E RX6 cX6_ask 9 rm_X6_ask) {a1 : Int32} {a2 : Int32}  {x1 : Int32} {x2 : Int32} {s0 : StA} {v3 : Int32} {v4 : Int32} {zs : StA} {rr : Int32} (hret : ReI mM E .int cX6_ask zs rr) {bs : StA} {bw : (Int32 × Int32) ⊕ (Int32)} (Kc : ∀ v, bw = .inl v → WS mM E 9 22 [(0, rf E 0), (1, .int x1), (2, .int x2), (3, .int v.1), (4, .int v.2)] [] bs) (Ke : ∀ e, bw = .inr e → WS mM E 9 84 [(0, rf E 0), (2, .int x2), (3, .int e)] [] bs) (hf : fb_X6_ask_l22 a1 a2 x1 x2 s0 v3 v4 = some (bs, bw)) : WS mM E 9 22 [(0, rf E 0), (1, .int x1), (2, .int x2), (3, .int v3), (4, .int v4)] [] s0 := by
  unfold fb_X6_ask_l22 at hf
  refine s_iload O 4 dX6_ask_22 rfl ?_
  refine s_bipush (v := 9) O dX6_ask_24 rfl ?_
  refine s_icmp_gt (tgt := 84) O dX6_ask_26 (by decide) (fun c => ?_) (fun c => ?_)
  · replace hf := if_t c hf
    refine s_loc [0, 2, 3] rfl ?_
    cases hf
    exact Ke _ rfl
  · replace hf := if_f c hf
    refine s_aload_n O 0 dX6_ask_29 rfl rfl ?_
    refine s_iload_n O 1 dX6_ask_30 rfl rfl ?_
    refine s_iconst (v := 1) O dX6_ask_31 rfl ?_
    refine s_iload O 4 dX6_ask_32 rfl ?_
    obtain ⟨s7, r8, c9, hf⟩ := bn_e hf
    refine s_VI (As := [.int x1, .int 1, .int v4]) (st := []) O lk_RX6_290 (k_X6_isSoWith c9) rfl ms_0 rfl rfl ⟨rfl, rfl⟩ ⟨Nat.le_of_ble_eq_true rfl, Nat.le_of_ble_eq_true rfl⟩ rfl (Nat.le_of_ble_eq_true rfl) dX6_ask_34 ?_
    refine s_if_eq (tgt := 78) O dX6_ask_37 (by decide) (fun c => ?_) (fun c => ?_)
    · replace hf := if_t c hf
      refine s_iinc (v := (v4 + 1)) (lv' := [(4, .int (v4 + 1)), (0, rf E 0), (1, .int x1), (2, .int x2), (3, .int v3)]) O 4 dX6_ask_78 rfl rfl (by decide) rfl ?_
      refine s_goto (tgt := 22) O dX6_ask_81 (by decide) ?_
      refine s_loc [1, 2, 3, 4, 0] rfl ?_
      cases hf
      exact Kc _ rfl
    · replace hf := if_f c hf
      refine s_iconst (v := 0) O dX6_ask_40 rfl ?_
      refine s_istore (lv' := [(5, .int 0), (0, rf E 0), (1, .int x1), (2, .int x2), (3, .int v3), (4, .int v4)]) O dX6_ask_41 (by decide) rfl ?_
      refine s_loc [1, 2, 3, 4, 5, 0] rfl ?_
      obtain ⟨s13, e14, c15, hf⟩ := bn_e hf
      refine lp_of (body := fun s v => fb_X6_ask_l43 a1 a2 x1 x2 v3 v4 s v) (X := fun s v => WS mM E 9 43 [(0, rf E 0), (1, .int x1), (2, .int x2), (3, .int v3), (4, .int v4), (5, .int v)] [] s) (Y := fun s e => WS mM E 9 75 [(0, rf E 0), (1, .int x1), (2, .int x2), (3, .int v3), (4, .int v4)] [] s) (fun s v s' w hb Kc Ke => wb_X6_ask_l43 (rr := rr) O   hret Kc Ke hb) FU _ _ (s13, e14) c15 ?_
      show WS mM E 9 75 [(0, rf E 0), (1, .int x1), (2, .int x2), (3, .int v3), (4, .int v4)] [] s13
      refine s_iinc (v := (v3 + 1)) (lv' := [(3, .int (v3 + 1)), (0, rf E 0), (1, .int x1), (2, .int x2), (4, .int v4)]) O 3 dX6_ask_75 rfl rfl (by decide) rfl ?_
      refine s_iinc (v := (v4 + 1)) (lv' := [(4, .int (v4 + 1)), (3, .int (v3 + 1)), (0, rf E 0), (1, .int x1), (2, .int x2)]) O 4 dX6_ask_78 rfl rfl (by decide) rfl ?_
      refine s_goto (tgt := 22) O dX6_ask_81 (by decide) ?_
      refine s_loc [2, 3, 4, 1, 0] rfl ?_
      cases hf
      exact Kc _ rfl
def fl_X6_ask_l22 (a1 : Int32) (a2 : Int32) (x1 : Int32) (x2 : Int32) (s0 : StA) (v : Int32 × Int32) : Option (StA × ((Int32))) :=
  it (fun s v => fb_X6_ask_l22 a1 a2 x1 x2 s v.1 v.2) FU s0 v
def fb_X6_ask_l117 (a1 : Int32) (a2 : Int32) (x2 : Int32) (x3 : Int32) (x4 : Int32) (x5 : Int32) (x6 : Int32) (s0 : StA) (v7 : Int32) (v8 : Int32) : Option (StA × ((Int32 × Int32) ⊕ (Int32))) :=
  (if x3 ≤ v8 then some (s0, .inr v7) else gd ((31 * x6) + x4) 279 (gd ((31 * v8) + x4) 279 ((if (gi s0 7 ((31 * x6) + x4).toNatClampNeg) = (gi s0 7 ((31 * v8) + x4).toNatClampNeg) then bn (f_X6_flag 1 s0) (fun s28 r29 => nmi (v7 + r29) (fun n31 => some (s28, .inl (n31, (v8 + 1))))) else bn (f_X6_flag 0 s0) (fun s24 r25 => nmi (v7 + r25) (fun n27 => some (s24, .inl (n27, (v8 + 1)))))))))
set_option maxHeartbeats 4000000 in
set_option maxRecDepth 100000 in
theorem wb_X6_ask_l117 {E : XC} (O : OK mM E RX6 cX6_ask 9 rm_X6_ask) {a1 : Int32} {a2 : Int32}  {x2 : Int32} {x3 : Int32} {x4 : Int32} {x5 : Int32} {x6 : Int32} {s0 : StA} {v7 : Int32} {v8 : Int32} {zs : StA} {rr : Int32} (hret : ReI mM E .int cX6_ask zs rr) {bs : StA} {bw : (Int32 × Int32) ⊕ (Int32)} (Kc : ∀ v, bw = .inl v → WS mM E 9 117 [(0, rf E 0), (2, .int x2), (3, .int x3), (4, .int x4), (5, .int x5), (6, .int x6), (7, .int v.1), (8, .int v.2)] [] bs) (Ke : ∀ e, bw = .inr e → WS mM E 9 171 [(0, rf E 0), (2, .int x2), (3, .int x3), (4, .int x4), (5, .int x5), (6, .int x6), (7, .int e)] [] bs) (hf : fb_X6_ask_l117 a1 a2 x2 x3 x4 x5 x6 s0 v7 v8 = some (bs, bw)) : WS mM E 9 117 [(0, rf E 0), (2, .int x2), (3, .int x3), (4, .int x4), (5, .int x5), (6, .int x6), (7, .int v7), (8, .int v8)] [] s0 := by
  unfold fb_X6_ask_l117 at hf
  refine s_iload O 7 dX6_ask_117 rfl ?_
  refine s_iload_n O 2 dX6_ask_119 rfl rfl ?_
  refine s_icmp_ge (tgt := 171) O dX6_ask_120 (by decide) (fun c => ?_) (fun c => ?_)
  · replace hf := if_t c hf
    refine s_loc [0, 1, 2, 3, 4, 5, 6] rfl ?_
    cases hf
    exact Ke _ rfl
  · replace hf := if_f c hf
    refine s_iload O 6 dX6_ask_123 rfl ?_
    refine s_aload_n O 0 dX6_ask_125 rfl rfl ?_
    refine s_getR O fg_RX6_29 ms_0 rfl dX6_ask_126 ?_
    refine s_bipush (v := 31) O dX6_ask_129 rfl ?_
    refine s_iload O 5 dX6_ask_131 rfl ?_
    refine s_imul O dX6_ask_133 ?_
    refine s_iload O 3 dX6_ask_134 rfl ?_
    refine s_iadd O dX6_ask_136 ?_
    obtain ⟨h22, hf⟩ := gd_e hf
    refine s_iald O ms_7 h22 dX6_ask_137 ?_
    refine s_aload_n O 0 dX6_ask_138 rfl rfl ?_
    refine s_getR O fg_RX6_29 ms_0 rfl dX6_ask_139 ?_
    refine s_bipush (v := 31) O dX6_ask_142 rfl ?_
    refine s_iload O 7 dX6_ask_144 rfl ?_
    refine s_imul O dX6_ask_146 ?_
    refine s_iload O 3 dX6_ask_147 rfl ?_
    refine s_iadd O dX6_ask_149 ?_
    obtain ⟨h23, hf⟩ := gd_e hf
    refine s_iald O ms_7 h23 dX6_ask_150 ?_
    refine s_icmp_ne (tgt := 158) O dX6_ask_151 (by decide) (fun c => ?_) (fun c => ?_)
    · replace hf := if_f c hf
      refine s_iconst (v := 0) O dX6_ask_158 rfl ?_
      obtain ⟨s24, r25, c26, hf⟩ := bn_e hf
      refine s_SI (As := [.int 0]) (st := [.int v7]) O lk_RX6_219 (k_X6_flag c26) rfl rfl ⟨rfl, rfl⟩ ⟨Nat.le_of_ble_eq_true rfl, Nat.le_of_ble_eq_true rfl⟩ rfl (Nat.le_of_ble_eq_true rfl) dX6_ask_159 ?_
      refine s_iadd O dX6_ask_162 ?_
      refine s_topi (fun n27 en27 => ?_)
      replace hf := nmi_e en27 hf
      refine s_istore (lv' := [(7, .int n27), (0, rf E 0), (2, .int x2), (3, .int x3), (4, .int x4), (5, .int x5), (6, .int x6), (8, .int v8)]) O dX6_ask_163 (by decide) rfl ?_
      refine s_iinc (v := (v8 + 1)) (lv' := [(8, .int (v8 + 1)), (7, .int n27), (0, rf E 0), (2, .int x2), (3, .int x3), (4, .int x4), (5, .int x5), (6, .int x6)]) O 7 dX6_ask_165 rfl rfl (by decide) rfl ?_
      refine s_goto (tgt := 117) O dX6_ask_168 (by decide) ?_
      refine s_loc [2, 3, 4, 5, 6, 7, 1, 0] rfl ?_
      cases hf
      exact Kc _ rfl
    · replace hf := if_t c hf
      refine s_iconst (v := 1) O dX6_ask_154 rfl ?_
      refine s_goto (tgt := 159) O dX6_ask_155 (by decide) ?_
      obtain ⟨s28, r29, c30, hf⟩ := bn_e hf
      refine s_SI (As := [.int 1]) (st := [.int v7]) O lk_RX6_219 (k_X6_flag c30) rfl rfl ⟨rfl, rfl⟩ ⟨Nat.le_of_ble_eq_true rfl, Nat.le_of_ble_eq_true rfl⟩ rfl (Nat.le_of_ble_eq_true rfl) dX6_ask_159 ?_
      refine s_iadd O dX6_ask_162 ?_
      refine s_topi (fun n31 en31 => ?_)
      replace hf := nmi_e en31 hf
      refine s_istore (lv' := [(7, .int n31), (0, rf E 0), (2, .int x2), (3, .int x3), (4, .int x4), (5, .int x5), (6, .int x6), (8, .int v8)]) O dX6_ask_163 (by decide) rfl ?_
      refine s_iinc (v := (v8 + 1)) (lv' := [(8, .int (v8 + 1)), (7, .int n31), (0, rf E 0), (2, .int x2), (3, .int x3), (4, .int x4), (5, .int x5), (6, .int x6)]) O 7 dX6_ask_165 rfl rfl (by decide) rfl ?_
      refine s_goto (tgt := 117) O dX6_ask_168 (by decide) ?_
      refine s_loc [2, 3, 4, 5, 6, 7, 1, 0] rfl ?_
      cases hf
      exact Kc _ rfl
def fl_X6_ask_l117 (a1 : Int32) (a2 : Int32) (x2 : Int32) (x3 : Int32) (x4 : Int32) (x5 : Int32) (x6 : Int32) (s0 : StA) (v : Int32 × Int32) : Option (StA × ((Int32))) :=
  it (fun s v => fb_X6_ask_l117 a1 a2 x2 x3 x4 x5 x6 s v.1 v.2) FU s0 v
def fb_X6_ask_l105 (a1 : Int32) (a2 : Int32) (x2 : Int32) (x3 : Int32) (x4 : Int32) (s0 : StA) (v5 : Int32) (v6 : Int32) : Option (StA × ((Int32 × Int32) ⊕ (Int32))) :=
  (if x3 ≤ v6 then some (s0, .inr v5) else bn (fl_X6_ask_l117 a1 a2 x2 x3 x4 v5 v6 s0 (0, 0)) (fun s32 u117_7 => (if u117_7 ≤ v5 then some (s32, .inl (v5, (v6 + 1))) else some (s32, .inl (u117_7, (v6 + 1))))))
set_option maxHeartbeats 4000000 in
set_option maxRecDepth 100000 in
theorem wb_X6_ask_l105 {E : XC} (O : OK mM E RX6 cX6_ask 9 rm_X6_ask) {a1 : Int32} {a2 : Int32}  {x2 : Int32} {x3 : Int32} {x4 : Int32} {s0 : StA} {v5 : Int32} {v6 : Int32} {zs : StA} {rr : Int32} (hret : ReI mM E .int cX6_ask zs rr) {bs : StA} {bw : (Int32 × Int32) ⊕ (Int32)} (Kc : ∀ v, bw = .inl v → WS mM E 9 105 [(0, rf E 0), (2, .int x2), (3, .int x3), (4, .int x4), (5, .int v.1), (6, .int v.2)] [] bs) (Ke : ∀ e, bw = .inr e → WS mM E 9 193 [(0, rf E 0), (2, .int x2), (3, .int x3), (4, .int x4), (5, .int e)] [] bs) (hf : fb_X6_ask_l105 a1 a2 x2 x3 x4 s0 v5 v6 = some (bs, bw)) : WS mM E 9 105 [(0, rf E 0), (2, .int x2), (3, .int x3), (4, .int x4), (5, .int v5), (6, .int v6)] [] s0 := by
  unfold fb_X6_ask_l105 at hf
  refine s_iload O 5 dX6_ask_105 rfl ?_
  refine s_iload_n O 2 dX6_ask_107 rfl rfl ?_
  refine s_icmp_ge (tgt := 193) O dX6_ask_108 (by decide) (fun c => ?_) (fun c => ?_)
  · replace hf := if_t c hf
    refine s_loc [0, 1, 2, 3, 4] rfl ?_
    cases hf
    exact Ke _ rfl
  · replace hf := if_f c hf
    refine s_iconst (v := 0) O dX6_ask_111 rfl ?_
    refine s_istore (lv' := [(7, .int 0), (0, rf E 0), (2, .int x2), (3, .int x3), (4, .int x4), (5, .int v5), (6, .int v6)]) O dX6_ask_112 (by decide) rfl ?_
    refine s_iconst (v := 0) O dX6_ask_114 rfl ?_
    refine s_istore (lv' := [(8, .int 0), (7, .int 0), (0, rf E 0), (2, .int x2), (3, .int x3), (4, .int x4), (5, .int v5), (6, .int v6)]) O dX6_ask_115 (by decide) rfl ?_
    refine s_loc [2, 3, 4, 5, 6, 7, 1, 0] rfl ?_
    obtain ⟨s32, u117_7, c34, hf⟩ := bn_e hf
    refine lp_of (body := fun s v => fb_X6_ask_l117 a1 a2 x2 x3 x4 v5 v6 s v.1 v.2) (X := fun s v => WS mM E 9 117 [(0, rf E 0), (2, .int x2), (3, .int x3), (4, .int x4), (5, .int v5), (6, .int v6), (7, .int v.1), (8, .int v.2)] [] s) (Y := fun s e => WS mM E 9 171 [(0, rf E 0), (2, .int x2), (3, .int x3), (4, .int x4), (5, .int v5), (6, .int v6), (7, .int e)] [] s) (fun s v s' w hb Kc Ke => wb_X6_ask_l117 (rr := rr) O   hret Kc Ke hb) FU _ _ (s32, u117_7) c34 ?_
    show WS mM E 9 171 [(0, rf E 0), (2, .int x2), (3, .int x3), (4, .int x4), (5, .int v5), (6, .int v6), (7, .int u117_7)] [] s32
    refine s_iload O 6 dX6_ask_171 rfl ?_
    refine s_iload O 4 dX6_ask_173 rfl ?_
    refine s_icmp_le (tgt := 183) O dX6_ask_175 (by decide) (fun c => ?_) (fun c => ?_)
    · replace hf := if_t c hf
      refine s_iload O 4 dX6_ask_183 rfl ?_
      refine s_istore (lv' := [(5, .int v5), (0, rf E 0), (2, .int x2), (3, .int x3), (4, .int x4), (6, .int v6), (7, .int u117_7)]) O dX6_ask_185 (by decide) rfl ?_
      refine s_iinc (v := (v6 + 1)) (lv' := [(6, .int (v6 + 1)), (5, .int v5), (0, rf E 0), (2, .int x2), (3, .int x3), (4, .int x4), (7, .int u117_7)]) O 5 dX6_ask_187 rfl rfl (by decide) rfl ?_
      refine s_goto (tgt := 105) O dX6_ask_190 (by decide) ?_
      refine s_loc [2, 3, 4, 5, 1, 0] rfl ?_
      cases hf
      exact Kc _ rfl
    · replace hf := if_f c hf
      refine s_iload O 6 dX6_ask_178 rfl ?_
      refine s_goto (tgt := 185) O dX6_ask_180 (by decide) ?_
      refine s_istore (lv' := [(5, .int u117_7), (0, rf E 0), (2, .int x2), (3, .int x3), (4, .int x4), (6, .int v6), (7, .int u117_7)]) O dX6_ask_185 (by decide) rfl ?_
      refine s_iinc (v := (v6 + 1)) (lv' := [(6, .int (v6 + 1)), (5, .int u117_7), (0, rf E 0), (2, .int x2), (3, .int x3), (4, .int x4), (7, .int u117_7)]) O 5 dX6_ask_187 rfl rfl (by decide) rfl ?_
      refine s_goto (tgt := 105) O dX6_ask_190 (by decide) ?_
      refine s_loc [2, 3, 4, 5, 1, 0] rfl ?_
      cases hf
      exact Kc _ rfl
def fl_X6_ask_l105 (a1 : Int32) (a2 : Int32) (x2 : Int32) (x3 : Int32) (x4 : Int32) (s0 : StA) (v : Int32 × Int32) : Option (StA × ((Int32))) :=
  it (fun s v => fb_X6_ask_l105 a1 a2 x2 x3 x4 s v.1 v.2) FU s0 v
def fb_X6_ask_l92 (a1 : Int32) (a2 : Int32) (x2 : Int32) (x3 : Int32) (s0 : StA) (v4 : Int32) : Option (StA × ((Int32) ⊕ (Unit))) :=
  (if 30 < v4 then some (s0, .inr ()) else bn (fl_X6_ask_l105 a1 a2 x2 x3 v4 s0 (0, 0)) (fun s35 u105_5 => bn (f_X6_judges v4 u105_5 s35) (fun s38 r39 => some (s38, .inl (v4 + 1)))))
set_option maxHeartbeats 4000000 in
set_option maxRecDepth 100000 in
theorem wb_X6_ask_l92 {E : XC} (O : OK mM E RX6 cX6_ask 9 rm_X6_ask) {a1 : Int32} {a2 : Int32}  {x2 : Int32} {x3 : Int32} {s0 : StA} {v4 : Int32} {zs : StA} {rr : Int32} (hret : ReI mM E .int cX6_ask zs rr) {bs : StA} {bw : (Int32) ⊕ (Unit)} (Kc : ∀ v, bw = .inl v → WS mM E 9 92 [(0, rf E 0), (2, .int x2), (3, .int x3), (4, .int v)] [] bs) (Ke : ∀ e, bw = .inr e → WS mM E 9 207 [(0, rf E 0), (2, .int x2)] [] bs) (hf : fb_X6_ask_l92 a1 a2 x2 x3 s0 v4 = some (bs, bw)) : WS mM E 9 92 [(0, rf E 0), (2, .int x2), (3, .int x3), (4, .int v4)] [] s0 := by
  unfold fb_X6_ask_l92 at hf
  refine s_iload O 3 dX6_ask_92 rfl ?_
  refine s_bipush (v := 30) O dX6_ask_94 rfl ?_
  refine s_icmp_gt (tgt := 207) O dX6_ask_96 (by decide) (fun c => ?_) (fun c => ?_)
  · replace hf := if_t c hf
    refine s_loc [0, 1] rfl ?_
    cases hf
    exact Ke _ rfl
  · replace hf := if_f c hf
    refine s_iconst (v := 0) O dX6_ask_99 rfl ?_
    refine s_istore (lv' := [(5, .int 0), (0, rf E 0), (2, .int x2), (3, .int x3), (4, .int v4)]) O dX6_ask_100 (by decide) rfl ?_
    refine s_iconst (v := 0) O dX6_ask_102 rfl ?_
    refine s_istore (lv' := [(6, .int 0), (5, .int 0), (0, rf E 0), (2, .int x2), (3, .int x3), (4, .int v4)]) O dX6_ask_103 (by decide) rfl ?_
    refine s_loc [2, 3, 4, 5, 1, 0] rfl ?_
    obtain ⟨s35, u105_5, c37, hf⟩ := bn_e hf
    refine lp_of (body := fun s v => fb_X6_ask_l105 a1 a2 x2 x3 v4 s v.1 v.2) (X := fun s v => WS mM E 9 105 [(0, rf E 0), (2, .int x2), (3, .int x3), (4, .int v4), (5, .int v.1), (6, .int v.2)] [] s) (Y := fun s e => WS mM E 9 193 [(0, rf E 0), (2, .int x2), (3, .int x3), (4, .int v4), (5, .int e)] [] s) (fun s v s' w hb Kc Ke => wb_X6_ask_l105 (rr := rr) O   hret Kc Ke hb) FU _ _ (s35, u105_5) c37 ?_
    show WS mM E 9 193 [(0, rf E 0), (2, .int x2), (3, .int x3), (4, .int v4), (5, .int u105_5)] [] s35
    refine s_aload_n O 0 dX6_ask_193 rfl rfl ?_
    refine s_iload O 3 dX6_ask_194 rfl ?_
    refine s_iload O 4 dX6_ask_196 rfl ?_
    obtain ⟨s38, r39, c40, hf⟩ := bn_e hf
    refine s_VV (As := [.int v4, .int u105_5]) (st := []) O lk_RX6_251 (k_X6_judges c40) rfl ms_0 rfl rfl ⟨rfl, rfl⟩ ⟨Nat.le_of_ble_eq_true rfl, Nat.le_of_ble_eq_true rfl⟩ rfl (Nat.le_of_ble_eq_true rfl) dX6_ask_198 ?_
    refine s_iinc (v := (v4 + 1)) (lv' := [(4, .int (v4 + 1)), (0, rf E 0), (2, .int x2), (3, .int x3), (5, .int u105_5)]) O 3 dX6_ask_201 rfl rfl (by decide) rfl ?_
    refine s_goto (tgt := 92) O dX6_ask_204 (by decide) ?_
    refine s_loc [1, 2, 3, 0] rfl ?_
    cases hf
    exact Kc _ rfl
def fl_X6_ask_l92 (a1 : Int32) (a2 : Int32) (x2 : Int32) (x3 : Int32) (s0 : StA) (v : Int32) : Option (StA × ((Unit))) :=
  it (fun s v => fb_X6_ask_l92 a1 a2 x2 x3 s v) FU s0 v
def f_X6_ask (a1 : Int32) (a2 : Int32) (s0 : StA) : Option (StA × Int32) :=
  bn (f_X6_isThing a1 s0) (fun s1 r2 => (if r2 = 0 then some (s1, (-1)) else bn (f_X6_isPart a2 s1) (fun s4 r5 => (if r5 = 0 then some (s4, (-1)) else bn (fl_X6_ask_l22 a1 a2 a1 a2 s4 (0, 1)) (fun s16 u22_3 => bn (f_X6_startsJudging u22_3 s16) (fun s19 r20 => bn (fl_X6_ask_l92 a1 a2 a2 u22_3 s19 0) (fun s41 e42 => bn (f_X6_judged a2 s41) (fun s44 r45 => some (s44, r45)))))))))
set_option maxHeartbeats 4000000 in
set_option maxRecDepth 100000 in
theorem k_X6_ask {a1 : Int32} {a2 : Int32} {s0 zs : StA} {rr : Int32} (hf : f_X6_ask a1 a2 s0 = some (zs, rr)) : CtI mM yX6_ask cX6_ask 9 .int rm_X6_ask (fun ph => [.ref (ph 0), .int a1, .int a2]) s0 zs rr := by
  refine CtI.of (by decide +kernel) (fun ph => Nat.le_of_ble_eq_true rfl) (fun E O hret => ?_)
  have O : OK mM E RX6 cX6_ask 9 rm_X6_ask := O
  show WS mM E 9 0 [(0, rf E 0), (1, .int a1), (2, .int a2)] [] s0
  unfold f_X6_ask at hf
  refine s_aload_n O 0 dX6_ask_0 rfl rfl ?_
  refine s_iload_n O 1 dX6_ask_1 rfl rfl ?_
  obtain ⟨s1, r2, c3, hf⟩ := bn_e hf
  refine s_VI (As := [.int a1]) (st := []) O lk_RX6_181 (k_X6_isThing c3) rfl ms_0 rfl rfl ⟨rfl, rfl⟩ ⟨Nat.le_of_ble_eq_true rfl, Nat.le_of_ble_eq_true rfl⟩ rfl (Nat.le_of_ble_eq_true rfl) dX6_ask_2 ?_
  refine s_if_eq (tgt := 15) O dX6_ask_5 (by decide) (fun c => ?_) (fun c => ?_)
  · replace hf := if_t c hf
    refine s_iconst (v := (-1)) O dX6_ask_15 rfl ?_
    exact s_iret hret rfl dX6_ask_16 hf
  · replace hf := if_f c hf
    refine s_iload_n O 2 dX6_ask_8 rfl rfl ?_
    obtain ⟨s4, r5, c6, hf⟩ := bn_e hf
    refine s_SI (As := [.int a2]) (st := []) O lk_RX6_188 (k_X6_isPart c6) rfl rfl ⟨rfl, rfl⟩ ⟨Nat.le_of_ble_eq_true rfl, Nat.le_of_ble_eq_true rfl⟩ rfl (Nat.le_of_ble_eq_true rfl) dX6_ask_9 ?_
    refine s_if_ne (tgt := 17) O dX6_ask_12 (by decide) (fun c => ?_) (fun c => ?_)
    · replace hf := if_f c hf
      refine s_iconst (v := 0) O dX6_ask_17 rfl ?_
      refine s_istore_n (lv' := [(3, .int 0), (0, rf E 0), (1, .int a1), (2, .int a2)]) O dX6_ask_18 rfl (by decide) rfl ?_
      refine s_iconst (v := 1) O dX6_ask_19 rfl ?_
      refine s_istore (lv' := [(4, .int 1), (3, .int 0), (0, rf E 0), (1, .int a1), (2, .int a2)]) O dX6_ask_20 (by decide) rfl ?_
      refine s_loc [2, 3, 4, 1, 0] rfl ?_
      obtain ⟨s16, u22_3, c18, hf⟩ := bn_e hf
      refine lp_of (body := fun s v => fb_X6_ask_l22 a1 a2 a1 a2 s v.1 v.2) (X := fun s v => WS mM E 9 22 [(0, rf E 0), (1, .int a1), (2, .int a2), (3, .int v.1), (4, .int v.2)] [] s) (Y := fun s e => WS mM E 9 84 [(0, rf E 0), (2, .int a2), (3, .int e)] [] s) (fun s v s' w hb Kc Ke => wb_X6_ask_l22 (rr := rr) O   hret Kc Ke hb) FU _ _ (s16, u22_3) c18 ?_
      show WS mM E 9 84 [(0, rf E 0), (2, .int a2), (3, .int u22_3)] [] s16
      refine s_aload_n O 0 dX6_ask_84 rfl rfl ?_
      refine s_iload_n O 2 dX6_ask_85 rfl rfl ?_
      obtain ⟨s19, r20, c21, hf⟩ := bn_e hf
      refine s_VV (As := [.int u22_3]) (st := []) O lk_RX6_245 (k_X6_startsJudging c21) rfl ms_0 rfl rfl ⟨rfl, rfl⟩ ⟨Nat.le_of_ble_eq_true rfl, Nat.le_of_ble_eq_true rfl⟩ rfl (Nat.le_of_ble_eq_true rfl) dX6_ask_86 ?_
      refine s_iconst (v := 0) O dX6_ask_89 rfl ?_
      refine s_istore (lv' := [(4, .int 0), (0, rf E 0), (2, .int a2), (3, .int u22_3)]) O dX6_ask_90 (by decide) rfl ?_
      refine s_loc [1, 2, 3, 0] rfl ?_
      obtain ⟨s41, e42, c43, hf⟩ := bn_e hf
      refine lp_of (body := fun s v => fb_X6_ask_l92 a1 a2 a2 u22_3 s v) (X := fun s v => WS mM E 9 92 [(0, rf E 0), (2, .int a2), (3, .int u22_3), (4, .int v)] [] s) (Y := fun s e => WS mM E 9 207 [(0, rf E 0), (2, .int a2)] [] s) (fun s v s' w hb Kc Ke => wb_X6_ask_l92 (rr := rr) O   hret Kc Ke hb) FU _ _ (s41, e42) c43 ?_
      show WS mM E 9 207 [(0, rf E 0), (2, .int a2)] [] s41
      refine s_aload_n O 0 dX6_ask_207 rfl rfl ?_
      refine s_iload_n O 1 dX6_ask_208 rfl rfl ?_
      obtain ⟨s44, r45, c46, hf⟩ := bn_e hf
      refine s_VI (As := [.int a2]) (st := []) O lk_RX6_255 (k_X6_judged c46) rfl ms_0 rfl rfl ⟨rfl, rfl⟩ ⟨Nat.le_of_ble_eq_true rfl, Nat.le_of_ble_eq_true rfl⟩ rfl (Nat.le_of_ble_eq_true rfl) dX6_ask_209 ?_
      exact s_iret hret rfl dX6_ask_212 hf
    · replace hf := if_t c hf
      refine s_iconst (v := (-1)) O dX6_ask_15 rfl ?_
      exact s_iret hret rfl dX6_ask_16 hf
def rm_X6_drift : Room := { frames := 4, cells := 0, slots := 0, locals := 89 }
def fb_X6_drift_l41 (a1 : Int32) (a2 : Int32) (a3 : Int32) (x2 : Int32) (x3 : Int32) (s0 : StA) (v4 : Int32) (v5 : Int32) : Option (StA × ((Int32 × Int32) ⊕ (Unit))) :=
  (if x2 ≤ v5 then some (s0, .inr ()) else nmi ((v4 * 1103515245) + 12345) (fun n10 => nmi ((n10 >>> (16 &&& 31)) &&& 32767) (fun n11 => g0 (gi s0 0 3) (bn (f_X6_becomesOf (n11 - n11 / (gi s0 0 3) * (gi s0 0 3)) 3 ((n11 / 8) - (n11 / 8) / 2 * 2) s0) (fun s13 r14 => bn (f_X6_minuteGoes  s13) (fun s16 r17 => some (s16, .inl (n10, (v5 + 1)))))))))
set_option maxHeartbeats 4000000 in
set_option maxRecDepth 100000 in
theorem wb_X6_drift_l41 {E : XC} (O : OK mM E RX6 cX6_drift 7 rm_X6_drift) {a1 : Int32} {a2 : Int32} {a3 : Int32}  {x2 : Int32} {x3 : Int32} {s0 : StA} {v4 : Int32} {v5 : Int32} {zs : StA} {rr : Int32} (hret : ReI mM E .int cX6_drift zs rr) {bs : StA} {bw : (Int32 × Int32) ⊕ (Unit)} (Kc : ∀ v, bw = .inl v → WS mM E 7 41 [(0, rf E 0), (2, .int x2), (3, .int x3), (4, .int v.1), (5, .int v.2)] [] bs) (Ke : ∀ e, bw = .inr e → WS mM E 7 99 [(0, rf E 0), (3, .int x3)] [] bs) (hf : fb_X6_drift_l41 a1 a2 a3 x2 x3 s0 v4 v5 = some (bs, bw)) : WS mM E 7 41 [(0, rf E 0), (2, .int x2), (3, .int x3), (4, .int v4), (5, .int v5)] [] s0 := by
  unfold fb_X6_drift_l41 at hf
  refine s_iload O 4 dX6_drift_41 rfl ?_
  refine s_iload_n O 1 dX6_drift_43 rfl rfl ?_
  refine s_icmp_ge (tgt := 99) O dX6_drift_44 (by decide) (fun c => ?_) (fun c => ?_)
  · replace hf := if_t c hf
    refine s_loc [0, 2] rfl ?_
    cases hf
    exact Ke _ rfl
  · replace hf := if_f c hf
    refine s_iload O 3 dX6_drift_47 rfl ?_
    refine s_ldcw O ci_RX6_294 dX6_drift_49 ?_
    refine s_imul O dX6_drift_52 ?_
    refine s_sipush (v := 12345) O dX6_drift_53 rfl ?_
    refine s_iadd O dX6_drift_56 ?_
    refine s_topi (fun n10 en10 => ?_)
    replace hf := nmi_e en10 hf
    refine s_istore (lv' := [(4, .int n10), (0, rf E 0), (2, .int x2), (3, .int x3), (5, .int v5)]) O dX6_drift_57 (by decide) rfl ?_
    refine s_iload O 0 dX6_drift_59 rfl ?_
    refine s_bipush (v := 16) O dX6_drift_61 rfl ?_
    refine s_ishr O dX6_drift_63 ?_
    refine s_sipush (v := 32767) O dX6_drift_64 rfl ?_
    refine s_iand O dX6_drift_67 ?_
    refine s_topi (fun n11 en11 => ?_)
    replace hf := nmi_e en11 hf
    refine s_istore (lv' := [(6, .int n11), (4, .int n10), (0, rf E 0), (2, .int x2), (3, .int x3), (5, .int v5)]) O dX6_drift_68 (by decide) rfl ?_
    refine s_aload_n O 2 dX6_drift_70 rfl rfl ?_
    refine s_iload O 0 dX6_drift_71 rfl ?_
    refine s_aload_n O 2 dX6_drift_73 rfl rfl ?_
    refine s_getI O fg_RX6_64 ms_0 rfl dX6_drift_74 ?_
    obtain ⟨h12, hf⟩ := g0_e hf
    refine s_irem O dX6_drift_77 h12 ?_
    refine s_iconst (v := 3) O dX6_drift_78 rfl ?_
    refine s_iload O 0 dX6_drift_79 rfl ?_
    refine s_bipush (v := 8) O dX6_drift_81 rfl ?_
    refine s_idiv O dX6_drift_83 (by decide) ?_
    refine s_iconst (v := 2) O dX6_drift_84 rfl ?_
    refine s_irem O dX6_drift_85 (by decide) ?_
    obtain ⟨s13, r14, c15, hf⟩ := bn_e hf
    refine s_VV (As := [.int (n11 - n11 / (gi s0 0 3) * (gi s0 0 3)), .int 3, .int ((n11 / 8) - (n11 / 8) / 2 * 2)]) (st := []) O lk_RX6_162 (k_X6_becomesOf c15) rfl ms_0 rfl rfl ⟨rfl, rfl⟩ ⟨Nat.le_of_ble_eq_true rfl, Nat.le_of_ble_eq_true rfl⟩ rfl (Nat.le_of_ble_eq_true rfl) dX6_drift_86 ?_
    refine s_aload_n O 2 dX6_drift_89 rfl rfl ?_
    obtain ⟨s16, r17, c18, hf⟩ := bn_e hf
    refine s_VV (As := []) (st := []) O lk_RX6_172 (k_X6_minuteGoes c18) rfl ms_0 rfl rfl ⟨rfl, rfl⟩ ⟨Nat.le_of_ble_eq_true rfl, Nat.le_of_ble_eq_true rfl⟩ rfl (Nat.le_of_ble_eq_true rfl) dX6_drift_90 ?_
    refine s_iinc (v := (v5 + 1)) (lv' := [(5, .int (v5 + 1)), (6, .int n11), (4, .int n10), (0, rf E 0), (2, .int x2), (3, .int x3)]) O 5 dX6_drift_93 rfl rfl (by decide) rfl ?_
    refine s_goto (tgt := 41) O dX6_drift_96 (by decide) ?_
    refine s_loc [3, 4, 5, 2, 0] rfl ?_
    cases hf
    exact Kc _ rfl
def fl_X6_drift_l41 (a1 : Int32) (a2 : Int32) (a3 : Int32) (x2 : Int32) (x3 : Int32) (s0 : StA) (v : Int32 × Int32) : Option (StA × ((Unit))) :=
  it (fun s v => fb_X6_drift_l41 a1 a2 a3 x2 x3 s v.1 v.2) FU s0 v
def f_X6_drift (a1 : Int32) (a2 : Int32) (a3 : Int32) (s0 : StA) : Option (StA × Int32) :=
  bn (f_X6_in a2.toInt64 1 60 s0) (fun s1 r2 => (if r2 = 0 then some (s1, (-1)) else bn (f_X6_isPart a3 s1) (fun s4 r5 => (if r5 = 0 then some (s4, (-1)) else (if (gi s4 0 3) = 0 then some (s4, (-2)) else bn (f_X6_starts  s4) (fun s7 r8 => bn (fl_X6_drift_l41 a1 a2 a3 a2 a3 s7 (a1, 0)) (fun s19 e20 => (if a3 = 0 then gd 24 63 (some (s19, (gi s19 2 (24 : Int32).toNatClampNeg))) else gd 25 63 (some (s19, (gi s19 2 (25 : Int32).toNatClampNeg)))))))))))
set_option maxHeartbeats 4000000 in
set_option maxRecDepth 100000 in
theorem k_X6_drift {a1 : Int32} {a2 : Int32} {a3 : Int32} {s0 zs : StA} {rr : Int32} (hf : f_X6_drift a1 a2 a3 s0 = some (zs, rr)) : CtI mM yX6_drift cX6_drift 7 .int rm_X6_drift (fun ph => [.ref (ph 0), .int a1, .int a2, .int a3]) s0 zs rr := by
  refine CtI.of (by decide +kernel) (fun ph => Nat.le_of_ble_eq_true rfl) (fun E O hret => ?_)
  have O : OK mM E RX6 cX6_drift 7 rm_X6_drift := O
  show WS mM E 7 0 [(0, rf E 0), (1, .int a1), (2, .int a2), (3, .int a3)] [] s0
  unfold f_X6_drift at hf
  refine s_iload_n O 2 dX6_drift_0 rfl rfl ?_
  refine s_i2l O dX6_drift_1 ?_
  refine s_lconst (v := 1) O dX6_drift_2 rfl ?_
  refine s_ldc2 O cl_RX6_211 dX6_drift_3 ?_
  obtain ⟨s1, r2, c3, hf⟩ := bn_e hf
  refine s_SI (As := [.long a2.toInt64, .long 1, .long 60]) (st := []) O lk_RX6_69 (k_X6_in c3) rfl rfl ⟨rfl, rfl⟩ ⟨Nat.le_of_ble_eq_true rfl, Nat.le_of_ble_eq_true rfl⟩ rfl (Nat.le_of_ble_eq_true rfl) dX6_drift_6 ?_
  refine s_if_eq (tgt := 19) O dX6_drift_9 (by decide) (fun c => ?_) (fun c => ?_)
  · replace hf := if_t c hf
    refine s_iconst (v := (-1)) O dX6_drift_19 rfl ?_
    exact s_iret hret rfl dX6_drift_20 hf
  · replace hf := if_f c hf
    refine s_iload_n O 3 dX6_drift_12 rfl rfl ?_
    obtain ⟨s4, r5, c6, hf⟩ := bn_e hf
    refine s_SI (As := [.int a3]) (st := []) O lk_RX6_188 (k_X6_isPart c6) rfl rfl ⟨rfl, rfl⟩ ⟨Nat.le_of_ble_eq_true rfl, Nat.le_of_ble_eq_true rfl⟩ rfl (Nat.le_of_ble_eq_true rfl) dX6_drift_13 ?_
    refine s_if_ne (tgt := 21) O dX6_drift_16 (by decide) (fun c => ?_) (fun c => ?_)
    · replace hf := if_f c hf
      refine s_aload_n O 0 dX6_drift_21 rfl rfl ?_
      refine s_getI O fg_RX6_64 ms_0 rfl dX6_drift_22 ?_
      refine s_if_ne (tgt := 31) O dX6_drift_25 (by decide) (fun c => ?_) (fun c => ?_)
      · replace hf := if_f c hf
        refine s_iload_n O 1 dX6_drift_31 rfl rfl ?_
        refine s_istore (lv' := [(4, .int a1), (0, rf E 0), (1, .int a1), (2, .int a2), (3, .int a3)]) O dX6_drift_32 (by decide) rfl ?_
        refine s_aload_n O 1 dX6_drift_34 rfl rfl ?_
        obtain ⟨s7, r8, c9, hf⟩ := bn_e hf
        refine s_VV (As := []) (st := []) O lk_RX6_175 (k_X6_starts c9) rfl ms_0 rfl rfl ⟨rfl, rfl⟩ ⟨Nat.le_of_ble_eq_true rfl, Nat.le_of_ble_eq_true rfl⟩ rfl (Nat.le_of_ble_eq_true rfl) dX6_drift_35 ?_
        refine s_iconst (v := 0) O dX6_drift_38 rfl ?_
        refine s_istore (lv' := [(5, .int 0), (4, .int a1), (0, rf E 0), (1, .int a1), (2, .int a2), (3, .int a3)]) O dX6_drift_39 (by decide) rfl ?_
        refine s_loc [2, 4, 5, 1, 0] rfl ?_
        obtain ⟨s19, e20, c21, hf⟩ := bn_e hf
        refine lp_of (body := fun s v => fb_X6_drift_l41 a1 a2 a3 a2 a3 s v.1 v.2) (X := fun s v => WS mM E 7 41 [(0, rf E 0), (2, .int a2), (3, .int a3), (4, .int v.1), (5, .int v.2)] [] s) (Y := fun s e => WS mM E 7 99 [(0, rf E 0), (3, .int a3)] [] s) (fun s v s' w hb Kc Ke => wb_X6_drift_l41 (rr := rr) O   hret Kc Ke hb) FU _ _ (s19, e20) c21 ?_
        show WS mM E 7 99 [(0, rf E 0), (3, .int a3)] [] s19
        refine s_iload_n O 1 dX6_drift_99 rfl rfl ?_
        refine s_if_ne (tgt := 113) O dX6_drift_100 (by decide) (fun c => ?_) (fun c => ?_)
        · replace hf := if_f c hf
          refine s_aload_n O 0 dX6_drift_113 rfl rfl ?_
          refine s_getR O fg_RX6_13 ms_0 rfl dX6_drift_114 ?_
          refine s_bipush (v := 25) O dX6_drift_117 rfl ?_
          obtain ⟨h22, hf⟩ := gd_e hf
          refine s_iald O ms_2 h22 dX6_drift_119 ?_
          exact s_iret hret rfl dX6_drift_120 hf
        · replace hf := if_t c hf
          refine s_aload_n O 0 dX6_drift_103 rfl rfl ?_
          refine s_getR O fg_RX6_13 ms_0 rfl dX6_drift_104 ?_
          refine s_bipush (v := 24) O dX6_drift_107 rfl ?_
          obtain ⟨h23, hf⟩ := gd_e hf
          refine s_iald O ms_2 h23 dX6_drift_109 ?_
          refine s_goto (tgt := 120) O dX6_drift_110 (by decide) ?_
          exact s_iret hret rfl dX6_drift_120 hf
      · replace hf := if_t c hf
        refine s_bipush (v := (-2)) O dX6_drift_28 rfl ?_
        exact s_iret hret rfl dX6_drift_30 hf
    · replace hf := if_t c hf
      refine s_iconst (v := (-1)) O dX6_drift_19 rfl ?_
      exact s_iret hret rfl dX6_drift_20 hf
def rm_X6_copies : Room := { frames := 0, cells := 0, slots := 0, locals := 0 }
def fb_X6_copies_l2 (a1 : Int32) (a2 : Int32) (x1 : Int32) (x2 : Int32) (s0 : StA) (v3 : Int32) : Option (StA × ((Int32) ⊕ (Unit))) :=
  (if 63 ≤ v3 then some (s0, .inr ()) else gd (x2 + v3) 189 (gd (x1 + v3) 189 (nms (si s0 1 ((x1 + v3).toNatClampNeg) (gi s0 1 (x2 + v3).toNatClampNeg)) (fun s3 => some (s3, .inl (v3 + 1))))))
set_option maxHeartbeats 4000000 in
set_option maxRecDepth 100000 in
theorem wb_X6_copies_l2 {E : XC} (O : OK mM E RX6 cX6_copies 4 rm_X6_copies) {a1 : Int32} {a2 : Int32}  {x1 : Int32} {x2 : Int32} {s0 : StA} {v3 : Int32} {zs : StA} {rr : Unit} (hret : ReV mM E cX6_copies zs) {bs : StA} {bw : (Int32) ⊕ (Unit)} (Kc : ∀ v, bw = .inl v → WS mM E 4 2 [(0, rf E 0), (1, .int x1), (2, .int x2), (3, .int v)] [] bs) (Ke : ∀ e, bw = .inr e → WS mM E 4 30 [] [] bs) (hf : fb_X6_copies_l2 a1 a2 x1 x2 s0 v3 = some (bs, bw)) : WS mM E 4 2 [(0, rf E 0), (1, .int x1), (2, .int x2), (3, .int v3)] [] s0 := by
  unfold fb_X6_copies_l2 at hf
  refine s_iload_n O 3 dX6_copies_2 rfl rfl ?_
  refine s_bipush (v := 63) O dX6_copies_3 rfl ?_
  refine s_icmp_ge (tgt := 30) O dX6_copies_5 (by decide) (fun c => ?_) (fun c => ?_)
  · replace hf := if_t c hf
    refine s_loc [] rfl ?_
    cases hf
    exact Ke _ rfl
  · replace hf := if_f c hf
    refine s_aload_n O 0 dX6_copies_8 rfl rfl ?_
    refine s_getR O fg_RX6_7 ms_0 rfl dX6_copies_9 ?_
    refine s_iload_n O 1 dX6_copies_12 rfl rfl ?_
    refine s_iload_n O 3 dX6_copies_13 rfl rfl ?_
    refine s_iadd O dX6_copies_14 ?_
    refine s_aload_n O 0 dX6_copies_15 rfl rfl ?_
    refine s_getR O fg_RX6_7 ms_0 rfl dX6_copies_16 ?_
    refine s_iload_n O 2 dX6_copies_19 rfl rfl ?_
    refine s_iload_n O 3 dX6_copies_20 rfl rfl ?_
    refine s_iadd O dX6_copies_21 ?_
    obtain ⟨h1, hf⟩ := gd_e hf
    refine s_iald O ms_1 h1 dX6_copies_22 ?_
    obtain ⟨h2, hf⟩ := gd_e hf
    refine s_iast O ms_1 h2 dX6_copies_23 ?_
    refine s_tops (fun s3 es3 => ?_)
    replace hf := nms_e es3 hf
    refine s_iinc (v := (v3 + 1)) (lv' := [(3, .int (v3 + 1)), (0, rf E 0), (1, .int x1), (2, .int x2)]) O 3 dX6_copies_24 rfl rfl (by decide) rfl ?_
    refine s_goto (tgt := 2) O dX6_copies_27 (by decide) ?_
    refine s_loc [1, 2, 3, 0] rfl ?_
    cases hf
    exact Kc _ rfl
def fl_X6_copies_l2 (a1 : Int32) (a2 : Int32) (x1 : Int32) (x2 : Int32) (s0 : StA) (v : Int32) : Option (StA × ((Unit))) :=
  it (fun s v => fb_X6_copies_l2 a1 a2 x1 x2 s v) FU s0 v
def f_X6_copies (a1 : Int32) (a2 : Int32) (s0 : StA) : Option (StA × Unit) :=
  bn (fl_X6_copies_l2 a1 a2 a1 a2 s0 0) (fun s4 e5 => some (s4, ()))
set_option maxHeartbeats 4000000 in
set_option maxRecDepth 100000 in
theorem k_X6_copies {a1 : Int32} {a2 : Int32} {s0 zs : StA} {rr : Unit} (hf : f_X6_copies a1 a2 s0 = some (zs, rr)) : CtV mM yX6_copies cX6_copies 4 rm_X6_copies (fun ph => [.ref (ph 0), .int a1, .int a2]) s0 zs := by
  refine CtV.of (by decide +kernel) (fun ph => Nat.le_of_ble_eq_true rfl) (fun E O hret => ?_)
  have O : OK mM E RX6 cX6_copies 4 rm_X6_copies := O
  show WS mM E 4 0 [(0, rf E 0), (1, .int a1), (2, .int a2)] [] s0
  unfold f_X6_copies at hf
  refine s_iconst (v := 0) O dX6_copies_0 rfl ?_
  refine s_istore_n (lv' := [(3, .int 0), (0, rf E 0), (1, .int a1), (2, .int a2)]) O dX6_copies_1 rfl (by decide) rfl ?_
  refine s_loc [1, 2, 3, 0] rfl ?_
  obtain ⟨s4, e5, c6, hf⟩ := bn_e hf
  refine lp_of (body := fun s v => fb_X6_copies_l2 a1 a2 a1 a2 s v) (X := fun s v => WS mM E 4 2 [(0, rf E 0), (1, .int a1), (2, .int a2), (3, .int v)] [] s) (Y := fun s e => WS mM E 4 30 [] [] s) (fun s v s' w hb Kc Ke => wb_X6_copies_l2 (rr := rr) O   hret Kc Ke hb) FU _ _ (s4, e5) c6 ?_
  show WS mM E 4 30 [] [] s4
  exact s_vret hret dX6_copies_30 hf
def rm_X6_keep : Room := { frames := 1, cells := 0, slots := 0, locals := 25 }
def f_X6_keep (a1 : Int32) (s0 : StA) : Option (StA × Int32) :=
  bn (f_X6_in a1.toInt64 0 1 s0) (fun s1 r2 => (if r2 = 0 then some (s1, (-1)) else gd a1 2 (bn (f_X6_flag (gi s1 3 a1.toNatClampNeg) s1) (fun s5 r6 => gd a1 2 (nms (si s5 3 a1.toNatClampNeg 1) (fun s9 => bn (f_X6_copies (63 * (a1 + 1)) 0 s9) (fun s10 r11 => some (s10, r6))))))))
set_option maxHeartbeats 4000000 in
set_option maxRecDepth 100000 in
theorem k_X6_keep {a1 : Int32} {s0 zs : StA} {rr : Int32} (hf : f_X6_keep a1 s0 = some (zs, rr)) : CtI mM yX6_keep cX6_keep 3 .int rm_X6_keep (fun ph => [.ref (ph 0), .int a1]) s0 zs rr := by
  refine CtI.of (by decide +kernel) (fun ph => Nat.le_of_ble_eq_true rfl) (fun E O hret => ?_)
  have O : OK mM E RX6 cX6_keep 3 rm_X6_keep := O
  show WS mM E 3 0 [(0, rf E 0), (1, .int a1)] [] s0
  unfold f_X6_keep at hf
  refine s_iload_n O 1 dX6_keep_0 rfl rfl ?_
  refine s_i2l O dX6_keep_1 ?_
  refine s_lconst (v := 0) O dX6_keep_2 rfl ?_
  refine s_lconst (v := 1) O dX6_keep_3 rfl ?_
  obtain ⟨s1, r2, c3, hf⟩ := bn_e hf
  refine s_SI (As := [.long a1.toInt64, .long 0, .long 1]) (st := []) O lk_RX6_69 (k_X6_in c3) rfl rfl ⟨rfl, rfl⟩ ⟨Nat.le_of_ble_eq_true rfl, Nat.le_of_ble_eq_true rfl⟩ rfl (Nat.le_of_ble_eq_true rfl) dX6_keep_4 ?_
  refine s_if_ne (tgt := 12) O dX6_keep_7 (by decide) (fun c => ?_) (fun c => ?_)
  · replace hf := if_f c hf
    refine s_aload_n O 0 dX6_keep_12 rfl rfl ?_
    refine s_getR O fg_RX6_16 ms_0 rfl dX6_keep_13 ?_
    refine s_iload_n O 1 dX6_keep_16 rfl rfl ?_
    obtain ⟨h4, hf⟩ := gd_e hf
    refine s_zald O ms_3 h4 dX6_keep_17 ?_
    obtain ⟨s5, r6, c7, hf⟩ := bn_e hf
    refine s_SI (As := [.int (gi s1 3 a1.toNatClampNeg)]) (st := []) O lk_RX6_219 (k_X6_flag c7) rfl rfl ⟨rfl, rfl⟩ ⟨Nat.le_of_ble_eq_true rfl, Nat.le_of_ble_eq_true rfl⟩ rfl (Nat.le_of_ble_eq_true rfl) dX6_keep_18 ?_
    refine s_istore_n (lv' := [(2, .int r6), (0, rf E 0), (1, .int a1)]) O dX6_keep_21 rfl (by decide) rfl ?_
    refine s_aload_n O 1 dX6_keep_22 rfl rfl ?_
    refine s_getR O fg_RX6_16 ms_0 rfl dX6_keep_23 ?_
    refine s_iload_n O 2 dX6_keep_26 rfl rfl ?_
    refine s_iconst (v := 1) O dX6_keep_27 rfl ?_
    obtain ⟨h8, hf⟩ := gd_e hf
    refine s_zast O (Or.inr rfl) ms_3 h8 dX6_keep_28 ?_
    refine s_tops (fun s9 es9 => ?_)
    replace hf := nms_e es9 hf
    refine s_aload_n O 1 dX6_keep_29 rfl rfl ?_
    refine s_bipush (v := 63) O dX6_keep_30 rfl ?_
    refine s_iload_n O 2 dX6_keep_32 rfl rfl ?_
    refine s_iconst (v := 1) O dX6_keep_33 rfl ?_
    refine s_iadd O dX6_keep_34 ?_
    refine s_imul O dX6_keep_35 ?_
    refine s_iconst (v := 0) O dX6_keep_36 rfl ?_
    obtain ⟨s10, r11, c12, hf⟩ := bn_e hf
    refine s_VV (As := [.int (63 * (a1 + 1)), .int 0]) (st := []) O lk_RX6_295 (k_X6_copies c12) rfl ms_0 rfl rfl ⟨rfl, rfl⟩ ⟨Nat.le_of_ble_eq_true rfl, Nat.le_of_ble_eq_true rfl⟩ rfl (Nat.le_of_ble_eq_true rfl) dX6_keep_37 ?_
    refine s_iload_n O 0 dX6_keep_40 rfl rfl ?_
    exact s_iret hret rfl dX6_keep_41 hf
  · replace hf := if_t c hf
    refine s_iconst (v := (-1)) O dX6_keep_10 rfl ?_
    exact s_iret hret rfl dX6_keep_11 hf
def rm_X6_back : Room := { frames := 1, cells := 0, slots := 0, locals := 25 }
def f_X6_back (a1 : Int32) (s0 : StA) : Option (StA × Int32) :=
  bn (f_X6_in a1.toInt64 0 1 s0) (fun s1 r2 => (if r2 = 0 then some (s1, (-1)) else gd a1 2 ((if (gi s1 3 a1.toNatClampNeg) = 0 then some (s1, (-2)) else bn (f_X6_copies 0 (63 * (a1 + 1)) s1) (fun s5 r6 => gd 27 189 (some (s5, (gi s5 1 (27 : Int32).toNatClampNeg))))))))
set_option maxHeartbeats 4000000 in
set_option maxRecDepth 100000 in
theorem k_X6_back {a1 : Int32} {s0 zs : StA} {rr : Int32} (hf : f_X6_back a1 s0 = some (zs, rr)) : CtI mM yX6_back cX6_back 2 .int rm_X6_back (fun ph => [.ref (ph 0), .int a1]) s0 zs rr := by
  refine CtI.of (by decide +kernel) (fun ph => Nat.le_of_ble_eq_true rfl) (fun E O hret => ?_)
  have O : OK mM E RX6 cX6_back 2 rm_X6_back := O
  show WS mM E 2 0 [(0, rf E 0), (1, .int a1)] [] s0
  unfold f_X6_back at hf
  refine s_iload_n O 1 dX6_back_0 rfl rfl ?_
  refine s_i2l O dX6_back_1 ?_
  refine s_lconst (v := 0) O dX6_back_2 rfl ?_
  refine s_lconst (v := 1) O dX6_back_3 rfl ?_
  obtain ⟨s1, r2, c3, hf⟩ := bn_e hf
  refine s_SI (As := [.long a1.toInt64, .long 0, .long 1]) (st := []) O lk_RX6_69 (k_X6_in c3) rfl rfl ⟨rfl, rfl⟩ ⟨Nat.le_of_ble_eq_true rfl, Nat.le_of_ble_eq_true rfl⟩ rfl (Nat.le_of_ble_eq_true rfl) dX6_back_4 ?_
  refine s_if_ne (tgt := 12) O dX6_back_7 (by decide) (fun c => ?_) (fun c => ?_)
  · replace hf := if_f c hf
    refine s_aload_n O 0 dX6_back_12 rfl rfl ?_
    refine s_getR O fg_RX6_16 ms_0 rfl dX6_back_13 ?_
    refine s_iload_n O 1 dX6_back_16 rfl rfl ?_
    obtain ⟨h4, hf⟩ := gd_e hf
    refine s_zald O ms_3 h4 dX6_back_17 ?_
    refine s_if_ne (tgt := 24) O dX6_back_18 (by decide) (fun c => ?_) (fun c => ?_)
    · replace hf := if_f c hf
      refine s_aload_n O 0 dX6_back_24 rfl rfl ?_
      refine s_iconst (v := 0) O dX6_back_25 rfl ?_
      refine s_bipush (v := 63) O dX6_back_26 rfl ?_
      refine s_iload_n O 1 dX6_back_28 rfl rfl ?_
      refine s_iconst (v := 1) O dX6_back_29 rfl ?_
      refine s_iadd O dX6_back_30 ?_
      refine s_imul O dX6_back_31 ?_
      obtain ⟨s5, r6, c7, hf⟩ := bn_e hf
      refine s_VV (As := [.int 0, .int (63 * (a1 + 1))]) (st := []) O lk_RX6_295 (k_X6_copies c7) rfl ms_0 rfl rfl ⟨rfl, rfl⟩ ⟨Nat.le_of_ble_eq_true rfl, Nat.le_of_ble_eq_true rfl⟩ rfl (Nat.le_of_ble_eq_true rfl) dX6_back_32 ?_
      refine s_aload_n O 0 dX6_back_35 rfl rfl ?_
      refine s_getR O fg_RX6_7 ms_0 rfl dX6_back_36 ?_
      refine s_bipush (v := 27) O dX6_back_39 rfl ?_
      obtain ⟨h8, hf⟩ := gd_e hf
      refine s_iald O ms_1 h8 dX6_back_41 ?_
      exact s_iret hret rfl dX6_back_42 hf
    · replace hf := if_t c hf
      refine s_bipush (v := (-2)) O dX6_back_21 rfl ?_
      exact s_iret hret rfl dX6_back_23 hf
  · replace hf := if_t c hf
    refine s_iconst (v := (-1)) O dX6_back_10 rfl ?_
    exact s_iret hret rfl dX6_back_11 hf
