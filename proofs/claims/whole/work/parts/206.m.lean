def rm_X1_goesAsSeen : Room := { frames := 4, cells := 0, slots := 0, locals := 86 }
def fb_X1_goesAsSeen_l2 (k : Nat)  (s0 : StA) (v1 : Int32) : Option (StA × ((Int32) ⊕ ((Unit) ⊕ Int32))) :=
  (if 30 < v1 then some (s0, .inr (.inl ())) else bn (f_X1_isAsSeenBehind k v1 s0) (fun s1 r2 => (if r2 = 0 then some (s1, .inr (.inr 0)) else bn (f_X1_pass k s1) (fun s4 r5 => some (s4, .inl (v1 + 1))))))
set_option maxHeartbeats 4000000 in
set_option maxRecDepth 100000 in
theorem wb_X1_goesAsSeen_l2 {E : XC} (O : OK cM E RX1 cX1_goesAsSeen 2 rm_X1_goesAsSeen) {k : Nat} (hk : isFl k)   {s0 : StA} {v1 : Int32} {zs : StA} {rr : Int32} (hret : ReI cM E .boolean cX1_goesAsSeen zs rr) {bs : StA} {bw : (Int32) ⊕ ((Unit) ⊕ Int32)} (Kc : ∀ v, bw = .inl v → WS cM E 2 2 [(0, rf E k), (1, .int v)] [] bs) (Ke : ∀ e, bw = .inr (.inl e) → WS cM E 2 28 [] [] bs) (Kr : ∀ r, bw = .inr (.inr r) → some (bs, r) = some (zs, rr)) (hf : fb_X1_goesAsSeen_l2 k s0 v1 = some (bs, bw)) : WS cM E 2 2 [(0, rf E k), (1, .int v1)] [] s0 := by
  unfold fb_X1_goesAsSeen_l2 at hf
  refine s_iload_n O 1 dX1_goesAsSeen_2 rfl rfl ?_
  refine s_bipush (v := 30) O dX1_goesAsSeen_3 rfl ?_
  refine s_icmp_gt (tgt := 28) O dX1_goesAsSeen_5 (by decide) (fun c => ?_) (fun c => ?_)
  · replace hf := if_t c hf
    refine s_loc [] rfl ?_
    cases hf
    exact Ke _ rfl
  · replace hf := if_f c hf
    refine s_aload_n O 0 dX1_goesAsSeen_8 rfl rfl ?_
    refine s_iload_n O 1 dX1_goesAsSeen_9 rfl rfl ?_
    obtain ⟨s1, r2, c3, hf⟩ := bn_e hf
    refine s_VI (As := [.int v1]) (st := []) O lk_RX1_120 (k_X1_isAsSeenBehind hk c3) rfl (fl_0 hk) rfl rfl ⟨rfl, rfl⟩ ⟨Nat.le_of_ble_eq_true rfl, Nat.le_of_ble_eq_true rfl⟩ rfl (Nat.le_of_ble_eq_true rfl) dX1_goesAsSeen_10 ?_
    refine s_if_ne (tgt := 18) O dX1_goesAsSeen_13 (by decide) (fun c => ?_) (fun c => ?_)
    · replace hf := if_f c hf
      refine s_aload_n O 0 dX1_goesAsSeen_18 rfl rfl ?_
      obtain ⟨s4, r5, c6, hf⟩ := bn_e hf
      refine s_VV (As := []) (st := []) O lk_RX1_113 (k_X1_pass hk c6) rfl (fl_0 hk) rfl rfl ⟨rfl, rfl⟩ ⟨Nat.le_of_ble_eq_true rfl, Nat.le_of_ble_eq_true rfl⟩ rfl (Nat.le_of_ble_eq_true rfl) dX1_goesAsSeen_19 ?_
      refine s_iinc (v := (v1 + 1)) (lv' := [(1, .int (v1 + 1)), (0, rf E k)]) O 1 dX1_goesAsSeen_22 rfl rfl (by decide) rfl ?_
      refine s_goto (tgt := 2) O dX1_goesAsSeen_25 (by decide) ?_
      refine s_loc [1, 0] rfl ?_
      cases hf
      exact Kc _ rfl
    · replace hf := if_t c hf
      refine s_iconst (v := 0) O dX1_goesAsSeen_16 rfl ?_
      cases hf
      exact s_iret hret rfl dX1_goesAsSeen_17 (Kr _ rfl)
def fl_X1_goesAsSeen_l2 (k : Nat)  (s0 : StA) (v : Int32) : Option (StA × (((Unit) ⊕ Int32))) :=
  it (fun s v => fb_X1_goesAsSeen_l2 k s v) FU s0 v
def f_X1_goesAsSeen (k : Nat) (s0 : StA) : Option (StA × Int32) :=
  bn (fl_X1_goesAsSeen_l2 k s0 0) (fun s7 e8 => match e8 with | .inl _ => some (s7, 1) | .inr q2 => some (s7, q2))
set_option maxHeartbeats 4000000 in
set_option maxRecDepth 100000 in
theorem k_X1_goesAsSeen {k : Nat} (hk : isFl k) {s0 zs : StA} {rr : Int32} (hf : f_X1_goesAsSeen k s0 = some (zs, rr)) : CtI cM yX1_goesAsSeen cX1_goesAsSeen 2 .boolean rm_X1_goesAsSeen (fun ph => [.ref (ph k)]) s0 zs rr := by
  refine CtI.of (by decide +kernel) (fun ph => Nat.le_of_ble_eq_true rfl) (fun E O hret => ?_)
  have O : OK cM E RX1 cX1_goesAsSeen 2 rm_X1_goesAsSeen := O
  show WS cM E 2 0 [(0, rf E k)] [] s0
  unfold f_X1_goesAsSeen at hf
  refine s_iconst (v := 0) O dX1_goesAsSeen_0 rfl ?_
  refine s_istore_n (lv' := [(1, .int 0), (0, rf E k)]) O dX1_goesAsSeen_1 rfl (by decide) rfl ?_
  refine s_loc [1, 0] rfl ?_
  obtain ⟨s7, e8, c9, hf⟩ := bn_e hf
  refine lp_of (body := fun s v => fb_X1_goesAsSeen_l2 k s v) (X := fun s v => WS cM E 2 2 [(0, rf E k), (1, .int v)] [] s) (Y := fun s e => match e with | .inl e => WS cM E 2 28 [] [] s | .inr r => some (s, r) = some (zs, rr)) (fun s v s' w hb Kc Ke => wb_X1_goesAsSeen_l2 (rr := rr) O hk  hret Kc (fun e he => Ke (.inl e) he) (fun r he => Ke (.inr r) he) hb) FU _ _ (s7, e8) c9 ?_
  rcases e8 with e8 | q2
  · show WS cM E 2 28 [] [] s7
    refine s_iconst (v := 1) O dX1_goesAsSeen_28 rfl ?_
    exact s_iret hret rfl dX1_goesAsSeen_29 hf
  · exact hf
def rm_X5_valuesAsSeen : Room := { frames := 5, cells := 0, slots := 0, locals := 107 }
def fb_X5_valuesAsSeen_l8 (a1 : Int32) (a2 : Int32) (x1 : Int32) (x2 : Int32) (s0 : StA) (v3 : Int32) (v4 : Int32) : Option (StA × ((Int32 × Int32) ⊕ (Int32))) :=
  bn (f_X5_greatestOf x2 s0) (fun s4 r5 => (if r5 < v4 then some (s4, .inr v3) else bn (f_X5_restartTrial  s4) (fun s7 r8 => bn (f_X1_rowOf 12 x2 s7) (fun s10 r11 => gr r11 6 (gd x1 6 (nms (si s10 r11 x1.toNatClampNeg v4) (fun s15 => bn (f_X1_goesAsSeen 12 s15) (fun s16 r17 => (if r17 = 0 then some (s16, .inl (v3, (v4 + 1))) else nmi (v3 ||| (1 <<< (v4 &&& 31))) (fun n19 => some (s16, .inl (n19, (v4 + 1)))))))))))))
set_option maxHeartbeats 4000000 in
set_option maxRecDepth 100000 in
theorem wb_X5_valuesAsSeen_l8 {E : XC} (O : OK cM E RX5 cX5_valuesAsSeen 5 rm_X5_valuesAsSeen) {a1 : Int32} {a2 : Int32}  {x1 : Int32} {x2 : Int32} {s0 : StA} {v3 : Int32} {v4 : Int32} {zs : StA} {rr : Int32} (hret : ReI cM E .int cX5_valuesAsSeen zs rr) {bs : StA} {bw : (Int32 × Int32) ⊕ (Int32)} (Kc : ∀ v, bw = .inl v → WS cM E 5 8 [(0, rf E 0), (1, .int x1), (2, .int x2), (3, .int v.1), (4, .int v.2)] [] bs) (Ke : ∀ e, bw = .inr e → WS cM E 5 56 [(3, .int e)] [] bs) (hf : fb_X5_valuesAsSeen_l8 a1 a2 x1 x2 s0 v3 v4 = some (bs, bw)) : WS cM E 5 8 [(0, rf E 0), (1, .int x1), (2, .int x2), (3, .int v3), (4, .int v4)] [] s0 := by
  unfold fb_X5_valuesAsSeen_l8 at hf
  refine s_iload O 4 dX5_valuesAsSeen_8 rfl ?_
  refine s_iload_n O 2 dX5_valuesAsSeen_10 rfl rfl ?_
  obtain ⟨s4, r5, c6, hf⟩ := bn_e hf
  refine s_SI (As := [.int x2]) (st := [.int v4]) O lk_RX5_148 (k_X5_greatestOf c6) rfl rfl ⟨rfl, rfl⟩ ⟨Nat.le_of_ble_eq_true rfl, Nat.le_of_ble_eq_true rfl⟩ rfl (Nat.le_of_ble_eq_true rfl) dX5_valuesAsSeen_11 ?_
  refine s_icmp_gt (tgt := 56) O dX5_valuesAsSeen_14 (by decide) (fun c => ?_) (fun c => ?_)
  · replace hf := if_t c hf
    refine s_loc [3] rfl ?_
    cases hf
    exact Ke _ rfl
  · replace hf := if_f c hf
    refine s_aload_n O 0 dX5_valuesAsSeen_17 rfl rfl ?_
    obtain ⟨s7, r8, c9, hf⟩ := bn_e hf
    refine s_VV (As := []) (st := []) O lk_RX5_171 (k_X5_restartTrial c9) rfl cs_0 rfl rfl ⟨rfl, rfl⟩ ⟨Nat.le_of_ble_eq_true rfl, Nat.le_of_ble_eq_true rfl⟩ rfl (Nat.le_of_ble_eq_true rfl) dX5_valuesAsSeen_18 ?_
    refine s_aload_n O 0 dX5_valuesAsSeen_21 rfl rfl ?_
    refine s_getR O fg_RX5_16 cs_0 rfl dX5_valuesAsSeen_22 ?_
    refine s_iload_n O 2 dX5_valuesAsSeen_25 rfl rfl ?_
    obtain ⟨s10, r11, c12, hf⟩ := bn_e hf
    refine s_VR (As := [.int x2]) (st := []) O lk_RX5_151 (k_X1_rowOf fl_is12 c12) rfl cs_12 rfl rfl ⟨rfl, rfl⟩ ⟨Nat.le_of_ble_eq_true rfl, Nat.le_of_ble_eq_true rfl⟩ rfl (Nat.le_of_ble_eq_true rfl) dX5_valuesAsSeen_26 ?_
    obtain ⟨h13, hf⟩ := gr_e hf
    refine s_iload_n O 1 dX5_valuesAsSeen_29 rfl rfl ?_
    refine s_iload O 4 dX5_valuesAsSeen_30 rfl ?_
    obtain ⟨h14, hf⟩ := gd_e hf
    refine s_iast O h13 h14 dX5_valuesAsSeen_32 ?_
    refine s_tops (fun s15 es15 => ?_)
    replace hf := nms_e es15 hf
    refine s_aload_n O 0 dX5_valuesAsSeen_33 rfl rfl ?_
    refine s_getR O fg_RX5_16 cs_0 rfl dX5_valuesAsSeen_34 ?_
    obtain ⟨s16, r17, c18, hf⟩ := bn_e hf
    refine s_VI (As := []) (st := []) O lk_RX5_242 (k_X1_goesAsSeen fl_is12 c18) rfl cs_12 rfl rfl ⟨rfl, rfl⟩ ⟨Nat.le_of_ble_eq_true rfl, Nat.le_of_ble_eq_true rfl⟩ rfl (Nat.le_of_ble_eq_true rfl) dX5_valuesAsSeen_37 ?_
    refine s_if_eq (tgt := 50) O dX5_valuesAsSeen_40 (by decide) (fun c => ?_) (fun c => ?_)
    · replace hf := if_t c hf
      refine s_iinc (v := (v4 + 1)) (lv' := [(4, .int (v4 + 1)), (0, rf E 0), (1, .int x1), (2, .int x2), (3, .int v3)]) O 4 dX5_valuesAsSeen_50 rfl rfl (by decide) rfl ?_
      refine s_goto (tgt := 8) O dX5_valuesAsSeen_53 (by decide) ?_
      refine s_loc [1, 2, 3, 4, 0] rfl ?_
      cases hf
      exact Kc _ rfl
    · replace hf := if_f c hf
      refine s_iload_n O 3 dX5_valuesAsSeen_43 rfl rfl ?_
      refine s_iconst (v := 1) O dX5_valuesAsSeen_44 rfl ?_
      refine s_iload O 4 dX5_valuesAsSeen_45 rfl ?_
      refine s_ishl O dX5_valuesAsSeen_47 ?_
      refine s_ior O dX5_valuesAsSeen_48 ?_
      refine s_topi (fun n19 en19 => ?_)
      replace hf := nmi_e en19 hf
      refine s_istore_n (lv' := [(3, .int n19), (0, rf E 0), (1, .int x1), (2, .int x2), (4, .int v4)]) O dX5_valuesAsSeen_49 rfl (by decide) rfl ?_
      refine s_iinc (v := (v4 + 1)) (lv' := [(4, .int (v4 + 1)), (3, .int n19), (0, rf E 0), (1, .int x1), (2, .int x2)]) O 4 dX5_valuesAsSeen_50 rfl rfl (by decide) rfl ?_
      refine s_goto (tgt := 8) O dX5_valuesAsSeen_53 (by decide) ?_
      refine s_loc [2, 3, 4, 1, 0] rfl ?_
      cases hf
      exact Kc _ rfl
def fl_X5_valuesAsSeen_l8 (a1 : Int32) (a2 : Int32) (x1 : Int32) (x2 : Int32) (s0 : StA) (v : Int32 × Int32) : Option (StA × ((Int32))) :=
  it (fun s v => fb_X5_valuesAsSeen_l8 a1 a2 x1 x2 s v.1 v.2) FU s0 v
def f_X5_valuesAsSeen (a1 : Int32) (a2 : Int32) (s0 : StA) : Option (StA × Int32) :=
  bn (f_X5_leastOf a2 s0) (fun s1 r2 => bn (fl_X5_valuesAsSeen_l8 a1 a2 a1 a2 s1 (0, r2)) (fun s20 u8_3 => some (s20, u8_3)))
set_option maxHeartbeats 4000000 in
set_option maxRecDepth 100000 in
theorem k_X5_valuesAsSeen {a1 : Int32} {a2 : Int32} {s0 zs : StA} {rr : Int32} (hf : f_X5_valuesAsSeen a1 a2 s0 = some (zs, rr)) : CtI cM yX5_valuesAsSeen cX5_valuesAsSeen 5 .int rm_X5_valuesAsSeen (fun ph => [.ref (ph 0), .int a1, .int a2]) s0 zs rr := by
  refine CtI.of (by decide +kernel) (fun ph => Nat.le_of_ble_eq_true rfl) (fun E O hret => ?_)
  have O : OK cM E RX5 cX5_valuesAsSeen 5 rm_X5_valuesAsSeen := O
  show WS cM E 5 0 [(0, rf E 0), (1, .int a1), (2, .int a2)] [] s0
  unfold f_X5_valuesAsSeen at hf
  refine s_iconst (v := 0) O dX5_valuesAsSeen_0 rfl ?_
  refine s_istore_n (lv' := [(3, .int 0), (0, rf E 0), (1, .int a1), (2, .int a2)]) O dX5_valuesAsSeen_1 rfl (by decide) rfl ?_
  refine s_iload_n O 3 dX5_valuesAsSeen_2 rfl rfl ?_
  obtain ⟨s1, r2, c3, hf⟩ := bn_e hf
  refine s_SI (As := [.int a2]) (st := []) O lk_RX5_145 (k_X5_leastOf c3) rfl rfl ⟨rfl, rfl⟩ ⟨Nat.le_of_ble_eq_true rfl, Nat.le_of_ble_eq_true rfl⟩ rfl (Nat.le_of_ble_eq_true rfl) dX5_valuesAsSeen_3 ?_
  refine s_istore (lv' := [(4, .int r2), (3, .int 0), (0, rf E 0), (1, .int a1), (2, .int a2)]) O dX5_valuesAsSeen_6 (by decide) rfl ?_
  refine s_loc [2, 3, 4, 1, 0] rfl ?_
  obtain ⟨s20, u8_3, c22, hf⟩ := bn_e hf
  refine lp_of (body := fun s v => fb_X5_valuesAsSeen_l8 a1 a2 a1 a2 s v.1 v.2) (X := fun s v => WS cM E 5 8 [(0, rf E 0), (1, .int a1), (2, .int a2), (3, .int v.1), (4, .int v.2)] [] s) (Y := fun s e => WS cM E 5 56 [(3, .int e)] [] s) (fun s v s' w hb Kc Ke => wb_X5_valuesAsSeen_l8 (rr := rr) O   hret Kc Ke hb) FU _ _ (s20, u8_3) c22 ?_
  show WS cM E 5 56 [(3, .int u8_3)] [] s20
  refine s_iload_n O 0 dX5_valuesAsSeen_56 rfl rfl ?_
  exact s_iret hret rfl dX5_valuesAsSeen_57 hf
def rm_X5_kinds : Room := { frames := 6, cells := 0, slots := 0, locals := 131 }
def f_X5_kinds (a1 : Int32) (s0 : StA) : Option (StA × Int32) :=
  bn (f_X1_hasThing 1 a1 s0) (fun s1 r2 => (if r2 = 0 then some (s1, (-1)) else bn (f_X5_valuesAsSeen a1 0 s1) (fun s4 r5 => some (s4, r5))))
set_option maxHeartbeats 4000000 in
set_option maxRecDepth 100000 in
theorem k_X5_kinds {a1 : Int32} {s0 zs : StA} {rr : Int32} (hf : f_X5_kinds a1 s0 = some (zs, rr)) : CtI cM yX5_kinds cX5_kinds 2 .int rm_X5_kinds (fun ph => [.ref (ph 0), .int a1]) s0 zs rr := by
  refine CtI.of (by decide +kernel) (fun ph => Nat.le_of_ble_eq_true rfl) (fun E O hret => ?_)
  have O : OK cM E RX5 cX5_kinds 2 rm_X5_kinds := O
  show WS cM E 2 0 [(0, rf E 0), (1, .int a1)] [] s0
  unfold f_X5_kinds at hf
  refine s_aload_n O 0 dX5_kinds_0 rfl rfl ?_
  refine s_getR O fg_RX5_10 cs_0 rfl dX5_kinds_1 ?_
  refine s_iload_n O 1 dX5_kinds_4 rfl rfl ?_
  obtain ⟨s1, r2, c3, hf⟩ := bn_e hf
  refine s_VI (As := [.int a1]) (st := []) O lk_RX5_114 (k_X1_hasThing fl_is1 c3) rfl cs_1 rfl rfl ⟨rfl, rfl⟩ ⟨Nat.le_of_ble_eq_true rfl, Nat.le_of_ble_eq_true rfl⟩ rfl (Nat.le_of_ble_eq_true rfl) dX5_kinds_5 ?_
  refine s_if_eq (tgt := 20) O dX5_kinds_8 (by decide) (fun c => ?_) (fun c => ?_)
  · replace hf := if_t c hf
    refine s_iconst (v := (-1)) O dX5_kinds_20 rfl ?_
    exact s_iret hret rfl dX5_kinds_21 hf
  · replace hf := if_f c hf
    refine s_aload_n O 0 dX5_kinds_11 rfl rfl ?_
    refine s_iload_n O 1 dX5_kinds_12 rfl rfl ?_
    refine s_iconst (v := 0) O dX5_kinds_13 rfl ?_
    obtain ⟨s4, r5, c6, hf⟩ := bn_e hf
    refine s_VI (As := [.int a1, .int 0]) (st := []) O lk_RX5_239 (k_X5_valuesAsSeen c6) rfl cs_0 rfl rfl ⟨rfl, rfl⟩ ⟨Nat.le_of_ble_eq_true rfl, Nat.le_of_ble_eq_true rfl⟩ rfl (Nat.le_of_ble_eq_true rfl) dX5_kinds_14 ?_
    refine s_goto (tgt := 21) O dX5_kinds_17 (by decide) ?_
    exact s_iret hret rfl dX5_kinds_21 hf
def rm_X5_weights : Room := { frames := 6, cells := 0, slots := 0, locals := 131 }
def f_X5_weights (a1 : Int32) (s0 : StA) : Option (StA × Int32) :=
  bn (f_X1_hasThing 1 a1 s0) (fun s1 r2 => (if r2 = 0 then some (s1, (-1)) else bn (f_X5_valuesAsSeen a1 1 s1) (fun s4 r5 => some (s4, r5))))
set_option maxHeartbeats 4000000 in
set_option maxRecDepth 100000 in
theorem k_X5_weights {a1 : Int32} {s0 zs : StA} {rr : Int32} (hf : f_X5_weights a1 s0 = some (zs, rr)) : CtI cM yX5_weights cX5_weights 2 .int rm_X5_weights (fun ph => [.ref (ph 0), .int a1]) s0 zs rr := by
  refine CtI.of (by decide +kernel) (fun ph => Nat.le_of_ble_eq_true rfl) (fun E O hret => ?_)
  have O : OK cM E RX5 cX5_weights 2 rm_X5_weights := O
  show WS cM E 2 0 [(0, rf E 0), (1, .int a1)] [] s0
  unfold f_X5_weights at hf
  refine s_aload_n O 0 dX5_weights_0 rfl rfl ?_
  refine s_getR O fg_RX5_10 cs_0 rfl dX5_weights_1 ?_
  refine s_iload_n O 1 dX5_weights_4 rfl rfl ?_
  obtain ⟨s1, r2, c3, hf⟩ := bn_e hf
  refine s_VI (As := [.int a1]) (st := []) O lk_RX5_114 (k_X1_hasThing fl_is1 c3) rfl cs_1 rfl rfl ⟨rfl, rfl⟩ ⟨Nat.le_of_ble_eq_true rfl, Nat.le_of_ble_eq_true rfl⟩ rfl (Nat.le_of_ble_eq_true rfl) dX5_weights_5 ?_
  refine s_if_eq (tgt := 20) O dX5_weights_8 (by decide) (fun c => ?_) (fun c => ?_)
  · replace hf := if_t c hf
    refine s_iconst (v := (-1)) O dX5_weights_20 rfl ?_
    exact s_iret hret rfl dX5_weights_21 hf
  · replace hf := if_f c hf
    refine s_aload_n O 0 dX5_weights_11 rfl rfl ?_
    refine s_iload_n O 1 dX5_weights_12 rfl rfl ?_
    refine s_iconst (v := 1) O dX5_weights_13 rfl ?_
    obtain ⟨s4, r5, c6, hf⟩ := bn_e hf
    refine s_VI (As := [.int a1, .int 1]) (st := []) O lk_RX5_239 (k_X5_valuesAsSeen c6) rfl cs_0 rfl rfl ⟨rfl, rfl⟩ ⟨Nat.le_of_ble_eq_true rfl, Nat.le_of_ble_eq_true rfl⟩ rfl (Nat.le_of_ble_eq_true rfl) dX5_weights_14 ?_
    refine s_goto (tgt := 21) O dX5_weights_17 (by decide) ?_
    exact s_iret hret rfl dX5_weights_21 hf
def rm_X5_saids : Room := { frames := 5, cells := 0, slots := 0, locals := 107 }
def fb_X5_saids_l19 (a1 : Int32) (x1 : Int32) (s0 : StA) (v2 : Int32) (v3 : Int32) (v4 : Int32) : Option (StA × ((Int32 × Int32 × Int32) ⊕ (Int32 × Int32))) :=
  (if (1 <<< ((gi s0 1 6) &&& 31)) ≤ v4 then some (s0, .inr (v2, v3)) else bn (f_X5_restartTrial  s0) (fun s4 r5 => nms (si s4 12 7 v4) (fun s7 => bn (f_X1_goesAsSeen 12 s7) (fun s8 r9 => (if r9 = 0 then some (s8, .inl (v2, v3, (v4 + 1))) else (if v2 = 0 then some (s8, .inl ((v2 + 1), v4, (v4 + 1))) else some (s8, .inl ((v2 + 1), v3, (v4 + 1)))))))))
set_option maxHeartbeats 4000000 in
set_option maxRecDepth 100000 in
theorem wb_X5_saids_l19 {E : XC} (O : OK cM E RX5 cX5_saids 5 rm_X5_saids) {a1 : Int32}  {x1 : Int32} {s0 : StA} {v2 : Int32} {v3 : Int32} {v4 : Int32} {zs : StA} {rr : Int32} (hret : ReI cM E .int cX5_saids zs rr) {bs : StA} {bw : (Int32 × Int32 × Int32) ⊕ (Int32 × Int32)} (Kc : ∀ v, bw = .inl v → WS cM E 5 19 [(0, rf E 0), (1, .int x1), (2, .int v.1), (3, .int v.2.1), (4, .int v.2.2)] [] bs) (Ke : ∀ e, bw = .inr e → WS cM E 5 76 [(1, .int x1), (2, .int e.1), (3, .int e.2)] [] bs) (hf : fb_X5_saids_l19 a1 x1 s0 v2 v3 v4 = some (bs, bw)) : WS cM E 5 19 [(0, rf E 0), (1, .int x1), (2, .int v2), (3, .int v3), (4, .int v4)] [] s0 := by
  unfold fb_X5_saids_l19 at hf
  refine s_iload O 4 dX5_saids_19 rfl ?_
  refine s_iconst (v := 1) O dX5_saids_21 rfl ?_
  refine s_aload_n O 0 dX5_saids_22 rfl rfl ?_
  refine s_getR O fg_RX5_10 cs_0 rfl dX5_saids_23 ?_
  refine s_getI O fg_RX5_83 cs_1 rfl dX5_saids_26 ?_
  refine s_ishl O dX5_saids_29 ?_
  refine s_icmp_ge (tgt := 76) O dX5_saids_30 (by decide) (fun c => ?_) (fun c => ?_)
  · replace hf := if_t c hf
    refine s_loc [1, 2, 3] rfl ?_
    cases hf
    exact Ke _ rfl
  · replace hf := if_f c hf
    refine s_aload_n O 0 dX5_saids_33 rfl rfl ?_
    obtain ⟨s4, r5, c6, hf⟩ := bn_e hf
    refine s_VV (As := []) (st := []) O lk_RX5_171 (k_X5_restartTrial c6) rfl cs_0 rfl rfl ⟨rfl, rfl⟩ ⟨Nat.le_of_ble_eq_true rfl, Nat.le_of_ble_eq_true rfl⟩ rfl (Nat.le_of_ble_eq_true rfl) dX5_saids_34 ?_
    refine s_aload_n O 0 dX5_saids_37 rfl rfl ?_
    refine s_getR O fg_RX5_16 cs_0 rfl dX5_saids_38 ?_
    refine s_iload O 4 dX5_saids_41 rfl ?_
    refine s_putI O fp_RX5_99 cs_12 rfl dX5_saids_43 ?_
    refine s_tops (fun s7 es7 => ?_)
    replace hf := nms_e es7 hf
    refine s_aload_n O 0 dX5_saids_46 rfl rfl ?_
    refine s_getR O fg_RX5_16 cs_0 rfl dX5_saids_47 ?_
    obtain ⟨s8, r9, c10, hf⟩ := bn_e hf
    refine s_VI (As := []) (st := []) O lk_RX5_242 (k_X1_goesAsSeen fl_is12 c10) rfl cs_12 rfl rfl ⟨rfl, rfl⟩ ⟨Nat.le_of_ble_eq_true rfl, Nat.le_of_ble_eq_true rfl⟩ rfl (Nat.le_of_ble_eq_true rfl) dX5_saids_50 ?_
    refine s_if_eq (tgt := 70) O dX5_saids_53 (by decide) (fun c => ?_) (fun c => ?_)
    · replace hf := if_t c hf
      refine s_iinc (v := (v4 + 1)) (lv' := [(4, .int (v4 + 1)), (0, rf E 0), (1, .int x1), (2, .int v2), (3, .int v3)]) O 4 dX5_saids_70 rfl rfl (by decide) rfl ?_
      refine s_goto (tgt := 19) O dX5_saids_73 (by decide) ?_
      refine s_loc [1, 2, 3, 4, 0] rfl ?_
      cases hf
      exact Kc _ rfl
    · replace hf := if_f c hf
      refine s_iload_n O 2 dX5_saids_56 rfl rfl ?_
      refine s_if_ne (tgt := 65) O dX5_saids_57 (by decide) (fun c => ?_) (fun c => ?_)
      · replace hf := if_f c hf
        refine s_iload_n O 3 dX5_saids_65 rfl rfl ?_
        refine s_istore_n (lv' := [(3, .int v3), (0, rf E 0), (1, .int x1), (2, .int v2), (4, .int v4)]) O dX5_saids_66 rfl (by decide) rfl ?_
        refine s_iinc (v := (v2 + 1)) (lv' := [(2, .int (v2 + 1)), (3, .int v3), (0, rf E 0), (1, .int x1), (4, .int v4)]) O 3 dX5_saids_67 rfl rfl (by decide) rfl ?_
        refine s_iinc (v := (v4 + 1)) (lv' := [(4, .int (v4 + 1)), (2, .int (v2 + 1)), (3, .int v3), (0, rf E 0), (1, .int x1)]) O 4 dX5_saids_70 rfl rfl (by decide) rfl ?_
        refine s_goto (tgt := 19) O dX5_saids_73 (by decide) ?_
        refine s_loc [3, 4, 1, 2, 0] rfl ?_
        cases hf
        exact Kc _ rfl
      · replace hf := if_t c hf
        refine s_iload O 4 dX5_saids_60 rfl ?_
        refine s_goto (tgt := 66) O dX5_saids_62 (by decide) ?_
        refine s_istore_n (lv' := [(3, .int v4), (0, rf E 0), (1, .int x1), (2, .int v2), (4, .int v4)]) O dX5_saids_66 rfl (by decide) rfl ?_
        refine s_iinc (v := (v2 + 1)) (lv' := [(2, .int (v2 + 1)), (3, .int v4), (0, rf E 0), (1, .int x1), (4, .int v4)]) O 3 dX5_saids_67 rfl rfl (by decide) rfl ?_
        refine s_iinc (v := (v4 + 1)) (lv' := [(4, .int (v4 + 1)), (2, .int (v2 + 1)), (3, .int v4), (0, rf E 0), (1, .int x1)]) O 4 dX5_saids_70 rfl rfl (by decide) rfl ?_
        refine s_goto (tgt := 19) O dX5_saids_73 (by decide) ?_
        refine s_loc [3, 4, 1, 2, 0] rfl ?_
        cases hf
        exact Kc _ rfl
def fl_X5_saids_l19 (a1 : Int32) (x1 : Int32) (s0 : StA) (v : Int32 × Int32 × Int32) : Option (StA × ((Int32 × Int32))) :=
  it (fun s v => fb_X5_saids_l19 a1 x1 s v.1 v.2.1 v.2.2) FU s0 v
def f_X5_saids (a1 : Int32) (s0 : StA) : Option (StA × Int32) :=
  bn (f_X5_isIn a1 0 1 s0) (fun s1 r2 => (if r2 = 0 then some (s1, (-1)) else bn (fl_X5_saids_l19 a1 a1 s1 (0, (-4), 0)) (fun s11 e12 => match e12 with | (u19_2, u19_3) => (if a1 = 0 then some (s11, u19_2) else some (s11, u19_3)))))
set_option maxHeartbeats 4000000 in
set_option maxRecDepth 100000 in
theorem k_X5_saids {a1 : Int32} {s0 zs : StA} {rr : Int32} (hf : f_X5_saids a1 s0 = some (zs, rr)) : CtI cM yX5_saids cX5_saids 5 .int rm_X5_saids (fun ph => [.ref (ph 0), .int a1]) s0 zs rr := by
  refine CtI.of (by decide +kernel) (fun ph => Nat.le_of_ble_eq_true rfl) (fun E O hret => ?_)
  have O : OK cM E RX5 cX5_saids 5 rm_X5_saids := O
  show WS cM E 5 0 [(0, rf E 0), (1, .int a1)] [] s0
  unfold f_X5_saids at hf
  refine s_iload_n O 1 dX5_saids_0 rfl rfl ?_
  refine s_iconst (v := 0) O dX5_saids_1 rfl ?_
  refine s_iconst (v := 1) O dX5_saids_2 rfl ?_
  obtain ⟨s1, r2, c3, hf⟩ := bn_e hf
  refine s_SI (As := [.int a1, .int 0, .int 1]) (st := []) O lk_RX5_57 (k_X5_isIn c3) rfl rfl ⟨rfl, rfl⟩ ⟨Nat.le_of_ble_eq_true rfl, Nat.le_of_ble_eq_true rfl⟩ rfl (Nat.le_of_ble_eq_true rfl) dX5_saids_3 ?_
  refine s_if_ne (tgt := 11) O dX5_saids_6 (by decide) (fun c => ?_) (fun c => ?_)
  · replace hf := if_f c hf
    refine s_iconst (v := 0) O dX5_saids_11 rfl ?_
    refine s_istore_n (lv' := [(2, .int 0), (0, rf E 0), (1, .int a1)]) O dX5_saids_12 rfl (by decide) rfl ?_
    refine s_bipush (v := (-4)) O dX5_saids_13 rfl ?_
    refine s_istore_n (lv' := [(3, .int (-4)), (2, .int 0), (0, rf E 0), (1, .int a1)]) O dX5_saids_15 rfl (by decide) rfl ?_
    refine s_iconst (v := 0) O dX5_saids_16 rfl ?_
    refine s_istore (lv' := [(4, .int 0), (3, .int (-4)), (2, .int 0), (0, rf E 0), (1, .int a1)]) O dX5_saids_17 (by decide) rfl ?_
    refine s_loc [3, 4, 2, 1, 0] rfl ?_
    obtain ⟨s11, e12, c13, hf⟩ := bn_e hf
    obtain ⟨u19_2, u19_3⟩ := e12
    refine lp_of (body := fun s v => fb_X5_saids_l19 a1 a1 s v.1 v.2.1 v.2.2) (X := fun s v => WS cM E 5 19 [(0, rf E 0), (1, .int a1), (2, .int v.1), (3, .int v.2.1), (4, .int v.2.2)] [] s) (Y := fun s e => WS cM E 5 76 [(1, .int a1), (2, .int e.1), (3, .int e.2)] [] s) (fun s v s' w hb Kc Ke => wb_X5_saids_l19 (rr := rr) O   hret Kc Ke hb) FU _ _ (s11, (u19_2, u19_3)) c13 ?_
    show WS cM E 5 76 [(1, .int a1), (2, .int u19_2), (3, .int u19_3)] [] s11
    refine s_iload_n O 0 dX5_saids_76 rfl rfl ?_
    refine s_if_ne (tgt := 84) O dX5_saids_77 (by decide) (fun c => ?_) (fun c => ?_)
    · replace hf := if_f c hf
      refine s_iload_n O 2 dX5_saids_84 rfl rfl ?_
      exact s_iret hret rfl dX5_saids_85 hf
    · replace hf := if_t c hf
      refine s_iload_n O 1 dX5_saids_80 rfl rfl ?_
      refine s_goto (tgt := 85) O dX5_saids_81 (by decide) ?_
      exact s_iret hret rfl dX5_saids_85 hf
  · replace hf := if_t c hf
    refine s_iconst (v := (-1)) O dX5_saids_9 rfl ?_
    exact s_iret hret rfl dX5_saids_10 hf
def rm_X5_foreseeHeightsByWeight : Room := { frames := 4, cells := 0, slots := 0, locals := 86 }
def fb_X5_foreseeHeightsByWeight_l24 (a1 : Int32) (x1 : Int32) (x2 : Int32) (s0 : StA) (v3 : Int32) : Option (StA × ((Int32) ⊕ (Unit))) :=
  (if 30 < v3 then some (s0, .inr ()) else gd x2 10 (gd v3 31 (nms (si s0 (61 + 1 * x2.toNatClampNeg) v3.toNatClampNeg (gi s0 12 8)) (fun s8 => bn (f_X1_pass 12 s8) (fun s9 r10 => some (s9, .inl (v3 + 1)))))))
set_option maxHeartbeats 4000000 in
set_option maxRecDepth 100000 in
theorem wb_X5_foreseeHeightsByWeight_l24 {E : XC} (O : OK cM E RX5 cX5_foreseeHeightsByWeight 4 rm_X5_foreseeHeightsByWeight) {a1 : Int32}  {x1 : Int32} {x2 : Int32} {s0 : StA} {v3 : Int32} {zs : StA} {rr : Unit} (hret : ReV cM E cX5_foreseeHeightsByWeight zs) {bs : StA} {bw : (Int32) ⊕ (Unit)} (Kc : ∀ v, bw = .inl v → WS cM E 4 24 [(0, rf E 0), (1, .int x1), (2, .int x2), (3, .int v)] [] bs) (Ke : ∀ e, bw = .inr e → WS cM E 4 58 [(0, rf E 0), (1, .int x1), (2, .int x2)] [] bs) (hf : fb_X5_foreseeHeightsByWeight_l24 a1 x1 x2 s0 v3 = some (bs, bw)) : WS cM E 4 24 [(0, rf E 0), (1, .int x1), (2, .int x2), (3, .int v3)] [] s0 := by
  unfold fb_X5_foreseeHeightsByWeight_l24 at hf
  refine s_iload_n O 3 dX5_foreseeHeightsByWeight_24 rfl rfl ?_
  refine s_bipush (v := 30) O dX5_foreseeHeightsByWeight_25 rfl ?_
  refine s_icmp_gt (tgt := 58) O dX5_foreseeHeightsByWeight_27 (by decide) (fun c => ?_) (fun c => ?_)
  · replace hf := if_t c hf
    refine s_loc [0, 1, 2] rfl ?_
    cases hf
    exact Ke _ rfl
  · replace hf := if_f c hf
    refine s_aload_n O 0 dX5_foreseeHeightsByWeight_30 rfl rfl ?_
    refine s_getR O fg_RX5_49 cs_0 rfl dX5_foreseeHeightsByWeight_31 ?_
    refine s_iload_n O 2 dX5_foreseeHeightsByWeight_34 rfl rfl ?_
    obtain ⟨h6, hf⟩ := gd_e hf
    refine s_aald O cs_60 (Or.inr (Or.inr rfl)) h6 dX5_foreseeHeightsByWeight_35 ?_
    refine s_iload_n O 3 dX5_foreseeHeightsByWeight_36 rfl rfl ?_
    refine s_aload_n O 0 dX5_foreseeHeightsByWeight_37 rfl rfl ?_
    refine s_getR O fg_RX5_16 cs_0 rfl dX5_foreseeHeightsByWeight_38 ?_
    refine s_getI O fg_RX5_89 cs_12 rfl dX5_foreseeHeightsByWeight_41 ?_
    obtain ⟨h7, hf⟩ := gd_e hf
    refine s_iast O (im_hb h6) h7 dX5_foreseeHeightsByWeight_44 ?_
    refine s_tops (fun s8 es8 => ?_)
    replace hf := nms_e es8 hf
    refine s_aload_n O 0 dX5_foreseeHeightsByWeight_45 rfl rfl ?_
    refine s_getR O fg_RX5_16 cs_0 rfl dX5_foreseeHeightsByWeight_46 ?_
    obtain ⟨s9, r10, c11, hf⟩ := bn_e hf
    refine s_VV (As := []) (st := []) O lk_RX5_257 (k_X1_pass fl_is12 c11) rfl cs_12 rfl rfl ⟨rfl, rfl⟩ ⟨Nat.le_of_ble_eq_true rfl, Nat.le_of_ble_eq_true rfl⟩ rfl (Nat.le_of_ble_eq_true rfl) dX5_foreseeHeightsByWeight_49 ?_
    refine s_iinc (v := (v3 + 1)) (lv' := [(3, .int (v3 + 1)), (0, rf E 0), (1, .int x1), (2, .int x2)]) O 3 dX5_foreseeHeightsByWeight_52 rfl rfl (by decide) rfl ?_
    refine s_goto (tgt := 24) O dX5_foreseeHeightsByWeight_55 (by decide) ?_
    refine s_loc [1, 2, 3, 0] rfl ?_
    cases hf
    exact Kc _ rfl
def fl_X5_foreseeHeightsByWeight_l24 (a1 : Int32) (x1 : Int32) (x2 : Int32) (s0 : StA) (v : Int32) : Option (StA × ((Unit))) :=
  it (fun s v => fb_X5_foreseeHeightsByWeight_l24 a1 x1 x2 s v) FU s0 v
def fb_X5_foreseeHeightsByWeight_l2 (a1 : Int32) (x1 : Int32) (s0 : StA) (v2 : Int32) : Option (StA × ((Int32) ⊕ (Unit))) :=
  (if 9 < v2 then some (s0, .inr ()) else bn (f_X5_restartTrial  s0) (fun s1 r2 => gd x1 6 (nms (si s1 14 x1.toNatClampNeg v2) (fun s5 => bn (fl_X5_foreseeHeightsByWeight_l24 a1 x1 v2 s5 0) (fun s12 e13 => some (s12, .inl (v2 + 1)))))))
set_option maxHeartbeats 4000000 in
set_option maxRecDepth 100000 in
theorem wb_X5_foreseeHeightsByWeight_l2 {E : XC} (O : OK cM E RX5 cX5_foreseeHeightsByWeight 4 rm_X5_foreseeHeightsByWeight) {a1 : Int32}  {x1 : Int32} {s0 : StA} {v2 : Int32} {zs : StA} {rr : Unit} (hret : ReV cM E cX5_foreseeHeightsByWeight zs) {bs : StA} {bw : (Int32) ⊕ (Unit)} (Kc : ∀ v, bw = .inl v → WS cM E 4 2 [(0, rf E 0), (1, .int x1), (2, .int v)] [] bs) (Ke : ∀ e, bw = .inr e → WS cM E 4 64 [] [] bs) (hf : fb_X5_foreseeHeightsByWeight_l2 a1 x1 s0 v2 = some (bs, bw)) : WS cM E 4 2 [(0, rf E 0), (1, .int x1), (2, .int v2)] [] s0 := by
  unfold fb_X5_foreseeHeightsByWeight_l2 at hf
  refine s_iload_n O 2 dX5_foreseeHeightsByWeight_2 rfl rfl ?_
  refine s_bipush (v := 9) O dX5_foreseeHeightsByWeight_3 rfl ?_
  refine s_icmp_gt (tgt := 64) O dX5_foreseeHeightsByWeight_5 (by decide) (fun c => ?_) (fun c => ?_)
  · replace hf := if_t c hf
    refine s_loc [] rfl ?_
    cases hf
    exact Ke _ rfl
  · replace hf := if_f c hf
    refine s_aload_n O 0 dX5_foreseeHeightsByWeight_8 rfl rfl ?_
    obtain ⟨s1, r2, c3, hf⟩ := bn_e hf
    refine s_VV (As := []) (st := []) O lk_RX5_171 (k_X5_restartTrial c3) rfl cs_0 rfl rfl ⟨rfl, rfl⟩ ⟨Nat.le_of_ble_eq_true rfl, Nat.le_of_ble_eq_true rfl⟩ rfl (Nat.le_of_ble_eq_true rfl) dX5_foreseeHeightsByWeight_9 ?_
    refine s_aload_n O 0 dX5_foreseeHeightsByWeight_12 rfl rfl ?_
    refine s_getR O fg_RX5_16 cs_0 rfl dX5_foreseeHeightsByWeight_13 ?_
    refine s_getR O fg_RX5_121 cs_12 rfl dX5_foreseeHeightsByWeight_16 ?_
    refine s_iload_n O 1 dX5_foreseeHeightsByWeight_19 rfl rfl ?_
    refine s_iload_n O 2 dX5_foreseeHeightsByWeight_20 rfl rfl ?_
    obtain ⟨h4, hf⟩ := gd_e hf
    refine s_iast O cs_14 h4 dX5_foreseeHeightsByWeight_21 ?_
    refine s_tops (fun s5 es5 => ?_)
    replace hf := nms_e es5 hf
    refine s_iconst (v := 0) O dX5_foreseeHeightsByWeight_22 rfl ?_
    refine s_istore_n (lv' := [(3, .int 0), (0, rf E 0), (1, .int x1), (2, .int v2)]) O dX5_foreseeHeightsByWeight_23 rfl (by decide) rfl ?_
    refine s_loc [1, 2, 3, 0] rfl ?_
    obtain ⟨s12, e13, c14, hf⟩ := bn_e hf
    refine lp_of (body := fun s v => fb_X5_foreseeHeightsByWeight_l24 a1 x1 v2 s v) (X := fun s v => WS cM E 4 24 [(0, rf E 0), (1, .int x1), (2, .int v2), (3, .int v)] [] s) (Y := fun s e => WS cM E 4 58 [(0, rf E 0), (1, .int x1), (2, .int v2)] [] s) (fun s v s' w hb Kc Ke => wb_X5_foreseeHeightsByWeight_l24 (rr := rr) O   hret Kc Ke hb) FU _ _ (s12, e13) c14 ?_
    show WS cM E 4 58 [(0, rf E 0), (1, .int x1), (2, .int v2)] [] s12
    refine s_iinc (v := (v2 + 1)) (lv' := [(2, .int (v2 + 1)), (0, rf E 0), (1, .int x1)]) O 2 dX5_foreseeHeightsByWeight_58 rfl rfl (by decide) rfl ?_
    refine s_goto (tgt := 2) O dX5_foreseeHeightsByWeight_61 (by decide) ?_
    refine s_loc [1, 2, 0] rfl ?_
    cases hf
    exact Kc _ rfl
def fl_X5_foreseeHeightsByWeight_l2 (a1 : Int32) (x1 : Int32) (s0 : StA) (v : Int32) : Option (StA × ((Unit))) :=
  it (fun s v => fb_X5_foreseeHeightsByWeight_l2 a1 x1 s v) FU s0 v
def f_X5_foreseeHeightsByWeight (a1 : Int32) (s0 : StA) : Option (StA × Unit) :=
  bn (fl_X5_foreseeHeightsByWeight_l2 a1 a1 s0 1) (fun s15 e16 => some (s15, ()))
set_option maxHeartbeats 4000000 in
set_option maxRecDepth 100000 in
theorem k_X5_foreseeHeightsByWeight {a1 : Int32} {s0 zs : StA} {rr : Unit} (hf : f_X5_foreseeHeightsByWeight a1 s0 = some (zs, rr)) : CtV cM yX5_foreseeHeightsByWeight cX5_foreseeHeightsByWeight 4 rm_X5_foreseeHeightsByWeight (fun ph => [.ref (ph 0), .int a1]) s0 zs := by
  refine CtV.of (by decide +kernel) (fun ph => Nat.le_of_ble_eq_true rfl) (fun E O hret => ?_)
  have O : OK cM E RX5 cX5_foreseeHeightsByWeight 4 rm_X5_foreseeHeightsByWeight := O
  show WS cM E 4 0 [(0, rf E 0), (1, .int a1)] [] s0
  unfold f_X5_foreseeHeightsByWeight at hf
  refine s_iconst (v := 1) O dX5_foreseeHeightsByWeight_0 rfl ?_
  refine s_istore_n (lv' := [(2, .int 1), (0, rf E 0), (1, .int a1)]) O dX5_foreseeHeightsByWeight_1 rfl (by decide) rfl ?_
  refine s_loc [1, 2, 0] rfl ?_
  obtain ⟨s15, e16, c17, hf⟩ := bn_e hf
  refine lp_of (body := fun s v => fb_X5_foreseeHeightsByWeight_l2 a1 a1 s v) (X := fun s v => WS cM E 4 2 [(0, rf E 0), (1, .int a1), (2, .int v)] [] s) (Y := fun s e => WS cM E 4 64 [] [] s) (fun s v s' w hb Kc Ke => wb_X5_foreseeHeightsByWeight_l2 (rr := rr) O   hret Kc Ke hb) FU _ _ (s15, e16) c17 ?_
  show WS cM E 4 64 [] [] s15
  exact s_vret hret dX5_foreseeHeightsByWeight_64 hf
def rm_X5_mostLeftByLooking : Room := { frames := 1, cells := 0, slots := 0, locals := 23 }
def fb_X5_mostLeftByLooking_l13 (a1 : Int32) (a2 : Int32) (x1 : Int32) (x2 : Int32) (s0 : StA) (v3 : Int32) (v4 : Int32) : Option (StA × ((Int32 × Int32) ⊕ (Int32))) :=
  (if 9 < v4 then some (s0, .inr v3) else (if ((x1 >>> (v4 &&& 31)) &&& 1) = 1 then gd v4 10 (gd x2 31 (nmi (gi s0 (61 + 1 * v4.toNatClampNeg) x2.toNatClampNeg) (fun n6 => gd n6 61 (gd n6 61 (nms (si s0 71 n6.toNatClampNeg ((gi s0 71 n6.toNatClampNeg) + 1)) (fun s9 => gd n6 61 (nmi (if v3 < (gi s9 71 n6.toNatClampNeg) then (gi s9 71 n6.toNatClampNeg) else v3) (fun n11 => some (s9, .inl (n11, (v4 + 1))))))))))) else some (s0, .inl (v3, (v4 + 1)))))
set_option maxHeartbeats 4000000 in
set_option maxRecDepth 100000 in
theorem wb_X5_mostLeftByLooking_l13 {E : XC} (O : OK cM E RX5 cX5_mostLeftByLooking 6 rm_X5_mostLeftByLooking) {a1 : Int32} {a2 : Int32}  {x1 : Int32} {x2 : Int32} {s0 : StA} {v3 : Int32} {v4 : Int32} {zs : StA} {rr : Int32} (hret : ReI cM E .int cX5_mostLeftByLooking zs rr) {bs : StA} {bw : (Int32 × Int32) ⊕ (Int32)} (Kc : ∀ v, bw = .inl v → WS cM E 6 13 [(0, rf E 0), (1, .int x1), (2, .int x2), (3, .int v.1), (4, .int v.2)] [] bs) (Ke : ∀ e, bw = .inr e → WS cM E 6 70 [(3, .int e)] [] bs) (hf : fb_X5_mostLeftByLooking_l13 a1 a2 x1 x2 s0 v3 v4 = some (bs, bw)) : WS cM E 6 13 [(0, rf E 0), (1, .int x1), (2, .int x2), (3, .int v3), (4, .int v4)] [] s0 := by
  unfold fb_X5_mostLeftByLooking_l13 at hf
  refine s_iload O 4 dX5_mostLeftByLooking_13 rfl ?_
  refine s_bipush (v := 9) O dX5_mostLeftByLooking_15 rfl ?_
  refine s_icmp_gt (tgt := 70) O dX5_mostLeftByLooking_17 (by decide) (fun c => ?_) (fun c => ?_)
  · replace hf := if_t c hf
    refine s_loc [3] rfl ?_
    cases hf
    exact Ke _ rfl
  · replace hf := if_f c hf
    refine s_iload_n O 1 dX5_mostLeftByLooking_20 rfl rfl ?_
    refine s_iload O 4 dX5_mostLeftByLooking_21 rfl ?_
    refine s_ishr O dX5_mostLeftByLooking_23 ?_
    refine s_iconst (v := 1) O dX5_mostLeftByLooking_24 rfl ?_
    refine s_iand O dX5_mostLeftByLooking_25 ?_
    refine s_iconst (v := 1) O dX5_mostLeftByLooking_26 rfl ?_
    refine s_icmp_ne (tgt := 64) O dX5_mostLeftByLooking_27 (by decide) (fun c => ?_) (fun c => ?_)
    · replace hf := if_f c hf
      refine s_iinc (v := (v4 + 1)) (lv' := [(4, .int (v4 + 1)), (0, rf E 0), (1, .int x1), (2, .int x2), (3, .int v3)]) O 4 dX5_mostLeftByLooking_64 rfl rfl (by decide) rfl ?_
      refine s_goto (tgt := 13) O dX5_mostLeftByLooking_67 (by decide) ?_
      refine s_loc [1, 2, 3, 4, 0] rfl ?_
      cases hf
      exact Kc _ rfl
    · replace hf := if_t c hf
      refine s_aload_n O 0 dX5_mostLeftByLooking_30 rfl rfl ?_
      refine s_getR O fg_RX5_49 cs_0 rfl dX5_mostLeftByLooking_31 ?_
      refine s_iload O 4 dX5_mostLeftByLooking_34 rfl ?_
      obtain ⟨h4, hf⟩ := gd_e hf
      refine s_aald O cs_60 (Or.inr (Or.inr rfl)) h4 dX5_mostLeftByLooking_36 ?_
      refine s_iload_n O 2 dX5_mostLeftByLooking_37 rfl rfl ?_
      obtain ⟨h5, hf⟩ := gd_e hf
      refine s_iald O (im_hb h4) h5 dX5_mostLeftByLooking_38 ?_
      refine s_topi (fun n6 en6 => ?_)
      replace hf := nmi_e en6 hf
      refine s_istore (lv' := [(5, .int n6), (0, rf E 0), (1, .int x1), (2, .int x2), (3, .int v3), (4, .int v4)]) O dX5_mostLeftByLooking_39 (by decide) rfl ?_
      refine s_aload_n O 1 dX5_mostLeftByLooking_41 rfl rfl ?_
      refine s_getR O fg_RX5_52 cs_0 rfl dX5_mostLeftByLooking_42 ?_
      refine s_iload O 0 dX5_mostLeftByLooking_45 rfl ?_
      refine s_dup2 O dX5_mostLeftByLooking_47 rfl rfl ?_
      obtain ⟨h7, hf⟩ := gd_e hf
      refine s_iald O cs_71 h7 dX5_mostLeftByLooking_48 ?_
      refine s_iconst (v := 1) O dX5_mostLeftByLooking_49 rfl ?_
      refine s_iadd O dX5_mostLeftByLooking_50 ?_
      obtain ⟨h8, hf⟩ := gd_e hf
      refine s_iast O cs_71 h8 dX5_mostLeftByLooking_51 ?_
      refine s_tops (fun s9 es9 => ?_)
      replace hf := nms_e es9 hf
      refine s_iload_n O 4 dX5_mostLeftByLooking_52 rfl rfl ?_
      refine s_aload_n O 1 dX5_mostLeftByLooking_53 rfl rfl ?_
      refine s_getR O fg_RX5_52 cs_0 rfl dX5_mostLeftByLooking_54 ?_
      refine s_iload O 0 dX5_mostLeftByLooking_57 rfl ?_
      obtain ⟨h10, hf⟩ := gd_e hf
      refine s_iald O cs_71 h10 dX5_mostLeftByLooking_59 ?_
      refine s_mmax (st := []) O lk_RX5_266 ⟨Nat.le_of_ble_eq_true rfl, Nat.le_of_ble_eq_true rfl⟩ (Nat.le_of_ble_eq_true rfl) dX5_mostLeftByLooking_60 ?_
      refine s_topi (fun n11 en11 => ?_)
      replace hf := nmi_e en11 hf
      refine s_istore_n (lv' := [(3, .int n11), (5, .int n6), (0, rf E 0), (1, .int x1), (2, .int x2), (4, .int v4)]) O dX5_mostLeftByLooking_63 rfl (by decide) rfl ?_
      refine s_iinc (v := (v4 + 1)) (lv' := [(4, .int (v4 + 1)), (3, .int n11), (5, .int n6), (0, rf E 0), (1, .int x1), (2, .int x2)]) O 5 dX5_mostLeftByLooking_64 rfl rfl (by decide) rfl ?_
      refine s_goto (tgt := 13) O dX5_mostLeftByLooking_67 (by decide) ?_
      refine s_loc [3, 4, 5, 1, 0] rfl ?_
      cases hf
      exact Kc _ rfl
def fl_X5_mostLeftByLooking_l13 (a1 : Int32) (a2 : Int32) (x1 : Int32) (x2 : Int32) (s0 : StA) (v : Int32 × Int32) : Option (StA × ((Int32))) :=
  it (fun s v => fb_X5_mostLeftByLooking_l13 a1 a2 x1 x2 s v.1 v.2) FU s0 v
def f_X5_mostLeftByLooking (a1 : Int32) (a2 : Int32) (s0 : StA) : Option (StA × Int32) :=
  bn (f_J7_fill_53178 71 61 0 s0) (fun s1 r2 => bn (fl_X5_mostLeftByLooking_l13 a1 a2 a1 a2 s1 (0, 1)) (fun s12 u13_3 => some (s12, u13_3)))
set_option maxHeartbeats 4000000 in
set_option maxRecDepth 100000 in
theorem k_X5_mostLeftByLooking {a1 : Int32} {a2 : Int32} {s0 zs : StA} {rr : Int32} (hf : f_X5_mostLeftByLooking a1 a2 s0 = some (zs, rr)) : CtI cM yX5_mostLeftByLooking cX5_mostLeftByLooking 6 .int rm_X5_mostLeftByLooking (fun ph => [.ref (ph 0), .int a1, .int a2]) s0 zs rr := by
  refine CtI.of (by decide +kernel) (fun ph => Nat.le_of_ble_eq_true rfl) (fun E O hret => ?_)
  have O : OK cM E RX5 cX5_mostLeftByLooking 6 rm_X5_mostLeftByLooking := O
  show WS cM E 6 0 [(0, rf E 0), (1, .int a1), (2, .int a2)] [] s0
  unfold f_X5_mostLeftByLooking at hf
  refine s_aload_n O 0 dX5_mostLeftByLooking_0 rfl rfl ?_
  refine s_getR O fg_RX5_52 cs_0 rfl dX5_mostLeftByLooking_1 ?_
  refine s_iconst (v := 0) O dX5_mostLeftByLooking_4 rfl ?_
  obtain ⟨s1, r2, c3, hf⟩ := bn_e hf
  refine s_SV (As := [rf E 71, .int 0]) (st := []) O lk_RX5_260 (k_J7_fill_53178 cs_71 c3) rfl rfl ⟨rfl, rfl⟩ ⟨Nat.le_of_ble_eq_true rfl, Nat.le_of_ble_eq_true rfl⟩ rfl (Nat.le_of_ble_eq_true rfl) dX5_mostLeftByLooking_5 ?_
  refine s_iconst (v := 0) O dX5_mostLeftByLooking_8 rfl ?_
  refine s_istore_n (lv' := [(3, .int 0), (0, rf E 0), (1, .int a1), (2, .int a2)]) O dX5_mostLeftByLooking_9 rfl (by decide) rfl ?_
  refine s_iconst (v := 1) O dX5_mostLeftByLooking_10 rfl ?_
  refine s_istore (lv' := [(4, .int 1), (3, .int 0), (0, rf E 0), (1, .int a1), (2, .int a2)]) O dX5_mostLeftByLooking_11 (by decide) rfl ?_
  refine s_loc [2, 3, 4, 1, 0] rfl ?_
  obtain ⟨s12, u13_3, c14, hf⟩ := bn_e hf
  refine lp_of (body := fun s v => fb_X5_mostLeftByLooking_l13 a1 a2 a1 a2 s v.1 v.2) (X := fun s v => WS cM E 6 13 [(0, rf E 0), (1, .int a1), (2, .int a2), (3, .int v.1), (4, .int v.2)] [] s) (Y := fun s e => WS cM E 6 70 [(3, .int e)] [] s) (fun s v s' w hb Kc Ke => wb_X5_mostLeftByLooking_l13 (rr := rr) O   hret Kc Ke hb) FU _ _ (s12, u13_3) c14 ?_
  show WS cM E 6 70 [(3, .int u13_3)] [] s12
  refine s_iload_n O 0 dX5_mostLeftByLooking_70 rfl rfl ?_
  exact s_iret hret rfl dX5_mostLeftByLooking_71 hf
def rm_J6_bitCount_0f7a4 : Room := { frames := 0, cells := 0, slots := 0, locals := 0 }
def f_J6_bitCount_0f7a4 (a0 : Int32) (s0 : StA) : Option (StA × Int32) :=
  nmi (a0 - ((a0.toUInt32 >>> ((1 : Int32).toUInt32 &&& Int32.toUInt32 31)).toInt32 &&& 1431655765)) (fun n1 => nmi ((n1 &&& 858993459) + ((n1.toUInt32 >>> ((2 : Int32).toUInt32 &&& Int32.toUInt32 31)).toInt32 &&& 858993459)) (fun n2 => nmi ((n2 + (n2.toUInt32 >>> ((4 : Int32).toUInt32 &&& Int32.toUInt32 31)).toInt32) &&& 252645135) (fun n3 => nmi (n3 + (n3.toUInt32 >>> ((8 : Int32).toUInt32 &&& Int32.toUInt32 31)).toInt32) (fun n4 => nmi (n4 + (n4.toUInt32 >>> ((16 : Int32).toUInt32 &&& Int32.toUInt32 31)).toInt32) (fun n5 => some (s0, (n5 &&& 63)))))))
set_option maxHeartbeats 4000000 in
set_option maxRecDepth 100000 in
theorem k_J6_bitCount_0f7a4 {M : MW} {a0 : Int32} {s0 zs : StA} {rr : Int32} (hf : f_J6_bitCount_0f7a4 a0 s0 = some (zs, rr)) : CtI M yJ6_bitCount_0f7a4 cJ6_bitCount_0f7a4 1 .int rm_J6_bitCount_0f7a4 (fun ph => [.int a0]) s0 zs rr := by
  refine CtI.of (by decide +kernel) (fun ph => Nat.le_of_ble_eq_true rfl) (fun E O hret => ?_)
  have O : OK M E RJ6 cJ6_bitCount_0f7a4 1 rm_J6_bitCount_0f7a4 := O
  show WS M E 1 0 [(0, .int a0)] [] s0
  unfold f_J6_bitCount_0f7a4 at hf
  refine s_iload_n O 0 dJ6_bitCount_0f7a4_0 rfl rfl ?_
  refine s_iload_n O 0 dJ6_bitCount_0f7a4_1 rfl rfl ?_
  refine s_iconst (v := 1) O dJ6_bitCount_0f7a4_2 rfl ?_
  refine s_iushr O dJ6_bitCount_0f7a4_3 rfl ?_
  refine s_ldcw O ci_RJ6_265 dJ6_bitCount_0f7a4_4 ?_
  refine s_iand O dJ6_bitCount_0f7a4_7 ?_
  refine s_isub O dJ6_bitCount_0f7a4_8 ?_
  refine s_topi (fun n1 en1 => ?_)
  replace hf := nmi_e en1 hf
  refine s_istore_n (lv' := [(0, .int n1)]) O dJ6_bitCount_0f7a4_9 rfl (by decide) rfl ?_
  refine s_iload_n O 0 dJ6_bitCount_0f7a4_10 rfl rfl ?_
  refine s_ldcw O ci_RJ6_266 dJ6_bitCount_0f7a4_11 ?_
  refine s_iand O dJ6_bitCount_0f7a4_14 ?_
  refine s_iload_n O 0 dJ6_bitCount_0f7a4_15 rfl rfl ?_
  refine s_iconst (v := 2) O dJ6_bitCount_0f7a4_16 rfl ?_
  refine s_iushr O dJ6_bitCount_0f7a4_17 rfl ?_
  refine s_ldcw O ci_RJ6_266 dJ6_bitCount_0f7a4_18 ?_
  refine s_iand O dJ6_bitCount_0f7a4_21 ?_
  refine s_iadd O dJ6_bitCount_0f7a4_22 ?_
  refine s_topi (fun n2 en2 => ?_)
  replace hf := nmi_e en2 hf
  refine s_istore_n (lv' := [(0, .int n2)]) O dJ6_bitCount_0f7a4_23 rfl (by decide) rfl ?_
  refine s_iload_n O 0 dJ6_bitCount_0f7a4_24 rfl rfl ?_
  refine s_iload_n O 0 dJ6_bitCount_0f7a4_25 rfl rfl ?_
  refine s_iconst (v := 4) O dJ6_bitCount_0f7a4_26 rfl ?_
  refine s_iushr O dJ6_bitCount_0f7a4_27 rfl ?_
  refine s_iadd O dJ6_bitCount_0f7a4_28 ?_
  refine s_ldcw O ci_RJ6_267 dJ6_bitCount_0f7a4_29 ?_
  refine s_iand O dJ6_bitCount_0f7a4_32 ?_
  refine s_topi (fun n3 en3 => ?_)
  replace hf := nmi_e en3 hf
  refine s_istore_n (lv' := [(0, .int n3)]) O dJ6_bitCount_0f7a4_33 rfl (by decide) rfl ?_
  refine s_iload_n O 0 dJ6_bitCount_0f7a4_34 rfl rfl ?_
  refine s_iload_n O 0 dJ6_bitCount_0f7a4_35 rfl rfl ?_
  refine s_bipush (v := 8) O dJ6_bitCount_0f7a4_36 rfl ?_
  refine s_iushr O dJ6_bitCount_0f7a4_38 rfl ?_
  refine s_iadd O dJ6_bitCount_0f7a4_39 ?_
  refine s_topi (fun n4 en4 => ?_)
  replace hf := nmi_e en4 hf
  refine s_istore_n (lv' := [(0, .int n4)]) O dJ6_bitCount_0f7a4_40 rfl (by decide) rfl ?_
  refine s_iload_n O 0 dJ6_bitCount_0f7a4_41 rfl rfl ?_
  refine s_iload_n O 0 dJ6_bitCount_0f7a4_42 rfl rfl ?_
  refine s_bipush (v := 16) O dJ6_bitCount_0f7a4_43 rfl ?_
  refine s_iushr O dJ6_bitCount_0f7a4_45 rfl ?_
  refine s_iadd O dJ6_bitCount_0f7a4_46 ?_
  refine s_topi (fun n5 en5 => ?_)
  replace hf := nmi_e en5 hf
  refine s_istore_n (lv' := [(0, .int n5)]) O dJ6_bitCount_0f7a4_47 rfl (by decide) rfl ?_
  refine s_iload_n O 0 dJ6_bitCount_0f7a4_48 rfl rfl ?_
  refine s_bipush (v := 63) O dJ6_bitCount_0f7a4_49 rfl ?_
  refine s_iand O dJ6_bitCount_0f7a4_51 ?_
  exact s_iret hret rfl dJ6_bitCount_0f7a4_52 hf
def rm_X5_ask : Room := { frames := 6, cells := 0, slots := 0, locals := 131 }
def fb_X5_ask_l48 (a1 : Int32) (a2 : Int32) (x2 : Int32) (x3 : Int32) (s0 : StA) (v4 : Int32) : Option (StA × ((Int32) ⊕ (Unit))) :=
  (if 30 < v4 then some (s0, .inr ()) else bn (f_X5_mostLeftByLooking x3 v4 s0) (fun s19 r20 => bn (f_X0_offer v4 r20 s19) (fun s22 r23 => some (s22, .inl (v4 + 1)))))
set_option maxHeartbeats 4000000 in
set_option maxRecDepth 100000 in
theorem wb_X5_ask_l48 {E : XC} (O : OK cM E RX5 cX5_ask 5 rm_X5_ask) {a1 : Int32} {a2 : Int32}  {x2 : Int32} {x3 : Int32} {s0 : StA} {v4 : Int32} {zs : StA} {rr : Int32} (hret : ReI cM E .int cX5_ask zs rr) {bs : StA} {bw : (Int32) ⊕ (Unit)} (Kc : ∀ v, bw = .inl v → WS cM E 5 48 [(0, rf E 0), (2, .int x2), (3, .int x3), (4, .int v)] [] bs) (Ke : ∀ e, bw = .inr e → WS cM E 5 77 [(0, rf E 0), (2, .int x2)] [] bs) (hf : fb_X5_ask_l48 a1 a2 x2 x3 s0 v4 = some (bs, bw)) : WS cM E 5 48 [(0, rf E 0), (2, .int x2), (3, .int x3), (4, .int v4)] [] s0 := by
  unfold fb_X5_ask_l48 at hf
  refine s_iload O 3 dX5_ask_48 rfl ?_
  refine s_bipush (v := 30) O dX5_ask_50 rfl ?_
  refine s_icmp_gt (tgt := 77) O dX5_ask_52 (by decide) (fun c => ?_) (fun c => ?_)
  · replace hf := if_t c hf
    refine s_loc [0, 1] rfl ?_
    cases hf
    exact Ke _ rfl
  · replace hf := if_f c hf
    refine s_aload_n O 0 dX5_ask_55 rfl rfl ?_
    refine s_getR O fg_RX5_43 cs_0 rfl dX5_ask_56 ?_
    refine s_iload O 3 dX5_ask_59 rfl ?_
    refine s_aload_n O 0 dX5_ask_61 rfl rfl ?_
    refine s_iload_n O 2 dX5_ask_62 rfl rfl ?_
    refine s_iload O 3 dX5_ask_63 rfl ?_
    obtain ⟨s19, r20, c21, hf⟩ := bn_e hf
    refine s_VI (As := [.int x3, .int v4]) (st := [.int v4, rf E 59]) O lk_RX5_254 (k_X5_mostLeftByLooking c21) rfl cs_0 rfl rfl ⟨rfl, rfl⟩ ⟨Nat.le_of_ble_eq_true rfl, Nat.le_of_ble_eq_true rfl⟩ rfl (Nat.le_of_ble_eq_true rfl) dX5_ask_65 ?_
    obtain ⟨s22, r23, c24, hf⟩ := bn_e hf
    refine s_VV (As := [.int v4, .int r20]) (st := []) O lk_RX5_196 (k_X0_offer c24) rfl cs_59 rfl rfl ⟨rfl, rfl⟩ ⟨Nat.le_of_ble_eq_true rfl, Nat.le_of_ble_eq_true rfl⟩ rfl (Nat.le_of_ble_eq_true rfl) dX5_ask_68 ?_
    refine s_iinc (v := (v4 + 1)) (lv' := [(4, .int (v4 + 1)), (0, rf E 0), (2, .int x2), (3, .int x3)]) O 3 dX5_ask_71 rfl rfl (by decide) rfl ?_
    refine s_goto (tgt := 48) O dX5_ask_74 (by decide) ?_
    refine s_loc [1, 2, 3, 0] rfl ?_
    cases hf
    exact Kc _ rfl
def fl_X5_ask_l48 (a1 : Int32) (a2 : Int32) (x2 : Int32) (x3 : Int32) (s0 : StA) (v : Int32) : Option (StA × ((Unit))) :=
  it (fun s v => fb_X5_ask_l48 a1 a2 x2 x3 s v) FU s0 v
def f_X5_ask (a1 : Int32) (a2 : Int32) (s0 : StA) : Option (StA × Int32) :=
  bn (f_X1_hasThing 1 a1 s0) (fun s1 r2 => (if r2 = 0 then some (s1, (-1)) else bn (f_X5_isIn a2 0 1 s1) (fun s4 r5 => (if r5 = 0 then some (s4, (-1)) else bn (f_X5_valuesAsSeen a1 1 s4) (fun s7 r8 => bn (f_X5_foreseeHeightsByWeight a1 s7) (fun s10 r11 => bn (f_J6_bitCount_0f7a4 r8 s10) (fun s13 r14 => bn (f_X0_beginBelow r14 s13) (fun s16 r17 => bn (fl_X5_ask_l48 a1 a2 a2 r8 s16 0) (fun s25 e26 => bn (f_X0_answer a2 s25) (fun s28 r29 => some (s28, r29)))))))))))
set_option maxHeartbeats 4000000 in
set_option maxRecDepth 100000 in
theorem k_X5_ask {a1 : Int32} {a2 : Int32} {s0 zs : StA} {rr : Int32} (hf : f_X5_ask a1 a2 s0 = some (zs, rr)) : CtI cM yX5_ask cX5_ask 5 .int rm_X5_ask (fun ph => [.ref (ph 0), .int a1, .int a2]) s0 zs rr := by
  refine CtI.of (by decide +kernel) (fun ph => Nat.le_of_ble_eq_true rfl) (fun E O hret => ?_)
  have O : OK cM E RX5 cX5_ask 5 rm_X5_ask := O
  show WS cM E 5 0 [(0, rf E 0), (1, .int a1), (2, .int a2)] [] s0
  unfold f_X5_ask at hf
  refine s_aload_n O 0 dX5_ask_0 rfl rfl ?_
  refine s_getR O fg_RX5_10 cs_0 rfl dX5_ask_1 ?_
  refine s_iload_n O 1 dX5_ask_4 rfl rfl ?_
  obtain ⟨s1, r2, c3, hf⟩ := bn_e hf
  refine s_VI (As := [.int a1]) (st := []) O lk_RX5_114 (k_X1_hasThing fl_is1 c3) rfl cs_1 rfl rfl ⟨rfl, rfl⟩ ⟨Nat.le_of_ble_eq_true rfl, Nat.le_of_ble_eq_true rfl⟩ rfl (Nat.le_of_ble_eq_true rfl) dX5_ask_5 ?_
  refine s_if_eq (tgt := 20) O dX5_ask_8 (by decide) (fun c => ?_) (fun c => ?_)
  · replace hf := if_t c hf
    refine s_iconst (v := (-1)) O dX5_ask_20 rfl ?_
    exact s_iret hret rfl dX5_ask_21 hf
  · replace hf := if_f c hf
    refine s_iload_n O 2 dX5_ask_11 rfl rfl ?_
    refine s_iconst (v := 0) O dX5_ask_12 rfl ?_
    refine s_iconst (v := 1) O dX5_ask_13 rfl ?_
    obtain ⟨s4, r5, c6, hf⟩ := bn_e hf
    refine s_SI (As := [.int a2, .int 0, .int 1]) (st := []) O lk_RX5_57 (k_X5_isIn c6) rfl rfl ⟨rfl, rfl⟩ ⟨Nat.le_of_ble_eq_true rfl, Nat.le_of_ble_eq_true rfl⟩ rfl (Nat.le_of_ble_eq_true rfl) dX5_ask_14 ?_
    refine s_if_ne (tgt := 22) O dX5_ask_17 (by decide) (fun c => ?_) (fun c => ?_)
    · replace hf := if_f c hf
      refine s_aload_n O 0 dX5_ask_22 rfl rfl ?_
      refine s_iload_n O 1 dX5_ask_23 rfl rfl ?_
      refine s_iconst (v := 1) O dX5_ask_24 rfl ?_
      obtain ⟨s7, r8, c9, hf⟩ := bn_e hf
      refine s_VI (As := [.int a1, .int 1]) (st := []) O lk_RX5_239 (k_X5_valuesAsSeen c9) rfl cs_0 rfl rfl ⟨rfl, rfl⟩ ⟨Nat.le_of_ble_eq_true rfl, Nat.le_of_ble_eq_true rfl⟩ rfl (Nat.le_of_ble_eq_true rfl) dX5_ask_25 ?_
      refine s_istore_n (lv' := [(3, .int r8), (0, rf E 0), (1, .int a1), (2, .int a2)]) O dX5_ask_28 rfl (by decide) rfl ?_
      refine s_aload_n O 1 dX5_ask_29 rfl rfl ?_
      refine s_iload_n O 2 dX5_ask_30 rfl rfl ?_
      obtain ⟨s10, r11, c12, hf⟩ := bn_e hf
      refine s_VV (As := [.int a1]) (st := []) O lk_RX5_246 (k_X5_foreseeHeightsByWeight c12) rfl cs_0 rfl rfl ⟨rfl, rfl⟩ ⟨Nat.le_of_ble_eq_true rfl, Nat.le_of_ble_eq_true rfl⟩ rfl (Nat.le_of_ble_eq_true rfl) dX5_ask_31 ?_
      refine s_aload_n O 1 dX5_ask_34 rfl rfl ?_
      refine s_getR O fg_RX5_43 cs_0 rfl dX5_ask_35 ?_
      refine s_iload_n O 0 dX5_ask_38 rfl rfl ?_
      obtain ⟨s13, r14, c15, hf⟩ := bn_e hf
      refine s_SI (As := [.int r8]) (st := [rf E 59]) O lk_RX5_249 (k_J6_bitCount_0f7a4 c15) rfl rfl ⟨rfl, rfl⟩ ⟨Nat.le_of_ble_eq_true rfl, Nat.le_of_ble_eq_true rfl⟩ rfl (Nat.le_of_ble_eq_true rfl) dX5_ask_39 ?_
      obtain ⟨s16, r17, c18, hf⟩ := bn_e hf
      refine s_VV (As := [.int r14]) (st := []) O lk_RX5_193 (k_X0_beginBelow c18) rfl cs_59 rfl rfl ⟨rfl, rfl⟩ ⟨Nat.le_of_ble_eq_true rfl, Nat.le_of_ble_eq_true rfl⟩ rfl (Nat.le_of_ble_eq_true rfl) dX5_ask_42 ?_
      refine s_iconst (v := 0) O dX5_ask_45 rfl ?_
      refine s_istore (lv' := [(4, .int 0), (3, .int r8), (0, rf E 0), (1, .int a1), (2, .int a2)]) O dX5_ask_46 (by decide) rfl ?_
      refine s_loc [2, 4, 1, 0] rfl ?_
      obtain ⟨s25, e26, c27, hf⟩ := bn_e hf
      refine lp_of (body := fun s v => fb_X5_ask_l48 a1 a2 a2 r8 s v) (X := fun s v => WS cM E 5 48 [(0, rf E 0), (2, .int a2), (3, .int r8), (4, .int v)] [] s) (Y := fun s e => WS cM E 5 77 [(0, rf E 0), (2, .int a2)] [] s) (fun s v s' w hb Kc Ke => wb_X5_ask_l48 (rr := rr) O   hret Kc Ke hb) FU _ _ (s25, e26) c27 ?_
      show WS cM E 5 77 [(0, rf E 0), (2, .int a2)] [] s25
      refine s_aload_n O 0 dX5_ask_77 rfl rfl ?_
      refine s_getR O fg_RX5_43 cs_0 rfl dX5_ask_78 ?_
      refine s_iload_n O 1 dX5_ask_81 rfl rfl ?_
      obtain ⟨s28, r29, c30, hf⟩ := bn_e hf
      refine s_VI (As := [.int a2]) (st := []) O lk_RX5_200 (k_X0_answer c30) rfl cs_59 rfl rfl ⟨rfl, rfl⟩ ⟨Nat.le_of_ble_eq_true rfl, Nat.le_of_ble_eq_true rfl⟩ rfl (Nat.le_of_ble_eq_true rfl) dX5_ask_82 ?_
      exact s_iret hret rfl dX5_ask_85 hf
    · replace hf := if_t c hf
      refine s_iconst (v := (-1)) O dX5_ask_20 rfl ?_
      exact s_iret hret rfl dX5_ask_21 hf
