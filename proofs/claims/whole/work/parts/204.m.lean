def rm_X1_firstDown : Room := { frames := 4, cells := 0, slots := 0, locals := 86 }
def fb_X1_firstDown_l2 (k : Nat)  (s0 : StA) (v1 : Int32) : Option (StA × ((Int32) ⊕ ((Unit) ⊕ Int32))) :=
  (if 60 < v1 then some (s0, .inr (.inl ())) else bn (f_X1_pass k s0) (fun s1 r2 => (if (gi s1 k 8) = 0 then some (s1, .inr (.inr v1)) else some (s1, .inl (v1 + 1)))))
set_option maxHeartbeats 4000000 in
set_option maxRecDepth 100000 in
theorem wb_X1_firstDown_l2 {E : XC} (O : OK cM E RX1 cX1_firstDown 2 rm_X1_firstDown) {k : Nat} (hk : isFl k)   {s0 : StA} {v1 : Int32} {zs : StA} {rr : Int32} (hret : ReI cM E .int cX1_firstDown zs rr) {bs : StA} {bw : (Int32) ⊕ ((Unit) ⊕ Int32)} (Kc : ∀ v, bw = .inl v → WS cM E 2 2 [(0, rf E k), (1, .int v)] [] bs) (Ke : ∀ e, bw = .inr (.inl e) → WS cM E 2 27 [] [] bs) (Kr : ∀ r, bw = .inr (.inr r) → some (bs, r) = some (zs, rr)) (hf : fb_X1_firstDown_l2 k s0 v1 = some (bs, bw)) : WS cM E 2 2 [(0, rf E k), (1, .int v1)] [] s0 := by
  unfold fb_X1_firstDown_l2 at hf
  refine s_iload_n O 1 dX1_firstDown_2 rfl rfl ?_
  refine s_bipush (v := 60) O dX1_firstDown_3 rfl ?_
  refine s_icmp_gt (tgt := 27) O dX1_firstDown_5 (by decide) (fun c => ?_) (fun c => ?_)
  · replace hf := if_t c hf
    refine s_loc [] rfl ?_
    cases hf
    exact Ke _ rfl
  · replace hf := if_f c hf
    refine s_aload_n O 0 dX1_firstDown_8 rfl rfl ?_
    obtain ⟨s1, r2, c3, hf⟩ := bn_e hf
    refine s_VV (As := []) (st := []) O lk_RX1_113 (k_X1_pass hk c3) rfl (fl_0 hk) rfl rfl ⟨rfl, rfl⟩ ⟨Nat.le_of_ble_eq_true rfl, Nat.le_of_ble_eq_true rfl⟩ rfl (Nat.le_of_ble_eq_true rfl) dX1_firstDown_9 ?_
    refine s_aload_n O 0 dX1_firstDown_12 rfl rfl ?_
    refine s_getI O fg_RX1_52 (fl_0 hk) rfl dX1_firstDown_13 ?_
    refine s_if_ne (tgt := 21) O dX1_firstDown_16 (by decide) (fun c => ?_) (fun c => ?_)
    · replace hf := if_f c hf
      refine s_iinc (v := (v1 + 1)) (lv' := [(1, .int (v1 + 1)), (0, rf E k)]) O 1 dX1_firstDown_21 rfl rfl (by decide) rfl ?_
      refine s_goto (tgt := 2) O dX1_firstDown_24 (by decide) ?_
      refine s_loc [1, 0] rfl ?_
      cases hf
      exact Kc _ rfl
    · replace hf := if_t c hf
      refine s_iload_n O 1 dX1_firstDown_19 rfl rfl ?_
      cases hf
      exact s_iret hret rfl dX1_firstDown_20 (Kr _ rfl)
def fl_X1_firstDown_l2 (k : Nat)  (s0 : StA) (v : Int32) : Option (StA × (((Unit) ⊕ Int32))) :=
  it (fun s v => fb_X1_firstDown_l2 k s v) FU s0 v
def f_X1_firstDown (k : Nat) (s0 : StA) : Option (StA × Int32) :=
  bn (fl_X1_firstDown_l2 k s0 1) (fun s4 e5 => match e5 with | .inl _ => some (s4, 1000000) | .inr q2 => some (s4, q2))
set_option maxHeartbeats 4000000 in
set_option maxRecDepth 100000 in
theorem k_X1_firstDown {k : Nat} (hk : isFl k) {s0 zs : StA} {rr : Int32} (hf : f_X1_firstDown k s0 = some (zs, rr)) : CtI cM yX1_firstDown cX1_firstDown 2 .int rm_X1_firstDown (fun ph => [.ref (ph k)]) s0 zs rr := by
  refine CtI.of (by decide +kernel) (fun ph => Nat.le_of_ble_eq_true rfl) (fun E O hret => ?_)
  have O : OK cM E RX1 cX1_firstDown 2 rm_X1_firstDown := O
  show WS cM E 2 0 [(0, rf E k)] [] s0
  unfold f_X1_firstDown at hf
  refine s_iconst (v := 1) O dX1_firstDown_0 rfl ?_
  refine s_istore_n (lv' := [(1, .int 1), (0, rf E k)]) O dX1_firstDown_1 rfl (by decide) rfl ?_
  refine s_loc [1, 0] rfl ?_
  obtain ⟨s4, e5, c6, hf⟩ := bn_e hf
  refine lp_of (body := fun s v => fb_X1_firstDown_l2 k s v) (X := fun s v => WS cM E 2 2 [(0, rf E k), (1, .int v)] [] s) (Y := fun s e => match e with | .inl e => WS cM E 2 27 [] [] s | .inr r => some (s, r) = some (zs, rr)) (fun s v s' w hb Kc Ke => wb_X1_firstDown_l2 (rr := rr) O hk  hret Kc (fun e he => Ke (.inl e) he) (fun r he => Ke (.inr r) he) hb) FU _ _ (s4, e5) c6 ?_
  rcases e5 with e5 | q2
  · show WS cM E 2 27 [] [] s4
    refine s_ldc O ci_RX1_119 dX1_firstDown_27 ?_
    exact s_iret hret rfl dX1_firstDown_29 hf
  · exact hf
def rm_X5_falls : Room := { frames := 5, cells := 0, slots := 0, locals := 107 }
def f_X5_falls  (s0 : StA) : Option (StA × Int32) :=
  bn (f_X5_restartTrial  s0) (fun s1 r2 => bn (f_X1_firstDown 12 s1) (fun s4 r5 => bn (f_X5_orNone r5 s4) (fun s7 r8 => some (s7, r8))))
set_option maxHeartbeats 4000000 in
set_option maxRecDepth 100000 in
theorem k_X5_falls  {s0 zs : StA} {rr : Int32} (hf : f_X5_falls  s0 = some (zs, rr)) : CtI cM yX5_falls cX5_falls 1 .int rm_X5_falls (fun ph => [.ref (ph 0)]) s0 zs rr := by
  refine CtI.of (by decide +kernel) (fun ph => Nat.le_of_ble_eq_true rfl) (fun E O hret => ?_)
  have O : OK cM E RX5 cX5_falls 1 rm_X5_falls := O
  show WS cM E 1 0 [(0, rf E 0)] [] s0
  unfold f_X5_falls at hf
  refine s_aload_n O 0 dX5_falls_0 rfl rfl ?_
  obtain ⟨s1, r2, c3, hf⟩ := bn_e hf
  refine s_VV (As := []) (st := []) O lk_RX5_168 (k_X5_restartTrial c3) rfl cs_0 rfl rfl ⟨rfl, rfl⟩ ⟨Nat.le_of_ble_eq_true rfl, Nat.le_of_ble_eq_true rfl⟩ rfl (Nat.le_of_ble_eq_true rfl) dX5_falls_1 ?_
  refine s_aload_n O 0 dX5_falls_4 rfl rfl ?_
  refine s_getR O fg_RX5_16 cs_0 rfl dX5_falls_5 ?_
  obtain ⟨s4, r5, c6, hf⟩ := bn_e hf
  refine s_VI (As := []) (st := []) O lk_RX5_177 (k_X1_firstDown fl_is12 c6) rfl cs_12 rfl rfl ⟨rfl, rfl⟩ ⟨Nat.le_of_ble_eq_true rfl, Nat.le_of_ble_eq_true rfl⟩ rfl (Nat.le_of_ble_eq_true rfl) dX5_falls_8 ?_
  obtain ⟨s7, r8, c9, hf⟩ := bn_e hf
  refine s_SI (As := [.int r5]) (st := []) O lk_RX5_180 (k_X5_orNone c9) rfl rfl ⟨rfl, rfl⟩ ⟨Nat.le_of_ble_eq_true rfl, Nat.le_of_ble_eq_true rfl⟩ rfl (Nat.le_of_ble_eq_true rfl) dX5_falls_11 ?_
  exact s_iret hret rfl dX5_falls_14 hf
def rm_X5_isPlace : Room := { frames := 1, cells := 0, slots := 0, locals := 22 }
def f_X5_isPlace (a0 : Int32) (s0 : StA) : Option (StA × Int32) :=
  bn (f_X5_isIn a0 0 99 s0) (fun s1 r2 => gz r2 (some (s1, r2)))
set_option maxHeartbeats 4000000 in
set_option maxRecDepth 100000 in
theorem k_X5_isPlace {a0 : Int32} {s0 zs : StA} {rr : Int32} (hf : f_X5_isPlace a0 s0 = some (zs, rr)) : CtI cM yX5_isPlace cX5_isPlace 1 .boolean rm_X5_isPlace (fun ph => [.int a0]) s0 zs rr := by
  refine CtI.of (by decide +kernel) (fun ph => Nat.le_of_ble_eq_true rfl) (fun E O hret => ?_)
  have O : OK cM E RX5 cX5_isPlace 1 rm_X5_isPlace := O
  show WS cM E 1 0 [(0, .int a0)] [] s0
  unfold f_X5_isPlace at hf
  refine s_iload_n O 0 dX5_isPlace_0 rfl rfl ?_
  refine s_iconst (v := 0) O dX5_isPlace_1 rfl ?_
  refine s_bipush (v := 99) O dX5_isPlace_2 rfl ?_
  obtain ⟨s1, r2, c3, hf⟩ := bn_e hf
  refine s_SI (As := [.int a0, .int 0, .int 99]) (st := []) O lk_RX5_53 (k_X5_isIn c3) rfl rfl ⟨rfl, rfl⟩ ⟨Nat.le_of_ble_eq_true rfl, Nat.le_of_ble_eq_true rfl⟩ rfl (Nat.le_of_ble_eq_true rfl) dX5_isPlace_4 ?_
  obtain ⟨hz, hf⟩ := gz_e hf
  exact s_iret hret hz.nar dX5_isPlace_7 hf
def rm_X1_firstDownAt : Room := { frames := 4, cells := 0, slots := 0, locals := 86 }
def fb_X1_firstDownAt_l2 (k : Nat) (a1 : Int32) (x1 : Int32) (s0 : StA) (v2 : Int32) : Option (StA × ((Int32) ⊕ ((Unit) ⊕ Int32))) :=
  (if 60 < v2 then some (s0, .inr (.inl ())) else (if (gi s0 k 8) = 0 then (if (gi s0 k 9) = x1 then some (s0, .inr (.inr v2)) else bn (f_X1_pass k s0) (fun s4 r5 => some (s4, .inl (v2 + 1)))) else bn (f_X1_pass k s0) (fun s1 r2 => some (s1, .inl (v2 + 1)))))
set_option maxHeartbeats 4000000 in
set_option maxRecDepth 100000 in
theorem wb_X1_firstDownAt_l2 {E : XC} (O : OK cM E RX1 cX1_firstDownAt 3 rm_X1_firstDownAt) {k : Nat} {a1 : Int32} (hk : isFl k)  {x1 : Int32} {s0 : StA} {v2 : Int32} {zs : StA} {rr : Int32} (hret : ReI cM E .int cX1_firstDownAt zs rr) {bs : StA} {bw : (Int32) ⊕ ((Unit) ⊕ Int32)} (Kc : ∀ v, bw = .inl v → WS cM E 3 2 [(0, rf E k), (1, .int x1), (2, .int v)] [] bs) (Ke : ∀ e, bw = .inr (.inl e) → WS cM E 3 35 [] [] bs) (Kr : ∀ r, bw = .inr (.inr r) → some (bs, r) = some (zs, rr)) (hf : fb_X1_firstDownAt_l2 k a1 x1 s0 v2 = some (bs, bw)) : WS cM E 3 2 [(0, rf E k), (1, .int x1), (2, .int v2)] [] s0 := by
  unfold fb_X1_firstDownAt_l2 at hf
  refine s_iload_n O 2 dX1_firstDownAt_2 rfl rfl ?_
  refine s_bipush (v := 60) O dX1_firstDownAt_3 rfl ?_
  refine s_icmp_gt (tgt := 35) O dX1_firstDownAt_5 (by decide) (fun c => ?_) (fun c => ?_)
  · replace hf := if_t c hf
    refine s_loc [] rfl ?_
    cases hf
    exact Ke _ rfl
  · replace hf := if_f c hf
    refine s_aload_n O 0 dX1_firstDownAt_8 rfl rfl ?_
    refine s_getI O fg_RX1_52 (fl_0 hk) rfl dX1_firstDownAt_9 ?_
    refine s_if_ne (tgt := 25) O dX1_firstDownAt_12 (by decide) (fun c => ?_) (fun c => ?_)
    · replace hf := if_f c hf
      refine s_aload_n O 0 dX1_firstDownAt_25 rfl rfl ?_
      obtain ⟨s1, r2, c3, hf⟩ := bn_e hf
      refine s_VV (As := []) (st := []) O lk_RX1_113 (k_X1_pass hk c3) rfl (fl_0 hk) rfl rfl ⟨rfl, rfl⟩ ⟨Nat.le_of_ble_eq_true rfl, Nat.le_of_ble_eq_true rfl⟩ rfl (Nat.le_of_ble_eq_true rfl) dX1_firstDownAt_26 ?_
      refine s_iinc (v := (v2 + 1)) (lv' := [(2, .int (v2 + 1)), (0, rf E k), (1, .int x1)]) O 2 dX1_firstDownAt_29 rfl rfl (by decide) rfl ?_
      refine s_goto (tgt := 2) O dX1_firstDownAt_32 (by decide) ?_
      refine s_loc [1, 2, 0] rfl ?_
      cases hf
      exact Kc _ rfl
    · replace hf := if_t c hf
      refine s_aload_n O 0 dX1_firstDownAt_15 rfl rfl ?_
      refine s_getI O fg_RX1_55 (fl_0 hk) rfl dX1_firstDownAt_16 ?_
      refine s_iload_n O 1 dX1_firstDownAt_19 rfl rfl ?_
      refine s_icmp_ne (tgt := 25) O dX1_firstDownAt_20 (by decide) (fun c => ?_) (fun c => ?_)
      · replace hf := if_f c hf
        refine s_aload_n O 0 dX1_firstDownAt_25 rfl rfl ?_
        obtain ⟨s4, r5, c6, hf⟩ := bn_e hf
        refine s_VV (As := []) (st := []) O lk_RX1_113 (k_X1_pass hk c6) rfl (fl_0 hk) rfl rfl ⟨rfl, rfl⟩ ⟨Nat.le_of_ble_eq_true rfl, Nat.le_of_ble_eq_true rfl⟩ rfl (Nat.le_of_ble_eq_true rfl) dX1_firstDownAt_26 ?_
        refine s_iinc (v := (v2 + 1)) (lv' := [(2, .int (v2 + 1)), (0, rf E k), (1, .int x1)]) O 2 dX1_firstDownAt_29 rfl rfl (by decide) rfl ?_
        refine s_goto (tgt := 2) O dX1_firstDownAt_32 (by decide) ?_
        refine s_loc [1, 2, 0] rfl ?_
        cases hf
        exact Kc _ rfl
      · replace hf := if_t c hf
        refine s_iload_n O 2 dX1_firstDownAt_23 rfl rfl ?_
        cases hf
        exact s_iret hret rfl dX1_firstDownAt_24 (Kr _ rfl)
def fl_X1_firstDownAt_l2 (k : Nat) (a1 : Int32) (x1 : Int32) (s0 : StA) (v : Int32) : Option (StA × (((Unit) ⊕ Int32))) :=
  it (fun s v => fb_X1_firstDownAt_l2 k a1 x1 s v) FU s0 v
def f_X1_firstDownAt (k : Nat) (a1 : Int32) (s0 : StA) : Option (StA × Int32) :=
  bn (fl_X1_firstDownAt_l2 k a1 a1 s0 0) (fun s7 e8 => match e8 with | .inl _ => some (s7, 1000000) | .inr q2 => some (s7, q2))
set_option maxHeartbeats 4000000 in
set_option maxRecDepth 100000 in
theorem k_X1_firstDownAt {k : Nat} {a1 : Int32} (hk : isFl k) {s0 zs : StA} {rr : Int32} (hf : f_X1_firstDownAt k a1 s0 = some (zs, rr)) : CtI cM yX1_firstDownAt cX1_firstDownAt 3 .int rm_X1_firstDownAt (fun ph => [.ref (ph k), .int a1]) s0 zs rr := by
  refine CtI.of (by decide +kernel) (fun ph => Nat.le_of_ble_eq_true rfl) (fun E O hret => ?_)
  have O : OK cM E RX1 cX1_firstDownAt 3 rm_X1_firstDownAt := O
  show WS cM E 3 0 [(0, rf E k), (1, .int a1)] [] s0
  unfold f_X1_firstDownAt at hf
  refine s_iconst (v := 0) O dX1_firstDownAt_0 rfl ?_
  refine s_istore_n (lv' := [(2, .int 0), (0, rf E k), (1, .int a1)]) O dX1_firstDownAt_1 rfl (by decide) rfl ?_
  refine s_loc [1, 2, 0] rfl ?_
  obtain ⟨s7, e8, c9, hf⟩ := bn_e hf
  refine lp_of (body := fun s v => fb_X1_firstDownAt_l2 k a1 a1 s v) (X := fun s v => WS cM E 3 2 [(0, rf E k), (1, .int a1), (2, .int v)] [] s) (Y := fun s e => match e with | .inl e => WS cM E 3 35 [] [] s | .inr r => some (s, r) = some (zs, rr)) (fun s v s' w hb Kc Ke => wb_X1_firstDownAt_l2 (rr := rr) O hk  hret Kc (fun e he => Ke (.inl e) he) (fun r he => Ke (.inr r) he) hb) FU _ _ (s7, e8) c9 ?_
  rcases e8 with e8 | q2
  · show WS cM E 3 35 [] [] s7
    refine s_ldc O ci_RX1_119 dX1_firstDownAt_35 ?_
    exact s_iret hret rfl dX1_firstDownAt_37 hf
  · exact hf
def rm_X5_church : Room := { frames := 5, cells := 0, slots := 0, locals := 108 }
def f_X5_church (a1 : Int32) (s0 : StA) : Option (StA × Int32) :=
  bn (f_X5_isPlace a1 s0) (fun s1 r2 => (if r2 = 0 then some (s1, (-1)) else bn (f_X5_restartTrial  s1) (fun s4 r5 => bn (f_X1_firstDownAt 12 a1 s4) (fun s7 r8 => bn (f_X5_orNone r8 s7) (fun s10 r11 => some (s10, r11))))))
set_option maxHeartbeats 4000000 in
set_option maxRecDepth 100000 in
theorem k_X5_church {a1 : Int32} {s0 zs : StA} {rr : Int32} (hf : f_X5_church a1 s0 = some (zs, rr)) : CtI cM yX5_church cX5_church 2 .int rm_X5_church (fun ph => [.ref (ph 0), .int a1]) s0 zs rr := by
  refine CtI.of (by decide +kernel) (fun ph => Nat.le_of_ble_eq_true rfl) (fun E O hret => ?_)
  have O : OK cM E RX5 cX5_church 2 rm_X5_church := O
  show WS cM E 2 0 [(0, rf E 0), (1, .int a1)] [] s0
  unfold f_X5_church at hf
  refine s_iload_n O 1 dX5_church_0 rfl rfl ?_
  obtain ⟨s1, r2, c3, hf⟩ := bn_e hf
  refine s_SI (As := [.int a1]) (st := []) O lk_RX5_183 (k_X5_isPlace c3) rfl rfl ⟨rfl, rfl⟩ ⟨Nat.le_of_ble_eq_true rfl, Nat.le_of_ble_eq_true rfl⟩ rfl (Nat.le_of_ble_eq_true rfl) dX5_church_1 ?_
  refine s_if_ne (tgt := 9) O dX5_church_4 (by decide) (fun c => ?_) (fun c => ?_)
  · replace hf := if_f c hf
    refine s_aload_n O 0 dX5_church_9 rfl rfl ?_
    obtain ⟨s4, r5, c6, hf⟩ := bn_e hf
    refine s_VV (As := []) (st := []) O lk_RX5_168 (k_X5_restartTrial c6) rfl cs_0 rfl rfl ⟨rfl, rfl⟩ ⟨Nat.le_of_ble_eq_true rfl, Nat.le_of_ble_eq_true rfl⟩ rfl (Nat.le_of_ble_eq_true rfl) dX5_church_10 ?_
    refine s_aload_n O 0 dX5_church_13 rfl rfl ?_
    refine s_getR O fg_RX5_16 cs_0 rfl dX5_church_14 ?_
    refine s_iload_n O 1 dX5_church_17 rfl rfl ?_
    obtain ⟨s7, r8, c9, hf⟩ := bn_e hf
    refine s_VI (As := [.int a1]) (st := []) O lk_RX5_186 (k_X1_firstDownAt fl_is12 c9) rfl cs_12 rfl rfl ⟨rfl, rfl⟩ ⟨Nat.le_of_ble_eq_true rfl, Nat.le_of_ble_eq_true rfl⟩ rfl (Nat.le_of_ble_eq_true rfl) dX5_church_18 ?_
    obtain ⟨s10, r11, c12, hf⟩ := bn_e hf
    refine s_SI (As := [.int r8]) (st := []) O lk_RX5_180 (k_X5_orNone c12) rfl rfl ⟨rfl, rfl⟩ ⟨Nat.le_of_ble_eq_true rfl, Nat.le_of_ble_eq_true rfl⟩ rfl (Nat.le_of_ble_eq_true rfl) dX5_church_21 ?_
    exact s_iret hret rfl dX5_church_24 hf
  · replace hf := if_t c hf
    refine s_iconst (v := (-1)) O dX5_church_7 rfl ?_
    exact s_iret hret rfl dX5_church_8 hf
def rm_X0_answer : Room := { frames := 0, cells := 0, slots := 0, locals := 0 }
def f_X0_answer (a1 : Int32) (s0 : StA) : Option (StA × Int32) :=
  (if (gi s0 59 2) = 0 then some (s0, (-4)) else (if a1 = 0 then some (s0, (gi s0 59 0)) else some (s0, (gi s0 59 1))))
set_option maxHeartbeats 4000000 in
set_option maxRecDepth 100000 in
theorem k_X0_answer {a1 : Int32} {s0 zs : StA} {rr : Int32} (hf : f_X0_answer a1 s0 = some (zs, rr)) : CtI cM yX0_answer cX0_answer 2 .int rm_X0_answer (fun ph => [.ref (ph 59), .int a1]) s0 zs rr := by
  refine CtI.of (by decide +kernel) (fun ph => Nat.le_of_ble_eq_true rfl) (fun E O hret => ?_)
  have O : OK cM E RX0 cX0_answer 2 rm_X0_answer := O
  show WS cM E 2 0 [(0, rf E 59), (1, .int a1)] [] s0
  unfold f_X0_answer at hf
  refine s_aload_n O 0 dX0_answer_0 rfl rfl ?_
  refine s_getI O fg_RX0_15 cs_59 rfl dX0_answer_1 ?_
  refine s_if_ne (tgt := 10) O dX0_answer_4 (by decide) (fun c => ?_) (fun c => ?_)
  · replace hf := if_f c hf
    refine s_iload_n O 1 dX0_answer_10 rfl rfl ?_
    refine s_if_ne (tgt := 21) O dX0_answer_11 (by decide) (fun c => ?_) (fun c => ?_)
    · replace hf := if_f c hf
      refine s_aload_n O 0 dX0_answer_21 rfl rfl ?_
      refine s_getI O fg_RX0_9 cs_59 rfl dX0_answer_22 ?_
      exact s_iret hret rfl dX0_answer_25 hf
    · replace hf := if_t c hf
      refine s_aload_n O 0 dX0_answer_14 rfl rfl ?_
      refine s_getI O fg_RX0_19 cs_59 rfl dX0_answer_15 ?_
      refine s_goto (tgt := 25) O dX0_answer_18 (by decide) ?_
      exact s_iret hret rfl dX0_answer_25 hf
  · replace hf := if_t c hf
    refine s_bipush (v := (-4)) O dX0_answer_7 rfl ?_
    exact s_iret hret rfl dX0_answer_9 hf
def rm_X0_beginBelow : Room := { frames := 0, cells := 0, slots := 0, locals := 0 }
def f_X0_beginBelow (a1 : Int32) (s0 : StA) : Option (StA × Unit) :=
  nms (si s0 59 1 a1) (fun s1 => nms (si s1 59 2 0) (fun s2 => some (s2, ())))
set_option maxHeartbeats 4000000 in
set_option maxRecDepth 100000 in
theorem k_X0_beginBelow {a1 : Int32} {s0 zs : StA} {rr : Unit} (hf : f_X0_beginBelow a1 s0 = some (zs, rr)) : CtV cM yX0_beginBelow cX0_beginBelow 2 rm_X0_beginBelow (fun ph => [.ref (ph 59), .int a1]) s0 zs := by
  refine CtV.of (by decide +kernel) (fun ph => Nat.le_of_ble_eq_true rfl) (fun E O hret => ?_)
  have O : OK cM E RX0 cX0_beginBelow 2 rm_X0_beginBelow := O
  show WS cM E 2 0 [(0, rf E 59), (1, .int a1)] [] s0
  unfold f_X0_beginBelow at hf
  refine s_aload_n O 0 dX0_beginBelow_0 rfl rfl ?_
  refine s_iload_n O 1 dX0_beginBelow_1 rfl rfl ?_
  refine s_putI O fp_RX0_9 cs_59 rfl dX0_beginBelow_2 ?_
  refine s_tops (fun s1 es1 => ?_)
  replace hf := nms_e es1 hf
  refine s_aload_n O 0 dX0_beginBelow_5 rfl rfl ?_
  refine s_iconst (v := 0) O dX0_beginBelow_6 rfl ?_
  refine s_putZ O fp_RX0_15 (Or.inl rfl) cs_59 rfl dX0_beginBelow_7 ?_
  refine s_tops (fun s2 es2 => ?_)
  replace hf := nms_e es2 hf
  exact s_vret hret dX0_beginBelow_10 hf
def rm_X0_offer : Room := { frames := 0, cells := 0, slots := 0, locals := 0 }
def f_X0_offer (a1 : Int32) (a2 : Int32) (s0 : StA) : Option (StA × Unit) :=
  (if (gi s0 59 1) ≤ a2 then some (s0, ()) else nms (si s0 59 0 a1) (fun s1 => nms (si s1 59 1 a2) (fun s2 => nms (si s2 59 2 1) (fun s3 => some (s3, ())))))
set_option maxHeartbeats 4000000 in
set_option maxRecDepth 100000 in
theorem k_X0_offer {a1 : Int32} {a2 : Int32} {s0 zs : StA} {rr : Unit} (hf : f_X0_offer a1 a2 s0 = some (zs, rr)) : CtV cM yX0_offer cX0_offer 3 rm_X0_offer (fun ph => [.ref (ph 59), .int a1, .int a2]) s0 zs := by
  refine CtV.of (by decide +kernel) (fun ph => Nat.le_of_ble_eq_true rfl) (fun E O hret => ?_)
  have O : OK cM E RX0 cX0_offer 3 rm_X0_offer := O
  show WS cM E 3 0 [(0, rf E 59), (1, .int a1), (2, .int a2)] [] s0
  unfold f_X0_offer at hf
  refine s_iload_n O 2 dX0_offer_0 rfl rfl ?_
  refine s_aload_n O 0 dX0_offer_1 rfl rfl ?_
  refine s_getI O fg_RX0_9 cs_59 rfl dX0_offer_2 ?_
  refine s_icmp_ge (tgt := 23) O dX0_offer_5 (by decide) (fun c => ?_) (fun c => ?_)
  · replace hf := if_t c hf
    exact s_vret hret dX0_offer_23 hf
  · replace hf := if_f c hf
    refine s_aload_n O 0 dX0_offer_8 rfl rfl ?_
    refine s_iload_n O 1 dX0_offer_9 rfl rfl ?_
    refine s_putI O fp_RX0_19 cs_59 rfl dX0_offer_10 ?_
    refine s_tops (fun s1 es1 => ?_)
    replace hf := nms_e es1 hf
    refine s_aload_n O 0 dX0_offer_13 rfl rfl ?_
    refine s_iload_n O 2 dX0_offer_14 rfl rfl ?_
    refine s_putI O fp_RX0_9 cs_59 rfl dX0_offer_15 ?_
    refine s_tops (fun s2 es2 => ?_)
    replace hf := nms_e es2 hf
    refine s_aload_n O 0 dX0_offer_18 rfl rfl ?_
    refine s_iconst (v := 1) O dX0_offer_19 rfl ?_
    refine s_putZ O fp_RX0_15 (Or.inr rfl) cs_59 rfl dX0_offer_20 ?_
    refine s_tops (fun s3 es3 => ?_)
    replace hf := nms_e es3 hf
    exact s_vret hret dX0_offer_23 hf
def rm_X5_best : Room := { frames := 5, cells := 0, slots := 0, locals := 107 }
def fb_X5_best_l22 (a1 : Int32) (x1 : Int32) (s0 : StA) (v2 : Int32) : Option (StA × ((Int32) ⊕ (Unit))) :=
  (if (gi s0 1 6) ≤ v2 then some (s0, .inr ()) else bn (f_X1_isSaid 1 v2 s0) (fun s7 r8 => (if r8 = 0 then bn (f_X5_restartTrial  s7) (fun s10 r11 => bn (f_X1_setSaid 12 v2 1 s10) (fun s13 r14 => bn (f_X1_firstDown 12 s13) (fun s16 r17 => bn (f_X0_offer v2 r17 s16) (fun s19 r20 => some (s19, .inl (v2 + 1)))))) else some (s7, .inl (v2 + 1)))))
set_option maxHeartbeats 4000000 in
set_option maxRecDepth 100000 in
theorem wb_X5_best_l22 {E : XC} (O : OK cM E RX5 cX5_best 3 rm_X5_best) {a1 : Int32}  {x1 : Int32} {s0 : StA} {v2 : Int32} {zs : StA} {rr : Int32} (hret : ReI cM E .int cX5_best zs rr) {bs : StA} {bw : (Int32) ⊕ (Unit)} (Kc : ∀ v, bw = .inl v → WS cM E 3 22 [(0, rf E 0), (1, .int x1), (2, .int v)] [] bs) (Ke : ∀ e, bw = .inr e → WS cM E 3 78 [(0, rf E 0), (1, .int x1)] [] bs) (hf : fb_X5_best_l22 a1 x1 s0 v2 = some (bs, bw)) : WS cM E 3 22 [(0, rf E 0), (1, .int x1), (2, .int v2)] [] s0 := by
  unfold fb_X5_best_l22 at hf
  refine s_iload_n O 2 dX5_best_22 rfl rfl ?_
  refine s_aload_n O 0 dX5_best_23 rfl rfl ?_
  refine s_getR O fg_RX5_10 cs_0 rfl dX5_best_24 ?_
  refine s_getI O fg_RX5_79 cs_1 rfl dX5_best_27 ?_
  refine s_icmp_ge (tgt := 78) O dX5_best_30 (by decide) (fun c => ?_) (fun c => ?_)
  · replace hf := if_t c hf
    refine s_loc [0, 1] rfl ?_
    cases hf
    exact Ke _ rfl
  · replace hf := if_f c hf
    refine s_aload_n O 0 dX5_best_33 rfl rfl ?_
    refine s_getR O fg_RX5_10 cs_0 rfl dX5_best_34 ?_
    refine s_iload_n O 2 dX5_best_37 rfl rfl ?_
    obtain ⟨s7, r8, c9, hf⟩ := bn_e hf
    refine s_VI (As := [.int v2]) (st := []) O lk_RX5_124 (k_X1_isSaid fl_is1 c9) rfl cs_1 rfl rfl ⟨rfl, rfl⟩ ⟨Nat.le_of_ble_eq_true rfl, Nat.le_of_ble_eq_true rfl⟩ rfl (Nat.le_of_ble_eq_true rfl) dX5_best_38 ?_
    refine s_if_ne (tgt := 72) O dX5_best_41 (by decide) (fun c => ?_) (fun c => ?_)
    · replace hf := if_f c hf
      refine s_iinc (v := (v2 + 1)) (lv' := [(2, .int (v2 + 1)), (0, rf E 0), (1, .int x1)]) O 2 dX5_best_72 rfl rfl (by decide) rfl ?_
      refine s_goto (tgt := 22) O dX5_best_75 (by decide) ?_
      refine s_loc [1, 2, 0] rfl ?_
      cases hf
      exact Kc _ rfl
    · replace hf := if_t c hf
      refine s_aload_n O 0 dX5_best_44 rfl rfl ?_
      obtain ⟨s10, r11, c12, hf⟩ := bn_e hf
      refine s_VV (As := []) (st := []) O lk_RX5_168 (k_X5_restartTrial c12) rfl cs_0 rfl rfl ⟨rfl, rfl⟩ ⟨Nat.le_of_ble_eq_true rfl, Nat.le_of_ble_eq_true rfl⟩ rfl (Nat.le_of_ble_eq_true rfl) dX5_best_45 ?_
      refine s_aload_n O 0 dX5_best_48 rfl rfl ?_
      refine s_getR O fg_RX5_16 cs_0 rfl dX5_best_49 ?_
      refine s_iload_n O 2 dX5_best_52 rfl rfl ?_
      refine s_iconst (v := 1) O dX5_best_53 rfl ?_
      obtain ⟨s13, r14, c15, hf⟩ := bn_e hf
      refine s_VV (As := [.int v2, .int 1]) (st := []) O lk_RX5_152 (k_X1_setSaid fl_is12 c15) rfl cs_12 rfl rfl ⟨rfl, rfl⟩ ⟨Nat.le_of_ble_eq_true rfl, Nat.le_of_ble_eq_true rfl⟩ rfl (Nat.le_of_ble_eq_true rfl) dX5_best_54 ?_
      refine s_aload_n O 0 dX5_best_57 rfl rfl ?_
      refine s_getR O fg_RX5_43 cs_0 rfl dX5_best_58 ?_
      refine s_iload_n O 2 dX5_best_61 rfl rfl ?_
      refine s_aload_n O 0 dX5_best_62 rfl rfl ?_
      refine s_getR O fg_RX5_16 cs_0 rfl dX5_best_63 ?_
      obtain ⟨s16, r17, c18, hf⟩ := bn_e hf
      refine s_VI (As := []) (st := [.int v2, rf E 59]) O lk_RX5_177 (k_X1_firstDown fl_is12 c18) rfl cs_12 rfl rfl ⟨rfl, rfl⟩ ⟨Nat.le_of_ble_eq_true rfl, Nat.le_of_ble_eq_true rfl⟩ rfl (Nat.le_of_ble_eq_true rfl) dX5_best_66 ?_
      obtain ⟨s19, r20, c21, hf⟩ := bn_e hf
      refine s_VV (As := [.int v2, .int r17]) (st := []) O lk_RX5_193 (k_X0_offer c21) rfl cs_59 rfl rfl ⟨rfl, rfl⟩ ⟨Nat.le_of_ble_eq_true rfl, Nat.le_of_ble_eq_true rfl⟩ rfl (Nat.le_of_ble_eq_true rfl) dX5_best_69 ?_
      refine s_iinc (v := (v2 + 1)) (lv' := [(2, .int (v2 + 1)), (0, rf E 0), (1, .int x1)]) O 2 dX5_best_72 rfl rfl (by decide) rfl ?_
      refine s_goto (tgt := 22) O dX5_best_75 (by decide) ?_
      refine s_loc [1, 2, 0] rfl ?_
      cases hf
      exact Kc _ rfl
def fl_X5_best_l22 (a1 : Int32) (x1 : Int32) (s0 : StA) (v : Int32) : Option (StA × ((Unit))) :=
  it (fun s v => fb_X5_best_l22 a1 x1 s v) FU s0 v
def f_X5_best (a1 : Int32) (s0 : StA) : Option (StA × Int32) :=
  bn (f_X5_isIn a1 0 1 s0) (fun s1 r2 => (if r2 = 0 then some (s1, (-1)) else bn (f_X0_beginBelow 1000000 s1) (fun s4 r5 => bn (fl_X5_best_l22 a1 a1 s4 0) (fun s22 e23 => bn (f_X0_answer a1 s22) (fun s25 r26 => some (s25, r26))))))
set_option maxHeartbeats 4000000 in
set_option maxRecDepth 100000 in
theorem k_X5_best {a1 : Int32} {s0 zs : StA} {rr : Int32} (hf : f_X5_best a1 s0 = some (zs, rr)) : CtI cM yX5_best cX5_best 3 .int rm_X5_best (fun ph => [.ref (ph 0), .int a1]) s0 zs rr := by
  refine CtI.of (by decide +kernel) (fun ph => Nat.le_of_ble_eq_true rfl) (fun E O hret => ?_)
  have O : OK cM E RX5 cX5_best 3 rm_X5_best := O
  show WS cM E 3 0 [(0, rf E 0), (1, .int a1)] [] s0
  unfold f_X5_best at hf
  refine s_iload_n O 1 dX5_best_0 rfl rfl ?_
  refine s_iconst (v := 0) O dX5_best_1 rfl ?_
  refine s_iconst (v := 1) O dX5_best_2 rfl ?_
  obtain ⟨s1, r2, c3, hf⟩ := bn_e hf
  refine s_SI (As := [.int a1, .int 0, .int 1]) (st := []) O lk_RX5_53 (k_X5_isIn c3) rfl rfl ⟨rfl, rfl⟩ ⟨Nat.le_of_ble_eq_true rfl, Nat.le_of_ble_eq_true rfl⟩ rfl (Nat.le_of_ble_eq_true rfl) dX5_best_3 ?_
  refine s_if_ne (tgt := 11) O dX5_best_6 (by decide) (fun c => ?_) (fun c => ?_)
  · replace hf := if_f c hf
    refine s_aload_n O 0 dX5_best_11 rfl rfl ?_
    refine s_getR O fg_RX5_43 cs_0 rfl dX5_best_12 ?_
    refine s_ldc O ci_RX5_189 dX5_best_15 ?_
    obtain ⟨s4, r5, c6, hf⟩ := bn_e hf
    refine s_VV (As := [.int 1000000]) (st := []) O lk_RX5_190 (k_X0_beginBelow c6) rfl cs_59 rfl rfl ⟨rfl, rfl⟩ ⟨Nat.le_of_ble_eq_true rfl, Nat.le_of_ble_eq_true rfl⟩ rfl (Nat.le_of_ble_eq_true rfl) dX5_best_17 ?_
    refine s_iconst (v := 0) O dX5_best_20 rfl ?_
    refine s_istore_n (lv' := [(2, .int 0), (0, rf E 0), (1, .int a1)]) O dX5_best_21 rfl (by decide) rfl ?_
    refine s_loc [1, 2, 0] rfl ?_
    obtain ⟨s22, e23, c24, hf⟩ := bn_e hf
    refine lp_of (body := fun s v => fb_X5_best_l22 a1 a1 s v) (X := fun s v => WS cM E 3 22 [(0, rf E 0), (1, .int a1), (2, .int v)] [] s) (Y := fun s e => WS cM E 3 78 [(0, rf E 0), (1, .int a1)] [] s) (fun s v s' w hb Kc Ke => wb_X5_best_l22 (rr := rr) O   hret Kc Ke hb) FU _ _ (s22, e23) c24 ?_
    show WS cM E 3 78 [(0, rf E 0), (1, .int a1)] [] s22
    refine s_aload_n O 0 dX5_best_78 rfl rfl ?_
    refine s_getR O fg_RX5_43 cs_0 rfl dX5_best_79 ?_
    refine s_iload_n O 1 dX5_best_82 rfl rfl ?_
    obtain ⟨s25, r26, c27, hf⟩ := bn_e hf
    refine s_VI (As := [.int a1]) (st := []) O lk_RX5_197 (k_X0_answer c27) rfl cs_59 rfl rfl ⟨rfl, rfl⟩ ⟨Nat.le_of_ble_eq_true rfl, Nat.le_of_ble_eq_true rfl⟩ rfl (Nat.le_of_ble_eq_true rfl) dX5_best_83 ?_
    exact s_iret hret rfl dX5_best_86 hf
  · replace hf := if_t c hf
    refine s_iconst (v := (-1)) O dX5_best_9 rfl ?_
    exact s_iret hret rfl dX5_best_10 hf
def rm_X5_both : Room := { frames := 5, cells := 0, slots := 0, locals := 108 }
def fb_X5_both_l45 (a1 : Int32) (a2 : Int32) (x1 : Int32) (x2 : Int32) (x3 : Int32) (s0 : StA) (v4 : Int32) : Option (StA × ((Int32) ⊕ (Unit))) :=
  (if (gi s0 1 6) ≤ v4 then some (s0, .inr ()) else bn (f_X1_isSaid 1 x3 s0) (fun s11 r12 => (if r12 = 0 then bn (f_X1_isSaid 1 v4 s11) (fun s14 r15 => (if r15 = 0 then bn (f_X5_restartTrial  s14) (fun s17 r18 => bn (f_X1_setSaid 12 x3 1 s17) (fun s20 r21 => bn (f_X1_setSaid 12 v4 1 s20) (fun s23 r24 => bn (f_X1_firstDownAt 12 x1 s23) (fun s26 r27 => bn (f_X0_offer ((10 * x3) + v4) r27 s26) (fun s29 r30 => some (s29, .inl (v4 + 1))))))) else some (s14, .inl (v4 + 1)))) else some (s11, .inl (v4 + 1)))))
set_option maxHeartbeats 4000000 in
set_option maxRecDepth 100000 in
theorem wb_X5_both_l45 {E : XC} (O : OK cM E RX5 cX5_both 5 rm_X5_both) {a1 : Int32} {a2 : Int32}  {x1 : Int32} {x2 : Int32} {x3 : Int32} {s0 : StA} {v4 : Int32} {zs : StA} {rr : Int32} (hret : ReI cM E .int cX5_both zs rr) {bs : StA} {bw : (Int32) ⊕ (Unit)} (Kc : ∀ v, bw = .inl v → WS cM E 5 45 [(0, rf E 0), (1, .int x1), (2, .int x2), (3, .int x3), (4, .int v)] [] bs) (Ke : ∀ e, bw = .inr e → WS cM E 5 131 [(0, rf E 0), (1, .int x1), (2, .int x2), (3, .int x3)] [] bs) (hf : fb_X5_both_l45 a1 a2 x1 x2 x3 s0 v4 = some (bs, bw)) : WS cM E 5 45 [(0, rf E 0), (1, .int x1), (2, .int x2), (3, .int x3), (4, .int v4)] [] s0 := by
  unfold fb_X5_both_l45 at hf
  refine s_iload O 4 dX5_both_45 rfl ?_
  refine s_aload_n O 0 dX5_both_47 rfl rfl ?_
  refine s_getR O fg_RX5_10 cs_0 rfl dX5_both_48 ?_
  refine s_getI O fg_RX5_79 cs_1 rfl dX5_both_51 ?_
  refine s_icmp_ge (tgt := 131) O dX5_both_54 (by decide) (fun c => ?_) (fun c => ?_)
  · replace hf := if_t c hf
    refine s_loc [0, 1, 2, 3] rfl ?_
    cases hf
    exact Ke _ rfl
  · replace hf := if_f c hf
    refine s_aload_n O 0 dX5_both_57 rfl rfl ?_
    refine s_getR O fg_RX5_10 cs_0 rfl dX5_both_58 ?_
    refine s_iload_n O 3 dX5_both_61 rfl rfl ?_
    obtain ⟨s11, r12, c13, hf⟩ := bn_e hf
    refine s_VI (As := [.int x3]) (st := []) O lk_RX5_124 (k_X1_isSaid fl_is1 c13) rfl cs_1 rfl rfl ⟨rfl, rfl⟩ ⟨Nat.le_of_ble_eq_true rfl, Nat.le_of_ble_eq_true rfl⟩ rfl (Nat.le_of_ble_eq_true rfl) dX5_both_62 ?_
    refine s_if_ne (tgt := 125) O dX5_both_65 (by decide) (fun c => ?_) (fun c => ?_)
    · replace hf := if_f c hf
      refine s_iinc (v := (v4 + 1)) (lv' := [(4, .int (v4 + 1)), (0, rf E 0), (1, .int x1), (2, .int x2), (3, .int x3)]) O 4 dX5_both_125 rfl rfl (by decide) rfl ?_
      refine s_goto (tgt := 45) O dX5_both_128 (by decide) ?_
      refine s_loc [1, 2, 3, 4, 0] rfl ?_
      cases hf
      exact Kc _ rfl
    · replace hf := if_t c hf
      refine s_aload_n O 0 dX5_both_68 rfl rfl ?_
      refine s_getR O fg_RX5_10 cs_0 rfl dX5_both_69 ?_
      refine s_iload O 4 dX5_both_72 rfl ?_
      obtain ⟨s14, r15, c16, hf⟩ := bn_e hf
      refine s_VI (As := [.int v4]) (st := []) O lk_RX5_124 (k_X1_isSaid fl_is1 c16) rfl cs_1 rfl rfl ⟨rfl, rfl⟩ ⟨Nat.le_of_ble_eq_true rfl, Nat.le_of_ble_eq_true rfl⟩ rfl (Nat.le_of_ble_eq_true rfl) dX5_both_74 ?_
      refine s_if_ne (tgt := 125) O dX5_both_77 (by decide) (fun c => ?_) (fun c => ?_)
      · replace hf := if_f c hf
        refine s_iinc (v := (v4 + 1)) (lv' := [(4, .int (v4 + 1)), (0, rf E 0), (1, .int x1), (2, .int x2), (3, .int x3)]) O 4 dX5_both_125 rfl rfl (by decide) rfl ?_
        refine s_goto (tgt := 45) O dX5_both_128 (by decide) ?_
        refine s_loc [1, 2, 3, 4, 0] rfl ?_
        cases hf
        exact Kc _ rfl
      · replace hf := if_t c hf
        refine s_aload_n O 0 dX5_both_80 rfl rfl ?_
        obtain ⟨s17, r18, c19, hf⟩ := bn_e hf
        refine s_VV (As := []) (st := []) O lk_RX5_168 (k_X5_restartTrial c19) rfl cs_0 rfl rfl ⟨rfl, rfl⟩ ⟨Nat.le_of_ble_eq_true rfl, Nat.le_of_ble_eq_true rfl⟩ rfl (Nat.le_of_ble_eq_true rfl) dX5_both_81 ?_
        refine s_aload_n O 0 dX5_both_84 rfl rfl ?_
        refine s_getR O fg_RX5_16 cs_0 rfl dX5_both_85 ?_
        refine s_iload_n O 3 dX5_both_88 rfl rfl ?_
        refine s_iconst (v := 1) O dX5_both_89 rfl ?_
        obtain ⟨s20, r21, c22, hf⟩ := bn_e hf
        refine s_VV (As := [.int x3, .int 1]) (st := []) O lk_RX5_152 (k_X1_setSaid fl_is12 c22) rfl cs_12 rfl rfl ⟨rfl, rfl⟩ ⟨Nat.le_of_ble_eq_true rfl, Nat.le_of_ble_eq_true rfl⟩ rfl (Nat.le_of_ble_eq_true rfl) dX5_both_90 ?_
        refine s_aload_n O 0 dX5_both_93 rfl rfl ?_
        refine s_getR O fg_RX5_16 cs_0 rfl dX5_both_94 ?_
        refine s_iload O 4 dX5_both_97 rfl ?_
        refine s_iconst (v := 1) O dX5_both_99 rfl ?_
        obtain ⟨s23, r24, c25, hf⟩ := bn_e hf
        refine s_VV (As := [.int v4, .int 1]) (st := []) O lk_RX5_152 (k_X1_setSaid fl_is12 c25) rfl cs_12 rfl rfl ⟨rfl, rfl⟩ ⟨Nat.le_of_ble_eq_true rfl, Nat.le_of_ble_eq_true rfl⟩ rfl (Nat.le_of_ble_eq_true rfl) dX5_both_100 ?_
        refine s_aload_n O 0 dX5_both_103 rfl rfl ?_
        refine s_getR O fg_RX5_43 cs_0 rfl dX5_both_104 ?_
        refine s_bipush (v := 10) O dX5_both_107 rfl ?_
        refine s_iload_n O 3 dX5_both_109 rfl rfl ?_
        refine s_imul O dX5_both_110 ?_
        refine s_iload O 4 dX5_both_111 rfl ?_
        refine s_iadd O dX5_both_113 ?_
        refine s_aload_n O 0 dX5_both_114 rfl rfl ?_
        refine s_getR O fg_RX5_16 cs_0 rfl dX5_both_115 ?_
        refine s_iload_n O 1 dX5_both_118 rfl rfl ?_
        obtain ⟨s26, r27, c28, hf⟩ := bn_e hf
        refine s_VI (As := [.int x1]) (st := [.int ((10 * x3) + v4), rf E 59]) O lk_RX5_186 (k_X1_firstDownAt fl_is12 c28) rfl cs_12 rfl rfl ⟨rfl, rfl⟩ ⟨Nat.le_of_ble_eq_true rfl, Nat.le_of_ble_eq_true rfl⟩ rfl (Nat.le_of_ble_eq_true rfl) dX5_both_119 ?_
        obtain ⟨s29, r30, c31, hf⟩ := bn_e hf
        refine s_VV (As := [.int ((10 * x3) + v4), .int r27]) (st := []) O lk_RX5_193 (k_X0_offer c31) rfl cs_59 rfl rfl ⟨rfl, rfl⟩ ⟨Nat.le_of_ble_eq_true rfl, Nat.le_of_ble_eq_true rfl⟩ rfl (Nat.le_of_ble_eq_true rfl) dX5_both_122 ?_
        refine s_iinc (v := (v4 + 1)) (lv' := [(4, .int (v4 + 1)), (0, rf E 0), (1, .int x1), (2, .int x2), (3, .int x3)]) O 4 dX5_both_125 rfl rfl (by decide) rfl ?_
        refine s_goto (tgt := 45) O dX5_both_128 (by decide) ?_
        refine s_loc [1, 2, 3, 4, 0] rfl ?_
        cases hf
        exact Kc _ rfl
def fl_X5_both_l45 (a1 : Int32) (a2 : Int32) (x1 : Int32) (x2 : Int32) (x3 : Int32) (s0 : StA) (v : Int32) : Option (StA × ((Unit))) :=
  it (fun s v => fb_X5_both_l45 a1 a2 x1 x2 x3 s v) FU s0 v
def fb_X5_both_l29 (a1 : Int32) (a2 : Int32) (x1 : Int32) (x2 : Int32) (s0 : StA) (v3 : Int32) : Option (StA × ((Int32) ⊕ (Unit))) :=
  (if (gi s0 1 6) ≤ v3 then some (s0, .inr ()) else nmi (v3 + 1) (fun n10 => bn (fl_X5_both_l45 a1 a2 x1 x2 v3 s0 n10) (fun s32 e33 => some (s32, .inl (v3 + 1)))))
set_option maxHeartbeats 4000000 in
set_option maxRecDepth 100000 in
theorem wb_X5_both_l29 {E : XC} (O : OK cM E RX5 cX5_both 5 rm_X5_both) {a1 : Int32} {a2 : Int32}  {x1 : Int32} {x2 : Int32} {s0 : StA} {v3 : Int32} {zs : StA} {rr : Int32} (hret : ReI cM E .int cX5_both zs rr) {bs : StA} {bw : (Int32) ⊕ (Unit)} (Kc : ∀ v, bw = .inl v → WS cM E 5 29 [(0, rf E 0), (1, .int x1), (2, .int x2), (3, .int v)] [] bs) (Ke : ∀ e, bw = .inr e → WS cM E 5 137 [(0, rf E 0), (2, .int x2)] [] bs) (hf : fb_X5_both_l29 a1 a2 x1 x2 s0 v3 = some (bs, bw)) : WS cM E 5 29 [(0, rf E 0), (1, .int x1), (2, .int x2), (3, .int v3)] [] s0 := by
  unfold fb_X5_both_l29 at hf
  refine s_iload_n O 3 dX5_both_29 rfl rfl ?_
  refine s_aload_n O 0 dX5_both_30 rfl rfl ?_
  refine s_getR O fg_RX5_10 cs_0 rfl dX5_both_31 ?_
  refine s_getI O fg_RX5_79 cs_1 rfl dX5_both_34 ?_
  refine s_icmp_ge (tgt := 137) O dX5_both_37 (by decide) (fun c => ?_) (fun c => ?_)
  · replace hf := if_t c hf
    refine s_loc [0, 2] rfl ?_
    cases hf
    exact Ke _ rfl
  · replace hf := if_f c hf
    refine s_iload_n O 3 dX5_both_40 rfl rfl ?_
    refine s_iconst (v := 1) O dX5_both_41 rfl ?_
    refine s_iadd O dX5_both_42 ?_
    refine s_topi (fun n10 en10 => ?_)
    replace hf := nmi_e en10 hf
    refine s_istore (lv' := [(4, .int n10), (0, rf E 0), (1, .int x1), (2, .int x2), (3, .int v3)]) O dX5_both_43 (by decide) rfl ?_
    refine s_loc [1, 2, 3, 4, 0] rfl ?_
    obtain ⟨s32, e33, c34, hf⟩ := bn_e hf
    refine lp_of (body := fun s v => fb_X5_both_l45 a1 a2 x1 x2 v3 s v) (X := fun s v => WS cM E 5 45 [(0, rf E 0), (1, .int x1), (2, .int x2), (3, .int v3), (4, .int v)] [] s) (Y := fun s e => WS cM E 5 131 [(0, rf E 0), (1, .int x1), (2, .int x2), (3, .int v3)] [] s) (fun s v s' w hb Kc Ke => wb_X5_both_l45 (rr := rr) O   hret Kc Ke hb) FU _ _ (s32, e33) c34 ?_
    show WS cM E 5 131 [(0, rf E 0), (1, .int x1), (2, .int x2), (3, .int v3)] [] s32
    refine s_iinc (v := (v3 + 1)) (lv' := [(3, .int (v3 + 1)), (0, rf E 0), (1, .int x1), (2, .int x2)]) O 3 dX5_both_131 rfl rfl (by decide) rfl ?_
    refine s_goto (tgt := 29) O dX5_both_134 (by decide) ?_
    refine s_loc [1, 2, 3, 0] rfl ?_
    cases hf
    exact Kc _ rfl
def fl_X5_both_l29 (a1 : Int32) (a2 : Int32) (x1 : Int32) (x2 : Int32) (s0 : StA) (v : Int32) : Option (StA × ((Unit))) :=
  it (fun s v => fb_X5_both_l29 a1 a2 x1 x2 s v) FU s0 v
def f_X5_both (a1 : Int32) (a2 : Int32) (s0 : StA) : Option (StA × Int32) :=
  bn (f_X5_isPlace a1 s0) (fun s1 r2 => (if r2 = 0 then some (s1, (-1)) else bn (f_X5_isIn a2 0 1 s1) (fun s4 r5 => (if r5 = 0 then some (s4, (-1)) else bn (f_X0_beginBelow 1000000 s4) (fun s7 r8 => bn (fl_X5_both_l29 a1 a2 a1 a2 s7 0) (fun s35 e36 => bn (f_X0_answer a2 s35) (fun s38 r39 => some (s38, r39))))))))
set_option maxHeartbeats 4000000 in
set_option maxRecDepth 100000 in
theorem k_X5_both {a1 : Int32} {a2 : Int32} {s0 zs : StA} {rr : Int32} (hf : f_X5_both a1 a2 s0 = some (zs, rr)) : CtI cM yX5_both cX5_both 5 .int rm_X5_both (fun ph => [.ref (ph 0), .int a1, .int a2]) s0 zs rr := by
  refine CtI.of (by decide +kernel) (fun ph => Nat.le_of_ble_eq_true rfl) (fun E O hret => ?_)
  have O : OK cM E RX5 cX5_both 5 rm_X5_both := O
  show WS cM E 5 0 [(0, rf E 0), (1, .int a1), (2, .int a2)] [] s0
  unfold f_X5_both at hf
  refine s_iload_n O 1 dX5_both_0 rfl rfl ?_
  obtain ⟨s1, r2, c3, hf⟩ := bn_e hf
  refine s_SI (As := [.int a1]) (st := []) O lk_RX5_183 (k_X5_isPlace c3) rfl rfl ⟨rfl, rfl⟩ ⟨Nat.le_of_ble_eq_true rfl, Nat.le_of_ble_eq_true rfl⟩ rfl (Nat.le_of_ble_eq_true rfl) dX5_both_1 ?_
  refine s_if_eq (tgt := 16) O dX5_both_4 (by decide) (fun c => ?_) (fun c => ?_)
  · replace hf := if_t c hf
    refine s_iconst (v := (-1)) O dX5_both_16 rfl ?_
    exact s_iret hret rfl dX5_both_17 hf
  · replace hf := if_f c hf
    refine s_iload_n O 2 dX5_both_7 rfl rfl ?_
    refine s_iconst (v := 0) O dX5_both_8 rfl ?_
    refine s_iconst (v := 1) O dX5_both_9 rfl ?_
    obtain ⟨s4, r5, c6, hf⟩ := bn_e hf
    refine s_SI (As := [.int a2, .int 0, .int 1]) (st := []) O lk_RX5_53 (k_X5_isIn c6) rfl rfl ⟨rfl, rfl⟩ ⟨Nat.le_of_ble_eq_true rfl, Nat.le_of_ble_eq_true rfl⟩ rfl (Nat.le_of_ble_eq_true rfl) dX5_both_10 ?_
    refine s_if_ne (tgt := 18) O dX5_both_13 (by decide) (fun c => ?_) (fun c => ?_)
    · replace hf := if_f c hf
      refine s_aload_n O 0 dX5_both_18 rfl rfl ?_
      refine s_getR O fg_RX5_43 cs_0 rfl dX5_both_19 ?_
      refine s_ldc O ci_RX5_189 dX5_both_22 ?_
      obtain ⟨s7, r8, c9, hf⟩ := bn_e hf
      refine s_VV (As := [.int 1000000]) (st := []) O lk_RX5_190 (k_X0_beginBelow c9) rfl cs_59 rfl rfl ⟨rfl, rfl⟩ ⟨Nat.le_of_ble_eq_true rfl, Nat.le_of_ble_eq_true rfl⟩ rfl (Nat.le_of_ble_eq_true rfl) dX5_both_24 ?_
      refine s_iconst (v := 0) O dX5_both_27 rfl ?_
      refine s_istore_n (lv' := [(3, .int 0), (0, rf E 0), (1, .int a1), (2, .int a2)]) O dX5_both_28 rfl (by decide) rfl ?_
      refine s_loc [1, 2, 3, 0] rfl ?_
      obtain ⟨s35, e36, c37, hf⟩ := bn_e hf
      refine lp_of (body := fun s v => fb_X5_both_l29 a1 a2 a1 a2 s v) (X := fun s v => WS cM E 5 29 [(0, rf E 0), (1, .int a1), (2, .int a2), (3, .int v)] [] s) (Y := fun s e => WS cM E 5 137 [(0, rf E 0), (2, .int a2)] [] s) (fun s v s' w hb Kc Ke => wb_X5_both_l29 (rr := rr) O   hret Kc Ke hb) FU _ _ (s35, e36) c37 ?_
      show WS cM E 5 137 [(0, rf E 0), (2, .int a2)] [] s35
      refine s_aload_n O 0 dX5_both_137 rfl rfl ?_
      refine s_getR O fg_RX5_43 cs_0 rfl dX5_both_138 ?_
      refine s_iload_n O 1 dX5_both_141 rfl rfl ?_
      obtain ⟨s38, r39, c40, hf⟩ := bn_e hf
      refine s_VI (As := [.int a2]) (st := []) O lk_RX5_197 (k_X0_answer c40) rfl cs_59 rfl rfl ⟨rfl, rfl⟩ ⟨Nat.le_of_ble_eq_true rfl, Nat.le_of_ble_eq_true rfl⟩ rfl (Nat.le_of_ble_eq_true rfl) dX5_both_142 ?_
      exact s_iret hret rfl dX5_both_145 hf
    · replace hf := if_t c hf
      refine s_iconst (v := (-1)) O dX5_both_16 rfl ?_
      exact s_iret hret rfl dX5_both_17 hf
def rm_X1_offFrom : Room := { frames := 1, cells := 0, slots := 0, locals := 21 }
def f_X1_offFrom (k : Nat) (a1 : Int32) (s0 : StA) : Option (StA × Int32) :=
  nmi (if 0 ≤ ((gi s0 k 9) - a1) then ((gi s0 k 9) - a1) else 0 - ((gi s0 k 9) - a1)) (fun n1 => some (s0, n1))
set_option maxHeartbeats 4000000 in
set_option maxRecDepth 100000 in
theorem k_X1_offFrom {k : Nat} {a1 : Int32} (hk : isFl k) {s0 zs : StA} {rr : Int32} (hf : f_X1_offFrom k a1 s0 = some (zs, rr)) : CtI cM yX1_offFrom cX1_offFrom 2 .int rm_X1_offFrom (fun ph => [.ref (ph k), .int a1]) s0 zs rr := by
  refine CtI.of (by decide +kernel) (fun ph => Nat.le_of_ble_eq_true rfl) (fun E O hret => ?_)
  have O : OK cM E RX1 cX1_offFrom 2 rm_X1_offFrom := O
  show WS cM E 2 0 [(0, rf E k), (1, .int a1)] [] s0
  unfold f_X1_offFrom at hf
  refine s_aload_n O 0 dX1_offFrom_0 rfl rfl ?_
  refine s_getI O fg_RX1_55 (fl_0 hk) rfl dX1_offFrom_1 ?_
  refine s_iload_n O 1 dX1_offFrom_4 rfl rfl ?_
  refine s_isub O dX1_offFrom_5 ?_
  refine s_mabs (st := []) O lk_RX1_91 ⟨Nat.le_of_ble_eq_true rfl, Nat.le_of_ble_eq_true rfl⟩ (Nat.le_of_ble_eq_true rfl) dX1_offFrom_6 ?_
  refine s_topi (fun n1 en1 => ?_)
  replace hf := nmi_e en1 hf
  exact s_iret hret rfl dX1_offFrom_9 hf
def rm_X5_when : Room := { frames := 5, cells := 0, slots := 0, locals := 108 }
def fj_X5_when_j99 (a1 : Int32) (a2 : Int32) (a3 : Int32) (a4 : Int32) (x1 : Int32) (x2 : Int32) (x3 : Int32) (x4 : Int32) (j5 : Int32) (s0 : StA) : Option (StA × ((Int32) ⊕ (Unit))) :=
  bn (f_X1_offFrom 12 x2 s0) (fun s23 r24 => bn (f_X0_offer j5 r24 s23) (fun s26 r27 => some (s26, .inl (j5 + 1))))
set_option maxHeartbeats 4000000 in
set_option maxRecDepth 100000 in
theorem wj_X5_when_j99 {E : XC} (O : OK cM E RX5 cX5_when 6 rm_X5_when) {a1 : Int32} {a2 : Int32} {a3 : Int32} {a4 : Int32}  {x1 : Int32} {x2 : Int32} {x3 : Int32} {x4 : Int32} {j5 : Int32} {s0 : StA} {zs : StA} {rr : Int32} (hret : ReI cM E .int cX5_when zs rr) {bs : StA} {bw : (Int32) ⊕ (Unit)} (Kc : ∀ v, bw = .inl v → WS cM E 6 49 [(0, rf E 0), (1, .int x1), (2, .int x2), (3, .int x3), (4, .int x4), (5, .int v)] [] bs) (Ke : ∀ e, bw = .inr e → WS cM E 6 122 [(0, rf E 0), (4, .int x4)] [] bs) (hf : fj_X5_when_j99 a1 a2 a3 a4 x1 x2 x3 x4 j5 s0 = some (bs, bw)) : WS cM E 6 99 [(0, rf E 0), (1, .int x1), (2, .int x2), (3, .int x3), (4, .int x4), (5, .int j5)] [] s0 := by
  unfold fj_X5_when_j99 at hf
  refine s_aload_n O 0 dX5_when_99 rfl rfl ?_
  refine s_getR O fg_RX5_43 cs_0 rfl dX5_when_100 ?_
  refine s_iload O 5 dX5_when_103 rfl ?_
  refine s_aload_n O 0 dX5_when_105 rfl rfl ?_
  refine s_getR O fg_RX5_16 cs_0 rfl dX5_when_106 ?_
  refine s_iload_n O 2 dX5_when_109 rfl rfl ?_
  obtain ⟨s23, r24, c25, hf⟩ := bn_e hf
  refine s_VI (As := [.int x2]) (st := [.int j5, rf E 59]) O lk_RX5_205 (k_X1_offFrom fl_is12 c25) rfl cs_12 rfl rfl ⟨rfl, rfl⟩ ⟨Nat.le_of_ble_eq_true rfl, Nat.le_of_ble_eq_true rfl⟩ rfl (Nat.le_of_ble_eq_true rfl) dX5_when_110 ?_
  obtain ⟨s26, r27, c28, hf⟩ := bn_e hf
  refine s_VV (As := [.int j5, .int r24]) (st := []) O lk_RX5_193 (k_X0_offer c28) rfl cs_59 rfl rfl ⟨rfl, rfl⟩ ⟨Nat.le_of_ble_eq_true rfl, Nat.le_of_ble_eq_true rfl⟩ rfl (Nat.le_of_ble_eq_true rfl) dX5_when_113 ?_
  refine s_iinc (v := (j5 + 1)) (lv' := [(5, .int (j5 + 1)), (0, rf E 0), (1, .int x1), (2, .int x2), (3, .int x3), (4, .int x4)]) O 5 dX5_when_116 rfl rfl (by decide) rfl ?_
  refine s_goto (tgt := 49) O dX5_when_119 (by decide) ?_
  refine s_loc [1, 2, 3, 4, 5, 0] rfl ?_
  cases hf
  exact Kc _ rfl
def fb_X5_when_l49 (a1 : Int32) (a2 : Int32) (a3 : Int32) (a4 : Int32) (x1 : Int32) (x2 : Int32) (x3 : Int32) (x4 : Int32) (s0 : StA) (v5 : Int32) : Option (StA × ((Int32) ⊕ (Unit))) :=
  (if 30 < v5 then some (s0, .inr ()) else bn (f_X5_restartTrial  s0) (fun s16 r17 => nmi (if x3 < v5 then x3 else v5) (fun n19 => bn (f_X1_passAll 12 n19 s16) (fun s20 r21 => (if x3 ≤ v5 then fj_X5_when_j99 a1 a2 a3 a4 x1 x2 x3 x4 v5 s20 else bn (f_X1_setSaid 12 x1 1 s20) (fun s29 r30 => bn (f_X1_passAll 12 (x3 - v5) s29) (fun s32 r33 => fj_X5_when_j99 a1 a2 a3 a4 x1 x2 x3 x4 v5 s32)))))))
set_option maxHeartbeats 4000000 in
set_option maxRecDepth 100000 in
theorem wb_X5_when_l49 {E : XC} (O : OK cM E RX5 cX5_when 6 rm_X5_when) {a1 : Int32} {a2 : Int32} {a3 : Int32} {a4 : Int32}  {x1 : Int32} {x2 : Int32} {x3 : Int32} {x4 : Int32} {s0 : StA} {v5 : Int32} {zs : StA} {rr : Int32} (hret : ReI cM E .int cX5_when zs rr) {bs : StA} {bw : (Int32) ⊕ (Unit)} (Kc : ∀ v, bw = .inl v → WS cM E 6 49 [(0, rf E 0), (1, .int x1), (2, .int x2), (3, .int x3), (4, .int x4), (5, .int v)] [] bs) (Ke : ∀ e, bw = .inr e → WS cM E 6 122 [(0, rf E 0), (4, .int x4)] [] bs) (hf : fb_X5_when_l49 a1 a2 a3 a4 x1 x2 x3 x4 s0 v5 = some (bs, bw)) : WS cM E 6 49 [(0, rf E 0), (1, .int x1), (2, .int x2), (3, .int x3), (4, .int x4), (5, .int v5)] [] s0 := by
  unfold fb_X5_when_l49 at hf
  refine s_iload O 5 dX5_when_49 rfl ?_
  refine s_bipush (v := 30) O dX5_when_51 rfl ?_
  refine s_icmp_gt (tgt := 122) O dX5_when_53 (by decide) (fun c => ?_) (fun c => ?_)
  · replace hf := if_t c hf
    refine s_loc [0, 4] rfl ?_
    cases hf
    exact Ke _ rfl
  · replace hf := if_f c hf
    refine s_aload_n O 0 dX5_when_56 rfl rfl ?_
    obtain ⟨s16, r17, c18, hf⟩ := bn_e hf
    refine s_VV (As := []) (st := []) O lk_RX5_168 (k_X5_restartTrial c18) rfl cs_0 rfl rfl ⟨rfl, rfl⟩ ⟨Nat.le_of_ble_eq_true rfl, Nat.le_of_ble_eq_true rfl⟩ rfl (Nat.le_of_ble_eq_true rfl) dX5_when_57 ?_
    refine s_aload_n O 0 dX5_when_60 rfl rfl ?_
    refine s_getR O fg_RX5_16 cs_0 rfl dX5_when_61 ?_
    refine s_iload O 5 dX5_when_64 rfl ?_
    refine s_iload_n O 3 dX5_when_66 rfl rfl ?_
    refine s_mmin (st := [rf E 12]) O lk_RX5_200 ⟨Nat.le_of_ble_eq_true rfl, Nat.le_of_ble_eq_true rfl⟩ (Nat.le_of_ble_eq_true rfl) dX5_when_67 ?_
    refine s_topi (fun n19 en19 => ?_)
    replace hf := nmi_e en19 hf
    obtain ⟨s20, r21, c22, hf⟩ := bn_e hf
    refine s_VV (As := [.int n19]) (st := []) O lk_RX5_161 (k_X1_passAll fl_is12 c22) rfl cs_12 rfl rfl ⟨rfl, rfl⟩ ⟨Nat.le_of_ble_eq_true rfl, Nat.le_of_ble_eq_true rfl⟩ rfl (Nat.le_of_ble_eq_true rfl) dX5_when_70 ?_
    refine s_iload O 5 dX5_when_73 rfl ?_
    refine s_iload_n O 3 dX5_when_75 rfl rfl ?_
    refine s_icmp_ge (tgt := 99) O dX5_when_76 (by decide) (fun c => ?_) (fun c => ?_)
    · replace hf := if_t c hf
      exact wj_X5_when_j99 (rr := rr) O   hret Kc Ke hf
    · replace hf := if_f c hf
      refine s_aload_n O 0 dX5_when_79 rfl rfl ?_
      refine s_getR O fg_RX5_16 cs_0 rfl dX5_when_80 ?_
      refine s_iload_n O 1 dX5_when_83 rfl rfl ?_
      refine s_iconst (v := 1) O dX5_when_84 rfl ?_
      obtain ⟨s29, r30, c31, hf⟩ := bn_e hf
      refine s_VV (As := [.int x1, .int 1]) (st := []) O lk_RX5_152 (k_X1_setSaid fl_is12 c31) rfl cs_12 rfl rfl ⟨rfl, rfl⟩ ⟨Nat.le_of_ble_eq_true rfl, Nat.le_of_ble_eq_true rfl⟩ rfl (Nat.le_of_ble_eq_true rfl) dX5_when_85 ?_
      refine s_aload_n O 0 dX5_when_88 rfl rfl ?_
      refine s_getR O fg_RX5_16 cs_0 rfl dX5_when_89 ?_
      refine s_iload_n O 3 dX5_when_92 rfl rfl ?_
      refine s_iload O 5 dX5_when_93 rfl ?_
      refine s_isub O dX5_when_95 ?_
      obtain ⟨s32, r33, c34, hf⟩ := bn_e hf
      refine s_VV (As := [.int (x3 - v5)]) (st := []) O lk_RX5_161 (k_X1_passAll fl_is12 c34) rfl cs_12 rfl rfl ⟨rfl, rfl⟩ ⟨Nat.le_of_ble_eq_true rfl, Nat.le_of_ble_eq_true rfl⟩ rfl (Nat.le_of_ble_eq_true rfl) dX5_when_96 ?_
      exact wj_X5_when_j99 (rr := rr) O   hret Kc Ke hf
def fl_X5_when_l49 (a1 : Int32) (a2 : Int32) (a3 : Int32) (a4 : Int32) (x1 : Int32) (x2 : Int32) (x3 : Int32) (x4 : Int32) (s0 : StA) (v : Int32) : Option (StA × ((Unit))) :=
  it (fun s v => fb_X5_when_l49 a1 a2 a3 a4 x1 x2 x3 x4 s v) FU s0 v
def f_X5_when (a1 : Int32) (a2 : Int32) (a3 : Int32) (a4 : Int32) (s0 : StA) : Option (StA × Int32) :=
  bn (f_X1_hasThing 1 a1 s0) (fun s1 r2 => (if r2 = 0 then some (s1, (-1)) else bn (f_X5_isPlace a2 s1) (fun s4 r5 => (if r5 = 0 then some (s4, (-1)) else bn (f_X5_isForecast a3 s4) (fun s7 r8 => (if r8 = 0 then some (s7, (-1)) else bn (f_X5_isIn a4 0 1 s7) (fun s10 r11 => (if r11 = 0 then some (s10, (-1)) else bn (f_X0_beginBelow 1000000 s10) (fun s13 r14 => bn (fl_X5_when_l49 a1 a2 a3 a4 a1 a2 a3 a4 s13 0) (fun s35 e36 => bn (f_X0_answer a4 s35) (fun s38 r39 => some (s38, r39))))))))))))
set_option maxHeartbeats 4000000 in
set_option maxRecDepth 100000 in
theorem k_X5_when {a1 : Int32} {a2 : Int32} {a3 : Int32} {a4 : Int32} {s0 zs : StA} {rr : Int32} (hf : f_X5_when a1 a2 a3 a4 s0 = some (zs, rr)) : CtI cM yX5_when cX5_when 6 .int rm_X5_when (fun ph => [.ref (ph 0), .int a1, .int a2, .int a3, .int a4]) s0 zs rr := by
  refine CtI.of (by decide +kernel) (fun ph => Nat.le_of_ble_eq_true rfl) (fun E O hret => ?_)
  have O : OK cM E RX5 cX5_when 6 rm_X5_when := O
  show WS cM E 6 0 [(0, rf E 0), (1, .int a1), (2, .int a2), (3, .int a3), (4, .int a4)] [] s0
  unfold f_X5_when at hf
  refine s_aload_n O 0 dX5_when_0 rfl rfl ?_
  refine s_getR O fg_RX5_10 cs_0 rfl dX5_when_1 ?_
  refine s_iload_n O 1 dX5_when_4 rfl rfl ?_
  obtain ⟨s1, r2, c3, hf⟩ := bn_e hf
  refine s_VI (As := [.int a1]) (st := []) O lk_RX5_110 (k_X1_hasThing fl_is1 c3) rfl cs_1 rfl rfl ⟨rfl, rfl⟩ ⟨Nat.le_of_ble_eq_true rfl, Nat.le_of_ble_eq_true rfl⟩ rfl (Nat.le_of_ble_eq_true rfl) dX5_when_5 ?_
  refine s_if_eq (tgt := 35) O dX5_when_8 (by decide) (fun c => ?_) (fun c => ?_)
  · replace hf := if_t c hf
    refine s_iconst (v := (-1)) O dX5_when_35 rfl ?_
    exact s_iret hret rfl dX5_when_36 hf
  · replace hf := if_f c hf
    refine s_iload_n O 2 dX5_when_11 rfl rfl ?_
    obtain ⟨s4, r5, c6, hf⟩ := bn_e hf
    refine s_SI (As := [.int a2]) (st := []) O lk_RX5_183 (k_X5_isPlace c6) rfl rfl ⟨rfl, rfl⟩ ⟨Nat.le_of_ble_eq_true rfl, Nat.le_of_ble_eq_true rfl⟩ rfl (Nat.le_of_ble_eq_true rfl) dX5_when_12 ?_
    refine s_if_eq (tgt := 35) O dX5_when_15 (by decide) (fun c => ?_) (fun c => ?_)
    · replace hf := if_t c hf
      refine s_iconst (v := (-1)) O dX5_when_35 rfl ?_
      exact s_iret hret rfl dX5_when_36 hf
    · replace hf := if_f c hf
      refine s_iload_n O 3 dX5_when_18 rfl rfl ?_
      obtain ⟨s7, r8, c9, hf⟩ := bn_e hf
      refine s_SI (As := [.int a3]) (st := []) O lk_RX5_165 (k_X5_isForecast c9) rfl rfl ⟨rfl, rfl⟩ ⟨Nat.le_of_ble_eq_true rfl, Nat.le_of_ble_eq_true rfl⟩ rfl (Nat.le_of_ble_eq_true rfl) dX5_when_19 ?_
      refine s_if_eq (tgt := 35) O dX5_when_22 (by decide) (fun c => ?_) (fun c => ?_)
      · replace hf := if_t c hf
        refine s_iconst (v := (-1)) O dX5_when_35 rfl ?_
        exact s_iret hret rfl dX5_when_36 hf
      · replace hf := if_f c hf
        refine s_iload O 4 dX5_when_25 rfl ?_
        refine s_iconst (v := 0) O dX5_when_27 rfl ?_
        refine s_iconst (v := 1) O dX5_when_28 rfl ?_
        obtain ⟨s10, r11, c12, hf⟩ := bn_e hf
        refine s_SI (As := [.int a4, .int 0, .int 1]) (st := []) O lk_RX5_53 (k_X5_isIn c12) rfl rfl ⟨rfl, rfl⟩ ⟨Nat.le_of_ble_eq_true rfl, Nat.le_of_ble_eq_true rfl⟩ rfl (Nat.le_of_ble_eq_true rfl) dX5_when_29 ?_
        refine s_if_ne (tgt := 37) O dX5_when_32 (by decide) (fun c => ?_) (fun c => ?_)
        · replace hf := if_f c hf
          refine s_aload_n O 0 dX5_when_37 rfl rfl ?_
          refine s_getR O fg_RX5_43 cs_0 rfl dX5_when_38 ?_
          refine s_ldc O ci_RX5_189 dX5_when_41 ?_
          obtain ⟨s13, r14, c15, hf⟩ := bn_e hf
          refine s_VV (As := [.int 1000000]) (st := []) O lk_RX5_190 (k_X0_beginBelow c15) rfl cs_59 rfl rfl ⟨rfl, rfl⟩ ⟨Nat.le_of_ble_eq_true rfl, Nat.le_of_ble_eq_true rfl⟩ rfl (Nat.le_of_ble_eq_true rfl) dX5_when_43 ?_
          refine s_iconst (v := 0) O dX5_when_46 rfl ?_
          refine s_istore (lv' := [(5, .int 0), (0, rf E 0), (1, .int a1), (2, .int a2), (3, .int a3), (4, .int a4)]) O dX5_when_47 (by decide) rfl ?_
          refine s_loc [1, 2, 3, 4, 5, 0] rfl ?_
          obtain ⟨s35, e36, c37, hf⟩ := bn_e hf
          refine lp_of (body := fun s v => fb_X5_when_l49 a1 a2 a3 a4 a1 a2 a3 a4 s v) (X := fun s v => WS cM E 6 49 [(0, rf E 0), (1, .int a1), (2, .int a2), (3, .int a3), (4, .int a4), (5, .int v)] [] s) (Y := fun s e => WS cM E 6 122 [(0, rf E 0), (4, .int a4)] [] s) (fun s v s' w hb Kc Ke => wb_X5_when_l49 (rr := rr) O   hret Kc Ke hb) FU _ _ (s35, e36) c37 ?_
          show WS cM E 6 122 [(0, rf E 0), (4, .int a4)] [] s35
          refine s_aload_n O 0 dX5_when_122 rfl rfl ?_
          refine s_getR O fg_RX5_43 cs_0 rfl dX5_when_123 ?_
          refine s_iload O 1 dX5_when_126 rfl ?_
          obtain ⟨s38, r39, c40, hf⟩ := bn_e hf
          refine s_VI (As := [.int a4]) (st := []) O lk_RX5_197 (k_X0_answer c40) rfl cs_59 rfl rfl ⟨rfl, rfl⟩ ⟨Nat.le_of_ble_eq_true rfl, Nat.le_of_ble_eq_true rfl⟩ rfl (Nat.le_of_ble_eq_true rfl) dX5_when_128 ?_
          exact s_iret hret rfl dX5_when_131 hf
        · replace hf := if_t c hf
          refine s_iconst (v := (-1)) O dX5_when_35 rfl ?_
          exact s_iret hret rfl dX5_when_36 hf
