def rm_X1_passAll : Room := { frames := 4, cells := 0, slots := 0, locals := 86 }
def fb_X1_passAll_l2 (k : Nat) (a1 : Int32) (x1 : Int32) (s0 : StA) (v2 : Int32) : Option (StA × ((Int32) ⊕ (Unit))) :=
  (if x1 ≤ v2 then some (s0, .inr ()) else bn (f_X1_pass k s0) (fun s1 r2 => some (s1, .inl (v2 + 1))))
set_option maxHeartbeats 4000000 in
set_option maxRecDepth 100000 in
theorem wb_X1_passAll_l2 {E : XC} (O : OK cM E RX1 cX1_passAll 3 rm_X1_passAll) {k : Nat} {a1 : Int32} (hk : isFl k)  {x1 : Int32} {s0 : StA} {v2 : Int32} {zs : StA} {rr : Unit} (hret : ReV cM E cX1_passAll zs) {bs : StA} {bw : (Int32) ⊕ (Unit)} (Kc : ∀ v, bw = .inl v → WS cM E 3 2 [(0, rf E k), (1, .int x1), (2, .int v)] [] bs) (Ke : ∀ e, bw = .inr e → WS cM E 3 17 [] [] bs) (hf : fb_X1_passAll_l2 k a1 x1 s0 v2 = some (bs, bw)) : WS cM E 3 2 [(0, rf E k), (1, .int x1), (2, .int v2)] [] s0 := by
  unfold fb_X1_passAll_l2 at hf
  refine s_iload_n O 2 dX1_passAll_2 rfl rfl ?_
  refine s_iload_n O 1 dX1_passAll_3 rfl rfl ?_
  refine s_icmp_ge (tgt := 17) O dX1_passAll_4 (by decide) (fun c => ?_) (fun c => ?_)
  · replace hf := if_t c hf
    refine s_loc [] rfl ?_
    cases hf
    exact Ke _ rfl
  · replace hf := if_f c hf
    refine s_aload_n O 0 dX1_passAll_7 rfl rfl ?_
    obtain ⟨s1, r2, c3, hf⟩ := bn_e hf
    refine s_VV (As := []) (st := []) O lk_RX1_113 (k_X1_pass hk c3) rfl (fl_0 hk) rfl rfl ⟨rfl, rfl⟩ ⟨Nat.le_of_ble_eq_true rfl, Nat.le_of_ble_eq_true rfl⟩ rfl (Nat.le_of_ble_eq_true rfl) dX1_passAll_8 ?_
    refine s_iinc (v := (v2 + 1)) (lv' := [(2, .int (v2 + 1)), (0, rf E k), (1, .int x1)]) O 2 dX1_passAll_11 rfl rfl (by decide) rfl ?_
    refine s_goto (tgt := 2) O dX1_passAll_14 (by decide) ?_
    refine s_loc [1, 2, 0] rfl ?_
    cases hf
    exact Kc _ rfl
def fl_X1_passAll_l2 (k : Nat) (a1 : Int32) (x1 : Int32) (s0 : StA) (v : Int32) : Option (StA × ((Unit))) :=
  it (fun s v => fb_X1_passAll_l2 k a1 x1 s v) FU s0 v
def f_X1_passAll (k : Nat) (a1 : Int32) (s0 : StA) : Option (StA × Unit) :=
  bn (fl_X1_passAll_l2 k a1 a1 s0 0) (fun s4 e5 => some (s4, ()))
set_option maxHeartbeats 4000000 in
set_option maxRecDepth 100000 in
theorem k_X1_passAll {k : Nat} {a1 : Int32} (hk : isFl k) {s0 zs : StA} {rr : Unit} (hf : f_X1_passAll k a1 s0 = some (zs, rr)) : CtV cM yX1_passAll cX1_passAll 3 rm_X1_passAll (fun ph => [.ref (ph k), .int a1]) s0 zs := by
  refine CtV.of (by decide +kernel) (fun ph => Nat.le_of_ble_eq_true rfl) (fun E O hret => ?_)
  have O : OK cM E RX1 cX1_passAll 3 rm_X1_passAll := O
  show WS cM E 3 0 [(0, rf E k), (1, .int a1)] [] s0
  unfold f_X1_passAll at hf
  refine s_iconst (v := 0) O dX1_passAll_0 rfl ?_
  refine s_istore_n (lv' := [(2, .int 0), (0, rf E k), (1, .int a1)]) O dX1_passAll_1 rfl (by decide) rfl ?_
  refine s_loc [1, 2, 0] rfl ?_
  obtain ⟨s4, e5, c6, hf⟩ := bn_e hf
  refine lp_of (body := fun s v => fb_X1_passAll_l2 k a1 a1 s v) (X := fun s v => WS cM E 3 2 [(0, rf E k), (1, .int a1), (2, .int v)] [] s) (Y := fun s e => WS cM E 3 17 [] [] s) (fun s v s' w hb Kc Ke => wb_X1_passAll_l2 (rr := rr) O hk  hret Kc Ke hb) FU _ _ (s4, e5) c6 ?_
  show WS cM E 3 17 [] [] s4
  exact s_vret hret dX1_passAll_17 hf
def rm_X5_minutes : Room := { frames := 5, cells := 0, slots := 0, locals := 108 }
def f_X5_minutes (a1 : Int32) (s0 : StA) : Option (StA × Int32) :=
  bn (f_X5_isIn a1 0 30 s0) (fun s1 r2 => (if r2 = 0 then some (s1, (-1)) else (if ((gi s1 1 11) + a1) < 1000 then bn (f_X1_passAll 1 a1 s1) (fun s4 r5 => some (s4, (gi s4 1 8))) else some (s1, (-3)))))
set_option maxHeartbeats 4000000 in
set_option maxRecDepth 100000 in
theorem k_X5_minutes {a1 : Int32} {s0 zs : StA} {rr : Int32} (hf : f_X5_minutes a1 s0 = some (zs, rr)) : CtI cM yX5_minutes cX5_minutes 2 .int rm_X5_minutes (fun ph => [.ref (ph 0), .int a1]) s0 zs rr := by
  refine CtI.of (by decide +kernel) (fun ph => Nat.le_of_ble_eq_true rfl) (fun E O hret => ?_)
  have O : OK cM E RX5 cX5_minutes 2 rm_X5_minutes := O
  show WS cM E 2 0 [(0, rf E 0), (1, .int a1)] [] s0
  unfold f_X5_minutes at hf
  refine s_iload_n O 1 dX5_minutes_0 rfl rfl ?_
  refine s_iconst (v := 0) O dX5_minutes_1 rfl ?_
  refine s_bipush (v := 30) O dX5_minutes_2 rfl ?_
  obtain ⟨s1, r2, c3, hf⟩ := bn_e hf
  refine s_SI (As := [.int a1, .int 0, .int 30]) (st := []) O lk_RX5_57 (k_X5_isIn c3) rfl rfl ⟨rfl, rfl⟩ ⟨Nat.le_of_ble_eq_true rfl, Nat.le_of_ble_eq_true rfl⟩ rfl (Nat.le_of_ble_eq_true rfl) dX5_minutes_4 ?_
  refine s_if_ne (tgt := 12) O dX5_minutes_7 (by decide) (fun c => ?_) (fun c => ?_)
  · replace hf := if_f c hf
    refine s_aload_n O 0 dX5_minutes_12 rfl rfl ?_
    refine s_getR O fg_RX5_10 cs_0 rfl dX5_minutes_13 ?_
    refine s_getI O fg_RX5_86 cs_1 rfl dX5_minutes_16 ?_
    refine s_iload_n O 1 dX5_minutes_19 rfl rfl ?_
    refine s_iadd O dX5_minutes_20 ?_
    refine s_sipush (v := 1000) O dX5_minutes_21 rfl ?_
    refine s_icmp_lt (tgt := 30) O dX5_minutes_24 (by decide) (fun c => ?_) (fun c => ?_)
    · replace hf := if_t c hf
      refine s_aload_n O 0 dX5_minutes_30 rfl rfl ?_
      refine s_getR O fg_RX5_10 cs_0 rfl dX5_minutes_31 ?_
      refine s_iload_n O 1 dX5_minutes_34 rfl rfl ?_
      obtain ⟨s4, r5, c6, hf⟩ := bn_e hf
      refine s_VV (As := [.int a1]) (st := []) O lk_RX5_164 (k_X1_passAll fl_is1 c6) rfl cs_1 rfl rfl ⟨rfl, rfl⟩ ⟨Nat.le_of_ble_eq_true rfl, Nat.le_of_ble_eq_true rfl⟩ rfl (Nat.le_of_ble_eq_true rfl) dX5_minutes_35 ?_
      refine s_aload_n O 0 dX5_minutes_38 rfl rfl ?_
      refine s_getR O fg_RX5_10 cs_0 rfl dX5_minutes_39 ?_
      refine s_getI O fg_RX5_89 cs_1 rfl dX5_minutes_42 ?_
      exact s_iret hret rfl dX5_minutes_45 hf
    · replace hf := if_f c hf
      refine s_bipush (v := (-3)) O dX5_minutes_27 rfl ?_
      exact s_iret hret rfl dX5_minutes_29 hf
  · replace hf := if_t c hf
    refine s_iconst (v := (-1)) O dX5_minutes_10 rfl ?_
    exact s_iret hret rfl dX5_minutes_11 hf
def rm_X5_isForecast : Room := { frames := 1, cells := 0, slots := 0, locals := 22 }
def f_X5_isForecast (a0 : Int32) (s0 : StA) : Option (StA × Int32) :=
  bn (f_X5_isIn a0 0 60 s0) (fun s1 r2 => gz r2 (some (s1, r2)))
set_option maxHeartbeats 4000000 in
set_option maxRecDepth 100000 in
theorem k_X5_isForecast {a0 : Int32} {s0 zs : StA} {rr : Int32} (hf : f_X5_isForecast a0 s0 = some (zs, rr)) : CtI cM yX5_isForecast cX5_isForecast 1 .boolean rm_X5_isForecast (fun ph => [.int a0]) s0 zs rr := by
  refine CtI.of (by decide +kernel) (fun ph => Nat.le_of_ble_eq_true rfl) (fun E O hret => ?_)
  have O : OK cM E RX5 cX5_isForecast 1 rm_X5_isForecast := O
  show WS cM E 1 0 [(0, .int a0)] [] s0
  unfold f_X5_isForecast at hf
  refine s_iload_n O 0 dX5_isForecast_0 rfl rfl ?_
  refine s_iconst (v := 0) O dX5_isForecast_1 rfl ?_
  refine s_bipush (v := 60) O dX5_isForecast_2 rfl ?_
  obtain ⟨s1, r2, c3, hf⟩ := bn_e hf
  refine s_SI (As := [.int a0, .int 0, .int 60]) (st := []) O lk_RX5_57 (k_X5_isIn c3) rfl rfl ⟨rfl, rfl⟩ ⟨Nat.le_of_ble_eq_true rfl, Nat.le_of_ble_eq_true rfl⟩ rfl (Nat.le_of_ble_eq_true rfl) dX5_isForecast_4 ?_
  obtain ⟨hz, hf⟩ := gz_e hf
  exact s_iret hret hz.nar dX5_isForecast_7 hf
def rm_X5_restartTrial : Room := { frames := 2, cells := 0, slots := 0, locals := 44 }
def f_X5_restartTrial  (s0 : StA) : Option (StA × Unit) :=
  bn (f_X1_copyFrom 12 1 s0) (fun s1 r2 => some (s1, ()))
set_option maxHeartbeats 4000000 in
set_option maxRecDepth 100000 in
theorem k_X5_restartTrial  {s0 zs : StA} {rr : Unit} (hf : f_X5_restartTrial  s0 = some (zs, rr)) : CtV cM yX5_restartTrial cX5_restartTrial 1 rm_X5_restartTrial (fun ph => [.ref (ph 0)]) s0 zs := by
  refine CtV.of (by decide +kernel) (fun ph => Nat.le_of_ble_eq_true rfl) (fun E O hret => ?_)
  have O : OK cM E RX5 cX5_restartTrial 1 rm_X5_restartTrial := O
  show WS cM E 1 0 [(0, rf E 0)] [] s0
  unfold f_X5_restartTrial at hf
  refine s_aload_n O 0 dX5_restartTrial_0 rfl rfl ?_
  refine s_getR O fg_RX5_16 cs_0 rfl dX5_restartTrial_1 ?_
  refine s_aload_n O 0 dX5_restartTrial_4 rfl rfl ?_
  refine s_getR O fg_RX5_10 cs_0 rfl dX5_restartTrial_5 ?_
  obtain ⟨s1, r2, c3, hf⟩ := bn_e hf
  refine s_VV (As := [rf E 1]) (st := []) O lk_RX5_72 (k_X1_copyFrom fl_is12 fl_is1 c3) rfl cs_12 rfl rfl ⟨rfl, rfl⟩ ⟨Nat.le_of_ble_eq_true rfl, Nat.le_of_ble_eq_true rfl⟩ rfl (Nat.le_of_ble_eq_true rfl) dX5_restartTrial_8 ?_
  exact s_vret hret dX5_restartTrial_11 hf
def rm_X1_greatestHeight : Room := { frames := 4, cells := 0, slots := 0, locals := 86 }
def fb_X1_greatestHeight_l7 (k : Nat) (a1 : Int32) (x1 : Int32) (s0 : StA) (v2 : Int32) (v3 : Int32) : Option (StA × ((Int32 × Int32) ⊕ (Int32))) :=
  (if x1 ≤ v3 then some (s0, .inr v2) else bn (f_X1_pass k s0) (fun s2 r3 => nmi (if v2 < (gi s2 k 8) then (gi s2 k 8) else v2) (fun n5 => some (s2, .inl (n5, (v3 + 1))))))
set_option maxHeartbeats 4000000 in
set_option maxRecDepth 100000 in
theorem wb_X1_greatestHeight_l7 {E : XC} (O : OK cM E RX1 cX1_greatestHeight 4 rm_X1_greatestHeight) {k : Nat} {a1 : Int32} (hk : isFl k)  {x1 : Int32} {s0 : StA} {v2 : Int32} {v3 : Int32} {zs : StA} {rr : Int32} (hret : ReI cM E .int cX1_greatestHeight zs rr) {bs : StA} {bw : (Int32 × Int32) ⊕ (Int32)} (Kc : ∀ v, bw = .inl v → WS cM E 4 7 [(0, rf E k), (1, .int x1), (2, .int v.1), (3, .int v.2)] [] bs) (Ke : ∀ e, bw = .inr e → WS cM E 4 31 [(2, .int e)] [] bs) (hf : fb_X1_greatestHeight_l7 k a1 x1 s0 v2 v3 = some (bs, bw)) : WS cM E 4 7 [(0, rf E k), (1, .int x1), (2, .int v2), (3, .int v3)] [] s0 := by
  unfold fb_X1_greatestHeight_l7 at hf
  refine s_iload_n O 3 dX1_greatestHeight_7 rfl rfl ?_
  refine s_iload_n O 1 dX1_greatestHeight_8 rfl rfl ?_
  refine s_icmp_ge (tgt := 31) O dX1_greatestHeight_9 (by decide) (fun c => ?_) (fun c => ?_)
  · replace hf := if_t c hf
    refine s_loc [2] rfl ?_
    cases hf
    exact Ke _ rfl
  · replace hf := if_f c hf
    refine s_aload_n O 0 dX1_greatestHeight_12 rfl rfl ?_
    obtain ⟨s2, r3, c4, hf⟩ := bn_e hf
    refine s_VV (As := []) (st := []) O lk_RX1_113 (k_X1_pass hk c4) rfl (fl_0 hk) rfl rfl ⟨rfl, rfl⟩ ⟨Nat.le_of_ble_eq_true rfl, Nat.le_of_ble_eq_true rfl⟩ rfl (Nat.le_of_ble_eq_true rfl) dX1_greatestHeight_13 ?_
    refine s_iload_n O 2 dX1_greatestHeight_16 rfl rfl ?_
    refine s_aload_n O 0 dX1_greatestHeight_17 rfl rfl ?_
    refine s_getI O fg_RX1_52 (fl_0 hk) rfl dX1_greatestHeight_18 ?_
    refine s_mmax (st := []) O lk_RX1_116 ⟨Nat.le_of_ble_eq_true rfl, Nat.le_of_ble_eq_true rfl⟩ (Nat.le_of_ble_eq_true rfl) dX1_greatestHeight_21 ?_
    refine s_topi (fun n5 en5 => ?_)
    replace hf := nmi_e en5 hf
    refine s_istore_n (lv' := [(2, .int n5), (0, rf E k), (1, .int x1), (3, .int v3)]) O dX1_greatestHeight_24 rfl (by decide) rfl ?_
    refine s_iinc (v := (v3 + 1)) (lv' := [(3, .int (v3 + 1)), (2, .int n5), (0, rf E k), (1, .int x1)]) O 3 dX1_greatestHeight_25 rfl rfl (by decide) rfl ?_
    refine s_goto (tgt := 7) O dX1_greatestHeight_28 (by decide) ?_
    refine s_loc [2, 3, 1, 0] rfl ?_
    cases hf
    exact Kc _ rfl
def fl_X1_greatestHeight_l7 (k : Nat) (a1 : Int32) (x1 : Int32) (s0 : StA) (v : Int32 × Int32) : Option (StA × ((Int32))) :=
  it (fun s v => fb_X1_greatestHeight_l7 k a1 x1 s v.1 v.2) FU s0 v
def f_X1_greatestHeight (k : Nat) (a1 : Int32) (s0 : StA) : Option (StA × Int32) :=
  nmi (gi s0 k 8) (fun n1 => bn (fl_X1_greatestHeight_l7 k a1 a1 s0 (n1, 0)) (fun s6 u7_2 => some (s6, u7_2)))
set_option maxHeartbeats 4000000 in
set_option maxRecDepth 100000 in
theorem k_X1_greatestHeight {k : Nat} {a1 : Int32} (hk : isFl k) {s0 zs : StA} {rr : Int32} (hf : f_X1_greatestHeight k a1 s0 = some (zs, rr)) : CtI cM yX1_greatestHeight cX1_greatestHeight 4 .int rm_X1_greatestHeight (fun ph => [.ref (ph k), .int a1]) s0 zs rr := by
  refine CtI.of (by decide +kernel) (fun ph => Nat.le_of_ble_eq_true rfl) (fun E O hret => ?_)
  have O : OK cM E RX1 cX1_greatestHeight 4 rm_X1_greatestHeight := O
  show WS cM E 4 0 [(0, rf E k), (1, .int a1)] [] s0
  unfold f_X1_greatestHeight at hf
  refine s_aload_n O 0 dX1_greatestHeight_0 rfl rfl ?_
  refine s_getI O fg_RX1_52 (fl_0 hk) rfl dX1_greatestHeight_1 ?_
  refine s_topi (fun n1 en1 => ?_)
  replace hf := nmi_e en1 hf
  refine s_istore_n (lv' := [(2, .int n1), (0, rf E k), (1, .int a1)]) O dX1_greatestHeight_4 rfl (by decide) rfl ?_
  refine s_iconst (v := 0) O dX1_greatestHeight_5 rfl ?_
  refine s_istore_n (lv' := [(3, .int 0), (2, .int n1), (0, rf E k), (1, .int a1)]) O dX1_greatestHeight_6 rfl (by decide) rfl ?_
  refine s_loc [2, 3, 1, 0] rfl ?_
  obtain ⟨s6, u7_2, c8, hf⟩ := bn_e hf
  refine lp_of (body := fun s v => fb_X1_greatestHeight_l7 k a1 a1 s v.1 v.2) (X := fun s v => WS cM E 4 7 [(0, rf E k), (1, .int a1), (2, .int v.1), (3, .int v.2)] [] s) (Y := fun s e => WS cM E 4 31 [(2, .int e)] [] s) (fun s v s' w hb Kc Ke => wb_X1_greatestHeight_l7 (rr := rr) O hk  hret Kc Ke hb) FU _ _ (s6, u7_2) c8 ?_
  show WS cM E 4 31 [(2, .int u7_2)] [] s6
  refine s_iload_n O 0 dX1_greatestHeight_31 rfl rfl ?_
  exact s_iret hret rfl dX1_greatestHeight_32 hf
def rm_X1_timesDown : Room := { frames := 4, cells := 0, slots := 0, locals := 86 }
def fb_X1_timesDown_l4 (k : Nat) (a1 : Int32) (x1 : Int32) (s0 : StA) (v2 : Int32) (v3 : Int32) : Option (StA × ((Int32 × Int32) ⊕ (Int32))) :=
  (if x1 ≤ v3 then some (s0, .inr v2) else bn (f_X1_pass k s0) (fun s1 r2 => (if (gi s1 k 8) = 0 then nmi (v2 + 1) (fun n5 => some (s1, .inl (n5, (v3 + 1)))) else nmi (v2 + 0) (fun n4 => some (s1, .inl (n4, (v3 + 1)))))))
set_option maxHeartbeats 4000000 in
set_option maxRecDepth 100000 in
theorem wb_X1_timesDown_l4 {E : XC} (O : OK cM E RX1 cX1_timesDown 4 rm_X1_timesDown) {k : Nat} {a1 : Int32} (hk : isFl k)  {x1 : Int32} {s0 : StA} {v2 : Int32} {v3 : Int32} {zs : StA} {rr : Int32} (hret : ReI cM E .int cX1_timesDown zs rr) {bs : StA} {bw : (Int32 × Int32) ⊕ (Int32)} (Kc : ∀ v, bw = .inl v → WS cM E 4 4 [(0, rf E k), (1, .int x1), (2, .int v.1), (3, .int v.2)] [] bs) (Ke : ∀ e, bw = .inr e → WS cM E 4 34 [(2, .int e)] [] bs) (hf : fb_X1_timesDown_l4 k a1 x1 s0 v2 v3 = some (bs, bw)) : WS cM E 4 4 [(0, rf E k), (1, .int x1), (2, .int v2), (3, .int v3)] [] s0 := by
  unfold fb_X1_timesDown_l4 at hf
  refine s_iload_n O 3 dX1_timesDown_4 rfl rfl ?_
  refine s_iload_n O 1 dX1_timesDown_5 rfl rfl ?_
  refine s_icmp_ge (tgt := 34) O dX1_timesDown_6 (by decide) (fun c => ?_) (fun c => ?_)
  · replace hf := if_t c hf
    refine s_loc [2] rfl ?_
    cases hf
    exact Ke _ rfl
  · replace hf := if_f c hf
    refine s_aload_n O 0 dX1_timesDown_9 rfl rfl ?_
    obtain ⟨s1, r2, c3, hf⟩ := bn_e hf
    refine s_VV (As := []) (st := []) O lk_RX1_113 (k_X1_pass hk c3) rfl (fl_0 hk) rfl rfl ⟨rfl, rfl⟩ ⟨Nat.le_of_ble_eq_true rfl, Nat.le_of_ble_eq_true rfl⟩ rfl (Nat.le_of_ble_eq_true rfl) dX1_timesDown_10 ?_
    refine s_iload_n O 2 dX1_timesDown_13 rfl rfl ?_
    refine s_aload_n O 0 dX1_timesDown_14 rfl rfl ?_
    refine s_getI O fg_RX1_52 (fl_0 hk) rfl dX1_timesDown_15 ?_
    refine s_if_ne (tgt := 25) O dX1_timesDown_18 (by decide) (fun c => ?_) (fun c => ?_)
    · replace hf := if_f c hf
      refine s_iconst (v := 0) O dX1_timesDown_25 rfl ?_
      refine s_iadd O dX1_timesDown_26 ?_
      refine s_topi (fun n4 en4 => ?_)
      replace hf := nmi_e en4 hf
      refine s_istore_n (lv' := [(2, .int n4), (0, rf E k), (1, .int x1), (3, .int v3)]) O dX1_timesDown_27 rfl (by decide) rfl ?_
      refine s_iinc (v := (v3 + 1)) (lv' := [(3, .int (v3 + 1)), (2, .int n4), (0, rf E k), (1, .int x1)]) O 3 dX1_timesDown_28 rfl rfl (by decide) rfl ?_
      refine s_goto (tgt := 4) O dX1_timesDown_31 (by decide) ?_
      refine s_loc [2, 3, 1, 0] rfl ?_
      cases hf
      exact Kc _ rfl
    · replace hf := if_t c hf
      refine s_iconst (v := 1) O dX1_timesDown_21 rfl ?_
      refine s_goto (tgt := 26) O dX1_timesDown_22 (by decide) ?_
      refine s_iadd O dX1_timesDown_26 ?_
      refine s_topi (fun n5 en5 => ?_)
      replace hf := nmi_e en5 hf
      refine s_istore_n (lv' := [(2, .int n5), (0, rf E k), (1, .int x1), (3, .int v3)]) O dX1_timesDown_27 rfl (by decide) rfl ?_
      refine s_iinc (v := (v3 + 1)) (lv' := [(3, .int (v3 + 1)), (2, .int n5), (0, rf E k), (1, .int x1)]) O 3 dX1_timesDown_28 rfl rfl (by decide) rfl ?_
      refine s_goto (tgt := 4) O dX1_timesDown_31 (by decide) ?_
      refine s_loc [2, 3, 1, 0] rfl ?_
      cases hf
      exact Kc _ rfl
def fl_X1_timesDown_l4 (k : Nat) (a1 : Int32) (x1 : Int32) (s0 : StA) (v : Int32 × Int32) : Option (StA × ((Int32))) :=
  it (fun s v => fb_X1_timesDown_l4 k a1 x1 s v.1 v.2) FU s0 v
def f_X1_timesDown (k : Nat) (a1 : Int32) (s0 : StA) : Option (StA × Int32) :=
  bn (fl_X1_timesDown_l4 k a1 a1 s0 (0, 0)) (fun s6 u4_2 => some (s6, u4_2))
set_option maxHeartbeats 4000000 in
set_option maxRecDepth 100000 in
theorem k_X1_timesDown {k : Nat} {a1 : Int32} (hk : isFl k) {s0 zs : StA} {rr : Int32} (hf : f_X1_timesDown k a1 s0 = some (zs, rr)) : CtI cM yX1_timesDown cX1_timesDown 4 .int rm_X1_timesDown (fun ph => [.ref (ph k), .int a1]) s0 zs rr := by
  refine CtI.of (by decide +kernel) (fun ph => Nat.le_of_ble_eq_true rfl) (fun E O hret => ?_)
  have O : OK cM E RX1 cX1_timesDown 4 rm_X1_timesDown := O
  show WS cM E 4 0 [(0, rf E k), (1, .int a1)] [] s0
  unfold f_X1_timesDown at hf
  refine s_iconst (v := 0) O dX1_timesDown_0 rfl ?_
  refine s_istore_n (lv' := [(2, .int 0), (0, rf E k), (1, .int a1)]) O dX1_timesDown_1 rfl (by decide) rfl ?_
  refine s_iconst (v := 0) O dX1_timesDown_2 rfl ?_
  refine s_istore_n (lv' := [(3, .int 0), (2, .int 0), (0, rf E k), (1, .int a1)]) O dX1_timesDown_3 rfl (by decide) rfl ?_
  refine s_loc [2, 3, 1, 0] rfl ?_
  obtain ⟨s6, u4_2, c8, hf⟩ := bn_e hf
  refine lp_of (body := fun s v => fb_X1_timesDown_l4 k a1 a1 s v.1 v.2) (X := fun s v => WS cM E 4 4 [(0, rf E k), (1, .int a1), (2, .int v.1), (3, .int v.2)] [] s) (Y := fun s e => WS cM E 4 34 [(2, .int e)] [] s) (fun s v s' w hb Kc Ke => wb_X1_timesDown_l4 (rr := rr) O hk  hret Kc Ke hb) FU _ _ (s6, u4_2) c8 ?_
  show WS cM E 4 34 [(2, .int u4_2)] [] s6
  refine s_iload_n O 0 dX1_timesDown_34 rfl rfl ?_
  exact s_iret hret rfl dX1_timesDown_35 hf
def rm_X5_runs : Room := { frames := 5, cells := 0, slots := 0, locals := 109 }
def f_X5_runs (a1 : Int32) (a2 : Int32) (s0 : StA) : Option (StA × Int32) :=
  bn (f_X5_isForecast a1 s0) (fun s1 r2 => (if r2 = 0 then some (s1, (-1)) else bn (f_X5_restartTrial  s1) (fun s4 r5 => (if a2 = 0 then bn (f_X1_passAll 12 a1 s4) (fun s7 r8 => some (s7, (gi s7 12 8))) else if a2 = 1 then bn (f_X1_passAll 12 a1 s4) (fun s10 r11 => some (s10, (gi s10 12 9))) else if a2 = 2 then bn (f_X1_greatestHeight 12 a1 s4) (fun s13 r14 => some (s13, r14)) else if a2 = 3 then bn (f_X1_timesDown 12 a1 s4) (fun s16 r17 => some (s16, r17)) else if a2 = 4 then bn (f_X1_passAll 12 a1 s4) (fun s19 r20 => some (s19, (gi s19 12 7))) else some (s4, (-1))))))
set_option maxHeartbeats 4000000 in
set_option maxRecDepth 100000 in
theorem k_X5_runs {a1 : Int32} {a2 : Int32} {s0 zs : StA} {rr : Int32} (hf : f_X5_runs a1 a2 s0 = some (zs, rr)) : CtI cM yX5_runs cX5_runs 3 .int rm_X5_runs (fun ph => [.ref (ph 0), .int a1, .int a2]) s0 zs rr := by
  refine CtI.of (by decide +kernel) (fun ph => Nat.le_of_ble_eq_true rfl) (fun E O hret => ?_)
  have O : OK cM E RX5 cX5_runs 3 rm_X5_runs := O
  show WS cM E 3 0 [(0, rf E 0), (1, .int a1), (2, .int a2)] [] s0
  unfold f_X5_runs at hf
  refine s_iload_n O 1 dX5_runs_0 rfl rfl ?_
  obtain ⟨s1, r2, c3, hf⟩ := bn_e hf
  refine s_SI (As := [.int a1]) (st := []) O lk_RX5_168 (k_X5_isForecast c3) rfl rfl ⟨rfl, rfl⟩ ⟨Nat.le_of_ble_eq_true rfl, Nat.le_of_ble_eq_true rfl⟩ rfl (Nat.le_of_ble_eq_true rfl) dX5_runs_1 ?_
  refine s_if_ne (tgt := 9) O dX5_runs_4 (by decide) (fun c => ?_) (fun c => ?_)
  · replace hf := if_f c hf
    refine s_aload_n O 0 dX5_runs_9 rfl rfl ?_
    obtain ⟨s4, r5, c6, hf⟩ := bn_e hf
    refine s_VV (As := []) (st := []) O lk_RX5_171 (k_X5_restartTrial c6) rfl cs_0 rfl rfl ⟨rfl, rfl⟩ ⟨Nat.le_of_ble_eq_true rfl, Nat.le_of_ble_eq_true rfl⟩ rfl (Nat.le_of_ble_eq_true rfl) dX5_runs_10 ?_
    refine s_iload_n O 2 dX5_runs_13 rfl rfl ?_
    by_cases q0 : a2 = 0
    · replace hf := if_t q0 hf
      refine s_tabE (v := 0) (tgt := 48) O dX5_runs_14 q0 (by decide) (by decide) rfl (by decide) ?_
      refine s_aload_n O 0 dX5_runs_48 rfl rfl ?_
      refine s_getR O fg_RX5_16 cs_0 rfl dX5_runs_49 ?_
      refine s_iload_n O 1 dX5_runs_52 rfl rfl ?_
      obtain ⟨s7, r8, c9, hf⟩ := bn_e hf
      refine s_VV (As := [.int a1]) (st := []) O lk_RX5_164 (k_X1_passAll fl_is12 c9) rfl cs_12 rfl rfl ⟨rfl, rfl⟩ ⟨Nat.le_of_ble_eq_true rfl, Nat.le_of_ble_eq_true rfl⟩ rfl (Nat.le_of_ble_eq_true rfl) dX5_runs_53 ?_
      refine s_aload_n O 0 dX5_runs_56 rfl rfl ?_
      refine s_getR O fg_RX5_16 cs_0 rfl dX5_runs_57 ?_
      refine s_getI O fg_RX5_89 cs_12 rfl dX5_runs_60 ?_
      exact s_iret hret rfl dX5_runs_63 hf
    · replace hf := if_f q0 hf
      by_cases q1 : a2 = 1
      · replace hf := if_t q1 hf
        refine s_tabE (v := 1) (tgt := 64) O dX5_runs_14 q1 (by decide) (by decide) rfl (by decide) ?_
        refine s_aload_n O 0 dX5_runs_64 rfl rfl ?_
        refine s_getR O fg_RX5_16 cs_0 rfl dX5_runs_65 ?_
        refine s_iload_n O 1 dX5_runs_68 rfl rfl ?_
        obtain ⟨s10, r11, c12, hf⟩ := bn_e hf
        refine s_VV (As := [.int a1]) (st := []) O lk_RX5_164 (k_X1_passAll fl_is12 c12) rfl cs_12 rfl rfl ⟨rfl, rfl⟩ ⟨Nat.le_of_ble_eq_true rfl, Nat.le_of_ble_eq_true rfl⟩ rfl (Nat.le_of_ble_eq_true rfl) dX5_runs_69 ?_
        refine s_aload_n O 0 dX5_runs_72 rfl rfl ?_
        refine s_getR O fg_RX5_16 cs_0 rfl dX5_runs_73 ?_
        refine s_getI O fg_RX5_92 cs_12 rfl dX5_runs_76 ?_
        exact s_iret hret rfl dX5_runs_79 hf
      · replace hf := if_f q1 hf
        by_cases q2 : a2 = 2
        · replace hf := if_t q2 hf
          refine s_tabE (v := 2) (tgt := 80) O dX5_runs_14 q2 (by decide) (by decide) rfl (by decide) ?_
          refine s_aload_n O 0 dX5_runs_80 rfl rfl ?_
          refine s_getR O fg_RX5_16 cs_0 rfl dX5_runs_81 ?_
          refine s_iload_n O 1 dX5_runs_84 rfl rfl ?_
          obtain ⟨s13, r14, c15, hf⟩ := bn_e hf
          refine s_VI (As := [.int a1]) (st := []) O lk_RX5_174 (k_X1_greatestHeight fl_is12 c15) rfl cs_12 rfl rfl ⟨rfl, rfl⟩ ⟨Nat.le_of_ble_eq_true rfl, Nat.le_of_ble_eq_true rfl⟩ rfl (Nat.le_of_ble_eq_true rfl) dX5_runs_85 ?_
          exact s_iret hret rfl dX5_runs_88 hf
        · replace hf := if_f q2 hf
          by_cases q3 : a2 = 3
          · replace hf := if_t q3 hf
            refine s_tabE (v := 3) (tgt := 89) O dX5_runs_14 q3 (by decide) (by decide) rfl (by decide) ?_
            refine s_aload_n O 0 dX5_runs_89 rfl rfl ?_
            refine s_getR O fg_RX5_16 cs_0 rfl dX5_runs_90 ?_
            refine s_iload_n O 1 dX5_runs_93 rfl rfl ?_
            obtain ⟨s16, r17, c18, hf⟩ := bn_e hf
            refine s_VI (As := [.int a1]) (st := []) O lk_RX5_177 (k_X1_timesDown fl_is12 c18) rfl cs_12 rfl rfl ⟨rfl, rfl⟩ ⟨Nat.le_of_ble_eq_true rfl, Nat.le_of_ble_eq_true rfl⟩ rfl (Nat.le_of_ble_eq_true rfl) dX5_runs_94 ?_
            exact s_iret hret rfl dX5_runs_97 hf
          · replace hf := if_f q3 hf
            by_cases q4 : a2 = 4
            · replace hf := if_t q4 hf
              refine s_tabE (v := 4) (tgt := 98) O dX5_runs_14 q4 (by decide) (by decide) rfl (by decide) ?_
              refine s_aload_n O 0 dX5_runs_98 rfl rfl ?_
              refine s_getR O fg_RX5_16 cs_0 rfl dX5_runs_99 ?_
              refine s_iload_n O 1 dX5_runs_102 rfl rfl ?_
              obtain ⟨s19, r20, c21, hf⟩ := bn_e hf
              refine s_VV (As := [.int a1]) (st := []) O lk_RX5_164 (k_X1_passAll fl_is12 c21) rfl cs_12 rfl rfl ⟨rfl, rfl⟩ ⟨Nat.le_of_ble_eq_true rfl, Nat.le_of_ble_eq_true rfl⟩ rfl (Nat.le_of_ble_eq_true rfl) dX5_runs_103 ?_
              refine s_aload_n O 0 dX5_runs_106 rfl rfl ?_
              refine s_getR O fg_RX5_16 cs_0 rfl dX5_runs_107 ?_
              refine s_getI O fg_RX5_99 cs_12 rfl dX5_runs_110 ?_
              exact s_iret hret rfl dX5_runs_113 hf
            · replace hf := if_f q4 hf
              have z0 := lv_neT q0 (a := 0) rfl
              have z1 := lv_neT q1 (a := 1) rfl
              have z2 := lv_neT q2 (a := 2) rfl
              have z3 := lv_neT q3 (a := 3) rfl
              have z4 := lv_neT q4 (a := 4) rfl
              refine s_tabO (tgt := 114) O dX5_runs_14 (by omega) (by decide) ?_
              refine s_iconst (v := (-1)) O dX5_runs_114 rfl ?_
              exact s_iret hret rfl dX5_runs_115 hf
  · replace hf := if_t c hf
    refine s_iconst (v := (-1)) O dX5_runs_7 rfl ?_
    exact s_iret hret rfl dX5_runs_8 hf
def rm_X5_orNone : Room := { frames := 0, cells := 0, slots := 0, locals := 0 }
def f_X5_orNone (a0 : Int32) (s0 : StA) : Option (StA × Int32) :=
  (if a0 = 1000000 then some (s0, (-4)) else some (s0, a0))
set_option maxHeartbeats 4000000 in
set_option maxRecDepth 100000 in
theorem k_X5_orNone {a0 : Int32} {s0 zs : StA} {rr : Int32} (hf : f_X5_orNone a0 s0 = some (zs, rr)) : CtI cM yX5_orNone cX5_orNone 1 .int rm_X5_orNone (fun ph => [.int a0]) s0 zs rr := by
  refine CtI.of (by decide +kernel) (fun ph => Nat.le_of_ble_eq_true rfl) (fun E O hret => ?_)
  have O : OK cM E RX5 cX5_orNone 1 rm_X5_orNone := O
  show WS cM E 1 0 [(0, .int a0)] [] s0
  unfold f_X5_orNone at hf
  refine s_iload_n O 0 dX5_orNone_0 rfl rfl ?_
  refine s_ldc O ci_RX5_192 dX5_orNone_1 ?_
  refine s_icmp_ne (tgt := 11) O dX5_orNone_3 (by decide) (fun c => ?_) (fun c => ?_)
  · replace hf := if_f c hf
    refine s_iload_n O 0 dX5_orNone_11 rfl rfl ?_
    exact s_iret hret rfl dX5_orNone_12 hf
  · replace hf := if_t c hf
    refine s_bipush (v := (-4)) O dX5_orNone_6 rfl ?_
    refine s_goto (tgt := 12) O dX5_orNone_8 (by decide) ?_
    exact s_iret hret rfl dX5_orNone_12 hf
def rm_X1_firstDown : Room := { frames := 4, cells := 0, slots := 0, locals := 86 }
def fb_X1_firstDown_l2 (k : Nat)  (s0 : StA) (v1 : Int32) : Option (StA × ((Int32) ⊕ ((Unit) ⊕ Int32))) :=
  (if 60 < v1 then some (s0, .inr (.inl ())) else bn (f_X1_pass k s0) (fun s1 r2 => (if (gi s1 k 8) = 0 then some (s1, .inr (.inr v1)) else some (s1, .inl (v1 + 1)))))
set_option maxHeartbeats 4000000 in
set_option maxRecDepth 100000 in
theorem wb_X1_firstDown_l2 {E : XC} (O : OK cM E RX1 cX1_firstDown 2 rm_X1_firstDown) {k : Nat} (hk : isFl k)   {s0 : StA} {v1 : Int32} {zs : StA} {rr : Int32} (hret : ReI cM E .int cX1_firstDown zs rr) {bs : StA} {bw : (Int32) ⊕ ((Unit) ⊕ Int32)} (Kc : ∀ v, bw = .inl v → WS cM E 2 2 [(0, rf E k), (1, .int v)] [] bs) (Ke : ∀ e, bw = .inr (.inl e) → WS cM E 2 27 [] [] bs) (Kr : ∀ r, bw = .inr (.inr r) → some (bs, r) = some (zs, rr)) (hf : fb_X1_firstDown_l2 k s0 v1 = some (bs, bw)) : WS cM E 2 2 [(0, rf E k), (1, .int v1)] [] s0 := by
  unfold fb_X1_firstDown_l2 at hf
  refine s_iload_n O 1 dX1_firstDown_2 rfl rfl ?_
  refine s_bipush (v := 60) O dX1_firstDown_3 rfl ?_
  refine s_icmp_gt (tgt := 27) O dX1_firstDown_5 (by decide) (fun c => ?_) (fun c => ?_)
  · replace hf := if_t c hf
    refine s_loc [] rfl ?_
    cases hf
    exact Ke _ rfl
  · replace hf := if_f c hf
    refine s_aload_n O 0 dX1_firstDown_8 rfl rfl ?_
    obtain ⟨s1, r2, c3, hf⟩ := bn_e hf
    refine s_VV (As := []) (st := []) O lk_RX1_113 (k_X1_pass hk c3) rfl (fl_0 hk) rfl rfl ⟨rfl, rfl⟩ ⟨Nat.le_of_ble_eq_true rfl, Nat.le_of_ble_eq_true rfl⟩ rfl (Nat.le_of_ble_eq_true rfl) dX1_firstDown_9 ?_
    refine s_aload_n O 0 dX1_firstDown_12 rfl rfl ?_
    refine s_getI O fg_RX1_52 (fl_0 hk) rfl dX1_firstDown_13 ?_
    refine s_if_ne (tgt := 21) O dX1_firstDown_16 (by decide) (fun c => ?_) (fun c => ?_)
    · replace hf := if_f c hf
      refine s_iinc (v := (v1 + 1)) (lv' := [(1, .int (v1 + 1)), (0, rf E k)]) O 1 dX1_firstDown_21 rfl rfl (by decide) rfl ?_
      refine s_goto (tgt := 2) O dX1_firstDown_24 (by decide) ?_
      refine s_loc [1, 0] rfl ?_
      cases hf
      exact Kc _ rfl
    · replace hf := if_t c hf
      refine s_iload_n O 1 dX1_firstDown_19 rfl rfl ?_
      cases hf
      exact s_iret hret rfl dX1_firstDown_20 (Kr _ rfl)
def fl_X1_firstDown_l2 (k : Nat)  (s0 : StA) (v : Int32) : Option (StA × (((Unit) ⊕ Int32))) :=
  it (fun s v => fb_X1_firstDown_l2 k s v) FU s0 v
def f_X1_firstDown (k : Nat) (s0 : StA) : Option (StA × Int32) :=
  bn (fl_X1_firstDown_l2 k s0 1) (fun s4 e5 => match e5 with | .inl _ => some (s4, 1000000) | .inr q2 => some (s4, q2))
set_option maxHeartbeats 4000000 in
set_option maxRecDepth 100000 in
theorem k_X1_firstDown {k : Nat} (hk : isFl k) {s0 zs : StA} {rr : Int32} (hf : f_X1_firstDown k s0 = some (zs, rr)) : CtI cM yX1_firstDown cX1_firstDown 2 .int rm_X1_firstDown (fun ph => [.ref (ph k)]) s0 zs rr := by
  refine CtI.of (by decide +kernel) (fun ph => Nat.le_of_ble_eq_true rfl) (fun E O hret => ?_)
  have O : OK cM E RX1 cX1_firstDown 2 rm_X1_firstDown := O
  show WS cM E 2 0 [(0, rf E k)] [] s0
  unfold f_X1_firstDown at hf
  refine s_iconst (v := 1) O dX1_firstDown_0 rfl ?_
  refine s_istore_n (lv' := [(1, .int 1), (0, rf E k)]) O dX1_firstDown_1 rfl (by decide) rfl ?_
  refine s_loc [1, 0] rfl ?_
  obtain ⟨s4, e5, c6, hf⟩ := bn_e hf
  refine lp_of (body := fun s v => fb_X1_firstDown_l2 k s v) (X := fun s v => WS cM E 2 2 [(0, rf E k), (1, .int v)] [] s) (Y := fun s e => match e with | .inl e => WS cM E 2 27 [] [] s | .inr r => some (s, r) = some (zs, rr)) (fun s v s' w hb Kc Ke => wb_X1_firstDown_l2 (rr := rr) O hk  hret Kc (fun e he => Ke (.inl e) he) (fun r he => Ke (.inr r) he) hb) FU _ _ (s4, e5) c6 ?_
  rcases e5 with e5 | q2
  · show WS cM E 2 27 [] [] s4
    refine s_ldc O ci_RX1_119 dX1_firstDown_27 ?_
    exact s_iret hret rfl dX1_firstDown_29 hf
  · exact hf
def rm_X5_falls : Room := { frames := 5, cells := 0, slots := 0, locals := 107 }
def f_X5_falls  (s0 : StA) : Option (StA × Int32) :=
  bn (f_X5_restartTrial  s0) (fun s1 r2 => bn (f_X1_firstDown 12 s1) (fun s4 r5 => bn (f_X5_orNone r5 s4) (fun s7 r8 => some (s7, r8))))
set_option maxHeartbeats 4000000 in
set_option maxRecDepth 100000 in
theorem k_X5_falls  {s0 zs : StA} {rr : Int32} (hf : f_X5_falls  s0 = some (zs, rr)) : CtI cM yX5_falls cX5_falls 1 .int rm_X5_falls (fun ph => [.ref (ph 0)]) s0 zs rr := by
  refine CtI.of (by decide +kernel) (fun ph => Nat.le_of_ble_eq_true rfl) (fun E O hret => ?_)
  have O : OK cM E RX5 cX5_falls 1 rm_X5_falls := O
  show WS cM E 1 0 [(0, rf E 0)] [] s0
  unfold f_X5_falls at hf
  refine s_aload_n O 0 dX5_falls_0 rfl rfl ?_
  obtain ⟨s1, r2, c3, hf⟩ := bn_e hf
  refine s_VV (As := []) (st := []) O lk_RX5_171 (k_X5_restartTrial c3) rfl cs_0 rfl rfl ⟨rfl, rfl⟩ ⟨Nat.le_of_ble_eq_true rfl, Nat.le_of_ble_eq_true rfl⟩ rfl (Nat.le_of_ble_eq_true rfl) dX5_falls_1 ?_
  refine s_aload_n O 0 dX5_falls_4 rfl rfl ?_
  refine s_getR O fg_RX5_16 cs_0 rfl dX5_falls_5 ?_
  obtain ⟨s4, r5, c6, hf⟩ := bn_e hf
  refine s_VI (As := []) (st := []) O lk_RX5_180 (k_X1_firstDown fl_is12 c6) rfl cs_12 rfl rfl ⟨rfl, rfl⟩ ⟨Nat.le_of_ble_eq_true rfl, Nat.le_of_ble_eq_true rfl⟩ rfl (Nat.le_of_ble_eq_true rfl) dX5_falls_8 ?_
  obtain ⟨s7, r8, c9, hf⟩ := bn_e hf
  refine s_SI (As := [.int r5]) (st := []) O lk_RX5_183 (k_X5_orNone c9) rfl rfl ⟨rfl, rfl⟩ ⟨Nat.le_of_ble_eq_true rfl, Nat.le_of_ble_eq_true rfl⟩ rfl (Nat.le_of_ble_eq_true rfl) dX5_falls_11 ?_
  exact s_iret hret rfl dX5_falls_14 hf
def rm_X5_isPlace : Room := { frames := 1, cells := 0, slots := 0, locals := 22 }
def f_X5_isPlace (a0 : Int32) (s0 : StA) : Option (StA × Int32) :=
  bn (f_X5_isIn a0 0 99 s0) (fun s1 r2 => gz r2 (some (s1, r2)))
set_option maxHeartbeats 4000000 in
set_option maxRecDepth 100000 in
theorem k_X5_isPlace {a0 : Int32} {s0 zs : StA} {rr : Int32} (hf : f_X5_isPlace a0 s0 = some (zs, rr)) : CtI cM yX5_isPlace cX5_isPlace 1 .boolean rm_X5_isPlace (fun ph => [.int a0]) s0 zs rr := by
  refine CtI.of (by decide +kernel) (fun ph => Nat.le_of_ble_eq_true rfl) (fun E O hret => ?_)
  have O : OK cM E RX5 cX5_isPlace 1 rm_X5_isPlace := O
  show WS cM E 1 0 [(0, .int a0)] [] s0
  unfold f_X5_isPlace at hf
  refine s_iload_n O 0 dX5_isPlace_0 rfl rfl ?_
  refine s_iconst (v := 0) O dX5_isPlace_1 rfl ?_
  refine s_bipush (v := 99) O dX5_isPlace_2 rfl ?_
  obtain ⟨s1, r2, c3, hf⟩ := bn_e hf
  refine s_SI (As := [.int a0, .int 0, .int 99]) (st := []) O lk_RX5_57 (k_X5_isIn c3) rfl rfl ⟨rfl, rfl⟩ ⟨Nat.le_of_ble_eq_true rfl, Nat.le_of_ble_eq_true rfl⟩ rfl (Nat.le_of_ble_eq_true rfl) dX5_isPlace_4 ?_
  obtain ⟨hz, hf⟩ := gz_e hf
  exact s_iret hret hz.nar dX5_isPlace_7 hf
def rm_X1_firstDownAt : Room := { frames := 4, cells := 0, slots := 0, locals := 86 }
def fb_X1_firstDownAt_l2 (k : Nat) (a1 : Int32) (x1 : Int32) (s0 : StA) (v2 : Int32) : Option (StA × ((Int32) ⊕ ((Unit) ⊕ Int32))) :=
  (if 60 < v2 then some (s0, .inr (.inl ())) else (if (gi s0 k 8) = 0 then (if (gi s0 k 9) = x1 then some (s0, .inr (.inr v2)) else bn (f_X1_pass k s0) (fun s4 r5 => some (s4, .inl (v2 + 1)))) else bn (f_X1_pass k s0) (fun s1 r2 => some (s1, .inl (v2 + 1)))))
set_option maxHeartbeats 4000000 in
set_option maxRecDepth 100000 in
theorem wb_X1_firstDownAt_l2 {E : XC} (O : OK cM E RX1 cX1_firstDownAt 3 rm_X1_firstDownAt) {k : Nat} {a1 : Int32} (hk : isFl k)  {x1 : Int32} {s0 : StA} {v2 : Int32} {zs : StA} {rr : Int32} (hret : ReI cM E .int cX1_firstDownAt zs rr) {bs : StA} {bw : (Int32) ⊕ ((Unit) ⊕ Int32)} (Kc : ∀ v, bw = .inl v → WS cM E 3 2 [(0, rf E k), (1, .int x1), (2, .int v)] [] bs) (Ke : ∀ e, bw = .inr (.inl e) → WS cM E 3 35 [] [] bs) (Kr : ∀ r, bw = .inr (.inr r) → some (bs, r) = some (zs, rr)) (hf : fb_X1_firstDownAt_l2 k a1 x1 s0 v2 = some (bs, bw)) : WS cM E 3 2 [(0, rf E k), (1, .int x1), (2, .int v2)] [] s0 := by
  unfold fb_X1_firstDownAt_l2 at hf
  refine s_iload_n O 2 dX1_firstDownAt_2 rfl rfl ?_
  refine s_bipush (v := 60) O dX1_firstDownAt_3 rfl ?_
  refine s_icmp_gt (tgt := 35) O dX1_firstDownAt_5 (by decide) (fun c => ?_) (fun c => ?_)
  · replace hf := if_t c hf
    refine s_loc [] rfl ?_
    cases hf
    exact Ke _ rfl
  · replace hf := if_f c hf
    refine s_aload_n O 0 dX1_firstDownAt_8 rfl rfl ?_
    refine s_getI O fg_RX1_52 (fl_0 hk) rfl dX1_firstDownAt_9 ?_
    refine s_if_ne (tgt := 25) O dX1_firstDownAt_12 (by decide) (fun c => ?_) (fun c => ?_)
    · replace hf := if_f c hf
      refine s_aload_n O 0 dX1_firstDownAt_25 rfl rfl ?_
      obtain ⟨s1, r2, c3, hf⟩ := bn_e hf
      refine s_VV (As := []) (st := []) O lk_RX1_113 (k_X1_pass hk c3) rfl (fl_0 hk) rfl rfl ⟨rfl, rfl⟩ ⟨Nat.le_of_ble_eq_true rfl, Nat.le_of_ble_eq_true rfl⟩ rfl (Nat.le_of_ble_eq_true rfl) dX1_firstDownAt_26 ?_
      refine s_iinc (v := (v2 + 1)) (lv' := [(2, .int (v2 + 1)), (0, rf E k), (1, .int x1)]) O 2 dX1_firstDownAt_29 rfl rfl (by decide) rfl ?_
      refine s_goto (tgt := 2) O dX1_firstDownAt_32 (by decide) ?_
      refine s_loc [1, 2, 0] rfl ?_
      cases hf
      exact Kc _ rfl
    · replace hf := if_t c hf
      refine s_aload_n O 0 dX1_firstDownAt_15 rfl rfl ?_
      refine s_getI O fg_RX1_55 (fl_0 hk) rfl dX1_firstDownAt_16 ?_
      refine s_iload_n O 1 dX1_firstDownAt_19 rfl rfl ?_
      refine s_icmp_ne (tgt := 25) O dX1_firstDownAt_20 (by decide) (fun c => ?_) (fun c => ?_)
      · replace hf := if_f c hf
        refine s_aload_n O 0 dX1_firstDownAt_25 rfl rfl ?_
        obtain ⟨s4, r5, c6, hf⟩ := bn_e hf
        refine s_VV (As := []) (st := []) O lk_RX1_113 (k_X1_pass hk c6) rfl (fl_0 hk) rfl rfl ⟨rfl, rfl⟩ ⟨Nat.le_of_ble_eq_true rfl, Nat.le_of_ble_eq_true rfl⟩ rfl (Nat.le_of_ble_eq_true rfl) dX1_firstDownAt_26 ?_
        refine s_iinc (v := (v2 + 1)) (lv' := [(2, .int (v2 + 1)), (0, rf E k), (1, .int x1)]) O 2 dX1_firstDownAt_29 rfl rfl (by decide) rfl ?_
        refine s_goto (tgt := 2) O dX1_firstDownAt_32 (by decide) ?_
        refine s_loc [1, 2, 0] rfl ?_
        cases hf
        exact Kc _ rfl
      · replace hf := if_t c hf
        refine s_iload_n O 2 dX1_firstDownAt_23 rfl rfl ?_
        cases hf
        exact s_iret hret rfl dX1_firstDownAt_24 (Kr _ rfl)
def fl_X1_firstDownAt_l2 (k : Nat) (a1 : Int32) (x1 : Int32) (s0 : StA) (v : Int32) : Option (StA × (((Unit) ⊕ Int32))) :=
  it (fun s v => fb_X1_firstDownAt_l2 k a1 x1 s v) FU s0 v
def f_X1_firstDownAt (k : Nat) (a1 : Int32) (s0 : StA) : Option (StA × Int32) :=
  bn (fl_X1_firstDownAt_l2 k a1 a1 s0 0) (fun s7 e8 => match e8 with | .inl _ => some (s7, 1000000) | .inr q2 => some (s7, q2))
set_option maxHeartbeats 4000000 in
set_option maxRecDepth 100000 in
theorem k_X1_firstDownAt {k : Nat} {a1 : Int32} (hk : isFl k) {s0 zs : StA} {rr : Int32} (hf : f_X1_firstDownAt k a1 s0 = some (zs, rr)) : CtI cM yX1_firstDownAt cX1_firstDownAt 3 .int rm_X1_firstDownAt (fun ph => [.ref (ph k), .int a1]) s0 zs rr := by
  refine CtI.of (by decide +kernel) (fun ph => Nat.le_of_ble_eq_true rfl) (fun E O hret => ?_)
  have O : OK cM E RX1 cX1_firstDownAt 3 rm_X1_firstDownAt := O
  show WS cM E 3 0 [(0, rf E k), (1, .int a1)] [] s0
  unfold f_X1_firstDownAt at hf
  refine s_iconst (v := 0) O dX1_firstDownAt_0 rfl ?_
  refine s_istore_n (lv' := [(2, .int 0), (0, rf E k), (1, .int a1)]) O dX1_firstDownAt_1 rfl (by decide) rfl ?_
  refine s_loc [1, 2, 0] rfl ?_
  obtain ⟨s7, e8, c9, hf⟩ := bn_e hf
  refine lp_of (body := fun s v => fb_X1_firstDownAt_l2 k a1 a1 s v) (X := fun s v => WS cM E 3 2 [(0, rf E k), (1, .int a1), (2, .int v)] [] s) (Y := fun s e => match e with | .inl e => WS cM E 3 35 [] [] s | .inr r => some (s, r) = some (zs, rr)) (fun s v s' w hb Kc Ke => wb_X1_firstDownAt_l2 (rr := rr) O hk  hret Kc (fun e he => Ke (.inl e) he) (fun r he => Ke (.inr r) he) hb) FU _ _ (s7, e8) c9 ?_
  rcases e8 with e8 | q2
  · show WS cM E 3 35 [] [] s7
    refine s_ldc O ci_RX1_119 dX1_firstDownAt_35 ?_
    exact s_iret hret rfl dX1_firstDownAt_37 hf
  · exact hf
def rm_X5_church : Room := { frames := 5, cells := 0, slots := 0, locals := 108 }
def f_X5_church (a1 : Int32) (s0 : StA) : Option (StA × Int32) :=
  bn (f_X5_isPlace a1 s0) (fun s1 r2 => (if r2 = 0 then some (s1, (-1)) else bn (f_X5_restartTrial  s1) (fun s4 r5 => bn (f_X1_firstDownAt 12 a1 s4) (fun s7 r8 => bn (f_X5_orNone r8 s7) (fun s10 r11 => some (s10, r11))))))
set_option maxHeartbeats 4000000 in
set_option maxRecDepth 100000 in
theorem k_X5_church {a1 : Int32} {s0 zs : StA} {rr : Int32} (hf : f_X5_church a1 s0 = some (zs, rr)) : CtI cM yX5_church cX5_church 2 .int rm_X5_church (fun ph => [.ref (ph 0), .int a1]) s0 zs rr := by
  refine CtI.of (by decide +kernel) (fun ph => Nat.le_of_ble_eq_true rfl) (fun E O hret => ?_)
  have O : OK cM E RX5 cX5_church 2 rm_X5_church := O
  show WS cM E 2 0 [(0, rf E 0), (1, .int a1)] [] s0
  unfold f_X5_church at hf
  refine s_iload_n O 1 dX5_church_0 rfl rfl ?_
  obtain ⟨s1, r2, c3, hf⟩ := bn_e hf
  refine s_SI (As := [.int a1]) (st := []) O lk_RX5_186 (k_X5_isPlace c3) rfl rfl ⟨rfl, rfl⟩ ⟨Nat.le_of_ble_eq_true rfl, Nat.le_of_ble_eq_true rfl⟩ rfl (Nat.le_of_ble_eq_true rfl) dX5_church_1 ?_
  refine s_if_ne (tgt := 9) O dX5_church_4 (by decide) (fun c => ?_) (fun c => ?_)
  · replace hf := if_f c hf
    refine s_aload_n O 0 dX5_church_9 rfl rfl ?_
    obtain ⟨s4, r5, c6, hf⟩ := bn_e hf
    refine s_VV (As := []) (st := []) O lk_RX5_171 (k_X5_restartTrial c6) rfl cs_0 rfl rfl ⟨rfl, rfl⟩ ⟨Nat.le_of_ble_eq_true rfl, Nat.le_of_ble_eq_true rfl⟩ rfl (Nat.le_of_ble_eq_true rfl) dX5_church_10 ?_
    refine s_aload_n O 0 dX5_church_13 rfl rfl ?_
    refine s_getR O fg_RX5_16 cs_0 rfl dX5_church_14 ?_
    refine s_iload_n O 1 dX5_church_17 rfl rfl ?_
    obtain ⟨s7, r8, c9, hf⟩ := bn_e hf
    refine s_VI (As := [.int a1]) (st := []) O lk_RX5_189 (k_X1_firstDownAt fl_is12 c9) rfl cs_12 rfl rfl ⟨rfl, rfl⟩ ⟨Nat.le_of_ble_eq_true rfl, Nat.le_of_ble_eq_true rfl⟩ rfl (Nat.le_of_ble_eq_true rfl) dX5_church_18 ?_
    obtain ⟨s10, r11, c12, hf⟩ := bn_e hf
    refine s_SI (As := [.int r8]) (st := []) O lk_RX5_183 (k_X5_orNone c12) rfl rfl ⟨rfl, rfl⟩ ⟨Nat.le_of_ble_eq_true rfl, Nat.le_of_ble_eq_true rfl⟩ rfl (Nat.le_of_ble_eq_true rfl) dX5_church_21 ?_
    exact s_iret hret rfl dX5_church_24 hf
  · replace hf := if_t c hf
    refine s_iconst (v := (-1)) O dX5_church_7 rfl ?_
    exact s_iret hret rfl dX5_church_8 hf
def rm_X0_answer : Room := { frames := 0, cells := 0, slots := 0, locals := 0 }
def f_X0_answer (a1 : Int32) (s0 : StA) : Option (StA × Int32) :=
  (if (gi s0 59 2) = 0 then some (s0, (-4)) else (if a1 = 0 then some (s0, (gi s0 59 0)) else some (s0, (gi s0 59 1))))
set_option maxHeartbeats 4000000 in
set_option maxRecDepth 100000 in
theorem k_X0_answer {a1 : Int32} {s0 zs : StA} {rr : Int32} (hf : f_X0_answer a1 s0 = some (zs, rr)) : CtI cM yX0_answer cX0_answer 2 .int rm_X0_answer (fun ph => [.ref (ph 59), .int a1]) s0 zs rr := by
  refine CtI.of (by decide +kernel) (fun ph => Nat.le_of_ble_eq_true rfl) (fun E O hret => ?_)
  have O : OK cM E RX0 cX0_answer 2 rm_X0_answer := O
  show WS cM E 2 0 [(0, rf E 59), (1, .int a1)] [] s0
  unfold f_X0_answer at hf
  refine s_aload_n O 0 dX0_answer_0 rfl rfl ?_
  refine s_getI O fg_RX0_15 cs_59 rfl dX0_answer_1 ?_
  refine s_if_ne (tgt := 10) O dX0_answer_4 (by decide) (fun c => ?_) (fun c => ?_)
  · replace hf := if_f c hf
    refine s_iload_n O 1 dX0_answer_10 rfl rfl ?_
    refine s_if_ne (tgt := 21) O dX0_answer_11 (by decide) (fun c => ?_) (fun c => ?_)
    · replace hf := if_f c hf
      refine s_aload_n O 0 dX0_answer_21 rfl rfl ?_
      refine s_getI O fg_RX0_9 cs_59 rfl dX0_answer_22 ?_
      exact s_iret hret rfl dX0_answer_25 hf
    · replace hf := if_t c hf
      refine s_aload_n O 0 dX0_answer_14 rfl rfl ?_
      refine s_getI O fg_RX0_19 cs_59 rfl dX0_answer_15 ?_
      refine s_goto (tgt := 25) O dX0_answer_18 (by decide) ?_
      exact s_iret hret rfl dX0_answer_25 hf
  · replace hf := if_t c hf
    refine s_bipush (v := (-4)) O dX0_answer_7 rfl ?_
    exact s_iret hret rfl dX0_answer_9 hf
def rm_X0_beginBelow : Room := { frames := 0, cells := 0, slots := 0, locals := 0 }
def f_X0_beginBelow (a1 : Int32) (s0 : StA) : Option (StA × Unit) :=
  nms (si s0 59 1 a1) (fun s1 => nms (si s1 59 2 0) (fun s2 => some (s2, ())))
set_option maxHeartbeats 4000000 in
set_option maxRecDepth 100000 in
theorem k_X0_beginBelow {a1 : Int32} {s0 zs : StA} {rr : Unit} (hf : f_X0_beginBelow a1 s0 = some (zs, rr)) : CtV cM yX0_beginBelow cX0_beginBelow 2 rm_X0_beginBelow (fun ph => [.ref (ph 59), .int a1]) s0 zs := by
  refine CtV.of (by decide +kernel) (fun ph => Nat.le_of_ble_eq_true rfl) (fun E O hret => ?_)
  have O : OK cM E RX0 cX0_beginBelow 2 rm_X0_beginBelow := O
  show WS cM E 2 0 [(0, rf E 59), (1, .int a1)] [] s0
  unfold f_X0_beginBelow at hf
  refine s_aload_n O 0 dX0_beginBelow_0 rfl rfl ?_
  refine s_iload_n O 1 dX0_beginBelow_1 rfl rfl ?_
  refine s_putI O fp_RX0_9 cs_59 rfl dX0_beginBelow_2 ?_
  refine s_tops (fun s1 es1 => ?_)
  replace hf := nms_e es1 hf
  refine s_aload_n O 0 dX0_beginBelow_5 rfl rfl ?_
  refine s_iconst (v := 0) O dX0_beginBelow_6 rfl ?_
  refine s_putZ O fp_RX0_15 (Or.inl rfl) cs_59 rfl dX0_beginBelow_7 ?_
  refine s_tops (fun s2 es2 => ?_)
  replace hf := nms_e es2 hf
  exact s_vret hret dX0_beginBelow_10 hf
def rm_X0_offer : Room := { frames := 0, cells := 0, slots := 0, locals := 0 }
def f_X0_offer (a1 : Int32) (a2 : Int32) (s0 : StA) : Option (StA × Unit) :=
  (if (gi s0 59 1) ≤ a2 then some (s0, ()) else nms (si s0 59 0 a1) (fun s1 => nms (si s1 59 1 a2) (fun s2 => nms (si s2 59 2 1) (fun s3 => some (s3, ())))))
set_option maxHeartbeats 4000000 in
set_option maxRecDepth 100000 in
theorem k_X0_offer {a1 : Int32} {a2 : Int32} {s0 zs : StA} {rr : Unit} (hf : f_X0_offer a1 a2 s0 = some (zs, rr)) : CtV cM yX0_offer cX0_offer 3 rm_X0_offer (fun ph => [.ref (ph 59), .int a1, .int a2]) s0 zs := by
  refine CtV.of (by decide +kernel) (fun ph => Nat.le_of_ble_eq_true rfl) (fun E O hret => ?_)
  have O : OK cM E RX0 cX0_offer 3 rm_X0_offer := O
  show WS cM E 3 0 [(0, rf E 59), (1, .int a1), (2, .int a2)] [] s0
  unfold f_X0_offer at hf
  refine s_iload_n O 2 dX0_offer_0 rfl rfl ?_
  refine s_aload_n O 0 dX0_offer_1 rfl rfl ?_
  refine s_getI O fg_RX0_9 cs_59 rfl dX0_offer_2 ?_
  refine s_icmp_ge (tgt := 23) O dX0_offer_5 (by decide) (fun c => ?_) (fun c => ?_)
  · replace hf := if_t c hf
    exact s_vret hret dX0_offer_23 hf
  · replace hf := if_f c hf
    refine s_aload_n O 0 dX0_offer_8 rfl rfl ?_
    refine s_iload_n O 1 dX0_offer_9 rfl rfl ?_
    refine s_putI O fp_RX0_19 cs_59 rfl dX0_offer_10 ?_
    refine s_tops (fun s1 es1 => ?_)
    replace hf := nms_e es1 hf
    refine s_aload_n O 0 dX0_offer_13 rfl rfl ?_
    refine s_iload_n O 2 dX0_offer_14 rfl rfl ?_
    refine s_putI O fp_RX0_9 cs_59 rfl dX0_offer_15 ?_
    refine s_tops (fun s2 es2 => ?_)
    replace hf := nms_e es2 hf
    refine s_aload_n O 0 dX0_offer_18 rfl rfl ?_
    refine s_iconst (v := 1) O dX0_offer_19 rfl ?_
    refine s_putZ O fp_RX0_15 (Or.inr rfl) cs_59 rfl dX0_offer_20 ?_
    refine s_tops (fun s3 es3 => ?_)
    replace hf := nms_e es3 hf
    exact s_vret hret dX0_offer_23 hf
def rm_X5_best : Room := { frames := 5, cells := 0, slots := 0, locals := 107 }
def fb_X5_best_l22 (a1 : Int32) (x1 : Int32) (s0 : StA) (v2 : Int32) : Option (StA × ((Int32) ⊕ (Unit))) :=
  (if (gi s0 1 6) ≤ v2 then some (s0, .inr ()) else bn (f_X1_isSaid 1 v2 s0) (fun s7 r8 => (if r8 = 0 then bn (f_X5_restartTrial  s7) (fun s10 r11 => bn (f_X1_setSaid 12 v2 1 s10) (fun s13 r14 => bn (f_X1_firstDown 12 s13) (fun s16 r17 => bn (f_X0_offer v2 r17 s16) (fun s19 r20 => some (s19, .inl (v2 + 1)))))) else some (s7, .inl (v2 + 1)))))
set_option maxHeartbeats 4000000 in
set_option maxRecDepth 100000 in
theorem wb_X5_best_l22 {E : XC} (O : OK cM E RX5 cX5_best 3 rm_X5_best) {a1 : Int32}  {x1 : Int32} {s0 : StA} {v2 : Int32} {zs : StA} {rr : Int32} (hret : ReI cM E .int cX5_best zs rr) {bs : StA} {bw : (Int32) ⊕ (Unit)} (Kc : ∀ v, bw = .inl v → WS cM E 3 22 [(0, rf E 0), (1, .int x1), (2, .int v)] [] bs) (Ke : ∀ e, bw = .inr e → WS cM E 3 78 [(0, rf E 0), (1, .int x1)] [] bs) (hf : fb_X5_best_l22 a1 x1 s0 v2 = some (bs, bw)) : WS cM E 3 22 [(0, rf E 0), (1, .int x1), (2, .int v2)] [] s0 := by
  unfold fb_X5_best_l22 at hf
  refine s_iload_n O 2 dX5_best_22 rfl rfl ?_
  refine s_aload_n O 0 dX5_best_23 rfl rfl ?_
  refine s_getR O fg_RX5_10 cs_0 rfl dX5_best_24 ?_
  refine s_getI O fg_RX5_83 cs_1 rfl dX5_best_27 ?_
  refine s_icmp_ge (tgt := 78) O dX5_best_30 (by decide) (fun c => ?_) (fun c => ?_)
  · replace hf := if_t c hf
    refine s_loc [0, 1] rfl ?_
    cases hf
    exact Ke _ rfl
  · replace hf := if_f c hf
    refine s_aload_n O 0 dX5_best_33 rfl rfl ?_
    refine s_getR O fg_RX5_10 cs_0 rfl dX5_best_34 ?_
    refine s_iload_n O 2 dX5_best_37 rfl rfl ?_
    obtain ⟨s7, r8, c9, hf⟩ := bn_e hf
    refine s_VI (As := [.int v2]) (st := []) O lk_RX5_127 (k_X1_isSaid fl_is1 c9) rfl cs_1 rfl rfl ⟨rfl, rfl⟩ ⟨Nat.le_of_ble_eq_true rfl, Nat.le_of_ble_eq_true rfl⟩ rfl (Nat.le_of_ble_eq_true rfl) dX5_best_38 ?_
    refine s_if_ne (tgt := 72) O dX5_best_41 (by decide) (fun c => ?_) (fun c => ?_)
    · replace hf := if_f c hf
      refine s_iinc (v := (v2 + 1)) (lv' := [(2, .int (v2 + 1)), (0, rf E 0), (1, .int x1)]) O 2 dX5_best_72 rfl rfl (by decide) rfl ?_
      refine s_goto (tgt := 22) O dX5_best_75 (by decide) ?_
      refine s_loc [1, 2, 0] rfl ?_
      cases hf
      exact Kc _ rfl
    · replace hf := if_t c hf
      refine s_aload_n O 0 dX5_best_44 rfl rfl ?_
      obtain ⟨s10, r11, c12, hf⟩ := bn_e hf
      refine s_VV (As := []) (st := []) O lk_RX5_171 (k_X5_restartTrial c12) rfl cs_0 rfl rfl ⟨rfl, rfl⟩ ⟨Nat.le_of_ble_eq_true rfl, Nat.le_of_ble_eq_true rfl⟩ rfl (Nat.le_of_ble_eq_true rfl) dX5_best_45 ?_
      refine s_aload_n O 0 dX5_best_48 rfl rfl ?_
      refine s_getR O fg_RX5_16 cs_0 rfl dX5_best_49 ?_
      refine s_iload_n O 2 dX5_best_52 rfl rfl ?_
      refine s_iconst (v := 1) O dX5_best_53 rfl ?_
      obtain ⟨s13, r14, c15, hf⟩ := bn_e hf
      refine s_VV (As := [.int v2, .int 1]) (st := []) O lk_RX5_155 (k_X1_setSaid fl_is12 c15) rfl cs_12 rfl rfl ⟨rfl, rfl⟩ ⟨Nat.le_of_ble_eq_true rfl, Nat.le_of_ble_eq_true rfl⟩ rfl (Nat.le_of_ble_eq_true rfl) dX5_best_54 ?_
      refine s_aload_n O 0 dX5_best_57 rfl rfl ?_
      refine s_getR O fg_RX5_43 cs_0 rfl dX5_best_58 ?_
      refine s_iload_n O 2 dX5_best_61 rfl rfl ?_
      refine s_aload_n O 0 dX5_best_62 rfl rfl ?_
      refine s_getR O fg_RX5_16 cs_0 rfl dX5_best_63 ?_
      obtain ⟨s16, r17, c18, hf⟩ := bn_e hf
      refine s_VI (As := []) (st := [.int v2, rf E 59]) O lk_RX5_180 (k_X1_firstDown fl_is12 c18) rfl cs_12 rfl rfl ⟨rfl, rfl⟩ ⟨Nat.le_of_ble_eq_true rfl, Nat.le_of_ble_eq_true rfl⟩ rfl (Nat.le_of_ble_eq_true rfl) dX5_best_66 ?_
      obtain ⟨s19, r20, c21, hf⟩ := bn_e hf
      refine s_VV (As := [.int v2, .int r17]) (st := []) O lk_RX5_196 (k_X0_offer c21) rfl cs_59 rfl rfl ⟨rfl, rfl⟩ ⟨Nat.le_of_ble_eq_true rfl, Nat.le_of_ble_eq_true rfl⟩ rfl (Nat.le_of_ble_eq_true rfl) dX5_best_69 ?_
      refine s_iinc (v := (v2 + 1)) (lv' := [(2, .int (v2 + 1)), (0, rf E 0), (1, .int x1)]) O 2 dX5_best_72 rfl rfl (by decide) rfl ?_
      refine s_goto (tgt := 22) O dX5_best_75 (by decide) ?_
      refine s_loc [1, 2, 0] rfl ?_
      cases hf
      exact Kc _ rfl
def fl_X5_best_l22 (a1 : Int32) (x1 : Int32) (s0 : StA) (v : Int32) : Option (StA × ((Unit))) :=
  it (fun s v => fb_X5_best_l22 a1 x1 s v) FU s0 v
def f_X5_best (a1 : Int32) (s0 : StA) : Option (StA × Int32) :=
  bn (f_X5_isIn a1 0 1 s0) (fun s1 r2 => (if r2 = 0 then some (s1, (-1)) else bn (f_X0_beginBelow 1000000 s1) (fun s4 r5 => bn (fl_X5_best_l22 a1 a1 s4 0) (fun s22 e23 => bn (f_X0_answer a1 s22) (fun s25 r26 => some (s25, r26))))))
set_option maxHeartbeats 4000000 in
set_option maxRecDepth 100000 in
theorem k_X5_best {a1 : Int32} {s0 zs : StA} {rr : Int32} (hf : f_X5_best a1 s0 = some (zs, rr)) : CtI cM yX5_best cX5_best 3 .int rm_X5_best (fun ph => [.ref (ph 0), .int a1]) s0 zs rr := by
  refine CtI.of (by decide +kernel) (fun ph => Nat.le_of_ble_eq_true rfl) (fun E O hret => ?_)
  have O : OK cM E RX5 cX5_best 3 rm_X5_best := O
  show WS cM E 3 0 [(0, rf E 0), (1, .int a1)] [] s0
  unfold f_X5_best at hf
  refine s_iload_n O 1 dX5_best_0 rfl rfl ?_
  refine s_iconst (v := 0) O dX5_best_1 rfl ?_
  refine s_iconst (v := 1) O dX5_best_2 rfl ?_
  obtain ⟨s1, r2, c3, hf⟩ := bn_e hf
  refine s_SI (As := [.int a1, .int 0, .int 1]) (st := []) O lk_RX5_57 (k_X5_isIn c3) rfl rfl ⟨rfl, rfl⟩ ⟨Nat.le_of_ble_eq_true rfl, Nat.le_of_ble_eq_true rfl⟩ rfl (Nat.le_of_ble_eq_true rfl) dX5_best_3 ?_
  refine s_if_ne (tgt := 11) O dX5_best_6 (by decide) (fun c => ?_) (fun c => ?_)
  · replace hf := if_f c hf
    refine s_aload_n O 0 dX5_best_11 rfl rfl ?_
    refine s_getR O fg_RX5_43 cs_0 rfl dX5_best_12 ?_
    refine s_ldc O ci_RX5_192 dX5_best_15 ?_
    obtain ⟨s4, r5, c6, hf⟩ := bn_e hf
    refine s_VV (As := [.int 1000000]) (st := []) O lk_RX5_193 (k_X0_beginBelow c6) rfl cs_59 rfl rfl ⟨rfl, rfl⟩ ⟨Nat.le_of_ble_eq_true rfl, Nat.le_of_ble_eq_true rfl⟩ rfl (Nat.le_of_ble_eq_true rfl) dX5_best_17 ?_
    refine s_iconst (v := 0) O dX5_best_20 rfl ?_
    refine s_istore_n (lv' := [(2, .int 0), (0, rf E 0), (1, .int a1)]) O dX5_best_21 rfl (by decide) rfl ?_
    refine s_loc [1, 2, 0] rfl ?_
    obtain ⟨s22, e23, c24, hf⟩ := bn_e hf
    refine lp_of (body := fun s v => fb_X5_best_l22 a1 a1 s v) (X := fun s v => WS cM E 3 22 [(0, rf E 0), (1, .int a1), (2, .int v)] [] s) (Y := fun s e => WS cM E 3 78 [(0, rf E 0), (1, .int a1)] [] s) (fun s v s' w hb Kc Ke => wb_X5_best_l22 (rr := rr) O   hret Kc Ke hb) FU _ _ (s22, e23) c24 ?_
    show WS cM E 3 78 [(0, rf E 0), (1, .int a1)] [] s22
    refine s_aload_n O 0 dX5_best_78 rfl rfl ?_
    refine s_getR O fg_RX5_43 cs_0 rfl dX5_best_79 ?_
    refine s_iload_n O 1 dX5_best_82 rfl rfl ?_
    obtain ⟨s25, r26, c27, hf⟩ := bn_e hf
    refine s_VI (As := [.int a1]) (st := []) O lk_RX5_200 (k_X0_answer c27) rfl cs_59 rfl rfl ⟨rfl, rfl⟩ ⟨Nat.le_of_ble_eq_true rfl, Nat.le_of_ble_eq_true rfl⟩ rfl (Nat.le_of_ble_eq_true rfl) dX5_best_83 ?_
    exact s_iret hret rfl dX5_best_86 hf
  · replace hf := if_t c hf
    refine s_iconst (v := (-1)) O dX5_best_9 rfl ?_
    exact s_iret hret rfl dX5_best_10 hf
