/-! swap, need, minutes -/
theorem RR.pl {c m : StA} {n P Q S i : Nat} (h : RR c m n P Q S) (hi : i < P) : ∃ t, t < n ∧ gi c 8 i = nI t ∧ gi m 1 (35 + 2 * i) = nI t := by
  obtain ⟨⟨t, h1, h2, h3⟩, -⟩ := h.1.2.2.2.2.2.2.2.1.2.2.2 i hi
  rw [Nat.zero_add] at h3
  exact ⟨t, h1, h2, h3⟩
theorem RR.ps {c m : StA} {n P Q S : Nat} (h : RR c m n P Q S) : P ≤ 8 ∧ gi c 6 2 = nI P ∧ gi m 1 33 = nI P := by
  obtain ⟨h1, h2, h3, -⟩ := h.1.2.2.2.2.2.2.2.1
  rw [Nat.zero_add] at h3
  exact ⟨h1, h2, h3⟩
theorem swap_in (a : Int32) {c m s t : StA} {n P Q S i : Nat} (hP : P ≤ 8) (hi : i < P) (hQ0 : QI c m n P Q S 1000000 s t) : E2 (fl_X5_swap_l49 a a (nI i) s (nI (i + 1))) (fl_X6_swap_l52 a a (nI i) t (nI (i + 1))) (fun s' _ t' _ => QI c m n P Q S 1000000 s' t') := by
  unfold fl_X5_swap_l49 fl_X6_swap_l52
  refine E2_it (I := fun j s v t w => ∃ q, i < q ∧ q + j = P ∧ v = nI q ∧ w = nI q ∧ QI c m n P Q S 1000000 s t) (Z := fun s _ t _ => QI c m n P Q S 1000000 s t) ?_ FU FU (P - (i + 1)) (FU_gt (by omega)) (FU_gt (by omega)) _ _ _ _ ⟨i + 1, by omega, by omega, rfl, rfl, hQ0⟩
  rintro j s v t w ⟨q, hq, hqj, rfl, rfl, hQ⟩
  unfold fb_X5_swap_l49 fb_X6_swap_l52
  obtain ⟨-, p1, p2⟩ := hQ.1.ps
  rw [G33, t33, p1, p2]
  by_cases hi2 : P ≤ q
  · rw [if_pos (by rw [nI_le' (by omega) (by omega)]; exact hi2), if_pos (by rw [nI_le' (by omega) (by omega)]; exact hi2)]
    exact E2_ret (Or.inl ⟨_, _, rfl, rfl, hQ⟩)
  · rw [if_neg (by rw [nI_le' (by omega) (by omega)]; exact hi2), if_neg (by rw [nI_le' (by omega) (by omega)]; exact hi2)]
    obtain ⟨ti, ti1, ti2, ti3⟩ := hQ.1.pl (i := i) hi
    obtain ⟨tq, tq1, tq2, tq3⟩ := hQ.1.pl (i := q) (by omega)
    refine E2_bn (E2_mono hQ.start ?_)
    rintro s1 _ t1 _ ⟨a1, -, a2, a3, a4, a5, a6, -, a8, a9⟩
    rw [gd_n (show q < 8 by omega) (by omega), gd_n (show i < 8 by omega) (by omega), tn_nI (show q < 2147483648 by omega), tn_nI (show i < 2147483648 by omega), a8 8 q (by omega), tq2]
    rw [ix35, ix35, gd_n (show 35 + 2 * q < 189 by omega) (by omega), gd_n (show 35 + 2 * i < 63 by omega) (by omega), tn_nI (show 35 + 2 * q < 2147483648 by omega), tn_nI (show 35 + 2 * i < 2147483648 by omega), a9, tq3]
    simp only [nms]
    rw [gd_n (show i < 8 by omega) (by omega), gd_n (show q < 8 by omega) (by omega), gd_n (show 35 + 2 * i < 189 by omega) (by omega), gd_n (show 35 + 2 * q < 63 by omega) (by omega)]
    rw [gi_nk (show (8 : Nat) ≠ 19 by omega), a8 8 i (by omega), ti2, gi_nk (show (1 : Nat) ≠ 2 by omega), a9, ti3]
    have b0 : TT (si (si s1 19 i (nI tq)) 19 q (nI ti)) (si (si t1 2 (35 + 2 * i) (nI tq)) 2 (35 + 2 * q) (nI ti)) 12 n P Q S noF := ⟨a1.1.sw (k := 12) hi (by omega) (by omega) tq1 ti1, fun z hz => by rw [gi_nk (by omega), gi_nk (by omega)]; exact a1.2.1 z hz, by rw [gi_nk (by omega), gi_nk (by omega)]; exact a1.2.2⟩
    refine E2_bn (E2_mono (down_rel b0 (by rw [gi_nk (by omega), gi_nk (by omega)]; exact a6)) ?_)
    rintro s2 x t2 y ⟨b1, b2, b3⟩
    have hC := (a4.frm (c' := si (si s1 19 i (nI tq)) 19 q (nI ti)) (m' := si (si t1 2 (35 + 2 * i) (nI tq)) 2 (35 + 2 * q) (nI ti)) (fun y => by rw [gi_nk (by omega), gi_nk (by omega)]) (by rw [gi_nk (by omega), gi_nk (by omega)]) (by rw [gi_nk (by omega), gi_nk (by omega)])).ag b2 b3 (fun y q => by have := q.1; omega) (by unfold DPm; omega) (by unfold DPm; omega)
    rw [ix10]
    refine E2_bn (E2_mono (offer_rel (key := nI (10 * i + q)) hC (by rw [ti_nI (by omega)]; omega) (by rw [million]; omega) b1) ?_)
    rintro s3 _ t3 _ ⟨d1, d2, d3⟩
    exact E2_ret (Or.inr ⟨j - 1, _, _, by omega, rfl, rfl, q + 1, by omega, by omega, nI_1 q, nI_1 q, hQ.nx ((((a2.si (dq1 _ _ (by omega))).si (dq1 _ _ (by omega))).tr (b2.ag dq2)).tr (d2.ag dq7)) ((((a3.si (dq4 _ _ rfl)).si (dq4 _ _ rfl)).tr (b3.ag dq4)).tr (d3.ag dq6)) d1⟩)
theorem sim_swap (a : Int32) {c m : StA} (h : R0 c m) : E2 (f_X5_swap a c) (f_X6_swap a m) Fin := by
  have h0 := h
  obtain ⟨n, P, Q, S, h⟩ := h
  have hP := h.ps.1
  unfold f_X5_swap f_X6_swap
  refine E2_ck (e_isIn a 0 1 c) (e_isPart a m) (fun _ => ⟨rfl, h0⟩) (fun hp => ?_)
  refine E2_bn (E2_mono (start_rel h) ?_)
  rintro c1 _ m1 _ ⟨a1, -, a2, a3, a4⟩
  refine E2_bn (E2_mono (down_rel a1 (min_ok h a4).1) ?_)
  rintro c2 x m2 y ⟨b1, b2, b3⟩
  have h2 : RR c2 m2 n P Q S := h.q ((a2.ag dq1).tr (b2.ag dq2)) ((a3.ag dq3).tr (b3.ag dq4))
  have e : (if y = -4 then fj_X6_swap_j31 a 1000000 m2 else fj_X6_swap_j31 a y m2) = fj_X6_swap_j31 a x m2 := by
    rcases b1 with ⟨rfl, rfl⟩ | ⟨rfl, hr⟩
    · rw [if_pos rfl]
    · rw [if_neg (by rw [ti_inj]; have : (-4 : Int32).toInt = -4 := rfl; have := hr.1; omega)]
  rw [e]
  have hx : x.toInt ≤ 1000000 := by
    rcases b1 with ⟨rfl, rfl⟩ | ⟨rfl, hr⟩
    · rw [million]; omega
    · have := hr.2; omega
  unfold fj_X6_swap_j31
  refine E2_le (e_begin _ c2) (E2_re (e_stJudge _ m2) ?_)
  unfold fl_X5_swap_l31 fl_X6_swap_l36
  refine E2_bn (E2_mono (E2_it (I := fun j s v t w => ∃ i, i + j = P ∧ v = nI i ∧ w = nI i ∧ QI c2 m2 n P Q S 1000000 s t) (Z := fun s _ t _ => QI c2 m2 n P Q S 1000000 s t) ?_ FU FU P (FU_gt (by omega)) (FU_gt (by omega)) _ 0 _ 0 ⟨0, by omega, rfl, rfl, QI.ini h2 (by rw [million]; omega)⟩) (fun s _ t _ q => q.end h2))
  rintro j s v t w ⟨i, hij, rfl, rfl, hQ⟩
  unfold fb_X5_swap_l31 fb_X6_swap_l36
  obtain ⟨-, p1, p2⟩ := hQ.1.ps
  rw [G33, t33, p1, p2]
  by_cases hi : P ≤ i
  · rw [if_pos (by rw [nI_le' (by omega) (by omega)]; exact hi), if_pos (by rw [nI_le' (by omega) (by omega)]; exact hi)]
    exact E2_ret (Or.inl ⟨_, _, rfl, rfl, hQ⟩)
  · rw [if_neg (by rw [nI_le' (by omega) (by omega)]; exact hi), if_neg (by rw [nI_le' (by omega) (by omega)]; exact hi)]
    unfold nmi
    rw [nI_1]
    refine E2_bn (E2_mono (swap_in a hP (by omega) hQ) ?_)
    rintro s' _ t' _ q
    exact E2_ret (Or.inr ⟨j - 1, _, _, by omega, rfl, rfl, i + 1, by omega, rfl, rfl, q⟩)
/-- as QI, without a choice -/
def QJ (c m : StA) (n P Q S : Nat) (s t : StA) : Prop := RR s t n P Q S ∧ agQ DQc c s ∧ agQ DQm m t
theorem QJ.nx {c m s t s' t' : StA} {n P Q S : Nat} (h : QJ c m n P Q S s t) (hc : agQ DQc s s') (hm : agQ DQm t t') : QJ c m n P Q S s' t' := ⟨h.1.q hc hm, h.2.1.tr hc, h.2.2.tr hm⟩
theorem QJ.ini {c m : StA} {n P Q S : Nat} (h : RR c m n P Q S) : QJ c m n P Q S c m := ⟨h, agQ.rf c, agQ.rf m⟩
theorem QJ.start {c m s t : StA} {n P Q S : Nat} (h : QJ c m n P Q S s t) : E2 (f_X5_restartTrial s) (f_X6_starts t) (fun s1 _ t1 _ => TT s1 t1 12 n P Q S noF ∧ gi t1 0 17 = 0 ∧ agQ DQc s s1 ∧ agQ DQm t t1 ∧ gi s1 12 11 = gi s 1 11 ∧ (gi s1 12 11).toInt + 100 ≤ 5000 ∧ 0 ≤ (gi s1 12 11).toInt ∧ (∀ x y, x < 12 → gi s1 x y = gi s x y) ∧ (∀ y, gi t1 1 y = gi t 1 y) ∧ eqC (fun x _ => 12 ≤ x ∧ x ≤ 22) s s1 ∧ eqC DTm t t1) := by
  refine E2_mono (start_rel h.1) ?_
  rintro s1 _ t1 _ ⟨a1, a2, a3, a4, a5⟩
  exact ⟨a1, a2, a3.ag dq1, a4.ag dq3, a5, (min_ok h.1 a5).1, (min_ok h.1 a5).2, fun x y hx => a3.1 _ _ (by omega), fun y => a4.1 _ _ (by unfold DTm; omega), a3, a4⟩
theorem e_becof1 {t : Nat} {v : Int32} {m : StA} (ht : t < 6) : f_X6_becomesOf (nI t) 1 v m = some (si m 2 (4 * t + 1) v, ()) := e_becof (j := 1) ht (by omega)
theorem e_becof0 {t : Nat} {v : Int32} {m : StA} (ht : t < 6) : f_X6_becomesOf (nI t) 0 v m = some (si m 2 (4 * t + 0) v, ()) := e_becof (j := 0) ht (by omega)
theorem sim_need (a b d : Int32) {c m : StA} (h : R0 c m) : E2 (f_X5_need a b d c) (f_X6_need a b d m) Fin := by
  have h0 := h
  obtain ⟨n, P, Q, S, h⟩ := h
  have hn := h.1.1
  unfold f_X5_need f_X6_need
  refine E2_ck (p := 0 ≤ a ∧ a ≤ nI n - 1) (by rw [e_hasThing, h.1.2.1]) (by rw [e_isThing, h.1.2.2.1]) (fun _ => ⟨rfl, h0⟩) (fun hp => ?_)
  refine E2_ck (e_isFore5 b c) (e_isFar b m) (fun _ => ⟨rfl, h0⟩) (fun hp3 => ?_)
  refine E2_ck (e_isHeight5 d c) (e_in (y := 0) (z := 60) (b := 0) (c := 60) rfl rfl m) (fun _ => ⟨rfl, h0⟩) (fun hp4 => ?_)
  obtain ⟨A, hA, rfl⟩ := ck_t (by omega) hp
  obtain ⟨B, hB, rfl⟩ := ck_n (N := 60) rfl hp3
  unfold fl_X5_need_l30 fl_X6_need_l32
  refine E2_bn (E2_mono (E2_it (I := fun j s v t w => ∃ i, 1 ≤ i ∧ i + j = 10 ∧ v = nI i ∧ w = nI i ∧ QJ c m n P Q S s t) (Z := fun s x t y => x = y ∧ QJ c m n P Q S s t) ?_ FU FU 9 (FU_gt (by omega)) (FU_gt (by omega)) _ 1 _ 1 ⟨1, by omega, by omega, rfl, rfl, QJ.ini h⟩) ?_)
  · rintro j s v t w ⟨i, hi1, hij, rfl, rfl, hQ⟩
    unfold fb_X5_need_l30 fb_X6_need_l32
    have hlt : (9 : Int32) < nI i ↔ 9 < i := by rw [show (9 : Int32) = nI 9 from rfl]; exact nI_lt' (by omega) (by omega)
    by_cases hi : 9 < i
    · rw [if_pos (hlt.mpr hi), if_pos (hlt.mpr hi)]
      exact E2_ret (Or.inl ⟨_, _, rfl, rfl, rfl, hQ⟩)
    · rw [if_neg (fun q => hi (hlt.mp q)), if_neg (fun q => hi (hlt.mp q))]
      refine E2_bn (E2_mono hQ.start ?_)
      rintro s1 _ t1 _ ⟨a1, -, a2, a3, a5, a6, a7, -⟩
      rw [gd_n (show A < 6 by omega) (by omega), tn_nI (by omega)]
      refine E2_re (e_becof1 (by omega)) ?_
      unfold nms
      have hv : rg (nI i) 1 9 := by unfold rg; rw [ti_nI (by omega)]; omega
      have b0 : TT (si s1 14 A (nI i)) (si t1 2 (4 * A + 1) (nI i)) 12 n P Q S noF := ⟨a1.1.wt (k := 12) hA hv, fun q hq => by rw [gi_nk (by omega)]; exact a1.2.1 q hq, by rw [gi_nk (by omega)]; exact a1.2.2⟩
      refine E2_bn (E2_mono (passAll_rel b0 (by omega) (by rw [gi_nk (by omega)]; omega)) ?_)
      rintro s2 _ t2 _ hL
      have hN := hQ.nx ((a2.si (dq1 14 A (by omega))).tr (hL.2.1.ag dq2)) ((a3.si (dq4 2 (4 * A + 1) rfl)).tr (hL.2.2.1.ag dq4))
      rw [g24, t24, ← hL.nm.1]
      by_cases e : gi s2 12 8 < d
      · rw [if_pos e, if_pos e]
        exact E2_ret (Or.inr ⟨j - 1, _, _, by omega, rfl, rfl, i + 1, by omega, by omega, nI_1 i, nI_1 i, hN⟩)
      · rw [if_neg e, if_neg e]
        exact E2_ret (Or.inl ⟨_, _, rfl, rfl, rfl, hN⟩)
  · rintro s x t y ⟨rfl, hQ⟩
    rcases x with x | x
    · exact E2_ret (h.fin hQ.2.1 hQ.2.2)
    · exact E2_ret (h.fin hQ.2.1 hQ.2.2)
theorem sim_minutes (a : Int32) {c m : StA} (h : R0 c m) : E2 (f_X5_minutes a c) (f_X6_minutes a m) Fin := by
  have h0 := h
  obtain ⟨n, P, Q, S, h⟩ := h
  unfold f_X5_minutes f_X6_minutes
  refine E2_ck (e_isIn a 0 30 c) (e_in (y := 0) (z := 30) (b := 0) (c := 30) rfl rfl m) (fun _ => ⟨rfl, h0⟩) (fun hp => ?_)
  obtain ⟨N, hN, rfl⟩ := ck_n (N := 30) rfl hp
  obtain ⟨h1, h2, h3, h4, h5, h6, h7⟩ := id h
  obtain ⟨g1, g2, g3, g4, g5, g6, g7, g8, g9⟩ := id h1
  have r7 := g6.2.2.2.2.2.2.1
  have r8 := g6.2.2.2.2.2.2.2
  rw [Nat.zero_add] at r7
  rw [G27, t27, ← r7]
  have es : (gi c 1 11 + nI N).toInt = (gi c 1 11).toInt + (N : Int) := by
    rw [ti_add, ti_nI (by omega)]
    have := r8.1
    omega
  have e1 : (gi c 1 11 + nI N < 1000) ↔ (gi c 1 11).toInt + (N : Int) < 1000 := by rw [ti_lt, es, show (1000 : Int32).toInt = 1000 from rfl]
  have e2 : (gi c 1 11 + nI N ≤ 999) ↔ (gi c 1 11).toInt + (N : Int) < 1000 := by rw [ti_le, es, show (999 : Int32).toInt = 999 from rfl]; omega
  by_cases q : (gi c 1 11).toInt + (N : Int) < 1000
  · rw [if_pos (e1.mpr q), if_pos (e2.mpr q)]
    obtain ⟨m1, _, em1, s1, s2, s3, s4⟩ := e_starts m
    refine E2_re em1 ?_
    have hT : TT c m1 1 n P Q S noF := ⟨h1.congr (fun _ _ _ => rfl) (fun _ _ _ _ _ => rfl) (fun _ _ => rfl) rfl (fun _ _ _ _ _ => rfl) rfl (fun _ _ _ _ _ => rfl) (fun x hx => by first | exact s1 x hx | (rw [Nat.zero_add]; exact s1 x hx)) (s4.1 0 3 (by omega)), Fb0 g8.1 s2, s3⟩
    refine E2_bn (E2_mono (passAll_rel hT (by omega) (by omega)) ?_)
    rintro c2 _ m2 _ hL
    obtain ⟨m3, _, em3, u1, u2⟩ := e_settles m2
    refine E2_re em3 ?_
    have k1 : ∀ x y, x ≠ 1 → gi c2 x y = gi c x y := fun x y z => hL.2.1.1 x y (by unfold DPc; omega)
    have k2 : ∀ x y, ¬ (x = 2 ∨ (x = 0 ∧ (y = 17 ∨ y = 18)) ∨ (x = 1 ∧ y < 63)) → gi m3 x y = gi m x y := fun x y z => by rw [u2.1 x y (by omega), hL.2.2.1.1 x y (by unfold DPm; omega), s4.1 x y (by omega)]
    rw [G24, t24, u1 24 (by omega), ← hL.nm.1]
    refine E2_ret ⟨rfl, n, P, Q, ?_⟩
    obtain ⟨⟨S', hT2⟩, -, -, hmin⟩ := hL
    refine ⟨S', ?_, by rw [hmin]; omega, h3.frm (fun _ _ => k1 _ _ (by omega)) (fun _ _ => k2 _ _ (by omega)) (fun _ _ _ _ => k1 _ _ (by omega)) (fun _ _ _ => k2 _ _ (by omega)) (k2 _ _ (by omega)), h4.frm (k1 _ _ (by omega)) (k2 _ _ (by omega)) (fun _ => k1 _ _ (by omega)) (fun _ => k1 _ _ (by omega)) (fun _ => k2 _ _ (by omega)), by rw [k1 _ _ (by omega), k2 _ _ (by omega)]; exact h5, by rw [k1 _ _ (by omega), k2 _ _ (by omega)]; exact h6, h7.frm (fun _ _ _ _ => k1 _ _ (by omega)) (fun _ => k2 _ _ (by omega)) (fun _ => k2 _ _ (by omega)) (fun _ => k2 _ _ (by omega))⟩
    exact hT2.1.congr (fun _ _ _ => rfl) (fun _ _ _ _ _ => rfl) (fun _ _ => rfl) rfl (fun _ _ _ _ _ => rfl) rfl (fun _ _ _ _ _ => rfl) (fun x hx => by first | exact u1 x hx | (rw [Nat.zero_add]; exact u1 x hx)) (u2.1 0 3 (by omega))
  · rw [if_neg (fun z => q (e1.mp z)), if_neg (fun z => q (e2.mp z))]
    exact E2_ret ⟨rfl, h0⟩
