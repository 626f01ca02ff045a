/-! both, steer, hush, swap, need, minutes -/
theorem ix10 {i j : Nat} : 10 * nI i + nI j = nI (10 * i + j) := by
  rw [show (10 : Int32) = nI 10 from rfl, pk_mul, nI_add]
theorem both_in (b x2 : Int32) {a : Int32} {c m s t : StA} {n P Q S i : Nat} (hn : n ≤ 6) (hi : i < n) (a2 : Int32) (hQ0 : QI c m n P Q S 1000000 s t) : E2 (fl_X5_both_l45 b a2 a x2 (nI i) s (nI (i + 1))) (fl_X6_both_l37 b a2 a x2 (nI i) t (nI (i + 1))) (fun s' _ t' _ => QI c m n P Q S 1000000 s' t') := by
  unfold fl_X5_both_l45 fl_X6_both_l37
  refine E2_it (I := fun j s v t w => ∃ q, i < q ∧ q + j = n ∧ v = nI q ∧ w = nI q ∧ QI c m n P Q S 1000000 s t) (Z := fun s _ t _ => QI c m n P Q S 1000000 s t) ?_ FU FU (n - (i + 1)) (FU_gt (by omega)) (FU_gt (by omega)) _ _ _ _ ⟨i + 1, by omega, by omega, rfl, rfl, hQ0⟩
  rintro j s v t w ⟨q, hq, hqj, rfl, rfl, hQ⟩
  unfold fb_X5_both_l45 fb_X6_both_l37
  have hR := hQ.1
  rw [hR.1.2.1, hR.1.2.2.1]
  by_cases hi2 : n ≤ q
  · rw [if_pos (by rw [nI_le' (by omega) (by omega)]; exact hi2), if_pos (by rw [nI_le' (by omega) (by omega)]; exact hi2)]
    exact E2_ret (Or.inl ⟨_, _, rfl, rfl, hQ⟩)
  · rw [if_neg (by rw [nI_le' (by omega) (by omega)]; exact hi2), if_neg (by rw [nI_le' (by omega) (by omega)]; exact hi2)]
    obtain ⟨e1, e2⟩ := hR.sd (i := i) hi
    obtain ⟨e3, e4⟩ := hR.sd (i := q) (by omega)
    refine E2_le e1 (E2_re e2 ?_)
    have nx : ∀ {s' t' : StA}, QI c m n P Q S 1000000 s' t' → E2 (some (s', (Sum.inl (nI q + 1) : Int32 ⊕ Unit))) (some (t', (Sum.inl (nI q + 1) : Int32 ⊕ Unit))) (fun s' x t' y => (∃ e e', x = .inr e ∧ y = .inr e' ∧ QI c m n P Q S 1000000 s' t') ∨ (∃ j' v' w', j = j' + 1 ∧ x = .inl v' ∧ y = .inl w' ∧ ∃ q, i < q ∧ q + j' = n ∧ v' = nI q ∧ w' = nI q ∧ QI c m n P Q S 1000000 s' t')) := fun z => E2_ret (Or.inr ⟨j - 1, _, _, by omega, rfl, rfl, q + 1, by omega, by omega, nI_1 q, nI_1 q, z⟩)
    cases hb1 : S.testBit i
    · rw [if_pos (show bI false = 0 from rfl), if_neg (show ¬ bI (!false) = 0 by decide)]
      refine E2_le e3 (E2_re e4 ?_)
      cases hb2 : S.testBit q
      · rw [if_pos (show bI false = 0 from rfl), if_neg (show ¬ bI (!false) = 0 by decide)]
        refine E2_bn (E2_mono hQ.start ?_)
        rintro s1 _ t1 _ ⟨a1, -, a2, a3, a4, a5, a6, -, -, -⟩
        refine E2_le (a1.cs1 hi) (E2_re (a1.ms hi 1) ?_)
        have a1' := a1.set1 (t := i) hi
        refine E2_le (a1'.cs1 (t := q) (by omega)) (E2_re (a1'.ms (t := q) (by omega) 1) ?_)
        refine E2_bn (E2_mono (downAt_rel a (a1'.set1 (t := q) (by omega)) (by rw [gi_nj (by omega), gi_nj (by omega)]; exact a6)) ?_)
        rintro s2 x t2 y ⟨b1, b2, b3⟩
        have hC := (a4.frm (c' := si (si s1 12 7 (nI (S ||| 2 ^ i))) 12 7 (nI (S ||| 2 ^ i ||| 2 ^ q))) (m' := si (si t1 2 (4 * i + 3) 1) 2 (4 * q + 3) 1) (fun y => by rw [gi_nk (by omega), gi_nk (by omega)]) (by rw [gi_nk (by omega), gi_nk (by omega)]) (by rw [gi_nk (by omega), gi_nk (by omega)])).ag b2 b3 (fun y q => by have := q.1; omega) (by unfold DPm; omega) (by unfold DPm; omega)
        rw [ix10]
        refine E2_bn (E2_mono (offer_rel (key := nI (10 * i + q)) hC (by rw [ti_nI (by omega)]; omega) (by rw [million]; omega) b1) ?_)
        rintro s3 _ t3 _ ⟨d1, d2, d3⟩
        exact nx (hQ.nx ((((a2.si (dq1 _ _ (by omega))).si (dq1 _ _ (by omega))).tr (b2.ag dq2)).tr (d2.ag dq7)) ((((a3.si (dq4 _ _ rfl)).si (dq4 _ _ rfl)).tr (b3.ag dq4)).tr (d3.ag dq6)) d1)
      · rw [if_neg (show ¬ bI true = 0 by decide), if_pos (show bI (!true) = 0 from rfl)]
        exact nx hQ
    · rw [if_neg (show ¬ bI true = 0 by decide), if_pos (show bI (!true) = 0 from rfl)]
      exact nx hQ
theorem sim_both (a b : Int32) {c m : StA} (h : R0 c m) : E2 (f_X5_both a b c) (f_X6_both a b m) Fin := by
  have h0 := h
  obtain ⟨n, P, Q, S, h⟩ := h
  have hn := h.1.1
  unfold f_X5_both f_X6_both
  refine E2_ck (e_isPlace5 a c) (e_isPlace a m) (fun _ => ⟨rfl, h0⟩) (fun hp => ?_)
  refine E2_ck (e_isIn b 0 1 c) (e_isPart b m) (fun _ => ⟨rfl, h0⟩) (fun hp2 => ?_)
  refine E2_le (e_begin _ c) (E2_re (e_stJudge _ m) ?_)
  unfold fl_X5_both_l29 fl_X6_both_l24
  refine E2_bn (E2_mono (E2_it (I := fun j s v t w => ∃ i, i + j = n ∧ v = nI i ∧ w = nI i ∧ QI c m n P Q S 1000000 s t) (Z := fun s _ t _ => QI c m n P Q S 1000000 s t) ?_ FU FU n (FU_gt (by omega)) (FU_gt (by omega)) _ 0 _ 0 ⟨0, by omega, rfl, rfl, QI.ini h (by omega)⟩) (fun s _ t _ q => q.end h))
  rintro j s v t w ⟨i, hij, rfl, rfl, hQ⟩
  unfold fb_X5_both_l29 fb_X6_both_l24
  have hR := hQ.1
  rw [hR.1.2.1, hR.1.2.2.1]
  by_cases hi : n ≤ i
  · rw [if_pos (by rw [nI_le' (by omega) (by omega)]; exact hi), if_pos (by rw [nI_le' (by omega) (by omega)]; exact hi)]
    exact E2_ret (Or.inl ⟨_, _, rfl, rfl, hQ⟩)
  · rw [if_neg (by rw [nI_le' (by omega) (by omega)]; exact hi), if_neg (by rw [nI_le' (by omega) (by omega)]; exact hi)]
    unfold nmi
    rw [nI_1]
    refine E2_bn (E2_mono (both_in a b (a := a) hn (by omega) b hQ) ?_)
    rintro s' _ t' _ q
    exact E2_ret (Or.inr ⟨j - 1, _, _, by omega, rfl, rfl, i + 1, by omega, rfl, rfl, q⟩)
/-! changes of a trial's cells -/
theorem Rf.wt {c m : StA} {k n P Q S i : Nat} {fm : Nat → Bool} {v : Int32} (h : Rf c k m 2 0 n P Q S fm) (hi : i < n) (hv : rg v 1 9) : Rf (si c (k + 2) i v) k (si m 2 (4 * i + 1) v) 2 0 n P Q S fm := by
  obtain ⟨g1, g2, g3, g4, g5, g6, g7, g8, g9⟩ := h
  have hc : ∀ x y, x ≠ k + 2 → gi (si c (k + 2) i v) x y = gi c x y := fun x y q => gi_nk q
  have hm : ∀ y, y ≠ 4 * i + 1 → gi (si m 2 (4 * i + 1) v) 2 (0 + y) = gi m 2 (0 + y) := fun y q => gi_nj (by omega)
  refine ⟨g1, by rw [hc _ _ (by omega)]; exact g2, by rw [gi_nk (by omega)]; exact g3, fun q hq => ?_, g5.congr (hc _ _ (by omega)) (fun i hi => hm _ (by omega)), g6.congr (fun j _ _ => hc _ _ (by omega)) (fun x _ _ => hm _ (by omega)), g7.congr (fun j _ => hc _ _ (by omega)) (fun j _ => hm _ (by omega)), g8.congr (hc _ _ (by omega)) (fun q _ _ j _ => hc _ _ (by omega)) (fun x _ _ => hm _ (by omega)), g9.congr (hc _ _ (by omega)) (fun q _ _ j _ => hc _ _ (by omega)) (fun x _ _ => hm _ (by omega))⟩
  obtain ⟨r1, r2, r3, r4, r5, r6⟩ := g4 q hq
  rw [hc (k + 1) _ (by omega), hc (k + 3) _ (by omega), hm _ (by omega), hm (4 * q + 2) (by omega)]
  by_cases e : q = i
  · subst e
    rw [gi_at, Nat.zero_add (4 * q + 1), gi_at]
    exact ⟨r1, rfl, r3, r4, hv, r6⟩
  · rw [gi_nj e, hm _ (by omega)]
    exact ⟨r1, r2, r3, r4, r5, r6⟩
theorem Rf.kd {c m : StA} {k n P Q S i : Nat} {fm : Nat → Bool} {v : Int32} (h : Rf c k m 2 0 n P Q S fm) (hi : i < n) (hv : rg v 0 3) : Rf (si c (k + 1) i v) k (si m 2 (4 * i + 0) v) 2 0 n P Q S fm := by
  obtain ⟨g1, g2, g3, g4, g5, g6, g7, g8, g9⟩ := h
  have hc : ∀ x y, x ≠ k + 1 → gi (si c (k + 1) i v) x y = gi c x y := fun x y q => gi_nk q
  have hm : ∀ y, y ≠ 4 * i → gi (si m 2 (4 * i + 0) v) 2 (0 + y) = gi m 2 (0 + y) := fun y q => gi_nj (by omega)
  refine ⟨g1, by rw [hc _ _ (by omega)]; exact g2, by rw [gi_nk (by omega)]; exact g3, fun q hq => ?_, g5.congr (hc _ _ (by omega)) (fun i hi => hm _ (by omega)), g6.congr (fun j _ _ => hc _ _ (by omega)) (fun x _ _ => hm _ (by omega)), g7.congr (fun j _ => hc _ _ (by omega)) (fun j _ => hm _ (by omega)), g8.congr (hc _ _ (by omega)) (fun q _ _ j _ => hc _ _ (by omega)) (fun x _ _ => hm _ (by omega)), g9.congr (hc _ _ (by omega)) (fun q _ _ j _ => hc _ _ (by omega)) (fun x _ _ => hm _ (by omega))⟩
  obtain ⟨r1, r2, r3, r4, r5, r6⟩ := g4 q hq
  rw [hc (k + 2) _ (by omega), hc (k + 3) _ (by omega), hm (4 * q + 1) (by omega), hm (4 * q + 2) (by omega)]
  by_cases e : q = i
  · subst e
    rw [gi_at, show 0 + 4 * q = 4 * q + 0 by omega, gi_at]
    exact ⟨rfl, r2, r3, hv, r5, r6⟩
  · rw [gi_nj e, hm _ (by omega)]
    exact ⟨r1, r2, r3, r4, r5, r6⟩
theorem Rf.wd {c m : StA} {k n P Q S i : Nat} {fm : Nat → Bool} {v : Int32} (h : Rf c k m 2 0 n P Q S fm) (hi : i < 5) (hv : rg v 0 8) : Rf (si c (k + 4) i v) k (si m 2 (28 + i) v) 2 0 n P Q S fm := by
  obtain ⟨g1, g2, g3, g4, g5, g6, g7, g8, g9⟩ := h
  have hc : ∀ x y, x ≠ k + 4 → gi (si c (k + 4) i v) x y = gi c x y := fun x y q => gi_nk q
  have hm : ∀ y, y ≠ 28 + i → gi (si m 2 (28 + i) v) 2 (0 + y) = gi m 2 (0 + y) := fun y q => gi_nj (by omega)
  refine ⟨g1, by rw [hc _ _ (by omega)]; exact g2, by rw [gi_nk (by omega)]; exact g3, g4.congr (fun q _ _ j _ => hc _ _ (by omega)) (fun i x _ _ => hm _ (by omega)), g5.congr (hc _ _ (by omega)) (fun i hi => hm _ (by omega)), g6.congr (fun j _ _ => hc _ _ (by omega)) (fun x _ _ => hm _ (by omega)), fun q hq => ?_, g8.congr (hc _ _ (by omega)) (fun q _ _ j _ => hc _ _ (by omega)) (fun x _ _ => hm _ (by omega)), g9.congr (hc _ _ (by omega)) (fun q _ _ j _ => hc _ _ (by omega)) (fun x _ _ => hm _ (by omega))⟩
  by_cases e : q = i
  · subst e
    rw [gi_at, Nat.zero_add, gi_at]
    exact ⟨rfl, hv⟩
  · rw [gi_nj e, hm _ (by omega)]
    exact g7 q hq
theorem Rf.hu {c m m' : StA} {k n P Q S i : Nat} (h : Rf c k m 2 0 n P Q S noF) (hm2 : ∀ y, gi m' 2 y = gi m 2 y) (h3 : gi m' 0 3 = gi m 0 3) : Rf (si c (k + 6) i (-1)) k m' 2 0 n P Q S (fun j => j == i) := by
  obtain ⟨g1, g2, g3, g4, g5, g6, g7, g8, g9⟩ := h
  have hc : ∀ x y, x ≠ k + 6 → gi (si c (k + 6) i (-1)) x y = gi c x y := fun x y q => gi_nk q
  refine ⟨g1, by rw [hc _ _ (by omega)]; exact g2, by rw [h3]; exact g3, g4.congr (fun q _ _ j _ => hc _ _ (by omega)) (fun i x _ _ => hm2 _), g5.congr (hc _ _ (by omega)) (fun i hi => hm2 _), g6.congr (fun j _ _ => hc _ _ (by omega)) (fun x _ _ => hm2 _), g7.congr (fun j _ => hc _ _ (by omega)) (fun j _ => hm2 _), ⟨g8.1, by rw [hc _ _ (by omega)]; exact g8.2.1, by rw [hm2]; exact g8.2.2.1, fun j hj => ?_⟩, g9.congr (hc _ _ (by omega)) (fun q _ _ j _ => hc _ _ (by omega)) (fun x _ _ => hm2 _)⟩
  obtain ⟨r1, r2, r3⟩ := g8.2.2.2 j hj
  rw [hc _ _ (by omega), hm2, hm2]
  refine ⟨r1, r2, ?_⟩
  by_cases e : j = i
  · subst e
    rw [gi_at]
    simp
  · rw [gi_nj e, r3]
    simp [noF, e]
theorem Rf.sw {c m : StA} {k n P Q S i j ti tj : Nat} {fm : Nat → Bool} (h : Rf c k m 2 0 n P Q S fm) (hi : i < P) (hj : j < P) (hij : i ≠ j) (hti : ti < n) (htj : tj < n) : Rf (si (si c (k + 7) i (nI ti)) (k + 7) j (nI tj)) k (si (si m 2 (35 + 2 * i) (nI ti)) 2 (35 + 2 * j) (nI tj)) 2 0 n P Q S fm := by
  obtain ⟨g1, g2, g3, g4, g5, g6, g7, g8, g9⟩ := h
  have hP := g8.1
  have hc : ∀ x y, x ≠ k + 7 → gi (si (si c (k + 7) i (nI ti)) (k + 7) j (nI tj)) x y = gi c x y := fun x y q => by rw [gi_nk q, gi_nk q]
  have hm : ∀ y, y ≠ 35 + 2 * i → y ≠ 35 + 2 * j → gi (si (si m 2 (35 + 2 * i) (nI ti)) 2 (35 + 2 * j) (nI tj)) 2 (0 + y) = gi m 2 (0 + y) := fun y q q2 => by rw [gi_nj (by omega), gi_nj (by omega)]
  refine ⟨g1, by rw [hc _ _ (by omega)]; exact g2, by rw [gi_nk (by omega), gi_nk (by omega)]; exact g3, g4.congr (fun q _ _ j _ => hc _ _ (by omega)) (fun i x _ _ => hm _ (by omega) (by omega)), g5.congr (hc _ _ (by omega)) (fun i hi => hm _ (by omega) (by omega)), g6.congr (fun j _ _ => hc _ _ (by omega)) (fun x _ _ => hm _ (by omega) (by omega)), g7.congr (fun j _ => hc _ _ (by omega)) (fun j _ => hm _ (by omega) (by omega)), ⟨g8.1, by rw [hc _ _ (by omega)]; exact g8.2.1, by rw [hm _ (by omega) (by omega)]; exact g8.2.2.1, fun q hq => ?_⟩, g9.congr (hc _ _ (by omega)) (fun q _ _ j _ => hc _ _ (by omega)) (fun x _ _ => hm _ (by omega) (by omega))⟩
  obtain ⟨r1, r2, r3⟩ := g8.2.2.2 q hq
  rw [hc (k + 6) _ (by omega), hm (34 + 2 * q) (by omega) (by omega)]
  refine ⟨?_, r2, r3⟩
  by_cases e : q = j
  · subst e
    exact ⟨tj, htj, by rw [gi_at], by rw [Nat.zero_add, gi_at]⟩
  · by_cases e2 : q = i
    · subst e2
      exact ⟨ti, hti, by rw [gi_nj e, gi_at], by rw [Nat.zero_add, gi_nj (by omega), gi_at]⟩
    · rw [hm _ (by omega) (by omega), gi_nj e, gi_nj e2]
      exact r1
theorem off_eq {p a : Int32} (hp : rg p 0 99) (ha : rg a 0 99) : (if 0 ≤ p - a then p - a else 0 - (p - a)) = (if p ≤ a then a - p else p - a) ∧ rg (if p ≤ a then a - p else p - a) 0 999 := by
  obtain ⟨a1, a2⟩ := hp
  obtain ⟨b1, b2⟩ := ha
  have e1 : (p - a).toInt = p.toInt - a.toInt := by rw [ti_sub]; omega
  have e2 : (a - p).toInt = a.toInt - p.toInt := by rw [ti_sub]; omega
  have e0 : (0 : Int32).toInt = 0 := rfl
  have e3 : (0 - (p - a)).toInt = a.toInt - p.toInt := by rw [ti_sub, e1, e0]; omega
  by_cases h1 : p ≤ a
  · rw [if_pos h1]
    rw [ti_le] at h1
    refine ⟨?_, by unfold rg; rw [e2]; omega⟩
    by_cases h2 : 0 ≤ p - a
    · rw [if_pos h2, ti_inj]
      rw [ti_le, e0, e1] at h2
      omega
    · rw [if_neg h2, ti_inj]
      omega
  · rw [if_neg h1]
    rw [ti_le] at h1
    refine ⟨?_, by unfold rg; rw [e1]; omega⟩
    rw [if_pos (by rw [ti_le, e0, e1]; omega)]
theorem off_rel {s t : StA} {a : Int32} (h8 : gi s 12 9 = gi t 2 25) (hp : rg (gi s 12 9) 0 99) (ha : rg a 0 99) : ∃ r, f_X1_offFrom 12 a s = some (s, r) ∧ f_X6_offPlace a t = some (t, r) ∧ rg r 0 999 := by
  obtain ⟨e, hr⟩ := off_eq hp ha
  refine ⟨_, ?_, ?_, hr⟩
  · unfold f_X1_offFrom nmi
    rw [e]
  · unfold f_X6_offPlace
    rw [g25, g25, g25, t25, ← h8]
    by_cases q : gi s 12 9 ≤ a
    · rw [if_pos q, if_pos q]
    · rw [if_neg q, if_neg q]
theorem rg_of_nI {n N : Nat} {hi : Int} (h : n ≤ N) (hN : (N : Int) ≤ hi) (hb : N < 100000) : rg (nI n) 0 hi := by
  unfold rg
  rw [ti_nI (by omega)]
  omega
theorem sim_steer (a b d e : Int32) {c m : StA} (h : R0 c m) : E2 (f_X5_steer a b d e c) (f_X6_steer a b d e m) Fin := by
  have h0 := h
  obtain ⟨n, P, Q, S, h⟩ := h
  unfold f_X5_steer f_X6_steer
  refine E2_ck (e_isWind5 a c) (e_isWind a m) (fun _ => ⟨rfl, h0⟩) (fun hp => ?_)
  refine E2_ck (e_isPlace5 b c) (e_isPlace b m) (fun _ => ⟨rfl, h0⟩) (fun hp2 => ?_)
  refine E2_ck (e_isFore5 d c) (e_isFar d m) (fun _ => ⟨rfl, h0⟩) (fun hp3 => ?_)
  refine E2_ck (e_isIn e 0 1 c) (e_isPart e m) (fun _ => ⟨rfl, h0⟩) (fun hp4 => ?_)
  obtain ⟨A, hA, rfl⟩ := ck_n (N := 4) rfl hp
  obtain ⟨B, hB, rfl⟩ := ck_n (N := 99) rfl hp2
  obtain ⟨D, hD, rfl⟩ := ck_n (N := 60) rfl hp3
  refine E2_le (e_begin _ c) (E2_re (e_stJudge _ m) ?_)
  unfold fl_X5_steer_l45 fl_X6_steer_l40
  refine E2_bn (E2_mono (E2_it (I := fun j s v t w => ∃ i, i + j = 9 ∧ v = nI i ∧ w = nI i ∧ QI c m n P Q S 1000000 s t) (Z := fun s _ t _ => QI c m n P Q S 1000000 s t) ?_ FU FU 9 (FU_gt (by omega)) (FU_gt (by omega)) _ 0 _ 0 ⟨0, by omega, rfl, rfl, QI.ini h (by omega)⟩) (fun s _ t _ q => q.end h))
  rintro j s v t w ⟨i, hij, rfl, rfl, hQ⟩
  unfold fb_X5_steer_l45 fb_X6_steer_l40
  have hlt : (8 : Int32) < nI i ↔ 8 < i := by rw [show (8 : Int32) = nI 8 from rfl]; exact nI_lt' (by omega) (by omega)
  by_cases hi : 8 < i
  · rw [if_pos (hlt.mpr hi), if_pos (hlt.mpr hi)]
    exact E2_ret (Or.inl ⟨_, _, rfl, rfl, hQ⟩)
  · rw [if_neg (fun q => hi (hlt.mp q)), if_neg (fun q => hi (hlt.mp q))]
    refine E2_bn (E2_mono hQ.start ?_)
    rintro s1 _ t1 _ ⟨a1, -, a2, a3, a4, a5, a6, -, -, -⟩
    rw [gd_n (show A < 5 by omega) (by omega), tn_nI (by omega), ix28, gd_n (show 28 + A < 63 by omega) (by omega), tn_nI (by omega)]
    unfold nms
    have b0 : TT (si s1 16 A (nI i)) (si t1 2 (28 + A) (nI i)) 12 n P Q S noF := ⟨a1.1.wd (k := 12) (by omega) (rg_of_nI (N := 8) (by omega) (by omega) (by omega)), fun q hq => by rw [gi_nk (by omega)]; exact a1.2.1 q hq, by rw [gi_nk (by omega)]; exact a1.2.2⟩
    refine E2_bn (E2_mono (passAll_rel b0 (by omega) (by rw [gi_nk (by omega)]; omega)) ?_)
    rintro s2 _ t2 _ hL
    obtain ⟨r, e1, e2, hr⟩ := off_rel (a := nI B) hL.nm.2.2.1 hL.nm.2.2.2 (rg_of_nI (N := 99) (by omega) (by omega) (by omega))
    refine E2_le e1 (E2_re e2 ?_)
    have hC := (a4.frm (c' := si s1 16 A (nI i)) (m' := si t1 2 (28 + A) (nI i)) (fun y => gi_nk (by omega)) (gi_nk (by omega)) (gi_nk (by omega))).ag hL.2.1 hL.2.2.1 (fun y q => by have := q.1; omega) (by unfold DPm; omega) (by unfold DPm; omega)
    refine E2_bn (E2_mono (offer_rel (key := nI i) hC (by rw [ti_nI (by omega)]; omega) (by rw [million]; omega) (Or.inr ⟨rfl, hr⟩)) ?_)
    rintro s3 _ t3 _ ⟨d1, d2, d3⟩
    exact E2_ret (Or.inr ⟨j - 1, _, _, by omega, rfl, rfl, i + 1, by omega, nI_1 i, nI_1 i, hQ.nx (((a2.si (dq1 _ _ (by omega))).tr (hL.2.1.ag dq2)).tr (d2.ag dq7)) (((a3.si (dq4 _ _ rfl)).tr (hL.2.2.1.ag dq4)).tr (d3.ag dq6)) d1⟩)
theorem fb_one : ∀ i, i < 8 → ∀ j, j < 8 → ((((1 : Int32) <<< (nI i &&& 31)) >>> (nI j &&& 31)) &&& 1) = bI (j == i) := by decide +kernel
theorem sim_hush (a b : Int32) {c m : StA} (h : R0 c m) : E2 (f_X5_hush a b c) (f_X6_hush a b m) Fin := by
  have h0 := h
  obtain ⟨n, P, Q, S, h⟩ := h
  have hP := h.1.2.2.2.2.2.2.2.1.1
  unfold f_X5_hush f_X6_hush
  refine E2_ck (e_isFore5 a c) (e_isFar a m) (fun _ => ⟨rfl, h0⟩) (fun hp => ?_)
  refine E2_ck (e_isIn b 0 1 c) (e_isPart b m) (fun _ => ⟨rfl, h0⟩) (fun hp2 => ?_)
  obtain ⟨N, hN, rfl⟩ := ck_n (N := 60) rfl hp
  refine E2_bn (E2_mono (start_rel h) ?_)
  rintro c1 _ m1 _ ⟨a1, -, a2, a3, a4⟩
  have hm := min_ok h a4
  refine E2_bn (E2_mono (great_rel a1 (by omega) (by omega)) ?_)
  rintro c2 r m2 _ ⟨hL, hr, hrg⟩
  rw [hr]
  have h2 : RR c2 m2 n P Q S := h.q ((a2.ag dq1).tr (hL.2.1.ag dq2)) ((a3.ag dq3).tr (hL.2.2.1.ag dq5))
  refine E2_le (e_begin _ c2) (E2_re (e_stJudge _ m2) ?_)
  unfold fl_X5_hush_l39 fl_X6_hush_l35
  refine E2_bn (E2_mono (E2_it (I := fun j s v t w => ∃ i, i + j = P ∧ v = nI i ∧ w = nI i ∧ QI c2 m2 n P Q S 1000000 s t) (Z := fun s _ t _ => QI c2 m2 n P Q S 1000000 s t) ?_ FU FU P (FU_gt (by omega)) (FU_gt (by omega)) _ 0 _ 0 ⟨0, by omega, rfl, rfl, QI.ini h2 (by rw [million]; have := hrg.2; omega)⟩) (fun s _ t _ q => q.end h2))
  rintro j s v t w ⟨i, hij, rfl, rfl, hQ⟩
  unfold fb_X5_hush_l39 fb_X6_hush_l35
  have hpl := hQ.1.1.2.2.2.2.2.2.2.1
  have p1 : gi s 6 2 = nI P := hpl.2.1
  have p2 := hpl.2.2.1
  rw [Nat.zero_add] at p2
  rw [G33, t33, p1, p2]
  by_cases hi : P ≤ i
  · rw [if_pos (by rw [nI_le' (by omega) (by omega)]; exact hi), if_pos (by rw [nI_le' (by omega) (by omega)]; exact hi)]
    exact E2_ret (Or.inl ⟨_, _, rfl, rfl, hQ⟩)
  · rw [if_neg (by rw [nI_le' (by omega) (by omega)]; exact hi), if_neg (by rw [nI_le' (by omega) (by omega)]; exact hi)]
    refine E2_bn (E2_mono hQ.start ?_)
    rintro s1 _ t1 _ ⟨q1, -, q2, q3, q4, q5, q6, q7, -, -⟩
    rw [gd_n (show i < 8 by omega) (by omega), tn_nI (by omega)]
    unfold nms
    have b0 : TT (si s1 18 i (-1)) (si t1 0 17 (1 <<< (nI i &&& 31))) 12 n P Q S (fun j => j == i) := ⟨q1.1.hu (k := 12) (fun y => gi_nk (by omega)) (gi_nj (by omega)), fun q hq => by rw [gi_at]; exact fb_one i (by omega) q (by omega), by rw [gi_nj (by omega)]; exact q1.2.2⟩
    refine E2_bn (E2_mono (great_rel b0 (by omega) (by rw [gi_nk (by omega)]; omega)) ?_)
    rintro s2 r2 t2 _ ⟨hL2, hr2, hrg2⟩
    rw [hr2]
    have hC := (q4.frm (c' := si s1 18 i (-1)) (m' := si t1 0 17 (1 <<< (nI i &&& 31))) (fun y => gi_nk (by omega)) (gi_nj (by omega)) (gi_nj (by omega))).ag hL2.2.1 hL2.2.2.1 (fun y q => by have := q.1; omega) (by unfold DCm; omega) (by unfold DCm; omega)
    refine E2_bn (E2_mono (offer_rel (key := nI i) hC (by rw [ti_nI (by omega)]; omega) (by rw [million]; omega) (Or.inr ⟨rfl, hrg2.1, by have := hrg2.2; omega⟩)) ?_)
    rintro s3 _ t3 _ ⟨d1, d2, d3⟩
    exact E2_ret (Or.inr ⟨j - 1, _, _, by omega, rfl, rfl, i + 1, by omega, nI_1 i, nI_1 i, hQ.nx (((q2.si (dq1 _ _ (by omega))).tr (hL2.2.1.ag dq2)).tr (d2.ag dq7)) (((q3.si (by unfold DQm; omega)).tr (hL2.2.2.1.ag dq5)).tr (d3.ag dq6)) d1⟩)
