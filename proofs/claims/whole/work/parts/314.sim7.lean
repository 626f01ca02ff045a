/-! feed, end, count, sheet, lay -/
theorem e_sort (a : Int32) (s : StA) : f_X3_sortOf a s = some (s, srt a) := by
  unfold f_X3_sortOf srt
  rw [e_isIn]
  simp only [bn]
  by_cases h1 : 97 ≤ a ∧ a ≤ 122
  · rw [if_pos h1, if_pos h1, if_neg (show ¬ (1 : Int32) = 0 by decide)]
  · rw [if_neg h1, if_neg h1, if_pos rfl, e_isIn]
    simp only
    by_cases h2 : 48 ≤ a ∧ a ≤ 57
    · rw [if_pos h2, if_pos h2, if_neg (show ¬ (1 : Int32) = 0 by decide)]
    · rw [if_neg h2, if_neg h2, if_pos rfl]
      by_cases h3 : a = 59
      · rw [if_pos h3, if_pos h3]
      · rw [if_neg h3, if_neg h3]
        by_cases h4 : a = 32
        · rw [if_pos h4, if_pos h4]
        · rw [if_neg h4, if_neg h4]
theorem RR.tp {c m c' m' : StA} {n P Q S : Nat} (h : RR c m n P Q S) (hc : ∀ x y, ¬ (x = 47 ∧ y = 2) → x ≠ 48 → x ≠ 49 → gi c' x y = gi c x y) (hm : ∀ x y, ¬ (x = 0 ∧ y = 10) → x ≠ 5 → gi m' x y = gi m x y) (hT : Rtp c' m') : RR c' m' n P Q S := by
  obtain ⟨h1, h2, h3, h4, h5, h6, h7⟩ := h
  have kc : ∀ x y, x < 47 ∨ 49 < x → gi c' x y = gi c x y := fun x y z => hc _ _ (by omega) (by omega) (by omega)
  have km : ∀ x y, x ≠ 0 ∨ y ≠ 10 → x ≠ 5 → gi m' x y = gi m x y := fun x y z w => hm _ _ (by omega) w
  exact ⟨h1.congr (fun j _ _ => kc _ _ (by omega)) (fun q _ _ j _ => kc _ _ (by omega)) (fun j _ => kc _ _ (by omega)) (kc _ _ (by omega)) (fun q _ _ j _ => kc _ _ (by omega)) (kc _ _ (by omega)) (fun q _ _ j _ => kc _ _ (by omega)) (fun x _ => km _ _ (by omega) (by omega)) (km _ _ (by omega) (by omega)), by rw [kc _ _ (by omega)]; exact h2, h3.frm (fun _ _ => kc _ _ (by omega)) (fun _ _ => km _ _ (by omega) (by omega)) (fun _ _ _ _ => kc _ _ (by omega)) (fun _ _ _ => km _ _ (by omega) (by omega)) (km _ _ (by omega) (by omega)), hT, by rw [hc _ _ (by omega) (by omega) (by omega), km _ _ (by omega) (by omega)]; exact h5, by rw [kc _ _ (by omega), km _ _ (by omega) (by omega)]; exact h6, h7.frm (fun _ _ _ _ => kc _ _ (by omega)) (fun _ => km _ _ (by omega) (by omega)) (fun _ => km _ _ (by omega) (by omega)) (fun _ => km _ _ (by omega) (by omega))⟩
theorem sim_feed (a : Int32) {c m : StA} (h : R0 c m) : E2 (f_X5_feed a c) (f_X6_feed a m) Fin := by
  have h0 := h
  obtain ⟨n, P, Q, S, h⟩ := h
  unfold f_X5_feed f_X6_feed
  refine E2_ck (e_isIn a 0 127 c) (e_in (y := 0) (z := 127) (b := 0) (c := 127) rfl rfl m) (fun _ => ⟨rfl, h0⟩) (fun hp => ?_)
  obtain ⟨L, h1, h2, h3, h4⟩ := h.2.2.2.1
  unfold f_X3_append
  rw [h2, h3]
  by_cases e : L = 160
  · subst e
    rw [if_neg (show ¬ nI 160 < 160 by decide), if_pos (show nI 160 = 160 from rfl)]
    exact E2_ret ⟨rfl, h0⟩
  · rw [if_pos (show nI L < 160 by rw [show (160 : Int32) = nI 160 from rfl, nI_lt' (by omega) (by omega)]; omega), if_neg (show ¬ nI L = 160 by rw [show (160 : Int32) = nI 160 from rfl, nI_eq' (by omega) (by omega)]; exact e)]
    rw [gd_n (show L < 160 by omega) (by omega), gd_n (show L < 160 by omega) (by omega), tn_nI (by omega)]
    simp only [nms, bn_so, e_sort]
    rw [gi_nk (show (47 : Nat) ≠ 48 by omega), h2, gd_n (show L < 160 by omega) (by omega), tn_nI (by omega)]
    rw [gi_nk (show (47 : Nat) ≠ 49 by omega), gi_nk (show (47 : Nat) ≠ 48 by omega), h2, gi_at, gi_nk (show (0 : Nat) ≠ 5 by omega), h3, gi_at, nI_1]
    refine E2_ret ⟨rfl, n, P, Q, S, h.tp (fun x y z1 z2 z3 => by rw [gi_si, if_neg z1, gi_nk z3, gi_nk z2]) (fun x y z1 z2 => by rw [gi_si, if_neg z1, gi_nk z2]) ⟨L + 1, by omega, gi_at _ _ _ _, gi_at _ _ _ _, fun j hj => ?_⟩⟩
    rw [gi_nk (show (48 : Nat) ≠ 47 by omega), gi_nk (show (48 : Nat) ≠ 49 by omega), gi_nk (show (5 : Nat) ≠ 0 by omega), gi_nk (show (49 : Nat) ≠ 47 by omega)]
    by_cases e2 : j = L
    · subst e2
      rw [gi_at, gi_at, gi_at]
      exact ⟨rfl, rg_ck rfl rfl hp, rfl⟩
    · rw [gi_nj e2, gi_nj e2, gi_nj e2, gi_nk (show (49 : Nat) ≠ 48 by omega)]
      exact h4 j (by omega)
theorem sim_end (a : Int32) {c m : StA} (h : R0 c m) : E2 (f_X5_end a c) (f_X6_end a m) Fin := by
  have h0 := h
  obtain ⟨n, P, Q, S, h⟩ := h
  unfold f_X5_end f_X6_end f_X3_keepFirst
  obtain ⟨L, h1, h2, h3, h4⟩ := h.2.2.2.1
  rw [h2, h3]
  simp only [bn_as, bn_if, bn_so, nmi, nms]
  refine E2_ck (e_isIn a 0 (nI L) c) (e_in (y := 0) (z := (nI L).toInt64) (b := 0) (c := nI L) rfl rfl m) (fun _ => ⟨rfl, h0⟩) (fun hp => ?_)
  obtain ⟨p, hp, rfl⟩ := ck_n (N := L) (ti_nI (by omega)) hp
  rw [h2, h3]
  refine E2_ret ⟨rfl, n, P, Q, S, h.tp (fun x y z1 z2 z3 => by rw [gi_si, if_neg z1]) (fun x y z1 z2 => by rw [gi_si, if_neg z1]) ⟨p, by omega, gi_at _ _ _ _, gi_at _ _ _ _, fun j hj => ?_⟩⟩
  rw [gi_nk (show (48 : Nat) ≠ 47 by omega), gi_nk (show (5 : Nat) ≠ 0 by omega), gi_nk (show (49 : Nat) ≠ 47 by omega)]
  exact h4 j (by omega)
/-! count -/
def uw (c : StA) (S : Nat) (a : Int32) (i : Nat) : Int32 := if gi c 4 i = a ∧ S.testBit i = false then gi c 3 i else 0
theorem e_unsW {n S : Nat} {c : StA} (a : Int32) (hn : n ≤ 6) (hS : S < 64) (h6 : gi c 1 6 = nI n) (h7 : gi c 1 7 = nI S) : f_X1_unsaidWeight 1 a c = some (c, lsum (uw c S a) n) := by
  unfold f_X1_unsaidWeight
  have hl : Ev (fl_X1_unsaidWeight_l4 1 a a c (0, 0)) (fun c' x => c' = c ∧ x = lsum (uw c S a) n) := by
    unfold fl_X1_unsaidWeight_l4
    refine Ev_it (I := fun j s v => s = c ∧ ∃ i, i + j = n ∧ v.2 = nI i ∧ v.1 = lsum (uw c S a) i) ?_ FU n (FU_gt (by omega)) c (0, 0) ⟨rfl, 0, by omega, rfl, rfl⟩
    rintro j s ⟨x, y⟩ ⟨rfl, i, hij, hy, hx⟩
    dsimp only at hy hx
    subst hy hx
    unfold fb_X1_unsaidWeight_l4
    rw [h6]
    by_cases hi : n ≤ i
    · rw [if_pos (by rw [nI_le' (by omega) (by omega)]; exact hi)]
      have e : i = n := by omega
      subst e
      exact Ev_ret (Or.inl ⟨_, rfl, rfl, rfl⟩)
    · rw [if_neg (by rw [nI_le' (by omega) (by omega)]; exact hi), gd_n (show i < 6 by omega) (by omega), tn_nI (by omega), e_isSaid hS (by omega) h7]
      simp only [bn_so, nmi]
      rw [gd_n (show i < 6 by omega) (by omega)]
      have k3 : gi s (1 + 3) i = gi s 4 i := rfl
      have k2 : gi s (1 + 2) i = gi s 3 i := rfl
      rw [k3, k2]
      have fin : ∀ v, v = lsum (uw s S a) i + uw s S a i → Ev (some (s, (Sum.inl (v, nI i + 1) : (Int32 × Int32) ⊕ Int32))) (fun s' x => (∃ e, x = .inr e ∧ s' = s ∧ e = lsum (uw s S a) n) ∨ (∃ j' v', j = j' + 1 ∧ x = .inl v' ∧ s' = s ∧ ∃ i, i + j' = n ∧ v'.2 = nI i ∧ v'.1 = lsum (uw s S a) i)) := fun v hv => Ev_ret (Or.inr ⟨j - 1, _, by omega, rfl, rfl, i + 1, by omega, nI_1 i, hv⟩)
      by_cases q1 : gi s 4 i = a
      · rw [if_pos q1]
        cases q2 : S.testBit i
        · rw [if_pos (show bI false = 0 from rfl)]
          refine fin _ ?_
          unfold uw
          rw [if_pos ⟨q1, q2⟩]
        · rw [if_neg (show ¬ bI true = 0 by decide)]
          refine fin _ ?_
          unfold uw
          rw [if_neg (show ¬ (gi s 4 i = a ∧ S.testBit i = false) by rw [q2]; simp), Int32.add_zero]
      · rw [if_neg q1]
        refine fin _ ?_
        unfold uw
        rw [if_neg (fun z => q1 z.1), Int32.add_zero]
  obtain ⟨c', x, e, rfl, rfl⟩ := hl
  rw [e]
  rfl
theorem e_cntM {c m : StA} {n P Q S : Nat} (h : RR c m n P Q S) (a : Int32) : fl_X6_count_l7 a a m (0, 0, 0) = some (m, (lsum (uw c S 0) n, lsum (uw c S 1) n)) := by
  have hn := h.1.1
  have hl : Ev (fl_X6_count_l7 a a m (0, 0, 0)) (fun c' x => c' = m ∧ x = (lsum (uw c S 0) n, lsum (uw c S 1) n)) := by
    unfold fl_X6_count_l7
    refine Ev_it (I := fun j s v => s = m ∧ ∃ i, i + j = n ∧ v = (lsum (uw c S 0) i, lsum (uw c S 1) i, nI i)) ?_ FU n (FU_gt (by omega)) m (0, 0, 0) ⟨rfl, 0, by omega, rfl⟩
    rintro j s v ⟨rfl, i, hij, rfl⟩
    dsimp only
    unfold fb_X6_count_l7 fj_X6_count_j59 fj_X6_count_j60
    rw [h.1.2.2.1]
    by_cases hi : n ≤ i
    · rw [if_pos (by rw [nI_le' (by omega) (by omega)]; exact hi)]
      have e : i = n := by omega
      subst e
      exact Ev_ret (Or.inl ⟨_, rfl, rfl, rfl⟩)
    · rw [if_neg (by rw [nI_le' (by omega) (by omega)]; exact hi)]
      obtain ⟨t1, t2, t3, t4, -⟩ := h.th (i := i) (by omega)
      have z1 : 4 * nI i + 1 = nI (4 * i + 1) := by rw [show (1 : Int32) = nI 1 from rfl, ix4 (by omega) (by omega)]
      have z2 : 4 * nI i + 2 = nI (4 * i + 2) := by rw [show (2 : Int32) = nI 2 from rfl, ix4 (by omega) (by omega)]
      have z3 : 4 * nI i + 3 = nI (4 * i + 3) := by rw [show (3 : Int32) = nI 3 from rfl, ix4 (by omega) (by omega)]
      simp only [nmi, z1, z2, z3, gd_n (show 4 * i + 1 < 189 by omega) (show (189 : Nat) < 1000000 by omega), gd_n (show 4 * i + 2 < 189 by omega) (show (189 : Nat) < 1000000 by omega), gd_n (show 4 * i + 3 < 189 by omega) (show (189 : Nat) < 1000000 by omega), tn_nI (show 4 * i + 1 < 2147483648 by omega), tn_nI (show 4 * i + 2 < 2147483648 by omega), tn_nI (show 4 * i + 3 < 2147483648 by omega), t4, ← t3, ← t2]
      have fin : ∀ v w, v = lsum (uw c S 0) i + uw c S 0 i → w = lsum (uw c S 1) i + uw c S 1 i → Ev (some (s, (Sum.inl (v, w, nI i + 1) : (Int32 × Int32 × Int32) ⊕ (Int32 × Int32)))) (fun s' x => (∃ e, x = .inr e ∧ s' = s ∧ e = (lsum (uw c S 0) n, lsum (uw c S 1) n)) ∨ (∃ j' v', j = j' + 1 ∧ x = .inl v' ∧ s' = s ∧ ∃ i, i + j' = n ∧ v' = (lsum (uw c S 0) i, lsum (uw c S 1) i, nI i))) := fun v w hv hw => Ev_ret (Or.inr ⟨j - 1, _, by omega, rfl, rfl, i + 1, by omega, by rw [hv, hw, nI_1]; rfl⟩)
      cases q2 : S.testBit i
      · rw [if_pos (show bI false = 0 from rfl), if_pos (show bI false = 0 from rfl), if_pos (show bI false = 0 from rfl)]
        by_cases q0 : gi c 4 i = 0
        · rw [if_pos q0, if_neg (show ¬ gi c 4 i = 1 by rw [q0]; decide)]
          refine fin _ _ ?_ ?_
          · unfold uw; rw [if_pos ⟨q0, q2⟩]
          · unfold uw; rw [if_neg (fun z => absurd (q0.symm.trans z.1) (by decide))]
        · rw [if_neg q0]
          by_cases q1 : gi c 4 i = 1
          · rw [if_pos q1]
            refine fin _ _ ?_ ?_
            · unfold uw; rw [if_neg (fun z => q0 z.1)]
            · unfold uw; rw [if_pos ⟨q1, q2⟩]
          · rw [if_neg q1]
            refine fin _ _ ?_ ?_
            · unfold uw; rw [if_neg (fun z => q0 z.1)]
            · unfold uw; rw [if_neg (fun z => q1 z.1)]
      · rw [if_neg (show ¬ bI true = 0 by decide), if_neg (show ¬ bI true = 0 by decide)]
        have no : ∀ a, uw c S a i = 0 := fun a => by unfold uw; rw [if_neg (show ¬ (gi c 4 i = a ∧ S.testBit i = false) by rw [q2]; simp)]
        refine fin _ _ ?_ ?_
        · rw [no]
        · rw [no]
  obtain ⟨c', x, e, rfl, rfl⟩ := hl
  exact e
theorem e_kept {c : StA} {a b : Bool} (h0 : gi c 46 0 = bI a) (h1 : gi c 46 1 = bI b) : f_X5_keptImages c = some (c, bI a + bI b) := by
  have s0 : fb_X5_keptImages_l4 c 0 0 = some (c, .inl (bI a, 1)) := by
    unfold fb_X5_keptImages_l4
    rw [if_neg (by decide), gd_l (by decide), show (0 : Int32).toNatClampNeg = 0 from rfl, h0]
    cases a <;> rfl
  have s1 : fb_X5_keptImages_l4 c (bI a) 1 = some (c, .inl (bI a + bI b, 2)) := by
    unfold fb_X5_keptImages_l4
    rw [if_neg (by decide), gd_l (by decide), show (1 : Int32).toNatClampNeg = 1 from rfl, h1]
    cases b <;> rfl
  have s2 : fb_X5_keptImages_l4 c (bI a + bI b) 2 = some (c, .inr (bI a + bI b)) := by
    unfold fb_X5_keptImages_l4
    rw [if_pos (by decide)]
  have hl : Ev (fl_X5_keptImages_l4 c (0, 0)) (fun c' x => c' = c ∧ x = bI a + bI b) := by
    unfold fl_X5_keptImages_l4
    refine Ev_it (I := fun j s v => s = c ∧ ((j = 2 ∧ v = (0, 0)) ∨ (j = 1 ∧ v = (bI a, 1)) ∨ (j = 0 ∧ v = (bI a + bI b, 2)))) ?_ FU 2 (FU_gt (by omega)) c (0, 0) ⟨rfl, Or.inl ⟨rfl, rfl⟩⟩
    rintro j s v ⟨rfl, ⟨rfl, rfl⟩ | ⟨rfl, rfl⟩ | ⟨rfl, rfl⟩⟩
    · exact ⟨_, _, s0, Or.inr ⟨1, _, rfl, rfl, rfl, Or.inr (Or.inl ⟨rfl, rfl⟩)⟩⟩
    · exact ⟨_, _, s1, Or.inr ⟨0, _, rfl, rfl, rfl, Or.inr (Or.inr ⟨rfl, rfl⟩)⟩⟩
    · exact ⟨_, _, s2, Or.inl ⟨_, rfl, rfl, rfl⟩⟩
  obtain ⟨c', x, e, rfl, rfl⟩ := hl
  unfold f_X5_keptImages
  rw [e]
  rfl
theorem RR.kp {c m : StA} {n P Q S j : Nat} (h : RR c m n P Q S) (hj : j < 2) : ∃ b : Bool, gi c 46 j = bI b ∧ gi m 3 j = bI b := by
  rcases h.2.2.1 j hj with q | q
  · exact ⟨false, q.1, q.2⟩
  · exact ⟨true, q.1, q.2.1⟩
theorem e_flag (b : Bool) (m : StA) : f_X6_flag (bI b) m = some (m, bI b) := by cases b <;> rfl
theorem sim_count (a : Int32) {c m : StA} (h : R0 c m) : E2 (f_X5_count a c) (f_X6_count a m) Fin := by
  have h0 := h
  obtain ⟨n, P, Q, S, h⟩ := h
  have hs := h.1.2.2.2.2.1
  have hn := h.1.1
  unfold f_X5_count f_X6_count
  rw [e_cntM h]
  simp only [bn_so]
  by_cases a0 : a = 0
  · rw [if_pos a0, if_pos a0, G50, t50, h.se.2.1, h.se.2.2]
    exact E2_ret ⟨rfl, h0⟩
  rw [if_neg a0, if_neg a0]
  by_cases a1 : a = 1
  · rw [if_pos a1, if_pos a1]
    obtain ⟨b0, p0, q0⟩ := h.kp (j := 0) (by omega)
    obtain ⟨b1, p1, q1⟩ := h.kp (j := 1) (by omega)
    rw [e_kept p0 p1, gd_l (by decide), show (0 : Int32).toNatClampNeg = 0 from rfl, q0, e_flag]
    simp only [bn_so]
    rw [gd_l (by decide), show (1 : Int32).toNatClampNeg = 1 from rfl, q1, e_flag]
    exact E2_ret ⟨rfl, h0⟩
  rw [if_neg a1, if_neg a1]
  by_cases a2 : a = 2
  · rw [if_pos a2, if_pos a2]
    obtain ⟨L, h1, h2, h3, h4⟩ := h.2.2.2.1
    rw [h2, h3]
    exact E2_ret ⟨rfl, h0⟩
  rw [if_neg a2, if_neg a2]
  by_cases a3 : a = 3
  · rw [if_pos a3, if_pos a3, gd_l (by decide), gd_l (by decide), show (0 : Int32).toNatClampNeg = 0 from rfl]
    unfold f_X4_isNothing
    obtain ⟨g1, g2, -⟩ := h.2.2.2.2.2.2 0 (by omega)
    rcases g1 with ⟨g1, g3⟩ | ⟨g1, g3⟩
    · rw [g1, g3, if_pos rfl, if_pos rfl]
      exact E2_ret ⟨rfl, h0⟩
    · rw [g1, if_neg (show ¬ gi m 8 0 = -1 by rw [ti_inj]; have : (-1 : Int32).toInt = -1 := rfl; have := g3.1; omega), if_neg (show ¬ gi m 8 0 = -4 by rw [ti_inj]; have : (-4 : Int32).toInt = -4 := rfl; have := g3.1; omega)]
      simp only [bn_so]
      rw [if_pos trivial, gd_l (by decide), gd_l (by decide), g2]
      exact E2_ret ⟨rfl, h0⟩
  rw [if_neg a3, if_neg a3]
  by_cases a4 : a = 4
  · rw [if_pos a4, if_pos a4, e_unsW 0 hn (bt_64 hs.1 hn) h.1.2.1 hs.2.1]
    exact E2_ret ⟨rfl, h0⟩
  rw [if_neg a4, if_neg a4]
  by_cases a5 : a = 5
  · rw [if_pos a5, if_pos a5, e_unsW 1 hn (bt_64 hs.1 hn) h.1.2.1 hs.2.1]
    exact E2_ret ⟨rfl, h0⟩
  rw [if_neg a5, if_neg a5]
  exact E2_ret ⟨rfl, h0⟩
/-! sheets -/
theorem fl_loop {b : StA → Int32 → Option (StA × (Int32 ⊕ Unit))} {A o N : Nat} {v : Int32} (hN : N < 100000) (h1 : ∀ s i, i < N → b s (nI i) = some (si s A (o + i) v, .inl (nI (i + 1)))) (h2 : ∀ s, b s (nI N) = some (s, .inr ())) (c : StA) : Ev (it b FU c 0) (fun c' _ => (∀ i, i < N → gi c' A (o + i) = v) ∧ eqC (fun x y => x = A ∧ o ≤ y ∧ y < o + N) c c') := by
  refine Ev_it (I := fun j s w => ∃ i, i + j = N ∧ w = nI i ∧ (∀ q, q < i → gi s A (o + q) = v) ∧ eqC (fun x y => x = A ∧ o ≤ y ∧ y < o + N) c s) ?_ FU N (FU_gt (by omega)) c 0 ⟨0, by omega, rfl, fun q hq => absurd hq (by omega), eqC.rf c⟩
  rintro j s w ⟨i, hij, rfl, hq, he⟩
  by_cases hi : i < N
  · rw [h1 s i hi]
    refine Ev_ret (Or.inr ⟨j - 1, _, by omega, rfl, i + 1, by omega, rfl, fun q hq2 => ?_, he.si ⟨rfl, by omega, by omega⟩⟩)
    by_cases e : q = i
    · subst e
      rw [gi_at]
    · rw [gi_nj (by omega)]
      exact hq q (by omega)
  · have e : i = N := by omega
    subst e
    rw [h2 s]
    exact Ev_ret (Or.inl ⟨(), rfl, hq, he⟩)
theorem e_fill {k N : Nat} (v : Int32) (hN : N < 100000) (c : StA) : Ev (f_J7_fill_53178 k N v c) (fun c' _ => (∀ i, i < N → gi c' k i = v) ∧ eqC (fun x y => x = k ∧ y < N) c c') := by
  unfold f_J7_fill_53178 fl_J7_fill_53178_l5
  refine Ev_nmi (Ev_bn (Ev_mono (fl_loop (A := k) (o := 0) (N := N) (v := v) (by omega) (fun s i hi => ?_) (fun s => ?_) c) ?_))
  · unfold fb_J7_fill_53178_l5
    rw [if_neg (show ¬ Int32.ofNat N ≤ nI i by rw [show Int32.ofNat N = nI N from rfl, nI_le' (by omega) (by omega)]; omega), gd_n hi (by omega), tn_nI (by omega), nI_1, Nat.zero_add]
    rfl
  · unfold fb_J7_fill_53178_l5
    rw [if_pos (show Int32.ofNat N ≤ nI N by rw [show Int32.ofNat N = nI N from rfl, nI_le' (by omega) (by omega)]; omega)]
  · rintro s _ ⟨q1, q2⟩
    exact Ev_ret ⟨fun i hi => by have := q1 i hi; rw [Nat.zero_add] at this; exact this, q2.mono (fun x y z => ⟨z.1, by omega⟩)⟩
theorem RR.shs {c m c' m' : StA} {n P Q S : Nat} (h : RR c m n P Q S) (hc : ∀ x y, x < 51 → gi c' x y = gi c x y) (hm : ∀ x y, x < 8 → gi m' x y = gi m x y) (hT : Rsh c' m') : RR c' m' n P Q S := by
  obtain ⟨h1, h2, h3, h4, h5, h6, h7⟩ := h
  exact ⟨h1.congr (fun j _ _ => hc _ _ (by omega)) (fun q _ _ j _ => hc _ _ (by omega)) (fun j _ => hc _ _ (by omega)) (hc _ _ (by omega)) (fun q _ _ j _ => hc _ _ (by omega)) (hc _ _ (by omega)) (fun q _ _ j _ => hc _ _ (by omega)) (fun x _ => hm _ _ (by omega)) (hm _ _ (by omega)), by rw [hc _ _ (by omega)]; exact h2, h3.frm (fun _ _ => hc _ _ (by omega)) (fun _ _ => hm _ _ (by omega)) (fun _ _ _ _ => hc _ _ (by omega)) (fun _ _ _ => hm _ _ (by omega)) (hm _ _ (by omega)), h4.frm (hc _ _ (by omega)) (hm _ _ (by omega)) (fun _ => hc _ _ (by omega)) (fun _ => hc _ _ (by omega)) (fun _ => hm _ _ (by omega)), by rw [hc _ _ (by omega), hm _ _ (by omega)]; exact h5, by rw [hc _ _ (by omega), hm _ _ (by omega)]; exact h6, hT⟩
theorem e_isSheet (a b : Int32) (s : StA) : f_X6_isSheet a b s = some (s, if (0 ≤ a ∧ a ≤ 3) ∧ (0 ≤ b ∧ b ≤ 2) then 1 else 0) := by
  unfold f_X6_isSheet
  rw [e_in (y := 0) (z := 3) (b := 0) (c := 3) rfl rfl]
  simp only [bn]
  by_cases h1 : 0 ≤ a ∧ a ≤ 3
  · rw [if_pos h1, if_neg (show ¬ (1 : Int32) = 0 by decide), e_in (y := 0) (z := 2) (b := 0) (c := 2) rfl rfl]
    simp only
    by_cases h2 : 0 ≤ b ∧ b ≤ 2
    · rw [if_pos h2, if_neg (show ¬ (1 : Int32) = 0 by decide), if_pos (show (0 ≤ a ∧ a ≤ 3) ∧ (0 ≤ b ∧ b ≤ 2) from ⟨h1, h2⟩)]
    · rw [if_neg h2, if_pos (show (0 : Int32) = 0 from rfl), if_neg (show ¬ ((0 ≤ a ∧ a ≤ 3) ∧ (0 ≤ b ∧ b ≤ 2)) from fun z => h2 z.2)]
  · rw [if_neg h1, if_pos (show (0 : Int32) = 0 from rfl), if_neg (show ¬ ((0 ≤ a ∧ a ≤ 3) ∧ (0 ≤ b ∧ b ≤ 2)) from fun z => h1 z.1)]
theorem ix40 {i j : Nat} : 40 * nI i + nI j = nI (40 * i + j) := by
  rw [show (40 : Int32) = nI 40 from rfl, pk_mul, nI_add]
theorem sim_sheet (a b d : Int32) {c m : StA} (h : R0 c m) : E2 (f_X5_sheet a b d c) (f_X6_sheet a b d m) Fin := by
  have h0 := h
  obtain ⟨n, P, Q, S, h⟩ := h
  have bad : Fin c (-1 : Int32) m (-1) := ⟨rfl, h0⟩
  unfold f_X5_sheet f_X6_sheet
  rw [e_isSheet5, e_isSheet]
  simp only [bn_so]
  by_cases h1 : 0 ≤ a ∧ a ≤ 3
  · rw [if_pos h1, if_neg (show ¬ (1 : Int32) = 0 by decide), e_isLane5]
    simp only [bn_so]
    by_cases h2 : 0 ≤ b ∧ b ≤ 2
    · rw [if_pos h2, if_pos (show (0 ≤ a ∧ a ≤ 3) ∧ (0 ≤ b ∧ b ≤ 2) from ⟨h1, h2⟩), if_neg (show ¬ (1 : Int32) = 0 by decide), if_neg (show ¬ (1 : Int32) = 0 by decide)]
      by_cases h3 : d ≤ 40
      · rw [if_pos h3, if_pos h3]
        by_cases h4 : 0 ≤ d
        · rw [if_pos h4, if_pos h4]
          obtain ⟨i, hi, rfl⟩ := ck_n (N := 3) rfl h1
          rw [gd_n (show i < 4 by omega) (by omega), gd_n (show i < 4 by omega) (by omega), tn_nI (by omega)]
          unfold f_X4_renew
          simp only [nms, bn_as, bn_so]
          rw [gd_n (show i < 4 by omega) (by omega)]
          obtain ⟨c1, _, ec, a1, a2⟩ := e_fill (k := 51 + 2 * i + 1) (N := 40) 0 (by omega) (si (si c (51 + 2 * i) 1 b) (51 + 2 * i) 2 d)
          refine E2_le ec ?_
          have hl : Ev (fl_X6_sheet_l40 (nI i) b d (nI i) (si (si m 8 i b) 9 i d) 0) (fun m' _ => (∀ q, q < 40 → gi m' 10 (40 * i + q) = 0) ∧ eqC (fun x y => x = 10 ∧ 40 * i ≤ y ∧ y < 40 * i + 40) (si (si m 8 i b) 9 i d) m') := by
            unfold fl_X6_sheet_l40
            refine fl_loop (by omega) (fun s q hq => ?_) (fun s => ?_) _
            · unfold fb_X6_sheet_l40
              rw [if_neg (show ¬ 40 ≤ nI q by rw [show (40 : Int32) = nI 40 from rfl, nI_le' (by omega) (by omega)]; omega), ix40, gd_n (by omega) (by omega), tn_nI (by omega), nI_1]
              rfl
            · unfold fb_X6_sheet_l40
              rw [if_pos (show (40 : Int32) ≤ nI 40 by decide)]
          obtain ⟨m1, _, em, b1, b2⟩ := hl
          refine E2_re em (E2_ret ⟨rfl, n, P, Q, S, ?_⟩)
          refine h.shs (fun x y z => by rw [a2.1 _ _ (by omega), gi_nk (by omega), gi_nk (by omega)]) (fun x y z => by rw [b2.1 _ _ (by omega), gi_nk (by omega), gi_nk (by omega)]) (fun j hj => ?_)
          have hd : rg d 0 40 := rg_ck rfl rfl ⟨h4, h3⟩
          have hb : rg b 0 2 := rg_ck rfl rfl h2
          rw [a2.1 (51 + 2 * j) 1 (by omega), a2.1 (51 + 2 * j) 2 (by omega), b2.1 8 j (by omega), b2.1 9 j (by omega), gi_nk (show (8 : Nat) ≠ 9 by omega)]
          by_cases e : j = i
          · subst e
            rw [gi_nj (show (1 : Nat) ≠ 2 by omega), gi_at, gi_at, gi_at, gi_at]
            refine ⟨Or.inr ⟨rfl, hb⟩, rfl, hd, fun q hq => ?_⟩
            rw [b1 q hq]
            have := a1 q hq
            rw [show 51 + 2 * j + 1 = 52 + 2 * j by omega] at this
            exact this
          · rw [gi_nk (show 51 + 2 * j ≠ 51 + 2 * i by omega), gi_nk (show 51 + 2 * j ≠ 51 + 2 * i by omega), gi_nk (show 51 + 2 * j ≠ 51 + 2 * i by omega), gi_nk (show 51 + 2 * j ≠ 51 + 2 * i by omega), gi_nj e, gi_nj e, gi_nk (show (9 : Nat) ≠ 8 by omega)]
            refine ⟨(h.2.2.2.2.2.2 j hj).1, (h.2.2.2.2.2.2 j hj).2.1, (h.2.2.2.2.2.2 j hj).2.2.1, fun q hq => ?_⟩
            rw [a2.1 _ _ (by omega), gi_nk (by omega), gi_nk (by omega), b2.1 _ _ (by omega), gi_nk (by omega), gi_nk (by omega)]
            exact (h.2.2.2.2.2.2 j hj).2.2.2 q hq
        · rw [if_neg h4, if_neg h4]
          exact E2_ret ⟨rfl, h0⟩
      · rw [if_neg h3, if_neg h3]
        exact E2_ret bad
    · rw [if_neg h2, if_neg (show ¬ ((0 ≤ a ∧ a ≤ 3) ∧ (0 ≤ b ∧ b ≤ 2)) from fun z => h2 z.2), if_pos (show (0 : Int32) = 0 from rfl), if_pos (show (0 : Int32) = 0 from rfl)]
      exact E2_ret bad
  · rw [if_neg h1, if_neg (show ¬ ((0 ≤ a ∧ a ≤ 3) ∧ (0 ≤ b ∧ b ≤ 2)) from fun z => h1 z.1), if_pos (show (0 : Int32) = 0 from rfl), if_pos (show (0 : Int32) = 0 from rfl)]
    exact E2_ret bad
theorem RR.shp {c m : StA} {n P Q S i q : Nat} (v : Int32) (h : RR c m n P Q S) (hi : i < 4) (hq : q < 40) : RR (si c (51 + 2 * i + 1) q v) (si m 10 (40 * i + q) v) n P Q S := by
  refine h.shs (fun x y z => gi_nk (by omega)) (fun x y z => gi_nk (by omega)) (fun j hj => ?_)
  rw [gi_nk (by omega), gi_nk (by omega), gi_nk (by omega), gi_nk (by omega)]
  refine ⟨(h.2.2.2.2.2.2 j hj).1, (h.2.2.2.2.2.2 j hj).2.1, (h.2.2.2.2.2.2 j hj).2.2.1, fun r hr => ?_⟩
  rw [gi_si, gi_si]
  by_cases e : j = i ∧ r = q
  · obtain ⟨rfl, rfl⟩ := e
    rw [if_pos ⟨by omega, rfl⟩, if_pos ⟨rfl, rfl⟩]
  · rw [if_neg (by omega), if_neg (by omega)]
    exact (h.2.2.2.2.2.2 j hj).2.2.2 r hr
theorem sim_lay (a b d : Int32) {c m : StA} (h : R0 c m) : E2 (f_X5_lay a b d c) (f_X6_lay a b d m) Fin := by
  have h0 := h
  obtain ⟨n, P, Q, S, h⟩ := h
  unfold f_X5_lay f_X6_lay
  refine E2_ck (p := 0 ≤ a ∧ a ≤ 3) (e_isSheet5 a c) (by
    rw [e_isSheet]
    by_cases q : 0 ≤ a ∧ a ≤ 3
    · rw [if_pos q, if_pos ⟨q, by decide⟩]
    · rw [if_neg q, if_neg (fun z => q z.1)]) (fun _ => ⟨rfl, h0⟩) (fun hp => ?_)
  obtain ⟨i, hi, rfl⟩ := ck_n (N := 3) rfl hp
  rw [gd_n (show i < 4 by omega) (by omega), gd_n (show i < 4 by omega) (by omega), tn_nI (by omega)]
  unfold f_X4_faultAs f_X4_isNothing
  obtain ⟨g1, g2, g3, g4⟩ := h.2.2.2.2.2.2 i (by omega)
  rcases g1 with ⟨g1, g5⟩ | ⟨g1, g5⟩
  · rw [g1, g5, if_pos rfl, if_pos rfl]
    simp only [bn_so]
    rw [if_neg (show ¬ (1 : Int32) = 0 by decide)]
    simp only [bn_so]
    rw [if_neg (show ¬ (1 : Int32) = 0 by decide)]
    exact E2_ret ⟨rfl, h0⟩
  · rw [g1, if_neg (show ¬ gi m 8 i = -1 by rw [ti_inj]; have : (-1 : Int32).toInt = -1 := rfl; have := g5.1; omega), if_neg (show ¬ gi m 8 i = -4 by rw [ti_inj]; have : (-4 : Int32).toInt = -4 := rfl; have := g5.1; omega)]
    simp only [bn_so]
    rw [if_pos trivial, g1, if_pos (show gi m 8 i = gi m 8 i from rfl), e_isIn, gd_n (show i < 4 by omega) (by omega), e_in (y := 0) (z := (gi m 9 i - 1).toInt64) (b := 0) (c := gi m 9 i - 1) rfl rfl, g2]
    simp only [bn_so]
    by_cases hb : 0 ≤ b ∧ b ≤ gi m 9 i - 1
    · rw [if_pos hb, if_neg (show ¬ (1 : Int32) = 0 by decide), if_neg (show ¬ (1 : Int32) = 0 by decide)]
      simp only [bn_so]
      rw [if_pos trivial]
      obtain ⟨N, hN, e⟩ := rg_nI g3
      rw [e] at hb
      obtain ⟨j, hj, rfl⟩ := ck_t (by omega) hb
      unfold f_X4_put
      rw [g1, gd_n (show j < 40 by omega) (by omega), gd_n (show j < 40 by omega) (by omega), gd_n (show j < 40 by omega) (by omega), gd_n (show i < 4 by omega) (by omega), ix40, gd_n (show 40 * i + j < 160 by omega) (by omega), gd_n (show i < 4 by omega) (by omega), gd_n (show 40 * i + j < 160 by omega) (by omega), gd_n (show 40 * i + j < 160 by omega) (by omega), tn_nI (show j < 2147483648 by omega), tn_nI (show 40 * i + j < 2147483648 by omega)]
      simp only [nms, bn_if, bn_so]
      by_cases l0 : gi m 8 i = 0
      · rw [if_pos l0, if_pos l0]
        exact E2_ret ⟨rfl, n, P, Q, S, h.shp _ (by omega) (by omega)⟩
      · rw [if_neg l0, if_neg l0]
        by_cases l1 : gi m 8 i = 1
        · rw [if_pos l1, if_pos l1]
          exact E2_ret ⟨rfl, n, P, Q, S, h.shp _ (by omega) (by omega)⟩
        · rw [if_neg l1, if_neg l1]
          exact E2_ret ⟨rfl, n, P, Q, S, h.shp _ (by omega) (by omega)⟩
    · rw [if_neg hb, if_pos rfl, if_pos rfl]
      simp only [bn_so]
      rw [if_neg (show ¬ (2 : Int32) = 0 by decide)]
      exact E2_ret ⟨rfl, h0⟩
