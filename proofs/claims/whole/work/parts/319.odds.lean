/-! luck, mean -/
theorem agQ.sl {D : Nat → Nat → Prop} {a b : StA} (h : agQ D a b) {k j : Nat} {v : Int64} : agQ D a (sl b k j v) := fun x y q => h x y q
def od (v F : Nat) : Nat → Nat
  | 0 => 1
  | k + 1 => od v F k * (if F.testBit k then v else 10 - v)
theorem od_le {v F : Nat} (hv : v ≤ 10) : ∀ k, od v F k ≤ 10 ^ k
  | 0 => Nat.le_refl _
  | k + 1 => by
    have := od_le (F := F) hv k
    show od v F k * _ ≤ 10 ^ k * 10
    refine Nat.mul_le_mul this ?_
    split <;> omega
theorem p10 {P : Nat} (hP : P ≤ 8) : 10 ^ P ≤ 100000000 := Nat.le_trans (Nat.pow_le_pow_right (n := 10) (j := 8) (by omega) hP) (by decide)
theorem p10p (P : Nat) : 0 < 10 ^ P := Nat.pow_pos (by omega)
theorem p2 {P : Nat} (hP : P ≤ 8) : 2 ^ P ≤ 256 := Nat.le_trans (Nat.pow_le_pow_right (n := 2) (j := 8) (by omega) hP) (by decide)
theorem e_odds {s : StA} {P F v : Nat} (hP : P ≤ 8) (hF : F < 256) (hv : v ≤ 10) (h6 : gi s 6 2 = nI P) : f_X5_oddsThatFail (nI F) (nI v) s = some (s, lN (od v F P)) := by
  have hl : Ev (fl_X5_oddsThatFail_l5 (nI F) (nI v) (nI F) (nI v) s (1, 0)) (fun s' r => s' = s ∧ r = lN (od v F P)) := by
    unfold fl_X5_oddsThatFail_l5
    refine Ev_it (I := fun j s' w => s' = s ∧ ∃ k, k + j = P ∧ w = (lN (od v F k), nI k)) ?_ FU P (FU_gt (by omega)) s (1, 0) ⟨rfl, 0, by omega, rfl⟩
    rintro j s' w ⟨rfl, k, hk, rfl⟩
    dsimp only
    unfold fb_X5_oddsThatFail_l5
    rw [h6]
    by_cases hkP : P ≤ k
    · rw [if_pos (by rw [nI_le' (by omega) (by omega)]; exact hkP)]
      have e : k = P := by omega
      subst e
      exact Ev_ret (Or.inl ⟨_, rfl, rfl, rfl⟩)
    · rw [if_neg (by rw [nI_le' (by omega) (by omega)]; exact hkP), bt_get8 F hF k (by omega), show (10 : Int32) = nI 10 from rfl, pk_sub hv, nI_l (by omega), nI_l (by omega), lN_mul, lN_mul]
      simp only [nml]
      have ho : od v F (k + 1) = od v F k * (if F.testBit k then v else 10 - v) := rfl
      cases hb : F.testBit k
      · rw [if_neg (show ¬ bI false = 1 by decide)]
        rw [hb] at ho
        exact Ev_ret (Or.inr ⟨j - 1, _, by omega, rfl, rfl, k + 1, by omega, by rw [ho, nI_1]; rfl⟩)
      · rw [if_pos (show bI true = 1 from rfl)]
        rw [hb] at ho
        exact Ev_ret (Or.inr ⟨j - 1, _, by omega, rfl, rfl, k + 1, by omega, by rw [ho, nI_1]; rfl⟩)
  obtain ⟨s', r, e, rfl, rfl⟩ := hl
  unfold f_X5_oddsThatFail
  rw [e]
  rfl
theorem e_oddsM {t : StA} {P F v : Nat} {a1 a2 a3 x2 x3 : Int32} (hP : P ≤ 8) (hF : F < 256) (hv : v ≤ 10) (h6 : gi t 1 33 = nI P) : fl_X6_findOdds_l71 a1 a2 a3 (nI v) x2 x3 (nI F) t (1, 0) = some (t, lN (od v F P)) := by
  have hl : Ev (fl_X6_findOdds_l71 a1 a2 a3 (nI v) x2 x3 (nI F) t (1, 0)) (fun s' r => s' = t ∧ r = lN (od v F P)) := by
    unfold fl_X6_findOdds_l71
    refine Ev_it (I := fun j s' w => s' = t ∧ ∃ k, k + j = P ∧ w = (lN (od v F k), nI k)) ?_ FU P (FU_gt (by omega)) t (1, 0) ⟨rfl, 0, by omega, rfl⟩
    rintro j s' w ⟨rfl, k, hk, rfl⟩
    dsimp only
    unfold fb_X6_findOdds_l71
    rw [G33, t33, h6]
    by_cases hkP : P ≤ k
    · rw [if_pos (by rw [nI_le' (by omega) (by omega)]; exact hkP)]
      have e : k = P := by omega
      subst e
      exact Ev_ret (Or.inl ⟨_, rfl, rfl, rfl⟩)
    · rw [if_neg (by rw [nI_le' (by omega) (by omega)]; exact hkP), bt_get8 F hF k (by omega), show (10 : Int32) = nI 10 from rfl, pk_sub hv, nI_l (by omega), nI_l (by omega), lN_mul, lN_mul]
      simp only [nml]
      have ho : od v F (k + 1) = od v F k * (if F.testBit k then v else 10 - v) := rfl
      cases hb : F.testBit k
      · rw [if_neg (show ¬ bI false = 1 by decide)]
        rw [hb] at ho
        exact Ev_ret (Or.inr ⟨j - 1, _, by omega, rfl, rfl, k + 1, by omega, by rw [ho, nI_1]; rfl⟩)
      · rw [if_pos (show bI true = 1 from rfl)]
        rw [hb] at ho
        exact Ev_ret (Or.inr ⟨j - 1, _, by omega, rfl, rfl, k + 1, by omega, by rw [ho, nI_1]; rfl⟩)
  obtain ⟨s', r, e, rfl, rfl⟩ := hl
  exact e
theorem e_all {s : StA} {P : Nat} (hP : P ≤ 8) (h6 : gi s 6 2 = nI P) : f_X5_allOdds s = some (s, lN (10 ^ P)) := by
  have hl : Ev (fl_X5_allOdds_l4 s (1, 0)) (fun s' r => s' = s ∧ r = lN (10 ^ P)) := by
    unfold fl_X5_allOdds_l4
    refine Ev_it (I := fun j s' w => s' = s ∧ ∃ k, k + j = P ∧ w = (lN (10 ^ k), nI k)) ?_ FU P (FU_gt (by omega)) s (1, 0) ⟨rfl, 0, by omega, rfl⟩
    rintro j s' w ⟨rfl, k, hk, rfl⟩
    dsimp only
    unfold fb_X5_allOdds_l4
    rw [h6]
    by_cases hkP : P ≤ k
    · rw [if_pos (by rw [nI_le' (by omega) (by omega)]; exact hkP)]
      have e : k = P := by omega
      subst e
      exact Ev_ret (Or.inl ⟨_, rfl, rfl, rfl⟩)
    · rw [if_neg (by rw [nI_le' (by omega) (by omega)]; exact hkP), show (10 : Int64) = lN 10 from rfl, lN_mul]
      simp only [nml]
      exact Ev_ret (Or.inr ⟨j - 1, _, by omega, rfl, rfl, k + 1, by omega, by rw [nI_1]; rfl⟩)
  obtain ⟨s', r, e, rfl, rfl⟩ := hl
  unfold f_X5_allOdds
  rw [e]
  rfl
/-- a try without the sayings that fail -/
theorem try_rel {s t : StA} {n P Q S F N : Nat} (h : RR s t n P Q S) (hF : F < 256) (hN : N ≤ 60) : E2 (f_X5_tryWithout (nI F) (nI N) s) (bn (f_X6_starts t) (fun s16 _ => nms (si s16 0 17 (nI F)) (fun s19 => f_X6_minutesGo (nI N) s19))) (fun s' _ t' _ => agQ DQc s s' ∧ agQ DQm t t' ∧ (∀ k j, gl t' k j = gl t k j) ∧ ∃ hh, hh ≤ 60 ∧ gi s' 12 8 = nI hh ∧ gi t' 2 24 = nI hh) := by
  have hP := h.ps.1
  unfold f_X5_tryWithout
  refine E2_bn (E2_mono (start_rel h) ?_)
  rintro s1 _ t1 _ ⟨a1, -, a3, a4, a5⟩
  have hm := min_ok h a5
  have h62 : gi s1 6 2 = nI P := by rw [a3.1 _ _ (by omega)]; exact h.ps.2.1
  have hl : Ev (fl_X5_tryWithout_l6 (nI F) (nI N) (nI F) (nI N) s1 0) (fun s' _ => (∀ j, j < P → gi s' 18 j = if F.testBit j then -1 else gi s1 18 j) ∧ eqC (fun x _ => x = 18) s1 s') := by
    unfold fl_X5_tryWithout_l6
    refine Ev_it (I := fun j s' w => ∃ k, k + j = P ∧ w = nI k ∧ (∀ j, j < P → gi s' 18 j = if j < k ∧ F.testBit j then -1 else gi s1 18 j) ∧ eqC (fun x _ => x = 18) s1 s') ?_ FU P (FU_gt (by omega)) s1 0 ⟨0, by omega, rfl, fun j hj => by rw [if_neg (by omega)], eqC.rf s1⟩
    rintro j s' w ⟨k, hk, rfl, h1, h2⟩
    unfold fb_X5_tryWithout_l6
    rw [h2.1 _ _ (by omega), h62]
    by_cases hkP : P ≤ k
    · rw [if_pos (by rw [nI_le' (by omega) (by omega)]; exact hkP)]
      refine Ev_ret (Or.inl ⟨_, rfl, fun j hj => ?_, h2⟩)
      rw [h1 j hj]
      have : j < k := by omega
      simp [this]
    · rw [if_neg (by rw [nI_le' (by omega) (by omega)]; exact hkP), bt_get8 F hF k (by omega)]
      cases hb : F.testBit k
      · rw [if_neg (show ¬ bI false = 1 by decide)]
        refine Ev_ret (Or.inr ⟨j - 1, _, by omega, rfl, k + 1, by omega, nI_1 k, fun q hq => ?_, h2⟩)
        rw [h1 q hq]
        by_cases e : q = k
        · subst e
          simp [hb]
        · have : q < k + 1 ↔ q < k := by omega
          simp only [this]
      · rw [if_pos (show bI true = 1 from rfl), gd_n (show k < 8 by omega) (by omega), tn_nI (by omega)]
        simp only [nms]
        refine Ev_ret (Or.inr ⟨j - 1, _, by omega, rfl, k + 1, by omega, nI_1 k, fun q hq => ?_, h2.si rfl⟩)
        by_cases e : q = k
        · subst e
          rw [gi_at]
          simp [hb]
        · rw [gi_nj e, h1 q hq]
          have : q < k + 1 ↔ q < k := by omega
          simp only [this]
  refine E2_lb (Ev_mono hl ?_)
  rintro s2 _ ⟨b1, b2⟩
  simp only [nms]
  have hT : TT s2 (si t1 0 17 (nI F)) 12 n P Q S (fun j => F.testBit j) := by
    obtain ⟨⟨g1, g2, g3, g4, g5, g6, g7, g8, g9⟩, -, f3⟩ := a1
    have hc : ∀ x y, x ≠ 18 → gi s2 x y = gi s1 x y := fun x y z => b2.1 _ _ z
    refine ⟨⟨g1, by rw [hc _ _ (by omega)]; exact g2, by rw [gi_nj (by omega)]; exact g3, g4.congr (fun q _ _ j _ => hc _ _ (by omega)) (fun i x _ _ => gi_nk (by omega)), g5.congr (hc _ _ (by omega)) (fun i hi => gi_nk (by omega)), g6.congr (fun j _ _ => hc _ _ (by omega)) (fun x _ _ => gi_nk (by omega)), g7.congr (fun j _ => hc _ _ (by omega)) (fun j _ => gi_nk (by omega)), ⟨g8.1, by rw [hc _ _ (by omega)]; exact g8.2.1, by rw [gi_nk (by omega)]; exact g8.2.2.1, fun j hj => ?_⟩, g9.congr (hc _ _ (by omega)) (fun q _ _ j _ => hc _ _ (by omega)) (fun x _ _ => gi_nk (by omega))⟩, fun j hj => ?_, by rw [gi_nj (by omega)]; exact f3⟩
    · obtain ⟨r1, r2, r3⟩ := g8.2.2.2 j hj
      rw [hc (12 + 7) _ (by omega), gi_nk (by omega), gi_nk (by omega)]
      refine ⟨r1, r2, ?_⟩
      rw [show gi s2 (12 + 6) j = gi s2 18 j from rfl, b1 j hj, show gi s1 18 j = gi s1 (12 + 6) j from rfl, r3]
      rfl
    · rw [gi_at, bt_get8 F hF j (by omega)]
  have := passAll_rel (N := N) hT (by omega) (by rw [b2.1 _ _ (by omega)]; omega)
  obtain ⟨s3, u, t3, u', e1, e2, hL⟩ := this
  rw [e1, e2]
  refine E2_ret ⟨?_, ?_, fun k j => ?_, ?_⟩
  · exact ((a3.ag dq1).tr (b2.ag (fun x y z => dq1 _ _ (by omega)))).tr (hL.2.1.ag dq2)
  · exact ((a4.ag dq3).si (by unfold DQm; omega)).tr (hL.2.2.1.ag dq4)
  · rw [hL.2.2.1.2 k j, gl_si, a4.2 k j]
  · have hnm := hL.nm
    obtain ⟨hh, z1, z2⟩ := rg_nI hnm.2.1
    exact ⟨hh, by omega, z2, by rw [← hnm.1]; exact z2⟩
/-- one set of sayings that fail -/
theorem odds_body {s t : StA} {n P Q S F N v : Nat} {a1 a2 a3 x3 : Int32} (h : RR s t n P Q S) (hF : F < 2 ^ P) (hN : N ≤ 60) (hv : v ≤ 10) : ∃ t' hh s', hh ≤ 60 ∧ fb_X6_findOdds_l51 a1 a2 a3 (nI v) (nI N) x3 t (nI F) = some (t', .inl (nI (F + 1))) ∧ agQ DQm t t' ∧ gl t' 0 24 = gl t 0 24 + (if x3 < nI hh then 0 else lN (od v F P)) ∧ gl t' 0 25 = gl t 0 25 + lN (od v F P * hh) ∧ gl t' 0 26 = gl t 0 26 ∧ f_X5_oddsThatFail (nI F) (nI v) s = some (s, lN (od v F P)) ∧ f_X5_tryWithout (nI F) (nI N) s = some (s', ()) ∧ agQ DQc s s' ∧ gi s' 12 8 = nI hh := by
  have hP := h.ps.1
  have h2 := p2 hP
  obtain ⟨s', u, t1, u', e1, e2, f1, f2, f3, hh, f4, f5, f6⟩ := try_rel (F := F) (N := N) h (by omega) hN
  have e3 := e_odds (F := F) (v := v) hP (by omega) hv h.ps.2.1
  have e4 := e_oddsM (t := t) (F := F) (v := v) (a1 := a1) (a2 := a2) (a3 := a3) (x2 := nI N) (x3 := x3) hP (by omega) hv h.ps.2.2
  refine ⟨sl (sl t1 0 24 (gl t1 0 24 + (if x3 < nI hh then 0 else lN (od v F P)))) 0 25 (gl t1 0 25 + lN (od v F P * hh)), hh, s', f4, ?_, f2.sl.sl, ?_, ?_, ?_, e3, e1, f1, f5⟩
  · unfold fb_X6_findOdds_l51
    rw [G33, t33, h.ps.2.2, sh_1 P hP, if_neg (show ¬ nI (2 ^ P) ≤ nI F by rw [nI_le' (by omega) (by omega)]; omega), e4]
    simp only [bn_so]
    have e5 : ∀ K : StA → Unit → Option (StA × (Int32 ⊕ Unit)), bn (f_X6_starts t) (fun s16 r17 => nms (si s16 0 17 (nI F)) (fun s19 => bn (f_X6_minutesGo (nI N) s19) K)) = K t1 u' := fun K => by
      have : bn (f_X6_starts t) (fun s16 r17 => nms (si s16 0 17 (nI F)) (fun s19 => bn (f_X6_minutesGo (nI N) s19) K)) = bn (bn (f_X6_starts t) (fun s16 _ => nms (si s16 0 17 (nI F)) (fun s19 => f_X6_minutesGo (nI N) s19))) K := by
        rw [bn_as]
        rfl
      rw [this, e2]
      rfl
    rw [e5]
    rw [g24, t24, f6]
    have j152 : ∀ y0, fj_X6_findOdds_j152 a1 a2 a3 (nI v) (nI N) x3 (nI F) (lN (od v F P)) y0 (gl t1 0 24) t1 = some (sl (sl t1 0 24 (gl t1 0 24 + y0)) 0 25 (gl t1 0 25 + lN (od v F P * hh)), .inl (nI (F + 1))) := fun y0 => by
      unfold fj_X6_findOdds_j152
      simp only [nms]
      rw [g24, t24, gi_sl, f6, nI_l (by omega), lN_mul, gl_sl, if_neg (show ¬ ((0 : Nat) = 0 ∧ (25 : Nat) = 24) by omega), nI_1]
    rw [j152, j152]
    by_cases q : x3 < nI hh
    · rw [if_pos q, if_pos q]
    · rw [if_neg q, if_neg q]
  · rw [gl_sl, if_neg (by omega), gl_sl, if_pos ⟨rfl, rfl⟩, f3]
  · rw [gl_sl, if_pos ⟨rfl, rfl⟩, f3]
  · rw [gl_sl, if_neg (by omega), gl_sl, if_neg (by omega), f3]
/-! the common divisor -/
def Eu : Nat → Nat → Nat → Prop
  | 0, _, b => b = 0
  | j + 1, a, b => b = 0 ∨ Eu j b (a % b)
theorem Eu_k : ∀ k a b, b < 2 ^ k → Eu (2 * k) a b
  | 0, a, b, h => by
    have : b = 0 := by
      have : (2 : Nat) ^ 0 = 1 := rfl
      omega
    exact this
  | k + 1, a, b, h => by
    show Eu (2 * k + 1 + 1) a b
    by_cases hb : b = 0
    · exact Or.inl hb
    · refine Or.inr ?_
      show a % b = 0 ∨ Eu (2 * k) (a % b) (b % (a % b))
      by_cases hc : a % b = 0
      · exact Or.inl hc
      · refine Or.inr (Eu_k k _ _ ?_)
        have h1 : a % b < b := Nat.mod_lt _ (by omega)
        have h2 : b % (a % b) < a % b := Nat.mod_lt _ (by omega)
        have h3 : b % (a % b) + (a % b) ≤ b := by
          have := Nat.div_add_mod b (a % b)
          have h4 : 1 ≤ b / (a % b) := Nat.div_pos (by omega) (by omega)
          have h5 : (a % b) * 1 ≤ (a % b) * (b / (a % b)) := Nat.mul_le_mul_left _ h4
          omega
        have : (2 : Nat) ^ (k + 1) = 2 * 2 ^ k := by rw [Nat.pow_succ]; omega
        omega
theorem l0 {b : Nat} (hb : b < 2 ^ 63) : lN b = 0 ↔ b = 0 := by
  rw [show (0 : Int64) = lN 0 from rfl]
  exact pk_lEQ hb (by omega)
theorem e_cdC {A T : Nat} (hA : A < 2 ^ 45) (hT : T < 2 ^ 45) (s : StA) : f_X5_commonDivisor (lN A) (lN T) s = some (s, lN (Nat.gcd A T)) := by
  have hl : Ev (fl_X5_commonDivisor_l3 (lN A) (lN T) s (lN A, lN T, 0)) (fun s' r => s' = s ∧ r = lN (Nat.gcd A T)) := by
    unfold fl_X5_commonDivisor_l3
    refine Ev_it (I := fun j s' w => s' = s ∧ ∃ a b k, k + j = 90 ∧ w = (lN a, lN b, nI k) ∧ a < 2 ^ 45 ∧ b < 2 ^ 45 ∧ Nat.gcd a b = Nat.gcd A T ∧ Eu j a b) ?_ FU 90 (FU_gt (by omega)) s (lN A, lN T, 0) ⟨rfl, A, T, 0, by omega, rfl, hA, hT, rfl, Eu_k 45 A T hT⟩
    rintro j s' w ⟨rfl, a, b, k, hk, rfl, ha, hb, hg, hE⟩
    dsimp only
    unfold fb_X5_commonDivisor_l3
    rw [if_neg (show ¬ 200 ≤ nI k by rw [show (200 : Int32) = nI 200 from rfl, nI_le' (by omega) (by omega)]; omega)]
    by_cases hz : b = 0
    · rw [if_pos (by rw [lg_cmp_eq, l0 (by omega)]; exact hz)]
      subst hz
      rw [Nat.gcd_zero_right] at hg
      exact Ev_ret (Or.inl ⟨_, rfl, rfl, by rw [hg]⟩)
    · rw [if_neg (by rw [lg_cmp_eq, l0 (by omega)]; exact hz)]
      unfold g0l
      rw [if_neg (by rw [l0 (by omega)]; exact hz), pk_lRem (by omega) (by omega) (by omega)]
      simp only [nml]
      cases j with
      | zero => exact absurd hE hz
      | succ j =>
        rcases hE with hE | hE
        · exact absurd hE hz
        · have : a % b < b := Nat.mod_lt _ (by omega)
          refine Ev_ret (Or.inr ⟨j, _, rfl, rfl, rfl, b, a % b, k + 1, by omega, by rw [nI_1], hb, by omega, ?_, hE⟩)
          rw [← hg, Nat.gcd_comm b, ← Nat.gcd_rec, Nat.gcd_comm]
  obtain ⟨s', r, e, rfl, rfl⟩ := hl
  unfold f_X5_commonDivisor
  rw [e]
  rfl
theorem e_cdM {A T : Nat} (hA : A < 2 ^ 45) (hT : T < 2 ^ 45) (s : StA) : f_X6_common (lN A) (lN T) s = some (s, lN (Nat.gcd A T)) := by
  have hl : Ev (fl_X6_common_l6 (lN A) (lN T) s (lN A, lN T)) (fun s' r => s' = s ∧ r = lN (Nat.gcd A T)) := by
    unfold fl_X6_common_l6
    refine Ev_it (I := fun j s' w => s' = s ∧ ∃ a b, w = (lN a, lN b) ∧ a < 2 ^ 45 ∧ b < 2 ^ 45 ∧ Nat.gcd a b = Nat.gcd A T ∧ Eu j a b) ?_ FU 90 (FU_gt (by omega)) s (lN A, lN T) ⟨rfl, A, T, rfl, hA, hT, rfl, Eu_k 45 A T hT⟩
    rintro j s' w ⟨rfl, a, b, rfl, ha, hb, hg, hE⟩
    dsimp only
    unfold fb_X6_common_l6
    by_cases hz : b = 0
    · rw [if_pos (by rw [lg_cmp_eq, l0 (by omega)]; exact hz)]
      subst hz
      rw [Nat.gcd_zero_right] at hg
      exact Ev_ret (Or.inl ⟨_, rfl, rfl, by rw [hg]⟩)
    · rw [if_neg (by rw [lg_cmp_eq, l0 (by omega)]; exact hz)]
      unfold g0l
      rw [if_neg (by rw [l0 (by omega)]; exact hz), pk_lRem (by omega) (by omega) (by omega)]
      simp only [nml]
      cases j with
      | zero => exact absurd hE hz
      | succ j =>
        rcases hE with hE | hE
        · exact absurd hE hz
        · have : a % b < b := Nat.mod_lt _ (by omega)
          refine Ev_ret (Or.inr ⟨j, _, rfl, rfl, rfl, b, a % b, rfl, hb, by omega, ?_, hE⟩)
          rw [← hg, Nat.gcd_comm b, ← Nat.gcd_rec, Nat.gcd_comm]
  obtain ⟨s', r, e, rfl, rfl⟩ := hl
  unfold f_X6_common
  rw [e]
  rfl
theorem terms {A T : Nat} (hA : A < 2 ^ 45) (hT : T < 2 ^ 45) (h0 : 0 < T) (a : Int32) (s t : StA) : ∃ r, f_X5_inLowestTerms (lN A) (lN T) a s = some (s, r) ∧ f_X6_told (lN A) (lN T) a t = some (t, r) := by
  have hg : 0 < Nat.gcd A T := Nat.gcd_pos_of_pos_right _ h0
  have hgl : Nat.gcd A T ≤ T := Nat.gcd_le_right _ h0
  have hn : ¬ lN (Nat.gcd A T) = 0 := by rw [l0 (by omega)]; omega
  have hle : ¬ lg_cmp (lN (Nat.gcd A T)) 0 ≤ 0 := by
    rw [lg_cmp_le, show (0 : Int64) = lN 0 from rfl, pk_lLE (by omega) (by omega)]
    omega
  unfold f_X5_inLowestTerms f_X6_told fj_X5_inLowestTerms_j10 g0l
  rw [e_cdC hA hT, e_cdM hT hA, Nat.gcd_comm T A]
  simp only [bn_so]
  rw [if_neg hle, if_neg hn, if_neg hn, if_neg hle, if_neg hn, if_neg hn]
  by_cases e : a = 0
  · rw [if_pos e, if_pos e]
    exact ⟨_, rfl, rfl⟩
  · rw [if_neg e, if_neg e]
    exact ⟨_, rfl, rfl⟩
theorem e_ten {t : StA} {P : Nat} {a1 a2 a3 : Int32} (hP : P ≤ 8) (h6 : gi t 1 33 = nI P) (h26 : gl t 0 26 = 1) : Ev (fl_X6_findOdds_l18 a1 a2 a3 a1 a2 a3 t 0) (fun t' _ => (∀ k j, gi t' k j = gi t k j) ∧ gl t' 0 24 = gl t 0 24 ∧ gl t' 0 25 = gl t 0 25 ∧ gl t' 0 26 = lN (10 ^ P)) := by
  unfold fl_X6_findOdds_l18
  refine Ev_it (I := fun j t' w => ∃ k, k + j = P ∧ w = nI k ∧ (∀ k j, gi t' k j = gi t k j) ∧ gl t' 0 24 = gl t 0 24 ∧ gl t' 0 25 = gl t 0 25 ∧ gl t' 0 26 = lN (10 ^ k)) ?_ FU P (FU_gt (by omega)) t 0 ⟨0, by omega, rfl, fun _ _ => rfl, rfl, rfl, h26⟩
  rintro j t' w ⟨k, hk, rfl, h1, h2, h3, h4⟩
  unfold fb_X6_findOdds_l18
  rw [G33, t33, h1, h6]
  by_cases hkP : P ≤ k
  · rw [if_pos (by rw [nI_le' (by omega) (by omega)]; exact hkP)]
    have e : k = P := by omega
    subst e
    exact Ev_ret (Or.inl ⟨_, rfl, h1, h2, h3, h4⟩)
  · rw [if_neg (by rw [nI_le' (by omega) (by omega)]; exact hkP)]
    simp only [nms]
    refine Ev_ret (Or.inr ⟨j - 1, _, by omega, rfl, k + 1, by omega, nI_1 k, fun x y => h1 x y, ?_, ?_, ?_⟩)
    · rw [gl_sl, if_neg (by omega)]; exact h2
    · rw [gl_sl, if_neg (by omega)]; exact h3
    · rw [gl_sl, if_pos ⟨rfl, rfl⟩, h4, show (10 : Int64) = lN 10 from rfl, lN_mul]
      rfl
theorem od_b {v F P : Nat} (hv : v ≤ 10) (hP : P ≤ 8) : od v F P ≤ 100000000 := Nat.le_trans (od_le hv P) (p10 hP)
theorem lgz {o : Nat} (ho : o < 2 ^ 63) : lg_cmp (lN o) 0 ≤ 0 ↔ o = 0 := by
  rw [lg_cmp_le, show (0 : Int64) = lN 0 from rfl, pk_lLE ho (by omega)]
  omega
theorem sim_luck (a b d e : Int32) {c m : StA} (h : R0 c m) : E2 (f_X5_luck a b d e c) (f_X6_luck a b d e m) Fin := by
  have h0 := h
  obtain ⟨n, P, Q, S, h⟩ := h
  have hP := h.ps.1
  have h2 := p2 hP
  have h10 := p10 hP
  have h10p := p10p P
  unfold f_X5_luck f_X6_luck
  refine E2_ck (e_isIn a 0 10 c) (e_in (y := 0) (z := 10) (b := 0) (c := 10) rfl rfl m) (fun _ => ⟨rfl, h0⟩) (fun hp => ?_)
  refine E2_ck (e_isFore5 b c) (e_isFar b m) (fun _ => ⟨rfl, h0⟩) (fun hp2 => ?_)
  refine E2_ck (e_isHeight5 d c) (e_in (y := 0) (z := 60) (b := 0) (c := 60) rfl rfl m) (fun _ => ⟨rfl, h0⟩) (fun hp3 => ?_)
  refine E2_ck (e_isIn e 0 1 c) (e_isPart e m) (fun _ => ⟨rfl, h0⟩) (fun hp4 => ?_)
  obtain ⟨v, hv, rfl⟩ := ck_n (N := 10) rfl hp
  obtain ⟨N, hN, rfl⟩ := ck_n (N := 60) rfl hp2
  unfold f_X6_findOdds
  simp only [nms, bn_as, bn_so]
  refine E2_rb (Ev_mono (e_ten (P := P) hP h.ps.2.2 (by rw [gl_sl, if_pos ⟨rfl, rfl⟩])) ?_)
  rintro m1 _ ⟨k1, k2, k3, k4⟩
  rw [gl_sl, if_neg (by omega), gl_sl, if_neg (by omega), gl_sl, if_pos ⟨rfl, rfl⟩] at k2
  have hR1 : RR c m1 n P Q S := h.q (agQ.rf c) (fun x y _ => k1 x y)
  refine E2_bn (E2_mono (Q := fun s x t _ => RR s t n P Q S ∧ ∃ A, A < 2 ^ 45 ∧ x = lN A ∧ gl t 0 24 = lN A ∧ gl t 0 26 = lN (10 ^ P)) ?_ ?_)
  · unfold fl_X5_luck_l44 fl_X6_findOdds_l51
    refine E2_it (I := fun j s w t u => ∃ F A, F + j = 2 ^ P ∧ w = (lN A, nI F) ∧ u = nI F ∧ RR s t n P Q S ∧ A ≤ F * 100000000 ∧ gl t 0 24 = lN A ∧ gl t 0 26 = lN (10 ^ P)) ?_ FU FU (2 ^ P) (FU_gt (by omega)) (FU_gt (by omega)) c (0, 0) m1 0 ⟨0, 0, by omega, rfl, rfl, hR1, by omega, k2, k4⟩
    rintro j s w t u ⟨F, A, hF, rfl, rfl, hR, hA, g1, g2⟩
    dsimp only
    by_cases hFP : F < 2 ^ P
    · obtain ⟨t', hh, s', o1, o2, o3, o4, o5, o6, o7, o8, o9, o10⟩ := odds_body (F := F) (N := N) (v := v) (a1 := nI v) (a2 := nI N) (a3 := d) (x3 := d) hR hFP hN hv
      have hob := od_b (F := F) hv hP
      unfold fb_X5_luck_l44
      rw [o2, hR.ps.2.1, sh_1 P hP, if_neg (show ¬ nI (2 ^ P) ≤ nI F by rw [nI_le' (by omega) (by omega)]; omega), o7]
      simp only [bn_so]
      by_cases hz : od v F P = 0
      · rw [if_pos ((lgz (by omega)).mpr hz)]
        refine E2_ret (Or.inr ⟨j - 1, _, _, by omega, rfl, rfl, F + 1, A, by omega, by rw [nI_1], rfl, hR.q (agQ.rf s) o3, Nat.le_trans hA (Nat.mul_le_mul_right _ (Nat.le_succ F)), ?_, by rw [o6]; exact g2⟩)
        rw [o4, hz, g1]
        by_cases q : d < nI hh
        · rw [if_pos q, show (0 : Int64) = lN 0 from rfl, lN_add]; rfl
        · rw [if_neg q, lN_add]; rfl
      · rw [if_neg (fun q => hz ((lgz (by omega)).mp q)), o8]
        simp only [bn_so]
        rw [o10]
        by_cases q : d < nI hh
        · rw [if_pos q]
          rw [if_pos q] at o4
          simp only [nml]
          refine E2_ret (Or.inr ⟨j - 1, _, _, by omega, rfl, rfl, F + 1, A, by omega, by rw [nI_1, show (0 : Int64) = lN 0 from rfl, lN_add]; rfl, rfl, hR.q o9 o3, Nat.le_trans hA (Nat.mul_le_mul_right _ (Nat.le_succ F)), ?_, by rw [o6]; exact g2⟩)
          rw [o4, g1, show (0 : Int64) = lN 0 from rfl, lN_add]; rfl
        · rw [if_neg q]
          rw [if_neg q] at o4
          simp only [nml]
          refine E2_ret (Or.inr ⟨j - 1, _, _, by omega, rfl, rfl, F + 1, A + od v F P, by omega, by rw [nI_1, lN_add], rfl, hR.q o9 o3, by rw [Nat.add_mul, Nat.one_mul]; exact Nat.add_le_add hA hob, ?_, by rw [o6]; exact g2⟩)
          rw [o4, g1, lN_add]
    · unfold fb_X5_luck_l44 fb_X6_findOdds_l51
      rw [hR.ps.2.1, G33, t33, hR.ps.2.2, sh_1 P hP, if_pos (show nI (2 ^ P) ≤ nI F by rw [nI_le' (by omega) (by omega)]; omega), if_pos (show nI (2 ^ P) ≤ nI F by rw [nI_le' (by omega) (by omega)]; omega)]
      exact E2_ret (Or.inl ⟨_, _, rfl, rfl, hR, A, by omega, rfl, g1, g2⟩)
  · rintro s _ t _ ⟨hR, A, hA, rfl, g1, g2⟩
    refine E2_le (e_all hP hR.ps.2.1) ?_
    rw [g1, g2]
    obtain ⟨r, e1, e2⟩ := terms (T := 10 ^ P) hA (by omega) h10p e s t
    rw [e1, e2]
    exact E2_ret ⟨rfl, n, P, Q, S, hR⟩
theorem sim_mean (a b e : Int32) {c m : StA} (h : R0 c m) : E2 (f_X5_mean a b e c) (f_X6_mean a b e m) Fin := by
  have h0 := h
  obtain ⟨n, P, Q, S, h⟩ := h
  have hP := h.ps.1
  have h2 := p2 hP
  have h10 := p10 hP
  have h10p := p10p P
  unfold f_X5_mean f_X6_mean
  refine E2_ck (e_isIn a 0 10 c) (e_in (y := 0) (z := 10) (b := 0) (c := 10) rfl rfl m) (fun _ => ⟨rfl, h0⟩) (fun hp => ?_)
  refine E2_ck (e_isFore5 b c) (e_isFar b m) (fun _ => ⟨rfl, h0⟩) (fun hp2 => ?_)
  refine E2_ck (e_isIn e 0 1 c) (e_isPart e m) (fun _ => ⟨rfl, h0⟩) (fun hp4 => ?_)
  obtain ⟨v, hv, rfl⟩ := ck_n (N := 10) rfl hp
  obtain ⟨N, hN, rfl⟩ := ck_n (N := 60) rfl hp2
  unfold f_X6_findOdds
  simp only [nms, bn_as, bn_so]
  refine E2_rb (Ev_mono (e_ten (P := P) hP h.ps.2.2 (by rw [gl_sl, if_pos ⟨rfl, rfl⟩])) ?_)
  rintro m1 _ ⟨k1, k2, k3, k4⟩
  rw [gl_sl, if_neg (by omega), gl_sl, if_pos ⟨rfl, rfl⟩] at k3
  have hR1 : RR c m1 n P Q S := h.q (agQ.rf c) (fun x y _ => k1 x y)
  refine E2_bn (E2_mono (Q := fun s x t _ => RR s t n P Q S ∧ ∃ A, A < 2 ^ 45 ∧ x = lN A ∧ gl t 0 25 = lN A ∧ gl t 0 26 = lN (10 ^ P)) ?_ ?_)
  · unfold fl_X5_mean_l36 fl_X6_findOdds_l51
    refine E2_it (I := fun j s w t u => ∃ F A, F + j = 2 ^ P ∧ w = (lN A, nI F) ∧ u = nI F ∧ RR s t n P Q S ∧ A ≤ F * 6000000000 ∧ gl t 0 25 = lN A ∧ gl t 0 26 = lN (10 ^ P)) ?_ FU FU (2 ^ P) (FU_gt (by omega)) (FU_gt (by omega)) c (0, 0) m1 0 ⟨0, 0, by omega, rfl, rfl, hR1, by omega, k3, k4⟩
    rintro j s w t u ⟨F, A, hF, rfl, rfl, hR, hA, g1, g2⟩
    dsimp only
    by_cases hFP : F < 2 ^ P
    · obtain ⟨t', hh, s', o1, o2, o3, o4, o5, o6, o7, o8, o9, o10⟩ := odds_body (F := F) (N := N) (v := v) (a1 := nI v) (a2 := nI N) (a3 := 0) (x3 := 0) hR hFP hN hv
      have hob := od_b (F := F) hv hP
      have hoh : od v F P * hh ≤ 6000000000 := Nat.le_trans (Nat.mul_le_mul hob o1) (by decide)
      unfold fb_X5_mean_l36
      rw [o2, hR.ps.2.1, sh_1 P hP, if_neg (show ¬ nI (2 ^ P) ≤ nI F by rw [nI_le' (by omega) (by omega)]; omega), o7]
      simp only [bn_so]
      by_cases hz : od v F P = 0
      · rw [if_pos ((lgz (by omega)).mpr hz)]
        refine E2_ret (Or.inr ⟨j - 1, _, _, by omega, rfl, rfl, F + 1, A, by omega, by rw [nI_1], rfl, hR.q (agQ.rf s) o3, Nat.le_trans hA (Nat.mul_le_mul_right _ (Nat.le_succ F)), ?_, by rw [o6]; exact g2⟩)
        rw [o5, hz, g1, Nat.zero_mul, lN_add]; rfl
      · rw [if_neg (fun q => hz ((lgz (by omega)).mp q)), o8]
        simp only [bn_so]
        rw [o10, nI_l (by omega), lN_mul]
        simp only [nml]
        refine E2_ret (Or.inr ⟨j - 1, _, _, by omega, rfl, rfl, F + 1, A + od v F P * hh, by omega, by rw [nI_1, lN_add], rfl, hR.q o9 o3, by rw [Nat.add_mul, Nat.one_mul]; exact Nat.add_le_add hA hoh, ?_, by rw [o6]; exact g2⟩)
        rw [o5, g1, lN_add]
    · unfold fb_X5_mean_l36 fb_X6_findOdds_l51
      rw [hR.ps.2.1, G33, t33, hR.ps.2.2, sh_1 P hP, if_pos (show nI (2 ^ P) ≤ nI F by rw [nI_le' (by omega) (by omega)]; omega), if_pos (show nI (2 ^ P) ≤ nI F by rw [nI_le' (by omega) (by omega)]; omega)]
      exact E2_ret (Or.inl ⟨_, _, rfl, rfl, hR, A, by omega, rfl, g1, g2⟩)
  · rintro s _ t _ ⟨hR, A, hA, rfl, g1, g2⟩
    refine E2_le (e_all hP hR.ps.2.1) ?_
    rw [g1, g2]
    obtain ⟨r, e1, e2⟩ := terms (T := 10 ^ P) hA (by omega) h10p e s t
    rw [e1, e2]
    exact E2_ret ⟨rfl, n, P, Q, S, hR⟩
