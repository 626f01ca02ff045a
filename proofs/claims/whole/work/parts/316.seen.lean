/-! as seen: kinds, weights, saids -/
def stp (s : StA) : StA := match f_X1_pass 12 s with
  | some p => p.1
  | none => s
def sg (s : StA) : Nat → StA
  | 0 => s
  | i + 1 => stp (sg s i)
theorem stp_eq {s s' : StA} (e : f_X1_pass 12 s = some (s', ())) : stp s = s' := by
  unfold stp
  rw [e]
def DSo : Nat → Nat → Prop := fun x y => x = 2 ∨ (x = 6 ∧ y < 31)
/-- minute by minute, on both sides: the heights that are written down -/
def SI (s t : StA) (n P Q i : Nat) (t' : StA) : Prop := (∃ S', TT (sg s i) t' 12 n P Q S' noF) ∧ eqC (DPc 12) s (sg s i) ∧ eqC DSo t t' ∧ (gi (sg s i) 12 11).toInt = (gi s 12 11).toInt + (i : Int) ∧ ∀ q, q < i → gi t' 6 q = gi (sg s q) 12 8
theorem SI.step {s t t' : StA} {n P Q i : Nat} (h : SI s t n P Q i t') (hmin : (gi s 12 11).toInt + 100 ≤ 5000) (hi : i < 31) : f_X1_pass 12 (sg s i) = some (sg s (i + 1), ()) ∧ ∃ t2, fb_X6_isSo_l2 t' (nI i) = some (t2, .inl (nI (i + 1))) ∧ SI s t n P Q (i + 1) t2 := by
  obtain ⟨⟨S', hT⟩, h1, h2, h3, h4⟩ := h
  have hT2 : TT (sg s i) (si t' 6 i (gi t' 2 24)) 12 n P Q S' noF := hT.frm (fun y => gi_nk (by omega)) (gi_nk (by omega)) (gi_nk (by omega)) (gi_nk (by omega))
  obtain ⟨s2, u, t2, u2, e1, e2, ⟨S2, a1⟩, a2, a3, a4⟩ := tt_pass hT2 (by omega)
  have es : sg s (i + 1) = s2 := stp_eq e1
  refine ⟨by rw [es]; exact e1, t2, ?_, ?_⟩
  · unfold fb_X6_isSo_l2
    rw [if_neg (show ¬ 30 < nI i by rw [show (30 : Int32) = nI 30 from rfl, nI_lt' (by omega) (by omega)]; omega), g24, t24, gd_n hi (by omega), tn_nI (by omega)]
    simp only [nms]
    rw [e2]
    simp only [bn_so]
    rw [nI_1]
  · unfold SI
    rw [es]
    refine ⟨⟨S2, a1⟩, h1.tr a2, (h2.si (Or.inr ⟨rfl, hi⟩)).tr (a3.mono (fun x y q => Or.inl q)), by rw [a4, h3]; omega, fun q hq => ?_⟩
    rw [a3.1 6 q (by unfold DPm; omega)]
    by_cases e : q = i
    · subst e
      rw [gi_at]
      have := hT.1.2.2.2.2.2.1.1
      rw [Nat.zero_add] at this
      exact this.symm
    · rw [gi_nj e]
      exact h4 q (by omega)
theorem SI.z {s t : StA} {n P Q S : Nat} (h : TT s t 12 n P Q S noF) : SI s t n P Q 0 t := ⟨⟨S, h⟩, eqC.rf s, eqC.rf t, by show _ = _ + ((0 : Nat) : Int); rw [show sg s 0 = s from rfl]; omega, fun q hq => absurd hq (by omega)⟩
theorem seen_m {s t : StA} {n P Q S : Nat} (h : TT s t 12 n P Q S noF) (hmin : (gi s 12 11).toInt + 100 ≤ 5000) : Ev (fl_X6_isSo_l2 t 0) (fun t' _ => SI s t n P Q 31 t') := by
  unfold fl_X6_isSo_l2
  refine Ev_it (I := fun j t' v => ∃ i, i + j = 31 ∧ v = nI i ∧ SI s t n P Q i t') ?_ FU 31 (FU_gt (by omega)) t 0 ⟨0, by omega, rfl, SI.z h⟩
  rintro j t' v ⟨i, hij, rfl, hI⟩
  by_cases hi : i < 31
  · obtain ⟨-, t2, e, hI2⟩ := hI.step hmin hi
    exact ⟨t2, _, e, Or.inr ⟨j - 1, _, by omega, rfl, i + 1, by omega, rfl, hI2⟩⟩
  · have e : i = 31 := by omega
    subst e
    unfold fb_X6_isSo_l2
    rw [if_pos (show (30 : Int32) < nI 31 by decide)]
    exact Ev_ret (Or.inl ⟨_, rfl, hI⟩)
theorem seen_c {s t : StA} {n P Q S : Nat} (h : TT s t 12 n P Q S noF) (hmin : (gi s 12 11).toInt + 100 ≤ 5000) : ∀ i, i ≤ 31 → ∃ t', SI s t n P Q i t'
  | 0, _ => ⟨t, SI.z h⟩
  | i + 1, hi => by
    obtain ⟨t', h1⟩ := seen_c h hmin i (by omega)
    obtain ⟨-, t2, -, h2⟩ := h1.step hmin (by omega)
    exact ⟨t2, h2⟩
/-- all that is seen at this minute is so -/
theorem e_behind {s : StA} {Q : Nat} (hQ : Q ≤ 6) (h2 : gi s 20 2 = nI Q) (a : Int32) : ∃ b : Bool, f_X1_isAsSeenBehind 12 a s = some (s, bI b) ∧ (b = true ↔ ∀ j, j < Q → gi s 21 j = a → gi s 22 j = gi s 12 8) := by
  have hl : Ev (fl_X1_isAsSeenBehind_l2 12 a a s 0) (fun s' x => s' = s ∧ ((x = .inl () ∧ ∀ j, j < Q → gi s 21 j = a → gi s 22 j = gi s 12 8) ∨ (x = .inr 0 ∧ ∃ j, j < Q ∧ gi s 21 j = a ∧ gi s 22 j ≠ gi s 12 8))) := by
    unfold fl_X1_isAsSeenBehind_l2
    refine Ev_it (I := fun j s' v => s' = s ∧ ∃ i, i + j = Q ∧ v = nI i ∧ ∀ q, q < i → gi s 21 q = a → gi s 22 q = gi s 12 8) ?_ FU Q (FU_gt (by omega)) s 0 ⟨rfl, 0, by omega, rfl, fun q hq => absurd hq (by omega)⟩
    rintro j s' v ⟨rfl, i, hij, rfl, hq⟩
    unfold fb_X1_isAsSeenBehind_l2
    have k8 : gi s' (12 + 8) 2 = nI Q := h2
    rw [k8]
    by_cases hi : Q ≤ i
    · rw [if_pos (by rw [nI_le' (by omega) (by omega)]; exact hi)]
      exact Ev_ret (Or.inl ⟨_, rfl, rfl, Or.inl ⟨rfl, fun q z => hq q (by omega)⟩⟩)
    · rw [if_neg (by rw [nI_le' (by omega) (by omega)]; exact hi), gd_n (show i < 6 by omega) (by omega), gd_n (show i < 6 by omega) (by omega), tn_nI (by omega)]
      have k9 : gi s' (12 + 9) i = gi s' 21 i := rfl
      have k10 : gi s' (12 + 10) i = gi s' 22 i := rfl
      rw [k9, k10]
      by_cases q1 : gi s' 21 i = a
      · rw [if_pos q1]
        by_cases q2 : gi s' 22 i = gi s' 12 8
        · rw [if_pos q2]
          refine Ev_ret (Or.inr ⟨j - 1, _, by omega, rfl, rfl, i + 1, by omega, nI_1 i, fun q z w => ?_⟩)
          by_cases e : q = i
          · rw [e]; exact q2
          · exact hq q (by omega) w
        · rw [if_neg q2]
          exact Ev_ret (Or.inl ⟨_, rfl, rfl, Or.inr ⟨rfl, i, by omega, q1, q2⟩⟩)
      · rw [if_neg q1]
        refine Ev_ret (Or.inr ⟨j - 1, _, by omega, rfl, rfl, i + 1, by omega, nI_1 i, fun q z w => ?_⟩)
        by_cases e : q = i
        · exact absurd (e ▸ w) q1
        · exact hq q (by omega) w
  unfold f_X1_isAsSeenBehind
  obtain ⟨s', x, e, rfl, ⟨rfl, q⟩ | ⟨rfl, q⟩⟩ := hl
  · rw [e]
    exact ⟨true, rfl, fun _ => q, fun _ => rfl⟩
  · rw [e]
    refine ⟨false, rfl, fun z => absurd z (by decide), fun z => ?_⟩
    obtain ⟨j, z1, z2, z3⟩ := q
    exact absurd (z j z1 z2) z3
theorem seen_rel {s t : StA} {n P Q S : Nat} (h : TT s t 12 n P Q S noF) (hmin : (gi s 12 11).toInt + 100 ≤ 5000) (hrow : ∀ y, 50 ≤ y → y < 63 → gi t 1 y = gi t 2 y) : E2 (f_X1_goesAsSeen 12 s) (f_X6_isSo t) (fun s' r t' r' => r = r' ∧ (∃ b : Bool, r = bI b) ∧ eqC (DPc 12) s s' ∧ eqC DSo t t' ∧ ∀ i, i < 31 → gi t' 6 i = gi (sg s i) 12 8) := by
  obtain ⟨hQ, q2, q3, q4⟩ := id h.1.2.2.2.2.2.2.2.2
  rw [Nat.zero_add] at q3
  -- the class
  have hcl : Ev (f_X1_goesAsSeen 12 s) (fun s' r => eqC (DPc 12) s s' ∧ ∃ b : Bool, r = bI b ∧ (b = true ↔ ∀ i, i < 31 → ∀ j, j < Q → gi s 21 j = nI i → gi s 22 j = gi (sg s i) 12 8)) := by
    unfold f_X1_goesAsSeen
    have hl : Ev (fl_X1_goesAsSeen_l2 12 s 0) (fun s' x => eqC (DPc 12) s s' ∧ ((x = .inl () ∧ ∀ i, i < 31 → ∀ j, j < Q → gi s 21 j = nI i → gi s 22 j = gi (sg s i) 12 8) ∨ (x = .inr 0 ∧ ¬ ∀ i, i < 31 → ∀ j, j < Q → gi s 21 j = nI i → gi s 22 j = gi (sg s i) 12 8))) := by
      unfold fl_X1_goesAsSeen_l2
      refine Ev_it (I := fun j s' v => ∃ i, i + j = 31 ∧ v = nI i ∧ s' = sg s i ∧ ∀ q, q < i → ∀ j, j < Q → gi s 21 j = nI q → gi s 22 j = gi (sg s q) 12 8) ?_ FU 31 (FU_gt (by omega)) s 0 ⟨0, by omega, rfl, rfl, fun q hq => absurd hq (by omega)⟩
      rintro j s' v ⟨i, hij, rfl, rfl, hq⟩
      unfold fb_X1_goesAsSeen_l2
      obtain ⟨t', hI⟩ := seen_c h hmin i (by omega)
      have hfr := hI.2.1
      by_cases hi : i < 31
      · rw [if_neg (show ¬ 30 < nI i by rw [show (30 : Int32) = nI 30 from rfl, nI_lt' (by omega) (by omega)]; omega)]
        obtain ⟨b, e1, e2⟩ := e_behind (s := sg s i) hQ (by rw [hfr.1 _ _ (fun z => by have := z.1; omega)]; exact q2) (nI i)
        have k1 : ∀ j, gi (sg s i) 21 j = gi s 21 j := fun j => hfr.1 _ _ (fun z => by have := z.1; omega)
        have k2 : ∀ j, gi (sg s i) 22 j = gi s 22 j := fun j => hfr.1 _ _ (fun z => by have := z.1; omega)
        simp only [k1, k2] at e2
        refine Ev_be e1 ?_
        cases b
        · rw [if_pos (show bI false = 0 from rfl)]
          refine Ev_ret (Or.inl ⟨_, rfl, hfr, Or.inr ⟨rfl, fun z => ?_⟩⟩)
          exact absurd (e2.mpr (fun j hj w => z i hi j hj w)) (by decide)
        · rw [if_neg (show ¬ bI true = 0 by decide)]
          refine Ev_be (hI.step hmin hi).1 (Ev_ret (Or.inr ⟨j - 1, _, by omega, rfl, i + 1, by omega, nI_1 i, rfl, fun q z w => ?_⟩))
          by_cases e : q = i
          · rw [e]; exact e2.mp rfl w
          · exact hq q (by omega) w
      · rw [if_pos (show 30 < nI i by rw [show (30 : Int32) = nI 30 from rfl, nI_lt' (by omega) (by omega)]; omega)]
        exact Ev_ret (Or.inl ⟨_, rfl, hfr, Or.inl ⟨rfl, fun q z => hq q (by omega)⟩⟩)
    obtain ⟨s', x, e, hfr, ⟨rfl, q⟩ | ⟨rfl, q⟩⟩ := hl
    · rw [e]
      exact ⟨s', 1, rfl, hfr, true, rfl, fun _ => q, fun _ => rfl⟩
    · rw [e]
      exact ⟨s', 0, rfl, hfr, false, rfl, fun z => absurd z (by decide), fun z => absurd z q⟩
  -- the reference
  have hml : Ev (f_X6_isSo t) (fun t' r => eqC DSo t t' ∧ (∀ i, i < 31 → gi t' 6 i = gi (sg s i) 12 8) ∧ ∃ b : Bool, r = bI b ∧ (b = true ↔ ∀ i, i < 31 → ∀ j, j < Q → gi s 21 j = nI i → gi s 22 j = gi (sg s i) 12 8)) := by
    unfold f_X6_isSo
    refine Ev_bn (Ev_mono (seen_m h hmin) ?_)
    rintro t1 _ hI
    obtain ⟨-, -, f2, -, f4⟩ := hI
    have m50 : gi t1 1 50 = nI Q := by rw [f2.1 _ _ (by unfold DSo; omega), hrow 50 (by omega) (by omega)]; exact q3
    have m51 : ∀ j, j < Q → gi t1 1 (51 + 2 * j) = gi s 21 j := fun j hj => by
      have := (q4 j hj).1
      rw [Nat.zero_add] at this
      rw [f2.1 _ _ (by unfold DSo; omega), hrow _ (by omega) (by omega)]; exact this.symm
    have m52 : ∀ j, j < Q → gi t1 1 (52 + 2 * j) = gi s 22 j := fun j hj => by
      have := (q4 j hj).2.2.1
      rw [Nat.zero_add] at this
      rw [f2.1 _ _ (by unfold DSo; omega), hrow _ (by omega) (by omega)]; exact this.symm
    have hl : Ev (fl_X6_isSo_l35 t1 (1, 0)) (fun t' x => t' = t1 ∧ ∃ b : Bool, x = bI b ∧ (b = true ↔ ∀ j, j < Q → ∀ i, i < 31 → gi s 21 j = nI i → gi s 22 j = gi (sg s i) 12 8)) := by
      unfold fl_X6_isSo_l35
      refine Ev_it (I := fun j t' v => t' = t1 ∧ ∃ i, i + j = Q ∧ v.2 = nI i ∧ ∃ b : Bool, v.1 = bI b ∧ (b = true ↔ ∀ j, j < i → ∀ i, i < 31 → gi s 21 j = nI i → gi s 22 j = gi (sg s i) 12 8)) ?_ FU Q (FU_gt (by omega)) t1 (1, 0) ⟨rfl, 0, by omega, rfl, true, rfl, fun _ j hj => absurd hj (by omega), fun _ => rfl⟩
      rintro j t' ⟨x, y⟩ ⟨rfl, i, hij, hy, b, hx, hb⟩
      dsimp only at hx hy
      subst hx hy
      unfold fb_X6_isSo_l35
      dsimp only
      rw [G50, t50, m50]
      by_cases hi : Q ≤ i
      · rw [if_pos (by rw [nI_le' (by omega) (by omega)]; exact hi)]
        have e : i = Q := by omega
        subst e
        exact Ev_ret (Or.inl ⟨_, rfl, rfl, b, rfl, hb⟩)
      · rw [if_neg (by rw [nI_le' (by omega) (by omega)]; exact hi)]
        have fin : ∀ b2 : Bool, (b2 = true ↔ (b = true ∧ ∀ q, q < 31 → gi s 21 i = nI q → gi s 22 i = gi (sg s q) 12 8)) → ∀ v, v = bI b2 → Ev (some (t', (Sum.inl (v, nI i + 1) : (Int32 × Int32) ⊕ Int32))) (fun s' x => (∃ e, x = .inr e ∧ s' = t' ∧ ∃ b : Bool, e = bI b ∧ (b = true ↔ ∀ j, j < Q → ∀ i, i < 31 → gi s 21 j = nI i → gi s 22 j = gi (sg s i) 12 8)) ∨ (∃ j' v', j = j' + 1 ∧ x = .inl v' ∧ s' = t' ∧ ∃ i, i + j' = Q ∧ v'.2 = nI i ∧ ∃ b : Bool, v'.1 = bI b ∧ (b = true ↔ ∀ j, j < i → ∀ i, i < 31 → gi s 21 j = nI i → gi s 22 j = gi (sg s i) 12 8))) := fun b2 hb2 v hv => Ev_ret (Or.inr ⟨j - 1, _, by omega, rfl, rfl, i + 1, by omega, nI_1 i, b2, hv, by
          rw [hb2, hb]
          exact ⟨fun z j hj => by
            by_cases e : j = i
            · rw [e]; exact z.2
            · exact z.1 j (by omega), fun z => ⟨fun j hj => z j (by omega), z i (by omega)⟩⟩⟩)
        cases b
        · rw [if_pos (show bI false = 0 from rfl)]
          exact fin false ⟨fun z => absurd z (by decide), fun z => absurd z.1 (by decide)⟩ _ rfl
        · rw [if_neg (show ¬ bI true = 0 by decide), ix52, ix51, gd_n (show 51 + 2 * i < 189 by omega) (by omega), tn_nI (show 51 + 2 * i < 2147483648 by omega), gd_n (show 52 + 2 * i < 189 by omega) (by omega), tn_nI (show 52 + 2 * i < 2147483648 by omega), m51 i (by omega), m52 i (by omega)]
          obtain ⟨N, hN, eN⟩ := rg_nI (q4 i (by omega)).2.1
          have eN' : gi s 21 i = nI N := eN
          rw [eN', gd_n (show N < 31 by omega) (by omega), tn_nI (by omega), f4 N (by omega)]
          have one : (∀ q, q < 31 → gi s 21 i = nI q → gi s 22 i = gi (sg s q) 12 8) ↔ gi s 22 i = gi (sg s N) 12 8 := ⟨fun z => z N (by omega) eN', fun z q hq w => by
            rw [eN', nI_eq' (by omega) (by omega)] at w
            rw [← w]; exact z⟩
          by_cases q5 : gi (sg s N) 12 8 = gi s 22 i
          · rw [if_pos q5]
            exact fin true ⟨fun _ => ⟨rfl, one.mpr q5.symm⟩, fun _ => rfl⟩ _ rfl
          · rw [if_neg q5]
            exact fin false ⟨fun z => absurd z (by decide), fun z => absurd (one.mp z.2).symm q5⟩ _ rfl
    refine Ev_bn (Ev_mono hl ?_)
    rintro t2 x ⟨rfl, b, rfl, hb⟩
    refine Ev_gz (by cases b <;> decide) (Ev_ret ⟨f2, f4, b, rfl, ?_⟩)
    rw [hb]
    exact ⟨fun z i hi j hj => z j hj i hi, fun z j hj i hi => z i hi j hj⟩
  obtain ⟨s', r, e1, a1, b, rfl, hb⟩ := hcl
  obtain ⟨t', r', e2, a2, a3, b', rfl, hb'⟩ := hml
  have eb : b = b' := by
    rw [← hb'] at hb
    cases b <;> cases b' <;> simp_all
  exact ⟨s', _, t', _, e1, e2, by rw [eb], ⟨b, rfl⟩, a1, a2, a3⟩
