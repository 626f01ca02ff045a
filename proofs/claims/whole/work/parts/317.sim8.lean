/-! kinds, weights, saids, drift -/
theorem dq8 : ∀ x y : Nat, DSo x y → DQm x y := by
  intro x y h
  unfold DSo at h
  unfold DQm
  omega
theorem TT.th0 {c m : StA} {n P Q S i k : Nat} {v : Int32} (h : TT c m 12 n P Q S noF) (hi : i < n) (hv : (k = 0 ∧ rg v 0 3) ∨ (k = 1 ∧ rg v 1 9)) : TT (si c (13 + k) i v) (si m 2 (4 * i + k) v) 12 n P Q S noF := by
  obtain ⟨h1, h2, h3⟩ := h
  refine ⟨?_, fun q hq => by rw [gi_nk (by omega)]; exact h2 q hq, by rw [gi_nk (by omega)]; exact h3⟩
  rcases hv with ⟨rfl, hv⟩ | ⟨rfl, hv⟩
  · exact h1.kd (k := 12) hi hv
  · exact h1.wt (k := 12) hi hv
/-- a try with a THING's KIND or WEIGHT another -/
def WR (c m : StA) (i k : Nat) (v : Int32) (s1 s' t' : StA) (b : Bool) : Prop := f_X5_restartTrial c = some (s1, ()) ∧ f_X1_goesAsSeen 12 (si s1 (13 + k) i v) = some (s', bI b) ∧ agQ DQc c s' ∧ agQ DQc c s1 ∧ f_X6_isSoWith (nI i) (nI k) v m = some (t', bI b) ∧ agQ DQm m t' ∧ (∀ q, q < 31 → gi t' 6 q = gi (sg (si s1 (13 + k) i v) q) 12 8) ∧ (∀ q, q < 31 → rg (gi (sg (si s1 (13 + k) i v) q) 12 8) 0 60) ∧ ∀ y, gi t' 7 y = gi m 7 y
theorem with_rel {c m : StA} {n P Q S i k : Nat} {v : Int32} (h : RR c m n P Q S) (hi : i < n) (hv : (k = 0 ∧ rg v 0 3) ∨ (k = 1 ∧ rg v 1 9)) : ∃ s1 s' t' b, WR c m i k v s1 s' t' b := by
  have hn := h.1.1
  obtain ⟨s1, _, t1, _, e1, e2, a1, -, a3, a4, a5⟩ := start_rel h
  have hm := min_ok h a5
  have hT := a1.th0 hi hv
  have hmin : (gi (si s1 (13 + k) i v) 12 11).toInt + 100 ≤ 5000 := by rw [gi_nk (by omega)]; exact hm.1
  have hrow : ∀ y, 50 ≤ y → y < 63 → gi (si t1 2 (4 * i + k) v) 1 y = gi (si t1 2 (4 * i + k) v) 2 y := fun y y1 y2 => by
    rw [gi_nk (by omega), gi_nj (by omega)]
    obtain ⟨t1', _, e2', b1, -⟩ := e_starts m
    rw [e2] at e2'
    obtain ⟨rfl, -⟩ := Prod.mk.inj (Option.some.inj e2')
    rw [b1 y y2, a4.1 _ _ (by unfold DTm; omega)]
  obtain ⟨s', r, t', r', f1, f2, rfl, ⟨b, rfl⟩, g1, g2, g3⟩ := seen_rel hT hmin hrow
  refine ⟨s1, s', t', b, e1, f1, ?_, a3.ag dq1, ?_, ?_, g3, fun q hq => ?_, fun y => by rw [g2.1 _ _ (by unfold DSo; omega), gi_nk (by omega), a4.1 _ _ (by unfold DTm; omega)]⟩
  · exact ((a3.ag dq1).si (dq1 _ _ (by omega))).tr (g1.ag dq2)
  · unfold f_X6_isSoWith
    rw [e2]
    simp only [bn_so]
    rw [e_becof (by omega) (by omega)]
    simp only [bn_so]
    rw [f2]
    simp only [bn_so]
    cases b <;> rfl
  · exact ((a4.ag dq3).si (dq4 _ _ rfl)).tr (g2.ag dq8)
  · obtain ⟨t3, hI⟩ := seen_c hT hmin q (by omega)
    obtain ⟨⟨S', hT'⟩, -⟩ := hI
    exact hT'.1.2.2.2.2.2.1.2.1
theorem grk12 {β : Type} {k : Option β} : gr 13 6 k = k ∧ gr 14 6 k = k := by
  refine ⟨?_, ?_⟩
  · unfold gr; rw [if_pos cs_13]
  · unfold gr; rw [if_pos cs_14]
theorem or_f {x : Int32} {q : Nat} (hq : q < 10) : x ||| (bI false <<< (nI q &&& 31)) = x := by
  have : ∀ q, q < 10 → bI false <<< (nI q &&& 31) = 0 := by decide +kernel
  rw [this q hq, Int32.or_zero]
/-- one value, the class's side -/
theorem vals_c {c m : StA} {n P Q S i k q : Nat} (x : Int32) (h : RR c m n P Q S) (hi : i < n) (hk : (k = 0 ∧ q ≤ 3) ∨ (k = 1 ∧ 1 ≤ q ∧ q ≤ 9)) : ∃ s1 s' t' b, WR c m i k (nI q) s1 s' t' b ∧ fb_X5_valuesAsSeen_l8 (nI i) (nI k) (nI i) (nI k) c x (nI q) = some (s', .inl (x ||| (bI b <<< (nI q &&& 31)), nI (q + 1))) := by
  have hn := h.1.1
  obtain ⟨s1, s', t', b, hW⟩ := with_rel (k := k) (v := nI q) h hi (by
    rcases hk with ⟨rfl, hk⟩ | ⟨rfl, hk⟩
    · exact Or.inl ⟨rfl, by unfold rg; rw [ti_nI (by omega)]; omega⟩
    · exact Or.inr ⟨rfl, by unfold rg; rw [ti_nI (by omega)]; omega⟩)
  refine ⟨s1, s', t', b, hW, ?_⟩
  obtain ⟨w1, w2, -⟩ := hW
  have hb : ∀ K : Int32 ⊕ Unit, (if bI b = 0 then some (s', (Sum.inl (x, nI q + 1) : (Int32 × Int32) ⊕ Int32)) else nmi (x ||| (1 <<< (nI q &&& 31))) (fun n19 => some (s', (Sum.inl (n19, nI q + 1) : (Int32 × Int32) ⊕ Int32)))) = some (s', .inl (x ||| (bI b <<< (nI q &&& 31)), nI (q + 1))) := fun _ => by
    rw [nI_1]
    cases b
    · rw [if_pos (show bI false = 0 from rfl), or_f (by omega)]
    · rw [if_neg (show ¬ bI true = 0 by decide)]
      rfl
  unfold fb_X5_valuesAsSeen_l8
  rcases hk with ⟨rfl, hk⟩ | ⟨rfl, hk⟩
  · rw [show f_X5_greatestOf (nI 0) c = some (c, 3) from rfl]
    simp only [bn_so]
    rw [if_neg (show ¬ 3 < nI q by rw [show (3 : Int32) = nI 3 from rfl, nI_lt' (by omega) (by omega)]; omega), w1]
    simp only [bn_so]
    rw [show f_X1_rowOf 12 (nI 0) s1 = some (s1, 13) from rfl]
    simp only [bn_so]
    rw [grk12.1, gd_n (show i < 6 by omega) (by omega), tn_nI (by omega)]
    simp only [nms]
    rw [show f_X1_goesAsSeen 12 (si s1 13 i (nI q)) = some (s', bI b) from w2]
    exact hb (.inr ())
  · rw [show f_X5_greatestOf (nI 1) c = some (c, 9) from rfl]
    simp only [bn_so]
    rw [if_neg (show ¬ 9 < nI q by rw [show (9 : Int32) = nI 9 from rfl, nI_lt' (by omega) (by omega)]; omega), w1]
    simp only [bn_so]
    rw [show f_X1_rowOf 12 (nI 1) s1 = some (s1, 14) from rfl]
    simp only [bn_so]
    rw [grk12.2, gd_n (show i < 6 by omega) (by omega), tn_nI (by omega)]
    simp only [nms]
    rw [show f_X1_goesAsSeen 12 (si s1 14 i (nI q)) = some (s', bI b) from w2]
    exact hb (.inr ())
theorem sim_kinds (a : Int32) {c m : StA} (h : R0 c m) : E2 (f_X5_kinds a c) (f_X6_kinds a m) Fin := by
  have h0 := h
  obtain ⟨n, P, Q, S, h⟩ := h
  have hn := h.1.1
  unfold f_X5_kinds f_X6_kinds
  refine E2_ck (p := 0 ≤ a ∧ a ≤ nI n - 1) (by rw [e_hasThing, h.1.2.1]) (by rw [e_isThing, h.1.2.2.1]) (fun _ => ⟨rfl, h0⟩) (fun hp => ?_)
  obtain ⟨i, hi, rfl⟩ := ck_t (by omega) hp
  unfold f_X5_valuesAsSeen
  rw [show f_X5_leastOf 0 c = some (c, 0) from rfl]
  simp only [bn_so, bn_as]
  refine E2_bn (E2_mono (Q := fun s x t y => x = y ∧ RR s t n P Q S) ?_ (fun s x t y q => E2_ret ⟨q.1, n, P, Q, S, q.2⟩))
  unfold fl_X5_valuesAsSeen_l8 fl_X6_kinds_l14
  refine E2_it (I := fun j s v t w => ∃ q, q + j = 4 ∧ v = w ∧ v.2 = nI q ∧ RR s t n P Q S) ?_ FU FU 4 (FU_gt (by omega)) (FU_gt (by omega)) c (0, 0) m (0, 0) ⟨0, by omega, rfl, rfl, h⟩
  rintro j s ⟨x, y⟩ t _ ⟨q, hq, rfl, hy, hR⟩
  dsimp only at hy
  subst hy
  by_cases hq4 : q < 4
  · obtain ⟨s1, s', t', b, hW, e⟩ := vals_c (k := 0) (q := q) x hR hi (Or.inl ⟨rfl, by omega⟩)
    obtain ⟨w1, w2, w3, -, w4, w5, -⟩ := hW
    refine ⟨_, _, t', .inl (x ||| (bI b <<< (nI q &&& 31)), nI (q + 1)), e, ?_, Or.inr ⟨j - 1, _, _, by omega, rfl, rfl, q + 1, by omega, rfl, rfl, hR.q w3 w5⟩⟩
    dsimp only
    unfold fb_X6_kinds_l14
    rw [if_neg (show ¬ 4 ≤ nI q by rw [show (4 : Int32) = nI 4 from rfl, nI_le' (by omega) (by omega)]; omega), show f_X6_isSoWith (nI i) 0 (nI q) t = _ from w4]
    simp only [bn_so, e_flag, nmi]
    rw [nI_1]
  · have e : q = 4 := by omega
    subst e
    dsimp only
    unfold fb_X5_valuesAsSeen_l8 fb_X6_kinds_l14
    rw [show f_X5_greatestOf 0 s = some (s, 3) from rfl]
    simp only [bn_so]
    rw [if_pos (show (3 : Int32) < nI 4 by decide), if_pos (show (4 : Int32) ≤ nI 4 by decide)]
    exact E2_ret (Or.inl ⟨_, _, rfl, rfl, rfl, hR⟩)
theorem sim_weights (a : Int32) {c m : StA} (h : R0 c m) : E2 (f_X5_weights a c) (f_X6_weights a m) Fin := by
  have h0 := h
  obtain ⟨n, P, Q, S, h⟩ := h
  have hn := h.1.1
  unfold f_X5_weights f_X6_weights
  refine E2_ck (p := 0 ≤ a ∧ a ≤ nI n - 1) (by rw [e_hasThing, h.1.2.1]) (by rw [e_isThing, h.1.2.2.1]) (fun _ => ⟨rfl, h0⟩) (fun hp => ?_)
  obtain ⟨i, hi, rfl⟩ := ck_t (by omega) hp
  unfold f_X5_valuesAsSeen
  rw [show f_X5_leastOf 1 c = some (c, 1) from rfl]
  simp only [bn_so, bn_as]
  refine E2_bn (E2_mono (Q := fun s x t y => x = y ∧ RR s t n P Q S) ?_ (fun s x t y q => E2_ret ⟨q.1, n, P, Q, S, q.2⟩))
  unfold fl_X5_valuesAsSeen_l8 fl_X6_weights_l14
  refine E2_it (I := fun j s v t w => ∃ q, 1 ≤ q ∧ q + j = 10 ∧ v = w ∧ v.2 = nI q ∧ RR s t n P Q S) ?_ FU FU 9 (FU_gt (by omega)) (FU_gt (by omega)) c (0, 1) m (0, 1) ⟨1, by omega, by omega, rfl, rfl, h⟩
  rintro j s ⟨x, y⟩ t _ ⟨q, hq1, hq, rfl, hy, hR⟩
  dsimp only at hy
  subst hy
  by_cases hq4 : q < 10
  · obtain ⟨s1, s', t', b, hW, e⟩ := vals_c (k := 1) (q := q) x hR hi (Or.inr ⟨rfl, by omega, by omega⟩)
    obtain ⟨w1, w2, w3, -, w4, w5, -⟩ := hW
    refine ⟨_, _, t', .inl (x ||| (bI b <<< (nI q &&& 31)), nI (q + 1)), e, ?_, Or.inr ⟨j - 1, _, _, by omega, rfl, rfl, q + 1, by omega, by omega, rfl, rfl, hR.q w3 w5⟩⟩
    dsimp only
    unfold fb_X6_weights_l14
    rw [if_neg (show ¬ 9 < nI q by rw [show (9 : Int32) = nI 9 from rfl, nI_lt' (by omega) (by omega)]; omega), show f_X6_isSoWith (nI i) 1 (nI q) t = _ from w4]
    simp only [bn_so, e_flag, nmi]
    rw [nI_1]
  · have e : q = 10 := by omega
    subst e
    dsimp only
    unfold fb_X5_valuesAsSeen_l8 fb_X6_weights_l14
    rw [show f_X5_greatestOf 1 s = some (s, 9) from rfl]
    simp only [bn_so]
    rw [if_pos (show (9 : Int32) < nI 10 by decide), if_pos (show (9 : Int32) < nI 10 by decide)]
    exact E2_ret (Or.inl ⟨_, _, rfl, rfl, rfl, hR⟩)
/-! saids -/
theorem sh_1 : ∀ n, n ≤ 8 → (1 : Int32) <<< (nI n &&& 31) = nI (2 ^ n) := by
  intro n hn
  have : ∀ n, n < 9 → (1 : Int32) <<< (nI n &&& 31) = nI (2 ^ n) := by decide +kernel
  exact this n (by omega)
theorem e_setall {n X : Nat} {t : StA} {a1 x1 x2 x3 : Int32} (hn : n ≤ 6) (hX : X < 64) (h3 : gi t 0 3 = nI n) : Ev (fl_X6_saids_l35 a1 x1 x2 x3 (nI X) t 0) (fun t' _ => eqC (DSm n) t t' ∧ ∀ i, i < n → gi t' 2 (4 * i + 3) = bI (X.testBit i)) := by
  unfold fl_X6_saids_l35
  refine Ev_it (I := fun j t' v => ∃ i, i + j = n ∧ v = nI i ∧ eqC (DSm n) t t' ∧ ∀ q, q < i → gi t' 2 (4 * q + 3) = bI (X.testBit q)) ?_ FU n (FU_gt (by omega)) t 0 ⟨0, by omega, rfl, eqC.rf t, fun q hq => absurd hq (by omega)⟩
  rintro j t' v ⟨i, hij, rfl, he, hq⟩
  unfold fb_X6_saids_l35
  rw [he.1 0 3 (fun z => by have := z.1; omega), h3]
  by_cases hi : n ≤ i
  · rw [if_pos (by rw [nI_le' (by omega) (by omega)]; exact hi)]
    have e : i = n := by omega
    subst e
    exact Ev_ret (Or.inl ⟨_, rfl, he, hq⟩)
  · rw [if_neg (by rw [nI_le' (by omega) (by omega)]; exact hi), bt_get X hX i (by omega), show (3 : Int32) = nI 3 from rfl, e_becof (by omega) (by omega)]
    simp only [bn_so]
    refine Ev_ret (Or.inr ⟨j - 1, _, by omega, rfl, i + 1, by omega, nI_1 i, he.si ⟨rfl, i, by omega, rfl⟩, fun q z => ?_⟩)
    by_cases e : q = i
    · subst e
      rw [gi_at]
    · rw [gi_nj (by omega)]
      exact hq q (by omega)
theorem sim_saids (a : Int32) {c m : StA} (h : R0 c m) : E2 (f_X5_saids a c) (f_X6_saids a m) Fin := by
  have h0 := h
  obtain ⟨n, P, Q, S, h⟩ := h
  have hn := h.1.1
  have h64 : 2 ^ n ≤ 64 := Nat.pow_le_pow_right (n := 2) (by omega) hn
  unfold f_X5_saids f_X6_saids
  refine E2_ck (e_isIn a 0 1 c) (e_isPart a m) (fun _ => ⟨rfl, h0⟩) (fun hp => ?_)
  refine E2_bn (E2_mono (Q := fun s x t y => x = y ∧ RR s t n P Q S) ?_ (fun s x t y q => ?_))
  · unfold fl_X5_saids_l19 fl_X6_saids_l17
    refine E2_it (I := fun j s v t w => ∃ q, q + j = 2 ^ n ∧ v = w ∧ v.2.2 = nI q ∧ RR s t n P Q S) ?_ FU FU (2 ^ n) (FU_gt (by omega)) (FU_gt (by omega)) c (0, -4, 0) m (0, -4, 0) ⟨0, by omega, rfl, rfl, h⟩
    rintro j s ⟨x, y, z⟩ t _ ⟨q, hq, rfl, hz, hR⟩
    dsimp only at hz
    subst hz
    dsimp only
    unfold fb_X5_saids_l19 fb_X6_saids_l17
    rw [hR.1.2.1, hR.1.2.2.1, sh_1 n (by omega)]
    by_cases hi : 2 ^ n ≤ q
    · rw [if_pos (by rw [nI_le' (by omega) (by omega)]; exact hi), if_pos (by rw [nI_le' (by omega) (by omega)]; exact hi)]
      exact E2_ret (Or.inl ⟨_, _, rfl, rfl, rfl, hR⟩)
    · rw [if_neg (by rw [nI_le' (by omega) (by omega)]; exact hi), if_neg (by rw [nI_le' (by omega) (by omega)]; exact hi)]
      obtain ⟨s1, _, t1, _, e1, e2, a1, -, a3, a4, a5⟩ := start_rel hR
      have hm := min_ok hR a5
      obtain ⟨t1', _, e2', b1, -⟩ := e_starts t
      rw [e2] at e2'
      obtain ⟨rfl, -⟩ := Prod.mk.inj (Option.some.inj e2')
      refine E2_le e1 (E2_re e2 ?_)
      simp only [nms]
      obtain ⟨t2, _, e3, d1, d2⟩ := e_setall (t := t1) (a1 := a) (x1 := a) (x2 := x) (x3 := y) (n := n) (X := q) hn (by omega) a1.1.2.2.1
      refine E2_re e3 ?_
      have hT : TT (si s1 12 7 (nI q)) t2 12 n P Q q noF := by
        refine ⟨a1.1.said ((eqC.rf (D := DSc 12) s1).si ⟨rfl, rfl⟩) d1 ⟨by omega, gi_at _ _ _ _, fun i hi => by rw [Nat.zero_add]; exact d2 i hi⟩, fun z hz => ?_, ?_⟩
        · rw [d1.1 _ _ (fun w => by have := w.1; omega)]; exact a1.2.1 z hz
        · rw [d1.1 _ _ (fun w => by have := w.1; omega)]; exact a1.2.2
      refine E2_bn (E2_mono (seen_rel hT (by rw [gi_nj (by omega)]; exact hm.1) (fun y y1 y2 => ?_)) ?_)
      · rw [d1.1 _ _ (fun w => by have := w.1; omega), d1.1 _ _ (fun w => by obtain ⟨-, i, h1, h2⟩ := w; omega), b1 y y2, a4.1 _ _ (by unfold DTm; omega)]
      · rintro s3 r t3 _ ⟨rfl, ⟨b, rfl⟩, g1, g2, -⟩
        have hR3 : RR s3 t3 n P Q S := hR.q (((a3.ag dq1).si (dq1 _ _ (by omega))).tr (g1.ag dq2)) (((a4.ag dq3).tr (d1.ag (fun x y w => dq4 _ _ w.1))).tr (g2.ag dq8))
        have nx : ∀ u v, E2 (some (s3, (Sum.inl (u, v, nI q + 1) : (Int32 × Int32 × Int32) ⊕ (Int32 × Int32)))) (some (t3, (Sum.inl (u, v, nI q + 1) : (Int32 × Int32 × Int32) ⊕ (Int32 × Int32)))) (fun s' x t' y => (∃ e e', x = .inr e ∧ y = .inr e' ∧ e = e' ∧ RR s' t' n P Q S) ∨ (∃ j' v' w', j = j' + 1 ∧ x = .inl v' ∧ y = .inl w' ∧ ∃ q, q + j' = 2 ^ n ∧ v' = w' ∧ v'.2.2 = nI q ∧ RR s' t' n P Q S)) := fun u v => E2_ret (Or.inr ⟨j - 1, _, _, by omega, rfl, rfl, q + 1, by omega, rfl, nI_1 q, hR3⟩)
        cases b
        · rw [if_pos (show bI false = 0 from rfl), if_pos (show bI false = 0 from rfl)]
          exact nx _ _
        · rw [if_neg (show ¬ bI true = 0 by decide), if_neg (show ¬ bI true = 0 by decide)]
          by_cases hx : x = 0
          · rw [if_pos hx, if_pos hx]
            exact nx _ _
          · rw [if_neg hx, if_neg hx]
            exact nx _ _
  · obtain ⟨rfl, hR⟩ := q
    obtain ⟨x1, x2⟩ := x
    dsimp only
    by_cases e : a = 0
    · rw [if_pos e, if_pos e]
      exact E2_ret ⟨rfl, n, P, Q, S, hR⟩
    · rw [if_neg e, if_neg e]
      exact E2_ret ⟨rfl, n, P, Q, S, hR⟩
/-! drift -/
theorem sim_drift (a b d : Int32) {c m : StA} (h : R0 c m) : E2 (f_X5_drift a b d c) (f_X6_drift a b d m) Fin := by
  have h0 := h
  obtain ⟨n, P, Q, S, h⟩ := h
  have hn := h.1.1
  unfold f_X5_drift f_X6_drift
  refine E2_ck (e_isIn b 1 60 c) (e_in (y := 1) (z := 60) (b := 1) (c := 60) rfl rfl m) (fun _ => ⟨rfl, h0⟩) (fun hp => ?_)
  refine E2_ck (e_isIn d 0 1 c) (e_isPart d m) (fun _ => ⟨rfl, h0⟩) (fun hp2 => ?_)
  rw [h.1.2.1, h.1.2.2.1]
  by_cases n0 : n = 0
  · subst n0
    rw [if_neg (show ¬ (0 : Int32) < nI 0 by decide), if_pos (show nI 0 = 0 from rfl)]
    exact E2_ret ⟨rfl, h0⟩
  rw [if_pos (show 0 < nI n by rw [show (0 : Int32) = nI 0 from rfl, nI_lt' (by omega) (by omega)]; omega), if_neg (show ¬ nI n = 0 by rw [show (0 : Int32) = nI 0 from rfl, nI_eq' (by omega) (by omega)]; exact n0)]
  obtain ⟨N, hN, rfl⟩ : ∃ N : Nat, N ≤ 60 ∧ b = nI N := by
    obtain ⟨p1, p2⟩ := hp
    exact ck_n (N := 60) rfl ⟨by rw [ti_le] at p1 ⊢; have e1 : (1 : Int32).toInt = 1 := rfl; have e0 : (0 : Int32).toInt = 0 := rfl; omega, p2⟩
  refine E2_bn (E2_mono (start_rel h) ?_)
  rintro c1 _ m1 _ ⟨a1, -, a2, a3, a4⟩
  have hm := min_ok h a4
  refine E2_bn (E2_mono (Q := fun s _ t _ => ∃ S', TT s t 12 n P Q S' noF ∧ eqC (DPc 12) c1 s ∧ eqC DPm m1 t) ?_ ?_)
  · unfold fl_X5_drift_l44 fl_X6_drift_l41
    refine E2_it (I := fun j s v t w => ∃ i, i + j = N ∧ v = w ∧ v.2 = nI i ∧ (∃ S', TT s t 12 n P Q S' noF) ∧ eqC (DPc 12) c1 s ∧ eqC DPm m1 t ∧ (gi s 12 11).toInt = (gi c1 12 11).toInt + (i : Int)) ?_ FU FU N (FU_gt (by omega)) (FU_gt (by omega)) c1 (a, 0) m1 (a, 0) ⟨0, by omega, rfl, rfl, ⟨S, a1⟩, eqC.rf c1, eqC.rf m1, by omega⟩
    rintro j s ⟨x, y⟩ t _ ⟨i, hij, rfl, hy, ⟨S', hT⟩, e1, e2, e3⟩
    dsimp only at hy
    subst hy
    dsimp only
    unfold fb_X5_drift_l44 fb_X6_drift_l41
    by_cases hi : N ≤ i
    · rw [if_pos (by rw [nI_le' (by omega) (by omega)]; exact hi), if_pos (by rw [nI_le' (by omega) (by omega)]; exact hi)]
      exact E2_ret (Or.inl ⟨_, _, rfl, rfl, S', hT, e1, e2⟩)
    · rw [if_neg (by rw [nI_le' (by omega) (by omega)]; exact hi), if_neg (by rw [nI_le' (by omega) (by omega)]; exact hi)]
      simp only [nmi]
      obtain ⟨G, hG, eG⟩ := pk_andE ((x * 1103515245 + 12345) >>> (16 &&& 31)) (m := 32767) 15 (by decide)
      have s16 : gi s 1 6 = nI n := by
        rw [e1.1 _ _ (fun z => by have := z.1; omega), a2.1 _ _ (by omega)]; exact h.1.2.1
      have t03 : gi t 0 3 = nI n := hT.1.2.2.1
      rw [eG, s16, t03]
      have g0n : ∀ {β : Type} (k : Option β), g0 (nI n) k = k := fun k => by
        unfold g0
        first
          | rw [if_neg (show ¬ nI n = 0 by rw [show (0 : Int32) = nI 0 from rfl, nI_eq' (by omega) (by omega)]; exact n0)]
          | rw [if_pos (show nI n ≠ 0 by rw [show (0 : Int32) = nI 0 from rfl, Ne, nI_eq' (by omega) (by omega)]; exact n0)]
      rw [g0n, g0n, pk_rem (by omega) (by omega) (by omega), show (8 : Int32) = nI 8 from rfl, pk_div (by omega) (by omega) (by omega), show (2 : Int32) = nI 2 from rfl, pk_rem (by omega) (by omega) (by omega)]
      have hlt : G % n < n := Nat.mod_lt _ (by omega)
      have nx : ∀ (s2 t2 : StA) (S2 : Nat), TT s2 t2 12 n P Q S2 noF → eqC (DPc 12) s s2 → eqC DPm t t2 → gi s2 12 11 = gi s 12 11 → E2 (bn (f_X1_pass 12 s2) (fun s16 r17 => some (s16, (Sum.inl (x * 1103515245 + 12345, nI i + 1) : (Int32 × Int32) ⊕ Unit)))) (bn (f_X6_minuteGoes t2) (fun s16 r17 => some (s16, (Sum.inl (x * 1103515245 + 12345, nI i + 1) : (Int32 × Int32) ⊕ Unit)))) (fun s' x t' y => (∃ e e', x = .inr e ∧ y = .inr e' ∧ ∃ S', TT s' t' 12 n P Q S' noF ∧ eqC (DPc 12) c1 s' ∧ eqC DPm m1 t') ∨ (∃ j' v' w', j = j' + 1 ∧ x = .inl v' ∧ y = .inl w' ∧ ∃ i, i + j' = N ∧ v' = w' ∧ v'.2 = nI i ∧ (∃ S', TT s' t' 12 n P Q S' noF) ∧ eqC (DPc 12) c1 s' ∧ eqC DPm m1 t' ∧ (gi s' 12 11).toInt = (gi c1 12 11).toInt + (i : Int))) := by
        intro s2 t2 S2 k1 k2 k3 k4
        refine E2_bn (E2_mono (tt_pass k1 (by rw [k4]; omega)) ?_)
        rintro s3 _ t3 _ ⟨u1, u2, u3, u4⟩
        exact E2_ret (Or.inr ⟨j - 1, _, _, by omega, rfl, rfl, i + 1, by omega, rfl, nI_1 i, u1, (e1.tr k2).tr u2, (e2.tr k3).tr u3, by rw [u4, k4, e3]; omega⟩)
      unfold fj_X5_drift_j103
      by_cases od : G / 8 % 2 = 1
      · rw [od, if_pos (show nI 1 = 1 from rfl)]
        refine E2_le (hT.cs1 hlt) (E2_re (hT.ms hlt (nI 1)) ?_)
        exact nx _ _ _ (hT.set1 hlt) ((eqC.rf s).si ⟨rfl, Or.inl rfl⟩) ((eqC.rf t).si rfl) (gi_nj (by omega))
      · have ev : G / 8 % 2 = 0 := by omega
        rw [ev, if_neg (show ¬ nI 0 = 1 by decide)]
        refine E2_le (e_set0 (bt_64 hT.1.2.2.2.2.1.1 hn) (by omega) hT.1.2.2.2.2.1.2.1) (E2_re (hT.ms hlt (nI 0)) ?_)
        exact nx _ _ _ (hT.set0 hlt) ((eqC.rf s).si ⟨rfl, Or.inl rfl⟩) ((eqC.rf t).si rfl) (gi_nj (by omega))
  · rintro s _ t _ ⟨S', hT, e1, e2⟩
    have hnm := hT.1.2.2.2.2.2.1
    rw [g24, g25, t24, t25]
    have f1 : gi s 12 8 = gi t 2 24 := by have := hnm.1; rw [Nat.zero_add] at this; exact this
    have f2 : gi s 12 9 = gi t 2 25 := by have := hnm.2.2.1; rw [Nat.zero_add] at this; exact this
    rw [f1, f2]
    by_cases e : d = 0
    · rw [if_pos e, if_pos e]
      exact E2_ret (h.fin ((a2.ag dq1).tr (e1.ag dq2)) ((a3.ag dq3).tr (e2.ag dq4)))
    · rw [if_neg e, if_neg e]
      exact E2_ret (h.fin ((a2.ag dq1).tr (e1.ag dq2)) ((a3.ag dq3).tr (e2.ag dq4)))
