/-! when: a thing is said later -/
theorem si_comm1 (s : StA) (k j j' : Nat) (v : Int32) : si (si s k j v) k j' v = si (si s k j' v) k j v := by
  unfold si
  refine Prod.ext ?_ rfl
  funext a b
  dsimp only
  by_cases h1 : a = k ∧ b = j' <;> by_cases h2 : a = k ∧ b = j <;> simp [h1, h2]
/-- as pass_rel, where the later thing's minute is another -/
theorem passA {c m : StA} {k n P Q S : Nat} {fm : Nat → Bool} (h : Rf c k m 2 0 n P Q S fm) (hf : Fbit m P fm) (h18 : ¬ gi m 0 18 = -4) (h19 : ¬ gi m 0 19 = gi m 2 27) (hmin : (gi c k 11).toInt < 5000) : E2 (f_X1_pass k c) (f_X6_minuteGoes m) (fun c' _ m' _ => (∃ S', Rf c' k m' 2 0 n P Q S' fm) ∧ eqC (DPc k) c c' ∧ eqC DPm m m' ∧ gi c' k 11 = gi c k 11 + 1) := by
  unfold f_X1_pass f_X6_minuteGoes
  refine E2_bn (E2_mono (plan_rel h hf) ?_)
  rintro s a t b ⟨h1, h2, S1, hR⟩
  have e18 : gi t 0 18 = gi m 0 18 := h2.1 0 18 (by rintro ⟨e, -⟩; omega)
  have e19 : gi t 0 19 = gi m 0 19 := h2.1 0 19 (by rintro ⟨e, -⟩; omega)
  have e27 : gi t 2 27 = gi m 2 27 := h2.1 2 27 (by rintro ⟨-, i, hi, e⟩; have := h.1; omega)
  rw [if_neg (by rw [e18]; exact h18), g27, t27, if_neg (by rw [e19, e27]; exact h19)]
  have e11 : gi s k 11 = gi c k 11 := h1.1 k 11 (by rintro ⟨-, e⟩; omega)
  refine E2_mono (rest_rel hR (by rw [e11]; exact hmin) (h1.mono (fun x y q => ⟨q.1, Or.inl q.2⟩)) (h2.mono (fun x y q => q.1))) ?_
  rintro s' _ t' _ ⟨q1, q2, q3, q4⟩
  exact ⟨⟨S1, q1⟩, q2, q3, by rw [q4, e11]⟩
/-- the plan's loop, where the class has said thing p already -/
theorem planB {c m : StA} {k n P Q S p : Nat} {fm : Nat → Bool} (hp : p < n) (h : Rf c k (si m 2 (4 * p + 3) 1) 2 0 n P Q S fm) (hf : Fbit m P fm) : E2 (fl_X1_pass_l2 k c 0) (fl_X6_minuteGoes_l2 m 0) (fun c' _ m' _ => eqC (DSc k) c c' ∧ eqC (DSm n) m m' ∧ ∃ S', Rf c' k (si m' 2 (4 * p + 3) 1) 2 0 n P Q S' fm) := by
  unfold fl_X1_pass_l2 fl_X6_minuteGoes_l2
  have hP := h.2.2.2.2.2.2.2.1.1
  have hn := h.1
  refine E2_it (I := fun j s v t w => ∃ i, i + j = P ∧ v = nI i ∧ w = nI i ∧ eqC (DSc k) c s ∧ eqC (DSm n) m t ∧ ∃ S', Rf s k (si t 2 (4 * p + 3) 1) 2 0 n P Q S' fm) ?_ FU FU P (FU_gt (by omega)) (FU_gt (by omega)) c 0 m 0 ⟨0, by omega, rfl, rfl, eqC.rf c, eqC.rf m, S, h⟩
  rintro j s v t w ⟨i, hij, rfl, rfl, h1, h2, S1, hR⟩
  obtain ⟨g1, g2, g3, g4, g5, g6, g7, g8, g9⟩ := id hR
  obtain ⟨p1, p2, p3, p4⟩ := g8
  rw [Nat.zero_add, gi_nj (by omega)] at p3
  unfold fb_X1_pass_l2 fb_X6_minuteGoes_l2
  rw [g33, t33, p2, p3]
  have hle : nI P ≤ nI i ↔ P ≤ i := nI_le' (by omega) (by omega)
  by_cases hi : P ≤ i
  · rw [if_pos (hle.mpr hi), if_pos (hle.mpr hi)]
    exact E2_ret (Or.inl ⟨(), (), rfl, rfl, h1, h2, S1, hR⟩)
  · rw [if_neg (fun q => hi (hle.mp q)), if_neg (fun q => hi (hle.mp q))]
    obtain ⟨⟨tt, ht, q1, q2⟩, q3, q4⟩ := p4 i (by omega)
    rw [Nat.zero_add, gi_nj (by omega)] at q2 q3
    rw [Nat.zero_add, gi_nj (by omega)] at q4
    have hF : ((gi t 0 17 >>> (nI i &&& 31)) &&& 1) = bI (fm i) := by
      rw [h2.1 0 17 (by rintro ⟨e, -⟩; omega)]
      exact hf i (by omega)
    have hk : ∀ (s' t' : StA), eqC (DSc k) c s' → eqC (DSm n) m t' → (∃ S', Rf s' k (si t' 2 (4 * p + 3) 1) 2 0 n P Q S' fm) → E2 (some (s', (Sum.inl (nI i + 1) : Int32 ⊕ Unit))) (some (t', (Sum.inl (nI i + 1) : Int32 ⊕ Unit))) (fun s' x t' y => (∃ e e', x = .inr e ∧ y = .inr e' ∧ eqC (DSc k) c s' ∧ eqC (DSm n) m t' ∧ ∃ S', Rf s' k (si t' 2 (4 * p + 3) 1) 2 0 n P Q S' fm) ∨ (∃ j' v' w', j = j' + 1 ∧ x = .inl v' ∧ y = .inl w' ∧ ∃ i, i + j' = P ∧ v' = nI i ∧ w' = nI i ∧ eqC (DSc k) c s' ∧ eqC (DSm n) m t' ∧ ∃ S', Rf s' k (si t' 2 (4 * p + 3) 1) 2 0 n P Q S' fm)) := fun s' t' a1 a2 a3 => E2_ret (Or.inr ⟨j - 1, _, _, by omega, rfl, rfl, i + 1, by omega, nI_1 i, nI_1 i, a1, a2, a3⟩)
    rw [gd_n (show i < 8 by omega) (by omega), tn_nI (show i < 2147483648 by omega), hF, ix35, ix34, gd_n (show 34 + 2 * i < 63 by omega) (by omega), g27, t27, tn_nI (show 34 + 2 * i < 2147483648 by omega), q4]
    obtain ⟨-, -, -, -, -, -, r7, r8⟩ := g6
    rw [Nat.zero_add, gi_nj (by omega)] at r7
    cases hfm : fm i with
    | true =>
      rw [if_neg (show ¬ bI true = 0 by decide), if_pos rfl, if_neg (by
        rw [ti_inj]
        have : (-1 : Int32).toInt = -1 := rfl
        have := r8.1
        omega)]
      exact hk s t h1 h2 ⟨S1, hR⟩
    | false =>
      rw [if_pos (show bI false = 0 from rfl), if_neg (show ¬ ((false : Bool) = true) by decide), r7]
      by_cases e : gi t 2 (34 + 2 * i) = gi t 2 27
      · rw [if_pos e, if_pos e, gd_n (show i < 8 by omega) (by omega), gd_n (show 35 + 2 * i < 63 by omega) (by omega), tn_nI (show 35 + 2 * i < 2147483648 by omega), q1, q2]
        refine E2_le (e_set1 (bt_64 g5.1 g1) (by omega) g5.2.1) ?_
        refine E2_re (e_becof (j := 3) (by omega) (by omega)) ?_
        have b1 : eqC (DSc k) c (si s k 7 (nI (S1 ||| 2 ^ tt))) := h1.si ⟨rfl, rfl⟩
        have b2 : eqC (DSm n) m (si t 2 (4 * tt + 3) 1) := h2.si ⟨rfl, tt, ht, rfl⟩
        refine hk _ _ b1 b2 ⟨S1 ||| 2 ^ tt, ?_⟩
        rw [si_comm1]
        exact hR.said ((eqC.rf (D := DSc k) s).si ⟨rfl, rfl⟩) ((eqC.rf (D := DSm n) _).si ⟨rfl, tt, ht, rfl⟩) (g5.set1 g1 ht)
      · rw [if_neg e, if_neg e]
        exact hk s t h1 h2 ⟨S1, hR⟩
/-- the minute at which the later thing is said -/
theorem passB {c m : StA} {k n P Q S p : Nat} {fm : Nat → Bool} (hp : p < n) (h : Rf c k (si m 2 (4 * p + 3) 1) 2 0 n P Q S fm) (hf : Fbit m P fm) (h18 : gi m 0 18 = nI p) (h19 : gi m 0 19 = gi m 2 27) (hmin : (gi c k 11).toInt < 5000) : E2 (f_X1_pass k c) (f_X6_minuteGoes m) (fun c' _ m' _ => (∃ S', Rf c' k m' 2 0 n P Q S' fm) ∧ eqC (DPc k) c c' ∧ eqC DPm m m' ∧ gi c' k 11 = gi c k 11 + 1) := by
  have hn := h.1
  unfold f_X1_pass f_X6_minuteGoes
  refine E2_bn (E2_mono (planB hp h hf) ?_)
  rintro s a t b ⟨h1, h2, S1, hR⟩
  have e18 : gi t 0 18 = nI p := by rw [← h18]; exact h2.1 0 18 (by rintro ⟨e, -⟩; omega)
  have e19 : gi t 0 19 = gi m 0 19 := h2.1 0 19 (by rintro ⟨e, -⟩; omega)
  have e27 : gi t 2 27 = gi m 2 27 := h2.1 2 27 (by rintro ⟨-, i, hi, e⟩; omega)
  rw [if_neg (by rw [e18, ti_inj, ti_nI (by omega)]; have : (-4 : Int32).toInt = -4 := rfl; omega), g27, t27, if_pos (by rw [e19, e27]; exact h19), e18]
  refine E2_re (e_becof (j := 3) (by omega) (by omega)) ?_
  have e11 : gi s k 11 = gi c k 11 := h1.1 k 11 (by rintro ⟨-, e⟩; omega)
  refine E2_mono (rest_rel hR (by rw [e11]; exact hmin) (h1.mono (fun x y q => ⟨q.1, Or.inl q.2⟩)) ((h2.mono (fun x y q => q.1)).si rfl)) ?_
  rintro s' _ t' _ ⟨q1, q2, q3, q4⟩
  exact ⟨⟨S1, q1⟩, q2, q3, by rw [q4, e11]⟩
/-- a loop's first k turns -/
def itk {V W : Type} (b : StA → V → Option (StA × (V ⊕ W))) : Nat → StA → V → Option (StA × V)
  | 0, s, v => some (s, v)
  | k + 1, s, v => match itk b k s v with
    | none => none
    | some (s', v') => match b s' v' with
      | some (s'', .inl v'') => some (s'', v'')
      | _ => none
theorem itk_go {V W : Type} {b : StA → V → Option (StA × (V ⊕ W))} : ∀ (k N : Nat) (s : StA) (v : V) (s' : StA) (v' : V), itk b k s v = some (s', v') → it b (N + k) s v = it b N s' v'
  | 0, N, s, v, s', v', h => by
    cases h
    rfl
  | k + 1, N, s, v, s', v', h => by
    unfold itk at h
    rcases hr : itk b k s v with _ | ⟨s1, v1⟩
    · rw [hr] at h; cases h
    · rw [hr] at h
      dsimp only at h
      rcases hb : b s1 v1 with _ | ⟨s2, v2 | e⟩
      · rw [hb] at h; cases h
      · rw [hb] at h
        cases h
        rw [show N + (k + 1) = (N + 1) + k by omega, itk_go k (N + 1) s v s1 v1 hr]
        conv => lhs; unfold it
        rw [hb]
      · rw [hb] at h; cases h
theorem itk_all {V W : Type} {b : StA → V → Option (StA × (V ⊕ W))} {k : Nat} {s s' s'' : StA} {v v' : V} {e : W} (hk : k < FU) (h : itk b k s v = some (s', v')) (hx : b s' v' = some (s'', .inr e)) : it b FU s v = some (s'', e) := by
  obtain ⟨N, hN⟩ : ∃ N, FU = (N + 1) + k := ⟨FU - k - 1, by omega⟩
  rw [hN, itk_go k (N + 1) s v s' v' h]
  unfold it
  rw [hx]
theorem itk_add {V W : Type} {b : StA → V → Option (StA × (V ⊕ W))} {k : Nat} {s s' : StA} {v v' : V} (h : itk b k s v = some (s', v')) : ∀ (l : Nat) (s'' : StA) (v'' : V), itk b l s' v' = some (s'', v'') → itk b (k + l) s v = some (s'', v'')
  | 0, s'', v'', h2 => by
    cases h2
    exact h
  | l + 1, s'', v'', h2 => by
    unfold itk at h2
    rcases hr : itk b l s' v' with _ | ⟨s1, v1⟩
    · rw [hr] at h2; cases h2
    · rw [hr] at h2
      show itk b (k + l + 1) s v = _
      unfold itk
      rw [itk_add h l s1 v1 hr]
      exact h2
/-- minutes in step: the class's loop of K, the reference's own from i0 on -/
theorem seg_rel {K N i0 : Nat} (hK : K ≤ 60) (hN : N ≤ 60) (hi : i0 + K ≤ N) {WI : Nat → StA → StA → Prop} (hs : ∀ q s t, q < K → WI q s t → E2 (f_X1_pass 12 s) (f_X6_minuteGoes t) (fun s' _ t' _ => WI (q + 1) s' t')) {s t : StA} (h : WI 0 s t) : ∀ q, q ≤ K → ∃ s' t', itk (fun s v => fb_X1_passAll_l2 12 (nI K) (nI K) s v) q s 0 = some (s', nI q) ∧ itk (fun s v => fb_X6_minutesGo_l2 (nI N) (nI N) s v) q t (nI i0) = some (t', nI (i0 + q)) ∧ WI q s' t'
  | 0, _ => ⟨s, t, rfl, rfl, h⟩
  | q + 1, hq => by
    obtain ⟨s', t', e1, e2, hw⟩ := seg_rel hK hN hi hs h q (by omega)
    obtain ⟨s2, _, t2, _, f1, f2, hw2⟩ := hs q s' t' (by omega) hw
    refine ⟨s2, t2, ?_, ?_, hw2⟩
    · unfold itk
      rw [e1]
      dsimp only
      have : fb_X1_passAll_l2 12 (nI K) (nI K) s' (nI q) = some (s2, .inl (nI (q + 1))) := by
        unfold fb_X1_passAll_l2
        rw [if_neg (by rw [nI_le' (by omega) (by omega)]; omega), f1]
        simp only [bn, nI_1]
      rw [this]
    · unfold itk
      rw [e2]
      dsimp only
      have : fb_X6_minutesGo_l2 (nI N) (nI N) t' (nI (i0 + q)) = some (t2, .inl (nI (i0 + (q + 1)))) := by
        unfold fb_X6_minutesGo_l2
        rw [if_neg (by rw [nI_le' (by omega) (by omega)]; omega), f2]
        simp only [bn, nI_1]
        rfl
      rw [this]
theorem seg_c {K : Nat} {s s' : StA} (hK : K ≤ 60) (h : itk (fun s v => fb_X1_passAll_l2 12 (nI K) (nI K) s v) K s 0 = some (s', nI K)) : f_X1_passAll 12 (nI K) s = some (s', ()) := by
  unfold f_X1_passAll fl_X1_passAll_l2
  rw [itk_all (FU_gt (by omega)) h (s'' := s') (e := ()) (by
    show fb_X1_passAll_l2 12 (nI K) (nI K) s' (nI K) = _
    unfold fb_X1_passAll_l2
    rw [if_pos Int32.le_rfl])]
  rfl
theorem seg_m {N : Nat} {t t' : StA} (hN : N ≤ 60) (h : itk (fun s v => fb_X6_minutesGo_l2 (nI N) (nI N) s v) N t 0 = some (t', nI N)) : f_X6_minutesGo (nI N) t = some (t', ()) := by
  unfold f_X6_minutesGo fl_X6_minutesGo_l2
  rw [itk_all (FU_gt (by omega)) h (s'' := t') (e := ()) (by
    show fb_X6_minutesGo_l2 (nI N) (nI N) t' (nI N) = _
    unfold fb_X6_minutesGo_l2
    rw [if_pos Int32.le_rfl])]
  rfl
def WI (s0 t0 : StA) (n P Q p : Nat) (L q : Int) (s t : StA) : Prop := (∃ S', Rf s 12 t 2 0 n P Q S' noF) ∧ Fbit t P noF ∧ gi t 0 18 = nI p ∧ (gi t 0 19).toInt = L ∧ eqC (DPc 12) s0 s ∧ eqC DPm t0 t ∧ (gi s 12 11).toInt = (gi s0 12 11).toInt + q
theorem WI.step {s0 t0 s t : StA} {n P Q p : Nat} {L q : Int} (hp : p < n) (h : WI s0 t0 n P Q p L q s t) (hL : L ≠ (gi s0 12 11).toInt + q) (hm : (gi s0 12 11).toInt + q < 5000) : E2 (f_X1_pass 12 s) (f_X6_minuteGoes t) (fun s' _ t' _ => WI s0 t0 n P Q p L (q + 1) s' t') := by
  obtain ⟨⟨S', h1⟩, h2, h3, h4, h5, h6, h7⟩ := h
  have hn := h1.1
  have r := h1.2.2.2.2.2.1.2.2.2.2.2.2
  have r7 := r.1
  rw [Nat.zero_add] at r7
  refine E2_mono (passA h1 h2 (by rw [h3, ti_inj, ti_nI (by omega)]; have : (-4 : Int32).toInt = -4 := rfl; omega) (by rw [ti_inj, h4, ← r7, h7]; exact hL) (by omega)) ?_
  rintro s' _ t' _ ⟨a1, a2, a3, a4⟩
  refine ⟨a1, fun j hj => ?_, ?_, ?_, h5.tr a2, h6.tr a3, ?_⟩
  · rw [a3.1 0 17 (by unfold DPm; omega)]; exact h2 j hj
  · rw [a3.1 0 18 (by unfold DPm; omega)]; exact h3
  · rw [a3.1 0 19 (by unfold DPm; omega)]; exact h4
  · have := r.2.1
    rw [a4, ti_add, show (1 : Int32).toInt = 1 from rfl]
    omega
/-- one K of when: minutes, the thing said at K, minutes -/
theorem when_one {s1 t1 : StA} {n P Q S p K N : Nat} (hp : p < n) (hK : K ≤ 30) (hN : N ≤ 60) (a1 : TT s1 t1 12 n P Q S noF) (hm : (gi s1 12 11).toInt + 100 ≤ 5000) (hm0 : 0 ≤ (gi s1 12 11).toInt) :
    E2 (bn (f_X1_passAll 12 (if nI N < nI K then nI N else nI K) s1) (fun s20 r21 => (if nI N ≤ nI K then some (s20, ()) else bn (f_X1_setSaid 12 (nI p) 1 s20) (fun s29 r30 => bn (f_X1_passAll 12 (nI N - nI K) s29) (fun s32 r33 => some (s32, ()))))))
      (f_X6_minutesGo (nI N) (si (si t1 0 18 (nI p)) 0 19 ((gi t1 2 27) + nI K))) (fun s' _ t' _ => gi s' 12 9 = gi t' 2 25 ∧ rg (gi s' 12 9) 0 99 ∧ eqC (DPc 12) s1 s' ∧ eqC (fun x y => x = 2 ∨ (x = 0 ∧ (y = 18 ∨ y = 19))) t1 t') := by
  have hn := a1.1.1
  have r := a1.1.2.2.2.2.2.1.2.2.2.2.2.2
  have r7 := r.1
  rw [Nat.zero_add] at r7
  have fin : ∀ {s' t' : StA} {q : Int}, WI s1 (si (si t1 0 18 (nI p)) 0 19 ((gi t1 2 27) + nI K)) n P Q p ((gi s1 12 11).toInt + (K : Int)) q s' t' → gi s' 12 9 = gi t' 2 25 ∧ rg (gi s' 12 9) 0 99 ∧ eqC (DPc 12) s1 s' ∧ eqC (fun x y => x = 2 ∨ (x = 0 ∧ (y = 18 ∨ y = 19))) t1 t' := by
    rintro s' t' q ⟨⟨S', h1⟩, h2, h3, h4, h5, h6, h7⟩
    have w := h1.2.2.2.2.2.1
    have w3 := w.2.2.1
    rw [Nat.zero_add] at w3
    exact ⟨w3, w.2.2.2.1, h5, (((eqC.rf t1).si (Or.inr ⟨rfl, Or.inl rfl⟩)).si (Or.inr ⟨rfl, Or.inr rfl⟩)).tr (h6.mono (fun x y z => Or.inl z))⟩
  have w0 : WI s1 (si (si t1 0 18 (nI p)) 0 19 ((gi t1 2 27) + nI K)) n P Q p ((gi s1 12 11).toInt + (K : Int)) 0 s1 (si (si t1 0 18 (nI p)) 0 19 ((gi t1 2 27) + nI K)) := by
    refine ⟨⟨S, a1.1.congr (fun _ _ _ => rfl) (fun _ _ _ _ _ => rfl) (fun _ _ => rfl) rfl (fun _ _ _ _ _ => rfl) rfl (fun _ _ _ _ _ => rfl) (fun x hx => by rw [gi_nk (by omega), gi_nk (by omega)]) (by rw [gi_nj (by omega), gi_nj (by omega)])⟩, fun j hj => ?_, ?_, ?_, eqC.rf _, eqC.rf _, by omega⟩
    · rw [gi_nj (by omega), gi_nj (by omega)]; exact a1.2.1 j hj
    · rw [gi_nj (by omega), gi_at]
    · rw [gi_at, ← r7, ti_add, ti_nI (by omega)]; omega
  by_cases hc : N ≤ K
  · have e1 : (if nI N < nI K then nI N else nI K) = nI N := by
      by_cases q : N < K
      · rw [if_pos (by rw [nI_lt' (by omega) (by omega)]; exact q)]
      · rw [if_neg (by rw [nI_lt' (by omega) (by omega)]; exact q), show K = N by omega]
    rw [e1]
    obtain ⟨s', t', f1, f2, hw⟩ := seg_rel (K := N) (N := N) (i0 := 0) hN hN (by omega) (WI := fun q s t => WI s1 (si (si t1 0 18 (nI p)) 0 19 ((gi t1 2 27) + nI K)) n P Q p ((gi s1 12 11).toInt + (K : Int)) (q : Int) s t) (fun q s t hq hw => by
      have := hw.step hp (by omega) (by omega)
      exact this) w0 N (by omega)
    rw [Nat.zero_add] at f2
    refine E2_le (seg_c hN f1) ?_
    rw [seg_m hN f2, if_pos (by rw [nI_le' (by omega) (by omega)]; exact hc)]
    exact E2_ret (fin hw)
  · have e1 : (if nI N < nI K then nI N else nI K) = nI K := by rw [if_neg (by rw [nI_lt' (by omega) (by omega)]; omega)]
    rw [e1]
    obtain ⟨s', t', f1, f2, hw⟩ := seg_rel (K := K) (N := N) (i0 := 0) (by omega) hN (by omega) (WI := fun q s t => WI s1 (si (si t1 0 18 (nI p)) 0 19 ((gi t1 2 27) + nI K)) n P Q p ((gi s1 12 11).toInt + (K : Int)) (q : Int) s t) (fun q s t hq hw => by
      have := hw.step hp (by omega) (by omega)
      exact this) w0 K (by omega)
    rw [Nat.zero_add] at f2
    refine E2_le (seg_c (by omega) f1) ?_
    rw [if_neg (by rw [nI_le' (by omega) (by omega)]; exact hc)]
    obtain ⟨⟨S2, h1⟩, h2, h3, h4, h5, h6, h7⟩ := id hw
    have hs := h1.2.2.2.2.1
    refine E2_le (e_set1 (bt_64 hs.1 hn) (by omega) hs.2.1) ?_
    rw [pk_sub (by omega)]
    have w27 := h1.2.2.2.2.2.1.2.2.2.2.2.2.1
    rw [Nat.zero_add] at w27
    obtain ⟨s'', t'', f3, f4, hw2⟩ := seg_rel (K := N - K) (N := N) (i0 := K) (by omega) hN (by omega) (s := si s' 12 7 (nI (S2 ||| 2 ^ p))) (t := t') (WI := fun q s t => if q = 0 then s = si s' 12 7 (nI (S2 ||| 2 ^ p)) ∧ t = t' else WI s1 (si (si t1 0 18 (nI p)) 0 19 ((gi t1 2 27) + nI K)) n P Q p ((gi s1 12 11).toInt + (K : Int)) ((K : Int) + (q : Int)) s t) (fun q s t hq hz => by
      by_cases q0 : q = 0
      · subst q0
        rw [if_pos rfl] at hz
        obtain ⟨rfl, rfl⟩ := hz
        have hR : Rf (si s' 12 7 (nI (S2 ||| 2 ^ p))) 12 (si t 2 (4 * p + 3) 1) 2 0 n P Q (S2 ||| 2 ^ p) noF := h1.said ((eqC.rf (D := DSc 12) s').si ⟨rfl, rfl⟩) ((eqC.rf (D := DSm n) t).si ⟨rfl, p, hp, rfl⟩) (hs.set1 hn hp)
        refine E2_mono (passB hp hR h2 h3 (by rw [ti_inj, h4, ← w27, h7]) (by rw [gi_nj (by omega)]; omega)) ?_
        rintro x _ y _ ⟨b1, b2, b3, b4⟩
        rw [if_neg (by omega)]
        refine ⟨b1, fun j hj => ?_, ?_, ?_, ?_, h6.tr b3, ?_⟩
        · rw [b3.1 0 17 (by unfold DPm; omega)]; exact h2 j hj
        · rw [b3.1 0 18 (by unfold DPm; omega)]; exact h3
        · rw [b3.1 0 19 (by unfold DPm; omega)]; exact h4
        · exact (h5.si ⟨rfl, Or.inl rfl⟩).tr b2
        · rw [b4, gi_nj (by omega), ti_add, show (1 : Int32).toInt = 1 from rfl, h7]
          omega
      · rw [if_neg q0] at hz
        have := hz.step hp (by omega) (by omega)
        refine E2_mono this ?_
        rintro x _ y _ z
        rw [if_neg (by omega)]
        have e : (K : Int) + (q : Int) + 1 = (K : Int) + ((q + 1 : Nat) : Int) := by omega
        rw [e] at z
        exact z) (by rw [if_pos rfl]; exact ⟨rfl, rfl⟩) (N - K) (by omega)
    rw [if_neg (by omega)] at hw2
    refine E2_le (seg_c (by omega) f3) ?_
    have f5 := itk_add f2 (N - K) t'' _ f4
    rw [show K + (N - K) = N by omega] at f5
    rw [seg_m hN f5]
    exact E2_ret (fin hw2)
