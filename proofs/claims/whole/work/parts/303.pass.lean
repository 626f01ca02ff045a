/-! a minute, on both sides -/
theorem gd_l {β : Type} {i : Int32} {n : Nat} {k : Option β} (h : 0 ≤ i.toInt ∧ i.toInt < (n : Int)) : gd i n k = k := by
  unfold gd
  rw [if_pos h]
theorem g24 {β : Type} {k : Option β} : gd 24 63 k = k := gd_l (by decide)
theorem g25 {β : Type} {k : Option β} : gd 25 63 k = k := gd_l (by decide)
theorem g26 {β : Type} {k : Option β} : gd 26 63 k = k := gd_l (by decide)
theorem g27 {β : Type} {k : Option β} : gd 27 63 k = k := gd_l (by decide)
theorem g33 {β : Type} {k : Option β} : gd 33 63 k = k := gd_l (by decide)
theorem G24 {β : Type} {k : Option β} : gd 24 189 k = k := gd_l (by decide)
theorem G25 {β : Type} {k : Option β} : gd 25 189 k = k := gd_l (by decide)
theorem G26 {β : Type} {k : Option β} : gd 26 189 k = k := gd_l (by decide)
theorem G27 {β : Type} {k : Option β} : gd 27 189 k = k := gd_l (by decide)
theorem G33 {β : Type} {k : Option β} : gd 33 189 k = k := gd_l (by decide)
theorem G50 {β : Type} {k : Option β} : gd 50 189 k = k := gd_l (by decide)
theorem t24 : (24 : Int32).toNatClampNeg = 24 := rfl
theorem t25 : (25 : Int32).toNatClampNeg = 25 := rfl
theorem t26 : (26 : Int32).toNatClampNeg = 26 := rfl
theorem t27 : (27 : Int32).toNatClampNeg = 27 := rfl
theorem t33 : (33 : Int32).toNatClampNeg = 33 := rfl
theorem t50 : (50 : Int32).toNatClampNeg = 50 := rfl
theorem ix34 {i : Nat} : 34 + 2 * nI i = nI (34 + 2 * i) := by
  rw [show (2 : Int32) = nI 2 from rfl, show (34 : Int32) = nI 34 from rfl, pk_mul, nI_add]
theorem ix35 {i : Nat} : 34 + 2 * nI i + 1 = nI (35 + 2 * i) := by
  rw [ix34, nI_1]
  congr 1
  omega
theorem ix51 {i : Nat} : 51 + 2 * nI i = nI (51 + 2 * i) := by
  rw [show (2 : Int32) = nI 2 from rfl, show (51 : Int32) = nI 51 from rfl, pk_mul, nI_add]
theorem ix52 {i : Nat} : 51 + 2 * nI i + 1 = nI (52 + 2 * i) := by
  rw [ix51, nI_1]
  congr 1
  omega
theorem ix28 {i : Nat} : 28 + nI i = nI (28 + i) := by
  rw [show (28 : Int32) = nI 28 from rfl, nI_add]
theorem e_set1 {k t S : Nat} {c : StA} (hS : S < 64) (ht : t < 6) (h7 : gi c k 7 = nI S) : f_X1_setSaid k (nI t) 1 c = some (si c k 7 (nI (S ||| 2 ^ t)), ()) := by
  unfold f_X1_setSaid
  rw [if_neg (by decide), h7, bt_set S hS t ht]
  rfl
theorem e_set0 {k t S : Nat} {c : StA} (hS : S < 64) (ht : t < 6) (h7 : gi c k 7 = nI S) : f_X1_setSaid k (nI t) 0 c = some (si c k 7 (nI (S &&& (63 - 2 ^ t))), ()) := by
  unfold f_X1_setSaid
  rw [if_pos rfl, h7, bt_clr S hS t ht]
  rfl
theorem e_becof {t j : Nat} {v : Int32} {m : StA} (ht : t < 6) (hj : j < 4) : f_X6_becomesOf (nI t) (nI j) v m = some (si m 2 (4 * t + j) v, ()) := by
  unfold f_X6_becomesOf
  rw [ix4 (by omega) (by omega), gd_n (by omega) (by omega), tn_nI (by omega)]
  rfl
theorem Rsd.set1 {c m : StA} {k n S t : Nat} (h : Rsd c k m 2 0 n S) (hn : n ≤ 6) (ht : t < n) : Rsd (si c k 7 (nI (S ||| 2 ^ t))) k (si m 2 (4 * t + 3) 1) 2 0 n (S ||| 2 ^ t) := by
  obtain ⟨h1, h2, h3⟩ := h
  refine ⟨bt_lt h1 ht, by rw [gi_si, if_pos ⟨rfl, rfl⟩], fun i hi => ?_⟩
  rw [bt_tset S (bt_64 h1 hn) t (by omega) i (by omega), gi_si]
  by_cases e : t = i
  · rw [if_pos ⟨rfl, by omega⟩, e]
    simp [bI]
  · rw [if_neg (by omega), h3 i hi]
    simp [e]
theorem Rsd.set0 {c m : StA} {k n S t : Nat} (h : Rsd c k m 2 0 n S) (hn : n ≤ 6) (ht : t < n) : Rsd (si c k 7 (nI (S &&& (63 - 2 ^ t)))) k (si m 2 (4 * t + 3) 0) 2 0 n (S &&& (63 - 2 ^ t)) := by
  obtain ⟨h1, h2, h3⟩ := h
  refine ⟨bt_ltc h1, by rw [gi_si, if_pos ⟨rfl, rfl⟩], fun i hi => ?_⟩
  rw [bt_tclr S (bt_64 h1 hn) t (by omega) i (by omega), gi_si]
  by_cases e : t = i
  · rw [if_pos ⟨rfl, by omega⟩, e]
    simp [bI]
  · rw [if_neg (by omega), h3 i hi]
    simp [e]
def DSc (k : Nat) : Nat → Nat → Prop := fun x y => x = k ∧ y = 7
def DSm (n : Nat) : Nat → Nat → Prop := fun x y => x = 2 ∧ ∃ i, i < n ∧ y = 4 * i + 3
theorem Rf.said {c c' m m' : StA} {k n P Q S S' : Nat} {fm : Nat → Bool} (h : Rf c k m 2 0 n P Q S fm) (h1 : eqC (DSc k) c c') (h2 : eqC (DSm n) m m') (hs : Rsd c' k m' 2 0 n S') : Rf c' k m' 2 0 n P Q S' fm := by
  obtain ⟨g1, g2, g3, g4, g5, g6, g7, g8, g9⟩ := h
  have hc : ∀ x y, ¬ (x = k ∧ y = 7) → gi c' x y = gi c x y := fun x y q => h1.1 x y q
  have hm : ∀ y, (24 ≤ y ∨ y % 4 ≠ 3) → gi m' 2 (0 + y) = gi m 2 (0 + y) := fun y q => h2.1 2 (0 + y) (by rintro ⟨-, i, hi, e⟩; omega)
  exact ⟨g1, by rw [hc k 6 (by omega)]; exact g2, by rw [h2.1 0 3 (by rintro ⟨e, -⟩; omega)]; exact g3, g4.congr (fun q a b j hj => hc _ _ (by omega)) (fun i x hi hx => hm _ (by omega)), hs, g6.congr (fun j a b => hc _ _ (by omega)) (fun x a b => hm _ (by omega)), g7.congr (fun j hj => hc _ _ (by omega)) (fun j hj => hm _ (by omega)), g8.congr (hc _ _ (by omega)) (fun q a b j hj => hc _ _ (by omega)) (fun x a b => hm _ (by omega)), g9.congr (hc _ _ (by omega)) (fun q a b j hj => hc _ _ (by omega)) (fun x a b => hm _ (by omega))⟩
def Fbit (m : StA) (P : Nat) (fm : Nat → Bool) : Prop := ∀ j, j < P → ((gi m 0 17 >>> (nI j &&& 31)) &&& 1) = bI (fm j)
theorem plan_rel {c m : StA} {k n P Q S : Nat} {fm : Nat → Bool} (h : Rf c k m 2 0 n P Q S fm) (hf : Fbit m P fm) : E2 (fl_X1_pass_l2 k c 0) (fl_X6_minuteGoes_l2 m 0) (fun c' _ m' _ => eqC (DSc k) c c' ∧ eqC (DSm n) m m' ∧ ∃ S', Rf c' k m' 2 0 n P Q S' fm) := by
  unfold fl_X1_pass_l2 fl_X6_minuteGoes_l2
  have hP := h.2.2.2.2.2.2.2.1.1
  have hn := h.1
  refine E2_it (I := fun j s v t w => ∃ i, i + j = P ∧ v = nI i ∧ w = nI i ∧ eqC (DSc k) c s ∧ eqC (DSm n) m t ∧ ∃ S', Rf s k t 2 0 n P Q S' fm) ?_ FU FU P (FU_gt (by omega)) (FU_gt (by omega)) c 0 m 0 ⟨0, by omega, rfl, rfl, eqC.rf c, eqC.rf m, S, h⟩
  rintro j s v t w ⟨i, hij, rfl, rfl, h1, h2, S1, hR⟩
  obtain ⟨g1, g2, g3, g4, g5, g6, g7, g8, g9⟩ := id hR
  obtain ⟨p1, p2, p3, p4⟩ := g8
  rw [Nat.zero_add] at p3
  unfold fb_X1_pass_l2 fb_X6_minuteGoes_l2
  rw [g33, t33, p2, p3]
  have hle : nI P ≤ nI i ↔ P ≤ i := nI_le' (by omega) (by omega)
  by_cases hi : P ≤ i
  · rw [if_pos (hle.mpr hi), if_pos (hle.mpr hi)]
    exact E2_ret (Or.inl ⟨(), (), rfl, rfl, h1, h2, S1, hR⟩)
  · rw [if_neg (fun q => hi (hle.mp q)), if_neg (fun q => hi (hle.mp q))]
    obtain ⟨⟨tt, ht, q1, q2⟩, q3, q4⟩ := p4 i (by omega)
    rw [Nat.zero_add] at q2 q3
    rw [Nat.zero_add] at q4
    have hF : ((gi t 0 17 >>> (nI i &&& 31)) &&& 1) = bI (fm i) := by
      rw [h2.1 0 17 (by rintro ⟨e, -⟩; omega)]
      exact hf i (by omega)
    have hk : ∀ (s' t' : StA), eqC (DSc k) c s' → eqC (DSm n) m t' → (∃ S', Rf s' k t' 2 0 n P Q S' fm) → E2 (some (s', (Sum.inl (nI i + 1) : Int32 ⊕ Unit))) (some (t', (Sum.inl (nI i + 1) : Int32 ⊕ Unit))) (fun s' x t' y => (∃ e e', x = .inr e ∧ y = .inr e' ∧ eqC (DSc k) c s' ∧ eqC (DSm n) m t' ∧ ∃ S', Rf s' k t' 2 0 n P Q S' fm) ∨ (∃ j' v' w', j = j' + 1 ∧ x = .inl v' ∧ y = .inl w' ∧ ∃ i, i + j' = P ∧ v' = nI i ∧ w' = nI i ∧ eqC (DSc k) c s' ∧ eqC (DSm n) m t' ∧ ∃ S', Rf s' k t' 2 0 n P Q S' fm)) := fun s' t' a1 a2 a3 => E2_ret (Or.inr ⟨j - 1, _, _, by omega, rfl, rfl, i + 1, by omega, nI_1 i, nI_1 i, a1, a2, a3⟩)
    rw [gd_n (show i < 8 by omega) (by omega), tn_nI (show i < 2147483648 by omega), hF, ix35, ix34, gd_n (show 34 + 2 * i < 63 by omega) (by omega), g27, t27, tn_nI (show 34 + 2 * i < 2147483648 by omega), q4]
    obtain ⟨-, -, -, -, -, -, r7, r8⟩ := g6
    rw [Nat.zero_add] at r7
    cases hfm : fm i with
    | true =>
      rw [if_neg (show ¬ bI true = 0 by decide), if_pos rfl, if_neg (by
        rw [ti_inj]
        have : (-1 : Int32).toInt = -1 := rfl
        have := r8.1
        omega)]
      exact hk s t h1 h2 ⟨S1, hR⟩
    | false =>
      rw [if_pos (show bI false = 0 from rfl), if_neg (show ¬ ((false : Bool) = true) by decide), r7]
      by_cases e : gi t 2 (34 + 2 * i) = gi t 2 27
      · rw [if_pos e, if_pos e, gd_n (show i < 8 by omega) (by omega), gd_n (show 35 + 2 * i < 63 by omega) (by omega), tn_nI (show 35 + 2 * i < 2147483648 by omega), q1, q2]
        refine E2_le (e_set1 (bt_64 g5.1 g1) (by omega) g5.2.1) ?_
        refine E2_re (e_becof (j := 3) (by omega) (by omega)) ?_
        have b1 : eqC (DSc k) c (si s k 7 (nI (S1 ||| 2 ^ tt))) := h1.si ⟨rfl, rfl⟩
        have b2 : eqC (DSm n) m (si t 2 (4 * tt + 3) 1) := h2.si ⟨rfl, tt, ht, rfl⟩
        exact hk _ _ b1 b2 ⟨S1 ||| 2 ^ tt, h.said b1 b2 (g5.set1 g1 ht)⟩
      · rw [if_neg e, if_neg e]
        exact hk s t h1 h2 ⟨S1, hR⟩
theorem wn_eq : ∀ x, x < 61 → cl3 (nI x / 10) 0 4 = nI (min (x / 10) 4) ∧ (if (50 : Int32) ≤ nI x then (4 : Int32) else nI x / 10) = nI (min (x / 10) 4) := by decide +kernel
theorem rg_nI {x : Int32} {hi : Int} (h : rg x 0 hi) : ∃ n : Nat, (n : Int) ≤ hi ∧ x = nI n := by
  obtain ⟨h1, h2⟩ := h
  have hr := ti_rng x
  refine ⟨x.toInt.toNat, by omega, ?_⟩
  rw [ti_inj, ti_nI (by omega)]
  omega
theorem ht_eq {L h r : Int32} (hL : rg L 0 60) (hh : rg h 0 60) (hr : rg r 1 9) : h + cl3 (L - h) (-r) r = cl3 L (h - r) (h + r) ∧ rg (cl3 L (h - r) (h + r)) 0 60 := by
  obtain ⟨a1, a2⟩ := hL
  obtain ⟨b1, b2⟩ := hh
  obtain ⟨c1, c2⟩ := hr
  have e1 : (L - h).toInt = L.toInt - h.toInt := by rw [ti_sub]; omega
  have e2 : (-r).toInt = -r.toInt := by rw [ti_neg]; omega
  have e3 : (h - r).toInt = h.toInt - r.toInt := by rw [ti_sub]; omega
  have e4 : (h + r).toInt = h.toInt + r.toInt := by rw [ti_add]; omega
  have e5 : (cl3 L (h - r) (h + r)).toInt = if h.toInt - r.toInt ≤ L.toInt then (if L.toInt ≤ h.toInt + r.toInt then L.toInt else h.toInt + r.toInt) else h.toInt - r.toInt := by rw [cl3_ti, e3, e4]
  have e6 : (cl3 (L - h) (-r) r).toInt = if -r.toInt ≤ L.toInt - h.toInt then (if L.toInt - h.toInt ≤ r.toInt then L.toInt - h.toInt else r.toInt) else -r.toInt := by rw [cl3_ti, e1, e2]
  unfold rg
  rw [ti_inj, ti_add, e5, e6]
  constructor
  · split <;> split <;> (try split) <;> (try split) <;> omega
  · split <;> (try split) <;> omega
theorem pl_rg (x : Int32) : rg (cl3 x 0 99) 0 99 := by
  unfold rg
  rw [cl3_ti]
  have e0 : (0 : Int32).toInt = 0 := rfl
  have e1 : (99 : Int32).toInt = 99 := rfl
  rw [e0, e1]
  split
  · split <;> omega
  · omega
def DPc (k : Nat) : Nat → Nat → Prop := fun x y => x = k ∧ (y = 7 ∨ y = 8 ∨ y = 9 ∨ y = 11)
def DPm : Nat → Nat → Prop := fun x _ => x = 2
/-- the rest of a minute: height, place, the minute -/
theorem rest_rel {c0 c m0 m : StA} {k n P Q S : Nat} {fm : Nat → Bool} (h : Rf c k m 2 0 n P Q S fm) (hmin : (gi c k 11).toInt < 5000) (hc : eqC (DPc k) c0 c) (hm : eqC DPm m0 m) :
    E2 (bn (f_X1_lift k c) (fun s9 r10 => bn (f_X5_bounded (r10 - (gi s9 k 8)) (-(gi s9 k 10)) (gi s9 k 10) s9) (fun s12 r13 => nms (si s12 k 8 ((gi c k 8) + r13)) (fun s15 => bn (f_X1_windAloft k s15) (fun s16 r17 => gd r17 5 (bn (f_X5_bounded (((gi s15 k 9) + (gi s16 (k + 4) r17.toNatClampNeg)) - 4) 0 99 s16) (fun s20 r21 => nms (si s20 k 9 r21) (fun s23 => nms (si s23 k 11 ((gi s23 k 11) + 1)) (fun s24 => some (s24, ()))))))))))
      (fj_X6_minuteGoes_j103 m) (fun c' _ m' _ => Rf c' k m' 2 0 n P Q S fm ∧ eqC (DPc k) c0 c' ∧ eqC DPm m0 m' ∧ gi c' k 11 = gi c k 11 + 1) := by
  obtain ⟨L, hL, eL1, eL2⟩ := lift_eq h
  obtain ⟨g1, g2, g3, g4, g5, g6, g7, g8, g9⟩ := id h
  obtain ⟨r1, r2, r3, r4, r5, r6, r7, r8⟩ := g6
  rw [Nat.zero_add] at r1 r3 r5 r7
  refine E2_le eL1 ?_
  unfold fj_X6_minuteGoes_j103
  refine E2_re eL2 ?_
  have hrr : -(gi c k 10) ≤ gi c k 10 := by
    rw [ti_le, ti_neg]
    have := r6.1
    have := r6.2
    omega
  refine E2_le (e_bounded hrr c) ?_
  obtain ⟨hh, hrg⟩ := ht_eq hL r2 r6
  rw [g24, g26, g24, g26, t24, t26, ← r1, ← r5]
  refine E2_re (e_within _ _ _ m) ?_
  rw [g24, hh]
  obtain ⟨hx, hx1, hx2⟩ := rg_nI hrg
  rw [hx2]
  unfold nms
  dsimp only
  have w := wn_eq hx (by omega)
  have hW : min (hx / 10) 4 < 5 := by omega
  have eW : f_X1_windAloft k (si c k 8 (nI hx)) = some (si c k 8 (nI hx), nI (min (hx / 10) 4)) := by
    unfold f_X1_windAloft
    rw [gi_si, if_pos ⟨rfl, rfl⟩, e_bounded (show (0 : Int32) ≤ 4 by decide), w.1]
    rfl
  refine E2_le eW ?_
  rw [gd_n hW (by omega), tn_nI (by omega)]
  have hj : ∀ (z : Option (StA × Unit)), z = fj_X6_minuteGoes_j175 (nI (min (hx / 10) 4)) (si m 2 24 (nI hx)) → gd 24 63 (if 50 ≤ gi (si m 2 24 (nI hx)) 2 24 then fj_X6_minuteGoes_j175 4 (si m 2 24 (nI hx)) else gd 24 63 (fj_X6_minuteGoes_j175 (gi (si m 2 24 (nI hx)) 2 24 / 10) (si m 2 24 (nI hx)))) = z := by
    intro z hz
    have e : gi (si m 2 24 (nI hx)) 2 24 = nI hx := by rw [gi_si, if_pos ⟨rfl, rfl⟩]
    rw [g24, g24, hz, e]
    have w2 := w.2
    by_cases q : (50 : Int32) ≤ nI hx
    · rw [if_pos q] at w2
      rw [if_pos q, ← w2]
    · rw [if_neg q] at w2
      rw [if_neg q, w2]
  rw [hj _ rfl]
  unfold fj_X6_minuteGoes_j175
  rw [g25, ix28, gd_n (by omega) (by omega), t25, tn_nI (by omega)]
  have s1 : gi (si c k 8 (nI hx)) k 9 = gi c k 9 := by rw [gi_si, if_neg (by omega)]
  have s2 : gi (si c k 8 (nI hx)) (k + 4) (min (hx / 10) 4) = gi c (k + 4) (min (hx / 10) 4) := by rw [gi_si, if_neg (by omega)]
  have s3 : gi (si m 2 24 (nI hx)) 2 25 = gi m 2 25 := by rw [gi_si, if_neg (by omega)]
  have s4 : gi (si m 2 24 (nI hx)) 2 (28 + min (hx / 10) 4) = gi m 2 (28 + min (hx / 10) 4) := by rw [gi_si, if_neg (by omega)]
  have s5 := (g7 (min (hx / 10) 4) hW).1
  rw [Nat.zero_add] at s5
  rw [s1, s2, s3, s4, s5, r3]
  refine E2_le (e_bounded (show (0 : Int32) ≤ 99 by decide) _) ?_
  refine E2_re (e_within _ _ _ _) ?_
  generalize hp : cl3 (gi m 2 25 + gi m 2 (28 + min (hx / 10) 4) - 4) 0 99 = pl
  have hpr : rg pl 0 99 := by rw [← hp]; exact pl_rg _
  unfold nms
  dsimp only
  rw [g25, g27, g27, t27]
  have u1 : gi (si (si c k 8 (nI hx)) k 9 pl) k 11 = gi c k 11 := by rw [gi_si, if_neg (by omega), gi_si, if_neg (by omega)]
  have u2 : gi (si (si m 2 24 (nI hx)) 2 25 pl) 2 27 = gi m 2 27 := by rw [gi_si, if_neg (by omega), gi_si, if_neg (by omega)]
  rw [u1, u2]
  have vc : ∀ x y, ¬ (x = k ∧ (y = 8 ∨ y = 9 ∨ y = 11)) → gi (si (si (si c k 8 (nI hx)) k 9 pl) k 11 (gi c k 11 + 1)) x y = gi c x y := by
    intro x y q
    rw [gi_si, if_neg (by omega), gi_si, if_neg (by omega), gi_si, if_neg (by omega)]
  have vm : ∀ y, y ≠ 24 → y ≠ 25 → y ≠ 27 → gi (si (si (si m 2 24 (nI hx)) 2 25 pl) 2 27 (gi m 2 27 + 1)) 2 (0 + y) = gi m 2 (0 + y) := by
    intro y a b d
    rw [gi_si, if_neg (by omega), gi_si, if_neg (by omega), gi_si, if_neg (by omega)]
  refine E2_ret ⟨⟨g1, ?_, ?_, ?_, ?_, ?_, ?_, ?_, ?_⟩, ?_, ?_, ?_⟩
  · rw [vc k 6 (by omega)]; exact g2
  · rw [gi_si, if_neg (by omega), gi_si, if_neg (by omega), gi_si, if_neg (by omega)]; exact g3
  · exact g4.congr (fun q a b j hj => vc _ _ (by omega)) (fun i x hi hx => vm _ (by omega) (by omega) (by omega))
  · exact g5.congr (vc _ _ (by omega)) (fun i hi => vm _ (by omega) (by omega) (by omega))
  · refine ⟨?_, ?_, ?_, ?_, ?_, ?_, ?_, ?_⟩
    · rw [gi_si, if_neg (by omega), gi_si, if_neg (by omega), gi_si, if_pos ⟨rfl, rfl⟩, gi_si, if_neg (by omega), gi_si, if_neg (by omega), gi_si, if_pos ⟨rfl, rfl⟩]
    · rw [gi_si, if_neg (by omega), gi_si, if_neg (by omega), gi_si, if_pos ⟨rfl, rfl⟩, ← hx2]; exact hrg
    · rw [gi_si, if_neg (by omega), gi_si, if_pos ⟨rfl, rfl⟩, gi_si, if_neg (by omega), gi_si, if_pos ⟨rfl, rfl⟩]
    · rw [gi_si, if_neg (by omega), gi_si, if_pos ⟨rfl, rfl⟩]; exact hpr
    · rw [vc _ _ (by omega), vm 26 (by omega) (by omega) (by omega), Nat.zero_add]; exact r5
    · rw [vc _ _ (by omega)]; exact r6
    · rw [gi_si, if_pos ⟨rfl, rfl⟩, gi_si, if_pos ⟨rfl, rfl⟩, r7]
    · rw [gi_si, if_pos ⟨rfl, rfl⟩]
      have := r8.1
      unfold rg
      rw [ti_add]
      have e1 : (1 : Int32).toInt = 1 := rfl
      rw [e1]
      omega
  · exact g7.congr (fun j hj => vc _ _ (by omega)) (fun j hj => vm _ (by omega) (by omega) (by omega))
  · exact g8.congr (vc _ _ (by omega)) (fun q a b j hj => vc _ _ (by omega)) (fun x a b => vm _ (by omega) (by omega) (by omega))
  · exact g9.congr (vc _ _ (by omega)) (fun q a b j hj => vc _ _ (by omega)) (fun x a b => vm _ (by omega) (by omega) (by omega))
  · exact ((hc.si ⟨rfl, by omega⟩).si ⟨rfl, by omega⟩).si ⟨rfl, by omega⟩
  · exact ((hm.si rfl).si rfl).si rfl
  · rw [gi_si, if_pos ⟨rfl, rfl⟩]
theorem pass_rel {c m : StA} {k n P Q S : Nat} {fm : Nat → Bool} (h : Rf c k m 2 0 n P Q S fm) (hf : Fbit m P fm) (hl : gi m 0 18 = -4) (hmin : (gi c k 11).toInt < 5000) : E2 (f_X1_pass k c) (f_X6_minuteGoes m) (fun c' _ m' _ => (∃ S', Rf c' k m' 2 0 n P Q S' fm) ∧ eqC (DPc k) c c' ∧ eqC DPm m m' ∧ gi c' k 11 = gi c k 11 + 1) := by
  unfold f_X1_pass f_X6_minuteGoes
  refine E2_bn (E2_mono (plan_rel h hf) ?_)
  rintro s a t b ⟨h1, h2, S1, hR⟩
  have e18 : gi t 0 18 = -4 := by rw [h2.1 0 18 (by rintro ⟨e, -⟩; omega)]; exact hl
  rw [if_pos e18]
  have e11 : gi s k 11 = gi c k 11 := h1.1 k 11 (by rintro ⟨-, e⟩; omega)
  refine E2_mono (rest_rel hR (by rw [e11]; exact hmin) (h1.mono (fun x y q => ⟨q.1, Or.inl q.2⟩)) (h2.mono (fun x y q => q.1))) ?_
  rintro s' _ t' _ ⟨q1, q2, q3, q4⟩
  exact ⟨⟨S1, q1⟩, q2, q3, by rw [q4, e11]⟩
