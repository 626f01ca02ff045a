/-! a thing's lift, the lift, on both sides -/
def lf (kd w : Int32) (sd : Bool) : Int32 := if sd then (if kd = 1 then w / 2 else if kd = 3 then -(w / 2) else 0) else (if kd = 2 then 2 * w else w)
theorem e_isSaid {k i S : Nat} {c : StA} (hS : S < 64) (hi : i < 6) (h7 : gi c k 7 = nI S) : f_X1_isSaid k (nI i) c = some (c, bI (S.testBit i)) := by
  unfold f_X1_isSaid
  rw [h7, bt_get S hS i hi]
  cases S.testBit i <;> rfl
theorem e_liftC {k i S : Nat} {c : StA} (hS : S < 64) (hi : i < 6) (h7 : gi c k 7 = nI S) : f_X1_liftOf k (nI i) c = some (c, lf (gi c (k + 1) i) (gi c (k + 2) i) (S.testBit i)) := by
  unfold f_X1_liftOf
  simp only [gd_n hi (show (6 : Nat) < 1000000 by omega), nmi, e_isSaid hS hi h7, bn, tn_nI (show i < 2147483648 by omega)]
  cases S.testBit i
  · rw [if_pos (show bI false = 0 from rfl)]
    unfold lf
    by_cases h : gi c (k + 1) i = 2 <;> simp [h]
  · rw [if_neg (show ¬ bI true = 0 by decide)]
    unfold lf
    by_cases h : gi c (k + 1) i = 1
    · simp [h]
    · by_cases h3 : gi c (k + 1) i = 3 <;> simp [h, h3]
theorem ix4 {i j : Nat} (hi : i < 100) (hj : j < 100) : 4 * nI i + nI j = nI (4 * i + j) := by
  rw [show (4 : Int32) = nI 4 from rfl, pk_mul, nI_add]
theorem e_of {i j : Nat} {m : StA} (hi : i < 6) (hj : j < 4) : f_X6_of (nI i) (nI j) m = some (m, gi m 2 (4 * i + j)) := by
  unfold f_X6_of
  rw [ix4 (by omega) (by omega), gd_n (by omega) (by omega), tn_nI (by omega)]
theorem e_liftM {i : Nat} {b : Bool} {m : StA} (hi : i < 6) (hb : gi m 2 (4 * i + 3) = bI b) : f_X6_liftOf (nI i) m = some (m, lf (gi m 2 (4 * i)) (gi m 2 (4 * i + 1)) b) := by
  unfold f_X6_liftOf
  have h1 : f_X6_of (nI i) 1 m = some (m, gi m 2 (4 * i + 1)) := e_of (j := 1) hi (by omega)
  have h3 : f_X6_of (nI i) 3 m = some (m, gi m 2 (4 * i + 3)) := e_of (j := 3) hi (by omega)
  have h0 : f_X6_of (nI i) 0 m = some (m, gi m 2 (4 * i)) := e_of (j := 0) hi (by omega)
  simp only [h1, h3, bn, hb]
  unfold fj_X6_liftOf_j22
  simp only [h0, bn]
  unfold lf
  cases b
  · rw [if_neg (show ¬ bI false = 1 by decide)]
    by_cases q1 : gi m 2 (4 * i) = 1
    · simp [q1]
    · by_cases q2 : gi m 2 (4 * i) = 2
      · simp [q2]
      · by_cases q3 : gi m 2 (4 * i) = 3
        · simp [q3]
        · simp [q1, q2, q3]
  · rw [if_pos (show bI true = 1 from rfl)]
    by_cases q1 : gi m 2 (4 * i) = 1
    · simp [q1]
    · by_cases q2 : gi m 2 (4 * i) = 2
      · simp [q2]
      · by_cases q3 : gi m 2 (4 * i) = 3
        · simp [q3]
        · simp [q1, q2, q3]
/-- the sum of the first i lifts, from x on -/
def lsum (f : Nat → Int32) : Nat → Int32
  | 0 => 0
  | i + 1 => lsum f i + f i
theorem FU_gt {n : Nat} (h : n < 1000000) : n < FU := by unfold FU; omega
theorem e_lift {k n S : Nat} {c : StA} (hn : n ≤ 6) (hS : S < 64) (h6 : gi c k 6 = nI n) (h7 : gi c k 7 = nI S) : f_X1_lift k c = some (c, cl3 (lsum (fun i => lf (gi c (k + 1) i) (gi c (k + 2) i) (S.testBit i)) n) 0 60) := by
  unfold f_X1_lift
  have hl : Ev (fl_X1_lift_l4 k c (0, 0)) (fun c' x => c' = c ∧ x = lsum (fun i => lf (gi c (k + 1) i) (gi c (k + 2) i) (S.testBit i)) n) := by
    unfold fl_X1_lift_l4
    refine Ev_it (I := fun j s v => s = c ∧ ∃ i, i + j = n ∧ v.2 = nI i ∧ v.1 = lsum (fun i => lf (gi c (k + 1) i) (gi c (k + 2) i) (S.testBit i)) i) ?_ FU n (FU_gt (by omega)) c (0, 0) ⟨rfl, 0, by omega, rfl, rfl⟩
    rintro j s ⟨x, y⟩ ⟨rfl, i, hij, hy, hx⟩
    dsimp only at hy hx
    subst hy hx
    unfold fb_X1_lift_l4
    rw [h6]
    refine Ev_ite (fun q => ?_) (fun q => ?_)
    · rw [nI_le' (by omega) (by omega)] at q
      exact Ev_ret (Or.inl ⟨_, rfl, rfl, by rw [show n = i by omega]⟩)
    · rw [nI_le' (by omega) (by omega)] at q
      refine Ev_be (e_liftC hS (by omega) h7) ?_
      refine Ev_nmi (Ev_ret (Or.inr ⟨j - 1, _, by omega, rfl, rfl, i + 1, by omega, nI_1 i, rfl⟩))
  obtain ⟨c', x, e, rfl, rfl⟩ := hl
  rw [e]
  simp only [bn, e_bounded (show (0 : Int32) ≤ 60 by decide)]
theorem e_liftNow {n : Nat} {m : StA} {b : Nat → Bool} (hn : n ≤ 6) (h6 : gi m 0 3 = nI n) (hb : ∀ i, i < n → gi m 2 (4 * i + 3) = bI (b i)) : f_X6_liftNow m = some (m, cl3 (lsum (fun i => lf (gi m 2 (4 * i)) (gi m 2 (4 * i + 1)) (b i)) n) 0 60) := by
  unfold f_X6_liftNow
  have hl : Ev (fl_X6_liftNow_l4 m (0, 0)) (fun c' x => c' = m ∧ x = lsum (fun i => lf (gi m 2 (4 * i)) (gi m 2 (4 * i + 1)) (b i)) n) := by
    unfold fl_X6_liftNow_l4
    refine Ev_it (I := fun j s v => s = m ∧ ∃ i, i + j = n ∧ v.2 = nI i ∧ v.1 = lsum (fun i => lf (gi m 2 (4 * i)) (gi m 2 (4 * i + 1)) (b i)) i) ?_ FU n (FU_gt (by omega)) m (0, 0) ⟨rfl, 0, by omega, rfl, rfl⟩
    rintro j s ⟨x, y⟩ ⟨rfl, i, hij, hy, hx⟩
    dsimp only at hy hx
    subst hy hx
    unfold fb_X6_liftNow_l4
    rw [h6]
    refine Ev_ite (fun q => ?_) (fun q => ?_)
    · rw [nI_le' (by omega) (by omega)] at q
      exact Ev_ret (Or.inl ⟨_, rfl, rfl, by rw [show n = i by omega]⟩)
    · rw [nI_le' (by omega) (by omega)] at q
      refine Ev_be (e_liftM (by omega) (hb i (by omega))) ?_
      refine Ev_nmi (Ev_ret (Or.inr ⟨j - 1, _, by omega, rfl, rfl, i + 1, by omega, nI_1 i, rfl⟩))
  obtain ⟨c', x, e, rfl, rfl⟩ := hl
  rw [e]
  simp only [bn, e_within]
theorem lsum_congr {f g : Nat → Int32} : ∀ {n : Nat}, (∀ i, i < n → f i = g i) → lsum f n = lsum g n
  | 0, _ => rfl
  | n + 1, h => by
    show lsum f n + f n = lsum g n + g n
    rw [lsum_congr (fun i hi => h i (by omega)), h n (by omega)]
/-- the lift of a flight that belongs to the row 2 -/
theorem lift_eq {c m : StA} {k n P Q S : Nat} {fm : Nat → Bool} (h : Rf c k m 2 0 n P Q S fm) : ∃ L : Int32, rg L 0 60 ∧ f_X1_lift k c = some (c, L) ∧ f_X6_liftNow m = some (m, L) := by
  obtain ⟨h1, h2, h3, h4, h5, -⟩ := h
  refine ⟨_, ?_, e_lift h1 (bt_64 h5.1 h1) h2 h5.2.1, ?_⟩
  · unfold rg
    rw [cl3_ti]
    have e0 : (0 : Int32).toInt = 0 := rfl
    have e60 : (60 : Int32).toInt = 60 := rfl
    rw [e0, e60]
    split
    · split <;> omega
    · omega
  · rw [e_liftNow (b := fun i => S.testBit i) h1 h3 (fun i hi => by have := h5.2.2 i hi; rw [Nat.zero_add] at this; exact this)]
    rw [lsum_congr (fun i hi => ?_)]
    have q := h4 i hi
    rw [Nat.zero_add, Nat.zero_add] at q
    rw [q.1, q.2.1]
