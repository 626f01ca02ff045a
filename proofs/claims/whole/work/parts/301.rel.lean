/-! Leaves, and how the two pictures belong together. -/
theorem e_isIn (a b c : Int32) (s : StA) : f_X5_isIn a b c s = some (s, if b ≤ a ∧ a ≤ c then 1 else 0) := by
  unfold f_X5_isIn
  by_cases h1 : a < b
  · rw [if_pos h1, if_neg (fun q => absurd q.1 (Int32.not_le.mpr h1))]
  · rw [if_neg h1]
    by_cases h2 : c < a
    · rw [if_pos h2, if_neg (fun q => absurd q.2 (Int32.not_le.mpr h2))]
    · rw [if_neg h2, if_pos ⟨Int32.not_lt.mp h1, Int32.not_lt.mp h2⟩]
theorem l64_le (a b : Int32) : a.toInt64 ≤ b.toInt64 ↔ a ≤ b := by
  rw [Int64.le_iff_toInt_le, Int32.toInt_toInt64, Int32.toInt_toInt64, ti_le]
theorem e_inL (x y z : Int64) (s : StA) : f_X6_in x y z s = some (s, if y ≤ x ∧ x ≤ z then 1 else 0) := by
  unfold f_X6_in
  by_cases h1 : y ≤ x
  · have q1 : ¬ (lg_cmp x y < 0) := Int32.not_lt.mpr ((lg_cmp_ge x y).mpr h1)
    rw [if_neg q1]
    by_cases h2 : x ≤ z
    · have q2 : ¬ (0 < lg_cmp x z) := Int32.not_lt.mpr ((lg_cmp_le x z).mpr h2)
      rw [if_neg q2, if_pos ⟨h1, h2⟩]
    · have q2 : 0 < lg_cmp x z := Int32.not_le.mp (fun q => h2 ((lg_cmp_le x z).mp q))
      rw [if_pos q2, if_neg (fun q => h2 q.2)]
  · have q1 : lg_cmp x y < 0 := Int32.not_le.mp (fun q => h1 ((lg_cmp_ge x y).mp q))
    rw [if_pos q1, if_neg (fun q => h1 q.1)]
theorem e_in {a b c : Int32} {y z : Int64} (hy : y = b.toInt64) (hz : z = c.toInt64) (s : StA) : f_X6_in a.toInt64 y z s = some (s, if b ≤ a ∧ a ≤ c then 1 else 0) := by
  subst hy hz
  rw [e_inL]
  simp only [l64_le]
/-- 1 or 0 -/
def bP (p : Prop) [Decidable p] : Int32 := if p then 1 else 0
theorem bP_b (p : Prop) [Decidable p] : bP p = 0 ∨ bP p = 1 := by
  unfold bP
  by_cases h : p <;> simp [h]
theorem bP_0 (p : Prop) [Decidable p] : (bP p = 0) ↔ ¬ p := by
  unfold bP
  by_cases h : p <;> simp [h]
theorem gz_b {β : Type} (p : Prop) [Decidable p] (k : Option β) : gz (bP p) k = k := by
  unfold gz
  rw [if_pos (bP_b p)]
theorem gz_if {β : Type} (p : Prop) [Decidable p] (k : Option β) : gz (if p then 1 else 0) k = k := gz_b p k
theorem e_hasThing (k : Nat) (a : Int32) (s : StA) : f_X1_hasThing k a s = some (s, if 0 ≤ a ∧ a ≤ gi s k 6 - 1 then 1 else 0) := by
  unfold f_X1_hasThing
  rw [e_isIn]
  simp only [bn, gz_if]
theorem e_isThing (a : Int32) (s : StA) : f_X6_isThing a s = some (s, if 0 ≤ a ∧ a ≤ gi s 0 3 - 1 then 1 else 0) := by
  unfold f_X6_isThing
  rw [e_in (y := 0) (b := 0) (z := (gi s 0 3 - 1).toInt64) (c := gi s 0 3 - 1) rfl rfl]
  simp only [bn, gz_if]
theorem e_isWind5 (a : Int32) (s : StA) : f_X5_isWind a s = some (s, if 0 ≤ a ∧ a ≤ 4 then 1 else 0) := by
  unfold f_X5_isWind
  rw [e_isIn]
  simp only [bn, gz_if]
theorem e_isPlace5 (a : Int32) (s : StA) : f_X5_isPlace a s = some (s, if 0 ≤ a ∧ a ≤ 99 then 1 else 0) := by
  unfold f_X5_isPlace
  rw [e_isIn]
  simp only [bn, gz_if]
theorem e_isFore5 (a : Int32) (s : StA) : f_X5_isForecast a s = some (s, if 0 ≤ a ∧ a ≤ 60 then 1 else 0) := by
  unfold f_X5_isForecast
  rw [e_isIn]
  simp only [bn, gz_if]
theorem e_isHeight5 (a : Int32) (s : StA) : f_X5_isHeight a s = some (s, if 0 ≤ a ∧ a ≤ 60 then 1 else 0) := by
  unfold f_X5_isHeight
  rw [e_isIn]
  simp only [bn, gz_if]
theorem e_isSheet5 (a : Int32) (s : StA) : f_X5_isSheet a s = some (s, if 0 ≤ a ∧ a ≤ 3 then 1 else 0) := by
  unfold f_X5_isSheet
  rw [e_isIn]
  simp only [bn, gz_if]
theorem e_isLane5 (a : Int32) (s : StA) : f_X5_isLane a s = some (s, if 0 ≤ a ∧ a ≤ 2 then 1 else 0) := by
  unfold f_X5_isLane
  rw [e_isIn]
  simp only [bn, gz_if]
theorem e_isWind (a : Int32) (s : StA) : f_X6_isWind a s = some (s, if 0 ≤ a ∧ a ≤ 4 then 1 else 0) := by
  unfold f_X6_isWind
  rw [e_in (y := 0) (z := 4) (b := 0) (c := 4) rfl rfl]
  simp only [bn, gz_if]
theorem e_isPlace (a : Int32) (s : StA) : f_X6_isPlace a s = some (s, if 0 ≤ a ∧ a ≤ 99 then 1 else 0) := by
  unfold f_X6_isPlace
  rw [e_in (y := 0) (z := 99) (b := 0) (c := 99) rfl rfl]
  simp only [bn, gz_if]
theorem e_isPart (a : Int32) (s : StA) : f_X6_isPart a s = some (s, if 0 ≤ a ∧ a ≤ 1 then 1 else 0) := by
  unfold f_X6_isPart
  rw [e_in (y := 0) (z := 1) (b := 0) (c := 1) rfl rfl]
  simp only [bn, gz_if]
theorem e_isFar (a : Int32) (s : StA) : f_X6_isFar a s = some (s, if 0 ≤ a ∧ a ≤ 60 then 1 else 0) := by
  unfold f_X6_isFar
  rw [e_in (y := 0) (z := 60) (b := 0) (c := 60) rfl rfl]
  simp only [bn, gz_if]
/-- v, but lo at least, hi at most -/
def cl3 (v lo hi : Int32) : Int32 := if lo ≤ v then (if v ≤ hi then v else hi) else lo
theorem e_within (v lo hi : Int32) (s : StA) : f_X6_within v lo hi s = some (s, cl3 v lo hi) := by
  unfold f_X6_within cl3
  by_cases h1 : lo ≤ v
  · rw [if_pos h1, if_pos h1]
    by_cases h2 : v ≤ hi
    · rw [if_pos h2, if_pos h2]
    · rw [if_neg h2, if_neg h2]
  · rw [if_neg h1, if_neg h1]
theorem e_bounded {v lo hi : Int32} (h : lo ≤ hi) (s : StA) : f_X5_bounded v lo hi s = some (s, cl3 v lo hi) := by
  unfold f_X5_bounded cl3 nmi
  show some (s, if lo < (if v < hi then v else hi) then (if v < hi then v else hi) else lo) = _
  have e : (if lo < (if v < hi then v else hi) then (if v < hi then v else hi) else lo) = (if lo ≤ v then (if v ≤ hi then v else hi) else lo) := by
    simp only [ti_lt, ti_le] at h ⊢
    by_cases h1 : v.toInt < hi.toInt
    · rw [if_pos h1]
      by_cases h2 : lo.toInt < v.toInt
      · rw [if_pos h2, if_pos (by omega), if_pos (by omega)]
      · rw [if_neg h2]
        by_cases h3 : lo.toInt ≤ v.toInt
        · rw [if_pos h3, if_pos (by omega), ti_inj]; omega
        · rw [if_neg h3]
    · rw [if_neg h1]
      by_cases h2 : lo.toInt < hi.toInt
      · rw [if_pos h2, if_pos (by omega)]
        by_cases h3 : v.toInt ≤ hi.toInt
        · rw [if_pos h3, ti_inj]; omega
        · rw [if_neg h3]
      · rw [if_neg h2]
        by_cases h3 : lo.toInt ≤ v.toInt
        · rw [if_pos h3]
          by_cases h4 : v.toInt ≤ hi.toInt
          · rw [if_pos h4, ti_inj]; omega
          · rw [if_neg h4, ti_inj]; omega
        · rw [if_neg h3]
  rw [e]
theorem cl3_ti {v lo hi : Int32} : (cl3 v lo hi).toInt = if lo.toInt ≤ v.toInt then (if v.toInt ≤ hi.toInt then v.toInt else hi.toInt) else lo.toInt := by
  unfold cl3
  simp only [ti_le]
  split
  · split <;> rfl
  · rfl
/-! bits -/
def bI (b : Bool) : Int32 := if b then 1 else 0
theorem bt_get : ∀ S, S < 64 → ∀ i, i < 6 → ((nI S >>> (nI i &&& 31)) &&& 1) = bI (S.testBit i) := by decide +kernel
theorem bt_get8 : ∀ S, S < 256 → ∀ i, i < 8 → ((nI S >>> (nI i &&& 31)) &&& 1) = bI (S.testBit i) := by decide +kernel
theorem bt_set : ∀ S, S < 64 → ∀ i, i < 6 → nI S ||| ((1 : Int32) <<< (nI i &&& 31)) = nI (S ||| 2 ^ i) := by decide +kernel
theorem bt_clr : ∀ S, S < 64 → ∀ i, i < 6 → nI S &&& (((1 : Int32) <<< (nI i &&& 31)) ^^^ (-1)) = nI (S &&& (63 - 2 ^ i)) := by decide +kernel
theorem bt_tset : ∀ S, S < 64 → ∀ i, i < 6 → ∀ j, j < 6 → (S ||| 2 ^ i).testBit j = (S.testBit j || decide (i = j)) := by decide +kernel
theorem bt_tclr : ∀ S, S < 64 → ∀ i, i < 6 → ∀ j, j < 6 → (S &&& (63 - 2 ^ i)).testBit j = (S.testBit j && !decide (i = j)) := by decide +kernel
theorem bt_lt {S n i : Nat} (hS : S < 2 ^ n) (hi : i < n) : S ||| 2 ^ i < 2 ^ n := Nat.or_lt_two_pow hS (Nat.pow_lt_pow_right (by omega) hi)
theorem bt_ltc {S n x : Nat} (hS : S < 2 ^ n) : S &&& x < 2 ^ n := Nat.lt_of_le_of_lt Nat.and_le_left hS
theorem bt_64 {S n : Nat} (hS : S < 2 ^ n) (hn : n ≤ 6) : S < 64 := Nat.lt_of_lt_of_le hS (Nat.pow_le_pow_right (by omega) hn)
/-! frames: what has changed lies in D -/
def eqC (D : Nat → Nat → Prop) (c c' : StA) : Prop := (∀ k j, ¬ D k j → gi c' k j = gi c k j) ∧ ∀ k j, gl c' k j = gl c k j
theorem eqC.rf {D : Nat → Nat → Prop} (c : StA) : eqC D c c := ⟨fun _ _ _ => rfl, fun _ _ => rfl⟩
theorem eqC.tr {D : Nat → Nat → Prop} {a b c : StA} (h1 : eqC D a b) (h2 : eqC D b c) : eqC D a c := ⟨fun k j h => (h2.1 k j h).trans (h1.1 k j h), fun k j => (h2.2 k j).trans (h1.2 k j)⟩
theorem eqC.mono {D D' : Nat → Nat → Prop} {a b : StA} (h : eqC D a b) (hd : ∀ k j, D k j → D' k j) : eqC D' a b := ⟨fun k j q => h.1 k j (fun z => q (hd k j z)), h.2⟩
theorem eqC.si {D : Nat → Nat → Prop} {a b : StA} (h : eqC D a b) {k j : Nat} {v : Int32} (hd : D k j) : eqC D a (si b k j v) := by
  refine ⟨fun x y q => ?_, fun x y => h.2 x y⟩
  rw [gi_si, if_neg (fun z => q (by rw [z.1, z.2]; exact hd))]
  exact h.1 x y q
def rg (x : Int32) (lo hi : Int) : Prop := lo ≤ x.toInt ∧ x.toInt ≤ hi
/-! a flight at base k, a row a of the reference from o on -/
def Rth (c : StA) (k : Nat) (m : StA) (a o n : Nat) : Prop := ∀ i, i < n → gi c (k + 1) i = gi m a (o + 4 * i) ∧ gi c (k + 2) i = gi m a (o + (4 * i + 1)) ∧ gi c (k + 3) i = gi m a (o + (4 * i + 2)) ∧ rg (gi c (k + 1) i) 0 3 ∧ rg (gi c (k + 2) i) 1 9 ∧ rg (gi c (k + 3) i) 0 1
def Rsd (c : StA) (k : Nat) (m : StA) (a o n S : Nat) : Prop := S < 2 ^ n ∧ gi c k 7 = nI S ∧ ∀ i, i < n → gi m a (o + (4 * i + 3)) = bI (S.testBit i)
def Rnm (c : StA) (k : Nat) (m : StA) (a o : Nat) : Prop := gi c k 8 = gi m a (o + 24) ∧ rg (gi c k 8) 0 60 ∧ gi c k 9 = gi m a (o + 25) ∧ rg (gi c k 9) 0 99 ∧ gi c k 10 = gi m a (o + 26) ∧ rg (gi c k 10) 1 9 ∧ gi c k 11 = gi m a (o + 27) ∧ rg (gi c k 11) 0 5000
def Rwd (c : StA) (k : Nat) (m : StA) (a o : Nat) : Prop := ∀ j, j < 5 → gi c (k + 4) j = gi m a (o + (28 + j)) ∧ rg (gi c (k + 4) j) 0 8
def Rpl (c : StA) (k : Nat) (m : StA) (a o n P : Nat) (fm : Nat → Bool) : Prop := P ≤ 8 ∧ gi c (k + 5) 2 = nI P ∧ gi m a (o + 33) = nI P ∧ ∀ j, j < P → (∃ t, t < n ∧ gi c (k + 7) j = nI t ∧ gi m a (o + (35 + 2 * j)) = nI t) ∧ rg (gi m a (o + (34 + 2 * j))) 0 99 ∧ gi c (k + 6) j = if fm j then -1 else gi m a (o + (34 + 2 * j))
def Rse (c : StA) (k : Nat) (m : StA) (a o Q : Nat) : Prop := Q ≤ 6 ∧ gi c (k + 8) 2 = nI Q ∧ gi m a (o + 50) = nI Q ∧ ∀ j, j < Q → gi c (k + 9) j = gi m a (o + (51 + 2 * j)) ∧ rg (gi c (k + 9) j) 0 30 ∧ gi c (k + 10) j = gi m a (o + (52 + 2 * j)) ∧ rg (gi c (k + 10) j) 0 60
def Rf (c : StA) (k : Nat) (m : StA) (a o n P Q S : Nat) (fm : Nat → Bool) : Prop := n ≤ 6 ∧ gi c k 6 = nI n ∧ gi m 0 3 = nI n ∧ Rth c k m a o n ∧ Rsd c k m a o n S ∧ Rnm c k m a o ∧ Rwd c k m a o ∧ Rpl c k m a o n P fm ∧ Rse c k m a o Q
theorem Rth.congr {c c' m m' : StA} {k k' a a' o o' n : Nat} (h : Rth c k m a o n) (hc : ∀ q, 1 ≤ q → q ≤ 3 → ∀ j, j < n → gi c' (k' + q) j = gi c (k + q) j) (hm : ∀ i x, i < n → x < 3 → gi m' a' (o' + (4 * i + x)) = gi m a (o + (4 * i + x))) : Rth c' k' m' a' o' n := by
  intro i hi
  have h0 := hm i 0 hi (by omega)
  rw [Nat.add_zero] at h0
  rw [hc 1 (by omega) (by omega) i hi, hc 2 (by omega) (by omega) i hi, hc 3 (by omega) (by omega) i hi, h0, hm i 1 hi (by omega), hm i 2 hi (by omega)]
  exact h i hi
theorem Rsd.congr {c c' m m' : StA} {k k' a a' o o' n S : Nat} (h : Rsd c k m a o n S) (hc : gi c' k' 7 = gi c k 7) (hm : ∀ i, i < n → gi m' a' (o' + (4 * i + 3)) = gi m a (o + (4 * i + 3))) : Rsd c' k' m' a' o' n S := by
  refine ⟨h.1, by rw [hc]; exact h.2.1, fun i hi => ?_⟩
  rw [hm i hi]
  exact h.2.2 i hi
theorem Rnm.congr {c c' m m' : StA} {k k' a a' o o' : Nat} (h : Rnm c k m a o) (hc : ∀ j, 8 ≤ j → j ≤ 11 → gi c' k' j = gi c k j) (hm : ∀ x, 24 ≤ x → x ≤ 27 → gi m' a' (o' + x) = gi m a (o + x)) : Rnm c' k' m' a' o' := by
  unfold Rnm
  rw [hc 8 (by omega) (by omega), hc 9 (by omega) (by omega), hc 10 (by omega) (by omega), hc 11 (by omega) (by omega), hm 24 (by omega) (by omega), hm 25 (by omega) (by omega), hm 26 (by omega) (by omega), hm 27 (by omega) (by omega)]
  exact h
theorem Rwd.congr {c c' m m' : StA} {k k' a a' o o' : Nat} (h : Rwd c k m a o) (hc : ∀ j, j < 5 → gi c' (k' + 4) j = gi c (k + 4) j) (hm : ∀ j, j < 5 → gi m' a' (o' + (28 + j)) = gi m a (o + (28 + j))) : Rwd c' k' m' a' o' := by
  intro j hj
  rw [hc j hj, hm j hj]
  exact h j hj
theorem Rpl.congr {c c' m m' : StA} {k k' a a' o o' n P : Nat} {fm : Nat → Bool} (h : Rpl c k m a o n P fm) (hs : gi c' (k' + 5) 2 = gi c (k + 5) 2) (hc : ∀ q, 6 ≤ q → q ≤ 7 → ∀ j, j < P → gi c' (k' + q) j = gi c (k + q) j) (hm : ∀ x, 33 ≤ x → x < 34 + 2 * P → gi m' a' (o' + x) = gi m a (o + x)) : Rpl c' k' m' a' o' n P fm := by
  refine ⟨h.1, by rw [hs]; exact h.2.1, by rw [hm 33 (by omega) (by omega)]; exact h.2.2.1, fun j hj => ?_⟩
  rw [hc 7 (by omega) (by omega) j hj, hc 6 (by omega) (by omega) j hj, hm (35 + 2 * j) (by omega) (by omega), hm (34 + 2 * j) (by omega) (by omega)]
  exact h.2.2.2 j hj
theorem Rse.congr {c c' m m' : StA} {k k' a a' o o' Q : Nat} (h : Rse c k m a o Q) (hs : gi c' (k' + 8) 2 = gi c (k + 8) 2) (hc : ∀ q, 9 ≤ q → q ≤ 10 → ∀ j, j < Q → gi c' (k' + q) j = gi c (k + q) j) (hm : ∀ x, 50 ≤ x → x < 51 + 2 * Q → gi m' a' (o' + x) = gi m a (o + x)) : Rse c' k' m' a' o' Q := by
  refine ⟨h.1, by rw [hs]; exact h.2.1, by rw [hm 50 (by omega) (by omega)]; exact h.2.2.1, fun j hj => ?_⟩
  rw [hc 9 (by omega) (by omega) j hj, hc 10 (by omega) (by omega) j hj, hm (51 + 2 * j) (by omega) (by omega), hm (52 + 2 * j) (by omega) (by omega)]
  exact h.2.2.2 j hj
/-- all of it, from one place to another -/
theorem Rf.congr {c c' m m' : StA} {k k' a a' o o' n P Q S : Nat} {fm : Nat → Bool} (h : Rf c k m a o n P Q S fm) (hc : ∀ j, 6 ≤ j → j ≤ 11 → gi c' k' j = gi c k j) (hth : ∀ q, 1 ≤ q → q ≤ 3 → ∀ j, j < n → gi c' (k' + q) j = gi c (k + q) j) (hw : ∀ j, j < 5 → gi c' (k' + 4) j = gi c (k + 4) j) (hp : gi c' (k' + 5) 2 = gi c (k + 5) 2) (hpl : ∀ q, 6 ≤ q → q ≤ 7 → ∀ j, j < P → gi c' (k' + q) j = gi c (k + q) j) (hs : gi c' (k' + 8) 2 = gi c (k + 8) 2) (hse : ∀ q, 9 ≤ q → q ≤ 10 → ∀ j, j < Q → gi c' (k' + q) j = gi c (k + q) j) (hm : ∀ x, x < 63 → gi m' a' (o' + x) = gi m a (o + x)) (ht : gi m' 0 3 = gi m 0 3) : Rf c' k' m' a' o' n P Q S fm := by
  obtain ⟨h1, h2, h3, h4, h5, h6, h7, h8, h9⟩ := h
  have hP := h8.1
  have hQ := h9.1
  exact ⟨h1, by rw [hc 6 (by omega) (by omega)]; exact h2, by rw [ht]; exact h3, h4.congr hth (fun i x hi hx => hm _ (by omega)), h5.congr (hc 7 (by omega) (by omega)) (fun i hi => hm _ (by omega)), h6.congr (fun j a b => hc j (by omega) b) (fun x a b => hm _ (by omega)), h7.congr hw (fun j hj => hm _ (by omega)), h8.congr hp hpl (fun x a b => hm _ (by omega)), h9.congr hs hse (fun x a b => hm _ (by omega))⟩
