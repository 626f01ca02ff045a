/-! the relation of the two objects between calls -/
def srt (x : Int32) : Int32 := if 97 ≤ x ∧ x ≤ 122 then 1 else if 48 ≤ x ∧ x ≤ 57 then 2 else if x = 59 then 3 else if x = 32 then 4 else 5
def Rimg (c m : StA) (n j : Nat) : Prop := ∃ P Q S, Rf c (23 + 11 * j) m 1 (63 * (j + 1)) n P Q S noF ∧ (gi c (23 + 11 * j) 11).toInt ≤ 999
def Rkp (c m : StA) (n : Nat) : Prop := ∀ j, j < 2 → (gi c 46 j = 0 ∧ gi m 3 j = 0) ∨ (gi c 46 j = 1 ∧ gi m 3 j = 1 ∧ Rimg c m n j)
def Rtp (c m : StA) : Prop := ∃ L, L ≤ 160 ∧ gi c 47 2 = nI L ∧ gi m 0 10 = nI L ∧ ∀ j, j < L → gi c 48 j = gi m 5 j ∧ rg (gi c 48 j) 0 127 ∧ gi c 49 j = srt (gi c 48 j)
def Rsh (c m : StA) : Prop := ∀ j, j < 4 → ((gi c (51 + 2 * j) 1 = -1 ∧ gi m 8 j = -4) ∨ (gi c (51 + 2 * j) 1 = gi m 8 j ∧ rg (gi m 8 j) 0 2)) ∧ gi c (51 + 2 * j) 2 = gi m 9 j ∧ rg (gi m 9 j) 0 40 ∧ ∀ i, i < 40 → gi c (52 + 2 * j) i = gi m 10 (40 * j + i)
def RR (c m : StA) (n P Q S : Nat) : Prop := Rf c 1 m 1 0 n P Q S noF ∧ (gi c 1 11).toInt ≤ 999 ∧ Rkp c m n ∧ Rtp c m ∧ gi c 47 3 = gi m 0 15 ∧ gi c 0 8 = gi m 0 32 ∧ Rsh c m
def R0 (c m : StA) : Prop := ∃ n P Q S, RR c m n P Q S
/-- what queries may change -/
def DQc : Nat → Nat → Prop := fun x _ => (12 ≤ x ∧ x ≤ 22) ∨ 59 ≤ x
def DQm : Nat → Nat → Prop := fun x y => x = 2 ∨ x = 4 ∨ x = 6 ∨ x = 7 ∨ x = 11 ∨ (x = 0 ∧ y ≠ 3 ∧ y ≠ 10 ∧ y ≠ 15 ∧ y ≠ 32)
def agQ (D : Nat → Nat → Prop) (c c' : StA) : Prop := ∀ k j, ¬ D k j → gi c' k j = gi c k j
theorem eqC.ag {D D' : Nat → Nat → Prop} {c c' : StA} (h : eqC D c c') (hd : ∀ x y, D x y → D' x y) : agQ D' c c' := fun k j q => h.1 k j (fun z => q (hd k j z))
theorem agQ.tr {D : Nat → Nat → Prop} {a b c : StA} (h1 : agQ D a b) (h2 : agQ D b c) : agQ D a c := fun k j h => (h2 k j h).trans (h1 k j h)
theorem agQ.rf {D : Nat → Nat → Prop} (a : StA) : agQ D a a := fun _ _ _ => rfl
theorem agQ.si {D : Nat → Nat → Prop} {a b : StA} (h : agQ D a b) {k j : Nat} {v : Int32} (hd : D k j) : agQ D a (si b k j v) := by
  intro x y q
  rw [gi_si, if_neg (fun z => q (by rw [z.1, z.2]; exact hd))]
  exact h x y q
theorem Rimg.frm {c c' m m' : StA} {n j : Nat} (h : Rimg c m n j) (hc : ∀ x y, 23 + 11 * j ≤ x → x ≤ 33 + 11 * j → gi c' x y = gi c x y) (hm : ∀ x, x < 63 → gi m' 1 (63 * (j + 1) + x) = gi m 1 (63 * (j + 1) + x)) (ht : gi m' 0 3 = gi m 0 3) : Rimg c' m' n j := by
  obtain ⟨P, Q, S, h1, h2⟩ := h
  exact ⟨P, Q, S, h1.congr (fun y _ _ => hc _ _ (by omega) (by omega)) (fun q _ _ y _ => hc _ _ (by omega) (by omega)) (fun y _ => hc _ _ (by omega) (by omega)) (hc _ _ (by omega) (by omega)) (fun q _ _ y _ => hc _ _ (by omega) (by omega)) (hc _ _ (by omega) (by omega)) (fun q _ _ y _ => hc _ _ (by omega) (by omega)) hm ht, by rw [hc _ _ (by omega) (by omega)]; exact h2⟩
theorem Rkp.frm {c c' m m' : StA} {n : Nat} (h : Rkp c m n) (h46 : ∀ y, y < 2 → gi c' 46 y = gi c 46 y) (h3 : ∀ y, y < 2 → gi m' 3 y = gi m 3 y) (hc : ∀ x y, 23 ≤ x → x ≤ 44 → gi c' x y = gi c x y) (hm : ∀ x, 63 ≤ x → x < 189 → gi m' 1 x = gi m 1 x) (ht : gi m' 0 3 = gi m 0 3) : Rkp c' m' n := by
  intro j hj
  rw [h46 j hj, h3 j hj]
  rcases h j hj with q | ⟨q1, q2, q3⟩
  · exact Or.inl q
  · exact Or.inr ⟨q1, q2, q3.frm (fun x y a b => hc x y (by omega) (by omega)) (fun x hx => hm _ (by omega) (by omega)) ht⟩
theorem Rtp.frm {c c' m m' : StA} (h : Rtp c m) (h1 : gi c' 47 2 = gi c 47 2) (h2 : gi m' 0 10 = gi m 0 10) (h3 : ∀ j, gi c' 48 j = gi c 48 j) (h4 : ∀ j, gi c' 49 j = gi c 49 j) (h5 : ∀ j, gi m' 5 j = gi m 5 j) : Rtp c' m' := by
  obtain ⟨L, a1, a2, a3, a4⟩ := h
  exact ⟨L, a1, by rw [h1]; exact a2, by rw [h2]; exact a3, fun j hj => by rw [h3, h4, h5]; exact a4 j hj⟩
theorem Rsh.frm {c c' m m' : StA} (h : Rsh c m) (hc : ∀ x y, 51 ≤ x → x ≤ 58 → gi c' x y = gi c x y) (h8 : ∀ y, gi m' 8 y = gi m 8 y) (h9 : ∀ y, gi m' 9 y = gi m 9 y) (h10 : ∀ y, gi m' 10 y = gi m 10 y) : Rsh c' m' := by
  intro j hj
  rw [hc _ 1 (by omega) (by omega), hc _ 2 (by omega) (by omega), h8, h9]
  refine ⟨(h j hj).1, (h j hj).2.1, (h j hj).2.2.1, fun i hi => ?_⟩
  rw [hc _ i (by omega) (by omega), h10]
  exact (h j hj).2.2.2 i hi
/-- queries keep it -/
theorem RR.q {c c' m m' : StA} {n P Q S : Nat} (h : RR c m n P Q S) (hc : agQ DQc c c') (hm : agQ DQm m m') : RR c' m' n P Q S := by
  obtain ⟨h1, h2, h3, h4, h5, h6, h7⟩ := h
  have kc : ∀ x y, ¬ ((12 ≤ x ∧ x ≤ 22) ∨ 59 ≤ x) → gi c' x y = gi c x y := hc
  have km : ∀ x y, ¬ (x = 2 ∨ x = 4 ∨ x = 6 ∨ x = 7 ∨ x = 11 ∨ (x = 0 ∧ y ≠ 3 ∧ y ≠ 10 ∧ y ≠ 15 ∧ y ≠ 32)) → gi m' x y = gi m x y := hm
  exact ⟨h1.congr (fun j _ _ => kc _ _ (by omega)) (fun q _ _ j _ => kc _ _ (by omega)) (fun j _ => kc _ _ (by omega)) (kc _ _ (by omega)) (fun q _ _ j _ => kc _ _ (by omega)) (kc _ _ (by omega)) (fun q _ _ j _ => kc _ _ (by omega)) (fun x _ => km _ _ (by omega)) (km _ _ (by omega)), by rw [kc _ _ (by omega)]; exact h2, h3.frm (fun _ _ => kc _ _ (by omega)) (fun _ _ => km _ _ (by omega)) (fun _ _ _ _ => kc _ _ (by omega)) (fun _ _ _ => km _ _ (by omega)) (km _ _ (by omega)), h4.frm (kc _ _ (by omega)) (km _ _ (by omega)) (fun _ => kc _ _ (by omega)) (fun _ => kc _ _ (by omega)) (fun _ => km _ _ (by omega)), by rw [kc _ _ (by omega), km _ _ (by omega)]; exact h5, by rw [kc _ _ (by omega), km _ _ (by omega)]; exact h6, h7.frm (fun _ _ _ _ => kc _ _ (by omega)) (fun _ => km _ _ (by omega)) (fun _ => km _ _ (by omega)) (fun _ => km _ _ (by omega))⟩
theorem Fb0 {m : StA} {P : Nat} (hP : P ≤ 8) (h : gi m 0 17 = 0) : Fbit m P noF := by
  intro j hj
  rw [h, show (0 : Int32) = nI 0 from rfl, bt_get8 0 (by omega) j (by omega)]
  simp [noF]
/-- a trial is begun -/
def DTm : Nat → Nat → Prop := fun x y => x = 2 ∨ (x = 0 ∧ (y = 17 ∨ y = 18))
theorem start_rel {c m : StA} {n P Q S : Nat} (h : RR c m n P Q S) : E2 (f_X5_restartTrial c) (f_X6_starts m) (fun c' _ m' _ => TT c' m' 12 n P Q S noF ∧ gi m' 0 17 = 0 ∧ eqC (fun x _ => 12 ≤ x ∧ x ≤ 22) c c' ∧ eqC DTm m m' ∧ gi c' 12 11 = gi c 1 11) := by
  obtain ⟨h1, h2, -⟩ := h
  obtain ⟨g1, g2, g3, g4, g5, g6, g7, g8, g9⟩ := id h1
  refine E2_l ?_
  unfold f_X5_restartTrial
  refine Ev_bn (Ev_mono (e_cpFlight (k := 12) (b := 1) (n := n) (P := P) (Q := Q) fl_is12 fl_is1 (by omega) g1 g8.1 g9.1 g2 g8.2.1 g9.2.1) ?_)
  rintro c' _ ⟨a1, a2, a3, a4, a5, a6, a7, a8⟩
  refine Ev_ret (Ev_mono (e_starts m) ?_)
  rintro m' _ ⟨b1, b2, b3, b4⟩
  refine ⟨⟨?_, Fb0 g8.1 b2, b3⟩, b2, a8.mono (fun x y q => ⟨by omega, by omega⟩), b4, a1 11 (by omega) (by omega)⟩
  exact h1.congr a1 a2 a3 a4 a5 a6 a7 (fun x hx => by first | exact b1 x hx | (rw [Nat.zero_add]; exact b1 x hx)) (b4.1 0 3 (by omega))
/-! the choice -/
def Ch (c m : StA) (b : Int32) : Prop := gi c 59 1 = gi m 0 23 ∧ ((gi c 59 2 = 0 ∧ gi m 0 22 = -4) ∨ (gi c 59 2 = 1 ∧ gi c 59 0 = gi m 0 22 ∧ 0 ≤ (gi m 0 22).toInt)) ∧ (gi c 59 1).toInt ≤ b.toInt
theorem e_begin (a : Int32) (c : StA) : f_X0_beginBelow a c = some (si (si c 59 1 a) 59 2 0, ()) := rfl
theorem e_stJudge (a : Int32) (m : StA) : f_X6_startsJudging a m = some (si (si m 0 22 (-4)) 0 23 a, ()) := rfl
theorem Ch.ini {c m : StA} {a b : Int32} (h : a.toInt ≤ b.toInt) : Ch (si (si c 59 1 a) 59 2 0) (si (si m 0 22 (-4)) 0 23 a) b := by
  unfold Ch
  rw [gi_nj (show (1 : Nat) ≠ 2 by omega), gi_at, gi_at, gi_at, gi_nj (show (22 : Nat) ≠ 23 by omega), gi_at]
  exact ⟨rfl, Or.inl ⟨rfl, rfl⟩, h⟩
def DCh : Nat → Nat → Prop := fun x _ => x = 59
def DJm : Nat → Nat → Prop := fun x y => x = 0 ∧ (y = 22 ∨ y = 23)
/-- offered on both sides: much is the same, or never on both -/
theorem offer_rel {c m : StA} {B key a b : Int32} (h : Ch c m B) (hk : 0 ≤ key.toInt) (hB : B.toInt ≤ 1000000) (hab : DnR a b) : E2 (f_X0_offer key a c) (f_X6_judges key b m) (fun c' _ m' _ => Ch c' m' B ∧ eqC DCh c c' ∧ eqC DJm m m') := by
  obtain ⟨h1, h2, h3⟩ := h
  unfold f_X0_offer f_X6_judges
  rcases hab with ⟨rfl, rfl⟩ | ⟨rfl, hr⟩
  · rw [if_pos (by rw [ti_le]; have : (1000000 : Int32).toInt = 1000000 := rfl; omega), if_pos rfl]
    exact E2_ret ⟨⟨h1, h2, h3⟩, eqC.rf c, eqC.rf m⟩
  · rw [if_neg (show ¬ a = -4 by rw [ti_inj]; have : (-4 : Int32).toInt = -4 := rfl; have := hr.1; omega), h1]
    by_cases q : gi m 0 23 ≤ a
    · rw [if_pos q, if_pos q]
      exact E2_ret ⟨⟨h1, h2, h3⟩, eqC.rf c, eqC.rf m⟩
    · rw [if_neg q, if_neg q]
      unfold nms
      refine E2_ret ⟨⟨?_, Or.inr ⟨?_, ?_, ?_⟩, ?_⟩, (((eqC.rf (D := DCh) c).si rfl).si rfl).si rfl, ((eqC.rf (D := DJm) m).si ⟨rfl, Or.inl rfl⟩).si ⟨rfl, Or.inr rfl⟩⟩
      · rw [gi_nj (by omega), gi_at, gi_at]
      · rw [gi_at]
      · rw [gi_nj (by omega), gi_nj (by omega), gi_at, gi_nj (by omega), gi_at]
      · rw [gi_nj (by omega), gi_at]; exact hk
      · rw [gi_nj (by omega), gi_at]
        rw [ti_le] at q
        rw [h1] at h3
        omega
theorem answer_rel {c m : StA} {B a : Int32} (h : Ch c m B) : ∃ r, f_X0_answer a c = some (c, r) ∧ f_X6_judged a m = some (m, r) := by
  obtain ⟨h1, h2, h3⟩ := h
  unfold f_X0_answer f_X6_judged
  rcases h2 with ⟨q1, q2⟩ | ⟨q1, q2, q3⟩
  · rw [if_pos q1, if_pos q2]
    exact ⟨_, rfl, rfl⟩
  · rw [if_neg (show ¬ gi c 59 2 = 0 by rw [q1]; decide), if_neg (show ¬ gi m 0 22 = -4 by rw [ti_inj]; have : (-4 : Int32).toInt = -4 := rfl; omega), q2, h1]
    by_cases e : a = 0
    · rw [if_pos e, if_pos e]
      exact ⟨_, rfl, rfl⟩
    · rw [if_neg e, if_neg e]
      exact ⟨_, rfl, rfl⟩
theorem Ch.frm {c c' m m' : StA} {B : Int32} (h : Ch c m B) (hc : ∀ y, gi c' 59 y = gi c 59 y) (h22 : gi m' 0 22 = gi m 0 22) (h23 : gi m' 0 23 = gi m 0 23) : Ch c' m' B := by
  unfold Ch
  rw [hc, hc, hc, h22, h23]
  exact h
