/-! the text: names -/
theorem e_nameIs {s : StA} {b p k : Nat} (h7 : gi s 47 7 = nI b) (h5 : gi s 47 5 = nI p) (hbp : b ≤ p) (hp : p ≤ 160) (hk : js_n k < 100) : ∃ r : Bool, f_X3_nameIs k s = some (s, bI r) ∧ (r = true ↔ (p - b = js_n k ∧ ∀ j, j < js_n k → gi s 48 (b + j) = js_c k j)) := by
  unfold f_X3_nameIs
  rw [h5, h7, pk_sub hbp, show Int32.ofNat (js_n k) = nI (js_n k) from rfl]
  by_cases e : p - b = js_n k
  · rw [if_pos (by rw [e])]
    have hl : Ev (fl_X3_nameIs_l20 k s 0) (fun s' x => s' = s ∧ ((x = .inl () ∧ ∀ j, j < js_n k → gi s 48 (b + j) = js_c k j) ∨ (x = .inr 0 ∧ ¬ ∀ j, j < js_n k → gi s 48 (b + j) = js_c k j))) := by
      unfold fl_X3_nameIs_l20
      refine Ev_it (I := fun j s' v => s' = s ∧ ∃ i, i + j = js_n k ∧ v = nI i ∧ ∀ x, x < i → gi s 48 (b + x) = js_c k x) ?_ FU (js_n k) (FU_gt (by omega)) s 0 ⟨rfl, 0, by omega, rfl, fun x hx => absurd hx (by omega)⟩
      rintro j s' v ⟨rfl, i, hij, rfl, hx⟩
      unfold fb_X3_nameIs_l20
      rw [show Int32.ofNat (js_n k) = nI (js_n k) from rfl]
      by_cases hi : js_n k ≤ i
      · rw [if_pos (by rw [nI_le' (by omega) (by omega)]; exact hi)]
        exact Ev_ret (Or.inl ⟨_, rfl, rfl, Or.inl ⟨rfl, fun x z => hx x (by omega)⟩⟩)
      · rw [if_neg (by rw [nI_le' (by omega) (by omega)]; exact hi), h7, nI_add, gd_n (show b + i < 160 by omega) (by omega), gd_n (show i < js_n k by omega) (by omega), tn_nI (show b + i < 2147483648 by omega), tn_nI (show i < 2147483648 by omega)]
        by_cases q : gi s' 48 (b + i) = js_c k i
        · rw [if_pos q]
          refine Ev_ret (Or.inr ⟨j - 1, _, by omega, rfl, rfl, i + 1, by omega, nI_1 i, fun x z => ?_⟩)
          by_cases w : x = i
          · rw [w]; exact q
          · exact hx x (by omega)
        · rw [if_neg q]
          exact Ev_ret (Or.inl ⟨_, rfl, rfl, Or.inr ⟨rfl, fun z => q (z i (by omega))⟩⟩)
    obtain ⟨s', x, e1, rfl, ⟨rfl, q⟩ | ⟨rfl, q⟩⟩ := hl
    · rw [e1]
      exact ⟨true, rfl, fun _ => ⟨e, q⟩, fun _ => rfl⟩
    · rw [e1]
      exact ⟨false, rfl, fun z => absurd z (by decide), fun z => absurd z.2 q⟩
  · rw [if_neg (show ¬ nI (p - b) = nI (js_n k) by rw [nI_eq' (by omega) (by omega)]; exact e)]
    exact ⟨false, rfl, fun z => absurd z (by decide), fun z => absurd z.1 e⟩
theorem e_word : ∀ i, i < 7 → ∀ s, f_X3_wordOf (nI i) s = some (s, 100 + i) := by
  intro i hi s
  rcases (show i = 0 ∨ i = 1 ∨ i = 2 ∨ i = 3 ∨ i = 4 ∨ i = 5 ∨ i = 6 by omega) with rfl | rfl | rfl | rfl | rfl | rfl | rfl <;> rfl
theorem e_lineOf {s : StA} {w : Nat → Bool} (h : ∀ i, i < 7 → f_X3_nameIs (100 + i) s = some (s, bI (w i))) : ∃ k, k ≤ 7 ∧ f_X3_lineOfName s = some (s, nI k) ∧ (∀ x, x < k → w x = false) ∧ (k < 7 → w k = true) := by
  have hl : Ev (fl_X3_lineOfName_l2 s 0) (fun s' x => s' = s ∧ ((x = .inl () ∧ ∀ x, x < 7 → w x = false) ∨ ∃ k, k < 7 ∧ x = .inr (nI k) ∧ (∀ x, x < k → w x = false) ∧ w k = true)) := by
    unfold fl_X3_lineOfName_l2
    refine Ev_it (I := fun j s' v => s' = s ∧ ∃ i, i + j = 7 ∧ v = nI i ∧ ∀ x, x < i → w x = false) ?_ FU 7 (FU_gt (by omega)) s 0 ⟨rfl, 0, by omega, rfl, fun x hx => absurd hx (by omega)⟩
    rintro j s' v ⟨rfl, i, hij, rfl, hx⟩
    unfold fb_X3_lineOfName_l2
    by_cases hi : 7 ≤ i
    · rw [if_pos (show 7 ≤ nI i by rw [show (7 : Int32) = nI 7 from rfl, nI_le' (by omega) (by omega)]; exact hi)]
      exact Ev_ret (Or.inl ⟨_, rfl, rfl, Or.inl ⟨rfl, fun x z => hx x (by omega)⟩⟩)
    · rw [if_neg (show ¬ 7 ≤ nI i by rw [show (7 : Int32) = nI 7 from rfl, nI_le' (by omega) (by omega)]; exact hi), e_word i (by omega)]
      simp only [bn_so]
      unfold gst
      rw [if_pos (show 100 ≤ 100 + i ∧ 100 + i < 107 by omega), h i (by omega)]
      simp only [bn_so]
      cases q : w i
      · rw [if_pos (show bI false = 0 from rfl)]
        refine Ev_ret (Or.inr ⟨j - 1, _, by omega, rfl, rfl, i + 1, by omega, nI_1 i, fun x z => ?_⟩)
        by_cases e : x = i
        · rw [e]; exact q
        · exact hx x (by omega)
      · rw [if_neg (show ¬ bI true = 0 by decide)]
        exact Ev_ret (Or.inl ⟨_, rfl, rfl, Or.inr ⟨i, by omega, rfl, hx, q⟩⟩)
  unfold f_X3_lineOfName
  obtain ⟨s', x, e1, rfl, ⟨rfl, q⟩ | ⟨k, hk, rfl, q1, q2⟩⟩ := hl
  · rw [e1]
    exact ⟨7, by omega, rfl, q, fun z => absurd z (by omega)⟩
  · rw [e1]
    exact ⟨k, by omega, rfl, q1, fun _ => q2⟩
theorem bt_in {t : StA} {L i : Nat} (h : i < L) : bt t L i = gi t 5 i := by
  unfold bt
  rw [if_neg (by omega)]
theorem e_is {t : StA} {L b p n : Nat} (a2 a3 a4 a5 : Int32) (hL : L ≤ 160) (hp : p ≤ L) (hbp : b ≤ p) (h10 : gi t 0 10 = nI L) (h11 : gi t 0 11 = nI p) (h12 : gi t 0 12 = nI b) (hn : 4 ≤ n) (hn2 : n < 100) : ∃ r : Bool, f_X6_is (nI n) a2 a3 a4 a5 t = some (t, bI r) ∧ (r = true ↔ (p - b = n ∧ gi t 5 b = a2 ∧ gi t 5 (b + 1) = a3 ∧ gi t 5 (b + 2) = a4 ∧ gi t 5 (b + 3) = a5)) := by
  unfold f_X6_is
  rw [h11, h12, pk_sub hbp]
  have no : ∀ (p : Prop), ¬ p → (false = true ↔ p) := fun p h => ⟨fun z => absurd z (by decide), fun z => absurd z h⟩
  by_cases e : p - b = n
  · rw [if_pos (by rw [e]), e_byte hL (by omega) h10, bt_in (by omega)]
    simp only [bn_so]
    rw [h12, show nI b + 1 = nI (b + 1) from nI_1 b, e_byte hL (by omega) h10, bt_in (by omega)]
    simp only [bn_so]
    rw [h12, show nI b + 2 = nI (b + 2) from nI_add b 2, e_byte hL (by omega) h10, bt_in (by omega)]
    simp only [bn_so]
    rw [h12, show nI b + 3 = nI (b + 3) from nI_add b 3, e_byte hL (by omega) h10, bt_in (by omega)]
    simp only [bn_so]
    by_cases q2 : gi t 5 b = a2
    · rw [if_pos q2]
      by_cases q3 : gi t 5 (b + 1) = a3
      · rw [if_pos q3]
        by_cases q4 : gi t 5 (b + 2) = a4
        · rw [if_pos q4]
          by_cases q5 : gi t 5 (b + 3) = a5
          · rw [if_pos q5]
            exact ⟨true, rfl, fun _ => ⟨e, q2, q3, q4, q5⟩, fun _ => rfl⟩
          · rw [if_neg q5]
            exact ⟨false, rfl, no _ (fun z => q5 z.2.2.2.2)⟩
        · rw [if_neg q4]
          exact ⟨false, rfl, no _ (fun z => q4 z.2.2.2.1)⟩
      · rw [if_neg q3]
        exact ⟨false, rfl, no _ (fun z => q3 z.2.2.1)⟩
    · rw [if_neg q2]
      exact ⟨false, rfl, no _ (fun z => q2 z.2.1)⟩
  · rw [if_neg (show ¬ nI (p - b) = nI n by rw [nI_eq' (by omega) (by omega)]; exact e)]
    exact ⟨false, rfl, no _ (fun z => e z.1)⟩
theorem e_ends5 {t : StA} {L b : Nat} (a : Int32) (hL : L ≤ 160) (hb : b + 5 ≤ L) (h10 : gi t 0 10 = nI L) (h12 : gi t 0 12 = nI b) : ∃ r : Bool, f_X6_ends a 0 t = some (t, bI r) ∧ (r = true ↔ gi t 5 (b + 4) = a) := by
  unfold f_X6_ends
  rw [h12, show (4 : Int32) = nI 4 from rfl, nI_add, e_byte hL (by omega) h10, bt_in (by omega)]
  simp only [bn_so]
  by_cases e : gi t 5 (b + 4) = a
  · rw [if_pos e]
    exact ⟨true, rfl, fun _ => e, fun _ => rfl⟩
  · rw [if_neg e]
    exact ⟨false, rfl, fun z => absurd z (by decide), fun z => absurd z e⟩
theorem e_ends6 {t : StA} {L b : Nat} (a c : Int32) (hc : ¬ c = 0) (hL : L ≤ 160) (hb : b + 6 ≤ L) (h10 : gi t 0 10 = nI L) (h12 : gi t 0 12 = nI b) : ∃ r : Bool, f_X6_ends a c t = some (t, bI r) ∧ (r = true ↔ (gi t 5 (b + 4) = a ∧ gi t 5 (b + 5) = c)) := by
  unfold f_X6_ends
  rw [h12, show (4 : Int32) = nI 4 from rfl, nI_add, e_byte hL (by omega) h10, bt_in (by omega)]
  simp only [bn_so]
  rw [h12, show (5 : Int32) = nI 5 from rfl, nI_add, e_byte hL (by omega) h10, bt_in (by omega)]
  simp only [bn_so]
  by_cases e : gi t 5 (b + 4) = a
  · rw [if_pos e, if_neg hc]
    by_cases e2 : gi t 5 (b + 5) = c
    · rw [if_pos e2]
      exact ⟨true, rfl, fun _ => ⟨e, e2⟩, fun _ => rfl⟩
    · rw [if_neg e2]
      exact ⟨false, rfl, fun z => absurd z (by decide), fun z => absurd z.2 e2⟩
  · rw [if_neg e]
    exact ⟨false, rfl, fun z => absurd z (by decide), fun z => absurd z.1 e⟩
theorem fa4 {f : Nat → Prop} : (∀ j, j < 4 → f j) ↔ (f 0 ∧ f 1 ∧ f 2 ∧ f 3) := ⟨fun h => ⟨h 0 (by omega), h 1 (by omega), h 2 (by omega), h 3 (by omega)⟩, fun h j hj => by
  rcases (show j = 0 ∨ j = 1 ∨ j = 2 ∨ j = 3 by omega) with rfl | rfl | rfl | rfl
  · exact h.1
  · exact h.2.1
  · exact h.2.2.1
  · exact h.2.2.2⟩
theorem fa5 {f : Nat → Prop} : (∀ j, j < 5 → f j) ↔ (f 0 ∧ f 1 ∧ f 2 ∧ f 3) ∧ f 4 := ⟨fun h => ⟨fa4.mp (fun j hj => h j (by omega)), h 4 (by omega)⟩, fun h j hj => by
  by_cases e : j = 4
  · rw [e]; exact h.2
  · exact fa4.mpr h.1 j (by omega)⟩
theorem fa6 {f : Nat → Prop} : (∀ j, j < 6 → f j) ↔ (f 0 ∧ f 1 ∧ f 2 ∧ f 3) ∧ f 4 ∧ f 5 := ⟨fun h => ⟨fa4.mp (fun j hj => h j (by omega)), h 4 (by omega), h 5 (by omega)⟩, fun h j hj => by
  by_cases e : j = 5
  · rw [e]; exact h.2.2
  · exact fa5.mpr ⟨h.1, h.2.1⟩ j (by omega)⟩
theorem bb {a b : Bool} {p : Prop} (h1 : a = true ↔ p) (h2 : b = true ↔ p) : a = b := by
  rw [← h2] at h1
  cases a <;> cases b <;> simp_all
theorem w4 {s t : StA} {L b p k : Nat} {r r' : Bool} {c0 c1 c2 c3 : Int32} (hb : ∀ j, j < L → gi s 48 j = gi t 5 j) (hp : p ≤ L) (hbp : b ≤ p) (hn : js_n k = 4) (h0 : js_c k 0 = c0) (h1 : js_c k 1 = c1) (h2 : js_c k 2 = c2) (h3 : js_c k 3 = c3) (hr : r = true ↔ (p - b = js_n k ∧ ∀ j, j < js_n k → gi s 48 (b + j) = js_c k j)) (hr' : r' = true ↔ (p - b = 4 ∧ gi t 5 b = c0 ∧ gi t 5 (b + 1) = c1 ∧ gi t 5 (b + 2) = c2 ∧ gi t 5 (b + 3) = c3)) : r' = r := by
  refine bb hr' (hr.trans ?_)
  rw [hn, fa4, h0, h1, h2, h3]
  constructor
  · rintro ⟨e, q⟩
    rw [hb _ (by omega), hb _ (by omega), hb _ (by omega), hb _ (by omega)] at q
    exact ⟨e, q⟩
  · rintro ⟨e, q⟩
    rw [hb _ (by omega), hb _ (by omega), hb _ (by omega), hb _ (by omega)]
    exact ⟨e, q⟩
theorem line_now {s t : StA} {L b p : Nat} (h : TK s t L b p 1) : ∃ k, k ≤ 7 ∧ f_X3_lineOfName s = some (s, nI k) ∧ f_X6_lineNow t = some (t, if k = 7 then -4 else nI k) := by
  obtain ⟨⟨⟨hL, -, h10, hb⟩, hp, h5, h11, -, -⟩, hbp, h7, h12, -⟩ := h
  have hbt : ∀ j, j < L → gi s 48 j = gi t 5 j := fun j hj => (hb j hj).1
  have nm : ∀ k, js_n k < 100 → ∃ r : Bool, f_X3_nameIs k s = some (s, bI r) ∧ (r = true ↔ (p - b = js_n k ∧ ∀ j, j < js_n k → gi s 48 (b + j) = js_c k j)) := fun k hk => e_nameIs h7 h5 hbp (by omega) hk
  obtain ⟨r0, n0, m0⟩ := nm 100 (by decide)
  obtain ⟨r1, n1, m1⟩ := nm 101 (by decide)
  obtain ⟨r2, n2, m2⟩ := nm 102 (by decide)
  obtain ⟨r3, n3, m3⟩ := nm 103 (by decide)
  obtain ⟨r4, n4, m4⟩ := nm 104 (by decide)
  obtain ⟨r5, n5, m5⟩ := nm 105 (by decide)
  obtain ⟨r6, n6, m6⟩ := nm 106 (by decide)
  obtain ⟨k, hk, ek, hk1, hk2⟩ := e_lineOf (s := s) (w := fun i => if i = 0 then r0 else if i = 1 then r1 else if i = 2 then r2 else if i = 3 then r3 else if i = 4 then r4 else if i = 5 then r5 else r6) (fun i hi => by
    rcases (show i = 0 ∨ i = 1 ∨ i = 2 ∨ i = 3 ∨ i = 4 ∨ i = 5 ∨ i = 6 by omega) with rfl | rfl | rfl | rfl | rfl | rfl | rfl
    · exact n0
    · exact n1
    · exact n2
    · exact n3
    · exact n4
    · exact n5
    · exact n6)
  refine ⟨k, hk, ek, ?_⟩
  -- the reference
  have is4 := fun (k : Nat) (c0 c1 c2 c3 : Int32) => e_is (t := t) (n := 4) c0 c1 c2 c3 hL hp hbp h10 h11 h12 (by omega) (by omega)
  obtain ⟨i1, e1, f1⟩ := is4 0 116 97 99 116
  obtain ⟨i3, e3, f3⟩ := is4 0 106 111 107 101
  obtain ⟨i4, e4, f4⟩ := is4 0 119 105 110 100
  obtain ⟨i5, e5, f5⟩ := is4 0 114 97 116 101
  have q1 : i1 = r1 := w4 hbt hp hbp rfl (by decide) (by decide) (by decide) (by decide) m1 f1
  have q3 : i3 = r3 := w4 hbt hp hbp rfl (by decide) (by decide) (by decide) (by decide) m3 f3
  have q4 : i4 = r4 := w4 hbt hp hbp rfl (by decide) (by decide) (by decide) (by decide) m4 f4
  have q5 : i5 = r5 := w4 hbt hp hbp rfl (by decide) (by decide) (by decide) (by decide) m5 f5
  subst q1 q3 q4 q5
  obtain ⟨i0, e0, f0⟩ := e_is (t := t) (n := 5) 112 108 97 105 hL hp hbp h10 h11 h12 (by omega) (by omega)
  obtain ⟨i2, e2, f2⟩ := e_is (t := t) (n := 6) 115 101 99 114 hL hp hbp h10 h11 h12 (by omega) (by omega)
  obtain ⟨i6, e6, f6⟩ := e_is (t := t) (n := 5) 115 116 97 114 hL hp hbp h10 h11 h12 (by omega) (by omega)
  have g0 : ∀ K : StA → Option (StA × Int32), bn (f_X6_is 5 112 108 97 105 t) (fun s1 r2 => if r2 = 0 then K s1 else bn (f_X6_ends 110 0 s1) (fun s28 r29 => if r29 = 0 then K s28 else some (s28, 0))) = if r0 = true then some (t, 0) else K t := by
    intro K
    rw [show f_X6_is 5 112 108 97 105 t = _ from e0]
    simp only [bn_so]
    cases i0
    · have z : r0 = false := by
        cases r0
        · rfl
        · obtain ⟨z1, z2⟩ := m0.mp rfl
          rw [show js_n 100 = 5 from rfl, fa5] at z2
          refine absurd (f0.mpr ⟨z1, ?_⟩) (by decide)
          rw [hbt _ (by have : p - b = 5 := z1; omega), hbt _ (by have : p - b = 5 := z1; omega), hbt _ (by have : p - b = 5 := z1; omega), hbt _ (by have : p - b = 5 := z1; omega)] at z2
          exact z2.1
      rw [z, if_pos (show bI false = 0 from rfl)]
      rfl
    · obtain ⟨z1, z2⟩ := f0.mp rfl
      rw [if_neg (show ¬ bI true = 0 by decide)]
      obtain ⟨y, e, f⟩ := e_ends5 (t := t) (b := b) 110 hL (by omega) h10 h12
      rw [e]
      simp only [bn_so]
      have z : y = r0 := by
        refine bb f (m0.trans ?_)
        rw [show js_n 100 = 5 from rfl, fa5, hbt _ (by omega), hbt _ (by omega), hbt _ (by omega), hbt _ (by omega), hbt _ (by omega)]
        exact ⟨fun w => w.2.2, fun w => ⟨z1, z2, w⟩⟩
      subst z
      cases y
      · rfl
      · rfl
  have g2 : ∀ K : StA → Option (StA × Int32), bn (f_X6_is 6 115 101 99 114 t) (fun s7 r8 => if r8 = 0 then K s7 else bn (f_X6_ends 101 116 s7) (fun s25 r26 => if r26 = 0 then K s25 else some (s25, 2))) = if r2 = true then some (t, 2) else K t := by
    intro K
    rw [show f_X6_is 6 115 101 99 114 t = _ from e2]
    simp only [bn_so]
    cases i2
    · have z : r2 = false := by
        cases r2
        · rfl
        · obtain ⟨z1, z2⟩ := m2.mp rfl
          rw [show js_n 102 = 6 from rfl, fa6] at z2
          refine absurd (f2.mpr ⟨z1, ?_⟩) (by decide)
          rw [hbt _ (by have : p - b = 6 := z1; omega), hbt _ (by have : p - b = 6 := z1; omega), hbt _ (by have : p - b = 6 := z1; omega), hbt _ (by have : p - b = 6 := z1; omega)] at z2
          exact z2.1
      rw [z, if_pos (show bI false = 0 from rfl)]
      rfl
    · obtain ⟨z1, z2⟩ := f2.mp rfl
      rw [if_neg (show ¬ bI true = 0 by decide)]
      obtain ⟨y, e, f⟩ := e_ends6 (t := t) (b := b) 101 116 (by decide) hL (by omega) h10 h12
      rw [e]
      simp only [bn_so]
      have z : y = r2 := by
        refine bb f (m2.trans ?_)
        rw [show js_n 102 = 6 from rfl, fa6, hbt _ (by omega), hbt _ (by omega), hbt _ (by omega), hbt _ (by omega), hbt _ (by omega), hbt _ (by omega)]
        exact ⟨fun w => w.2.2, fun w => ⟨z1, z2, w⟩⟩
      subst z
      cases y
      · rfl
      · rfl
  have g6 : bn (f_X6_is 5 115 116 97 114 t) (fun s19 r20 => (if r20 = 0 then some (s19, (-4 : Int32)) else bn (f_X6_ends 116 0 s19) (fun s22 r23 => (if r23 = 0 then some (s22, (-4)) else some (s22, 6))))) = if r6 = true then some (t, 6) else some (t, -4) := by
    rw [show f_X6_is 5 115 116 97 114 t = _ from e6]
    simp only [bn_so]
    cases i6
    · have z : r6 = false := by
        cases r6
        · rfl
        · obtain ⟨z1, z2⟩ := m6.mp rfl
          rw [show js_n 106 = 5 from rfl, fa5] at z2
          refine absurd (f6.mpr ⟨z1, ?_⟩) (by decide)
          rw [hbt _ (by have : p - b = 5 := z1; omega), hbt _ (by have : p - b = 5 := z1; omega), hbt _ (by have : p - b = 5 := z1; omega), hbt _ (by have : p - b = 5 := z1; omega)] at z2
          exact z2.1
      rw [z, if_pos (show bI false = 0 from rfl)]
      rfl
    · obtain ⟨z1, z2⟩ := f6.mp rfl
      rw [if_neg (show ¬ bI true = 0 by decide)]
      obtain ⟨y, e, f⟩ := e_ends5 (t := t) (b := b) 116 hL (by omega) h10 h12
      rw [e]
      simp only [bn_so]
      have z : y = r6 := by
        refine bb f (m6.trans ?_)
        rw [show js_n 106 = 5 from rfl, fa5, hbt _ (by omega), hbt _ (by omega), hbt _ (by omega), hbt _ (by omega), hbt _ (by omega)]
        exact ⟨fun w => w.2.2, fun w => ⟨z1, z2, w⟩⟩
      subst z
      cases y
      · rfl
      · rfl
  have j76 : fj_X6_lineNow_j76 t = if i3 = true then some (t, 3) else if i4 = true then some (t, 4) else if i5 = true then some (t, 5) else if r6 = true then some (t, 6) else some (t, -4) := by
    unfold fj_X6_lineNow_j76
    rw [show f_X6_is 4 106 111 107 101 t = _ from e3]
    simp only [bn_so]
    rw [show f_X6_is 4 119 105 110 100 t = _ from e4]
    simp only [bn_so]
    rw [show f_X6_is 4 114 97 116 101 t = _ from e5]
    simp only [bn_so]
    rw [g6]
    cases i3 <;> cases i4 <;> cases i5 <;> rfl
  have j28 : fj_X6_lineNow_j28 t = if i1 = true then some (t, 1) else if r2 = true then some (t, 2) else fj_X6_lineNow_j76 t := by
    unfold fj_X6_lineNow_j28
    rw [show f_X6_is 4 116 97 99 116 t = _ from e1]
    simp only [bn_so]
    rw [g2]
    cases i1 <;> rfl
  have tot : f_X6_lineNow t = if r0 = true then some (t, 0) else fj_X6_lineNow_j28 t := by
    unfold f_X6_lineNow
    exact g0 _
  rw [tot, j28, j76]
  have hw : ∀ x, x < k → (if x = 0 then r0 else if x = 1 then i1 else if x = 2 then r2 else if x = 3 then i3 else if x = 4 then i4 else if x = 5 then i5 else r6) = false := hk1
  have hw2 : k < 7 → (if k = 0 then r0 else if k = 1 then i1 else if k = 2 then r2 else if k = 3 then i3 else if k = 4 then i4 else if k = 5 then i5 else r6) = true := hk2
  have y0 : 0 < k → r0 = false := fun z => hw 0 z
  have y1 : 1 < k → i1 = false := fun z => hw 1 z
  have y2 : 2 < k → r2 = false := fun z => hw 2 z
  have y3 : 3 < k → i3 = false := fun z => hw 3 z
  have y4 : 4 < k → i4 = false := fun z => hw 4 z
  have y5 : 5 < k → i5 = false := fun z => hw 5 z
  have y6 : 6 < k → r6 = false := fun z => hw 6 z
  rcases (show k = 0 ∨ k = 1 ∨ k = 2 ∨ k = 3 ∨ k = 4 ∨ k = 5 ∨ k = 6 ∨ k = 7 by omega) with rfl | rfl | rfl | rfl | rfl | rfl | rfl | rfl
  · have z : r0 = true := hw2 (by omega)
    rw [z]; rfl
  · have z : i1 = true := hw2 (by omega)
    rw [y0 (by omega), z]; rfl
  · have z : r2 = true := hw2 (by omega)
    rw [y0 (by omega), y1 (by omega), z]; rfl
  · have z : i3 = true := hw2 (by omega)
    rw [y0 (by omega), y1 (by omega), y2 (by omega), z]; rfl
  · have z : i4 = true := hw2 (by omega)
    rw [y0 (by omega), y1 (by omega), y2 (by omega), y3 (by omega), z]; rfl
  · have z : i5 = true := hw2 (by omega)
    rw [y0 (by omega), y1 (by omega), y2 (by omega), y3 (by omega), y4 (by omega), z]; rfl
  · have z : r6 = true := hw2 (by omega)
    rw [y0 (by omega), y1 (by omega), y2 (by omega), y3 (by omega), y4 (by omega), y5 (by omega), z]; rfl
  · rw [y0 (by omega), y1 (by omega), y2 (by omega), y3 (by omega), y4 (by omega), y5 (by omega), y6 (by omega)]; rfl
