/-! copies -/
theorem gi_at (s : StA) (k j : Nat) (v : Int32) : gi (si s k j v) k j = v := by rw [gi_si, if_pos ⟨rfl, rfl⟩]
theorem gi_nk {s : StA} {k j a b : Nat} {v : Int32} (h : a ≠ k) : gi (si s k j v) a b = gi s a b := by rw [gi_si, if_neg (fun q => h q.1)]
theorem gi_nj {s : StA} {k j a b : Nat} {v : Int32} (h : b ≠ j) : gi (si s k j v) a b = gi s a b := by rw [gi_si, if_neg (fun q => h q.2)]
theorem cp_loop {b : StA → Int32 → Option (StA × (Int32 ⊕ Unit))} {A B o p N : Nat} (hN : N < 100000) (h1 : ∀ s i, i < N → b s (nI i) = some (si s A (o + i) (gi s B (p + i)), .inl (nI (i + 1)))) (h2 : ∀ s, b s (nI N) = some (s, .inr ())) (hd : A ≠ B ∨ o + N ≤ p ∨ p + N ≤ o) (c : StA) : Ev (it b FU c 0) (fun c' _ => (∀ i, i < N → gi c' A (o + i) = gi c B (p + i)) ∧ eqC (fun x y => x = A ∧ o ≤ y ∧ y < o + N) c c') := by
  refine Ev_it (I := fun j s v => ∃ i, i + j = N ∧ v = nI i ∧ (∀ q, q < i → gi s A (o + q) = gi c B (p + q)) ∧ eqC (fun x y => x = A ∧ o ≤ y ∧ y < o + N) c s) ?_ FU N (FU_gt (by omega)) c 0 ⟨0, by omega, rfl, fun q hq => absurd hq (by omega), eqC.rf c⟩
  rintro j s v ⟨i, hij, rfl, hq, he⟩
  by_cases hi : i < N
  · rw [h1 s i hi]
    refine Ev_ret (Or.inr ⟨j - 1, _, by omega, rfl, i + 1, by omega, rfl, fun q hq2 => ?_, he.si ⟨rfl, by omega, by omega⟩⟩)
    by_cases e : q = i
    · subst e
      rw [gi_at]
      exact he.1 B (p + q) (by omega)
    · rw [gi_nj (by omega)]
      exact hq q (by omega)
  · have e : i = N := by omega
    subst e
    rw [h2 s]
    exact Ev_ret (Or.inl ⟨(), rfl, hq, he⟩)
theorem nI_lit (n : Nat) : nI n = Int32.ofNat n := rfl
/-- starts(): the row 2 is the row 1's first 63 -/
theorem e_starts (m : StA) : Ev (f_X6_starts m) (fun m' _ => (∀ i, i < 63 → gi m' 2 i = gi m 1 i) ∧ gi m' 0 17 = 0 ∧ gi m' 0 18 = -4 ∧ eqC (fun x y => x = 2 ∨ (x = 0 ∧ (y = 17 ∨ y = 18))) m m') := by
  unfold f_X6_starts fl_X6_starts_l2
  refine Ev_bn (Ev_mono (cp_loop (A := 2) (B := 1) (o := 0) (p := 0) (N := 63) (by omega) (fun s i hi => ?_) (fun s => ?_) (Or.inl (by omega)) m) ?_)
  · show fb_X6_starts_l2 s (nI i) = _
    unfold fb_X6_starts_l2
    rw [if_neg (by rw [show (63 : Int32) = nI 63 from rfl, nI_le' (by omega) (by omega)]; omega), gd_n (by omega) (by omega), gd_n (by omega) (by omega), tn_nI (by omega), nI_1, Nat.zero_add]
    rfl
  · rfl
  · rintro s e ⟨h1, h2⟩
    refine Ev_nms (Ev_nms (Ev_ret ⟨fun i hi => ?_, ?_, ?_, ?_⟩))
    · rw [gi_nk (by omega), gi_nk (by omega)]
      have := h1 i hi
      rw [Nat.zero_add] at this
      exact this
    · rw [gi_nj (by omega), gi_at]
    · rw [gi_at]
    · exact ((h2.mono (fun x y q => Or.inl q.1)).si (Or.inr ⟨rfl, Or.inl rfl⟩)).si (Or.inr ⟨rfl, Or.inr rfl⟩)
/-- settles() -/
theorem e_settles (m : StA) : Ev (f_X6_settles m) (fun m' _ => (∀ i, i < 63 → gi m' 1 i = gi m 2 i) ∧ eqC (fun x y => x = 1 ∧ y < 63) m m') := by
  unfold f_X6_settles fl_X6_settles_l2
  refine Ev_bn (Ev_mono (cp_loop (A := 1) (B := 2) (o := 0) (p := 0) (N := 63) (by omega) (fun s i hi => ?_) (fun s => ?_) (Or.inl (by omega)) m) ?_)
  · show fb_X6_settles_l2 s (nI i) = _
    unfold fb_X6_settles_l2
    rw [if_neg (by rw [show (63 : Int32) = nI 63 from rfl, nI_le' (by omega) (by omega)]; omega), gd_n (by omega) (by omega), gd_n (by omega) (by omega), tn_nI (by omega), nI_1, Nat.zero_add]
    rfl
  · rfl
  · rintro s e ⟨h1, h2⟩
    refine Ev_ret ⟨fun i hi => ?_, h2.mono (fun x y q => ⟨q.1, by omega⟩)⟩
    have := h1 i hi
    rw [Nat.zero_add] at this
    exact this
/-- copies(to, source) -/
theorem e_copies {o p : Nat} (ho : o + 63 ≤ 189) (hp : p + 63 ≤ 189) (hd : o + 63 ≤ p ∨ p + 63 ≤ o) (m : StA) : Ev (f_X6_copies (nI o) (nI p) m) (fun m' _ => (∀ i, i < 63 → gi m' 1 (o + i) = gi m 1 (p + i)) ∧ eqC (fun x y => x = 1 ∧ o ≤ y ∧ y < o + 63) m m') := by
  unfold f_X6_copies fl_X6_copies_l2
  refine Ev_bn (Ev_mono (cp_loop (A := 1) (B := 1) (o := o) (p := p) (N := 63) (by omega) (fun s i hi => ?_) (fun s => ?_) (Or.inr hd) m) ?_)
  · show fb_X6_copies_l2 (nI o) (nI p) (nI o) (nI p) s (nI i) = _
    unfold fb_X6_copies_l2
    rw [if_neg (by rw [show (63 : Int32) = nI 63 from rfl, nI_le' (by omega) (by omega)]; omega), nI_add, nI_add, gd_n (by omega) (by omega), gd_n (by omega) (by omega), tn_nI (by omega), tn_nI (by omega), nI_1]
    rfl
  · rfl
  · rintro s e ⟨h1, h2⟩
    exact Ev_ret ⟨h1, h2⟩
/-- one Pairs copied from another -/
theorem e_cpPairs {k b N p : Nat} (hp : p ≤ 8) (hk : pr_n k = N) (hb : pr_n b = N) (hN : p ≤ N) (hd : k + 3 ≤ b ∨ b + 3 ≤ k) {c : StA} (hs : gi c b 2 = nI p) : Ev (f_X2_copyFrom k b c) (fun c' _ => gi c' k 2 = nI p ∧ (∀ i, i < p → gi c' (k + 1) i = gi c (b + 1) i ∧ gi c' (k + 2) i = gi c (b + 2) i) ∧ eqC (fun x _ => k ≤ x ∧ x ≤ k + 2) c c') := by
  have hN8 : N < 1000000 := by rw [← hk]; unfold pr_n; split <;> omega
  unfold f_X2_copyFrom
  refine Ev_nms ?_
  rw [hs]
  unfold fl_X2_copyFrom_l10
  refine Ev_bn (Ev_mono (Ev_it (I := fun j s v => ∃ i, i + j = p ∧ v = nI i ∧ gi s k 2 = nI p ∧ (∀ q, q < i → gi s (k + 1) q = gi c (b + 1) q ∧ gi s (k + 2) q = gi c (b + 2) q) ∧ eqC (fun x _ => k ≤ x ∧ x ≤ k + 2) c s) (Z := fun s _ => gi s k 2 = nI p ∧ (∀ q, q < p → gi s (k + 1) q = gi c (b + 1) q ∧ gi s (k + 2) q = gi c (b + 2) q) ∧ eqC (fun x _ => k ≤ x ∧ x ≤ k + 2) c s) ?_ FU p (FU_gt (by omega)) _ 0 ⟨0, by omega, rfl, by rw [gi_at], fun q hq => absurd hq (by omega), (eqC.rf c).si ⟨by omega, by omega⟩⟩) ?_)
  · rintro j s v ⟨i, hij, rfl, h2, hq, he⟩
    unfold fb_X2_copyFrom_l10
    rw [h2, hk, hb]
    refine Ev_ite (fun q => ?_) (fun q => ?_)
    · rw [nI_le' (by omega) (by omega)] at q
      have e : i = p := by omega
      subst e
      exact Ev_ret (Or.inl ⟨(), rfl, h2, hq, he⟩)
    · rw [nI_le' (by omega) (by omega)] at q
      have hi : i < N := by omega
      rw [gd_n hi hN8, gd_n hi hN8, tn_nI (by omega), nI_1]
      refine Ev_nms ?_
      rw [gd_n hi hN8, gd_n hi hN8]
      refine Ev_nms (Ev_ret (Or.inr ⟨j - 1, _, by omega, rfl, i + 1, by omega, rfl, ?_, fun q hq2 => ?_, ?_⟩))
      · rw [gi_nk (by omega), gi_nk (by omega)]; exact h2
      · by_cases e : q = i
        · subst e
          refine ⟨?_, ?_⟩
          · rw [gi_nk (by omega), gi_at]; exact he.1 _ _ (by omega)
          · rw [gi_at, gi_nk (by omega)]; exact he.1 _ _ (by omega)
        · rw [gi_nk (by omega), gi_nj (by omega), gi_nj (by omega), gi_nk (by omega)]
          exact hq q (by omega)
      · exact (he.si ⟨by omega, by omega⟩).si ⟨by omega, by omega⟩
  · rintro s e ⟨h1, h2, h3⟩
    exact Ev_ret ⟨h1, h2, h3⟩
theorem fl_pn {k : Nat} (h : isFl k) : pr_n (k + 5) = 8 ∧ pr_n (k + 8) = 6 := by
  rcases h with rfl | rfl | rfl | rfl <;> exact ⟨rfl, rfl⟩
/-- one flight copied from another -/
theorem e_cpFlight {k b n P Q : Nat} (hk : isFl k) (hb : isFl b) (hkb : k ≠ b) (hn : n ≤ 6) (hP : P ≤ 8) (hQ : Q ≤ 6) {c : StA} (h6 : gi c b 6 = nI n) (h5 : gi c (b + 5) 2 = nI P) (h8 : gi c (b + 8) 2 = nI Q) : Ev (f_X1_copyFrom k b c) (fun c' _ => (∀ j, 6 ≤ j → j ≤ 11 → gi c' k j = gi c b j) ∧ (∀ q, 1 ≤ q → q ≤ 3 → ∀ j, j < n → gi c' (k + q) j = gi c (b + q) j) ∧ (∀ j, j < 5 → gi c' (k + 4) j = gi c (b + 4) j) ∧ gi c' (k + 5) 2 = gi c (b + 5) 2 ∧ (∀ q, 6 ≤ q → q ≤ 7 → ∀ j, j < P → gi c' (k + q) j = gi c (b + q) j) ∧ gi c' (k + 8) 2 = gi c (b + 8) 2 ∧ (∀ q, 9 ≤ q → q ≤ 10 → ∀ j, j < Q → gi c' (k + q) j = gi c (b + q) j) ∧ eqC (fun x _ => k ≤ x ∧ x ≤ k + 10) c c') := by
  have hd : k + 11 ≤ b ∨ b + 11 ≤ k := by
    rcases hk with rfl | rfl | rfl | rfl <;> rcases hb with rfl | rfl | rfl | rfl <;> omega
  unfold f_X1_copyFrom
  refine Ev_nms ?_
  rw [h6]
  unfold fl_X1_copyFrom_l10
  refine Ev_bn (Ev_mono (Ev_it (I := fun j s v => ∃ i, i + j = n ∧ v = nI i ∧ gi s k 6 = nI n ∧ (∀ q, 1 ≤ q → q ≤ 3 → ∀ x, x < i → gi s (k + q) x = gi c (b + q) x) ∧ eqC (fun x _ => k ≤ x ∧ x ≤ k + 10) c s) (Z := fun s _ => gi s k 6 = nI n ∧ (∀ q, 1 ≤ q → q ≤ 3 → ∀ x, x < n → gi s (k + q) x = gi c (b + q) x) ∧ eqC (fun x _ => k ≤ x ∧ x ≤ k + 10) c s) ?_ FU n (FU_gt (by omega)) _ 0 ⟨0, by omega, rfl, by rw [gi_at], fun _ _ _ q hq => absurd hq (by omega), (eqC.rf c).si ⟨by omega, by omega⟩⟩) ?_)
  · rintro j s v ⟨i, hij, rfl, h2, hq, he⟩
    unfold fb_X1_copyFrom_l10
    rw [h2]
    refine Ev_ite (fun q => ?_) (fun q => ?_)
    · rw [nI_le' (by omega) (by omega)] at q
      have e : i = n := by omega
      subst e
      exact Ev_ret (Or.inl ⟨(), rfl, h2, hq, he⟩)
    · rw [nI_le' (by omega) (by omega)] at q
      have hi : i < 6 := by omega
      have hg : ∀ {β : Type} {z : Option β}, gd (nI i) 6 z = z := gd_n hi (by omega)
      rw [hg, hg, tn_nI (by omega), nI_1]
      refine Ev_nms ?_
      rw [hg, hg]
      refine Ev_nms ?_
      rw [hg, hg]
      refine Ev_nms (Ev_ret (Or.inr ⟨j - 1, _, by omega, rfl, i + 1, by omega, rfl, ?_, fun qq q1 q2 x hx => ?_, ?_⟩))
      · rw [gi_nk (by omega), gi_nk (by omega), gi_nk (by omega)]; exact h2
      · by_cases e : x = i
        · subst e
          rcases (show qq = 1 ∨ qq = 2 ∨ qq = 3 by omega) with rfl | rfl | rfl
          · rw [gi_nk (by omega), gi_nk (by omega), gi_at]; exact he.1 _ _ (by omega)
          · rw [gi_nk (by omega), gi_at, gi_nk (by omega)]; exact he.1 _ _ (by omega)
          · rw [gi_at, gi_nk (by omega), gi_nk (by omega)]; exact he.1 _ _ (by omega)
        · rw [gi_nj (by omega), gi_nj (by omega), gi_nj (by omega)]
          exact hq qq q1 q2 x (by omega)
      · exact ((he.si ⟨by omega, by omega⟩).si ⟨by omega, by omega⟩).si ⟨by omega, by omega⟩
  · rintro s1 _ ⟨a1, a2, a3⟩
    unfold fl_X1_copyFrom_l62
    refine Ev_bn (Ev_mono (cp_loop (A := k + 4) (B := b + 4) (o := 0) (p := 0) (N := 5) (by omega) (fun s i hi => ?_) (fun s => ?_) (Or.inl (by omega)) s1) ?_)
    · show fb_X1_copyFrom_l62 k b s (nI i) = _
      unfold fb_X1_copyFrom_l62
      rw [if_neg (by rw [show (5 : Int32) = nI 5 from rfl, nI_le' (by omega) (by omega)]; omega), gd_n (by omega) (by omega), gd_n (by omega) (by omega), tn_nI (by omega), nI_1, Nat.zero_add]
      rfl
    · rfl
    rintro s2 _ ⟨b1, b2⟩
    have b1' : ∀ i, i < 5 → gi s2 (k + 4) i = gi c (b + 4) i := fun i hi => by
      have := b1 i hi
      rw [Nat.zero_add] at this
      rw [this]
      exact a3.1 _ _ (by omega)
    have c2 : ∀ x y, ¬ (k ≤ x ∧ x ≤ k + 10) → gi s2 x y = gi c x y := fun x y q => by rw [b2.1 x y (by omega)]; exact a3.1 x y q
    refine Ev_bn (Ev_mono (e_cpPairs (k := k + 5) (b := b + 5) (p := P) hP (fl_pn hk).1 (fl_pn hb).1 (by omega) (by omega) (by rw [c2 _ _ (by omega)]; exact h5)) ?_)
    rintro s3 _ ⟨d1, d2, d3⟩
    refine Ev_bn (Ev_mono (e_cpPairs (k := k + 8) (b := b + 8) (p := Q) (by omega) (fl_pn hk).2 (fl_pn hb).2 (by omega) (by omega) (by rw [d3.1 _ _ (by omega), c2 _ _ (by omega)]; exact h8)) ?_)
    rintro s4 _ ⟨f1, f2, f3⟩
    have c4 : ∀ x y, ¬ (k ≤ x ∧ x ≤ k + 10) → gi s4 x y = gi c x y := fun x y q => by rw [f3.1 x y (by omega), d3.1 x y (by omega)]; exact c2 x y q
    refine Ev_nms (Ev_nms (Ev_nms (Ev_nms (Ev_nms (Ev_ret ⟨?_, ?_, ?_, ?_, ?_, ?_, ?_, ?_⟩)))))
    · have k4 : ∀ y, gi s4 b y = gi c b y := fun y => c4 b y (by omega)
      intro j j1 j2
      rcases (show j = 6 ∨ j = 7 ∨ j = 8 ∨ j = 9 ∨ j = 10 ∨ j = 11 by omega) with rfl | rfl | rfl | rfl | rfl | rfl
      · rw [gi_nj (by omega), gi_nj (by omega), gi_nj (by omega), gi_nj (by omega), gi_nj (by omega), f3.1 _ _ (by omega), d3.1 _ _ (by omega), b2.1 _ _ (by omega), a1, h6]
      · rw [gi_nj (by omega), gi_nj (by omega), gi_nj (by omega), gi_nj (by omega), gi_at, k4]
      · rw [gi_nj (by omega), gi_nj (by omega), gi_nj (by omega), gi_at, gi_nk (by omega), k4]
      · rw [gi_nj (by omega), gi_nj (by omega), gi_at, gi_nk (by omega), gi_nk (by omega), k4]
      · rw [gi_nj (by omega), gi_at, gi_nk (by omega), gi_nk (by omega), gi_nk (by omega), k4]
      · rw [gi_at, gi_nk (by omega), gi_nk (by omega), gi_nk (by omega), gi_nk (by omega), k4]
    · intro q q1 q2 j hj
      rw [gi_nk (by omega), gi_nk (by omega), gi_nk (by omega), gi_nk (by omega), gi_nk (by omega), f3.1 _ _ (by omega), d3.1 _ _ (by omega), b2.1 _ _ (by omega)]
      exact a2 q q1 q2 j hj
    · intro j hj
      rw [gi_nk (by omega), gi_nk (by omega), gi_nk (by omega), gi_nk (by omega), gi_nk (by omega), f3.1 _ _ (by omega), d3.1 _ _ (by omega)]
      exact b1' j hj
    · rw [gi_nk (by omega), gi_nk (by omega), gi_nk (by omega), gi_nk (by omega), gi_nk (by omega), f3.1 _ _ (by omega), d1, h5]
    · intro q q1 q2 j hj
      rw [gi_nk (by omega), gi_nk (by omega), gi_nk (by omega), gi_nk (by omega), gi_nk (by omega), f3.1 _ _ (by omega)]
      have := d2 j hj
      rcases (show q = 6 ∨ q = 7 by omega) with rfl | rfl
      · rw [show k + 6 = k + 5 + 1 by omega, this.1, show b + 5 + 1 = b + 6 by omega]; exact c2 _ _ (by omega)
      · rw [show k + 7 = k + 5 + 2 by omega, this.2, show b + 5 + 2 = b + 7 by omega]; exact c2 _ _ (by omega)
    · rw [gi_nk (by omega), gi_nk (by omega), gi_nk (by omega), gi_nk (by omega), gi_nk (by omega), f1, h8]
    · intro q q1 q2 j hj
      rw [gi_nk (by omega), gi_nk (by omega), gi_nk (by omega), gi_nk (by omega), gi_nk (by omega)]
      have := f2 j hj
      rcases (show q = 9 ∨ q = 10 by omega) with rfl | rfl
      · rw [show k + 9 = k + 8 + 1 by omega, this.1, show b + 8 + 1 = b + 9 by omega, d3.1 _ _ (by omega)]; exact c2 _ _ (by omega)
      · rw [show k + 10 = k + 8 + 2 by omega, this.2, show b + 8 + 2 = b + 10 by omega, d3.1 _ _ (by omega)]; exact c2 _ _ (by omega)
    · have e1 : eqC (fun x _ => k ≤ x ∧ x ≤ k + 10) c s4 := ((a3.tr (b2.mono (fun x y q => ⟨by omega, by omega⟩))).tr (d3.mono (fun x y q => ⟨by omega, by omega⟩))).tr (f3.mono (fun x y q => ⟨by omega, by omega⟩))
      exact ((((e1.si ⟨by omega, by omega⟩).si ⟨by omega, by omega⟩).si ⟨by omega, by omega⟩).si ⟨by omega, by omega⟩).si ⟨by omega, by omega⟩
