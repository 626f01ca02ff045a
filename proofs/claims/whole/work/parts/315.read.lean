/-! read -/
theorem plan_two (a b : Int32) {c m : StA} {n P Q S : Nat} (h : RR c m n P Q S) : E2 (f_X1_addSaying 1 a b c) (f_X6_plan a b m) (fun c' r m' r' => r = r' ∧ ((r.toInt < 0 ∧ c' = c ∧ m' = m) ∨ (0 ≤ r.toInt ∧ RR c' m' n (P + 1) Q S ∧ P < 8 ∧ (∀ x y, x ≠ 6 → ¬ ((x = 7 ∨ x = 8) ∧ y = P) → gi c' x y = gi c x y) ∧ (∀ x, x ≠ 1 → ∀ y, gi m' x y = gi m x y)))) := by
  have hps := h.ps
  rw [ext_addS h.1.2.1 hps.1 hps.2.1, ext_planM h.1.2.2.1 hps.1 hps.2.2]
  by_cases h1 : 0 ≤ a ∧ a ≤ 99
  · rw [if_pos h1, if_pos h1]
    by_cases h3 : 0 ≤ b ∧ b ≤ nI n - 1
    · rw [if_pos h3, if_pos h3]
      by_cases e : P = 8
      · rw [if_pos e, if_pos e]
        exact E2_ret ⟨rfl, Or.inl ⟨by decide, rfl, rfl⟩⟩
      · rw [if_neg e, if_neg e]
        obtain ⟨t, ht, rfl⟩ := ck_t (by have := h.1.1; omega) h3
        exact E2_ret ⟨rfl, Or.inr ⟨by rw [ti_nI (by omega)]; omega, h.pp (by omega) (rg_ck rfl rfl h1) ht, by omega, fun x y z1 z2 => by rw [gi_nk z1, gi_si, if_neg (by omega), gi_si, if_neg (by omega)], fun x z y => by rw [gi_nk z, gi_nk z, gi_nk z]⟩⟩
    · rw [if_neg h3, if_neg h3]
      exact E2_ret ⟨rfl, Or.inl ⟨by decide, rfl, rfl⟩⟩
  · rw [if_neg h1, if_neg h1]
    exact E2_ret ⟨rfl, Or.inl ⟨by decide, rfl, rfl⟩⟩
/-- the fault of a cell -/
def fa (t : StA) (i : Nat) (ln : Int32) (q : Int) : Int32 := if gi t 8 i = -4 then 1 else if gi t 8 i = ln then (if 0 ≤ q ∧ q < (gi t 9 i).toInt then 0 else 2) else 3
def fp (t : StA) (i : Nat) (ln : Int32) (q : Int) : Int32 := if fa t i ln q = 0 then fa t i ln (q + 1) else fa t i ln q
theorem rg_1 {x : Int32} {l h : Int} (hr : rg x l h) {v : Int32} {w : Int} (hv : v.toInt = w) (hw : w < l) : ¬ x = v := by
  rw [ti_inj, hv]
  have := hr.1
  omega
theorem e_faultAs {s t : StA} {i : Nat} {ln q : Int32} (h : Rsh s t) (hi : i < 4) : f_X4_faultAs (51 + 2 * i) ln q s = some (s, fa t i ln q.toInt) := by
  obtain ⟨g1, g2, g3, -⟩ := h i hi
  unfold f_X4_faultAs f_X4_isNothing fa
  rcases g1 with ⟨g1, g5⟩ | ⟨g1, g5⟩
  · rw [g1, if_pos rfl]
    simp only [bn_so]
    rw [if_neg (show ¬ (1 : Int32) = 0 by decide), if_pos g5]
  · rw [g1, if_neg (rg_1 g5 (v := -1) (w := -1) rfl (by omega)), if_neg (rg_1 g5 (v := -4) (w := -4) rfl (by omega))]
    simp only [bn_so]
    rw [if_pos trivial, g1, g2]
    by_cases e : gi t 8 i = ln
    · rw [if_pos e, if_pos e, e_isIn]
      simp only [bn_so]
      have k : (0 ≤ q ∧ q ≤ gi t 9 i - 1) ↔ (0 ≤ q.toInt ∧ q.toInt < (gi t 9 i).toInt) := by
        have e1 : (gi t 9 i - 1).toInt = (gi t 9 i).toInt - 1 := by
          rw [ti_sub, show (1 : Int32).toInt = 1 from rfl]
          have := g3.1
          have := g3.2
          omega
        rw [ti_le, ti_le, e1, show (0 : Int32).toInt = 0 from rfl]
        omega
      by_cases z : 0 ≤ q ∧ q ≤ gi t 9 i - 1
      · rw [if_pos z, if_pos (k.mp z), if_neg (show ¬ (1 : Int32) = 0 by decide)]
      · rw [if_neg z, if_neg (fun w => z (k.mpr w)), if_pos (show (0 : Int32) = 0 from rfl)]
    · rw [if_neg e, if_neg e]
theorem fa_ok {s t : StA} {i : Nat} {ln : Int32} {q : Int} (h : Rsh s t) (hi : i < 4) (hf : fa t i ln q = 0) : 0 ≤ q ∧ q < 40 := by
  obtain ⟨-, -, g3, -⟩ := h i hi
  have := g3.2
  unfold fa at hf
  by_cases z1 : gi t 8 i = -4
  · rw [if_pos z1] at hf
    exact absurd hf (by decide)
  rw [if_neg z1] at hf
  by_cases z2 : gi t 8 i = ln
  · rw [if_pos z2] at hf
    by_cases z3 : 0 ≤ q ∧ q < (gi t 9 i).toInt
    · omega
    · rw [if_neg z3] at hf
      exact absurd hf (by decide)
  · rw [if_neg z2] at hf
    exact absurd hf (by decide)
theorem e_faultPair {s t : StA} {i : Nat} {ln q : Int32} (h : Rsh s t) (hi : i < 4) : f_X4_faultOfPair (51 + 2 * i) ln q s = some (s, fp t i ln q.toInt) := by
  unfold f_X4_faultOfPair fp
  rw [e_faultAs h hi]
  simp only [bn_so]
  by_cases e : fa t i ln q.toInt = 0
  · rw [if_pos e, if_pos e, e_faultAs h hi]
    have := fa_ok h hi e
    rw [show (q + 1).toInt = q.toInt + 1 by rw [ti_add, show (1 : Int32).toInt = 1 from rfl]; omega]
    rfl
  · rw [if_neg e, if_neg e]
theorem fp_ok {s t : StA} {i : Nat} {ln : Int32} {q : Int} (h : Rsh s t) (hi : i < 4) (hf : fp t i ln q = 0) : 0 ≤ q ∧ q + 1 < 40 := by
  unfold fp at hf
  by_cases e : fa t i ln q = 0
  · rw [if_pos e] at hf
    have := fa_ok h hi e
    have := fa_ok h hi hf
    omega
  · rw [if_neg e] at hf
    exact absurd hf e
theorem tj_bmod (z : Int) : z.bmod (2 ^ 64) = (z + 9223372036854775808) % 18446744073709551616 - 9223372036854775808 := by
  rw [Int.bmod_def]
  have : ((2 ^ 64 : Nat) : Int) = 18446744073709551616 := by decide
  rw [this]
  split <;> omega
theorem tj_add (x y : Int64) : (x + y).toInt = (x.toInt + y.toInt + 9223372036854775808) % 18446744073709551616 - 9223372036854775808 := by
  rw [Int64.toInt_add, tj_bmod]
theorem lg_lt (x y : Int64) : lg_cmp x y < 0 ↔ x.toInt < y.toInt := by
  have := lg_cmp_ge x y
  rw [Int64.le_iff_toInt_le] at this
  rw [← Int.not_le, ← this]
  exact ⟨fun h => Int32.not_le.mpr h, fun h => Int32.not_le.mp h⟩
theorem e_l77b {t : StA} {i : Nat} {a1 a2 a3 a4 ln f x4 x6 w : Int32} {j : Nat} (hi : i < 4) (hj : j < 100) (hw : rg w 0 1) : fb_X6_read_l77 a1 a2 a3 a4 (nI i) ln f x4 x6 (nI j) t 0 w = some (t, .inl (fa t i ln (f.toInt + 2 * (j : Int) + w.toInt), w + 1)) := by
  unfold fb_X6_read_l77
  have hr := ti_rng f
  obtain ⟨w1, w2⟩ := hw
  have e2 : (2 * nI j).toInt = 2 * (j : Int) := by rw [show (2 : Int32) = nI 2 from rfl, pk_mul, ti_nI (by omega)]; omega
  have e : (f.toInt64 + (2 * nI j).toInt64 + w.toInt64).toInt = f.toInt + 2 * (j : Int) + w.toInt := by
    rw [tj_add, tj_add, Int32.toInt_toInt64, Int32.toInt_toInt64, Int32.toInt_toInt64, e2]
    omega
  rw [if_neg (show ¬ (2 : Int32) ≤ w by rw [ti_le, show (2 : Int32).toInt = 2 from rfl]; omega), if_pos rfl]
  simp only [nml, gd_n hi (show (4 : Nat) < 1000000 by omega), tn_nI (show i < 2147483648 by omega)]
  unfold fa
  by_cases z1 : gi t 8 i = -4
  · rw [if_pos z1, if_pos z1]
  rw [if_neg z1, if_neg z1]
  by_cases z2 : gi t 8 i = ln
  · rw [if_pos z2, if_pos z2, ← e]
    by_cases z3 : lg_cmp (f.toInt64 + (2 * nI j).toInt64 + w.toInt64) 0 < 0
    · rw [if_pos z3]
      rw [lg_lt, show (0 : Int64).toInt = 0 from rfl] at z3
      rw [if_neg (by omega)]
    · rw [if_neg z3]
      rw [lg_lt, show (0 : Int64).toInt = 0 from rfl] at z3
      by_cases z4 : lg_cmp (f.toInt64 + (2 * nI j).toInt64 + w.toInt64) (gi t 9 i).toInt64 < 0
      · rw [if_pos z4]
        rw [lg_lt, Int32.toInt_toInt64] at z4
        rw [if_pos (by omega)]
      · rw [if_neg z4]
        rw [lg_lt, Int32.toInt_toInt64] at z4
        rw [if_neg (by omega)]
  · rw [if_neg z2, if_neg z2]
theorem e_l77 {t : StA} {i : Nat} {a1 a2 a3 a4 ln f x4 x6 : Int32} {j : Nat} (hi : i < 4) (hj : j < 100) : fl_X6_read_l77 a1 a2 a3 a4 (nI i) ln f x4 x6 (nI j) t (0, 0) = some (t, fp t i ln (f.toInt + 2 * (j : Int))) := by
  have s0 := e_l77b (t := t) (a1 := a1) (a2 := a2) (a3 := a3) (a4 := a4) (ln := ln) (f := f) (x4 := x4) (x6 := x6) (w := 0) hi hj ⟨by decide, by decide⟩
  have s1 := e_l77b (t := t) (a1 := a1) (a2 := a2) (a3 := a3) (a4 := a4) (ln := ln) (f := f) (x4 := x4) (x6 := x6) (w := 1) hi hj ⟨by decide, by decide⟩
  rw [show (0 : Int32).toInt = 0 from rfl, Int.add_zero] at s0
  rw [show (1 : Int32).toInt = 1 from rfl] at s1
  have s2 : ∀ v, fb_X6_read_l77 a1 a2 a3 a4 (nI i) ln f x4 x6 (nI j) t v 2 = some (t, .inr v) := fun v => by
    unfold fb_X6_read_l77
    rw [if_pos (by decide)]
  have s3 : ∀ v, v ≠ 0 → fb_X6_read_l77 a1 a2 a3 a4 (nI i) ln f x4 x6 (nI j) t v 1 = some (t, .inr v) := fun v hv => by
    unfold fb_X6_read_l77
    rw [if_neg (by decide), if_neg hv]
  have hl : Ev (fl_X6_read_l77 a1 a2 a3 a4 (nI i) ln f x4 x6 (nI j) t (0, 0)) (fun c' x => c' = t ∧ x = fp t i ln (f.toInt + 2 * (j : Int))) := by
    unfold fl_X6_read_l77
    refine Ev_it (I := fun j' s v => s = t ∧ ((j' = 2 ∧ v = (0, 0)) ∨ (j' = 1 ∧ v = (fa t i ln (f.toInt + 2 * (j : Int)), 1)) ∨ (j' = 0 ∧ v = (fp t i ln (f.toInt + 2 * (j : Int)), 2)))) ?_ FU 2 (FU_gt (by omega)) t (0, 0) ⟨rfl, Or.inl ⟨rfl, rfl⟩⟩
    rintro j' s v ⟨rfl, ⟨rfl, rfl⟩ | ⟨rfl, rfl⟩ | ⟨rfl, rfl⟩⟩
    · exact ⟨_, _, s0, Or.inr ⟨1, _, rfl, rfl, rfl, Or.inr (Or.inl ⟨rfl, rfl⟩)⟩⟩
    · by_cases e : fa s i ln (f.toInt + 2 * (j : Int)) = 0
      · rw [e]
        exact ⟨_, _, s1, Or.inr ⟨0, _, rfl, rfl, rfl, Or.inr (Or.inr ⟨rfl, by unfold fp; rw [if_pos e]; rfl⟩)⟩⟩
      · exact ⟨_, _, s3 _ e, Or.inl ⟨_, rfl, rfl, by unfold fp; rw [if_neg e]⟩⟩
    · exact ⟨_, _, s2 _, Or.inl ⟨_, rfl, rfl, rfl⟩⟩
  obtain ⟨c', x, e, rfl, rfl⟩ := hl
  exact e
theorem RR.tn {c m : StA} {n P Q S : Nat} (h : RR c m n P Q S) (v : Int32) : RR (si c 0 8 v) (si m 0 32 v) n P Q S := by
  obtain ⟨h1, h2, h3, h4, h5, h6, h7⟩ := h
  have hc : ∀ x y, x ≠ 0 → gi (si c 0 8 v) x y = gi c x y := fun x y z => gi_nk z
  have hm : ∀ x y, y ≠ 32 → gi (si m 0 32 v) x y = gi m x y := fun x y z => gi_nj z
  have hm2 : ∀ x y, x ≠ 0 → gi (si m 0 32 v) x y = gi m x y := fun x y z => gi_nk z
  exact ⟨h1.congr (fun j _ _ => hc _ _ (by omega)) (fun q _ _ j _ => hc _ _ (by omega)) (fun j _ => hc _ _ (by omega)) (hc _ _ (by omega)) (fun q _ _ j _ => hc _ _ (by omega)) (hc _ _ (by omega)) (fun q _ _ j _ => hc _ _ (by omega)) (fun x _ => hm2 _ _ (by omega)) (hm _ _ (by omega)), by rw [hc _ _ (by omega)]; exact h2, h3.frm (fun _ _ => hc _ _ (by omega)) (fun _ _ => hm2 _ _ (by omega)) (fun _ _ _ _ => hc _ _ (by omega)) (fun _ _ _ => hm2 _ _ (by omega)) (hm _ _ (by omega)), h4.frm (hc _ _ (by omega)) (hm _ _ (by omega)) (fun _ => hc _ _ (by omega)) (fun _ => hc _ _ (by omega)) (fun _ => hm2 _ _ (by omega)), by rw [hc _ _ (by omega), hm _ _ (by omega)]; exact h5, by rw [gi_at, gi_at], h7.frm (fun _ _ _ _ => hc _ _ (by omega)) (fun _ => hm2 _ _ (by omega)) (fun _ => hm2 _ _ (by omega)) (fun _ => hm2 _ _ (by omega))⟩
/-- between two pairs that are read -/
def RI (c m : StA) (n P Q S : Nat) (s t : StA) : Prop := ∃ P', P ≤ P' ∧ RR s t n P' Q S ∧ (∀ x y, x ≠ 6 → ¬ ((x = 7 ∨ x = 8) ∧ P ≤ y) → gi s x y = gi c x y) ∧ (∀ x, x ≠ 1 → ∀ y, gi t x y = gi m x y)
theorem read_undo {c m m0 s t : StA} {n P Q S : Nat} (h : RR c m0 n P Q S) (h0 : RR c m n P Q S) (hr : RI c m n P Q S s t) (hb : ∀ y, y < 63 → gi m 11 y = gi m0 1 y) (h03 : gi m 0 3 = gi m0 0 3) {m' : StA} (h1 : ∀ y, y < 63 → gi m' 1 y = gi t 11 y) (h2 : ∀ x y, ¬ (x = 1 ∧ y < 63) → gi m' x y = gi t x y) : RR (si s 6 2 (nI P)) m' n P Q S := by
  obtain ⟨P', hP, hR, f1, f2⟩ := hr
  have hps := h.ps
  have hP8 := hps.1
  have hQ := h.1.2.2.2.2.2.2.2.2.1
  have kc : ∀ x y, x ≠ 6 → ¬ ((x = 7 ∨ x = 8) ∧ P ≤ y) → gi (si s 6 2 (nI P)) x y = gi c x y := fun x y z1 z2 => by rw [gi_nk z1]; exact f1 x y z1 z2
  have km : ∀ y, y < 63 → gi m' 1 y = gi m0 1 y := fun y hy => by rw [h1 y hy, f2 11 (by omega), hb y hy]
  obtain ⟨-, -, r3, r4, r5, r6, r7⟩ := hR
  have kc2 : ∀ x y, x ≠ 6 → gi (si s 6 2 (nI P)) x y = gi s x y := fun x y z => gi_nk z
  refine ⟨h.1.congr (fun j _ _ => kc _ _ (by omega) (by omega)) (fun q _ _ j _ => kc _ _ (by omega) (by omega)) (fun j _ => kc _ _ (by omega) (by omega)) ?_ (fun q _ _ j _ => kc _ _ (by omega) (by omega)) (kc _ _ (by omega) (by omega)) (fun q _ _ j _ => kc _ _ (by omega) (by omega)) (fun x hx => by rw [Nat.zero_add]; exact km x hx) ?_, ?_, r3.frm (fun _ _ => kc2 _ _ (by omega)) (fun _ _ => h2 _ _ (by omega)) (fun _ _ _ _ => kc2 _ _ (by omega)) (fun _ _ _ => h2 _ _ (by omega)) (h2 _ _ (by omega)), r4.frm (kc2 _ _ (by omega)) (h2 _ _ (by omega)) (fun _ => kc2 _ _ (by omega)) (fun _ => kc2 _ _ (by omega)) (fun _ => h2 _ _ (by omega)), ?_, ?_, r7.frm (fun _ _ _ _ => kc2 _ _ (by omega)) (fun _ => h2 _ _ (by omega)) (fun _ => h2 _ _ (by omega)) (fun _ => h2 _ _ (by omega))⟩
  · show gi (si s 6 2 (nI P)) 6 2 = gi c 6 2
    rw [gi_at, hps.2.1]
  · rw [h2 _ _ (by omega), f2 0 (by omega), h03]
  · rw [kc _ _ (by omega) (by omega)]; exact h.2.1
  · rw [kc2 _ _ (by omega), h2 _ _ (by omega)]; exact r5
  · rw [kc2 _ _ (by omega), h2 _ _ (by omega)]; exact r6
theorem sim_read (a b d e : Int32) {c m : StA} (h : R0 c m) : E2 (f_X5_read a b d e c) (f_X6_read a b d e m) Fin := by
  have h0 := h
  obtain ⟨n, P, Q, S, h⟩ := h
  have bad : Fin c (-1 : Int32) m (-1) := ⟨rfl, h0⟩
  unfold f_X5_read f_X6_read
  rw [e_isSheet5, e_isSheet]
  simp only [bn_so]
  by_cases h1 : ¬ (0 ≤ a ∧ a ≤ 3)
  · rw [if_neg h1, if_neg (show ¬ ((0 ≤ a ∧ a ≤ 3) ∧ (0 ≤ b ∧ b ≤ 2)) from fun z => h1 z.1), if_pos (show (0 : Int32) = 0 from rfl), if_pos (show (0 : Int32) = 0 from rfl)]
    exact E2_ret bad
  have h1 := Decidable.not_not.mp h1
  rw [if_pos h1, if_neg (show ¬ (1 : Int32) = 0 by decide), e_isLane5]
  simp only [bn_so]
  by_cases h2 : ¬ (0 ≤ b ∧ b ≤ 2)
  · rw [if_neg h2, if_neg (show ¬ ((0 ≤ a ∧ a ≤ 3) ∧ (0 ≤ b ∧ b ≤ 2)) from fun z => h2 z.2), if_pos (show (0 : Int32) = 0 from rfl), if_pos (show (0 : Int32) = 0 from rfl)]
    exact E2_ret bad
  have h2 := Decidable.not_not.mp h2
  rw [if_pos h2, if_pos (show (0 ≤ a ∧ a ≤ 3) ∧ (0 ≤ b ∧ b ≤ 2) from ⟨h1, h2⟩), if_neg (show ¬ (1 : Int32) = 0 by decide), if_neg (show ¬ (1 : Int32) = 0 by decide)]
  refine E2_ck (e_isIn e 0 20 c) (e_in (y := 0) (z := 20) (b := 0) (c := 20) rfl rfl m) (fun _ => bad) (fun hp => ?_)
  obtain ⟨i, hi, rfl⟩ := ck_n (N := 3) rfl h1
  obtain ⟨N, hN, rfl⟩ := ck_n (N := 20) rfl hp
  have hps := h.ps
  rw [gd_n (show i < 4 by omega) (by omega), hps.2.1]
  refine E2_rb ?_
  have hl : Ev (fl_X6_read_l26 (nI i) b d (nI N) (nI i) b d (nI N) m 0) (fun m' _ => (∀ q, q < 63 → gi m' 11 q = gi m 1 q) ∧ eqC (fun x y => x = 11 ∧ 0 ≤ y ∧ y < 0 + 63) m m') := by
    unfold fl_X6_read_l26
    refine Ev_mono (cp_loop (A := 11) (B := 1) (o := 0) (p := 0) (N := 63) (by omega) (fun s i hi => ?_) (fun s => ?_) (Or.inl (by omega)) m) (fun s _ z => ⟨fun q hq => by have := z.1 q hq; rw [Nat.zero_add] at this; exact this, z.2⟩)
    · unfold fb_X6_read_l26
      rw [if_neg (show ¬ 63 ≤ nI i by rw [show (63 : Int32) = nI 63 from rfl, nI_le' (by omega) (by omega)]; omega), gd_n (show i < 189 by omega) (by omega), gd_n (show i < 63 by omega) (by omega), tn_nI (by omega), nI_1, Nat.zero_add]
      rfl
    · unfold fb_X6_read_l26
      rw [if_pos (show (63 : Int32) ≤ nI 63 by decide)]
  refine Ev_mono hl ?_
  rintro m1 _ ⟨b1, b2⟩
  have hA : RR c m1 n P Q S := h.q (agQ.rf c) (b2.ag (fun x y z => by unfold DQm; omega))
  simp only [nmi]
  have lp : E2 (fl_X5_read_l56 (nI i) b d (nI N) b d (nI N) (nI P) c (0, 0, 0)) (fl_X6_read_l62 (nI i) b d (nI N) (nI i) b d (nI N) m1 (0, 0, 0)) (fun s x t y => (∃ r, x = .inr r ∧ y = .inr r ∧ R0 s t) ∨ (∃ q : Nat, x = .inl (nI q) ∧ y = .inl (nI q) ∧ RI c m1 n P Q S s t)) := by
    unfold fl_X5_read_l56 fl_X6_read_l62
    refine E2_it (I := fun j s v t w => RI c m1 n P Q S s t ∧ ∃ q : Nat, (v = (nI q, 0, nI q) ∧ w = (0, nI q, nI q) ∧ q + j = N ∧ (q = 0 ∨ rg d 0 39)) ∨ (∃ g, g ≠ 0 ∧ q < N ∧ v = (nI q, g, nI (q + 1)) ∧ w = (g, nI q, nI (q + 1)))) ?_ FU FU N (FU_gt (by omega)) (FU_gt (by omega)) c (0, 0, 0) m1 (0, 0, 0) ⟨⟨P, Nat.le_refl P, hA, fun _ _ _ _ => rfl, fun _ _ _ => rfl⟩, 0, Or.inl ⟨rfl, rfl, by omega, Or.inl rfl⟩⟩
    rintro j s v t w ⟨hI, q, ⟨rfl, rfl, hq, hd⟩ | ⟨g, hg, hq, rfl, rfl⟩⟩
    · dsimp only
      unfold fb_X5_read_l56 fb_X6_read_l62
      obtain ⟨P', hP', hR, f1, f2⟩ := id hI
      by_cases hqN : N ≤ q
      · rw [if_pos (show nI N ≤ nI q by rw [nI_le' (by omega) (by omega)]; exact hqN), if_pos (show nI N ≤ nI q by rw [nI_le' (by omega) (by omega)]; exact hqN)]
        simp only [nms]
        exact E2_ret (Or.inl ⟨_, _, rfl, rfl, Or.inl ⟨_, rfl, rfl, n, P', Q, S, hR.tn 0⟩⟩)
      · rw [if_neg (show ¬ nI N ≤ nI q by rw [nI_le' (by omega) (by omega)]; exact hqN), if_neg (show ¬ nI N ≤ nI q by rw [nI_le' (by omega) (by omega)]; exact hqN), if_pos (show (0 : Int32) = 0 from rfl), if_pos (show (0 : Int32) = 0 from rfl)]
        have hsh := hR.2.2.2.2.2.2
        refine E2_re (e_l77 (by omega) (by omega)) ?_
        simp only [nmi]
        rw [tn_nI (show i < 2147483648 by omega)]
        refine E2_le (e_faultPair hsh (by omega)) ?_
        have hr := ti_rng d
        have eX : (d + 2 * nI q).toInt = d.toInt + 2 * (q : Int) := by
          have e2 : (2 * nI q).toInt = 2 * (q : Int) := by rw [show (2 : Int32) = nI 2 from rfl, pk_mul, ti_nI (by omega)]; omega
          rw [ti_add, e2]
          rcases hd with rfl | hd
          · omega
          · have := hd.1
            have := hd.2
            omega
        rw [eX]
        unfold fj_X6_read_j164
        by_cases hf : fp t i b (d.toInt + 2 * (q : Int)) = 0
        · rw [if_pos hf, if_pos hf]
          have hX := fp_ok hsh (by omega) hf
          obtain ⟨X, hXe⟩ : ∃ X : Nat, (X : Int) = d.toInt + 2 * (q : Int) := ⟨(d.toInt + 2 * (q : Int)).toNat, by omega⟩
          have eC : d + 2 * nI q = nI X := by rw [ti_inj, eX, ti_nI (by omega)]; omega
          have eM : 40 * nI i + d + 2 * nI q = nI (40 * i + X) := by
            rw [Int32.add_assoc, eC, ix40]
          rw [eC, eM, nI_1 X, gd_n (show X < 40 by omega) (by omega), gd_n (show X + 1 < 40 by omega) (by omega)]
          simp only [nmi]
          rw [nI_1 (40 * i + X), gd_n (show 40 * i + X < 160 by omega) (by omega), gd_n (show 40 * i + X + 1 < 160 by omega) (by omega), tn_nI (show X < 2147483648 by omega), tn_nI (show X + 1 < 2147483648 by omega), tn_nI (show 40 * i + X < 2147483648 by omega), tn_nI (show 40 * i + X + 1 < 2147483648 by omega)]
          have c1 : gi s (51 + 2 * i + 1) X = gi t 10 (40 * i + X) := by
            have := (hsh i (by omega)).2.2.2 X (by omega)
            rw [show 51 + 2 * i + 1 = 52 + 2 * i by omega]
            exact this
          have c2 : gi s (51 + 2 * i + 1) (X + 1) = gi t 10 (40 * i + X + 1) := by
            have := (hsh i (by omega)).2.2.2 (X + 1) (by omega)
            rw [show 51 + 2 * i + 1 = 52 + 2 * i by omega]
            exact this
          rw [c1, c2]
          refine E2_bn (E2_mono (plan_two _ _ hR) ?_)
          rintro s2 r t2 r' ⟨rfl, ⟨k1, rfl, rfl⟩ | ⟨k1, k2, k3, k4, k5⟩⟩
          · rw [if_neg (show ¬ 0 ≤ r by rw [ti_le, show (0 : Int32).toInt = 0 from rfl]; omega), if_neg (show ¬ 0 ≤ r by rw [ti_le, show (0 : Int32).toInt = 0 from rfl]; omega)]
            exact E2_ret (Or.inl ⟨_, _, rfl, rfl, Or.inr ⟨q, rfl, rfl, hI⟩⟩)
          · rw [if_pos (show 0 ≤ r by rw [ti_le, show (0 : Int32).toInt = 0 from rfl]; omega), if_pos (show 0 ≤ r by rw [ti_le, show (0 : Int32).toInt = 0 from rfl]; omega), hf]
            refine E2_ret (Or.inr ⟨j - 1, _, _, by omega, rfl, rfl, ⟨P' + 1, by omega, k2, fun x y z1 z2 => by rw [k4 x y z1 (by omega)]; exact f1 x y z1 z2, fun x z y => by rw [k5 x z y]; exact f2 x z y⟩, q + 1, Or.inl ⟨by rw [nI_1], by rw [nI_1], by omega, Or.inr ?_⟩⟩)
            rcases hd with rfl | hd
            · exact ⟨by omega, by omega⟩
            · exact hd
        · rw [if_neg hf, if_neg hf]
          exact E2_ret (Or.inr ⟨j - 1, _, _, by omega, rfl, rfl, hI, q, Or.inr ⟨_, hf, by omega, by rw [nI_1], by rw [nI_1]⟩⟩)
    · dsimp only
      unfold fb_X5_read_l56 fb_X6_read_l62
      obtain ⟨P', hP', hR, f1, f2⟩ := id hI
      simp only [nms]
      rw [if_neg hg, if_neg hg]
      have e2 : ∀ (A : Prop) [Decidable A] (z : Option (StA × ((Int32 × Int32 × Int32) ⊕ (Int32 ⊕ Int32)))), (if A then z else z) = z := fun A _ z => by by_cases u : A <;> simp [u]
      rw [e2, e2]
      exact E2_ret (Or.inl ⟨_, _, rfl, rfl, Or.inl ⟨_, rfl, rfl, n, P', Q, S, hR.tn g⟩⟩)
  refine E2_bn (E2_mono lp ?_)
  rintro s x t y (⟨r, rfl, rfl, hr⟩ | ⟨q, rfl, rfl, hI⟩)
  · exact E2_ret ⟨rfl, hr⟩
  · dsimp only
    obtain ⟨P', hP', hR, f1, f2⟩ := id hI
    have hP8 := hR.ps.1
    rw [e_keep hR.ps.2.1, if_pos (show 0 ≤ nI P ∧ nI P ≤ nI P' by
      rw [nI_le' (by omega) (by omega), show (0 : Int32) = nI 0 from rfl, nI_le' (by omega) (by omega)]
      omega)]
    simp only [bn_so]
    have hl2 : Ev (fl_X6_read_l208 (nI i) b d (nI N) (nI q) t 0) (fun m' _ => (∀ q, q < 63 → gi m' 1 q = gi t 11 q) ∧ eqC (fun x y => x = 1 ∧ 0 ≤ y ∧ y < 0 + 63) t m') := by
      unfold fl_X6_read_l208
      refine Ev_mono (cp_loop (A := 1) (B := 11) (o := 0) (p := 0) (N := 63) (by omega) (fun s i hi => ?_) (fun s => ?_) (Or.inl (by omega)) t) (fun s _ z => ⟨fun q hq => by have := z.1 q hq; rw [Nat.zero_add] at this; exact this, z.2⟩)
      · unfold fb_X6_read_l208
        rw [if_neg (show ¬ 63 ≤ nI i by rw [show (63 : Int32) = nI 63 from rfl, nI_le' (by omega) (by omega)]; omega), gd_n (show i < 63 by omega) (by omega), gd_n (show i < 189 by omega) (by omega), tn_nI (by omega), nI_1, Nat.zero_add]
        rfl
      · unfold fb_X6_read_l208
        rw [if_pos (show (63 : Int32) ≤ nI 63 by decide)]
    refine E2_rb (Ev_mono hl2 ?_)
    rintro m' _ ⟨k1, k2⟩
    exact E2_ret ⟨rfl, n, P, Q, S, read_undo h hA hI b1 (b2.1 _ _ (by omega)) k1 (fun x y z => k2.1 x y (by omega))⟩
