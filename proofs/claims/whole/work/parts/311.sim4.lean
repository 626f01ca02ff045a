/-! when; what is asked and changed of the things themselves -/
theorem bn_as {α β γ : Type} (o : Option (StA × α)) (k : StA → α → Option (StA × β)) (l : StA → β → Option γ) : bn (bn o k) l = bn o (fun s a => bn (k s a) l) := by
  rcases o with _ | ⟨s, a⟩
  · rfl
  · rfl
theorem bn_if {α : Type} {β : Type} {c : Prop} [Decidable c] (a b : Option (StA × α)) (l : StA → α → Option β) : bn (if c then a else b) l = if c then bn a l else bn b l := by
  by_cases h : c
  · rw [if_pos h, if_pos h]
  · rw [if_neg h, if_neg h]
theorem bn_so {α β : Type} (s : StA) (a : α) (l : StA → α → Option β) : bn (some (s, a)) l = l s a := rfl
theorem sim_when (a b d e : Int32) {c m : StA} (h : R0 c m) : E2 (f_X5_when a b d e c) (f_X6_when a b d e m) Fin := by
  have h0 := h
  obtain ⟨n, P, Q, S, h⟩ := h
  have hn := h.1.1
  unfold f_X5_when f_X6_when
  refine E2_ck (p := 0 ≤ a ∧ a ≤ nI n - 1) (by rw [e_hasThing, h.1.2.1]) (by rw [e_isThing, h.1.2.2.1]) (fun _ => ⟨rfl, h0⟩) (fun hp => ?_)
  refine E2_ck (e_isPlace5 b c) (e_isPlace b m) (fun _ => ⟨rfl, h0⟩) (fun hp2 => ?_)
  refine E2_ck (e_isFore5 d c) (e_isFar d m) (fun _ => ⟨rfl, h0⟩) (fun hp3 => ?_)
  refine E2_ck (e_isIn e 0 1 c) (e_isPart e m) (fun _ => ⟨rfl, h0⟩) (fun hp4 => ?_)
  obtain ⟨A, hA, rfl⟩ := ck_t (by omega) hp
  obtain ⟨B, hB, rfl⟩ := ck_n (N := 99) rfl hp2
  obtain ⟨D, hD, rfl⟩ := ck_n (N := 60) rfl hp3
  refine E2_le (e_begin _ c) (E2_re (e_stJudge _ m) ?_)
  unfold fl_X5_when_l49 fl_X6_when_l41
  refine E2_bn (E2_mono (E2_it (I := fun j s v t w => ∃ i, i + j = 31 ∧ v = nI i ∧ w = nI i ∧ QI c m n P Q S 1000000 s t) (Z := fun s _ t _ => QI c m n P Q S 1000000 s t) ?_ FU FU 31 (FU_gt (by omega)) (FU_gt (by omega)) _ 0 _ 0 ⟨0, by omega, rfl, rfl, QI.ini h (by omega)⟩) (fun s _ t _ q => q.end h))
  rintro j s v t w ⟨i, hij, rfl, rfl, hQ⟩
  unfold fb_X5_when_l49 fb_X6_when_l41
  have hlt : (30 : Int32) < nI i ↔ 30 < i := by rw [show (30 : Int32) = nI 30 from rfl]; exact nI_lt' (by omega) (by omega)
  by_cases hi : 30 < i
  · rw [if_pos (hlt.mpr hi), if_pos (hlt.mpr hi)]
    exact E2_ret (Or.inl ⟨_, _, rfl, rfl, hQ⟩)
  · rw [if_neg (fun q => hi (hlt.mp q)), if_neg (fun q => hi (hlt.mp q))]
    refine E2_bn (E2_mono hQ.start ?_)
    rintro s1 _ t1 _ ⟨a1, -, a2, a3, a4, a5, a6, a7, -, -⟩
    simp only [nmi, nms, g27, t27]
    rw [gi_nk (show (2 : Nat) ≠ 0 by omega)]
    obtain ⟨s2, u, t2, _, e1, e2, w1, w2, w3, w4⟩ := when_one hA (K := i) (N := D) (by omega) (by omega) a1 a6 a7
    have e1' := congrArg (fun o => bn o (fun s (_ : Unit) => fj_X5_when_j99 (nI A) (nI B) (nI D) e (nI A) (nI B) (nI D) e (nI i) s)) e1
    simp only [bn_as, bn_if, bn_so] at e1'
    rw [e1', e2, bn_so]
    unfold fj_X5_when_j99
    obtain ⟨r, f1, f2, hr⟩ := off_rel (a := nI B) w1 w2 (rg_of_nI (N := 99) (by omega) (by omega) (by omega))
    refine E2_le f1 (E2_re f2 ?_)
    have hC := a4.ag w3 w4 (fun y q => by have := q.1; omega) (by omega) (by omega)
    refine E2_bn (E2_mono (offer_rel (key := nI i) hC (by rw [ti_nI (by omega)]; omega) (by rw [million]; omega) (Or.inr ⟨rfl, hr⟩)) ?_)
    rintro s3 _ t3 _ ⟨d1, d2, d3⟩
    exact E2_ret (Or.inr ⟨j - 1, _, _, by omega, rfl, rfl, i + 1, by omega, nI_1 i, nI_1 i, hQ.nx ((a2.tr (w3.ag dq2)).tr (d2.ag dq7)) ((a3.tr (w4.ag (fun x y z => by unfold DQm; omega))).tr (d3.ag dq6)) d1⟩)
/-- what is changed of the flight itself -/
theorem RR.mut {c c' m m' : StA} {n P Q S P' Q' S' : Nat} (h : RR c m n P Q S) (hc : ∀ x y, ¬ DQc x y → ¬ (1 ≤ x ∧ x ≤ 11) → gi c' x y = gi c x y) (hm : ∀ x y, ¬ DQm x y → ¬ (x = 1 ∧ y < 63) → gi m' x y = gi m x y) (hR : Rf c' 1 m' 1 0 n P' Q' S' noF) (hmin : (gi c' 1 11).toInt ≤ 999) : RR c' m' n P' Q' S' := by
  obtain ⟨h1, h2, h3, h4, h5, h6, h7⟩ := h
  have kc : ∀ x y, ¬ ((12 ≤ x ∧ x ≤ 22) ∨ 59 ≤ x) → ¬ (1 ≤ x ∧ x ≤ 11) → gi c' x y = gi c x y := hc
  have km : ∀ x y, ¬ (x = 2 ∨ x = 4 ∨ x = 6 ∨ x = 7 ∨ x = 11 ∨ (x = 0 ∧ y ≠ 3 ∧ y ≠ 10 ∧ y ≠ 15 ∧ y ≠ 32)) → ¬ (x = 1 ∧ y < 63) → gi m' x y = gi m x y := hm
  exact ⟨hR, hmin, h3.frm (fun _ _ => kc _ _ (by omega) (by omega)) (fun _ _ => km _ _ (by omega) (by omega)) (fun _ _ _ _ => kc _ _ (by omega) (by omega)) (fun _ _ _ => km _ _ (by omega) (by omega)) (by rw [hR.2.2.1, h1.2.2.1]), h4.frm (kc _ _ (by omega) (by omega)) (km _ _ (by omega) (by omega)) (fun _ => kc _ _ (by omega) (by omega)) (fun _ => kc _ _ (by omega) (by omega)) (fun _ => km _ _ (by omega) (by omega)), by rw [kc _ _ (by omega) (by omega), km _ _ (by omega) (by omega)]; exact h5, by rw [kc _ _ (by omega) (by omega), km _ _ (by omega) (by omega)]; exact h6, h7.frm (fun _ _ _ _ => kc _ _ (by omega) (by omega)) (fun _ => km _ _ (by omega) (by omega)) (fun _ => km _ _ (by omega) (by omega)) (fun _ => km _ _ (by omega) (by omega))⟩
/-- the reference's starts() beside the flight itself -/
theorem RR.st1 {c m : StA} {n P Q S : Nat} (h : RR c m n P Q S) : Ev (f_X6_starts m) (fun m1 _ => TT c m1 1 n P Q S noF ∧ agQ DQm m m1 ∧ (∀ y, gi m1 1 y = gi m 1 y) ∧ gi m1 0 3 = gi m 0 3 ∧ (∀ y, y < 63 → gi m1 2 y = gi m 1 y)) := by
  have h1 := h.1
  refine Ev_mono (e_starts m) ?_
  rintro m1 _ ⟨s1, s2, s3, s4⟩
  exact ⟨⟨h1.congr (fun _ _ _ => rfl) (fun _ _ _ _ _ => rfl) (fun _ _ => rfl) rfl (fun _ _ _ _ _ => rfl) rfl (fun _ _ _ _ _ => rfl) (fun x hx => by first | exact s1 x hx | (rw [Nat.zero_add]; exact s1 x hx)) (s4.1 0 3 (by omega)), Fb0 h1.2.2.2.2.2.2.2.1.1 s2, s3⟩, s4.ag (fun x y q => by unfold DQm; omega), fun y => s4.1 _ _ (by omega), s4.1 _ _ (by omega), s1⟩
theorem sim_fault {c m : StA} (h : R0 c m) : E2 (f_X5_fault c) (f_X6_fault m) Fin := by
  have h0 := h
  obtain ⟨n, P, Q, S, h⟩ := h
  unfold f_X5_fault f_X6_fault
  exact E2_ret ⟨h.2.2.2.2.1, h0⟩
theorem sim_torn {c m : StA} (h : R0 c m) : E2 (f_X5_torn c) (f_X6_torn m) Fin := by
  have h0 := h
  obtain ⟨n, P, Q, S, h⟩ := h
  unfold f_X5_torn f_X6_torn
  exact E2_ret ⟨h.2.2.2.2.2.1, h0⟩
theorem RR.nm {c m : StA} {n P Q S : Nat} (h : RR c m n P Q S) : gi c 1 8 = gi m 1 24 ∧ gi c 1 9 = gi m 1 25 ∧ gi c 1 10 = gi m 1 26 ∧ gi c 1 11 = gi m 1 27 := by
  have r := h.1.2.2.2.2.2.1
  unfold Rnm at r
  simp only [Nat.zero_add] at r
  exact ⟨r.1, r.2.2.1, r.2.2.2.2.1, r.2.2.2.2.2.2.1⟩
theorem sim_rule (a : Int32) {c m : StA} (h : R0 c m) : E2 (f_X5_rule a c) (f_X6_rule a m) Fin := by
  obtain ⟨n, P, Q, S, h⟩ := h
  unfold f_X5_rule f_X6_rule
  obtain ⟨m1, _, em, a1, a2, a3, a4, a5⟩ := h.st1
  refine E2_re em ?_
  have fin : ∀ {r : Int32}, Fin c r m1 r := h.fin (agQ.rf c) a2
  have nm := h.nm
  have hps := h.ps
  rw [G27, G24, G25, G26, G33, t27, t24, t25, t26, t33, a3, a3, a3, a3, a3, ← nm.1, ← nm.2.1, ← nm.2.2.1, ← nm.2.2.2, a4, h.1.2.1, h.1.2.2.1, hps.2.1, hps.2.2]
  obtain ⟨L, -, l1, l2⟩ := lift_eq a1.1
  rw [l1, l2]
  have hs := a1.1.2.2.2.2.1
  rw [e_saidNow a1.1.1 hs.1 a1.1.2.2.1 (fun i hi => by have := hs.2.2 i hi; rw [Nat.zero_add] at this; exact this), hs.2.1]
  simp only [bn]
  split
  · exact E2_ret fin
  split
  · exact E2_ret fin
  split
  · exact E2_ret fin
  split
  · exact E2_ret fin
  split
  · exact E2_ret fin
  split
  · exact E2_ret fin
  split
  · exact E2_ret fin
  split
  · exact E2_ret fin
  · exact E2_ret fin
theorem RR.th {c m : StA} {n P Q S i : Nat} (h : RR c m n P Q S) (hi : i < n) : gi c 2 i = gi m 1 (4 * i) ∧ gi c 3 i = gi m 1 (4 * i + 1) ∧ gi c 4 i = gi m 1 (4 * i + 2) ∧ gi m 1 (4 * i + 3) = bI (S.testBit i) ∧ rg (gi c 2 i) 0 3 ∧ rg (gi c 3 i) 1 9 ∧ rg (gi c 4 i) 0 1 := by
  obtain ⟨r1, r2, r3, r4, r5, r6⟩ := h.1.2.2.2.1 i hi
  have r7 := h.1.2.2.2.2.1.2.2 i hi
  rw [Nat.zero_add] at r1 r2 r3 r7
  exact ⟨r1, r2, r3, r7, r4, r5, r6⟩
theorem sim_thing (a b : Int32) {c m : StA} (h : R0 c m) : E2 (f_X5_thing a b c) (f_X6_thing a b m) Fin := by
  have h0 := h
  obtain ⟨n, P, Q, S, h⟩ := h
  have hn := h.1.1
  unfold f_X5_thing f_X6_thing
  refine E2_ck (p := 0 ≤ a ∧ a ≤ nI n - 1) (by rw [e_hasThing, h.1.2.1]) (by rw [e_isThing, h.1.2.2.1]) (fun _ => ⟨rfl, h0⟩) (fun hp => ?_)
  obtain ⟨i, hi, rfl⟩ := ck_t (by omega) hp
  refine E2_re (e_in (y := 0) (z := 4) (b := 0) (c := 4) rfl rfl m) ?_
  have hs := h.1.2.2.2.2.1
  have e3 : f_X1_isSaid 1 (nI i) c = some (c, bI (S.testBit i)) := (h.sd hi).1
  have e4 : f_X1_liftOf 1 (nI i) c = some (c, lf (gi c 2 i) (gi c 3 i) (S.testBit i)) := e_liftC (k := 1) (bt_64 hs.1 hn) (by omega) hs.2.1
  obtain ⟨t1, t2, t3, t4, -⟩ := h.th hi
  rw [e3, e4]
  simp only [bn, gd_n (show i < 6 by omega) (show (6 : Nat) < 1000000 by omega), tn_nI (show i < 2147483648 by omega)]
  by_cases hb : 0 ≤ b ∧ b ≤ 4
  · rw [if_pos hb, if_neg (show ¬ (1 : Int32) = 0 by decide)]
    obtain ⟨q, hq, rfl⟩ := ck_n (N := 4) rfl hb
    obtain ⟨m1, _, em, a1, a2, a3, a4, a5⟩ := h.st1
    rw [em]
    simp only [bn]
    have fin : ∀ {r : Int32}, Fin c r m1 r := h.fin (agQ.rf c) a2
    have o : ∀ q, q < 4 → f_X6_of (nI i) (nI q) m1 = some (m1, gi m 1 (4 * i + q)) := fun q hq => by rw [e_of (by omega) hq, a5 _ (by omega)]
    rcases (show q = 0 ∨ q = 1 ∨ q = 2 ∨ q = 3 ∨ q = 4 by omega) with rfl | rfl | rfl | rfl | rfl
    · rw [if_pos (show nI 0 = 0 from rfl), if_neg (show ¬ (4 : Int32) ≤ nI 0 by decide), o 0 (by omega), t1]
      exact E2_ret fin
    · rw [if_neg (show ¬ nI 1 = 0 by decide), if_pos (show nI 1 = 1 from rfl), if_neg (show ¬ (4 : Int32) ≤ nI 1 by decide), o 1 (by omega), t2]
      exact E2_ret fin
    · rw [if_neg (show ¬ nI 2 = 0 by decide), if_neg (show ¬ nI 2 = 1 by decide), if_pos (show nI 2 = 2 from rfl), if_neg (show ¬ (4 : Int32) ≤ nI 2 by decide), o 2 (by omega), t3]
      exact E2_ret fin
    · rw [if_neg (show ¬ nI 3 = 0 by decide), if_neg (show ¬ nI 3 = 1 by decide), if_neg (show ¬ nI 3 = 2 by decide), if_pos (show nI 3 = 3 from rfl), if_neg (show ¬ (4 : Int32) ≤ nI 3 by decide), o 3 (by omega), t4]
      cases S.testBit i
      · exact E2_ret fin
      · exact E2_ret fin
    · rw [if_neg (show ¬ nI 4 = 0 by decide), if_neg (show ¬ nI 4 = 1 by decide), if_neg (show ¬ nI 4 = 2 by decide), if_neg (show ¬ nI 4 = 3 by decide), if_pos (show nI 4 = 4 from rfl), if_pos (show (4 : Int32) ≤ nI 4 by decide)]
      rw [e_liftM (b := S.testBit i) (by omega) (by rw [a5 _ (by omega)]; exact t4), a5 _ (by omega), a5 _ (by omega), ← t1, ← t2]
      exact E2_ret fin
  · rw [if_neg hb, if_pos (show (0 : Int32) = 0 from rfl)]
    have hb4 : ∀ q : Nat, q ≤ 4 → ¬ b = nI q := fun q hq e => hb (by
      subst e
      rw [ti_le, ti_le, ti_nI (by omega), show (0 : Int32).toInt = 0 from rfl, show (4 : Int32).toInt = 4 from rfl]
      omega)
    rw [if_neg (show ¬ b = 0 from hb4 0 (by omega)), if_neg (show ¬ b = 1 from hb4 1 (by omega)), if_neg (show ¬ b = 2 from hb4 2 (by omega)), if_neg (show ¬ b = 3 from hb4 3 (by omega)), if_neg (show ¬ b = 4 from hb4 4 (by omega))]
    exact E2_ret ⟨rfl, h0⟩
theorem RR.wd {c m : StA} {n P Q S i : Nat} (h : RR c m n P Q S) (hi : i < 5) : gi c 5 i = gi m 1 (28 + i) := by
  have := (h.1.2.2.2.2.2.2.1 i hi).1
  rw [Nat.zero_add] at this
  exact this
theorem sim_wind (a : Int32) {c m : StA} (h : R0 c m) : E2 (f_X5_wind a c) (f_X6_wind a m) Fin := by
  have h0 := h
  obtain ⟨n, P, Q, S, h⟩ := h
  unfold f_X5_wind f_X6_wind
  refine E2_ck (e_isWind5 a c) (e_isWind a m) (fun _ => ⟨rfl, h0⟩) (fun hp => ?_)
  obtain ⟨i, hi, rfl⟩ := ck_n (N := 4) rfl hp
  rw [gd_n (show i < 5 by omega) (by omega), tn_nI (by omega), ix28, gd_n (show 28 + i < 189 by omega) (by omega), tn_nI (by omega), h.wd (by omega)]
  exact E2_ret ⟨rfl, h0⟩
theorem RR.pm {c m : StA} {n P Q S i : Nat} (h : RR c m n P Q S) (hi : i < P) : gi c 7 i = gi m 1 (34 + 2 * i) ∧ gi c 8 i = gi m 1 (35 + 2 * i) := by
  obtain ⟨⟨t, h1, h2, h3⟩, -, h4⟩ := h.1.2.2.2.2.2.2.2.1.2.2.2 i hi
  rw [Nat.zero_add] at h3
  have h4 : gi c 7 i = gi m 1 (0 + (34 + 2 * i)) := h4
  rw [Nat.zero_add] at h4
  exact ⟨h4, h2.trans h3.symm⟩
theorem sim_saying (a b : Int32) {c m : StA} (h : R0 c m) : E2 (f_X5_saying a b c) (f_X6_saying a b m) Fin := by
  have h0 := h
  obtain ⟨n, P, Q, S, h⟩ := h
  have hps := h.ps
  unfold f_X5_saying f_X6_saying
  rw [G33, t33, hps.2.1, hps.2.2]
  refine E2_ck (e_isIn a 0 (nI P - 1) c) (e_in (y := 0) (b := 0) (z := (nI P - 1).toInt64) (c := nI P - 1) rfl rfl m) (fun _ => ⟨rfl, h0⟩) (fun hp => ?_)
  obtain ⟨i, hi, rfl⟩ := ck_t (by omega) hp
  refine E2_ck (e_isIn b 0 1 c) (e_isPart b m) (fun _ => ⟨rfl, h0⟩) (fun hp2 => ?_)
  obtain ⟨q, hq, rfl⟩ := ck_n (N := 1) rfl hp2
  have hpm := h.pm hi
  rw [gd_n (show i < 8 by omega) (by omega), gd_n (show i < 8 by omega) (by omega), tn_nI (by omega), ix34, nI_add, gd_n (show 34 + 2 * i + q < 189 by omega) (by omega), tn_nI (by omega)]
  rcases (show q = 0 ∨ q = 1 by omega) with rfl | rfl
  · rw [if_pos (show nI 0 = 0 from rfl), hpm.1, Nat.add_zero]
    exact E2_ret ⟨rfl, h0⟩
  · rw [if_neg (show ¬ nI 1 = 0 by decide), hpm.2, show 34 + 2 * i + 1 = 35 + 2 * i by omega]
    exact E2_ret ⟨rfl, h0⟩
