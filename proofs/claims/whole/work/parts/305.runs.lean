/-! runs of minutes, in step -/
def noF : Nat → Bool := fun _ => false
def TT (c m : StA) (k n P Q S : Nat) (fm : Nat → Bool) : Prop := Rf c k m 2 0 n P Q S fm ∧ Fbit m P fm ∧ gi m 0 18 = -4
theorem TT.frm {c m m' : StA} {k n P Q S : Nat} {fm : Nat → Bool} (h : TT c m k n P Q S fm) (h2 : ∀ y, gi m' 2 y = gi m 2 y) (h3 : gi m' 0 3 = gi m 0 3) (h17 : gi m' 0 17 = gi m 0 17) (h18 : gi m' 0 18 = gi m 0 18) : TT c m' k n P Q S fm :=
  ⟨h.1.congr (fun _ _ _ => rfl) (fun _ _ _ _ _ => rfl) (fun _ _ => rfl) rfl (fun _ _ _ _ _ => rfl) rfl (fun _ _ _ _ _ => rfl) (fun x _ => h2 _) h3, fun j hj => by rw [h17]; exact h.2.1 j hj, by rw [h18]; exact h.2.2⟩
theorem tt_pass {c m : StA} {k n P Q S : Nat} {fm : Nat → Bool} (h : TT c m k n P Q S fm) (hmin : (gi c k 11).toInt < 5000) : E2 (f_X1_pass k c) (f_X6_minuteGoes m) (fun c' _ m' _ => (∃ S', TT c' m' k n P Q S' fm) ∧ eqC (DPc k) c c' ∧ eqC DPm m m' ∧ (gi c' k 11).toInt = (gi c k 11).toInt + 1) := by
  refine E2_mono (pass_rel h.1 h.2.1 h.2.2 hmin) ?_
  rintro s _ t _ ⟨⟨S', h1⟩, h2, h3, h4⟩
  refine ⟨⟨S', h1, fun j hj => ?_, ?_⟩, h2, h3, ?_⟩
  · rw [h3.1 0 17 (by unfold DPm; omega)]; exact h.2.1 j hj
  · rw [h3.1 0 18 (by unfold DPm; omega)]; exact h.2.2
  · have := h.1.2.2.2.2.2.1.2.2.2.2.2.2.2.1
    rw [h4, ti_add, show (1 : Int32).toInt = 1 from rfl]
    omega
/-- what the loops below keep -/
def LI (c m : StA) (D : Nat → Nat → Prop) (k n P Q : Nat) (fm : Nat → Bool) (i : Nat) (s t : StA) : Prop := (∃ S', TT s t k n P Q S' fm) ∧ eqC (DPc k) c s ∧ eqC D m t ∧ (gi s k 11).toInt = (gi c k 11).toInt + (i : Int)
theorem LI.z {c m : StA} {D : Nat → Nat → Prop} {k n P Q S : Nat} {fm : Nat → Bool} (h : TT c m k n P Q S fm) : LI c m D k n P Q fm 0 c m := ⟨⟨S, h⟩, eqC.rf c, eqC.rf m, by omega⟩
theorem LI.pass {c m s t : StA} {D : Nat → Nat → Prop} {k n P Q i : Nat} {fm : Nat → Bool} (hD : ∀ x y, DPm x y → D x y) (h : LI c m D k n P Q fm i s t) (hmin : (gi c k 11).toInt + (i : Int) < 5000) : E2 (f_X1_pass k s) (f_X6_minuteGoes t) (fun s' _ t' _ => LI c m D k n P Q fm (i + 1) s' t' ∧ eqC DPm t t') := by
  obtain ⟨⟨S', h1⟩, h2, h3, h4⟩ := h
  refine E2_mono (tt_pass h1 (by omega)) ?_
  rintro s' _ t' _ ⟨q1, q2, q3, q4⟩
  exact ⟨⟨q1, h2.tr q2, h3.tr (q3.mono hD), by omega⟩, q3⟩
theorem LI.nm {c m s t : StA} {D : Nat → Nat → Prop} {k n P Q i : Nat} {fm : Nat → Bool} (h : LI c m D k n P Q fm i s t) : gi s k 8 = gi t 2 24 ∧ rg (gi s k 8) 0 60 ∧ gi s k 9 = gi t 2 25 ∧ rg (gi s k 9) 0 99 := by
  obtain ⟨⟨S', h1⟩, -⟩ := h
  have r := h1.1.2.2.2.2.2.1
  unfold Rnm at r
  simp only [Nat.zero_add] at r
  exact ⟨r.1, r.2.1, r.2.2.1, r.2.2.2.1⟩
theorem passAll_rel {c m : StA} {k n P Q S N : Nat} {fm : Nat → Bool} (h : TT c m k n P Q S fm) (hN : N ≤ 100) (hmin : (gi c k 11).toInt + (N : Int) ≤ 5000) : E2 (f_X1_passAll k (nI N) c) (f_X6_minutesGo (nI N) m) (fun c' _ m' _ => LI c m DPm k n P Q fm N c' m') := by
  unfold f_X1_passAll f_X6_minutesGo fl_X1_passAll_l2 fl_X6_minutesGo_l2
  refine E2_bn (E2_mono (E2_it (I := fun j s v t w => ∃ i, i + j = N ∧ v = nI i ∧ w = nI i ∧ LI c m DPm k n P Q fm i s t) (Z := fun s _ t _ => LI c m DPm k n P Q fm N s t) ?_ FU FU N (FU_gt (by omega)) (FU_gt (by omega)) c 0 m 0 ⟨0, by omega, rfl, rfl, LI.z h⟩) ?_)
  · rintro j s v t w ⟨i, hij, rfl, rfl, hI⟩
    unfold fb_X1_passAll_l2 fb_X6_minutesGo_l2
    have hle : nI N ≤ nI i ↔ N ≤ i := nI_le' (by omega) (by omega)
    by_cases hi : N ≤ i
    · rw [if_pos (hle.mpr hi), if_pos (hle.mpr hi)]
      have e : i = N := by omega
      subst e
      exact E2_ret (Or.inl ⟨(), (), rfl, rfl, hI⟩)
    · rw [if_neg (fun q => hi (hle.mp q)), if_neg (fun q => hi (hle.mp q))]
      refine E2_bn (E2_mono (hI.pass (fun _ _ q => q) (by omega)) ?_)
      rintro s' _ t' _ ⟨q, -⟩
      exact E2_ret (Or.inr ⟨j - 1, _, _, by omega, rfl, rfl, i + 1, by omega, nI_1 i, nI_1 i, q⟩)
  · rintro s _ t _ q
    exact E2_ret q
def DCm : Nat → Nat → Prop := fun x y => x = 2 ∨ (x = 0 ∧ (y = 20 ∨ y = 21))
/-- the reference's count of n minutes: behind it, the greatest height and how often it was down -/
theorem count_body {c m t : StA} {k n P Q i N : Nat} {fm : Nat → Bool} {s : StA} (hi : i < N) (hN : N ≤ 100) (h : LI c m DCm k n P Q fm i s t) (hmin : (gi c k 11).toInt + (N : Int) ≤ 5000) {g d : Int32} (hg : gi t 0 20 = g) (hd : gi t 0 21 = d) : E2 (f_X1_pass k s) (fb_X6_minutesCount_l18 (nI N) (nI N) t (nI i)) (fun s' _ t' x => x = .inl (nI (i + 1)) ∧ LI c m DCm k n P Q fm (i + 1) s' t' ∧ gi t' 0 20 = (if g < gi s' k 8 then gi s' k 8 else g) ∧ gi t' 0 21 = (if gi s' k 8 = 0 then d + 1 else d + 0)) := by
  unfold fb_X6_minutesCount_l18
  rw [if_neg (by rw [nI_le' (by omega) (by omega)]; omega)]
  have hp := h.pass (fun _ _ q => Or.inl q) (by omega)
  obtain ⟨s', a, t', b, e1, e2, hI, hF⟩ := hp
  rw [e1, e2]
  simp only [bn, g24, t24]
  have hnm := hI.nm
  have g20 : gi t' 0 20 = g := by rw [hF.1 0 20 (by unfold DPm; omega)]; exact hg
  have g21 : gi t' 0 21 = d := by rw [hF.1 0 21 (by unfold DPm; omega)]; exact hd
  have key : ∀ y : Int32, y = (if g < gi s' k 8 then gi s' k 8 else g) → E2 (some (s', a)) (fj_X6_minutesCount_j56 (nI N) (nI N) (nI i) y t') (fun s' _ t' x => x = .inl (nI (i + 1)) ∧ LI c m DCm k n P Q fm (i + 1) s' t' ∧ gi t' 0 20 = (if g < gi s' k 8 then gi s' k 8 else g) ∧ gi t' 0 21 = (if gi s' k 8 = 0 then d + 1 else d + 0)) := by
    intro y hy
    unfold fj_X6_minutesCount_j56 f_X6_flag
    simp only [nms, g24, t24, gi_nk (show (2 : Nat) ≠ 0 by omega), gi_nj (show (21 : Nat) ≠ 20 by omega)]
    rw [g21, ← hnm.1, nI_1]
    have hL : ∀ v, LI c m DCm k n P Q fm (i + 1) s' (si (si t' 0 20 y) 0 21 v) := by
      intro v
      obtain ⟨⟨S', q1⟩, q2, q3, q4⟩ := hI
      exact ⟨⟨S', q1.frm (fun y => by rw [gi_nk (by omega), gi_nk (by omega)]) (by rw [gi_nj (by omega), gi_nj (by omega)]) (by rw [gi_nj (by omega), gi_nj (by omega)]) (by rw [gi_nj (by omega), gi_nj (by omega)])⟩, q2, (q3.si (Or.inr ⟨rfl, Or.inl rfl⟩)).si (Or.inr ⟨rfl, Or.inr rfl⟩), q4⟩
    by_cases e0 : gi s' k 8 = 0
    · rw [if_pos e0]
      simp only [bn]
      refine E2_ret ⟨rfl, hL _, ?_, ?_⟩
      · rw [gi_nj (by omega), gi_at]; exact hy
      · rw [if_pos e0, gi_at]
    · rw [if_neg e0]
      simp only [bn]
      refine E2_ret ⟨rfl, hL _, ?_, ?_⟩
      · rw [gi_nj (by omega), gi_at]; exact hy
      · rw [if_neg e0, gi_at]
  rw [g20, ← hnm.1]
  by_cases q : gi s' k 8 ≤ g
  · rw [if_pos q]
    exact key _ (by rw [if_neg (Int32.not_lt.mpr q)])
  · rw [if_neg q]
    exact key _ (by rw [if_pos (Int32.not_le.mp q)])
theorem count_ini {c m : StA} {k n P Q S : Nat} {fm : Nat → Bool} (h : TT c m k n P Q S fm) : LI c m DCm k n P Q fm 0 c (si (si m 0 20 (gi m 2 24)) 0 21 0) :=
  ⟨⟨S, h.frm (fun y => by rw [gi_nk (by omega), gi_nk (by omega)]) (by rw [gi_nj (by omega), gi_nj (by omega)]) (by rw [gi_nj (by omega), gi_nj (by omega)]) (by rw [gi_nj (by omega), gi_nj (by omega)])⟩, eqC.rf c, ((eqC.rf m).si (Or.inr ⟨rfl, Or.inl rfl⟩)).si (Or.inr ⟨rfl, Or.inr rfl⟩), by omega⟩
theorem count_exit {N : Nat} {t : StA} : fb_X6_minutesCount_l18 (nI N) (nI N) t (nI N) = some (t, .inr ()) := by
  unfold fb_X6_minutesCount_l18
  rw [if_pos Int32.le_rfl]
/-- greatestHeight beside minutesCount -/
theorem great_rel {c m : StA} {k n P Q S N : Nat} {fm : Nat → Bool} (h : TT c m k n P Q S fm) (hN : N ≤ 100) (hmin : (gi c k 11).toInt + (N : Int) ≤ 5000) : E2 (f_X1_greatestHeight k (nI N) c) (f_X6_minutesCount (nI N) m) (fun c' r m' _ => LI c m DCm k n P Q fm N c' m' ∧ gi m' 0 20 = r ∧ rg r 0 60) := by
  unfold f_X1_greatestHeight f_X6_minutesCount
  rw [g24, t24]
  simp only [nmi, nms]
  unfold fl_X1_greatestHeight_l7 fl_X6_minutesCount_l18
  have h0 := (LI.z (D := DPm) h).nm
  refine E2_bn (E2_mono (E2_it (I := fun j s v t w => ∃ i, i + j = N ∧ v.2 = nI i ∧ w = nI i ∧ LI c m DCm k n P Q fm i s t ∧ gi t 0 20 = v.1 ∧ rg v.1 0 60) (Z := fun s r t _ => LI c m DCm k n P Q fm N s t ∧ gi t 0 20 = r ∧ rg r 0 60) ?_ FU FU N (FU_gt (by omega)) (FU_gt (by omega)) c (gi c k 8, 0) _ 0 ⟨0, by omega, rfl, rfl, count_ini h, by rw [gi_nj (by omega), gi_at]; exact h0.1.symm, h0.2.1⟩) ?_)
  · rintro j s ⟨v1, v2⟩ t w ⟨i, hij, hv, rfl, hI, hg, hr⟩
    dsimp only at hv hg hr ⊢
    subst hv
    unfold fb_X1_greatestHeight_l7
    by_cases hi : N ≤ i
    · have e : i = N := by omega
      subst e
      rw [if_pos Int32.le_rfl, count_exit]
      exact E2_ret (Or.inl ⟨v1, (), rfl, rfl, hI, hg, hr⟩)
    · rw [if_neg (by rw [nI_le' (by omega) (by omega)]; omega)]
      obtain ⟨s', a, t', x, e1, e2, rfl, q1, q2, q3⟩ := count_body (by omega) hN hI hmin hg rfl
      rw [e1, e2]
      simp only [bn, nmi]
      refine E2_ret (Or.inr ⟨j - 1, _, _, by omega, rfl, rfl, i + 1, by omega, nI_1 i, rfl, q1, q2, ?_⟩)
      dsimp only
      split
      · exact q1.nm.2.1
      · exact hr
  · rintro s r t _ q
    exact E2_ret q
/-- timesDown beside minutesCount -/
theorem times_rel {c m : StA} {k n P Q S N : Nat} {fm : Nat → Bool} (h : TT c m k n P Q S fm) (hN : N ≤ 100) (hmin : (gi c k 11).toInt + (N : Int) ≤ 5000) : E2 (f_X1_timesDown k (nI N) c) (f_X6_minutesCount (nI N) m) (fun c' r m' _ => LI c m DCm k n P Q fm N c' m' ∧ gi m' 0 21 = r) := by
  unfold f_X1_timesDown f_X6_minutesCount
  rw [g24, t24]
  simp only [nms]
  unfold fl_X1_timesDown_l4 fl_X6_minutesCount_l18
  refine E2_bn (E2_mono (E2_it (I := fun j s v t w => ∃ i, i + j = N ∧ v.2 = nI i ∧ w = nI i ∧ LI c m DCm k n P Q fm i s t ∧ gi t 0 21 = v.1) (Z := fun s r t _ => LI c m DCm k n P Q fm N s t ∧ gi t 0 21 = r) ?_ FU FU N (FU_gt (by omega)) (FU_gt (by omega)) c (0, 0) _ 0 ⟨0, by omega, rfl, rfl, count_ini h, by rw [gi_at]⟩) ?_)
  · rintro j s ⟨v1, v2⟩ t w ⟨i, hij, hv, rfl, hI, hg⟩
    dsimp only at hv hg ⊢
    subst hv
    unfold fb_X1_timesDown_l4
    by_cases hi : N ≤ i
    · have e : i = N := by omega
      subst e
      rw [if_pos Int32.le_rfl, count_exit]
      exact E2_ret (Or.inl ⟨v1, (), rfl, rfl, hI, hg⟩)
    · rw [if_neg (by rw [nI_le' (by omega) (by omega)]; omega)]
      obtain ⟨s', a, t', x, e1, e2, rfl, q1, q2, q3⟩ := count_body (by omega) hN hI hmin rfl hg
      rw [e1, e2]
      simp only [bn, nmi]
      by_cases e0 : gi s' k 8 = 0
      · rw [if_pos e0]
        rw [if_pos e0] at q3
        exact E2_ret (Or.inr ⟨j - 1, _, _, by omega, rfl, rfl, i + 1, by omega, nI_1 i, rfl, q1, q3⟩)
      · rw [if_neg e0]
        rw [if_neg e0] at q3
        exact E2_ret (Or.inr ⟨j - 1, _, _, by omega, rfl, rfl, i + 1, by omega, nI_1 i, rfl, q1, q3⟩)
  · rintro s r t _ q
    exact E2_ret q
/-- passAll beside minutesCount -/
theorem all_rel {c m : StA} {k n P Q S N : Nat} {fm : Nat → Bool} (h : TT c m k n P Q S fm) (hN : N ≤ 100) (hmin : (gi c k 11).toInt + (N : Int) ≤ 5000) : E2 (f_X1_passAll k (nI N) c) (f_X6_minutesCount (nI N) m) (fun c' _ m' _ => LI c m DCm k n P Q fm N c' m') := by
  unfold f_X1_passAll f_X6_minutesCount
  rw [g24, t24]
  simp only [nms]
  unfold fl_X1_passAll_l2 fl_X6_minutesCount_l18
  refine E2_bn (E2_mono (E2_it (I := fun j s v t w => ∃ i, i + j = N ∧ v = nI i ∧ w = nI i ∧ LI c m DCm k n P Q fm i s t) (Z := fun s _ t _ => LI c m DCm k n P Q fm N s t) ?_ FU FU N (FU_gt (by omega)) (FU_gt (by omega)) c 0 _ 0 ⟨0, by omega, rfl, rfl, count_ini h⟩) ?_)
  · rintro j s v t w ⟨i, hij, rfl, rfl, hI⟩
    unfold fb_X1_passAll_l2
    by_cases hi : N ≤ i
    · have e : i = N := by omega
      subst e
      rw [if_pos Int32.le_rfl, count_exit]
      exact E2_ret (Or.inl ⟨(), (), rfl, rfl, hI⟩)
    · rw [if_neg (by rw [nI_le' (by omega) (by omega)]; omega)]
      obtain ⟨s', a, t', x, e1, e2, rfl, q1, -, -⟩ := count_body (by omega) hN hI hmin rfl rfl
      rw [e1, e2]
      simp only [bn]
      exact E2_ret (Or.inr ⟨j - 1, _, _, by omega, rfl, rfl, i + 1, by omega, nI_1 i, rfl, q1⟩)
  · rintro s _ t _ q
    exact E2_ret q
/-- firstDown beside minutesDown: never is 1000000 there, -4 here -/
def DnR (a b : Int32) : Prop := (a = 1000000 ∧ b = -4) ∨ (a = b ∧ rg a 0 999)
theorem down_rel {c m : StA} {k n P Q S : Nat} {fm : Nat → Bool} (h : TT c m k n P Q S fm) (hmin : (gi c k 11).toInt + 100 ≤ 5000) : E2 (f_X1_firstDown k c) (f_X6_minutesDown m) (fun c' a m' b => DnR a b ∧ eqC (DPc k) c c' ∧ eqC DPm m m') := by
  unfold f_X1_firstDown f_X6_minutesDown fl_X1_firstDown_l2 fl_X6_minutesDown_l2
  refine E2_bn (E2_mono (E2_it (I := fun j s v t w => ∃ i, i + j = 61 ∧ 1 ≤ i ∧ v = nI i ∧ w = nI i ∧ LI c m DPm k n P Q fm (i - 1) s t) (Z := fun s x t y => eqC (DPc k) c s ∧ eqC DPm m t ∧ ((x = .inl () ∧ y = .inl ()) ∨ ∃ z, x = .inr z ∧ y = .inr z ∧ rg z 0 60)) ?_ FU FU 60 (FU_gt (by omega)) (FU_gt (by omega)) c 1 m 1 ⟨1, by omega, by omega, rfl, rfl, LI.z h⟩) ?_)
  · rintro j s v t w ⟨i, hij, hi1, rfl, rfl, hI⟩
    unfold fb_X1_firstDown_l2 fb_X6_minutesDown_l2
    have hlt : (60 : Int32) < nI i ↔ 60 < i := by rw [show (60 : Int32) = nI 60 from rfl]; exact nI_lt' (by omega) (by omega)
    by_cases hi : 60 < i
    · rw [if_pos (hlt.mpr hi), if_pos (hlt.mpr hi)]
      exact E2_ret (Or.inl ⟨_, _, rfl, rfl, hI.2.1, hI.2.2.1, Or.inl ⟨rfl, rfl⟩⟩)
    · rw [if_neg (fun q => hi (hlt.mp q)), if_neg (fun q => hi (hlt.mp q))]
      refine E2_bn (E2_mono (hI.pass (fun _ _ q => q) (by omega)) ?_)
      rintro s' _ t' _ ⟨q, -⟩
      rw [g24, t24, ← q.nm.1]
      rw [show i - 1 + 1 = i by omega] at q
      by_cases e : gi s' k 8 = 0
      · rw [if_pos e, if_pos e]
        refine E2_ret (Or.inl ⟨_, _, rfl, rfl, q.2.1, q.2.2.1, Or.inr ⟨_, rfl, rfl, ?_⟩⟩)
        unfold rg
        rw [ti_nI (by omega)]
        omega
      · rw [if_neg e, if_neg e]
        exact E2_ret (Or.inr ⟨j - 1, _, _, by omega, rfl, rfl, i + 1, by omega, by omega, nI_1 i, nI_1 i, q⟩)
  · rintro s x t y ⟨q1, q2, q3⟩
    rcases q3 with ⟨rfl, rfl⟩ | ⟨z, rfl, rfl, hz⟩
    · exact E2_ret ⟨Or.inl ⟨rfl, rfl⟩, q1, q2⟩
    · exact E2_ret ⟨Or.inr ⟨rfl, hz.1, by have := hz.2; omega⟩, q1, q2⟩
theorem downAt_rel {c m : StA} {k n P Q S : Nat} {fm : Nat → Bool} (a : Int32) (h : TT c m k n P Q S fm) (hmin : (gi c k 11).toInt + 100 ≤ 5000) : E2 (f_X1_firstDownAt k a c) (f_X6_minutesTo a m) (fun c' a m' b => DnR a b ∧ eqC (DPc k) c c' ∧ eqC DPm m m') := by
  unfold f_X1_firstDownAt f_X6_minutesTo fl_X1_firstDownAt_l2 fl_X6_minutesTo_l2
  refine E2_bn (E2_mono (E2_it (I := fun j s v t w => ∃ i, i + j = 61 ∧ v = nI i ∧ w = nI i ∧ LI c m DPm k n P Q fm i s t) (Z := fun s x t y => eqC (DPc k) c s ∧ eqC DPm m t ∧ ((x = .inl () ∧ y = .inl ()) ∨ ∃ z, x = .inr z ∧ y = .inr z ∧ rg z 0 60)) ?_ FU FU 61 (FU_gt (by omega)) (FU_gt (by omega)) c 0 m 0 ⟨0, by omega, rfl, rfl, LI.z h⟩) ?_)
  · rintro j s v t w ⟨i, hij, rfl, rfl, hI⟩
    unfold fb_X1_firstDownAt_l2 fb_X6_minutesTo_l2
    have hlt : (60 : Int32) < nI i ↔ 60 < i := by rw [show (60 : Int32) = nI 60 from rfl]; exact nI_lt' (by omega) (by omega)
    by_cases hi : 60 < i
    · rw [if_pos (hlt.mpr hi), if_pos (hlt.mpr hi)]
      exact E2_ret (Or.inl ⟨_, _, rfl, rfl, hI.2.1, hI.2.2.1, Or.inl ⟨rfl, rfl⟩⟩)
    · rw [if_neg (fun q => hi (hlt.mp q)), if_neg (fun q => hi (hlt.mp q)), g24, t24, ← hI.nm.1]
      have go : E2 (bn (f_X1_pass k s) fun s1 r2 => some (s1, (Sum.inl (nI i + 1) : Int32 ⊕ (Unit ⊕ Int32)))) (bn (f_X6_minuteGoes t) fun s1 r2 => some (s1, (Sum.inl (nI i + 1) : Int32 ⊕ (Unit ⊕ Int32)))) (fun s' x t' y => (∃ e e', x = .inr e ∧ y = .inr e' ∧ (eqC (DPc k) c s' ∧ eqC DPm m t' ∧ ((e = .inl () ∧ e' = .inl ()) ∨ ∃ z, e = .inr z ∧ e' = .inr z ∧ rg z 0 60))) ∨ (∃ j' v' w', j = j' + 1 ∧ x = .inl v' ∧ y = .inl w' ∧ ∃ i, i + j' = 61 ∧ v' = nI i ∧ w' = nI i ∧ LI c m DPm k n P Q fm i s' t')) := by
        refine E2_bn (E2_mono (hI.pass (fun _ _ q => q) (by omega)) ?_)
        rintro s' _ t' _ ⟨q, -⟩
        exact E2_ret (Or.inr ⟨j - 1, _, _, by omega, rfl, rfl, i + 1, by omega, nI_1 i, nI_1 i, q⟩)
      by_cases e : gi s k 8 = 0
      · rw [if_pos e, if_pos e, g25, t25, ← hI.nm.2.2.1]
        by_cases e9 : gi s k 9 = a
        · rw [if_pos e9, if_pos e9]
          refine E2_ret (Or.inl ⟨_, _, rfl, rfl, hI.2.1, hI.2.2.1, Or.inr ⟨_, rfl, rfl, ?_⟩⟩)
          unfold rg
          rw [ti_nI (by omega)]
          omega
        · rw [if_neg e9, if_neg e9]
          exact go
      · rw [if_neg e, if_neg e]
        exact go
  · rintro s x t y ⟨q1, q2, q3⟩
    rcases q3 with ⟨rfl, rfl⟩ | ⟨z, rfl, rfl, hz⟩
    · exact E2_ret ⟨Or.inl ⟨rfl, rfl⟩, q1, q2⟩
    · exact E2_ret ⟨Or.inr ⟨rfl, hz.1, by have := hz.2; omega⟩, q1, q2⟩
