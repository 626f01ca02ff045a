/-! the text: lines -/
theorem TB.frm {s t s' t' : StA} {L p : Nat} (h : TB s t L p) (hc : ∀ x y, ((x = 47 ∧ y ≤ 8) ∨ x = 48 ∨ x = 49) → gi s' x y = gi s x y) (hm : ∀ x y, ((x = 0 ∧ 10 ≤ y ∧ y ≤ 16) ∨ x = 5) → gi t' x y = gi t x y) : TB s' t' L p := by
  obtain ⟨h1, h2, h3, h4, h5, h6⟩ := h
  exact ⟨h1.frm (hc _ _ (by omega)) (hm _ _ (by omega)) (fun _ => hc _ _ (by omega)) (fun _ => hc _ _ (by omega)) (fun _ => hm _ _ (by omega)), h2, by rw [hc _ _ (by omega)]; exact h3, by rw [hm _ _ (by omega)]; exact h4, by rw [hm _ _ (by omega)]; exact h5, by rw [hc _ _ (by omega)]; exact h6⟩
theorem TK.frm {s t s' t' : StA} {L b p : Nat} {tok : Int32} (h : TK s t L b p tok) (hc : ∀ x y, ((x = 47 ∧ y ≤ 8) ∨ x = 48 ∨ x = 49) → gi s' x y = gi s x y) (hm : ∀ x y, ((x = 0 ∧ 10 ≤ y ∧ y ≤ 16) ∨ x = 5) → gi t' x y = gi t x y) : TK s' t' L b p tok := by
  obtain ⟨h1, h2, h3, h4, h5, h6, h7, h8⟩ := h
  exact ⟨h1.frm hc hm, h2, by rw [hc _ _ (by omega)]; exact h3, by rw [hm _ _ (by omega)]; exact h4, by rw [hc _ _ (by omega)]; exact h5, by rw [hm _ _ (by omega)]; exact h6, fun z => by rw [hc _ _ (by omega), hm _ _ (by omega)]; exact h7 z, h8⟩
theorem FT.frm {s t s' t' : StA} (h : FT s t) (h1 : gi s' 47 3 = gi s 47 3) (h2 : gi s' 47 4 = gi s 47 4) (h3 : gi t' 0 15 = gi t 0 15) (h4 : gi t' 0 16 = gi t 0 16) : FT s' t' := by
  unfold FT
  rw [h1, h2, h3, h4]
  exact h
/-- the draft -/
def DR (s t : StA) (n : Nat) : Prop := n ≤ 6 ∧ gi s 12 6 = nI n ∧ gi t 0 5 = nI n ∧ Rth s 12 t 4 0 n ∧ gi s 12 7 = 0 ∧ (∀ i, i < 6 → gi t 4 (4 * i + 3) = 0) ∧ Rnm s 12 t 4 0 ∧ gi s 12 11 = 0 ∧ Rwd s 12 t 4 0 ∧ (gi s 17 2 = 0 ∧ gi t 4 33 = 0) ∧ (gi s 20 2 = 0 ∧ gi t 4 50 = 0) ∧ (∃ W, W < 32 ∧ gi s 47 9 = nI W ∧ gi t 0 6 = nI W) ∧ (∃ r : Bool, gi s 47 10 = bI r ∧ gi t 0 7 = bI r) ∧ (∃ r : Bool, gi s 47 11 = bI r ∧ gi t 0 8 = bI r)
theorem DR.frm {s t s' t' : StA} {n : Nat} (h : DR s t n) (hc : ∀ x y, ((12 ≤ x ∧ x ≤ 22) ∨ (x = 47 ∧ 9 ≤ y ∧ y ≤ 11)) → gi s' x y = gi s x y) (hm : ∀ x y, (x = 4 ∨ (x = 0 ∧ 5 ≤ y ∧ y ≤ 8)) → gi t' x y = gi t x y) : DR s' t' n := by
  obtain ⟨h1, h2, h3, h4, h5, h6, h7, h8, h9, h10, h11, h12, h13, h14⟩ := h
  refine ⟨h1, by rw [hc _ _ (by omega)]; exact h2, by rw [hm _ _ (by omega)]; exact h3, h4.congr (fun q _ _ j _ => hc _ _ (by omega)) (fun i x _ _ => hm _ _ (by omega)), by rw [hc _ _ (by omega)]; exact h5, fun i hi => by rw [hm _ _ (by omega)]; exact h6 i hi, h7.congr (fun j _ _ => hc _ _ (by omega)) (fun x _ _ => hm _ _ (by omega)), by rw [hc _ _ (by omega)]; exact h8, h9.congr (fun j _ => hc _ _ (by omega)) (fun j _ => hm _ _ (by omega)), by rw [hc _ _ (by omega), hm _ _ (by omega)]; exact h10, by rw [hc _ _ (by omega), hm _ _ (by omega)]; exact h11, by rw [hc _ _ (by omega), hm _ _ (by omega)]; exact h12, by rw [hc _ _ (by omega), hm _ _ (by omega)]; exact h13, by rw [hc _ _ (by omega), hm _ _ (by omega)]; exact h14⟩
theorem DR.lx {s t s' t' : StA} {n : Nat} (h : DR s t n) (h1 : eqC LXc s s') (h2 : eqC LXm t t') : DR s' t' n := h.frm (fun x y z => h1.1 _ _ (by unfold LXc; omega)) (fun x y z => h2.1 _ _ (by unfold LXm; omega))
def LFc : Nat → Nat → Prop := fun x y => (12 ≤ x ∧ x ≤ 22) ∨ (x = 47 ∧ 3 ≤ y)
def LFm : Nat → Nat → Prop := fun x y => x = 4 ∨ (x = 0 ∧ ((5 ≤ y ∧ y ≤ 8) ∨ (11 ≤ y ∧ y ≤ 16)))
theorem lxc : ∀ x y, LXc x y → LFc x y := fun x y z => by unfold LXc at z; unfold LFc; omega
theorem lxm : ∀ x y, LXm x y → LFm x y := fun x y z => by unfold LXm at z; unfold LFm; omega
/-- behind a line -/
def LnP (s0 t0 : StA) (L b : Nat) : StA → Int32 → StA → Unit → Prop := fun s' r t' _ => eqC LFc s0 s' ∧ eqC LFm t0 t' ∧ ((r = 1 ∧ ∃ b' p' tok' n', b < b' ∧ TK s' t' L b' p' tok' ∧ DR s' t' n') ∨ (r = 0 ∧ FT s' t'))
/-! what is needed -/
theorem e_needs1 (cd : Int32) (t : StA) : f_X6_needs 1 cd t = some (t, ()) := by
  unfold f_X6_needs
  rw [if_neg (show ¬ (1 : Int32) = 0 by decide)]
theorem e_needs0 {t : StA} (cd : Int32) (h : gi t 0 15 = 0) : f_X6_needs 0 cd t = some (si (si t 0 15 cd) 0 16 (gi t 0 12), ()) := by
  unfold f_X6_needs
  rw [if_pos rfl, if_pos h]
  simp only [nms]
  rw [gi_nj (show (12 : Nat) ≠ 15 by omega)]
theorem nz {x : Int32} (h : 0 < x.toInt) : ¬ x = 0 ∧ ¬ x ≤ 0 := by
  rw [ti_inj, ti_le, show (0 : Int32).toInt = 0 from rfl]
  omega
theorem e_needsF {t : StA} (h : 0 < (gi t 0 15).toInt) (y cd : Int32) : f_X6_needs y cd t = some (t, ()) := by
  unfold f_X6_needs
  rw [if_neg (nz h).1]
  by_cases e : y = 0
  · rw [if_pos e]
  · rw [if_neg e]
theorem e_takesF {t : StA} (h : 0 < (gi t 0 15).toInt) : f_X6_takes t = some (t, ()) := by
  unfold f_X6_takes
  rw [if_neg (nz h).2]
theorem e_lookF {t : StA} (h : 0 < (gi t 0 15).toInt) (a b : Int32) : f_X6_looked a b t = some (t, 0) := by
  unfold f_X6_looked fj_X6_looked_j25
  rw [if_neg (nz h).1, if_neg (nz h).1, if_neg (nz h).1]
theorem e_rnF {t : StA} (h : 0 < (gi t 0 15).toInt) (a b : Int32) : f_X6_readNumber a b t = some (t, 0) := by
  unfold f_X6_readNumber
  rw [e_lookF h]
  simp only [bn_so]
  rw [e_takesF h]
  rfl
def chkC (a1 a2 : Int32) (s1 : StA) : Option (StA × Int32) := if (gi s1 47 6) = 2 then bn (f_X5_isIn (gi s1 47 8) a1 a2 s1) (fun s4 r5 => (if r5 = 0 then bn (f_X3_failAt (gi s4 47 7) 3 s4) (fun s7 r8 => (if r8 = 0 then some (s7, 0) else some (s7, 1))) else some (s4, 1))) else bn (f_X3_failAt (gi s1 47 7) 2 s1) (fun s10 r11 => gz r11 (some (s10, r11)))
theorem e_rnC (a1 a2 : Int32) (s : StA) : f_X3_readNumber a1 a2 s = bn (f_X3_nextToken s) (fun s1 r2 => if r2 = 0 then some (s1, 0) else chkC a1 a2 s1) := rfl
theorem e_fail (w cd : Int32) (s : StA) : f_X3_failAt w cd s = some (si (si s 47 4 w) 47 3 cd, 0) := rfl
theorem FT.mk {s t : StA} {L b p : Nat} {tok : Int32} (h : TK s t L b p tok) {cd : Int32} (hcd : 0 < cd.toInt) : FT (si (si s 47 4 (gi s 47 7)) 47 3 cd) (si (si t 0 15 cd) 0 16 (gi t 0 12)) := by
  obtain ⟨⟨⟨h1, -⟩, h2, -⟩, h3, h4, h5, -⟩ := h
  refine ⟨?_, ?_, b, by omega, ?_, ?_⟩
  · rw [gi_at, gi_nj (by omega), gi_at]
  · rw [gi_nj (by omega), gi_at]; exact hcd
  · rw [gi_nj (by omega), gi_at]; exact h4
  · rw [gi_at]; exact h5
theorem chk {s t : StA} {L b p : Nat} {tok lo hi : Int32} (h : TK s t L b p tok) : ∃ s' r t' v, chkC lo hi s = some (s', r) ∧ f_X6_looked lo hi t = some (t', v) ∧ eqC LXc s s' ∧ eqC LXm t t' ∧ ((r = 1 ∧ s' = s ∧ t' = t ∧ gi s 47 8 = v ∧ lo ≤ v ∧ v ≤ hi) ∨ (r = 0 ∧ v = 0 ∧ FT s' t')) := by
  obtain ⟨⟨-, -, -, -, h15, -⟩, -, -, -, h6, h13, h8, -⟩ := id h
  unfold chkC f_X6_looked fj_X6_looked_j21
  rw [h6, h13, h15, if_pos (show (0 : Int32) = 0 from rfl)]
  have frc : ∀ cd, eqC LXc s (si (si s 47 4 (gi s 47 7)) 47 3 cd) := fun cd => ((eqC.rf s).si ⟨rfl, by omega, by omega⟩).si ⟨rfl, by omega, by omega⟩
  have frm : ∀ cd, eqC LXm t (si (si t 0 15 cd) 0 16 (gi t 0 12)) := fun cd => ((eqC.rf t).si ⟨rfl, by omega, by omega⟩).si ⟨rfl, by omega, by omega⟩
  have f15 : ∀ cd, gi (si (si t 0 15 cd) 0 16 (gi t 0 12)) 0 15 = cd := fun cd => by rw [gi_nj (by omega), gi_at]
  by_cases e : tok = 2
  · rw [if_pos e, if_pos e, e_needs1, e_isIn, h8 e]
    simp only [bn_so]
    unfold fj_X6_looked_j25
    rw [h15, if_pos (show (0 : Int32) = 0 from rfl), e_in (y := lo.toInt64) (z := hi.toInt64) (b := lo) (c := hi) rfl rfl]
    simp only [bn_so]
    by_cases q : lo ≤ gi t 0 14 ∧ gi t 0 14 ≤ hi
    · rw [if_pos q, if_neg (show ¬ (1 : Int32) = 0 by decide), e_needs1]
      simp only [bn_so]
      rw [h15, if_pos (show (0 : Int32) = 0 from rfl)]
      exact ⟨_, _, _, _, rfl, rfl, eqC.rf s, eqC.rf t, Or.inl ⟨rfl, rfl, rfl, rfl, q⟩⟩
    · rw [if_neg q, if_pos (show (0 : Int32) = 0 from rfl), e_needs0 3 h15, e_fail]
      simp only [bn_so]
      rw [f15, if_neg (show ¬ (3 : Int32) = 0 by decide), if_pos trivial]
      exact ⟨_, _, _, _, rfl, rfl, frc 3, frm 3, Or.inr ⟨rfl, rfl, FT.mk h (by decide)⟩⟩
  · rw [if_neg e, if_neg e, e_needs0 2 h15, e_fail]
    simp only [bn_so]
    unfold fj_X6_looked_j25
    rw [f15, if_neg (show ¬ (2 : Int32) = 0 by decide), if_neg (show ¬ (2 : Int32) = 0 by decide)]
    exact ⟨_, _, _, _, rfl, rfl, frc 2, frm 2, Or.inr ⟨rfl, rfl, FT.mk h (by decide)⟩⟩
/-! the reference's line, from its checks on -/
def tailm (s20 : StA) : Option (StA × Unit) := if (gi s20 0 15) = 0 then (if (gi s20 0 13) = 3 then fj_X6_readLine_j184 1 s20 else fj_X6_readLine_j184 0 s20) else bn (f_X6_takes s20) (fun s23 r24 => some (s23, ()))
def RLm (k : Int32) (u : StA) : Option (StA × Unit) := bn (f_X6_takes u) (fun s17 r18 => if (gi s17 0 15) ≤ 0 then bn (f_X6_readLineOf k s17) (fun s20 r21 => tailm s20) else some (s17, ()))
theorem j143_e (k y0 : Int32) (t : StA) : fj_X6_readLine_j143 k y0 t = gz y0 (RLm k (si t 0 8 y0)) := rfl
theorem tail_F {t : StA} (h : 0 < (gi t 0 15).toInt) : tailm t = some (t, ()) := by
  unfold tailm
  rw [if_neg (nz h).1, e_takesF h]
  rfl
theorem RL_F {t : StA} {k : Int32} (h : 0 < (gi t 0 15).toInt) : RLm k t = some (t, ()) := by
  unfold RLm
  rw [e_takesF h]
  simp only [bn_so]
  rw [if_neg (nz h).2]
theorem j121_F {t : StA} {k y0 : Int32} (h : 0 < (gi t 0 15).toInt) (hy : y0 = 0 ∨ y0 = 1) : ∃ z, fj_X6_readLine_j121 k y0 t = some (si (si t 0 7 y0) 0 8 z, ()) := by
  unfold fj_X6_readLine_j121 fj_X6_readLine_j138 gz
  rw [if_pos hy]
  simp only [nms]
  have R : ∀ z, RLm k (si (si t 0 7 y0) 0 8 z) = some (si (si t 0 7 y0) 0 8 z, ()) := fun z => RL_F (by rw [gi_nj (by omega), gi_nj (by omega)]; exact h)
  rw [j143_e, j143_e]
  unfold gz
  rw [if_pos (show (1 : Int32) = 0 ∨ (1 : Int32) = 1 from Or.inr rfl), if_pos (show (0 : Int32) = 0 ∨ (0 : Int32) = 1 from Or.inl rfl), R, R]
  by_cases a : gi (si t 0 7 y0) 0 8 = 0
  · rw [if_pos a]
    by_cases b : k = 6
    · rw [if_pos b]; exact ⟨_, rfl⟩
    · rw [if_neg b]; exact ⟨_, rfl⟩
  · rw [if_neg a]; exact ⟨_, rfl⟩
theorem j99_F {t : StA} {k y : Int32} (h : 0 < (gi t 0 15).toInt) : ∃ y0 z, fj_X6_readLine_j99 k y t = some (si (si t 0 7 y0) 0 8 z, ()) := by
  unfold fj_X6_readLine_j99 fj_X6_readLine_j116
  rw [e_needsF h]
  simp only [bn_so]
  by_cases a : gi t 0 7 = 0
  · rw [if_pos a]
    by_cases b : k = 5
    · rw [if_pos b]; exact ⟨1, j121_F h (Or.inr rfl)⟩
    · rw [if_neg b]; exact ⟨0, j121_F h (Or.inl rfl)⟩
  · rw [if_neg a]; exact ⟨1, j121_F h (Or.inr rfl)⟩
theorem j76_F {t : StA} {k y : Int32} (h : 0 < (gi t 0 15).toInt) : ∃ y0 z, fj_X6_readLine_j76 k y t = some (si (si t 0 7 y0) 0 8 z, ()) := by
  unfold fj_X6_readLine_j76 fj_X6_readLine_j94
  rw [e_needsF h]
  simp only [bn_so]
  by_cases a : k = 6
  · rw [if_pos a]
    by_cases b : gi t 0 8 = 0
    · rw [if_pos b]; exact j99_F h
    · rw [if_neg b]; exact j99_F h
  · rw [if_neg a]; exact j99_F h
theorem j54_F {t : StA} {k y : Int32} (h : 0 < (gi t 0 15).toInt) : ∃ y0 z, fj_X6_readLine_j54 k y t = some (si (si t 0 7 y0) 0 8 z, ()) := by
  unfold fj_X6_readLine_j54 fj_X6_readLine_j71
  rw [e_needsF h]
  simp only [bn_so]
  by_cases a : k = 5
  · rw [if_pos a]
    by_cases b : gi t 0 7 = 0
    · rw [if_pos b]; exact j76_F h
    · rw [if_neg b]; exact j76_F h
  · rw [if_neg a]; exact j76_F h
/-- no such line -/
theorem j17_none {t : StA} (h : gi t 0 15 = 0) : ∃ y z, fj_X6_readLine_j17 (-4) t = some (si (si (si (si t 0 15 2) 0 16 (gi t 0 12)) 0 7 y) 0 8 z, ()) := by
  unfold fj_X6_readLine_j17 fj_X6_readLine_j30 fj_X6_readLine_j49
  have F : 0 < (gi (si (si t 0 15 2) 0 16 (gi t 0 12)) 0 15).toInt := by rw [gi_nj (by omega), gi_at]; decide
  rw [if_pos rfl, e_needs0 2 h]
  simp only [bn_so]
  rw [if_neg (show ¬ (4 : Int32) ≤ -4 by decide)]
  by_cases a : 6 ≤ gi (si (si t 0 15 2) 0 16 (gi t 0 12)) 0 5
  · rw [if_pos a]; exact j54_F F
  · rw [if_neg a]; exact j54_F F
theorem j17_thing {t : StA} {k n : Nat} {r1 r2 : Bool} (hk : k < 4) (h5 : gi t 0 5 = nI n) (hn : n < 6) (h7 : gi t 0 7 = bI r1) (h8 : gi t 0 8 = bI r2) : fj_X6_readLine_j17 (nI k) t = RLm (nI k) (si (si t 0 7 (bI r1)) 0 8 (bI r2)) := by
  have k4 : ¬ nI k = -4 := by rw [ti_inj, ti_nI (by omega), show (-4 : Int32).toInt = -4 from rfl]; omega
  have k5 : ¬ nI k = 5 := by rw [show (5 : Int32) = nI 5 from rfl, nI_eq' (by omega) (by omega)]; omega
  have k6 : ¬ nI k = 6 := by rw [show (6 : Int32) = nI 6 from rfl, nI_eq' (by omega) (by omega)]; omega
  have kl : ¬ 4 ≤ nI k := by rw [show (4 : Int32) = nI 4 from rfl, nI_le' (by omega) (by omega)]; omega
  have nl : ¬ 6 ≤ nI n := by rw [show (6 : Int32) = nI 6 from rfl, nI_le' (by omega) (by omega)]; omega
  unfold fj_X6_readLine_j17 fj_X6_readLine_j30 fj_X6_readLine_j49 fj_X6_readLine_j54 fj_X6_readLine_j71 fj_X6_readLine_j76 fj_X6_readLine_j94 fj_X6_readLine_j99 fj_X6_readLine_j116 fj_X6_readLine_j121 fj_X6_readLine_j138
  simp only [e_needs1, bn_so, j143_e, nms, h5, k4, k5, k6, kl, nl, if_false, h7]
  have g8 : ∀ y, gi (si t 0 7 y) 0 8 = bI r2 := fun y => by rw [gi_nj (by omega)]; exact h8
  simp only [g8]
  cases r1 <;> cases r2 <;> rfl
theorem j17_full {t : StA} {k : Nat} (hk : k < 4) (h15 : gi t 0 15 = 0) (h5 : gi t 0 5 = nI 6) : ∃ y z, fj_X6_readLine_j17 (nI k) t = some (si (si (si (si t 0 15 5) 0 16 (gi t 0 12)) 0 7 y) 0 8 z, ()) := by
  have k4 : ¬ nI k = -4 := by rw [ti_inj, ti_nI (by omega), show (-4 : Int32).toInt = -4 from rfl]; omega
  have k5 : ¬ nI k = 5 := by rw [show (5 : Int32) = nI 5 from rfl, nI_eq' (by omega) (by omega)]; omega
  have kl : ¬ 4 ≤ nI k := by rw [show (4 : Int32) = nI 4 from rfl, nI_le' (by omega) (by omega)]; omega
  have F : 0 < (gi (si (si t 0 15 5) 0 16 (gi t 0 12)) 0 15).toInt := by rw [gi_nj (by omega), gi_at]; decide
  unfold fj_X6_readLine_j17 fj_X6_readLine_j30 fj_X6_readLine_j49
  rw [if_neg k4, e_needs1]
  simp only [bn_so]
  rw [if_neg kl, h5, if_pos (show (6 : Int32) ≤ nI 6 by decide)]
  unfold fj_X6_readLine_j54 fj_X6_readLine_j71
  rw [e_needs0 5 h15]
  simp only [bn_so]
  rw [if_neg k5]
  exact j76_F F
theorem j17_wind {t : StA} {r1 r2 : Bool} (h7 : gi t 0 7 = bI r1) (h8 : gi t 0 8 = bI r2) : fj_X6_readLine_j17 4 t = RLm 4 (si (si t 0 7 (bI r1)) 0 8 (bI r2)) := by
  have k4 : ¬ (4 : Int32) = -4 := by decide
  have k5 : ¬ (4 : Int32) = 5 := by decide
  have k6 : ¬ (4 : Int32) = 6 := by decide
  have kl : (4 : Int32) ≤ 4 := by decide
  unfold fj_X6_readLine_j17 fj_X6_readLine_j30 fj_X6_readLine_j49 fj_X6_readLine_j54 fj_X6_readLine_j71 fj_X6_readLine_j76 fj_X6_readLine_j94 fj_X6_readLine_j99 fj_X6_readLine_j116 fj_X6_readLine_j121 fj_X6_readLine_j138
  simp only [e_needs1, bn_so, j143_e, nms, k4, k5, k6, kl, if_false, if_true, h7]
  have g8 : ∀ y, gi (si t 0 7 y) 0 8 = bI r2 := fun y => by rw [gi_nj (by omega)]; exact h8
  simp only [g8]
  cases r1 <;> cases r2 <;> rfl
theorem j17_rate {t : StA} {r2 : Bool} (h7 : gi t 0 7 = 0) (h8 : gi t 0 8 = bI r2) : fj_X6_readLine_j17 5 t = RLm 5 (si (si t 0 7 1) 0 8 (bI r2)) := by
  have k4 : ¬ (5 : Int32) = -4 := by decide
  have k6 : ¬ (5 : Int32) = 6 := by decide
  have kl : (4 : Int32) ≤ 5 := by decide
  unfold fj_X6_readLine_j17 fj_X6_readLine_j30 fj_X6_readLine_j49 fj_X6_readLine_j54 fj_X6_readLine_j71 fj_X6_readLine_j76 fj_X6_readLine_j94 fj_X6_readLine_j99 fj_X6_readLine_j116 fj_X6_readLine_j121 fj_X6_readLine_j138
  simp only [e_needs1, bn_so, j143_e, nms, k4, k6, kl, if_false, if_true, h7]
  have g8 : ∀ y, gi (si t 0 7 y) 0 8 = bI r2 := fun y => by rw [gi_nj (by omega)]; exact h8
  simp only [g8]
  cases r2 <;> rfl
theorem j17_rate2 {t : StA} (h15 : gi t 0 15 = 0) (h7 : gi t 0 7 = 1) : ∃ y z, fj_X6_readLine_j17 5 t = some (si (si (si (si t 0 15 4) 0 16 (gi t 0 12)) 0 7 y) 0 8 z, ()) := by
  have F : 0 < (gi (si (si t 0 15 4) 0 16 (gi t 0 12)) 0 15).toInt := by rw [gi_nj (by omega), gi_at]; decide
  unfold fj_X6_readLine_j17 fj_X6_readLine_j30 fj_X6_readLine_j49 fj_X6_readLine_j54 fj_X6_readLine_j71
  rw [if_neg (show ¬ (5 : Int32) = -4 by decide), e_needs1]
  simp only [bn_so]
  rw [if_pos (show (4 : Int32) ≤ 5 by decide), e_needs1]
  simp only [bn_so]
  rw [if_pos trivial, h7, if_neg (show ¬ (1 : Int32) = 0 by decide)]
  unfold fj_X6_readLine_j76 fj_X6_readLine_j94
  rw [e_needs0 4 h15]
  simp only [bn_so]
  rw [if_neg (show ¬ (5 : Int32) = 6 by decide)]
  exact j99_F F
theorem j17_start {t : StA} {r1 : Bool} (h7 : gi t 0 7 = bI r1) (h8 : gi t 0 8 = 0) : fj_X6_readLine_j17 6 t = RLm 6 (si (si t 0 7 (bI r1)) 0 8 1) := by
  have k4 : ¬ (6 : Int32) = -4 := by decide
  have k5 : ¬ (6 : Int32) = 5 := by decide
  have kl : (4 : Int32) ≤ 6 := by decide
  unfold fj_X6_readLine_j17 fj_X6_readLine_j30 fj_X6_readLine_j49 fj_X6_readLine_j54 fj_X6_readLine_j71 fj_X6_readLine_j76 fj_X6_readLine_j94 fj_X6_readLine_j99 fj_X6_readLine_j116 fj_X6_readLine_j121 fj_X6_readLine_j138
  simp only [e_needs1, bn_so, j143_e, nms, k4, k5, kl, if_false, if_true, h7, h8]
  have g8 : ∀ y, gi (si t 0 7 y) 0 8 = 0 := fun y => by rw [gi_nj (by omega)]; exact h8
  simp only [g8]
  cases r1 <;> rfl
theorem j17_start2 {t : StA} (h15 : gi t 0 15 = 0) (h8 : gi t 0 8 = 1) : ∃ y z, fj_X6_readLine_j17 6 t = some (si (si (si (si t 0 15 4) 0 16 (gi t 0 12)) 0 7 y) 0 8 z, ()) := by
  have F : 0 < (gi (si (si t 0 15 4) 0 16 (gi t 0 12)) 0 15).toInt := by rw [gi_nj (by omega), gi_at]; decide
  unfold fj_X6_readLine_j17 fj_X6_readLine_j30 fj_X6_readLine_j49 fj_X6_readLine_j54 fj_X6_readLine_j71 fj_X6_readLine_j76
  rw [if_neg (show ¬ (6 : Int32) = -4 by decide), e_needs1]
  simp only [bn_so]
  rw [if_pos (show (4 : Int32) ≤ 6 by decide), e_needs1]
  simp only [bn_so]
  rw [if_neg (show ¬ (6 : Int32) = 5 by decide), e_needs1]
  simp only [bn_so]
  rw [if_pos trivial, h8, if_neg (show ¬ (1 : Int32) = 0 by decide)]
  unfold fj_X6_readLine_j99 fj_X6_readLine_j116
  rw [e_needs0 4 h15]
  simp only [bn_so]
  by_cases a : gi (si (si t 0 15 4) 0 16 (gi t 0 12)) 0 7 = 0
  · rw [if_pos a, if_neg (show ¬ (6 : Int32) = 5 by decide)]
    exact ⟨0, j121_F F (Or.inl rfl)⟩
  · rw [if_neg a]
    exact ⟨1, j121_F F (Or.inr rfl)⟩
/-! a line's end -/
theorem semi {s t : StA} {L p : Nat} (h : TB s t L p) : ∃ s' r t2, f_X3_readSemicolon s = some (s', r) ∧ f_X6_takes t = some (t2, ()) ∧ eqC LXc s s' ∧ eqC LXm t t2 ∧ ((r = 1 ∧ gi t2 0 15 = 0 ∧ gi t2 0 13 = 3 ∧ ∃ b p', p ≤ b ∧ b < p' ∧ TB s' t2 L p') ∨ (r = 0 ∧ gi t2 0 15 = 0 ∧ ¬ gi t2 0 13 = 3 ∧ ∃ b, b ≤ 160 ∧ gi s' 47 3 = 2 ∧ gi s' 47 4 = nI b ∧ gi t2 0 12 = nI b) ∨ (r = 0 ∧ FT s' t2)) := by
  obtain ⟨s1, r1, t1, e1, e2, a1, a2, hr⟩ := lex h
  unfold f_X3_readSemicolon
  rw [e1]
  simp only [bn_so]
  rcases hr with ⟨rfl, b, p', tok, hb, hK⟩ | ⟨rfl, hF⟩
  · rw [if_neg (show ¬ (1 : Int32) = 0 by decide)]
    obtain ⟨k1, k2, k3, k4, k5, k6, k7, k8⟩ := id hK
    rw [k5]
    by_cases e : tok = 3
    · rw [if_pos e]
      exact ⟨_, _, _, rfl, e2, a1, a2, Or.inl ⟨rfl, k1.2.2.2.2.1, by rw [k6]; exact e, b, p', hb, k8 (by rw [e]; decide), k1⟩⟩
    · rw [if_neg e, e_fail]
      simp only [bn_so]
      rw [if_pos trivial]
      refine ⟨_, _, _, rfl, e2, (a1.si ⟨rfl, by omega, by omega⟩).si ⟨rfl, by omega, by omega⟩, a2, Or.inr (Or.inl ⟨rfl, k1.2.2.2.2.1, by rw [k6]; exact e, b, by have := k1.2.1; have := k1.1.1; omega, gi_at _ _ _ _, by rw [gi_nj (by omega), gi_at]; exact k3, k4⟩)⟩
  · rw [if_pos (show (0 : Int32) = 0 from rfl)]
    exact ⟨_, _, _, rfl, e2, a1, a2, Or.inr (Or.inr ⟨rfl, hF⟩)⟩
theorem close {s0 t0 s t : StA} {L b p n' : Nat} (h : TB s t L p) {K : StA → Int32 → Option (StA × Int32)} (hK0 : ∀ s, K s 0 = some (s, 0)) (hK1 : ∀ s, K s 1 = f_X3_nextToken s) (u : StA → StA) (hu : ∀ t' x y, ((x = 0 ∧ 10 ≤ y) ∨ x = 5) → gi (u t') x y = gi t' x y) (hD : ∀ s' t', eqC LXc s s' → eqC LXm t t' → DR s' (u t') n') (hFm : ∀ t', eqC LXm t t' → eqC LFm t0 (u t')) (hFc : eqC LFc s0 s) (hbp : b < p) : E2 (bn (f_X3_readSemicolon s) K) (bn (f_X6_takes t) (fun t2 _ => tailm (u t2))) (LnP s0 t0 L b) := by
  obtain ⟨s1, r1, t2, e1, e2, a1, a2, hr⟩ := semi h
  rw [e1, e2]
  simp only [bn_so]
  have u15 : gi (u t2) 0 15 = gi t2 0 15 := hu _ _ _ (by omega)
  have u13 : gi (u t2) 0 13 = gi t2 0 13 := hu _ _ _ (by omega)
  have u12 : gi (u t2) 0 12 = gi t2 0 12 := hu _ _ _ (by omega)
  have u16 : gi (u t2) 0 16 = gi t2 0 16 := hu _ _ _ (by omega)
  rcases hr with ⟨rfl, k1, k2, b1, p', k3, k4, k5⟩ | ⟨rfl, k1, k2, b1, k3, k4, k5, k6⟩ | ⟨rfl, hF⟩
  · rw [hK1]
    unfold tailm
    rw [u15, k1, if_pos rfl, u13, if_pos k2]
    unfold fj_X6_readLine_j184
    rw [e_needs1]
    simp only [bn_so]
    obtain ⟨s3, r3, t3, e3, e4, d1, d2, hr3⟩ := lex (s := s1) (t := u t2) (k5.frm (fun _ _ _ => rfl) (fun x y z => hu _ _ _ (by omega)))
    rw [e3, e4]
    refine E2_ret ⟨(hFc.tr (a1.mono lxc)).tr (d1.mono lxc), (hFm t2 a2).tr (d2.mono lxm), ?_⟩
    rcases hr3 with ⟨rfl, b2, p2, tok, q1, q2⟩ | ⟨rfl, q⟩
    · exact Or.inl ⟨rfl, b2, p2, tok, n', by omega, q2, (hD s1 t2 a1 a2).lx d1 d2⟩
    · exact Or.inr ⟨rfl, q⟩
  · rw [hK0]
    unfold tailm
    rw [u15, k1, if_pos rfl, u13, if_neg k2]
    unfold fj_X6_readLine_j184
    rw [e_needs0 2 (by rw [u15]; exact k1)]
    simp only [bn_so]
    have F : FT s1 (si (si (u t2) 0 15 2) 0 16 (gi (u t2) 0 12)) := by
      refine ⟨?_, ?_, b1, k3, k5, ?_⟩
      · rw [k4, gi_nj (by omega), gi_at]
      · rw [gi_nj (by omega), gi_at]; decide
      · rw [gi_at, u12]; exact k6
    rw [e_takesF F.2.1]
    simp only [bn_so]
    exact E2_ret ⟨hFc.tr (a1.mono lxc), ((hFm t2 a2).si (Or.inr ⟨rfl, Or.inr (by omega)⟩)).si (Or.inr ⟨rfl, Or.inr (by omega)⟩), Or.inr ⟨rfl, F⟩⟩
  · rw [hK0, tail_F (by rw [u15]; exact hF.2.1)]
    exact E2_ret ⟨hFc.tr (a1.mono lxc), hFm t2 a2, Or.inr ⟨rfl, hF.frm rfl rfl u15 u16⟩⟩
