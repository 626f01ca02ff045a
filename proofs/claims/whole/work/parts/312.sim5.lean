/-! alter, blow, rate, say, take, plan, cut, see, forget -/
theorem e_becomes {j : Nat} {v : Int32} {m : StA} (hj : j < 189) : f_X6_becomes (nI j) v m = some (si m 1 j v, gi m 1 j) := by
  unfold f_X6_becomes
  simp only [gd_n hj (show (189 : Nat) < 1000000 by omega), tn_nI (show j < 2147483648 by omega), nmi, nms]
theorem Rsd.s1 {c m : StA} {k n S t : Nat} (h : Rsd c k m 1 0 n S) (hn : n ≤ 6) (ht : t < n) : Rsd (si c k 7 (nI (S ||| 2 ^ t))) k (si m 1 (4 * t + 3) 1) 1 0 n (S ||| 2 ^ t) := by
  obtain ⟨h1, h2, h3⟩ := h
  refine ⟨bt_lt h1 ht, by rw [gi_si, if_pos ⟨rfl, rfl⟩], fun i hi => ?_⟩
  rw [bt_tset S (bt_64 h1 hn) t (by omega) i (by omega), gi_si]
  by_cases e : t = i
  · rw [if_pos ⟨rfl, by omega⟩, e]
    simp [bI]
  · rw [if_neg (by omega), h3 i hi]
    simp [e]
theorem Rsd.s0 {c m : StA} {k n S t : Nat} (h : Rsd c k m 1 0 n S) (hn : n ≤ 6) (ht : t < n) : Rsd (si c k 7 (nI (S &&& (63 - 2 ^ t)))) k (si m 1 (4 * t + 3) 0) 1 0 n (S &&& (63 - 2 ^ t)) := by
  obtain ⟨h1, h2, h3⟩ := h
  refine ⟨bt_ltc h1, by rw [gi_si, if_pos ⟨rfl, rfl⟩], fun i hi => ?_⟩
  rw [bt_tclr S (bt_64 h1 hn) t (by omega) i (by omega), gi_si]
  by_cases e : t = i
  · rw [if_pos ⟨rfl, by omega⟩, e]
    simp [bI]
  · rw [if_neg (by omega), h3 i hi]
    simp [e]
/-- one cell of the things changed, said apart -/
theorem RR.th1 {c m : StA} {n P Q S i q : Nat} {v : Int32} (h : RR c m n P Q S) (hi : i < n) (hq : q < 3) (hv : rg v (if q = 1 then 1 else 0) (if q = 0 then 3 else if q = 1 then 9 else 1)) : RR (si c (2 + q) i v) (si m 1 (4 * i + q) v) n P Q S := by
  have hn := h.1.1
  refine h.mut (fun x y a b => gi_nk (by omega)) (fun x y a b => by
    by_cases e : x = 1
    · exact gi_nj (by omega)
    · exact gi_nk e) ?_ (by rw [gi_nk (by omega)]; exact h.2.1)
  obtain ⟨g1, g2, g3, g4, g5, g6, g7, g8, g9⟩ := h.1
  have hc : ∀ x y, x ≠ 2 + q → gi (si c (2 + q) i v) x y = gi c x y := fun x y z => gi_nk z
  have hm : ∀ y, y ≠ 4 * i + q → gi (si m 1 (4 * i + q) v) 1 (0 + y) = gi m 1 (0 + y) := fun y z => gi_nj (by omega)
  refine ⟨g1, by rw [hc _ _ (by omega)]; exact g2, by rw [gi_nk (by omega)]; exact g3, fun z hz => ?_, g5.congr (hc _ _ (by omega)) (fun i hi => hm _ (by omega)), g6.congr (fun j _ _ => hc _ _ (by omega)) (fun x _ _ => hm _ (by omega)), g7.congr (fun j _ => hc _ _ (by omega)) (fun j _ => hm _ (by omega)), g8.congr (hc _ _ (by omega)) (fun q _ _ j _ => hc _ _ (by omega)) (fun x _ _ => hm _ (by omega)), g9.congr (hc _ _ (by omega)) (fun q _ _ j _ => hc _ _ (by omega)) (fun x _ _ => hm _ (by omega))⟩
  obtain ⟨r1, r2, r3, r4, r5, r6⟩ := g4 z hz
  by_cases e : z = i
  · subst e
    rcases (show q = 0 ∨ q = 1 ∨ q = 2 by omega) with rfl | rfl | rfl
    · rw [hc (1 + 2) _ (by omega), hc (1 + 3) _ (by omega), hm (4 * z + 1) (by omega), hm (4 * z + 2) (by omega)]
      have e1 : gi (si c (2 + 0) z v) (1 + 1) z = v := gi_at _ _ _ _
      have e2 : gi (si m 1 (4 * z + 0) v) 1 (0 + 4 * z) = v := by rw [show 0 + 4 * z = 4 * z + 0 by omega, gi_at]
      rw [e1, e2]
      exact ⟨rfl, r2, r3, hv, r5, r6⟩
    · rw [hc (1 + 1) _ (by omega), hc (1 + 3) _ (by omega), hm (4 * z) (by omega), hm (4 * z + 2) (by omega)]
      have e1 : gi (si c (2 + 1) z v) (1 + 2) z = v := gi_at _ _ _ _
      have e2 : gi (si m 1 (4 * z + 1) v) 1 (0 + (4 * z + 1)) = v := by rw [Nat.zero_add, gi_at]
      rw [e1, e2]
      exact ⟨r1, rfl, r3, r4, hv, r6⟩
    · rw [hc (1 + 1) _ (by omega), hc (1 + 2) _ (by omega), hm (4 * z) (by omega), hm (4 * z + 1) (by omega)]
      have e1 : gi (si c (2 + 2) z v) (1 + 3) z = v := gi_at _ _ _ _
      have e2 : gi (si m 1 (4 * z + 2) v) 1 (0 + (4 * z + 2)) = v := by rw [Nat.zero_add, gi_at]
      rw [e1, e2]
      exact ⟨r1, r2, rfl, r4, r5, hv⟩
  · rw [gi_nj e, gi_nj e, gi_nj e, hm (4 * z) (by omega), hm (4 * z + 1) (by omega), hm (4 * z + 2) (by omega)]
    exact ⟨r1, r2, r3, r4, r5, r6⟩
theorem grk_ok {β : Type} {k : Option β} : gr 2 6 k = k ∧ gr 3 6 k = k ∧ gr 4 6 k = k := by
  refine ⟨?_, ?_, ?_⟩
  · unfold gr; rw [if_pos cs_2]
  · unfold gr; rw [if_pos cs_3]
  · unfold gr; rw [if_pos cs_4]
theorem rg_ck {v lo hi : Int32} {l g : Int} (hl : lo.toInt = l) (hg : hi.toInt = g) (h : lo ≤ v ∧ v ≤ hi) : rg v l g := by
  obtain ⟨a, b⟩ := h
  rw [ti_le] at a b
  exact ⟨by omega, by omega⟩
theorem sim_alter (a b d : Int32) {c m : StA} (h : R0 c m) : E2 (f_X5_alter a b d c) (f_X6_alter a b d m) Fin := by
  have h0 := h
  obtain ⟨n, P, Q, S, h⟩ := h
  have hn := h.1.1
  have bad : Fin c (-1 : Int32) m (-1) := ⟨rfl, h0⟩
  have j50 : ∀ y : Int32, fj_X6_alter_j50 a b d y m = if 0 ≤ a ∧ a ≤ nI n - 1 then (if y = 0 then some (m, -1) else bn (f_X6_becomes (4 * a + b) d m) (fun s r => some (s, r))) else some (m, -1) := by
    intro y
    unfold fj_X6_alter_j50
    rw [e_isThing, h.1.2.2.1]
    simp only [bn]
    by_cases hp : 0 ≤ a ∧ a ≤ nI n - 1
    · rw [if_pos hp, if_pos hp, if_neg (show ¬ (1 : Int32) = 0 by decide)]
    · rw [if_neg hp, if_neg hp, if_pos rfl]
  have key : ∀ (q : Nat) (lo hi : Int32) (l g : Int), q < 3 → b = nI q → lo.toInt = l → hi.toInt = g → (∀ {r : Option (StA × Int32)}, gr (2 + q) 6 r = r) → f_X5_leastOf b c = some (c, lo) → f_X5_greatestOf b c = some (c, hi) → f_X1_rowOf 1 b c = some (c, 2 + q) → l = (if q = 1 then 1 else 0) → g = (if q = 0 then 3 else if q = 1 then 9 else 1) → E2 (f_X5_alter a b d c) (fj_X6_alter_j50 a b d (if lo ≤ d ∧ d ≤ hi then 1 else 0) m) Fin := by
    intro q lo hi l g hq hb hl hg hgr e1 e2 e3 hl2 hg2
    rw [j50]
    unfold f_X5_alter
    rw [e_hasThing, h.1.2.1]
    simp only [bn]
    by_cases hp : 0 ≤ a ∧ a ≤ nI n - 1
    · rw [if_pos hp, if_pos hp, if_neg (show ¬ (1 : Int32) = 0 by decide), e_isIn]
      simp only
      rw [if_pos (show 0 ≤ b ∧ b ≤ 2 by
        rw [hb, ti_le, ti_le, ti_nI (by omega), show (0 : Int32).toInt = 0 from rfl, show (2 : Int32).toInt = 2 from rfl]
        omega), if_neg (show ¬ (1 : Int32) = 0 by decide), e1]
      simp only
      rw [e2]
      simp only
      rw [e_isIn]
      simp only
      by_cases hv : lo ≤ d ∧ d ≤ hi
      · rw [if_pos hv, if_neg (show ¬ (1 : Int32) = 0 by decide), if_neg (show ¬ (1 : Int32) = 0 by decide), e3]
        simp only
        obtain ⟨i, hi2, rfl⟩ := ck_t (by omega) hp
        rw [hgr, gd_n (show i < 6 by omega) (by omega), hb, ix4 (by omega) (by omega), e_becomes (by omega)]
        simp only [nmi, nms]
        rw [gd_n (show i < 6 by omega) (by omega), tn_nI (by omega)]
        have hgi : gi c (2 + q) i = gi m 1 (4 * i + q) := by
          obtain ⟨t1, t2, t3, -⟩ := h.th hi2
          rcases (show q = 0 ∨ q = 1 ∨ q = 2 by omega) with rfl | rfl | rfl
          · exact t1
          · exact t2
          · exact t3
        rw [hgi]
        have hrg : rg d (if q = 1 then 1 else 0) (if q = 0 then 3 else if q = 1 then 9 else 1) := by
          rw [← hl2, ← hg2]
          exact rg_ck hl hg hv
        exact E2_ret ⟨rfl, n, P, Q, S, h.th1 hi2 hq hrg⟩
      · rw [if_neg hv, if_pos rfl, if_pos rfl]
        exact E2_ret bad
    · rw [if_neg hp, if_neg hp, if_pos rfl]
      exact E2_ret bad
  unfold f_X6_alter
  by_cases b0 : b = 0
  · rw [if_pos b0, e_in (y := 0) (z := 3) (b := 0) (c := 3) rfl rfl]
    simp only [bn]
    exact key 0 0 3 0 3 (by omega) b0 rfl rfl grk_ok.1 (by unfold f_X5_leastOf; rw [b0]; rfl) (by unfold f_X5_greatestOf; rw [b0]; rfl) (by unfold f_X1_rowOf; rw [b0]; rfl) rfl rfl
  · rw [if_neg b0]
    by_cases b1 : b = 1
    · rw [if_pos b1, e_in (y := 1) (z := 9) (b := 1) (c := 9) rfl rfl]
      simp only [bn]
      exact key 1 1 9 1 9 (by omega) b1 rfl rfl grk_ok.2.1 (by unfold f_X5_leastOf; rw [b1]; rfl) (by unfold f_X5_greatestOf; rw [b1]; rfl) (by unfold f_X1_rowOf; rw [b1]; rfl) rfl rfl
    · rw [if_neg b1]
      by_cases b2 : b = 2
      · rw [if_pos b2, e_isPart]
        simp only [bn]
        have e : (if (if 0 ≤ d ∧ d ≤ 1 then (1 : Int32) else 0) = 0 then fj_X6_alter_j49 a b d m else fj_X6_alter_j50 a b d 1 m) = fj_X6_alter_j50 a b d (if 0 ≤ d ∧ d ≤ 1 then 1 else 0) m := by
          by_cases hv : 0 ≤ d ∧ d ≤ 1
          · rw [if_pos hv, if_neg (show ¬ (1 : Int32) = 0 by decide)]
          · rw [if_neg hv, if_pos rfl]
            rfl
        rw [e]
        exact key 2 0 1 0 1 (by omega) b2 rfl rfl grk_ok.2.2 (by unfold f_X5_leastOf; rw [b2]; rfl) (by unfold f_X5_greatestOf; rw [b2]; rfl) (by unfold f_X1_rowOf; rw [b2]; rfl) rfl rfl
      · rw [if_neg b2]
        unfold fj_X6_alter_j49
        rw [j50, if_pos rfl]
        unfold f_X5_alter
        rw [e_hasThing, h.1.2.1]
        simp only [bn]
        by_cases hp : 0 ≤ a ∧ a ≤ nI n - 1
        · rw [if_pos hp, if_pos hp, if_neg (show ¬ (1 : Int32) = 0 by decide), e_isIn]
          simp only
          rw [if_neg (show ¬ (0 ≤ b ∧ b ≤ 2) from fun z => by
            obtain ⟨q, hq, rfl⟩ := ck_n (N := 2) rfl z
            rcases (show q = 0 ∨ q = 1 ∨ q = 2 by omega) with rfl | rfl | rfl
            · exact b0 rfl
            · exact b1 rfl
            · exact b2 rfl), if_pos rfl]
          exact E2_ret bad
        · rw [if_neg hp, if_neg hp, if_pos rfl]
          exact E2_ret bad
theorem RR.num {c m c' m' : StA} {n P Q S : Nat} (h : RR c m n P Q S) (hc : ∀ x y, x ≠ 1 → gi c' x y = gi c x y) (hc1 : ∀ y, y ≤ 7 → gi c' 1 y = gi c 1 y) (hm : ∀ x y, ¬ (x = 1 ∧ 24 ≤ y ∧ y ≤ 27) → gi m' x y = gi m x y) (hR : Rnm c' 1 m' 1 0) (hmin : (gi c' 1 11).toInt ≤ 999) : RR c' m' n P Q S := by
  have hn := h.1.1
  refine h.mut (fun x y a b => hc _ _ (by omega)) (fun x y a b => hm _ _ (by omega)) ?_ hmin
  obtain ⟨g1, g2, g3, g4, g5, g6, g7, g8, g9⟩ := h.1
  have hP := g8.1
  have hQ := g9.1
  exact ⟨g1, by rw [hc1 _ (by omega)]; exact g2, by rw [hm _ _ (by omega)]; exact g3, g4.congr (fun q _ _ j _ => hc _ _ (by omega)) (fun i x _ _ => hm _ _ (by omega)), g5.congr (hc1 _ (by omega)) (fun i hi => hm _ _ (by omega)), hR, g7.congr (fun j _ => hc _ _ (by omega)) (fun j _ => hm _ _ (by omega)), g8.congr (hc _ _ (by omega)) (fun q _ _ j _ => hc _ _ (by omega)) (fun x _ _ => hm _ _ (by omega)), g9.congr (hc _ _ (by omega)) (fun q _ _ j _ => hc _ _ (by omega)) (fun x _ _ => hm _ _ (by omega))⟩
theorem sim_rate (a : Int32) {c m : StA} (h : R0 c m) : E2 (f_X5_rate a c) (f_X6_rate a m) Fin := by
  have h0 := h
  obtain ⟨n, P, Q, S, h⟩ := h
  unfold f_X5_rate f_X6_rate
  refine E2_ck (e_isIn a 1 9 c) (e_in (y := 1) (z := 9) (b := 1) (c := 9) rfl rfl m) (fun _ => ⟨rfl, h0⟩) (fun hp => ?_)
  refine E2_re (show f_X6_becomes 26 a m = some (si m 1 26 a, gi m 1 26) from e_becomes (j := 26) (by omega)) ?_
  simp only [nmi, nms]
  rw [h.nm.2.2.1]
  refine E2_ret ⟨rfl, n, P, Q, S, h.num (fun x y z => gi_nk z) (fun y hy => gi_nj (by omega)) (fun x y z => by
    by_cases e : x = 1
    · exact gi_nj (by omega)
    · exact gi_nk e) ?_ (by rw [gi_nj (by omega)]; exact h.2.1)⟩
  obtain ⟨r1, r2, r3, r4, r5, r6, r7, r8⟩ := h.1.2.2.2.2.2.1
  refine ⟨?_, ?_, ?_, ?_, ?_, ?_, ?_, ?_⟩
  · rw [gi_nj (by omega), gi_nj (by omega)]; exact r1
  · rw [gi_nj (by omega)]; exact r2
  · rw [gi_nj (by omega), gi_nj (by omega)]; exact r3
  · rw [gi_nj (by omega)]; exact r4
  · rw [gi_at, Nat.zero_add, gi_at]
  · rw [gi_at]; exact rg_ck rfl rfl hp
  · rw [gi_nj (by omega), gi_nj (by omega)]; exact r7
  · rw [gi_nj (by omega)]; exact r8
theorem sim_blow (a b : Int32) {c m : StA} (h : R0 c m) : E2 (f_X5_blow a b c) (f_X6_blow a b m) Fin := by
  have h0 := h
  obtain ⟨n, P, Q, S, h⟩ := h
  unfold f_X5_blow f_X6_blow
  refine E2_ck (e_isWind5 a c) (e_isWind a m) (fun _ => ⟨rfl, h0⟩) (fun hp => ?_)
  refine E2_ck (e_isIn b 0 8 c) (e_in (y := 0) (z := 8) (b := 0) (c := 8) rfl rfl m) (fun _ => ⟨rfl, h0⟩) (fun hp2 => ?_)
  obtain ⟨i, hi, rfl⟩ := ck_n (N := 4) rfl hp
  rw [ix28, gd_n (show i < 5 by omega) (by omega)]
  refine E2_re (e_becomes (by omega)) ?_
  simp only [nmi, nms]
  rw [gd_n (show i < 5 by omega) (by omega), tn_nI (by omega), h.wd (by omega)]
  have hn := h.1.1
  refine E2_ret ⟨rfl, n, P, Q, S, h.mut (fun x y z w => gi_nk (by omega)) (fun x y z w => by
    by_cases e : x = 1
    · exact gi_nj (by omega)
    · exact gi_nk e) ?_ (by rw [gi_nk (by omega)]; exact h.2.1)⟩
  obtain ⟨g1, g2, g3, g4, g5, g6, g7, g8, g9⟩ := h.1
  have hc : ∀ x y, x ≠ 5 → gi (si c 5 i b) x y = gi c x y := fun x y z => gi_nk z
  have hm : ∀ y, y ≠ 28 + i → gi (si m 1 (28 + i) b) 1 (0 + y) = gi m 1 (0 + y) := fun y z => gi_nj (by omega)
  refine ⟨g1, by rw [hc _ _ (by omega)]; exact g2, by rw [gi_nk (by omega)]; exact g3, g4.congr (fun q _ _ j _ => hc _ _ (by omega)) (fun i x _ _ => hm _ (by omega)), g5.congr (hc _ _ (by omega)) (fun i hi => hm _ (by omega)), g6.congr (fun j _ _ => hc _ _ (by omega)) (fun x _ _ => hm _ (by omega)), fun z hz => ?_, g8.congr (hc _ _ (by omega)) (fun q _ _ j _ => hc _ _ (by omega)) (fun x _ _ => hm _ (by omega)), g9.congr (hc _ _ (by omega)) (fun q _ _ j _ => hc _ _ (by omega)) (fun x _ _ => hm _ (by omega))⟩
  by_cases e : z = i
  · subst e
    have e1 : gi (si c 5 z b) (1 + 4) z = b := gi_at _ _ _ _
    rw [e1, Nat.zero_add, gi_at]
    exact ⟨rfl, rg_ck rfl rfl hp2⟩
  · rw [gi_nj e, hm _ (by omega)]
    exact g7 z hz
/-- said, taken back: the flight's own -/
theorem RR.sd1 {c m c' m' : StA} {n P Q S S' : Nat} (h : RR c m n P Q S) (hc : ∀ x y, ¬ (x = 1 ∧ y = 7) → gi c' x y = gi c x y) (hm : ∀ x y, ¬ (x = 1 ∧ ∃ i, i < n ∧ y = 4 * i + 3) → gi m' x y = gi m x y) (hR : Rsd c' 1 m' 1 0 n S') : RR c' m' n P Q S' := by
  have hn := h.1.1
  refine h.mut (fun x y a b => hc _ _ (by omega)) (fun x y a b => hm _ _ (by rintro ⟨e, i, hi, e2⟩; omega)) ?_ (by rw [hc _ _ (by omega)]; exact h.2.1)
  obtain ⟨g1, g2, g3, g4, g5, g6, g7, g8, g9⟩ := h.1
  have hP := g8.1
  have hQ := g9.1
  have hm' : ∀ y, (24 ≤ y ∨ y % 4 ≠ 3) → gi m' 1 (0 + y) = gi m 1 (0 + y) := fun y q => hm _ _ (by rintro ⟨-, i, hi, e⟩; omega)
  exact ⟨g1, by rw [hc _ _ (by omega)]; exact g2, by rw [hm _ _ (by rintro ⟨e, -⟩; omega)]; exact g3, g4.congr (fun q _ _ j _ => hc _ _ (by omega)) (fun i x _ _ => hm' _ (by omega)), hR, g6.congr (fun j _ _ => hc _ _ (by omega)) (fun x _ _ => hm' _ (by omega)), g7.congr (fun j _ => hc _ _ (by omega)) (fun j _ => hm' _ (by omega)), g8.congr (hc _ _ (by omega)) (fun q _ _ j _ => hc _ _ (by omega)) (fun x _ _ => hm' _ (by omega)), g9.congr (hc _ _ (by omega)) (fun q _ _ j _ => hc _ _ (by omega)) (fun x _ _ => hm' _ (by omega))⟩
/-- behind a change: the lift, on both sides -/
theorem RR.lift {c m : StA} {n P Q S : Nat} (h : RR c m n P Q S) : E2 (bn (f_X1_lift 1 c) (fun s r => some (s, r))) (bn (f_X6_starts m) (fun s7 r8 => bn (f_X6_liftNow s7) (fun s10 r11 => some (s10, r11)))) Fin := by
  obtain ⟨m1, _, em, a1, a2, a3, a4, a5⟩ := h.st1
  refine E2_re em ?_
  obtain ⟨L, -, l1, l2⟩ := lift_eq a1.1
  rw [l1, l2]
  exact E2_ret (h.fin (agQ.rf c) a2)
theorem sim_say (a : Int32) {c m : StA} (h : R0 c m) : E2 (f_X5_say a c) (f_X6_say a m) Fin := by
  have h0 := h
  obtain ⟨n, P, Q, S, h⟩ := h
  have hn := h.1.1
  unfold f_X5_say f_X6_say f_X6_saidBecomes
  simp only [bn_as, bn_if, bn_so]
  refine E2_ck (p := 0 ≤ a ∧ a ≤ nI n - 1) (by rw [e_hasThing, h.1.2.1]) (by rw [e_isThing, h.1.2.2.1]) (fun _ => ⟨rfl, h0⟩) (fun hp => ?_)
  obtain ⟨i, hi, rfl⟩ := ck_t (by omega) hp
  refine E2_le (h.sd hi).1 ?_
  rw [show (3 : Int32) = nI 3 from rfl, ix4 (by omega) (by omega), gd_n (show 4 * i + 3 < 189 by omega) (by omega), gd_n (show 4 * i + 3 < 189 by omega) (by omega), tn_nI (by omega), (h.th hi).2.2.2.1]
  have hs := h.1.2.2.2.2.1
  cases S.testBit i
  · rw [if_pos (show bI false = 0 from rfl), if_neg (show ¬ bI false = 1 by decide)]
    simp only [nms, bn_as, bn_so]
    refine E2_le (e_set1 (bt_64 hs.1 hn) (by omega) hs.2.1) ?_
    have hR : RR (si c 1 7 (nI (S ||| 2 ^ i))) (si m 1 (4 * i + 3) 1) n P Q (S ||| 2 ^ i) := h.sd1 (fun x y z => by rw [gi_si, if_neg z]) (fun x y z => by rw [gi_si, if_neg (fun w => z ⟨w.1, i, hi, w.2⟩)]) (hs.s1 hn hi)
    exact hR.lift
  · rw [if_neg (show ¬ bI true = 0 by decide), if_pos (show bI true = 1 from rfl)]
    exact E2_ret ⟨rfl, h0⟩
theorem sim_take (a : Int32) {c m : StA} (h : R0 c m) : E2 (f_X5_take a c) (f_X6_take a m) Fin := by
  have h0 := h
  obtain ⟨n, P, Q, S, h⟩ := h
  have hn := h.1.1
  unfold f_X5_take f_X6_take f_X6_saidBecomes
  simp only [bn_as, bn_if, bn_so]
  refine E2_ck (p := 0 ≤ a ∧ a ≤ nI n - 1) (by rw [e_hasThing, h.1.2.1]) (by rw [e_isThing, h.1.2.2.1]) (fun _ => ⟨rfl, h0⟩) (fun hp => ?_)
  obtain ⟨i, hi, rfl⟩ := ck_t (by omega) hp
  refine E2_le (h.sd hi).1 ?_
  rw [show (3 : Int32) = nI 3 from rfl, ix4 (by omega) (by omega), gd_n (show 4 * i + 3 < 189 by omega) (by omega), gd_n (show 4 * i + 3 < 189 by omega) (by omega), tn_nI (by omega), (h.th hi).2.2.2.1]
  have hs := h.1.2.2.2.2.1
  cases S.testBit i
  · rw [if_pos (show bI false = 0 from rfl), if_pos (show bI false = 0 from rfl)]
    exact E2_ret ⟨rfl, h0⟩
  · rw [if_neg (show ¬ bI true = 0 by decide), if_neg (show ¬ bI true = 0 by decide)]
    simp only [nms, bn_as, bn_so]
    refine E2_le (e_set0 (bt_64 hs.1 hn) (by omega) hs.2.1) ?_
    have hR : RR (si c 1 7 (nI (S &&& (63 - 2 ^ i)))) (si m 1 (4 * i + 3) 0) n P Q (S &&& (63 - 2 ^ i)) := h.sd1 (fun x y z => by rw [gi_si, if_neg z]) (fun x y z => by rw [gi_si, if_neg (fun w => z ⟨w.1, i, hi, w.2⟩)]) (hs.s0 hn hi)
    exact hR.lift
