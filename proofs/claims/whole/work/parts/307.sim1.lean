/-! calls that answer alike: falls, church, runs, minutes, best, both -/
def Fin {α : Type} : StA → α → StA → α → Prop := fun c' r m' r' => r = r' ∧ R0 c' m'
theorem E2_ck {α β : Type} {p : Prop} [Decidable p] {c m : StA} {o o' : Option (StA × Int32)} {K : StA → Option (StA × α)} {K' : StA → Option (StA × β)} {x : α} {x' : β} {Q : StA → α → StA → β → Prop} (e : o = some (c, if p then 1 else 0)) (e' : o' = some (m, if p then 1 else 0)) (hb : ¬ p → Q c x m x') (h : p → E2 (K c) (K' m) Q) : E2 (bn o (fun s r => if r = 0 then some (s, x) else K s)) (bn o' (fun s r => if r = 0 then some (s, x') else K' s)) Q := by
  rw [e, e']
  simp only [bn]
  by_cases hp : p
  · rw [if_pos hp, if_neg (by decide), if_neg (by decide)]
    exact h hp
  · rw [if_neg hp, if_pos rfl, if_pos rfl]
    exact E2_ret (hb hp)
theorem ck_n {a L : Int32} {N : Nat} (hL : L.toInt = (N : Int)) (h : 0 ≤ a ∧ a ≤ L) : ∃ i, i ≤ N ∧ a = nI i := by
  obtain ⟨h1, h2⟩ := h
  rw [ti_le] at h1 h2
  have e0 : (0 : Int32).toInt = 0 := rfl
  have hr := ti_rng a
  refine ⟨a.toInt.toNat, by omega, ?_⟩
  rw [ti_inj, ti_nI (by omega)]
  omega
theorem ck_t {a : Int32} {n : Nat} (hn : n ≤ 100) (h : 0 ≤ a ∧ a ≤ nI n - 1) : ∃ i, i < n ∧ a = nI i := by
  obtain ⟨h1, h2⟩ := h
  rw [ti_le] at h1 h2
  have e0 : (0 : Int32).toInt = 0 := rfl
  have e1 : (nI n - 1).toInt = (n : Int) - 1 := by
    rw [ti_sub, ti_nI (by omega), show (1 : Int32).toInt = 1 from rfl]
    omega
  have hr := ti_rng a
  refine ⟨a.toInt.toNat, by omega, ?_⟩
  rw [ti_inj, ti_nI (by omega)]
  omega
theorem RR.fin {α : Type} {c c' m m' : StA} {n P Q S : Nat} {r : α} (h : RR c m n P Q S) (hc : agQ DQc c c') (hm : agQ DQm m m') : Fin c' r m' r := ⟨rfl, n, P, Q, S, h.q hc hm⟩
theorem dq1 : ∀ x y : Nat, (12 ≤ x ∧ x ≤ 22) → DQc x y := fun _ _ h => Or.inl h
theorem dq2 : ∀ x y : Nat, DPc 12 x y → DQc x y := fun _ _ h => Or.inl (by have := h.1; omega)
theorem dq3 : ∀ x y : Nat, DTm x y → DQm x y := by
  intro x y h
  unfold DTm at h
  unfold DQm
  omega
theorem dq4 : ∀ x y : Nat, DPm x y → DQm x y := by
  intro x y h
  unfold DPm at h
  unfold DQm
  omega
theorem dq5 : ∀ x y : Nat, DCm x y → DQm x y := by
  intro x y h
  unfold DCm at h
  unfold DQm
  omega
theorem dq6 : ∀ x y : Nat, DJm x y → DQm x y := by
  intro x y h
  unfold DJm at h
  unfold DQm
  omega
theorem dq7 : ∀ x y : Nat, DCh x y → DQc x y := by
  intro x y h
  unfold DCh at h
  unfold DQc
  omega
theorem min_ok {c m : StA} {n P Q S : Nat} (h : RR c m n P Q S) {c' : StA} (e : gi c' 12 11 = gi c 1 11) : (gi c' 12 11).toInt + 100 ≤ 5000 ∧ 0 ≤ (gi c' 12 11).toInt := by
  have := h.2.1
  have := h.1.2.2.2.2.2.1.2.2.2.2.2.2.2.1
  rw [e]
  omega
theorem e_orNone {a b : Int32} (h : DnR a b) (s : StA) : f_X5_orNone a s = some (s, b) := by
  unfold f_X5_orNone
  rcases h with ⟨rfl, rfl⟩ | ⟨rfl, hr⟩
  · rw [if_pos rfl]
  · rw [if_neg (by rw [ti_inj]; have : (1000000 : Int32).toInt = 1000000 := rfl; have := hr.2; omega)]
theorem sim_falls {c m : StA} (h : R0 c m) : E2 (f_X5_falls c) (f_X6_falls m) Fin := by
  obtain ⟨n, P, Q, S, h⟩ := h
  unfold f_X5_falls f_X6_falls
  refine E2_bn (E2_mono (start_rel h) ?_)
  rintro c1 _ m1 _ ⟨a1, -, a2, a3, a4⟩
  refine E2_bn (E2_mono (down_rel a1 (min_ok h a4).1) ?_)
  rintro c2 x m2 y ⟨b1, b2, b3⟩
  refine E2_le (e_orNone b1 c2) (E2_ret ?_)
  exact h.fin ((a2.ag dq1).tr (b2.ag dq2)) ((a3.ag dq3).tr (b3.ag dq4))
theorem sim_church (a : Int32) {c m : StA} (h : R0 c m) : E2 (f_X5_church a c) (f_X6_church a m) Fin := by
  have h0 := h
  obtain ⟨n, P, Q, S, h⟩ := h
  unfold f_X5_church f_X6_church
  refine E2_ck (e_isPlace5 a c) (e_isPlace a m) (fun _ => ⟨rfl, h0⟩) (fun hp => ?_)
  refine E2_bn (E2_mono (start_rel h) ?_)
  rintro c1 _ m1 _ ⟨a1, -, a2, a3, a4⟩
  refine E2_bn (E2_mono (downAt_rel a a1 (min_ok h a4).1) ?_)
  rintro c2 x m2 y ⟨b1, b2, b3⟩
  refine E2_le (e_orNone b1 c2) (E2_ret ?_)
  exact h.fin ((a2.ag dq1).tr (b2.ag dq2)) ((a3.ag dq3).tr (b3.ag dq4))
/-- the said, as bits -/
theorem bt_acc : ∀ A, A < 64 → ∀ i, i < 6 → ∀ b : Bool, nI A ||| (bI b <<< (nI i &&& 31)) = nI (A ||| (if b then 2 ^ i else 0)) := by decide +kernel
theorem bt_top : ∀ S, S < 64 → ∀ i, i < 6 → S % 2 ^ i ||| (if S.testBit i then 2 ^ i else 0) = S % 2 ^ (i + 1) := by decide +kernel
theorem e_saidNow {n S : Nat} {m : StA} (hn : n ≤ 6) (hS : S < 2 ^ n) (h6 : gi m 0 3 = nI n) (hb : ∀ i, i < n → gi m 2 (4 * i + 3) = bI (S.testBit i)) : f_X6_saidNow m = some (m, nI S) := by
  unfold f_X6_saidNow
  have h64 := bt_64 hS hn
  have hl : Ev (fl_X6_saidNow_l4 m (0, 0)) (fun c' x => c' = m ∧ x = nI S) := by
    unfold fl_X6_saidNow_l4
    refine Ev_it (I := fun j s v => s = m ∧ ∃ i, i + j = n ∧ v.2 = nI i ∧ v.1 = nI (S % 2 ^ i)) ?_ FU n (FU_gt (by omega)) m (0, 0) ⟨rfl, 0, by omega, rfl, by simp [Nat.mod_one]; rfl⟩
    rintro j s ⟨x, y⟩ ⟨rfl, i, hij, hy, hx⟩
    dsimp only at hy hx
    subst hy hx
    unfold fb_X6_saidNow_l4
    rw [h6]
    refine Ev_ite (fun q => ?_) (fun q => ?_)
    · rw [nI_le' (by omega) (by omega)] at q
      have e : i = n := by omega
      subst e
      exact Ev_ret (Or.inl ⟨_, rfl, rfl, by rw [Nat.mod_eq_of_lt hS]⟩)
    · rw [nI_le' (by omega) (by omega)] at q
      refine Ev_be (e_of (j := 3) (by omega) (by omega)) ?_
      rw [hb i (by omega), bt_acc _ (Nat.lt_of_le_of_lt (Nat.mod_le _ _) h64) i (by omega), bt_top S h64 i (by omega)]
      exact Ev_nmi (Ev_ret (Or.inr ⟨j - 1, _, by omega, rfl, rfl, i + 1, by omega, nI_1 i, rfl⟩))
  obtain ⟨c', x, e, rfl, rfl⟩ := hl
  rw [e]
  rfl
theorem sim_runs (a b : Int32) {c m : StA} (h : R0 c m) : E2 (f_X5_runs a b c) (f_X6_runs a b m) Fin := by
  have h0 := h
  obtain ⟨n, P, Q, S, h⟩ := h
  unfold f_X5_runs f_X6_runs
  refine E2_ck (e_isFore5 a c) (e_isFar a m) (fun _ => ⟨rfl, h0⟩) (fun hp => ?_)
  obtain ⟨N, hN, rfl⟩ := ck_n (N := 60) rfl hp
  refine E2_re (e_in (y := 0) (z := 4) (b := 0) (c := 4) rfl rfl m) ?_
  by_cases hb : 0 ≤ b ∧ b ≤ 4
  · rw [if_pos hb, if_neg (by decide)]
    refine E2_bn (E2_mono (start_rel h) ?_)
    rintro c1 _ m1 _ ⟨a1, -, a2, a3, a4⟩
    have hm := min_ok h a4
    obtain ⟨q, hq, rfl⟩ := ck_n (N := 4) rfl hb
    have fin : ∀ {c2 m2 : StA} {r : Int32}, LI c1 m1 DCm 12 n P Q noF N c2 m2 → Fin c2 r m2 r := fun hL => h.fin ((a2.ag dq1).tr (hL.2.1.ag dq2)) ((a3.ag dq3).tr (hL.2.2.1.ag dq5))
    rcases (show q = 0 ∨ q = 1 ∨ q = 2 ∨ q = 3 ∨ q = 4 by omega) with rfl | rfl | rfl | rfl | rfl
    · rw [if_pos (show nI 0 = 0 from rfl)]
      refine E2_bn (E2_mono (all_rel a1 (by omega) (by omega)) ?_)
      rintro c2 _ m2 _ hL
      rw [if_pos (show nI 0 = 0 from rfl), g24, t24, ← hL.nm.1]
      exact E2_ret (fin hL)
    · rw [if_neg (show ¬ nI 1 = 0 by decide), if_pos (show nI 1 = 1 from rfl)]
      refine E2_bn (E2_mono (all_rel a1 (by omega) (by omega)) ?_)
      rintro c2 _ m2 _ hL
      rw [if_neg (show ¬ nI 1 = 0 by decide), if_pos (show nI 1 = 1 from rfl), g25, t25, ← hL.nm.2.2.1]
      exact E2_ret (fin hL)
    · rw [if_neg (show ¬ nI 2 = 0 by decide), if_neg (show ¬ nI 2 = 1 by decide), if_pos (show nI 2 = 2 from rfl)]
      refine E2_bn (E2_mono (great_rel a1 (by omega) (by omega)) ?_)
      rintro c2 r m2 _ ⟨hL, hr, -⟩
      rw [if_neg (show ¬ nI 2 = 0 by decide), if_neg (show ¬ nI 2 = 1 by decide), if_pos (show nI 2 = 2 from rfl), hr]
      exact E2_ret (fin hL)
    · rw [if_neg (show ¬ nI 3 = 0 by decide), if_neg (show ¬ nI 3 = 1 by decide), if_neg (show ¬ nI 3 = 2 by decide), if_pos (show nI 3 = 3 from rfl)]
      refine E2_bn (E2_mono (times_rel a1 (by omega) (by omega)) ?_)
      rintro c2 r m2 _ ⟨hL, hr⟩
      rw [if_neg (show ¬ nI 3 = 0 by decide), if_neg (show ¬ nI 3 = 1 by decide), if_neg (show ¬ nI 3 = 2 by decide), if_pos (show nI 3 = 3 from rfl), hr]
      exact E2_ret (fin hL)
    · rw [if_neg (show ¬ nI 4 = 0 by decide), if_neg (show ¬ nI 4 = 1 by decide), if_neg (show ¬ nI 4 = 2 by decide), if_neg (show ¬ nI 4 = 3 by decide), if_pos (show nI 4 = 4 from rfl)]
      refine E2_bn (E2_mono (all_rel a1 (by omega) (by omega)) ?_)
      rintro c2 _ m2 _ hL
      rw [if_neg (show ¬ nI 4 = 0 by decide), if_neg (show ¬ nI 4 = 1 by decide), if_neg (show ¬ nI 4 = 2 by decide), if_neg (show ¬ nI 4 = 3 by decide)]
      obtain ⟨⟨S', hT⟩, -⟩ := id hL
      have hs := hT.1.2.2.2.2.1
      refine E2_re (e_saidNow hT.1.1 hs.1 hT.1.2.2.1 (fun i hi => by have := hs.2.2 i hi; rw [Nat.zero_add] at this; exact this)) ?_
      rw [hs.2.1]
      exact E2_ret (fin hL)
  · rw [if_neg hb, if_pos rfl]
    have hb4 : ∀ q : Nat, q ≤ 4 → ¬ b = nI q := fun q hq e => hb (by
      subst e
      rw [ti_le, ti_le, ti_nI (by omega), show (0 : Int32).toInt = 0 from rfl, show (4 : Int32).toInt = 4 from rfl]
      omega)
    refine E2_lb ?_
    have := start_rel h
    obtain ⟨c1, _, m1, _, e1, -, a1, -, a2, -⟩ := this
    refine ⟨c1, _, e1, ?_⟩
    dsimp only
    rw [if_neg (show ¬ b = 0 from hb4 0 (by omega)), if_neg (show ¬ b = 1 from hb4 1 (by omega)), if_neg (show ¬ b = 2 from hb4 2 (by omega)), if_neg (show ¬ b = 3 from hb4 3 (by omega)), if_neg (show ¬ b = 4 from hb4 4 (by omega))]
    exact E2_ret (h.fin (a2.ag dq1) (agQ.rf m))
/-! things that are said in a trial -/
theorem TT.set1 {c m : StA} {k n P Q S t : Nat} {fm : Nat → Bool} (h : TT c m k n P Q S fm) (ht : t < n) : TT (si c k 7 (nI (S ||| 2 ^ t))) (si m 2 (4 * t + 3) 1) k n P Q (S ||| 2 ^ t) fm := by
  obtain ⟨h1, h2, h3⟩ := h
  refine ⟨h1.said ((eqC.rf (D := DSc k) c).si ⟨rfl, rfl⟩) ((eqC.rf (D := DSm n) m).si ⟨rfl, t, ht, rfl⟩) (h1.2.2.2.2.1.set1 h1.1 ht), fun j hj => ?_, ?_⟩
  · rw [gi_nk (by omega)]; exact h2 j hj
  · rw [gi_nk (by omega)]; exact h3
theorem TT.set0 {c m : StA} {k n P Q S t : Nat} {fm : Nat → Bool} (h : TT c m k n P Q S fm) (ht : t < n) : TT (si c k 7 (nI (S &&& (63 - 2 ^ t)))) (si m 2 (4 * t + 3) 0) k n P Q (S &&& (63 - 2 ^ t)) fm := by
  obtain ⟨h1, h2, h3⟩ := h
  refine ⟨h1.said ((eqC.rf (D := DSc k) c).si ⟨rfl, rfl⟩) ((eqC.rf (D := DSm n) m).si ⟨rfl, t, ht, rfl⟩) (h1.2.2.2.2.1.set0 h1.1 ht), fun j hj => ?_, ?_⟩
  · rw [gi_nk (by omega)]; exact h2 j hj
  · rw [gi_nk (by omega)]; exact h3
theorem TT.cs1 {c m : StA} {k n P Q S t : Nat} {fm : Nat → Bool} (h : TT c m k n P Q S fm) (ht : t < n) : f_X1_setSaid k (nI t) 1 c = some (si c k 7 (nI (S ||| 2 ^ t)), ()) := e_set1 (bt_64 h.1.2.2.2.2.1.1 h.1.1) (by have := h.1.1; omega) h.1.2.2.2.2.1.2.1
theorem TT.ms {c m : StA} {k n P Q S t : Nat} {fm : Nat → Bool} (h : TT c m k n P Q S fm) (ht : t < n) (v : Int32) : f_X6_becomesOf (nI t) 3 v m = some (si m 2 (4 * t + 3) v, ()) := e_becof (j := 3) (by have := h.1.1; omega) (by omega)
theorem e_unsaid {t : StA} {i : Nat} {b : Bool} (hi : i < 6) (h : gi t 1 (4 * i + 3) = bI b) : f_X6_isUnsaid (nI i) t = some (t, bI (!b)) := by
  unfold f_X6_isUnsaid
  rw [show (3 : Int32) = nI 3 from rfl, ix4 (by omega) (by omega), gd_n (by omega) (by omega), tn_nI (by omega), h]
  cases b <;> rfl
theorem RR.sd {c m : StA} {n P Q S i : Nat} (h : RR c m n P Q S) (hi : i < n) : f_X1_isSaid 1 (nI i) c = some (c, bI (S.testBit i)) ∧ f_X6_isUnsaid (nI i) m = some (m, bI (!S.testBit i)) := by
  have hs := h.1.2.2.2.2.1
  have hn := h.1.1
  refine ⟨e_isSaid (bt_64 hs.1 hn) (by omega) hs.2.1, e_unsaid (by omega) ?_⟩
  have := hs.2.2 i hi
  rw [Nat.zero_add] at this
  exact this
/-- the loop's picture between tries -/
def QI (c m : StA) (n P Q S : Nat) (B : Int32) (s t : StA) : Prop := RR s t n P Q S ∧ Ch s t B ∧ agQ DQc c s ∧ agQ DQm m t
theorem QI.nx {c m s t s' t' : StA} {n P Q S : Nat} {B : Int32} (h : QI c m n P Q S B s t) (hc : agQ DQc s s') (hm : agQ DQm t t') (hC : Ch s' t' B) : QI c m n P Q S B s' t' := ⟨h.1.q hc hm, hC, h.2.2.1.tr hc, h.2.2.2.tr hm⟩
theorem QI.ini {c m : StA} {n P Q S : Nat} {a B : Int32} (h : RR c m n P Q S) (hB : a.toInt ≤ B.toInt) : QI c m n P Q S B (si (si c 59 1 a) 59 2 0) (si (si m 0 22 (-4)) 0 23 a) := by
  have hc : agQ DQc c (si (si c 59 1 a) 59 2 0) := ((agQ.rf c).si (Or.inr (by omega))).si (Or.inr (by omega))
  have hm : agQ DQm m (si (si m 0 22 (-4)) 0 23 a) := ((agQ.rf m).si (by unfold DQm; omega)).si (by unfold DQm; omega)
  exact ⟨h.q hc hm, Ch.ini hB, hc, hm⟩
theorem QI.end {c m s t : StA} {n P Q S : Nat} {B a : Int32} (h0 : RR c m n P Q S) (h : QI c m n P Q S B s t) : E2 (bn (f_X0_answer a s) (fun s r => some (s, r))) (bn (f_X6_judged a t) (fun s r => some (s, r))) Fin := by
  obtain ⟨r, e1, e2⟩ := answer_rel (a := a) h.2.1
  rw [e1, e2]
  simp only [bn]
  exact E2_ret (h0.fin h.2.2.1 h.2.2.2)
/-- a try is begun: what is kept meanwhile -/
theorem QI.start {c m s t : StA} {n P Q S : Nat} {B : Int32} (h : QI c m n P Q S B s t) : E2 (f_X5_restartTrial s) (f_X6_starts t) (fun s1 _ t1 _ => TT s1 t1 12 n P Q S noF ∧ gi t1 0 17 = 0 ∧ agQ DQc s s1 ∧ agQ DQm t t1 ∧ Ch s1 t1 B ∧ gi s1 12 11 = gi s 1 11 ∧ (gi s1 12 11).toInt + 100 ≤ 5000 ∧ 0 ≤ (gi s1 12 11).toInt ∧ (∀ x y, x < 12 → gi s1 x y = gi s x y) ∧ (∀ y, gi t1 1 y = gi t 1 y)) := by
  refine E2_mono (start_rel h.1) ?_
  rintro s1 _ t1 _ ⟨a1, a2, a3, a4, a5⟩
  exact ⟨a1, a2, a3.ag dq1, a4.ag dq3, h.2.1.frm (fun y => a3.1 _ _ (by omega)) (a4.1 _ _ (by unfold DTm; omega)) (a4.1 _ _ (by unfold DTm; omega)), a5, (min_ok h.1 a5).1, (min_ok h.1 a5).2, fun x y hx => a3.1 _ _ (by omega), fun y => a4.1 _ _ (by unfold DTm; omega)⟩
theorem Ch.ag {c c' m m' : StA} {B : Int32} (h : Ch c m B) {Dc Dm : Nat → Nat → Prop} (hc : eqC Dc c c') (hm : eqC Dm m m') (h1 : ∀ y, ¬ Dc 59 y) (h2 : ¬ Dm 0 22) (h3 : ¬ Dm 0 23) : Ch c' m' B := h.frm (fun y => hc.1 _ _ (h1 y)) (hm.1 _ _ h2) (hm.1 _ _ h3)
theorem million : (1000000 : Int32).toInt = 1000000 := rfl
theorem sim_best (a : Int32) {c m : StA} (h : R0 c m) : E2 (f_X5_best a c) (f_X6_best a m) Fin := by
  have h0 := h
  obtain ⟨n, P, Q, S, h⟩ := h
  have hn := h.1.1
  unfold f_X5_best f_X6_best
  refine E2_ck (e_isIn a 0 1 c) (e_isPart a m) (fun _ => ⟨rfl, h0⟩) (fun hp => ?_)
  refine E2_le (e_begin _ c) (E2_re (e_stJudge _ m) ?_)
  unfold fl_X5_best_l22 fl_X6_best_l17
  refine E2_bn (E2_mono (E2_it (I := fun j s v t w => ∃ i, i + j = n ∧ v = nI i ∧ w = nI i ∧ QI c m n P Q S 1000000 s t) (Z := fun s _ t _ => QI c m n P Q S 1000000 s t) ?_ FU FU n (FU_gt (by omega)) (FU_gt (by omega)) _ 0 _ 0 ⟨0, by omega, rfl, rfl, QI.ini h (by omega)⟩) (fun s _ t _ q => q.end h))
  rintro j s v t w ⟨i, hij, rfl, rfl, hQ⟩
  unfold fb_X5_best_l22 fb_X6_best_l17
  have hR := hQ.1
  rw [hR.1.2.1, hR.1.2.2.1]
  by_cases hi : n ≤ i
  · rw [if_pos (by rw [nI_le' (by omega) (by omega)]; exact hi), if_pos (by rw [nI_le' (by omega) (by omega)]; exact hi)]
    exact E2_ret (Or.inl ⟨_, _, rfl, rfl, hQ⟩)
  · rw [if_neg (by rw [nI_le' (by omega) (by omega)]; exact hi), if_neg (by rw [nI_le' (by omega) (by omega)]; exact hi)]
    obtain ⟨e1, e2⟩ := hR.sd (i := i) (by omega)
    refine E2_le e1 (E2_re e2 ?_)
    have nx : ∀ {s' t' : StA}, QI c m n P Q S 1000000 s' t' → E2 (some (s', (Sum.inl (nI i + 1) : Int32 ⊕ Unit))) (some (t', (Sum.inl (nI i + 1) : Int32 ⊕ Unit))) (fun s' x t' y => (∃ e e', x = .inr e ∧ y = .inr e' ∧ QI c m n P Q S 1000000 s' t') ∨ (∃ j' v' w', j = j' + 1 ∧ x = .inl v' ∧ y = .inl w' ∧ ∃ i, i + j' = n ∧ v' = nI i ∧ w' = nI i ∧ QI c m n P Q S 1000000 s' t')) := fun q => E2_ret (Or.inr ⟨j - 1, _, _, by omega, rfl, rfl, i + 1, by omega, nI_1 i, nI_1 i, q⟩)
    cases S.testBit i
    · rw [if_pos (show bI false = 0 from rfl), if_neg (show ¬ bI (!false) = 0 by decide)]
      refine E2_bn (E2_mono hQ.start ?_)
      rintro s1 _ t1 _ ⟨a1, -, a2, a3, a4, a5, a6, -, -, -⟩
      refine E2_le (a1.cs1 (by omega)) (E2_re (a1.ms (by omega) 1) ?_)
      refine E2_bn (E2_mono (down_rel (a1.set1 (t := i) (by omega)) (by rw [gi_nj (by omega)]; exact a6)) ?_)
      rintro s2 x t2 y ⟨b1, b2, b3⟩
      have hC := (a4.frm (c' := si s1 12 7 (nI (S ||| 2 ^ i))) (m' := si t1 2 (4 * i + 3) 1) (fun y => gi_nk (by omega)) (gi_nk (by omega)) (gi_nk (by omega))).ag b2 b3 (fun y q => by have := q.1; omega) (by unfold DPm; omega) (by unfold DPm; omega)
      refine E2_bn (E2_mono (offer_rel (key := nI i) hC (by rw [ti_nI (by omega)]; omega) (by rw [million]; omega) b1) ?_)
      rintro s3 _ t3 _ ⟨d1, d2, d3⟩
      exact nx (hQ.nx (((a2.si (dq1 _ _ (by omega))).tr (b2.ag dq2)).tr (d2.ag dq7)) (((a3.si (dq4 _ _ rfl)).tr (b3.ag dq4)).tr (d3.ag dq6)) d1)
    · rw [if_neg (show ¬ bI true = 0 by decide), if_pos (show bI (!true) = 0 from rfl)]
      exact nx hQ
