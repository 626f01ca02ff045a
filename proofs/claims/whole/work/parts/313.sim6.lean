/-! plan, cut, see, forget, keep, back -/
theorem e_add {k N p : Nat} {c : StA} (hN : pr_n k = N) (hN8 : N ≤ 8) (h2 : gi c k 2 = nI p) (hp : p ≤ N) (a b : Int32) : f_X2_add k a b c = if p = N then some (c, -3) else some (si (si (si c (k + 1) p a) (k + 2) p b) k 2 (nI (p + 1)), nI (p + 1)) := by
  unfold f_X2_add
  rw [hN, h2, show Int32.ofNat N = nI N from rfl]
  by_cases e : p = N
  · rw [if_pos e, if_neg (by rw [nI_lt' (by omega) (by omega)]; omega)]
  · rw [if_neg e, if_pos (by rw [nI_lt' (by omega) (by omega)]; omega)]
    simp only [nms]
    have e1 : ∀ v, gi (si c (k + 1) p v) k 2 = nI p := fun v => by rw [gi_nk (by omega)]; exact h2
    have e2 : ∀ v w, gi (si (si c (k + 1) p v) (k + 2) p w) k 2 = nI p := fun v w => by rw [gi_nk (by omega)]; exact e1 v
    rw [gd_n (show p < N by omega) (by omega), tn_nI (show p < 2147483648 by omega), e1, gd_n (show p < N by omega) (by omega), tn_nI (show p < 2147483648 by omega), e2, gi_at, nI_1]
theorem e_addM {o N p : Nat} {m : StA} (a b : Int32) (ho : o + 2 * N + 1 < 189) (h2 : gi m 1 o = nI p) (hp : p < N) (hN : N ≤ 8) : (gd (nI o) 189 (nmi (nI (o + 1) + 2 * gi m 1 (nI o).toNatClampNeg) (fun n9 => gd n9 189 (nms (si m 1 n9.toNatClampNeg a) (fun s11 => gd (n9 + 1) 189 (nms (si s11 1 ((n9 + 1).toNatClampNeg) b) (fun s13 => gd (nI o) 189 (gd (nI o) 189 (nms (si s13 1 ((nI o).toNatClampNeg) ((gi s13 1 (nI o).toNatClampNeg) + 1)) (fun s16 => gd (nI o) 189 (some (s16, (gi s16 1 (nI o).toNatClampNeg))))))))))))) = some (si (si (si m 1 (o + 1 + 2 * p) a) 1 (o + 2 + 2 * p) b) 1 o (nI (p + 1)), nI (p + 1)) := by
  have ho2 : o < 189 := by omega
  have t : (nI o).toNatClampNeg = o := tn_nI (by omega)
  have e0 : nI (o + 1) + 2 * nI p = nI (o + 1 + 2 * p) := by rw [show (2 : Int32) = nI 2 from rfl, pk_mul, nI_add]
  have e1 : nI (o + 1 + 2 * p) + 1 = nI (o + 2 + 2 * p) := by rw [nI_1]; congr 1; omega
  simp only [nmi, nms, gd_n ho2 (show (189 : Nat) < 1000000 by omega), t, h2, e0, e1, gd_n (show o + 1 + 2 * p < 189 by omega) (show (189 : Nat) < 1000000 by omega), gd_n (show o + 2 + 2 * p < 189 by omega) (show (189 : Nat) < 1000000 by omega), tn_nI (show o + 1 + 2 * p < 2147483648 by omega), tn_nI (show o + 2 + 2 * p < 2147483648 by omega)]
  rw [gi_nj (show o ≠ o + 2 + 2 * p by omega), gi_nj (show o ≠ o + 1 + 2 * p by omega), h2, gi_at, nI_1]
/-- one saying more -/
theorem RR.pp {c m : StA} {n P Q S t : Nat} {a : Int32} (h : RR c m n P Q S) (hP : P < 8) (ha : rg a 0 99) (ht : t < n) : RR (si (si (si c 7 P a) 8 P (nI t)) 6 2 (nI (P + 1))) (si (si (si m 1 (34 + 2 * P) a) 1 (35 + 2 * P) (nI t)) 1 33 (nI (P + 1))) n (P + 1) Q S := by
  have hn := h.1.1
  have hc : ∀ x y, x ≠ 6 → x ≠ 7 → x ≠ 8 → gi (si (si (si c 7 P a) 8 P (nI t)) 6 2 (nI (P + 1))) x y = gi c x y := fun x y z1 z2 z3 => by rw [gi_nk z1, gi_nk z3, gi_nk z2]
  have hm : ∀ x y, ¬ (x = 1 ∧ (y = 33 ∨ y = 34 + 2 * P ∨ y = 35 + 2 * P)) → gi (si (si (si m 1 (34 + 2 * P) a) 1 (35 + 2 * P) (nI t)) 1 33 (nI (P + 1))) x y = gi m x y := fun x y z => by
    rw [gi_si, if_neg (by omega), gi_si, if_neg (by omega), gi_si, if_neg (by omega)]
  refine h.mut (fun x y _ _ => hc _ _ (by omega) (by omega) (by omega)) (fun x y _ _ => hm _ _ (by omega)) ?_ (by rw [hc _ _ (by omega) (by omega) (by omega)]; exact h.2.1)
  obtain ⟨g1, g2, g3, g4, g5, g6, g7, g8, g9⟩ := h.1
  have hQ := g9.1
  refine ⟨g1, by rw [hc _ _ (by omega) (by omega) (by omega)]; exact g2, by rw [hm _ _ (by omega)]; exact g3, g4.congr (fun q _ _ j _ => hc _ _ (by omega) (by omega) (by omega)) (fun i x _ _ => hm _ _ (by omega)), g5.congr (hc _ _ (by omega) (by omega) (by omega)) (fun i hi => hm _ _ (by omega)), g6.congr (fun j _ _ => hc _ _ (by omega) (by omega) (by omega)) (fun x _ _ => hm _ _ (by omega)), g7.congr (fun j _ => hc _ _ (by omega) (by omega) (by omega)) (fun j _ => hm _ _ (by omega)), ⟨by omega, gi_at _ _ _ _, by rw [Nat.zero_add, gi_at], fun j hj => ?_⟩, g9.congr (hc _ _ (by omega) (by omega) (by omega)) (fun q _ _ j _ => hc _ _ (by omega) (by omega) (by omega)) (fun x _ _ => hm _ _ (by omega))⟩
  rw [Nat.zero_add, Nat.zero_add]
  have k7 : ∀ y, gi (si (si (si c 7 P a) 8 P (nI t)) 6 2 (nI (P + 1))) (1 + 7) y = gi (si (si (si c 7 P a) 8 P (nI t)) 6 2 (nI (P + 1))) 8 y := fun _ => rfl
  have k6 : ∀ y, gi (si (si (si c 7 P a) 8 P (nI t)) 6 2 (nI (P + 1))) (1 + 6) y = gi (si (si (si c 7 P a) 8 P (nI t)) 6 2 (nI (P + 1))) 7 y := fun _ => rfl
  rw [k7, k6]
  by_cases e : j = P
  · subst e
    have m34 : gi (si (si (si m 1 (34 + 2 * j) a) 1 (35 + 2 * j) (nI t)) 1 33 (nI (j + 1))) 1 (34 + 2 * j) = a := by rw [gi_nj (by omega), gi_nj (by omega), gi_at]
    have m35 : gi (si (si (si m 1 (34 + 2 * j) a) 1 (35 + 2 * j) (nI t)) 1 33 (nI (j + 1))) 1 (35 + 2 * j) = nI t := by rw [gi_nj (by omega), gi_at]
    rw [m34, m35, gi_nk (show (8 : Nat) ≠ 6 by omega), gi_at, gi_nk (show (7 : Nat) ≠ 6 by omega), gi_nk (show (7 : Nat) ≠ 8 by omega), gi_at]
    exact ⟨⟨t, ht, rfl, rfl⟩, ha, rfl⟩
  · rw [hm _ _ (by omega), hm _ _ (by omega), gi_nk (show (8 : Nat) ≠ 6 by omega), gi_nj e, gi_nk (show (8 : Nat) ≠ 7 by omega), gi_nk (show (7 : Nat) ≠ 6 by omega), gi_nk (show (7 : Nat) ≠ 8 by omega), gi_nj e]
    have := g8.2.2.2 j (by omega)
    rw [Nat.zero_add, Nat.zero_add] at this
    exact this
theorem ext_addS {a b : Int32} {c : StA} {n P : Nat} (h6 : gi c 1 6 = nI n) (hP : P ≤ 8) (h2 : gi c 6 2 = nI P) : f_X1_addSaying 1 a b c = if 0 ≤ a ∧ a ≤ 99 then (if 0 ≤ b ∧ b ≤ nI n - 1 then (if P = 8 then some (c, -3) else some (si (si (si c 7 P a) 8 P b) 6 2 (nI (P + 1)), nI (P + 1))) else some (c, -1)) else some (c, -1) := by
  unfold f_X1_addSaying
  rw [e_isIn]
  simp only [bn]
  by_cases h1 : 0 ≤ a ∧ a ≤ 99
  · rw [if_pos h1, if_pos h1, if_neg (show ¬ (1 : Int32) = 0 by decide), e_hasThing, h6]
    simp only
    by_cases h3 : 0 ≤ b ∧ b ≤ nI n - 1
    · rw [if_pos h3, if_pos h3, if_neg (show ¬ (1 : Int32) = 0 by decide), e_add (k := 1 + 5) (N := 8) rfl (by omega) h2 hP]
      by_cases e : P = 8
      · rw [if_pos e]
      · rw [if_neg e]
    · rw [if_neg h3, if_neg h3, if_pos rfl]
  · rw [if_neg h1, if_neg h1, if_pos rfl]
theorem ext_planM {a b : Int32} {m : StA} {n P : Nat} (h6 : gi m 0 3 = nI n) (hP : P ≤ 8) (h2 : gi m 1 33 = nI P) : f_X6_plan a b m = if 0 ≤ a ∧ a ≤ 99 then (if 0 ≤ b ∧ b ≤ nI n - 1 then (if P = 8 then some (m, -3) else some (si (si (si m 1 (34 + 2 * P) a) 1 (35 + 2 * P) b) 1 33 (nI (P + 1)), nI (P + 1))) else some (m, -1)) else some (m, -1) := by
  unfold f_X6_plan
  rw [e_in (y := 0) (z := 99) (b := 0) (c := 99) rfl rfl]
  simp only [bn]
  by_cases h1 : 0 ≤ a ∧ a ≤ 99
  · rw [if_pos h1, if_pos h1, if_neg (show ¬ (1 : Int32) = 0 by decide), e_isThing, h6]
    simp only
    by_cases h3 : 0 ≤ b ∧ b ≤ nI n - 1
    · rw [if_pos h3, if_pos h3, if_neg (show ¬ (1 : Int32) = 0 by decide), G33]
      by_cases e : P = 8
      · rw [if_pos e, t33, if_pos (by rw [h2, e]; rfl)]
      · rw [if_neg e, if_neg (show ¬ gi m 1 (33 : Int32).toNatClampNeg = 8 by
          rw [t33, h2, show (8 : Int32) = nI 8 from rfl, nI_eq' (by omega) (by omega)]
          exact e)]
        exact e_addM (o := 33) (N := 8) a b (by omega) h2 (by omega) (by omega)
    · rw [if_neg h3, if_neg h3, if_pos rfl]
  · rw [if_neg h1, if_neg h1, if_pos rfl]
/-- plan, on both sides: what read uses too -/
theorem plan_one (a b : Int32) {c m : StA} {n P Q S : Nat} (h : RR c m n P Q S) : E2 (f_X1_addSaying 1 a b c) (f_X6_plan a b m) (fun c' r m' r' => r = r' ∧ ((r.toInt < 0 ∧ c' = c ∧ m' = m) ∨ (0 ≤ r.toInt ∧ RR c' m' n (P + 1) Q S ∧ P < 8 ∧ (∀ x y, x ≠ 6 → x ≠ 7 → x ≠ 8 → gi c' x y = gi c x y) ∧ (∀ x, x ≠ 1 → ∀ y, gi m' x y = gi m x y)))) := by
  have hps := h.ps
  rw [ext_addS h.1.2.1 hps.1 hps.2.1, ext_planM h.1.2.2.1 hps.1 hps.2.2]
  by_cases h1 : 0 ≤ a ∧ a ≤ 99
  · rw [if_pos h1, if_pos h1]
    by_cases h3 : 0 ≤ b ∧ b ≤ nI n - 1
    · rw [if_pos h3, if_pos h3]
      by_cases e : P = 8
      · rw [if_pos e, if_pos e]
        exact E2_ret ⟨rfl, Or.inl ⟨by decide, rfl, rfl⟩⟩
      · rw [if_neg e, if_neg e]
        obtain ⟨t, ht, rfl⟩ := ck_t (by have := h.1.1; omega) h3
        exact E2_ret ⟨rfl, Or.inr ⟨by rw [ti_nI (by omega)]; omega, h.pp (by omega) (rg_ck rfl rfl h1) ht, by omega, fun x y z1 z2 z3 => by rw [gi_nk z1, gi_nk z3, gi_nk z2], fun x z y => by rw [gi_nk z, gi_nk z, gi_nk z]⟩⟩
    · rw [if_neg h3, if_neg h3]
      exact E2_ret ⟨rfl, Or.inl ⟨by decide, rfl, rfl⟩⟩
  · rw [if_neg h1, if_neg h1]
    exact E2_ret ⟨rfl, Or.inl ⟨by decide, rfl, rfl⟩⟩
theorem sim_plan (a b : Int32) {c m : StA} (h : R0 c m) : E2 (f_X5_plan a b c) (f_X6_plan a b m) Fin := by
  have h0 := h
  obtain ⟨n, P, Q, S, h⟩ := h
  unfold f_X5_plan
  obtain ⟨c', r, m', r', e1, e2, rfl, hz⟩ := plan_one a b h
  rw [e1, e2]
  rcases hz with ⟨-, rfl, rfl⟩ | ⟨-, hR, -⟩
  · exact E2_ret ⟨rfl, h0⟩
  · exact E2_ret ⟨rfl, n, P + 1, Q, S, hR⟩
theorem e_keep {k p : Nat} {c : StA} (h2 : gi c k 2 = nI p) (a : Int32) : f_X2_keepFirst k a c = if 0 ≤ a ∧ a ≤ nI p then some (si c k 2 a, nI p) else some (c, -1) := by
  unfold f_X2_keepFirst
  rw [h2, e_isIn]
  simp only [bn, nmi, nms]
  by_cases h1 : 0 ≤ a ∧ a ≤ nI p
  · rw [if_pos h1, if_pos h1, if_neg (show ¬ (1 : Int32) = 0 by decide), h2]
  · rw [if_neg h1, if_neg h1, if_pos rfl]
theorem RR.pc {c m : StA} {n P Q S p : Nat} (h : RR c m n P Q S) (hp : p ≤ P) : RR (si c 6 2 (nI p)) (si m 1 33 (nI p)) n p Q S := by
  have hn := h.1.1
  have hc : ∀ x y, x ≠ 6 → gi (si c 6 2 (nI p)) x y = gi c x y := fun x y z => gi_nk z
  have hm : ∀ x y, ¬ (x = 1 ∧ y = 33) → gi (si m 1 33 (nI p)) x y = gi m x y := fun x y z => by rw [gi_si, if_neg z]
  refine h.mut (fun x y _ _ => hc _ _ (by omega)) (fun x y _ _ => hm _ _ (by omega)) ?_ (by rw [hc _ _ (by omega)]; exact h.2.1)
  obtain ⟨g1, g2, g3, g4, g5, g6, g7, g8, g9⟩ := h.1
  have hQ := g9.1
  have hP := g8.1
  refine ⟨g1, by rw [hc _ _ (by omega)]; exact g2, by rw [hm _ _ (by omega)]; exact g3, g4.congr (fun q _ _ j _ => hc _ _ (by omega)) (fun i x _ _ => hm _ _ (by omega)), g5.congr (hc _ _ (by omega)) (fun i hi => hm _ _ (by omega)), g6.congr (fun j _ _ => hc _ _ (by omega)) (fun x _ _ => hm _ _ (by omega)), g7.congr (fun j _ => hc _ _ (by omega)) (fun j _ => hm _ _ (by omega)), ⟨by omega, gi_at _ _ _ _, by rw [Nat.zero_add, gi_at], fun j hj => ?_⟩, g9.congr (hc _ _ (by omega)) (fun q _ _ j _ => hc _ _ (by omega)) (fun x _ _ => hm _ _ (by omega))⟩
  rw [hc _ _ (by omega), hc _ _ (by omega), hm _ _ (by omega), hm _ _ (by omega)]
  exact g8.2.2.2 j (by omega)
theorem sim_cut (a : Int32) {c m : StA} (h : R0 c m) : E2 (f_X5_cut a c) (f_X6_cut a m) Fin := by
  have h0 := h
  obtain ⟨n, P, Q, S, h⟩ := h
  have hps := h.ps
  unfold f_X5_cut f_X6_cut
  rw [e_keep hps.2.1, G33, t33, hps.2.2, e_in (y := 0) (b := 0) (z := (nI P).toInt64) (c := nI P) rfl rfl]
  simp only [bn_so]
  by_cases h1 : 0 ≤ a ∧ a ≤ nI P
  · rw [if_pos h1, if_pos h1, if_neg (show ¬ (1 : Int32) = 0 by decide), show f_X6_becomes 33 a m = some (si m 1 33 a, gi m 1 33) from e_becomes (j := 33) (by omega), hps.2.2]
    obtain ⟨p, hp, rfl⟩ := ck_n (N := P) (ti_nI (by omega)) h1
    exact E2_ret ⟨rfl, n, p, Q, S, h.pc hp⟩
  · rw [if_neg h1, if_neg h1, if_pos rfl]
    exact E2_ret ⟨rfl, h0⟩
theorem RR.se {c m : StA} {n P Q S : Nat} (h : RR c m n P Q S) : Q ≤ 6 ∧ gi c 9 2 = nI Q ∧ gi m 1 50 = nI Q := by
  obtain ⟨h1, h2, h3, -⟩ := h.1.2.2.2.2.2.2.2.2
  rw [Nat.zero_add] at h3
  exact ⟨h1, h2, h3⟩
theorem RR.sp {c m : StA} {n P Q S : Nat} {a b : Int32} (h : RR c m n P Q S) (hQ : Q < 6) (ha : rg a 0 30) (hb : rg b 0 60) : RR (si (si (si c 10 Q a) 11 Q b) 9 2 (nI (Q + 1))) (si (si (si m 1 (51 + 2 * Q) a) 1 (52 + 2 * Q) b) 1 50 (nI (Q + 1))) n P (Q + 1) S := by
  have hn := h.1.1
  have hc : ∀ x y, x ≠ 9 → x ≠ 10 → x ≠ 11 → gi (si (si (si c 10 Q a) 11 Q b) 9 2 (nI (Q + 1))) x y = gi c x y := fun x y z1 z2 z3 => by rw [gi_nk z1, gi_nk z3, gi_nk z2]
  have hm : ∀ x y, ¬ (x = 1 ∧ (y = 50 ∨ y = 51 + 2 * Q ∨ y = 52 + 2 * Q)) → gi (si (si (si m 1 (51 + 2 * Q) a) 1 (52 + 2 * Q) b) 1 50 (nI (Q + 1))) x y = gi m x y := fun x y z => by
    rw [gi_si, if_neg (by omega), gi_si, if_neg (by omega), gi_si, if_neg (by omega)]
  refine h.mut (fun x y _ _ => hc _ _ (by omega) (by omega) (by omega)) (fun x y _ _ => hm _ _ (by omega)) ?_ (by rw [hc _ _ (by omega) (by omega) (by omega)]; exact h.2.1)
  obtain ⟨g1, g2, g3, g4, g5, g6, g7, g8, g9⟩ := h.1
  have hP := g8.1
  refine ⟨g1, by rw [hc _ _ (by omega) (by omega) (by omega)]; exact g2, by rw [hm _ _ (by omega)]; exact g3, g4.congr (fun q _ _ j _ => hc _ _ (by omega) (by omega) (by omega)) (fun i x _ _ => hm _ _ (by omega)), g5.congr (hc _ _ (by omega) (by omega) (by omega)) (fun i hi => hm _ _ (by omega)), g6.congr (fun j _ _ => hc _ _ (by omega) (by omega) (by omega)) (fun x _ _ => hm _ _ (by omega)), g7.congr (fun j _ => hc _ _ (by omega) (by omega) (by omega)) (fun j _ => hm _ _ (by omega)), g8.congr (hc _ _ (by omega) (by omega) (by omega)) (fun q _ _ j _ => hc _ _ (by omega) (by omega) (by omega)) (fun x _ _ => hm _ _ (by omega)), ⟨by omega, gi_at _ _ _ _, by rw [Nat.zero_add, gi_at], fun j hj => ?_⟩⟩
  rw [Nat.zero_add, Nat.zero_add]
  have k9 : ∀ y, gi (si (si (si c 10 Q a) 11 Q b) 9 2 (nI (Q + 1))) (1 + 9) y = gi (si (si (si c 10 Q a) 11 Q b) 9 2 (nI (Q + 1))) 10 y := fun _ => rfl
  have k10 : ∀ y, gi (si (si (si c 10 Q a) 11 Q b) 9 2 (nI (Q + 1))) (1 + 10) y = gi (si (si (si c 10 Q a) 11 Q b) 9 2 (nI (Q + 1))) 11 y := fun _ => rfl
  rw [k9, k10]
  by_cases e : j = Q
  · subst e
    have m51 : gi (si (si (si m 1 (51 + 2 * j) a) 1 (52 + 2 * j) b) 1 50 (nI (j + 1))) 1 (51 + 2 * j) = a := by rw [gi_nj (by omega), gi_nj (by omega), gi_at]
    have m52 : gi (si (si (si m 1 (51 + 2 * j) a) 1 (52 + 2 * j) b) 1 50 (nI (j + 1))) 1 (52 + 2 * j) = b := by rw [gi_nj (by omega), gi_at]
    rw [m51, m52, gi_nk (show (11 : Nat) ≠ 9 by omega), gi_at, gi_nk (show (10 : Nat) ≠ 9 by omega), gi_nk (show (10 : Nat) ≠ 11 by omega), gi_at]
    exact ⟨rfl, ha, rfl, hb⟩
  · rw [hm _ _ (by omega), hm _ _ (by omega), gi_nk (show (11 : Nat) ≠ 9 by omega), gi_nj e, gi_nk (show (11 : Nat) ≠ 10 by omega), gi_nk (show (10 : Nat) ≠ 9 by omega), gi_nk (show (10 : Nat) ≠ 11 by omega), gi_nj e]
    have := g9.2.2.2 j (by omega)
    rw [Nat.zero_add, Nat.zero_add] at this
    exact this
theorem sim_see (a b : Int32) {c m : StA} (h : R0 c m) : E2 (f_X5_see a b c) (f_X6_see a b m) Fin := by
  have h0 := h
  obtain ⟨n, P, Q, S, h⟩ := h
  have hse := h.se
  unfold f_X5_see f_X6_see
  refine E2_ck (e_isIn a 0 30 c) (e_in (y := 0) (z := 30) (b := 0) (c := 30) rfl rfl m) (fun _ => ⟨rfl, h0⟩) (fun hp => ?_)
  refine E2_ck (e_isHeight5 b c) (e_in (y := 0) (z := 60) (b := 0) (c := 60) rfl rfl m) (fun _ => ⟨rfl, h0⟩) (fun hp2 => ?_)
  rw [e_add (k := 9) (N := 6) rfl (by omega) hse.2.1 hse.1, G50]
  by_cases e : Q = 6
  · rw [if_pos e, t50, if_pos (by rw [hse.2.2, e]; rfl)]
    exact E2_ret ⟨rfl, h0⟩
  · rw [if_neg e, if_neg (show ¬ gi m 1 (50 : Int32).toNatClampNeg = 6 by
      rw [t50, hse.2.2, show (6 : Int32) = nI 6 from rfl, nI_eq' (by omega) (by omega)]
      exact e)]
    have := e_addM (o := 50) (N := 6) (m := m) a b (by omega) hse.2.2 (by omega) (by omega)
    refine E2_le rfl ?_
    rw [show (gd 50 189 (nmi (51 + (2 * (gi m 1 (50 : Int32).toNatClampNeg))) (fun n9 => gd n9 189 (nms (si m 1 n9.toNatClampNeg a) (fun s11 => gd (n9 + 1) 189 (nms (si s11 1 ((n9 + 1).toNatClampNeg) b) (fun s13 => gd 50 189 (gd 50 189 (nms (si s13 1 ((50 : Int32).toNatClampNeg) ((gi s13 1 (50 : Int32).toNatClampNeg) + 1)) (fun s16 => gd 50 189 (some (s16, (gi s16 1 (50 : Int32).toNatClampNeg))))))))))))) = _ from this]
    exact E2_ret ⟨rfl, n, P, Q + 1, S, h.sp (by omega) (rg_ck rfl rfl hp) (rg_ck rfl rfl hp2)⟩
theorem RR.sc {c m : StA} {n P Q S p : Nat} (h : RR c m n P Q S) (hp : p ≤ Q) : RR (si c 9 2 (nI p)) (si m 1 50 (nI p)) n P p S := by
  have hn := h.1.1
  have hc : ∀ x y, x ≠ 9 → gi (si c 9 2 (nI p)) x y = gi c x y := fun x y z => gi_nk z
  have hm : ∀ x y, ¬ (x = 1 ∧ y = 50) → gi (si m 1 50 (nI p)) x y = gi m x y := fun x y z => by rw [gi_si, if_neg z]
  refine h.mut (fun x y _ _ => hc _ _ (by omega)) (fun x y _ _ => hm _ _ (by omega)) ?_ (by rw [hc _ _ (by omega)]; exact h.2.1)
  obtain ⟨g1, g2, g3, g4, g5, g6, g7, g8, g9⟩ := h.1
  have hQ := g9.1
  have hP := g8.1
  refine ⟨g1, by rw [hc _ _ (by omega)]; exact g2, by rw [hm _ _ (by omega)]; exact g3, g4.congr (fun q _ _ j _ => hc _ _ (by omega)) (fun i x _ _ => hm _ _ (by omega)), g5.congr (hc _ _ (by omega)) (fun i hi => hm _ _ (by omega)), g6.congr (fun j _ _ => hc _ _ (by omega)) (fun x _ _ => hm _ _ (by omega)), g7.congr (fun j _ => hc _ _ (by omega)) (fun j _ => hm _ _ (by omega)), g8.congr (hc _ _ (by omega)) (fun q _ _ j _ => hc _ _ (by omega)) (fun x _ _ => hm _ _ (by omega)), ⟨by omega, gi_at _ _ _ _, by rw [Nat.zero_add, gi_at], fun j hj => ?_⟩⟩
  rw [hc _ _ (by omega), hc _ _ (by omega), hm _ _ (by omega), hm _ _ (by omega)]
  exact g9.2.2.2 j (by omega)
theorem sim_forget (a : Int32) {c m : StA} (h : R0 c m) : E2 (f_X5_forget a c) (f_X6_forget a m) Fin := by
  have h0 := h
  obtain ⟨n, P, Q, S, h⟩ := h
  have hps := h.se
  unfold f_X5_forget f_X6_forget
  rw [e_keep hps.2.1, G50, t50, hps.2.2, e_in (y := 0) (b := 0) (z := (nI Q).toInt64) (c := nI Q) rfl rfl]
  simp only [bn_so]
  by_cases h1 : 0 ≤ a ∧ a ≤ nI Q
  · rw [if_pos h1, if_pos h1, if_neg (show ¬ (1 : Int32) = 0 by decide), show f_X6_becomes 50 a m = some (si m 1 50 a, gi m 1 50) from e_becomes (j := 50) (by omega), hps.2.2]
    obtain ⟨p, hp, rfl⟩ := ck_n (N := Q) (ti_nI (by omega)) h1
    exact E2_ret ⟨rfl, n, P, p, S, h.sc hp⟩
  · rw [if_neg h1, if_neg h1, if_pos rfl]
    exact E2_ret ⟨rfl, h0⟩
/-! images -/
theorem ix63 {j : Nat} : 63 * (nI j + 1) = nI (63 * (j + 1)) := by
  rw [nI_1, show (63 : Int32) = nI 63 from rfl, pk_mul]
theorem fl_im {j : Nat} (hj : j < 2) : isFl (23 + 11 * j) := by unfold isFl; omega
theorem sim_keep (a : Int32) {c m : StA} (h : R0 c m) : E2 (f_X5_keep a c) (f_X6_keep a m) Fin := by
  have h0 := h
  obtain ⟨n, P, Q, S, h⟩ := h
  unfold f_X5_keep f_X6_keep
  refine E2_ck (e_isIn a 0 1 c) (e_in (y := 0) (z := 1) (b := 0) (c := 1) rfl rfl m) (fun _ => ⟨rfl, h0⟩) (fun hp => ?_)
  obtain ⟨j, hj, rfl⟩ := ck_n (N := 1) rfl hp
  obtain ⟨h1, h2, h3, h4, h5, h6, h7⟩ := id h
  obtain ⟨g1, g2, g3, g4, g5, g6, g7, g8, g9⟩ := id h1
  rw [gd_n (show j < 2 by omega) (by omega), gd_n (show j < 2 by omega) (by omega), tn_nI (by omega)]
  have hk : ∃ b : Bool, gi c 46 j = bI b ∧ gi m 3 j = bI b := by
    rcases h3 j (by omega) with q | q
    · exact ⟨false, q.1, q.2⟩
    · exact ⟨true, q.1, q.2.1⟩
  obtain ⟨b, hb1, hb2⟩ := hk
  rw [hb1, hb2]
  have e1 : (if bI b = 0 then fj_X5_keep_j25 (nI j) 0 c else fj_X5_keep_j25 (nI j) 1 c) = fj_X5_keep_j25 (nI j) (bI b) c := by cases b <;> rfl
  have e2 : f_X6_flag (bI b) m = some (m, bI b) := by cases b <;> rfl
  rw [e1]
  refine E2_re e2 ?_
  unfold fj_X5_keep_j25
  rw [gd_n (show j < 2 by omega) (by omega), gd_n (show j < 2 by omega) (by omega), tn_nI (by omega)]
  obtain ⟨c1, _, ec, a1, a2, a3, a4, a5, a6, a7, a8⟩ := e_cpFlight (k := 23 + 11 * j) (b := 1) (n := n) (P := P) (Q := Q) (fl_im (by omega)) fl_is1 (by omega) g1 g8.1 g9.1 g2 g8.2.1 g9.2.1
  refine E2_le ec ?_
  simp only [nms]
  rw [gd_n (show j < 2 by omega) (by omega), ix63]
  obtain ⟨m1, _, em, b1, b2⟩ := e_copies (o := 63 * (j + 1)) (p := 0) (by omega) (by omega) (by omega) (si m 3 j 1)
  rw [show (0 : Int32) = nI 0 from rfl]
  refine E2_re em (E2_ret ⟨rfl, n, P, Q, S, ?_⟩)
  have hc : ∀ x y, ¬ (23 + 11 * j ≤ x ∧ x ≤ 33 + 11 * j) → ¬ (x = 46 ∧ y = j) → gi (si c1 46 j 1) x y = gi c x y := fun x y z1 z2 => by rw [gi_si, if_neg z2]; exact a8.1 x y (by omega)
  have hm : ∀ x y, ¬ (x = 1 ∧ 63 * (j + 1) ≤ y ∧ y < 63 * (j + 1) + 63) → ¬ (x = 3 ∧ y = j) → gi m1 x y = gi m x y := fun x y z1 z2 => by rw [b2.1 x y z1, gi_si, if_neg z2]
  refine ⟨?_, ?_, fun q hq => ?_, h4.frm (hc _ _ (by omega) (by omega)) (hm _ _ (by omega) (by omega)) (fun _ => hc _ _ (by omega) (by omega)) (fun _ => hc _ _ (by omega) (by omega)) (fun _ => hm _ _ (by omega) (by omega)), by rw [hc _ _ (by omega) (by omega), hm _ _ (by omega) (by omega)]; exact h5, by rw [hc _ _ (by omega) (by omega), hm _ _ (by omega) (by omega)]; exact h6, h7.frm (fun _ _ _ _ => hc _ _ (by omega) (by omega)) (fun _ => hm _ _ (by omega) (by omega)) (fun _ => hm _ _ (by omega) (by omega)) (fun _ => hm _ _ (by omega) (by omega))⟩
  · exact h1.congr (fun y _ _ => hc _ _ (by omega) (by omega)) (fun q _ _ y _ => hc _ _ (by omega) (by omega)) (fun y _ => hc _ _ (by omega) (by omega)) (hc _ _ (by omega) (by omega)) (fun q _ _ y _ => hc _ _ (by omega) (by omega)) (hc _ _ (by omega) (by omega)) (fun q _ _ y _ => hc _ _ (by omega) (by omega)) (fun x hx => hm _ _ (by omega) (by omega)) (hm _ _ (by omega) (by omega))
  · rw [hc _ _ (by omega) (by omega)]; exact h2
  · by_cases e : q = j
    · subst e
      refine Or.inr ⟨gi_at _ _ _ _, ?_, P, Q, S, ?_, ?_⟩
      · rw [b2.1 _ _ (by omega), gi_at]
      · have k : ∀ x y, 23 + 11 * q ≤ x → x ≤ 33 + 11 * q → gi (si c1 46 q 1) x y = gi c1 x y := fun x y z1 z2 => gi_nk (by omega)
        exact h1.congr (fun y z1 z2 => by rw [k _ _ (by omega) (by omega)]; exact a1 y z1 z2) (fun z z1 z2 y hy => by rw [k _ _ (by omega) (by omega)]; exact a2 z z1 z2 y hy) (fun y hy => by rw [k _ _ (by omega) (by omega)]; exact a3 y hy) (by rw [k _ _ (by omega) (by omega)]; exact a4) (fun z z1 z2 y hy => by rw [k _ _ (by omega) (by omega)]; exact a5 z z1 z2 y hy) (by rw [k _ _ (by omega) (by omega)]; exact a6) (fun z z1 z2 y hy => by rw [k _ _ (by omega) (by omega)]; exact a7 z z1 z2 y hy) (fun x hx => by rw [b1 x hx, gi_nk (by omega)]) (by rw [hm _ _ (by omega) (by omega)])
      · rw [gi_nk (by omega), a1 11 (by omega) (by omega)]; exact h2
    · have := h3 q hq
      rw [hc 46 q (by omega) (by omega), hm 3 q (by omega) (by omega)]
      rcases this with z | ⟨z1, z2, z3⟩
      · exact Or.inl z
      · exact Or.inr ⟨z1, z2, z3.frm (fun x y w1 w2 => hc _ _ (by omega) (by omega)) (fun x hx => hm _ _ (by omega) (by omega)) (hm _ _ (by omega) (by omega))⟩
theorem sim_back (a : Int32) {c m : StA} (h : R0 c m) : E2 (f_X5_back a c) (f_X6_back a m) Fin := by
  have h0 := h
  obtain ⟨n, P, Q, S, h⟩ := h
  unfold f_X5_back f_X6_back
  refine E2_ck (e_isIn a 0 1 c) (e_in (y := 0) (z := 1) (b := 0) (c := 1) rfl rfl m) (fun _ => ⟨rfl, h0⟩) (fun hp => ?_)
  obtain ⟨j, hj, rfl⟩ := ck_n (N := 1) rfl hp
  obtain ⟨h1, h2, h3, h4, h5, h6, h7⟩ := id h
  rw [gd_n (show j < 2 by omega) (by omega), gd_n (show j < 2 by omega) (by omega), gd_n (show j < 2 by omega) (by omega), tn_nI (by omega)]
  rcases h3 j (by omega) with q | ⟨q1, q2, P', Q', S', q3, q4⟩
  · rw [q.1, q.2, if_pos rfl, if_pos rfl]
    exact E2_ret ⟨rfl, h0⟩
  · rw [q1, q2, if_neg (by decide), if_neg (by decide), ix63]
    obtain ⟨g1, g2, g3, g4, g5, g6, g7, g8, g9⟩ := id q3
    obtain ⟨c1, _, ec, a1, a2, a3, a4, a5, a6, a7, a8⟩ := e_cpFlight (k := 1) (b := 23 + 11 * j) (n := n) (P := P') (Q := Q') fl_is1 (fl_im (by omega)) (by omega) g1 g8.1 g9.1 g2 g8.2.1 g9.2.1
    refine E2_le ec ?_
    obtain ⟨m1, _, em, b1, b2⟩ := e_copies (o := 0) (p := 63 * (j + 1)) (by omega) (by omega) (by omega) m
    refine E2_re (show f_X6_copies 0 (nI (63 * (j + 1))) m = _ from em) ?_
    rw [G27, t27]
    have b1' : ∀ i, i < 63 → gi m1 1 i = gi m 1 (63 * (j + 1) + i) := fun i hi => by have := b1 i hi; rw [Nat.zero_add] at this; exact this
    have hR : Rf c1 1 m1 1 0 n P' Q' S' noF := q3.congr a1 a2 a3 a4 a5 a6 a7 (fun x hx => by rw [Nat.zero_add]; exact b1' x hx) (b2.1 _ _ (by omega))
    have r7 := hR.2.2.2.2.2.1.2.2.2.2.2.2.1
    rw [Nat.zero_add] at r7
    rw [r7]
    refine E2_ret ⟨rfl, n, P', Q', S', h.mut (fun x y z1 z2 => a8.1 _ _ (by omega)) (fun x y z1 z2 => b2.1 _ _ (by omega)) hR ?_⟩
    rw [a1 11 (by omega) (by omega)]
    exact q4
