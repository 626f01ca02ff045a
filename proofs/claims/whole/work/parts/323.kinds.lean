/-! the text: each kind of line -/
def Cc : Nat → Nat → Prop := fun x y => (12 ≤ x ∧ x ≤ 22) ∨ (x = 47 ∧ 9 ≤ y ∧ y ≤ 11)
def Cm : Nat → Nat → Prop := fun x y => x = 4 ∨ (x = 0 ∧ 5 ≤ y ∧ y ≤ 8)
def agD (C : Nat → Nat → Prop) (s s' : StA) : Prop := ∀ x y, C x y → gi s' x y = gi s x y
theorem agD.tr {C : Nat → Nat → Prop} {a b c : StA} (h : agD C a b) (h' : agD C b c) : agD C a c := fun x y z => (h' x y z).trans (h x y z)
theorem agD.si {C : Nat → Nat → Prop} {a b : StA} (h : agD C a b) (k j : Nat) (v : Int32) : agD C (si a k j v) (si b k j v) := fun x y z => by
  rw [gi_si, gi_si, h x y z]
theorem agD.lc {s s' : StA} (h : eqC LXc s s') : agD Cc s s' := fun x y z => h.1 _ _ (by unfold Cc at z; unfold LXc; omega)
theorem agD.lm {s s' : StA} (h : eqC LXm s s') : agD Cm s s' := fun x y z => h.1 _ _ (by unfold Cm at z; unfold LXm; omega)
theorem agD.rf (C : Nat → Nat → Prop) (s : StA) : agD C s s := fun _ _ _ => rfl
theorem DR.ag {s t s' t' : StA} {n : Nat} (h : DR s t n) (hc : agD Cc s s') (hm : agD Cm t t') : DR s' t' n := h.frm hc hm
def cont (s : StA) (r : Int32) : Option (StA × Int32) := if r = 0 then some (s, 0) else f_X3_nextToken s
def K2 (s : StA) (r : Int32) : Option (StA × Int32) := bn (gz r (some (s, r))) cont
theorem K2_0 (s : StA) : K2 s 0 = some (s, 0) := rfl
theorem K2_1 (s : StA) : K2 s 1 = f_X3_nextToken s := by
  unfold K2 gz
  rw [if_pos (Or.inr rfl)]
  simp only [bn_so]
  unfold cont
  rw [if_neg (show ¬ (1 : Int32) = 0 by decide)]
theorem K3_0 (s : StA) : bn (gz 0 (some (s, (0 : Int32)))) K2 = some (s, 0) := rfl
theorem K3_1 (s : StA) : bn (gz 1 (some (s, (1 : Int32)))) K2 = f_X3_nextToken s := by
  unfold gz
  rw [if_pos (Or.inr rfl)]
  exact K2_1 s
theorem DR.rate {s t : StA} {n : Nat} {v : Int32} (h : DR s t n) (hv : rg v 1 9) : DR (si s 12 10 v) (si t 4 26 v) n := by
  obtain ⟨h1, h2, h3, h4, h5, h6, h7, h8, h9, h10, h11, h12, h13, h14⟩ := h
  refine ⟨h1, by rw [gi_nj (by omega)]; exact h2, by rw [gi_nk (by omega)]; exact h3, h4.congr (fun q _ _ j _ => gi_nk (by omega)) (fun i x _ _ => gi_nj (by omega)), by rw [gi_nj (by omega)]; exact h5, fun i hi => by rw [gi_nj (by omega)]; exact h6 i hi, ?_, by rw [gi_nj (by omega)]; exact h8, h9.congr (fun j _ => gi_nk (by omega)) (fun j _ => gi_nj (by omega)), by rw [gi_nk (by omega), gi_nj (by omega)]; exact h10, by rw [gi_nk (by omega), gi_nj (by omega)]; exact h11, by rw [gi_nk (by omega), gi_nk (by omega)]; exact h12, by rw [gi_nk (by omega), gi_nk (by omega)]; exact h13, by rw [gi_nk (by omega), gi_nk (by omega)]; exact h14⟩
  obtain ⟨r1, r2, r3, r4, r5, r6, r7, r8⟩ := h7
  refine ⟨?_, ?_, ?_, ?_, ?_, ?_, ?_, ?_⟩
  · rw [gi_nj (by omega), gi_nj (by omega)]; exact r1
  · rw [gi_nj (by omega)]; exact r2
  · rw [gi_nj (by omega), gi_nj (by omega)]; exact r3
  · rw [gi_nj (by omega)]; exact r4
  · rw [gi_at, Nat.zero_add, gi_at]
  · rw [gi_at]; exact hv
  · rw [gi_nj (by omega), gi_nj (by omega)]; exact r7
  · rw [gi_nj (by omega)]; exact r8
theorem DR.start {s t : StA} {n : Nat} {v w : Int32} (h : DR s t n) (hv : rg v 0 60) (hw : rg w 0 99) : DR (si (si s 12 8 v) 12 9 w) (si (si t 4 24 v) 4 25 w) n := by
  obtain ⟨h1, h2, h3, h4, h5, h6, h7, h8, h9, h10, h11, h12, h13, h14⟩ := h
  have kc : ∀ x y, x ≠ 12 ∨ (y ≠ 8 ∧ y ≠ 9) → gi (si (si s 12 8 v) 12 9 w) x y = gi s x y := fun x y z => by rw [gi_si, if_neg (by omega), gi_si, if_neg (by omega)]
  have km : ∀ x y, x ≠ 4 ∨ (y ≠ 24 ∧ y ≠ 25) → gi (si (si t 4 24 v) 4 25 w) x y = gi t x y := fun x y z => by rw [gi_si, if_neg (by omega), gi_si, if_neg (by omega)]
  refine ⟨h1, by rw [kc _ _ (by omega)]; exact h2, by rw [km _ _ (by omega)]; exact h3, h4.congr (fun q _ _ j _ => kc _ _ (by omega)) (fun i x _ _ => km _ _ (by omega)), by rw [kc _ _ (by omega)]; exact h5, fun i hi => by rw [km _ _ (by omega)]; exact h6 i hi, ?_, by rw [kc _ _ (by omega)]; exact h8, h9.congr (fun j _ => kc _ _ (by omega)) (fun j _ => km _ _ (by omega)), by rw [kc _ _ (by omega), km _ _ (by omega)]; exact h10, by rw [kc _ _ (by omega), km _ _ (by omega)]; exact h11, by rw [kc _ _ (by omega), km _ _ (by omega)]; exact h12, by rw [kc _ _ (by omega), km _ _ (by omega)]; exact h13, by rw [kc _ _ (by omega), km _ _ (by omega)]; exact h14⟩
  obtain ⟨r1, r2, r3, r4, r5, r6, r7, r8⟩ := h7
  refine ⟨?_, ?_, ?_, ?_, ?_, ?_, ?_, ?_⟩
  · rw [gi_nj (by omega), gi_at, gi_nj (by omega), Nat.zero_add, gi_at]
  · rw [gi_nj (by omega), gi_at]; exact hv
  · rw [gi_at, Nat.zero_add, gi_at]
  · rw [gi_at]; exact hw
  · rw [kc _ _ (by omega), km _ _ (by omega)]; exact r5
  · rw [kc _ _ (by omega)]; exact r6
  · rw [kc _ _ (by omega), km _ _ (by omega)]; exact r7
  · rw [kc _ _ (by omega)]; exact r8
theorem DR.wind {s t : StA} {n k : Nat} {v : Int32} (h : DR s t n) (hk : k < 5) (hv : rg v 0 8) : DR (si s 16 k v) (si t 4 (28 + k) v) n := by
  obtain ⟨h1, h2, h3, h4, h5, h6, h7, h8, h9, h10, h11, h12, h13, h14⟩ := h
  refine ⟨h1, by rw [gi_nk (by omega)]; exact h2, by rw [gi_nk (by omega)]; exact h3, h4.congr (fun q _ _ j _ => gi_nk (by omega)) (fun i x _ _ => gi_nj (by omega)), by rw [gi_nk (by omega)]; exact h5, fun i hi => by rw [gi_nj (by omega)]; exact h6 i hi, h7.congr (fun j _ _ => gi_nk (by omega)) (fun x _ _ => gi_nj (by omega)), by rw [gi_nk (by omega)]; exact h8, fun j hj => ?_, by rw [gi_nk (by omega), gi_nj (by omega)]; exact h10, by rw [gi_nk (by omega), gi_nj (by omega)]; exact h11, by rw [gi_nk (by omega), gi_nk (by omega)]; exact h12, by rw [gi_nk (by omega), gi_nk (by omega)]; exact h13, by rw [gi_nk (by omega), gi_nk (by omega)]; exact h14⟩
  have e1 : gi (si s 16 k v) (12 + 4) j = gi (si s 16 k v) 16 j := rfl
  rw [e1, Nat.zero_add]
  by_cases e : j = k
  · subst e
    rw [gi_at, gi_at]
    exact ⟨rfl, hv⟩
  · rw [gi_nj e, gi_nj (by omega)]
    have := h9 j hj
    rw [Nat.zero_add] at this
    exact this
theorem DR.thing {s t : StA} {n : Nat} {k w v : Int32} (h : DR s t n) (hn : n < 6) (hk : rg k 0 3) (hw : rg w 1 9) (hv : rg v 0 1) : DR (si (si (si (si s 13 n k) 14 n w) 15 n v) 12 6 (nI (n + 1))) (si (si (si (si t 4 (4 * n) k) 4 (4 * n + 1) w) 4 (4 * n + 2) v) 0 5 (nI (n + 1))) (n + 1) := by
  obtain ⟨h1, h2, h3, h4, h5, h6, h7, h8, h9, h10, h11, h12, h13, h14⟩ := h
  have kc : ∀ x y, x ≠ 13 → x ≠ 14 → x ≠ 15 → ¬ (x = 12 ∧ y = 6) → gi (si (si (si (si s 13 n k) 14 n w) 15 n v) 12 6 (nI (n + 1))) x y = gi s x y := fun x y z1 z2 z3 z4 => by rw [gi_si, if_neg z4, gi_nk z3, gi_nk z2, gi_nk z1]
  have km : ∀ x y, ¬ (x = 4 ∧ 4 * n ≤ y ∧ y ≤ 4 * n + 2) → ¬ (x = 0 ∧ y = 5) → gi (si (si (si (si t 4 (4 * n) k) 4 (4 * n + 1) w) 4 (4 * n + 2) v) 0 5 (nI (n + 1))) x y = gi t x y := fun x y z1 z2 => by rw [gi_si, if_neg z2, gi_si, if_neg (by omega), gi_si, if_neg (by omega), gi_si, if_neg (by omega)]
  refine ⟨by omega, gi_at _ _ _ _, gi_at _ _ _ _, fun i hi => ?_, by rw [kc _ _ (by omega) (by omega) (by omega) (by omega)]; exact h5, fun i hi => by rw [km _ _ (by omega) (by omega)]; exact h6 i hi, h7.congr (fun j _ _ => kc _ _ (by omega) (by omega) (by omega) (by omega)) (fun x _ _ => km _ _ (by omega) (by omega)), by rw [kc _ _ (by omega) (by omega) (by omega) (by omega)]; exact h8, h9.congr (fun j _ => kc _ _ (by omega) (by omega) (by omega) (by omega)) (fun j _ => km _ _ (by omega) (by omega)), by rw [kc _ _ (by omega) (by omega) (by omega) (by omega), km _ _ (by omega) (by omega)]; exact h10, by rw [kc _ _ (by omega) (by omega) (by omega) (by omega), km _ _ (by omega) (by omega)]; exact h11, by rw [kc _ _ (by omega) (by omega) (by omega) (by omega), km _ _ (by omega) (by omega)]; exact h12, by rw [kc _ _ (by omega) (by omega) (by omega) (by omega), km _ _ (by omega) (by omega)]; exact h13, by rw [kc _ _ (by omega) (by omega) (by omega) (by omega), km _ _ (by omega) (by omega)]; exact h14⟩
  rw [Nat.zero_add, Nat.zero_add, Nat.zero_add]
  have e1 : ∀ S : StA, gi S (12 + 1) i = gi S 13 i := fun _ => rfl
  have e2 : ∀ S : StA, gi S (12 + 2) i = gi S 14 i := fun _ => rfl
  have e3 : ∀ S : StA, gi S (12 + 3) i = gi S 15 i := fun _ => rfl
  rw [e1, e2, e3]
  by_cases e : i = n
  · subst e
    rw [gi_nk (show (13 : Nat) ≠ 12 by omega), gi_nk (show (13 : Nat) ≠ 15 by omega), gi_nk (show (13 : Nat) ≠ 14 by omega), gi_at, gi_nk (show (14 : Nat) ≠ 12 by omega), gi_nk (show (14 : Nat) ≠ 15 by omega), gi_at, gi_nk (show (15 : Nat) ≠ 12 by omega), gi_at]
    rw [gi_nk (show (4 : Nat) ≠ 0 by omega), gi_nj (show 4 * i ≠ 4 * i + 2 by omega), gi_nj (show 4 * i ≠ 4 * i + 1 by omega), gi_at, gi_nk (show (4 : Nat) ≠ 0 by omega), gi_nj (show 4 * i + 1 ≠ 4 * i + 2 by omega), gi_at, gi_nk (show (4 : Nat) ≠ 0 by omega), gi_at]
    exact ⟨rfl, rfl, rfl, hk, hw, hv⟩
  · rw [km _ _ (by omega) (by omega), km _ _ (by omega) (by omega), km _ _ (by omega) (by omega), gi_nk (show (13 : Nat) ≠ 12 by omega), gi_nk (show (13 : Nat) ≠ 15 by omega), gi_nk (show (13 : Nat) ≠ 14 by omega), gi_nj e, gi_nk (show (14 : Nat) ≠ 12 by omega), gi_nk (show (14 : Nat) ≠ 15 by omega), gi_nj e, gi_nk (show (14 : Nat) ≠ 13 by omega), gi_nk (show (15 : Nat) ≠ 12 by omega), gi_nj e, gi_nk (show (15 : Nat) ≠ 14 by omega), gi_nk (show (15 : Nat) ≠ 13 by omega)]
    have := h4 i (by omega)
    rw [Nat.zero_add, Nat.zero_add, Nat.zero_add] at this
    exact this
theorem same78 {t : StA} {a b : Int32} (h7 : gi t 0 7 = a) (h8 : gi t 0 8 = b) (x y : Nat) : gi (si (si t 0 7 a) 0 8 b) x y = gi t x y := by
  rw [gi_si]
  by_cases e : x = 0 ∧ y = 8
  · rw [if_pos e, e.1, e.2, h8]
  · rw [if_neg e, gi_si]
    by_cases e2 : x = 0 ∧ y = 7
    · rw [if_pos e2, e2.1, e2.2, h7]
    · rw [if_neg e2]
theorem frm4 {t : StA} {cd y z : Int32} : eqC LFm t (si (si (si (si t 0 15 cd) 0 16 (gi t 0 12)) 0 7 y) 0 8 z) := ((((eqC.rf t).si (Or.inr ⟨rfl, by omega⟩)).si (Or.inr ⟨rfl, by omega⟩)).si (Or.inr ⟨rfl, by omega⟩)).si (Or.inr ⟨rfl, by omega⟩)
theorem frc2 {s : StA} {w cd : Int32} : eqC LFc s (si (si s 47 4 w) 47 3 cd) := ((eqC.rf s).si (Or.inr ⟨rfl, by omega⟩)).si (Or.inr ⟨rfl, by omega⟩)
theorem FT.mk4 {s t : StA} {L b p : Nat} {tok cd y z : Int32} (h : TK s t L b p tok) (hcd : 0 < cd.toInt) : FT (si (si s 47 4 (gi s 47 7)) 47 3 cd) (si (si (si (si t 0 15 cd) 0 16 (gi t 0 12)) 0 7 y) 0 8 z) := (FT.mk h hcd).frm rfl rfl (by rw [gi_nj (by omega), gi_nj (by omega)]) (by rw [gi_nj (by omega), gi_nj (by omega)])
theorem le0 : (0 : Int32) ≤ 0 := by decide
theorem rate_rel {s t : StA} {L b p n : Nat} {tok : Int32} (h : TK s t L b p tok) (hb : b < p) (hD : DR s t n) : E2 (bn (f_X3_readRate 12 s) K2) (fj_X6_readLine_j17 5 t) (LnP s t L b) := by
  obtain ⟨-, -, -, -, -, -, -, -, -, -, -, -, ⟨r1, d1, d2⟩, ⟨r2, d3, d4⟩⟩ := id hD
  have h15 : gi t 0 15 = 0 := h.1.2.2.2.2.1
  unfold f_X3_readRate
  cases r1
  · rw [d1, if_pos (show bI false = 0 from rfl), j17_rate d2 d4]
    unfold RLm
    simp only [nms, bn_as]
    have hT : TB (si s 47 10 1) (si (si t 0 7 1) 0 8 (bI r2)) L p := h.1.frm (fun x y z => by rw [gi_si, if_neg (by omega)]) (fun x y z => by rw [gi_si, if_neg (by omega), gi_si, if_neg (by omega)])
    have hD1 : DR (si s 47 10 1) (si (si t 0 7 1) 0 8 (bI r2)) n := by
      obtain ⟨h1, h2, h3, h4, h5, h6, h7, h8, h9, h10, h11, ⟨W, w1, w2, w3⟩, h13, h14⟩ := hD
      have kc : ∀ x y, x ≠ 47 → gi (si s 47 10 1) x y = gi s x y := fun x y z => gi_nk z
      have km : ∀ x y, x ≠ 0 ∨ (y ≠ 7 ∧ y ≠ 8) → gi (si (si t 0 7 1) 0 8 (bI r2)) x y = gi t x y := fun x y z => by rw [gi_si, if_neg (by omega), gi_si, if_neg (by omega)]
      exact ⟨h1, by rw [kc _ _ (by omega)]; exact h2, by rw [km _ _ (by omega)]; exact h3, h4.congr (fun q _ _ j _ => kc _ _ (by omega)) (fun i x _ _ => km _ _ (by omega)), by rw [kc _ _ (by omega)]; exact h5, fun i hi => by rw [km _ _ (by omega)]; exact h6 i hi, h7.congr (fun j _ _ => kc _ _ (by omega)) (fun x _ _ => km _ _ (by omega)), by rw [kc _ _ (by omega)]; exact h8, h9.congr (fun j _ => kc _ _ (by omega)) (fun j _ => km _ _ (by omega)), by rw [kc _ _ (by omega), km _ _ (by omega)]; exact h10, by rw [kc _ _ (by omega), km _ _ (by omega)]; exact h11, ⟨W, w1, by rw [gi_nj (by omega)]; exact w2, by rw [km _ _ (by omega)]; exact w3⟩, ⟨true, by rw [gi_at]; rfl, by rw [gi_nj (by omega), gi_at]; rfl⟩, ⟨r2, by rw [gi_nj (by omega)]; exact d3, by rw [gi_at]⟩⟩
    have F1 : eqC LFc s (si s 47 10 1) := (eqC.rf s).si (Or.inr ⟨rfl, by omega⟩)
    have G1 : eqC LFm t (si (si t 0 7 1) 0 8 (bI r2)) := ((eqC.rf t).si (Or.inr ⟨rfl, by omega⟩)).si (Or.inr ⟨rfl, by omega⟩)
    generalize si s 47 10 1 = s1 at hT hD1 F1 ⊢
    generalize si (si t 0 7 1) 0 8 (bI r2) = u at hT hD1 G1 ⊢
    rw [e_rnC]
    obtain ⟨s2, r, t1, e1, e2, a1, a2, hr⟩ := lex hT
    rw [e1, e2]
    simp only [bn_so]
    rcases hr with ⟨rfl, b1, p1, tok1, k1, k2⟩ | ⟨rfl, hF⟩
    · rw [if_neg (show ¬ (1 : Int32) = 0 by decide), k2.1.2.2.2.2.1, if_pos le0]
      unfold f_X6_readLineOf f_X6_readNumber
      rw [if_neg (show ¬ (5 : Int32) = 4 by decide), if_pos (show (5 : Int32) = 5 from rfl)]
      obtain ⟨s3, r3, t2, v, f1, f2, f3, f4, hr3⟩ := chk (lo := 1) (hi := 9) k2
      rw [f1]
      simp only [bn_as]
      rw [f2]
      simp only [bn_so]
      rcases hr3 with ⟨rfl, rfl, rfl, q1, q2, q3⟩ | ⟨rfl, rfl, hF⟩
      · rw [if_neg (show ¬ (1 : Int32) = 0 by decide), q1]
        simp only [bn_as, g26, nms, bn_so, t26]
        refine close (s0 := s) (t0 := t) (b := b) (n' := n) (p := p1) (K := fun s a => bn (gz a (some (s, a))) K2) ?_ (fun s => K3_0 s) (fun s => K3_1 s) (fun t => si t 4 26 v) (fun t' x y z => by rw [gi_si, if_neg (by omega)]) (fun s' t' z1 z2 => ?_) (fun t' z => ?_) ?_ (by have := k2.2.1; omega)
        · exact k2.1.frm (fun x y z => gi_nk (by omega)) (fun _ _ _ => rfl)
        · exact ((hD1.lx a1 a2).rate (rg_ck rfl rfl ⟨q2, q3⟩)).ag (agD.lc z1) ((agD.lm z2).si 4 26 v)
        · exact ((G1.tr (a2.mono lxm)).tr (z.mono lxm)).si (Or.inl rfl)
        · exact (F1.tr (a1.mono lxc)).si (Or.inl (by omega))
      · rw [if_pos (show (0 : Int32) = 0 from rfl), e_takesF hF.2.1]
        simp only [bn_so, g26, nms, t26]
        rw [tail_F (by rw [gi_nk (by omega)]; exact hF.2.1)]
        refine E2_ret ⟨(F1.tr (a1.mono lxc)).tr (f3.mono lxc), ((G1.tr (a2.mono lxm)).tr (f4.mono lxm)).si (Or.inl rfl), Or.inr ⟨rfl, hF.frm rfl rfl (gi_nk (by omega)) (gi_nk (by omega))⟩⟩
    · rw [if_pos (show (0 : Int32) = 0 from rfl), if_neg (nz hF.2.1).2]
      exact E2_ret ⟨F1.tr (a1.mono lxc), G1.tr (a2.mono lxm), Or.inr ⟨rfl, hF⟩⟩
  · rw [d1, if_neg (show ¬ bI true = 0 by decide)]
    obtain ⟨y, z, e⟩ := j17_rate2 h15 d2
    rw [e, e_fail]
    exact E2_ret ⟨frc2, frm4, Or.inr ⟨rfl, FT.mk4 h (by decide)⟩⟩
theorem start_line {s t : StA} {L b p n : Nat} {tok : Int32} (h : TK s t L b p tok) (hb : b < p) (hD : DR s t n) : E2 (bn (f_X3_readStart 12 s) K2) (fj_X6_readLine_j17 6 t) (LnP s t L b) := by
  obtain ⟨-, -, -, -, -, -, -, -, -, -, -, -, ⟨r1, d1, d2⟩, ⟨r2, d3, d4⟩⟩ := id hD
  have h15 : gi t 0 15 = 0 := h.1.2.2.2.2.1
  unfold f_X3_readStart
  cases r2
  · rw [d3, if_pos (show bI false = 0 from rfl), j17_start d2 d4]
    unfold RLm
    simp only [nms, bn_as]
    have hT : TB (si s 47 11 1) (si (si t 0 7 (bI r1)) 0 8 1) L p := h.1.frm (fun x y z => by rw [gi_si, if_neg (by omega)]) (fun x y z => by rw [gi_si, if_neg (by omega), gi_si, if_neg (by omega)])
    have hD1 : DR (si s 47 11 1) (si (si t 0 7 (bI r1)) 0 8 1) n := by
      obtain ⟨h1, h2, h3, h4, h5, h6, h7, h8, h9, h10, h11, ⟨W, w1, w2, w3⟩, h13, h14⟩ := hD
      have kc : ∀ x y, x ≠ 47 → gi (si s 47 11 1) x y = gi s x y := fun x y z => gi_nk z
      have km : ∀ x y, x ≠ 0 ∨ (y ≠ 7 ∧ y ≠ 8) → gi (si (si t 0 7 (bI r1)) 0 8 1) x y = gi t x y := fun x y z => by rw [gi_si, if_neg (by omega), gi_si, if_neg (by omega)]
      exact ⟨h1, by rw [kc _ _ (by omega)]; exact h2, by rw [km _ _ (by omega)]; exact h3, h4.congr (fun q _ _ j _ => kc _ _ (by omega)) (fun i x _ _ => km _ _ (by omega)), by rw [kc _ _ (by omega)]; exact h5, fun i hi => by rw [km _ _ (by omega)]; exact h6 i hi, h7.congr (fun j _ _ => kc _ _ (by omega)) (fun x _ _ => km _ _ (by omega)), by rw [kc _ _ (by omega)]; exact h8, h9.congr (fun j _ => kc _ _ (by omega)) (fun j _ => km _ _ (by omega)), by rw [kc _ _ (by omega), km _ _ (by omega)]; exact h10, by rw [kc _ _ (by omega), km _ _ (by omega)]; exact h11, ⟨W, w1, by rw [gi_nj (by omega)]; exact w2, by rw [km _ _ (by omega)]; exact w3⟩, ⟨r1, by rw [gi_nj (by omega)]; exact d1, by rw [gi_nj (by omega), gi_at]⟩, ⟨true, by rw [gi_at]; rfl, by rw [gi_at]; rfl⟩⟩
    have F1 : eqC LFc s (si s 47 11 1) := (eqC.rf s).si (Or.inr ⟨rfl, by omega⟩)
    have G1 : eqC LFm t (si (si t 0 7 (bI r1)) 0 8 1) := ((eqC.rf t).si (Or.inr ⟨rfl, by omega⟩)).si (Or.inr ⟨rfl, by omega⟩)
    generalize si s 47 11 1 = s1 at hT hD1 F1 ⊢
    generalize si (si t 0 7 (bI r1)) 0 8 1 = u at hT hD1 G1 ⊢
    rw [e_rnC]
    obtain ⟨s2, r, t1, e1, e2, a1, a2, hr⟩ := lex hT
    rw [e1, e2]
    simp only [bn_so]
    rcases hr with ⟨rfl, b1, p1, tok1, k1, k2⟩ | ⟨rfl, hF⟩
    · rw [if_neg (show ¬ (1 : Int32) = 0 by decide), k2.1.2.2.2.2.1, if_pos le0]
      unfold f_X6_readLineOf
      rw [if_neg (show ¬ (6 : Int32) = 4 by decide), if_neg (show ¬ (6 : Int32) = 5 by decide), if_pos (show (6 : Int32) = 6 from rfl)]
      obtain ⟨s3, r3, t2, v, f1, f2, f3, f4, hr3⟩ := chk (lo := 0) (hi := 60) k2
      rw [f1, show f_X6_readNumber 0 60 t1 = bn (f_X6_looked 0 60 t1) (fun s1 r2 => bn (f_X6_takes s1) (fun s4 r5 => some (s4, r2))) from rfl, f2]
      simp only [bn_so]
      rcases hr3 with ⟨rfl, rfl, rfl, q1, q2, q3⟩ | ⟨rfl, rfl, hF⟩
      · rw [if_neg (show ¬ (1 : Int32) = 0 by decide), q1, e_rnC]
        have hT2 : TB (si s3 12 8 v) t2 L p1 := k2.1.frm (fun x y z => gi_nk (by omega)) (fun _ _ _ => rfl)
        obtain ⟨s4, r4, t3, e3, e4, a3, a4, hr4⟩ := lex hT2
        rw [e3, e4]
        simp only [bn_so]
        rw [g24, t24]
        simp only [nms]
        rcases hr4 with ⟨rfl, b2, p2, tok2, k3, k4⟩ | ⟨rfl, hF⟩
        · rw [if_neg (show ¬ (1 : Int32) = 0 by decide)]
          have k5 : TK s4 (si t3 4 24 v) L b2 p2 tok2 := k4.frm (fun _ _ _ => rfl) (fun x y z => gi_nk (by omega))
          obtain ⟨s5, r5, t4, w, f5, f6, f7, f8, hr5⟩ := chk (lo := 0) (hi := 99) k5
          rw [f5, show f_X6_readNumber 0 99 (si t3 4 24 v) = bn (f_X6_looked 0 99 (si t3 4 24 v)) (fun s1 r2 => bn (f_X6_takes s1) (fun s4 r5 => some (s4, r2))) from rfl, f6]
          simp only [bn_so]
          rcases hr5 with ⟨rfl, rfl, rfl, q4, q5, q6⟩ | ⟨rfl, rfl, hF⟩
          · rw [if_neg (show ¬ (1 : Int32) = 0 by decide), q4]
            simp only [bn_as, g25, nms, bn_so, t25]
            refine close (s0 := s) (t0 := t) (b := b) (n' := n) (p := p2) (K := fun s a => bn (gz a (some (s, a))) K2) ?_ (fun s => K3_0 s) (fun s => K3_1 s) (fun t => si t 4 25 w) (fun t' x y z => by rw [gi_si, if_neg (by omega)]) (fun s' t' z1 z2 => ?_) (fun t' z => ?_) ?_ (by have := k2.2.1; have := k4.2.1; omega)
            · exact k5.1.frm (fun x y z => gi_nk (by omega)) (fun _ _ _ => rfl)
            · exact ((hD1.lx a1 a2).start (rg_ck rfl rfl ⟨q2, q3⟩) (rg_ck rfl rfl ⟨q5, q6⟩)).ag (((agD.lc a3).si 12 9 w).tr (agD.lc z1)) ((((agD.lm a4).si 4 24 v).tr (agD.lm z2)).si 4 25 w)
            · exact ((((G1.tr (a2.mono lxm)).tr (a4.mono lxm)).si (Or.inl rfl)).tr (z.mono lxm)).si (Or.inl rfl)
            · exact (((F1.tr (a1.mono lxc)).si (Or.inl (by omega))).tr (a3.mono lxc)).si (Or.inl (by omega))
          · rw [if_pos (show (0 : Int32) = 0 from rfl), e_takesF hF.2.1]
            simp only [bn_so, g25, nms, t25]
            rw [tail_F (by rw [gi_nk (by omega)]; exact hF.2.1)]
            exact E2_ret ⟨(((F1.tr (a1.mono lxc)).si (Or.inl (by omega))).tr (a3.mono lxc)).tr (f7.mono lxc), ((((G1.tr (a2.mono lxm)).tr (a4.mono lxm)).si (Or.inl rfl)).tr (f8.mono lxm)).si (Or.inl rfl), Or.inr ⟨rfl, hF.frm rfl rfl (gi_nk (by omega)) (gi_nk (by omega))⟩⟩
        · rw [if_pos (show (0 : Int32) = 0 from rfl), e_rnF (by rw [gi_nk (by omega)]; exact hF.2.1)]
          simp only [bn_so, g25, nms, t25]
          rw [tail_F (by rw [gi_nk (by omega), gi_nk (by omega)]; exact hF.2.1)]
          exact E2_ret ⟨((F1.tr (a1.mono lxc)).si (Or.inl (by omega))).tr (a3.mono lxc), (((G1.tr (a2.mono lxm)).tr (a4.mono lxm)).si (Or.inl rfl)).si (Or.inl rfl), Or.inr ⟨rfl, hF.frm rfl rfl (by rw [gi_nk (by omega), gi_nk (by omega)]) (by rw [gi_nk (by omega), gi_nk (by omega)])⟩⟩
      · rw [if_pos (show (0 : Int32) = 0 from rfl), e_takesF hF.2.1]
        simp only [bn_so]
        rw [g24, t24]
        simp only [nms]
        rw [e_rnF (by rw [gi_nk (by omega)]; exact hF.2.1)]
        simp only [bn_so, g25, nms, t25]
        rw [tail_F (by rw [gi_nk (by omega), gi_nk (by omega)]; exact hF.2.1)]
        exact E2_ret ⟨(F1.tr (a1.mono lxc)).tr (f3.mono lxc), (((G1.tr (a2.mono lxm)).tr (f4.mono lxm)).si (Or.inl rfl)).si (Or.inl rfl), Or.inr ⟨rfl, hF.frm rfl rfl (by rw [gi_nk (by omega), gi_nk (by omega)]) (by rw [gi_nk (by omega), gi_nk (by omega)])⟩⟩
    · rw [if_pos (show (0 : Int32) = 0 from rfl), if_neg (nz hF.2.1).2]
      exact E2_ret ⟨F1.tr (a1.mono lxc), G1.tr (a2.mono lxm), Or.inr ⟨rfl, hF⟩⟩
  · rw [d3, if_neg (show ¬ bI true = 0 by decide)]
    obtain ⟨y, z, e⟩ := j17_start2 h15 d4
    rw [e, e_fail]
    exact E2_ret ⟨frc2, frm4, Or.inr ⟨rfl, FT.mk4 h (by decide)⟩⟩
theorem DR.w9 {s t : StA} {n W : Nat} (h : DR s t n) (hW : W < 32) : DR (si s 47 9 (nI W)) (si t 0 6 (nI W)) n := by
  obtain ⟨h1, h2, h3, h4, h5, h6, h7, h8, h9, h10, h11, h12, h13, h14⟩ := h
  have kc : ∀ x y, x ≠ 47 ∨ y ≠ 9 → gi (si s 47 9 (nI W)) x y = gi s x y := fun x y z => by rw [gi_si, if_neg (by omega)]
  have km : ∀ x y, x ≠ 0 ∨ y ≠ 6 → gi (si t 0 6 (nI W)) x y = gi t x y := fun x y z => by rw [gi_si, if_neg (by omega)]
  exact ⟨h1, by rw [kc _ _ (by omega)]; exact h2, by rw [km _ _ (by omega)]; exact h3, h4.congr (fun q _ _ j _ => kc _ _ (by omega)) (fun i x _ _ => km _ _ (by omega)), by rw [kc _ _ (by omega)]; exact h5, fun i hi => by rw [km _ _ (by omega)]; exact h6 i hi, h7.congr (fun j _ _ => kc _ _ (by omega)) (fun x _ _ => km _ _ (by omega)), by rw [kc _ _ (by omega)]; exact h8, h9.congr (fun j _ => kc _ _ (by omega)) (fun j _ => km _ _ (by omega)), by rw [kc _ _ (by omega), km _ _ (by omega)]; exact h10, by rw [kc _ _ (by omega), km _ _ (by omega)]; exact h11, ⟨W, hW, gi_at _ _ _ _, gi_at _ _ _ _⟩, by rw [kc _ _ (by omega), km _ _ (by omega)]; exact h13, by rw [kc _ _ (by omega), km _ _ (by omega)]; exact h14⟩
/-- a wind that is at fault: nothing that counts is changed any more -/
theorem j24_F {t : StA} {k : Nat} {y : Int32} (hk : k ≤ 4) (h : 0 < (gi t 0 15).toInt) : ∃ x, fj_X6_readWind_j24 (nI k) y t = some (si (si t 0 6 x) 4 (28 + k) 0, ()) := by
  unfold fj_X6_readWind_j24
  rw [e_needsF h]
  simp only [bn_so, nms]
  rw [e_takesF (by rw [gi_nj (by omega)]; exact h)]
  simp only [bn_so]
  rw [e_rnF (by rw [gi_nj (by omega)]; exact h)]
  simp only [bn_so]
  rw [ix28, gd_n (show 28 + k < 63 by omega) (by omega), tn_nI (by omega)]
  exact ⟨_, rfl⟩
theorem wind_line {s t : StA} {L b p n : Nat} {tok : Int32} (h : TK s t L b p tok) (hb : b < p) (hD : DR s t n) : E2 (bn (f_X3_readWind 12 s) K2) (fj_X6_readLine_j17 4 t) (LnP s t L b) := by
  obtain ⟨-, -, -, -, -, -, -, -, -, -, -, ⟨W, w1, w2, w3⟩, ⟨r1, d1, d2⟩, ⟨r2, d3, d4⟩⟩ := id hD
  unfold f_X3_readWind
  rw [j17_wind d2 d4]
  have hu := same78 d2 d4
  have hT : TB s (si (si t 0 7 (bI r1)) 0 8 (bI r2)) L p := h.1.frm (fun _ _ _ => rfl) (fun x y z => hu x y)
  have hD1 : DR s (si (si t 0 7 (bI r1)) 0 8 (bI r2)) n := hD.frm (fun _ _ _ => rfl) (fun x y z => hu x y)
  have G1 : eqC LFm t (si (si t 0 7 (bI r1)) 0 8 (bI r2)) := ((eqC.rf t).si (Or.inr ⟨rfl, by omega⟩)).si (Or.inr ⟨rfl, by omega⟩)
  have u6 : gi (si (si t 0 7 (bI r1)) 0 8 (bI r2)) 0 6 = nI W := by rw [hu]; exact w3
  generalize si (si t 0 7 (bI r1)) 0 8 (bI r2) = u at hT hD1 G1 u6 ⊢
  unfold RLm
  rw [e_rnC]
  simp only [bn_as]
  obtain ⟨s2, r, t1, e1, e2, a1, a2, hr⟩ := lex hT
  rw [e1, e2]
  simp only [bn_so]
  rcases hr with ⟨rfl, b1, p1, tok1, k1, k2⟩ | ⟨rfl, hF⟩
  · rw [if_neg (show ¬ (1 : Int32) = 0 by decide), k2.1.2.2.2.2.1, if_pos le0]
    unfold f_X6_readLineOf f_X6_readWind
    rw [if_pos (show (4 : Int32) = 4 from rfl)]
    obtain ⟨s3, r3, t2, v, f1, f2, f3, f4, hr3⟩ := chk (lo := 0) (hi := 4) k2
    rw [f1, f2]
    simp only [bn_so]
    rcases hr3 with ⟨rfl, rfl, rfl, q1, q2, q3⟩ | ⟨rfl, rfl, hF⟩
    · obtain ⟨k, hk, rfl⟩ := ck_n (N := 4) rfl ⟨q2, q3⟩
      have s9 : gi s3 47 9 = nI W := by rw [a1.1 _ _ (by unfold LXc; omega)]; exact w2
      have t6 : gi t2 0 6 = nI W := by rw [a2.1 _ _ (by unfold LXm; omega)]; exact u6
      rw [if_neg (show ¬ (1 : Int32) = 0 by decide), q1, s9, t6]
      simp only [nmi]
      rw [bt_get W (by omega) k (by omega)]
      cases hbk : W.testBit k
      · rw [if_neg (show ¬ bI false = 1 by decide), if_pos (show bI false = 0 from rfl), bt_set W (by omega) k (by omega)]
        unfold fj_X6_readWind_j24
        rw [e_needs1]
        simp only [bn_so, nms]
        rw [t6, bt_set W (by omega) k (by omega), e_rnC]
        have hW2 : W ||| 2 ^ k < 32 := Nat.or_lt_two_pow (n := 5) w1 (Nat.pow_lt_pow_right (by omega) (by omega))
        have hT2 : TB (si s3 47 9 (nI (W ||| 2 ^ k))) (si t2 0 6 (nI (W ||| 2 ^ k))) L p1 := k2.1.frm (fun x y z => by rw [gi_si, if_neg (by omega)]) (fun x y z => by rw [gi_si, if_neg (by omega)])
        have hD2 := (hD1.lx a1 a2).w9 hW2
        have F2 : eqC LFc s (si s3 47 9 (nI (W ||| 2 ^ k))) := (a1.mono lxc).si (Or.inr ⟨rfl, by omega⟩)
        have G2 : eqC LFm t (si t2 0 6 (nI (W ||| 2 ^ k))) := (G1.tr (a2.mono lxm)).si (Or.inr ⟨rfl, by omega⟩)
        generalize si s3 47 9 (nI (W ||| 2 ^ k)) = s4 at hT2 hD2 F2 ⊢
        generalize si t2 0 6 (nI (W ||| 2 ^ k)) = t3 at hT2 hD2 G2 ⊢
        obtain ⟨s5, r5, t4, e3, e4, a3, a4, hr5⟩ := lex hT2
        rw [e3, e4]
        simp only [bn_so]
        rcases hr5 with ⟨rfl, b2, p2, tok2, k3, k4⟩ | ⟨rfl, hF⟩
        · rw [if_neg (show ¬ (1 : Int32) = 0 by decide)]
          obtain ⟨s6, r6, t5, x, f5, f6, f7, f8, hr6⟩ := chk (lo := 0) (hi := 8) k4
          rw [f5, show f_X6_readNumber 0 8 t4 = bn (f_X6_looked 0 8 t4) (fun s1 r2 => bn (f_X6_takes s1) (fun s4 r5 => some (s4, r2))) from rfl, f6]
          simp only [bn_so]
          have g28 : ∀ {β : Type} (z : Option β), gd (28 + nI k) 63 z = z := fun z => by rw [ix28, gd_n (by omega) (by omega)]
          have t28 : (28 + nI k).toNatClampNeg = 28 + k := by rw [ix28, tn_nI (by omega)]
          rcases hr6 with ⟨rfl, rfl, rfl, q4, q5, q6⟩ | ⟨rfl, rfl, hF⟩
          · rw [if_neg (show ¬ (1 : Int32) = 0 by decide), q4, gd_n (show k < 5 by omega) (by omega), tn_nI (show k < 2147483648 by omega)]
            simp only [bn_as, g28, nms, bn_so, t28]
            refine close (s0 := s) (t0 := t) (b := b) (n' := n) (p := p2) (K := fun s a => bn (gz a (some (s, a))) K2) ?_ (fun s => K3_0 s) (fun s => K3_1 s) (fun t => si t 4 (28 + k) x) (fun t' x y z => by rw [gi_si, if_neg (by omega)]) (fun s' t' z1 z2 => ?_) (fun t' z => ?_) ?_ (by have := k2.2.1; have := k4.2.1; omega)
            · exact k4.1.frm (fun x y z => gi_nk (by omega)) (fun _ _ _ => rfl)
            · exact ((hD2.lx a3 a4).wind (by omega) (rg_ck rfl rfl ⟨q5, q6⟩)).ag (agD.lc z1) ((agD.lm z2).si 4 (28 + k) x)
            · exact ((G2.tr (a4.mono lxm)).tr (z.mono lxm)).si (Or.inl rfl)
            · exact (F2.tr (a3.mono lxc)).si (Or.inl (by omega))
          · rw [if_pos (show (0 : Int32) = 0 from rfl), e_takesF hF.2.1]
            simp only [bn_so, g28, nms, t28]
            rw [tail_F (by rw [gi_nk (by omega)]; exact hF.2.1)]
            exact E2_ret ⟨(F2.tr (a3.mono lxc)).tr (f7.mono lxc), ((G2.tr (a4.mono lxm)).tr (f8.mono lxm)).si (Or.inl rfl), Or.inr ⟨rfl, hF.frm rfl rfl (gi_nk (by omega)) (gi_nk (by omega))⟩⟩
        · rw [if_pos (show (0 : Int32) = 0 from rfl), e_rnF hF.2.1]
          simp only [bn_so]
          rw [ix28, gd_n (show 28 + k < 63 by omega) (by omega), tn_nI (by omega)]
          simp only [nms, bn_so]
          rw [tail_F (by rw [gi_nk (by omega)]; exact hF.2.1)]
          exact E2_ret ⟨F2.tr (a3.mono lxc), (G2.tr (a4.mono lxm)).si (Or.inl rfl), Or.inr ⟨rfl, hF.frm rfl rfl (gi_nk (by omega)) (gi_nk (by omega))⟩⟩
      · rw [if_pos (show bI true = 1 from rfl), if_neg (show ¬ bI true = 0 by decide), e_fail]
        have hF := FT.mk k2 (cd := 4) (by decide)
        have ej : ∃ x, fj_X6_readWind_j24 (nI k) 0 t2 = some (si (si (si (si t2 0 15 4) 0 16 (gi t2 0 12)) 0 6 x) 4 (28 + k) 0, ()) := by
          obtain ⟨x, ex⟩ := j24_F (y := 1) hk hF.2.1
          refine ⟨x, ?_⟩
          rw [← ex]
          unfold fj_X6_readWind_j24
          rw [e_needs0 4 k2.1.2.2.2.2.1, e_needs1]
        obtain ⟨x, ex⟩ := ej
        rw [ex]
        simp only [bn_so]
        rw [tail_F (by rw [gi_nk (by omega), gi_nj (by omega)]; exact hF.2.1)]
        exact E2_ret ⟨(a1.mono lxc).tr frc2, ((((G1.tr (a2.mono lxm)).si (Or.inr ⟨rfl, by omega⟩)).si (Or.inr ⟨rfl, by omega⟩)).si (Or.inr ⟨rfl, by omega⟩)).si (Or.inl rfl), Or.inr ⟨rfl, hF.frm rfl rfl (by rw [gi_nk (by omega), gi_nj (by omega)]) (by rw [gi_nk (by omega), gi_nj (by omega)])⟩⟩
    · rw [if_pos (show (0 : Int32) = 0 from rfl)]
      have ej : ∃ x, (if ((gi t2 0 6 >>> ((0 : Int32) &&& 31)) &&& 1) = 0 then fj_X6_readWind_j24 0 1 t2 else fj_X6_readWind_j24 0 0 t2) = some (si (si t2 0 6 x) 4 (28 + 0) 0, ()) := by
        by_cases z : ((gi t2 0 6 >>> ((0 : Int32) &&& 31)) &&& 1) = 0
        · rw [if_pos z]; exact j24_F (k := 0) (by omega) hF.2.1
        · rw [if_neg z]; exact j24_F (k := 0) (by omega) hF.2.1
      obtain ⟨x, ex⟩ := ej
      rw [ex]
      simp only [bn_so]
      rw [tail_F (by rw [gi_nk (by omega), gi_nj (by omega)]; exact hF.2.1)]
      exact E2_ret ⟨(a1.mono lxc).tr (f3.mono lxc), (((G1.tr (a2.mono lxm)).tr (f4.mono lxm)).si (Or.inr ⟨rfl, by omega⟩)).si (Or.inl rfl), Or.inr ⟨rfl, hF.frm rfl rfl (by rw [gi_nk (by omega), gi_nj (by omega)]) (by rw [gi_nk (by omega), gi_nj (by omega)])⟩⟩
  · rw [if_pos (show (0 : Int32) = 0 from rfl), if_neg (nz hF.2.1).2]
    exact E2_ret ⟨a1.mono lxc, G1.tr (a2.mono lxm), Or.inr ⟨rfl, hF⟩⟩
