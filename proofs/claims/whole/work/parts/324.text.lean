/-! the text: things, lines, the whole -/
def K4 (s : StA) (r : Int32) : Option (StA × Int32) := bn (if r = 0 then some (s, (0 : Int32)) else some (s, 1)) K2
theorem K4_0 (s : StA) : K4 s 0 = some (s, 0) := rfl
theorem K4_1 (s : StA) : K4 s 1 = f_X3_nextToken s := by
  unfold K4
  rw [if_neg (show ¬ (1 : Int32) = 0 by decide)]
  exact K2_1 s
/-- a thing that is at fault -/
theorem th_F {t : StA} {n : Nat} {r : Int32} (h : 0 < (gi t 0 15).toInt) : 0 < (gi (si t 4 n r) 0 15).toInt := by
  rw [gi_nk (by omega)]; exact h
theorem thing_line {s t : StA} {L b p n k : Nat} {tok : Int32} (hk : k < 4) (h : TK s t L b p tok) (hb : b < p) (hD : DR s t n) : E2 (bn (f_X3_readThing 12 (nI k) s) K2) (fj_X6_readLine_j17 (nI k) t) (LnP s t L b) := by
  obtain ⟨n6, d5, d6, -, -, -, -, -, -, -, -, -, ⟨r1, d1, d2⟩, ⟨r2, d3, d4⟩⟩ := id hD
  have h15 : gi t 0 15 = 0 := h.1.2.2.2.2.1
  unfold f_X3_readThing
  rw [d5]
  by_cases hn : n = 6
  · subst hn
    rw [if_neg (show ¬ nI 6 < 6 by decide), e_fail]
    obtain ⟨y, z, e⟩ := j17_full hk h15 d6
    rw [e]
    exact E2_ret ⟨frc2, frm4, Or.inr ⟨rfl, FT.mk4 h (by decide)⟩⟩
  have hn6 : n < 6 := by omega
  rw [if_pos (show nI n < 6 by rw [show (6 : Int32) = nI 6 from rfl, nI_lt' (by omega) (by omega)]; omega), j17_thing hk d6 hn6 d2 d4]
  have hu := same78 d2 d4
  have hT : TB s (si (si t 0 7 (bI r1)) 0 8 (bI r2)) L p := h.1.frm (fun _ _ _ => rfl) (fun x y z => hu x y)
  have hD1 : DR s (si (si t 0 7 (bI r1)) 0 8 (bI r2)) n := hD.frm (fun _ _ _ => rfl) (fun x y z => hu x y)
  have G1 : eqC LFm t (si (si t 0 7 (bI r1)) 0 8 (bI r2)) := ((eqC.rf t).si (Or.inr ⟨rfl, by omega⟩)).si (Or.inr ⟨rfl, by omega⟩)
  generalize si (si t 0 7 (bI r1)) 0 8 (bI r2) = u at hT hD1 G1 ⊢
  rw [show f_X5_leastOf 1 s = some (s, 1) from rfl]
  simp only [bn_so]
  rw [show f_X5_greatestOf 1 s = some (s, 9) from rfl]
  simp only [bn_so]
  unfold RLm
  rw [e_rnC]
  simp only [bn_as]
  obtain ⟨s2, r, t1, e1, e2, a1, a2, hr⟩ := lex hT
  rw [e1, e2]
  simp only [bn_so]
  have k4 : ¬ nI k = 4 := by rw [show (4 : Int32) = nI 4 from rfl, nI_eq' (by omega) (by omega)]; omega
  have k5 : ¬ nI k = 5 := by rw [show (5 : Int32) = nI 5 from rfl, nI_eq' (by omega) (by omega)]; omega
  have k6 : ¬ nI k = 6 := by rw [show (6 : Int32) = nI 6 from rfl, nI_eq' (by omega) (by omega)]; omega
  have ix : ∀ j, j < 4 → 4 * nI n + nI j = nI (4 * n + j) := fun j hj => ix4 (by omega) (by omega)
  have ix0 : 4 * nI n + 0 = nI (4 * n + 0) := ix 0 (by omega)
  have ix1 : 4 * nI n + 1 = nI (4 * n + 1) := ix 1 (by omega)
  have ix2 : 4 * nI n + 2 = nI (4 * n + 2) := ix 2 (by omega)
  have gg : ∀ j, j < 4 → ∀ {β : Type} (z : Option β), gd (nI (4 * n + j)) 63 z = z := fun j hj _ z => gd_n (by omega) (by omega)
  have tt : ∀ j, j < 4 → (nI (4 * n + j)).toNatClampNeg = 4 * n + j := fun j hj => tn_nI (by omega)
  rcases hr with ⟨rfl, b1, p1, tok1, k1, k2⟩ | ⟨rfl, hF⟩
  · rw [if_neg (show ¬ (1 : Int32) = 0 by decide), k2.1.2.2.2.2.1, if_pos le0]
    have t5 : gi t1 0 5 = nI n := by rw [a2.1 _ _ (by unfold LXm; omega)]; exact hD1.2.2.1
    unfold f_X6_readLineOf
    rw [if_neg k4, if_neg k5, if_neg k6, t5, ix0, gg 0 (by omega), tt 0 (by omega), Nat.add_zero]
    simp only [nms]
    have k3 : TK s2 (si t1 4 (4 * n) (nI k)) L b1 p1 tok1 := k2.frm (fun _ _ _ => rfl) (fun x y z => gi_nk (by omega))
    have G2 : eqC LFm t (si t1 4 (4 * n) (nI k)) := (G1.tr (a2.mono lxm)).si (Or.inl rfl)
    have m2 : agD Cm (si u 4 (4 * n) (nI k)) (si t1 4 (4 * n) (nI k)) := (agD.lm a2).si _ _ _
    have t5a : gi (si t1 4 (4 * n) (nI k)) 0 5 = nI n := by rw [gi_nk (by omega)]; exact t5
    generalize si t1 4 (4 * n) (nI k) = t2 at k3 G2 m2 t5a ⊢
    obtain ⟨s3, r3, t3, v, f1, f2, f3, f4, hr3⟩ := chk (lo := 1) (hi := 9) k3
    rw [f1, show f_X6_readNumber 1 9 t2 = bn (f_X6_looked 1 9 t2) (fun s1 r2 => bn (f_X6_takes s1) (fun s4 r5 => some (s4, r2))) from rfl, f2]
    simp only [bn_so]
    rw [t5a, ix1]
    rcases hr3 with ⟨rfl, rfl, rfl, q1, q2, q3⟩ | ⟨rfl, rfl, hF⟩
    · rw [if_neg (show ¬ (1 : Int32) = 0 by decide), q1]
      simp only [nmi]
      rw [show f_X5_leastOf 2 s3 = some (s3, 0) from rfl]
      simp only [bn_so]
      rw [show f_X5_greatestOf 2 s3 = some (s3, 1) from rfl]
      simp only [bn_so]
      rw [e_rnC]
      obtain ⟨s4, r4, t4, e3, e4, a3, a4, hr4⟩ := lex k3.1
      rw [e3, e4]
      simp only [bn_so]
      rw [gg 1 (by omega), tt 1 (by omega)]
      rcases hr4 with ⟨rfl, b2, p2, tok2, k7, k8⟩ | ⟨rfl, hF⟩
      · rw [if_neg (show ¬ (1 : Int32) = 0 by decide)]
        have k9 : TK s4 (si t4 4 (4 * n + 1) v) L b2 p2 tok2 := k8.frm (fun _ _ _ => rfl) (fun x y z => gi_nk (by omega))
        have G3 : eqC LFm t (si t4 4 (4 * n + 1) v) := (G2.tr (a4.mono lxm)).si (Or.inl rfl)
        have m3 : agD Cm (si (si u 4 (4 * n) (nI k)) 4 (4 * n + 1) v) (si t4 4 (4 * n + 1) v) := (m2.tr (agD.lm a4)).si _ _ _
        have t5b : gi (si t4 4 (4 * n + 1) v) 0 5 = nI n := by rw [gi_nk (by omega), a4.1 _ _ (by unfold LXm; omega)]; exact t5a
        generalize si t4 4 (4 * n + 1) v = t5' at k9 G3 m3 t5b ⊢
        obtain ⟨s5, r5, t6, w, f5, f6, f7, f8, hr5⟩ := chk (lo := 0) (hi := 1) k9
        rw [f5, show f_X6_readNumber 0 1 t5' = bn (f_X6_looked 0 1 t5') (fun s1 r2 => bn (f_X6_takes s1) (fun s4 r5 => some (s4, r2))) from rfl, f6]
        simp only [bn_so]
        rw [t5b, ix2]
        rcases hr5 with ⟨rfl, rfl, rfl, q4, q5, q6⟩ | ⟨rfl, rfl, hF⟩
        · rw [if_neg (show ¬ (1 : Int32) = 0 by decide), q4]
          have s6 : gi s5 12 6 = nI n := by rw [a3.1 _ _ (by unfold LXc; omega), a1.1 _ _ (by unfold LXc; omega)]; exact d5
          have eA : f_X1_addThing 12 (nI k) v w s5 = some (si (si (si (si s5 13 n (nI k)) 14 n v) 15 n w) 12 6 (nI (n + 1)), 1) := by
            unfold f_X1_addThing
            rw [s6, if_pos (show nI n < 6 by rw [show (6 : Int32) = nI 6 from rfl, nI_lt' (by omega) (by omega)]; omega), gd_n hn6 (by omega), tn_nI (by omega)]
            simp only [nms]
            rw [gi_nk (by omega), s6, gd_n hn6 (by omega), tn_nI (by omega), gi_nk (by omega), gi_nk (by omega), s6, gd_n hn6 (by omega), tn_nI (by omega), gi_nk (by omega), gi_nk (by omega), gi_nk (by omega), s6, nI_1]
          rw [eA]
          simp only [bn_so]
          rw [if_neg (show ¬ (1 : Int32) = 0 by decide)]
          simp only [bn_as, gg 2 (by omega), nms, bn_so, tt 2 (by omega)]
          refine close (s0 := s) (t0 := t) (b := b) (n' := n + 1) (p := p2) (K := K4) ?_ K4_0 K4_1 (fun t => si (si t 4 (4 * n + 2) w) 0 5 (gi (si t 4 (4 * n + 2) w) 0 5 + 1)) (fun t' x y z => by rw [gi_si, if_neg (by omega), gi_si, if_neg (by omega)]) (fun s' t' z1 z2 => ?_) (fun t' z => ?_) ?_ (by have := k2.2.1; have := k8.2.1; omega)
          · exact k9.1.frm (fun x y z => by rw [gi_nk (by omega), gi_nk (by omega), gi_nk (by omega), gi_nk (by omega)]) (fun _ _ _ => rfl)
          · have z5 : gi t' 0 5 = nI n := by rw [z2.1 _ _ (by unfold LXm; omega)]; exact t5b
            rw [gi_nk (by omega), z5, nI_1]
            refine (hD1.thing hn6 (k := nI k) (w := v) (v := w) (by unfold rg; rw [ti_nI (by omega)]; omega) (rg_ck rfl rfl ⟨q2, q3⟩) (rg_ck rfl rfl ⟨q5, q6⟩)).ag ?_ ?_
            · exact (((((((agD.lc a1).tr (agD.lc a3)).si 13 n (nI k)).si 14 n v).si 15 n w).si 12 6 (nI (n + 1)))).tr (agD.lc z1)
            · exact ((m3.tr (agD.lm z2)).si 4 (4 * n + 2) w).si 0 5 (nI (n + 1))
          · exact ((G3.tr (z.mono lxm)).si (Or.inl rfl)).si (Or.inr ⟨rfl, by omega⟩)
          · exact (((((a1.mono lxc).tr (a3.mono lxc)).si (Or.inl (by omega))).si (Or.inl (by omega))).si (Or.inl (by omega))).si (Or.inl (by omega))
        · rw [if_pos (show (0 : Int32) = 0 from rfl), e_takesF hF.2.1]
          simp only [bn_so, gg 2 (by omega), nms, tt 2 (by omega)]
          rw [tail_F (by rw [gi_nj (by omega), gi_nk (by omega)]; exact hF.2.1)]
          exact E2_ret ⟨((a1.mono lxc).tr (a3.mono lxc)).tr (f7.mono lxc), ((G3.tr (f8.mono lxm)).si (Or.inl rfl)).si (Or.inr ⟨rfl, by omega⟩), Or.inr ⟨rfl, hF.frm rfl rfl (by rw [gi_nj (by omega), gi_nk (by omega)]) (by rw [gi_nj (by omega), gi_nk (by omega)])⟩⟩
      · rw [if_pos (show (0 : Int32) = 0 from rfl), e_rnF (th_F hF.2.1)]
        simp only [bn_so]
        rw [gi_nk (by omega), a4.1 _ _ (by unfold LXm; omega), t5a, ix2, gg 2 (by omega), tt 2 (by omega)]
        simp only [bn_so]
        rw [tail_F (by rw [gi_nj (by omega), gi_nk (by omega), gi_nk (by omega)]; exact hF.2.1)]
        exact E2_ret ⟨(a1.mono lxc).tr (a3.mono lxc), (((G2.tr (a4.mono lxm)).si (Or.inl rfl)).si (Or.inl rfl)).si (Or.inr ⟨rfl, by omega⟩), Or.inr ⟨rfl, hF.frm rfl rfl (by rw [gi_nj (by omega), gi_nk (by omega), gi_nk (by omega)]) (by rw [gi_nj (by omega), gi_nk (by omega), gi_nk (by omega)])⟩⟩
    · rw [if_pos (show (0 : Int32) = 0 from rfl), e_takesF hF.2.1]
      simp only [bn_so]
      rw [gg 1 (by omega), tt 1 (by omega), e_rnF (th_F hF.2.1)]
      simp only [bn_so]
      rw [gi_nk (by omega), f4.1 _ _ (by unfold LXm; omega), t5a, ix2, gg 2 (by omega), tt 2 (by omega)]
      simp only [bn_so]
      rw [tail_F (by rw [gi_nj (by omega), gi_nk (by omega), gi_nk (by omega)]; exact hF.2.1)]
      exact E2_ret ⟨(a1.mono lxc).tr (f3.mono lxc), (((G2.tr (f4.mono lxm)).si (Or.inl rfl)).si (Or.inl rfl)).si (Or.inr ⟨rfl, by omega⟩), Or.inr ⟨rfl, hF.frm rfl rfl (by rw [gi_nj (by omega), gi_nk (by omega), gi_nk (by omega)]) (by rw [gi_nj (by omega), gi_nk (by omega), gi_nk (by omega)])⟩⟩
  · rw [if_pos (show (0 : Int32) = 0 from rfl), if_neg (nz hF.2.1).2]
    exact E2_ret ⟨a1.mono lxc, G1.tr (a2.mono lxm), Or.inr ⟨rfl, hF⟩⟩
theorem line_rel {s t : StA} {L b p n : Nat} {tok : Int32} (h : TK s t L b p tok) (h0 : ¬ tok = 0) (hD : DR s t n) : E2 (bn (f_X3_readLine 12 s) cont) (f_X6_readLine t) (LnP s t L b) := by
  obtain ⟨h1, h2, h3, h4, h5, h6, h7, h8⟩ := id h
  have hb := h8 h0
  have h15 : gi t 0 15 = 0 := h1.2.2.2.2.1
  have bad : ∀ y : Int32, y = 7 → E2 (bn (fj_X3_readLine_j17 12 y s) cont) (fj_X6_readLine_j17 (-4) t) (LnP s t L b) := by
    rintro _ rfl
    obtain ⟨y, z, e⟩ := j17_none h15
    rw [e]
    unfold fj_X3_readLine_j17
    rw [if_neg (show ¬ (7 : Int32) = 0 by decide), if_neg (show ¬ (7 : Int32) = 1 by decide), if_neg (show ¬ (7 : Int32) = 2 by decide), if_neg (show ¬ (7 : Int32) = 3 by decide), if_neg (show ¬ (7 : Int32) = 4 by decide), if_neg (show ¬ (7 : Int32) = 5 by decide), if_neg (show ¬ (7 : Int32) = 6 by decide), e_fail]
    exact E2_ret ⟨frc2, frm4, Or.inr ⟨rfl, FT.mk4 h (by decide)⟩⟩
  unfold f_X3_readLine f_X6_readLine
  rw [h5, h6]
  by_cases e1 : tok = 1
  · subst e1
    rw [if_pos rfl, if_pos rfl]
    obtain ⟨k, hk, ek, em⟩ := line_now h
    rw [ek, em]
    simp only [bn_so]
    rcases (show k = 0 ∨ k = 1 ∨ k = 2 ∨ k = 3 ∨ k = 4 ∨ k = 5 ∨ k = 6 ∨ k = 7 by omega) with rfl | rfl | rfl | rfl | rfl | rfl | rfl | rfl
    · rw [if_neg (by omega)]
      unfold fj_X3_readLine_j17
      rw [if_pos (show nI 0 = 0 from rfl), bn_as]
      exact thing_line (k := 0) (by omega) h hb hD
    · rw [if_neg (by omega)]
      unfold fj_X3_readLine_j17
      rw [if_neg (show ¬ nI 1 = 0 by decide), if_pos (show nI 1 = 1 from rfl), bn_as]
      exact thing_line (k := 1) (by omega) h hb hD
    · rw [if_neg (by omega)]
      unfold fj_X3_readLine_j17
      rw [if_neg (show ¬ nI 2 = 0 by decide), if_neg (show ¬ nI 2 = 1 by decide), if_pos (show nI 2 = 2 from rfl), bn_as]
      exact thing_line (k := 2) (by omega) h hb hD
    · rw [if_neg (by omega)]
      unfold fj_X3_readLine_j17
      rw [if_neg (show ¬ nI 3 = 0 by decide), if_neg (show ¬ nI 3 = 1 by decide), if_neg (show ¬ nI 3 = 2 by decide), if_pos (show nI 3 = 3 from rfl), bn_as]
      exact thing_line (k := 3) (by omega) h hb hD
    · rw [if_neg (by omega)]
      unfold fj_X3_readLine_j17
      rw [if_neg (show ¬ nI 4 = 0 by decide), if_neg (show ¬ nI 4 = 1 by decide), if_neg (show ¬ nI 4 = 2 by decide), if_neg (show ¬ nI 4 = 3 by decide), if_pos (show nI 4 = 4 from rfl), bn_as]
      exact wind_line h hb hD
    · rw [if_neg (by omega)]
      unfold fj_X3_readLine_j17
      rw [if_neg (show ¬ nI 5 = 0 by decide), if_neg (show ¬ nI 5 = 1 by decide), if_neg (show ¬ nI 5 = 2 by decide), if_neg (show ¬ nI 5 = 3 by decide), if_neg (show ¬ nI 5 = 4 by decide), if_pos (show nI 5 = 5 from rfl), bn_as]
      exact rate_rel h hb hD
    · rw [if_neg (by omega)]
      unfold fj_X3_readLine_j17
      rw [if_neg (show ¬ nI 6 = 0 by decide), if_neg (show ¬ nI 6 = 1 by decide), if_neg (show ¬ nI 6 = 2 by decide), if_neg (show ¬ nI 6 = 3 by decide), if_neg (show ¬ nI 6 = 4 by decide), if_neg (show ¬ nI 6 = 5 by decide), if_pos (show nI 6 = 6 from rfl), bn_as]
      exact start_line h hb hD
    · rw [if_pos rfl]
      exact bad _ rfl
  · rw [if_neg e1, if_neg e1]
    exact bad _ rfl
/-! the tape is told -/
def XFc : Nat → Nat → Prop := fun x _ => (12 ≤ x ∧ x ≤ 22) ∨ x = 47
def XFm : Nat → Nat → Prop := fun x y => x = 4 ∨ (x = 0 ∧ y ≠ 3 ∧ y ≠ 32)
theorem e_clear (c : StA) : Ev (f_X1_clear 12 c) (fun c' _ => gi c' 12 6 = 0 ∧ gi c' 12 7 = 0 ∧ gi c' 12 8 = 0 ∧ gi c' 12 9 = 0 ∧ gi c' 12 10 = 1 ∧ gi c' 12 11 = 0 ∧ (∀ j, j < 5 → gi c' 16 j = 4) ∧ gi c' 17 2 = 0 ∧ gi c' 20 2 = 0 ∧ eqC (fun x _ => 12 ≤ x ∧ x ≤ 22) c c') := by
  unfold f_X1_clear
  simp only [nms]
  refine Ev_bn (Ev_mono (e_fill (k := 12 + 4) (N := 5) 4 (by omega) _) ?_)
  rintro c1 _ ⟨a1, a2⟩
  refine Ev_ret ?_
  have k12 : ∀ j, gi (si (si c1 (12 + 5) 2 0) (12 + 8) 2 0) 12 j = gi (si (si (si (si (si (si c 12 6 0) 12 7 0) 12 8 0) 12 9 0) 12 10 1) 12 11 0) 12 j := fun j => by rw [gi_nk (by omega), gi_nk (by omega), a2.1 _ _ (by omega)]
  refine ⟨?_, ?_, ?_, ?_, ?_, ?_, fun j hj => ?_, ?_, ?_, ?_⟩
  · rw [k12, gi_nj (by omega), gi_nj (by omega), gi_nj (by omega), gi_nj (by omega), gi_nj (by omega), gi_at]
  · rw [k12, gi_nj (by omega), gi_nj (by omega), gi_nj (by omega), gi_nj (by omega), gi_at]
  · rw [k12, gi_nj (by omega), gi_nj (by omega), gi_nj (by omega), gi_at]
  · rw [k12, gi_nj (by omega), gi_nj (by omega), gi_at]
  · rw [k12, gi_nj (by omega), gi_at]
  · rw [k12, gi_at]
  · rw [gi_nk (by omega), gi_nk (by omega)]; exact a1 j hj
  · rw [gi_nk (by omega)]; exact gi_at _ _ _ _
  · exact gi_at _ _ _ _
  · exact ((((((((eqC.rf c).si (by omega)).si (by omega)).si (by omega)).si (by omega)).si (by omega)).si (by omega)).tr (a2.mono (fun x y z => by omega))).si (by omega) |>.si (by omega)
theorem e_draft (m : StA) : Ev (f_X6_firstDraft m) (fun m' _ => (∀ j, j < 63 → gi m' 4 j = if 28 ≤ j ∧ j < 33 then 4 else if j = 26 then 1 else 0) ∧ gi m' 0 5 = 0 ∧ gi m' 0 6 = 0 ∧ gi m' 0 7 = 0 ∧ gi m' 0 8 = 0 ∧ eqC (fun x y => x = 4 ∨ (x = 0 ∧ 5 ≤ y ∧ y ≤ 8)) m m') := by
  unfold f_X6_firstDraft fl_X6_firstDraft_l2 fl_X6_firstDraft_l23
  refine Ev_bn (Ev_mono (fl_loop (A := 4) (o := 0) (N := 63) (v := 0) (by omega) (fun s i hi => ?_) (fun s => ?_) m) ?_)
  · unfold fb_X6_firstDraft_l2
    rw [if_neg (show ¬ 63 ≤ nI i by rw [show (63 : Int32) = nI 63 from rfl, nI_le' (by omega) (by omega)]; omega), gd_n hi (by omega), tn_nI (by omega), nI_1, Nat.zero_add]
    rfl
  · unfold fb_X6_firstDraft_l2
    rw [if_pos (show (63 : Int32) ≤ nI 63 by decide)]
  rintro m1 _ ⟨a1, a2⟩
  refine Ev_bn (Ev_mono (fl_loop (A := 4) (o := 28) (N := 5) (v := 4) (by omega) (fun s i hi => ?_) (fun s => ?_) m1) ?_)
  · unfold fb_X6_firstDraft_l23
    rw [if_neg (show ¬ 5 ≤ nI i by rw [show (5 : Int32) = nI 5 from rfl, nI_le' (by omega) (by omega)]; omega), ix28, gd_n (show 28 + i < 63 by omega) (by omega), tn_nI (by omega), nI_1]
    rfl
  · unfold fb_X6_firstDraft_l23
    rw [if_pos (show (5 : Int32) ≤ nI 5 by decide)]
  rintro m2 _ ⟨b1, b2⟩
  rw [g26, t26]
  simp only [nms]
  refine Ev_ret ⟨fun j hj => ?_, ?_, ?_, ?_, ?_, ?_⟩
  · rw [gi_nk (by omega), gi_nk (by omega), gi_nk (by omega), gi_nk (by omega), gi_si]
    by_cases e : j = 26
    · rw [if_pos ⟨rfl, e⟩, if_neg (by omega), if_pos e]
    · rw [if_neg (by omega), if_neg e]
      by_cases e2 : 28 ≤ j ∧ j < 33
      · rw [if_pos e2]
        have := b1 (j - 28) (by omega)
        rw [show 28 + (j - 28) = j by omega] at this
        exact this
      · rw [if_neg e2, b2.1 _ _ (by omega)]
        have := a1 j hj
        rw [Nat.zero_add] at this
        exact this
  · rw [gi_nj (by omega), gi_nj (by omega), gi_nj (by omega), gi_at]
  · rw [gi_nj (by omega), gi_nj (by omega), gi_at]
  · rw [gi_nj (by omega), gi_at]
  · exact gi_at _ _ _ _
  · exact (((((((a2.mono (fun x y z => Or.inl z.1)).tr (b2.mono (fun x y z => Or.inl z.1))).si (Or.inl rfl)).si (Or.inr (by omega))).si (Or.inr (by omega))).si (Or.inr (by omega))).si (Or.inr (by omega)))
theorem tell_rel {c m : StA} (h : Rtp c m) : E2 (f_X3_tell 12 c) (f_X6_text m) (fun s r t r' => r = r' ∧ (r.toInt < 0 → gi s 47 2 = 0 ∧ gi t 0 10 = 0 ∧ gi s 47 3 = gi t 0 15 ∧ eqC XFc c s ∧ eqC XFm m t) ∧ (0 ≤ r.toInt → ∃ t1 n' L, L ≤ 160 ∧ f_X6_keepDraft t1 = some (t, ()) ∧ DR s t1 n' ∧ gi s 47 2 = 0 ∧ gi t1 0 10 = 0 ∧ gi s 47 3 = gi t1 0 15 ∧ eqC XFc c s ∧ eqC XFm m t1)) := by
  obtain ⟨L, hL, l1, l2, l3⟩ := h
  unfold f_X3_tell f_X6_text
  simp only [nms]
  refine E2_lb (Ev_mono (e_clear c) ?_)
  rintro c1 _ ⟨q6, q7, q8, q9, q10, q11, qw, qp, qs, qf⟩
  unfold f_X3_begin
  simp only [nms, bn_so]
  refine E2_rb (Ev_mono (e_draft (si (si m 0 15 0) 0 11 0)) ?_)
  rintro m1 _ ⟨w1, w5, w6, w7, w8, wf⟩
  have kc : ∀ x y, x ≠ 47 → gi (si (si (si (si (si (si c1 47 3 0) 47 4 0) 47 5 0) 47 9 0) 47 10 0) 47 11 0) x y = gi c1 x y := fun x y z => by rw [gi_nk z, gi_nk z, gi_nk z, gi_nk z, gi_nk z, gi_nk z]
  have F0 : eqC XFc c (si (si (si (si (si (si c1 47 3 0) 47 4 0) 47 5 0) 47 9 0) 47 10 0) 47 11 0) := ((((((qf.mono (D' := XFc) (fun x y z => Or.inl z)).si (Or.inr rfl)).si (Or.inr rfl)).si (Or.inr rfl)).si (Or.inr rfl)).si (Or.inr rfl)).si (Or.inr rfl)
  have G0 : eqC XFm m m1 := (((eqC.rf m).si (Or.inr ⟨rfl, by omega, by omega⟩)).si (Or.inr ⟨rfl, by omega, by omega⟩)).tr (wf.mono (fun x y z => by unfold XFm; omega))
  have hTB : TB (si (si (si (si (si (si c1 47 3 0) 47 4 0) 47 5 0) 47 9 0) 47 10 0) 47 11 0) m1 L 0 := by
    refine ⟨⟨hL, ?_, ?_, fun j hj => ?_⟩, by omega, ?_, ?_, ?_, ?_⟩
    · rw [gi_nj (by omega), gi_nj (by omega), gi_nj (by omega), gi_nj (by omega), gi_nj (by omega), gi_nj (by omega), qf.1 _ _ (by omega)]; exact l1
    · rw [wf.1 _ _ (by omega), gi_nj (by omega), gi_nj (by omega)]; exact l2
    · rw [kc _ _ (by omega), kc _ _ (by omega), qf.1 _ _ (by omega), qf.1 _ _ (by omega), wf.1 _ _ (by omega), gi_nk (by omega), gi_nk (by omega)]
      exact l3 j hj
    · rw [gi_nj (by omega), gi_nj (by omega), gi_nj (by omega), gi_at]; rfl
    · rw [wf.1 _ _ (by omega), gi_at]; rfl
    · rw [wf.1 _ _ (by omega), gi_nj (by omega), gi_at]
    · rw [gi_nj (by omega), gi_nj (by omega), gi_nj (by omega), gi_nj (by omega), gi_nj (by omega), gi_at]
  have hDR : DR (si (si (si (si (si (si c1 47 3 0) 47 4 0) 47 5 0) 47 9 0) 47 10 0) 47 11 0) m1 0 := by
    refine ⟨by omega, by rw [kc _ _ (by omega)]; exact q6, w5, fun i hi => absurd hi (by omega), by rw [kc _ _ (by omega)]; exact q7, fun i hi => ?_, ⟨?_, ?_, ?_, ?_, ?_, ?_, ?_, ?_⟩, by rw [kc _ _ (by omega)]; exact q11, fun j hj => ?_, ⟨by rw [kc _ _ (by omega)]; exact qp, ?_⟩, ⟨by rw [kc _ _ (by omega)]; exact qs, ?_⟩, ⟨0, by omega, ?_, w6⟩, ⟨false, ?_, w7⟩, ⟨false, ?_, w8⟩⟩
    · rw [w1 _ (by omega), if_neg (by omega), if_neg (by omega)]
    · rw [kc _ _ (by omega), q8, w1 _ (by omega)]; rfl
    · rw [kc _ _ (by omega), q8]; exact ⟨by decide, by decide⟩
    · rw [kc _ _ (by omega), q9, w1 _ (by omega)]; rfl
    · rw [kc _ _ (by omega), q9]; exact ⟨by decide, by decide⟩
    · rw [kc _ _ (by omega), q10, w1 _ (by omega)]; rfl
    · rw [kc _ _ (by omega), q10]; exact ⟨by decide, by decide⟩
    · rw [kc _ _ (by omega), q11, w1 _ (by omega)]; rfl
    · rw [kc _ _ (by omega), q11]; exact ⟨by decide, by decide⟩
    · rw [kc _ _ (by omega), w1 _ (by omega), if_pos (by omega), qw j hj]
      exact ⟨rfl, by decide, by decide⟩
    · rw [w1 _ (by omega)]; rfl
    · rw [w1 _ (by omega)]; rfl
    · rw [gi_nj (by omega), gi_nj (by omega), gi_at]; rfl
    · rw [gi_nj (by omega), gi_at]; rfl
    · exact gi_at _ _ _ _
  generalize (si (si (si (si (si (si c1 47 3 0) 47 4 0) 47 5 0) 47 9 0) 47 10 0) 47 11 0) = s0 at hTB hDR F0 ⊢
  obtain ⟨s1, r, t1, e1, e2, a1, a2, hr⟩ := lex hTB
  rw [e1, e2]
  simp only [bn_so]
  have xc : ∀ x y, LFc x y → XFc x y := fun x y z => by unfold LFc at z; unfold XFc; omega
  have xm : ∀ x y, LFm x y → XFm x y := fun x y z => by unfold LFm at z; unfold XFm; omega
  refine E2_bn (E2_mono (Q := fun s e t e' => eqC XFc c s ∧ eqC XFm m t ∧ ∃ v : Nat, v ≤ 160 ∧ e'  = nI v ∧ ((e = (nI v, 1) ∧ gi t 0 15 = 0 ∧ gi s 47 3 = 0 ∧ ∃ n', DR s t n') ∨ (e = (nI v, 0) ∧ FT s t))) ?_ ?_)
  · unfold fl_X3_tell_l15 fl_X6_text_l20
    refine E2_it (I := fun j s w t u => eqC XFc c s ∧ eqC XFm m t ∧ ∃ v, v ≤ 160 ∧ u = nI v ∧ ((w = (nI v, 1) ∧ ∃ b p tok n', v ≤ b ∧ 161 ≤ b + j ∧ TK s t L b p tok ∧ DR s t n') ∨ (w = (nI v, 0) ∧ FT s t))) ?_ FU FU 161 (FU_gt (by omega)) (FU_gt (by omega)) s1 (0, r) t1 0 ⟨F0.tr ((a1.mono lxc).mono xc), G0.tr ((a2.mono lxm).mono xm), 0, by omega, rfl, ?_⟩
    · rintro j s w t u ⟨g1, g2, v, hv, rfl, ⟨rfl, b, p, tok, n', k1, k2, k3, k4⟩ | ⟨rfl, hF⟩⟩
      · dsimp only
        unfold fb_X3_tell_l15 fb_X6_text_l20
        obtain ⟨y1, y2, y3, y4, y5, y6, y7, y8⟩ := id k3
        rw [if_neg (show ¬ (1 : Int32) = 0 by decide), y5, y6, y1.2.2.2.2.1, if_pos (show (0 : Int32) = 0 from rfl)]
        by_cases e0 : tok = 0
        · rw [if_pos e0, if_pos e0]
          exact E2_ret (Or.inl ⟨_, _, rfl, rfl, g1, g2, v, hv, rfl, Or.inl ⟨rfl, y1.2.2.2.2.1, y1.2.2.2.2.2, n', k4⟩⟩)
        · rw [if_neg e0, if_neg e0]
          have hbp := y8 e0
          have hpL := y1.2.1
          rw [if_neg (show ¬ 160 ≤ nI v by rw [show (160 : Int32) = nI 160 from rfl, nI_le' (by omega) (by omega)]; omega)]
          have eC : bn (f_X3_readLine 12 s) (fun s10 r11 => (if r11 = 0 then some (s10, (Sum.inl ((nI v + 1), 0) : (Int32 × Int32) ⊕ (Int32 × Int32))) else bn (f_X3_nextToken s10) (fun s13 r14 => (if r14 = 0 then some (s13, .inl ((nI v + 1), 0)) else some (s13, .inl ((nI v + 1), 1)))))) = bn (bn (f_X3_readLine 12 s) cont) (fun s r => some (s, .inl (nI v + 1, if r = 0 then 0 else 1))) := by
            rw [bn_as]
            congr 1
            funext s10 r11
            unfold cont
            by_cases z : r11 = 0
            · rw [if_pos z, if_pos z]
              rfl
            · rw [if_neg z, if_neg z]
              congr 1
              funext s13 r14
              by_cases z2 : r14 = 0
              · rw [if_pos z2, if_pos z2]
              · rw [if_neg z2, if_neg z2]
          rw [eC]
          refine E2_bn (E2_mono (line_rel k3 e0 k4) ?_)
          rintro s2 r2 t2 _ ⟨x1, x2, hx⟩
          refine E2_ret (Or.inr ⟨j - 1, _, _, by omega, rfl, rfl, g1.tr (x1.mono xc), g2.tr (x2.mono xm), v + 1, by have := y1.1.1; omega, nI_1 v, ?_⟩)
          rcases hx with ⟨rfl, b', p', tok', n2, z1, z2, z3⟩ | ⟨rfl, hF⟩
          · refine Or.inl ⟨by rw [if_neg (show ¬ (1 : Int32) = 0 by decide), nI_1], b', p', tok', n2, by omega, by omega, z2, z3⟩
          · exact Or.inr ⟨by rw [if_pos rfl, nI_1], hF⟩
      · dsimp only
        unfold fb_X3_tell_l15 fb_X6_text_l20
        rw [if_pos (show (0 : Int32) = 0 from rfl), if_neg (nz hF.2.1).1]
        exact E2_ret (Or.inl ⟨_, _, rfl, rfl, g1, g2, v, hv, rfl, Or.inr ⟨rfl, hF⟩⟩)
    · rcases hr with ⟨rfl, b, p, tok, z1, z2⟩ | ⟨rfl, hF⟩
      · exact Or.inl ⟨rfl, b, p, tok, 0, by omega, by omega, z2, hDR.lx a1 a2⟩
      · exact Or.inr ⟨rfl, hF⟩
  · rintro s e t _ ⟨g1, g2, v, hv, rfl, ⟨rfl, k1, k0, n', k2⟩ | ⟨rfl, hF⟩⟩
    · dsimp only
      unfold fj_X3_tell_j60 fj_X6_text_j44
      simp only [nms]
      rw [if_neg (show ¬ (1 : Int32) = 0 by decide), gi_nj (show (15 : Nat) ≠ 10 by omega), k1, if_pos le0]
      have hkd : Ev (f_X6_keepDraft (si t 0 10 0)) (fun _ _ => True) := by
        unfold f_X6_keepDraft fl_X6_keepDraft_l2
        refine Ev_bn (Ev_mono (cp_loop (A := 1) (B := 4) (o := 0) (p := 0) (N := 63) (by omega) (fun s i hi => ?_) (fun s => ?_) (Or.inl (by omega)) _) ?_)
        · unfold fb_X6_keepDraft_l2
          rw [if_neg (show ¬ 63 ≤ nI i by rw [show (63 : Int32) = nI 63 from rfl, nI_le' (by omega) (by omega)]; omega), gd_n (show i < 63 by omega) (by omega), gd_n (show i < 189 by omega) (by omega), tn_nI (by omega), nI_1, Nat.zero_add]
          rfl
        · unfold fb_X6_keepDraft_l2
          rw [if_pos (show (63 : Int32) ≤ nI 63 by decide)]
        · rintro x _ -
          simp only [nms]
          rw [gd_l (by decide), gd_l (by decide)]
          exact Ev_ret trivial
      obtain ⟨t2, _, e3, -⟩ := hkd
      rw [e3]
      refine E2_ret ⟨rfl, fun z => ?_, fun _ => ⟨si t 0 10 0, n', L, hL, e3, ?_, gi_at _ _ _ _, gi_at _ _ _ _, ?_, g1.si (Or.inr rfl), g2.si (Or.inr ⟨rfl, by omega, by omega⟩)⟩⟩
      · rw [ti_nI (by omega)] at z
        omega
      · exact k2.frm (fun x y z => by rw [gi_si, if_neg (by omega)]) (fun x y z => by rw [gi_si, if_neg (by omega)])
      · rw [gi_nj (by omega), gi_nj (by omega), k1, k0]
    · dsimp only
      unfold fj_X3_tell_j60 fj_X6_text_j44
      simp only [nms]
      obtain ⟨f1, f2, b, f3, f4, f5⟩ := hF
      rw [if_pos trivial, gi_nj (show (15 : Nat) ≠ 10 by omega), if_neg (nz f2).2, gi_nj (show (4 : Nat) ≠ 2 by omega), gi_nj (show (16 : Nat) ≠ 10 by omega), f4, f5]
      refine E2_ret ⟨rfl, fun _ => ⟨gi_at _ _ _ _, gi_at _ _ _ _, ?_, g1.si (Or.inr rfl), g2.si (Or.inr ⟨rfl, by omega, by omega⟩)⟩, fun z => ?_⟩
      · rw [gi_nj (by omega), gi_nj (by omega)]; exact f1
      · rw [ti_sub, ti_nI (by omega), show (-10 : Int32).toInt = -10 from rfl] at z
        omega
theorem RR.txF {c c' m m' : StA} {n P Q S : Nat} (h : RR c m n P Q S) (hc : eqC XFc c c') (hm : eqC XFm m m') (h2 : gi c' 47 2 = 0) (h10 : gi m' 0 10 = 0) (h3 : gi c' 47 3 = gi m' 0 15) : RR c' m' n P Q S := by
  obtain ⟨g1, g2, g3, g4, g5, g6, g7⟩ := h
  have kc : ∀ x y, ¬ ((12 ≤ x ∧ x ≤ 22) ∨ x = 47) → gi c' x y = gi c x y := fun x y z => hc.1 x y z
  have km : ∀ x y, ¬ (x = 4 ∨ (x = 0 ∧ y ≠ 3 ∧ y ≠ 32)) → gi m' x y = gi m x y := fun x y z => hm.1 x y z
  exact ⟨g1.congr (fun j _ _ => kc _ _ (by omega)) (fun q _ _ j _ => kc _ _ (by omega)) (fun j _ => kc _ _ (by omega)) (kc _ _ (by omega)) (fun q _ _ j _ => kc _ _ (by omega)) (kc _ _ (by omega)) (fun q _ _ j _ => kc _ _ (by omega)) (fun x _ => km _ _ (by omega)) (km _ _ (by omega)), by rw [kc _ _ (by omega)]; exact g2, g3.frm (fun _ _ => kc _ _ (by omega)) (fun _ _ => km _ _ (by omega)) (fun _ _ _ _ => kc _ _ (by omega)) (fun _ _ _ => km _ _ (by omega)) (km _ _ (by omega)), ⟨0, by omega, h2, h10, fun j hj => absurd hj (by omega)⟩, h3, by rw [kc _ _ (by omega), km _ _ (by omega)]; exact g6, g7.frm (fun _ _ _ _ => kc _ _ (by omega)) (fun _ => km _ _ (by omega)) (fun _ => km _ _ (by omega)) (fun _ => km _ _ (by omega))⟩
theorem e_forget (c : StA) : Ev (f_X5_forgetImages c) (fun c' _ => (∀ j, j < 2 → gi c' 46 j = 0) ∧ eqC (fun x _ => x = 46) c c') := by
  unfold f_X5_forgetImages fl_X5_forgetImages_l2
  refine Ev_bn (Ev_mono (fl_loop (A := 46) (o := 0) (N := 2) (v := 0) (by omega) (fun s i hi => ?_) (fun s => ?_) c) ?_)
  · unfold fb_X5_forgetImages_l2
    rw [if_neg (show ¬ 2 ≤ nI i by rw [show (2 : Int32) = nI 2 from rfl, nI_le' (by omega) (by omega)]; omega), gd_n hi (by omega), tn_nI (by omega), nI_1, Nat.zero_add]
    rfl
  · unfold fb_X5_forgetImages_l2
    rw [if_pos (show (2 : Int32) ≤ nI 2 by decide)]
  · rintro c' _ ⟨a1, a2⟩
    exact Ev_ret ⟨fun j hj => by have := a1 j hj; rw [Nat.zero_add] at this; exact this, a2.mono (fun x y z => z.1)⟩
theorem e_keepD (m : StA) : Ev (f_X6_keepDraft m) (fun m' _ => (∀ j, j < 63 → gi m' 1 j = gi m 4 j) ∧ gi m' 0 3 = gi m 0 5 ∧ (∀ j, j < 2 → gi m' 3 j = 0) ∧ eqC (fun x y => (x = 1 ∧ y < 63) ∨ (x = 0 ∧ y = 3) ∨ x = 3) m m') := by
  unfold f_X6_keepDraft fl_X6_keepDraft_l2
  refine Ev_bn (Ev_mono (cp_loop (A := 1) (B := 4) (o := 0) (p := 0) (N := 63) (by omega) (fun s i hi => ?_) (fun s => ?_) (Or.inl (by omega)) m) ?_)
  · unfold fb_X6_keepDraft_l2
    rw [if_neg (show ¬ 63 ≤ nI i by rw [show (63 : Int32) = nI 63 from rfl, nI_le' (by omega) (by omega)]; omega), gd_n (show i < 63 by omega) (by omega), gd_n (show i < 189 by omega) (by omega), tn_nI (by omega), nI_1, Nat.zero_add]
    rfl
  · unfold fb_X6_keepDraft_l2
    rw [if_pos (show (63 : Int32) ≤ nI 63 by decide)]
  · rintro m1 _ ⟨a1, a2⟩
    simp only [nms]
    rw [gd_l (by decide), gd_l (by decide), show (0 : Int32).toNatClampNeg = 0 from rfl, show (1 : Int32).toNatClampNeg = 1 from rfl]
    refine Ev_ret ⟨fun j hj => ?_, ?_, fun j hj => ?_, ?_⟩
    · rw [gi_nk (by omega), gi_nk (by omega), gi_nk (by omega)]
      have := a1 j hj
      rw [Nat.zero_add] at this
      exact this
    · rw [gi_nk (by omega), gi_nk (by omega), gi_at, a2.1 _ _ (by omega)]
    · rcases (show j = 0 ∨ j = 1 by omega) with rfl | rfl
      · rw [gi_nj (by omega), gi_at]
      · rw [gi_at]
    · exact (((a2.mono (D' := fun x y => (x = 1 ∧ y < 63) ∨ (x = 0 ∧ y = 3) ∨ x = 3) (fun x y z => Or.inl ⟨z.1, by omega⟩)).si (Or.inr (Or.inl ⟨rfl, rfl⟩))).si (Or.inr (Or.inr rfl))).si (Or.inr (Or.inr rfl))
theorem sim_text {c m : StA} (h : R0 c m) : E2 (f_X5_text c) (f_X6_text m) Fin := by
  obtain ⟨n, P, Q, S, h⟩ := h
  unfold f_X5_text
  obtain ⟨s, r, t, r', e1, e2, rfl, hF, hS⟩ := tell_rel h.2.2.2.1
  rw [e1, e2]
  simp only [bn_so]
  by_cases hr : r < 0
  · rw [if_pos hr]
    rw [ti_lt, show (0 : Int32).toInt = 0 from rfl] at hr
    obtain ⟨a1, a2, a3, a4, a5⟩ := hF hr
    exact E2_ret ⟨rfl, n, P, Q, S, h.txF a4 a5 a1 a2 a3⟩
  · rw [if_neg hr]
    rw [ti_lt, show (0 : Int32).toInt = 0 from rfl] at hr
    obtain ⟨t1, n', L, hL, ek, hD, a1, a2, a3, a4, a5⟩ := hS (by omega)
    obtain ⟨m', _, ek2, b1, b2, b3, b4⟩ := e_keepD t1
    rw [ek] at ek2
    obtain ⟨rfl, -⟩ := Prod.mk.inj (Option.some.inj ek2)
    obtain ⟨d1, d2, d3, d4, d5, d6, d7, d8, d9, d10, d11, -⟩ := hD
    refine E2_lb (Ev_mono (e_cpFlight (k := 1) (b := 12) (n := n') (P := 0) (Q := 0) fl_is1 fl_is12 (by omega) d1 (by omega) (by omega) d2 d10.1 d11.1) ?_)
    rintro s1 _ ⟨g1, g2, g3, g4, g5, g6, g7, g8⟩
    refine E2_lb (Ev_mono (e_forget s1) ?_)
    rintro s2 _ ⟨f1, f2⟩
    refine E2_ret ⟨rfl, n', 0, 0, 0, ?_⟩
    have k4 : ∀ j, gi t 4 j = gi t1 4 j := fun j => b4.1 _ _ (by omega)
    have hA : Rf s 12 t 4 0 n' 0 0 0 noF := by
      refine ⟨d1, d2, by rw [b2]; exact d3, d4.congr (fun _ _ _ _ _ => rfl) (fun i x _ _ => k4 _), ⟨Nat.two_pow_pos _, d5, fun i hi => ?_⟩, d7.congr (fun _ _ _ => rfl) (fun x _ _ => k4 _), d9.congr (fun _ _ => rfl) (fun j _ => k4 _), ⟨by omega, d10.1, by rw [k4]; exact d10.2, fun j hj => absurd hj (by omega)⟩, ⟨by omega, d11.1, by rw [k4]; exact d11.2, fun j hj => absurd hj (by omega)⟩⟩
      rw [k4, Nat.zero_add, d6 i (by omega), Nat.zero_testBit]
      rfl
    have s2k : ∀ x y, x ≠ 46 → gi s2 x y = gi s1 x y := fun x y z => f2.1 _ _ z
    have hB : Rf s2 1 t 1 0 n' 0 0 0 noF := hA.congr (fun j j1 j2 => by rw [s2k _ _ (by omega)]; exact g1 j j1 j2) (fun q q1 q2 j hj => by rw [s2k _ _ (by omega)]; exact g2 q q1 q2 j hj) (fun j hj => by rw [s2k _ _ (by omega)]; exact g3 j hj) (by rw [s2k _ _ (by omega)]; exact g4) (fun q q1 q2 j hj => by rw [s2k _ _ (by omega)]; exact g5 q q1 q2 j hj) (by rw [s2k _ _ (by omega)]; exact g6) (fun q q1 q2 j hj => by rw [s2k _ _ (by omega)]; exact g7 q q1 q2 j hj) (fun x hx => by rw [Nat.zero_add, b1 x hx, k4]) rfl
    have kc : ∀ x y, ¬ ((1 ≤ x ∧ x ≤ 22) ∨ x = 46 ∨ x = 47) → gi s2 x y = gi c x y := fun x y z => by
      rw [s2k _ _ (by omega), g8.1 _ _ (by omega), a4.1 _ _ (by unfold XFc; omega)]
    have km : ∀ x y, ¬ (x = 4 ∨ (x = 0 ∧ y ≠ 32) ∨ (x = 1 ∧ y < 63) ∨ x = 3) → gi t x y = gi m x y := fun x y z => by
      rw [b4.1 _ _ (by omega), a5.1 _ _ (by unfold XFm; omega)]
    refine ⟨hB, ?_, fun j hj => Or.inl ⟨f1 j hj, b3 j hj⟩, ⟨0, by omega, ?_, ?_, fun j hj => absurd hj (by omega)⟩, ?_, ?_, ?_⟩
    · rw [s2k _ _ (by omega), g1 11 (by omega) (by omega), d8]
      decide
    · rw [s2k _ _ (by omega), g8.1 _ _ (by omega)]; exact a1
    · rw [b4.1 _ _ (by omega)]; exact a2
    · rw [s2k _ _ (by omega), g8.1 _ _ (by omega), b4.1 _ _ (by omega)]; exact a3
    · rw [kc _ _ (by omega), km _ _ (by omega)]; exact h.2.2.2.2.2.1
    · exact h.2.2.2.2.2.2.frm (fun x y z1 z2 => kc _ _ (by omega)) (fun y => km _ _ (by omega)) (fun y => km _ _ (by omega)) (fun y => km _ _ (by omega))
