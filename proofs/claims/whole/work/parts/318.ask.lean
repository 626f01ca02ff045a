/-! ask -/
def mb (m : StA) (i w : Nat) : Bool := match f_X6_isSoWith (nI i) (nI 1) (nI w) m with
  | some p => p.2 == 1
  | none => false
def mH (m : StA) (i w q : Nat) : Int32 := match f_X6_isSoWith (nI i) (nI 1) (nI w) m with
  | some p => gi p.1 6 q
  | none => 0
theorem bI_inj {a b : Bool} (h : bI a = bI b) : a = b := by
  cases a <;> cases b <;> first | rfl | exact absurd h (by decide)
theorem WR.mbs {c m : StA} {i w : Nat} {s1 s' t' : StA} {b : Bool} (h : WR c m i 1 (nI w) s1 s' t' b) : mb m i w = b ∧ ∀ q, mH m i w q = gi t' 6 q := by
  obtain ⟨-, -, -, -, w5, -⟩ := h
  unfold mb mH
  rw [w5]
  refine ⟨?_, fun q => rfl⟩
  cases b <;> rfl
theorem with2 {c m c1 m1 : StA} {n P Q S i w : Nat} (h : RR c m n P Q S) (hi : i < n) (hw : 1 ≤ w ∧ w ≤ 9) (hc : agQ DQc c c1) (hm : agQ DQm m m1) : ∃ s1 s' t', WR c1 m1 i 1 (nI w) s1 s' t' (mb m i w) ∧ ∀ q, q < 31 → gi t' 6 q = mH m i w q := by
  have hv : ((1 : Nat) = 0 ∧ rg (nI w) 0 3) ∨ ((1 : Nat) = 1 ∧ rg (nI w) 1 9) := Or.inr ⟨rfl, by unfold rg; rw [ti_nI (by omega)]; omega⟩
  obtain ⟨s1, s', t', b, hA⟩ := with_rel (h.q hc hm) hi hv
  obtain ⟨s1b, s'b, t'b, bb, hB⟩ := with_rel (h.q hc (agQ.rf m)) hi hv
  obtain ⟨e1, e2⟩ := hB.mbs
  obtain ⟨a1, a2, a3, a4, a5, a6, a7, a8, a9⟩ := id hA
  obtain ⟨b1, b2, b3, b4, b5, b6, b7, b8, b9⟩ := hB
  rw [a1] at b1
  obtain ⟨rfl, -⟩ := Prod.mk.inj (Option.some.inj b1)
  rw [a2] at b2
  obtain ⟨rfl, e3⟩ := Prod.mk.inj (Option.some.inj b2)
  have e4 := bI_inj e3
  subst e4
  refine ⟨s1, s', t', by rw [e1]; exact hA, fun q hq => ?_⟩
  rw [e2, a7 q hq, b7 q hq]
/-! bits -/
def rk (f : Nat → Bool) : Nat → Nat
  | 0 => 0
  | w + 1 => rk f w + if f w then 1 else 0
theorem rk_le (f : Nat → Bool) : ∀ w, rk f w ≤ w
  | 0 => Nat.le_refl 0
  | w + 1 => by
    have := rk_le f w
    unfold rk
    split <;> omega
theorem rk_mono (f : Nat → Bool) {a : Nat} : ∀ {b : Nat}, a ≤ b → rk f a ≤ rk f b
  | 0, h => by rw [show a = 0 by omega]; exact Nat.le_refl _
  | b + 1, h => by
    by_cases e : a = b + 1
    · rw [e]; exact Nat.le_refl _
    · have := rk_mono f (a := a) (b := b) (by omega)
      show rk f a ≤ rk f b + _
      omega
theorem bt_or10 : ∀ B, B < 1024 → ∀ q, q < 10 → nI B ||| (bI true <<< (nI q &&& 31)) = nI (B ||| 2 ^ q) := by decide +kernel
theorem bt_get10 : ∀ B, B < 1024 → ∀ q, q < 10 → ((nI B >>> (nI q &&& 31)) &&& 1) = bI (B.testBit q) := by decide +kernel
def bcv (a0 : Int32) : Int32 :=
  let n1 := a0 - ((a0.toUInt32 >>> ((1 : Int32).toUInt32 &&& Int32.toUInt32 31)).toInt32 &&& 1431655765)
  let n2 := (n1 &&& 858993459) + ((n1.toUInt32 >>> ((2 : Int32).toUInt32 &&& Int32.toUInt32 31)).toInt32 &&& 858993459)
  let n3 := (n2 + (n2.toUInt32 >>> ((4 : Int32).toUInt32 &&& Int32.toUInt32 31)).toInt32) &&& 252645135
  let n4 := n3 + (n3.toUInt32 >>> ((8 : Int32).toUInt32 &&& Int32.toUInt32 31)).toInt32
  let n5 := n4 + (n4.toUInt32 >>> ((16 : Int32).toUInt32 &&& Int32.toUInt32 31)).toInt32
  n5 &&& 63
theorem bcv_n : ∀ B, B < 1024 → bcv (nI B) = nI (rk B.testBit 10) := by decide +kernel
theorem e_bitc {B : Nat} (hB : B < 1024) (s : StA) : f_J6_bitCount_0f7a4 (nI B) s = some (s, nI (rk B.testBit 10)) := by
  rw [← bcv_n B hB]
  rfl
theorem tb_or {B q w : Nat} : (B ||| 2 ^ q).testBit w = (B.testBit w || decide (q = w)) := by
  rw [Nat.testBit_or, Nat.testBit_two_pow]
/-- the weights that are open, the class's side -/
theorem vals_all {c m : StA} {n P Q S i : Nat} (h : RR c m n P Q S) (hi : i < n) : Ev (f_X5_valuesAsSeen (nI i) 1 c) (fun s r => agQ DQc c s ∧ ∃ B, B < 1024 ∧ r = nI B ∧ B.testBit 0 = false ∧ ∀ w, 1 ≤ w → w ≤ 9 → B.testBit w = mb m i w) := by
  unfold f_X5_valuesAsSeen
  rw [show f_X5_leastOf 1 c = some (c, 1) from rfl]
  simp only [bn_so]
  refine Ev_bn (Ev_mono (Q := fun s r => agQ DQc c s ∧ ∃ B, B < 1024 ∧ r = nI B ∧ B.testBit 0 = false ∧ ∀ w, 1 ≤ w → w ≤ 9 → B.testBit w = mb m i w) ?_ (fun s r q => Ev_ret q))
  unfold fl_X5_valuesAsSeen_l8
  refine Ev_it (I := fun j s v => ∃ q, 1 ≤ q ∧ q + j = 10 ∧ v.2 = nI q ∧ agQ DQc c s ∧ ∃ B, B < 1024 ∧ v.1 = nI B ∧ B.testBit 0 = false ∧ (∀ w, q ≤ w → B.testBit w = false) ∧ ∀ w, 1 ≤ w → w < q → B.testBit w = mb m i w) ?_ FU 9 (FU_gt (by omega)) c (0, 1) ⟨1, by omega, by omega, rfl, agQ.rf c, 0, by omega, rfl, by decide, fun w _ => Nat.zero_testBit w, fun w w1 w2 => absurd w1 (by omega)⟩
  rintro j s ⟨x, y⟩ ⟨q, hq1, hq, hy, ha, B, hB, hx, hb0, hbz, hb⟩
  dsimp only at hy hx
  subst hy hx
  by_cases hq4 : q < 10
  · obtain ⟨s1, s', t', b, hW, e⟩ := vals_c (k := 1) (q := q) (nI B) (h.q ha (agQ.rf m)) hi (Or.inr ⟨rfl, by omega, by omega⟩)
    have hmb := hW.mbs.1
    refine ⟨_, _, e, Or.inr ⟨j - 1, _, by omega, rfl, q + 1, by omega, by omega, rfl, ha.tr hW.2.2.1, ?_⟩⟩
    cases b
    · refine ⟨B, hB, or_f (by omega), hb0, fun w hw => hbz w (by omega), fun w w1 w2 => ?_⟩
      by_cases e : w = q
      · rw [e, hbz q (by omega), hmb]
      · exact hb w w1 (by omega)
    · refine ⟨B ||| 2 ^ q, ?_, bt_or10 B hB q hq4, ?_, fun w hw => ?_, fun w w1 w2 => ?_⟩
      · exact Nat.or_lt_two_pow (n := 10) hB (Nat.pow_lt_pow_right (by omega) hq4)
      · rw [tb_or, hb0]
        simp
        omega
      · rw [tb_or, hbz w (by omega)]
        simp
        omega
      · rw [tb_or]
        by_cases e : w = q
        · rw [e, hmb]
          simp
        · rw [hb w w1 (by omega)]
          have : ¬ q = w := by omega
          simp [this]
  · have e : q = 10 := by omega
    subst e
    dsimp only
    unfold fb_X5_valuesAsSeen_l8
    rw [show f_X5_greatestOf 1 s = some (s, 9) from rfl]
    simp only [bn_so]
    rw [if_pos (show (9 : Int32) < nI 10 by decide)]
    exact Ev_ret (Or.inl ⟨_, rfl, ha, B, hB, rfl, hb0, fun w w1 w2 => hb w w1 (by omega)⟩)
/-- heights by a weight, the class's side -/
theorem fore_in {s0 t : StA} {n P Q S w : Nat} {a1 : Int32} (h : TT s0 t 12 n P Q S noF) (hmin : (gi s0 12 11).toInt + 100 ≤ 5000) (hw : w < 10) : Ev (fl_X5_foreseeHeightsByWeight_l24 a1 a1 (nI w) s0 0) (fun s' _ => (∀ q, q < 31 → gi s' (61 + w) q = gi (sg s0 q) 12 8) ∧ eqC (fun x y => DPc 12 x y ∨ x = 61 + w) s0 s') := by
  have hE : E2 (fl_X5_foreseeHeightsByWeight_l24 a1 a1 (nI w) s0 0) (fl_X6_isSo_l2 t 0) (fun s' _ t' _ => (∀ q, q < 31 → gi s' (61 + w) q = gi t' 6 q) ∧ eqC (fun x y => DPc 12 x y ∨ x = 61 + w) s0 s') := by
    unfold fl_X5_foreseeHeightsByWeight_l24 fl_X6_isSo_l2
    refine E2_it (I := fun j s v t' u => ∃ i, i + j = 31 ∧ v = nI i ∧ u = nI i ∧ (∃ S', TT s t' 12 n P Q S' noF) ∧ (gi s 12 11).toInt = (gi s0 12 11).toInt + (i : Int) ∧ (∀ q, q < i → gi s (61 + w) q = gi t' 6 q) ∧ eqC (fun x y => DPc 12 x y ∨ x = 61 + w) s0 s) ?_ FU FU 31 (FU_gt (by omega)) (FU_gt (by omega)) s0 0 t 0 ⟨0, by omega, rfl, rfl, ⟨S, h⟩, by omega, fun q hq => absurd hq (by omega), eqC.rf s0⟩
    rintro j s v t' u ⟨i, hij, rfl, rfl, ⟨S', hT⟩, h3, h4, h5⟩
    unfold fb_X5_foreseeHeightsByWeight_l24 fb_X6_isSo_l2
    by_cases hi : i < 31
    · rw [if_neg (show ¬ 30 < nI i by rw [show (30 : Int32) = nI 30 from rfl, nI_lt' (by omega) (by omega)]; omega), if_neg (show ¬ 30 < nI i by rw [show (30 : Int32) = nI 30 from rfl, nI_lt' (by omega) (by omega)]; omega), g24, t24, gd_n hi (by omega), gd_n hw (by omega), gd_n hi (by omega), tn_nI (show i < 2147483648 by omega), tn_nI (show w < 2147483648 by omega)]
      simp only [nms]
      rw [Nat.one_mul]
      have hT2 : TT (si s (61 + w) i (gi s 12 8)) (si t' 6 i (gi t' 2 24)) 12 n P Q S' noF := by
        refine TT.frm (m := t') ⟨hT.1.congr (fun j _ _ => gi_nk (by omega)) (fun q _ _ j _ => gi_nk (by omega)) (fun j _ => gi_nk (by omega)) (gi_nk (by omega)) (fun q _ _ j _ => gi_nk (by omega)) (gi_nk (by omega)) (fun q _ _ j _ => gi_nk (by omega)) (fun x _ => rfl) rfl, hT.2.1, hT.2.2⟩ (fun y => gi_nk (by omega)) (gi_nk (by omega)) (gi_nk (by omega)) (gi_nk (by omega))
      refine E2_bn (E2_mono (tt_pass hT2 (by rw [gi_nk (by omega)]; omega)) ?_)
      rintro s2 _ t2 _ ⟨u1, u2, u3, u4⟩
      refine E2_ret (Or.inr ⟨j - 1, _, _, by omega, rfl, rfl, i + 1, by omega, nI_1 i, nI_1 i, u1, ?_, fun q hq => ?_, (h5.si (Or.inr rfl)).tr (u2.mono (fun x y z => Or.inl z))⟩)
      · rw [u4, gi_nk (by omega), h3]; omega
      · rw [u2.1 _ _ (fun z => by have := z.1; omega), u3.1 _ _ (by unfold DPm; omega)]
        by_cases e : q = i
        · subst e
          rw [gi_at, gi_at]
          have := hT.1.2.2.2.2.2.1.1
          rw [Nat.zero_add] at this
          exact this
        · rw [gi_nj e, gi_nj e]
          exact h4 q (by omega)
    · rw [if_pos (show 30 < nI i by rw [show (30 : Int32) = nI 30 from rfl, nI_lt' (by omega) (by omega)]; omega), if_pos (show 30 < nI i by rw [show (30 : Int32) = nI 30 from rfl, nI_lt' (by omega) (by omega)]; omega)]
      exact E2_ret (Or.inl ⟨_, _, rfl, rfl, fun q hq => h4 q (by omega), h5⟩)
  obtain ⟨s', _, t', _, e1, e2, k1, k2⟩ := hE
  obtain ⟨t2, _, e3, hI⟩ := seen_m h hmin
  rw [e2] at e3
  obtain ⟨rfl, -⟩ := Prod.mk.inj (Option.some.inj e3)
  exact ⟨s', _, e1, fun q hq => by rw [k1 q hq]; exact hI.2.2.2.2 q hq, k2⟩
theorem fore_all {c m : StA} {n P Q S i : Nat} (h : RR c m n P Q S) (hi : i < n) : Ev (f_X5_foreseeHeightsByWeight (nI i) c) (fun s _ => agQ DQc c s ∧ ∀ w, 1 ≤ w → w ≤ 9 → ∀ q, q < 31 → gi s (61 + w) q = mH m i w q) := by
  have hn := h.1.1
  unfold f_X5_foreseeHeightsByWeight
  refine Ev_bn (Ev_mono (Q := fun s _ => agQ DQc c s ∧ ∀ w, 1 ≤ w → w ≤ 9 → ∀ q, q < 31 → gi s (61 + w) q = mH m i w q) ?_ (fun s r q => Ev_ret q))
  unfold fl_X5_foreseeHeightsByWeight_l2
  refine Ev_it (I := fun j s v => ∃ w, 1 ≤ w ∧ w + j = 10 ∧ v = nI w ∧ agQ DQc c s ∧ ∀ u, 1 ≤ u → u < w → ∀ q, q < 31 → gi s (61 + u) q = mH m i u q) ?_ FU 9 (FU_gt (by omega)) c 1 ⟨1, by omega, by omega, rfl, agQ.rf c, fun u u1 u2 => absurd u1 (by omega)⟩
  rintro j s v ⟨w, hw1, hw, rfl, ha, hH⟩
  unfold fb_X5_foreseeHeightsByWeight_l2
  by_cases hw10 : w < 10
  · rw [if_neg (show ¬ 9 < nI w by rw [show (9 : Int32) = nI 9 from rfl, nI_lt' (by omega) (by omega)]; omega)]
    have hR := h.q ha (agQ.rf m)
    obtain ⟨s1, s', t', hW, hq⟩ := with2 h hi (w := w) ⟨hw1, by omega⟩ ha (agQ.rf m)
    obtain ⟨w1, -, -, w4, -, -, w7, -, -⟩ := hW
    obtain ⟨s1', _, t1, _, e1, e2, a1, -, a3, a4, a5⟩ := start_rel hR
    rw [w1] at e1
    obtain ⟨rfl, -⟩ := Prod.mk.inj (Option.some.inj e1)
    have hm := min_ok hR a5
    have hT := a1.th0 (k := 1) (v := nI w) hi (Or.inr ⟨rfl, by unfold rg; rw [ti_nI (by omega)]; omega⟩)
    refine Ev_be w1 ?_
    rw [gd_n (show i < 6 by omega) (by omega), tn_nI (by omega)]
    simp only [nms]
    refine Ev_bn (Ev_mono (fore_in (a1 := nI i) (w := w) hT (by rw [gi_nk (by omega)]; exact hm.1) (by omega)) ?_)
    rintro s2 _ ⟨k1, k2⟩
    refine Ev_ret (Or.inr ⟨j - 1, _, by omega, rfl, w + 1, by omega, by omega, nI_1 w, ha.tr ((w4.si (dq1 _ _ (by omega))).tr (k2.ag (fun x y z => ?_))), fun u u1 u2 q hq2 => ?_⟩)
    · rcases z with z | z
      · exact dq2 x y z
      · exact Or.inr (by omega)
    · by_cases e : u = w
      · subst e
        rw [k1 q hq2, ← w7 q hq2]
        exact hq q hq2
      · rw [k2.1 _ _ (fun z => by rcases z with z | z; · { have := z.1; omega }; · omega), gi_nk (by omega), a3.1 _ _ (by omega)]
        exact hH u u1 (by omega) q hq2
  · rw [if_pos (show 9 < nI w by rw [show (9 : Int32) = nI 9 from rfl, nI_lt' (by omega) (by omega)]; omega)]
    exact Ev_ret (Or.inl ⟨_, rfl, ha, fun u u1 u2 => hH u u1 (by omega)⟩)
/-! how many are alike at most -/
def cnt (g : Nat → Int32) : Nat → Int32 → Nat
  | 0, _ => 0
  | C + 1, v => cnt g C v + if g C = v then 1 else 0
theorem cnt_le (g : Nat → Int32) (v : Int32) : ∀ C, cnt g C v ≤ C
  | 0 => Nat.le_refl 0
  | C + 1 => by
    have := cnt_le g v C
    unfold cnt
    split <;> omega
def IM (g : Nat → Int32) (M C x : Nat) : Prop := (∀ y, y < x → cnt g C (g y) ≤ M) ∧ ((x = 0 ∧ M = 0) ∨ ∃ y, y < x ∧ cnt g C (g y) = M)
theorem IM.u {g : Nat → Int32} {M M' C x : Nat} (h : IM g M C x) (h' : IM g M' C x) : M = M' := by
  obtain ⟨a1, a2⟩ := h
  obtain ⟨b1, b2⟩ := h'
  rcases a2 with ⟨a2, a3⟩ | ⟨y, a2, a3⟩
  · rcases b2 with ⟨b2, b3⟩ | ⟨z, b2, b3⟩
    · omega
    · omega
  · rcases b2 with ⟨b2, b3⟩ | ⟨z, b2, b3⟩
    · omega
    · have := b1 y a2
      have := a1 z b2
      omega
theorem IM.le {g : Nat → Int32} {M C x : Nat} (h : IM g M C x) : M ≤ C := by
  rcases h.2 with ⟨-, a3⟩ | ⟨y, -, a3⟩
  · omega
  · rw [← a3]; exact cnt_le g _ C
theorem IM.nx {g : Nat → Int32} {M C x : Nat} (h : IM g M C x) : IM g (if cnt g C (g x) ≤ M then M else cnt g C (g x)) C (x + 1) := by
  obtain ⟨a1, a2⟩ := h
  by_cases e : cnt g C (g x) ≤ M
  · rw [if_pos e]
    refine ⟨fun y hy => ?_, ?_⟩
    · by_cases z : y = x
      · rw [z]; exact e
      · exact a1 y (by omega)
    · rcases a2 with ⟨a2, a3⟩ | ⟨y, a2, a3⟩
      · exact Or.inr ⟨x, by omega, by omega⟩
      · exact Or.inr ⟨y, by omega, a3⟩
  · rw [if_neg e]
    refine ⟨fun y hy => ?_, Or.inr ⟨x, by omega, rfl⟩⟩
    by_cases z : y = x
    · rw [z]; exact Nat.le_refl _
    · have := a1 y (by omega)
      omega
theorem IM.gr {g : Nat → Int32} {M C : Nat} (h : IM g M C C) : IM g (if M < cnt g (C + 1) (g C) then cnt g (C + 1) (g C) else M) (C + 1) (C + 1) := by
  obtain ⟨a1, a2⟩ := h
  have hC : cnt g (C + 1) (g C) = cnt g C (g C) + 1 := by
    show cnt g C (g C) + (if g C = g C then 1 else 0) = _
    rw [if_pos rfl]
  have hy : ∀ y, g C ≠ g y → cnt g (C + 1) (g y) = cnt g C (g y) := fun y z => by
    show cnt g C (g y) + (if g C = g y then 1 else 0) = _
    rw [if_neg z]; omega
  by_cases e : M < cnt g (C + 1) (g C)
  · rw [if_pos e]
    refine ⟨fun y hy2 => ?_, Or.inr ⟨C, by omega, rfl⟩⟩
    by_cases z : g C = g y
    · rw [z]; exact Nat.le_refl _
    · rw [hy y z]
      have : y ≠ C := fun w => z (by rw [w])
      have := a1 y (by omega)
      omega
  · rw [if_neg e]
    refine ⟨fun y hy2 => ?_, ?_⟩
    · by_cases z : g C = g y
      · rw [← z]; omega
      · rw [hy y z]
        have : y ≠ C := fun w => z (by rw [w])
        exact a1 y (by omega)
    · rcases a2 with ⟨a2, a3⟩ | ⟨y, a2, a3⟩
      · omega
      · refine Or.inr ⟨y, by omega, ?_⟩
        have z : g C ≠ g y := fun z => by rw [z] at hC e; omega
        rw [hy y z]; exact a3
/-- how many open weights are as high as w, the class's side -/
theorem alike_c {s : StA} {B tt w0 : Nat} {g : Nat → Int32} (hB : B < 1024) (h0 : B.testBit 0 = false) (htt : tt < 31) (hg : ∀ w, 1 ≤ w → w ≤ 9 → B.testBit w = true → gi s (61 + w) tt = g (rk B.testBit w)) (hw1 : 1 ≤ w0) (hw9 : w0 ≤ 9) (hwb : B.testBit w0 = true) : f_X5_alikeBehind (nI w0) (nI B) (nI tt) s = some (s, nI (cnt g (rk B.testBit 10) (g (rk B.testBit w0)))) := by
  have r1 : rk B.testBit 1 = 0 := by
    show 0 + (if B.testBit 0 = true then 1 else 0) = 0
    rw [h0]; rfl
  have hl : Ev (fl_X5_alikeBehind_l6 (nI w0) (nI B) (nI tt) (nI w0) (nI B) (nI tt) s (0, 1)) (fun s' r => s' = s ∧ r = nI (cnt g (rk B.testBit 10) (g (rk B.testBit w0)))) := by
    unfold fl_X5_alikeBehind_l6
    refine Ev_it (I := fun j s' v => s' = s ∧ ∃ w, 1 ≤ w ∧ w + j = 10 ∧ v = (nI (cnt g (rk B.testBit w) (g (rk B.testBit w0))), nI w)) ?_ FU 9 (FU_gt (by omega)) s (0, 1) ⟨rfl, 1, by omega, by omega, by rw [r1]; rfl⟩
    rintro j s' v ⟨rfl, w, hw, hwj, rfl⟩
    dsimp only
    unfold fb_X5_alikeBehind_l6
    by_cases hw10 : w < 10
    · rw [if_neg (show ¬ 9 < nI w by rw [show (9 : Int32) = nI 9 from rfl, nI_lt' (by omega) (by omega)]; omega), bt_get10 B hB w hw10]
      have hrk : rk B.testBit (w + 1) = rk B.testBit w + if B.testBit w then 1 else 0 := rfl
      cases hb : B.testBit w
      · rw [if_neg (show ¬ bI false = 1 by decide)]
        rw [hb] at hrk
        have hrk' : rk B.testBit (w + 1) = rk B.testBit w := hrk
        exact Ev_ret (Or.inr ⟨j - 1, _, by omega, rfl, rfl, w + 1, by omega, by omega, by rw [hrk', nI_1]⟩)
      · rw [if_pos (show bI true = 1 from rfl)]
        rw [hb] at hrk
        have hrk' : rk B.testBit (w + 1) = rk B.testBit w + 1 := hrk
        rw [gd_n (show w < 10 by omega) (by omega), gd_n (show tt < 31 by omega) (by omega), gd_n (show w0 < 10 by omega) (by omega), gd_n (show tt < 31 by omega) (by omega), tn_nI (show w < 2147483648 by omega), tn_nI (show w0 < 2147483648 by omega), tn_nI (show tt < 2147483648 by omega), Nat.one_mul, Nat.one_mul, hg w hw (by omega) hb, hg w0 hw1 hw9 hwb]
        have hcn : cnt g (rk B.testBit w + 1) (g (rk B.testBit w0)) = cnt g (rk B.testBit w) (g (rk B.testBit w0)) + if g (rk B.testBit w) = g (rk B.testBit w0) then 1 else 0 := rfl
        by_cases e : g (rk B.testBit w) = g (rk B.testBit w0)
        · rw [if_pos e]
          rw [if_pos e] at hcn
          exact Ev_ret (Or.inr ⟨j - 1, _, by omega, rfl, rfl, w + 1, by omega, by omega, by rw [hrk', hcn, nI_1, nI_1]⟩)
        · rw [if_neg e]
          rw [if_neg e] at hcn
          exact Ev_ret (Or.inr ⟨j - 1, _, by omega, rfl, rfl, w + 1, by omega, by omega, by rw [hrk', hcn, nI_1]; rfl⟩)
    · have e : w = 10 := by omega
      subst e
      rw [if_pos (show (9 : Int32) < nI 10 by decide)]
      exact Ev_ret (Or.inl ⟨_, rfl, rfl, rfl⟩)
  obtain ⟨s', r, e, rfl, rfl⟩ := hl
  unfold f_X5_alikeBehind
  rw [e]
  rfl
theorem most_c {s : StA} {B tt : Nat} {g : Nat → Int32} (hB : B < 1024) (h0 : B.testBit 0 = false) (htt : tt < 31) (hg : ∀ w, 1 ≤ w → w ≤ 9 → B.testBit w = true → gi s (61 + w) tt = g (rk B.testBit w)) : ∃ M, f_X5_mostLeftByLooking (nI B) (nI tt) s = some (s, nI M) ∧ IM g M (rk B.testBit 10) (rk B.testBit 10) := by
  have r1 : rk B.testBit 1 = 0 := by
    show 0 + (if B.testBit 0 = true then 1 else 0) = 0
    rw [h0]; rfl
  have hr10 := rk_le B.testBit 10
  have hl : Ev (fl_X5_mostLeftByLooking_l5 (nI B) (nI tt) (nI B) (nI tt) s (0, 1)) (fun s' r => s' = s ∧ ∃ M, r = nI M ∧ IM g M (rk B.testBit 10) (rk B.testBit 10)) := by
    unfold fl_X5_mostLeftByLooking_l5
    refine Ev_it (I := fun j s' v => s' = s ∧ ∃ w M, 1 ≤ w ∧ w + j = 10 ∧ v = (nI M, nI w) ∧ IM g M (rk B.testBit 10) (rk B.testBit w)) ?_ FU 9 (FU_gt (by omega)) s (0, 1) ⟨rfl, 1, 0, by omega, by omega, rfl, by rw [r1]; exact ⟨fun y hy => absurd hy (by omega), Or.inl ⟨rfl, rfl⟩⟩⟩
    rintro j s' v ⟨rfl, w, M, hw, hwj, rfl, hM⟩
    dsimp only
    unfold fb_X5_mostLeftByLooking_l5
    by_cases hw10 : w < 10
    · rw [if_neg (show ¬ 9 < nI w by rw [show (9 : Int32) = nI 9 from rfl, nI_lt' (by omega) (by omega)]; omega), bt_get10 B hB w hw10]
      have hrk : rk B.testBit (w + 1) = rk B.testBit w + if B.testBit w then 1 else 0 := rfl
      cases hb : B.testBit w
      · rw [if_neg (show ¬ bI false = 1 by decide)]
        rw [hb] at hrk
        have hrk' : rk B.testBit (w + 1) = rk B.testBit w := hrk
        exact Ev_ret (Or.inr ⟨j - 1, _, by omega, rfl, rfl, w + 1, M, by omega, by omega, by rw [nI_1], by rw [hrk']; exact hM⟩)
      · rw [if_pos (show bI true = 1 from rfl)]
        rw [hb] at hrk
        have hrk' : rk B.testBit (w + 1) = rk B.testBit w + 1 := hrk
        rw [alike_c hB h0 htt hg hw (by omega) hb]
        simp only [bn_so, nmi]
        have hMl := hM.le
        have hcl := cnt_le g (g (rk B.testBit w)) (rk B.testBit 10)
        have hx := hM.nx
        by_cases e : cnt g (rk B.testBit 10) (g (rk B.testBit w)) ≤ M
        · rw [if_neg (by rw [nI_lt' (by omega) (by omega)]; omega)]
          rw [if_pos e] at hx
          exact Ev_ret (Or.inr ⟨j - 1, _, by omega, rfl, rfl, w + 1, M, by omega, by omega, by rw [nI_1], by rw [hrk']; exact hx⟩)
        · rw [if_pos (by rw [nI_lt' (by omega) (by omega)]; omega)]
          rw [if_neg e] at hx
          exact Ev_ret (Or.inr ⟨j - 1, _, by omega, rfl, rfl, w + 1, _, by omega, by omega, by rw [nI_1], by rw [hrk']; exact hx⟩)
    · have e : w = 10 := by omega
      subst e
      rw [if_pos (show (9 : Int32) < nI 10 by decide)]
      exact Ev_ret (Or.inl ⟨_, rfl, rfl, M, rfl, hM⟩)
  obtain ⟨s', r, e, rfl, M, rfl, hM⟩ := hl
  refine ⟨M, ?_, hM⟩
  unfold f_X5_mostLeftByLooking
  rw [e]
  rfl
theorem ix31 {i j : Nat} : 31 * nI i + nI j = nI (31 * i + j) := by
  rw [show (31 : Int32) = nI 31 from rfl, pk_mul, nI_add]
theorem most_m {t : StA} {C tt : Nat} {a1 a2 x2 : Int32} {g : Nat → Int32} (hC : C ≤ 9) (htt : tt < 31) (hg : ∀ q, q < C → gi t 7 (31 * q + tt) = g q) : ∃ M, fl_X6_ask_l105 a1 a2 x2 (nI C) (nI tt) t (0, 0) = some (t, nI M) ∧ IM g M C C := by
  have hin : ∀ x x5, x < C → fl_X6_ask_l117 a1 a2 x2 (nI C) (nI tt) x5 (nI x) t (0, 0) = some (t, nI (cnt g C (g x))) := by
    intro x x5 hx
    have hl : Ev (fl_X6_ask_l117 a1 a2 x2 (nI C) (nI tt) x5 (nI x) t (0, 0)) (fun t' r => t' = t ∧ r = nI (cnt g C (g x))) := by
      unfold fl_X6_ask_l117
      refine Ev_it (I := fun j t' v => t' = t ∧ ∃ q, q + j = C ∧ v = (nI (cnt g q (g x)), nI q)) ?_ FU C (FU_gt (by omega)) t (0, 0) ⟨rfl, 0, by omega, rfl⟩
      rintro j t' v ⟨rfl, q, hq, rfl⟩
      dsimp only
      unfold fb_X6_ask_l117
      by_cases hqC : C ≤ q
      · rw [if_pos (by rw [nI_le' (by omega) (by omega)]; exact hqC)]
        have e : q = C := by omega
        subst e
        exact Ev_ret (Or.inl ⟨_, rfl, rfl, rfl⟩)
      · rw [if_neg (by rw [nI_le' (by omega) (by omega)]; exact hqC), ix31, ix31, gd_n (show 31 * x + tt < 279 by omega) (by omega), gd_n (show 31 * q + tt < 279 by omega) (by omega), tn_nI (show 31 * x + tt < 2147483648 by omega), tn_nI (show 31 * q + tt < 2147483648 by omega), hg x hx, hg q (by omega), show f_X6_flag 1 t' = some (t', 1) from rfl, show f_X6_flag 0 t' = some (t', 0) from rfl]
        simp only [bn_so, nmi]
        have hcn : cnt g (q + 1) (g x) = cnt g q (g x) + if g q = g x then 1 else 0 := rfl
        by_cases e : g x = g q
        · rw [if_pos e]
          rw [if_pos e.symm] at hcn
          exact Ev_ret (Or.inr ⟨j - 1, _, by omega, rfl, rfl, q + 1, by omega, by rw [hcn, nI_1, nI_1]⟩)
        · rw [if_neg e]
          rw [if_neg (fun z => e z.symm)] at hcn
          exact Ev_ret (Or.inr ⟨j - 1, _, by omega, rfl, rfl, q + 1, by omega, by rw [hcn, Int32.add_zero, nI_1]; rfl⟩)
    obtain ⟨t', r, e, rfl, rfl⟩ := hl
    exact e
  have hl : Ev (fl_X6_ask_l105 a1 a2 x2 (nI C) (nI tt) t (0, 0)) (fun t' r => t' = t ∧ ∃ M, r = nI M ∧ IM g M C C) := by
    unfold fl_X6_ask_l105
    refine Ev_it (I := fun j t' v => t' = t ∧ ∃ x M, x + j = C ∧ v = (nI M, nI x) ∧ IM g M C x) ?_ FU C (FU_gt (by omega)) t (0, 0) ⟨rfl, 0, 0, by omega, rfl, fun y hy => absurd hy (by omega), Or.inl ⟨rfl, rfl⟩⟩
    rintro j t' v ⟨rfl, x, M, hx, rfl, hM⟩
    dsimp only
    unfold fb_X6_ask_l105
    by_cases hxC : C ≤ x
    · rw [if_pos (by rw [nI_le' (by omega) (by omega)]; exact hxC)]
      have e : x = C := by omega
      subst e
      exact Ev_ret (Or.inl ⟨_, rfl, rfl, M, rfl, hM⟩)
    · rw [if_neg (by rw [nI_le' (by omega) (by omega)]; exact hxC), hin x (nI M) (by omega)]
      simp only [bn_so]
      have hMl := hM.le
      have hcl := cnt_le g (g x) C
      have := hM.nx
      by_cases e : cnt g C (g x) ≤ M
      · rw [if_pos (by rw [nI_le' (by omega) (by omega)]; exact e)]
        rw [if_pos e] at this
        exact Ev_ret (Or.inr ⟨j - 1, _, by omega, rfl, rfl, x + 1, M, by omega, by rw [nI_1], this⟩)
      · rw [if_neg (by rw [nI_le' (by omega) (by omega)]; exact e)]
        rw [if_neg e] at this
        exact Ev_ret (Or.inr ⟨j - 1, _, by omega, rfl, rfl, x + 1, _, by omega, by rw [nI_1], this⟩)
  obtain ⟨t', r, e, rfl, M, rfl, hM⟩ := hl
  exact ⟨M, e, hM⟩
/-- the reference's first part: who is open, and the heights of those -/
theorem open_m {c m : StA} {n P Q S i B : Nat} {a2 : Int32} (h : RR c m n P Q S) (hi : i < n) (hB : B < 1024) (h0 : B.testBit 0 = false) (hb : ∀ w, 1 ≤ w → w ≤ 9 → B.testBit w = mb m i w) : Ev (fl_X6_ask_l22 (nI i) a2 (nI i) a2 m (0, 1)) (fun t r => agQ DQm m t ∧ r = nI (rk B.testBit 10) ∧ ∀ w, 1 ≤ w → w ≤ 9 → B.testBit w = true → ∀ q, q < 31 → gi t 7 (31 * rk B.testBit w + q) = mH m i w q) := by
  have r1 : rk B.testBit 1 = 0 := by
    show 0 + (if B.testBit 0 = true then 1 else 0) = 0
    rw [h0]; rfl
  unfold fl_X6_ask_l22
  refine Ev_it (I := fun j t v => ∃ w, 1 ≤ w ∧ w + j = 10 ∧ v = (nI (rk B.testBit w), nI w) ∧ agQ DQm m t ∧ ∀ u, 1 ≤ u → u < w → B.testBit u = true → ∀ q, q < 31 → gi t 7 (31 * rk B.testBit u + q) = mH m i u q) ?_ FU 9 (FU_gt (by omega)) m (0, 1) ⟨1, by omega, by omega, by rw [r1]; rfl, agQ.rf m, fun u u1 u2 => absurd u1 (by omega)⟩
  rintro j t v ⟨w, hw1, hw, rfl, ha, hH⟩
  dsimp only
  unfold fb_X6_ask_l22
  by_cases hw10 : w < 10
  · rw [if_neg (show ¬ 9 < nI w by rw [show (9 : Int32) = nI 9 from rfl, nI_lt' (by omega) (by omega)]; omega)]
    obtain ⟨s1, s', t', hW, hq⟩ := with2 h hi (w := w) ⟨hw1, by omega⟩ (agQ.rf c) ha
    obtain ⟨-, -, -, -, w5, w6, -, -, w9⟩ := hW
    refine Ev_be (show f_X6_isSoWith (nI i) 1 (nI w) t = _ from w5) ?_
    have hrk : rk B.testBit (w + 1) = rk B.testBit w + if B.testBit w then 1 else 0 := rfl
    rw [← hb w hw1 (by omega)]
    cases hbw : B.testBit w
    · rw [if_pos (show bI false = 0 from rfl)]
      rw [hbw] at hrk
      have hrk' : rk B.testBit (w + 1) = rk B.testBit w := hrk
      refine Ev_ret (Or.inr ⟨j - 1, _, by omega, rfl, w + 1, by omega, by omega, by rw [hrk', nI_1], ha.tr w6, fun u u1 u2 u3 q hq2 => ?_⟩)
      by_cases e : u = w
      · rw [e, hbw] at u3; exact absurd u3 (by decide)
      · rw [w9]; exact hH u u1 (by omega) u3 q hq2
    · rw [if_neg (show ¬ bI true = 0 by decide)]
      rw [hbw] at hrk
      have hrk' : rk B.testBit (w + 1) = rk B.testBit w + 1 := hrk
      have hr8 : rk B.testBit w ≤ 8 := by
        have := rk_mono B.testBit (a := w) (b := 9) (by omega)
        have : rk B.testBit 9 ≤ 8 := by
          have hz : ∀ z, rk B.testBit (z + 1) ≤ z := fun z => by
            induction z with
            | zero => rw [r1]; exact Nat.le_refl 0
            | succ z ih =>
              show rk B.testBit (z + 1) + (if B.testBit (z + 1) = true then 1 else 0) ≤ z + 1
              split <;> omega
          exact hz 8
        omega
      have hl : Ev (fl_X6_ask_l43 (nI i) a2 (nI i) a2 (nI (rk B.testBit w)) (nI w) t' 0) (fun t2 _ => (∀ q, q < 31 → gi t2 7 (31 * rk B.testBit w + q) = gi t' 6 (0 + q)) ∧ eqC (fun x y => x = 7 ∧ 31 * rk B.testBit w ≤ y ∧ y < 31 * rk B.testBit w + 31) t' t2) := by
        unfold fl_X6_ask_l43
        refine cp_loop (by omega) (fun s q hq => ?_) (fun s => ?_) (Or.inl (by omega)) t'
        · unfold fb_X6_ask_l43
          rw [if_neg (show ¬ 30 < nI q by rw [show (30 : Int32) = nI 30 from rfl, nI_lt' (by omega) (by omega)]; omega), ix31, gd_n (show q < 31 by omega) (by omega), gd_n (show 31 * rk B.testBit w + q < 279 by omega) (by omega), tn_nI (show q < 2147483648 by omega), tn_nI (show 31 * rk B.testBit w + q < 2147483648 by omega), nI_1, Nat.zero_add]
          rfl
        · unfold fb_X6_ask_l43
          rw [if_pos (show (30 : Int32) < nI 31 by decide)]
      refine Ev_bn (Ev_mono hl ?_)
      rintro t2 _ ⟨k1, k2⟩
      refine Ev_ret (Or.inr ⟨j - 1, _, by omega, rfl, w + 1, by omega, by omega, by rw [hrk', nI_1, nI_1], (ha.tr w6).tr (k2.ag (fun x y z => by unfold DQm; omega)), fun u u1 u2 u3 q hq2 => ?_⟩)
      by_cases e : u = w
      · subst e
        rw [k1 q hq2, Nat.zero_add]
        exact hq q hq2
      · have hu : rk B.testBit u + 1 ≤ rk B.testBit w := by
          have : rk B.testBit (u + 1) = rk B.testBit u + if B.testBit u then 1 else 0 := rfl
          rw [u3] at this
          have h2 : rk B.testBit (u + 1) = rk B.testBit u + 1 := this
          rw [← h2]
          exact rk_mono B.testBit (by omega)
        rw [k2.1 _ _ (by omega), w9]
        exact hH u u1 (by omega) u3 q hq2
  · have e : w = 10 := by omega
    subst e
    rw [if_pos (show (9 : Int32) < nI 10 by decide)]
    exact Ev_ret (Or.inl ⟨_, rfl, ha, rfl, fun u u1 u2 => hH u u1 (by omega)⟩)
theorem mH_rg {c m : StA} {n P Q S i w q : Nat} (h : RR c m n P Q S) (hi : i < n) (hw : 1 ≤ w ∧ w ≤ 9) (hq : q < 31) : rg (mH m i w q) 0 60 := by
  obtain ⟨s1, s', t', hW, hz⟩ := with2 h hi hw (agQ.rf c) (agQ.rf m)
  obtain ⟨-, -, -, -, -, -, w7, w8, -⟩ := hW
  rw [← hz q hq, w7 q hq]
  exact w8 q hq
theorem sim_ask (a b : Int32) {c m : StA} (h : R0 c m) : E2 (f_X5_ask a b c) (f_X6_ask a b m) Fin := by
  have h0 := h
  obtain ⟨n, P, Q, S, h⟩ := h
  have hn := h.1.1
  unfold f_X5_ask f_X6_ask
  refine E2_ck (p := 0 ≤ a ∧ a ≤ nI n - 1) (by rw [e_hasThing, h.1.2.1]) (by rw [e_isThing, h.1.2.2.1]) (fun _ => ⟨rfl, h0⟩) (fun hp => ?_)
  refine E2_ck (e_isIn b 0 1 c) (e_isPart b m) (fun _ => ⟨rfl, h0⟩) (fun hp2 => ?_)
  obtain ⟨i, hi, rfl⟩ := ck_t (by omega) hp
  refine E2_lb (Ev_mono (vals_all h hi) ?_)
  rintro c1 _ ⟨a1, B, hB, rfl, hb0, hb⟩
  refine E2_lb (Ev_mono (fore_all (h.q a1 (agQ.rf m)) hi) ?_)
  rintro c2 _ ⟨a2, hH⟩
  refine E2_rb (Ev_mono (open_m (a2 := b) h hi hB hb0 hb) ?_)
  rintro m1 _ ⟨b1, rfl, hK⟩
  refine E2_le (e_bitc hB c2) ?_
  refine E2_le (e_begin _ c2) (E2_re (e_stJudge _ m1) ?_)
  have hc9 : rk B.testBit 10 ≤ 10 := rk_le _ _
  have hc9' : rk B.testBit 10 ≤ 9 := by
    have hz : ∀ z, rk B.testBit (z + 1) ≤ z := fun z => by
      induction z with
      | zero =>
        show 0 + (if B.testBit 0 = true then 1 else 0) ≤ 0
        rw [hb0]
        exact Nat.le_refl 0
      | succ z ih =>
        show rk B.testBit (z + 1) + (if B.testBit (z + 1) = true then 1 else 0) ≤ z + 1
        split <;> omega
    exact hz 9
  unfold fl_X5_ask_l48 fl_X6_ask_l92
  refine E2_bn (E2_mono (E2_it (I := fun j s v t w => ∃ q, q + j = 31 ∧ v = nI q ∧ w = nI q ∧ QI c m n P Q S 1000000 s t ∧ (∀ w, 1 ≤ w → w ≤ 9 → ∀ q, q < 31 → gi s (61 + w) q = mH m i w q) ∧ (∀ y, gi t 7 y = gi m1 7 y)) (Z := fun s _ t _ => QI c m n P Q S 1000000 s t) ?_ FU FU 31 (FU_gt (by omega)) (FU_gt (by omega)) _ 0 _ 0 ⟨0, by omega, rfl, rfl, ?_, fun w w1 w2 q hq => by rw [gi_nk (by omega), gi_nk (by omega)]; exact hH w w1 w2 q hq, fun y => by rw [gi_nk (by omega), gi_nk (by omega)]⟩) (fun s _ t _ q => q.end h))
  · rintro j s v t w ⟨q, hqj, rfl, rfl, hQ, hS, hT7⟩
    unfold fb_X5_ask_l48 fb_X6_ask_l92
    by_cases hq : q < 31
    · rw [if_neg (show ¬ 30 < nI q by rw [show (30 : Int32) = nI 30 from rfl, nI_lt' (by omega) (by omega)]; omega), if_neg (show ¬ 30 < nI q by rw [show (30 : Int32) = nI 30 from rfl, nI_lt' (by omega) (by omega)]; omega)]
      obtain ⟨M, e1, hM⟩ := most_c (s := s) (g := fun x => gi t 7 (31 * x + q)) hB hb0 hq (fun w w1 w2 w3 => by
        rw [hT7, hK w w1 w2 w3 q hq, hS w w1 w2 q hq])
      obtain ⟨M', e2, hM'⟩ := most_m (t := t) (a1 := nI i) (a2 := b) (x2 := b) (g := fun x => gi t 7 (31 * x + q)) hc9' hq (fun _ _ => rfl)
      have eM := hM.u hM'
      subst eM
      refine E2_le e1 (E2_re e2 ?_)
      have hC : Ch s t 1000000 := hQ.2.1
      have hMl := hM.le
      refine E2_bn (E2_mono (offer_rel (key := nI q) (a := nI M) (b := nI M) hC (by rw [ti_nI (by omega)]; omega) (by rw [million]; omega) (Or.inr ⟨rfl, by unfold rg; rw [ti_nI (by omega)]; omega⟩)) ?_)
      rintro s3 _ t3 _ ⟨d1, d2, d3⟩
      refine E2_ret (Or.inr ⟨j - 1, _, _, by omega, rfl, rfl, q + 1, by omega, nI_1 q, nI_1 q, hQ.nx (d2.ag dq7) (d3.ag dq6) d1, fun w w1 w2 q hq => ?_, fun y => ?_⟩)
      · rw [d2.1 _ _ (by unfold DCh; omega)]; exact hS w w1 w2 q hq
      · rw [d3.1 _ _ (by unfold DJm; omega)]; exact hT7 y
    · rw [if_pos (show 30 < nI q by rw [show (30 : Int32) = nI 30 from rfl, nI_lt' (by omega) (by omega)]; omega), if_pos (show 30 < nI q by rw [show (30 : Int32) = nI 30 from rfl, nI_lt' (by omega) (by omega)]; omega)]
      exact E2_ret (Or.inl ⟨_, _, rfl, rfl, hQ⟩)
  · have hI := QI.ini (a := nI (rk B.testBit 10)) (B := 1000000) (h.q (a1.tr a2) b1) (by rw [ti_nI (by omega), million]; omega)
    obtain ⟨i1, i2, i3, i4⟩ := hI
    exact ⟨i1, i2, (a1.tr a2).tr i3, b1.tr i4⟩
