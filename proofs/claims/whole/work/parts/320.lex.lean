/-! the text: tokens -/
def RU (f : Nat → Prop) (L p q : Nat) : Prop := p ≤ q ∧ q ≤ L ∧ (∀ j, p ≤ j → j < q → f j) ∧ (q < L → ¬ f q)
theorem RU.u {f : Nat → Prop} {L p q r : Nat} (h : RU f L p q) (h' : RU f L p r) : q = r := by
  obtain ⟨a1, a2, a3, a4⟩ := h
  obtain ⟨b1, b2, b3, b4⟩ := h'
  by_cases e : q < r
  · exact absurd (b3 q a1 e) (a4 (by omega))
  · by_cases e2 : r < q
    · exact absurd (a3 r b1 e2) (b4 (by omega))
    · omega
theorem RU.c {f g : Nat → Prop} {L p q : Nat} (h : RU f L p q) (hg : ∀ j, j < L → (f j ↔ g j)) : RU g L p q := by
  obtain ⟨a1, a2, a3, a4⟩ := h
  exact ⟨a1, a2, fun j j1 j2 => (hg j (by omega)).mp (a3 j j1 j2), fun z w => a4 z ((hg q z).mpr w)⟩
theorem e_run {s : StA} {L p : Nat} (a : Int32) (hL : L ≤ 160) (hp : p ≤ L) (h2 : gi s 47 2 = nI L) : ∃ q, RU (fun j => gi s 49 j = a) L p q ∧ f_X3_endOfRun a (nI p) s = some (s, nI q) := by
  have hl : Ev (fl_X3_endOfRun_l2 a (nI p) a s (nI p)) (fun s' e => s' = s ∧ ∃ q, e = nI q ∧ RU (fun j => gi s 49 j = a) L p q) := by
    unfold fl_X3_endOfRun_l2
    refine Ev_it (I := fun j s' v => s' = s ∧ ∃ i, i + j = L ∧ p ≤ i ∧ v = nI i ∧ ∀ x, p ≤ x → x < i → gi s 49 x = a) ?_ FU (L - p) (FU_gt (by omega)) s (nI p) ⟨rfl, p, by omega, by omega, rfl, fun x x1 x2 => absurd x1 (by omega)⟩
    rintro j s' v ⟨rfl, i, hij, hpi, rfl, hx⟩
    unfold fb_X3_endOfRun_l2
    rw [h2]
    by_cases hi : L ≤ i
    · rw [if_pos (by rw [nI_le' (by omega) (by omega)]; exact hi)]
      exact Ev_ret (Or.inl ⟨_, rfl, rfl, i, rfl, hpi, by omega, hx, fun z => absurd z (by omega)⟩)
    · rw [if_neg (by rw [nI_le' (by omega) (by omega)]; exact hi), gd_n (show i < 160 by omega) (by omega), tn_nI (by omega)]
      by_cases e : gi s' 49 i = a
      · rw [if_pos e]
        refine Ev_ret (Or.inr ⟨j - 1, _, by omega, rfl, rfl, i + 1, by omega, by omega, nI_1 i, fun x x1 x2 => ?_⟩)
        by_cases z : x = i
        · rw [z]; exact e
        · exact hx x x1 (by omega)
      · rw [if_neg e]
        exact Ev_ret (Or.inl ⟨_, rfl, rfl, i, rfl, hpi, by omega, hx, fun _ => e⟩)
  obtain ⟨s', e, e1, rfl, q, rfl, hq⟩ := hl
  refine ⟨q, hq, ?_⟩
  unfold f_X3_endOfRun
  rw [e1]
  rfl
def bt (t : StA) (L i : Nat) : Int32 := if L ≤ i then -1 else gi t 5 i
theorem e_byte {t : StA} {L i : Nat} (hL : L ≤ 160) (hi : i < 1000) (h : gi t 0 10 = nI L) : f_X6_byteAt (nI i) t = some (t, bt t L i) := by
  unfold f_X6_byteAt bt
  rw [h]
  by_cases e : L ≤ i
  · rw [if_pos e, if_pos (by rw [nI_le' (by omega) (by omega)]; exact e)]
  · rw [if_neg e, if_neg (by rw [nI_le' (by omega) (by omega)]; exact e), gd_n (show i < 160 by omega) (by omega), tn_nI (by omega)]
def D11 : Nat → Nat → Prop := fun x y => x = 0 ∧ y = 11
theorem m_run8 {t : StA} {L p : Nat} (hL : L ≤ 160) (hp : p ≤ L) (h10 : gi t 0 10 = nI L) (h11 : gi t 0 11 = nI p) : ∃ q t', RU (fun j => gi t 5 j = 32) L p q ∧ fl_X6_takes_l8 t () = some (t', ()) ∧ gi t' 0 11 = nI q ∧ eqC D11 t t' := by
  have hl : Ev (fl_X6_takes_l8 t ()) (fun t' _ => ∃ q, RU (fun j => gi t 5 j = 32) L p q ∧ gi t' 0 11 = nI q ∧ eqC D11 t t') := by
    unfold fl_X6_takes_l8
    refine Ev_it (I := fun j t' v => ∃ i, i + j = L ∧ p ≤ i ∧ gi t' 0 11 = nI i ∧ eqC D11 t t' ∧ ∀ x, p ≤ x → x < i → gi t 5 x = 32) ?_ FU (L - p) (FU_gt (by omega)) t () ⟨p, by omega, by omega, h11, eqC.rf t, fun x x1 x2 => absurd x1 (by omega)⟩
    rintro j t' v ⟨i, hij, hpi, hv, he, hx⟩
    unfold fb_X6_takes_l8
    have h10' : gi t' 0 10 = nI L := by rw [he.1 _ _ (by unfold D11; omega)]; exact h10
    rw [hv, e_byte hL (by omega) h10']
    simp only [bn_so]
    unfold bt
    rw [he.1 5 i (by unfold D11; omega)]
    by_cases hi : L ≤ i
    · rw [if_pos hi, if_neg (show ¬ (-1 : Int32) = 32 by decide)]
      exact Ev_ret (Or.inl ⟨_, rfl, i, ⟨hpi, by omega, hx, fun z => absurd z (by omega)⟩, hv, he⟩)
    · rw [if_neg hi]
      by_cases e : gi t 5 i = 32
      · rw [if_pos e]
        simp only [nms]
        refine Ev_ret (Or.inr ⟨j - 1, _, by omega, rfl, i + 1, by omega, by omega, by rw [gi_at, hv, nI_1], he.si ⟨rfl, rfl⟩, fun x x1 x2 => ?_⟩)
        by_cases z : x = i
        · rw [z]; exact e
        · exact hx x x1 (by omega)
      · rw [if_neg e]
        exact Ev_ret (Or.inl ⟨_, rfl, i, ⟨hpi, by omega, hx, fun _ => e⟩, hv, he⟩)
  obtain ⟨t', u, e1, q, hq⟩ := hl
  exact ⟨q, t', hq.1, e1, hq.2.1, hq.2.2⟩
theorem m_run82 {t : StA} {L p : Nat} (hL : L ≤ 160) (hp : p ≤ L) (h10 : gi t 0 10 = nI L) (h11 : gi t 0 11 = nI p) : ∃ q t', RU (fun j => 97 ≤ gi t 5 j ∧ gi t 5 j ≤ 122) L p q ∧ fl_X6_takes_l82 t () = some (t', ()) ∧ gi t' 0 11 = nI q ∧ eqC D11 t t' := by
  have hl : Ev (fl_X6_takes_l82 t ()) (fun t' _ => ∃ q, RU (fun j => 97 ≤ gi t 5 j ∧ gi t 5 j ≤ 122) L p q ∧ gi t' 0 11 = nI q ∧ eqC D11 t t') := by
    unfold fl_X6_takes_l82
    refine Ev_it (I := fun j t' v => ∃ i, i + j = L ∧ p ≤ i ∧ gi t' 0 11 = nI i ∧ eqC D11 t t' ∧ ∀ x, p ≤ x → x < i → 97 ≤ gi t 5 x ∧ gi t 5 x ≤ 122) ?_ FU (L - p) (FU_gt (by omega)) t () ⟨p, by omega, by omega, h11, eqC.rf t, fun x x1 x2 => absurd x1 (by omega)⟩
    rintro j t' v ⟨i, hij, hpi, hv, he, hx⟩
    unfold fb_X6_takes_l82
    have h10' : gi t' 0 10 = nI L := by rw [he.1 _ _ (by unfold D11; omega)]; exact h10
    rw [hv, e_byte hL (by omega) h10']
    simp only [bn_so]
    rw [e_in (y := 97) (z := 122) (b := 97) (c := 122) rfl rfl]
    simp only [bn_so]
    unfold bt
    rw [he.1 5 i (by unfold D11; omega)]
    by_cases hi : L ≤ i
    · rw [if_pos hi, if_neg (show ¬ ((97 : Int32) ≤ -1 ∧ (-1 : Int32) ≤ 122) by decide), if_pos rfl]
      exact Ev_ret (Or.inl ⟨_, rfl, i, ⟨hpi, by omega, hx, fun z => absurd z (by omega)⟩, hv, he⟩)
    · rw [if_neg hi]
      by_cases e : 97 ≤ gi t 5 i ∧ gi t 5 i ≤ 122
      · rw [if_pos e, if_neg (show ¬ (1 : Int32) = 0 by decide)]
        simp only [nms]
        refine Ev_ret (Or.inr ⟨j - 1, _, by omega, rfl, i + 1, by omega, by omega, by rw [gi_at, hv, nI_1], he.si ⟨rfl, rfl⟩, fun x x1 x2 => ?_⟩)
        by_cases z : x = i
        · rw [z]; exact e
        · exact hx x x1 (by omega)
      · rw [if_neg e, if_pos rfl]
        exact Ev_ret (Or.inl ⟨_, rfl, i, ⟨hpi, by omega, hx, fun _ => e⟩, hv, he⟩)
  obtain ⟨t', u, e1, q, hq⟩ := hl
  exact ⟨q, t', hq.1, e1, hq.2.1, hq.2.2⟩
def vN (f : Nat → Int32) (b : Nat) : Nat → Int32
  | 0 => 0
  | k + 1 => (10 * vN f b k + f (b + k)) - 48
theorem vN_c {f g : Nat → Int32} {b : Nat} : ∀ {k : Nat}, (∀ j, b ≤ j → j < b + k → f j = g j) → vN f b k = vN g b k
  | 0, _ => rfl
  | k + 1, h => by
    show (10 * vN f b k + f (b + k)) - 48 = (10 * vN g b k + g (b + k)) - 48
    rw [vN_c (fun j j1 j2 => h j j1 (by omega)), h (b + k) (by omega) (by omega)]
theorem e_val {s : StA} {b q : Nat} (hbq : b ≤ q) (hq : q ≤ 160) : f_X3_valueOf (nI b) (nI q) s = some (s, vN (gi s 48) b (q - b)) := by
  have hl : Ev (fl_X3_valueOf_l5 (nI b) (nI q) (nI q) s (0, nI b)) (fun s' e => s' = s ∧ e = vN (gi s 48) b (q - b)) := by
    unfold fl_X3_valueOf_l5
    refine Ev_it (I := fun j s' v => s' = s ∧ ∃ k, b + k + j = q ∧ v = (vN (gi s 48) b k, nI (b + k))) ?_ FU (q - b) (FU_gt (by omega)) s (0, nI b) ⟨rfl, 0, by omega, rfl⟩
    rintro j s' v ⟨rfl, k, hk, rfl⟩
    dsimp only
    unfold fb_X3_valueOf_l5
    by_cases hi : q ≤ b + k
    · rw [if_pos (by rw [nI_le' (by omega) (by omega)]; exact hi)]
      exact Ev_ret (Or.inl ⟨_, rfl, rfl, by rw [show q - b = k by omega]⟩)
    · rw [if_neg (by rw [nI_le' (by omega) (by omega)]; exact hi), gd_n (show b + k < 160 by omega) (by omega), tn_nI (by omega)]
      simp only [nmi]
      exact Ev_ret (Or.inr ⟨j - 1, _, by omega, rfl, rfl, k + 1, by omega, by rw [nI_1]; rfl⟩)
  obtain ⟨s', e, e1, rfl, rfl⟩ := hl
  unfold f_X3_valueOf
  rw [e1]
  rfl
def D1114 : Nat → Nat → Prop := fun x y => x = 0 ∧ (y = 11 ∨ y = 14)
theorem m_run140 {t : StA} {L b : Nat} (hL : L ≤ 160) (hp : b ≤ L) (h10 : gi t 0 10 = nI L) (h11 : gi t 0 11 = nI b) (h12 : gi t 0 12 = nI b) (h14 : gi t 0 14 = 0) : ∃ q t', RU (fun j => 48 ≤ gi t 5 j ∧ gi t 5 j ≤ 57) L b q ∧ fl_X6_takes_l140 t () = some (t', ()) ∧ gi t' 0 11 = nI q ∧ (q - b ≤ 2 → gi t' 0 14 = vN (gi t 5) b (q - b)) ∧ eqC D1114 t t' := by
  have hl : Ev (fl_X6_takes_l140 t ()) (fun t' _ => ∃ q, RU (fun j => 48 ≤ gi t 5 j ∧ gi t 5 j ≤ 57) L b q ∧ gi t' 0 11 = nI q ∧ (q - b ≤ 2 → gi t' 0 14 = vN (gi t 5) b (q - b)) ∧ eqC D1114 t t') := by
    unfold fl_X6_takes_l140
    refine Ev_it (I := fun j t' v => ∃ i, i + j = L ∧ b ≤ i ∧ gi t' 0 11 = nI i ∧ eqC D1114 t t' ∧ (i - b ≤ 2 → gi t' 0 14 = vN (gi t 5) b (i - b)) ∧ ∀ x, b ≤ x → x < i → 48 ≤ gi t 5 x ∧ gi t 5 x ≤ 57) ?_ FU (L - b) (FU_gt (by omega)) t () ⟨b, by omega, by omega, h11, eqC.rf t, fun _ => by rw [Nat.sub_self]; exact h14, fun x x1 x2 => absurd x1 (by omega)⟩
    rintro j t' v ⟨i, hij, hpi, hv, he, hval, hx⟩
    unfold fb_X6_takes_l140
    have h10' : gi t' 0 10 = nI L := by rw [he.1 _ _ (by unfold D1114; omega)]; exact h10
    have h12' : gi t' 0 12 = nI b := by rw [he.1 _ _ (by unfold D1114; omega)]; exact h12
    rw [hv, e_byte hL (by omega) h10']
    simp only [bn_so]
    rw [e_in (y := 48) (z := 57) (b := 48) (c := 57) rfl rfl]
    simp only [bn_so]
    unfold bt
    rw [he.1 5 i (by unfold D1114; omega)]
    by_cases hi : L ≤ i
    · rw [if_pos hi, if_neg (show ¬ ((48 : Int32) ≤ -1 ∧ (-1 : Int32) ≤ 57) by decide), if_pos rfl]
      exact Ev_ret (Or.inl ⟨_, rfl, i, ⟨hpi, by omega, hx, fun z => absurd z (by omega)⟩, hv, hval, he⟩)
    · rw [if_neg hi]
      by_cases e : 48 ≤ gi t 5 i ∧ gi t 5 i ≤ 57
      · rw [if_pos e, if_neg (show ¬ (1 : Int32) = 0 by decide), hv, h12', pk_sub hpi, e_byte hL (by omega) h10']
        simp only [bn_so, nms]
        unfold bt
        rw [if_neg hi, he.1 5 i (by unfold D1114; omega)]
        have nx : ∀ w, (i + 1 - b ≤ 2 → w = vN (gi t 5) b (i + 1 - b)) → Ev (some (si (si t' 0 14 w) 0 11 (gi (si t' 0 14 w) 0 11 + 1), (Sum.inl () : Unit ⊕ Unit))) (fun s' x => (∃ e, x = .inr e ∧ ∃ q, RU (fun j => 48 ≤ gi t 5 j ∧ gi t 5 j ≤ 57) L b q ∧ gi s' 0 11 = nI q ∧ (q - b ≤ 2 → gi s' 0 14 = vN (gi t 5) b (q - b)) ∧ eqC D1114 t s') ∨ (∃ j' v', j = j' + 1 ∧ x = .inl v' ∧ ∃ i, i + j' = L ∧ b ≤ i ∧ gi s' 0 11 = nI i ∧ eqC D1114 t s' ∧ (i - b ≤ 2 → gi s' 0 14 = vN (gi t 5) b (i - b)) ∧ ∀ x, b ≤ x → x < i → 48 ≤ gi t 5 x ∧ gi t 5 x ≤ 57)) := fun w hw => by
          refine Ev_ret (Or.inr ⟨j - 1, _, by omega, rfl, i + 1, by omega, by omega, by rw [gi_at, gi_nj (by omega), hv, nI_1], (he.si ⟨rfl, Or.inr rfl⟩).si ⟨rfl, Or.inl rfl⟩, fun z => ?_, fun x x1 x2 => ?_⟩)
          · rw [gi_nj (by omega), gi_at]; exact hw z
          · by_cases z : x = i
            · rw [z]; exact e
            · exact hx x x1 (by omega)
        by_cases e2 : 2 ≤ i - b
        · rw [if_pos (show 2 ≤ nI (i - b) by rw [show (2 : Int32) = nI 2 from rfl, nI_le' (by omega) (by omega)]; exact e2)]
          exact nx _ (fun z => absurd z (by omega))
        · rw [if_neg (show ¬ 2 ≤ nI (i - b) by rw [show (2 : Int32) = nI 2 from rfl, nI_le' (by omega) (by omega)]; exact e2)]
          refine nx _ (fun _ => ?_)
          rw [hval (by omega), show i + 1 - b = (i - b) + 1 by omega]
          show _ = (10 * vN (gi t 5) b (i - b) + gi t 5 (b + (i - b))) - 48
          rw [show b + (i - b) = i by omega]
      · rw [if_neg e, if_pos rfl]
        exact Ev_ret (Or.inl ⟨_, rfl, i, ⟨hpi, by omega, hx, fun _ => e⟩, hv, hval, he⟩)
  obtain ⟨t', u, e1, q, hq⟩ := hl
  exact ⟨q, t', hq.1, e1, hq.2.1, hq.2.2.1, hq.2.2.2⟩
theorem srt_k : ∀ k, k < 128 → (srt (nI k) = 1 ↔ 97 ≤ nI k ∧ nI k ≤ 122) ∧ (srt (nI k) = 2 ↔ 48 ≤ nI k ∧ nI k ≤ 57) ∧ (srt (nI k) = 3 ↔ nI k = 59) ∧ (srt (nI k) = 4 ↔ nI k = 32) ∧ (srt (nI k) = 1 ∨ srt (nI k) = 2 ∨ srt (nI k) = 3 ∨ srt (nI k) = 4 ∨ srt (nI k) = 5) ∧ 0 ≤ nI k := by decide +kernel
theorem srt_x {x : Int32} (h : rg x 0 127) : (srt x = 1 ↔ 97 ≤ x ∧ x ≤ 122) ∧ (srt x = 2 ↔ 48 ≤ x ∧ x ≤ 57) ∧ (srt x = 3 ↔ x = 59) ∧ (srt x = 4 ↔ x = 32) ∧ (srt x = 1 ∨ srt x = 2 ∨ srt x = 3 ∨ srt x = 4 ∨ srt x = 5) ∧ 0 ≤ x := by
  obtain ⟨k, hk, rfl⟩ := rg_nI h
  exact srt_k k (by omega)
/-- the tape, and where both are -/
def TP (s t : StA) (L : Nat) : Prop := L ≤ 160 ∧ gi s 47 2 = nI L ∧ gi t 0 10 = nI L ∧ ∀ j, j < L → gi s 48 j = gi t 5 j ∧ rg (gi s 48 j) 0 127 ∧ gi s 49 j = srt (gi s 48 j)
def TB (s t : StA) (L p : Nat) : Prop := TP s t L ∧ p ≤ L ∧ gi s 47 5 = nI p ∧ gi t 0 11 = nI p ∧ gi t 0 15 = 0 ∧ gi s 47 3 = 0
def TK (s t : StA) (L b p : Nat) (tok : Int32) : Prop := TB s t L p ∧ b ≤ p ∧ gi s 47 7 = nI b ∧ gi t 0 12 = nI b ∧ gi s 47 6 = tok ∧ gi t 0 13 = tok ∧ (tok = 2 → gi s 47 8 = gi t 0 14) ∧ (¬ tok = 0 → b < p)
def FT (s t : StA) : Prop := gi s 47 3 = gi t 0 15 ∧ 0 < (gi t 0 15).toInt ∧ ∃ b, b ≤ 160 ∧ gi s 47 4 = nI b ∧ gi t 0 16 = nI b
def LXc : Nat → Nat → Prop := fun x y => x = 47 ∧ 3 ≤ y ∧ y ≤ 8
def LXm : Nat → Nat → Prop := fun x y => x = 0 ∧ 11 ≤ y ∧ y ≤ 16
theorem TP.frm {s t s' t' : StA} {L : Nat} (h : TP s t L) (h1 : gi s' 47 2 = gi s 47 2) (h2 : gi t' 0 10 = gi t 0 10) (h3 : ∀ j, gi s' 48 j = gi s 48 j) (h4 : ∀ j, gi s' 49 j = gi s 49 j) (h5 : ∀ j, gi t' 5 j = gi t 5 j) : TP s' t' L := by
  obtain ⟨a1, a2, a3, a4⟩ := h
  exact ⟨a1, by rw [h1]; exact a2, by rw [h2]; exact a3, fun j hj => by rw [h3, h4, h5]; exact a4 j hj⟩
theorem TP.lx {s t s' t' : StA} {L : Nat} (h : TP s t L) (h1 : eqC LXc s s') (h2 : eqC LXm t t') : TP s' t' L := h.frm (h1.1 _ _ (by unfold LXc; omega)) (h2.1 _ _ (by unfold LXm; omega)) (fun _ => h1.1 _ _ (by unfold LXc; omega)) (fun _ => h1.1 _ _ (by unfold LXc; omega)) (fun _ => h2.1 _ _ (by unfold LXm; omega))
theorem lex {s t : StA} {L p : Nat} (h : TB s t L p) : ∃ s' r t', f_X3_nextToken s = some (s', r) ∧ f_X6_takes t = some (t', ()) ∧ eqC LXc s s' ∧ eqC LXm t t' ∧ ((r = 1 ∧ ∃ b p' tok, p ≤ b ∧ TK s' t' L b p' tok) ∨ (r = 0 ∧ FT s' t')) := by
  obtain ⟨hT, hp, h5, h11, h15, h3⟩ := h
  obtain ⟨hL, h2, h10, hb⟩ := id hT
  obtain ⟨b, hb1, eb⟩ := e_run (s := s) 4 hL hp h2
  obtain ⟨b', t1, hb2, et, u1, u2⟩ := m_run8 (t := t) hL hp h10 h11
  have hbb : b' = b := hb2.u (hb1.c (fun j hj => by
    obtain ⟨k1, k2, k3⟩ := hb j hj
    rw [k3, (srt_x k2).2.2.2.1, k1]))
  subst hbb
  obtain ⟨c1, c2, c3, c4⟩ := hb1
  -- the class's state at the token, the reference's
  have fr : ∀ {x y : StA}, eqC D11 x y → eqC LXm x y := fun q => q.mono (fun x y z => ⟨z.1, by have := z.2; omega⟩)
  have fr2 : ∀ {x y : StA}, eqC D1114 x y → eqC LXm x y := fun q => q.mono (fun x y z => ⟨z.1, by have := z.2; omega, by have := z.2; omega⟩)
  have A : eqC LXc s (si (si s 47 5 (nI b')) 47 7 (nI b')) := ((eqC.rf s).si ⟨rfl, by omega, by omega⟩).si ⟨rfl, by omega, by omega⟩
  have B : eqC LXm t (si t1 0 12 (nI b')) := (fr u2).si ⟨rfl, by omega, by omega⟩
  unfold f_X3_nextToken f_X6_takes
  rw [h5, eb, h15, if_pos (show (0 : Int32) ≤ 0 by decide), et]
  simp only [bn_so, nms]
  rw [gi_at, u1]
  generalize hS : si (si s 47 5 (nI b')) 47 7 (nI b') = S at A ⊢
  generalize hR : si t1 0 12 (nI b') = R at B ⊢
  have S5 : gi S 47 5 = nI b' := by rw [← hS, gi_nj (by omega), gi_at]
  have S7 : gi S 47 7 = nI b' := by rw [← hS, gi_at]
  have S2 : gi S 47 2 = nI L := by rw [A.1 _ _ (by unfold LXc; omega)]; exact h2
  have S3 : gi S 47 3 = 0 := by rw [← hS, gi_nj (by omega), gi_nj (by omega)]; exact h3
  have R11 : gi R 0 11 = nI b' := by rw [← hR, gi_nj (by omega)]; exact u1
  have R12 : gi R 0 12 = nI b' := by rw [← hR, gi_at]
  have R10 : gi R 0 10 = nI L := by rw [B.1 _ _ (by unfold LXm; omega)]; exact h10
  have R15 : gi R 0 15 = 0 := by rw [← hR, gi_nj (by omega), u2.1 _ _ (by unfold D11; omega)]; exact h15
  have R5 : ∀ j, gi R 5 j = gi t 5 j := fun j => B.1 _ _ (by unfold LXm; omega)
  have S49 : ∀ j, gi S 49 j = gi s 49 j := fun j => A.1 _ _ (by unfold LXc; omega)
  have S48 : ∀ j, gi S 48 j = gi s 48 j := fun j => A.1 _ _ (by unfold LXc; omega)
  rw [S2, S5, R11, e_byte hL (by omega) R10]
  simp only [bn_so]
  have hPS : TP S R L := hT.lx A B
  by_cases hbL : L ≤ b'
  · have e : b' = L := by omega
    subst e
    rw [if_pos (by rw [nI_le' (by omega) (by omega)]; exact hbL), show bt R b' b' = -1 by unfold bt; rw [if_pos hbL], if_neg (show ¬ (0 : Int32) ≤ -1 by decide)]
    unfold fj_X3_nextToken_j46
    simp only [nms, nmi]
    rw [gi_at, if_pos (show (0 : Int32) = 0 from rfl)]
    refine ⟨_, _, _, rfl, rfl, A.si ⟨rfl, by omega, by omega⟩, B.si ⟨rfl, by omega, by omega⟩, Or.inl ⟨rfl, b', b', 0, c1, ⟨?_, hbL, ?_, ?_, gi_at _ _ _ _, gi_at _ _ _ _, fun z => absurd z (by decide), fun z => absurd rfl z⟩⟩⟩
    · refine ⟨hT.lx (A.si ⟨rfl, by omega, by omega⟩) (B.si ⟨rfl, by omega, by omega⟩), hbL, ?_, ?_, ?_, ?_⟩
      · rw [gi_nj (by omega)]; exact S5
      · rw [gi_nj (by omega)]; exact R11
      · rw [gi_nj (by omega)]; exact R15
      · rw [gi_nj (by omega)]; exact S3
    · rw [gi_nj (by omega)]; exact S7
    · rw [gi_nj (by omega)]; exact R12
  · rw [if_neg (by rw [nI_le' (by omega) (by omega)]; exact hbL), gd_n (show b' < 160 by omega) (by omega), tn_nI (by omega), show bt R L b' = gi R 5 b' by unfold bt; rw [if_neg hbL], R5, S49]
    obtain ⟨k1, k2, k3⟩ := hb b' (by omega)
    obtain ⟨x1, x2, x3, x4, x5, x6⟩ := srt_x k2
    have n4 : ¬ srt (gi s 48 b') = 4 := fun z => c4 (by omega) (by dsimp only; rw [k3]; exact z)
    rw [← k1, if_pos x6, k3]
    rw [e_in (y := 97) (z := 122) (b := 97) (c := 122) rfl rfl]
    simp only [bn_so]
    unfold fj_X3_nextToken_j46
    simp only [nms, nmi]
    rw [gi_at]
    by_cases q1 : srt (gi s 48 b') = 1
    · rw [q1, if_neg (show ¬ (1 : Int32) = 0 by decide), if_pos (show (1 : Int32) = 1 from rfl), if_pos (x1.mp q1), if_neg (show ¬ (1 : Int32) = 0 by decide)]
      obtain ⟨p', hp1, ep⟩ := e_run (s := si S 47 6 1) (p := b') 1 hL (by omega) (by rw [gi_nj (by omega)]; exact S2)
      obtain ⟨p2, t2, hp2, et2, v1, v2⟩ := m_run82 (t := si R 0 13 1) (p := b') hL (by omega) (by rw [gi_nj (by omega)]; exact R10) (by rw [gi_nj (by omega)]; exact R11)
      have hpp : p2 = p' := hp2.u (hp1.c (fun j hj => by
        obtain ⟨k1, k2, k3⟩ := hb j hj
        rw [gi_nk (by omega), gi_nk (by omega), S49, R5, k3, (srt_x k2).1, k1]))
      subst hpp
      rw [gi_nj (show (5 : Nat) ≠ 6 by omega), S5, ep, et2]
      simp only [bn_so, nms]
      have A2 : eqC LXc s (si (si S 47 6 1) 47 5 (nI p2)) := (A.si ⟨rfl, by omega, by omega⟩).si ⟨rfl, by omega, by omega⟩
      have B2 : eqC LXm t t2 := (B.si ⟨rfl, by omega, by omega⟩).tr (fr v2)
      have hlt : b' < p2 := by
        obtain ⟨y1, y2, y3, y4⟩ := hp2
        by_cases z : b' < p2
        · exact z
        · have : p2 = b' := by omega
          subst this
          exact absurd (by dsimp only; rw [gi_nk (by omega), R5, ← k1]; exact x1.mp q1) (y4 (by omega))
      refine ⟨_, _, _, rfl, rfl, A2, B2, Or.inl ⟨rfl, b', p2, 1, c1, ⟨⟨hT.lx A2 B2, hp2.2.1, gi_at _ _ _ _, v1, ?_, ?_⟩, by omega, ?_, ?_, ?_, ?_, fun z => absurd z (by decide), fun _ => hlt⟩⟩⟩
      · rw [v2.1 _ _ (by unfold D11; omega), gi_nj (by omega)]; exact R15
      · rw [gi_nj (by omega), gi_nj (by omega)]; exact S3
      · rw [gi_nj (by omega), gi_nj (by omega)]; exact S7
      · rw [v2.1 _ _ (by unfold D11; omega), gi_nj (by omega)]; exact R12
      · rw [gi_nj (by omega), gi_at]
      · rw [v2.1 _ _ (by unfold D11; omega), gi_at]
    · rw [if_neg (show ¬ (97 ≤ gi s 48 b' ∧ gi s 48 b' ≤ 122) from fun z => q1 (x1.mpr z)), if_pos (show (0 : Int32) = 0 from rfl), e_in (y := 48) (z := 57) (b := 48) (c := 57) rfl rfl]
      simp only [bn_so]
      by_cases q2 : srt (gi s 48 b') = 2
      · rw [q2, if_neg (show ¬ (2 : Int32) = 0 by decide), if_neg (show ¬ (2 : Int32) = 1 by decide), if_pos (show (2 : Int32) = 2 from rfl), if_pos (x2.mp q2), if_neg (show ¬ (1 : Int32) = 0 by decide)]
        obtain ⟨p', hp1, ep⟩ := e_run (s := si S 47 6 2) (p := b') 2 hL (by omega) (by rw [gi_nj (by omega)]; exact S2)
        obtain ⟨p2, t2, hp2, et2, v1, v3, v2⟩ := m_run140 (t := si (si R 0 13 2) 0 14 0) (b := b') hL (by omega) (by rw [gi_nj (by omega), gi_nj (by omega)]; exact R10) (by rw [gi_nj (by omega), gi_nj (by omega)]; exact R11) (by rw [gi_nj (by omega), gi_nj (by omega)]; exact R12) (gi_at _ _ _ _)
        have hpp : p2 = p' := hp2.u (hp1.c (fun j hj => by
          obtain ⟨k1, k2, k3⟩ := hb j hj
          rw [gi_nk (by omega), gi_nk (by omega), gi_nk (by omega), S49, R5, k3, (srt_x k2).2.1, k1]))
        subst hpp
        rw [gi_nj (show (5 : Nat) ≠ 6 by omega), S5, ep, et2]
        simp only [bn_so, nms]
        have hp2L := hp2.2.1
        have hp2b := hp2.1
        have W7 : gi (si (si S 47 6 2) 47 5 (nI p2)) 47 7 = nI b' := by rw [gi_nj (by omega), gi_nj (by omega)]; exact S7
        rw [W7, gi_at, e_val (by omega) (by omega)]
        simp only [bn_so, nms]
        have A2 : eqC LXc s (si (si (si S 47 6 2) 47 5 (nI p2)) 47 8 (vN (gi (si (si S 47 6 2) 47 5 (nI p2)) 48) b' (p2 - b'))) := ((A.si ⟨rfl, by omega, by omega⟩).si ⟨rfl, by omega, by omega⟩).si ⟨rfl, by omega, by omega⟩
        have B2 : eqC LXm t t2 := ((B.si ⟨rfl, by omega, by omega⟩).si ⟨rfl, by omega, by omega⟩).tr (fr2 v2)
        have T12 : gi t2 0 12 = nI b' := by rw [v2.1 _ _ (by unfold D1114; omega), gi_nj (by omega), gi_nj (by omega)]; exact R12
        have T15 : gi t2 0 15 = 0 := by rw [v2.1 _ _ (by unfold D1114; omega), gi_nj (by omega), gi_nj (by omega)]; exact R15
        rw [gi_nj (show (5 : Nat) ≠ 8 by omega), gi_at, gi_nj (show (7 : Nat) ≠ 8 by omega), W7, v1, T12, pk_sub hp2b]
        have hlt : b' < p2 := by
          obtain ⟨y1, y2, y3, y4⟩ := hp2
          by_cases z : b' < p2
          · exact z
          · have : p2 = b' := by omega
            subst this
            exact absurd (by dsimp only; rw [gi_nk (by omega), gi_nk (by omega), R5, ← k1]; exact x2.mp q2) (y4 (by omega))
        by_cases hd : p2 - b' ≤ 2
        · rw [if_pos (show nI (p2 - b') ≤ 2 by rw [show (2 : Int32) = nI 2 from rfl, nI_le' (by omega) (by omega)]; exact hd), if_neg (show ¬ 2 < nI (p2 - b') by rw [show (2 : Int32) = nI 2 from rfl, nI_lt' (by omega) (by omega)]; omega)]
          refine ⟨_, _, _, rfl, rfl, A2, B2, Or.inl ⟨rfl, b', p2, 2, c1, ⟨⟨hT.lx A2 B2, hp2.2.1, ?_, v1, T15, ?_⟩, by omega, ?_, T12, ?_, ?_, fun _ => ?_, fun _ => hlt⟩⟩⟩
          · rw [gi_nj (by omega), gi_at]
          · rw [gi_nj (by omega), gi_nj (by omega), gi_nj (by omega)]; exact S3
          · rw [gi_nj (by omega)]; exact W7
          · rw [gi_nj (by omega), gi_nj (by omega), gi_at]
          · rw [v2.1 _ _ (by unfold D1114; omega), gi_nj (by omega), gi_at]
          · rw [gi_at, v3 hd]
            refine vN_c (fun j j1 j2 => ?_)
            rw [gi_nk (by omega), gi_nk (by omega), gi_nk (by omega), gi_nk (by omega), S48, R5]
            exact (hb j (by omega)).1
        · rw [if_neg (show ¬ nI (p2 - b') ≤ 2 by rw [show (2 : Int32) = nI 2 from rfl, nI_le' (by omega) (by omega)]; exact hd), if_pos (show 2 < nI (p2 - b') by rw [show (2 : Int32) = nI 2 from rfl, nI_lt' (by omega) (by omega)]; omega)]
          unfold f_X3_failAt f_X6_needs
          simp only [nms, bn_so]
          rw [T15, if_pos rfl]
          simp only [if_true, bn_so]
          refine ⟨_, _, _, rfl, rfl, (A2.si ⟨rfl, by omega, by omega⟩).si ⟨rfl, by omega, by omega⟩, (B2.si ⟨rfl, by omega, by omega⟩).si ⟨rfl, by omega, by omega⟩, Or.inr ⟨rfl, ?_, ?_, b', by omega, ?_, ?_⟩⟩
          · rw [gi_at, gi_nj (by omega), gi_at]
          · rw [gi_nj (by omega), gi_at]; decide
          · rw [gi_nj (by omega), gi_at]
          · rw [gi_at, gi_nj (by omega)]; exact T12
      · rw [if_neg (show ¬ (48 ≤ gi s 48 b' ∧ gi s 48 b' ≤ 57) from fun z => q2 (x2.mpr z)), if_pos (show (0 : Int32) = 0 from rfl)]
        unfold fj_X6_takes_j260 f_X6_needs
        by_cases q3 : srt (gi s 48 b') = 3
        · rw [q3, if_neg (show ¬ (3 : Int32) = 0 by decide), if_neg (show ¬ (3 : Int32) = 1 by decide), if_neg (show ¬ (3 : Int32) = 2 by decide), if_pos (show (3 : Int32) = 3 from rfl), if_pos (x3.mp q3), if_neg (show ¬ (1 : Int32) = 0 by decide)]
          simp only [bn_so, nms]
          rw [gi_nj (show (5 : Nat) ≠ 6 by omega), S5, gi_nj (show (11 : Nat) ≠ 13 by omega), R11, nI_1]
          have A2 : eqC LXc s (si (si S 47 6 3) 47 5 (nI (b' + 1))) := (A.si ⟨rfl, by omega, by omega⟩).si ⟨rfl, by omega, by omega⟩
          have B2 : eqC LXm t (si (si R 0 13 3) 0 11 (nI (b' + 1))) := (B.si ⟨rfl, by omega, by omega⟩).si ⟨rfl, by omega, by omega⟩
          refine ⟨_, _, _, rfl, rfl, A2, B2, Or.inl ⟨rfl, b', b' + 1, 3, c1, ⟨⟨hT.lx A2 B2, by omega, gi_at _ _ _ _, gi_at _ _ _ _, ?_, ?_⟩, by omega, ?_, ?_, ?_, ?_, fun z => absurd z (by decide), fun _ => by omega⟩⟩⟩
          · rw [gi_nj (by omega), gi_nj (by omega)]; exact R15
          · rw [gi_nj (by omega), gi_nj (by omega)]; exact S3
          · rw [gi_nj (by omega), gi_nj (by omega)]; exact S7
          · rw [gi_nj (by omega), gi_nj (by omega)]; exact R12
          · rw [gi_nj (by omega), gi_at]
          · rw [gi_nj (by omega), gi_at]
        · have q5 : srt (gi s 48 b') = 5 := by
            rcases x5 with z | z | z | z | z
            · exact absurd z q1
            · exact absurd z q2
            · exact absurd z q3
            · exact absurd z n4
            · exact z
          rw [q5, if_neg (show ¬ (5 : Int32) = 0 by decide), if_neg (show ¬ (5 : Int32) = 1 by decide), if_neg (show ¬ (5 : Int32) = 2 by decide), if_neg (show ¬ (5 : Int32) = 3 by decide), if_neg (show ¬ gi s 48 b' = 59 from fun z => q3 (x3.mpr z)), if_pos (show (0 : Int32) = 0 from rfl)]
          unfold f_X3_failAt
          simp only [bn_so, nms]
          rw [gi_nj (show (15 : Nat) ≠ 13 by omega), R15, if_pos rfl, gi_nj (show (7 : Nat) ≠ 6 by omega), S7]
          simp only [bn_so]
          refine ⟨_, _, _, rfl, rfl, ((A.si ⟨rfl, by omega, by omega⟩).si ⟨rfl, by omega, by omega⟩).si ⟨rfl, by omega, by omega⟩, (((B.si ⟨rfl, by omega, by omega⟩).si ⟨rfl, by omega, by omega⟩).si ⟨rfl, by omega, by omega⟩).si ⟨rfl, by omega, by omega⟩, Or.inr ⟨rfl, ?_, ?_, b', by omega, ?_, ?_⟩⟩
          · rw [gi_at, gi_nj (by omega), gi_nj (by omega), gi_at]
          · rw [gi_nj (by omega), gi_nj (by omega), gi_at]; decide
          · rw [gi_nj (by omega), gi_at]
          · rw [gi_nj (by omega), gi_at, gi_nj (by omega), gi_nj (by omega)]; exact R12
