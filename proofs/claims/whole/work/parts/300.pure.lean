/-! Reasoning about the functions: one run (Ev), two runs side by side (E2). -/
def Ev {α : Type} (o : Option (StA × α)) (Q : StA → α → Prop) : Prop := ∃ s a, o = some (s, a) ∧ Q s a
def E2 {α β : Type} (o : Option (StA × α)) (p : Option (StA × β)) (Q : StA → α → StA → β → Prop) : Prop := ∃ s a t b, o = some (s, a) ∧ p = some (t, b) ∧ Q s a t b
section PU
variable {α β γ δ : Type}
theorem Ev_ret {s : StA} {a : α} {Q : StA → α → Prop} (h : Q s a) : Ev (some (s, a)) Q := ⟨s, a, rfl, h⟩
theorem Ev_bn {o : Option (StA × α)} {k : StA → α → Option (StA × β)} {Q : StA → β → Prop} (h : Ev o (fun s a => Ev (k s a) Q)) : Ev (bn o k) Q := by
  obtain ⟨s, a, e, h⟩ := h
  rw [e]
  exact h
theorem Ev_be {o : Option (StA × α)} {k : StA → α → Option (StA × β)} {Q : StA → β → Prop} {s : StA} {a : α} (e : o = some (s, a)) (h : Ev (k s a) Q) : Ev (bn o k) Q := by
  rw [e]
  exact h
theorem Ev_mono {o : Option (StA × α)} {Q Q' : StA → α → Prop} (h : Ev o Q) (hq : ∀ s a, Q s a → Q' s a) : Ev o Q' := by
  obtain ⟨s, a, e, h⟩ := h
  exact ⟨s, a, e, hq s a h⟩
theorem Ev_nmi {v : Int32} {k : Int32 → Option (StA × α)} {Q : StA → α → Prop} (h : Ev (k v) Q) : Ev (nmi v k) Q := h
theorem Ev_nml {v : Int64} {k : Int64 → Option (StA × α)} {Q : StA → α → Prop} (h : Ev (k v) Q) : Ev (nml v k) Q := h
theorem Ev_nms {v : StA} {k : StA → Option (StA × α)} {Q : StA → α → Prop} (h : Ev (k v) Q) : Ev (nms v k) Q := h
theorem Ev_gd {i : Int32} {n : Nat} {k : Option (StA × α)} {Q : StA → α → Prop} (hi : 0 ≤ i.toInt ∧ i.toInt < (n : Int)) (h : Ev k Q) : Ev (gd i n k) Q := by
  unfold gd
  rw [if_pos hi]
  exact h
theorem Ev_gz {x : Int32} {k : Option (StA × α)} {Q : StA → α → Prop} (hi : x = 0 ∨ x = 1) (h : Ev k Q) : Ev (gz x k) Q := by
  unfold gz
  rw [if_pos hi]
  exact h
theorem Ev_ite {c : Prop} [Decidable c] {a b : Option (StA × α)} {Q : StA → α → Prop} (h1 : c → Ev a Q) (h2 : ¬ c → Ev b Q) : Ev (if c then a else b) Q := by
  by_cases h : c
  · rw [if_pos h]; exact h1 h
  · rw [if_neg h]; exact h2 h
theorem Ev_it {V W : Type} {b : StA → V → Option (StA × (V ⊕ W))} {I : Nat → StA → V → Prop} {Z : StA → W → Prop} (h : ∀ j s v, I j s v → Ev (b s v) (fun s' x => (∃ e, x = .inr e ∧ Z s' e) ∨ (∃ j' v', j = j' + 1 ∧ x = .inl v' ∧ I j' s' v'))) : ∀ (N j : Nat), j < N → ∀ s v, I j s v → Ev (it b N s v) Z
  | 0, _, h0, _, _, _ => absurd h0 (by omega)
  | N + 1, j, hj, s, v, hI => by
    obtain ⟨s', x, e, hx⟩ := h j s v hI
    unfold it
    rw [e]
    rcases hx with ⟨e', rfl, hz⟩ | ⟨j', v', rfl, rfl, hi⟩
    · exact ⟨s', e', rfl, hz⟩
    · exact Ev_it h N j' (by omega) s' v' hi
theorem E2_ret {s t : StA} {a : α} {b : β} {Q : StA → α → StA → β → Prop} (h : Q s a t b) : E2 (some (s, a)) (some (t, b)) Q := ⟨s, a, t, b, rfl, rfl, h⟩
theorem E2_mono {o : Option (StA × α)} {p : Option (StA × β)} {Q Q' : StA → α → StA → β → Prop} (h : E2 o p Q) (hq : ∀ s a t b, Q s a t b → Q' s a t b) : E2 o p Q' := by
  obtain ⟨s, a, t, b, e, f, h⟩ := h
  exact ⟨s, a, t, b, e, f, hq s a t b h⟩
theorem E2_bn {o : Option (StA × α)} {p : Option (StA × β)} {k : StA → α → Option (StA × γ)} {l : StA → β → Option (StA × δ)} {Q : StA → γ → StA → δ → Prop} (h : E2 o p (fun s a t b => E2 (k s a) (l t b) Q)) : E2 (bn o k) (bn p l) Q := by
  obtain ⟨s, a, t, b, e, f, h⟩ := h
  rw [e, f]
  exact h
theorem E2_l {o : Option (StA × α)} {p : Option (StA × β)} {Q : StA → α → StA → β → Prop} (h : Ev o (fun s a => Ev p (fun t b => Q s a t b))) : E2 o p Q := by
  obtain ⟨s, a, e, t, b, f, h⟩ := h
  exact ⟨s, a, t, b, e, f, h⟩
theorem E2_lb {o : Option (StA × α)} {p : Option (StA × β)} {k : StA → α → Option (StA × γ)} {Q : StA → γ → StA → β → Prop} (h : Ev o (fun s a => E2 (k s a) p Q)) : E2 (bn o k) p Q := by
  obtain ⟨s, a, e, h⟩ := h
  rw [e]
  exact h
theorem E2_rb {o : Option (StA × α)} {p : Option (StA × β)} {l : StA → β → Option (StA × δ)} {Q : StA → α → StA → δ → Prop} (h : Ev p (fun t b => E2 o (l t b) Q)) : E2 o (bn p l) Q := by
  obtain ⟨s, a, e, h⟩ := h
  rw [e]
  exact h
theorem E2_le {o : Option (StA × α)} {p : Option (StA × β)} {k : StA → α → Option (StA × γ)} {Q : StA → γ → StA → β → Prop} {s : StA} {a : α} (e : o = some (s, a)) (h : E2 (k s a) p Q) : E2 (bn o k) p Q := by
  rw [e]
  exact h
theorem E2_re {o : Option (StA × α)} {p : Option (StA × β)} {l : StA → β → Option (StA × δ)} {Q : StA → α → StA → δ → Prop} {s : StA} {a : β} (e : p = some (s, a)) (h : E2 o (l s a) Q) : E2 o (bn p l) Q := by
  rw [e]
  exact h
theorem E2_lgd {i : Int32} {n : Nat} {k : Option (StA × α)} {p : Option (StA × β)} {Q : StA → α → StA → β → Prop} (hi : 0 ≤ i.toInt ∧ i.toInt < (n : Int)) (h : E2 k p Q) : E2 (gd i n k) p Q := by
  unfold gd
  rw [if_pos hi]
  exact h
theorem E2_rgd {i : Int32} {n : Nat} {k : Option (StA × α)} {p : Option (StA × β)} {Q : StA → β → StA → α → Prop} (hi : 0 ≤ i.toInt ∧ i.toInt < (n : Int)) (h : E2 p k Q) : E2 p (gd i n k) Q := by
  unfold gd
  rw [if_pos hi]
  exact h
theorem E2_lgz {x : Int32} {k : Option (StA × α)} {p : Option (StA × β)} {Q : StA → α → StA → β → Prop} (hi : x = 0 ∨ x = 1) (h : E2 k p Q) : E2 (gz x k) p Q := by
  unfold gz
  rw [if_pos hi]
  exact h
theorem E2_rgz {x : Int32} {k : Option (StA × α)} {p : Option (StA × β)} {Q : StA → β → StA → α → Prop} (hi : x = 0 ∨ x = 1) (h : E2 p k Q) : E2 p (gz x k) Q := by
  unfold gz
  rw [if_pos hi]
  exact h
/-- two loops in step: j is what is left to go at most -/
theorem E2_it {V W V2 W2 : Type} {b : StA → V → Option (StA × (V ⊕ W))} {b2 : StA → V2 → Option (StA × (V2 ⊕ W2))} {I : Nat → StA → V → StA → V2 → Prop} {Z : StA → W → StA → W2 → Prop}
    (h : ∀ j s v t w, I j s v t w → E2 (b s v) (b2 t w) (fun s' x t' y => (∃ e e', x = .inr e ∧ y = .inr e' ∧ Z s' e t' e') ∨ (∃ j' v' w', j = j' + 1 ∧ x = .inl v' ∧ y = .inl w' ∧ I j' s' v' t' w'))) : ∀ (N M j : Nat), j < N → j < M → ∀ s v t w, I j s v t w → E2 (it b N s v) (it b2 M t w) Z
  | 0, _, _, h0, _, _, _, _, _, _ => absurd h0 (by omega)
  | _ + 1, 0, _, _, h0, _, _, _, _, _ => absurd h0 (by omega)
  | N + 1, M + 1, j, hj, hj2, s, v, t, w, hI => by
    obtain ⟨s', x, t', y, e, f, hx⟩ := h j s v t w hI
    unfold it
    rw [e, f]
    rcases hx with ⟨e1, e2, rfl, rfl, hz⟩ | ⟨j', v', w', rfl, rfl, rfl, hi⟩
    · exact ⟨s', e1, t', e2, rfl, rfl, hz⟩
    · exact E2_it h N M j' (by omega) (by omega) s' v' t' w' hi
end PU
/-! numbers -/
theorem ti_inj {x y : Int32} : x = y ↔ x.toInt = y.toInt := Int32.toInt_inj.symm
theorem ti_lt {x y : Int32} : x < y ↔ x.toInt < y.toInt := Int32.lt_iff_toInt_lt
theorem ti_le {x y : Int32} : x ≤ y ↔ x.toInt ≤ y.toInt := Int32.le_iff_toInt_le
theorem ti_bmod (z : Int) : z.bmod (2 ^ 32) = (z + 2147483648) % 4294967296 - 2147483648 := by
  rw [Int.bmod_def]
  have : ((2 ^ 32 : Nat) : Int) = 4294967296 := by decide
  rw [this]
  split <;> omega
theorem ti_add (x y : Int32) : (x + y).toInt = (x.toInt + y.toInt + 2147483648) % 4294967296 - 2147483648 := by
  rw [Int32.toInt_add, ti_bmod]
theorem ti_sub (x y : Int32) : (x - y).toInt = (x.toInt - y.toInt + 2147483648) % 4294967296 - 2147483648 := by
  rw [Int32.toInt_sub, ti_bmod]
theorem ti_neg (x : Int32) : (-x).toInt = (-x.toInt + 2147483648) % 4294967296 - 2147483648 := by
  rw [Int32.toInt_neg, ti_bmod]
theorem ti_mul (x y : Int32) : (x * y).toInt = (x.toInt * y.toInt + 2147483648) % 4294967296 - 2147483648 := by
  rw [Int32.toInt_mul, ti_bmod]
theorem ti_rng (x : Int32) : -2147483648 ≤ x.toInt ∧ x.toInt < 2147483648 := by
  have h1 := Int32.le_toInt x
  have h2 := Int32.toInt_lt x
  constructor <;> omega
theorem ti_nI {n : Nat} (h : n < 2147483648) : (nI n).toInt = (n : Int) := nI_toInt (by omega)
theorem tn_nI {n : Nat} (h : n < 2147483648) : (nI n).toNatClampNeg = n := nI_clamp (by omega)
theorem tn_def (x : Int32) : x.toNatClampNeg = x.toInt.toNat := rfl
theorem gd_n {β : Type} {i n : Nat} {k : Option β} (h : i < n) (hn : n < 1000000) : gd (nI i) n k = k := by
  unfold gd
  rw [ti_nI (by omega), if_pos (by omega)]
theorem nI_le' {a b : Nat} (ha : a < 1000000) (hb : b < 1000000) : nI a ≤ nI b ↔ a ≤ b := nI_leI (by omega) (by omega)
theorem nI_lt' {a b : Nat} (ha : a < 1000000) (hb : b < 1000000) : nI a < nI b ↔ a < b := nI_ltI (by omega) (by omega)
theorem nI_eq' {a b : Nat} (ha : a < 1000000) (hb : b < 1000000) : nI a = nI b ↔ a = b := nI_eq (by omega) (by omega)
