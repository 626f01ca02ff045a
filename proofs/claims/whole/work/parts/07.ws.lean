/-! The system's cells as one picture: keys (numbers) name the cells, sh says what each cell is, a state says what the cells hold. -/
abbrev StA : Type := (Nat → Nat → Int32) × (Nat → Nat → Int64)
def gi (s : StA) (k j : Nat) : Int32 := s.1 k j
def gl (s : StA) (k j : Nat) : Int64 := s.2 k j
def si (s : StA) (k j : Nat) (v : Int32) : StA := (fun a b => if a = k ∧ b = j then v else s.1 a b, s.2)
def sl (s : StA) (k j : Nat) (v : Int64) : StA := (s.1, fun a b => if a = k ∧ b = j then v else s.2 a b)
theorem gi_si (s : StA) (k j : Nat) (v : Int32) (a b : Nat) : gi (si s k j v) a b = if a = k ∧ b = j then v else gi s a b := rfl
theorem gl_si (s : StA) (k j : Nat) (v : Int32) (a b : Nat) : gl (si s k j v) a b = gl s a b := rfl
theorem gi_sl (s : StA) (k j : Nat) (v : Int64) (a b : Nat) : gi (sl s k j v) a b = gi s a b := rfl
theorem gl_sl (s : StA) (k j : Nat) (v : Int64) (a b : Nat) : gl (sl s k j v) a b = if a = k ∧ b = j then v else gl s a b := rfl
/-- an object: its class's number and its fields (a key, an int: false, a long: true); a row of ints or booleans: its type's number, its length; a row of references: type, length, base, stride -/
abbrev ShA : Type := (Nat × List (Nat ⊕ Bool)) ⊕ ((Nat × Nat) ⊕ (Nat × Nat × Nat × Nat))
def en_F (ph : Nat → Nat) (s : StA) (k j : Nat) : (Nat ⊕ Bool) → Value
  | .inl r => .ref (ph r)
  | .inr false => .int (gi s k j)
  | .inr true => .long (gl s k j)
def en_L (ph : Nat → Nat) (s : StA) (k : Nat) : Nat → List (Nat ⊕ Bool) → List Value
  | _, [] => []
  | j, f :: fs => en_F ph s k j f :: en_L ph s k (j + 1) fs
def en_E (ph : Nat → Nat) (ids : Nat → ClassId) (s : StA) (k : Nat) : ShA → va_E
  | .inl (ci, fs) => .inr (ci, en_L ph s k 0 fs)
  | .inr (.inl (t, n)) => .inl (ids t, n, .inl (fun i => gi s k i))
  | .inr (.inr (t, n, b, d)) => .inl (ids t, n, .inr (.inr (.inr (.inr (fun i => some (ph (b + d * i)))))))
/-- the static side of a world: how many keys, what each is -/
abbrev MW : Type := Nat × (Nat → ShA)
def wld (M : MW) (ph : Nat → Nat) (ids : Nat → ClassId) (s : StA) : va_W := (List.range M.1).map (fun k => (ph k, en_E ph ids s k (M.2 k)))
theorem wld_len (M : MW) (ph : Nat → Nat) (ids : Nat → ClassId) (s : StA) : (wld M ph ids s).length = M.1 := by simp [wld]
theorem wld_get {M : MW} {ph : Nat → Nat} {ids : Nat → ClassId} {s : StA} {k : Nat} {x : ShA} (h : k < M.1 ∧ M.2 k = x) : (wld M ph ids s)[k]? = some (ph k, en_E ph ids s k x) := by
  obtain ⟨h1, h2⟩ := h
  subst h2
  unfold wld
  rw [List.getElem?_map, List.getElem?_range h1]
  rfl
theorem wld_inv {M : MW} {ph : Nat → Nat} {ids : Nat → ClassId} {s : StA} {k : Nat} {q : Nat × va_E} (h : (wld M ph ids s)[k]? = some q) : k < M.1 ∧ q = (ph k, en_E ph ids s k (M.2 k)) := by
  have hk : k < M.1 := by
    have := (List.getElem?_eq_some_iff.mp h).1
    rwa [wld_len] at this
  rw [wld_get ⟨hk, rfl⟩] at h
  exact ⟨hk, (Option.some.inj h).symm⟩
theorem en_L_get (ph : Nat → Nat) (s : StA) (k : Nat) : ∀ (fs : List (Nat ⊕ Bool)) (j0 j : Nat), (en_L ph s k j0 fs)[j]? = (fs[j]?).map (en_F ph s k (j0 + j))
  | [], _, _ => by simp [en_L]
  | f :: fs, j0, 0 => by simp [en_L]
  | f :: fs, j0, j + 1 => by
    have h := en_L_get ph s k fs (j0 + 1) j
    simp only [en_L, List.getElem?_cons_succ, h]
    rw [show j0 + 1 + j = j0 + (j + 1) by omega]
theorem en_L_len (ph : Nat → Nat) (s : StA) (k : Nat) : ∀ (fs : List (Nat ⊕ Bool)) (j0 : Nat), (en_L ph s k j0 fs).length = fs.length
  | [], _ => rfl
  | _ :: fs, j0 => by simp [en_L, en_L_len ph s k fs]
theorem en_L_congr {ph : Nat → Nat} {s s' : StA} {k : Nat} (h1 : ∀ j, gi s' k j = gi s k j) (h2 : ∀ j, gl s' k j = gl s k j) : ∀ (fs : List (Nat ⊕ Bool)) (j0 : Nat), en_L ph s' k j0 fs = en_L ph s k j0 fs
  | [], _ => rfl
  | f :: fs, j0 => by
    simp only [en_L]
    rw [en_L_congr h1 h2 fs]
    congr 1
    rcases f with r | b
    · rfl
    · cases b
      · simp only [en_F, h1]
      · simp only [en_F, h2]
theorem en_E_congr {ph : Nat → Nat} {ids : Nat → ClassId} {s s' : StA} {k : Nat} (h1 : ∀ j, gi s' k j = gi s k j) (h2 : ∀ j, gl s' k j = gl s k j) (x : ShA) : en_E ph ids s' k x = en_E ph ids s k x := by
  rcases x with ⟨ci, fs⟩ | ⟨t, n⟩ | ⟨t, n, b, d⟩
  · simp only [en_E, en_L_congr h1 h2]
  · simp only [en_E, h1]
  · rfl
theorem wld_set {M : MW} {ph : Nat → Nat} {ids : Nat → ClassId} {s s' : StA} {k : Nat} {e : va_E} (hk : k < M.1) (he : en_E ph ids s' k (M.2 k) = e) (h1 : ∀ a, a ≠ k → ∀ j, gi s' a j = gi s a j) (h2 : ∀ a, a ≠ k → ∀ j, gl s' a j = gl s a j) : (wld M ph ids s).set k (ph k, e) = wld M ph ids s' := by
  apply List.ext_getElem?
  intro i
  by_cases hi : i = k
  · subst hi
    rw [List.getElem?_set_self (by rw [wld_len]; exact hk), wld_get ⟨hk, rfl⟩, he]
  · rw [List.getElem?_set_ne (Ne.symm hi)]
    by_cases hl : i < M.1
    · rw [wld_get ⟨hl, rfl⟩, wld_get ⟨hl, rfl⟩, en_E_congr (h1 i hi) (h2 i hi)]
    · rw [List.getElem?_eq_none (by rw [wld_len]; omega), List.getElem?_eq_none (by rw [wld_len]; omega)]
theorem en_L_set_i {ph : Nat → Nat} {s : StA} {k : Nat} {v : Int32} {j : Nat} : ∀ (fs : List (Nat ⊕ Bool)) (j0 i : Nat), fs[i]? = some (.inr false) → j = j0 + i → en_L ph (si s k j v) k j0 fs = (en_L ph s k j0 fs).set i (.int v)
  | [], _, _, h, _ => by simp at h
  | f :: fs, j0, 0, h, e => by
    simp only [List.getElem?_cons_zero, Option.some.injEq] at h
    subst h
    simp only [en_L, List.set_cons_zero, en_F, gi_si]
    rw [if_pos ⟨trivial, by omega⟩]
    congr 1
    have key : ∀ (gs : List (Nat ⊕ Bool)) (i0 : Nat), j < i0 → en_L ph (si s k j v) k i0 gs = en_L ph s k i0 gs := by
      intro gs
      induction gs with
      | nil => intro i0 _; rfl
      | cons g gs ih =>
        intro i0 hi
        simp only [en_L]
        rw [ih (i0 + 1) (by omega)]
        congr 1
        rcases g with r | b
        · rfl
        · cases b
          · simp only [en_F, gi_si]
            rw [if_neg (by omega)]
          · simp only [en_F, gl_si]
    exact key fs (j0 + 1) (by omega)
  | f :: fs, j0, i + 1, h, e => by
    simp only [List.getElem?_cons_succ] at h
    simp only [en_L, List.set_cons_succ]
    rw [en_L_set_i fs (j0 + 1) i h (by omega)]
    congr 1
    rcases f with r | b
    · rfl
    · cases b
      · simp only [en_F, gi_si]
        rw [if_neg (by omega)]
      · simp only [en_F, gl_si]
theorem en_L_set_l {ph : Nat → Nat} {s : StA} {k : Nat} {v : Int64} {j : Nat} : ∀ (fs : List (Nat ⊕ Bool)) (j0 i : Nat), fs[i]? = some (.inr true) → j = j0 + i → en_L ph (sl s k j v) k j0 fs = (en_L ph s k j0 fs).set i (.long v)
  | [], _, _, h, _ => by simp at h
  | f :: fs, j0, 0, h, e => by
    simp only [List.getElem?_cons_zero, Option.some.injEq] at h
    subst h
    simp only [en_L, List.set_cons_zero, en_F, gl_sl]
    rw [if_pos ⟨trivial, by omega⟩]
    congr 1
    have key : ∀ (gs : List (Nat ⊕ Bool)) (i0 : Nat), j < i0 → en_L ph (sl s k j v) k i0 gs = en_L ph s k i0 gs := by
      intro gs
      induction gs with
      | nil => intro i0 _; rfl
      | cons g gs ih =>
        intro i0 hi
        simp only [en_L]
        rw [ih (i0 + 1) (by omega)]
        congr 1
        rcases g with r | b
        · rfl
        · cases b
          · simp only [en_F, gi_sl]
          · simp only [en_F, gl_sl]
            rw [if_neg (by omega)]
    exact key fs (j0 + 1) (by omega)
  | f :: fs, j0, i + 1, h, e => by
    simp only [List.getElem?_cons_succ] at h
    simp only [en_L, List.set_cons_succ]
    rw [en_L_set_l fs (j0 + 1) i h (by omega)]
    congr 1
    rcases f with r | b
    · rfl
    · cases b
      · simp only [en_F, gi_sl]
      · simp only [en_F, gl_sl]
        rw [if_neg (by omega)]
theorem wld_D {M : MW} {ph : Nat → Nat} {ids : Nat → ClassId} {s : StA} {A : Nat → Prop} (h : va_D A (wld M ph ids s)) (s' : StA) : va_D A (wld M ph ids s') := by
  refine ⟨fun i j p q hi hj hpq => ?_, fun k q hq => ?_⟩
  · obtain ⟨h1, rfl⟩ := wld_inv hi
    obtain ⟨h2, rfl⟩ := wld_inv hj
    exact h.1 i j _ _ (wld_get ⟨h1, rfl⟩) (wld_get ⟨h2, rfl⟩) hpq
  · obtain ⟨h1, rfl⟩ := wld_inv hq
    exact h.2 k (ph k, en_E ph ids s k (M.2 k)) (wld_get ⟨h1, rfl⟩)
theorem wld_A {M : MW} {ph : Nat → Nat} {ids : Nat → ClassId} {s s' : StA} {sz q : Nat} (h : va_A (wld M ph ids s) sz q) : va_A (wld M ph ids s') sz q := by
  rcases h with ⟨k, e, h⟩ | h
  · obtain ⟨h1, h2⟩ := wld_inv h
    cases h2
    exact Or.inl ⟨k, _, wld_get ⟨h1, rfl⟩⟩
  · exact Or.inr h
