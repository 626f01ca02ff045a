/-! The functions' own words: naming, guards, calls, loops. -/
def nmi {β : Type} (v : Int32) (k : Int32 → Option β) : Option β := k v
def nml {β : Type} (v : Int64) (k : Int64 → Option β) : Option β := k v
def nms {β : Type} (v : StA) (k : StA → Option β) : Option β := k v
def bn {α β : Type} (o : Option (StA × α)) (k : StA → α → Option β) : Option β := match o with
  | none => none
  | some (s, a) => k s a
def gd {β : Type} (i : Int32) (n : Nat) (k : Option β) : Option β := if 0 ≤ i.toInt ∧ i.toInt < (n : Int) then k else none
def gz {β : Type} (x : Int32) (k : Option β) : Option β := if x = 0 ∨ x = 1 then k else none
def g0 {β : Type} (x : Int32) (k : Option β) : Option β := if x = 0 then none else k
def g0l {β : Type} (x : Int64) (k : Option β) : Option β := if x = 0 then none else k
def FU : Nat := 1048576
def it {V W : Type} (body : StA → V → Option (StA × (V ⊕ W))) : Nat → StA → V → Option (StA × W)
  | 0, _, _ => none
  | n + 1, s, v => match body s v with
    | none => none
    | some (s', .inl v') => it body n s' v'
    | some (s', .inr e) => some (s', e)
theorem nmi_e {β : Type} {v x : Int32} {k : Int32 → Option β} {z : Option β} (e : x = v) (h : nmi v k = z) : k x = z := by rw [e]; exact h
theorem nml_e {β : Type} {v x : Int64} {k : Int64 → Option β} {z : Option β} (e : x = v) (h : nml v k = z) : k x = z := by rw [e]; exact h
theorem nms_e {β : Type} {v x : StA} {k : StA → Option β} {z : Option β} (e : x = v) (h : nms v k = z) : k x = z := by rw [e]; exact h
theorem bn_e {α β : Type} {o : Option (StA × α)} {k : StA → α → Option β} {z : β} (h : bn o k = some z) : ∃ s a, o = some (s, a) ∧ k s a = some z := by
  rcases o with _ | ⟨s, a⟩
  · cases h
  · exact ⟨s, a, rfl, h⟩
theorem gd_e {β : Type} {i : Int32} {n : Nat} {k : Option β} {z : β} (h : gd i n k = some z) : vp_in i n ∧ k = some z := by
  unfold gd at h
  split at h
  · exact ⟨vp_in_iff.mpr ‹_›, h⟩
  · cases h
theorem gz_e {β : Type} {x : Int32} {k : Option β} {z : β} (h : gz x k = some z) : is_b x ∧ k = some z := by
  unfold gz at h
  split at h
  · exact ⟨‹_›, h⟩
  · cases h
theorem g0_e {β : Type} {x : Int32} {k : Option β} {z : β} (h : g0 x k = some z) : ¬ x = 0 ∧ k = some z := by
  unfold g0 at h
  split at h
  · cases h
  · exact ⟨‹_›, h⟩
theorem g0l_e {β : Type} {x : Int64} {k : Option β} {z : β} (h : g0l x k = some z) : ¬ x = 0 ∧ k = some z := by
  unfold g0l at h
  split at h
  · cases h
  · exact ⟨‹_›, h⟩
theorem if_t {β : Type} {c : Prop} [Decidable c] {a b z : β} (hc : c) (h : (if c then a else b) = z) : a = z := by rw [if_pos hc] at h; exact h
theorem if_f {β : Type} {c : Prop} [Decidable c] {a b z : β} (hc : ¬ c) (h : (if c then a else b) = z) : b = z := by rw [if_neg hc] at h; exact h
/-- a loop's walk, out of its body's -/
theorem lp_of {V W : Type} {body : StA → V → Option (StA × (V ⊕ W))} {X : StA → V → Prop} {Y : StA → W → Prop} (hb : ∀ s v s' w, body s v = some (s', w) → (∀ v', w = .inl v' → X s' v') → (∀ e, w = .inr e → Y s' e) → X s v) : ∀ (n : Nat) (s : StA) (v : V) (z : StA × W), it body n s v = some z → Y z.1 z.2 → X s v
  | 0, _, _, _, h, _ => by simp [it] at h
  | n + 1, s, v, z, h, hY => by
    unfold it at h
    rcases hr : body s v with _ | ⟨s', v' | e⟩
    · rw [hr] at h; cases h
    · rw [hr] at h
      exact hb s v s' _ hr (fun v2 e2 => by cases e2; exact lp_of hb n s' v' z h hY) (fun e e2 => by cases e2)
    · rw [hr] at h
      cases h
      exact hb s v s' _ hr (fun v2 e2 => by cases e2) (fun e2 e3 => by cases e3; exact hY)
section SX
variable {M : MW} {E : XC} {own : String} {cc : ByteArray} {nL pc : Nat} {rm : Room} {lv : List (Nat × Value)} {st : List Value} {σ : StA}
theorem s_tops (k : ∀ s' : StA, s' = σ → WS M E nL pc lv st s') : WS M E nL pc lv st σ := k σ rfl
theorem s_tabE (O : OK M E own cc nL rm) {dflt lo hi : Int} {offs : Array Int} {len : Nat} {x v : Int32} {off : Int} {tgt : Nat} (d : decode cc pc = .ok (.tableswitch dflt lo hi offs, len)) (hx : x = v) (h1 : ¬ v.toInt < lo) (h2 : ¬ hi < v.toInt) (ho : offs[(v.toInt - lo).toNat]? = some off) (ht : (pc : Int) + off = (tgt : Int)) (k : WS M E nL tgt lv st σ) : WS M E nL pc lv (.int x :: st) σ := by
  subst hx
  exact s_tabI O d h1 h2 ho ht k
theorem s_lookE (O : OK M E own cc nL rm) {dflt : Int} {ps : Array (Int × Int)} {len : Nat} {x v : Int32} {tgt : Nat} (d : decode cc pc = .ok (.lookupswitch dflt ps, len)) (hx : x = v) (hp : (ps.toList.zip (ps.toList.drop 1)).all (fun (a, next) => a.1 < next.1) = true) (ho : (pc : Int) + Op.lookupswitch.offset ps.toList dflt v.toInt = (tgt : Int)) (_ : True) (k : WS M E nL tgt lv st σ) : WS M E nL pc lv (.int x :: st) σ := by
  subst hx
  exact s_look O d hp rfl ho k
theorem s_mmax (O : OK M E own cc nL rm) {index : Nat} {x y : Int32} (L : LkS own index Lib.Math.max.name Lib.Math.max.code 2 (some .int) 2) (hR : 1 ≤ rm.frames ∧ 21 ≤ rm.locals) (hw : (st.map fun v => v.category).sum ≤ 8) (d : decode cc pc = .ok (.invokestatic index, 3)) (kk : WS M E nL (pc + 3) lv (.int (if x < y then y else x) :: st) σ) : WS M E nL pc lv (.int y :: .int x :: st) σ := by
  obtain ⟨⟨p, l, e, R, s, m, args, below, meth, c, Q⟩, ⟨D, ph, ids, A⟩⟩ := E
  intro H locs ls hP hS hl
  have hRR : R = rm := O.2.2.2.2.2.2.2.2.2
  subst hRR
  exact va_mmax O.1 O.2.1 (by rw [O.2.2.1]; exact hl.1.symm) O.2.2.2.1 (O.2.2.2.2.1 _ L.2.1) (O.2.2.2.2.1 _ L.2.2.1) (O.2.2.2.2.1 _ L.2.2.2.1) (O.2.2.2.2.1 _ L.1) hR.1 (by omega) (Nat.zero_le _) (Nat.zero_le _) d (kk H locs ls hP hS hl)
theorem s_mmin (O : OK M E own cc nL rm) {index : Nat} {x y : Int32} (L : LkS own index Lib.Math.min.name Lib.Math.min.code 2 (some .int) 2) (hR : 1 ≤ rm.frames ∧ 21 ≤ rm.locals) (hw : (st.map fun v => v.category).sum ≤ 8) (d : decode cc pc = .ok (.invokestatic index, 3)) (kk : WS M E nL (pc + 3) lv (.int (if y < x then y else x) :: st) σ) : WS M E nL pc lv (.int y :: .int x :: st) σ := by
  obtain ⟨⟨p, l, e, R, s, m, args, below, meth, c, Q⟩, ⟨D, ph, ids, A⟩⟩ := E
  intro H locs ls hP hS hl
  have hRR : R = rm := O.2.2.2.2.2.2.2.2.2
  subst hRR
  exact va_mmin O.1 O.2.1 (by rw [O.2.2.1]; exact hl.1.symm) O.2.2.2.1 (O.2.2.2.2.1 _ L.2.1) (O.2.2.2.2.1 _ L.2.2.1) (O.2.2.2.2.1 _ L.2.2.2.1) (O.2.2.2.2.1 _ L.1) hR.1 (by omega) (Nat.zero_le _) (Nat.zero_le _) d (kk H locs ls hP hS hl)
theorem s_mabs (O : OK M E own cc nL rm) {index : Nat} {x : Int32} (L : LkS own index Lib.Math.abs.name Lib.Math.abs.code 1 (some .int) 1) (hR : 1 ≤ rm.frames ∧ 21 ≤ rm.locals) (hw : (st.map fun v => v.category).sum ≤ 8) (d : decode cc pc = .ok (.invokestatic index, 3)) (kk : WS M E nL (pc + 3) lv (.int (if 0 ≤ x then x else 0 - x) :: st) σ) : WS M E nL pc lv (.int x :: st) σ := by
  obtain ⟨⟨p, l, e, R, s, m, args, below, meth, c, Q⟩, ⟨D, ph, ids, A⟩⟩ := E
  intro H locs ls hP hS hl
  have hRR : R = rm := O.2.2.2.2.2.2.2.2.2
  subst hRR
  exact va_mabs O.1 O.2.1 (by rw [O.2.2.1]; exact hl.1.symm) O.2.2.2.1 (O.2.2.2.2.1 _ L.2.1) (O.2.2.2.2.1 _ L.2.2.1) (O.2.2.2.2.1 _ L.2.2.2.1) (O.2.2.2.2.1 _ L.1) hR.1 (by omega) (Nat.zero_le _) (Nat.zero_le _) d (kk H locs ls hP hS hl)
end SX
/-! The worlds: the system's 71 cells, the reference's 12. -/
def cTab : List ShA := [.inl (5, [.inl 1, .inl 12, .inl 45, .inl 46, .inl 47, .inl 50, .inl 59, .inl 60, .inr false]),
  .inl (1, [.inl 2, .inl 3, .inl 4, .inl 5, .inl 6, .inl 9, .inr false, .inr false, .inr false, .inr false, .inr false, .inr false]),
  .inr (.inl (0, 6)),
  .inr (.inl (0, 6)),
  .inr (.inl (0, 6)),
  .inr (.inl (0, 5)),
  .inl (2, [.inl 7, .inl 8, .inr false]),
  .inr (.inl (0, 8)),
  .inr (.inl (0, 8)),
  .inl (2, [.inl 10, .inl 11, .inr false]),
  .inr (.inl (0, 6)),
  .inr (.inl (0, 6)),
  .inl (1, [.inl 13, .inl 14, .inl 15, .inl 16, .inl 17, .inl 20, .inr false, .inr false, .inr false, .inr false, .inr false, .inr false]),
  .inr (.inl (0, 6)),
  .inr (.inl (0, 6)),
  .inr (.inl (0, 6)),
  .inr (.inl (0, 5)),
  .inl (2, [.inl 18, .inl 19, .inr false]),
  .inr (.inl (0, 8)),
  .inr (.inl (0, 8)),
  .inl (2, [.inl 21, .inl 22, .inr false]),
  .inr (.inl (0, 6)),
  .inr (.inl (0, 6)),
  .inl (1, [.inl 24, .inl 25, .inl 26, .inl 27, .inl 28, .inl 31, .inr false, .inr false, .inr false, .inr false, .inr false, .inr false]),
  .inr (.inl (0, 6)),
  .inr (.inl (0, 6)),
  .inr (.inl (0, 6)),
  .inr (.inl (0, 5)),
  .inl (2, [.inl 29, .inl 30, .inr false]),
  .inr (.inl (0, 8)),
  .inr (.inl (0, 8)),
  .inl (2, [.inl 32, .inl 33, .inr false]),
  .inr (.inl (0, 6)),
  .inr (.inl (0, 6)),
  .inl (1, [.inl 35, .inl 36, .inl 37, .inl 38, .inl 39, .inl 42, .inr false, .inr false, .inr false, .inr false, .inr false, .inr false]),
  .inr (.inl (0, 6)),
  .inr (.inl (0, 6)),
  .inr (.inl (0, 6)),
  .inr (.inl (0, 5)),
  .inl (2, [.inl 40, .inl 41, .inr false]),
  .inr (.inl (0, 8)),
  .inr (.inl (0, 8)),
  .inl (2, [.inl 43, .inl 44, .inr false]),
  .inr (.inl (0, 6)),
  .inr (.inl (0, 6)),
  .inr (.inr (2, 2, 23, 11)),
  .inr (.inl (1, 2)),
  .inl (3, [.inl 48, .inl 49, .inr false, .inr false, .inr false, .inr false, .inr false, .inr false, .inr false, .inr false, .inr false, .inr false]),
  .inr (.inl (0, 160)),
  .inr (.inl (0, 160)),
  .inr (.inr (3, 4, 51, 2)),
  .inl (4, [.inl 52, .inr false, .inr false]),
  .inr (.inl (0, 40)),
  .inl (4, [.inl 54, .inr false, .inr false]),
  .inr (.inl (0, 40)),
  .inl (4, [.inl 56, .inr false, .inr false]),
  .inr (.inl (0, 40)),
  .inl (4, [.inl 58, .inr false, .inr false]),
  .inr (.inl (0, 40)),
  .inl (0, [.inr false, .inr false, .inr false]),
  .inr (.inr (4, 10, 61, 1)),
  .inr (.inl (0, 31)),
  .inr (.inl (0, 31)),
  .inr (.inl (0, 31)),
  .inr (.inl (0, 31)),
  .inr (.inl (0, 31)),
  .inr (.inl (0, 31)),
  .inr (.inl (0, 31)),
  .inr (.inl (0, 31)),
  .inr (.inl (0, 31)),
  .inr (.inl (0, 31))]
def cM : MW := (71, fun k => cTab.getD k (.inr (.inl (0, 0))))
def mTab : List ShA := [.inl (6, [.inl 1, .inl 2, .inl 3, .inr false, .inl 4, .inr false, .inr false, .inr false, .inr false, .inl 5, .inr false, .inr false, .inr false, .inr false, .inr false, .inr false, .inr false, .inr false, .inr false, .inr false, .inr false, .inr false, .inr false, .inr false, .inr true, .inr true, .inr true, .inl 6, .inl 7, .inl 8, .inl 9, .inl 10, .inr false, .inl 11]),
  .inr (.inl (0, 189)),
  .inr (.inl (0, 63)),
  .inr (.inl (1, 2)),
  .inr (.inl (0, 63)),
  .inr (.inl (0, 160)),
  .inr (.inl (0, 31)),
  .inr (.inl (0, 279)),
  .inr (.inl (0, 4)),
  .inr (.inl (0, 4)),
  .inr (.inl (0, 160)),
  .inr (.inl (0, 63))]
def mM : MW := (12, fun k => mTab.getD k (.inr (.inl (0, 0))))
theorem cs_0 : 0 < cM.1 ∧ cM.2 0 = .inl (5, [.inl 1, .inl 12, .inl 45, .inl 46, .inl 47, .inl 50, .inl 59, .inl 60, .inr false]) := ⟨by decide, rfl⟩
theorem cs_1 : 1 < cM.1 ∧ cM.2 1 = .inl (1, [.inl 2, .inl 3, .inl 4, .inl 5, .inl 6, .inl 9, .inr false, .inr false, .inr false, .inr false, .inr false, .inr false]) := ⟨by decide, rfl⟩
theorem cs_2 : 2 < cM.1 ∧ cM.2 2 = .inr (.inl (0, 6)) := ⟨by decide, rfl⟩
theorem cs_3 : 3 < cM.1 ∧ cM.2 3 = .inr (.inl (0, 6)) := ⟨by decide, rfl⟩
theorem cs_4 : 4 < cM.1 ∧ cM.2 4 = .inr (.inl (0, 6)) := ⟨by decide, rfl⟩
theorem cs_5 : 5 < cM.1 ∧ cM.2 5 = .inr (.inl (0, 5)) := ⟨by decide, rfl⟩
theorem cs_6 : 6 < cM.1 ∧ cM.2 6 = .inl (2, [.inl 7, .inl 8, .inr false]) := ⟨by decide, rfl⟩
theorem cs_7 : 7 < cM.1 ∧ cM.2 7 = .inr (.inl (0, 8)) := ⟨by decide, rfl⟩
theorem cs_8 : 8 < cM.1 ∧ cM.2 8 = .inr (.inl (0, 8)) := ⟨by decide, rfl⟩
theorem cs_9 : 9 < cM.1 ∧ cM.2 9 = .inl (2, [.inl 10, .inl 11, .inr false]) := ⟨by decide, rfl⟩
theorem cs_10 : 10 < cM.1 ∧ cM.2 10 = .inr (.inl (0, 6)) := ⟨by decide, rfl⟩
theorem cs_11 : 11 < cM.1 ∧ cM.2 11 = .inr (.inl (0, 6)) := ⟨by decide, rfl⟩
theorem cs_12 : 12 < cM.1 ∧ cM.2 12 = .inl (1, [.inl 13, .inl 14, .inl 15, .inl 16, .inl 17, .inl 20, .inr false, .inr false, .inr false, .inr false, .inr false, .inr false]) := ⟨by decide, rfl⟩
theorem cs_13 : 13 < cM.1 ∧ cM.2 13 = .inr (.inl (0, 6)) := ⟨by decide, rfl⟩
theorem cs_14 : 14 < cM.1 ∧ cM.2 14 = .inr (.inl (0, 6)) := ⟨by decide, rfl⟩
theorem cs_15 : 15 < cM.1 ∧ cM.2 15 = .inr (.inl (0, 6)) := ⟨by decide, rfl⟩
theorem cs_16 : 16 < cM.1 ∧ cM.2 16 = .inr (.inl (0, 5)) := ⟨by decide, rfl⟩
theorem cs_17 : 17 < cM.1 ∧ cM.2 17 = .inl (2, [.inl 18, .inl 19, .inr false]) := ⟨by decide, rfl⟩
theorem cs_18 : 18 < cM.1 ∧ cM.2 18 = .inr (.inl (0, 8)) := ⟨by decide, rfl⟩
theorem cs_19 : 19 < cM.1 ∧ cM.2 19 = .inr (.inl (0, 8)) := ⟨by decide, rfl⟩
theorem cs_20 : 20 < cM.1 ∧ cM.2 20 = .inl (2, [.inl 21, .inl 22, .inr false]) := ⟨by decide, rfl⟩
theorem cs_21 : 21 < cM.1 ∧ cM.2 21 = .inr (.inl (0, 6)) := ⟨by decide, rfl⟩
theorem cs_22 : 22 < cM.1 ∧ cM.2 22 = .inr (.inl (0, 6)) := ⟨by decide, rfl⟩
theorem cs_23 : 23 < cM.1 ∧ cM.2 23 = .inl (1, [.inl 24, .inl 25, .inl 26, .inl 27, .inl 28, .inl 31, .inr false, .inr false, .inr false, .inr false, .inr false, .inr false]) := ⟨by decide, rfl⟩
theorem cs_24 : 24 < cM.1 ∧ cM.2 24 = .inr (.inl (0, 6)) := ⟨by decide, rfl⟩
theorem cs_25 : 25 < cM.1 ∧ cM.2 25 = .inr (.inl (0, 6)) := ⟨by decide, rfl⟩
theorem cs_26 : 26 < cM.1 ∧ cM.2 26 = .inr (.inl (0, 6)) := ⟨by decide, rfl⟩
theorem cs_27 : 27 < cM.1 ∧ cM.2 27 = .inr (.inl (0, 5)) := ⟨by decide, rfl⟩
theorem cs_28 : 28 < cM.1 ∧ cM.2 28 = .inl (2, [.inl 29, .inl 30, .inr false]) := ⟨by decide, rfl⟩
theorem cs_29 : 29 < cM.1 ∧ cM.2 29 = .inr (.inl (0, 8)) := ⟨by decide, rfl⟩
theorem cs_30 : 30 < cM.1 ∧ cM.2 30 = .inr (.inl (0, 8)) := ⟨by decide, rfl⟩
theorem cs_31 : 31 < cM.1 ∧ cM.2 31 = .inl (2, [.inl 32, .inl 33, .inr false]) := ⟨by decide, rfl⟩
theorem cs_32 : 32 < cM.1 ∧ cM.2 32 = .inr (.inl (0, 6)) := ⟨by decide, rfl⟩
theorem cs_33 : 33 < cM.1 ∧ cM.2 33 = .inr (.inl (0, 6)) := ⟨by decide, rfl⟩
theorem cs_34 : 34 < cM.1 ∧ cM.2 34 = .inl (1, [.inl 35, .inl 36, .inl 37, .inl 38, .inl 39, .inl 42, .inr false, .inr false, .inr false, .inr false, .inr false, .inr false]) := ⟨by decide, rfl⟩
theorem cs_35 : 35 < cM.1 ∧ cM.2 35 = .inr (.inl (0, 6)) := ⟨by decide, rfl⟩
theorem cs_36 : 36 < cM.1 ∧ cM.2 36 = .inr (.inl (0, 6)) := ⟨by decide, rfl⟩
theorem cs_37 : 37 < cM.1 ∧ cM.2 37 = .inr (.inl (0, 6)) := ⟨by decide, rfl⟩
theorem cs_38 : 38 < cM.1 ∧ cM.2 38 = .inr (.inl (0, 5)) := ⟨by decide, rfl⟩
theorem cs_39 : 39 < cM.1 ∧ cM.2 39 = .inl (2, [.inl 40, .inl 41, .inr false]) := ⟨by decide, rfl⟩
theorem cs_40 : 40 < cM.1 ∧ cM.2 40 = .inr (.inl (0, 8)) := ⟨by decide, rfl⟩
theorem cs_41 : 41 < cM.1 ∧ cM.2 41 = .inr (.inl (0, 8)) := ⟨by decide, rfl⟩
theorem cs_42 : 42 < cM.1 ∧ cM.2 42 = .inl (2, [.inl 43, .inl 44, .inr false]) := ⟨by decide, rfl⟩
theorem cs_43 : 43 < cM.1 ∧ cM.2 43 = .inr (.inl (0, 6)) := ⟨by decide, rfl⟩
theorem cs_44 : 44 < cM.1 ∧ cM.2 44 = .inr (.inl (0, 6)) := ⟨by decide, rfl⟩
theorem cs_45 : 45 < cM.1 ∧ cM.2 45 = .inr (.inr (2, 2, 23, 11)) := ⟨by decide, rfl⟩
theorem cs_46 : 46 < cM.1 ∧ cM.2 46 = .inr (.inl (1, 2)) := ⟨by decide, rfl⟩
theorem cs_47 : 47 < cM.1 ∧ cM.2 47 = .inl (3, [.inl 48, .inl 49, .inr false, .inr false, .inr false, .inr false, .inr false, .inr false, .inr false, .inr false, .inr false, .inr false]) := ⟨by decide, rfl⟩
theorem cs_48 : 48 < cM.1 ∧ cM.2 48 = .inr (.inl (0, 160)) := ⟨by decide, rfl⟩
theorem cs_49 : 49 < cM.1 ∧ cM.2 49 = .inr (.inl (0, 160)) := ⟨by decide, rfl⟩
theorem cs_50 : 50 < cM.1 ∧ cM.2 50 = .inr (.inr (3, 4, 51, 2)) := ⟨by decide, rfl⟩
theorem cs_51 : 51 < cM.1 ∧ cM.2 51 = .inl (4, [.inl 52, .inr false, .inr false]) := ⟨by decide, rfl⟩
theorem cs_52 : 52 < cM.1 ∧ cM.2 52 = .inr (.inl (0, 40)) := ⟨by decide, rfl⟩
theorem cs_53 : 53 < cM.1 ∧ cM.2 53 = .inl (4, [.inl 54, .inr false, .inr false]) := ⟨by decide, rfl⟩
theorem cs_54 : 54 < cM.1 ∧ cM.2 54 = .inr (.inl (0, 40)) := ⟨by decide, rfl⟩
theorem cs_55 : 55 < cM.1 ∧ cM.2 55 = .inl (4, [.inl 56, .inr false, .inr false]) := ⟨by decide, rfl⟩
theorem cs_56 : 56 < cM.1 ∧ cM.2 56 = .inr (.inl (0, 40)) := ⟨by decide, rfl⟩
theorem cs_57 : 57 < cM.1 ∧ cM.2 57 = .inl (4, [.inl 58, .inr false, .inr false]) := ⟨by decide, rfl⟩
theorem cs_58 : 58 < cM.1 ∧ cM.2 58 = .inr (.inl (0, 40)) := ⟨by decide, rfl⟩
theorem cs_59 : 59 < cM.1 ∧ cM.2 59 = .inl (0, [.inr false, .inr false, .inr false]) := ⟨by decide, rfl⟩
theorem cs_60 : 60 < cM.1 ∧ cM.2 60 = .inr (.inr (4, 10, 61, 1)) := ⟨by decide, rfl⟩
theorem cs_61 : 61 < cM.1 ∧ cM.2 61 = .inr (.inl (0, 31)) := ⟨by decide, rfl⟩
theorem cs_62 : 62 < cM.1 ∧ cM.2 62 = .inr (.inl (0, 31)) := ⟨by decide, rfl⟩
theorem cs_63 : 63 < cM.1 ∧ cM.2 63 = .inr (.inl (0, 31)) := ⟨by decide, rfl⟩
theorem cs_64 : 64 < cM.1 ∧ cM.2 64 = .inr (.inl (0, 31)) := ⟨by decide, rfl⟩
theorem cs_65 : 65 < cM.1 ∧ cM.2 65 = .inr (.inl (0, 31)) := ⟨by decide, rfl⟩
theorem cs_66 : 66 < cM.1 ∧ cM.2 66 = .inr (.inl (0, 31)) := ⟨by decide, rfl⟩
theorem cs_67 : 67 < cM.1 ∧ cM.2 67 = .inr (.inl (0, 31)) := ⟨by decide, rfl⟩
theorem cs_68 : 68 < cM.1 ∧ cM.2 68 = .inr (.inl (0, 31)) := ⟨by decide, rfl⟩
theorem cs_69 : 69 < cM.1 ∧ cM.2 69 = .inr (.inl (0, 31)) := ⟨by decide, rfl⟩
theorem cs_70 : 70 < cM.1 ∧ cM.2 70 = .inr (.inl (0, 31)) := ⟨by decide, rfl⟩
theorem ms_0 : 0 < mM.1 ∧ mM.2 0 = .inl (6, [.inl 1, .inl 2, .inl 3, .inr false, .inl 4, .inr false, .inr false, .inr false, .inr false, .inl 5, .inr false, .inr false, .inr false, .inr false, .inr false, .inr false, .inr false, .inr false, .inr false, .inr false, .inr false, .inr false, .inr false, .inr false, .inr true, .inr true, .inr true, .inl 6, .inl 7, .inl 8, .inl 9, .inl 10, .inr false, .inl 11]) := ⟨by decide, rfl⟩
theorem ms_1 : 1 < mM.1 ∧ mM.2 1 = .inr (.inl (0, 189)) := ⟨by decide, rfl⟩
theorem ms_2 : 2 < mM.1 ∧ mM.2 2 = .inr (.inl (0, 63)) := ⟨by decide, rfl⟩
theorem ms_3 : 3 < mM.1 ∧ mM.2 3 = .inr (.inl (1, 2)) := ⟨by decide, rfl⟩
theorem ms_4 : 4 < mM.1 ∧ mM.2 4 = .inr (.inl (0, 63)) := ⟨by decide, rfl⟩
theorem ms_5 : 5 < mM.1 ∧ mM.2 5 = .inr (.inl (0, 160)) := ⟨by decide, rfl⟩
theorem ms_6 : 6 < mM.1 ∧ mM.2 6 = .inr (.inl (0, 31)) := ⟨by decide, rfl⟩
theorem ms_7 : 7 < mM.1 ∧ mM.2 7 = .inr (.inl (0, 279)) := ⟨by decide, rfl⟩
theorem ms_8 : 8 < mM.1 ∧ mM.2 8 = .inr (.inl (0, 4)) := ⟨by decide, rfl⟩
theorem ms_9 : 9 < mM.1 ∧ mM.2 9 = .inr (.inl (0, 4)) := ⟨by decide, rfl⟩
theorem ms_10 : 10 < mM.1 ∧ mM.2 10 = .inr (.inl (0, 160)) := ⟨by decide, rfl⟩
theorem ms_11 : 11 < mM.1 ∧ mM.2 11 = .inr (.inl (0, 63)) := ⟨by decide, rfl⟩
def isFl (k : Nat) : Prop := k = 1 ∨ k = 12 ∨ k = 23 ∨ k = 34
def isPr (k : Nat) : Prop := k = 6 ∨ k = 9 ∨ k = 17 ∨ k = 20 ∨ k = 28 ∨ k = 31 ∨ k = 39 ∨ k = 42
def isSh (k : Nat) : Prop := k = 51 ∨ k = 53 ∨ k = 55 ∨ k = 57
def pr_n (k : Nat) : Nat := if k = 6 ∨ k = 17 ∨ k = 28 ∨ k = 39 then 8 else 6
theorem fl_0 {k : Nat} (h : isFl k) : k < cM.1 ∧ cM.2 (k) = .inl (1, [.inl (k + 1), .inl (k + 2), .inl (k + 3), .inl (k + 4), .inl (k + 5), .inl (k + 8), .inr false, .inr false, .inr false, .inr false, .inr false, .inr false]) := by
  rcases h with rfl | rfl | rfl | rfl <;> exact ⟨by decide, rfl⟩
theorem fl_1 {k : Nat} (h : isFl k) : k + 1 < cM.1 ∧ cM.2 (k + 1) = .inr (.inl (0, 6)) := by
  rcases h with rfl | rfl | rfl | rfl <;> exact ⟨by decide, rfl⟩
theorem fl_2 {k : Nat} (h : isFl k) : k + 2 < cM.1 ∧ cM.2 (k + 2) = .inr (.inl (0, 6)) := by
  rcases h with rfl | rfl | rfl | rfl <;> exact ⟨by decide, rfl⟩
theorem fl_3 {k : Nat} (h : isFl k) : k + 3 < cM.1 ∧ cM.2 (k + 3) = .inr (.inl (0, 6)) := by
  rcases h with rfl | rfl | rfl | rfl <;> exact ⟨by decide, rfl⟩
theorem fl_4 {k : Nat} (h : isFl k) : k + 4 < cM.1 ∧ cM.2 (k + 4) = .inr (.inl (0, 5)) := by
  rcases h with rfl | rfl | rfl | rfl <;> exact ⟨by decide, rfl⟩
theorem fl_5 {k : Nat} (h : isFl k) : k + 5 < cM.1 ∧ cM.2 (k + 5) = .inl (2, [.inl (k + 6), .inl (k + 7), .inr false]) := by
  rcases h with rfl | rfl | rfl | rfl <;> exact ⟨by decide, rfl⟩
theorem fl_6 {k : Nat} (h : isFl k) : k + 6 < cM.1 ∧ cM.2 (k + 6) = .inr (.inl (0, 8)) := by
  rcases h with rfl | rfl | rfl | rfl <;> exact ⟨by decide, rfl⟩
theorem fl_7 {k : Nat} (h : isFl k) : k + 7 < cM.1 ∧ cM.2 (k + 7) = .inr (.inl (0, 8)) := by
  rcases h with rfl | rfl | rfl | rfl <;> exact ⟨by decide, rfl⟩
theorem fl_8 {k : Nat} (h : isFl k) : k + 8 < cM.1 ∧ cM.2 (k + 8) = .inl (2, [.inl (k + 9), .inl (k + 10), .inr false]) := by
  rcases h with rfl | rfl | rfl | rfl <;> exact ⟨by decide, rfl⟩
theorem fl_9 {k : Nat} (h : isFl k) : k + 9 < cM.1 ∧ cM.2 (k + 9) = .inr (.inl (0, 6)) := by
  rcases h with rfl | rfl | rfl | rfl <;> exact ⟨by decide, rfl⟩
theorem fl_10 {k : Nat} (h : isFl k) : k + 10 < cM.1 ∧ cM.2 (k + 10) = .inr (.inl (0, 6)) := by
  rcases h with rfl | rfl | rfl | rfl <;> exact ⟨by decide, rfl⟩
theorem fp_5 {k : Nat} (h : isFl k) : isPr (k + 5) := by
  rcases h with rfl | rfl | rfl | rfl <;> simp [isPr]
theorem fp_8 {k : Nat} (h : isFl k) : isPr (k + 8) := by
  rcases h with rfl | rfl | rfl | rfl <;> simp [isPr]
theorem pr_0 {k : Nat} (h : isPr k) : k < cM.1 ∧ cM.2 (k) = .inl (2, [.inl (k + 1), .inl (k + 2), .inr false]) := by
  rcases h with rfl | rfl | rfl | rfl | rfl | rfl | rfl | rfl <;> exact ⟨by decide, rfl⟩
theorem pr_1 {k : Nat} (h : isPr k) : k + 1 < cM.1 ∧ cM.2 (k + 1) = .inr (.inl (0, (pr_n k))) := by
  rcases h with rfl | rfl | rfl | rfl | rfl | rfl | rfl | rfl <;> exact ⟨by decide, rfl⟩
theorem pr_2 {k : Nat} (h : isPr k) : k + 2 < cM.1 ∧ cM.2 (k + 2) = .inr (.inl (0, (pr_n k))) := by
  rcases h with rfl | rfl | rfl | rfl | rfl | rfl | rfl | rfl <;> exact ⟨by decide, rfl⟩
theorem sk_0 {k : Nat} (h : isSh k) : k < cM.1 ∧ cM.2 (k) = .inl (4, [.inl (k + 1), .inr false, .inr false]) := by
  rcases h with rfl | rfl | rfl | rfl <;> exact ⟨by decide, rfl⟩
theorem sk_1 {k : Nat} (h : isSh k) : k + 1 < cM.1 ∧ cM.2 (k + 1) = .inr (.inl (0, 40)) := by
  rcases h with rfl | rfl | rfl | rfl <;> exact ⟨by decide, rfl⟩
theorem fl_is1 : isFl 1 := Or.inl rfl
theorem fl_is12 : isFl 12 := Or.inr (Or.inl rfl)
theorem pr_is6 : isPr 6 := by simp [isPr]
theorem pr_is9 : isPr 9 := by simp [isPr]
theorem pr_is17 : isPr 17 := by simp [isPr]
theorem pr_is20 : isPr 20 := by simp [isPr]
theorem im_lt {i : Int32} {n : Nat} (h : vp_in i n) : i.toNatClampNeg < n := Nat.not_le.mp fun q => h (Or.inr q)
theorem im_fl {i : Int32} (h : vp_in i 2) : isFl (23 + 11 * i.toNatClampNeg) := by
  have h1 := im_lt h
  generalize i.toNatClampNeg = j at h1
  unfold isFl
  omega
theorem im_sh {i : Int32} (h : vp_in i 4) : isSh (51 + 2 * i.toNatClampNeg) := by
  have h1 := im_lt h
  generalize i.toNatClampNeg = j at h1
  unfold isSh
  omega
theorem im_hb {i : Int32} (h : vp_in i 10) : 61 + 1 * i.toNatClampNeg < cM.1 ∧ cM.2 (61 + 1 * i.toNatClampNeg) = .inr (.inl (0, 31)) := by
  have h1 := im_lt h
  generalize i.toNatClampNeg = j at h1
  rcases (show j = 0 ∨ j = 1 ∨ j = 2 ∨ j = 3 ∨ j = 4 ∨ j = 5 ∨ j = 6 ∨ j = 7 ∨ j = 8 ∨ j = 9 by omega) with rfl | rfl | rfl | rfl | rfl | rfl | rfl | rfl | rfl | rfl <;> exact ⟨by decide, rfl⟩
/-- a row of ints of that length -/
def gr {β : Type} (r n : Nat) (k : Option β) : Option β := if r < cM.1 ∧ cM.2 r = .inr (.inl (0, n)) then k else none
theorem gr_e {β : Type} {r n : Nat} {k : Option β} {z : β} (h : gr r n k = some z) : (r < cM.1 ∧ cM.2 r = .inr (.inl (0, n))) ∧ k = some z := by
  unfold gr at h
  split at h
  · exact ⟨‹_›, h⟩
  · cases h
set_option maxRecDepth 20000 in
theorem tw_X0 : ∀ w ∈ u_ws RX0 TX0 3, w ∈ TBg := fun w h => tb_in ((by decide +kernel : ∀ w ∈ u_ws RX0 TX0 3, w ∈ lw_tbl) w h) ((by decide +kernel : ∀ w ∈ u_ws RX0 TX0 3, goodWord w = true) w h)
set_option maxRecDepth 20000 in
theorem tw_X1 : ∀ w ∈ u_ws RX1 TX1 12, w ∈ TBg := fun w h => tb_in ((by decide +kernel : ∀ w ∈ u_ws RX1 TX1 12, w ∈ lw_tbl) w h) ((by decide +kernel : ∀ w ∈ u_ws RX1 TX1 12, goodWord w = true) w h)
set_option maxRecDepth 20000 in
theorem tw_X2 : ∀ w ∈ u_ws RX2 TX2 3, w ∈ TBg := fun w h => tb_in ((by decide +kernel : ∀ w ∈ u_ws RX2 TX2 3, w ∈ lw_tbl) w h) ((by decide +kernel : ∀ w ∈ u_ws RX2 TX2 3, goodWord w = true) w h)
set_option maxRecDepth 20000 in
theorem tw_X3 : ∀ w ∈ u_ws RX3 TX3 12, w ∈ TBg := fun w h => tb_in ((by decide +kernel : ∀ w ∈ u_ws RX3 TX3 12, w ∈ lw_tbl) w h) ((by decide +kernel : ∀ w ∈ u_ws RX3 TX3 12, goodWord w = true) w h)
set_option maxRecDepth 20000 in
theorem tw_X4 : ∀ w ∈ u_ws RX4 TX4 3, w ∈ TBg := fun w h => tb_in ((by decide +kernel : ∀ w ∈ u_ws RX4 TX4 3, w ∈ lw_tbl) w h) ((by decide +kernel : ∀ w ∈ u_ws RX4 TX4 3, goodWord w = true) w h)
set_option maxRecDepth 20000 in
theorem tw_X5 : ∀ w ∈ u_ws RX5 TX5 9, w ∈ TBg := fun w h => tb_in ((by decide +kernel : ∀ w ∈ u_ws RX5 TX5 9, w ∈ lw_tbl) w h) ((by decide +kernel : ∀ w ∈ u_ws RX5 TX5 9, goodWord w = true) w h)
set_option maxRecDepth 20000 in
theorem tw_X6 : ∀ w ∈ u_ws RX6 TX6 34, w ∈ TBg := fun w h => tb_in ((by decide +kernel : ∀ w ∈ u_ws RX6 TX6 34, w ∈ lw_tbl) w h) ((by decide +kernel : ∀ w ∈ u_ws RX6 TX6 34, goodWord w = true) w h)
