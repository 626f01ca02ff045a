/-! Constructors: worlds that grow. -/
def ex_N (U : State) : Prop := (va_AO RX1 U ∧ va_AO RX4 U ∧ va_AOA .int U) ∧ va_Nw (.methodLinkNest RX5 29 yX3_init RX5) U ∧ va_Nw (.methodLinkNest RX5 42 yX0_init RX5) U ∧ va_Nw (.methodLinkNest RX5 52 yX4_init RX5) U
def WN (E : XC) (nL pc cl sl : Nat) (lv : List (Nat × Value)) (st : List Value) (ws : va_W) : Prop :=
  match E with
  | ((p, l, e, R, s, m, args, below, meth, c, Q), (D, ph, ids, A)) => ∀ (H : Heap) (locs : List Loc) (ls : Array Slot), va_P D vwCl ws H → va_D A ws → va_S A s.heap H locs → lv_has ls nL lv → W p l e R s m args below meth c H locs cl sl Q (F0 m pc ls st)
def ON (E : XC) (own : String) (cc : ByteArray) (nL : Nat) (rm : Room) (nm : String) : Prop :=
  match E with
  | ((p, l, e, R, s, m, args, below, meth, c, Q), (D, ph, ids, A)) => p.tables.exec = Jvm.exec ∧ c.code = cc ∧ c.maxLocals = nL ∧ s.vm.findClass own = some m.cls ∧ (∀ w ∈ TBg, w.before args s = true) ∧ va_K D vwCl (ty_l ids) s ∧ (∀ q, s.heap.size ≤ q → A q) ∧ ex_F ph A s s.heap ∧ R = rm ∧ meth.name = nm ∧ ex_N s
section NR
variable {E : XC} {own nm : String} {cc : ByteArray} {nL pc cl sl : Nat} {rm : Room} {lv : List (Nat × Value)} {st : List Value} {ws : va_W}
theorem n_iconst (O : ON E own cc nL rm nm) {n : Int} {v : Int32} (d : decode cc pc = .ok (.iconst n, 1)) (hv : Int32.ofInt n = v) (k : WN E nL (pc + 1) cl sl lv (.int v :: st) ws) : WN E nL pc cl sl lv st ws := by
  obtain ⟨⟨p, l, e, R, s, m, args, below, meth, c, Q⟩, ⟨D, ph, ids, A⟩⟩ := E
  exact fun H locs ls hP hD hS hl => lv_iconst O.1 O.2.1 d hv (k H locs ls hP hD hS hl)
theorem n_bipush (O : ON E own cc nL rm nm) {n : Int} {v : Int32} (d : decode cc pc = .ok (.bipush n, 2)) (hv : (Int8.ofInt n).toInt32 = v) (k : WN E nL (pc + 2) cl sl lv (.int v :: st) ws) : WN E nL pc cl sl lv st ws := by
  obtain ⟨⟨p, l, e, R, s, m, args, below, meth, c, Q⟩, ⟨D, ph, ids, A⟩⟩ := E
  exact fun H locs ls hP hD hS hl => lv_bipush O.1 O.2.1 d hv (k H locs ls hP hD hS hl)
theorem n_sipush (O : ON E own cc nL rm nm) {n : Int} {v : Int32} (d : decode cc pc = .ok (.sipush n, 3)) (hv : (Int16.ofInt n).toInt32 = v) (k : WN E nL (pc + 3) cl sl lv (.int v :: st) ws) : WN E nL pc cl sl lv st ws := by
  obtain ⟨⟨p, l, e, R, s, m, args, below, meth, c, Q⟩, ⟨D, ph, ids, A⟩⟩ := E
  exact fun H locs ls hP hD hS hl => lv_sipush O.1 O.2.1 d hv (k H locs ls hP hD hS hl)
theorem n_iload_n (O : ON E own cc nL rm nm) {k9 : _root_.Fin 4} {i : Nat} {x : Int32} (q : Nat) (d : decode cc pc = .ok (.iload_n k9, 1)) (hi : (k9 : Nat) = i) (hq : lv[q]? = some (i, .int x)) (k : WN E nL (pc + 1) cl sl lv (.int x :: st) ws) : WN E nL pc cl sl lv st ws := by
  obtain ⟨⟨p, l, e, R, s, m, args, below, meth, c, Q⟩, ⟨D, ph, ids, A⟩⟩ := E
  exact fun H locs ls hP hD hS hl => lv_iload_n O.1 O.2.1 d hi (lv_at hl q hq) (k H locs ls hP hD hS hl)
theorem n_aload_n (O : ON E own cc nL rm nm) {k9 : _root_.Fin 4} {i a : Nat} (q : Nat) (d : decode cc pc = .ok (.aload_n k9, 1)) (hi : (k9 : Nat) = i) (hq : lv[q]? = some (i, .ref a)) (k : WN E nL (pc + 1) cl sl lv (.ref a :: st) ws) : WN E nL pc cl sl lv st ws := by
  obtain ⟨⟨p, l, e, R, s, m, args, below, meth, c, Q⟩, ⟨D, ph, ids, A⟩⟩ := E
  exact fun H locs ls hP hD hS hl => lv_aload_n O.1 O.2.1 d hi (lv_at hl q hq) (k H locs ls hP hD hS hl)
theorem n_istore_n (O : ON E own cc nL rm nm) {k9 : _root_.Fin 4} {i : Nat} {x : Int32} {lv' : List (Nat × Value)} (d : decode cc pc = .ok (.istore_n k9, 1)) (hi : (k9 : Nat) = i) (hn : i < nL) (hl' : (i, Value.int x) :: lv.filter (fun q => !(q.1 == i) && !(q.1 + 1 == i && q.2.category == 2)) = lv') (k : WN E nL (pc + 1) cl sl lv' st ws) : WN E nL pc cl sl lv (.int x :: st) ws := by
  obtain ⟨⟨p, l, e, R, s, m, args, below, meth, c, Q⟩, ⟨D, ph, ids, A⟩⟩ := E
  exact fun H locs ls hP hD hS hl => lv_istore_n O.1 O.2.1 d hi hl hn hl' (fun ls' hl2 => k H locs ls' hP hD hS hl2)
theorem n_astore_n (O : ON E own cc nL rm nm) {k9 : _root_.Fin 4} {i a : Nat} {lv' : List (Nat × Value)} (d : decode cc pc = .ok (.astore_n k9, 1)) (hi : (k9 : Nat) = i) (hn : i < nL) (hl' : (i, Value.ref a) :: lv.filter (fun q => !(q.1 == i) && !(q.1 + 1 == i && q.2.category == 2)) = lv') (k : WN E nL (pc + 1) cl sl lv' st ws) : WN E nL pc cl sl lv (.ref a :: st) ws := by
  obtain ⟨⟨p, l, e, R, s, m, args, below, meth, c, Q⟩, ⟨D, ph, ids, A⟩⟩ := E
  exact fun H locs ls hP hD hS hl => lv_astore_n O.1 O.2.1 d hi hl hn hl' (fun ls' hl2 => k H locs ls' hP hD hS hl2)
theorem n_iinc (O : ON E own cc nL rm nm) {i : Nat} {n : Int} {x v : Int32} {lv' : List (Nat × Value)} (q : Nat) (d : decode cc pc = .ok (.iinc i n, 3)) (hq : lv[q]? = some (i, .int x)) (hv : x + Int32.ofInt n = v) (hn : i < nL) (hl' : (i, Value.int v) :: lv.filter (fun q => !(q.1 == i) && !(q.1 + 1 == i && q.2.category == 2)) = lv') (k : WN E nL (pc + 3) cl sl lv' st ws) : WN E nL pc cl sl lv st ws := by
  obtain ⟨⟨p, l, e, R, s, m, args, below, meth, c, Q⟩, ⟨D, ph, ids, A⟩⟩ := E
  exact fun H locs ls hP hD hS hl => lv_iinc O.1 O.2.1 d hl hq hv hn hl' (fun ls' hl2 => k H locs ls' hP hD hS hl2)
theorem n_dup (O : ON E own cc nL rm nm) {va : Value} (d : decode cc pc = .ok (.dup, 1)) (h : va.category = 1) (k : WN E nL (pc + 1) cl sl lv (va :: va :: st) ws) : WN E nL pc cl sl lv (va :: st) ws := by
  obtain ⟨⟨p, l, e, R, s, m, args, below, meth, c, Q⟩, ⟨D, ph, ids, A⟩⟩ := E
  exact fun H locs ls hP hD hS hl => lv_dup O.1 O.2.1 d h (k H locs ls hP hD hS hl)
theorem n_goto (O : ON E own cc nL rm nm) {off : Int} {tgt : Nat} (d : decode cc pc = .ok (.goto off, 3)) (ht : (pc : Int) + off = (tgt : Int)) (k : WN E nL tgt cl sl lv st ws) : WN E nL pc cl sl lv st ws := by
  obtain ⟨⟨p, l, e, R, s, m, args, below, meth, c, Q⟩, ⟨D, ph, ids, A⟩⟩ := E
  exact fun H locs ls hP hD hS hl => lv_goto O.1 O.2.1 d ht (k H locs ls hP hD hS hl)
theorem n_geT (O : ON E own cc nL rm nm) {x y : Int32} {off : Int} {tgt : Nat} (d : decode cc pc = .ok (.if_icmp .ge off, 3)) (ht : (pc : Int) + off = (tgt : Int)) (h : y ≤ x) (k : WN E nL tgt cl sl lv st ws) : WN E nL pc cl sl lv (.int y :: .int x :: st) ws := by
  obtain ⟨⟨p, l, e, R, s, m, args, below, meth, c, Q⟩, ⟨D, ph, ids, A⟩⟩ := E
  exact fun H locs ls hP hD hS hl => lv_icmp_ge O.1 O.2.1 d ht (fun _ => k H locs ls hP hD hS hl) (fun z => absurd h z)
theorem n_geF (O : ON E own cc nL rm nm) {x y : Int32} {off : Int} {tgt : Nat} (d : decode cc pc = .ok (.if_icmp .ge off, 3)) (ht : (pc : Int) + off = (tgt : Int)) (h : ¬ y ≤ x) (k : WN E nL (pc + 3) cl sl lv st ws) : WN E nL pc cl sl lv (.int y :: .int x :: st) ws := by
  obtain ⟨⟨p, l, e, R, s, m, args, below, meth, c, Q⟩, ⟨D, ph, ids, A⟩⟩ := E
  exact fun H locs ls hP hD hS hl => lv_icmp_ge O.1 O.2.1 d ht (fun z => absurd z h) (fun _ => k H locs ls hP hD hS hl)
theorem n_newI (O : ON E own cc nL rm nm) {n : Int32} {N : Nat} (hn : ¬ n < 0) (hN : n.toNatClampNeg = N) (hb : N * componentBytes .int ≤ 536870912) (hc : cl + 1 ≤ rm.cells) (hs : sl + N ≤ rm.slots) (hw : Cond.arrayClass .int ∈ TBg) (d : decode cc pc = .ok (.newarray .int, 2)) (k : ∀ q, WN E nL (pc + 2) (cl + 1) (sl + N) lv (.ref q :: st) (ws ++ [(q, .inl (E.2.2.2.1 0, N, .inl (fun _ => 0)))])) : WN E nL pc cl sl lv (.int n :: st) ws := by
  obtain ⟨⟨p, l, e, R, s, m, args, below, meth, c, Q⟩, ⟨D, ph, ids, A⟩⟩ := E
  have hRR : R = rm := O.2.2.2.2.2.2.2.2.1
  subst hRR
  intro H locs ls hP hD hS hl
  refine va_newa (atype := .int) (ty := .int) O.1 O.2.1 (O.2.2.2.2.1 _ hw) rfl O.2.2.2.2.2.1 hP hD hS O.2.2.2.2.2.2.1 (a0 := (N, .inl (fun _ => 0))) (fun _ => rfl) hn hN hb hc hs d (fun q cA H1 hK1 hP1 hD1 hS1 => ?_)
  have e1 := va_nm_int (hK1.2 5 (cA, .int) rfl).2
  have e2 := va_nm_int (O.2.2.2.2.2.1.2 0 (ids 0, .int) rfl).2
  have e3 : cA = ids 0 := Option.some.inj (e1.symm.trans e2)
  subst e3
  exact k q H1 locs ls hP1 hD1 hS1 hl
theorem n_newZ (O : ON E own cc nL rm nm) {n : Int32} {N : Nat} (hn : ¬ n < 0) (hN : n.toNatClampNeg = N) (hb : N * componentBytes .boolean ≤ 536870912) (hc : cl + 1 ≤ rm.cells) (hs : sl + N ≤ rm.slots) (hw : Cond.arrayClass .boolean ∈ TBg) (d : decode cc pc = .ok (.newarray .boolean, 2)) (k : ∀ q, WN E nL (pc + 2) (cl + 1) (sl + N) lv (.ref q :: st) (ws ++ [(q, .inl (E.2.2.2.1 1, N, .inl (fun _ => 0)))])) : WN E nL pc cl sl lv (.int n :: st) ws := by
  obtain ⟨⟨p, l, e, R, s, m, args, below, meth, c, Q⟩, ⟨D, ph, ids, A⟩⟩ := E
  have hRR : R = rm := O.2.2.2.2.2.2.2.2.1
  subst hRR
  intro H locs ls hP hD hS hl
  refine va_newa (atype := .boolean) (ty := .boolean) O.1 O.2.1 (O.2.2.2.2.1 _ hw) rfl O.2.2.2.2.2.1 hP hD hS O.2.2.2.2.2.2.1 (a0 := (N, .inl (fun _ => 0))) (fun _ => rfl) hn hN hb hc hs d (fun q cA H1 hK1 hP1 hD1 hS1 => ?_)
  have e1 := va_nm_boolean (hK1.2 5 (cA, .boolean) rfl).2
  have e2 := va_nm_boolean (O.2.2.2.2.2.1.2 1 (ids 1, .boolean) rfl).2
  have e3 : cA = ids 1 := Option.some.inj (e1.symm.trans e2)
  subst e3
  exact k q H1 locs ls hP1 hD1 hS1 hl
theorem n_newQ (O : ON E own cc nL rm nm) {C : String} {index t : Nat} {n : Int32} {N : Nat} (hC : va_AO C E.1.2.2.2.2.1) (hT : (ty_l E.2.2.2.1)[t]? = some (E.2.2.2.1 t, .object C)) (hw : Cond.classLink own index C ∈ TBg) (hn : ¬ n < 0) (hN : n.toNatClampNeg = N) (hb : N * 4 ≤ 536870912) (hc : cl + 1 ≤ rm.cells) (hs : sl + N ≤ rm.slots) (d : decode cc pc = .ok (.anewarray index, 3)) (k : ∀ q, WN E nL (pc + 3) (cl + 1) (sl + N) lv (.ref q :: st) (ws ++ [(q, .inl (E.2.2.2.1 t, N, .inr (.inr (.inr (.inr (fun _ => none))))))])) : WN E nL pc cl sl lv (.int n :: st) ws := by
  obtain ⟨⟨p, l, e, R, s, m, args, below, meth, c, Q⟩, ⟨D, ph, ids, A⟩⟩ := E
  have hRR : R = rm := O.2.2.2.2.2.2.2.2.1
  subst hRR
  intro H locs ls hP hD hS hl
  refine va_newq O.1 O.2.1 O.2.2.2.1 (O.2.2.2.2.1 _ hw) hC O.2.2.2.2.2.1 hP hD hS O.2.2.2.2.2.2.1 hn hN hb hc hs d (fun q cA H1 hK1 hP1 hD1 hS1 => ?_)
  have e1 := va_nmO (hK1.2 5 (cA, .object C) rfl).2 rfl
  have e2 := va_nmO (O.2.2.2.2.2.1.2 t (ids t, .object C) hT).2 rfl
  have e3 : cA = ids t := Option.some.inj (e1.symm.trans e2)
  subst e3
  exact k q H1 locs ls hP1 hD1 hS1 hl
theorem n_new (O : ON E own cc nL rm nm) {C : String} {T : u_T} {N ci index : Nat} (ty : Nat → FieldType) (hin : ∀ w ∈ u_ws C T N, w ∈ TBg) (hty : ∀ k, k < N → parseFieldDescriptor (T k).2.2.1 = some (ty k)) (h1 : Cond.classLink own index C ∈ TBg) (h2 : Cond.instantiable C N ∈ TBg) (h3 : Cond.initialized C ∈ TBg) (hcl : vwCl[ci]? = some (C, T, N)) {fs : List Value} (hfs : ∀ j, j < N → defaultValue (ty j) = vp_V fs j) (hc : cl + 1 ≤ rm.cells) (hs : sl + N ≤ rm.slots) (d : decode cc pc = .ok (.new index, 3)) (k : ∀ q, WN E nL (pc + 3) (cl + 1) (sl + N) lv (.ref q :: st) (ws ++ [(q, .inr (ci, fs))])) : WN E nL pc cl sl lv st ws := by
  obtain ⟨⟨p, l, e, R, s, m, args, below, meth, c, Q⟩, ⟨D, ph, ids, A⟩⟩ := E
  have hRR : R = rm := O.2.2.2.2.2.2.2.2.1
  subst hRR
  intro H locs ls hP hD hS hl
  exact va_new O.1 O.2.1 O.2.2.2.2.1 hin ty hty O.2.2.2.1 (O.2.2.2.2.1 _ h1) (O.2.2.2.2.1 _ h2) (O.2.2.2.2.1 _ h3) O.2.2.2.2.2.1 hP hD hS O.2.2.2.2.2.2.1 hcl hfs hc hs d (fun q H1 hP1 hD1 hS1 => k q H1 locs ls hP1 hD1 hS1 hl)
theorem n_obj (O : ON E own cc nL rm nm) {index a : Nat} (h1 : Cond.methodLink own index objectInit ∈ TBg) (h2 : Cond.instanceMethod objectInit ∈ TBg) (h3 : Cond.code objectInit ⟨#[0xb1]⟩ 1 none ∈ TBg) (hf : 1 ≤ rm.frames) (hlc : (st.map fun v => v.category).sum + 12 ≤ rm.locals) (d : decode cc pc = .ok (.invokespecial index, 3)) (k : WN E nL (pc + 3) cl sl lv st ws) : WN E nL pc cl sl lv (.ref a :: st) ws := by
  obtain ⟨⟨p, l, e, R, s, m, args, below, meth, c, Q⟩, ⟨D, ph, ids, A⟩⟩ := E
  have hRR : R = rm := O.2.2.2.2.2.2.2.2.1
  subst hRR
  intro H locs ls hP hD hS hl
  refine W.objInit O.1 O.2.1 O.2.2.2.1 (O.2.2.2.2.1 _ h1) (O.2.2.2.2.1 _ h2) (O.2.2.2.2.1 _ h3) rfl (by rw [O.2.2.1]; exact hl.1) rfl d hf (by show 2 * 0 + _ + 12 ≤ _; omega) ?_
  exact W.eq (g2 := F0 m (pc + 3) ls st) rfl (k H locs ls hP hD hS hl)
/-- a field is put, in a constructor: a final one, another -/
def FfX (own : String) (index ci j : Nat) (ty : FieldType) : Prop := ∃ (C : String) (T : u_T) (N : Nat) (ty0 : Nat → FieldType), vwCl[ci]? = some (C, T, N) ∧ (∀ w ∈ u_ws C T N, w ∈ TBg) ∧ j < N ∧ Cond.fieldLink own index (T j).1 (T j).2.1 (T j).2.2.1 ∈ TBg ∧ (∀ k, k < N → parseFieldDescriptor (T k).2.2.1 = some (ty0 k)) ∧ (∀ a, a < N → ∀ b, b < N → a ≠ b → (T a).2.1 ≠ (T b).2.1) ∧ (T j).2.2.2 = true ∧ parseFieldDescriptor (T j).2.2.1 = some ty ∧ (T j).1 = own
theorem n_putF (O : ON E own cc nL rm "<init>") {ci j index a b : Nat} {ty : FieldType} (F : FfX own index ci j ty) (q0 : Nat) {fs : List Value} (he : ws[q0]? = some (a, .inr (ci, fs))) (hl9 : j < fs.length) (hn : narrow ty (.ref b) = .ref b) (hf : fits ty (.ref b) = true) (d : decode cc pc = .ok (.putfield index, 3)) (k : WN E nL (pc + 3) cl sl lv st (ws.set q0 (a, .inr (ci, fs.set j (.ref b))))) : WN E nL pc cl sl lv (.ref b :: .ref a :: st) ws := by
  obtain ⟨⟨p, l, e, R, s, m, args, below, meth, c, Q⟩, ⟨D, ph, ids, A⟩⟩ := E
  obtain ⟨C, T, N, ty0, h1, h2, h3, h4, h5, h6, h7, h8, h9⟩ := F
  intro H locs ls hP hD hS hl
  exact va_putF (C := C) (T := T) (N := N) (v := .ref b) (ty := ty) O.1 O.2.1 O.2.2.2.2.1 h2 ty0 h5 h6 O.2.2.2.1 O.2.2.2.2.2.1 hP hD hS q0 he h1 j h3 (O.2.2.2.2.1 _ h4) (fun _ h9 => h9) h7 O.2.2.2.2.2.2.2.2.2.1 h9 h8 hn hf hl9 d (fun H1 locs1 hP1 hD1 hS1 => k H1 locs1 ls hP1 hD1 hS1 hl)
theorem n_putI (O : ON E own cc nL rm nm) {ci j index a : Nat} {x : Int32} (F : FpX own index ci j .int) (q0 : Nat) {fs : List Value} (he : ws[q0]? = some (a, .inr (ci, fs))) (hl9 : j < fs.length) (d : decode cc pc = .ok (.putfield index, 3)) (k : WN E nL (pc + 3) cl sl lv st (ws.set q0 (a, .inr (ci, fs.set j (.int x))))) : WN E nL pc cl sl lv (.int x :: .ref a :: st) ws := by
  obtain ⟨⟨p, l, e, R, s, m, args, below, meth, c, Q⟩, ⟨D, ph, ids, A⟩⟩ := E
  obtain ⟨C, T, N, ty0, h1, h2, h3, h4, h5, h6, h7, h8⟩ := F
  intro H locs ls hP hD hS hl
  exact va_put (C := C) (T := T) (N := N) (v := .int x) (ty := .int) O.1 O.2.1 O.2.2.2.2.1 h2 ty0 h5 h6 O.2.2.2.1 O.2.2.2.2.2.1 hP hD hS q0 he h1 j h3 (O.2.2.2.2.1 _ h4) (fun _ h9 => h9) h7 h8 rfl rfl hl9 d (fun H1 locs1 hP1 hD1 hS1 => k H1 locs1 ls hP1 hD1 hS1 hl)
theorem n_get (O : ON E own cc nL rm nm) {ci j index a : Nat} {v : Value} (F : FgX own index ci j) (q0 : Nat) {fs : List Value} (he : ws[q0]? = some (a, .inr (ci, fs))) (hv : fs[j]? = some v) (d : decode cc pc = .ok (.getfield index, 3)) (k : WN E nL (pc + 3) cl sl lv (v :: st) ws) : WN E nL pc cl sl lv (.ref a :: st) ws := by
  obtain ⟨⟨p, l, e, R, s, m, args, below, meth, c, Q⟩, ⟨D, ph, ids, A⟩⟩ := E
  obtain ⟨C, T, N, h1, h2, h3, h4⟩ := F
  intro H locs ls hP hD hS hl
  exact va_get (C := C) (T := T) (N := N) O.1 O.2.1 O.2.2.2.2.1 h2 O.2.2.2.1 O.2.2.2.2.2.1 hP q0 he h1 j h3 (O.2.2.2.2.1 _ h4) (fun _ h9 => h9) hv d (k H locs ls hP hD hS hl)
theorem n_aast (O : ON E own cc nL rm nm) {C : String} {T : u_T} {N a v n : Nat} {i : Int32} {vs : List Value} {f : Nat → Option Nat} (q0 t0 qk ci : Nat) (ha : ws[q0]? = some (a, .inl (E.2.2.2.1 t0, n, .inr (.inr (.inr (.inr f)))))) (ht : (ty_l E.2.2.2.1)[t0]? = some (E.2.2.2.1 t0, .object C)) (hv : ws[qk]? = some (v, .inr (ci, vs))) (hc : vwCl[ci]? = some (C, T, N)) (hin : vp_in i n) (d : decode cc pc = .ok (.aastore, 1)) (k : WN E nL (pc + 1) cl sl lv st (ws.set q0 (a, .inl (E.2.2.2.1 t0, n, .inr (.inr (.inr (.inr (va_up f i.toNatClampNeg (some v))))))))) : WN E nL pc cl sl lv (.ref v :: .int i :: .ref a :: st) ws := by
  obtain ⟨⟨p, l, e, R, s, m, args, below, meth, c, Q⟩, ⟨D, ph, ids, A⟩⟩ := E
  intro H locs ls hP hD hS hl
  exact va_astq O.1 O.2.1 O.2.2.2.2.2.1 hP hD hS q0 t0 qk ci ha ht hv hc hin d (fun H1 locs1 hP1 hD1 hS1 => k H1 locs1 ls hP1 hD1 hS1 hl)
theorem n_iast (O : ON E own cc nL rm nm) {a n : Nat} {i x : Int32} {f : Nat → Int32} (q0 : Nat) (ha : ws[q0]? = some (a, .inl (E.2.2.2.1 0, n, .inl f))) (hin : vp_in i n) (d : decode cc pc = .ok (.iastore, 1)) (k : WN E nL (pc + 1) cl sl lv st (ws.set q0 (a, .inl (E.2.2.2.1 0, n, .inl (upd f i.toNatClampNeg x))))) : WN E nL pc cl sl lv (.int x :: .int i :: .ref a :: st) ws := by
  obtain ⟨⟨p, l, e, R, s, m, args, below, meth, c, Q⟩, ⟨D, ph, ids, A⟩⟩ := E
  intro H locs ls hP hD hS hl
  exact va_iast O.1 O.2.1 O.2.2.2.2.2.1 hP hD hS q0 0 ha rfl hin d (fun H1 locs1 hP1 hD1 hS1 => k H1 locs1 ls hP1 hD1 hS1 hl)
theorem n_mmax (O : ON E own cc nL rm nm) {index : Nat} {x y : Int32} (L : LkS own index Lib.Math.max.name Lib.Math.max.code 2 (some .int) 2) (hR : 1 ≤ rm.frames ∧ 21 ≤ rm.locals) (hw : (st.map fun v => v.category).sum ≤ 8) (hc : cl ≤ rm.cells) (hs : sl ≤ rm.slots) (d : decode cc pc = .ok (.invokestatic index, 3)) (kk : WN E nL (pc + 3) cl sl lv (.int (if x < y then y else x) :: st) ws) : WN E nL pc cl sl lv (.int y :: .int x :: st) ws := by
  obtain ⟨⟨p, l, e, R, s, m, args, below, meth, c, Q⟩, ⟨D, ph, ids, A⟩⟩ := E
  have hRR : R = rm := O.2.2.2.2.2.2.2.2.1
  subst hRR
  intro H locs ls hP hD hS hl
  exact va_mmax O.1 O.2.1 (by rw [O.2.2.1]; exact hl.1.symm) O.2.2.2.1 (O.2.2.2.2.1 _ L.2.1) (O.2.2.2.2.1 _ L.2.2.1) (O.2.2.2.2.1 _ L.2.2.2.1) (O.2.2.2.2.1 _ L.1) hR.1 (by omega) hc hs d (kk H locs ls hP hD hS hl)
end NR
