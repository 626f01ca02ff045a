def FgX (own : String) (index ci j : Nat) : Prop := ∃ (C : String) (T : u_T) (N : Nat), vwCl[ci]? = some (C, T, N) ∧ (∀ w ∈ u_ws C T N, w ∈ TBg) ∧ j < N ∧ Cond.fieldLink own index (T j).1 (T j).2.1 (T j).2.2.1 ∈ TBg
def FpX (own : String) (index ci j : Nat) (ty : FieldType) : Prop := ∃ (C : String) (T : u_T) (N : Nat) (ty0 : Nat → FieldType), vwCl[ci]? = some (C, T, N) ∧ (∀ w ∈ u_ws C T N, w ∈ TBg) ∧ j < N ∧ Cond.fieldLink own index (T j).1 (T j).2.1 (T j).2.2.1 ∈ TBg ∧ (∀ k, k < N → parseFieldDescriptor (T k).2.2.1 = some (ty0 k)) ∧ (∀ a, a < N → ∀ b, b < N → a ≠ b → (T a).2.1 ≠ (T b).2.1) ∧ (T j).2.2.2 = false ∧ parseFieldDescriptor (T j).2.2.1 = some ty
def LkV (own : String) (index : Nat) (y : MethodName) (cc : ByteArray) (nL : Nat) (ro : Option FieldType) (n : Nat) : Prop := Cond.code y cc nL ro ∈ TBg ∧ Cond.methodLink own index y ∈ TBg ∧ Cond.instanceMethod y ∈ TBg ∧ Cond.selects y.cls y y ∈ TBg ∧ Cond.initialized y.cls ∈ TBg ∧ y.cls ≠ "java/lang/invoke/MethodHandle" ∧ y.cls ≠ "java/lang/invoke/VarHandle" ∧ (parseMethodDescriptor y.desc).map (fun d => d.parameters.length) = some n
def LkS (own : String) (index : Nat) (y : MethodName) (cc : ByteArray) (nL : Nat) (ro : Option FieldType) (n : Nat) : Prop := Cond.code y cc nL ro ∈ TBg ∧ Cond.methodLink own index y ∈ TBg ∧ Cond.static y ∈ TBg ∧ Cond.initialized y.cls ∈ TBg ∧ y.cls ≠ "java/lang/invoke/MethodHandle" ∧ y.cls ≠ "java/lang/invoke/VarHandle" ∧ (parseMethodDescriptor y.desc).map (fun d => d.parameters.length) = some n
def LkN (own : String) (index : Nat) (y : MethodName) (cc : ByteArray) (nL : Nat) (ro : Option FieldType) (n : Nat) : Prop := Cond.code y cc nL ro ∈ TBg ∧ (own, index, y) ∈ ne_L ∧ Cond.static y ∈ TBg ∧ Cond.initialized y.cls ∈ TBg ∧ y.cls ≠ "java/lang/invoke/MethodHandle" ∧ y.cls ≠ "java/lang/invoke/VarHandle" ∧ (parseMethodDescriptor y.desc).map (fun d => d.parameters.length) = some n
/-- 0 or 1 -/
def is_b (x : Int32) : Prop := x = 0 ∨ x = 1
theorem is_b.nar {x : Int32} (h : is_b x) : narrow .boolean (.int x) = .int x := by
  rcases h with rfl | rfl <;> rfl
theorem is_b.fit {x : Int32} (h : is_b x) : fits .boolean (.int x) = true := by
  rcases h with rfl | rfl <;> rfl
theorem is_b.vpn {x : Int32} (h : is_b x) : vp_nar .boolean x = x := by
  rcases h with rfl | rfl <;> rfl
/-- the caller's cells hold the callee's -/
theorem ca_A {M : MW} {ph : Nat → Nat} {ids : Nat → ClassId} {σ : StA} {A : Nat → Prop} {H0 H : Heap} {locs : List Loc} (hD : va_D A (wld M ph ids σ)) (hA : ∀ q, H0.size ≤ q → A q) (hS : va_S A H0 H locs) : ∀ q, va_A (wld M ph ids σ) H.size q → A q := by
  intro q h
  rcases h with ⟨k, e, h⟩ | h
  · exact hD.2 k (q, e) h
  · exact hA q (Nat.le_trans hS.1 h)
section SH
variable {M : MW} {E : XC} {own : String} {cc : ByteArray} {nL pc : Nat} {rm : Room} {lv : List (Nat × Value)} {st : List Value} {σ : StA}
theorem s_getI (O : OK M E own cc nL rm) {k j ci index : Nat} {fs : List (Nat ⊕ Bool)} (F : FgX own index ci j) (hs : k < M.1 ∧ M.2 k = .inl (ci, fs)) (hf : fs[j]? = some (.inr false)) (d : decode cc pc = .ok (.getfield index, 3)) (kk : WS M E nL (pc + 3) lv (.int (gi σ k j) :: st) σ) : WS M E nL pc lv (rf E k :: st) σ := by
  obtain ⟨⟨p, l, e, R, s, m, args, below, meth, c, Q⟩, ⟨D, ph, ids, A⟩⟩ := E
  obtain ⟨C, T, N, h1, h2, h3, h4⟩ := F
  intro H locs ls hP hS hl
  refine va_get (C := C) (T := T) (N := N) O.1 O.2.1 O.2.2.2.2.1 h2 O.2.2.2.1 O.2.2.2.2.2.1 hP k (wld_get hs) h1 j h3 (O.2.2.2.2.1 _ h4) (fun _ h9 => h9) ?_ d (kk H locs ls hP hS hl)
  rw [en_L_get, hf, Nat.zero_add]
  rfl
theorem s_getL (O : OK M E own cc nL rm) {k j ci index : Nat} {fs : List (Nat ⊕ Bool)} (F : FgX own index ci j) (hs : k < M.1 ∧ M.2 k = .inl (ci, fs)) (hf : fs[j]? = some (.inr true)) (d : decode cc pc = .ok (.getfield index, 3)) (kk : WS M E nL (pc + 3) lv (.long (gl σ k j) :: st) σ) : WS M E nL pc lv (rf E k :: st) σ := by
  obtain ⟨⟨p, l, e, R, s, m, args, below, meth, c, Q⟩, ⟨D, ph, ids, A⟩⟩ := E
  obtain ⟨C, T, N, h1, h2, h3, h4⟩ := F
  intro H locs ls hP hS hl
  refine va_get (C := C) (T := T) (N := N) O.1 O.2.1 O.2.2.2.2.1 h2 O.2.2.2.1 O.2.2.2.2.2.1 hP k (wld_get hs) h1 j h3 (O.2.2.2.2.1 _ h4) (fun _ h9 => h9) ?_ d (kk H locs ls hP hS hl)
  rw [en_L_get, hf, Nat.zero_add]
  rfl
theorem s_getR (O : OK M E own cc nL rm) {k j ci index : Nat} {r : Nat} {fs : List (Nat ⊕ Bool)} (F : FgX own index ci j) (hs : k < M.1 ∧ M.2 k = .inl (ci, fs)) (hf : fs[j]? = some (.inl r)) (d : decode cc pc = .ok (.getfield index, 3)) (kk : WS M E nL (pc + 3) lv (rf E r :: st) σ) : WS M E nL pc lv (rf E k :: st) σ := by
  obtain ⟨⟨p, l, e, R, s, m, args, below, meth, c, Q⟩, ⟨D, ph, ids, A⟩⟩ := E
  obtain ⟨C, T, N, h1, h2, h3, h4⟩ := F
  intro H locs ls hP hS hl
  refine va_get (C := C) (T := T) (N := N) O.1 O.2.1 O.2.2.2.2.1 h2 O.2.2.2.1 O.2.2.2.2.2.1 hP k (wld_get hs) h1 j h3 (O.2.2.2.2.1 _ h4) (fun _ h9 => h9) ?_ d (kk H locs ls hP hS hl)
  rw [en_L_get, hf, Nat.zero_add]
  rfl
theorem s_putI (O : OK M E own cc nL rm) {k j ci index : Nat} {v : Int32} {fs : List (Nat ⊕ Bool)} (F : FpX own index ci j .int) (hs : k < M.1 ∧ M.2 k = .inl (ci, fs)) (hf : fs[j]? = some (.inr false)) (d : decode cc pc = .ok (.putfield index, 3)) (kk : WS M E nL (pc + 3) lv st (si σ k j v)) : WS M E nL pc lv (.int v :: rf E k :: st) σ := by
  obtain ⟨⟨p, l, e, R, s, m, args, below, meth, c, Q⟩, ⟨D, ph, ids, A⟩⟩ := E
  obtain ⟨C, T, N, ty0, h1, h2, h3, h4, h5, h6, h7, h8⟩ := F
  have hln : j < (en_L ph σ k 0 fs).length := by rw [en_L_len]; exact (List.getElem?_eq_some_iff.mp hf).1
  intro H locs ls hP hS hl
  refine va_put (C := C) (T := T) (N := N) (v := .int v) (ty := .int) O.1 O.2.1 O.2.2.2.2.1 h2 ty0 h5 h6 O.2.2.2.1 O.2.2.2.2.2.1 hP (O.2.2.2.2.2.2.1 σ) hS k (wld_get hs) h1 j h3 (O.2.2.2.2.1 _ h4) (fun _ h9 => h9) h7 h8 rfl rfl hln d (fun H1 locs1 hP1 hD1 hS1 => kk H1 locs1 ls ?_ hS1 hl)
  rw [wld_set (s' := si σ k j v) hs.1 (by rw [hs.2]; simp only [en_E]; rw [en_L_set_i fs 0 j hf (by omega)]) (fun a ha b => by first | (simp only [gi_si]; rw [if_neg (by omega)]) | rfl) (fun a ha b => by first | (simp only [gl_sl]; rw [if_neg (by omega)]) | rfl)] at hP1
  exact hP1
theorem s_putZ (O : OK M E own cc nL rm) {k j ci index : Nat} {v : Int32} {fs : List (Nat ⊕ Bool)} (F : FpX own index ci j .boolean) (hb : is_b v) (hs : k < M.1 ∧ M.2 k = .inl (ci, fs)) (hf : fs[j]? = some (.inr false)) (d : decode cc pc = .ok (.putfield index, 3)) (kk : WS M E nL (pc + 3) lv st (si σ k j v)) : WS M E nL pc lv (.int v :: rf E k :: st) σ := by
  obtain ⟨⟨p, l, e, R, s, m, args, below, meth, c, Q⟩, ⟨D, ph, ids, A⟩⟩ := E
  obtain ⟨C, T, N, ty0, h1, h2, h3, h4, h5, h6, h7, h8⟩ := F
  have hln : j < (en_L ph σ k 0 fs).length := by rw [en_L_len]; exact (List.getElem?_eq_some_iff.mp hf).1
  intro H locs ls hP hS hl
  refine va_put (C := C) (T := T) (N := N) (v := .int v) (ty := .boolean) O.1 O.2.1 O.2.2.2.2.1 h2 ty0 h5 h6 O.2.2.2.1 O.2.2.2.2.2.1 hP (O.2.2.2.2.2.2.1 σ) hS k (wld_get hs) h1 j h3 (O.2.2.2.2.1 _ h4) (fun _ h9 => h9) h7 h8 hb.nar hb.fit hln d (fun H1 locs1 hP1 hD1 hS1 => kk H1 locs1 ls ?_ hS1 hl)
  rw [wld_set (s' := si σ k j v) hs.1 (by rw [hs.2]; simp only [en_E]; rw [en_L_set_i fs 0 j hf (by omega)]) (fun a ha b => by first | (simp only [gi_si]; rw [if_neg (by omega)]) | rfl) (fun a ha b => by first | (simp only [gl_sl]; rw [if_neg (by omega)]) | rfl)] at hP1
  exact hP1
theorem s_putL (O : OK M E own cc nL rm) {k j ci index : Nat} {v : Int64} {fs : List (Nat ⊕ Bool)} (F : FpX own index ci j .long) (hs : k < M.1 ∧ M.2 k = .inl (ci, fs)) (hf : fs[j]? = some (.inr true)) (d : decode cc pc = .ok (.putfield index, 3)) (kk : WS M E nL (pc + 3) lv st (sl σ k j v)) : WS M E nL pc lv (.long v :: rf E k :: st) σ := by
  obtain ⟨⟨p, l, e, R, s, m, args, below, meth, c, Q⟩, ⟨D, ph, ids, A⟩⟩ := E
  obtain ⟨C, T, N, ty0, h1, h2, h3, h4, h5, h6, h7, h8⟩ := F
  have hln : j < (en_L ph σ k 0 fs).length := by rw [en_L_len]; exact (List.getElem?_eq_some_iff.mp hf).1
  intro H locs ls hP hS hl
  refine va_put (C := C) (T := T) (N := N) (v := .long v) (ty := .long) O.1 O.2.1 O.2.2.2.2.1 h2 ty0 h5 h6 O.2.2.2.1 O.2.2.2.2.2.1 hP (O.2.2.2.2.2.2.1 σ) hS k (wld_get hs) h1 j h3 (O.2.2.2.2.1 _ h4) (fun _ h9 => h9) h7 h8 rfl rfl hln d (fun H1 locs1 hP1 hD1 hS1 => kk H1 locs1 ls ?_ hS1 hl)
  rw [wld_set (s' := sl σ k j v) hs.1 (by rw [hs.2]; simp only [en_E]; rw [en_L_set_l fs 0 j hf (by omega)]) (fun a ha b => by first | (simp only [gi_si]; rw [if_neg (by omega)]) | rfl) (fun a ha b => by first | (simp only [gl_sl]; rw [if_neg (by omega)]) | rfl)] at hP1
  exact hP1
theorem s_iald (O : OK M E own cc nL rm) {k n : Nat} {i : Int32} (hs : k < M.1 ∧ M.2 k = .inr (.inl (0, n))) (hin : vp_in i n) (d : decode cc pc = .ok (.iaload, 1)) (kk : WS M E nL (pc + 1) lv (.int (gi σ k i.toNatClampNeg) :: st) σ) : WS M E nL pc lv (.int i :: rf E k :: st) σ := by
  obtain ⟨⟨p, l, e, R, s, m, args, below, meth, c, Q⟩, ⟨D, ph, ids, A⟩⟩ := E
  exact fun H locs ls hP hS hl => va_iald O.1 O.2.1 O.2.2.2.2.2.1 hP k 0 (wld_get hs) rfl hin d (kk H locs ls hP hS hl)
theorem s_zald (O : OK M E own cc nL rm) {k n : Nat} {i : Int32} (hs : k < M.1 ∧ M.2 k = .inr (.inl (1, n))) (hin : vp_in i n) (d : decode cc pc = .ok (.baload, 1)) (kk : WS M E nL (pc + 1) lv (.int (gi σ k i.toNatClampNeg) :: st) σ) : WS M E nL pc lv (.int i :: rf E k :: st) σ := by
  obtain ⟨⟨p, l, e, R, s, m, args, below, meth, c, Q⟩, ⟨D, ph, ids, A⟩⟩ := E
  exact fun H locs ls hP hS hl => va_zald O.1 O.2.1 O.2.2.2.2.2.1 hP k 1 (wld_get hs) rfl hin d (kk H locs ls hP hS hl)
theorem ar_set {M : MW} {ph : Nat → Nat} {ids : Nat → ClassId} {σ : StA} {k n t : Nat} {i : Nat} {v : Int32} (hs : k < M.1 ∧ M.2 k = .inr (.inl (t, n))) : (wld M ph ids σ).set k (ph k, .inl (ids t, n, .inl (upd (fun j => gi σ k j) i v))) = wld M ph ids (si σ k i v) := by
  refine wld_set hs.1 ?_ (fun a ha b => by simp only [gi_si]; rw [if_neg (by omega)]) (fun _ _ _ => rfl)
  rw [hs.2]
  simp only [en_E]
  have e : (fun j => gi (si σ k i v) k j) = upd (fun j => gi σ k j) i v := by
    funext j
    simp [gi_si, upd]
  rw [e]
theorem s_iast (O : OK M E own cc nL rm) {k n : Nat} {i v : Int32} (hs : k < M.1 ∧ M.2 k = .inr (.inl (0, n))) (hin : vp_in i n) (d : decode cc pc = .ok (.iastore, 1)) (kk : WS M E nL (pc + 1) lv st (si σ k i.toNatClampNeg v)) : WS M E nL pc lv (.int v :: .int i :: rf E k :: st) σ := by
  obtain ⟨⟨p, l, e, R, s, m, args, below, meth, c, Q⟩, ⟨D, ph, ids, A⟩⟩ := E
  exact fun H locs ls hP hS hl => va_iast O.1 O.2.1 O.2.2.2.2.2.1 hP (O.2.2.2.2.2.2.1 σ) hS k 0 (wld_get hs) rfl hin d (fun H1 locs1 hP1 _ hS1 => kk H1 locs1 ls (by rw [ar_set hs] at hP1; exact hP1) hS1 hl)
theorem s_zast (O : OK M E own cc nL rm) {k n : Nat} {i v : Int32} (hb : is_b v) (hs : k < M.1 ∧ M.2 k = .inr (.inl (1, n))) (hin : vp_in i n) (d : decode cc pc = .ok (.bastore, 1)) (kk : WS M E nL (pc + 1) lv st (si σ k i.toNatClampNeg v)) : WS M E nL pc lv (.int v :: .int i :: rf E k :: st) σ := by
  obtain ⟨⟨p, l, e, R, s, m, args, below, meth, c, Q⟩, ⟨D, ph, ids, A⟩⟩ := E
  exact fun H locs ls hP hS hl => va_zast O.1 O.2.1 O.2.2.2.2.2.1 hP (O.2.2.2.2.2.2.1 σ) hS k 1 (wld_get hs) rfl hin d (fun H1 locs1 hP1 _ hS1 => kk H1 locs1 ls (by rw [hb.vpn, ar_set hs] at hP1; exact hP1) hS1 hl)
theorem s_alen (O : OK M E own cc nL rm) {k n : Nat} {v : Int32} (hs : k < M.1 ∧ M.2 k = .inr (.inl (0, n))) (hv : Int32.ofNat n = v) (d : decode cc pc = .ok (.arraylength, 1)) (kk : WS M E nL (pc + 1) lv (.int v :: st) σ) : WS M E nL pc lv (rf E k :: st) σ := by
  obtain ⟨⟨p, l, e, R, s, m, args, below, meth, c, Q⟩, ⟨D, ph, ids, A⟩⟩ := E
  exact fun H locs ls hP hS hl => va_alen (ty := .int) O.1 O.2.1 O.2.2.2.2.2.1 hP k 0 (wld_get hs) rfl hv d (kk H locs ls hP hS hl)
theorem s_aald (O : OK M E own cc nL rm) {k t n b dd : Nat} {i : Int32} (hs : k < M.1 ∧ M.2 k = .inr (.inr (t, n, b, dd))) (ht : t = 2 ∨ t = 3 ∨ t = 4) (hin : vp_in i n) (d : decode cc pc = .ok (.aaload, 1)) (kk : WS M E nL (pc + 1) lv (rf E (b + dd * i.toNatClampNeg) :: st) σ) : WS M E nL pc lv (.int i :: rf E k :: st) σ := by
  obtain ⟨⟨p, l, e, R, s, m, args, below, meth, c, Q⟩, ⟨D, ph, ids, A⟩⟩ := E
  intro H locs ls hP hS hl
  have hlt : i.toNatClampNeg < n := Nat.not_le.mp fun q => hin (Or.inr q)
  have ha := wld_get (ph := ph) (ids := ids) (s := σ) hs
  have key : ∀ (ty : FieldType), (ty_l ids)[t]? = some (ids t, ty) → ty.isReference = true → W p l e R s m args below meth c H locs 0 0 Q (F0 m pc ls (.int i :: .ref (ph k) :: st)) := fun ty hty hrf =>
    W.aald (v := va_rf (some (ph (b + dd * i.toNatClampNeg)))) (ty := ty) O.1 O.2.1 (hP k _ ha) ((O.2.2.2.2.2.1.2 t _ hty).1 n (fun j => va_rf (some (ph (b + dd * j))))) hrf (fun q => by cases q) (by show ¬ (i < 0 ∨ (arrV _ _ _).slots.size ≤ _); rw [arrV_size]; exact hin) (by show (arrV _ _ _).slots[_]? = _; rw [arrV_read _ _ hlt]) rfl rfl d (kk H locs ls hP hS hl)
  rcases ht with rfl | rfl | rfl
  · exact key _ rfl rfl
  · exact key _ rfl rfl
  · exact key _ rfl rfl
theorem s_VI (O : OK M E own cc nL rm) {y : MethodName} {cc' : ByteArray} {nL' index n : Nat} {rm' : Room} {av : (Nat → Nat) → List Value} {σ' : StA} {As st0 : List Value} {r : Int32} {rt : FieldType} {k ci : Nat} {fs : List (Nat ⊕ Bool)} {T : u_T} {N : Nat} (L : LkV own index y cc' nL' (some rt) n) (hC : CtI M y cc' nL' rt rm' av σ σ' r) (hav : av E.2.2.1 = rf E k :: As) (hs : k < M.1 ∧ M.2 k = .inl (ci, fs)) (hc : vwCl[ci]? = some (y.cls, T, N)) (hn : As.length = n) (hz : rm'.cells = 0 ∧ rm'.slots = 0) (hR : rm'.frames + 1 ≤ rm.frames ∧ 8 + (nL' + 11) + rm'.locals ≤ rm.locals) (hst : st0 = As.reverse ++ rf E k :: st) (hw : (st.map fun v => v.category).sum ≤ 8) (d : decode cc pc = .ok (.invokevirtual index, 3)) (kk : WS M E nL (pc + 3) lv (.int r :: st) σ') : WS M E nL pc lv st0 σ := by
  obtain ⟨⟨p, l, e, R, s, m, args, below, meth, c, Q⟩, ⟨D, ph, ids, A⟩⟩ := E
  intro H locs ls hP hS hl
  have hG : GoodIn TBg (TBy y cc' nL' (some rt)) := by
    intro w hw9
    have hw' : w ∈ TBg := by
      rcases List.mem_cons.mp hw9 with e | e
      · rw [e]; exact L.1
      · exact e
    exact ⟨hw', good_of_word (List.mem_filter.mp hw').2⟩
  have hRR : R = rm := O.2.2.2.2.2.2.2.2.2
  subst hRR
  have hX := O.2.2.2.2.2.2.2.2.1
  have hA1 := ca_A (O.2.2.2.2.2.2.1 σ) O.2.2.2.2.2.2.2.1 hS
  have hav' : av ph = .ref (ph k) :: As := hav
  have hpre : ∀ U : State, U.heap = H → s.WarmedH U.vm → va_Pc (av ph) (pr_W M D ph ids H.size σ) (Value.ref (ph k) :: As).toArray U := fun U hU hW => ⟨by rw [hav'], by rw [hU], by rw [hU]; exact hP, va_K.moved hW.alike O.2.2.2.2.2.1, (O.2.2.2.2.2.2.1 σ).weaken (fun _ _ _ _ => trivial), by rw [hU]; exact (hX.kept hS.2.1 hA1).warm hW⟩
  refine va_calli (va_runV (As := As) (rest := st) ⟨O.1, O.2.1, O.2.2.1, O.2.2.2.1, O.2.2.2.2.1⟩ (hC l D ph ids H.size) ⟨callB_of n O.2.2.2.2.1 hG rfl hz.1 hz.2 (O.2.2.2.2.1 _ L.2.2.2.2.1) (O.2.2.2.2.1 _ L.2.1) L.2.2.2.2.2 hR, O.2.2.2.2.1 _ L.2.2.1, O.2.2.2.2.1 _ L.2.2.2.1⟩ ⟨pr_W.blind, va_recv O.2.2.2.2.2.1 hP hc (wld_get hs), hpre⟩ rfl hn hl.1 hst (lv_room hw) d ⟨Nat.zero_le _, Nat.zero_le _⟩) hS (fun q _ h => hA1 q h) hA1 (fun r' u t H1 locs1 ht hvm hw' hB hz1 hk1 hS1 => ?_)
  subst hw'
  have hB : va_P D vwCl (wld M ph ids σ') t.heap := hB
  rw [ht] at hB
  exact kk H1 locs1 ls hB hS1 hl
theorem s_SI (O : OK M E own cc nL rm) {y : MethodName} {cc' : ByteArray} {nL' index n : Nat} {rm' : Room} {av : (Nat → Nat) → List Value} {σ' : StA} {As st0 : List Value} {r : Int32} {rt : FieldType} (L : LkS own index y cc' nL' (some rt) n) (hC : CtI M y cc' nL' rt rm' av σ σ' r) (hav : av E.2.2.1 = As) (hn : As.length = n) (hz : rm'.cells = 0 ∧ rm'.slots = 0) (hR : rm'.frames + 1 ≤ rm.frames ∧ 8 + (nL' + 11) + rm'.locals ≤ rm.locals) (hst : st0 = As.reverse ++ st) (hw : (st.map fun v => v.category).sum ≤ 8) (d : decode cc pc = .ok (.invokestatic index, 3)) (kk : WS M E nL (pc + 3) lv (.int r :: st) σ') : WS M E nL pc lv st0 σ := by
  obtain ⟨⟨p, l, e, R, s, m, args, below, meth, c, Q⟩, ⟨D, ph, ids, A⟩⟩ := E
  intro H locs ls hP hS hl
  have hG : GoodIn TBg (TBy y cc' nL' (some rt)) := by
    intro w hw9
    have hw' : w ∈ TBg := by
      rcases List.mem_cons.mp hw9 with e | e
      · rw [e]; exact L.1
      · exact e
    exact ⟨hw', good_of_word (List.mem_filter.mp hw').2⟩
  have hRR : R = rm := O.2.2.2.2.2.2.2.2.2
  subst hRR
  have hX := O.2.2.2.2.2.2.2.2.1
  have hA1 := ca_A (O.2.2.2.2.2.2.1 σ) O.2.2.2.2.2.2.2.1 hS
  have hav' : av ph = As := hav
  have hpre : ∀ U : State, U.heap = H → s.WarmedH U.vm → va_Pc (av ph) (pr_W M D ph ids H.size σ) As.toArray U := fun U hU hW => ⟨by rw [hav'], by rw [hU], by rw [hU]; exact hP, va_K.moved hW.alike O.2.2.2.2.2.1, (O.2.2.2.2.2.2.1 σ).weaken (fun _ _ _ _ => trivial), by rw [hU]; exact (hX.kept hS.2.1 hA1).warm hW⟩
  refine va_calli (va_runS (As := As) (rest := st) ⟨O.1, O.2.1, O.2.2.1, O.2.2.2.1, O.2.2.2.2.1⟩ (hC l D ph ids H.size) ⟨callB_of n O.2.2.2.2.1 hG rfl hz.1 hz.2 (O.2.2.2.2.1 _ L.2.2.2.1) (O.2.2.2.2.1 _ L.2.1) L.2.2.2.2 hR, O.2.2.2.2.1 _ L.2.2.1⟩ ⟨pr_W.blind, hpre⟩ rfl hn hl.1 hst (lv_room hw) d ⟨Nat.zero_le _, Nat.zero_le _⟩) hS (fun q _ h => hA1 q h) hA1 (fun r' u t H1 locs1 ht hvm hw' hB hz1 hk1 hS1 => ?_)
  subst hw'
  have hB : va_P D vwCl (wld M ph ids σ') t.heap := hB
  rw [ht] at hB
  exact kk H1 locs1 ls hB hS1 hl
theorem s_NI (O : OK M E own cc nL rm) {y : MethodName} {cc' : ByteArray} {nL' index n : Nat} {rm' : Room} {av : (Nat → Nat) → List Value} {σ' : StA} {As st0 : List Value} {r : Int32} {rt : FieldType} (L : LkN own index y cc' nL' (some rt) n) (hC : CtI M y cc' nL' rt rm' av σ σ' r) (hav : av E.2.2.1 = As) (hn : As.length = n) (hz : rm'.cells = 0 ∧ rm'.slots = 0) (hR : rm'.frames + 1 ≤ rm.frames ∧ 8 + (nL' + 11) + rm'.locals ≤ rm.locals) (hst : st0 = As.reverse ++ st) (hw : (st.map fun v => v.category).sum ≤ 8) (d : decode cc pc = .ok (.invokestatic index, 3)) (kk : WS M E nL (pc + 3) lv (.int r :: st) σ') : WS M E nL pc lv st0 σ := by
  obtain ⟨⟨p, l, e, R, s, m, args, below, meth, c, Q⟩, ⟨D, ph, ids, A⟩⟩ := E
  intro H locs ls hP hS hl
  have hG : GoodIn TBg (TBy y cc' nL' (some rt)) := by
    intro w hw9
    have hw' : w ∈ TBg := by
      rcases List.mem_cons.mp hw9 with e | e
      · rw [e]; exact L.1
      · exact e
    exact ⟨hw', good_of_word (List.mem_filter.mp hw').2⟩
  have hRR : R = rm := O.2.2.2.2.2.2.2.2.2
  subst hRR
  have hX := O.2.2.2.2.2.2.2.2.1
  have hA1 := ca_A (O.2.2.2.2.2.2.1 σ) O.2.2.2.2.2.2.2.1 hS
  have hav' : av ph = As := hav
  have hpre : ∀ U : State, U.heap = H → s.WarmedH U.vm → va_Pc (av ph) (pr_W M D ph ids H.size σ) As.toArray U := fun U hU hW => ⟨by rw [hav'], by rw [hU], by rw [hU]; exact hP, va_K.moved hW.alike O.2.2.2.2.2.1, (O.2.2.2.2.2.2.1 σ).weaken (fun _ _ _ _ => trivial), by rw [hU]; exact (hX.kept hS.2.1 hA1).warm hW⟩
  refine va_calli (va_runSN (host := RX5) (As := As) (rest := st) ⟨O.1, O.2.1, O.2.2.1, O.2.2.2.1, O.2.2.2.2.1⟩ (hC l D ph ids H.size) ⟨va_cnB n O.2.2.2.2.1 hG rfl hz.1 hz.2 (hX.1 _ L.2.1) (O.2.2.2.2.1 _ L.2.2.2.1) L.2.2.2.2 hR, O.2.2.2.2.1 _ L.2.2.1, trivial⟩ ⟨pr_W.blind, hpre⟩ rfl hn hl.1 hst (lv_room hw) d ⟨Nat.zero_le _, Nat.zero_le _⟩) hS (fun q _ h => hA1 q h) hA1 (fun r' u t H1 locs1 ht hvm hw' hB hz1 hk1 hS1 => ?_)
  subst hw'
  have hB : va_P D vwCl (wld M ph ids σ') t.heap := hB
  rw [ht] at hB
  exact kk H1 locs1 ls hB hS1 hl
theorem s_VL (O : OK M E own cc nL rm) {y : MethodName} {cc' : ByteArray} {nL' index n : Nat} {rm' : Room} {av : (Nat → Nat) → List Value} {σ' : StA} {As st0 : List Value} {r : Int64} {k ci : Nat} {fs : List (Nat ⊕ Bool)} {T : u_T} {N : Nat} (L : LkV own index y cc' nL' (some .long) n) (hC : CtL M y cc' nL' rm' av σ σ' r) (hav : av E.2.2.1 = rf E k :: As) (hs : k < M.1 ∧ M.2 k = .inl (ci, fs)) (hc : vwCl[ci]? = some (y.cls, T, N)) (hn : As.length = n) (hz : rm'.cells = 0 ∧ rm'.slots = 0) (hR : rm'.frames + 1 ≤ rm.frames ∧ 8 + (nL' + 11) + rm'.locals ≤ rm.locals) (hst : st0 = As.reverse ++ rf E k :: st) (hw : (st.map fun v => v.category).sum ≤ 8) (d : decode cc pc = .ok (.invokevirtual index, 3)) (kk : WS M E nL (pc + 3) lv (.long r :: st) σ') : WS M E nL pc lv st0 σ := by
  obtain ⟨⟨p, l, e, R, s, m, args, below, meth, c, Q⟩, ⟨D, ph, ids, A⟩⟩ := E
  intro H locs ls hP hS hl
  have hG : GoodIn TBg (TBy y cc' nL' (some .long)) := by
    intro w hw9
    have hw' : w ∈ TBg := by
      rcases List.mem_cons.mp hw9 with e | e
      · rw [e]; exact L.1
      · exact e
    exact ⟨hw', good_of_word (List.mem_filter.mp hw').2⟩
  have hRR : R = rm := O.2.2.2.2.2.2.2.2.2
  subst hRR
  have hX := O.2.2.2.2.2.2.2.2.1
  have hA1 := ca_A (O.2.2.2.2.2.2.1 σ) O.2.2.2.2.2.2.2.1 hS
  have hav' : av ph = .ref (ph k) :: As := hav
  have hpre : ∀ U : State, U.heap = H → s.WarmedH U.vm → va_Pc (av ph) (pr_W M D ph ids H.size σ) (Value.ref (ph k) :: As).toArray U := fun U hU hW => ⟨by rw [hav'], by rw [hU], by rw [hU]; exact hP, va_K.moved hW.alike O.2.2.2.2.2.1, (O.2.2.2.2.2.2.1 σ).weaken (fun _ _ _ _ => trivial), by rw [hU]; exact (hX.kept hS.2.1 hA1).warm hW⟩
  refine va_calll (va_runV (As := As) (rest := st) ⟨O.1, O.2.1, O.2.2.1, O.2.2.2.1, O.2.2.2.2.1⟩ (hC l D ph ids H.size) ⟨callB_of n O.2.2.2.2.1 hG rfl hz.1 hz.2 (O.2.2.2.2.1 _ L.2.2.2.2.1) (O.2.2.2.2.1 _ L.2.1) L.2.2.2.2.2 hR, O.2.2.2.2.1 _ L.2.2.1, O.2.2.2.2.1 _ L.2.2.2.1⟩ ⟨pr_W.blind, va_recv O.2.2.2.2.2.1 hP hc (wld_get hs), hpre⟩ rfl hn hl.1 hst (lv_room hw) d ⟨Nat.zero_le _, Nat.zero_le _⟩) hS (fun q _ h => hA1 q h) hA1 (fun r' u t H1 locs1 ht hvm hw' hB hz1 hk1 hS1 => ?_)
  subst hw'
  have hB : va_P D vwCl (wld M ph ids σ') t.heap := hB
  rw [ht] at hB
  exact kk H1 locs1 ls hB hS1 hl
theorem s_SL (O : OK M E own cc nL rm) {y : MethodName} {cc' : ByteArray} {nL' index n : Nat} {rm' : Room} {av : (Nat → Nat) → List Value} {σ' : StA} {As st0 : List Value} {r : Int64} (L : LkS own index y cc' nL' (some .long) n) (hC : CtL M y cc' nL' rm' av σ σ' r) (hav : av E.2.2.1 = As) (hn : As.length = n) (hz : rm'.cells = 0 ∧ rm'.slots = 0) (hR : rm'.frames + 1 ≤ rm.frames ∧ 8 + (nL' + 11) + rm'.locals ≤ rm.locals) (hst : st0 = As.reverse ++ st) (hw : (st.map fun v => v.category).sum ≤ 8) (d : decode cc pc = .ok (.invokestatic index, 3)) (kk : WS M E nL (pc + 3) lv (.long r :: st) σ') : WS M E nL pc lv st0 σ := by
  obtain ⟨⟨p, l, e, R, s, m, args, below, meth, c, Q⟩, ⟨D, ph, ids, A⟩⟩ := E
  intro H locs ls hP hS hl
  have hG : GoodIn TBg (TBy y cc' nL' (some .long)) := by
    intro w hw9
    have hw' : w ∈ TBg := by
      rcases List.mem_cons.mp hw9 with e | e
      · rw [e]; exact L.1
      · exact e
    exact ⟨hw', good_of_word (List.mem_filter.mp hw').2⟩
  have hRR : R = rm := O.2.2.2.2.2.2.2.2.2
  subst hRR
  have hX := O.2.2.2.2.2.2.2.2.1
  have hA1 := ca_A (O.2.2.2.2.2.2.1 σ) O.2.2.2.2.2.2.2.1 hS
  have hav' : av ph = As := hav
  have hpre : ∀ U : State, U.heap = H → s.WarmedH U.vm → va_Pc (av ph) (pr_W M D ph ids H.size σ) As.toArray U := fun U hU hW => ⟨by rw [hav'], by rw [hU], by rw [hU]; exact hP, va_K.moved hW.alike O.2.2.2.2.2.1, (O.2.2.2.2.2.2.1 σ).weaken (fun _ _ _ _ => trivial), by rw [hU]; exact (hX.kept hS.2.1 hA1).warm hW⟩
  refine va_calll (va_runS (As := As) (rest := st) ⟨O.1, O.2.1, O.2.2.1, O.2.2.2.1, O.2.2.2.2.1⟩ (hC l D ph ids H.size) ⟨callB_of n O.2.2.2.2.1 hG rfl hz.1 hz.2 (O.2.2.2.2.1 _ L.2.2.2.1) (O.2.2.2.2.1 _ L.2.1) L.2.2.2.2 hR, O.2.2.2.2.1 _ L.2.2.1⟩ ⟨pr_W.blind, hpre⟩ rfl hn hl.1 hst (lv_room hw) d ⟨Nat.zero_le _, Nat.zero_le _⟩) hS (fun q _ h => hA1 q h) hA1 (fun r' u t H1 locs1 ht hvm hw' hB hz1 hk1 hS1 => ?_)
  subst hw'
  have hB : va_P D vwCl (wld M ph ids σ') t.heap := hB
  rw [ht] at hB
  exact kk H1 locs1 ls hB hS1 hl
theorem s_NL (O : OK M E own cc nL rm) {y : MethodName} {cc' : ByteArray} {nL' index n : Nat} {rm' : Room} {av : (Nat → Nat) → List Value} {σ' : StA} {As st0 : List Value} {r : Int64} (L : LkN own index y cc' nL' (some .long) n) (hC : CtL M y cc' nL' rm' av σ σ' r) (hav : av E.2.2.1 = As) (hn : As.length = n) (hz : rm'.cells = 0 ∧ rm'.slots = 0) (hR : rm'.frames + 1 ≤ rm.frames ∧ 8 + (nL' + 11) + rm'.locals ≤ rm.locals) (hst : st0 = As.reverse ++ st) (hw : (st.map fun v => v.category).sum ≤ 8) (d : decode cc pc = .ok (.invokestatic index, 3)) (kk : WS M E nL (pc + 3) lv (.long r :: st) σ') : WS M E nL pc lv st0 σ := by
  obtain ⟨⟨p, l, e, R, s, m, args, below, meth, c, Q⟩, ⟨D, ph, ids, A⟩⟩ := E
  intro H locs ls hP hS hl
  have hG : GoodIn TBg (TBy y cc' nL' (some .long)) := by
    intro w hw9
    have hw' : w ∈ TBg := by
      rcases List.mem_cons.mp hw9 with e | e
      · rw [e]; exact L.1
      · exact e
    exact ⟨hw', good_of_word (List.mem_filter.mp hw').2⟩
  have hRR : R = rm := O.2.2.2.2.2.2.2.2.2
  subst hRR
  have hX := O.2.2.2.2.2.2.2.2.1
  have hA1 := ca_A (O.2.2.2.2.2.2.1 σ) O.2.2.2.2.2.2.2.1 hS
  have hav' : av ph = As := hav
  have hpre : ∀ U : State, U.heap = H → s.WarmedH U.vm → va_Pc (av ph) (pr_W M D ph ids H.size σ) As.toArray U := fun U hU hW => ⟨by rw [hav'], by rw [hU], by rw [hU]; exact hP, va_K.moved hW.alike O.2.2.2.2.2.1, (O.2.2.2.2.2.2.1 σ).weaken (fun _ _ _ _ => trivial), by rw [hU]; exact (hX.kept hS.2.1 hA1).warm hW⟩
  refine va_calll (va_runSN (host := RX5) (As := As) (rest := st) ⟨O.1, O.2.1, O.2.2.1, O.2.2.2.1, O.2.2.2.2.1⟩ (hC l D ph ids H.size) ⟨va_cnB n O.2.2.2.2.1 hG rfl hz.1 hz.2 (hX.1 _ L.2.1) (O.2.2.2.2.1 _ L.2.2.2.1) L.2.2.2.2 hR, O.2.2.2.2.1 _ L.2.2.1, trivial⟩ ⟨pr_W.blind, hpre⟩ rfl hn hl.1 hst (lv_room hw) d ⟨Nat.zero_le _, Nat.zero_le _⟩) hS (fun q _ h => hA1 q h) hA1 (fun r' u t H1 locs1 ht hvm hw' hB hz1 hk1 hS1 => ?_)
  subst hw'
  have hB : va_P D vwCl (wld M ph ids σ') t.heap := hB
  rw [ht] at hB
  exact kk H1 locs1 ls hB hS1 hl
theorem s_VV (O : OK M E own cc nL rm) {y : MethodName} {cc' : ByteArray} {nL' index n : Nat} {rm' : Room} {av : (Nat → Nat) → List Value} {σ' : StA} {As st0 : List Value} {k ci : Nat} {fs : List (Nat ⊕ Bool)} {T : u_T} {N : Nat} (L : LkV own index y cc' nL' none n) (hC : CtV M y cc' nL' rm' av σ σ') (hav : av E.2.2.1 = rf E k :: As) (hs : k < M.1 ∧ M.2 k = .inl (ci, fs)) (hc : vwCl[ci]? = some (y.cls, T, N)) (hn : As.length = n) (hz : rm'.cells = 0 ∧ rm'.slots = 0) (hR : rm'.frames + 1 ≤ rm.frames ∧ 8 + (nL' + 11) + rm'.locals ≤ rm.locals) (hst : st0 = As.reverse ++ rf E k :: st) (hw : (st.map fun v => v.category).sum ≤ 8) (d : decode cc pc = .ok (.invokevirtual index, 3)) (kk : WS M E nL (pc + 3) lv (st) σ') : WS M E nL pc lv st0 σ := by
  obtain ⟨⟨p, l, e, R, s, m, args, below, meth, c, Q⟩, ⟨D, ph, ids, A⟩⟩ := E
  intro H locs ls hP hS hl
  have hG : GoodIn TBg (TBy y cc' nL' none) := by
    intro w hw9
    have hw' : w ∈ TBg := by
      rcases List.mem_cons.mp hw9 with e | e
      · rw [e]; exact L.1
      · exact e
    exact ⟨hw', good_of_word (List.mem_filter.mp hw').2⟩
  have hRR : R = rm := O.2.2.2.2.2.2.2.2.2
  subst hRR
  have hX := O.2.2.2.2.2.2.2.2.1
  have hA1 := ca_A (O.2.2.2.2.2.2.1 σ) O.2.2.2.2.2.2.2.1 hS
  have hav' : av ph = .ref (ph k) :: As := hav
  have hpre : ∀ U : State, U.heap = H → s.WarmedH U.vm → va_Pc (av ph) (pr_W M D ph ids H.size σ) (Value.ref (ph k) :: As).toArray U := fun U hU hW => ⟨by rw [hav'], by rw [hU], by rw [hU]; exact hP, va_K.moved hW.alike O.2.2.2.2.2.1, (O.2.2.2.2.2.2.1 σ).weaken (fun _ _ _ _ => trivial), by rw [hU]; exact (hX.kept hS.2.1 hA1).warm hW⟩
  refine va_callv (va_runV (As := As) (rest := st) ⟨O.1, O.2.1, O.2.2.1, O.2.2.2.1, O.2.2.2.2.1⟩ (hC l D ph ids H.size) ⟨callB_of n O.2.2.2.2.1 hG rfl hz.1 hz.2 (O.2.2.2.2.1 _ L.2.2.2.2.1) (O.2.2.2.2.1 _ L.2.1) L.2.2.2.2.2 hR, O.2.2.2.2.1 _ L.2.2.1, O.2.2.2.2.1 _ L.2.2.2.1⟩ ⟨pr_W.blind, va_recv O.2.2.2.2.2.1 hP hc (wld_get hs), hpre⟩ rfl hn hl.1 hst (lv_room hw) d ⟨Nat.zero_le _, Nat.zero_le _⟩) hS (fun q _ h => hA1 q h) hA1 (fun u t H1 locs1 ht hvm hw' hB hz1 hk1 hS1 => ?_)
  have hB : va_P D vwCl (wld M ph ids σ') t.heap := hB
  rw [ht] at hB
  exact kk H1 locs1 ls hB hS1 hl
theorem s_SV (O : OK M E own cc nL rm) {y : MethodName} {cc' : ByteArray} {nL' index n : Nat} {rm' : Room} {av : (Nat → Nat) → List Value} {σ' : StA} {As st0 : List Value} (L : LkS own index y cc' nL' none n) (hC : CtV M y cc' nL' rm' av σ σ') (hav : av E.2.2.1 = As) (hn : As.length = n) (hz : rm'.cells = 0 ∧ rm'.slots = 0) (hR : rm'.frames + 1 ≤ rm.frames ∧ 8 + (nL' + 11) + rm'.locals ≤ rm.locals) (hst : st0 = As.reverse ++ st) (hw : (st.map fun v => v.category).sum ≤ 8) (d : decode cc pc = .ok (.invokestatic index, 3)) (kk : WS M E nL (pc + 3) lv (st) σ') : WS M E nL pc lv st0 σ := by
  obtain ⟨⟨p, l, e, R, s, m, args, below, meth, c, Q⟩, ⟨D, ph, ids, A⟩⟩ := E
  intro H locs ls hP hS hl
  have hG : GoodIn TBg (TBy y cc' nL' none) := by
    intro w hw9
    have hw' : w ∈ TBg := by
      rcases List.mem_cons.mp hw9 with e | e
      · rw [e]; exact L.1
      · exact e
    exact ⟨hw', good_of_word (List.mem_filter.mp hw').2⟩
  have hRR : R = rm := O.2.2.2.2.2.2.2.2.2
  subst hRR
  have hX := O.2.2.2.2.2.2.2.2.1
  have hA1 := ca_A (O.2.2.2.2.2.2.1 σ) O.2.2.2.2.2.2.2.1 hS
  have hav' : av ph = As := hav
  have hpre : ∀ U : State, U.heap = H → s.WarmedH U.vm → va_Pc (av ph) (pr_W M D ph ids H.size σ) As.toArray U := fun U hU hW => ⟨by rw [hav'], by rw [hU], by rw [hU]; exact hP, va_K.moved hW.alike O.2.2.2.2.2.1, (O.2.2.2.2.2.2.1 σ).weaken (fun _ _ _ _ => trivial), by rw [hU]; exact (hX.kept hS.2.1 hA1).warm hW⟩
  refine va_callv (va_runS (As := As) (rest := st) ⟨O.1, O.2.1, O.2.2.1, O.2.2.2.1, O.2.2.2.2.1⟩ (hC l D ph ids H.size) ⟨callB_of n O.2.2.2.2.1 hG rfl hz.1 hz.2 (O.2.2.2.2.1 _ L.2.2.2.1) (O.2.2.2.2.1 _ L.2.1) L.2.2.2.2 hR, O.2.2.2.2.1 _ L.2.2.1⟩ ⟨pr_W.blind, hpre⟩ rfl hn hl.1 hst (lv_room hw) d ⟨Nat.zero_le _, Nat.zero_le _⟩) hS (fun q _ h => hA1 q h) hA1 (fun u t H1 locs1 ht hvm hw' hB hz1 hk1 hS1 => ?_)
  have hB : va_P D vwCl (wld M ph ids σ') t.heap := hB
  rw [ht] at hB
  exact kk H1 locs1 ls hB hS1 hl
theorem s_NV (O : OK M E own cc nL rm) {y : MethodName} {cc' : ByteArray} {nL' index n : Nat} {rm' : Room} {av : (Nat → Nat) → List Value} {σ' : StA} {As st0 : List Value} (L : LkN own index y cc' nL' none n) (hC : CtV M y cc' nL' rm' av σ σ') (hav : av E.2.2.1 = As) (hn : As.length = n) (hz : rm'.cells = 0 ∧ rm'.slots = 0) (hR : rm'.frames + 1 ≤ rm.frames ∧ 8 + (nL' + 11) + rm'.locals ≤ rm.locals) (hst : st0 = As.reverse ++ st) (hw : (st.map fun v => v.category).sum ≤ 8) (d : decode cc pc = .ok (.invokestatic index, 3)) (kk : WS M E nL (pc + 3) lv (st) σ') : WS M E nL pc lv st0 σ := by
  obtain ⟨⟨p, l, e, R, s, m, args, below, meth, c, Q⟩, ⟨D, ph, ids, A⟩⟩ := E
  intro H locs ls hP hS hl
  have hG : GoodIn TBg (TBy y cc' nL' none) := by
    intro w hw9
    have hw' : w ∈ TBg := by
      rcases List.mem_cons.mp hw9 with e | e
      · rw [e]; exact L.1
      · exact e
    exact ⟨hw', good_of_word (List.mem_filter.mp hw').2⟩
  have hRR : R = rm := O.2.2.2.2.2.2.2.2.2
  subst hRR
  have hX := O.2.2.2.2.2.2.2.2.1
  have hA1 := ca_A (O.2.2.2.2.2.2.1 σ) O.2.2.2.2.2.2.2.1 hS
  have hav' : av ph = As := hav
  have hpre : ∀ U : State, U.heap = H → s.WarmedH U.vm → va_Pc (av ph) (pr_W M D ph ids H.size σ) As.toArray U := fun U hU hW => ⟨by rw [hav'], by rw [hU], by rw [hU]; exact hP, va_K.moved hW.alike O.2.2.2.2.2.1, (O.2.2.2.2.2.2.1 σ).weaken (fun _ _ _ _ => trivial), by rw [hU]; exact (hX.kept hS.2.1 hA1).warm hW⟩
  refine va_callv (va_runSN (host := RX5) (As := As) (rest := st) ⟨O.1, O.2.1, O.2.2.1, O.2.2.2.1, O.2.2.2.2.1⟩ (hC l D ph ids H.size) ⟨va_cnB n O.2.2.2.2.1 hG rfl hz.1 hz.2 (hX.1 _ L.2.1) (O.2.2.2.2.1 _ L.2.2.2.1) L.2.2.2.2 hR, O.2.2.2.2.1 _ L.2.2.1, trivial⟩ ⟨pr_W.blind, hpre⟩ rfl hn hl.1 hst (lv_room hw) d ⟨Nat.zero_le _, Nat.zero_le _⟩) hS (fun q _ h => hA1 q h) hA1 (fun u t H1 locs1 ht hvm hw' hB hz1 hk1 hS1 => ?_)
  have hB : va_P D vwCl (wld M ph ids σ') t.heap := hB
  rw [ht] at hB
  exact kk H1 locs1 ls hB hS1 hl
theorem s_VR (O : OK M E own cc nL rm) {y : MethodName} {cc' : ByteArray} {nL' index n : Nat} {rm' : Room} {av : (Nat → Nat) → List Value} {σ' : StA} {As st0 : List Value} {r : Nat} {rt : FieldType} {k ci : Nat} {fs : List (Nat ⊕ Bool)} {T : u_T} {N : Nat} (L : LkV own index y cc' nL' (some rt) n) (hC : CtR M y cc' nL' rt rm' av σ σ' r) (hav : av E.2.2.1 = rf E k :: As) (hs : k < M.1 ∧ M.2 k = .inl (ci, fs)) (hc : vwCl[ci]? = some (y.cls, T, N)) (hn : As.length = n) (hz : rm'.cells = 0 ∧ rm'.slots = 0) (hR : rm'.frames + 1 ≤ rm.frames ∧ 8 + (nL' + 11) + rm'.locals ≤ rm.locals) (hst : st0 = As.reverse ++ rf E k :: st) (hw : (st.map fun v => v.category).sum ≤ 8) (d : decode cc pc = .ok (.invokevirtual index, 3)) (kk : WS M E nL (pc + 3) lv (rf E r :: st) σ') : WS M E nL pc lv st0 σ := by
  obtain ⟨⟨p, l, e, R, s, m, args, below, meth, c, Q⟩, ⟨D, ph, ids, A⟩⟩ := E
  intro H locs ls hP hS hl
  have hG : GoodIn TBg (TBy y cc' nL' (some rt)) := by
    intro w hw9
    have hw' : w ∈ TBg := by
      rcases List.mem_cons.mp hw9 with e | e
      · rw [e]; exact L.1
      · exact e
    exact ⟨hw', good_of_word (List.mem_filter.mp hw').2⟩
  have hRR : R = rm := O.2.2.2.2.2.2.2.2.2
  subst hRR
  have hX := O.2.2.2.2.2.2.2.2.1
  have hA1 := ca_A (O.2.2.2.2.2.2.1 σ) O.2.2.2.2.2.2.2.1 hS
  have hav' : av ph = .ref (ph k) :: As := hav
  have hpre : ∀ U : State, U.heap = H → s.WarmedH U.vm → va_Pc (av ph) (pr_W M D ph ids H.size σ) (Value.ref (ph k) :: As).toArray U := fun U hU hW => ⟨by rw [hav'], by rw [hU], by rw [hU]; exact hP, va_K.moved hW.alike O.2.2.2.2.2.1, (O.2.2.2.2.2.2.1 σ).weaken (fun _ _ _ _ => trivial), by rw [hU]; exact (hX.kept hS.2.1 hA1).warm hW⟩
  refine va_callr (va_runV (As := As) (rest := st) ⟨O.1, O.2.1, O.2.2.1, O.2.2.2.1, O.2.2.2.2.1⟩ (hC l D ph ids H.size) ⟨callB_of n O.2.2.2.2.1 hG rfl hz.1 hz.2 (O.2.2.2.2.1 _ L.2.2.2.2.1) (O.2.2.2.2.1 _ L.2.1) L.2.2.2.2.2 hR, O.2.2.2.2.1 _ L.2.2.1, O.2.2.2.2.1 _ L.2.2.2.1⟩ ⟨pr_W.blind, va_recv O.2.2.2.2.2.1 hP hc (wld_get hs), hpre⟩ rfl hn hl.1 hst (lv_room hw) d ⟨Nat.zero_le _, Nat.zero_le _⟩) hS (fun q _ h => hA1 q h) hA1 (fun u ra t H1 locs1 ht hvm hw' hB hz1 hk1 hS1 => ?_)
  obtain ⟨e1, hB⟩ := hB
  subst e1
  have hB : va_P D vwCl (wld M ph ids σ') t.heap := hB
  rw [ht] at hB
  exact kk H1 locs1 ls hB hS1 hl
theorem s_SR (O : OK M E own cc nL rm) {y : MethodName} {cc' : ByteArray} {nL' index n : Nat} {rm' : Room} {av : (Nat → Nat) → List Value} {σ' : StA} {As st0 : List Value} {r : Nat} {rt : FieldType} (L : LkS own index y cc' nL' (some rt) n) (hC : CtR M y cc' nL' rt rm' av σ σ' r) (hav : av E.2.2.1 = As) (hn : As.length = n) (hz : rm'.cells = 0 ∧ rm'.slots = 0) (hR : rm'.frames + 1 ≤ rm.frames ∧ 8 + (nL' + 11) + rm'.locals ≤ rm.locals) (hst : st0 = As.reverse ++ st) (hw : (st.map fun v => v.category).sum ≤ 8) (d : decode cc pc = .ok (.invokestatic index, 3)) (kk : WS M E nL (pc + 3) lv (rf E r :: st) σ') : WS M E nL pc lv st0 σ := by
  obtain ⟨⟨p, l, e, R, s, m, args, below, meth, c, Q⟩, ⟨D, ph, ids, A⟩⟩ := E
  intro H locs ls hP hS hl
  have hG : GoodIn TBg (TBy y cc' nL' (some rt)) := by
    intro w hw9
    have hw' : w ∈ TBg := by
      rcases List.mem_cons.mp hw9 with e | e
      · rw [e]; exact L.1
      · exact e
    exact ⟨hw', good_of_word (List.mem_filter.mp hw').2⟩
  have hRR : R = rm := O.2.2.2.2.2.2.2.2.2
  subst hRR
  have hX := O.2.2.2.2.2.2.2.2.1
  have hA1 := ca_A (O.2.2.2.2.2.2.1 σ) O.2.2.2.2.2.2.2.1 hS
  have hav' : av ph = As := hav
  have hpre : ∀ U : State, U.heap = H → s.WarmedH U.vm → va_Pc (av ph) (pr_W M D ph ids H.size σ) As.toArray U := fun U hU hW => ⟨by rw [hav'], by rw [hU], by rw [hU]; exact hP, va_K.moved hW.alike O.2.2.2.2.2.1, (O.2.2.2.2.2.2.1 σ).weaken (fun _ _ _ _ => trivial), by rw [hU]; exact (hX.kept hS.2.1 hA1).warm hW⟩
  refine va_callr (va_runS (As := As) (rest := st) ⟨O.1, O.2.1, O.2.2.1, O.2.2.2.1, O.2.2.2.2.1⟩ (hC l D ph ids H.size) ⟨callB_of n O.2.2.2.2.1 hG rfl hz.1 hz.2 (O.2.2.2.2.1 _ L.2.2.2.1) (O.2.2.2.2.1 _ L.2.1) L.2.2.2.2 hR, O.2.2.2.2.1 _ L.2.2.1⟩ ⟨pr_W.blind, hpre⟩ rfl hn hl.1 hst (lv_room hw) d ⟨Nat.zero_le _, Nat.zero_le _⟩) hS (fun q _ h => hA1 q h) hA1 (fun u ra t H1 locs1 ht hvm hw' hB hz1 hk1 hS1 => ?_)
  obtain ⟨e1, hB⟩ := hB
  subst e1
  have hB : va_P D vwCl (wld M ph ids σ') t.heap := hB
  rw [ht] at hB
  exact kk H1 locs1 ls hB hS1 hl
theorem s_NR (O : OK M E own cc nL rm) {y : MethodName} {cc' : ByteArray} {nL' index n : Nat} {rm' : Room} {av : (Nat → Nat) → List Value} {σ' : StA} {As st0 : List Value} {r : Nat} {rt : FieldType} (L : LkN own index y cc' nL' (some rt) n) (hC : CtR M y cc' nL' rt rm' av σ σ' r) (hav : av E.2.2.1 = As) (hn : As.length = n) (hz : rm'.cells = 0 ∧ rm'.slots = 0) (hR : rm'.frames + 1 ≤ rm.frames ∧ 8 + (nL' + 11) + rm'.locals ≤ rm.locals) (hst : st0 = As.reverse ++ st) (hw : (st.map fun v => v.category).sum ≤ 8) (d : decode cc pc = .ok (.invokestatic index, 3)) (kk : WS M E nL (pc + 3) lv (rf E r :: st) σ') : WS M E nL pc lv st0 σ := by
  obtain ⟨⟨p, l, e, R, s, m, args, below, meth, c, Q⟩, ⟨D, ph, ids, A⟩⟩ := E
  intro H locs ls hP hS hl
  have hG : GoodIn TBg (TBy y cc' nL' (some rt)) := by
    intro w hw9
    have hw' : w ∈ TBg := by
      rcases List.mem_cons.mp hw9 with e | e
      · rw [e]; exact L.1
      · exact e
    exact ⟨hw', good_of_word (List.mem_filter.mp hw').2⟩
  have hRR : R = rm := O.2.2.2.2.2.2.2.2.2
  subst hRR
  have hX := O.2.2.2.2.2.2.2.2.1
  have hA1 := ca_A (O.2.2.2.2.2.2.1 σ) O.2.2.2.2.2.2.2.1 hS
  have hav' : av ph = As := hav
  have hpre : ∀ U : State, U.heap = H → s.WarmedH U.vm → va_Pc (av ph) (pr_W M D ph ids H.size σ) As.toArray U := fun U hU hW => ⟨by rw [hav'], by rw [hU], by rw [hU]; exact hP, va_K.moved hW.alike O.2.2.2.2.2.1, (O.2.2.2.2.2.2.1 σ).weaken (fun _ _ _ _ => trivial), by rw [hU]; exact (hX.kept hS.2.1 hA1).warm hW⟩
  refine va_callr (va_runSN (host := RX5) (As := As) (rest := st) ⟨O.1, O.2.1, O.2.2.1, O.2.2.2.1, O.2.2.2.2.1⟩ (hC l D ph ids H.size) ⟨va_cnB n O.2.2.2.2.1 hG rfl hz.1 hz.2 (hX.1 _ L.2.1) (O.2.2.2.2.1 _ L.2.2.2.1) L.2.2.2.2 hR, O.2.2.2.2.1 _ L.2.2.1, trivial⟩ ⟨pr_W.blind, hpre⟩ rfl hn hl.1 hst (lv_room hw) d ⟨Nat.zero_le _, Nat.zero_le _⟩) hS (fun q _ h => hA1 q h) hA1 (fun u ra t H1 locs1 ht hvm hw' hB hz1 hk1 hS1 => ?_)
  obtain ⟨e1, hB⟩ := hB
  subst e1
  have hB : va_P D vwCl (wld M ph ids σ') t.heap := hB
  rw [ht] at hB
  exact kk H1 locs1 ls hB hS1 hl
end SH
