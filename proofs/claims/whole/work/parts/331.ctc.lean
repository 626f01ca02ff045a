/-! Constructors: contracts, calls that make cells, the world's cells in another order. -/
theorem ex_F.ph {ph ph' : Nat → Nat} {A : Nat → Prop} {U : State} {H : Heap} (hp : ∀ k, 100 ≤ k → ph' k = ph k) (h : ex_F ph A U H) : ex_F ph' A U H := by
  have e1 : (fun i => ph' (100 + i)) = (fun i => ph (100 + i)) := funext fun i => hp _ (by omega)
  have e2 : (fun i => ph' (200 + i)) = (fun i => ph (200 + i)) := funext fun i => hp _ (by omega)
  refine ⟨h.1, ⟨?_, fun i hi => ?_⟩, h.2.2⟩
  · rw [e1, e2]
    exact h.2.1.1
  · rw [hp _ (by omega)]
    exact h.2.1.2 i hi
theorem ex_N.warm {s U : State} (hW : s.WarmedH U.vm) (h : ex_N s) : ex_N U :=
  ⟨⟨va_AO.moved hW.alike h.1.1, va_AO.moved hW.alike h.1.2.1, va_AOA.moved hW.alike h.1.2.2⟩, va_Nw.warmM hW h.2.1, va_Nw.warmM hW h.2.2.1, va_Nw.warmM hW h.2.2.2⟩
theorem ex_N.same {s U : State} (hv : s.vm = U.vm) (h : ex_N s) : ex_N U :=
  have ha : s.vm.Alike U.vm := by rw [hv]; exact Vm.Alike.refl _
  ⟨⟨va_AO.moved ha h.1.1, va_AO.moved ha h.1.2.1, va_AOA.moved ha h.1.2.2⟩, va_Nw.same rfl hv h.2.1, va_Nw.same rfl hv h.2.2.1, va_Nw.same rfl hv h.2.2.2⟩
def pr_C (D : va_G) (ph : Nat → Nat) (ids : Nat → ClassId) (sz : Nat) (w : va_W) (U : State) : Prop := U.heap.size = sz ∧ va_P D vwCl w U.heap ∧ va_K D vwCl (ty_l ids) U ∧ va_D (fun _ => True) w ∧ ex_F ph (va_A w sz) U U.heap ∧ ex_N U
/-- a constructor's contract: from the cells w it comes back with cells w1, of which Post holds -/
def CtC (y : MethodName) (cc : ByteArray) (nL : Nat) (rm : Room) (av : List Value) (w : va_W) (Post : (Nat → Nat) → (Nat → ClassId) → va_W → Prop) : Prop :=
  ∀ (l : Launch) (D : va_G) (ph : Nat → Nat) (ids : Nat → ClassId) (sz : Nat), Met l y (TBy y cc nL none) rm (va_Pc av (pr_C D ph ids sz w)) (va_Qv (fun (w1 : va_W) => Post ph ids w1) (fun w1 t => va_P D vwCl w1 t.heap ∧ va_D (va_A w sz) w1) (va_A w sz)) rm.cells rm.slots (va_A w sz)
theorem pr_C.blind {D : va_G} {ph : Nat → Nat} {ids : Nat → ClassId} {sz : Nat} {w : va_W} {av : List Value} : FrameBlind (va_Pc av (pr_C D ph ids sz w)) := by
  intro a U g mk q
  obtain ⟨q0, q1, qP, qK, qD, qX, qN⟩ := q
  exact ⟨q0, q1, qP, va_K.moved (u := U) (U := U.calling g mk a) (Vm.Alike.refl U.vm) qK, qD, ex_F.same (s := U) (U := U.calling g mk a) rfl qX, ex_N.same (s := U) (U := U.calling g mk a) rfl qN⟩
def ReC (E : XC) (cc : ByteArray) (Post : (Nat → Nat) → (Nat → ClassId) → va_W → Prop) : Prop :=
  match E with
  | ((p, l, e, R, s, m, args, below, meth, c, Q), (D, ph, ids, A)) => ∀ (H : Heap) (locs : List Loc) (ls : Array Slot) (pc cl sl : Nat) (w1 : va_W), decode cc pc = .ok (.return_, 1) → cl ≤ R.cells → sl ≤ R.slots → Post ph ids w1 → va_P D vwCl w1 H → va_D A w1 → va_S A s.heap H locs → W p l e R s m args below meth c H locs cl sl Q (F0 m pc ls [])
theorem CtC.of {y : MethodName} {cc : ByteArray} {nL : Nat} {rm : Room} {av : List Value} {w : va_W} {Post : (Nat → Nat) → (Nat → ClassId) → va_W → Prop} (hy : plainName y.cls = true) (hn : (lg_sl av).length ≤ nL)
    (body : ∀ E : XC, ON E y.cls cc nL rm y.name → ReC E cc Post → WN E nL 0 0 0 (lv_args 0 av) [] w) : CtC y cc nL rm av w Post := by
  intro l D ph ids sz
  refine Met.ofW (cc := cc) (maxL := nL) (ret := none) hy rfl ?_
  intro p e s m args below meth c s₁ B hml hv
  obtain ⟨rfl, hsz, hP, hK, hD0, hX, hN⟩ := hv
  have hts := atoms_spec (ws := TBy y cc nL none) B.pre
  have hown : s.vm.findClass y.cls = some m.cls := findClass_of_methodNamed B.named
  have hlocks := B.notSynchronized
  have hret := B.returns
  have hx := B.exec
  have hb := B.bytes
  have hin : meth.name = y.name := (name_of_methodNamed B.named B.method).1
  subst hsz
  have hD := hD0.self (sz := s.heap.size)
  have hl := lv_entry av (n := nL) hn
  rw [lg_entry_eq]
  generalize (lg_sl av ++ List.replicate (nL - (lg_sl av).length) Slot.unset).toArray = ls at hl ⊢
  have h := body ((p, l, e, rm, s, m, av.toArray, below, meth, c, MQ below (va_Qv (fun (w1 : va_W) => Post ph ids w1) (fun w1 t => va_P D vwCl w1 t.heap ∧ va_D (va_A w s.heap.size) w1) (va_A w s.heap.size)) av.toArray s rm.cells rm.slots (va_A w s.heap.size)), (D, ph, ids, va_A w s.heap.size)) ⟨hx, hb, hml, hown, fun w hw => hts w (List.mem_cons_of_mem _ hw), hK, fun q h => Or.inr h, hX, rfl, hin, hN⟩ (fun H locs ls pc cl sl w1 d h1 h2 hp hP1 hD1 hS1 => ?_)
  · exact h s.heap [] ls hP hD va_S.rf hl
  · refine W.widen (k := rm.cells) (n := rm.slots) h1 h2 ?_
    exact W.vret hx hb hret (fun t ht hW => ⟨⟨w1, rfl, hp, by show va_P _ _ _ t.heap; rw [ht]; exact hP1, hD1⟩, hS1.F ht⟩) hS1.2.2 d hlocks
theorem fm_of {α β : Type} (f : α → Option β) : ∀ (is : List α) (w : List β), is.map f = w.map some → is.filterMap f = w
  | [], [], _ => rfl
  | [], _ :: _, h => by simp at h
  | _ :: _, [], h => by simp at h
  | i :: is, x :: w, h => by
    simp only [List.map_cons, List.cons.injEq] at h
    rw [List.filterMap_cons, h.1]
    simp only
    rw [fm_of f is w h.2]
theorem rg_l {α : Type} (a b : List α) : (List.range a.length).map (fun i => (a ++ b)[i]?) = a.map some := by
  apply List.ext_getElem?
  intro i
  rw [List.getElem?_map, List.getElem?_map]
  by_cases h : i < a.length
  · rw [List.getElem?_range h, Option.map_some, List.getElem?_append_left h, List.getElem?_eq_getElem h]
    rfl
  · rw [List.getElem?_eq_none (by rw [List.length_range]; omega), List.getElem?_eq_none (by omega)]
    rfl
theorem rg_r {α : Type} (a b : List α) : ((List.range b.length).map (fun i => a.length + i)).map (fun i => (a ++ b)[i]?) = b.map some := by
  apply List.ext_getElem?
  intro i
  rw [List.map_map, List.getElem?_map, List.getElem?_map]
  by_cases h : i < b.length
  · rw [List.getElem?_range h, Option.map_some, Function.comp_apply, List.getElem?_append_right (by omega), Nat.add_sub_cancel_left, List.getElem?_eq_getElem h]
    rfl
  · rw [List.getElem?_eq_none (by rw [List.length_range]; omega), List.getElem?_eq_none (by omega)]
    rfl
theorem nd_of : ∀ (l : List Nat), l.Nodup → va_nd l = true
  | [], _ => rfl
  | a :: l, h => by
    rw [List.nodup_cons] at h
    simp only [va_nd, Bool.and_eq_true, decide_eq_true_eq]
    exact ⟨h.1, nd_of l h.2⟩
theorem nd_rg (n : Nat) : va_nd (List.range n) = true := nd_of _ List.nodup_range
theorem nd_ri (k n : Nat) : va_nd ((List.range n).map (fun i => k + i)) = true := by
  have h : (List.range n).map (fun i => k + i) = List.range' k n := by
    apply List.ext_getElem?
    intro i
    rw [List.getElem?_map]
    by_cases h : i < n
    · rw [List.getElem?_range h, List.getElem?_range' h]
      simp
    · rw [List.getElem?_eq_none (by rw [List.length_range]; omega), List.getElem?_eq_none (by rw [List.length_range']; omega)]
      rfl
  rw [h]
  exact nd_of _ (List.nodup_range' (step := 1))
theorem wc_R {D : va_G} {A : Nat → Prop} {wr wc : va_W} {H : Heap} (hP : va_P D vwCl (wr ++ wc) H) (hD : va_D A (wr ++ wc)) : va_P D vwCl wc H ∧ va_D A wc :=
  ⟨hP.sub _ (fm_of _ _ _ (rg_r wr wc)), hD.sub _ (nd_ri _ _) (rg_r wr wc)⟩
theorem wc_J {D : va_G} {A : Nat → Prop} {wr wc w1 : va_W} {H H1 : Heap} (hP : va_P D vwCl (wr ++ wc) H) (hD : va_D A (wr ++ wc)) (hk : ∀ q : Nat, q < H.size → ¬ va_A wc H.size q → H1[q]? = H[q]?) (hF : ∀ q, va_A wc H.size q → A q) (hP1 : va_P D vwCl w1 H1) (hD1 : va_D (va_A wc H.size) w1) : va_P D vwCl (wr ++ w1) H1 ∧ va_D A (wr ++ w1) :=
  va_join hP hD ((List.range wc.length).map (fun i => wr.length + i)) (List.range wr.length) (rg_r wr wc) (rg_l wr wc) (nd_rg _) (fun i h1 h2 => by
    obtain ⟨j, -, e⟩ := List.mem_map.mp h2
    have := List.mem_range.mp h1
    omega) hk hF hP1 hD1
def LkI (own : String) (index : Nat) (y : MethodName) (cc : ByteArray) (nL : Nat) (n : Nat) : Prop := Cond.code y cc nL none ∈ TBg ∧ Cond.methodLink own index y ∈ TBg ∧ Cond.instanceMethod y ∈ TBg ∧ Cond.initialized y.cls ∈ TBg ∧ (y.cls ≠ "java/lang/invoke/MethodHandle" ∧ y.cls ≠ "java/lang/invoke/VarHandle" ∧ (parseMethodDescriptor y.desc).map (fun d => d.parameters.length) = some n) ∧ y.name = "<init>"
def LkJ (y : MethodName) (cc : ByteArray) (nL : Nat) (n : Nat) : Prop := Cond.code y cc nL none ∈ TBg ∧ Cond.instanceMethod y ∈ TBg ∧ Cond.initialized y.cls ∈ TBg ∧ (y.cls ≠ "java/lang/invoke/MethodHandle" ∧ y.cls ≠ "java/lang/invoke/VarHandle" ∧ (parseMethodDescriptor y.desc).map (fun d => d.parameters.length) = some n) ∧ y.name = "<init>"
theorem gin {y : MethodName} {cc : ByteArray} {nL : Nat} {ro : Option FieldType} (h : Cond.code y cc nL ro ∈ TBg) : GoodIn TBg (TBy y cc nL ro) := by
  intro w hw9
  have hw' : w ∈ TBg := by
    rcases List.mem_cons.mp hw9 with e | e
    · rw [e]; exact h
    · exact e
  exact ⟨hw', good_of_word (List.mem_filter.mp hw').2⟩
section NC
variable {E : XC} {own nm : String} {cc : ByteArray} {nL pc cl sl : Nat} {rm : Room} {lv : List (Nat × Value)} {st : List Value} {ws : va_W}
theorem n_vret {Post : (Nat → Nat) → (Nat → ClassId) → va_W → Prop} (O : ON E own cc nL rm nm) (hr : ReC E cc Post) (d : decode cc pc = .ok (.return_, 1)) (hc : cl ≤ rm.cells) (hs : sl ≤ rm.slots) (hp : Post E.2.2.1 E.2.2.2.1 ws) : WN E nL pc cl sl lv [] ws := by
  obtain ⟨⟨p, l, e, R, s, m, args, below, meth, c, Q⟩, ⟨D, ph, ids, A⟩⟩ := E
  have hRR : R = rm := O.2.2.2.2.2.2.2.2.1
  subst hRR
  exact fun H locs ls hP hD hS hl => hr H locs ls pc cl sl ws d hc hs hp hP hD hS
theorem n_sub (is : List Nat) {ws' : va_W} (hs : is.map (fun i => ws[i]?) = ws'.map some) (hn : va_nd is = true) (k : WN E nL pc cl sl lv st ws') : WN E nL pc cl sl lv st ws := by
  obtain ⟨⟨p, l, e, R, s, m, args, below, meth, c, Q⟩, ⟨D, ph, ids, A⟩⟩ := E
  exact fun H locs ls hP hD hS hl => k H locs ls (hP.sub is (fm_of _ _ _ hs)) (hD.sub is hn hs) hS hl
theorem n_swap {a b : va_W} (k : WN E nL pc cl sl lv st (b ++ a)) : WN E nL pc cl sl lv st (a ++ b) := by
  obtain ⟨⟨p, l, e, R, s, m, args, below, meth, c, Q⟩, ⟨D, ph, ids, A⟩⟩ := E
  exact fun H locs ls hP hD hS hl => k H locs ls (va_P.swap (a := []) hP) (va_D.swap (a := []) hD) hS hl
theorem n_row {a n : Nat} {c9 : ClassId} {f g : Nat → Option Nat} (q0 : Nat) (ha : ws[q0]? = some (a, .inl (c9, n, .inr (.inr (.inr (.inr f)))))) (hfg : ∀ i, i < n → f i = g i) (k : WN E nL pc cl sl lv st (ws.set q0 (a, .inl (c9, n, .inr (.inr (.inr (.inr g))))))) : WN E nL pc cl sl lv st ws := by
  obtain ⟨⟨p, l, e, R, s, m, args, below, meth, c, Q⟩, ⟨D, ph, ids, A⟩⟩ := E
  intro H locs ls hP hD hS hl
  refine k H locs ls (hP.set hD ha ?_ (fun _ _ => rfl)) (hD.set ha) hS hl
  have h1 : H[a]? = some (vp_cell c9 (n, .inr (.inr (.inr (.inr f))))) := hP q0 _ ha
  show H[a]? = some (vp_cell c9 (n, .inr (.inr (.inr (.inr g)))))
  rw [h1, vp_cell_q, vp_cell_q]
  unfold arrV
  rw [show (fun j : _root_.Fin n => va_rf (f j.val)) = (fun j : _root_.Fin n => va_rf (g j.val)) from funext fun j => by rw [hfg j.val j.isLt]]
theorem n_rowi {a n : Nat} {c9 : ClassId} {f g : Nat → Int32} (q0 : Nat) (ha : ws[q0]? = some (a, .inl (c9, n, .inl f))) (hfg : ∀ i, i < n → f i = g i) (k : WN E nL pc cl sl lv st (ws.set q0 (a, .inl (c9, n, .inl g)))) : WN E nL pc cl sl lv st ws := by
  obtain ⟨⟨p, l, e, R, s, m, args, below, meth, c, Q⟩, ⟨D, ph, ids, A⟩⟩ := E
  intro H locs ls hP hD hS hl
  refine k H locs ls (hP.set hD ha ?_ (fun _ _ => rfl)) (hD.set ha) hS hl
  have h1 : H[a]? = some (vp_cell c9 (n, .inl f)) := hP q0 _ ha
  show H[a]? = some (vp_cell c9 (n, .inl g))
  rw [h1, vp_cell_i, vp_cell_i]
  unfold arrV
  rw [show (fun j : _root_.Fin n => Value.int (f j.val)) = (fun j : _root_.Fin n => Value.int (g j.val)) from funext fun j => by rw [hfg j.val j.isLt]]
theorem n_ctor (O : ON E own cc nL rm nm) {y : MethodName} {cc' : ByteArray} {nL' index n b ci : Nat} {rm' : Room} {As fs st0 : List Value} {Post : (Nat → Nat) → (Nat → ClassId) → va_W → Prop} (L : LkI own index y cc' nL' n) (hC : CtC y cc' nL' rm' (.ref b :: As) [(b, .inr (ci, fs))] Post) (hn : As.length = n) (hR : rm'.frames + 1 ≤ rm.frames ∧ 8 + (nL' + 11) + rm'.locals ≤ rm.locals) (hst : st0 = As.reverse ++ .ref b :: st) (hw : (st.map fun v => v.category).sum ≤ 8) (hc : cl + rm'.cells ≤ rm.cells) (hs : sl + rm'.slots ≤ rm.slots) (d : decode cc pc = .ok (.invokespecial index, 3)) (kk : ∀ w1, Post E.2.2.1 E.2.2.2.1 w1 → WN E nL (pc + 3) (cl + rm'.cells) (sl + rm'.slots) lv st (ws ++ w1)) : WN E nL pc cl sl lv st0 (ws ++ [(b, .inr (ci, fs))]) := by
  obtain ⟨⟨p, l, e, R, s, m, args, below, meth, c, Q⟩, ⟨D, ph, ids, A⟩⟩ := E
  have hRR : R = rm := O.2.2.2.2.2.2.2.2.1
  subst hRR
  intro H locs ls hP hD hS hl
  obtain ⟨hPc, hDc⟩ := wc_R hP hD
  have hF : ∀ q, va_A [(b, .inr (ci, fs))] H.size q → A q := va_free hD hS O.2.2.2.2.2.2.1 _ (rg_r ws [(b, .inr (ci, fs))])
  have hX := O.2.2.2.2.2.2.2.1
  have hpre : ∀ U : State, U.heap = H → s.WarmedH U.vm → va_Pc (.ref b :: As) (pr_C D ph ids H.size [(b, .inr (ci, fs))]) (Value.ref b :: As).toArray U := fun U hU hW => ⟨rfl, by rw [hU], by rw [hU]; exact hPc, va_K.moved hW.alike O.2.2.2.2.2.1, hDc.weaken (fun _ _ _ _ => trivial), by rw [hU]; exact (hX.kept hS.2.1 hF).warm hW, O.2.2.2.2.2.2.2.2.2.2.warm hW⟩
  refine va_callv (va_runI (As := As) (rest := st) ⟨O.1, O.2.1, O.2.2.1, O.2.2.2.1, O.2.2.2.2.1⟩ (hC l D ph ids H.size) (cwI n O.2.2.2.2.1 (gin L.1) rfl rfl rfl (O.2.2.2.2.1 _ L.2.2.2.1) (O.2.2.2.2.1 _ L.2.1) (O.2.2.2.2.1 _ L.2.2.1) L.2.2.2.2.2 L.2.2.2.2.1 hR) ⟨pr_C.blind, hpre⟩ rfl hn hl.1 hst (lv_room hw) d ⟨hc, hs⟩) hS (fun q _ h => hF q h) hF (fun w1 t H1 locs1 ht hvm hp hB hz1 hk1 hS1 => ?_)
  obtain ⟨hP1, hD1⟩ := hB
  rw [ht] at hP1
  obtain ⟨hP2, hD2⟩ := wc_J hP hD hk1 hF hP1 hD1
  exact kk w1 hp H1 locs1 ls hP2 hD2 hS1 hl
theorem n_ctorN (O : ON E own cc nL rm nm) {y : MethodName} {cc' : ByteArray} {nL' index n b ci : Nat} {rm' : Room} {As fs st0 : List Value} {Post : (Nat → Nat) → (Nat → ClassId) → va_W → Prop} (L : LkJ y cc' nL' n) (hNw : va_Nw (.methodLinkNest own index y RX5) E.1.2.2.2.2.1) (hC : CtC y cc' nL' rm' (.ref b :: As) [(b, .inr (ci, fs))] Post) (hn : As.length = n) (hR : rm'.frames + 1 ≤ rm.frames ∧ 8 + (nL' + 11) + rm'.locals ≤ rm.locals) (hst : st0 = As.reverse ++ .ref b :: st) (hw : (st.map fun v => v.category).sum ≤ 8) (hc : cl + rm'.cells ≤ rm.cells) (hs : sl + rm'.slots ≤ rm.slots) (d : decode cc pc = .ok (.invokespecial index, 3)) (kk : ∀ w1, Post E.2.2.1 E.2.2.2.1 w1 → WN E nL (pc + 3) (cl + rm'.cells) (sl + rm'.slots) lv st (ws ++ w1)) : WN E nL pc cl sl lv st0 (ws ++ [(b, .inr (ci, fs))]) := by
  obtain ⟨⟨p, l, e, R, s, m, args, below, meth, c, Q⟩, ⟨D, ph, ids, A⟩⟩ := E
  have hRR : R = rm := O.2.2.2.2.2.2.2.2.1
  subst hRR
  intro H locs ls hP hD hS hl
  obtain ⟨hPc, hDc⟩ := wc_R hP hD
  have hF : ∀ q, va_A [(b, .inr (ci, fs))] H.size q → A q := va_free hD hS O.2.2.2.2.2.2.1 _ (rg_r ws [(b, .inr (ci, fs))])
  have hX := O.2.2.2.2.2.2.2.1
  have hpre : ∀ U : State, U.heap = H → s.WarmedH U.vm → va_Pc (.ref b :: As) (pr_C D ph ids H.size [(b, .inr (ci, fs))]) (Value.ref b :: As).toArray U := fun U hU hW => ⟨rfl, by rw [hU], by rw [hU]; exact hPc, va_K.moved hW.alike O.2.2.2.2.2.1, hDc.weaken (fun _ _ _ _ => trivial), by rw [hU]; exact (hX.kept hS.2.1 hF).warm hW, O.2.2.2.2.2.2.2.2.2.2.warm hW⟩
  refine va_callv (va_runIN (host := RX5) (As := As) (rest := st) ⟨O.1, O.2.1, O.2.2.1, O.2.2.2.1, O.2.2.2.2.1⟩ (hC l D ph ids H.size) ⟨va_cnB n O.2.2.2.2.1 (gin L.1) rfl rfl rfl hNw (O.2.2.2.2.1 _ L.2.2.1) L.2.2.2.1 hR, L.2.2.2.2, O.2.2.2.2.1 _ L.2.1⟩ ⟨pr_C.blind, hpre⟩ rfl hn hl.1 hst (lv_room hw) d ⟨hc, hs⟩) hS (fun q _ h => hF q h) hF (fun w1 t H1 locs1 ht hvm hp hB hz1 hk1 hS1 => ?_)
  obtain ⟨hP1, hD1⟩ := hB
  rw [ht] at hP1
  obtain ⟨hP2, hD2⟩ := wc_J hP hD hk1 hF hP1 hD1
  exact kk w1 hp H1 locs1 ls hP2 hD2 hS1 hl
/-- a method of the picture's kind, on the last part of the cells -/
theorem n_in (O : ON E own cc nL rm nm) {M : MW} {ph' : Nat → Nat} {σ : StA} {H : Heap} {locs : List Loc} (hph : ∀ k, 100 ≤ k → ph' k = E.2.2.1 k) (hP : va_P E.2.1 vwCl (ws ++ wld M ph' E.2.2.2.1 σ) H) (hD : va_D E.2.2.2.2 (ws ++ wld M ph' E.2.2.2.1 σ)) (hS : va_S E.2.2.2.2 E.1.2.2.2.2.1.heap H locs) : (∀ q, va_A (wld M ph' E.2.2.2.1 σ) H.size q → E.2.2.2.2 q) ∧ va_D (va_A (wld M ph' E.2.2.2.1 σ) H.size) (wld M ph' E.2.2.2.1 σ) ∧ (∀ U : State, U.heap = H → E.1.2.2.2.2.1.WarmedH U.vm → pr_W M E.2.1 ph' E.2.2.2.1 H.size σ U) := by
  obtain ⟨⟨p, l, e, R, s, m, args, below, meth, c, Q⟩, ⟨D, ph, ids, A⟩⟩ := E
  dsimp only at hP hD hS hph ⊢
  obtain ⟨hPc, hDc⟩ := wc_R hP hD
  have hF : ∀ q, va_A (wld M ph' ids σ) H.size q → A q := va_free hD hS O.2.2.2.2.2.2.1 _ (rg_r ws (wld M ph' ids σ))
  have hX := O.2.2.2.2.2.2.2.1
  exact ⟨hF, hDc.self, fun U hU hW => ⟨by rw [hU], by rw [hU]; exact hPc, va_K.moved hW.alike O.2.2.2.2.2.1, hDc.weaken (fun _ _ _ _ => trivial), by rw [hU]; exact ((hX.kept hS.2.1 hF).warm hW).ph hph⟩⟩
theorem n_SV (O : ON E own cc nL rm nm) {M : MW} {ph' : Nat → Nat} (hph : ∀ k, 100 ≤ k → ph' k = E.2.2.1 k) {y : MethodName} {cc' : ByteArray} {nL' index n : Nat} {rm' : Room} {av : (Nat → Nat) → List Value} {σ σ' : StA} {As st0 : List Value} (L : LkS own index y cc' nL' none n) (hC : CtV M y cc' nL' rm' av σ σ') (hav : av ph' = As) (hn : As.length = n) (hz : rm'.cells = 0 ∧ rm'.slots = 0) (hR : rm'.frames + 1 ≤ rm.frames ∧ 8 + (nL' + 11) + rm'.locals ≤ rm.locals) (hst : st0 = As.reverse ++ st) (hw : (st.map fun v => v.category).sum ≤ 8) (hc : cl ≤ rm.cells ∧ sl ≤ rm.slots) (d : decode cc pc = .ok (.invokestatic index, 3)) (kk : WN E nL (pc + 3) cl sl lv st (ws ++ wld M ph' E.2.2.2.1 σ')) : WN E nL pc cl sl lv st0 (ws ++ wld M ph' E.2.2.2.1 σ) := by
  obtain ⟨⟨p, l, e, R, s, m, args, below, meth, c, Q⟩, ⟨D, ph, ids, A⟩⟩ := E
  have hRR : R = rm := O.2.2.2.2.2.2.2.2.1
  subst hRR
  intro H locs ls hP hD hS hl
  obtain ⟨hF, hD0, hpre⟩ := n_in O hph hP hD hS
  refine va_callv (va_runS (As := As) (rest := st) ⟨O.1, O.2.1, O.2.2.1, O.2.2.2.1, O.2.2.2.2.1⟩ (hC l D ph' ids H.size) ⟨callB_of n O.2.2.2.2.1 (gin L.1) rfl hz.1 hz.2 (O.2.2.2.2.1 _ L.2.2.2.1) (O.2.2.2.2.1 _ L.2.1) L.2.2.2.2 hR, O.2.2.2.2.1 _ L.2.2.1⟩ ⟨pr_W.blind, fun U hU hW => ⟨by rw [hav], hpre U hU hW⟩⟩ rfl hn hl.1 hst (lv_room hw) d ⟨hc.1, hc.2⟩) hS (fun q _ h => hF q h) hF (fun u t H1 locs1 ht hvm hw' hB hz1 hk1 hS1 => ?_)
  have hB : va_P D vwCl (wld M ph' ids σ') t.heap := hB
  rw [ht] at hB
  obtain ⟨hP2, hD2⟩ := wc_J hP hD hk1 hF hB (wld_D hD0 σ')
  exact kk H1 locs1 ls hP2 hD2 hS1 hl
theorem n_VV (O : ON E own cc nL rm nm) {M : MW} {ph' : Nat → Nat} (hph : ∀ k, 100 ≤ k → ph' k = E.2.2.1 k) {y : MethodName} {cc' : ByteArray} {nL' index n : Nat} {rm' : Room} {av : (Nat → Nat) → List Value} {σ σ' : StA} {As st0 : List Value} {k ci : Nat} {fs : List (Nat ⊕ Bool)} {T : u_T} {N : Nat} (L : LkV own index y cc' nL' none n) (hC : CtV M y cc' nL' rm' av σ σ') (hav : av ph' = .ref (ph' k) :: As) (hs : k < M.1 ∧ M.2 k = .inl (ci, fs)) (hcv : vwCl[ci]? = some (y.cls, T, N)) (hn : As.length = n) (hz : rm'.cells = 0 ∧ rm'.slots = 0) (hR : rm'.frames + 1 ≤ rm.frames ∧ 8 + (nL' + 11) + rm'.locals ≤ rm.locals) (hst : st0 = As.reverse ++ .ref (ph' k) :: st) (hw : (st.map fun v => v.category).sum ≤ 8) (hc : cl ≤ rm.cells ∧ sl ≤ rm.slots) (d : decode cc pc = .ok (.invokevirtual index, 3)) (kk : WN E nL (pc + 3) cl sl lv st (ws ++ wld M ph' E.2.2.2.1 σ')) : WN E nL pc cl sl lv st0 (ws ++ wld M ph' E.2.2.2.1 σ) := by
  obtain ⟨⟨p, l, e, R, s, m, args, below, meth, c, Q⟩, ⟨D, ph, ids, A⟩⟩ := E
  have hRR : R = rm := O.2.2.2.2.2.2.2.2.1
  subst hRR
  intro H locs ls hP hD hS hl
  obtain ⟨hF, hD0, hpre⟩ := n_in O hph hP hD hS
  obtain ⟨hPc, -⟩ := wc_R hP hD
  refine va_callv (va_runV (As := As) (rest := st) ⟨O.1, O.2.1, O.2.2.1, O.2.2.2.1, O.2.2.2.2.1⟩ (hC l D ph' ids H.size) ⟨callB_of n O.2.2.2.2.1 (gin L.1) rfl hz.1 hz.2 (O.2.2.2.2.1 _ L.2.2.2.2.1) (O.2.2.2.2.1 _ L.2.1) L.2.2.2.2.2 hR, O.2.2.2.2.1 _ L.2.2.1, O.2.2.2.2.1 _ L.2.2.2.1⟩ ⟨pr_W.blind, va_recv O.2.2.2.2.2.1 hPc hcv (wld_get hs), fun U hU hW => ⟨by rw [hav], hpre U hU hW⟩⟩ rfl hn hl.1 hst (lv_room hw) d ⟨hc.1, hc.2⟩) hS (fun q _ h => hF q h) hF (fun u t H1 locs1 ht hvm hw' hB hz1 hk1 hS1 => ?_)
  have hB : va_P D vwCl (wld M ph' ids σ') t.heap := hB
  rw [ht] at hB
  obtain ⟨hP2, hD2⟩ := wc_J hP hD hk1 hF hB (wld_D hD0 σ')
  exact kk H1 locs1 ls hP2 hD2 hS1 hl
theorem n_VI (O : ON E own cc nL rm nm) {M : MW} {ph' : Nat → Nat} (hph : ∀ k, 100 ≤ k → ph' k = E.2.2.1 k) {y : MethodName} {cc' : ByteArray} {nL' index n : Nat} {rm' : Room} {av : (Nat → Nat) → List Value} {σ σ' : StA} {As st0 : List Value} {r : Int32} {rt : FieldType} {k ci : Nat} {fs : List (Nat ⊕ Bool)} {T : u_T} {N : Nat} (L : LkV own index y cc' nL' (some rt) n) (hC : CtI M y cc' nL' rt rm' av σ σ' r) (hav : av ph' = .ref (ph' k) :: As) (hs : k < M.1 ∧ M.2 k = .inl (ci, fs)) (hcv : vwCl[ci]? = some (y.cls, T, N)) (hn : As.length = n) (hz : rm'.cells = 0 ∧ rm'.slots = 0) (hR : rm'.frames + 1 ≤ rm.frames ∧ 8 + (nL' + 11) + rm'.locals ≤ rm.locals) (hst : st0 = As.reverse ++ .ref (ph' k) :: st) (hw : (st.map fun v => v.category).sum ≤ 8) (hc : cl ≤ rm.cells ∧ sl ≤ rm.slots) (d : decode cc pc = .ok (.invokevirtual index, 3)) (kk : WN E nL (pc + 3) cl sl lv (.int r :: st) (ws ++ wld M ph' E.2.2.2.1 σ')) : WN E nL pc cl sl lv st0 (ws ++ wld M ph' E.2.2.2.1 σ) := by
  obtain ⟨⟨p, l, e, R, s, m, args, below, meth, c, Q⟩, ⟨D, ph, ids, A⟩⟩ := E
  have hRR : R = rm := O.2.2.2.2.2.2.2.2.1
  subst hRR
  intro H locs ls hP hD hS hl
  obtain ⟨hF, hD0, hpre⟩ := n_in O hph hP hD hS
  obtain ⟨hPc, -⟩ := wc_R hP hD
  refine va_calli (va_runV (As := As) (rest := st) ⟨O.1, O.2.1, O.2.2.1, O.2.2.2.1, O.2.2.2.2.1⟩ (hC l D ph' ids H.size) ⟨callB_of n O.2.2.2.2.1 (gin L.1) rfl hz.1 hz.2 (O.2.2.2.2.1 _ L.2.2.2.2.1) (O.2.2.2.2.1 _ L.2.1) L.2.2.2.2.2 hR, O.2.2.2.2.1 _ L.2.2.1, O.2.2.2.2.1 _ L.2.2.2.1⟩ ⟨pr_W.blind, va_recv O.2.2.2.2.2.1 hPc hcv (wld_get hs), fun U hU hW => ⟨by rw [hav], hpre U hU hW⟩⟩ rfl hn hl.1 hst (lv_room hw) d ⟨hc.1, hc.2⟩) hS (fun q _ h => hF q h) hF (fun r' u t H1 locs1 ht hvm hw' hB hz1 hk1 hS1 => ?_)
  subst hw'
  have hB : va_P D vwCl (wld M ph' ids σ') t.heap := hB
  rw [ht] at hB
  obtain ⟨hP2, hD2⟩ := wc_J hP hD hk1 hF hB (wld_D hD0 σ')
  exact kk H1 locs1 ls hP2 hD2 hS1 hl
theorem n_VL (O : ON E own cc nL rm nm) {M : MW} {ph' : Nat → Nat} (hph : ∀ k, 100 ≤ k → ph' k = E.2.2.1 k) {y : MethodName} {cc' : ByteArray} {nL' index n : Nat} {rm' : Room} {av : (Nat → Nat) → List Value} {σ σ' : StA} {As st0 : List Value} {r : Int64} {k ci : Nat} {fs : List (Nat ⊕ Bool)} {T : u_T} {N : Nat} (L : LkV own index y cc' nL' (some .long) n) (hC : CtL M y cc' nL' rm' av σ σ' r) (hav : av ph' = .ref (ph' k) :: As) (hs : k < M.1 ∧ M.2 k = .inl (ci, fs)) (hcv : vwCl[ci]? = some (y.cls, T, N)) (hn : As.length = n) (hz : rm'.cells = 0 ∧ rm'.slots = 0) (hR : rm'.frames + 1 ≤ rm.frames ∧ 8 + (nL' + 11) + rm'.locals ≤ rm.locals) (hst : st0 = As.reverse ++ .ref (ph' k) :: st) (hw : (st.map fun v => v.category).sum ≤ 8) (hc : cl ≤ rm.cells ∧ sl ≤ rm.slots) (d : decode cc pc = .ok (.invokevirtual index, 3)) (kk : WN E nL (pc + 3) cl sl lv (.long r :: st) (ws ++ wld M ph' E.2.2.2.1 σ')) : WN E nL pc cl sl lv st0 (ws ++ wld M ph' E.2.2.2.1 σ) := by
  obtain ⟨⟨p, l, e, R, s, m, args, below, meth, c, Q⟩, ⟨D, ph, ids, A⟩⟩ := E
  have hRR : R = rm := O.2.2.2.2.2.2.2.2.1
  subst hRR
  intro H locs ls hP hD hS hl
  obtain ⟨hF, hD0, hpre⟩ := n_in O hph hP hD hS
  obtain ⟨hPc, -⟩ := wc_R hP hD
  refine va_calll (va_runV (As := As) (rest := st) ⟨O.1, O.2.1, O.2.2.1, O.2.2.2.1, O.2.2.2.2.1⟩ (hC l D ph' ids H.size) ⟨callB_of n O.2.2.2.2.1 (gin L.1) rfl hz.1 hz.2 (O.2.2.2.2.1 _ L.2.2.2.2.1) (O.2.2.2.2.1 _ L.2.1) L.2.2.2.2.2 hR, O.2.2.2.2.1 _ L.2.2.1, O.2.2.2.2.1 _ L.2.2.2.1⟩ ⟨pr_W.blind, va_recv O.2.2.2.2.2.1 hPc hcv (wld_get hs), fun U hU hW => ⟨by rw [hav], hpre U hU hW⟩⟩ rfl hn hl.1 hst (lv_room hw) d ⟨hc.1, hc.2⟩) hS (fun q _ h => hF q h) hF (fun r' u t H1 locs1 ht hvm hw' hB hz1 hk1 hS1 => ?_)
  subst hw'
  have hB : va_P D vwCl (wld M ph' ids σ') t.heap := hB
  rw [ht] at hB
  obtain ⟨hP2, hD2⟩ := wc_J hP hD hk1 hF hB (wld_D hD0 σ')
  exact kk H1 locs1 ls hP2 hD2 hS1 hl
theorem n_mna (O : ON E own cc nL rm nm) {index : Nat} {n k9 : Int32} {N K : Nat} (hw : Cond.classLink own index ("[" ++ (FieldType.array .int).toString) ∈ TBg) (ha : Cond.arrayClass .int ∈ TBg) (hn : ¬ n < 0) (hk : ¬ k9 < 0) (hN : n.toNatClampNeg = N) (hK : k9.toNatClampNeg = K) (hb1 : N * 4 ≤ 536870912) (hb2 : K * componentBytes .int ≤ 536870912) (hb3 : K ≤ 536870912) (hc : cl + (1 + N) ≤ rm.cells) (hs : sl + (N + N * K) ≤ rm.slots) (d : decode cc pc = .ok (.multianewarray index 2, 4)) (kk : ∀ (q : Nat) (r : Nat → Nat), WN E nL (pc + 4) (cl + 1 + N) (sl + N + N * K) lv (.ref q :: st) ((ws ++ [(q, .inl (E.2.2.2.1 4, N, .inr (.inr (.inr (.inr (fun i => if i < N then some (r i) else none))))))]) ++ (List.range N).map (fun i => (r i, .inl (E.2.2.2.1 0, K, .inl (fun _ => 0)))))) : WN E nL pc cl sl lv (.int k9 :: .int n :: st) ws := by
  obtain ⟨⟨p, l, e, R, s, m, args, below, meth, c, Q⟩, ⟨D, ph, ids, A⟩⟩ := E
  have hRR : R = rm := O.2.2.2.2.2.2.2.2.1
  subst hRR
  intro H locs ls hP hD hS hl
  have e0 : ws ++ va_pl [] (fun _ => (.inr (0, []) : va_E)) = ws := by simp [va_pl]
  refine va_mna (X := ws) (L := []) (f := fun _ => (.inr (0, []) : va_E)) (ty := .int) (cy := ids 0) (z := (K, .inl (fun _ => 0))) O.1 O.2.1 O.2.2.2.1 (O.2.2.2.2.1 _ hw) O.2.2.2.2.2.2.2.2.2.2.1.2.2 (O.2.2.2.2.1 _ ha) (O.2.2.2.2.2.1.2 0 (ids 0, .int) rfl).2 O.2.2.2.2.2.1 (by rw [e0]; exact hP) (by rw [e0]; exact hD) hS O.2.2.2.2.2.2.1 hn hk hN hK hb1 hb2 hb3 rfl rfl hc hs (fun c9 => ?_) d (fun q r cA H1 hr1 hr2 hK1 hP1 hD1 hS1 => ?_)
  · show ({ cls := c9, slots := Array.replicate K (.int 0), vm := .none } : Cell) = _
    rw [arrV_new]
    rfl
  · have e1 : s.vm.findClass ("[" ++ (FieldType.array .int).toString) = some cA := (hK1.2 5 (cA, .array .int) rfl).2
    have e2 : s.vm.findClass ("[" ++ (FieldType.array .int).toString) = some (ids 4) := (O.2.2.2.2.2.1.2 4 (ids 4, .array .int) rfl).2
    have e3 : cA = ids 4 := Option.some.inj (e1.symm.trans e2)
    subst e3
    have e4 : va_pl ([] ++ (List.range N).map r) (vr_up (fun _ => (.inr (0, []) : va_E)) ((List.range N).map r) (.inl (ids 0, (K, .inl (fun _ => 0))))) = (List.range N).map (fun i => (r i, (.inl (ids 0, K, .inl (fun _ => 0)) : va_E))) := by
      unfold va_pl
      rw [List.nil_append, List.map_map]
      apply List.map_congr_left
      intro i hi
      show (r i, vr_up _ _ _ (r i)) = _
      rw [vr_up_in (List.mem_map.mpr ⟨i, hi, rfl⟩)]
    rw [e4] at hP1 hD1
    exact kk q r H1 locs ls hP1 hD1 hS1 hl
end NC
