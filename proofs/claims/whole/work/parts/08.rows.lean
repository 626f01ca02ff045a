/-! The walk over a world: contexts, what holds in one, one row an instruction. -/
abbrev XC : Type := (Program × Launch × Env × Room × State × MethodId × Array Value × List Frame × Method × Code × (State → Prop)) × (va_G × (Nat → Nat) × (Nat → ClassId) × (Nat → Prop))
def TYS : List FieldType := [.int, .boolean, .object "UnsaidBallast$Flight", .object "UnsaidBallast$Sheet", .array .int]
def ty_l (ids : Nat → ClassId) : List (ClassId × FieldType) := [(ids 0, .int), (ids 1, .boolean), (ids 2, .object "UnsaidBallast$Flight"), (ids 3, .object "UnsaidBallast$Sheet"), (ids 4, .array .int)]
def TBg : List Cond := lw_tbl.filter goodWord
theorem tb_in {w : Cond} (h : w ∈ lw_tbl) (hg : goodWord w = true) : w ∈ TBg := List.mem_filter.mpr ⟨h, hg⟩
theorem tb_good : GoodIn lw_tbl TBg := fun w h => ⟨(List.mem_filter.mp h).1, good_of_word (List.mem_filter.mp h).2⟩
def TBy (y : MethodName) (cc : ByteArray) (n : Nat) (r : Option FieldType) : List Cond := .code y cc n r :: TBg
theorem tb_y {y y' : MethodName} {cc cc' : ByteArray} {n n' : Nat} {r r' : Option FieldType} (h : Cond.code y' cc' n' r' ∈ TBg) : GoodIn (TBy y cc n r) (TBy y' cc' n' r') := by
  intro w hw
  have hw' : w ∈ TBg := by
    rcases List.mem_cons.mp hw with e | e
    · rw [e]; exact h
    · exact e
  exact ⟨List.mem_cons_of_mem _ hw', good_of_word (List.mem_filter.mp hw').2⟩
/-- what stays of the start that no world holds: links between nest mates, String constants (by their keys 100 on, their rows 200 on) -/
def ne_L : List (String × Nat × MethodName) := [(RX1, 87, yX5_bounded), (RX1, 68, yX5_isIn), (RX2, 28, yX5_isIn), (RX3, 26, yX5_isIn), (RX3, 135, yX5_leastOf), (RX3, 138, yX5_greatestOf), (RX4, 32, yX5_isIn)]
def js_len : List Nat := [5, 4, 6, 4, 4, 4, 5]
def js_byt : List (List Int32) := [[112, 108, 97, 105, 110], [116, 97, 99, 116], [115, 101, 99, 114, 101, 116], [106, 111, 107, 101], [119, 105, 110, 100], [114, 97, 116, 101], [115, 116, 97, 114, 116]]
def js_tx : List String := ["plain", "tact", "secret", "joke", "wind", "rate", "start"]
def ex_F (ph : Nat → Nat) (A : Nat → Prop) (U : State) (H : Heap) : Prop :=
  (∀ q ∈ ne_L, va_Nw (.methodLinkNest q.1 q.2.1 q.2.2 RX5) U) ∧ (vk_S 7 js_len js_byt (fun i => ph (100 + i)) (fun i => ph (200 + i)) A U H ∧ ∀ i, i < 7 → vk_R RX3 (110 + 2 * i) (js_tx.getD i "") (ph (100 + i)) U) ∧ (va_Z "java/lang/String" "COMPACT_STRINGS" "Z" (.int 1) A U H ∧ va_Zq "jdk/internal/util/Preconditions" "SIOOBE_FORMATTER" "Ljava/util/function/BiFunction;" A U H)
theorem ex_F.warm {ph : Nat → Nat} {A : Nat → Prop} {s U : State} {H : Heap} (hW : s.WarmedH U.vm) (h : ex_F ph A s H) : ex_F ph A U H :=
  ⟨fun q hq => va_Nw.warmM hW (h.1 q hq), ⟨vk_S.moved hW.alike h.2.1.1, fun i hi => vk_R.warm hW (h.2.1.2 i hi)⟩, va_Z.moved hW.alike h.2.2.1, va_Zq.moved hW.alike h.2.2.2⟩
theorem ex_F.same {ph : Nat → Nat} {A : Nat → Prop} {s U : State} {H : Heap} (hv : s.vm = U.vm) (h : ex_F ph A s H) : ex_F ph A U H :=
  have ha : s.vm.Alike U.vm := by rw [hv]; exact Vm.Alike.refl _
  ⟨fun q hq => va_Nw.same rfl hv (h.1 q hq), ⟨vk_S.moved ha h.2.1.1, fun i hi => vk_R.same hv.symm (h.2.1.2 i hi)⟩, va_Z.moved ha h.2.2.1, va_Zq.moved ha h.2.2.2⟩
theorem ex_F.kept {ph : Nat → Nat} {A B : Nat → Prop} {U : State} {H H1 : Heap} (h : ex_F ph A U H) (hq : ∀ q : Nat, q < H.size → ¬ A q → H1[q]? = H[q]?) (hB : ∀ q, B q → A q) : ex_F ph B U H1 :=
  ⟨h.1, ⟨(h.2.1.1.kept hq).narrow hB, h.2.1.2⟩, (h.2.2.1.kept hq).narrow hB, (h.2.2.2.kept hq).narrow hB⟩
/-- the walk's goal: from any heap that holds the picture, with these locals and this stack, the machine comes to Q -/
def WS (M : MW) (E : XC) (nL pc : Nat) (lv : List (Nat × Value)) (st : List Value) (σ : StA) : Prop :=
  match E with
  | ((p, l, e, R, s, m, args, below, meth, c, Q), (D, ph, ids, A)) => ∀ (H : Heap) (locs : List Loc) (ls : Array Slot), va_P D vwCl (wld M ph ids σ) H → va_S A s.heap H locs → lv_has ls nL lv → W p l e R s m args below meth c H locs 0 0 Q (F0 m pc ls st)
def OK (M : MW) (E : XC) (own : String) (cc : ByteArray) (nL : Nat) (rm : Room) : Prop :=
  match E with
  | ((p, l, e, R, s, m, args, below, meth, c, Q), (D, ph, ids, A)) => p.tables.exec = Jvm.exec ∧ c.code = cc ∧ c.maxLocals = nL ∧ s.vm.findClass own = some m.cls ∧ (∀ w ∈ TBg, w.before args s = true) ∧ va_K D vwCl (ty_l ids) s ∧ (∀ σ, va_D A (wld M ph ids σ)) ∧ (∀ q, s.heap.size ≤ q → A q) ∧ ex_F ph A s s.heap ∧ R = rm
def rf (E : XC) (k : Nat) : Value := .ref (E.2.2.1 k)
def ReI (M : MW) (E : XC) (rt : FieldType) (cc : ByteArray) (σ' : StA) (r : Int32) : Prop :=
  match E with
  | ((p, l, e, R, s, m, args, below, meth, c, Q), (D, ph, ids, A)) => narrow rt (.int r) = .int r → ∀ (H : Heap) (locs : List Loc) (ls : Array Slot) (pc : Nat), decode cc pc = .ok (.ireturn, 1) → va_P D vwCl (wld M ph ids σ') H → va_S A s.heap H locs → W p l e R s m args below meth c H locs 0 0 Q (F0 m pc ls [.int r])
def ReL (M : MW) (E : XC) (cc : ByteArray) (σ' : StA) (r : Int64) : Prop :=
  match E with
  | ((p, l, e, R, s, m, args, below, meth, c, Q), (D, ph, ids, A)) => ∀ (H : Heap) (locs : List Loc) (ls : Array Slot) (pc : Nat), decode cc pc = .ok (.lreturn, 1) → va_P D vwCl (wld M ph ids σ') H → va_S A s.heap H locs → W p l e R s m args below meth c H locs 0 0 Q (F0 m pc ls [.long r])
def ReV (M : MW) (E : XC) (cc : ByteArray) (σ' : StA) : Prop :=
  match E with
  | ((p, l, e, R, s, m, args, below, meth, c, Q), (D, ph, ids, A)) => ∀ (H : Heap) (locs : List Loc) (ls : Array Slot) (pc : Nat), decode cc pc = .ok (.return_, 1) → va_P D vwCl (wld M ph ids σ') H → va_S A s.heap H locs → W p l e R s m args below meth c H locs 0 0 Q (F0 m pc ls [])
def ReR (M : MW) (E : XC) (cc : ByteArray) (σ' : StA) (r : Nat) : Prop :=
  match E with
  | ((p, l, e, R, s, m, args, below, meth, c, Q), (D, ph, ids, A)) => ∀ (H : Heap) (locs : List Loc) (ls : Array Slot) (pc : Nat), decode cc pc = .ok (.areturn, 1) → va_P D vwCl (wld M ph ids σ') H → va_S A s.heap H locs → W p l e R s m args below meth c H locs 0 0 Q (F0 m pc ls [.ref (ph r)])
/-- contracts: from a heap with the picture σ the method y on av comes back, with r, and the picture is σ' -/
def pr_W (M : MW) (D : va_G) (ph : Nat → Nat) (ids : Nat → ClassId) (sz : Nat) (σ : StA) (U : State) : Prop := U.heap.size = sz ∧ va_P D vwCl (wld M ph ids σ) U.heap ∧ va_K D vwCl (ty_l ids) U ∧ va_D (fun _ => True) (wld M ph ids σ) ∧ ex_F ph (va_A (wld M ph ids σ) sz) U U.heap
def CtI (M : MW) (y : MethodName) (cc : ByteArray) (nL : Nat) (rt : FieldType) (rm : Room) (av : (Nat → Nat) → List Value) (σ σ' : StA) (r : Int32) : Prop :=
  ∀ (l : Launch) (D : va_G) (ph : Nat → Nat) (ids : Nat → ClassId) (sz : Nat), Met l y (TBy y cc nL (some rt)) rm (va_Pc (av ph) (pr_W M D ph ids sz σ)) (va_Qi (fun r' (_ : Unit) => r' = r) (fun _ t => va_P D vwCl (wld M ph ids σ') t.heap) (va_A (wld M ph ids σ) sz)) 0 0 (va_A (wld M ph ids σ) sz)
def CtL (M : MW) (y : MethodName) (cc : ByteArray) (nL : Nat) (rm : Room) (av : (Nat → Nat) → List Value) (σ σ' : StA) (r : Int64) : Prop :=
  ∀ (l : Launch) (D : va_G) (ph : Nat → Nat) (ids : Nat → ClassId) (sz : Nat), Met l y (TBy y cc nL (some .long)) rm (va_Pc (av ph) (pr_W M D ph ids sz σ)) (va_Ql (fun r' (_ : Unit) => r' = r) (fun _ t => va_P D vwCl (wld M ph ids σ') t.heap) (va_A (wld M ph ids σ) sz)) 0 0 (va_A (wld M ph ids σ) sz)
def CtV (M : MW) (y : MethodName) (cc : ByteArray) (nL : Nat) (rm : Room) (av : (Nat → Nat) → List Value) (σ σ' : StA) : Prop :=
  ∀ (l : Launch) (D : va_G) (ph : Nat → Nat) (ids : Nat → ClassId) (sz : Nat), Met l y (TBy y cc nL none) rm (va_Pc (av ph) (pr_W M D ph ids sz σ)) (va_Qv (fun (_ : Unit) => True) (fun _ t => va_P D vwCl (wld M ph ids σ') t.heap) (va_A (wld M ph ids σ) sz)) 0 0 (va_A (wld M ph ids σ) sz)
def CtR (M : MW) (y : MethodName) (cc : ByteArray) (nL : Nat) (rt : FieldType) (rm : Room) (av : (Nat → Nat) → List Value) (σ σ' : StA) (r : Nat) : Prop :=
  ∀ (l : Launch) (D : va_G) (ph : Nat → Nat) (ids : Nat → ClassId) (sz : Nat), Met l y (TBy y cc nL (some rt)) rm (va_Pc (av ph) (pr_W M D ph ids sz σ)) (va_Qr (fun (_ : Unit) => True) (fun _ a t => a = ph r ∧ va_P D vwCl (wld M ph ids σ') t.heap) (va_A (wld M ph ids σ) sz)) 0 0 (va_A (wld M ph ids σ) sz)
theorem pr_W.blind {M : MW} {D : va_G} {ph : Nat → Nat} {ids : Nat → ClassId} {sz : Nat} {σ : StA} {av : List Value} : FrameBlind (va_Pc av (pr_W M D ph ids sz σ)) := by
  intro a U g mk q
  obtain ⟨q0, q1, qP, qK, qD, qX⟩ := q
  exact ⟨q0, q1, qP, va_K.moved (u := U) (U := U.calling g mk a) (Vm.Alike.refl U.vm) qK, qD, ex_F.same (s := U) (U := U.calling g mk a) rfl qX⟩
/-- the entry of a method: what every contract begins with -/
theorem ct_in {M : MW} {l : Launch} {y : MethodName} {cc : ByteArray} {nL : Nat} {ro : Option FieldType} {rm : Room} {av : List Value} {D : va_G} {ph : Nat → Nat} {ids : Nat → ClassId} {sz : Nat} {σ : StA} {lv : List (Nat × Value)} {Qc : Array Value → State → Outcome → State → Prop} (hy : plainName y.cls = true) (hlv : lv_args 0 av = lv) (hn : (lg_sl av).length ≤ nL)
    (body : ∀ E : XC, E.2.2.1 = ph → OK M E y.cls cc nL rm → E.2.1 = D → E.2.2.2.1 = ids → E.1.2.2.2.2.2.2.2.2.1.sig.returnType = ro → E.1.2.2.2.2.2.2.2.2.1.locks = false → E.2.2.2.2 = va_A (wld M ph ids σ) sz → E.1.2.2.2.2.2.2.2.2.2.2 = MQ E.1.2.2.2.2.2.2.2.1 Qc E.1.2.2.2.2.2.2.1 E.1.2.2.2.2.1 0 0 (va_A (wld M ph ids σ) sz) → WS M E nL 0 lv [] σ) :
    Met l y (TBy y cc nL ro) rm (va_Pc av (pr_W M D ph ids sz σ)) Qc 0 0 (va_A (wld M ph ids σ) sz) := by
  refine Met.ofW (cc := cc) (maxL := nL) (ret := ro) hy rfl ?_
  intro p e s m args below meth c s₁ B hml hv
  obtain ⟨rfl, hsz, hP, hK, hD0, hX⟩ := hv
  have hts := atoms_spec (ws := TBy y cc nL ro) B.pre
  have hown : s.vm.findClass y.cls = some m.cls := findClass_of_methodNamed B.named
  have hlocks := B.notSynchronized
  subst hsz
  have hD := hD0.self (sz := s.heap.size)
  have hl := lv_entry av (n := nL) hn
  rw [lg_entry_eq]
  generalize (lg_sl av ++ List.replicate (nL - (lg_sl av).length) Slot.unset).toArray = ls at hl ⊢
  rw [hlv] at hl
  have h := body ((p, l, e, rm, s, m, av.toArray, below, meth, c, MQ below Qc av.toArray s 0 0 (va_A (wld M ph ids σ) s.heap.size)), (D, ph, ids, va_A (wld M ph ids σ) s.heap.size)) rfl ⟨B.exec, B.bytes, hml, hown, fun w hw => hts w (List.mem_cons_of_mem _ hw), hK, fun σ' => wld_D hD σ', fun q h => Or.inr h, hX, rfl⟩ rfl rfl B.returns hlocks rfl rfl
  exact h s.heap [] ls hP va_S.rf hl
theorem CtI.of {M : MW} {y : MethodName} {cc : ByteArray} {nL : Nat} {rt : FieldType} {rm : Room} {av : (Nat → Nat) → List Value} {σ σ' : StA} {r : Int32} (hy : plainName y.cls = true) (hn : ∀ ph, (lg_sl (av ph)).length ≤ nL)
    (body : ∀ E : XC, OK M E y.cls cc nL rm → ReI M E rt cc σ' r → WS M E nL 0 (lv_args 0 (av E.2.2.1)) [] σ) : CtI M y cc nL rt rm av σ σ' r := by
  intro l D ph ids sz
  refine ct_in hy rfl (hn ph) (fun E h1 hO h2 h3 hr hlk hA hQ => ?_)
  subst h1
  refine body E hO ?_
  obtain ⟨⟨p, l, e, R, s, m, args, below, meth, c, Q⟩, ⟨D', ph', ids', A⟩⟩ := E
  dsimp only at h2 h3 hr hlk hA hQ hO ⊢
  subst h2 h3 hA hQ
  obtain ⟨hx, hb, -⟩ := hO
  intro hnar H locs ls pc d hP hS
  exact W.zret hx hb hr hnar (fun t ht hW => ⟨⟨r, (), rfl, rfl, by show va_P _ _ _ t.heap; rw [ht]; exact hP⟩, hS.F ht⟩) hS.2.2 d hlk
theorem CtL.of {M : MW} {y : MethodName} {cc : ByteArray} {nL : Nat} {rm : Room} {av : (Nat → Nat) → List Value} {σ σ' : StA} {r : Int64} (hy : plainName y.cls = true) (hn : ∀ ph, (lg_sl (av ph)).length ≤ nL)
    (body : ∀ E : XC, OK M E y.cls cc nL rm → ReL M E cc σ' r → WS M E nL 0 (lv_args 0 (av E.2.2.1)) [] σ) : CtL M y cc nL rm av σ σ' r := by
  intro l D ph ids sz
  refine ct_in hy rfl (hn ph) (fun E h1 hO h2 h3 hr hlk hA hQ => ?_)
  subst h1
  refine body E hO ?_
  obtain ⟨⟨p, l, e, R, s, m, args, below, meth, c, Q⟩, ⟨D', ph', ids', A⟩⟩ := E
  dsimp only at h2 h3 hr hlk hA hQ hO ⊢
  subst h2 h3 hA hQ
  obtain ⟨hx, hb, -⟩ := hO
  intro H locs ls pc d hP hS
  exact W.lret hx hb hr (fun t ht hW => ⟨⟨r, (), rfl, rfl, by show va_P _ _ _ t.heap; rw [ht]; exact hP⟩, hS.F ht⟩) hS.2.2 d hlk
theorem CtV.of {M : MW} {y : MethodName} {cc : ByteArray} {nL : Nat} {rm : Room} {av : (Nat → Nat) → List Value} {σ σ' : StA} (hy : plainName y.cls = true) (hn : ∀ ph, (lg_sl (av ph)).length ≤ nL)
    (body : ∀ E : XC, OK M E y.cls cc nL rm → ReV M E cc σ' → WS M E nL 0 (lv_args 0 (av E.2.2.1)) [] σ) : CtV M y cc nL rm av σ σ' := by
  intro l D ph ids sz
  refine ct_in hy rfl (hn ph) (fun E h1 hO h2 h3 hr hlk hA hQ => ?_)
  subst h1
  refine body E hO ?_
  obtain ⟨⟨p, l, e, R, s, m, args, below, meth, c, Q⟩, ⟨D', ph', ids', A⟩⟩ := E
  dsimp only at h2 h3 hr hlk hA hQ hO ⊢
  subst h2 h3 hA hQ
  obtain ⟨hx, hb, -⟩ := hO
  intro H locs ls pc d hP hS
  exact W.vret hx hb hr (fun t ht hW => ⟨⟨(), rfl, trivial, by show va_P _ _ _ t.heap; rw [ht]; exact hP⟩, hS.F ht⟩) hS.2.2 d hlk
theorem CtR.of {M : MW} {y : MethodName} {cc : ByteArray} {nL : Nat} {rt : FieldType} {rm : Room} {av : (Nat → Nat) → List Value} {σ σ' : StA} {r : Nat} (hrt : (∃ n, rt = .object n) ∨ ∃ t, rt = .array t) (hy : plainName y.cls = true) (hn : ∀ ph, (lg_sl (av ph)).length ≤ nL)
    (body : ∀ E : XC, OK M E y.cls cc nL rm → ReR M E cc σ' r → WS M E nL 0 (lv_args 0 (av E.2.2.1)) [] σ) : CtR M y cc nL rt rm av σ σ' r := by
  intro l D ph ids sz
  refine ct_in hy rfl (hn ph) (fun E h1 hO h2 h3 hr hlk hA hQ => ?_)
  subst h1
  refine body E hO ?_
  obtain ⟨⟨p, l, e, R, s, m, args, below, meth, c, Q⟩, ⟨D', ph', ids', A⟩⟩ := E
  dsimp only at h2 h3 hr hlk hA hQ hO ⊢
  subst h2 h3 hA hQ
  obtain ⟨hx, hb, -⟩ := hO
  intro H locs ls pc d hP hS
  exact W.aret hx hb hr hrt (Or.inr ⟨_, rfl⟩) (fun t ht hW => ⟨⟨(), _, rfl, trivial, rfl, by show va_P _ _ _ t.heap; rw [ht]; exact hP⟩, hS.F ht⟩) hS.2.2 d hlk
