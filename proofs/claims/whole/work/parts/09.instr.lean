section SR
variable {M : MW} {E : XC} {own : String} {cc : ByteArray} {nL pc : Nat} {rm : Room} {lv : List (Nat × Value)} {st : List Value} {σ : StA}
theorem s_iconst (O : OK M E own cc nL rm) {n : Int} {v : Int32} (d : decode cc pc = .ok (.iconst n, 1)) (hv : Int32.ofInt n = v) (k : WS M E nL (pc + 1) lv (.int v :: st) σ) : WS M E nL pc lv (st) σ := by
  obtain ⟨⟨p, l, e, R, s, m, args, below, meth, c, Q⟩, ⟨D, ph, ids, A⟩⟩ := E
  exact fun H locs ls hP hS hl => lv_iconst O.1 O.2.1 d hv (k H locs ls hP hS hl)
theorem s_bipush (O : OK M E own cc nL rm) {n : Int} {v : Int32} (d : decode cc pc = .ok (.bipush n, 2)) (hv : (Int8.ofInt n).toInt32 = v) (k : WS M E nL (pc + 2) lv (.int v :: st) σ) : WS M E nL pc lv (st) σ := by
  obtain ⟨⟨p, l, e, R, s, m, args, below, meth, c, Q⟩, ⟨D, ph, ids, A⟩⟩ := E
  exact fun H locs ls hP hS hl => lv_bipush O.1 O.2.1 d hv (k H locs ls hP hS hl)
theorem s_sipush (O : OK M E own cc nL rm) {n : Int} {v : Int32} (d : decode cc pc = .ok (.sipush n, 3)) (hv : (Int16.ofInt n).toInt32 = v) (k : WS M E nL (pc + 3) lv (.int v :: st) σ) : WS M E nL pc lv (st) σ := by
  obtain ⟨⟨p, l, e, R, s, m, args, below, meth, c, Q⟩, ⟨D, ph, ids, A⟩⟩ := E
  exact fun H locs ls hP hS hl => lv_sipush O.1 O.2.1 d hv (k H locs ls hP hS hl)
theorem s_lconst (O : OK M E own cc nL rm) {n : Fin 2} {v : Int64} (d : decode cc pc = .ok (.lconst n, 1)) (hv : Int64.ofNat (n : Nat) = v) (k : WS M E nL (pc + 1) lv (.long v :: st) σ) : WS M E nL pc lv (st) σ := by
  obtain ⟨⟨p, l, e, R, s, m, args, below, meth, c, Q⟩, ⟨D, ph, ids, A⟩⟩ := E
  exact fun H locs ls hP hS hl => lv_lconst O.1 O.2.1 d hv (k H locs ls hP hS hl)
theorem s_ldc (O : OK M E own cc nL rm) {i : Nat} {v : Int32} (hw : Cond.constant own i v ∈ TBg) (d : decode cc pc = .ok (.ldc i, 2)) (k : WS M E nL (pc + 2) lv (.int v :: st) σ) : WS M E nL pc lv (st) σ := by
  obtain ⟨⟨p, l, e, R, s, m, args, below, meth, c, Q⟩, ⟨D, ph, ids, A⟩⟩ := E
  exact fun H locs ls hP hS hl => lv_ldc O.1 O.2.1 O.2.2.2.1 (O.2.2.2.2.1 _ hw) d (k H locs ls hP hS hl)
theorem s_ldcw (O : OK M E own cc nL rm) {i : Nat} {v : Int32} (hw : Cond.constant own i v ∈ TBg) (d : decode cc pc = .ok (.ldc_w i, 3)) (k : WS M E nL (pc + 3) lv (.int v :: st) σ) : WS M E nL pc lv (st) σ := by
  obtain ⟨⟨p, l, e, R, s, m, args, below, meth, c, Q⟩, ⟨D, ph, ids, A⟩⟩ := E
  exact fun H locs ls hP hS hl => lv_ldcw O.1 O.2.1 O.2.2.2.1 (O.2.2.2.2.1 _ hw) d (k H locs ls hP hS hl)
theorem s_ldc2 (O : OK M E own cc nL rm) {i : Nat} {v : Int64} (hw : Cond.constantLong own i v ∈ TBg) (d : decode cc pc = .ok (.ldc2_w i, 3)) (k : WS M E nL (pc + 3) lv (.long v :: st) σ) : WS M E nL pc lv (st) σ := by
  obtain ⟨⟨p, l, e, R, s, m, args, below, meth, c, Q⟩, ⟨D, ph, ids, A⟩⟩ := E
  exact fun H locs ls hP hS hl => lv_ldc2 O.1 O.2.1 O.2.2.2.1 (O.2.2.2.2.1 _ hw) d (k H locs ls hP hS hl)
theorem s_iload_n (O : OK M E own cc nL rm) {k9 : Fin 4} {i : Nat} {x : Int32} (q : Nat) (d : decode cc pc = .ok (.iload_n k9, 1)) (hi : (k9 : Nat) = i) (hq : lv[q]? = some (i, .int x)) (k : WS M E nL (pc + 1) lv (.int x :: st) σ) : WS M E nL pc lv (st) σ := by
  obtain ⟨⟨p, l, e, R, s, m, args, below, meth, c, Q⟩, ⟨D, ph, ids, A⟩⟩ := E
  exact fun H locs ls hP hS hl => lv_iload_n O.1 O.2.1 d hi (lv_at hl q hq) (k H locs ls hP hS hl)
theorem s_iload (O : OK M E own cc nL rm) {i : Nat} {x : Int32} (q : Nat) (d : decode cc pc = .ok (.iload i, 2)) (hq : lv[q]? = some (i, .int x)) (k : WS M E nL (pc + 2) lv (.int x :: st) σ) : WS M E nL pc lv (st) σ := by
  obtain ⟨⟨p, l, e, R, s, m, args, below, meth, c, Q⟩, ⟨D, ph, ids, A⟩⟩ := E
  exact fun H locs ls hP hS hl => lv_iload O.1 O.2.1 d (lv_at hl q hq) (k H locs ls hP hS hl)
theorem s_lload_n (O : OK M E own cc nL rm) {k9 : Fin 4} {i : Nat} {x : Int64} (q : Nat) (d : decode cc pc = .ok (.lload_n k9, 1)) (hi : (k9 : Nat) = i) (hq : lv[q]? = some (i, .long x)) (k : WS M E nL (pc + 1) lv (.long x :: st) σ) : WS M E nL pc lv (st) σ := by
  obtain ⟨⟨p, l, e, R, s, m, args, below, meth, c, Q⟩, ⟨D, ph, ids, A⟩⟩ := E
  exact fun H locs ls hP hS hl => lv_lload_n O.1 O.2.1 d hi (lv_at hl q hq) (k H locs ls hP hS hl)
theorem s_lload (O : OK M E own cc nL rm) {i : Nat} {x : Int64} (q : Nat) (d : decode cc pc = .ok (.lload i, 2)) (hq : lv[q]? = some (i, .long x)) (k : WS M E nL (pc + 2) lv (.long x :: st) σ) : WS M E nL pc lv (st) σ := by
  obtain ⟨⟨p, l, e, R, s, m, args, below, meth, c, Q⟩, ⟨D, ph, ids, A⟩⟩ := E
  exact fun H locs ls hP hS hl => lv_lload O.1 O.2.1 d (lv_at hl q hq) (k H locs ls hP hS hl)
theorem s_aload_n (O : OK M E own cc nL rm) {k9 : Fin 4} {i x : Nat} (q : Nat) (d : decode cc pc = .ok (.aload_n k9, 1)) (hi : (k9 : Nat) = i) (hq : lv[q]? = some (i, rf E x)) (k : WS M E nL (pc + 1) lv (rf E x :: st) σ) : WS M E nL pc lv (st) σ := by
  obtain ⟨⟨p, l, e, R, s, m, args, below, meth, c, Q⟩, ⟨D, ph, ids, A⟩⟩ := E
  exact fun H locs ls hP hS hl => lv_aload_n O.1 O.2.1 d hi (lv_at hl q hq) (k H locs ls hP hS hl)
theorem s_aload (O : OK M E own cc nL rm) {i x : Nat} (q : Nat) (d : decode cc pc = .ok (.aload i, 2)) (hq : lv[q]? = some (i, rf E x)) (k : WS M E nL (pc + 2) lv (rf E x :: st) σ) : WS M E nL pc lv (st) σ := by
  obtain ⟨⟨p, l, e, R, s, m, args, below, meth, c, Q⟩, ⟨D, ph, ids, A⟩⟩ := E
  exact fun H locs ls hP hS hl => lv_aload O.1 O.2.1 d (lv_at hl q hq) (k H locs ls hP hS hl)
theorem s_istore_n (O : OK M E own cc nL rm) {k9 : Fin 4} {i : Nat} {x : Int32} {lv' : List (Nat × Value)} (d : decode cc pc = .ok (.istore_n k9, 1)) (hi : (k9 : Nat) = i) (hn : i < nL) (hl' : (i, Value.int x) :: lv.filter (fun q => !(q.1 == i) && !(q.1 + 1 == i && q.2.category == 2)) = lv') (k : WS M E nL (pc + 1) lv' st σ) : WS M E nL pc lv (.int x :: st) σ := by
  obtain ⟨⟨p, l, e, R, s, m, args, below, meth, c, Q⟩, ⟨D, ph, ids, A⟩⟩ := E
  exact fun H locs ls hP hS hl => lv_istore_n O.1 O.2.1 d hi hl hn hl' (fun ls' hl2 => k H locs ls' hP hS hl2)
theorem s_istore (O : OK M E own cc nL rm) {i : Nat} {x : Int32} {lv' : List (Nat × Value)} (d : decode cc pc = .ok (.istore i, 2)) (hn : i < nL) (hl' : (i, Value.int x) :: lv.filter (fun q => !(q.1 == i) && !(q.1 + 1 == i && q.2.category == 2)) = lv') (k : WS M E nL (pc + 2) lv' st σ) : WS M E nL pc lv (.int x :: st) σ := by
  obtain ⟨⟨p, l, e, R, s, m, args, below, meth, c, Q⟩, ⟨D, ph, ids, A⟩⟩ := E
  exact fun H locs ls hP hS hl => lv_istore O.1 O.2.1 d hl hn hl' (fun ls' hl2 => k H locs ls' hP hS hl2)
theorem s_lstore_n (O : OK M E own cc nL rm) {k9 : Fin 4} {i : Nat} {x : Int64} {lv' : List (Nat × Value)} (d : decode cc pc = .ok (.lstore_n k9, 1)) (hi : (k9 : Nat) = i) (hn : i + 1 < nL) (hl' : (i, Value.long x) :: lv.filter (fun q => !(q.1 == i) && (!(q.1 == i + 1) && !(q.1 + 1 == i && q.2.category == 2))) = lv') (k : WS M E nL (pc + 1) lv' st σ) : WS M E nL pc lv (.long x :: st) σ := by
  obtain ⟨⟨p, l, e, R, s, m, args, below, meth, c, Q⟩, ⟨D, ph, ids, A⟩⟩ := E
  exact fun H locs ls hP hS hl => lv_lstore_n O.1 O.2.1 d hi hl hn hl' (fun ls' hl2 => k H locs ls' hP hS hl2)
theorem s_lstore (O : OK M E own cc nL rm) {i : Nat} {x : Int64} {lv' : List (Nat × Value)} (d : decode cc pc = .ok (.lstore i, 2)) (hn : i + 1 < nL) (hl' : (i, Value.long x) :: lv.filter (fun q => !(q.1 == i) && (!(q.1 == i + 1) && !(q.1 + 1 == i && q.2.category == 2))) = lv') (k : WS M E nL (pc + 2) lv' st σ) : WS M E nL pc lv (.long x :: st) σ := by
  obtain ⟨⟨p, l, e, R, s, m, args, below, meth, c, Q⟩, ⟨D, ph, ids, A⟩⟩ := E
  exact fun H locs ls hP hS hl => lv_lstore O.1 O.2.1 d hl hn hl' (fun ls' hl2 => k H locs ls' hP hS hl2)
theorem s_astore_n (O : OK M E own cc nL rm) {k9 : Fin 4} {i x : Nat} {lv' : List (Nat × Value)} (d : decode cc pc = .ok (.astore_n k9, 1)) (hi : (k9 : Nat) = i) (hn : i < nL) (hl' : (i, rf E x) :: lv.filter (fun q => !(q.1 == i) && !(q.1 + 1 == i && q.2.category == 2)) = lv') (k : WS M E nL (pc + 1) lv' st σ) : WS M E nL pc lv (rf E x :: st) σ := by
  obtain ⟨⟨p, l, e, R, s, m, args, below, meth, c, Q⟩, ⟨D, ph, ids, A⟩⟩ := E
  exact fun H locs ls hP hS hl => lv_astore_n O.1 O.2.1 d hi hl hn hl' (fun ls' hl2 => k H locs ls' hP hS hl2)
theorem s_astore (O : OK M E own cc nL rm) {i x : Nat} {lv' : List (Nat × Value)} (d : decode cc pc = .ok (.astore i, 2)) (hn : i < nL) (hl' : (i, rf E x) :: lv.filter (fun q => !(q.1 == i) && !(q.1 + 1 == i && q.2.category == 2)) = lv') (k : WS M E nL (pc + 2) lv' st σ) : WS M E nL pc lv (rf E x :: st) σ := by
  obtain ⟨⟨p, l, e, R, s, m, args, below, meth, c, Q⟩, ⟨D, ph, ids, A⟩⟩ := E
  exact fun H locs ls hP hS hl => lv_astore O.1 O.2.1 d hl hn hl' (fun ls' hl2 => k H locs ls' hP hS hl2)
theorem s_iinc (O : OK M E own cc nL rm) {i : Nat} {n : Int} {x v : Int32} {lv' : List (Nat × Value)} (q : Nat) (d : decode cc pc = .ok (.iinc i n, 3)) (hq : lv[q]? = some (i, .int x)) (hv : x + Int32.ofInt n = v) (hn : i < nL) (hl' : (i, Value.int v) :: lv.filter (fun q => !(q.1 == i) && !(q.1 + 1 == i && q.2.category == 2)) = lv') (k : WS M E nL (pc + 3) lv' st σ) : WS M E nL pc lv st σ := by
  obtain ⟨⟨p, l, e, R, s, m, args, below, meth, c, Q⟩, ⟨D, ph, ids, A⟩⟩ := E
  exact fun H locs ls hP hS hl => lv_iinc O.1 O.2.1 d hl hq hv hn hl' (fun ls' hl2 => k H locs ls' hP hS hl2)
theorem s_iadd (O : OK M E own cc nL rm) {x y : Int32} (d : decode cc pc = .ok (.iadd, 1)) (k : WS M E nL (pc + 1) lv (.int (x + y) :: st) σ) : WS M E nL pc lv (.int y :: .int x :: st) σ := by
  obtain ⟨⟨p, l, e, R, s, m, args, below, meth, c, Q⟩, ⟨D, ph, ids, A⟩⟩ := E
  exact fun H locs ls hP hS hl => lv_iadd O.1 O.2.1 d (k H locs ls hP hS hl)
theorem s_isub (O : OK M E own cc nL rm) {x y : Int32} (d : decode cc pc = .ok (.isub, 1)) (k : WS M E nL (pc + 1) lv (.int (x - y) :: st) σ) : WS M E nL pc lv (.int y :: .int x :: st) σ := by
  obtain ⟨⟨p, l, e, R, s, m, args, below, meth, c, Q⟩, ⟨D, ph, ids, A⟩⟩ := E
  exact fun H locs ls hP hS hl => lv_isub O.1 O.2.1 d (k H locs ls hP hS hl)
theorem s_imul (O : OK M E own cc nL rm) {x y : Int32} (d : decode cc pc = .ok (.imul, 1)) (k : WS M E nL (pc + 1) lv (.int (x * y) :: st) σ) : WS M E nL pc lv (.int y :: .int x :: st) σ := by
  obtain ⟨⟨p, l, e, R, s, m, args, below, meth, c, Q⟩, ⟨D, ph, ids, A⟩⟩ := E
  exact fun H locs ls hP hS hl => lv_imul O.1 O.2.1 d (k H locs ls hP hS hl)
theorem s_iand (O : OK M E own cc nL rm) {x y : Int32} (d : decode cc pc = .ok (.iand, 1)) (k : WS M E nL (pc + 1) lv (.int (x &&& y) :: st) σ) : WS M E nL pc lv (.int y :: .int x :: st) σ := by
  obtain ⟨⟨p, l, e, R, s, m, args, below, meth, c, Q⟩, ⟨D, ph, ids, A⟩⟩ := E
  exact fun H locs ls hP hS hl => lv_iand O.1 O.2.1 d (k H locs ls hP hS hl)
theorem s_ior (O : OK M E own cc nL rm) {x y : Int32} (d : decode cc pc = .ok (.ior, 1)) (k : WS M E nL (pc + 1) lv (.int (x ||| y) :: st) σ) : WS M E nL pc lv (.int y :: .int x :: st) σ := by
  obtain ⟨⟨p, l, e, R, s, m, args, below, meth, c, Q⟩, ⟨D, ph, ids, A⟩⟩ := E
  exact fun H locs ls hP hS hl => lv_ior O.1 O.2.1 d (k H locs ls hP hS hl)
theorem s_ixor (O : OK M E own cc nL rm) {x y : Int32} (d : decode cc pc = .ok (.ixor, 1)) (k : WS M E nL (pc + 1) lv (.int (x ^^^ y) :: st) σ) : WS M E nL pc lv (.int y :: .int x :: st) σ := by
  obtain ⟨⟨p, l, e, R, s, m, args, below, meth, c, Q⟩, ⟨D, ph, ids, A⟩⟩ := E
  exact fun H locs ls hP hS hl => lv_ixor O.1 O.2.1 d (k H locs ls hP hS hl)
theorem s_ishl (O : OK M E own cc nL rm) {x y : Int32} (d : decode cc pc = .ok (.ishl, 1)) (k : WS M E nL (pc + 1) lv (.int (x <<< (y &&& 31)) :: st) σ) : WS M E nL pc lv (.int y :: .int x :: st) σ := by
  obtain ⟨⟨p, l, e, R, s, m, args, below, meth, c, Q⟩, ⟨D, ph, ids, A⟩⟩ := E
  exact fun H locs ls hP hS hl => lv_ishl O.1 O.2.1 d (k H locs ls hP hS hl)
theorem s_ishr (O : OK M E own cc nL rm) {x y : Int32} (d : decode cc pc = .ok (.ishr, 1)) (k : WS M E nL (pc + 1) lv (.int (x >>> (y &&& 31)) :: st) σ) : WS M E nL pc lv (.int y :: .int x :: st) σ := by
  obtain ⟨⟨p, l, e, R, s, m, args, below, meth, c, Q⟩, ⟨D, ph, ids, A⟩⟩ := E
  exact fun H locs ls hP hS hl => lv_ishr O.1 O.2.1 d (k H locs ls hP hS hl)
theorem s_iushr (O : OK M E own cc nL rm) {x y v : Int32} (d : decode cc pc = .ok (.iushr, 1)) (hv : (x.toUInt32 >>> (y.toUInt32 &&& Int32.toUInt32 31)).toInt32 = v) (k : WS M E nL (pc + 1) lv (.int v :: st) σ) : WS M E nL pc lv (.int y :: .int x :: st) σ := by
  obtain ⟨⟨p, l, e, R, s, m, args, below, meth, c, Q⟩, ⟨D, ph, ids, A⟩⟩ := E
  exact fun H locs ls hP hS hl => lv_iushr O.1 O.2.1 d hv (k H locs ls hP hS hl)
theorem s_idiv (O : OK M E own cc nL rm) {x y : Int32} (d : decode cc pc = .ok (.idiv, 1)) (h : ¬ y = 0) (k : WS M E nL (pc + 1) lv (.int (x / y) :: st) σ) : WS M E nL pc lv (.int y :: .int x :: st) σ := by
  obtain ⟨⟨p, l, e, R, s, m, args, below, meth, c, Q⟩, ⟨D, ph, ids, A⟩⟩ := E
  exact fun H locs ls hP hS hl => lv_idiv O.1 O.2.1 d h (k H locs ls hP hS hl)
theorem s_irem (O : OK M E own cc nL rm) {x y : Int32} (d : decode cc pc = .ok (.irem, 1)) (h : ¬ y = 0) (k : WS M E nL (pc + 1) lv (.int (x - x / y * y) :: st) σ) : WS M E nL pc lv (.int y :: .int x :: st) σ := by
  obtain ⟨⟨p, l, e, R, s, m, args, below, meth, c, Q⟩, ⟨D, ph, ids, A⟩⟩ := E
  exact fun H locs ls hP hS hl => lv_irem O.1 O.2.1 d h (k H locs ls hP hS hl)
theorem s_ineg (O : OK M E own cc nL rm) {x : Int32} (d : decode cc pc = .ok (.ineg, 1)) (k : WS M E nL (pc + 1) lv (.int (-x) :: st) σ) : WS M E nL pc lv (.int x :: st) σ := by
  obtain ⟨⟨p, l, e, R, s, m, args, below, meth, c, Q⟩, ⟨D, ph, ids, A⟩⟩ := E
  exact fun H locs ls hP hS hl => lv_ineg O.1 O.2.1 d (k H locs ls hP hS hl)
theorem s_ladd (O : OK M E own cc nL rm) {x y : Int64} (d : decode cc pc = .ok (.ladd, 1)) (k : WS M E nL (pc + 1) lv (.long (x + y) :: st) σ) : WS M E nL pc lv (.long y :: .long x :: st) σ := by
  obtain ⟨⟨p, l, e, R, s, m, args, below, meth, c, Q⟩, ⟨D, ph, ids, A⟩⟩ := E
  exact fun H locs ls hP hS hl => lv_ladd O.1 O.2.1 d (k H locs ls hP hS hl)
theorem s_lsub (O : OK M E own cc nL rm) {x y : Int64} (d : decode cc pc = .ok (.lsub, 1)) (k : WS M E nL (pc + 1) lv (.long (x - y) :: st) σ) : WS M E nL pc lv (.long y :: .long x :: st) σ := by
  obtain ⟨⟨p, l, e, R, s, m, args, below, meth, c, Q⟩, ⟨D, ph, ids, A⟩⟩ := E
  exact fun H locs ls hP hS hl => lv_lsub O.1 O.2.1 d (k H locs ls hP hS hl)
theorem s_lmul (O : OK M E own cc nL rm) {x y : Int64} (d : decode cc pc = .ok (.lmul, 1)) (k : WS M E nL (pc + 1) lv (.long (x * y) :: st) σ) : WS M E nL pc lv (.long y :: .long x :: st) σ := by
  obtain ⟨⟨p, l, e, R, s, m, args, below, meth, c, Q⟩, ⟨D, ph, ids, A⟩⟩ := E
  exact fun H locs ls hP hS hl => lv_lmul O.1 O.2.1 d (k H locs ls hP hS hl)
theorem s_ldiv (O : OK M E own cc nL rm) {x y : Int64} (d : decode cc pc = .ok (.ldiv, 1)) (h : ¬ y = 0) (k : WS M E nL (pc + 1) lv (.long (x / y) :: st) σ) : WS M E nL pc lv (.long y :: .long x :: st) σ := by
  obtain ⟨⟨p, l, e, R, s, m, args, below, meth, c, Q⟩, ⟨D, ph, ids, A⟩⟩ := E
  exact fun H locs ls hP hS hl => lv_ldiv O.1 O.2.1 d h (k H locs ls hP hS hl)
theorem s_lrem (O : OK M E own cc nL rm) {x y : Int64} (d : decode cc pc = .ok (.lrem, 1)) (h : ¬ y = 0) (k : WS M E nL (pc + 1) lv (.long (x - x / y * y) :: st) σ) : WS M E nL pc lv (.long y :: .long x :: st) σ := by
  obtain ⟨⟨p, l, e, R, s, m, args, below, meth, c, Q⟩, ⟨D, ph, ids, A⟩⟩ := E
  exact fun H locs ls hP hS hl => lv_lrem O.1 O.2.1 d h (k H locs ls hP hS hl)
theorem s_lcmp (O : OK M E own cc nL rm) {x y : Int64} (d : decode cc pc = .ok (.lcmp, 1)) (k : WS M E nL (pc + 1) lv (.int (lg_cmp x y) :: st) σ) : WS M E nL pc lv (.long y :: .long x :: st) σ := by
  obtain ⟨⟨p, l, e, R, s, m, args, below, meth, c, Q⟩, ⟨D, ph, ids, A⟩⟩ := E
  exact fun H locs ls hP hS hl => W.lcmp O.1 O.2.1 d (k H locs ls hP hS hl)
theorem s_i2l (O : OK M E own cc nL rm) {x : Int32} (d : decode cc pc = .ok (.i2l, 1)) (k : WS M E nL (pc + 1) lv (.long x.toInt64 :: st) σ) : WS M E nL pc lv (.int x :: st) σ := by
  obtain ⟨⟨p, l, e, R, s, m, args, below, meth, c, Q⟩, ⟨D, ph, ids, A⟩⟩ := E
  exact fun H locs ls hP hS hl => lv_i2l O.1 O.2.1 d rfl (k H locs ls hP hS hl)
theorem s_i2b (O : OK M E own cc nL rm) {x : Int32} (d : decode cc pc = .ok (.i2b, 1)) (k : WS M E nL (pc + 1) lv (.int x.toInt8.toInt32 :: st) σ) : WS M E nL pc lv (.int x :: st) σ := by
  obtain ⟨⟨p, l, e, R, s, m, args, below, meth, c, Q⟩, ⟨D, ph, ids, A⟩⟩ := E
  exact fun H locs ls hP hS hl => lv_i2b O.1 O.2.1 d rfl (k H locs ls hP hS hl)
theorem s_i2s (O : OK M E own cc nL rm) {x : Int32} (d : decode cc pc = .ok (.i2s, 1)) (k : WS M E nL (pc + 1) lv (.int x.toInt16.toInt32 :: st) σ) : WS M E nL pc lv (.int x :: st) σ := by
  obtain ⟨⟨p, l, e, R, s, m, args, below, meth, c, Q⟩, ⟨D, ph, ids, A⟩⟩ := E
  exact fun H locs ls hP hS hl => lv_i2s O.1 O.2.1 d rfl (k H locs ls hP hS hl)
theorem s_dup (O : OK M E own cc nL rm) {va : Value} (d : decode cc pc = .ok (.dup, 1)) (h : va.category = 1) (k : WS M E nL (pc + 1) lv (va :: va :: st) σ) : WS M E nL pc lv (va :: st) σ := by
  obtain ⟨⟨p, l, e, R, s, m, args, below, meth, c, Q⟩, ⟨D, ph, ids, A⟩⟩ := E
  exact fun H locs ls hP hS hl => lv_dup O.1 O.2.1 d h (k H locs ls hP hS hl)
theorem s_dup2 (O : OK M E own cc nL rm) {va vb : Value} (d : decode cc pc = .ok (.dup2, 1)) (h : va.category = 1) (h2 : vb.category = 1) (k : WS M E nL (pc + 1) lv (va :: vb :: va :: vb :: st) σ) : WS M E nL pc lv (va :: vb :: st) σ := by
  obtain ⟨⟨p, l, e, R, s, m, args, below, meth, c, Q⟩, ⟨D, ph, ids, A⟩⟩ := E
  exact fun H locs ls hP hS hl => lv_dup2_11 O.1 O.2.1 d h h2 (k H locs ls hP hS hl)
theorem s_pop (O : OK M E own cc nL rm) {va : Value} (d : decode cc pc = .ok (.pop, 1)) (h : va.category = 1) (k : WS M E nL (pc + 1) lv (st) σ) : WS M E nL pc lv (va :: st) σ := by
  obtain ⟨⟨p, l, e, R, s, m, args, below, meth, c, Q⟩, ⟨D, ph, ids, A⟩⟩ := E
  exact fun H locs ls hP hS hl => lv_pop O.1 O.2.1 d h (k H locs ls hP hS hl)
theorem s_goto (O : OK M E own cc nL rm) {off : Int} {tgt : Nat} (d : decode cc pc = .ok (.goto off, 3)) (ht : (pc : Int) + off = (tgt : Int)) (k : WS M E nL tgt lv (st) σ) : WS M E nL pc lv (st) σ := by
  obtain ⟨⟨p, l, e, R, s, m, args, below, meth, c, Q⟩, ⟨D, ph, ids, A⟩⟩ := E
  exact fun H locs ls hP hS hl => lv_goto O.1 O.2.1 d ht (k H locs ls hP hS hl)
theorem s_if_eq (O : OK M E own cc nL rm) {x : Int32} {off : Int} {tgt : Nat} (d : decode cc pc = .ok (.ifCond .eq off, 3)) (ht : (pc : Int) + off = (tgt : Int)) (kt : x = 0 → WS M E nL tgt lv st σ) (kf : ¬ x = 0 → WS M E nL (pc + 3) lv st σ) : WS M E nL pc lv (.int x :: st) σ := by
  obtain ⟨⟨p, l, e, R, s, m, args, below, meth, c, Q⟩, ⟨D, ph, ids, A⟩⟩ := E
  exact fun H locs ls hP hS hl => lv_if_eq O.1 O.2.1 d ht (fun h => kt h H locs ls hP hS hl) (fun h => kf h H locs ls hP hS hl)
theorem s_if_ne (O : OK M E own cc nL rm) {x : Int32} {off : Int} {tgt : Nat} (d : decode cc pc = .ok (.ifCond .ne off, 3)) (ht : (pc : Int) + off = (tgt : Int)) (kt : ¬ x = 0 → WS M E nL tgt lv st σ) (kf : x = 0 → WS M E nL (pc + 3) lv st σ) : WS M E nL pc lv (.int x :: st) σ := by
  obtain ⟨⟨p, l, e, R, s, m, args, below, meth, c, Q⟩, ⟨D, ph, ids, A⟩⟩ := E
  exact fun H locs ls hP hS hl => lv_if_ne O.1 O.2.1 d ht (fun h => kt h H locs ls hP hS hl) (fun h => kf h H locs ls hP hS hl)
theorem s_if_lt (O : OK M E own cc nL rm) {x : Int32} {off : Int} {tgt : Nat} (d : decode cc pc = .ok (.ifCond .lt off, 3)) (ht : (pc : Int) + off = (tgt : Int)) (kt : x < 0 → WS M E nL tgt lv st σ) (kf : ¬ x < 0 → WS M E nL (pc + 3) lv st σ) : WS M E nL pc lv (.int x :: st) σ := by
  obtain ⟨⟨p, l, e, R, s, m, args, below, meth, c, Q⟩, ⟨D, ph, ids, A⟩⟩ := E
  exact fun H locs ls hP hS hl => lv_if_lt O.1 O.2.1 d ht (fun h => kt h H locs ls hP hS hl) (fun h => kf h H locs ls hP hS hl)
theorem s_if_ge (O : OK M E own cc nL rm) {x : Int32} {off : Int} {tgt : Nat} (d : decode cc pc = .ok (.ifCond .ge off, 3)) (ht : (pc : Int) + off = (tgt : Int)) (kt : 0 ≤ x → WS M E nL tgt lv st σ) (kf : ¬ 0 ≤ x → WS M E nL (pc + 3) lv st σ) : WS M E nL pc lv (.int x :: st) σ := by
  obtain ⟨⟨p, l, e, R, s, m, args, below, meth, c, Q⟩, ⟨D, ph, ids, A⟩⟩ := E
  exact fun H locs ls hP hS hl => lv_if_ge O.1 O.2.1 d ht (fun h => kt h H locs ls hP hS hl) (fun h => kf h H locs ls hP hS hl)
theorem s_if_gt (O : OK M E own cc nL rm) {x : Int32} {off : Int} {tgt : Nat} (d : decode cc pc = .ok (.ifCond .gt off, 3)) (ht : (pc : Int) + off = (tgt : Int)) (kt : 0 < x → WS M E nL tgt lv st σ) (kf : ¬ 0 < x → WS M E nL (pc + 3) lv st σ) : WS M E nL pc lv (.int x :: st) σ := by
  obtain ⟨⟨p, l, e, R, s, m, args, below, meth, c, Q⟩, ⟨D, ph, ids, A⟩⟩ := E
  exact fun H locs ls hP hS hl => lv_if_gt O.1 O.2.1 d ht (fun h => kt h H locs ls hP hS hl) (fun h => kf h H locs ls hP hS hl)
theorem s_if_le (O : OK M E own cc nL rm) {x : Int32} {off : Int} {tgt : Nat} (d : decode cc pc = .ok (.ifCond .le off, 3)) (ht : (pc : Int) + off = (tgt : Int)) (kt : x ≤ 0 → WS M E nL tgt lv st σ) (kf : ¬ x ≤ 0 → WS M E nL (pc + 3) lv st σ) : WS M E nL pc lv (.int x :: st) σ := by
  obtain ⟨⟨p, l, e, R, s, m, args, below, meth, c, Q⟩, ⟨D, ph, ids, A⟩⟩ := E
  exact fun H locs ls hP hS hl => lv_if_le O.1 O.2.1 d ht (fun h => kt h H locs ls hP hS hl) (fun h => kf h H locs ls hP hS hl)
theorem s_icmp_eq (O : OK M E own cc nL rm) {x y : Int32} {off : Int} {tgt : Nat} (d : decode cc pc = .ok (.if_icmp .eq off, 3)) (ht : (pc : Int) + off = (tgt : Int)) (kt : x = y → WS M E nL tgt lv st σ) (kf : ¬ x = y → WS M E nL (pc + 3) lv st σ) : WS M E nL pc lv (.int y :: .int x :: st) σ := by
  obtain ⟨⟨p, l, e, R, s, m, args, below, meth, c, Q⟩, ⟨D, ph, ids, A⟩⟩ := E
  exact fun H locs ls hP hS hl => lv_icmp_eq O.1 O.2.1 d ht (fun h => kt h H locs ls hP hS hl) (fun h => kf h H locs ls hP hS hl)
theorem s_icmp_ne (O : OK M E own cc nL rm) {x y : Int32} {off : Int} {tgt : Nat} (d : decode cc pc = .ok (.if_icmp .ne off, 3)) (ht : (pc : Int) + off = (tgt : Int)) (kt : ¬ x = y → WS M E nL tgt lv st σ) (kf : x = y → WS M E nL (pc + 3) lv st σ) : WS M E nL pc lv (.int y :: .int x :: st) σ := by
  obtain ⟨⟨p, l, e, R, s, m, args, below, meth, c, Q⟩, ⟨D, ph, ids, A⟩⟩ := E
  exact fun H locs ls hP hS hl => lv_icmp_ne O.1 O.2.1 d ht (fun h => kt h H locs ls hP hS hl) (fun h => kf h H locs ls hP hS hl)
theorem s_icmp_lt (O : OK M E own cc nL rm) {x y : Int32} {off : Int} {tgt : Nat} (d : decode cc pc = .ok (.if_icmp .lt off, 3)) (ht : (pc : Int) + off = (tgt : Int)) (kt : x < y → WS M E nL tgt lv st σ) (kf : ¬ x < y → WS M E nL (pc + 3) lv st σ) : WS M E nL pc lv (.int y :: .int x :: st) σ := by
  obtain ⟨⟨p, l, e, R, s, m, args, below, meth, c, Q⟩, ⟨D, ph, ids, A⟩⟩ := E
  exact fun H locs ls hP hS hl => lv_icmp_lt O.1 O.2.1 d ht (fun h => kt h H locs ls hP hS hl) (fun h => kf h H locs ls hP hS hl)
theorem s_icmp_ge (O : OK M E own cc nL rm) {x y : Int32} {off : Int} {tgt : Nat} (d : decode cc pc = .ok (.if_icmp .ge off, 3)) (ht : (pc : Int) + off = (tgt : Int)) (kt : y ≤ x → WS M E nL tgt lv st σ) (kf : ¬ y ≤ x → WS M E nL (pc + 3) lv st σ) : WS M E nL pc lv (.int y :: .int x :: st) σ := by
  obtain ⟨⟨p, l, e, R, s, m, args, below, meth, c, Q⟩, ⟨D, ph, ids, A⟩⟩ := E
  exact fun H locs ls hP hS hl => lv_icmp_ge O.1 O.2.1 d ht (fun h => kt h H locs ls hP hS hl) (fun h => kf h H locs ls hP hS hl)
theorem s_icmp_gt (O : OK M E own cc nL rm) {x y : Int32} {off : Int} {tgt : Nat} (d : decode cc pc = .ok (.if_icmp .gt off, 3)) (ht : (pc : Int) + off = (tgt : Int)) (kt : y < x → WS M E nL tgt lv st σ) (kf : ¬ y < x → WS M E nL (pc + 3) lv st σ) : WS M E nL pc lv (.int y :: .int x :: st) σ := by
  obtain ⟨⟨p, l, e, R, s, m, args, below, meth, c, Q⟩, ⟨D, ph, ids, A⟩⟩ := E
  exact fun H locs ls hP hS hl => lv_icmp_gt O.1 O.2.1 d ht (fun h => kt h H locs ls hP hS hl) (fun h => kf h H locs ls hP hS hl)
theorem s_icmp_le (O : OK M E own cc nL rm) {x y : Int32} {off : Int} {tgt : Nat} (d : decode cc pc = .ok (.if_icmp .le off, 3)) (ht : (pc : Int) + off = (tgt : Int)) (kt : x ≤ y → WS M E nL tgt lv st σ) (kf : ¬ x ≤ y → WS M E nL (pc + 3) lv st σ) : WS M E nL pc lv (.int y :: .int x :: st) σ := by
  obtain ⟨⟨p, l, e, R, s, m, args, below, meth, c, Q⟩, ⟨D, ph, ids, A⟩⟩ := E
  exact fun H locs ls hP hS hl => lv_icmp_le O.1 O.2.1 d ht (fun h => kt h H locs ls hP hS hl) (fun h => kf h H locs ls hP hS hl)
theorem s_tabO (O : OK M E own cc nL rm) {dflt lo hi : Int} {offs : Array Int} {len : Nat} {x : Int32} {tgt : Nat} (d : decode cc pc = .ok (.tableswitch dflt lo hi offs, len)) (h : x.toInt < lo ∨ hi < x.toInt) (ht : (pc : Int) + dflt = (tgt : Int)) (k : WS M E nL tgt lv st σ) : WS M E nL pc lv (.int x :: st) σ := by
  obtain ⟨⟨p, l, e, R, s, m, args, below, meth, c, Q⟩, ⟨D, ph, ids, A⟩⟩ := E
  exact fun H locs ls hP hS hl => lv_tableOut O.1 O.2.1 d h ht (k H locs ls hP hS hl)
theorem s_tabI (O : OK M E own cc nL rm) {dflt lo hi : Int} {offs : Array Int} {len : Nat} {x : Int32} {off : Int} {tgt : Nat} (d : decode cc pc = .ok (.tableswitch dflt lo hi offs, len)) (h1 : ¬ x.toInt < lo) (h2 : ¬ hi < x.toInt) (ho : offs[(x.toInt - lo).toNat]? = some off) (ht : (pc : Int) + off = (tgt : Int)) (k : WS M E nL tgt lv st σ) : WS M E nL pc lv (.int x :: st) σ := by
  obtain ⟨⟨p, l, e, R, s, m, args, below, meth, c, Q⟩, ⟨D, ph, ids, A⟩⟩ := E
  exact fun H locs ls hP hS hl => lv_tableIn O.1 O.2.1 d h1 h2 ho ht (k H locs ls hP hS hl)
theorem s_look (O : OK M E own cc nL rm) {dflt : Int} {ps : Array (Int × Int)} {len : Nat} {x : Int32} {off : Int} {tgt : Nat} (d : decode cc pc = .ok (.lookupswitch dflt ps, len)) (hp : (ps.toList.zip (ps.toList.drop 1)).all (fun (a, next) => a.1 < next.1) = true) (ho : Op.lookupswitch.offset ps.toList dflt x.toInt = off) (ht : (pc : Int) + off = (tgt : Int)) (k : WS M E nL tgt lv st σ) : WS M E nL pc lv (.int x :: st) σ := by
  obtain ⟨⟨p, l, e, R, s, m, args, below, meth, c, Q⟩, ⟨D, ph, ids, A⟩⟩ := E
  exact fun H locs ls hP hS hl => lv_lookup O.1 O.2.1 d hp ho ht (k H locs ls hP hS hl)
theorem s_loc {lv' : List (Nat × Value)} (ks : List Nat) (h : lv_pick lv ks = lv') (k : WS M E nL pc lv' st σ) : WS M E nL pc lv st σ := by
  obtain ⟨⟨p, l, e, R, s, m, args, below, meth, c, Q⟩, ⟨D, ph, ids, A⟩⟩ := E
  exact fun H locs ls hP hS hl => k H locs ls hP hS (lv_sub hl ks h)
theorem s_topi {x : Int32} (k : ∀ y : Int32, y = x → WS M E nL pc lv (.int y :: st) σ) : WS M E nL pc lv (.int x :: st) σ := k x rfl
theorem s_topl {x : Int64} (k : ∀ y : Int64, y = x → WS M E nL pc lv (.long y :: st) σ) : WS M E nL pc lv (.long x :: st) σ := k x rfl
theorem s_iret {rt : FieldType} {σ' : StA} {r x : Int32} (hr : ReI M E rt cc σ' r) (hn : narrow rt (.int x) = .int x) (d : decode cc pc = .ok (.ireturn, 1)) (h : some (σ, x) = some (σ', r)) : WS M E nL pc lv [.int x] σ := by
  cases h
  obtain ⟨⟨p, l, e, R, s, m, args, below, meth, c, Q⟩, ⟨D, ph, ids, A⟩⟩ := E
  exact fun H locs ls hP hS hl => hr hn H locs ls pc d hP hS
theorem s_lret {σ' : StA} {r x : Int64} (hr : ReL M E cc σ' r) (d : decode cc pc = .ok (.lreturn, 1)) (h : some (σ, x) = some (σ', r)) : WS M E nL pc lv [.long x] σ := by
  cases h
  obtain ⟨⟨p, l, e, R, s, m, args, below, meth, c, Q⟩, ⟨D, ph, ids, A⟩⟩ := E
  exact fun H locs ls hP hS hl => hr H locs ls pc d hP hS
theorem s_vret {σ' : StA} (hr : ReV M E cc σ') (d : decode cc pc = .ok (.return_, 1)) {u : Unit} (h : some (σ, ()) = some (σ', u)) : WS M E nL pc lv [] σ := by
  cases h
  obtain ⟨⟨p, l, e, R, s, m, args, below, meth, c, Q⟩, ⟨D, ph, ids, A⟩⟩ := E
  exact fun H locs ls hP hS hl => hr H locs ls pc d hP hS
theorem s_aret {σ' : StA} {r x : Nat} (hr : ReR M E cc σ' r) (d : decode cc pc = .ok (.areturn, 1)) (h : some (σ, x) = some (σ', r)) : WS M E nL pc lv [rf E x] σ := by
  cases h
  obtain ⟨⟨p, l, e, R, s, m, args, below, meth, c, Q⟩, ⟨D, ph, ids, A⟩⟩ := E
  exact fun H locs ls hP hS hl => hr H locs ls pc d hP hS
end SR
