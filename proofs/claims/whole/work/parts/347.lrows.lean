/-! The law's own rows: the script, the end. -/
def LE (E : XC) (b L : Nat) (xs : Nat → Int32) : Prop :=
  match E with
  | ((p, l, e, R, s, m, args, below, meth, c, Q), (D, ph, ids, A)) => va_X b L xs s s.heap ∧ b < s.heap.size ∧ (∀ q, A q → s.heap.size ≤ q) ∧ args = #[Value.ref b] ∧ Q = lw_Z below #[Value.ref b] s ∧ meth.sig.returnType = ret ∧ meth.locks = false
section LR
variable {E : XC} {own nm : String} {cc : ByteArray} {nL pc cl sl : Nat} {rm : Room} {lv : List (Nat × Value)} {st : List Value} {ws : va_W}
theorem n_iadd (O : ON E own cc nL rm nm) {x y : Int32} (d : decode cc pc = .ok (.iadd, 1)) (k : WN E nL (pc + 1) cl sl lv (.int (x + y) :: st) ws) : WN E nL pc cl sl lv (.int y :: .int x :: st) ws := by
  obtain ⟨⟨p, l, e, R, s, m, args, below, meth, c, Q⟩, ⟨D, ph, ids, A⟩⟩ := E
  exact fun H locs ls hP hD hS hl => lv_iadd O.1 O.2.1 d (k H locs ls hP hD hS hl)
theorem n_isub (O : ON E own cc nL rm nm) {x y : Int32} (d : decode cc pc = .ok (.isub, 1)) (k : WN E nL (pc + 1) cl sl lv (.int (x - y) :: st) ws) : WN E nL pc cl sl lv (.int y :: .int x :: st) ws := by
  obtain ⟨⟨p, l, e, R, s, m, args, below, meth, c, Q⟩, ⟨D, ph, ids, A⟩⟩ := E
  exact fun H locs ls hP hD hS hl => lv_isub O.1 O.2.1 d (k H locs ls hP hD hS hl)
theorem n_iand (O : ON E own cc nL rm nm) {x y : Int32} (d : decode cc pc = .ok (.iand, 1)) (k : WN E nL (pc + 1) cl sl lv (.int (x &&& y) :: st) ws) : WN E nL pc cl sl lv (.int y :: .int x :: st) ws := by
  obtain ⟨⟨p, l, e, R, s, m, args, below, meth, c, Q⟩, ⟨D, ph, ids, A⟩⟩ := E
  exact fun H locs ls hP hD hS hl => lv_iand O.1 O.2.1 d (k H locs ls hP hD hS hl)
theorem n_eqT (O : ON E own cc nL rm nm) {x : Int32} {off : Int} {tgt : Nat} (d : decode cc pc = .ok (.if_icmp .eq off, 3)) (ht : (pc : Int) + off = (tgt : Int)) (k : WN E nL tgt cl sl lv st ws) : WN E nL pc cl sl lv (.int x :: .int x :: st) ws := by
  obtain ⟨⟨p, l, e, R, s, m, args, below, meth, c, Q⟩, ⟨D, ph, ids, A⟩⟩ := E
  exact fun H locs ls hP hD hS hl => lv_icmp_eq O.1 O.2.1 d ht (fun _ => k H locs ls hP hD hS hl) (fun z => absurd rfl z)
theorem n_gt (O : ON E own cc nL rm nm) {x y : Int32} {off : Int} {tgt : Nat} (d : decode cc pc = .ok (.if_icmp .gt off, 3)) (ht : (pc : Int) + off = (tgt : Int)) (kt : y < x → WN E nL tgt cl sl lv st ws) (kf : ¬ y < x → WN E nL (pc + 3) cl sl lv st ws) : WN E nL pc cl sl lv (.int y :: .int x :: st) ws := by
  obtain ⟨⟨p, l, e, R, s, m, args, below, meth, c, Q⟩, ⟨D, ph, ids, A⟩⟩ := E
  exact fun H locs ls hP hD hS hl => lv_icmp_gt O.1 O.2.1 d ht (fun h => kt h H locs ls hP hD hS hl) (fun h => kf h H locs ls hP hD hS hl)
theorem lg_cmp0 (x : Int64) : lg_cmp x x = 0 := by
  unfold lg_cmp
  simp
theorem n_lcmp0 (O : ON E own cc nL rm nm) {x : Int64} (d : decode cc pc = .ok (.lcmp, 1)) (k : WN E nL (pc + 1) cl sl lv (.int 0 :: st) ws) : WN E nL pc cl sl lv (.long x :: .long x :: st) ws := by
  obtain ⟨⟨p, l, e, R, s, m, args, below, meth, c, Q⟩, ⟨D, ph, ids, A⟩⟩ := E
  refine fun H locs ls hP hD hS hl => W.lcmp O.1 O.2.1 d ?_
  rw [lg_cmp0]
  exact k H locs ls hP hD hS hl
theorem n_ifeq0 (O : ON E own cc nL rm nm) {off : Int} {tgt : Nat} (d : decode cc pc = .ok (.ifCond .eq off, 3)) (ht : (pc : Int) + off = (tgt : Int)) (k : WN E nL tgt cl sl lv st ws) : WN E nL pc cl sl lv (.int 0 :: st) ws := by
  obtain ⟨⟨p, l, e, R, s, m, args, below, meth, c, Q⟩, ⟨D, ph, ids, A⟩⟩ := E
  exact fun H locs ls hP hD hS hl => lv_if_eq O.1 O.2.1 d ht (fun _ => k H locs ls hP hD hS hl) (fun z => absurd rfl z)
theorem n_tabO (O : ON E own cc nL rm nm) {dflt lo hi : Int} {offs : Array Int} {len : Nat} {x : Int32} {tgt : Nat} (d : decode cc pc = .ok (.tableswitch dflt lo hi offs, len)) (h : x.toInt < lo ∨ hi < x.toInt) (ht : (pc : Int) + dflt = (tgt : Int)) (k : WN E nL tgt cl sl lv st ws) : WN E nL pc cl sl lv (.int x :: st) ws := by
  obtain ⟨⟨p, l, e, R, s, m, args, below, meth, c, Q⟩, ⟨D, ph, ids, A⟩⟩ := E
  exact fun H locs ls hP hD hS hl => lv_tableOut O.1 O.2.1 d h ht (k H locs ls hP hD hS hl)
theorem n_tabI (O : ON E own cc nL rm nm) {dflt lo hi : Int} {offs : Array Int} {len : Nat} {x : Int32} {off : Int} {tgt : Nat} (d : decode cc pc = .ok (.tableswitch dflt lo hi offs, len)) (h1 : ¬ x.toInt < lo) (h2 : ¬ hi < x.toInt) (ho : offs[(x.toInt - lo).toNat]? = some off) (ht : (pc : Int) + off = (tgt : Int)) (k : WN E nL tgt cl sl lv st ws) : WN E nL pc cl sl lv (.int x :: st) ws := by
  obtain ⟨⟨p, l, e, R, s, m, args, below, meth, c, Q⟩, ⟨D, ph, ids, A⟩⟩ := E
  exact fun H locs ls hP hD hS hl => lv_tableIn O.1 O.2.1 d h1 h2 ho ht (k H locs ls hP hD hS hl)
theorem n_slen (O : ON E own cc nL rm nm) {b L : Nat} {xs : Nat → Int32} (X : LE E b L xs) (d : decode cc pc = .ok (.arraylength, 1)) (k : WN E nL (pc + 1) cl sl lv (.int (Int32.ofNat L) :: st) ws) : WN E nL pc cl sl lv (.ref b :: st) ws := by
  obtain ⟨⟨p, l, e, R, s, m, args, below, meth, c, Q⟩, ⟨D, ph, ids, A⟩⟩ := E
  have hbA : ¬ A b := fun h => Nat.lt_irrefl _ (Nat.lt_of_lt_of_le X.2.1 (X.2.2.1 b h))
  exact fun H locs ls hP hD hS hl => va_slen O.1 O.2.1 X.1 X.2.1 hbA hS d (k H locs ls hP hD hS hl)
theorem n_sld (O : ON E own cc nL rm nm) {b L : Nat} {xs : Nat → Int32} {i : Int32} (X : LE E b L xs) (hin : vp_in i L) (d : decode cc pc = .ok (.iaload, 1)) (k : WN E nL (pc + 1) cl sl lv (.int (xs i.toNatClampNeg) :: st) ws) : WN E nL pc cl sl lv (.int i :: .ref b :: st) ws := by
  obtain ⟨⟨p, l, e, R, s, m, args, below, meth, c, Q⟩, ⟨D, ph, ids, A⟩⟩ := E
  have hbA : ¬ A b := fun h => Nat.lt_irrefl _ (Nat.lt_of_lt_of_le X.2.1 (X.2.2.1 b h))
  exact fun H locs ls hP hD hS hl => va_sld O.1 O.2.1 X.1 X.2.1 hbA hS hin d (k H locs ls hP hD hS hl)
theorem n_arg (O : ON E own cc nL rm nm) {b L I jn : Nat} {xs : Nat → Int32} {j : Int} (X : LE E b L xs) (q0 q3 : Nat) (d1 : decode cc pc = .ok (.aload_n 0, 1)) (d2 : decode cc (pc + 1) = .ok (.iload_n 3, 1)) (d3 : decode cc (pc + 2) = .ok (.iconst j, 1)) (d4 : decode cc (pc + 3) = .ok (.iadd, 1)) (d5 : decode cc (pc + 4) = .ok (.iaload, 1)) (h0 : lv[q0]? = some (0, .ref b)) (h3 : lv[q3]? = some (3, .int (nI I))) (hj : Int32.ofInt j = nI jn) (hI : I + jn < L) (hL : L ≤ 320) (k : WN E nL (pc + 5) cl sl lv (.int (xs (I + jn)) :: st) ws) : WN E nL pc cl sl lv st ws := by
  refine n_aload_n O q0 d1 rfl h0 ?_
  refine n_iload_n O q3 d2 rfl h3 ?_
  refine n_iconst O d3 hj ?_
  refine n_iadd O d4 ?_
  rw [nI_add]
  refine n_sld O X (vp_in_iff.mpr (by rw [ti_nI (by omega)]; omega)) d5 ?_
  rw [tn_nI (by omega)]
  exact k
end LR
theorem n_ret1 {E : XC} {nL pc cl sl b L : Nat} {nm : String} {lv : List (Nat × Value)} {ws : va_W} {xs : Nat → Int32} (O : ON E R_law code nL room_1 nm) (X : LE E b L xs) (hc : cl ≤ room_1.cells ∧ sl ≤ room_1.slots) (d : decode code pc = .ok (.ireturn, 1)) : WN E nL pc cl sl lv [.int 1] ws := by
  obtain ⟨⟨p, l, e, R, s, m, args, below, meth, c, Q⟩, ⟨D, ph, ids, A⟩⟩ := E
  have hRR : R = room_1 := O.2.2.2.2.2.2.2.2.1
  subst hRR
  obtain ⟨x1, x2, x3, x4, x5, x6, x7⟩ := X
  subst x4
  subst x5
  intro H locs ls hP hD hS hl
  refine va_forget (fun q hq => x3 _ (hS.2.2 q hq)) ?_
  refine W.widen (k := 600000) (n := 7302250) hc.1 hc.2 ?_
  exact lw_ret O.1 O.2.1 x6 x7 d
