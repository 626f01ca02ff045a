/-! The constructors. -/
def phL (L : List Nat) (ph : Nat → Nat) (k : Nat) : Nat := (L[k]?).getD (ph k)
theorem phL_ge {L : List Nat} {ph : Nat → Nat} (h : L.length ≤ 100) : ∀ k, 100 ≤ k → phL L ph k = ph k := fun k hk => by
  unfold phL
  rw [List.getElem?_eq_none (by omega)]
  rfl
def fM : MW := (1, fun _ => .inr (.inl (0, 5)))
def c0L : List (Nat → Int32) := [fun _ => 0, fun j => if j = 10 then 1 else 0, fun _ => 0, fun _ => 0, fun _ => 0, fun _ => 4, fun _ => 0, fun _ => 0, fun _ => 0, fun _ => 0, fun _ => 0, fun _ => 0, fun j => if j = 10 then 1 else 0, fun _ => 0, fun _ => 0, fun _ => 0, fun _ => 4, fun _ => 0, fun _ => 0, fun _ => 0, fun _ => 0, fun _ => 0, fun _ => 0, fun j => if j = 10 then 1 else 0, fun _ => 0, fun _ => 0, fun _ => 0, fun _ => 4, fun _ => 0, fun _ => 0, fun _ => 0, fun _ => 0, fun _ => 0, fun _ => 0, fun j => if j = 10 then 1 else 0, fun _ => 0, fun _ => 0, fun _ => 0, fun _ => 4, fun _ => 0, fun _ => 0, fun _ => 0, fun _ => 0, fun _ => 0, fun _ => 0, fun _ => 0, fun _ => 0, fun _ => 0, fun _ => 0, fun _ => 0, fun _ => 0, fun j => if j = 1 then -1 else 0, fun _ => 0, fun j => if j = 1 then -1 else 0, fun _ => 0, fun j => if j = 1 then -1 else 0, fun _ => 0, fun j => if j = 1 then -1 else 0, fun _ => 0, fun _ => 0, fun _ => 0, fun _ => 0, fun _ => 0, fun _ => 0, fun _ => 0, fun _ => 0, fun _ => 0, fun _ => 0, fun _ => 0, fun _ => 0, fun _ => 0]
def c0 : StA := (fun k j => (c0L.getD k (fun _ => 0)) j, fun _ _ => 0)
def m00L : List (Nat → Int32) := [fun _ => 0, fun _ => 0, fun _ => 0, fun _ => 0, fun _ => 0, fun _ => 0, fun _ => 0, fun _ => 0, fun _ => -4]
def m00 : StA := (fun k j => (m00L.getD k (fun _ => 0)) j, fun _ _ => 0)
theorem ac_int : Cond.arrayClass .int ∈ TBg := tb_in (List.mem_of_getElem? (i := 115) (by decide +kernel)) (by decide +kernel)
theorem ac_bool : Cond.arrayClass .boolean ∈ TBg := tb_in (List.mem_of_getElem? (i := 219) (by decide +kernel)) (by decide +kernel)
abbrev dfX0 : List Value := [.int 0, .int 0, .int 0]
theorem dfX0_ok : ∀ j, j < 3 → defaultValue (tyX0 j) = vp_V dfX0 j := fun j hj => match j, hj with | 0, _ => rfl | 1, _ => rfl | 2, _ => rfl | (i + 3), h => absurd h (by omega)
theorem ii_X0 : Cond.initialized RX0 ∈ TBg := tb_in (List.mem_of_getElem? (i := 68) (by decide +kernel)) (by decide +kernel)
theorem is_X0 : Cond.instantiable RX0 3 ∈ TBg := tb_in (List.mem_of_getElem? (i := 223) (by decide +kernel)) (by decide +kernel)
abbrev dfX1 : List Value := [.null, .null, .null, .null, .null, .null, .int 0, .int 0, .int 0, .int 0, .int 0, .int 0]
theorem dfX1_ok : ∀ j, j < 12 → defaultValue (tyX1 j) = vp_V dfX1 j := fun j hj => match j, hj with | 0, _ => rfl | 1, _ => rfl | 2, _ => rfl | 3, _ => rfl | 4, _ => rfl | 5, _ => rfl | 6, _ => rfl | 7, _ => rfl | 8, _ => rfl | 9, _ => rfl | 10, _ => rfl | 11, _ => rfl | (i + 12), h => absurd h (by omega)
theorem ii_X1 : Cond.initialized RX1 ∈ TBg := tb_in (List.mem_of_getElem? (i := 63) (by decide +kernel)) (by decide +kernel)
theorem is_X1 : Cond.instantiable RX1 12 ∈ TBg := tb_in (List.mem_of_getElem? (i := 85) (by decide +kernel)) (by decide +kernel)
abbrev dfX2 : List Value := [.null, .null, .int 0]
theorem dfX2_ok : ∀ j, j < 3 → defaultValue (tyX2 j) = vp_V dfX2 j := fun j hj => match j, hj with | 0, _ => rfl | 1, _ => rfl | 2, _ => rfl | (i + 3), h => absurd h (by omega)
theorem ii_X2 : Cond.initialized RX2 ∈ TBg := tb_in (List.mem_of_getElem? (i := 64) (by decide +kernel)) (by decide +kernel)
theorem is_X2 : Cond.instantiable RX2 3 ∈ TBg := tb_in (List.mem_of_getElem? (i := 91) (by decide +kernel)) (by decide +kernel)
abbrev dfX3 : List Value := [.null, .null, .int 0, .int 0, .int 0, .int 0, .int 0, .int 0, .int 0, .int 0, .int 0, .int 0]
theorem dfX3_ok : ∀ j, j < 12 → defaultValue (tyX3 j) = vp_V dfX3 j := fun j hj => match j, hj with | 0, _ => rfl | 1, _ => rfl | 2, _ => rfl | 3, _ => rfl | 4, _ => rfl | 5, _ => rfl | 6, _ => rfl | 7, _ => rfl | 8, _ => rfl | 9, _ => rfl | 10, _ => rfl | 11, _ => rfl | (i + 12), h => absurd h (by omega)
theorem ii_X3 : Cond.initialized RX3 ∈ TBg := tb_in (List.mem_of_getElem? (i := 67) (by decide +kernel)) (by decide +kernel)
theorem is_X3 : Cond.instantiable RX3 12 ∈ TBg := tb_in (List.mem_of_getElem? (i := 175) (by decide +kernel)) (by decide +kernel)
abbrev dfX4 : List Value := [.null, .int 0, .int 0]
theorem dfX4_ok : ∀ j, j < 3 → defaultValue (tyX4 j) = vp_V dfX4 j := fun j hj => match j, hj with | 0, _ => rfl | 1, _ => rfl | 2, _ => rfl | (i + 3), h => absurd h (by omega)
theorem ii_X4 : Cond.initialized RX4 ∈ TBg := tb_in (List.mem_of_getElem? (i := 69) (by decide +kernel)) (by decide +kernel)
theorem is_X4 : Cond.instantiable RX4 3 ∈ TBg := tb_in (List.mem_of_getElem? (i := 240) (by decide +kernel)) (by decide +kernel)
abbrev dfX5 : List Value := [.null, .null, .null, .null, .null, .null, .null, .null, .int 0]
theorem dfX5_ok : ∀ j, j < 9 → defaultValue (tyX5 j) = vp_V dfX5 j := fun j hj => match j, hj with | 0, _ => rfl | 1, _ => rfl | 2, _ => rfl | 3, _ => rfl | 4, _ => rfl | 5, _ => rfl | 6, _ => rfl | 7, _ => rfl | 8, _ => rfl | (i + 9), h => absurd h (by omega)
theorem ii_X5 : Cond.initialized RX5 ∈ TBg := tb_in (List.mem_of_getElem? (i := 62) (by decide +kernel)) (by decide +kernel)
theorem is_X5 : Cond.instantiable RX5 9 ∈ TBg := tb_in (List.mem_of_getElem? (i := 77) (by decide +kernel)) (by decide +kernel)
abbrev dfX6 : List Value := [.null, .null, .null, .int 0, .null, .int 0, .int 0, .int 0, .int 0, .null, .int 0, .int 0, .int 0, .int 0, .int 0, .int 0, .int 0, .int 0, .int 0, .int 0, .int 0, .int 0, .int 0, .int 0, .long 0, .long 0, .long 0, .null, .null, .null, .null, .null, .int 0, .null]
theorem dfX6_ok : ∀ j, j < 34 → defaultValue (tyX6 j) = vp_V dfX6 j := fun j hj => match j, hj with | 0, _ => rfl | 1, _ => rfl | 2, _ => rfl | 3, _ => rfl | 4, _ => rfl | 5, _ => rfl | 6, _ => rfl | 7, _ => rfl | 8, _ => rfl | 9, _ => rfl | 10, _ => rfl | 11, _ => rfl | 12, _ => rfl | 13, _ => rfl | 14, _ => rfl | 15, _ => rfl | 16, _ => rfl | 17, _ => rfl | 18, _ => rfl | 19, _ => rfl | 20, _ => rfl | 21, _ => rfl | 22, _ => rfl | 23, _ => rfl | 24, _ => rfl | 25, _ => rfl | 26, _ => rfl | 27, _ => rfl | 28, _ => rfl | 29, _ => rfl | 30, _ => rfl | 31, _ => rfl | 32, _ => rfl | 33, _ => rfl | (i + 34), h => absurd h (by omega)
theorem ii_X6 : Cond.initialized RX6 ∈ TBg := tb_in (List.mem_of_getElem? (i := 70) (by decide +kernel)) (by decide +kernel)
theorem is_X6 : Cond.instantiable RX6 34 ∈ TBg := tb_in (List.mem_of_getElem? (i := 827) (by decide +kernel)) (by decide +kernel)
theorem ob_i : Cond.instanceMethod objectInit ∈ TBg := tb_in (List.mem_of_getElem? (i := 82) (by decide +kernel)) (by decide +kernel)
theorem ob_c : Cond.code objectInit ⟨#[0xb1]⟩ 1 none ∈ TBg := tb_in (List.mem_of_getElem? (i := 83) (by decide +kernel)) (by decide +kernel)
def rmC_X0 : Room := { frames := 1, cells := 0, slots := 0, locals := 12 }
def rmC_X1 : Room := { frames := 2, cells := 10, slots := 70, locals := 60 }
def rmC_X2 : Room := { frames := 1, cells := 2, slots := 16, locals := 30 }
def rmC_X3 : Room := { frames := 1, cells := 2, slots := 320, locals := 12 }
def rmC_X4 : Room := { frames := 1, cells := 1, slots := 40, locals := 12 }
def rmC_X5 : Room := { frames := 4, cells := 100, slots := 2000, locals := 120 }
def rmC_X6 : Room := { frames := 4, cells := 20, slots := 1100, locals := 120 }
theorem ol_X0 : Cond.methodLink RX0 3 objectInit ∈ TBg := tb_in (List.mem_of_getElem? (i := 227) (by decide +kernel)) (by decide +kernel)
theorem ol_X2 : Cond.methodLink RX2 3 objectInit ∈ TBg := tb_in (List.mem_of_getElem? (i := 95) (by decide +kernel)) (by decide +kernel)
theorem lm_X2_9 : LkS RX2 9 Lib.Math.max.name Lib.Math.max.code 2 (some .int) 2 := ⟨tb_in (List.mem_of_getElem? (i := 98) (by decide +kernel)) (by decide +kernel), tb_in (List.mem_of_getElem? (i := 96) (by decide +kernel)) (by decide +kernel), tb_in (List.mem_of_getElem? (i := 97) (by decide +kernel)) (by decide +kernel), tb_in (List.mem_of_getElem? (i := 65) (by decide +kernel)) (by decide +kernel), by decide +kernel, by decide +kernel, by decide +kernel⟩
theorem ff_X2_15 : FfX RX2 15 2 0 (.array .int) := ⟨RX2, TX2, 3, tyX2, rfl, tw_X2, by decide, tb_in (List.mem_of_getElem? (i := 99) (by decide +kernel)) (by decide +kernel), tyX2_ok, nmX2, rfl, by decide +kernel, rfl⟩
theorem ff_X2_21 : FfX RX2 21 2 1 (.array .int) := ⟨RX2, TX2, 3, tyX2, rfl, tw_X2, by decide, tb_in (List.mem_of_getElem? (i := 102) (by decide +kernel)) (by decide +kernel), tyX2_ok, nmX2, rfl, by decide +kernel, rfl⟩
theorem ol_X3 : Cond.methodLink RX3 3 objectInit ∈ TBg := tb_in (List.mem_of_getElem? (i := 179) (by decide +kernel)) (by decide +kernel)
theorem ff_X3_9 : FfX RX3 9 3 0 (.array .int) := ⟨RX3, TX3, 12, tyX3, rfl, tw_X3, by decide, tb_in (List.mem_of_getElem? (i := 180) (by decide +kernel)) (by decide +kernel), tyX3_ok, nmX3, rfl, by decide +kernel, rfl⟩
theorem ff_X3_15 : FfX RX3 15 3 1 (.array .int) := ⟨RX3, TX3, 12, tyX3, rfl, tw_X3, by decide, tb_in (List.mem_of_getElem? (i := 181) (by decide +kernel)) (by decide +kernel), tyX3_ok, nmX3, rfl, by decide +kernel, rfl⟩
theorem ol_X4 : Cond.methodLink RX4 3 objectInit ∈ TBg := tb_in (List.mem_of_getElem? (i := 244) (by decide +kernel)) (by decide +kernel)
theorem ff_X4_9 : FfX RX4 9 4 0 (.array .int) := ⟨RX4, TX4, 3, tyX4, rfl, tw_X4, by decide, tb_in (List.mem_of_getElem? (i := 245) (by decide +kernel)) (by decide +kernel), tyX4_ok, nmX4, rfl, by decide +kernel, rfl⟩
theorem fi_X4_15 : FpX RX4 15 4 1 .int := ⟨RX4, TX4, 3, tyX4, rfl, tw_X4, by decide, tb_in (List.mem_of_getElem? (i := 247) (by decide +kernel)) (by decide +kernel), tyX4_ok, nmX4, rfl, by decide +kernel⟩
theorem ol_X1 : Cond.methodLink RX1 3 objectInit ∈ TBg := tb_in (List.mem_of_getElem? (i := 89) (by decide +kernel)) (by decide +kernel)
theorem ff_X1_9 : FfX RX1 9 1 0 (.array .int) := ⟨RX1, TX1, 12, tyX1, rfl, tw_X1, by decide, tb_in (List.mem_of_getElem? (i := 119) (by decide +kernel)) (by decide +kernel), tyX1_ok, nmX1, rfl, by decide +kernel, rfl⟩
theorem ff_X1_15 : FfX RX1 15 1 1 (.array .int) := ⟨RX1, TX1, 12, tyX1, rfl, tw_X1, by decide, tb_in (List.mem_of_getElem? (i := 121) (by decide +kernel)) (by decide +kernel), tyX1_ok, nmX1, rfl, by decide +kernel, rfl⟩
theorem ff_X1_18 : FfX RX1 18 1 2 (.array .int) := ⟨RX1, TX1, 12, tyX1, rfl, tw_X1, by decide, tb_in (List.mem_of_getElem? (i := 123) (by decide +kernel)) (by decide +kernel), tyX1_ok, nmX1, rfl, by decide +kernel, rfl⟩
theorem ff_X1_21 : FfX RX1 21 1 3 (.array .int) := ⟨RX1, TX1, 12, tyX1, rfl, tw_X1, by decide, tb_in (List.mem_of_getElem? (i := 125) (by decide +kernel)) (by decide +kernel), tyX1_ok, nmX1, rfl, by decide +kernel, rfl⟩
theorem cl_X1_24 : Cond.classLink RX1 24 RX2 ∈ TBg := tb_in (List.mem_of_getElem? (i := 90) (by decide +kernel)) (by decide +kernel)
theorem li_X1_26 : LkI RX1 26 yX2_init cX2_init 3 1 := ⟨tb_in (List.mem_of_getElem? (i := 94) (by decide +kernel)) (by decide +kernel), tb_in (List.mem_of_getElem? (i := 92) (by decide +kernel)) (by decide +kernel), tb_in (List.mem_of_getElem? (i := 93) (by decide +kernel)) (by decide +kernel), ii_X2, ⟨by decide +kernel, by decide +kernel, by decide +kernel⟩, rfl⟩
theorem ff_X1_29 : FfX RX1 29 1 4 (.object "UnsaidBallast$Pairs") := ⟨RX1, TX1, 12, tyX1, rfl, tw_X1, by decide, tb_in (List.mem_of_getElem? (i := 128) (by decide +kernel)) (by decide +kernel), tyX1_ok, nmX1, rfl, by decide +kernel, rfl⟩
theorem ff_X1_33 : FfX RX1 33 1 5 (.object "UnsaidBallast$Pairs") := ⟨RX1, TX1, 12, tyX1, rfl, tw_X1, by decide, tb_in (List.mem_of_getElem? (i := 130) (by decide +kernel)) (by decide +kernel), tyX1_ok, nmX1, rfl, by decide +kernel, rfl⟩
theorem fi_X1_36 : FpX RX1 36 1 10 .int := ⟨RX1, TX1, 12, tyX1, rfl, tw_X1, by decide, tb_in (List.mem_of_getElem? (i := 143) (by decide +kernel)) (by decide +kernel), tyX1_ok, nmX1, rfl, by decide +kernel⟩
theorem fh_X1_21 : FgX RX1 21 1 3 := ⟨RX1, TX1, 12, rfl, tw_X1, by decide, tb_in (List.mem_of_getElem? (i := 125) (by decide +kernel)) (by decide +kernel)⟩
theorem lf_X1_40 : LkS RX1 40 yJ7_fill_53178 cJ7_fill_53178 4 none 2 := ⟨tb_in (List.mem_of_getElem? (i := 118) (by decide +kernel)) (by decide +kernel), tb_in (List.mem_of_getElem? (i := 116) (by decide +kernel)) (by decide +kernel), tb_in (List.mem_of_getElem? (i := 117) (by decide +kernel)) (by decide +kernel), tb_in (List.mem_of_getElem? (i := 66) (by decide +kernel)) (by decide +kernel), by decide +kernel, by decide +kernel, by decide +kernel⟩
theorem ol_X5 : Cond.methodLink RX5 1 objectInit ∈ TBg := tb_in (List.mem_of_getElem? (i := 81) (by decide +kernel)) (by decide +kernel)
theorem cl_X5_7 : Cond.classLink RX5 7 RX1 ∈ TBg := tb_in (List.mem_of_getElem? (i := 84) (by decide +kernel)) (by decide +kernel)
theorem li_X5_9 : LkI RX5 9 yX1_init cX1_init 1 0 := ⟨tb_in (List.mem_of_getElem? (i := 88) (by decide +kernel)) (by decide +kernel), tb_in (List.mem_of_getElem? (i := 86) (by decide +kernel)) (by decide +kernel), tb_in (List.mem_of_getElem? (i := 87) (by decide +kernel)) (by decide +kernel), ii_X1, ⟨by decide +kernel, by decide +kernel, by decide +kernel⟩, rfl⟩
theorem ff_X5_10 : FfX RX5 10 5 0 (.object "UnsaidBallast$Flight") := ⟨RX5, TX5, 9, tyX5, rfl, tw_X5, by decide, tb_in (List.mem_of_getElem? (i := 258) (by decide +kernel)) (by decide +kernel), tyX5_ok, nmX5, rfl, by decide +kernel, rfl⟩
theorem ff_X5_16 : FfX RX5 16 5 1 (.object "UnsaidBallast$Flight") := ⟨RX5, TX5, 9, tyX5, rfl, tw_X5, by decide, tb_in (List.mem_of_getElem? (i := 259) (by decide +kernel)) (by decide +kernel), tyX5_ok, nmX5, rfl, by decide +kernel, rfl⟩
theorem ff_X5_19 : FfX RX5 19 5 2 (.array (.object "UnsaidBallast$Flight")) := ⟨RX5, TX5, 9, tyX5, rfl, tw_X5, by decide, tb_in (List.mem_of_getElem? (i := 260) (by decide +kernel)) (by decide +kernel), tyX5_ok, nmX5, rfl, by decide +kernel, rfl⟩
theorem ff_X5_23 : FfX RX5 23 5 3 (.array .boolean) := ⟨RX5, TX5, 9, tyX5, rfl, tw_X5, by decide, tb_in (List.mem_of_getElem? (i := 261) (by decide +kernel)) (by decide +kernel), tyX5_ok, nmX5, rfl, by decide +kernel, rfl⟩
theorem cl_X5_27 : Cond.classLink RX5 27 RX3 ∈ TBg := tb_in (List.mem_of_getElem? (i := 174) (by decide +kernel)) (by decide +kernel)
theorem lj_X3 : LkJ yX3_init cX3_init 1 0 := ⟨tb_in (List.mem_of_getElem? (i := 178) (by decide +kernel)) (by decide +kernel), tb_in (List.mem_of_getElem? (i := 177) (by decide +kernel)) (by decide +kernel), ii_X3, ⟨by decide +kernel, by decide +kernel, by decide +kernel⟩, rfl⟩
theorem ff_X5_30 : FfX RX5 30 5 4 (.object "UnsaidBallast$Reader") := ⟨RX5, TX5, 9, tyX5, rfl, tw_X5, by decide, tb_in (List.mem_of_getElem? (i := 262) (by decide +kernel)) (by decide +kernel), tyX5_ok, nmX5, rfl, by decide +kernel, rfl⟩
theorem cl_X5_34 : Cond.classLink RX5 34 RX4 ∈ TBg := tb_in (List.mem_of_getElem? (i := 220) (by decide +kernel)) (by decide +kernel)
theorem ff_X5_36 : FfX RX5 36 5 5 (.array (.object "UnsaidBallast$Sheet")) := ⟨RX5, TX5, 9, tyX5, rfl, tw_X5, by decide, tb_in (List.mem_of_getElem? (i := 263) (by decide +kernel)) (by decide +kernel), tyX5_ok, nmX5, rfl, by decide +kernel, rfl⟩
theorem cl_X5_40 : Cond.classLink RX5 40 RX0 ∈ TBg := tb_in (List.mem_of_getElem? (i := 222) (by decide +kernel)) (by decide +kernel)
theorem lj_X0 : LkJ yX0_init cX0_init 1 0 := ⟨tb_in (List.mem_of_getElem? (i := 226) (by decide +kernel)) (by decide +kernel), tb_in (List.mem_of_getElem? (i := 225) (by decide +kernel)) (by decide +kernel), ii_X0, ⟨by decide +kernel, by decide +kernel, by decide +kernel⟩, rfl⟩
theorem ff_X5_43 : FfX RX5 43 5 6 (.object "UnsaidBallast$Choice") := ⟨RX5, TX5, 9, tyX5, rfl, tw_X5, by decide, tb_in (List.mem_of_getElem? (i := 264) (by decide +kernel)) (by decide +kernel), tyX5_ok, nmX5, rfl, by decide +kernel, rfl⟩
theorem cl_X5_47 : Cond.classLink RX5 47 ("[" ++ (FieldType.array .int).toString) ∈ TBg := tb_in (List.mem_of_getElem? (i := 238) (by decide +kernel)) (by decide +kernel)
theorem ff_X5_49 : FfX RX5 49 5 7 (.array (.array .int)) := ⟨RX5, TX5, 9, tyX5, rfl, tw_X5, by decide, tb_in (List.mem_of_getElem? (i := 265) (by decide +kernel)) (by decide +kernel), tyX5_ok, nmX5, rfl, by decide +kernel, rfl⟩
theorem fh_X5_19 : FgX RX5 19 5 2 := ⟨RX5, TX5, 9, rfl, tw_X5, by decide, tb_in (List.mem_of_getElem? (i := 260) (by decide +kernel)) (by decide +kernel)⟩
theorem fh_X5_36 : FgX RX5 36 5 5 := ⟨RX5, TX5, 9, rfl, tw_X5, by decide, tb_in (List.mem_of_getElem? (i := 263) (by decide +kernel)) (by decide +kernel)⟩
theorem lj_X4 : LkJ yX4_init cX4_init 1 0 := ⟨tb_in (List.mem_of_getElem? (i := 243) (by decide +kernel)) (by decide +kernel), tb_in (List.mem_of_getElem? (i := 242) (by decide +kernel)) (by decide +kernel), ii_X4, ⟨by decide +kernel, by decide +kernel, by decide +kernel⟩, rfl⟩
theorem ol_X6 : Cond.methodLink RX6 1 objectInit ∈ TBg := tb_in (List.mem_of_getElem? (i := 831) (by decide +kernel)) (by decide +kernel)
theorem ff_X6_7 : FfX RX6 7 6 0 (.array .int) := ⟨RX6, TX6, 34, tyX6, rfl, tw_X6, by decide, tb_in (List.mem_of_getElem? (i := 840) (by decide +kernel)) (by decide +kernel), tyX6_ok, nmX6, rfl, by decide +kernel, rfl⟩
theorem ff_X6_13 : FfX RX6 13 6 1 (.array .int) := ⟨RX6, TX6, 34, tyX6, rfl, tw_X6, by decide, tb_in (List.mem_of_getElem? (i := 841) (by decide +kernel)) (by decide +kernel), tyX6_ok, nmX6, rfl, by decide +kernel, rfl⟩
theorem ff_X6_16 : FfX RX6 16 6 2 (.array .boolean) := ⟨RX6, TX6, 34, tyX6, rfl, tw_X6, by decide, tb_in (List.mem_of_getElem? (i := 842) (by decide +kernel)) (by decide +kernel), tyX6_ok, nmX6, rfl, by decide +kernel, rfl⟩
theorem ff_X6_20 : FfX RX6 20 6 4 (.array .int) := ⟨RX6, TX6, 34, tyX6, rfl, tw_X6, by decide, tb_in (List.mem_of_getElem? (i := 844) (by decide +kernel)) (by decide +kernel), tyX6_ok, nmX6, rfl, by decide +kernel, rfl⟩
theorem ff_X6_23 : FfX RX6 23 6 9 (.array .int) := ⟨RX6, TX6, 34, tyX6, rfl, tw_X6, by decide, tb_in (List.mem_of_getElem? (i := 849) (by decide +kernel)) (by decide +kernel), tyX6_ok, nmX6, rfl, by decide +kernel, rfl⟩
theorem ff_X6_26 : FfX RX6 26 6 27 (.array .int) := ⟨RX6, TX6, 34, tyX6, rfl, tw_X6, by decide, tb_in (List.mem_of_getElem? (i := 867) (by decide +kernel)) (by decide +kernel), tyX6_ok, nmX6, rfl, by decide +kernel, rfl⟩
theorem ff_X6_29 : FfX RX6 29 6 28 (.array .int) := ⟨RX6, TX6, 34, tyX6, rfl, tw_X6, by decide, tb_in (List.mem_of_getElem? (i := 868) (by decide +kernel)) (by decide +kernel), tyX6_ok, nmX6, rfl, by decide +kernel, rfl⟩
theorem ff_X6_32 : FfX RX6 32 6 29 (.array .int) := ⟨RX6, TX6, 34, tyX6, rfl, tw_X6, by decide, tb_in (List.mem_of_getElem? (i := 869) (by decide +kernel)) (by decide +kernel), tyX6_ok, nmX6, rfl, by decide +kernel, rfl⟩
theorem ff_X6_35 : FfX RX6 35 6 30 (.array .int) := ⟨RX6, TX6, 34, tyX6, rfl, tw_X6, by decide, tb_in (List.mem_of_getElem? (i := 870) (by decide +kernel)) (by decide +kernel), tyX6_ok, nmX6, rfl, by decide +kernel, rfl⟩
theorem ff_X6_38 : FfX RX6 38 6 31 (.array .int) := ⟨RX6, TX6, 34, tyX6, rfl, tw_X6, by decide, tb_in (List.mem_of_getElem? (i := 871) (by decide +kernel)) (by decide +kernel), tyX6_ok, nmX6, rfl, by decide +kernel, rfl⟩
theorem ff_X6_41 : FfX RX6 41 6 33 (.array .int) := ⟨RX6, TX6, 34, tyX6, rfl, tw_X6, by decide, tb_in (List.mem_of_getElem? (i := 873) (by decide +kernel)) (by decide +kernel), tyX6_ok, nmX6, rfl, by decide +kernel, rfl⟩
theorem fh_X6_32 : FgX RX6 32 6 29 := ⟨RX6, TX6, 34, rfl, tw_X6, by decide, tb_in (List.mem_of_getElem? (i := 869) (by decide +kernel)) (by decide +kernel)⟩
theorem lv_X6_44 : LkV RX6 44 yX6_firstDraft cX6_firstDraft 2 none 0 := ⟨tb_in (List.mem_of_getElem? (i := 835) (by decide +kernel)) (by decide +kernel), tb_in (List.mem_of_getElem? (i := 832) (by decide +kernel)) (by decide +kernel), tb_in (List.mem_of_getElem? (i := 834) (by decide +kernel)) (by decide +kernel), tb_in (List.mem_of_getElem? (i := 24) (by decide +kernel)) (by decide +kernel), tb_in (List.mem_of_getElem? (i := 70) (by decide +kernel)) (by decide +kernel), by decide +kernel, by decide +kernel, by decide +kernel⟩
theorem lv_X6_47 : LkV RX6 47 yX6_keepDraft cX6_keepDraft 2 none 0 := ⟨tb_in (List.mem_of_getElem? (i := 839) (by decide +kernel)) (by decide +kernel), tb_in (List.mem_of_getElem? (i := 836) (by decide +kernel)) (by decide +kernel), tb_in (List.mem_of_getElem? (i := 838) (by decide +kernel)) (by decide +kernel), tb_in (List.mem_of_getElem? (i := 25) (by decide +kernel)) (by decide +kernel), tb_in (List.mem_of_getElem? (i := 70) (by decide +kernel)) (by decide +kernel), by decide +kernel, by decide +kernel, by decide +kernel⟩
set_option maxHeartbeats 4000000 in
set_option maxRecDepth 100000 in
theorem k_X0_init (h0 : Nat) (fs : List Value) : CtC yX0_init cX0_init 1 rmC_X0 [.ref h0] [(h0, .inr (0, fs))] (fun ph ids w1 => w1 = [(h0, .inr (0, fs))]) := by
  refine CtC.of (by decide +kernel) (Nat.le_of_ble_eq_true rfl) (fun E O hret => ?_)
  have O : ON E RX0 cX0_init 1 rmC_X0 "<init>" := O
  show WN E 1 0 0 0 [(0, .ref h0)] [] [(h0, .inr (0, fs))]
  refine n_aload_n O 0 dX0_init_0 rfl rfl ?_
  refine n_obj O ol_X0 ob_i ob_c (by decide +kernel) (by decide +kernel) dX0_init_1 ?_
  exact n_vret O hret dX0_init_4 (by decide +kernel) (by decide +kernel) rfl
set_option maxHeartbeats 4000000 in
set_option maxRecDepth 100000 in
theorem k_X2_init (h0 : Nat) {n : Int32} {N : Nat} (hmx : (if (0 : Int32) < n then n else 0) = n) (hn : ¬ n < 0) (hN : n.toNatClampNeg = N) (hb : N * componentBytes .int ≤ 536870912) (h8 : N ≤ 8) : CtC yX2_init cX2_init 3 rmC_X2 [.ref h0, .int n] [(h0, .inr (2, dfX2))] (fun ph ids w1 => ∃ a b, w1 = [(h0, .inr (2, [.ref a, .ref b, .int 0])), (a, .inl (ids 0, N, .inl (fun _ => 0))), (b, .inl (ids 0, N, .inl (fun _ => 0)))]) := by
  refine CtC.of (by decide +kernel) (Nat.le_of_ble_eq_true rfl) (fun E O hret => ?_)
  have O : ON E RX2 cX2_init 3 rmC_X2 "<init>" := O
  show WN E 3 0 0 0 [(0, .ref h0), (1, .int n)] [] [(h0, .inr (2, [.null, .null, .int 0]))]
  refine n_aload_n O 0 dX2_init_0 rfl rfl ?_
  refine n_obj O ol_X2 ob_i ob_c (by decide +kernel) (by decide +kernel) dX2_init_1 ?_
  refine n_iconst (v := 0) O dX2_init_4 rfl ?_
  refine n_iload_n O 1 dX2_init_5 rfl rfl ?_
  refine n_mmax O lm_X2_9 ⟨(by decide +kernel), (by decide +kernel)⟩ (Nat.le_of_ble_eq_true rfl) (by decide +kernel) (by decide +kernel) dX2_init_6 ?_
  rw [hmx]
  refine n_istore_n (lv' := [(2, .int n), (0, .ref h0), (1, .int n)]) O dX2_init_9 rfl (by decide) rfl ?_
  refine n_aload_n O 1 dX2_init_10 rfl rfl ?_
  refine n_iload_n O 0 dX2_init_11 rfl rfl ?_
  refine n_newI (N := N) O hn hN hb (by decide +kernel) (by show 0 + N ≤ 16; omega) ac_int dX2_init_12 (fun q1 => ?_)
  show WN E 3 14 1 (0 + N) [(2, .int n), (0, .ref h0), (1, .int n)] [.ref q1, .ref h0] [(h0, .inr (2, [.null, .null, .int 0])), (q1, .inl (E.2.2.2.1 0, N, .inl (fun _ => 0)))]
  refine n_putF O ff_X2_15 0 (fs := [.null, .null, .int 0]) rfl (Nat.le_of_ble_eq_true rfl) rfl rfl dX2_init_14 ?_
  show WN E 3 17 1 (0 + N) [(2, .int n), (0, .ref h0), (1, .int n)] [] [(h0, .inr (2, [.ref q1, .null, .int 0])), (q1, .inl (E.2.2.2.1 0, N, .inl (fun _ => 0)))]
  refine n_aload_n O 1 dX2_init_17 rfl rfl ?_
  refine n_iload_n O 0 dX2_init_18 rfl rfl ?_
  refine n_newI (N := N) O hn hN hb (by decide +kernel) (by show 0 + N + N ≤ 16; omega) ac_int dX2_init_19 (fun q2 => ?_)
  show WN E 3 21 2 ((0 + N) + N) [(2, .int n), (0, .ref h0), (1, .int n)] [.ref q2, .ref h0] [(h0, .inr (2, [.ref q1, .null, .int 0])), (q1, .inl (E.2.2.2.1 0, N, .inl (fun _ => 0))), (q2, .inl (E.2.2.2.1 0, N, .inl (fun _ => 0)))]
  refine n_putF O ff_X2_21 0 (fs := [.ref q1, .null, .int 0]) rfl (Nat.le_of_ble_eq_true rfl) rfl rfl dX2_init_21 ?_
  show WN E 3 24 2 ((0 + N) + N) [(2, .int n), (0, .ref h0), (1, .int n)] [] [(h0, .inr (2, [.ref q1, .ref q2, .int 0])), (q1, .inl (E.2.2.2.1 0, N, .inl (fun _ => 0))), (q2, .inl (E.2.2.2.1 0, N, .inl (fun _ => 0)))]
  exact n_vret O hret dX2_init_24 (by decide +kernel) (by show 0 + N + N ≤ 16; omega) ⟨_, _, rfl⟩
set_option maxHeartbeats 4000000 in
set_option maxRecDepth 100000 in
theorem k_X3_init (h0 : Nat) : CtC yX3_init cX3_init 1 rmC_X3 [.ref h0] [(h0, .inr (3, dfX3))] (fun ph ids w1 => ∃ a b, w1 = [(h0, .inr (3, [.ref a, .ref b, .int 0, .int 0, .int 0, .int 0, .int 0, .int 0, .int 0, .int 0, .int 0, .int 0])), (a, .inl (ids 0, 160, .inl (fun _ => 0))), (b, .inl (ids 0, 160, .inl (fun _ => 0)))]) := by
  refine CtC.of (by decide +kernel) (Nat.le_of_ble_eq_true rfl) (fun E O hret => ?_)
  have O : ON E RX3 cX3_init 1 rmC_X3 "<init>" := O
  show WN E 1 0 0 0 [(0, .ref h0)] [] [(h0, .inr (3, [.null, .null, .int 0, .int 0, .int 0, .int 0, .int 0, .int 0, .int 0, .int 0, .int 0, .int 0]))]
  refine n_aload_n O 0 dX3_init_0 rfl rfl ?_
  refine n_obj O ol_X3 ob_i ob_c (by decide +kernel) (by decide +kernel) dX3_init_1 ?_
  refine n_aload_n O 0 dX3_init_4 rfl rfl ?_
  refine n_sipush (v := 160) O dX3_init_5 rfl ?_
  refine n_newI (N := 160) O (by decide) (by decide) (by decide) (by decide +kernel) (by decide +kernel) ac_int dX3_init_8 (fun q1 => ?_)
  show WN E 1 10 1 160 [(0, .ref h0)] [.ref q1, .ref h0] [(h0, .inr (3, [.null, .null, .int 0, .int 0, .int 0, .int 0, .int 0, .int 0, .int 0, .int 0, .int 0, .int 0])), (q1, .inl (E.2.2.2.1 0, 160, .inl (fun _ => 0)))]
  refine n_putF O ff_X3_9 0 (fs := [.null, .null, .int 0, .int 0, .int 0, .int 0, .int 0, .int 0, .int 0, .int 0, .int 0, .int 0]) rfl (Nat.le_of_ble_eq_true rfl) rfl rfl dX3_init_10 ?_
  show WN E 1 13 1 160 [(0, .ref h0)] [] [(h0, .inr (3, [.ref q1, .null, .int 0, .int 0, .int 0, .int 0, .int 0, .int 0, .int 0, .int 0, .int 0, .int 0])), (q1, .inl (E.2.2.2.1 0, 160, .inl (fun _ => 0)))]
  refine n_aload_n O 0 dX3_init_13 rfl rfl ?_
  refine n_sipush (v := 160) O dX3_init_14 rfl ?_
  refine n_newI (N := 160) O (by decide) (by decide) (by decide) (by decide +kernel) (by decide +kernel) ac_int dX3_init_17 (fun q2 => ?_)
  show WN E 1 19 2 320 [(0, .ref h0)] [.ref q2, .ref h0] [(h0, .inr (3, [.ref q1, .null, .int 0, .int 0, .int 0, .int 0, .int 0, .int 0, .int 0, .int 0, .int 0, .int 0])), (q1, .inl (E.2.2.2.1 0, 160, .inl (fun _ => 0))), (q2, .inl (E.2.2.2.1 0, 160, .inl (fun _ => 0)))]
  refine n_putF O ff_X3_15 0 (fs := [.ref q1, .null, .int 0, .int 0, .int 0, .int 0, .int 0, .int 0, .int 0, .int 0, .int 0, .int 0]) rfl (Nat.le_of_ble_eq_true rfl) rfl rfl dX3_init_19 ?_
  show WN E 1 22 2 320 [(0, .ref h0)] [] [(h0, .inr (3, [.ref q1, .ref q2, .int 0, .int 0, .int 0, .int 0, .int 0, .int 0, .int 0, .int 0, .int 0, .int 0])), (q1, .inl (E.2.2.2.1 0, 160, .inl (fun _ => 0))), (q2, .inl (E.2.2.2.1 0, 160, .inl (fun _ => 0)))]
  exact n_vret O hret dX3_init_22 (by decide +kernel) (by decide +kernel) ⟨_, _, rfl⟩
set_option maxHeartbeats 4000000 in
set_option maxRecDepth 100000 in
theorem k_X4_init (h0 : Nat) : CtC yX4_init cX4_init 1 rmC_X4 [.ref h0] [(h0, .inr (4, dfX4))] (fun ph ids w1 => ∃ a, w1 = [(h0, .inr (4, [.ref a, .int (-1), .int 0])), (a, .inl (ids 0, 40, .inl (fun _ => 0)))]) := by
  refine CtC.of (by decide +kernel) (Nat.le_of_ble_eq_true rfl) (fun E O hret => ?_)
  have O : ON E RX4 cX4_init 1 rmC_X4 "<init>" := O
  show WN E 1 0 0 0 [(0, .ref h0)] [] [(h0, .inr (4, [.null, .int 0, .int 0]))]
  refine n_aload_n O 0 dX4_init_0 rfl rfl ?_
  refine n_obj O ol_X4 ob_i ob_c (by decide +kernel) (by decide +kernel) dX4_init_1 ?_
  refine n_aload_n O 0 dX4_init_4 rfl rfl ?_
  refine n_bipush (v := 40) O dX4_init_5 rfl ?_
  refine n_newI (N := 40) O (by decide) (by decide) (by decide) (by decide +kernel) (by decide +kernel) ac_int dX4_init_7 (fun q1 => ?_)
  show WN E 1 9 1 40 [(0, .ref h0)] [.ref q1, .ref h0] [(h0, .inr (4, [.null, .int 0, .int 0])), (q1, .inl (E.2.2.2.1 0, 40, .inl (fun _ => 0)))]
  refine n_putF O ff_X4_9 0 (fs := [.null, .int 0, .int 0]) rfl (Nat.le_of_ble_eq_true rfl) rfl rfl dX4_init_9 ?_
  show WN E 1 12 1 40 [(0, .ref h0)] [] [(h0, .inr (4, [.ref q1, .int 0, .int 0])), (q1, .inl (E.2.2.2.1 0, 40, .inl (fun _ => 0)))]
  refine n_aload_n O 0 dX4_init_12 rfl rfl ?_
  refine n_iconst (v := (-1)) O dX4_init_13 rfl ?_
  refine n_putI O fi_X4_15 0 (fs := [.ref q1, .int 0, .int 0]) rfl (Nat.le_of_ble_eq_true rfl) dX4_init_14 ?_
  show WN E 1 17 1 40 [(0, .ref h0)] [] [(h0, .inr (4, [.ref q1, .int (-1), .int 0])), (q1, .inl (E.2.2.2.1 0, 40, .inl (fun _ => 0)))]
  exact n_vret O hret dX4_init_17 (by decide +kernel) (by decide +kernel) ⟨_, rfl⟩
set_option maxHeartbeats 4000000 in
set_option maxRecDepth 100000 in
theorem k_X1_init (h0 : Nat) : CtC yX1_init cX1_init 1 rmC_X1 [.ref h0] [(h0, .inr (1, dfX1))] (fun ph ids w1 => ∃ a1 a2 a3 a4 a5 a6 a7 a8 a9 a10, w1 = [(h0, .inr (1, [.ref a1, .ref a2, .ref a3, .ref a4, .ref a5, .ref a8, .int 0, .int 0, .int 0, .int 0, .int 1, .int 0])), (a1, .inl (ids 0, 6, .inl (fun _ => 0))), (a2, .inl (ids 0, 6, .inl (fun _ => 0))), (a3, .inl (ids 0, 6, .inl (fun _ => 0))), (a4, .inl (ids 0, 5, .inl (fun _ => 4))), (a5, .inr (2, [.ref a6, .ref a7, .int 0])), (a6, .inl (ids 0, 8, .inl (fun _ => 0))), (a7, .inl (ids 0, 8, .inl (fun _ => 0))), (a8, .inr (2, [.ref a9, .ref a10, .int 0])), (a9, .inl (ids 0, 6, .inl (fun _ => 0))), (a10, .inl (ids 0, 6, .inl (fun _ => 0)))]) := by
  refine CtC.of (by decide +kernel) (Nat.le_of_ble_eq_true rfl) (fun E O hret => ?_)
  have O : ON E RX1 cX1_init 1 rmC_X1 "<init>" := O
  show WN E 1 0 0 0 [(0, .ref h0)] [] [(h0, .inr (1, [.null, .null, .null, .null, .null, .null, .int 0, .int 0, .int 0, .int 0, .int 0, .int 0]))]
  refine n_aload_n O 0 dX1_init_0 rfl rfl ?_
  refine n_obj O ol_X1 ob_i ob_c (by decide +kernel) (by decide +kernel) dX1_init_1 ?_
  refine n_aload_n O 0 dX1_init_4 rfl rfl ?_
  refine n_bipush (v := 6) O dX1_init_5 rfl ?_
  refine n_newI (N := 6) O (by decide) (by decide) (by decide) (by decide +kernel) (by decide +kernel) ac_int dX1_init_7 (fun q1 => ?_)
  show WN E 1 9 1 6 [(0, .ref h0)] [.ref q1, .ref h0] [(h0, .inr (1, [.null, .null, .null, .null, .null, .null, .int 0, .int 0, .int 0, .int 0, .int 0, .int 0])), (q1, .inl (E.2.2.2.1 0, 6, .inl (fun _ => 0)))]
  refine n_putF O ff_X1_9 0 (fs := [.null, .null, .null, .null, .null, .null, .int 0, .int 0, .int 0, .int 0, .int 0, .int 0]) rfl (Nat.le_of_ble_eq_true rfl) rfl rfl dX1_init_9 ?_
  show WN E 1 12 1 6 [(0, .ref h0)] [] [(h0, .inr (1, [.ref q1, .null, .null, .null, .null, .null, .int 0, .int 0, .int 0, .int 0, .int 0, .int 0])), (q1, .inl (E.2.2.2.1 0, 6, .inl (fun _ => 0)))]
  refine n_aload_n O 0 dX1_init_12 rfl rfl ?_
  refine n_bipush (v := 6) O dX1_init_13 rfl ?_
  refine n_newI (N := 6) O (by decide) (by decide) (by decide) (by decide +kernel) (by decide +kernel) ac_int dX1_init_15 (fun q2 => ?_)
  show WN E 1 17 2 12 [(0, .ref h0)] [.ref q2, .ref h0] [(h0, .inr (1, [.ref q1, .null, .null, .null, .null, .null, .int 0, .int 0, .int 0, .int 0, .int 0, .int 0])), (q1, .inl (E.2.2.2.1 0, 6, .inl (fun _ => 0))), (q2, .inl (E.2.2.2.1 0, 6, .inl (fun _ => 0)))]
  refine n_putF O ff_X1_15 0 (fs := [.ref q1, .null, .null, .null, .null, .null, .int 0, .int 0, .int 0, .int 0, .int 0, .int 0]) rfl (Nat.le_of_ble_eq_true rfl) rfl rfl dX1_init_17 ?_
  show WN E 1 20 2 12 [(0, .ref h0)] [] [(h0, .inr (1, [.ref q1, .ref q2, .null, .null, .null, .null, .int 0, .int 0, .int 0, .int 0, .int 0, .int 0])), (q1, .inl (E.2.2.2.1 0, 6, .inl (fun _ => 0))), (q2, .inl (E.2.2.2.1 0, 6, .inl (fun _ => 0)))]
  refine n_aload_n O 0 dX1_init_20 rfl rfl ?_
  refine n_bipush (v := 6) O dX1_init_21 rfl ?_
  refine n_newI (N := 6) O (by decide) (by decide) (by decide) (by decide +kernel) (by decide +kernel) ac_int dX1_init_23 (fun q3 => ?_)
  show WN E 1 25 3 18 [(0, .ref h0)] [.ref q3, .ref h0] [(h0, .inr (1, [.ref q1, .ref q2, .null, .null, .null, .null, .int 0, .int 0, .int 0, .int 0, .int 0, .int 0])), (q1, .inl (E.2.2.2.1 0, 6, .inl (fun _ => 0))), (q2, .inl (E.2.2.2.1 0, 6, .inl (fun _ => 0))), (q3, .inl (E.2.2.2.1 0, 6, .inl (fun _ => 0)))]
  refine n_putF O ff_X1_18 0 (fs := [.ref q1, .ref q2, .null, .null, .null, .null, .int 0, .int 0, .int 0, .int 0, .int 0, .int 0]) rfl (Nat.le_of_ble_eq_true rfl) rfl rfl dX1_init_25 ?_
  show WN E 1 28 3 18 [(0, .ref h0)] [] [(h0, .inr (1, [.ref q1, .ref q2, .ref q3, .null, .null, .null, .int 0, .int 0, .int 0, .int 0, .int 0, .int 0])), (q1, .inl (E.2.2.2.1 0, 6, .inl (fun _ => 0))), (q2, .inl (E.2.2.2.1 0, 6, .inl (fun _ => 0))), (q3, .inl (E.2.2.2.1 0, 6, .inl (fun _ => 0)))]
  refine n_aload_n O 0 dX1_init_28 rfl rfl ?_
  refine n_iconst (v := 5) O dX1_init_29 rfl ?_
  refine n_newI (N := 5) O (by decide) (by decide) (by decide) (by decide +kernel) (by decide +kernel) ac_int dX1_init_30 (fun q4 => ?_)
  show WN E 1 32 4 23 [(0, .ref h0)] [.ref q4, .ref h0] [(h0, .inr (1, [.ref q1, .ref q2, .ref q3, .null, .null, .null, .int 0, .int 0, .int 0, .int 0, .int 0, .int 0])), (q1, .inl (E.2.2.2.1 0, 6, .inl (fun _ => 0))), (q2, .inl (E.2.2.2.1 0, 6, .inl (fun _ => 0))), (q3, .inl (E.2.2.2.1 0, 6, .inl (fun _ => 0))), (q4, .inl (E.2.2.2.1 0, 5, .inl (fun _ => 0)))]
  refine n_putF O ff_X1_21 0 (fs := [.ref q1, .ref q2, .ref q3, .null, .null, .null, .int 0, .int 0, .int 0, .int 0, .int 0, .int 0]) rfl (Nat.le_of_ble_eq_true rfl) rfl rfl dX1_init_32 ?_
  show WN E 1 35 4 23 [(0, .ref h0)] [] [(h0, .inr (1, [.ref q1, .ref q2, .ref q3, .ref q4, .null, .null, .int 0, .int 0, .int 0, .int 0, .int 0, .int 0])), (q1, .inl (E.2.2.2.1 0, 6, .inl (fun _ => 0))), (q2, .inl (E.2.2.2.1 0, 6, .inl (fun _ => 0))), (q3, .inl (E.2.2.2.1 0, 6, .inl (fun _ => 0))), (q4, .inl (E.2.2.2.1 0, 5, .inl (fun _ => 0)))]
  refine n_aload_n O 0 dX1_init_35 rfl rfl ?_
  refine n_new (C := RX2) (T := TX2) (N := 3) (ci := 2) (fs := dfX2) O tyX2 tw_X2 tyX2_ok cl_X1_24 is_X2 ii_X2 rfl dfX2_ok (by decide +kernel) (by decide +kernel) dX1_init_36 (fun q5 => ?_)
  refine n_dup O dX1_init_39 rfl ?_
  refine n_bipush (v := 8) O dX1_init_40 rfl ?_
  refine n_ctor (cl := 5) (sl := 26) (ws := [(h0, .inr (1, [.ref q1, .ref q2, .ref q3, .ref q4, .null, .null, .int 0, .int 0, .int 0, .int 0, .int 0, .int 0])), (q1, .inl (E.2.2.2.1 0, 6, .inl (fun _ => 0))), (q2, .inl (E.2.2.2.1 0, 6, .inl (fun _ => 0))), (q3, .inl (E.2.2.2.1 0, 6, .inl (fun _ => 0))), (q4, .inl (E.2.2.2.1 0, 5, .inl (fun _ => 0)))]) (As := [.int 8]) (st := [.ref q5, .ref h0]) O li_X1_26 (k_X2_init q5 (n := 8) (N := 8) rfl (by decide) (by decide) (by decide) (by decide)) rfl (by decide +kernel) rfl (Nat.le_of_ble_eq_true rfl) (by decide +kernel) (by decide +kernel) dX1_init_42 (fun w1 hw1 => ?_)
  obtain ⟨q6, q7, rfl⟩ := hw1
  show WN E 1 45 7 42 [(0, .ref h0)] [.ref q5, .ref h0] [(h0, .inr (1, [.ref q1, .ref q2, .ref q3, .ref q4, .null, .null, .int 0, .int 0, .int 0, .int 0, .int 0, .int 0])), (q1, .inl (E.2.2.2.1 0, 6, .inl (fun _ => 0))), (q2, .inl (E.2.2.2.1 0, 6, .inl (fun _ => 0))), (q3, .inl (E.2.2.2.1 0, 6, .inl (fun _ => 0))), (q4, .inl (E.2.2.2.1 0, 5, .inl (fun _ => 0))), (q5, .inr (2, [.ref q6, .ref q7, .int 0])), (q6, .inl (E.2.2.2.1 0, 8, .inl (fun _ => 0))), (q7, .inl (E.2.2.2.1 0, 8, .inl (fun _ => 0)))]
  refine n_putF O ff_X1_29 0 (fs := [.ref q1, .ref q2, .ref q3, .ref q4, .null, .null, .int 0, .int 0, .int 0, .int 0, .int 0, .int 0]) rfl (Nat.le_of_ble_eq_true rfl) rfl rfl dX1_init_45 ?_
  show WN E 1 48 7 42 [(0, .ref h0)] [] [(h0, .inr (1, [.ref q1, .ref q2, .ref q3, .ref q4, .ref q5, .null, .int 0, .int 0, .int 0, .int 0, .int 0, .int 0])), (q1, .inl (E.2.2.2.1 0, 6, .inl (fun _ => 0))), (q2, .inl (E.2.2.2.1 0, 6, .inl (fun _ => 0))), (q3, .inl (E.2.2.2.1 0, 6, .inl (fun _ => 0))), (q4, .inl (E.2.2.2.1 0, 5, .inl (fun _ => 0))), (q5, .inr (2, [.ref q6, .ref q7, .int 0])), (q6, .inl (E.2.2.2.1 0, 8, .inl (fun _ => 0))), (q7, .inl (E.2.2.2.1 0, 8, .inl (fun _ => 0)))]
  refine n_aload_n O 0 dX1_init_48 rfl rfl ?_
  refine n_new (C := RX2) (T := TX2) (N := 3) (ci := 2) (fs := dfX2) O tyX2 tw_X2 tyX2_ok cl_X1_24 is_X2 ii_X2 rfl dfX2_ok (by decide +kernel) (by decide +kernel) dX1_init_49 (fun q8 => ?_)
  refine n_dup O dX1_init_52 rfl ?_
  refine n_bipush (v := 6) O dX1_init_53 rfl ?_
  refine n_ctor (cl := 8) (sl := 45) (ws := [(h0, .inr (1, [.ref q1, .ref q2, .ref q3, .ref q4, .ref q5, .null, .int 0, .int 0, .int 0, .int 0, .int 0, .int 0])), (q1, .inl (E.2.2.2.1 0, 6, .inl (fun _ => 0))), (q2, .inl (E.2.2.2.1 0, 6, .inl (fun _ => 0))), (q3, .inl (E.2.2.2.1 0, 6, .inl (fun _ => 0))), (q4, .inl (E.2.2.2.1 0, 5, .inl (fun _ => 0))), (q5, .inr (2, [.ref q6, .ref q7, .int 0])), (q6, .inl (E.2.2.2.1 0, 8, .inl (fun _ => 0))), (q7, .inl (E.2.2.2.1 0, 8, .inl (fun _ => 0)))]) (As := [.int 6]) (st := [.ref q8, .ref h0]) O li_X1_26 (k_X2_init q8 (n := 6) (N := 6) rfl (by decide) (by decide) (by decide) (by decide)) rfl (by decide +kernel) rfl (Nat.le_of_ble_eq_true rfl) (by decide +kernel) (by decide +kernel) dX1_init_55 (fun w1 hw1 => ?_)
  obtain ⟨q9, q10, rfl⟩ := hw1
  show WN E 1 58 10 61 [(0, .ref h0)] [.ref q8, .ref h0] [(h0, .inr (1, [.ref q1, .ref q2, .ref q3, .ref q4, .ref q5, .null, .int 0, .int 0, .int 0, .int 0, .int 0, .int 0])), (q1, .inl (E.2.2.2.1 0, 6, .inl (fun _ => 0))), (q2, .inl (E.2.2.2.1 0, 6, .inl (fun _ => 0))), (q3, .inl (E.2.2.2.1 0, 6, .inl (fun _ => 0))), (q4, .inl (E.2.2.2.1 0, 5, .inl (fun _ => 0))), (q5, .inr (2, [.ref q6, .ref q7, .int 0])), (q6, .inl (E.2.2.2.1 0, 8, .inl (fun _ => 0))), (q7, .inl (E.2.2.2.1 0, 8, .inl (fun _ => 0))), (q8, .inr (2, [.ref q9, .ref q10, .int 0])), (q9, .inl (E.2.2.2.1 0, 6, .inl (fun _ => 0))), (q10, .inl (E.2.2.2.1 0, 6, .inl (fun _ => 0)))]
  refine n_putF O ff_X1_33 0 (fs := [.ref q1, .ref q2, .ref q3, .ref q4, .ref q5, .null, .int 0, .int 0, .int 0, .int 0, .int 0, .int 0]) rfl (Nat.le_of_ble_eq_true rfl) rfl rfl dX1_init_58 ?_
  show WN E 1 61 10 61 [(0, .ref h0)] [] [(h0, .inr (1, [.ref q1, .ref q2, .ref q3, .ref q4, .ref q5, .ref q8, .int 0, .int 0, .int 0, .int 0, .int 0, .int 0])), (q1, .inl (E.2.2.2.1 0, 6, .inl (fun _ => 0))), (q2, .inl (E.2.2.2.1 0, 6, .inl (fun _ => 0))), (q3, .inl (E.2.2.2.1 0, 6, .inl (fun _ => 0))), (q4, .inl (E.2.2.2.1 0, 5, .inl (fun _ => 0))), (q5, .inr (2, [.ref q6, .ref q7, .int 0])), (q6, .inl (E.2.2.2.1 0, 8, .inl (fun _ => 0))), (q7, .inl (E.2.2.2.1 0, 8, .inl (fun _ => 0))), (q8, .inr (2, [.ref q9, .ref q10, .int 0])), (q9, .inl (E.2.2.2.1 0, 6, .inl (fun _ => 0))), (q10, .inl (E.2.2.2.1 0, 6, .inl (fun _ => 0)))]
  refine n_aload_n O 0 dX1_init_61 rfl rfl ?_
  refine n_iconst (v := 1) O dX1_init_62 rfl ?_
  refine n_putI O fi_X1_36 0 (fs := [.ref q1, .ref q2, .ref q3, .ref q4, .ref q5, .ref q8, .int 0, .int 0, .int 0, .int 0, .int 0, .int 0]) rfl (Nat.le_of_ble_eq_true rfl) dX1_init_63 ?_
  show WN E 1 66 10 61 [(0, .ref h0)] [] [(h0, .inr (1, [.ref q1, .ref q2, .ref q3, .ref q4, .ref q5, .ref q8, .int 0, .int 0, .int 0, .int 0, .int 1, .int 0])), (q1, .inl (E.2.2.2.1 0, 6, .inl (fun _ => 0))), (q2, .inl (E.2.2.2.1 0, 6, .inl (fun _ => 0))), (q3, .inl (E.2.2.2.1 0, 6, .inl (fun _ => 0))), (q4, .inl (E.2.2.2.1 0, 5, .inl (fun _ => 0))), (q5, .inr (2, [.ref q6, .ref q7, .int 0])), (q6, .inl (E.2.2.2.1 0, 8, .inl (fun _ => 0))), (q7, .inl (E.2.2.2.1 0, 8, .inl (fun _ => 0))), (q8, .inr (2, [.ref q9, .ref q10, .int 0])), (q9, .inl (E.2.2.2.1 0, 6, .inl (fun _ => 0))), (q10, .inl (E.2.2.2.1 0, 6, .inl (fun _ => 0)))]
  refine n_aload_n O 0 dX1_init_66 rfl rfl ?_
  refine n_get O fh_X1_21 0 (fs := [.ref q1, .ref q2, .ref q3, .ref q4, .ref q5, .ref q8, .int 0, .int 0, .int 0, .int 0, .int 1, .int 0]) rfl rfl dX1_init_67 ?_
  refine n_iconst (v := 4) O dX1_init_70 rfl ?_
  obtain ⟨σ1, _, ef, hv, -⟩ := e_fill (k := 0) (N := 5) 4 (by decide) ((fun _ _ => 0, fun _ _ => 0) : StA)
  refine n_sub [0, 1, 2, 3, 5, 6, 7, 8, 9, 10, 4] (ws' := [(h0, .inr (1, [.ref q1, .ref q2, .ref q3, .ref q4, .ref q5, .ref q8, .int 0, .int 0, .int 0, .int 0, .int 1, .int 0])), (q1, .inl (E.2.2.2.1 0, 6, .inl (fun _ => 0))), (q2, .inl (E.2.2.2.1 0, 6, .inl (fun _ => 0))), (q3, .inl (E.2.2.2.1 0, 6, .inl (fun _ => 0))), (q5, .inr (2, [.ref q6, .ref q7, .int 0])), (q6, .inl (E.2.2.2.1 0, 8, .inl (fun _ => 0))), (q7, .inl (E.2.2.2.1 0, 8, .inl (fun _ => 0))), (q8, .inr (2, [.ref q9, .ref q10, .int 0])), (q9, .inl (E.2.2.2.1 0, 6, .inl (fun _ => 0))), (q10, .inl (E.2.2.2.1 0, 6, .inl (fun _ => 0)))] ++ wld fM (phL [q4] E.2.2.1) E.2.2.2.1 ((fun _ _ => 0, fun _ _ => 0) : StA)) rfl (by decide) ?_
  refine n_SV (As := [.ref q4, .int 4]) (st := []) O (phL_ge (Nat.le_of_ble_eq_true rfl)) lf_X1_40 (k_J7_fill_53178 (M := fM) (a0 := 0) (a0n := 5) ⟨by decide, rfl⟩ ef) rfl rfl ⟨rfl, rfl⟩ (by decide +kernel) rfl (Nat.le_of_ble_eq_true rfl) (by decide +kernel) dX1_init_71 ?_
  show WN E 1 74 10 61 [(0, .ref h0)] [] ([(h0, .inr (1, [.ref q1, .ref q2, .ref q3, .ref q4, .ref q5, .ref q8, .int 0, .int 0, .int 0, .int 0, .int 1, .int 0])), (q1, .inl (E.2.2.2.1 0, 6, .inl (fun _ => 0))), (q2, .inl (E.2.2.2.1 0, 6, .inl (fun _ => 0))), (q3, .inl (E.2.2.2.1 0, 6, .inl (fun _ => 0))), (q5, .inr (2, [.ref q6, .ref q7, .int 0])), (q6, .inl (E.2.2.2.1 0, 8, .inl (fun _ => 0))), (q7, .inl (E.2.2.2.1 0, 8, .inl (fun _ => 0))), (q8, .inr (2, [.ref q9, .ref q10, .int 0])), (q9, .inl (E.2.2.2.1 0, 6, .inl (fun _ => 0))), (q10, .inl (E.2.2.2.1 0, 6, .inl (fun _ => 0)))] ++ [(q4, .inl (E.2.2.2.1 0, 5, .inl (fun i => gi σ1 0 i)))])
  refine n_rowi (f := fun i => gi σ1 0 i) (g := fun _ => 4) 10 rfl hv ?_
  refine n_sub [0, 1, 2, 3, 10, 4, 5, 6, 7, 8, 9] (ws' := [(h0, .inr (1, [.ref q1, .ref q2, .ref q3, .ref q4, .ref q5, .ref q8, .int 0, .int 0, .int 0, .int 0, .int 1, .int 0])), (q1, .inl (E.2.2.2.1 0, 6, .inl (fun _ => 0))), (q2, .inl (E.2.2.2.1 0, 6, .inl (fun _ => 0))), (q3, .inl (E.2.2.2.1 0, 6, .inl (fun _ => 0))), (q4, .inl (E.2.2.2.1 0, 5, .inl (fun _ => 4))), (q5, .inr (2, [.ref q6, .ref q7, .int 0])), (q6, .inl (E.2.2.2.1 0, 8, .inl (fun _ => 0))), (q7, .inl (E.2.2.2.1 0, 8, .inl (fun _ => 0))), (q8, .inr (2, [.ref q9, .ref q10, .int 0])), (q9, .inl (E.2.2.2.1 0, 6, .inl (fun _ => 0))), (q10, .inl (E.2.2.2.1 0, 6, .inl (fun _ => 0)))]) rfl (by decide) ?_
  exact n_vret O hret dX1_init_74 (by decide +kernel) (by decide +kernel) ⟨_, _, _, _, _, _, _, _, _, _, rfl⟩
