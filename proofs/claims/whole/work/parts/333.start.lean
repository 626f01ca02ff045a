/-! The two fresh objects are related. -/
theorem r0_start {m1 m2 : StA} (a1 : (∀ j, j < 63 → gi m1 4 j = if 28 ≤ j ∧ j < 33 then 4 else if j = 26 then 1 else 0) ∧ gi m1 0 5 = 0 ∧ gi m1 0 6 = 0 ∧ gi m1 0 7 = 0 ∧ gi m1 0 8 = 0 ∧ eqC (fun x y => x = 4 ∨ (x = 0 ∧ 5 ≤ y ∧ y ≤ 8)) m00 m1) (a2 : (∀ j, j < 63 → gi m2 1 j = gi m1 4 j) ∧ gi m2 0 3 = gi m1 0 5 ∧ (∀ j, j < 2 → gi m2 3 j = 0) ∧ eqC (fun x y => (x = 1 ∧ y < 63) ∨ (x = 0 ∧ y = 3) ∨ x = 3) m1 m2) : R0 c0 m2 := by
  have k1 : ∀ j, j < 63 → gi m2 1 j = if 28 ≤ j ∧ j < 33 then 4 else if j = 26 then 1 else 0 := fun j hj => (a2.1 j hj).trans (a1.1 j hj)
  have k2 : ∀ x y, 5 ≤ x → gi m2 x y = gi m00 x y := fun x y hx => (a2.2.2.2.1 x y (by omega)).trans (a1.2.2.2.2.2.1 x y (by omega))
  have k3 : ∀ y, 8 < y → gi m2 0 y = gi m00 0 y := fun y hy => (a2.2.2.2.1 0 y (by omega)).trans (a1.2.2.2.2.2.1 0 y (by omega))
  have z : ∀ j, j < 63 → ¬ (28 ≤ j ∧ j < 33) → ¬ j = 26 → gi m2 1 j = 0 := fun j h1 h2 h3 => by rw [k1 j h1, if_neg h2, if_neg h3]
  refine ⟨0, 0, 0, 0, ⟨by decide, rfl, a2.2.1.trans a1.2.1, fun i hi => absurd hi (by omega), ⟨by decide, rfl, fun i hi => absurd hi (by omega)⟩, ?_, ?_, ?_, ?_⟩, ?_, ?_, ?_, ?_, ?_, ?_⟩
  · refine ⟨?_, ⟨by decide, by decide⟩, ?_, ⟨by decide, by decide⟩, ?_, ⟨by decide, by decide⟩, ?_, ⟨by decide, by decide⟩⟩
    · exact (z 24 (by omega) (by omega) (by omega)).symm
    · exact (z 25 (by omega) (by omega) (by omega)).symm
    · exact (k1 26 (by omega)).symm
    · exact (z 27 (by omega) (by omega) (by omega)).symm
  · intro j hj
    refine ⟨?_, ⟨?_, ?_⟩⟩
    · show (4 : Int32) = gi m2 1 (0 + (28 + j))
      rw [k1 _ (by omega), if_pos (by omega)]
    · show 0 ≤ (4 : Int32).toInt
      decide
    · show (4 : Int32).toInt ≤ 8
      decide
  · exact ⟨by omega, rfl, z 33 (by omega) (by omega) (by omega), fun j hj => absurd hj (by omega)⟩
  · exact ⟨by omega, rfl, z 50 (by omega) (by omega) (by omega), fun j hj => absurd hj (by omega)⟩
  · decide
  · exact fun j hj => Or.inl ⟨rfl, a2.2.2.1 j hj⟩
  · exact ⟨0, by omega, rfl, k3 10 (by omega), fun j hj => absurd hj (by omega)⟩
  · exact (k3 15 (by omega)).symm
  · exact (k3 32 (by omega)).symm
  · intro j hj
    refine ⟨Or.inl ⟨?_, k2 8 j (by omega)⟩, ?_, ?_, fun i hi => ?_⟩
    · rcases (show j = 0 ∨ j = 1 ∨ j = 2 ∨ j = 3 by omega) with rfl | rfl | rfl | rfl <;> rfl
    · rw [k2 9 j (by omega)]
      rcases (show j = 0 ∨ j = 1 ∨ j = 2 ∨ j = 3 by omega) with rfl | rfl | rfl | rfl <;> rfl
    · rw [k2 9 j (by omega)]
      show 0 ≤ (0 : Int32).toInt ∧ (0 : Int32).toInt ≤ 40
      decide
    · rw [k2 10 _ (by omega)]
      rcases (show j = 0 ∨ j = 1 ∨ j = 2 ∨ j = 3 by omega) with rfl | rfl | rfl | rfl <;> rfl
