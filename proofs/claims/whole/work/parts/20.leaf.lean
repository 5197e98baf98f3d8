/-! the leaves -/
section ZLF
variable {g : Nat → Nat} {h : zMem}
theorem q_Math_min {x y : Int32} : call g Math_min [.int x, .int y] h = some (some (.int (if y < x then y else x)), h) := by
  rw [n_Math_min]
  simp only [s_Math_min_0, s_Math_min_1, s_Math_min_2, s_Math_min_5, s_Math_min_6, s_Math_min_9, s_Math_min_10]
  split <;> rfl
theorem q_Math_max {x y : Int32} : call g Math_max [.int x, .int y] h = some (some (.int (if x < y then y else x)), h) := by
  rw [n_Math_max]
  simp only [s_Math_max_0, s_Math_max_1, s_Math_max_2, s_Math_max_5, s_Math_max_6, s_Math_max_9, s_Math_max_10]
  split <;> rfl
end ZLF
