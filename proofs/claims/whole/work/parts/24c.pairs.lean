/-! how many pairs -/
section ZPA
variable {g : Nat → Nat} {h : zMem} {o n : Nat}
theorem q_Sets_pairs (h1 : kd h o = 8) (h2 : gI h o 1 = nI n) (hn : n ≤ 10) : call g Sets_pairs [.ref o] h = some (some (.int (nI (n * (n - 1) / 2))), h) := by
  rw [n_Sets_pairs]
  have e2 : (nI 2 = (0 : Int32)) = False := eq_false (by decide)
  simp only [s_Sets_pairs_0, s_Sets_pairs_1, s_Sets_pairs_4, s_Sets_pairs_5, s_Sets_pairs_8, s_Sets_pairs_9, s_Sets_pairs_10, s_Sets_pairs_11, s_Sets_pairs_12, s_Sets_pairs_13, h1, h2, e2, ↓reduceIte]
  rcases n with _ | m
  · rfl
  · rw [y_sub (Nat.le_add_left 1 m), y_mul, y_div (Nat.lt_of_le_of_lt (Nat.mul_le_mul hn (show m + 1 - 1 ≤ 10 by omega)) (by decide)) (by decide)]
end ZPA
