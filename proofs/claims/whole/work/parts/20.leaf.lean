/-! the leaves -/
/-- a truth as the machine holds it -/
def bZ (p : Prop) [Decidable p] : Int32 := if p then nI 1 else nI 0
theorem y_b1 : (nI 1 &&& 1 = nI 1) = True := eq_true (by decide)
theorem y_b0 : (nI 0 &&& 1 = nI 0) = True := eq_true (by decide)
theorem bZ_t {p : Prop} [Decidable p] (h : p) : bZ p = nI 1 := if_pos h
theorem bZ_f {p : Prop} [Decidable p] (h : ¬ p) : bZ p = nI 0 := if_neg h
theorem bZ_and {p : Prop} [Decidable p] : (bZ p &&& 1 = bZ p) = True := by unfold bZ; split; exact y_b1; exact y_b0
theorem bZ_0 {p : Prop} [Decidable p] : (bZ p = 0) = ¬ p := by
  unfold bZ
  split
  · exact propext ⟨fun h => absurd h (by decide), fun h => absurd ‹p› h⟩
  · exact propext ⟨fun _ => ‹¬ p›, fun _ => by decide⟩
theorem bZ_if {α : Type} {p : Prop} [Decidable p] {a b : α} : (if bZ p = 0 then a else b) = if p then b else a := by
  by_cases q : p
  · rw [if_pos q, if_neg]; rw [bZ_0]; exact fun h => h q
  · rw [if_neg q, if_pos]; rw [bZ_0]; exact q
section ZLF
variable {g : Nat → Nat} {h : zMem} {a b : Nat} {x y z : Int32}
theorem q_Math_min : call g Math_min [.int x, .int y] h = some (some (.int (if y < x then y else x)), h) := by
  rw [n_Math_min]
  simp only [s_Math_min_0, s_Math_min_1, s_Math_min_2, s_Math_min_5, s_Math_min_6, s_Math_min_9, s_Math_min_10]
  split <;> rfl
theorem q_Math_max : call g Math_max [.int x, .int y] h = some (some (.int (if x < y then y else x)), h) := by
  rw [n_Math_max]
  simp only [s_Math_max_0, s_Math_max_1, s_Math_max_2, s_Math_max_5, s_Math_max_6, s_Math_max_9, s_Math_max_10]
  split <;> rfl
theorem q_DC_isOrder : call g DC_isOrder [.int x] h = some (some (.int (bZ (¬ x < 0 ∧ x < nI 3))), h) := by
  rw [n_DC_isOrder]
  simp only [s_DC_isOrder_0, s_DC_isOrder_1, s_DC_isOrder_4, s_DC_isOrder_5, s_DC_isOrder_6, s_DC_isOrder_9, s_DC_isOrder_10, s_DC_isOrder_13, s_DC_isOrder_14, y_b1, y_b0, ↓reduceIte]
  unfold bZ
  repeat' split
  all_goals first | rfl | contradiction | (exfalso; simp_all; done)
theorem q_DC_isSet : call g DC_isSet [.int x] h = some (some (.int (bZ (0 < x ∧ ¬ nI 255 < x))), h) := by
  rw [n_DC_isSet]
  simp only [s_DC_isSet_0, s_DC_isSet_1, s_DC_isSet_4, s_DC_isSet_5, s_DC_isSet_8, s_DC_isSet_11, s_DC_isSet_12, s_DC_isSet_15, s_DC_isSet_16, y_b1, y_b0, ↓reduceIte]
  unfold bZ
  repeat' split
  all_goals first | rfl | contradiction | (exfalso; simp_all; done)
theorem q_DC_isShelf : call g DC_isShelf [.int x] h = some (some (.int (bZ (¬ x < 0 ∧ x < nI 8))), h) := by
  rw [n_DC_isShelf]
  simp only [s_DC_isShelf_0, s_DC_isShelf_1, s_DC_isShelf_4, s_DC_isShelf_5, s_DC_isShelf_7, s_DC_isShelf_10, s_DC_isShelf_11, s_DC_isShelf_14, s_DC_isShelf_15, y_b1, y_b0, ↓reduceIte]
  unfold bZ
  repeat' split
  all_goals first | rfl | contradiction | (exfalso; simp_all; done)
theorem q_DC_isWay : call g DC_isWay [.int x] h = some (some (.int (bZ (¬ x < 0 ∧ x < nI 8))), h) := by
  rw [n_DC_isWay]
  simp only [s_DC_isWay_0, s_DC_isWay_1, s_DC_isWay_4, s_DC_isWay_5, s_DC_isWay_7, s_DC_isWay_10, s_DC_isWay_11, s_DC_isWay_14, s_DC_isWay_15, y_b1, y_b0, ↓reduceIte]
  unfold bZ
  repeat' split
  all_goals first | rfl | contradiction | (exfalso; simp_all; done)
theorem q_DC_isYear : call g DC_isYear [.int x] h = some (some (.int (bZ (¬ x < 0 ∧ ¬ nI 999 < x))), h) := by
  rw [n_DC_isYear]
  simp only [s_DC_isYear_0, s_DC_isYear_1, s_DC_isYear_4, s_DC_isYear_5, s_DC_isYear_8, s_DC_isYear_11, s_DC_isYear_12, s_DC_isYear_15, s_DC_isYear_16, y_b1, y_b0, ↓reduceIte]
  unfold bZ
  repeat' split
  all_goals first | rfl | contradiction | (exfalso; simp_all; done)
theorem q_Mo_isDigit : call g Mo_isDigit [.int x] h = some (some (.int (bZ (¬ x < nI 48 ∧ ¬ nI 57 < x))), h) := by
  rw [n_Mo_isDigit]
  simp only [s_Mo_isDigit_0, s_Mo_isDigit_1, s_Mo_isDigit_3, s_Mo_isDigit_6, s_Mo_isDigit_7, s_Mo_isDigit_9, s_Mo_isDigit_12, s_Mo_isDigit_13, s_Mo_isDigit_16, s_Mo_isDigit_17, y_b1, y_b0, ↓reduceIte]
  unfold bZ
  repeat' split
  all_goals first | rfl | contradiction | (exfalso; simp_all; done)
theorem q_Tape_isDigit : call g Tape_isDigit [.int x] h = some (some (.int (bZ (¬ x < nI 48 ∧ ¬ nI 57 < x))), h) := by
  rw [n_Tape_isDigit]
  simp only [s_Tape_isDigit_0, s_Tape_isDigit_1, s_Tape_isDigit_3, s_Tape_isDigit_6, s_Tape_isDigit_7, s_Tape_isDigit_9, s_Tape_isDigit_12, s_Tape_isDigit_13, s_Tape_isDigit_16, s_Tape_isDigit_17, y_b1, y_b0, ↓reduceIte]
  unfold bZ
  repeat' split
  all_goals first | rfl | contradiction | (exfalso; simp_all; done)
theorem q_Mo_isLetter : call g Mo_isLetter [.int x] h = some (some (.int (bZ (¬ x < nI 97 ∧ ¬ nI 122 < x))), h) := by
  rw [n_Mo_isLetter]
  simp only [s_Mo_isLetter_0, s_Mo_isLetter_1, s_Mo_isLetter_3, s_Mo_isLetter_6, s_Mo_isLetter_7, s_Mo_isLetter_9, s_Mo_isLetter_12, s_Mo_isLetter_13, s_Mo_isLetter_16, s_Mo_isLetter_17, y_b1, y_b0, ↓reduceIte]
  unfold bZ
  repeat' split
  all_goals first | rfl | contradiction | (exfalso; simp_all; done)
theorem q_Tape_isLetter : call g Tape_isLetter [.int x] h = some (some (.int (bZ (¬ x < nI 97 ∧ ¬ nI 122 < x))), h) := by
  rw [n_Tape_isLetter]
  simp only [s_Tape_isLetter_0, s_Tape_isLetter_1, s_Tape_isLetter_3, s_Tape_isLetter_6, s_Tape_isLetter_7, s_Tape_isLetter_9, s_Tape_isLetter_12, s_Tape_isLetter_13, s_Tape_isLetter_16, s_Tape_isLetter_17, y_b1, y_b0, ↓reduceIte]
  unfold bZ
  repeat' split
  all_goals first | rfl | contradiction | (exfalso; simp_all; done)
theorem q_Land_hasField (hk : kd h a = 4) : call g Land_hasField [.ref a, .int x] h = some (some (.int (bZ (¬ x < 0 ∧ x < gI h a 1))), h) := by
  rw [n_Land_hasField]
  simp only [s_Land_hasField_0, s_Land_hasField_1, s_Land_hasField_4, s_Land_hasField_5, s_Land_hasField_6, s_Land_hasField_9, s_Land_hasField_12, s_Land_hasField_13, s_Land_hasField_16, s_Land_hasField_17, y_b1, y_b0, ↓reduceIte, hk]
  unfold bZ
  repeat' split
  all_goals first | rfl | contradiction | (exfalso; simp_all; done)
theorem q_Land_hasDeed (hk : kd h a = 4) : call g Land_hasDeed [.ref a, .int x] h = some (some (.int (bZ (¬ x < 0 ∧ x < gI h a 3))), h) := by
  rw [n_Land_hasDeed]
  simp only [s_Land_hasDeed_0, s_Land_hasDeed_1, s_Land_hasDeed_4, s_Land_hasDeed_5, s_Land_hasDeed_6, s_Land_hasDeed_9, s_Land_hasDeed_12, s_Land_hasDeed_13, s_Land_hasDeed_16, s_Land_hasDeed_17, y_b1, y_b0, ↓reduceIte, hk]
  unfold bZ
  repeat' split
  all_goals first | rfl | contradiction | (exfalso; simp_all; done)
theorem q_Plan_hasCell (hk : kd h a = 5) : call g Plan_hasCell [.ref a, .int x] h = some (some (.int (bZ (¬ x < 0 ∧ x < gI h a 0))), h) := by
  rw [n_Plan_hasCell]
  simp only [s_Plan_hasCell_0, s_Plan_hasCell_1, s_Plan_hasCell_4, s_Plan_hasCell_5, s_Plan_hasCell_6, s_Plan_hasCell_9, s_Plan_hasCell_12, s_Plan_hasCell_13, s_Plan_hasCell_16, s_Plan_hasCell_17, y_b1, y_b0, ↓reduceIte, hk]
  unfold bZ
  repeat' split
  all_goals first | rfl | contradiction | (exfalso; simp_all; done)
theorem q_Shelf_hasPart (hk : kd h a = 9) : call g Shelf_hasPart [.ref a, .int x, .int y] h = some (some (.int (bZ (¬ x < 0 ∧ ¬ y < 0 ∧ ¬ gI h a 1 < x ∧ ¬ gI h a 1 - x < y))), h) := by
  rw [n_Shelf_hasPart]
  simp only [s_Shelf_hasPart_0, s_Shelf_hasPart_1, s_Shelf_hasPart_4, s_Shelf_hasPart_5, s_Shelf_hasPart_8, s_Shelf_hasPart_9, s_Shelf_hasPart_10, s_Shelf_hasPart_13, s_Shelf_hasPart_16, s_Shelf_hasPart_17, s_Shelf_hasPart_18, s_Shelf_hasPart_21, s_Shelf_hasPart_22, s_Shelf_hasPart_23, s_Shelf_hasPart_26, s_Shelf_hasPart_27, s_Shelf_hasPart_30, s_Shelf_hasPart_31, y_b1, y_b0, ↓reduceIte, hk]
  unfold bZ
  repeat' split
  all_goals first | rfl | contradiction | (exfalso; simp_all; done)
theorem q_Shelf_hasRow (hk : kd h a = 9) : call g Shelf_hasRow [.ref a] h = some (some (.int (bZ (¬ gI h a 0 = -1))), h) := by
  rw [n_Shelf_hasRow]
  simp only [s_Shelf_hasRow_0, s_Shelf_hasRow_1, s_Shelf_hasRow_4, s_Shelf_hasRow_5, s_Shelf_hasRow_8, s_Shelf_hasRow_9, s_Shelf_hasRow_12, s_Shelf_hasRow_13, y_b1, y_b0, ↓reduceIte, hk]
  unfold bZ
  repeat' split
  all_goals first | rfl | contradiction | (exfalso; simp_all; done)
theorem q_Shelf_hasField (hk : kd h a = 9) : call g Shelf_hasField [.ref a] h = some (some (.int (bZ (¬ gI h a 2 = -1))), h) := by
  rw [n_Shelf_hasField]
  simp only [s_Shelf_hasField_0, s_Shelf_hasField_1, s_Shelf_hasField_4, s_Shelf_hasField_5, s_Shelf_hasField_8, s_Shelf_hasField_9, s_Shelf_hasField_12, s_Shelf_hasField_13, y_b1, y_b0, ↓reduceIte, hk]
  unfold bZ
  repeat' split
  all_goals first | rfl | contradiction | (exfalso; simp_all; done)
end ZLF
