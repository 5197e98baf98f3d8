/-! more for simp -/
theorem b_if {α : Type} {p : Prop} [Decidable p] {a b : α} : (if bZ p = (0 : Int32) then a else b) = if p then b else a := bZ_if
theorem b_z1 : ((nI 1 : Int32) = 0) = False := eq_false (by decide)
theorem b_z0 : ((nI 0 : Int32) = 0) = True := eq_true (by decide)
theorem b_zz : ((0 : Int32) = 0) = True := eq_true rfl
theorem b_a1 : (nI 1 &&& 1 = nI 1) = True := y_b1
theorem b_a0 : (nI 0 &&& 1 = nI 0) = True := y_b0
/-- class and reference answer alike, and hold one state behind it -/
def JJ (g : Nat → Nat) (B SL : Nat) (cm mm : zM) (as : List Value) (h : zMem) : Prop := ∃ (h1 h2 : zMem) (v : Int32), call g cm (.ref B :: as) h = some (some (.int v), h1) ∧ call g mm (.ref (B + 145) :: as) h1 = some (some (.int v), h2) ∧ JX g B SL h2
