/-! rows and columns of some cells; the least and the greatest -/
def fRC (R : Bool) (i : Nat) : Nat := if R = true then i / 8 else i % 8
def btr (L : Bool) (x e : Nat) : Prop := (L = true ∧ x < e) ∨ (L = false ∧ e < x)
theorem fRC_lt {R : Bool} {i : Nat} (hi : i < 64) : fRC R i < 8 := by
  unfold fRC
  split <;> omega
/-- the least (greatest) row (column) of some cells below n -/
def isE (v : Int64) (R L : Bool) (n e : Nat) : Prop := (∃ i : Nat, i < n ∧ lb v i = true ∧ fRC R i = e) ∧ ∀ i : Nat, i < n → lb v i = true → ¬ btr L (fRC R i) e
theorem isE_un {v : Int64} {R L : Bool} {n e e' : Nat} (h : isE v R L n e) (h' : isE v R L n e') : e = e' := by
  obtain ⟨⟨i, h1, h2, h3⟩, h4⟩ := h
  obtain ⟨⟨i', h1', h2', h3'⟩, h4'⟩ := h'
  have a := h4 i' h1' h2'
  have b := h4' i h1 h2
  rw [h3'] at a
  rw [h3] at b
  unfold btr at a b
  cases L
  · simp only [Bool.false_eq_true, false_and, true_and, false_or] at a b; omega
  · simp only [true_and, Bool.true_eq_false, false_and, or_false] at a b; omega
theorem isE_lt {v : Int64} {R L : Bool} {n e : Nat} (hn : n ≤ 64) (h : isE v R L n e) : e < 8 := by
  obtain ⟨⟨i, h1, h2, h3⟩, -⟩ := h
  rw [← h3]
  exact fRC_lt (by omega)
def encO (o : Option Nat) : Int32 := match o with
  | none => -1
  | some e => nI e
noncomputable def edF (v : Int64) (R L : Bool) (i : Nat) (x : Option Nat × Value) : Option Nat × Value := if lb v i = true then ((match x.1 with
  | none => some (fRC R i)
  | some e => @ite _ (btr L (fRC R i) e) (Classical.propDecidable _) (some (fRC R i)) (some e)), .int (nI (fRC R i))) else x
def edQ (v : Int64) (R L : Bool) (i : Nat) (x : Option Nat × Value) : Prop := match x.1 with
  | none => ∀ j : Nat, j < i → lb v j = false
  | some e => isE v R L i e
theorem btr_tr {L : Bool} {x y z : Nat} (h : ¬ btr L x y) (k : btr L z y) : ¬ btr L x z := by
  unfold btr at *
  cases L
  · simp only [Bool.false_eq_true, false_and, true_and, false_or] at *; omega
  · simp only [true_and, Bool.true_eq_false, false_and, or_false] at *; omega
theorem btr_ir {L : Bool} {x : Nat} : ¬ btr L x x := by
  unfold btr
  rintro (⟨-, h⟩ | ⟨-, h⟩) <;> omega
theorem edQ_s {v : Int64} {R L : Bool} {i : Nat} {x : Option Nat × Value} (h : edQ v R L i x) : edQ v R L (i + 1) (edF v R L i x) := by
  obtain ⟨o, w⟩ := x
  unfold edF
  by_cases z : lb v i = true
  · rw [if_pos z]
    cases o with
    | none =>
      refine ⟨⟨i, by omega, z, rfl⟩, fun j hj hb => ?_⟩
      by_cases q : j = i
      · rw [q]; exact btr_ir
      · have := (h : ∀ j : Nat, j < i → lb v j = false) j (by omega)
        rw [this] at hb
        exact absurd hb (by decide)
    | some e =>
      have h' : isE v R L i e := h
      obtain ⟨⟨k, h1, h2, h3⟩, h4⟩ := h'
      by_cases c : btr L (fRC R i) e
      · unfold edQ
        dsimp only
        rw [if_pos c]
        refine ⟨⟨i, by omega, z, rfl⟩, fun j hj hb => ?_⟩
        by_cases q : j = i
        · rw [q]; exact btr_ir
        · exact btr_tr (h4 j (by omega) hb) c
      · unfold edQ
        dsimp only
        rw [if_neg c]
        refine ⟨⟨k, by omega, h2, h3⟩, fun j hj hb => ?_⟩
        by_cases q : j = i
        · rw [q]; exact c
        · exact h4 j (by omega) hb
  · rw [if_neg z]
    cases o with
    | none =>
      intro j hj
      by_cases q : j = i
      · rw [q]; exact Bool.eq_false_iff.2 z
      · exact (h : ∀ j : Nat, j < i → lb v j = false) j (by omega)
    | some e =>
      have h' : isE v R L i e := h
      obtain ⟨⟨k, h1, h2, h3⟩, h4⟩ := h'
      refine ⟨⟨k, by omega, h2, h3⟩, fun j hj hb => ?_⟩
      by_cases q : j = i
      · rw [q] at hb; exact absurd hb z
      · exact h4 j (by omega) hb
section ZED
variable {g : Nat → Nat} {h : zMem} {v : Int64}
theorem q_Mo_rowOf {i : Nat} (hi : i < 64) : call g Mo_rowOf [.int (nI i)] h = some (some (.int (nI (i / 8))), h) := by
  have nz : (nI 8 = (0 : Int32)) = False := eq_false (by decide)
  rw [n_Mo_rowOf]
  simp (disch := omega) only [s_Mo_rowOf_0, s_Mo_rowOf_1, s_Mo_rowOf_3, s_Mo_rowOf_4, y_kd_sI, y_kd_sL, y_kd_sR, y_kd_cpI, y_kd_cpL, y_ln_sI, y_ln_sL, y_ln_sR, y_ln_cpI, y_ln_cpL, y_sz_sI, y_sz_sL, y_sz_sR, y_sz_cpI, y_sz_cpL, y_sl_sI, y_sl_sL, y_sl_sR, y_sl_cpI, y_sl_cpL, y_gI_sL, y_gI_sR, y_gI_cpI, y_gI_cpL, y_gI_nw, y_gL_sI, y_gL_sR, y_gL_cpI, y_gL_cpL, y_gL_nw, y_gR_sI, y_gR_sL, y_gR_cpI, y_gR_cpL, y_gR_nw, y_kd_nw, y_ln_nw, y_sz_nw, y_sl_nw, y_fx_int, y_fx_long, y_fx_ref, y_fx_null, y_fx_U, y_rf_s, y_rf_n, a_inb, a_ix, a_lt, a_eq, a_eq0, a_lt0, a_0lt, a_m1, a_m2, a_mlt, a_sub, a_dec, a_div, a_rem, a_shl, a_shr, a_bit, a_bit0, a_II, a_Ia, a_Ik, a_LL, a_La, a_Lk, a_RR, a_Ra, a_Rk, a_if0, a_if1, y_mul, y_and, y_or, nI_add, y_b1, y_b0, kon_v, kon_0, true_or, or_true, and_self, true_and, and_true, false_or, or_false, and_false, false_and, not_true_eq_false, not_false_eq_true, ite_self, ↓reduceIte, Nat.reduceEqDiff, Nat.reduceLeDiff, Nat.reduceAdd, Nat.reduceMul, Nat.reduceSub, Nat.reduceLT, Nat.reduceShiftLeft, Nat.reduceOr, Nat.reduceAnd, Bool.false_eq_true, b_if, b_z1, b_z0, b_zz, b_a1, b_a0, b_lc, b_zF, b_zT, b_lbit, nz]
theorem q_Mo_columnOf {i : Nat} (hi : i < 64) : call g Mo_columnOf [.int (nI i)] h = some (some (.int (nI (i % 8))), h) := by
  have nz : (nI 8 = (0 : Int32)) = False := eq_false (by decide)
  rw [n_Mo_columnOf]
  simp (disch := omega) only [s_Mo_columnOf_0, s_Mo_columnOf_1, s_Mo_columnOf_3, s_Mo_columnOf_4, y_kd_sI, y_kd_sL, y_kd_sR, y_kd_cpI, y_kd_cpL, y_ln_sI, y_ln_sL, y_ln_sR, y_ln_cpI, y_ln_cpL, y_sz_sI, y_sz_sL, y_sz_sR, y_sz_cpI, y_sz_cpL, y_sl_sI, y_sl_sL, y_sl_sR, y_sl_cpI, y_sl_cpL, y_gI_sL, y_gI_sR, y_gI_cpI, y_gI_cpL, y_gI_nw, y_gL_sI, y_gL_sR, y_gL_cpI, y_gL_cpL, y_gL_nw, y_gR_sI, y_gR_sL, y_gR_cpI, y_gR_cpL, y_gR_nw, y_kd_nw, y_ln_nw, y_sz_nw, y_sl_nw, y_fx_int, y_fx_long, y_fx_ref, y_fx_null, y_fx_U, y_rf_s, y_rf_n, a_inb, a_ix, a_lt, a_eq, a_eq0, a_lt0, a_0lt, a_m1, a_m2, a_mlt, a_sub, a_dec, a_div, a_rem, a_shl, a_shr, a_bit, a_bit0, a_II, a_Ia, a_Ik, a_LL, a_La, a_Lk, a_RR, a_Ra, a_Rk, a_if0, a_if1, y_mul, y_and, y_or, nI_add, y_b1, y_b0, kon_v, kon_0, true_or, or_true, and_self, true_and, and_true, false_or, or_false, and_false, false_and, not_true_eq_false, not_false_eq_true, ite_self, ↓reduceIte, Nat.reduceEqDiff, Nat.reduceLeDiff, Nat.reduceAdd, Nat.reduceMul, Nat.reduceSub, Nat.reduceLT, Nat.reduceShiftLeft, Nat.reduceOr, Nat.reduceAnd, Bool.false_eq_true, b_if, b_z1, b_z0, b_zz, b_a1, b_a0, b_lc, b_zF, b_zT, b_lbit, nz]
theorem q_edge (R L : Bool) {r l : Int32} (hr : (R = true ∧ r = nI 1) ∨ (R = false ∧ r = nI 0)) (hl : (L = true ∧ l = nI 1) ∨ (L = false ∧ l = nI 0)) (hv : ¬ v = lN 0) : ∃ e : Nat, e < 8 ∧ isE v R L 64 e ∧ call g Mo_edgeOf [.long v, .int r, .int l] h = some (some (.int (nI e)), h) := by
  obtain ⟨e1, e2⟩ := l_fold (g := g) (M := Mo_edgeOf) (pc := 6) (st := []) (h := h) (n := 64) (fun i (x : Option Nat × Value) => [.long v, zU, .int r, .int l, .int (encO x.1), .int (nI i), x.2]) (fun i x => edQ v R L i x) (edF v R L) (fun i x hi hx => by
    have hlt : (i < 64) = True := eq_true hi
    refine ⟨?_, edQ_s hx⟩
    obtain ⟨o, w⟩ := x
    show ev g Mo_edgeOf 6 [.long v, zU, .int r, .int l, .int (encO o), .int (nI i), w] [] h = ev g Mo_edgeOf 6 [.long v, zU, .int r, .int l, .int (encO (edF v R L i (o, w)).1), .int (nI (i + 1)), (edF v R L i (o, w)).2] [] h
    rw [s_Mo_edgeOf_6]
    unfold edF
    by_cases z : lb v i = true
    · have zt : (lb v i = true) = True := eq_true z
      have f8 : fRC R i < 8 := fRC_lt hi
      have go : ev g Mo_edgeOf 24 [.long v, zU, .int r, .int l, .int (encO o), .int (nI i), w] [] h = ev g Mo_edgeOf 41 [.long v, zU, .int r, .int l, .int (encO o), .int (nI i), w] [.int (nI (fRC R i))] h := by
        rcases hr with ⟨rfl, rfl⟩ | ⟨rfl, rfl⟩
        · have e : fRC true i = i / 8 := rfl
          simp (disch := omega) only [s_Mo_edgeOf_0, s_Mo_edgeOf_1, s_Mo_edgeOf_3, s_Mo_edgeOf_4, s_Mo_edgeOf_8, s_Mo_edgeOf_10, s_Mo_edgeOf_13, s_Mo_edgeOf_14, s_Mo_edgeOf_16, s_Mo_edgeOf_17, s_Mo_edgeOf_18, s_Mo_edgeOf_19, s_Mo_edgeOf_20, s_Mo_edgeOf_21, s_Mo_edgeOf_24, s_Mo_edgeOf_25, s_Mo_edgeOf_28, s_Mo_edgeOf_30, s_Mo_edgeOf_33, s_Mo_edgeOf_36, s_Mo_edgeOf_38, s_Mo_edgeOf_43, s_Mo_edgeOf_45, s_Mo_edgeOf_46, s_Mo_edgeOf_49, s_Mo_edgeOf_50, s_Mo_edgeOf_53, s_Mo_edgeOf_55, s_Mo_edgeOf_57, s_Mo_edgeOf_60, s_Mo_edgeOf_63, s_Mo_edgeOf_65, s_Mo_edgeOf_67, s_Mo_edgeOf_70, s_Mo_edgeOf_72, s_Mo_edgeOf_75, s_Mo_edgeOf_77, s_Mo_edgeOf_79, s_Mo_edgeOf_82, s_Mo_edgeOf_85, s_Mo_edgeOf_87, y_kd_sI, y_kd_sL, y_kd_sR, y_kd_cpI, y_kd_cpL, y_ln_sI, y_ln_sL, y_ln_sR, y_ln_cpI, y_ln_cpL, y_sz_sI, y_sz_sL, y_sz_sR, y_sz_cpI, y_sz_cpL, y_sl_sI, y_sl_sL, y_sl_sR, y_sl_cpI, y_sl_cpL, y_gI_sL, y_gI_sR, y_gI_cpI, y_gI_cpL, y_gI_nw, y_gL_sI, y_gL_sR, y_gL_cpI, y_gL_cpL, y_gL_nw, y_gR_sI, y_gR_sL, y_gR_cpI, y_gR_cpL, y_gR_nw, y_kd_nw, y_ln_nw, y_sz_nw, y_sl_nw, y_fx_int, y_fx_long, y_fx_ref, y_fx_null, y_fx_U, y_rf_s, y_rf_n, a_inb, a_ix, a_lt, a_eq, a_eq0, a_lt0, a_0lt, a_m1, a_m2, a_mlt, a_sub, a_dec, a_div, a_rem, a_shl, a_shr, a_bit, a_bit0, a_II, a_Ia, a_Ik, a_LL, a_La, a_Lk, a_RR, a_Ra, a_Rk, a_if0, a_if1, y_mul, y_and, y_or, nI_add, y_b1, y_b0, kon_v, kon_0, true_or, or_true, and_self, true_and, and_true, false_or, or_false, and_false, false_and, not_true_eq_false, not_false_eq_true, ite_self, ↓reduceIte, Nat.reduceEqDiff, Nat.reduceLeDiff, Nat.reduceAdd, Nat.reduceMul, Nat.reduceSub, Nat.reduceLT, Nat.reduceShiftLeft, Nat.reduceOr, Nat.reduceAnd, Bool.false_eq_true, b_if, b_z1, b_z0, b_zz, b_a1, b_a0, b_lc, b_zF, b_zT, b_lbit, q_Mo_rowOf, e]
        · have e : fRC false i = i % 8 := rfl
          simp (disch := omega) only [s_Mo_edgeOf_0, s_Mo_edgeOf_1, s_Mo_edgeOf_3, s_Mo_edgeOf_4, s_Mo_edgeOf_8, s_Mo_edgeOf_10, s_Mo_edgeOf_13, s_Mo_edgeOf_14, s_Mo_edgeOf_16, s_Mo_edgeOf_17, s_Mo_edgeOf_18, s_Mo_edgeOf_19, s_Mo_edgeOf_20, s_Mo_edgeOf_21, s_Mo_edgeOf_24, s_Mo_edgeOf_25, s_Mo_edgeOf_28, s_Mo_edgeOf_30, s_Mo_edgeOf_33, s_Mo_edgeOf_36, s_Mo_edgeOf_38, s_Mo_edgeOf_43, s_Mo_edgeOf_45, s_Mo_edgeOf_46, s_Mo_edgeOf_49, s_Mo_edgeOf_50, s_Mo_edgeOf_53, s_Mo_edgeOf_55, s_Mo_edgeOf_57, s_Mo_edgeOf_60, s_Mo_edgeOf_63, s_Mo_edgeOf_65, s_Mo_edgeOf_67, s_Mo_edgeOf_70, s_Mo_edgeOf_72, s_Mo_edgeOf_75, s_Mo_edgeOf_77, s_Mo_edgeOf_79, s_Mo_edgeOf_82, s_Mo_edgeOf_85, s_Mo_edgeOf_87, y_kd_sI, y_kd_sL, y_kd_sR, y_kd_cpI, y_kd_cpL, y_ln_sI, y_ln_sL, y_ln_sR, y_ln_cpI, y_ln_cpL, y_sz_sI, y_sz_sL, y_sz_sR, y_sz_cpI, y_sz_cpL, y_sl_sI, y_sl_sL, y_sl_sR, y_sl_cpI, y_sl_cpL, y_gI_sL, y_gI_sR, y_gI_cpI, y_gI_cpL, y_gI_nw, y_gL_sI, y_gL_sR, y_gL_cpI, y_gL_cpL, y_gL_nw, y_gR_sI, y_gR_sL, y_gR_cpI, y_gR_cpL, y_gR_nw, y_kd_nw, y_ln_nw, y_sz_nw, y_sl_nw, y_fx_int, y_fx_long, y_fx_ref, y_fx_null, y_fx_U, y_rf_s, y_rf_n, a_inb, a_ix, a_lt, a_eq, a_eq0, a_lt0, a_0lt, a_m1, a_m2, a_mlt, a_sub, a_dec, a_div, a_rem, a_shl, a_shr, a_bit, a_bit0, a_II, a_Ia, a_Ik, a_LL, a_La, a_Lk, a_RR, a_Ra, a_Rk, a_if0, a_if1, y_mul, y_and, y_or, nI_add, y_b1, y_b0, kon_v, kon_0, true_or, or_true, and_self, true_and, and_true, false_or, or_false, and_false, false_and, not_true_eq_false, not_false_eq_true, ite_self, ↓reduceIte, Nat.reduceEqDiff, Nat.reduceLeDiff, Nat.reduceAdd, Nat.reduceMul, Nat.reduceSub, Nat.reduceLT, Nat.reduceShiftLeft, Nat.reduceOr, Nat.reduceAnd, Bool.false_eq_true, b_if, b_z1, b_z0, b_zz, b_a1, b_a0, b_lc, b_zF, b_zT, b_lbit, q_Mo_columnOf, e]
      rw [if_pos z]
      cases o with
      | none =>
        unfold encO at go
        dsimp only at go
        have m1 : ((-1 : Int32) = -1) = True := eq_true rfl
        simp (disch := omega) only [s_Mo_edgeOf_0, s_Mo_edgeOf_1, s_Mo_edgeOf_3, s_Mo_edgeOf_4, s_Mo_edgeOf_8, s_Mo_edgeOf_10, s_Mo_edgeOf_13, s_Mo_edgeOf_14, s_Mo_edgeOf_16, s_Mo_edgeOf_17, s_Mo_edgeOf_18, s_Mo_edgeOf_19, s_Mo_edgeOf_20, s_Mo_edgeOf_21, s_Mo_edgeOf_25, s_Mo_edgeOf_28, s_Mo_edgeOf_30, s_Mo_edgeOf_33, s_Mo_edgeOf_36, s_Mo_edgeOf_38, s_Mo_edgeOf_41, s_Mo_edgeOf_43, s_Mo_edgeOf_45, s_Mo_edgeOf_46, s_Mo_edgeOf_49, s_Mo_edgeOf_50, s_Mo_edgeOf_53, s_Mo_edgeOf_55, s_Mo_edgeOf_57, s_Mo_edgeOf_60, s_Mo_edgeOf_63, s_Mo_edgeOf_65, s_Mo_edgeOf_67, s_Mo_edgeOf_70, s_Mo_edgeOf_72, s_Mo_edgeOf_75, s_Mo_edgeOf_77, s_Mo_edgeOf_79, s_Mo_edgeOf_82, s_Mo_edgeOf_85, s_Mo_edgeOf_87, y_kd_sI, y_kd_sL, y_kd_sR, y_kd_cpI, y_kd_cpL, y_ln_sI, y_ln_sL, y_ln_sR, y_ln_cpI, y_ln_cpL, y_sz_sI, y_sz_sL, y_sz_sR, y_sz_cpI, y_sz_cpL, y_sl_sI, y_sl_sL, y_sl_sR, y_sl_cpI, y_sl_cpL, y_gI_sL, y_gI_sR, y_gI_cpI, y_gI_cpL, y_gI_nw, y_gL_sI, y_gL_sR, y_gL_cpI, y_gL_cpL, y_gL_nw, y_gR_sI, y_gR_sL, y_gR_cpI, y_gR_cpL, y_gR_nw, y_kd_nw, y_ln_nw, y_sz_nw, y_sl_nw, y_fx_int, y_fx_long, y_fx_ref, y_fx_null, y_fx_U, y_rf_s, y_rf_n, a_inb, a_ix, a_lt, a_eq, a_eq0, a_lt0, a_0lt, a_m1, a_m2, a_mlt, a_sub, a_dec, a_div, a_rem, a_shl, a_shr, a_bit, a_bit0, a_II, a_Ia, a_Ik, a_LL, a_La, a_Lk, a_RR, a_Ra, a_Rk, a_if0, a_if1, y_mul, y_and, y_or, nI_add, y_b1, y_b0, kon_v, kon_0, true_or, or_true, and_self, true_and, and_true, false_or, or_false, and_false, false_and, not_true_eq_false, not_false_eq_true, ite_self, ↓reduceIte, Nat.reduceEqDiff, Nat.reduceLeDiff, Nat.reduceAdd, Nat.reduceMul, Nat.reduceSub, Nat.reduceLT, Nat.reduceShiftLeft, Nat.reduceOr, Nat.reduceAnd, Bool.false_eq_true, b_if, b_z1, b_z0, b_zz, b_a1, b_a0, b_lc, b_zF, b_zT, b_lbit, hlt, zt, go, encO, m1]
      | some e =>
        have e8 : e < 8 := by
          have hx' : isE v R L i e := hx
          exact isE_lt (by omega) hx'
        unfold encO at go
        dsimp only at go
        dsimp only
        rcases hl with ⟨rfl, rfl⟩ | ⟨rfl, rfl⟩
        · by_cases c : fRC R i < e
          · have ct : (fRC R i < e) = True := eq_true c
            have cb : btr true (fRC R i) e := Or.inl ⟨rfl, c⟩
            rw [if_pos cb]
            simp (disch := omega) only [s_Mo_edgeOf_0, s_Mo_edgeOf_1, s_Mo_edgeOf_3, s_Mo_edgeOf_4, s_Mo_edgeOf_8, s_Mo_edgeOf_10, s_Mo_edgeOf_13, s_Mo_edgeOf_14, s_Mo_edgeOf_16, s_Mo_edgeOf_17, s_Mo_edgeOf_18, s_Mo_edgeOf_19, s_Mo_edgeOf_20, s_Mo_edgeOf_21, s_Mo_edgeOf_25, s_Mo_edgeOf_28, s_Mo_edgeOf_30, s_Mo_edgeOf_33, s_Mo_edgeOf_36, s_Mo_edgeOf_38, s_Mo_edgeOf_41, s_Mo_edgeOf_43, s_Mo_edgeOf_45, s_Mo_edgeOf_46, s_Mo_edgeOf_49, s_Mo_edgeOf_50, s_Mo_edgeOf_53, s_Mo_edgeOf_55, s_Mo_edgeOf_57, s_Mo_edgeOf_60, s_Mo_edgeOf_63, s_Mo_edgeOf_65, s_Mo_edgeOf_67, s_Mo_edgeOf_70, s_Mo_edgeOf_72, s_Mo_edgeOf_75, s_Mo_edgeOf_77, s_Mo_edgeOf_79, s_Mo_edgeOf_82, s_Mo_edgeOf_85, s_Mo_edgeOf_87, y_kd_sI, y_kd_sL, y_kd_sR, y_kd_cpI, y_kd_cpL, y_ln_sI, y_ln_sL, y_ln_sR, y_ln_cpI, y_ln_cpL, y_sz_sI, y_sz_sL, y_sz_sR, y_sz_cpI, y_sz_cpL, y_sl_sI, y_sl_sL, y_sl_sR, y_sl_cpI, y_sl_cpL, y_gI_sL, y_gI_sR, y_gI_cpI, y_gI_cpL, y_gI_nw, y_gL_sI, y_gL_sR, y_gL_cpI, y_gL_cpL, y_gL_nw, y_gR_sI, y_gR_sL, y_gR_cpI, y_gR_cpL, y_gR_nw, y_kd_nw, y_ln_nw, y_sz_nw, y_sl_nw, y_fx_int, y_fx_long, y_fx_ref, y_fx_null, y_fx_U, y_rf_s, y_rf_n, a_inb, a_ix, a_lt, a_eq, a_eq0, a_lt0, a_0lt, a_m1, a_m2, a_mlt, a_sub, a_dec, a_div, a_rem, a_shl, a_shr, a_bit, a_bit0, a_II, a_Ia, a_Ik, a_LL, a_La, a_Lk, a_RR, a_Ra, a_Rk, a_if0, a_if1, y_mul, y_and, y_or, nI_add, y_b1, y_b0, kon_v, kon_0, true_or, or_true, and_self, true_and, and_true, false_or, or_false, and_false, false_and, not_true_eq_false, not_false_eq_true, ite_self, ↓reduceIte, Nat.reduceEqDiff, Nat.reduceLeDiff, Nat.reduceAdd, Nat.reduceMul, Nat.reduceSub, Nat.reduceLT, Nat.reduceShiftLeft, Nat.reduceOr, Nat.reduceAnd, Bool.false_eq_true, b_if, b_z1, b_z0, b_zz, b_a1, b_a0, b_lc, b_zF, b_zT, b_lbit, hlt, zt, go, encO, ct]
          · have ct : (fRC R i < e) = False := eq_false c
            have cb : ¬ btr true (fRC R i) e := fun d => by
              rcases d with ⟨-, d⟩ | ⟨d, -⟩
              · exact c d
              · exact absurd d (by decide)
            rw [if_neg cb]
            simp (disch := omega) only [s_Mo_edgeOf_0, s_Mo_edgeOf_1, s_Mo_edgeOf_3, s_Mo_edgeOf_4, s_Mo_edgeOf_8, s_Mo_edgeOf_10, s_Mo_edgeOf_13, s_Mo_edgeOf_14, s_Mo_edgeOf_16, s_Mo_edgeOf_17, s_Mo_edgeOf_18, s_Mo_edgeOf_19, s_Mo_edgeOf_20, s_Mo_edgeOf_21, s_Mo_edgeOf_25, s_Mo_edgeOf_28, s_Mo_edgeOf_30, s_Mo_edgeOf_33, s_Mo_edgeOf_36, s_Mo_edgeOf_38, s_Mo_edgeOf_41, s_Mo_edgeOf_43, s_Mo_edgeOf_45, s_Mo_edgeOf_46, s_Mo_edgeOf_49, s_Mo_edgeOf_50, s_Mo_edgeOf_53, s_Mo_edgeOf_55, s_Mo_edgeOf_57, s_Mo_edgeOf_60, s_Mo_edgeOf_63, s_Mo_edgeOf_65, s_Mo_edgeOf_67, s_Mo_edgeOf_70, s_Mo_edgeOf_72, s_Mo_edgeOf_75, s_Mo_edgeOf_77, s_Mo_edgeOf_79, s_Mo_edgeOf_82, s_Mo_edgeOf_85, s_Mo_edgeOf_87, y_kd_sI, y_kd_sL, y_kd_sR, y_kd_cpI, y_kd_cpL, y_ln_sI, y_ln_sL, y_ln_sR, y_ln_cpI, y_ln_cpL, y_sz_sI, y_sz_sL, y_sz_sR, y_sz_cpI, y_sz_cpL, y_sl_sI, y_sl_sL, y_sl_sR, y_sl_cpI, y_sl_cpL, y_gI_sL, y_gI_sR, y_gI_cpI, y_gI_cpL, y_gI_nw, y_gL_sI, y_gL_sR, y_gL_cpI, y_gL_cpL, y_gL_nw, y_gR_sI, y_gR_sL, y_gR_cpI, y_gR_cpL, y_gR_nw, y_kd_nw, y_ln_nw, y_sz_nw, y_sl_nw, y_fx_int, y_fx_long, y_fx_ref, y_fx_null, y_fx_U, y_rf_s, y_rf_n, a_inb, a_ix, a_lt, a_eq, a_eq0, a_lt0, a_0lt, a_m1, a_m2, a_mlt, a_sub, a_dec, a_div, a_rem, a_shl, a_shr, a_bit, a_bit0, a_II, a_Ia, a_Ik, a_LL, a_La, a_Lk, a_RR, a_Ra, a_Rk, a_if0, a_if1, y_mul, y_and, y_or, nI_add, y_b1, y_b0, kon_v, kon_0, true_or, or_true, and_self, true_and, and_true, false_or, or_false, and_false, false_and, not_true_eq_false, not_false_eq_true, ite_self, ↓reduceIte, Nat.reduceEqDiff, Nat.reduceLeDiff, Nat.reduceAdd, Nat.reduceMul, Nat.reduceSub, Nat.reduceLT, Nat.reduceShiftLeft, Nat.reduceOr, Nat.reduceAnd, Bool.false_eq_true, b_if, b_z1, b_z0, b_zz, b_a1, b_a0, b_lc, b_zF, b_zT, b_lbit, hlt, zt, go, encO, ct]
        · by_cases c : e < fRC R i
          · have ct : (e < fRC R i) = True := eq_true c
            have cb : btr false (fRC R i) e := Or.inr ⟨rfl, c⟩
            rw [if_pos cb]
            simp (disch := omega) only [s_Mo_edgeOf_0, s_Mo_edgeOf_1, s_Mo_edgeOf_3, s_Mo_edgeOf_4, s_Mo_edgeOf_8, s_Mo_edgeOf_10, s_Mo_edgeOf_13, s_Mo_edgeOf_14, s_Mo_edgeOf_16, s_Mo_edgeOf_17, s_Mo_edgeOf_18, s_Mo_edgeOf_19, s_Mo_edgeOf_20, s_Mo_edgeOf_21, s_Mo_edgeOf_25, s_Mo_edgeOf_28, s_Mo_edgeOf_30, s_Mo_edgeOf_33, s_Mo_edgeOf_36, s_Mo_edgeOf_38, s_Mo_edgeOf_41, s_Mo_edgeOf_43, s_Mo_edgeOf_45, s_Mo_edgeOf_46, s_Mo_edgeOf_49, s_Mo_edgeOf_50, s_Mo_edgeOf_53, s_Mo_edgeOf_55, s_Mo_edgeOf_57, s_Mo_edgeOf_60, s_Mo_edgeOf_63, s_Mo_edgeOf_65, s_Mo_edgeOf_67, s_Mo_edgeOf_70, s_Mo_edgeOf_72, s_Mo_edgeOf_75, s_Mo_edgeOf_77, s_Mo_edgeOf_79, s_Mo_edgeOf_82, s_Mo_edgeOf_85, s_Mo_edgeOf_87, y_kd_sI, y_kd_sL, y_kd_sR, y_kd_cpI, y_kd_cpL, y_ln_sI, y_ln_sL, y_ln_sR, y_ln_cpI, y_ln_cpL, y_sz_sI, y_sz_sL, y_sz_sR, y_sz_cpI, y_sz_cpL, y_sl_sI, y_sl_sL, y_sl_sR, y_sl_cpI, y_sl_cpL, y_gI_sL, y_gI_sR, y_gI_cpI, y_gI_cpL, y_gI_nw, y_gL_sI, y_gL_sR, y_gL_cpI, y_gL_cpL, y_gL_nw, y_gR_sI, y_gR_sL, y_gR_cpI, y_gR_cpL, y_gR_nw, y_kd_nw, y_ln_nw, y_sz_nw, y_sl_nw, y_fx_int, y_fx_long, y_fx_ref, y_fx_null, y_fx_U, y_rf_s, y_rf_n, a_inb, a_ix, a_lt, a_eq, a_eq0, a_lt0, a_0lt, a_m1, a_m2, a_mlt, a_sub, a_dec, a_div, a_rem, a_shl, a_shr, a_bit, a_bit0, a_II, a_Ia, a_Ik, a_LL, a_La, a_Lk, a_RR, a_Ra, a_Rk, a_if0, a_if1, y_mul, y_and, y_or, nI_add, y_b1, y_b0, kon_v, kon_0, true_or, or_true, and_self, true_and, and_true, false_or, or_false, and_false, false_and, not_true_eq_false, not_false_eq_true, ite_self, ↓reduceIte, Nat.reduceEqDiff, Nat.reduceLeDiff, Nat.reduceAdd, Nat.reduceMul, Nat.reduceSub, Nat.reduceLT, Nat.reduceShiftLeft, Nat.reduceOr, Nat.reduceAnd, Bool.false_eq_true, b_if, b_z1, b_z0, b_zz, b_a1, b_a0, b_lc, b_zF, b_zT, b_lbit, hlt, zt, go, encO, ct]
          · have ct : (e < fRC R i) = False := eq_false c
            have cb : ¬ btr false (fRC R i) e := fun d => by
              rcases d with ⟨d, -⟩ | ⟨-, d⟩
              · exact absurd d (by decide)
              · exact c d
            rw [if_neg cb]
            simp (disch := omega) only [s_Mo_edgeOf_0, s_Mo_edgeOf_1, s_Mo_edgeOf_3, s_Mo_edgeOf_4, s_Mo_edgeOf_8, s_Mo_edgeOf_10, s_Mo_edgeOf_13, s_Mo_edgeOf_14, s_Mo_edgeOf_16, s_Mo_edgeOf_17, s_Mo_edgeOf_18, s_Mo_edgeOf_19, s_Mo_edgeOf_20, s_Mo_edgeOf_21, s_Mo_edgeOf_25, s_Mo_edgeOf_28, s_Mo_edgeOf_30, s_Mo_edgeOf_33, s_Mo_edgeOf_36, s_Mo_edgeOf_38, s_Mo_edgeOf_41, s_Mo_edgeOf_43, s_Mo_edgeOf_45, s_Mo_edgeOf_46, s_Mo_edgeOf_49, s_Mo_edgeOf_50, s_Mo_edgeOf_53, s_Mo_edgeOf_55, s_Mo_edgeOf_57, s_Mo_edgeOf_60, s_Mo_edgeOf_63, s_Mo_edgeOf_65, s_Mo_edgeOf_67, s_Mo_edgeOf_70, s_Mo_edgeOf_72, s_Mo_edgeOf_75, s_Mo_edgeOf_77, s_Mo_edgeOf_79, s_Mo_edgeOf_82, s_Mo_edgeOf_85, s_Mo_edgeOf_87, y_kd_sI, y_kd_sL, y_kd_sR, y_kd_cpI, y_kd_cpL, y_ln_sI, y_ln_sL, y_ln_sR, y_ln_cpI, y_ln_cpL, y_sz_sI, y_sz_sL, y_sz_sR, y_sz_cpI, y_sz_cpL, y_sl_sI, y_sl_sL, y_sl_sR, y_sl_cpI, y_sl_cpL, y_gI_sL, y_gI_sR, y_gI_cpI, y_gI_cpL, y_gI_nw, y_gL_sI, y_gL_sR, y_gL_cpI, y_gL_cpL, y_gL_nw, y_gR_sI, y_gR_sL, y_gR_cpI, y_gR_cpL, y_gR_nw, y_kd_nw, y_ln_nw, y_sz_nw, y_sl_nw, y_fx_int, y_fx_long, y_fx_ref, y_fx_null, y_fx_U, y_rf_s, y_rf_n, a_inb, a_ix, a_lt, a_eq, a_eq0, a_lt0, a_0lt, a_m1, a_m2, a_mlt, a_sub, a_dec, a_div, a_rem, a_shl, a_shr, a_bit, a_bit0, a_II, a_Ia, a_Ik, a_LL, a_La, a_Lk, a_RR, a_Ra, a_Rk, a_if0, a_if1, y_mul, y_and, y_or, nI_add, y_b1, y_b0, kon_v, kon_0, true_or, or_true, and_self, true_and, and_true, false_or, or_false, and_false, false_and, not_true_eq_false, not_false_eq_true, ite_self, ↓reduceIte, Nat.reduceEqDiff, Nat.reduceLeDiff, Nat.reduceAdd, Nat.reduceMul, Nat.reduceSub, Nat.reduceLT, Nat.reduceShiftLeft, Nat.reduceOr, Nat.reduceAnd, Bool.false_eq_true, b_if, b_z1, b_z0, b_zz, b_a1, b_a0, b_lc, b_zF, b_zT, b_lbit, hlt, zt, go, encO, ct]
    · have zt : (lb v i = true) = False := eq_false z
      rw [if_neg z]
      simp (disch := omega) only [s_Mo_edgeOf_0, s_Mo_edgeOf_1, s_Mo_edgeOf_3, s_Mo_edgeOf_4, s_Mo_edgeOf_8, s_Mo_edgeOf_10, s_Mo_edgeOf_13, s_Mo_edgeOf_14, s_Mo_edgeOf_16, s_Mo_edgeOf_17, s_Mo_edgeOf_18, s_Mo_edgeOf_19, s_Mo_edgeOf_20, s_Mo_edgeOf_21, s_Mo_edgeOf_25, s_Mo_edgeOf_28, s_Mo_edgeOf_30, s_Mo_edgeOf_33, s_Mo_edgeOf_36, s_Mo_edgeOf_38, s_Mo_edgeOf_41, s_Mo_edgeOf_43, s_Mo_edgeOf_45, s_Mo_edgeOf_46, s_Mo_edgeOf_49, s_Mo_edgeOf_50, s_Mo_edgeOf_53, s_Mo_edgeOf_55, s_Mo_edgeOf_57, s_Mo_edgeOf_60, s_Mo_edgeOf_63, s_Mo_edgeOf_65, s_Mo_edgeOf_67, s_Mo_edgeOf_70, s_Mo_edgeOf_72, s_Mo_edgeOf_75, s_Mo_edgeOf_77, s_Mo_edgeOf_79, s_Mo_edgeOf_82, s_Mo_edgeOf_85, s_Mo_edgeOf_87, y_kd_sI, y_kd_sL, y_kd_sR, y_kd_cpI, y_kd_cpL, y_ln_sI, y_ln_sL, y_ln_sR, y_ln_cpI, y_ln_cpL, y_sz_sI, y_sz_sL, y_sz_sR, y_sz_cpI, y_sz_cpL, y_sl_sI, y_sl_sL, y_sl_sR, y_sl_cpI, y_sl_cpL, y_gI_sL, y_gI_sR, y_gI_cpI, y_gI_cpL, y_gI_nw, y_gL_sI, y_gL_sR, y_gL_cpI, y_gL_cpL, y_gL_nw, y_gR_sI, y_gR_sL, y_gR_cpI, y_gR_cpL, y_gR_nw, y_kd_nw, y_ln_nw, y_sz_nw, y_sl_nw, y_fx_int, y_fx_long, y_fx_ref, y_fx_null, y_fx_U, y_rf_s, y_rf_n, a_inb, a_ix, a_lt, a_eq, a_eq0, a_lt0, a_0lt, a_m1, a_m2, a_mlt, a_sub, a_dec, a_div, a_rem, a_shl, a_shr, a_bit, a_bit0, a_II, a_Ia, a_Ik, a_LL, a_La, a_Lk, a_RR, a_Ra, a_Rk, a_if0, a_if1, y_mul, y_and, y_or, nI_add, y_b1, y_b0, kon_v, kon_0, true_or, or_true, and_self, true_and, and_true, false_or, or_false, and_false, false_and, not_true_eq_false, not_false_eq_true, ite_self, ↓reduceIte, Nat.reduceEqDiff, Nat.reduceLeDiff, Nat.reduceAdd, Nat.reduceMul, Nat.reduceSub, Nat.reduceLT, Nat.reduceShiftLeft, Nat.reduceOr, Nat.reduceAnd, Bool.false_eq_true, b_if, b_z1, b_z0, b_zz, b_a1, b_a0, b_lc, b_zF, b_zT, b_lbit, hlt, zt]) 64 0 (none, zU) (by omega) (fun j hj => absurd hj (Nat.not_lt_zero j))
  generalize hx : itr (edF v R L) 64 0 (none, zU) = x at e1 e2
  obtain ⟨o, w⟩ := x
  cases o with
  | none =>
    obtain ⟨i, hi, hb⟩ := lb_ne.1 hv
    have := (e2 : ∀ j : Nat, j < 64 → lb v j = false) i hi
    rw [this] at hb
    exact absurd hb (by decide)
  | some e =>
    have e2' : isE v R L 64 e := e2
    refine ⟨e, isE_lt (Nat.le_refl _) e2', e2', ?_⟩
    rw [n_Mo_edgeOf, s_Mo_edgeOf_0, s_Mo_edgeOf_1, s_Mo_edgeOf_3, s_Mo_edgeOf_4]
    refine Eq.trans (show _ = ev g Mo_edgeOf 6 [.long v, zU, .int r, .int l, .int (encO none), .int (nI 0), zU] [] h from rfl) (e1.trans ?_)
    simp (disch := omega) only [s_Mo_edgeOf_0, s_Mo_edgeOf_1, s_Mo_edgeOf_3, s_Mo_edgeOf_4, s_Mo_edgeOf_6, s_Mo_edgeOf_8, s_Mo_edgeOf_10, s_Mo_edgeOf_13, s_Mo_edgeOf_14, s_Mo_edgeOf_16, s_Mo_edgeOf_17, s_Mo_edgeOf_18, s_Mo_edgeOf_19, s_Mo_edgeOf_20, s_Mo_edgeOf_21, s_Mo_edgeOf_24, s_Mo_edgeOf_25, s_Mo_edgeOf_28, s_Mo_edgeOf_30, s_Mo_edgeOf_33, s_Mo_edgeOf_36, s_Mo_edgeOf_38, s_Mo_edgeOf_41, s_Mo_edgeOf_43, s_Mo_edgeOf_45, s_Mo_edgeOf_46, s_Mo_edgeOf_49, s_Mo_edgeOf_50, s_Mo_edgeOf_53, s_Mo_edgeOf_55, s_Mo_edgeOf_57, s_Mo_edgeOf_60, s_Mo_edgeOf_63, s_Mo_edgeOf_65, s_Mo_edgeOf_67, s_Mo_edgeOf_70, s_Mo_edgeOf_72, s_Mo_edgeOf_75, s_Mo_edgeOf_77, s_Mo_edgeOf_79, s_Mo_edgeOf_82, s_Mo_edgeOf_85, s_Mo_edgeOf_87, y_kd_sI, y_kd_sL, y_kd_sR, y_kd_cpI, y_kd_cpL, y_ln_sI, y_ln_sL, y_ln_sR, y_ln_cpI, y_ln_cpL, y_sz_sI, y_sz_sL, y_sz_sR, y_sz_cpI, y_sz_cpL, y_sl_sI, y_sl_sL, y_sl_sR, y_sl_cpI, y_sl_cpL, y_gI_sL, y_gI_sR, y_gI_cpI, y_gI_cpL, y_gI_nw, y_gL_sI, y_gL_sR, y_gL_cpI, y_gL_cpL, y_gL_nw, y_gR_sI, y_gR_sL, y_gR_cpI, y_gR_cpL, y_gR_nw, y_kd_nw, y_ln_nw, y_sz_nw, y_sl_nw, y_fx_int, y_fx_long, y_fx_ref, y_fx_null, y_fx_U, y_rf_s, y_rf_n, a_inb, a_ix, a_lt, a_eq, a_eq0, a_lt0, a_0lt, a_m1, a_m2, a_mlt, a_sub, a_dec, a_div, a_rem, a_shl, a_shr, a_bit, a_bit0, a_II, a_Ia, a_Ik, a_LL, a_La, a_Lk, a_RR, a_Ra, a_Rk, a_if0, a_if1, y_mul, y_and, y_or, nI_add, y_b1, y_b0, kon_v, kon_0, true_or, or_true, and_self, true_and, and_true, false_or, or_false, and_false, false_and, not_true_eq_false, not_false_eq_true, ite_self, ↓reduceIte, Nat.reduceEqDiff, Nat.reduceLeDiff, Nat.reduceAdd, Nat.reduceMul, Nat.reduceSub, Nat.reduceLT, Nat.reduceShiftLeft, Nat.reduceOr, Nat.reduceAnd, Bool.false_eq_true, b_if, b_z1, b_z0, b_zz, b_a1, b_a0, b_lc, b_zF, b_zT, b_lbit, Nat.lt_irrefl, encO]
/-! the class's rows and columns, as bits -/
theorem L_byte {r : Nat} (hr : r < 8) : (lUshr v (nI (8 * r)) &&& lN 255 = lN 0) = ¬ ∃ c : Nat, c < 8 ∧ lb v (8 * r + c) = true := by
  apply propext
  constructor
  · rintro e ⟨c, hc, hb⟩
    have h : lb (lUshr v (nI (8 * r)) &&& lN 255) c = lb (lN 0) c := congrArg (fun x => lb x c) e
    rw [lb_and, lb_ushr (by omega), lb_0, hb, lb_N (by decide), show (255 : Nat) = 2 ^ 8 - 1 from rfl, Nat.testBit_two_pow_sub_one, decide_eq_true hc] at h
    exact absurd h (by decide)
  · intro n
    apply lb_ext
    intro i hi
    rw [lb_and, lb_ushr (by omega), lb_0, lb_N (by decide), show (255 : Nat) = 2 ^ 8 - 1 from rfl, Nat.testBit_two_pow_sub_one]
    by_cases c : i < 8
    · have : lb v (8 * r + i) = false := by
        cases e : lb v (8 * r + i) with
        | false => rfl
        | true => exact absurd ⟨i, c, e⟩ n
      rw [this]; rfl
    · rw [decide_eq_false c, Bool.and_false]
noncomputable def rwF (v : Int64) (r : Nat) (x : Nat) : Nat := tst (∃ c : Nat, c < 8 ∧ lb v (8 * r + c) = true) (x ||| 1 <<< r) x
theorem one_bt {r c : Nat} : ((1 : Nat) <<< r).testBit c = decide (r = c) := by
  rw [Nat.one_shiftLeft, Nat.testBit_two_pow]
theorem q_rowsOf : ∃ b : Nat, b < 256 ∧ (∀ r : Nat, b.testBit r = true ↔ r < 8 ∧ ∃ i : Nat, i < 64 ∧ lb v i = true ∧ i / 8 = r) ∧ call g Board_rowsOf [.long v] h = some (some (.int (nI b)), h) := by
  obtain ⟨e1, e2⟩ := l_fold (g := g) (M := Board_rowsOf) (pc := 4) (st := []) (h := h) (n := 8) (fun r (x : Nat) => [.long v, zU, .int (nI x), .int (nI r)]) (fun n x => x < 256 ∧ ∀ r : Nat, x.testBit r = true ↔ r < n ∧ ∃ i : Nat, i < 64 ∧ lb v i = true ∧ i / 8 = r) (rwF v) (fun r x hr hx => by
    have hlt : (r < 8) = True := eq_true hr
    have e255 : (255 : Int64) = lN 255 := by rfl
    have p1 : (1 : Nat) <<< r < 256 := by
      rw [Nat.one_shiftLeft]
      exact Nat.lt_of_le_of_lt (Nat.pow_le_pow_right (by decide) (show r ≤ 7 by omega)) (by decide)
    have lby := L_byte (v := v) hr
    refine ⟨?_, ?_⟩
    · show ev g Board_rowsOf 4 [.long v, zU, .int (nI x), .int (nI r)] [] h = ev g Board_rowsOf 4 [.long v, zU, .int (nI (rwF v r x)), .int (nI (r + 1))] [] h
      rw [s_Board_rowsOf_4]
      unfold rwF
      by_cases z : ∃ c : Nat, c < 8 ∧ lb v (8 * r + c) = true
      · rw [eq_true z] at lby
        rw [tst_t z]
        simp (disch := omega) only [s_Board_rowsOf_0, s_Board_rowsOf_1, s_Board_rowsOf_2, s_Board_rowsOf_3, s_Board_rowsOf_5, s_Board_rowsOf_7, s_Board_rowsOf_10, s_Board_rowsOf_11, s_Board_rowsOf_13, s_Board_rowsOf_14, s_Board_rowsOf_15, s_Board_rowsOf_16, s_Board_rowsOf_19, s_Board_rowsOf_20, s_Board_rowsOf_21, s_Board_rowsOf_22, s_Board_rowsOf_25, s_Board_rowsOf_26, s_Board_rowsOf_27, s_Board_rowsOf_28, s_Board_rowsOf_29, s_Board_rowsOf_30, s_Board_rowsOf_31, s_Board_rowsOf_34, s_Board_rowsOf_37, s_Board_rowsOf_38, y_kd_sI, y_kd_sL, y_kd_sR, y_kd_cpI, y_kd_cpL, y_ln_sI, y_ln_sL, y_ln_sR, y_ln_cpI, y_ln_cpL, y_sz_sI, y_sz_sL, y_sz_sR, y_sz_cpI, y_sz_cpL, y_sl_sI, y_sl_sL, y_sl_sR, y_sl_cpI, y_sl_cpL, y_gI_sL, y_gI_sR, y_gI_cpI, y_gI_cpL, y_gI_nw, y_gL_sI, y_gL_sR, y_gL_cpI, y_gL_cpL, y_gL_nw, y_gR_sI, y_gR_sL, y_gR_cpI, y_gR_cpL, y_gR_nw, y_kd_nw, y_ln_nw, y_sz_nw, y_sl_nw, y_fx_int, y_fx_long, y_fx_ref, y_fx_null, y_fx_U, y_rf_s, y_rf_n, a_inb, a_ix, a_lt, a_eq, a_eq0, a_lt0, a_0lt, a_m1, a_m2, a_mlt, a_sub, a_dec, a_div, a_rem, a_shl, a_shr, a_bit, a_bit0, a_II, a_Ia, a_Ik, a_LL, a_La, a_Lk, a_RR, a_Ra, a_Rk, a_if0, a_if1, y_mul, y_and, y_or, nI_add, y_b1, y_b0, kon_v, kon_0, true_or, or_true, and_self, true_and, and_true, false_or, or_false, and_false, false_and, not_true_eq_false, not_false_eq_true, ite_self, ↓reduceIte, Nat.reduceEqDiff, Nat.reduceLeDiff, Nat.reduceAdd, Nat.reduceMul, Nat.reduceSub, Nat.reduceLT, Nat.reduceShiftLeft, Nat.reduceOr, Nat.reduceAnd, Bool.false_eq_true, b_if, b_z1, b_z0, b_zz, b_a1, b_a0, b_lc, b_zF, b_zT, b_lbit, hlt, e255, b_lc, lby]
      · rw [eq_false z] at lby
        rw [tst_f z]
        simp (disch := omega) only [s_Board_rowsOf_0, s_Board_rowsOf_1, s_Board_rowsOf_2, s_Board_rowsOf_3, s_Board_rowsOf_5, s_Board_rowsOf_7, s_Board_rowsOf_10, s_Board_rowsOf_11, s_Board_rowsOf_13, s_Board_rowsOf_14, s_Board_rowsOf_15, s_Board_rowsOf_16, s_Board_rowsOf_19, s_Board_rowsOf_20, s_Board_rowsOf_21, s_Board_rowsOf_22, s_Board_rowsOf_25, s_Board_rowsOf_26, s_Board_rowsOf_27, s_Board_rowsOf_28, s_Board_rowsOf_29, s_Board_rowsOf_30, s_Board_rowsOf_31, s_Board_rowsOf_34, s_Board_rowsOf_37, s_Board_rowsOf_38, y_kd_sI, y_kd_sL, y_kd_sR, y_kd_cpI, y_kd_cpL, y_ln_sI, y_ln_sL, y_ln_sR, y_ln_cpI, y_ln_cpL, y_sz_sI, y_sz_sL, y_sz_sR, y_sz_cpI, y_sz_cpL, y_sl_sI, y_sl_sL, y_sl_sR, y_sl_cpI, y_sl_cpL, y_gI_sL, y_gI_sR, y_gI_cpI, y_gI_cpL, y_gI_nw, y_gL_sI, y_gL_sR, y_gL_cpI, y_gL_cpL, y_gL_nw, y_gR_sI, y_gR_sL, y_gR_cpI, y_gR_cpL, y_gR_nw, y_kd_nw, y_ln_nw, y_sz_nw, y_sl_nw, y_fx_int, y_fx_long, y_fx_ref, y_fx_null, y_fx_U, y_rf_s, y_rf_n, a_inb, a_ix, a_lt, a_eq, a_eq0, a_lt0, a_0lt, a_m1, a_m2, a_mlt, a_sub, a_dec, a_div, a_rem, a_shl, a_shr, a_bit, a_bit0, a_II, a_Ia, a_Ik, a_LL, a_La, a_Lk, a_RR, a_Ra, a_Rk, a_if0, a_if1, y_mul, y_and, y_or, nI_add, y_b1, y_b0, kon_v, kon_0, true_or, or_true, and_self, true_and, and_true, false_or, or_false, and_false, false_and, not_true_eq_false, not_false_eq_true, ite_self, ↓reduceIte, Nat.reduceEqDiff, Nat.reduceLeDiff, Nat.reduceAdd, Nat.reduceMul, Nat.reduceSub, Nat.reduceLT, Nat.reduceShiftLeft, Nat.reduceOr, Nat.reduceAnd, Bool.false_eq_true, b_if, b_z1, b_z0, b_zz, b_a1, b_a0, b_lc, b_zF, b_zT, b_lbit, hlt, e255, b_lc, lby]
    · obtain ⟨x1, x2⟩ := hx
      unfold rwF
      by_cases z : ∃ c : Nat, c < 8 ∧ lb v (8 * r + c) = true
      · rw [tst_t z]
        refine ⟨Nat.or_lt_two_pow (n := 8) x1 p1, fun k => ?_⟩
        rw [Nat.testBit_or, Bool.or_eq_true, x2 k, one_bt, decide_eq_true_eq]
        constructor
        · rintro (⟨c1, c2⟩ | c)
          · exact ⟨by omega, c2⟩
          · subst c
            obtain ⟨c, hc, hb⟩ := z
            exact ⟨by omega, 8 * r + c, by omega, hb, by omega⟩
        · rintro ⟨c1, c2⟩
          by_cases q : k = r
          · exact Or.inr q.symm
          · exact Or.inl ⟨by omega, c2⟩
      · rw [tst_f z]
        refine ⟨x1, fun k => ?_⟩
        rw [x2 k]
        constructor
        · rintro ⟨c1, c2⟩
          exact ⟨by omega, c2⟩
        · rintro ⟨c1, i, c2, c3, c4⟩
          refine ⟨?_, i, c2, c3, c4⟩
          by_cases q : k = r
          · exact absurd ⟨i % 8, Nat.mod_lt _ (by decide), by rw [show 8 * r + i % 8 = i by omega]; exact c3⟩ z
          · omega) 8 0 0 (by omega) ⟨by decide, fun r => ⟨fun c => by rw [Nat.zero_testBit] at c; exact absurd c (by decide), fun c => absurd c.1 (Nat.not_lt_zero r)⟩⟩
  refine ⟨_, e2.1, e2.2, ?_⟩
  rw [n_Board_rowsOf, s_Board_rowsOf_0, s_Board_rowsOf_1, s_Board_rowsOf_2, s_Board_rowsOf_3]
  refine Eq.trans (show _ = ev g Board_rowsOf 4 [.long v, zU, .int (nI 0), .int (nI 0)] [] h from rfl) (e1.trans ?_)
  simp (disch := omega) only [s_Board_rowsOf_0, s_Board_rowsOf_1, s_Board_rowsOf_2, s_Board_rowsOf_3, s_Board_rowsOf_4, s_Board_rowsOf_5, s_Board_rowsOf_7, s_Board_rowsOf_10, s_Board_rowsOf_11, s_Board_rowsOf_13, s_Board_rowsOf_14, s_Board_rowsOf_15, s_Board_rowsOf_16, s_Board_rowsOf_19, s_Board_rowsOf_20, s_Board_rowsOf_21, s_Board_rowsOf_22, s_Board_rowsOf_25, s_Board_rowsOf_26, s_Board_rowsOf_27, s_Board_rowsOf_28, s_Board_rowsOf_29, s_Board_rowsOf_30, s_Board_rowsOf_31, s_Board_rowsOf_34, s_Board_rowsOf_37, s_Board_rowsOf_38, y_kd_sI, y_kd_sL, y_kd_sR, y_kd_cpI, y_kd_cpL, y_ln_sI, y_ln_sL, y_ln_sR, y_ln_cpI, y_ln_cpL, y_sz_sI, y_sz_sL, y_sz_sR, y_sz_cpI, y_sz_cpL, y_sl_sI, y_sl_sL, y_sl_sR, y_sl_cpI, y_sl_cpL, y_gI_sL, y_gI_sR, y_gI_cpI, y_gI_cpL, y_gI_nw, y_gL_sI, y_gL_sR, y_gL_cpI, y_gL_cpL, y_gL_nw, y_gR_sI, y_gR_sL, y_gR_cpI, y_gR_cpL, y_gR_nw, y_kd_nw, y_ln_nw, y_sz_nw, y_sl_nw, y_fx_int, y_fx_long, y_fx_ref, y_fx_null, y_fx_U, y_rf_s, y_rf_n, a_inb, a_ix, a_lt, a_eq, a_eq0, a_lt0, a_0lt, a_m1, a_m2, a_mlt, a_sub, a_dec, a_div, a_rem, a_shl, a_shr, a_bit, a_bit0, a_II, a_Ia, a_Ik, a_LL, a_La, a_Lk, a_RR, a_Ra, a_Rk, a_if0, a_if1, y_mul, y_and, y_or, nI_add, y_b1, y_b0, kon_v, kon_0, true_or, or_true, and_self, true_and, and_true, false_or, or_false, and_false, false_and, not_true_eq_false, not_false_eq_true, ite_self, ↓reduceIte, Nat.reduceEqDiff, Nat.reduceLeDiff, Nat.reduceAdd, Nat.reduceMul, Nat.reduceSub, Nat.reduceLT, Nat.reduceShiftLeft, Nat.reduceOr, Nat.reduceAnd, Bool.false_eq_true, b_if, b_z1, b_z0, b_zz, b_a1, b_a0, b_lc, b_zF, b_zT, b_lbit, Nat.lt_irrefl]
theorem L_lo {r : Nat} (hr : r < 8) : ∃ b : Nat, b < 256 ∧ (lUshr v (nI (8 * r))).toInt32 &&& nI 255 = nI b ∧ ∀ c : Nat, b.testBit c = true ↔ c < 8 ∧ lb v (8 * r + c) = true := by
  obtain ⟨n, hn, e, hb⟩ := lN_nat (lUshr v (nI (8 * r)))
  refine ⟨n % 256, Nat.mod_lt _ (by decide), ?_, fun c => ?_⟩
  · rw [e]
    unfold lN
    rw [Int64.toInt32_ofNat']
    show nI n &&& nI 255 = _
    rw [y_and, show (255 : Nat) = 2 ^ 8 - 1 from rfl, Nat.and_two_pow_sub_one_eq_mod]
  · rw [show (256 : Nat) = 2 ^ 8 from rfl, Nat.testBit_mod_two_pow, Bool.and_eq_true, decide_eq_true_eq, ← hb, lb_ushr (by omega)]
theorem q_columnsOf : ∃ b : Nat, b < 256 ∧ (∀ r : Nat, b.testBit r = true ↔ r < 8 ∧ ∃ i : Nat, i < 64 ∧ lb v i = true ∧ i % 8 = r) ∧ call g Board_columnsOf [.long v] h = some (some (.int (nI b)), h) := by
  obtain ⟨x', h', e1, ⟨b, e3, e4, e5⟩, e2⟩ := l_loop (g := g) (M := Board_columnsOf) (pc := 4) (st := []) (n := 8) (fun r (x : Int32) => [.long v, zU, .int x, .int (nI r)]) (fun n x h' => (∃ b : Nat, b < 256 ∧ x = nI b ∧ ∀ c : Nat, b.testBit c = true ↔ c < 8 ∧ ∃ i : Nat, i < 8 * n ∧ lb v i = true ∧ i % 8 = c) ∧ h' = h) (fun r x h' hr hx => by
    obtain ⟨⟨b, b1, rfl, b2⟩, rfl⟩ := hx
    have hlt : (r < 8) = True := eq_true hr
    obtain ⟨a, a1, a2, a3⟩ := L_lo (v := v) hr
    refine ⟨nI (b ||| a), h', ?_, ⟨b ||| a, Nat.or_lt_two_pow (n := 8) b1 a1, rfl, fun c => ?_⟩, rfl⟩
    · show ev g Board_columnsOf 4 [.long v, zU, .int (nI b), .int (nI r)] [] h' = ev g Board_columnsOf 4 [.long v, zU, .int (nI (b ||| a)), .int (nI (r + 1))] [] h'
      rw [s_Board_columnsOf_4]
      simp (disch := omega) only [s_Board_columnsOf_0, s_Board_columnsOf_1, s_Board_columnsOf_2, s_Board_columnsOf_3, s_Board_columnsOf_5, s_Board_columnsOf_7, s_Board_columnsOf_10, s_Board_columnsOf_11, s_Board_columnsOf_12, s_Board_columnsOf_14, s_Board_columnsOf_15, s_Board_columnsOf_16, s_Board_columnsOf_17, s_Board_columnsOf_18, s_Board_columnsOf_21, s_Board_columnsOf_22, s_Board_columnsOf_23, s_Board_columnsOf_24, s_Board_columnsOf_27, s_Board_columnsOf_30, s_Board_columnsOf_31, y_kd_sI, y_kd_sL, y_kd_sR, y_kd_cpI, y_kd_cpL, y_ln_sI, y_ln_sL, y_ln_sR, y_ln_cpI, y_ln_cpL, y_sz_sI, y_sz_sL, y_sz_sR, y_sz_cpI, y_sz_cpL, y_sl_sI, y_sl_sL, y_sl_sR, y_sl_cpI, y_sl_cpL, y_gI_sL, y_gI_sR, y_gI_cpI, y_gI_cpL, y_gI_nw, y_gL_sI, y_gL_sR, y_gL_cpI, y_gL_cpL, y_gL_nw, y_gR_sI, y_gR_sL, y_gR_cpI, y_gR_cpL, y_gR_nw, y_kd_nw, y_ln_nw, y_sz_nw, y_sl_nw, y_fx_int, y_fx_long, y_fx_ref, y_fx_null, y_fx_U, y_rf_s, y_rf_n, a_inb, a_ix, a_lt, a_eq, a_eq0, a_lt0, a_0lt, a_m1, a_m2, a_mlt, a_sub, a_dec, a_div, a_rem, a_shl, a_shr, a_bit, a_bit0, a_II, a_Ia, a_Ik, a_LL, a_La, a_Lk, a_RR, a_Ra, a_Rk, a_if0, a_if1, y_mul, y_and, y_or, nI_add, y_b1, y_b0, kon_v, kon_0, true_or, or_true, and_self, true_and, and_true, false_or, or_false, and_false, false_and, not_true_eq_false, not_false_eq_true, ite_self, ↓reduceIte, Nat.reduceEqDiff, Nat.reduceLeDiff, Nat.reduceAdd, Nat.reduceMul, Nat.reduceSub, Nat.reduceLT, Nat.reduceShiftLeft, Nat.reduceOr, Nat.reduceAnd, Bool.false_eq_true, b_if, b_z1, b_z0, b_zz, b_a1, b_a0, b_lc, b_zF, b_zT, b_lbit, hlt, a2]
    · rw [Nat.testBit_or, Bool.or_eq_true, b2 c, a3 c]
      constructor
      · rintro (⟨c1, i, c2, c3, c4⟩ | ⟨c1, c2⟩)
        · exact ⟨c1, i, by omega, c3, c4⟩
        · exact ⟨c1, 8 * r + c, by omega, c2, by omega⟩
      · rintro ⟨c1, i, c2, c3, c4⟩
        by_cases q : i < 8 * r
        · exact Or.inl ⟨c1, i, q, c3, c4⟩
        · refine Or.inr ⟨c1, ?_⟩
          rw [show 8 * r + c = i by omega]
          exact c3) 8 0 (nI 0) h (by omega) ⟨⟨0, by decide, rfl, fun c => ⟨fun d => by rw [Nat.zero_testBit] at d; exact absurd d (by decide), fun ⟨_, i, d, _⟩ => by omega⟩⟩, rfl⟩
  subst e2
  subst e4
  refine ⟨b, e3, e5, ?_⟩
  rw [n_Board_columnsOf, s_Board_columnsOf_0, s_Board_columnsOf_1, s_Board_columnsOf_2, s_Board_columnsOf_3]
  refine Eq.trans (show _ = ev g Board_columnsOf 4 [.long v, zU, .int (nI 0), .int (nI 0)] [] h' from rfl) (e1.trans ?_)
  simp (disch := omega) only [s_Board_columnsOf_0, s_Board_columnsOf_1, s_Board_columnsOf_2, s_Board_columnsOf_3, s_Board_columnsOf_4, s_Board_columnsOf_5, s_Board_columnsOf_7, s_Board_columnsOf_10, s_Board_columnsOf_11, s_Board_columnsOf_12, s_Board_columnsOf_14, s_Board_columnsOf_15, s_Board_columnsOf_16, s_Board_columnsOf_17, s_Board_columnsOf_18, s_Board_columnsOf_21, s_Board_columnsOf_22, s_Board_columnsOf_23, s_Board_columnsOf_24, s_Board_columnsOf_27, s_Board_columnsOf_30, s_Board_columnsOf_31, y_kd_sI, y_kd_sL, y_kd_sR, y_kd_cpI, y_kd_cpL, y_ln_sI, y_ln_sL, y_ln_sR, y_ln_cpI, y_ln_cpL, y_sz_sI, y_sz_sL, y_sz_sR, y_sz_cpI, y_sz_cpL, y_sl_sI, y_sl_sL, y_sl_sR, y_sl_cpI, y_sl_cpL, y_gI_sL, y_gI_sR, y_gI_cpI, y_gI_cpL, y_gI_nw, y_gL_sI, y_gL_sR, y_gL_cpI, y_gL_cpL, y_gL_nw, y_gR_sI, y_gR_sL, y_gR_cpI, y_gR_cpL, y_gR_nw, y_kd_nw, y_ln_nw, y_sz_nw, y_sl_nw, y_fx_int, y_fx_long, y_fx_ref, y_fx_null, y_fx_U, y_rf_s, y_rf_n, a_inb, a_ix, a_lt, a_eq, a_eq0, a_lt0, a_0lt, a_m1, a_m2, a_mlt, a_sub, a_dec, a_div, a_rem, a_shl, a_shr, a_bit, a_bit0, a_II, a_Ia, a_Ik, a_LL, a_La, a_Lk, a_RR, a_Ra, a_Rk, a_if0, a_if1, y_mul, y_and, y_or, nI_add, y_b1, y_b0, kon_v, kon_0, true_or, or_true, and_self, true_and, and_true, false_or, or_false, and_false, false_and, not_true_eq_false, not_false_eq_true, ite_self, ↓reduceIte, Nat.reduceEqDiff, Nat.reduceLeDiff, Nat.reduceAdd, Nat.reduceMul, Nat.reduceSub, Nat.reduceLT, Nat.reduceShiftLeft, Nat.reduceOr, Nat.reduceAnd, Bool.false_eq_true, b_if, b_z1, b_z0, b_zz, b_a1, b_a0, b_lc, b_zF, b_zT, b_lbit, Nat.lt_irrefl]
theorem lo_0 : ∀ b : Fin 256, b.val = 0 ∨ ∃ e : Fin 8, b.val.testBit e.val = true ∧ (∀ i : Fin 8, b.val.testBit i.val = true → e.val ≤ i.val) ∧ bcI ((nI b.val &&& -nI b.val) - nI 1) = nI e.val := by decide +kernel
def hiI (b : Nat) : Int32 := itr (fun i x => if b.testBit i = true then nI i else x) 8 0 (-1)
theorem hi_0 : ∀ b : Fin 256, b.val = 0 ∨ ∃ e : Fin 8, b.val.testBit e.val = true ∧ (∀ i : Fin 8, b.val.testBit i.val = true → i.val ≤ e.val) ∧ hiI b.val = nI e.val := by decide +kernel
theorem q_least {b : Nat} (hb : b < 256) (h0 : ¬ b = 0) : ∃ e : Nat, e < 8 ∧ b.testBit e = true ∧ (∀ i : Nat, i < 8 → b.testBit i = true → e ≤ i) ∧ call g Board_least [.int (nI b)] h = some (some (.int (nI e)), h) := by
  rcases lo_0 ⟨b, hb⟩ with z | ⟨e, e1, e2, e3⟩
  · exact absurd z h0
  · refine ⟨e.val, e.isLt, e1, fun i hi => e2 ⟨i, hi⟩, ?_⟩
    dsimp only at e3
    rw [n_Board_least]
    simp only [s_Board_least_0, s_Board_least_1, s_Board_least_2, s_Board_least_3, s_Board_least_4, s_Board_least_5, s_Board_least_6, s_Board_least_9, q_bitCount, kon_v, e3]
theorem q_greatest {b : Nat} (hb : b < 256) (h0 : ¬ b = 0) : ∃ e : Nat, e < 8 ∧ b.testBit e = true ∧ (∀ i : Nat, i < 8 → b.testBit i = true → i ≤ e) ∧ call g Board_greatest [.int (nI b)] h = some (some (.int (nI e)), h) := by
  rcases hi_0 ⟨b, hb⟩ with z | ⟨e, e1, e2, e3⟩
  · exact absurd z h0
  · refine ⟨e.val, e.isLt, e1, fun i hi => e2 ⟨i, hi⟩, ?_⟩
    dsimp only at e3
    obtain ⟨f1, -⟩ := l_fold (g := g) (M := Board_greatest) (pc := 4) (st := []) (h := h) (n := 8) (fun i (x : Int32) => [.int (nI b), .int x, .int (nI i)]) (fun _ _ => True) (fun i x => if b.testBit i = true then nI i else x) (fun i x hi _ => by
      have hlt : (i < 8) = True := eq_true hi
      refine ⟨?_, trivial⟩
      show ev g Board_greatest 4 [.int (nI b), .int x, .int (nI i)] [] h = ev g Board_greatest 4 [.int (nI b), .int (if b.testBit i = true then nI i else x), .int (nI (i + 1))] [] h
      rw [s_Board_greatest_4]
      by_cases z : b.testBit i = true
      · have zt : (b.testBit i = true) = True := eq_true z
        simp (disch := omega) only [s_Board_greatest_0, s_Board_greatest_1, s_Board_greatest_2, s_Board_greatest_3, s_Board_greatest_5, s_Board_greatest_7, s_Board_greatest_10, s_Board_greatest_11, s_Board_greatest_12, s_Board_greatest_13, s_Board_greatest_14, s_Board_greatest_15, s_Board_greatest_18, s_Board_greatest_19, s_Board_greatest_22, s_Board_greatest_23, s_Board_greatest_24, s_Board_greatest_27, s_Board_greatest_30, s_Board_greatest_31, y_kd_sI, y_kd_sL, y_kd_sR, y_kd_cpI, y_kd_cpL, y_ln_sI, y_ln_sL, y_ln_sR, y_ln_cpI, y_ln_cpL, y_sz_sI, y_sz_sL, y_sz_sR, y_sz_cpI, y_sz_cpL, y_sl_sI, y_sl_sL, y_sl_sR, y_sl_cpI, y_sl_cpL, y_gI_sL, y_gI_sR, y_gI_cpI, y_gI_cpL, y_gI_nw, y_gL_sI, y_gL_sR, y_gL_cpI, y_gL_cpL, y_gL_nw, y_gR_sI, y_gR_sL, y_gR_cpI, y_gR_cpL, y_gR_nw, y_kd_nw, y_ln_nw, y_sz_nw, y_sl_nw, y_fx_int, y_fx_long, y_fx_ref, y_fx_null, y_fx_U, y_rf_s, y_rf_n, a_inb, a_ix, a_lt, a_eq, a_eq0, a_lt0, a_0lt, a_m1, a_m2, a_mlt, a_sub, a_dec, a_div, a_rem, a_shl, a_shr, a_bit, a_bit0, a_II, a_Ia, a_Ik, a_LL, a_La, a_Lk, a_RR, a_Ra, a_Rk, a_if0, a_if1, y_mul, y_and, y_or, nI_add, y_b1, y_b0, kon_v, kon_0, true_or, or_true, and_self, true_and, and_true, false_or, or_false, and_false, false_and, not_true_eq_false, not_false_eq_true, ite_self, ↓reduceIte, Nat.reduceEqDiff, Nat.reduceLeDiff, Nat.reduceAdd, Nat.reduceMul, Nat.reduceSub, Nat.reduceLT, Nat.reduceShiftLeft, Nat.reduceOr, Nat.reduceAnd, Bool.false_eq_true, b_if, b_z1, b_z0, b_zz, b_a1, b_a0, b_lc, b_zF, b_zT, b_lbit, hlt, zt]
      · have zt : (b.testBit i = true) = False := eq_false z
        simp (disch := omega) only [s_Board_greatest_0, s_Board_greatest_1, s_Board_greatest_2, s_Board_greatest_3, s_Board_greatest_5, s_Board_greatest_7, s_Board_greatest_10, s_Board_greatest_11, s_Board_greatest_12, s_Board_greatest_13, s_Board_greatest_14, s_Board_greatest_15, s_Board_greatest_18, s_Board_greatest_19, s_Board_greatest_22, s_Board_greatest_23, s_Board_greatest_24, s_Board_greatest_27, s_Board_greatest_30, s_Board_greatest_31, y_kd_sI, y_kd_sL, y_kd_sR, y_kd_cpI, y_kd_cpL, y_ln_sI, y_ln_sL, y_ln_sR, y_ln_cpI, y_ln_cpL, y_sz_sI, y_sz_sL, y_sz_sR, y_sz_cpI, y_sz_cpL, y_sl_sI, y_sl_sL, y_sl_sR, y_sl_cpI, y_sl_cpL, y_gI_sL, y_gI_sR, y_gI_cpI, y_gI_cpL, y_gI_nw, y_gL_sI, y_gL_sR, y_gL_cpI, y_gL_cpL, y_gL_nw, y_gR_sI, y_gR_sL, y_gR_cpI, y_gR_cpL, y_gR_nw, y_kd_nw, y_ln_nw, y_sz_nw, y_sl_nw, y_fx_int, y_fx_long, y_fx_ref, y_fx_null, y_fx_U, y_rf_s, y_rf_n, a_inb, a_ix, a_lt, a_eq, a_eq0, a_lt0, a_0lt, a_m1, a_m2, a_mlt, a_sub, a_dec, a_div, a_rem, a_shl, a_shr, a_bit, a_bit0, a_II, a_Ia, a_Ik, a_LL, a_La, a_Lk, a_RR, a_Ra, a_Rk, a_if0, a_if1, y_mul, y_and, y_or, nI_add, y_b1, y_b0, kon_v, kon_0, true_or, or_true, and_self, true_and, and_true, false_or, or_false, and_false, false_and, not_true_eq_false, not_false_eq_true, ite_self, ↓reduceIte, Nat.reduceEqDiff, Nat.reduceLeDiff, Nat.reduceAdd, Nat.reduceMul, Nat.reduceSub, Nat.reduceLT, Nat.reduceShiftLeft, Nat.reduceOr, Nat.reduceAnd, Bool.false_eq_true, b_if, b_z1, b_z0, b_zz, b_a1, b_a0, b_lc, b_zF, b_zT, b_lbit, hlt, zt]) 8 0 (-1) (by omega) trivial
    have f1' : ev g Board_greatest 4 [.int (nI b), .int (-1), .int (nI 0)] [] h = ev g Board_greatest 4 [.int (nI b), .int (hiI b), .int (nI 8)] [] h := f1
    rw [e3] at f1'
    rw [n_Board_greatest, s_Board_greatest_0, s_Board_greatest_1, s_Board_greatest_2, s_Board_greatest_3]
    refine Eq.trans (show _ = ev g Board_greatest 4 [.int (nI b), .int (-1), .int (nI 0)] [] h from rfl) (f1'.trans ?_)
    simp (disch := omega) only [s_Board_greatest_0, s_Board_greatest_1, s_Board_greatest_2, s_Board_greatest_3, s_Board_greatest_4, s_Board_greatest_5, s_Board_greatest_7, s_Board_greatest_10, s_Board_greatest_11, s_Board_greatest_12, s_Board_greatest_13, s_Board_greatest_14, s_Board_greatest_15, s_Board_greatest_18, s_Board_greatest_19, s_Board_greatest_22, s_Board_greatest_23, s_Board_greatest_24, s_Board_greatest_27, s_Board_greatest_30, s_Board_greatest_31, y_kd_sI, y_kd_sL, y_kd_sR, y_kd_cpI, y_kd_cpL, y_ln_sI, y_ln_sL, y_ln_sR, y_ln_cpI, y_ln_cpL, y_sz_sI, y_sz_sL, y_sz_sR, y_sz_cpI, y_sz_cpL, y_sl_sI, y_sl_sL, y_sl_sR, y_sl_cpI, y_sl_cpL, y_gI_sL, y_gI_sR, y_gI_cpI, y_gI_cpL, y_gI_nw, y_gL_sI, y_gL_sR, y_gL_cpI, y_gL_cpL, y_gL_nw, y_gR_sI, y_gR_sL, y_gR_cpI, y_gR_cpL, y_gR_nw, y_kd_nw, y_ln_nw, y_sz_nw, y_sl_nw, y_fx_int, y_fx_long, y_fx_ref, y_fx_null, y_fx_U, y_rf_s, y_rf_n, a_inb, a_ix, a_lt, a_eq, a_eq0, a_lt0, a_0lt, a_m1, a_m2, a_mlt, a_sub, a_dec, a_div, a_rem, a_shl, a_shr, a_bit, a_bit0, a_II, a_Ia, a_Ik, a_LL, a_La, a_Lk, a_RR, a_Ra, a_Rk, a_if0, a_if1, y_mul, y_and, y_or, nI_add, y_b1, y_b0, kon_v, kon_0, true_or, or_true, and_self, true_and, and_true, false_or, or_false, and_false, false_and, not_true_eq_false, not_false_eq_true, ite_self, ↓reduceIte, Nat.reduceEqDiff, Nat.reduceLeDiff, Nat.reduceAdd, Nat.reduceMul, Nat.reduceSub, Nat.reduceLT, Nat.reduceShiftLeft, Nat.reduceOr, Nat.reduceAnd, Bool.false_eq_true, b_if, b_z1, b_z0, b_zz, b_a1, b_a0, b_lc, b_zF, b_zT, b_lbit, Nat.lt_irrefl]
/-- rows (R) or columns, and the least (L) or greatest of them, as the class finds them -/
theorem q_lr (hv : ¬ v = lN 0) : ∃ b : Nat, b < 256 ∧ call g Board_rowsOf [.long v] h = some (some (.int (nI b)), h) ∧ (∃ e : Nat, e < 8 ∧ isE v true true 64 e ∧ call g Board_least [.int (nI b)] h = some (some (.int (nI e)), h)) ∧ ∃ e : Nat, e < 8 ∧ isE v true false 64 e ∧ call g Board_greatest [.int (nI b)] h = some (some (.int (nI e)), h) := by
  obtain ⟨b, b1, b2, b3⟩ := q_rowsOf (g := g) (h := h) (v := v)
  obtain ⟨i, hi, hb⟩ := lb_ne.1 hv
  have b0 : ¬ b = 0 := fun e => by
    have := (b2 (i / 8)).2 ⟨by omega, i, hi, hb, rfl⟩
    rw [e, Nat.zero_testBit] at this
    exact absurd this (by decide)
  refine ⟨b, b1, b3, ?_, ?_⟩
  · obtain ⟨e, e1, e2, e3, e4⟩ := q_least (g := g) (h := h) b1 b0
    refine ⟨e, e1, ⟨((b2 e).1 e2).2, fun j hj hb => ?_⟩, e4⟩
    rintro (⟨-, c⟩ | ⟨c, -⟩)
    · have c' : j / 8 < e := c
      have := e3 (j / 8) (by omega) ((b2 (j / 8)).2 ⟨by omega, j, hj, hb, rfl⟩)
      omega
    · exact absurd c (by decide)
  · obtain ⟨e, e1, e2, e3, e4⟩ := q_greatest (g := g) (h := h) b1 b0
    refine ⟨e, e1, ⟨((b2 e).1 e2).2, fun j hj hb => ?_⟩, e4⟩
    rintro (⟨c, -⟩ | ⟨-, c⟩)
    · exact absurd c (by decide)
    · have c' : e < j / 8 := c
      have := e3 (j / 8) (by omega) ((b2 (j / 8)).2 ⟨by omega, j, hj, hb, rfl⟩)
      omega
theorem q_lc (hv : ¬ v = lN 0) : ∃ b : Nat, b < 256 ∧ call g Board_columnsOf [.long v] h = some (some (.int (nI b)), h) ∧ (∃ e : Nat, e < 8 ∧ isE v false true 64 e ∧ call g Board_least [.int (nI b)] h = some (some (.int (nI e)), h)) ∧ ∃ e : Nat, e < 8 ∧ isE v false false 64 e ∧ call g Board_greatest [.int (nI b)] h = some (some (.int (nI e)), h) := by
  obtain ⟨b, b1, b2, b3⟩ := q_columnsOf (g := g) (h := h) (v := v)
  obtain ⟨i, hi, hb⟩ := lb_ne.1 hv
  have b0 : ¬ b = 0 := fun e => by
    have := (b2 (i % 8)).2 ⟨by omega, i, hi, hb, rfl⟩
    rw [e, Nat.zero_testBit] at this
    exact absurd this (by decide)
  refine ⟨b, b1, b3, ?_, ?_⟩
  · obtain ⟨e, e1, e2, e3, e4⟩ := q_least (g := g) (h := h) b1 b0
    refine ⟨e, e1, ⟨((b2 e).1 e2).2, fun j hj hb => ?_⟩, e4⟩
    rintro (⟨-, c⟩ | ⟨c, -⟩)
    · have c' : j % 8 < e := c
      have := e3 (j % 8) (by omega) ((b2 (j % 8)).2 ⟨by omega, j, hj, hb, rfl⟩)
      omega
    · exact absurd c (by decide)
  · obtain ⟨e, e1, e2, e3, e4⟩ := q_greatest (g := g) (h := h) b1 b0
    refine ⟨e, e1, ⟨((b2 e).1 e2).2, fun j hj hb => ?_⟩, e4⟩
    rintro (⟨c, -⟩ | ⟨-, c⟩)
    · exact absurd c (by decide)
    · have c' : e < j % 8 := c
      have := e3 (j % 8) (by omega) ((b2 (j % 8)).2 ⟨by omega, j, hj, hb, rfl⟩)
      omega
end ZED
