/-! the class's tape: tokens -/
/-- a byte of the tape in the class -/
def sby (b : Nat) : Int32 := (nI b).toInt8.toInt32
theorem sby_d : ∀ b : Fin 256, ((sby b.val = nI 32) ↔ isB b.val = true) ∧ ((¬ sby b.val < nI 97 ∧ ¬ nI 122 < sby b.val) ↔ isL b.val = true) ∧ ((¬ sby b.val < nI 48 ∧ ¬ nI 57 < sby b.val) ↔ isD b.val = true) ∧ ((isL b.val = true ∨ isD b.val = true) → sby b.val = nI b.val) ∧ ∀ c : Fin 26, (sby b.val = nI (97 + c.val)) ↔ b.val = 97 + c.val := by decide +kernel
theorem sby_m : (¬ (-1 : Int32) < nI 97 ∧ ¬ nI 122 < (-1 : Int32)) = False ∧ (¬ (-1 : Int32) < nI 48 ∧ ¬ nI 57 < (-1 : Int32)) = False := by decide
def isWb (T : zT) (σ : zK) (w : List Nat) : Bool := decide (σ.1 = 1) && (decide (σ.2.2 - σ.2.1 = w.length) && (List.range w.length).all (fun i => decide (T.2 (σ.2.1 + i) = w.getD i 0)))
theorem isWb_i {T : zT} {σ : zK} {w : List Nat} : isWb T σ w = true ↔ isW T σ w := by
  unfold isWb isW
  rw [Bool.and_eq_true, Bool.and_eq_true, decide_eq_true_eq, decide_eq_true_eq, List.all_eq_true]
  constructor
  · rintro ⟨a, b, c⟩
    exact ⟨a, b, fun i hi => of_decide_eq_true (c i (List.mem_range.2 hi))⟩
  · rintro ⟨a, b, c⟩
    exact ⟨a, b, fun i hi => decide_eq_true (c i (List.mem_range.1 hi))⟩
/-- the class's token -/
def tkn (h : zMem) (B : Nat) (T : zT) (σ : zK) : Prop := gI h (B + 18) 2 = nI σ.1 ∧ gI h (B + 18) 3 = nI σ.2.1 ∧ gI h (B + 18) 4 = nI σ.2.2 ∧ (σ.1 = 2 → gI h (B + 18) 5 = nI (nvC T σ.2.1 σ.2.2))
section ZCT
variable {g : Nat → Nat} {B p s e k : Nat} {h h' : zMem} {T : zT} {σ : zK}
theorem u2_2 {α : Type} {f : Nat → Nat → α} {a k : Nat} {x y : α} : u2 (u2 f a k x) a k y = u2 f a k y := by
  funext b j
  unfold u2
  by_cases q : b = a ∧ j = k
  · rw [if_pos q, if_pos q]
  · rw [if_neg q, if_neg q, if_neg q]
theorem sL_sL {a k : Nat} {x y : Int64} : sL (sL h a k x) a k y = sL h a k y := by
  unfold sL
  dsimp only
  rw [u2_2]
theorem sI_id {a k : Nat} {x : Int32} (e : gI h a k = x) : sI h a k x = h := by
  have q : u2 h.2.2.2.2.2.1 a k x = h.2.2.2.2.2.1 := by
    funext b j
    unfold u2
    by_cases q : b = a ∧ j = k
    · rw [if_pos q, q.1, q.2]; exact e.symm
    · rw [if_neg q]
  unfold sI
  rw [q]
theorem sL_id {a k : Nat} {x : Int64} (e : gL h a k = x) : sL h a k x = h := by
  have q : u2 h.2.2.2.2.2.2 a k x = h.2.2.2.2.2.2 := by
    funext b j
    unfold u2
    by_cases q : b = a ∧ j = k
    · rw [if_pos q, q.1, q.2]; exact e.symm
    · rw [if_neg q]
  unfold sL
  rw [q]
theorem cTp.by (c : cTp h B T) {i : Nat} (hi : i < T.1) : gI h (B + 19) i = sby (T.2 i) := c.2 i hi
theorem q_byteAt (o : oDC h B) (c : cTp h B T) (k80 : T.1 ≤ 80) (hs : s ≤ T.1) : call g Tape_byteAt [.ref (B + 18), .int (nI s)] h = some (some (.int (if s < T.1 then sby (T.2 s) else -1)), h) := by
  have k1 := dc_k18 o
  have k2 := dc_r18 o
  have k3 := dc_k19 o
  have k4 := dc_l19 o
  have c1 := c.1
  rw [n_Tape_byteAt]
  by_cases z : s < T.1
  · have z1 : (s < T.1) = True := eq_true z
    have c2 := c.by z
    rw [if_pos z]
    simp (disch := omega) only [s_Tape_byteAt_0, s_Tape_byteAt_1, s_Tape_byteAt_4, s_Tape_byteAt_5, s_Tape_byteAt_6, s_Tape_byteAt_9, s_Tape_byteAt_12, s_Tape_byteAt_13, s_Tape_byteAt_16, s_Tape_byteAt_17, s_Tape_byteAt_18, s_Tape_byteAt_21, s_Tape_byteAt_22, y_kd_sI, y_kd_sL, y_kd_sR, y_kd_cpI, y_kd_cpL, y_ln_sI, y_ln_sL, y_ln_sR, y_ln_cpI, y_ln_cpL, y_sz_sI, y_sz_sL, y_sz_sR, y_sz_cpI, y_sz_cpL, y_sl_sI, y_sl_sL, y_sl_sR, y_sl_cpI, y_sl_cpL, y_gI_sL, y_gI_sR, y_gI_cpI, y_gI_cpL, y_gI_nw, y_gL_sI, y_gL_sR, y_gL_cpI, y_gL_cpL, y_gL_nw, y_gR_sI, y_gR_sL, y_gR_cpI, y_gR_cpL, y_gR_nw, y_kd_nw, y_ln_nw, y_sz_nw, y_sl_nw, y_fx_int, y_fx_long, y_fx_ref, y_fx_null, y_fx_U, y_rf_s, y_rf_n, a_inb, a_ix, a_lt, a_eq, a_eq0, a_lt0, a_0lt, a_m1, a_m2, a_mlt, a_sub, a_dec, a_div, a_rem, a_shl, a_shr, a_bit, a_bit0, a_II, a_Ia, a_Ik, a_LL, a_La, a_Lk, a_RR, a_Ra, a_Rk, a_if0, a_if1, y_mul, y_and, y_or, nI_add, y_b1, y_b0, kon_v, kon_0, true_or, or_true, and_self, true_and, and_true, false_or, or_false, and_false, false_and, not_true_eq_false, not_false_eq_true, ite_self, ↓reduceIte, Nat.reduceEqDiff, Nat.reduceLeDiff, Nat.reduceAdd, Nat.reduceMul, Nat.reduceSub, Nat.reduceLT, Nat.reduceShiftLeft, Nat.reduceOr, Nat.reduceAnd, Bool.false_eq_true, b_if, b_z1, b_z0, b_zz, b_a1, b_a0, b_lc, b_zF, b_zT, b_lbit, k1, k2, k3, k4, c1, c2, z1, va_rf]
  · have z1 : (s < T.1) = False := eq_false z
    rw [if_neg z]
    simp (disch := omega) only [s_Tape_byteAt_0, s_Tape_byteAt_1, s_Tape_byteAt_4, s_Tape_byteAt_5, s_Tape_byteAt_6, s_Tape_byteAt_9, s_Tape_byteAt_12, s_Tape_byteAt_13, s_Tape_byteAt_16, s_Tape_byteAt_17, s_Tape_byteAt_18, s_Tape_byteAt_21, s_Tape_byteAt_22, y_kd_sI, y_kd_sL, y_kd_sR, y_kd_cpI, y_kd_cpL, y_ln_sI, y_ln_sL, y_ln_sR, y_ln_cpI, y_ln_cpL, y_sz_sI, y_sz_sL, y_sz_sR, y_sz_cpI, y_sz_cpL, y_sl_sI, y_sl_sL, y_sl_sR, y_sl_cpI, y_sl_cpL, y_gI_sL, y_gI_sR, y_gI_cpI, y_gI_cpL, y_gI_nw, y_gL_sI, y_gL_sR, y_gL_cpI, y_gL_cpL, y_gL_nw, y_gR_sI, y_gR_sL, y_gR_cpI, y_gR_cpL, y_gR_nw, y_kd_nw, y_ln_nw, y_sz_nw, y_sl_nw, y_fx_int, y_fx_long, y_fx_ref, y_fx_null, y_fx_U, y_rf_s, y_rf_n, a_inb, a_ix, a_lt, a_eq, a_eq0, a_lt0, a_0lt, a_m1, a_m2, a_mlt, a_sub, a_dec, a_div, a_rem, a_shl, a_shr, a_bit, a_bit0, a_II, a_Ia, a_Ik, a_LL, a_La, a_Lk, a_RR, a_Ra, a_Rk, a_if0, a_if1, y_mul, y_and, y_or, nI_add, y_b1, y_b0, kon_v, kon_0, true_or, or_true, and_self, true_and, and_true, false_or, or_false, and_false, false_and, not_true_eq_false, not_false_eq_true, ite_self, ↓reduceIte, Nat.reduceEqDiff, Nat.reduceLeDiff, Nat.reduceAdd, Nat.reduceMul, Nat.reduceSub, Nat.reduceLT, Nat.reduceShiftLeft, Nat.reduceOr, Nat.reduceAnd, Bool.false_eq_true, b_if, b_z1, b_z0, b_zz, b_a1, b_a0, b_lc, b_zF, b_zT, b_lbit, k1, c1, z1]
theorem q_valueHere (o : oDC h B) (c : cTp h B T) (k80 : T.1 ≤ 80) (h3 : gI h (B + 18) 3 = nI s) (h4 : gI h (B + 18) 4 = nI e) (hs : s ≤ e) (he : e ≤ T.1) (kb : ∀ i : Nat, i < T.1 → T.2 i < 256) (hd : ∀ i : Nat, s ≤ i → i < e → isD (T.2 i) = true) : call g Tape_valueHere [.ref (B + 18)] h = some (some (.int (nI (nvC T s e))), h) := by
  have k1 := dc_k18 o
  have k2 := dc_r18 o
  have k3 := dc_k19 o
  have k4 := dc_l19 o
  have c1 := c.1
  rw [n_Tape_valueHere]
  unfold nvC
  by_cases z : e - s > 3
  · have z1 : (3 < e - s) = True := eq_true z
    rw [if_pos z]
    simp (disch := omega) only [s_Tape_valueHere_0, s_Tape_valueHere_1, s_Tape_valueHere_4, s_Tape_valueHere_5, s_Tape_valueHere_8, s_Tape_valueHere_9, s_Tape_valueHere_10, s_Tape_valueHere_13, s_Tape_valueHere_16, s_Tape_valueHere_17, s_Tape_valueHere_18, s_Tape_valueHere_19, s_Tape_valueHere_20, s_Tape_valueHere_23, s_Tape_valueHere_24, s_Tape_valueHere_25, s_Tape_valueHere_26, s_Tape_valueHere_29, s_Tape_valueHere_32, s_Tape_valueHere_33, s_Tape_valueHere_35, s_Tape_valueHere_36, s_Tape_valueHere_37, s_Tape_valueHere_40, s_Tape_valueHere_41, s_Tape_valueHere_42, s_Tape_valueHere_43, s_Tape_valueHere_45, s_Tape_valueHere_46, s_Tape_valueHere_47, s_Tape_valueHere_50, s_Tape_valueHere_53, s_Tape_valueHere_54, y_kd_sI, y_kd_sL, y_kd_sR, y_kd_cpI, y_kd_cpL, y_ln_sI, y_ln_sL, y_ln_sR, y_ln_cpI, y_ln_cpL, y_sz_sI, y_sz_sL, y_sz_sR, y_sz_cpI, y_sz_cpL, y_sl_sI, y_sl_sL, y_sl_sR, y_sl_cpI, y_sl_cpL, y_gI_sL, y_gI_sR, y_gI_cpI, y_gI_cpL, y_gI_nw, y_gL_sI, y_gL_sR, y_gL_cpI, y_gL_cpL, y_gL_nw, y_gR_sI, y_gR_sL, y_gR_cpI, y_gR_cpL, y_gR_nw, y_kd_nw, y_ln_nw, y_sz_nw, y_sl_nw, y_fx_int, y_fx_long, y_fx_ref, y_fx_null, y_fx_U, y_rf_s, y_rf_n, a_inb, a_ix, a_lt, a_eq, a_eq0, a_lt0, a_0lt, a_m1, a_m2, a_mlt, a_sub, a_dec, a_div, a_rem, a_shl, a_shr, a_bit, a_bit0, a_II, a_Ia, a_Ik, a_LL, a_La, a_Lk, a_RR, a_Ra, a_Rk, a_if0, a_if1, y_mul, y_and, y_or, nI_add, y_b1, y_b0, kon_v, kon_0, true_or, or_true, and_self, true_and, and_true, false_or, or_false, and_false, false_and, not_true_eq_false, not_false_eq_true, ite_self, ↓reduceIte, Nat.reduceEqDiff, Nat.reduceLeDiff, Nat.reduceAdd, Nat.reduceMul, Nat.reduceSub, Nat.reduceLT, Nat.reduceShiftLeft, Nat.reduceOr, Nat.reduceAnd, Bool.false_eq_true, b_if, b_z1, b_z0, b_zz, b_a1, b_a0, b_lc, b_zF, b_zT, b_lbit, k1, h3, h4, z1]
  · have z1 : (3 < e - s) = False := eq_false z
    rw [if_neg z]
    have lp : ∀ (k j : Nat), j + k = e - s → ev g Tape_valueHere 24 [.ref (B + 18), .int (nI (nvl (fun i => T.2 (s + i)) j)), .int (nI (s + j))] [] h = some (some (.int (nI (nvl (fun i => T.2 (s + i)) (e - s)))), h) := by
      intro k
      induction k with
      | zero =>
        intro j hj
        have e1 : j = e - s := by omega
        have e2 : (s + j < e) = False := eq_false (by omega)
        rw [← e1, s_Tape_valueHere_24]
        simp (disch := omega) only [s_Tape_valueHere_0, s_Tape_valueHere_1, s_Tape_valueHere_4, s_Tape_valueHere_5, s_Tape_valueHere_8, s_Tape_valueHere_9, s_Tape_valueHere_10, s_Tape_valueHere_13, s_Tape_valueHere_16, s_Tape_valueHere_17, s_Tape_valueHere_18, s_Tape_valueHere_19, s_Tape_valueHere_20, s_Tape_valueHere_23, s_Tape_valueHere_25, s_Tape_valueHere_26, s_Tape_valueHere_29, s_Tape_valueHere_32, s_Tape_valueHere_33, s_Tape_valueHere_35, s_Tape_valueHere_36, s_Tape_valueHere_37, s_Tape_valueHere_40, s_Tape_valueHere_41, s_Tape_valueHere_42, s_Tape_valueHere_43, s_Tape_valueHere_45, s_Tape_valueHere_46, s_Tape_valueHere_47, s_Tape_valueHere_50, s_Tape_valueHere_53, s_Tape_valueHere_54, y_kd_sI, y_kd_sL, y_kd_sR, y_kd_cpI, y_kd_cpL, y_ln_sI, y_ln_sL, y_ln_sR, y_ln_cpI, y_ln_cpL, y_sz_sI, y_sz_sL, y_sz_sR, y_sz_cpI, y_sz_cpL, y_sl_sI, y_sl_sL, y_sl_sR, y_sl_cpI, y_sl_cpL, y_gI_sL, y_gI_sR, y_gI_cpI, y_gI_cpL, y_gI_nw, y_gL_sI, y_gL_sR, y_gL_cpI, y_gL_cpL, y_gL_nw, y_gR_sI, y_gR_sL, y_gR_cpI, y_gR_cpL, y_gR_nw, y_kd_nw, y_ln_nw, y_sz_nw, y_sl_nw, y_fx_int, y_fx_long, y_fx_ref, y_fx_null, y_fx_U, y_rf_s, y_rf_n, a_inb, a_ix, a_lt, a_eq, a_eq0, a_lt0, a_0lt, a_m1, a_m2, a_mlt, a_sub, a_dec, a_div, a_rem, a_shl, a_shr, a_bit, a_bit0, a_II, a_Ia, a_Ik, a_LL, a_La, a_Lk, a_RR, a_Ra, a_Rk, a_if0, a_if1, y_mul, y_and, y_or, nI_add, y_b1, y_b0, kon_v, kon_0, true_or, or_true, and_self, true_and, and_true, false_or, or_false, and_false, false_and, not_true_eq_false, not_false_eq_true, ite_self, ↓reduceIte, Nat.reduceEqDiff, Nat.reduceLeDiff, Nat.reduceAdd, Nat.reduceMul, Nat.reduceSub, Nat.reduceLT, Nat.reduceShiftLeft, Nat.reduceOr, Nat.reduceAnd, Bool.false_eq_true, b_if, b_z1, b_z0, b_zz, b_a1, b_a0, b_lc, b_zF, b_zT, b_lbit, k1, h4, e2]
      | succ k ih =>
        intro j hj
        have e2 : (s + j < e) = True := eq_true (by omega)
        have e3 : gI h (B + 19) (s + j) = nI (T.2 (s + j)) := by
          rw [c.by (by omega)]
          exact (sby_d ⟨T.2 (s + j), kb _ (by omega)⟩).2.2.2.1 (Or.inr (hd _ (by omega) (by omega)))
        have hD := of_decide_eq_true (hd (s + j) (by omega) (by omega))
        have e4 : nvl (fun i => T.2 (s + i)) j * 10 + T.2 (s + j) - 48 = nvl (fun i => T.2 (s + i)) (j + 1) := by
          show _ = nvl (fun i => T.2 (s + i)) j * 10 + (T.2 (s + j) - 48)
          omega
        have := ih (j + 1) (by omega)
        rw [← Nat.add_assoc] at this
        rw [s_Tape_valueHere_24]
        simp (disch := omega) only [s_Tape_valueHere_0, s_Tape_valueHere_1, s_Tape_valueHere_4, s_Tape_valueHere_5, s_Tape_valueHere_8, s_Tape_valueHere_9, s_Tape_valueHere_10, s_Tape_valueHere_13, s_Tape_valueHere_16, s_Tape_valueHere_17, s_Tape_valueHere_18, s_Tape_valueHere_19, s_Tape_valueHere_20, s_Tape_valueHere_23, s_Tape_valueHere_25, s_Tape_valueHere_26, s_Tape_valueHere_29, s_Tape_valueHere_32, s_Tape_valueHere_33, s_Tape_valueHere_35, s_Tape_valueHere_36, s_Tape_valueHere_37, s_Tape_valueHere_40, s_Tape_valueHere_41, s_Tape_valueHere_42, s_Tape_valueHere_43, s_Tape_valueHere_45, s_Tape_valueHere_46, s_Tape_valueHere_47, s_Tape_valueHere_50, s_Tape_valueHere_53, s_Tape_valueHere_54, y_kd_sI, y_kd_sL, y_kd_sR, y_kd_cpI, y_kd_cpL, y_ln_sI, y_ln_sL, y_ln_sR, y_ln_cpI, y_ln_cpL, y_sz_sI, y_sz_sL, y_sz_sR, y_sz_cpI, y_sz_cpL, y_sl_sI, y_sl_sL, y_sl_sR, y_sl_cpI, y_sl_cpL, y_gI_sL, y_gI_sR, y_gI_cpI, y_gI_cpL, y_gI_nw, y_gL_sI, y_gL_sR, y_gL_cpI, y_gL_cpL, y_gL_nw, y_gR_sI, y_gR_sL, y_gR_cpI, y_gR_cpL, y_gR_nw, y_kd_nw, y_ln_nw, y_sz_nw, y_sl_nw, y_fx_int, y_fx_long, y_fx_ref, y_fx_null, y_fx_U, y_rf_s, y_rf_n, a_inb, a_ix, a_lt, a_eq, a_eq0, a_lt0, a_0lt, a_m1, a_m2, a_mlt, a_sub, a_dec, a_div, a_rem, a_shl, a_shr, a_bit, a_bit0, a_II, a_Ia, a_Ik, a_LL, a_La, a_Lk, a_RR, a_Ra, a_Rk, a_if0, a_if1, y_mul, y_and, y_or, nI_add, y_b1, y_b0, kon_v, kon_0, true_or, or_true, and_self, true_and, and_true, false_or, or_false, and_false, false_and, not_true_eq_false, not_false_eq_true, ite_self, ↓reduceIte, Nat.reduceEqDiff, Nat.reduceLeDiff, Nat.reduceAdd, Nat.reduceMul, Nat.reduceSub, Nat.reduceLT, Nat.reduceShiftLeft, Nat.reduceOr, Nat.reduceAnd, Bool.false_eq_true, b_if, b_z1, b_z0, b_zz, b_a1, b_a0, b_lc, b_zF, b_zT, b_lbit, k1, k2, k3, k4, h4, e2, e3, e4, va_rf, this]
    have l0 := lp (e - s) 0 (by omega)
    rw [Nat.add_zero] at l0
    have n0 : nvl (fun i => T.2 (s + i)) 0 = 0 := rfl
    rw [n0] at l0
    simp (disch := omega) only [s_Tape_valueHere_0, s_Tape_valueHere_1, s_Tape_valueHere_4, s_Tape_valueHere_5, s_Tape_valueHere_8, s_Tape_valueHere_9, s_Tape_valueHere_10, s_Tape_valueHere_13, s_Tape_valueHere_16, s_Tape_valueHere_17, s_Tape_valueHere_18, s_Tape_valueHere_19, s_Tape_valueHere_20, s_Tape_valueHere_23, s_Tape_valueHere_25, s_Tape_valueHere_26, s_Tape_valueHere_29, s_Tape_valueHere_32, s_Tape_valueHere_33, s_Tape_valueHere_35, s_Tape_valueHere_36, s_Tape_valueHere_37, s_Tape_valueHere_40, s_Tape_valueHere_41, s_Tape_valueHere_42, s_Tape_valueHere_43, s_Tape_valueHere_45, s_Tape_valueHere_46, s_Tape_valueHere_47, s_Tape_valueHere_50, s_Tape_valueHere_53, s_Tape_valueHere_54, y_kd_sI, y_kd_sL, y_kd_sR, y_kd_cpI, y_kd_cpL, y_ln_sI, y_ln_sL, y_ln_sR, y_ln_cpI, y_ln_cpL, y_sz_sI, y_sz_sL, y_sz_sR, y_sz_cpI, y_sz_cpL, y_sl_sI, y_sl_sL, y_sl_sR, y_sl_cpI, y_sl_cpL, y_gI_sL, y_gI_sR, y_gI_cpI, y_gI_cpL, y_gI_nw, y_gL_sI, y_gL_sR, y_gL_cpI, y_gL_cpL, y_gL_nw, y_gR_sI, y_gR_sL, y_gR_cpI, y_gR_cpL, y_gR_nw, y_kd_nw, y_ln_nw, y_sz_nw, y_sl_nw, y_fx_int, y_fx_long, y_fx_ref, y_fx_null, y_fx_U, y_rf_s, y_rf_n, a_inb, a_ix, a_lt, a_eq, a_eq0, a_lt0, a_0lt, a_m1, a_m2, a_mlt, a_sub, a_dec, a_div, a_rem, a_shl, a_shr, a_bit, a_bit0, a_II, a_Ia, a_Ik, a_LL, a_La, a_Lk, a_RR, a_Ra, a_Rk, a_if0, a_if1, y_mul, y_and, y_or, nI_add, y_b1, y_b0, kon_v, kon_0, true_or, or_true, and_self, true_and, and_true, false_or, or_false, and_false, false_and, not_true_eq_false, not_false_eq_true, ite_self, ↓reduceIte, Nat.reduceEqDiff, Nat.reduceLeDiff, Nat.reduceAdd, Nat.reduceMul, Nat.reduceSub, Nat.reduceLT, Nat.reduceShiftLeft, Nat.reduceOr, Nat.reduceAnd, Bool.false_eq_true, b_if, b_z1, b_z0, b_zz, b_a1, b_a0, b_lc, b_zF, b_zT, b_lbit, k1, h3, h4, z1]
    exact l0
end ZCT
