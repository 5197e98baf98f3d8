/-! comes by cells that are next; boxes -/
def flS (a v : Int64) : Int64 := v ||| (nrL v &&& a)
def flK (a : Int64) : Nat → Int64 → Int64
  | 0, v => v
  | k + 1, v => flS a (flK a k v)
theorem flS_sub {a v : Int64} {i : Nat} (h : lb v i = true) : lb (flS a v) i = true := by
  unfold flS
  rw [lb_or, h, Bool.true_or]
theorem flS_0 {a : Int64} : flS a (lN 0) = lN 0 := by
  have e : nrL (lN 0) = lN 0 := by decide
  unfold flS
  rw [e]
  apply lb_ext
  intro i hi
  rw [lb_or, lb_and, lb_0]
  rfl
theorem flK_st {a v : Int64} {k : Nat} (h : flK a (k + 1) v = flK a k v) : ∀ j : Nat, flK a (k + j) v = flK a k v
  | 0 => rfl
  | j + 1 => by
    show flS a (flK a (k + j) v) = _
    rw [flK_st h j]
    exact h
section ZFL
variable {g : Nat → Nat} {h : zMem} {v a : Int64}
theorem q_flood : call g Board_flood [.long v, .long a] h = some (some (.long (flK a 64 v)), h) := by
  obtain ⟨e1, e2⟩ := l_fold (g := g) (M := Board_flood) (pc := 6) (st := []) (h := h) (n := 64) (fun i (x : Int64) => [.long v, zU, .long a, zU, .long x, zU, .int (nI i)]) (fun i x => x = flK a i v) (fun i x => flS a x) (fun i x hi hx => by
    have hlt : (i < 64) = True := eq_true hi
    refine ⟨?_, by rw [hx]; rfl⟩
    show ev g Board_flood 6 [.long v, zU, .long a, zU, .long x, zU, .int (nI i)] [] h = ev g Board_flood 6 [.long v, zU, .long a, zU, .long (flS a x), zU, .int (nI (i + 1))] [] h
    rw [s_Board_flood_6]
    simp (disch := omega) only [s_Board_flood_0, s_Board_flood_1, s_Board_flood_3, s_Board_flood_4, s_Board_flood_8, s_Board_flood_10, s_Board_flood_13, s_Board_flood_15, s_Board_flood_17, s_Board_flood_20, s_Board_flood_21, s_Board_flood_22, s_Board_flood_23, s_Board_flood_25, s_Board_flood_28, s_Board_flood_31, s_Board_flood_33, y_kd_sI, y_kd_sL, y_kd_sR, y_kd_cpI, y_kd_cpL, y_ln_sI, y_ln_sL, y_ln_sR, y_ln_cpI, y_ln_cpL, y_sz_sI, y_sz_sL, y_sz_sR, y_sz_cpI, y_sz_cpL, y_sl_sI, y_sl_sL, y_sl_sR, y_sl_cpI, y_sl_cpL, y_gI_sL, y_gI_sR, y_gI_cpI, y_gI_cpL, y_gI_nw, y_gL_sI, y_gL_sR, y_gL_cpI, y_gL_cpL, y_gL_nw, y_gR_sI, y_gR_sL, y_gR_cpI, y_gR_cpL, y_gR_nw, y_kd_nw, y_ln_nw, y_sz_nw, y_sl_nw, y_fx_int, y_fx_long, y_fx_ref, y_fx_null, y_fx_U, y_rf_s, y_rf_n, a_inb, a_ix, a_lt, a_eq, a_eq0, a_lt0, a_0lt, a_m1, a_m2, a_mlt, a_sub, a_dec, a_div, a_rem, a_shl, a_shr, a_bit, a_bit0, a_II, a_Ia, a_Ik, a_LL, a_La, a_Lk, a_RR, a_Ra, a_Rk, a_if0, a_if1, y_mul, y_and, y_or, nI_add, y_b1, y_b0, kon_v, kon_0, true_or, or_true, and_self, true_and, and_true, false_or, or_false, and_false, false_and, not_true_eq_false, not_false_eq_true, ite_self, ↓reduceIte, Nat.reduceEqDiff, Nat.reduceLeDiff, Nat.reduceAdd, Nat.reduceMul, Nat.reduceSub, Nat.reduceLT, Nat.reduceShiftLeft, Nat.reduceOr, Nat.reduceAnd, Bool.false_eq_true, b_if, b_z1, b_z0, b_zz, b_a1, b_a0, b_lc, b_zF, b_zT, b_lbit, hlt, q_nextTo]
    rfl) 64 0 v (by omega) rfl
  rw [e2] at e1
  rw [n_Board_flood]
  have go : ev g Board_flood 0 [.long v, zU, .long a, zU, zU, zU, zU] [] h = ev g Board_flood 6 [.long v, zU, .long a, zU, .long v, zU, .int (nI 0)] [] h := by
    simp (disch := omega) only [s_Board_flood_0, s_Board_flood_1, s_Board_flood_3, s_Board_flood_4, s_Board_flood_8, s_Board_flood_10, s_Board_flood_13, s_Board_flood_15, s_Board_flood_17, s_Board_flood_20, s_Board_flood_21, s_Board_flood_22, s_Board_flood_23, s_Board_flood_25, s_Board_flood_28, s_Board_flood_31, s_Board_flood_33, y_kd_sI, y_kd_sL, y_kd_sR, y_kd_cpI, y_kd_cpL, y_ln_sI, y_ln_sL, y_ln_sR, y_ln_cpI, y_ln_cpL, y_sz_sI, y_sz_sL, y_sz_sR, y_sz_cpI, y_sz_cpL, y_sl_sI, y_sl_sL, y_sl_sR, y_sl_cpI, y_sl_cpL, y_gI_sL, y_gI_sR, y_gI_cpI, y_gI_cpL, y_gI_nw, y_gL_sI, y_gL_sR, y_gL_cpI, y_gL_cpL, y_gL_nw, y_gR_sI, y_gR_sL, y_gR_cpI, y_gR_cpL, y_gR_nw, y_kd_nw, y_ln_nw, y_sz_nw, y_sl_nw, y_fx_int, y_fx_long, y_fx_ref, y_fx_null, y_fx_U, y_rf_s, y_rf_n, a_inb, a_ix, a_lt, a_eq, a_eq0, a_lt0, a_0lt, a_m1, a_m2, a_mlt, a_sub, a_dec, a_div, a_rem, a_shl, a_shr, a_bit, a_bit0, a_II, a_Ia, a_Ik, a_LL, a_La, a_Lk, a_RR, a_Ra, a_Rk, a_if0, a_if1, y_mul, y_and, y_or, nI_add, y_b1, y_b0, kon_v, kon_0, true_or, or_true, and_self, true_and, and_true, false_or, or_false, and_false, false_and, not_true_eq_false, not_false_eq_true, ite_self, ↓reduceIte, Nat.reduceEqDiff, Nat.reduceLeDiff, Nat.reduceAdd, Nat.reduceMul, Nat.reduceSub, Nat.reduceLT, Nat.reduceShiftLeft, Nat.reduceOr, Nat.reduceAnd, Bool.false_eq_true, b_if, b_z1, b_z0, b_zz, b_a1, b_a0, b_lc, b_zF, b_zT, b_lbit]
  rw [go]
  refine Eq.trans e1 ?_
  simp (disch := omega) only [s_Board_flood_0, s_Board_flood_1, s_Board_flood_3, s_Board_flood_4, s_Board_flood_6, s_Board_flood_8, s_Board_flood_10, s_Board_flood_13, s_Board_flood_15, s_Board_flood_17, s_Board_flood_20, s_Board_flood_21, s_Board_flood_22, s_Board_flood_23, s_Board_flood_25, s_Board_flood_28, s_Board_flood_31, s_Board_flood_33, y_kd_sI, y_kd_sL, y_kd_sR, y_kd_cpI, y_kd_cpL, y_ln_sI, y_ln_sL, y_ln_sR, y_ln_cpI, y_ln_cpL, y_sz_sI, y_sz_sL, y_sz_sR, y_sz_cpI, y_sz_cpL, y_sl_sI, y_sl_sL, y_sl_sR, y_sl_cpI, y_sl_cpL, y_gI_sL, y_gI_sR, y_gI_cpI, y_gI_cpL, y_gI_nw, y_gL_sI, y_gL_sR, y_gL_cpI, y_gL_cpL, y_gL_nw, y_gR_sI, y_gR_sL, y_gR_cpI, y_gR_cpL, y_gR_nw, y_kd_nw, y_ln_nw, y_sz_nw, y_sl_nw, y_fx_int, y_fx_long, y_fx_ref, y_fx_null, y_fx_U, y_rf_s, y_rf_n, a_inb, a_ix, a_lt, a_eq, a_eq0, a_lt0, a_0lt, a_m1, a_m2, a_mlt, a_sub, a_dec, a_div, a_rem, a_shl, a_shr, a_bit, a_bit0, a_II, a_Ia, a_Ik, a_LL, a_La, a_Lk, a_RR, a_Ra, a_Rk, a_if0, a_if1, y_mul, y_and, y_or, nI_add, y_b1, y_b0, kon_v, kon_0, true_or, or_true, and_self, true_and, and_true, false_or, or_false, and_false, false_and, not_true_eq_false, not_false_eq_true, ite_self, ↓reduceIte, Nat.reduceEqDiff, Nat.reduceLeDiff, Nat.reduceAdd, Nat.reduceMul, Nat.reduceSub, Nat.reduceLT, Nat.reduceShiftLeft, Nat.reduceOr, Nat.reduceAnd, Bool.false_eq_true, b_if, b_z1, b_z0, b_zz, b_a1, b_a0, b_lc, b_zF, b_zT, b_lbit, Nat.lt_irrefl]
theorem l_reach {s : Int64} : ∀ (k j : Nat) (w : Int64), j + k = 64 → ((j = 0 ∧ w = lN 0) ∨ ∃ i : Nat, j = i + 1 ∧ w = flK a i s) → j ≤ bc w → ev g Mo_reached 8 [.long v, zU, .long a, zU, .long (flK a j s), zU, .long w, zU] [] h = some (some (.long (flK a 64 s)), h) := by
  intro k
  induction k with
  | zero =>
    intro j w hk hw hb
    have e : j = 64 := by omega
    subst e
    rcases hw with ⟨e, -⟩ | ⟨i, e1, e2⟩
    · omega
    · have ei : i = 63 := by omega
      subst ei
      have sub : ∀ i : Nat, i < 64 → lb w i = true → lb (flK a 64 s) i = true := fun i hi hb => by
        show lb (flS a (flK a 63 s)) i = true
        rw [← e2]
        exact flS_sub hb
      have eq : flK a 64 s = w := by
        apply Eq.symm
        apply lb_ext
        refine cn_eq 64 sub ?_
        have h1 := cn_mono 64 sub
        have h2 := cn_le (lb (flK a 64 s)) 64
        have hb' : 64 ≤ cn (lb w) 64 := hb
        omega
      rw [eq, s_Mo_reached_8]
      simp (disch := omega) only [s_Mo_reached_0, s_Mo_reached_1, s_Mo_reached_2, s_Mo_reached_3, s_Mo_reached_5, s_Mo_reached_6, s_Mo_reached_10, s_Mo_reached_12, s_Mo_reached_13, s_Mo_reached_16, s_Mo_reached_18, s_Mo_reached_20, s_Mo_reached_22, s_Mo_reached_24, s_Mo_reached_27, s_Mo_reached_28, s_Mo_reached_29, s_Mo_reached_30, s_Mo_reached_32, s_Mo_reached_35, s_Mo_reached_37, y_kd_sI, y_kd_sL, y_kd_sR, y_kd_cpI, y_kd_cpL, y_ln_sI, y_ln_sL, y_ln_sR, y_ln_cpI, y_ln_cpL, y_sz_sI, y_sz_sL, y_sz_sR, y_sz_cpI, y_sz_cpL, y_sl_sI, y_sl_sL, y_sl_sR, y_sl_cpI, y_sl_cpL, y_gI_sL, y_gI_sR, y_gI_cpI, y_gI_cpL, y_gI_nw, y_gL_sI, y_gL_sR, y_gL_cpI, y_gL_cpL, y_gL_nw, y_gR_sI, y_gR_sL, y_gR_cpI, y_gR_cpL, y_gR_nw, y_kd_nw, y_ln_nw, y_sz_nw, y_sl_nw, y_fx_int, y_fx_long, y_fx_ref, y_fx_null, y_fx_U, y_rf_s, y_rf_n, a_inb, a_ix, a_lt, a_eq, a_eq0, a_lt0, a_0lt, a_m1, a_m2, a_mlt, a_sub, a_dec, a_div, a_rem, a_shl, a_shr, a_bit, a_bit0, a_II, a_Ia, a_Ik, a_LL, a_La, a_Lk, a_RR, a_Ra, a_Rk, a_if0, a_if1, y_mul, y_and, y_or, nI_add, y_b1, y_b0, kon_v, kon_0, true_or, or_true, and_self, true_and, and_true, false_or, or_false, and_false, false_and, not_true_eq_false, not_false_eq_true, ite_self, ↓reduceIte, Nat.reduceEqDiff, Nat.reduceLeDiff, Nat.reduceAdd, Nat.reduceMul, Nat.reduceSub, Nat.reduceLT, Nat.reduceShiftLeft, Nat.reduceOr, Nat.reduceAnd, Bool.false_eq_true, b_if, b_z1, b_z0, b_zz, b_a1, b_a0, b_lc, b_zF, b_zT, b_lbit, q_near, b_lc, eq_self]
  | succ k ih =>
    intro j w hk hw hb
    have sub : ∀ i : Nat, i < 64 → lb w i = true → lb (flK a j s) i = true := fun i hi hbb => by
      rcases hw with ⟨e, e2⟩ | ⟨i', e1, e2⟩
      · rw [e2, lb_0] at hbb
        exact absurd hbb (by decide)
      · rw [e1]
        show lb (flS a (flK a i' s)) i = true
        rw [← e2]
        exact flS_sub hbb
    by_cases z : flK a j s = w
    · have fin : flK a 64 s = flK a j s := by
        rcases hw with ⟨e, e2⟩ | ⟨i, e1, e2⟩
        · subst e
          have e0 : s = lN 0 := by rw [← e2, ← z]; rfl
          have st : flK a (0 + 1) s = flK a 0 s := by
            show flS a s = s
            rw [e0, flS_0]
          exact flK_st st 64
        · subst e1
          rw [e2] at z
          have := flK_st z (64 - i)
          rw [show i + (64 - i) = 64 by omega] at this
          rw [this, z]
      rw [fin, ← z, s_Mo_reached_8]
      simp (disch := omega) only [s_Mo_reached_0, s_Mo_reached_1, s_Mo_reached_2, s_Mo_reached_3, s_Mo_reached_5, s_Mo_reached_6, s_Mo_reached_10, s_Mo_reached_12, s_Mo_reached_13, s_Mo_reached_16, s_Mo_reached_18, s_Mo_reached_20, s_Mo_reached_22, s_Mo_reached_24, s_Mo_reached_27, s_Mo_reached_28, s_Mo_reached_29, s_Mo_reached_30, s_Mo_reached_32, s_Mo_reached_35, s_Mo_reached_37, y_kd_sI, y_kd_sL, y_kd_sR, y_kd_cpI, y_kd_cpL, y_ln_sI, y_ln_sL, y_ln_sR, y_ln_cpI, y_ln_cpL, y_sz_sI, y_sz_sL, y_sz_sR, y_sz_cpI, y_sz_cpL, y_sl_sI, y_sl_sL, y_sl_sR, y_sl_cpI, y_sl_cpL, y_gI_sL, y_gI_sR, y_gI_cpI, y_gI_cpL, y_gI_nw, y_gL_sI, y_gL_sR, y_gL_cpI, y_gL_cpL, y_gL_nw, y_gR_sI, y_gR_sL, y_gR_cpI, y_gR_cpL, y_gR_nw, y_kd_nw, y_ln_nw, y_sz_nw, y_sl_nw, y_fx_int, y_fx_long, y_fx_ref, y_fx_null, y_fx_U, y_rf_s, y_rf_n, a_inb, a_ix, a_lt, a_eq, a_eq0, a_lt0, a_0lt, a_m1, a_m2, a_mlt, a_sub, a_dec, a_div, a_rem, a_shl, a_shr, a_bit, a_bit0, a_II, a_Ia, a_Ik, a_LL, a_La, a_Lk, a_RR, a_Ra, a_Rk, a_if0, a_if1, y_mul, y_and, y_or, nI_add, y_b1, y_b0, kon_v, kon_0, true_or, or_true, and_self, true_and, and_true, false_or, or_false, and_false, false_and, not_true_eq_false, not_false_eq_true, ite_self, ↓reduceIte, Nat.reduceEqDiff, Nat.reduceLeDiff, Nat.reduceAdd, Nat.reduceMul, Nat.reduceSub, Nat.reduceLT, Nat.reduceShiftLeft, Nat.reduceOr, Nat.reduceAnd, Bool.false_eq_true, b_if, b_z1, b_z0, b_zz, b_a1, b_a0, b_lc, b_zF, b_zT, b_lbit, q_near, b_lc, eq_self]
    · have zf := eq_false z
      have gt : j + 1 ≤ bc (flK a j s) := by
        have h1 := cn_mono 64 sub
        have h2 : ¬ cn (lb w) 64 = cn (lb (flK a j s)) 64 := fun e => z (lb_ext (fun i hi => (cn_eq 64 sub e i hi).symm))
        unfold bc at hb ⊢
        omega
      have := ih (j + 1) (flK a j s) (by omega) (Or.inr ⟨j, rfl, rfl⟩) gt
      rw [← this, s_Mo_reached_8]
      simp (disch := omega) only [s_Mo_reached_0, s_Mo_reached_1, s_Mo_reached_2, s_Mo_reached_3, s_Mo_reached_5, s_Mo_reached_6, s_Mo_reached_10, s_Mo_reached_12, s_Mo_reached_13, s_Mo_reached_16, s_Mo_reached_18, s_Mo_reached_20, s_Mo_reached_22, s_Mo_reached_24, s_Mo_reached_27, s_Mo_reached_28, s_Mo_reached_29, s_Mo_reached_30, s_Mo_reached_32, s_Mo_reached_35, s_Mo_reached_37, y_kd_sI, y_kd_sL, y_kd_sR, y_kd_cpI, y_kd_cpL, y_ln_sI, y_ln_sL, y_ln_sR, y_ln_cpI, y_ln_cpL, y_sz_sI, y_sz_sL, y_sz_sR, y_sz_cpI, y_sz_cpL, y_sl_sI, y_sl_sL, y_sl_sR, y_sl_cpI, y_sl_cpL, y_gI_sL, y_gI_sR, y_gI_cpI, y_gI_cpL, y_gI_nw, y_gL_sI, y_gL_sR, y_gL_cpI, y_gL_cpL, y_gL_nw, y_gR_sI, y_gR_sL, y_gR_cpI, y_gR_cpL, y_gR_nw, y_kd_nw, y_ln_nw, y_sz_nw, y_sl_nw, y_fx_int, y_fx_long, y_fx_ref, y_fx_null, y_fx_U, y_rf_s, y_rf_n, a_inb, a_ix, a_lt, a_eq, a_eq0, a_lt0, a_0lt, a_m1, a_m2, a_mlt, a_sub, a_dec, a_div, a_rem, a_shl, a_shr, a_bit, a_bit0, a_II, a_Ia, a_Ik, a_LL, a_La, a_Lk, a_RR, a_Ra, a_Rk, a_if0, a_if1, y_mul, y_and, y_or, nI_add, y_b1, y_b0, kon_v, kon_0, true_or, or_true, and_self, true_and, and_true, false_or, or_false, and_false, false_and, not_true_eq_false, not_false_eq_true, ite_self, ↓reduceIte, Nat.reduceEqDiff, Nat.reduceLeDiff, Nat.reduceAdd, Nat.reduceMul, Nat.reduceSub, Nat.reduceLT, Nat.reduceShiftLeft, Nat.reduceOr, Nat.reduceAnd, Bool.false_eq_true, b_if, b_z1, b_z0, b_zz, b_a1, b_a0, b_lc, b_zF, b_zT, b_lbit, q_near, b_lc, zf]
      rfl
theorem q_reached : call g Mo_reached [.long v, .long a] h = some (some (.long (flK a 64 (v &&& a))), h) := by
  have e := l_reach (g := g) (h := h) (v := v) (a := a) (s := v &&& a) 64 0 (lN 0) (by omega) (Or.inl ⟨rfl, rfl⟩) (Nat.zero_le _)
  rw [n_Mo_reached, ← e]
  simp (disch := omega) only [s_Mo_reached_0, s_Mo_reached_1, s_Mo_reached_2, s_Mo_reached_3, s_Mo_reached_5, s_Mo_reached_6, s_Mo_reached_10, s_Mo_reached_12, s_Mo_reached_13, s_Mo_reached_16, s_Mo_reached_18, s_Mo_reached_20, s_Mo_reached_22, s_Mo_reached_24, s_Mo_reached_27, s_Mo_reached_28, s_Mo_reached_29, s_Mo_reached_30, s_Mo_reached_32, s_Mo_reached_35, s_Mo_reached_37, y_kd_sI, y_kd_sL, y_kd_sR, y_kd_cpI, y_kd_cpL, y_ln_sI, y_ln_sL, y_ln_sR, y_ln_cpI, y_ln_cpL, y_sz_sI, y_sz_sL, y_sz_sR, y_sz_cpI, y_sz_cpL, y_sl_sI, y_sl_sL, y_sl_sR, y_sl_cpI, y_sl_cpL, y_gI_sL, y_gI_sR, y_gI_cpI, y_gI_cpL, y_gI_nw, y_gL_sI, y_gL_sR, y_gL_cpI, y_gL_cpL, y_gL_nw, y_gR_sI, y_gR_sL, y_gR_cpI, y_gR_cpL, y_gR_nw, y_kd_nw, y_ln_nw, y_sz_nw, y_sl_nw, y_fx_int, y_fx_long, y_fx_ref, y_fx_null, y_fx_U, y_rf_s, y_rf_n, a_inb, a_ix, a_lt, a_eq, a_eq0, a_lt0, a_0lt, a_m1, a_m2, a_mlt, a_sub, a_dec, a_div, a_rem, a_shl, a_shr, a_bit, a_bit0, a_II, a_Ia, a_Ik, a_LL, a_La, a_Lk, a_RR, a_Ra, a_Rk, a_if0, a_if1, y_mul, y_and, y_or, nI_add, y_b1, y_b0, kon_v, kon_0, true_or, or_true, and_self, true_and, and_true, false_or, or_false, and_false, false_and, not_true_eq_false, not_false_eq_true, ite_self, ↓reduceIte, Nat.reduceEqDiff, Nat.reduceLeDiff, Nat.reduceAdd, Nat.reduceMul, Nat.reduceSub, Nat.reduceLT, Nat.reduceShiftLeft, Nat.reduceOr, Nat.reduceAnd, Bool.false_eq_true, b_if, b_z1, b_z0, b_zz, b_a1, b_a0, b_lc, b_zF, b_zT, b_lbit]
  rfl
/-! boxes -/
def bxB (r0 c0 r1 c1 i : Nat) : Bool := decide (r0 ≤ i / 8) && decide (i / 8 ≤ r1) && decide (c0 ≤ i % 8) && decide (i % 8 ≤ c1)
theorem bxB_t {r0 c0 r1 c1 i : Nat} : bxB r0 c0 r1 c1 i = true ↔ r0 ≤ i / 8 ∧ i / 8 ≤ r1 ∧ c0 ≤ i % 8 ∧ i % 8 ≤ c1 := by
  unfold bxB
  simp only [Bool.and_eq_true, decide_eq_true_eq]
  omega
theorem q_box {r0 c0 r1 c1 : Nat} (h1 : r0 ≤ 7) (h2 : c0 ≤ 7) (h3 : r1 ≤ 7) (h4 : c1 ≤ 7) (h5 : r0 ≤ r1) (h6 : c0 ≤ c1) : ∃ w : Int64, (∀ i : Nat, i < 64 → lb w i = bxB r0 c0 r1 c1 i) ∧ call g Board_box [.int (nI r0), .int (nI c0), .int (nI r1), .int (nI c1)] h = some (some (.long w), h) := by
  have inner : ∀ (r : Nat) (v0 : Int64) (x : Value), r ≤ 7 → ∃ w : Int64, (∀ i : Nat, i < 64 → (lb w i = true ↔ lb v0 i = true ∨ (i / 8 = r ∧ c0 ≤ i % 8 ∧ i % 8 ≤ c1))) ∧ ev g Board_box 15 [.int (nI r0), .int (nI c0), .int (nI r1), .int (nI c1), .long v0, zU, .int (nI r), .int (nI c0)] [] h = ev g Board_box 15 [.int (nI r0), .int (nI c0), .int (nI r1), .int (nI c1), .long w, zU, .int (nI r), .int (nI (c1 + 1))] [] h := fun r v0 x hr => by
    obtain ⟨w, h', e1, e2, rfl⟩ := l_loop (g := g) (M := Board_box) (pc := 15) (st := []) (n := c1 + 1) (fun c (w : Int64) => [.int (nI r0), .int (nI c0), .int (nI r1), .int (nI c1), .long w, zU, .int (nI r), .int (nI c)]) (fun c w h' => (c0 ≤ c ∧ ∀ i : Nat, i < 64 → (lb w i = true ↔ lb v0 i = true ∨ (i / 8 = r ∧ c0 ≤ i % 8 ∧ i % 8 < c))) ∧ h' = h) (fun c w h' hc hh => by
      obtain ⟨⟨P0, P⟩, rfl⟩ := hh
      have hlt : (c1 < c) = False := eq_false (by omega)
      refine ⟨w ||| lShl (lN 1) (nI (r * 8 + c)), h', ?_, ⟨by omega, fun i hi => ?_⟩, rfl⟩
      · show ev g Board_box 15 [.int (nI r0), .int (nI c0), .int (nI r1), .int (nI c1), .long w, zU, .int (nI r), .int (nI c)] [] h' = ev g Board_box 15 [.int (nI r0), .int (nI c0), .int (nI r1), .int (nI c1), .long (w ||| lShl (lN 1) (nI (r * 8 + c))), zU, .int (nI r), .int (nI (c + 1))] [] h'
        rw [s_Board_box_15]
        simp (disch := omega) only [s_Board_box_0, s_Board_box_1, s_Board_box_3, s_Board_box_4, s_Board_box_8, s_Board_box_9, s_Board_box_12, s_Board_box_13, s_Board_box_17, s_Board_box_18, s_Board_box_21, s_Board_box_23, s_Board_box_24, s_Board_box_26, s_Board_box_28, s_Board_box_29, s_Board_box_31, s_Board_box_32, s_Board_box_33, s_Board_box_34, s_Board_box_36, s_Board_box_39, s_Board_box_42, s_Board_box_45, s_Board_box_48, s_Board_box_50, y_kd_sI, y_kd_sL, y_kd_sR, y_kd_cpI, y_kd_cpL, y_ln_sI, y_ln_sL, y_ln_sR, y_ln_cpI, y_ln_cpL, y_sz_sI, y_sz_sL, y_sz_sR, y_sz_cpI, y_sz_cpL, y_sl_sI, y_sl_sL, y_sl_sR, y_sl_cpI, y_sl_cpL, y_gI_sL, y_gI_sR, y_gI_cpI, y_gI_cpL, y_gI_nw, y_gL_sI, y_gL_sR, y_gL_cpI, y_gL_cpL, y_gL_nw, y_gR_sI, y_gR_sL, y_gR_cpI, y_gR_cpL, y_gR_nw, y_kd_nw, y_ln_nw, y_sz_nw, y_sl_nw, y_fx_int, y_fx_long, y_fx_ref, y_fx_null, y_fx_U, y_rf_s, y_rf_n, a_inb, a_ix, a_lt, a_eq, a_eq0, a_lt0, a_0lt, a_m1, a_m2, a_mlt, a_sub, a_dec, a_div, a_rem, a_shl, a_shr, a_bit, a_bit0, a_II, a_Ia, a_Ik, a_LL, a_La, a_Lk, a_RR, a_Ra, a_Rk, a_if0, a_if1, y_mul, y_and, y_or, nI_add, y_b1, y_b0, kon_v, kon_0, true_or, or_true, and_self, true_and, and_true, false_or, or_false, and_false, false_and, not_true_eq_false, not_false_eq_true, ite_self, ↓reduceIte, Nat.reduceEqDiff, Nat.reduceLeDiff, Nat.reduceAdd, Nat.reduceMul, Nat.reduceSub, Nat.reduceLT, Nat.reduceShiftLeft, Nat.reduceOr, Nat.reduceAnd, Bool.false_eq_true, b_if, b_z1, b_z0, b_zz, b_a1, b_a0, b_lc, b_zF, b_zT, b_lbit, hlt]
      · rw [lb_or, Bool.or_eq_true, P i hi, lb_bit (by omega), decide_eq_true_eq]
        constructor
        · rintro ((d | d) | d)
          · exact Or.inl d
          · exact Or.inr (by omega)
          · exact Or.inr (by omega)
        · rintro (d | d)
          · exact Or.inl (Or.inl d)
          · by_cases q : i = r * 8 + c
            · exact Or.inr q
            · exact Or.inl (Or.inr (by omega))) (c1 + 1 - c0) c0 v0 h (by omega) ⟨⟨Nat.le_refl _, fun i hi => ⟨fun c => Or.inl c, fun c => by rcases c with c | c; exact c; omega⟩⟩, rfl⟩
    refine ⟨w, fun i hi => ?_, e1⟩
    rw [e2.2 i hi]
    constructor
    · rintro (d | d)
      · exact Or.inl d
      · exact Or.inr (by omega)
    · rintro (d | d)
      · exact Or.inl d
      · exact Or.inr (by omega)
  obtain ⟨⟨w, v7⟩, h', e1, ⟨e20, e2⟩, rfl⟩ := l_loop (g := g) (M := Board_box) (pc := 6) (st := []) (n := r1 + 1) (fun r (w : Int64 × Value) => [.int (nI r0), .int (nI c0), .int (nI r1), .int (nI c1), .long w.1, zU, .int (nI r), w.2]) (fun r w h' => (r0 ≤ r ∧ ∀ i : Nat, i < 64 → (lb w.1 i = true ↔ (r0 ≤ i / 8 ∧ i / 8 < r ∧ c0 ≤ i % 8 ∧ i % 8 ≤ c1))) ∧ h' = h) (fun r w h' hr hh => by
    obtain ⟨⟨P0, P⟩, rfl⟩ := hh
    obtain ⟨w, v7⟩ := w
    have hlt : (r1 < r) = False := eq_false (by omega)
    obtain ⟨w', Q, e⟩ := inner r w v7 (by omega)
    refine ⟨(w', .int (nI (c1 + 1))), h', ?_, ⟨by omega, fun i hi => ?_⟩, rfl⟩
    · show ev g Board_box 6 [.int (nI r0), .int (nI c0), .int (nI r1), .int (nI c1), .long w, zU, .int (nI r), v7] [] h' = ev g Board_box 6 [.int (nI r0), .int (nI c0), .int (nI r1), .int (nI c1), .long w', zU, .int (nI (r + 1)), .int (nI (c1 + 1))] [] h'
      have a1 : ev g Board_box 6 [.int (nI r0), .int (nI c0), .int (nI r1), .int (nI c1), .long w, zU, .int (nI r), v7] [] h' = ev g Board_box 15 [.int (nI r0), .int (nI c0), .int (nI r1), .int (nI c1), .long w, zU, .int (nI r), .int (nI c0)] [] h' := by
        rw [s_Board_box_6]
        simp (disch := omega) only [s_Board_box_0, s_Board_box_1, s_Board_box_3, s_Board_box_4, s_Board_box_8, s_Board_box_9, s_Board_box_12, s_Board_box_13, s_Board_box_17, s_Board_box_18, s_Board_box_21, s_Board_box_23, s_Board_box_24, s_Board_box_26, s_Board_box_28, s_Board_box_29, s_Board_box_31, s_Board_box_32, s_Board_box_33, s_Board_box_34, s_Board_box_36, s_Board_box_39, s_Board_box_42, s_Board_box_45, s_Board_box_48, s_Board_box_50, y_kd_sI, y_kd_sL, y_kd_sR, y_kd_cpI, y_kd_cpL, y_ln_sI, y_ln_sL, y_ln_sR, y_ln_cpI, y_ln_cpL, y_sz_sI, y_sz_sL, y_sz_sR, y_sz_cpI, y_sz_cpL, y_sl_sI, y_sl_sL, y_sl_sR, y_sl_cpI, y_sl_cpL, y_gI_sL, y_gI_sR, y_gI_cpI, y_gI_cpL, y_gI_nw, y_gL_sI, y_gL_sR, y_gL_cpI, y_gL_cpL, y_gL_nw, y_gR_sI, y_gR_sL, y_gR_cpI, y_gR_cpL, y_gR_nw, y_kd_nw, y_ln_nw, y_sz_nw, y_sl_nw, y_fx_int, y_fx_long, y_fx_ref, y_fx_null, y_fx_U, y_rf_s, y_rf_n, a_inb, a_ix, a_lt, a_eq, a_eq0, a_lt0, a_0lt, a_m1, a_m2, a_mlt, a_sub, a_dec, a_div, a_rem, a_shl, a_shr, a_bit, a_bit0, a_II, a_Ia, a_Ik, a_LL, a_La, a_Lk, a_RR, a_Ra, a_Rk, a_if0, a_if1, y_mul, y_and, y_or, nI_add, y_b1, y_b0, kon_v, kon_0, true_or, or_true, and_self, true_and, and_true, false_or, or_false, and_false, false_and, not_true_eq_false, not_false_eq_true, ite_self, ↓reduceIte, Nat.reduceEqDiff, Nat.reduceLeDiff, Nat.reduceAdd, Nat.reduceMul, Nat.reduceSub, Nat.reduceLT, Nat.reduceShiftLeft, Nat.reduceOr, Nat.reduceAnd, Bool.false_eq_true, b_if, b_z1, b_z0, b_zz, b_a1, b_a0, b_lc, b_zF, b_zT, b_lbit, hlt]
      have hl2 : (c1 < c1 + 1) = True := eq_true (by omega)
      rw [a1, e, s_Board_box_15]
      simp (disch := omega) only [s_Board_box_0, s_Board_box_1, s_Board_box_3, s_Board_box_4, s_Board_box_8, s_Board_box_9, s_Board_box_12, s_Board_box_13, s_Board_box_17, s_Board_box_18, s_Board_box_21, s_Board_box_23, s_Board_box_24, s_Board_box_26, s_Board_box_28, s_Board_box_29, s_Board_box_31, s_Board_box_32, s_Board_box_33, s_Board_box_34, s_Board_box_36, s_Board_box_39, s_Board_box_42, s_Board_box_45, s_Board_box_48, s_Board_box_50, y_kd_sI, y_kd_sL, y_kd_sR, y_kd_cpI, y_kd_cpL, y_ln_sI, y_ln_sL, y_ln_sR, y_ln_cpI, y_ln_cpL, y_sz_sI, y_sz_sL, y_sz_sR, y_sz_cpI, y_sz_cpL, y_sl_sI, y_sl_sL, y_sl_sR, y_sl_cpI, y_sl_cpL, y_gI_sL, y_gI_sR, y_gI_cpI, y_gI_cpL, y_gI_nw, y_gL_sI, y_gL_sR, y_gL_cpI, y_gL_cpL, y_gL_nw, y_gR_sI, y_gR_sL, y_gR_cpI, y_gR_cpL, y_gR_nw, y_kd_nw, y_ln_nw, y_sz_nw, y_sl_nw, y_fx_int, y_fx_long, y_fx_ref, y_fx_null, y_fx_U, y_rf_s, y_rf_n, a_inb, a_ix, a_lt, a_eq, a_eq0, a_lt0, a_0lt, a_m1, a_m2, a_mlt, a_sub, a_dec, a_div, a_rem, a_shl, a_shr, a_bit, a_bit0, a_II, a_Ia, a_Ik, a_LL, a_La, a_Lk, a_RR, a_Ra, a_Rk, a_if0, a_if1, y_mul, y_and, y_or, nI_add, y_b1, y_b0, kon_v, kon_0, true_or, or_true, and_self, true_and, and_true, false_or, or_false, and_false, false_and, not_true_eq_false, not_false_eq_true, ite_self, ↓reduceIte, Nat.reduceEqDiff, Nat.reduceLeDiff, Nat.reduceAdd, Nat.reduceMul, Nat.reduceSub, Nat.reduceLT, Nat.reduceShiftLeft, Nat.reduceOr, Nat.reduceAnd, Bool.false_eq_true, b_if, b_z1, b_z0, b_zz, b_a1, b_a0, b_lc, b_zF, b_zT, b_lbit, hl2]
    · rw [Q i hi]
      dsimp only at P
      rw [P i hi]
      constructor
      · rintro (d | d)
        · omega
        · omega
      · intro d
        by_cases q : i / 8 = r
        · exact Or.inr ⟨q, d.2.2⟩
        · exact Or.inl (by omega)) (r1 + 1 - r0) r0 (lN 0, zU) h (by omega) ⟨⟨Nat.le_refl _, fun i hi => by
      dsimp only
      rw [lb_0]
      exact ⟨fun c => absurd c (by decide), fun c => by omega⟩⟩, rfl⟩
  refine ⟨w, fun i hi => ?_, ?_⟩
  · apply Bool.eq_iff_iff.2
    dsimp only at e2
    rw [e2 i hi, bxB_t]
    omega
  · have hl2 : (r1 < r1 + 1) = True := eq_true (by omega)
    rw [n_Board_box]
    have go : ev g Board_box 0 [.int (nI r0), .int (nI c0), .int (nI r1), .int (nI c1), zU, zU, zU, zU] [] h' = ev g Board_box 6 [.int (nI r0), .int (nI c0), .int (nI r1), .int (nI c1), .long (lN 0), zU, .int (nI r0), zU] [] h' := by
      simp (disch := omega) only [s_Board_box_0, s_Board_box_1, s_Board_box_3, s_Board_box_4, s_Board_box_8, s_Board_box_9, s_Board_box_12, s_Board_box_13, s_Board_box_15, s_Board_box_17, s_Board_box_18, s_Board_box_21, s_Board_box_23, s_Board_box_24, s_Board_box_26, s_Board_box_28, s_Board_box_29, s_Board_box_31, s_Board_box_32, s_Board_box_33, s_Board_box_34, s_Board_box_36, s_Board_box_39, s_Board_box_42, s_Board_box_45, s_Board_box_48, s_Board_box_50, y_kd_sI, y_kd_sL, y_kd_sR, y_kd_cpI, y_kd_cpL, y_ln_sI, y_ln_sL, y_ln_sR, y_ln_cpI, y_ln_cpL, y_sz_sI, y_sz_sL, y_sz_sR, y_sz_cpI, y_sz_cpL, y_sl_sI, y_sl_sL, y_sl_sR, y_sl_cpI, y_sl_cpL, y_gI_sL, y_gI_sR, y_gI_cpI, y_gI_cpL, y_gI_nw, y_gL_sI, y_gL_sR, y_gL_cpI, y_gL_cpL, y_gL_nw, y_gR_sI, y_gR_sL, y_gR_cpI, y_gR_cpL, y_gR_nw, y_kd_nw, y_ln_nw, y_sz_nw, y_sl_nw, y_fx_int, y_fx_long, y_fx_ref, y_fx_null, y_fx_U, y_rf_s, y_rf_n, a_inb, a_ix, a_lt, a_eq, a_eq0, a_lt0, a_0lt, a_m1, a_m2, a_mlt, a_sub, a_dec, a_div, a_rem, a_shl, a_shr, a_bit, a_bit0, a_II, a_Ia, a_Ik, a_LL, a_La, a_Lk, a_RR, a_Ra, a_Rk, a_if0, a_if1, y_mul, y_and, y_or, nI_add, y_b1, y_b0, kon_v, kon_0, true_or, or_true, and_self, true_and, and_true, false_or, or_false, and_false, false_and, not_true_eq_false, not_false_eq_true, ite_self, ↓reduceIte, Nat.reduceEqDiff, Nat.reduceLeDiff, Nat.reduceAdd, Nat.reduceMul, Nat.reduceSub, Nat.reduceLT, Nat.reduceShiftLeft, Nat.reduceOr, Nat.reduceAnd, Bool.false_eq_true, b_if, b_z1, b_z0, b_zz, b_a1, b_a0, b_lc, b_zF, b_zT, b_lbit]
    rw [go]
    refine Eq.trans e1 ?_
    dsimp only
    rw [s_Board_box_6]
    simp (disch := omega) only [s_Board_box_0, s_Board_box_1, s_Board_box_3, s_Board_box_4, s_Board_box_8, s_Board_box_9, s_Board_box_12, s_Board_box_13, s_Board_box_15, s_Board_box_17, s_Board_box_18, s_Board_box_21, s_Board_box_23, s_Board_box_24, s_Board_box_26, s_Board_box_28, s_Board_box_29, s_Board_box_31, s_Board_box_32, s_Board_box_33, s_Board_box_34, s_Board_box_36, s_Board_box_39, s_Board_box_42, s_Board_box_45, s_Board_box_48, s_Board_box_50, y_kd_sI, y_kd_sL, y_kd_sR, y_kd_cpI, y_kd_cpL, y_ln_sI, y_ln_sL, y_ln_sR, y_ln_cpI, y_ln_cpL, y_sz_sI, y_sz_sL, y_sz_sR, y_sz_cpI, y_sz_cpL, y_sl_sI, y_sl_sL, y_sl_sR, y_sl_cpI, y_sl_cpL, y_gI_sL, y_gI_sR, y_gI_cpI, y_gI_cpL, y_gI_nw, y_gL_sI, y_gL_sR, y_gL_cpI, y_gL_cpL, y_gL_nw, y_gR_sI, y_gR_sL, y_gR_cpI, y_gR_cpL, y_gR_nw, y_kd_nw, y_ln_nw, y_sz_nw, y_sl_nw, y_fx_int, y_fx_long, y_fx_ref, y_fx_null, y_fx_U, y_rf_s, y_rf_n, a_inb, a_ix, a_lt, a_eq, a_eq0, a_lt0, a_0lt, a_m1, a_m2, a_mlt, a_sub, a_dec, a_div, a_rem, a_shl, a_shr, a_bit, a_bit0, a_II, a_Ia, a_Ik, a_LL, a_La, a_Lk, a_RR, a_Ra, a_Rk, a_if0, a_if1, y_mul, y_and, y_or, nI_add, y_b1, y_b0, kon_v, kon_0, true_or, or_true, and_self, true_and, and_true, false_or, or_false, and_false, false_and, not_true_eq_false, not_false_eq_true, ite_self, ↓reduceIte, Nat.reduceEqDiff, Nat.reduceLeDiff, Nat.reduceAdd, Nat.reduceMul, Nat.reduceSub, Nat.reduceLT, Nat.reduceShiftLeft, Nat.reduceOr, Nat.reduceAnd, Bool.false_eq_true, b_if, b_z1, b_z0, b_zz, b_a1, b_a0, b_lc, b_zF, b_zT, b_lbit, hl2]
theorem bx_cn : ∀ r0 c0 r1 c1 : Fin 8, r0.val ≤ r1.val → c0.val ≤ c1.val → cn (bxB r0.val c0.val r1.val c1.val) 64 = (r1.val - r0.val + 1) * (c1.val - c0.val + 1) := by decide +kernel
end ZFL
