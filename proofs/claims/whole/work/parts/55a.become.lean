/-! the class: a field, a deed, a plan, a board, sets, a search become another's -/
section ZBE
variable {g : Nat → Nat} {o m a b n r t : Nat} {h h1 h2 h' : zMem} {D E : Nat → Nat → Prop}
theorem be_field (c : dn 53 o m h h1 D E) (hd : o + 53 < m ∨ m + 53 < o) {k : Nat} (hk : k ≤ 53) (k1 : kd h1 (m + k) = 3) (k2 : kd h1 (o + k) = 3) : ∃ h2 : zMem, call g Field_become [.ref (m + k), .ref (o + k)] h1 = some (none, h2) ∧ dn 53 o m h h2 (fun k' i => D k' i ∨ (k' = k ∧ i < 4)) (fun k' i => E k' i ∨ (k' = k ∧ i = 4)) := by
  have ne : ¬ o + k = m + k := by omega
  refine ⟨sL (sI (sI (sI (sI h1 (m + k) 0 (gI h1 (o + k) 0)) (m + k) 1 (gI h1 (o + k) 1)) (m + k) 2 (gI h1 (o + k) 2)) (m + k) 3 (gI h1 (o + k) 3)) (m + k) 4 (gL h1 (o + k) 4), ?_, ?_⟩
  · rw [n_Field_become]
    simp (disch := first | exact ne | omega) only [s_Field_become_0, s_Field_become_1, s_Field_become_2, s_Field_become_5, s_Field_become_8, s_Field_become_9, s_Field_become_10, s_Field_become_13, s_Field_become_16, s_Field_become_17, s_Field_become_18, s_Field_become_21, s_Field_become_24, s_Field_become_25, s_Field_become_26, s_Field_become_29, s_Field_become_32, s_Field_become_33, s_Field_become_34, s_Field_become_37, s_Field_become_40, y_kd_sI, y_kd_sL, y_kd_sR, y_kd_cpI, y_kd_cpL, y_ln_sI, y_ln_sL, y_ln_sR, y_ln_cpI, y_ln_cpL, y_sz_sI, y_sz_sL, y_sz_sR, y_sz_cpI, y_sz_cpL, y_sl_sI, y_sl_sL, y_sl_sR, y_sl_cpI, y_sl_cpL, y_gI_sL, y_gI_sR, y_gI_cpI, y_gI_cpL, y_gI_nw, y_gL_sI, y_gL_sR, y_gL_cpI, y_gL_cpL, y_gL_nw, y_gR_sI, y_gR_sL, y_gR_cpI, y_gR_cpL, y_gR_nw, y_kd_nw, y_ln_nw, y_sz_nw, y_sl_nw, y_fx_int, y_fx_long, y_fx_ref, y_fx_null, y_fx_U, y_rf_s, y_rf_n, a_inb, a_ix, a_lt, a_eq, a_eq0, a_lt0, a_0lt, a_m1, a_m2, a_mlt, a_sub, a_dec, a_div, a_rem, a_shl, a_shr, a_bit, a_bit0, a_II, a_Ia, a_Ik, a_LL, a_La, a_Lk, a_RR, a_Ra, a_Rk, a_if0, a_if1, y_mul, y_and, y_or, nI_add, y_b1, y_b0, kon_v, kon_0, true_or, or_true, and_self, true_and, and_true, false_or, or_false, and_false, false_and, not_true_eq_false, not_false_eq_true, ite_self, ↓reduceIte, Nat.reduceEqDiff, Nat.reduceLeDiff, Nat.reduceAdd, Nat.reduceMul, Nat.reduceSub, Nat.reduceLT, Nat.reduceShiftLeft, Nat.reduceOr, Nat.reduceAnd, Bool.false_eq_true, b_if, b_z1, b_z0, b_zz, b_a1, b_a0, b_lc, b_zF, b_zT, b_lbit, k1, k2]
  · have c1 := c.I hd (s := 0) hk rfl
    have c2 := c1.I hd (s := 1) (v := gI h1 (o + k) 1) hk (a_Ia ne).symm
    have c3 := c2.I hd (s := 2) (v := gI h1 (o + k) 2) hk (by rw [a_Ia ne, a_Ia ne])
    have c4 := c3.I hd (s := 3) (v := gI h1 (o + k) 3) hk (by rw [a_Ia ne, a_Ia ne, a_Ia ne])
    have c5 := c4.L hd (s := 4) (v := gL h1 (o + k) 4) hk rfl
    exact c5.cg (fun k' i => by
      constructor
      · rintro ((((z | z) | z) | z) | z)
        · exact Or.inl z
        all_goals exact Or.inr ⟨z.1, by omega⟩
      · rintro (z | z)
        · exact Or.inl (Or.inl (Or.inl (Or.inl z)))
        · have : i = 0 ∨ i = 1 ∨ i = 2 ∨ i = 3 := by omega
          rcases this with e | e | e | e
          · exact Or.inl (Or.inl (Or.inl (Or.inr ⟨z.1, e⟩)))
          · exact Or.inl (Or.inl (Or.inr ⟨z.1, e⟩))
          · exact Or.inl (Or.inr ⟨z.1, e⟩)
          · exact Or.inr ⟨z.1, e⟩) (fun k' i => Iff.rfl)
theorem be_deed (c : dn 53 o m h h1 D E) (hd : o + 53 < m ∨ m + 53 < o) {k : Nat} (hk : k ≤ 53) (k1 : kd h1 (m + k) = 2) (k2 : kd h1 (o + k) = 2) (t7 : gI h1 (o + k) 7 &&& 1 = gI h1 (o + k) 7) (t8 : gI h1 (o + k) 8 &&& 1 = gI h1 (o + k) 8) : ∃ h2 : zMem, call g Deed_become [.ref (m + k), .ref (o + k)] h1 = some (none, h2) ∧ dn 53 o m h h2 (fun k' i => D k' i ∨ (k' = k ∧ i < 9)) E := by
  have ne : ¬ o + k = m + k := by omega
  refine ⟨sI (sI (sI (sI (sI (sI (sI (sI (sI h1 (m + k) 0 (gI h1 (o + k) 0)) (m + k) 1 (gI h1 (o + k) 1)) (m + k) 2 (gI h1 (o + k) 2)) (m + k) 3 (gI h1 (o + k) 3)) (m + k) 4 (gI h1 (o + k) 4)) (m + k) 5 (gI h1 (o + k) 5)) (m + k) 6 (gI h1 (o + k) 6)) (m + k) 7 (gI h1 (o + k) 7)) (m + k) 8 (gI h1 (o + k) 8), ?_, ?_⟩
  · rw [n_Deed_become]
    simp (disch := first | exact ne | omega) only [s_Deed_become_0, s_Deed_become_1, s_Deed_become_2, s_Deed_become_5, s_Deed_become_8, s_Deed_become_9, s_Deed_become_10, s_Deed_become_13, s_Deed_become_16, s_Deed_become_17, s_Deed_become_18, s_Deed_become_21, s_Deed_become_24, s_Deed_become_25, s_Deed_become_26, s_Deed_become_29, s_Deed_become_32, s_Deed_become_33, s_Deed_become_34, s_Deed_become_37, s_Deed_become_40, s_Deed_become_41, s_Deed_become_42, s_Deed_become_45, s_Deed_become_48, s_Deed_become_49, s_Deed_become_50, s_Deed_become_53, s_Deed_become_56, s_Deed_become_57, s_Deed_become_58, s_Deed_become_61, s_Deed_become_64, s_Deed_become_65, s_Deed_become_66, s_Deed_become_69, s_Deed_become_72, y_kd_sI, y_kd_sL, y_kd_sR, y_kd_cpI, y_kd_cpL, y_ln_sI, y_ln_sL, y_ln_sR, y_ln_cpI, y_ln_cpL, y_sz_sI, y_sz_sL, y_sz_sR, y_sz_cpI, y_sz_cpL, y_sl_sI, y_sl_sL, y_sl_sR, y_sl_cpI, y_sl_cpL, y_gI_sL, y_gI_sR, y_gI_cpI, y_gI_cpL, y_gI_nw, y_gL_sI, y_gL_sR, y_gL_cpI, y_gL_cpL, y_gL_nw, y_gR_sI, y_gR_sL, y_gR_cpI, y_gR_cpL, y_gR_nw, y_kd_nw, y_ln_nw, y_sz_nw, y_sl_nw, y_fx_int, y_fx_long, y_fx_ref, y_fx_null, y_fx_U, y_rf_s, y_rf_n, a_inb, a_ix, a_lt, a_eq, a_eq0, a_lt0, a_0lt, a_m1, a_m2, a_mlt, a_sub, a_dec, a_div, a_rem, a_shl, a_shr, a_bit, a_bit0, a_II, a_Ia, a_Ik, a_LL, a_La, a_Lk, a_RR, a_Ra, a_Rk, a_if0, a_if1, y_mul, y_and, y_or, nI_add, y_b1, y_b0, kon_v, kon_0, true_or, or_true, and_self, true_and, and_true, false_or, or_false, and_false, false_and, not_true_eq_false, not_false_eq_true, ite_self, ↓reduceIte, Nat.reduceEqDiff, Nat.reduceLeDiff, Nat.reduceAdd, Nat.reduceMul, Nat.reduceSub, Nat.reduceLT, Nat.reduceShiftLeft, Nat.reduceOr, Nat.reduceAnd, Bool.false_eq_true, b_if, b_z1, b_z0, b_zz, b_a1, b_a0, b_lc, b_zF, b_zT, b_lbit, k1, k2, t7, t8]
  · have c0 := c.I hd (s := 0) hk rfl
    have c1 := c0.I hd (s := 1) (v := gI h1 (o + k) 1) hk (by simp only [a_Ia ne])
    have c2 := c1.I hd (s := 2) (v := gI h1 (o + k) 2) hk (by simp only [a_Ia ne])
    have c3 := c2.I hd (s := 3) (v := gI h1 (o + k) 3) hk (by simp only [a_Ia ne])
    have c4 := c3.I hd (s := 4) (v := gI h1 (o + k) 4) hk (by simp only [a_Ia ne])
    have c5 := c4.I hd (s := 5) (v := gI h1 (o + k) 5) hk (by simp only [a_Ia ne])
    have c6 := c5.I hd (s := 6) (v := gI h1 (o + k) 6) hk (by simp only [a_Ia ne])
    have c7 := c6.I hd (s := 7) (v := gI h1 (o + k) 7) hk (by simp only [a_Ia ne])
    have c8 := c7.I hd (s := 8) (v := gI h1 (o + k) 8) hk (by simp only [a_Ia ne])
    exact c8.cg (fun k' i => by
      generalize D k' i = d
      by_cases e : d
      · simp only [e, true_or]
      · by_cases e43 : k' = k
        · simp only [e, e43, false_or, true_and]
          omega
        · simp only [e, e43, false_or, false_and, or_false]) (fun k' i => Iff.rfl)
theorem dn.la (c : dn 53 o m h h1 D E) {l : Nat} (q : oLand h l) : oLand h1 l := c.1.la q
theorem dn.sr (c : dn 53 o m h h1 D E) {l : Nat} (q : oSearch h l r t) : oSearch h1 l r t := c.1.sr q
theorem be_plan (c : dn 53 o m h h1 D E) (hd : o + 53 < m ∨ m + 53 < o) (q1 : oLand h m) (q2 : oLand h o) (hn : gI h (o + 38) 0 = nI n) (n1 : n ≤ 100) : ∃ h2 : zMem, call g Plan_become [.ref (m + 38), .ref (o + 38)] h1 = some (none, h2) ∧ dn 53 o m h h2 (fun k' i => ((D k' i ∨ (k' = 38 ∧ i = 0)) ∨ (k' = 39 ∧ i < n)) ∨ (k' = 40 ∧ i < n)) E := by
  have a1 := c.la q1
  have a2 := c.la q2
  have hn1 : gI h1 (o + 38) 0 = nI n := (c.src hd (by omega)).trans hn
  have g1 : rng (nI 0) (nI n) 100 = true := a_rng (by omega) (by decide)
  have e1 : kd h1 (m + 38) = 5 := la_k38 a1
  have e2 : kd h1 (o + 38) = 5 := la_k38 a2
  have e3 := la_r38_1 a1
  have e4 := la_r38_2 a1
  have e5 := la_r38_1 a2
  have e6 := la_r38_2 a2
  have f1 := la_k39 a1
  have f2 := la_k40 a1
  have f3 := la_k39 a2
  have f4 := la_k40 a2
  have f5 := la_l39 a1
  have f6 := la_l40 a1
  have f7 := la_l39 a2
  have f8 := la_l40 a2
  have n1' : (m = m + 1) = False := eq_false (by omega)
  refine ⟨cpI (cpI (sI h1 (m + 38) 0 (nI n)) (o + 39) 0 (m + 39) 0 n) (o + 40) 0 (m + 40) 0 n, ?_, ?_⟩
  · rw [n_Plan_become]
    simp (disch := omega) only [s_Plan_become_0, s_Plan_become_1, s_Plan_become_2, s_Plan_become_5, s_Plan_become_8, s_Plan_become_9, s_Plan_become_12, s_Plan_become_13, s_Plan_become_14, s_Plan_become_17, s_Plan_become_18, s_Plan_become_19, s_Plan_become_22, s_Plan_become_25, s_Plan_become_26, s_Plan_become_29, s_Plan_become_30, s_Plan_become_31, s_Plan_become_34, s_Plan_become_35, s_Plan_become_36, s_Plan_become_39, s_Plan_become_42, y_kd_sI, y_kd_sL, y_kd_sR, y_kd_cpI, y_kd_cpL, y_ln_sI, y_ln_sL, y_ln_sR, y_ln_cpI, y_ln_cpL, y_sz_sI, y_sz_sL, y_sz_sR, y_sz_cpI, y_sz_cpL, y_sl_sI, y_sl_sL, y_sl_sR, y_sl_cpI, y_sl_cpL, y_gI_sL, y_gI_sR, y_gI_cpI, y_gI_cpL, y_gI_nw, y_gL_sI, y_gL_sR, y_gL_cpI, y_gL_cpL, y_gL_nw, y_gR_sI, y_gR_sL, y_gR_cpI, y_gR_cpL, y_gR_nw, y_kd_nw, y_ln_nw, y_sz_nw, y_sl_nw, y_fx_int, y_fx_long, y_fx_ref, y_fx_null, y_fx_U, y_rf_s, y_rf_n, a_inb, a_ix, a_lt, a_eq, a_eq0, a_lt0, a_0lt, a_m1, a_m2, a_mlt, a_sub, a_dec, a_div, a_rem, a_shl, a_shr, a_bit, a_bit0, a_II, a_Ia, a_Ik, a_LL, a_La, a_Lk, a_RR, a_Ra, a_Rk, a_if0, a_if1, y_mul, y_and, y_or, nI_add, y_b1, y_b0, kon_v, kon_0, true_or, or_true, and_self, true_and, and_true, false_or, or_false, and_false, false_and, not_true_eq_false, not_false_eq_true, ite_self, ↓reduceIte, Nat.reduceEqDiff, Nat.reduceLeDiff, Nat.reduceAdd, Nat.reduceMul, Nat.reduceSub, Nat.reduceLT, Nat.reduceShiftLeft, Nat.reduceOr, Nat.reduceAnd, Bool.false_eq_true, b_if, b_z1, b_z0, b_zz, b_a1, b_a0, b_lc, b_zF, b_zT, b_lbit, e1, e2, e3, e4, e5, e6, f1, f2, f3, f4, f5, f6, f7, f8, va_rf, hn1, g1, n1']
  · have c1 := c.I hd (k := 38) (s := 0) (v := nI n) (by omega) hn1.symm
    exact (c1.O hd (k := 39) (by omega) ov_cp).O hd (k := 40) (by omega) ov_cp
theorem be_board (c : dn 53 o m h h1 D E) (hd : o + 53 < m ∨ m + 53 < o) (q1 : oLand h m) (q2 : oLand h o) : ∃ h2 : zMem, call g Board_become [.ref (m + 41), .ref (o + 41)] h1 = some (none, h2) ∧ dn 53 o m h h2 (fun k' i => (D k' i ∨ (k' = 41 ∧ i = 0)) ∨ (k' = 42 ∧ i < 64)) E := by
  have a1 := c.la q1
  have a2 := c.la q2
  have g1 : rng (nI 0) (nI 64) 64 = true := a_rng (by omega) (by decide)
  have e1 := la_k41 a1
  have e2 := la_k41 a2
  have e3 := la_r41_1 a1
  have e4 := la_r41_1 a2
  have f1 := la_k42 a1
  have f2 := la_k42 a2
  have f3 := la_l42 a1
  have f4 := la_l42 a2
  have d1 : (20 ≤ 20) = True := eq_true (by decide)
  have d2 : (20 ≤ 42) = True := eq_true (by decide)
  have d3 : (20 = 41) = False := eq_false (by decide)
  have d4 : (30 ≤ 20) = False := eq_false (by decide)
  refine ⟨cpI (sI h1 (m + 41) 0 (gI h1 (o + 41) 0)) (o + 42) 0 (m + 42) 0 64, ?_, ?_⟩
  · rw [n_Board_become]
    simp (disch := omega) only [s_Board_become_0, s_Board_become_1, s_Board_become_2, s_Board_become_5, s_Board_become_8, s_Board_become_9, s_Board_become_12, s_Board_become_13, s_Board_become_14, s_Board_become_17, s_Board_become_18, s_Board_become_19, s_Board_become_22, s_Board_become_23, s_Board_become_26, y_kd_sI, y_kd_sL, y_kd_sR, y_kd_cpI, y_kd_cpL, y_ln_sI, y_ln_sL, y_ln_sR, y_ln_cpI, y_ln_cpL, y_sz_sI, y_sz_sL, y_sz_sR, y_sz_cpI, y_sz_cpL, y_sl_sI, y_sl_sL, y_sl_sR, y_sl_cpI, y_sl_cpL, y_gI_sL, y_gI_sR, y_gI_cpI, y_gI_cpL, y_gI_nw, y_gL_sI, y_gL_sR, y_gL_cpI, y_gL_cpL, y_gL_nw, y_gR_sI, y_gR_sL, y_gR_cpI, y_gR_cpL, y_gR_nw, y_kd_nw, y_ln_nw, y_sz_nw, y_sl_nw, y_fx_int, y_fx_long, y_fx_ref, y_fx_null, y_fx_U, y_rf_s, y_rf_n, a_inb, a_ix, a_lt, a_eq, a_eq0, a_lt0, a_0lt, a_m1, a_m2, a_mlt, a_sub, a_dec, a_div, a_rem, a_shl, a_shr, a_bit, a_bit0, a_II, a_Ia, a_Ik, a_LL, a_La, a_Lk, a_RR, a_Ra, a_Rk, a_if0, a_if1, y_mul, y_and, y_or, nI_add, y_b1, y_b0, kon_v, kon_0, true_or, or_true, and_self, true_and, and_true, false_or, or_false, and_false, false_and, not_true_eq_false, not_false_eq_true, ite_self, ↓reduceIte, Nat.reduceEqDiff, Nat.reduceLeDiff, Nat.reduceAdd, Nat.reduceMul, Nat.reduceSub, Nat.reduceLT, Nat.reduceShiftLeft, Nat.reduceOr, Nat.reduceAnd, Bool.false_eq_true, b_if, b_z1, b_z0, b_zz, b_a1, b_a0, b_lc, b_zF, b_zT, b_lbit, e1, e2, e3, e4, f1, f2, f3, f4, va_rf, g1, d1, d2, d3, d4]
  · exact (c.I hd (k := 41) (s := 0) (by omega) rfl).O hd (k := 42) (by omega) ov_cp
theorem be_sets (c : dn 53 o m h h1 D E) (hd : o + 53 < m ∨ m + 53 < o) (q1 : oSearch h (m + 43) r t) (q2 : oSearch h (o + 43) r t) (hn : gI h (o + 44) 2 = nI n) (n1 : n ≤ 360) : ∃ h2 : zMem, call g Sets_become [.ref (m + 44), .ref (o + 44)] h1 = some (none, h2) ∧ dn 53 o m h h2 (fun k' i => ((((D k' i ∨ (k' = 44 ∧ i = 1)) ∨ (k' = 44 ∧ i = 2)) ∨ (k' = 45 ∧ i < 100)) ∨ (k' = 46 ∧ i < n)) ∨ (k' = 47 ∧ i < n)) E := by
  have a1 : oSets h1 (m + 44) r t := (c.sr q1).2.2.2.2.2.2.2.2
  have a2 : oSets h1 (o + 44) r t := (c.sr q2).2.2.2.2.2.2.2.2
  have hn1 : gI h1 (o + 44) 2 = nI n := (c.src hd (by omega)).trans hn
  have g0 : rng (nI 0) (nI 100) 100 = true := a_rng (by omega) (by decide)
  have g1 : rng (nI 0) (nI n) 360 = true := a_rng (by omega) (by decide)
  obtain ⟨e1, e2, -, e3, e4, -, -, f1, f2, f3, f4, f5, f6, -⟩ := a1
  obtain ⟨u1, u2, -, u3, u4, -, -, v1, v2, v3, v4, v5, v6, -⟩ := a2
  have e2 : gR h1 (m + 44) 0 = some (m + 45) := e2
  have e3 : gR h1 (m + 44) 4 = some (m + 46) := e3
  have e4 : gR h1 (m + 44) 5 = some (m + 47) := e4
  have f1 : kd h1 (m + 45) = 20 := f1
  have f2 : ln h1 (m + 45) = 100 := f2
  have f3 : kd h1 (m + 46) = 20 := f3
  have f4 : ln h1 (m + 46) = 360 := f4
  have f5 : kd h1 (m + 47) = 20 := f5
  have f6 : ln h1 (m + 47) = 360 := f6
  have u2 : gR h1 (o + 44) 0 = some (o + 45) := u2
  have u3 : gR h1 (o + 44) 4 = some (o + 46) := u3
  have u4 : gR h1 (o + 44) 5 = some (o + 47) := u4
  have v1 : kd h1 (o + 45) = 20 := v1
  have v2 : ln h1 (o + 45) = 100 := v2
  have v3 : kd h1 (o + 46) = 20 := v3
  have v4 : ln h1 (o + 46) = 360 := v4
  have v5 : kd h1 (o + 47) = 20 := v5
  have v6 : ln h1 (o + 47) = 360 := v6
  have d1 : (20 ≤ 20) = True := eq_true (by decide)
  have d2 : (20 ≤ 42) = True := eq_true (by decide)
  have d3 : (20 = 41) = False := eq_false (by decide)
  have d4 : (30 ≤ 20) = False := eq_false (by decide)
  have n1' : (m = m + 1) = False := eq_false (by omega)
  have n2' : (m = m + 2) = False := eq_false (by omega)
  refine ⟨cpI (cpI (cpI (sI (sI h1 (m + 44) 1 (gI h1 (o + 44) 1)) (m + 44) 2 (nI n)) (o + 45) 0 (m + 45) 0 100) (o + 46) 0 (m + 46) 0 n) (o + 47) 0 (m + 47) 0 n, ?_, ?_⟩
  · rw [n_Sets_become]
    simp (disch := omega) only [s_Sets_become_0, s_Sets_become_1, s_Sets_become_2, s_Sets_become_5, s_Sets_become_8, s_Sets_become_9, s_Sets_become_10, s_Sets_become_13, s_Sets_become_16, s_Sets_become_17, s_Sets_become_20, s_Sets_become_21, s_Sets_become_22, s_Sets_become_25, s_Sets_become_26, s_Sets_become_27, s_Sets_become_30, s_Sets_become_31, s_Sets_become_34, s_Sets_become_35, s_Sets_become_38, s_Sets_become_39, s_Sets_become_40, s_Sets_become_43, s_Sets_become_44, s_Sets_become_45, s_Sets_become_48, s_Sets_become_51, s_Sets_become_52, s_Sets_become_55, s_Sets_become_56, s_Sets_become_57, s_Sets_become_60, s_Sets_become_61, s_Sets_become_62, s_Sets_become_65, s_Sets_become_68, y_kd_sI, y_kd_sL, y_kd_sR, y_kd_cpI, y_kd_cpL, y_ln_sI, y_ln_sL, y_ln_sR, y_ln_cpI, y_ln_cpL, y_sz_sI, y_sz_sL, y_sz_sR, y_sz_cpI, y_sz_cpL, y_sl_sI, y_sl_sL, y_sl_sR, y_sl_cpI, y_sl_cpL, y_gI_sL, y_gI_sR, y_gI_cpI, y_gI_cpL, y_gI_nw, y_gL_sI, y_gL_sR, y_gL_cpI, y_gL_cpL, y_gL_nw, y_gR_sI, y_gR_sL, y_gR_cpI, y_gR_cpL, y_gR_nw, y_kd_nw, y_ln_nw, y_sz_nw, y_sl_nw, y_fx_int, y_fx_long, y_fx_ref, y_fx_null, y_fx_U, y_rf_s, y_rf_n, a_inb, a_ix, a_lt, a_eq, a_eq0, a_lt0, a_0lt, a_m1, a_m2, a_mlt, a_sub, a_dec, a_div, a_rem, a_shl, a_shr, a_bit, a_bit0, a_II, a_Ia, a_Ik, a_LL, a_La, a_Lk, a_RR, a_Ra, a_Rk, a_if0, a_if1, y_mul, y_and, y_or, nI_add, y_b1, y_b0, kon_v, kon_0, true_or, or_true, and_self, true_and, and_true, false_or, or_false, and_false, false_and, not_true_eq_false, not_false_eq_true, ite_self, ↓reduceIte, Nat.reduceEqDiff, Nat.reduceLeDiff, Nat.reduceAdd, Nat.reduceMul, Nat.reduceSub, Nat.reduceLT, Nat.reduceShiftLeft, Nat.reduceOr, Nat.reduceAnd, Bool.false_eq_true, b_if, b_z1, b_z0, b_zz, b_a1, b_a0, b_lc, b_zF, b_zT, b_lbit, e1, e2, e3, e4, f1, f2, f3, f4, f5, f6, u1, u2, u3, u4, v1, v2, v3, v4, v5, v6, va_rf, hn1, g0, g1, d1, d2, d3, d4, n1', n2']
  · have c1 := c.I hd (k := 44) (s := 1) (by omega) rfl
    have c2 := c1.I hd (k := 44) (s := 2) (v := nI n) (by omega) (by rw [a_Ia (by omega)]; exact hn1.symm)
    exact ((c2.O hd (k := 45) (by omega) ov_cp).O hd (k := 46) (by omega) ov_cp).O hd (k := 47) (by omega) ov_cp
theorem be_search (c : dn 53 o m h h1 D E) (hd : o + 53 < m ∨ m + 53 < o) (q1 : oSearch h (m + 43) r t) (q2 : oSearch h (o + 43) r t) (hn : gI h (o + 44) 2 = nI n) (n1 : n ≤ 360) : ∃ h2 : zMem, call g Search_become [.ref (m + 43), .ref (o + 43)] h1 = some (none, h2) ∧ dn 53 o m h h2 (fun k' i => D k' i ∨ (k' = 43 ∧ 1 ≤ i ∧ i < 7) ∨ (k' = 44 ∧ 1 ≤ i ∧ i < 3) ∨ (k' = 45 ∧ i < 100) ∨ (k' = 46 ∧ i < n) ∨ (k' = 47 ∧ i < n) ∨ (k' = 50 ∧ i < 45) ∨ (k' = 51 ∧ i < 45)) E := by
  obtain ⟨h2, qs, c'⟩ := be_sets (g := g) c hd q1 q2 hn n1
  have a0 := c.sr q1
  have a1 := c'.sr q1
  have b0 := c.sr q2
  have b1 := c'.sr q2
  have g0 : rng (nI 0) (nI 45) 45 = true := a_rng (by omega) (by decide)
  obtain ⟨x1, x2, -⟩ := a0
  obtain ⟨y1, y2, -⟩ := b0
  have x2 : gR h1 (m + 43) 0 = some (m + 44) := x2
  have y2 : gR h1 (o + 43) 0 = some (o + 44) := y2
  have z1 : kd h1 (m + 44) = 8 := (c.sr q1).2.2.2.2.2.2.2.2.1
  obtain ⟨e1, -, e2, e3, f1, f2, f3, f4, -⟩ := a1
  obtain ⟨u1, -, u2, u3, v1, v2, v3, v4, -⟩ := b1
  have e2 : gR h2 (m + 43) 7 = some (m + 50) := e2
  have e3 : gR h2 (m + 43) 8 = some (m + 51) := e3
  have f1 : kd h2 (m + 50) = 20 := f1
  have f2 : ln h2 (m + 50) = 45 := f2
  have f3 : kd h2 (m + 51) = 20 := f3
  have f4 : ln h2 (m + 51) = 45 := f4
  have u2 : gR h2 (o + 43) 7 = some (o + 50) := u2
  have u3 : gR h2 (o + 43) 8 = some (o + 51) := u3
  have v1 : kd h2 (o + 50) = 20 := v1
  have v2 : ln h2 (o + 50) = 45 := v2
  have v3 : kd h2 (o + 51) = 20 := v3
  have v4 : ln h2 (o + 51) = 45 := v4
  refine ⟨cpI (cpI (sI (sI (sI (sI (sI (sI h2 (m + 43) 1 (gI h2 (o + 43) 1)) (m + 43) 2 (gI h2 (o + 43) 2)) (m + 43) 3 (gI h2 (o + 43) 3)) (m + 43) 4 (gI h2 (o + 43) 4)) (m + 43) 5 (gI h2 (o + 43) 5)) (m + 43) 6 (gI h2 (o + 43) 6)) (o + 50) 0 (m + 50) 0 45) (o + 51) 0 (m + 51) 0 45, ?_, ?_⟩
  · rw [n_Search_become]
    simp (disch := omega) only [s_Search_become_0, s_Search_become_1, s_Search_become_4, s_Search_become_5, s_Search_become_8, s_Search_become_11, s_Search_become_12, s_Search_become_13, s_Search_become_16, s_Search_become_19, s_Search_become_20, s_Search_become_21, s_Search_become_24, s_Search_become_27, s_Search_become_28, s_Search_become_29, s_Search_become_32, s_Search_become_35, s_Search_become_36, s_Search_become_37, s_Search_become_40, s_Search_become_43, s_Search_become_44, s_Search_become_45, s_Search_become_48, s_Search_become_51, s_Search_become_52, s_Search_become_53, s_Search_become_56, s_Search_become_59, s_Search_become_60, s_Search_become_63, s_Search_become_64, s_Search_become_65, s_Search_become_68, s_Search_become_69, s_Search_become_71, s_Search_become_74, s_Search_become_75, s_Search_become_78, s_Search_become_79, s_Search_become_80, s_Search_become_83, s_Search_become_84, s_Search_become_86, s_Search_become_89, y_kd_sI, y_kd_sL, y_kd_sR, y_kd_cpI, y_kd_cpL, y_ln_sI, y_ln_sL, y_ln_sR, y_ln_cpI, y_ln_cpL, y_sz_sI, y_sz_sL, y_sz_sR, y_sz_cpI, y_sz_cpL, y_sl_sI, y_sl_sL, y_sl_sR, y_sl_cpI, y_sl_cpL, y_gI_sL, y_gI_sR, y_gI_cpI, y_gI_cpL, y_gI_nw, y_gL_sI, y_gL_sR, y_gL_cpI, y_gL_cpL, y_gL_nw, y_gR_sI, y_gR_sL, y_gR_cpI, y_gR_cpL, y_gR_nw, y_kd_nw, y_ln_nw, y_sz_nw, y_sl_nw, y_fx_int, y_fx_long, y_fx_ref, y_fx_null, y_fx_U, y_rf_s, y_rf_n, a_inb, a_ix, a_lt, a_eq, a_eq0, a_lt0, a_0lt, a_m1, a_m2, a_mlt, a_sub, a_dec, a_div, a_rem, a_shl, a_shr, a_bit, a_bit0, a_II, a_Ia, a_Ik, a_LL, a_La, a_Lk, a_RR, a_Ra, a_Rk, a_if0, a_if1, y_mul, y_and, y_or, nI_add, y_b1, y_b0, kon_v, kon_0, true_or, or_true, and_self, true_and, and_true, false_or, or_false, and_false, false_and, not_true_eq_false, not_false_eq_true, ite_self, ↓reduceIte, Nat.reduceEqDiff, Nat.reduceLeDiff, Nat.reduceAdd, Nat.reduceMul, Nat.reduceSub, Nat.reduceLT, Nat.reduceShiftLeft, Nat.reduceOr, Nat.reduceAnd, Bool.false_eq_true, b_if, b_z1, b_z0, b_zz, b_a1, b_a0, b_lc, b_zF, b_zT, b_lbit, x1, x2, y1, y2, z1, qs, e1, e2, e3, f1, f2, f3, f4, u1, u2, u3, v1, v2, v3, v4, va_rf, g0]
  · have ne : ¬ o + 43 = m + 43 := by omega
    have c1 := c'.I hd (k := 43) (s := 1) (by omega) rfl
    have c2 := c1.I hd (k := 43) (s := 2) (v := gI h2 (o + 43) 2) (by omega) (by simp only [a_Ia ne])
    have c3 := c2.I hd (k := 43) (s := 3) (v := gI h2 (o + 43) 3) (by omega) (by simp only [a_Ia ne])
    have c4 := c3.I hd (k := 43) (s := 4) (v := gI h2 (o + 43) 4) (by omega) (by simp only [a_Ia ne])
    have c5 := c4.I hd (k := 43) (s := 5) (v := gI h2 (o + 43) 5) (by omega) (by simp only [a_Ia ne])
    have c6 := c5.I hd (k := 43) (s := 6) (v := gI h2 (o + 43) 6) (by omega) (by simp only [a_Ia ne])
    have c7 := (c6.O hd (k := 50) (by omega) (ov_cp (n := 45))).O hd (k := 51) (by omega) (ov_cp (n := 45))
    exact c7.cg (fun k' i => by
      generalize D k' i = d
      by_cases e : d
      · simp only [e, true_or]
      · by_cases e43 : k' = 43
        · subst e43
          simp only [e, false_or, Nat.reduceEqDiff, false_and, true_and, or_false]
          omega
        · by_cases e44 : k' = 44
          · subst e44
            simp only [e, false_or, Nat.reduceEqDiff, false_and, true_and, or_false]
            omega
          · simp only [e, e43, e44, false_or, false_and, or_false, or_assoc]) (fun k' i => Iff.rfl)
def lnE (nf : Nat) (k i : Nat) : Prop := 2 ≤ k ∧ k < 2 + nf ∧ i = 4
theorem be_fields {nf : Nat} {e0 : zMem} (hd : o + 53 < m ∨ m + 53 < o) (q1 : oLand h m) (q2 : oLand h o) (g1 : gI h o 1 = nI nf) (b1 : nf ≤ 10) (c0 : dn 53 o m h e0 (fun k i => k = 0 ∧ i = 1) (fun _ _ => False)) : ∃ e1 : zMem, ev g Land_become 10 [.ref m, .ref o, .int (nI 0)] [] e0 = ev g Land_become 10 [.ref m, .ref o, .int (nI nf)] [] e1 ∧ dn 53 o m h e1 (fun k j => (k = 0 ∧ j = 1) ∨ (2 ≤ k ∧ k < 2 + nf ∧ j < 4)) (lnE nf) := by
  obtain ⟨_, e1, i1, c1⟩ := l_loop (α := Unit) (g := g) (M := Land_become) (pc := 10) (st := []) (n := nf) (fun i _ => [.ref m, .ref o, .int (nI i)]) (fun i _ h' => dn 53 o m h h' (fun k j => (k = 0 ∧ j = 1) ∨ (2 ≤ k ∧ k < 2 + i ∧ j < 4)) (lnE i)) (fun i x h' hi c => by
    have a1 := c.la q1
    have a2 := c.la q2
    have v1 : gI h' m 1 = nI nf := (c.2.1 0 1 (by omega) (Or.inl ⟨rfl, rfl⟩)).trans g1
    have w1 := la_f a1 (j := i) (by omega)
    have w2 := la_f a2 (j := i) (by omega)
    have w3 := la_fk a1 (j := i) (by omega)
    have w4 := la_fk a2 (j := i) (by omega)
    obtain ⟨hh, q, c'⟩ := be_field (g := g) c hd (k := 2 + i) (by omega) (by rw [← Nat.add_assoc]; exact w3) (by rw [← Nat.add_assoc]; exact w4)
    rw [← Nat.add_assoc, ← Nat.add_assoc] at q
    refine ⟨(), hh, ?_, c'.cg (fun k j => ⟨fun z => ?_, fun z => ?_⟩) (fun k j => ⟨fun z => ?_, fun z => ?_⟩)⟩
    · have l1 := la_k a1
      have l2 := la_k a2
      have l3 := la_r_0 a1
      have l4 := la_r_0 a2
      have l5 := la_k1 a1
      have l6 := la_k1 a2
      have l7 := la_l1 a1
      have l8 := la_l1 a2
      have e5 : (i < nf) = True := eq_true hi
      have d1 : (24 ≤ 25) = True := eq_true (by decide)
      have d2 : (25 < 30) = True := eq_true (by decide)
      have b2 : i < 10 := by omega
      clear c c' a1 a2 q1 q2 hd c0
      rw [s_Land_become_10]
      simp (disch := omega) only [s_Land_become_0, s_Land_become_1, s_Land_become_2, s_Land_become_5, s_Land_become_8, s_Land_become_9, s_Land_become_11, s_Land_become_12, s_Land_become_15, s_Land_become_18, s_Land_become_19, s_Land_become_22, s_Land_become_23, s_Land_become_24, s_Land_become_25, s_Land_become_28, s_Land_become_29, s_Land_become_30, s_Land_become_33, s_Land_become_36, s_Land_become_39, s_Land_become_40, s_Land_become_41, s_Land_become_44, s_Land_become_47, s_Land_become_48, s_Land_become_49, s_Land_become_50, s_Land_become_51, s_Land_become_54, s_Land_become_57, s_Land_become_58, s_Land_become_61, s_Land_become_62, s_Land_become_63, s_Land_become_64, s_Land_become_67, s_Land_become_68, s_Land_become_69, s_Land_become_72, s_Land_become_75, s_Land_become_78, s_Land_become_79, s_Land_become_82, s_Land_become_83, s_Land_become_84, s_Land_become_87, s_Land_become_88, s_Land_become_89, s_Land_become_92, s_Land_become_93, s_Land_become_96, s_Land_become_97, s_Land_become_100, s_Land_become_103, s_Land_become_104, s_Land_become_107, s_Land_become_108, s_Land_become_111, s_Land_become_114, s_Land_become_115, s_Land_become_118, s_Land_become_119, s_Land_become_122, s_Land_become_125, y_kd_sI, y_kd_sL, y_kd_sR, y_kd_cpI, y_kd_cpL, y_ln_sI, y_ln_sL, y_ln_sR, y_ln_cpI, y_ln_cpL, y_sz_sI, y_sz_sL, y_sz_sR, y_sz_cpI, y_sz_cpL, y_sl_sI, y_sl_sL, y_sl_sR, y_sl_cpI, y_sl_cpL, y_gI_sL, y_gI_sR, y_gI_cpI, y_gI_cpL, y_gI_nw, y_gL_sI, y_gL_sR, y_gL_cpI, y_gL_cpL, y_gL_nw, y_gR_sI, y_gR_sL, y_gR_cpI, y_gR_cpL, y_gR_nw, y_kd_nw, y_ln_nw, y_sz_nw, y_sl_nw, y_fx_int, y_fx_long, y_fx_ref, y_fx_null, y_fx_U, y_rf_s, y_rf_n, a_inb, a_ix, a_lt, a_eq, a_eq0, a_lt0, a_0lt, a_m1, a_m2, a_mlt, a_sub, a_dec, a_div, a_rem, a_shl, a_shr, a_bit, a_bit0, a_II, a_Ia, a_Ik, a_LL, a_La, a_Lk, a_RR, a_Ra, a_Rk, a_if0, a_if1, y_mul, y_and, y_or, nI_add, y_b1, y_b0, kon_v, kon_0, true_or, or_true, and_self, true_and, and_true, false_or, or_false, and_false, false_and, not_true_eq_false, not_false_eq_true, ite_self, ↓reduceIte, Nat.reduceEqDiff, Nat.reduceLeDiff, Nat.reduceAdd, Nat.reduceMul, Nat.reduceSub, Nat.reduceLT, Nat.reduceShiftLeft, Nat.reduceOr, Nat.reduceAnd, Bool.false_eq_true, b_if, b_z1, b_z0, b_zz, b_a1, b_a0, b_lc, b_zF, b_zT, b_lbit, v1, e5, l1, l2, l3, l4, l5, l6, l7, l8, va_rf, w1, w2, w3, w4, d1, d2, q]
    · rcases z with (z | z) | z
      · exact Or.inl z
      · exact Or.inr ⟨z.1, by omega, z.2.2⟩
      · exact Or.inr ⟨by omega, by omega, z.2⟩
    · rcases z with z | z
      · exact Or.inl (Or.inl z)
      · by_cases q : k = 2 + i
        · exact Or.inr ⟨q, z.2.2⟩
        · exact Or.inl (Or.inr ⟨z.1, by omega, z.2.2⟩)
    · rcases z with z | z
      · exact ⟨z.1, by have := z.2.1; omega, z.2.2⟩
      · exact ⟨by omega, by omega, z.2⟩
    · obtain ⟨z1, z2, z3⟩ := z
      by_cases q : k = 2 + i
      · exact Or.inr ⟨q, z3⟩
      · exact Or.inl ⟨z1, by omega, z3⟩) nf 0 () e0 (Nat.zero_add _) (c0.cg (fun k j => ⟨fun z => Or.inl z, fun z => by
        rcases z with z | z
        · exact z
        · omega⟩) (fun k j => ⟨fun z => z.elim, fun z => by
        obtain ⟨z1, z2, z3⟩ := z
        omega⟩))
  exact ⟨e1, i1, c1⟩
theorem be_deeds {nf nd : Nat} {e0 : zMem} (hd : o + 53 < m ∨ m + 53 < o) (q1 : oLand h m) (q2 : oLand h o) (g1 : gI h o 3 = nI nd) (b1 : nd ≤ 24) (tf : ∀ d : Nat, d < nd → gI h (o + 13 + d) 7 &&& 1 = gI h (o + 13 + d) 7 ∧ gI h (o + 13 + d) 8 &&& 1 = gI h (o + 13 + d) 8) (c0 : dn 53 o m h e0 (fun k i => (k = 0 ∧ (i = 1 ∨ i = 3)) ∨ (2 ≤ k ∧ k < 2 + nf ∧ i < 4)) (lnE nf)) : ∃ e1 : zMem, ev g Land_become 49 [.ref m, .ref o, .int (nI 0)] [] e0 = ev g Land_become 49 [.ref m, .ref o, .int (nI nd)] [] e1 ∧ dn 53 o m h e1 (fun k j => ((k = 0 ∧ (j = 1 ∨ j = 3)) ∨ (2 ≤ k ∧ k < 2 + nf ∧ j < 4)) ∨ (13 ≤ k ∧ k < 13 + nd ∧ j < 9)) (lnE nf) := by
  obtain ⟨_, e1, i1, c1⟩ := l_loop (α := Unit) (g := g) (M := Land_become) (pc := 49) (st := []) (n := nd) (fun i _ => [.ref m, .ref o, .int (nI i)]) (fun i _ h' => dn 53 o m h h' (fun k j => ((k = 0 ∧ (j = 1 ∨ j = 3)) ∨ (2 ≤ k ∧ k < 2 + nf ∧ j < 4)) ∨ (13 ≤ k ∧ k < 13 + i ∧ j < 9)) (lnE nf)) (fun i x h' hi c => by
    have a1 := c.la q1
    have a2 := c.la q2
    have v1 : gI h' m 3 = nI nd := (c.2.1 0 3 (by omega) (Or.inl (Or.inl ⟨rfl, Or.inr rfl⟩))).trans g1
    have w1 := la_d a1 (j := i) (by omega)
    have w2 := la_d a2 (j := i) (by omega)
    have w3 := la_dk a1 (j := i) (by omega)
    have w4 := la_dk a2 (j := i) (by omega)
    have sr : ∀ s : Nat, gI h' (o + 13 + i) s = gI h (o + 13 + i) s := fun s => by
      have := c.src hd (k := 13 + i) (i := s) (by omega)
      rw [← Nat.add_assoc] at this
      exact this
    have t7 := (tf i hi).1
    have t8 := (tf i hi).2
    rw [← sr] at t7 t8
    obtain ⟨hh, q, c'⟩ := be_deed (g := g) c hd (k := 13 + i) (by omega) (by rw [← Nat.add_assoc]; exact w3) (by rw [← Nat.add_assoc]; exact w4) (by rw [← Nat.add_assoc]; exact t7) (by rw [← Nat.add_assoc]; exact t8)
    rw [← Nat.add_assoc, ← Nat.add_assoc] at q
    refine ⟨(), hh, ?_, c'.cg (fun k j => ⟨fun z => ?_, fun z => ?_⟩) (fun k j => Iff.rfl)⟩
    · have l1 := la_k a1
      have l2 := la_k a2
      have l3 := la_r_2 a1
      have l4 := la_r_2 a2
      have l5 := la_k12 a1
      have l6 := la_k12 a2
      have l7 := la_l12 a1
      have l8 := la_l12 a2
      have e5 : (i < nd) = True := eq_true hi
      have d1 : (24 ≤ 26) = True := eq_true (by decide)
      have d2 : (26 < 30) = True := eq_true (by decide)
      have b2 : i < 24 := by omega
      clear c c' a1 a2 q1 q2 hd c0 sr t7 t8 tf
      rw [s_Land_become_49]
      simp (disch := omega) only [s_Land_become_0, s_Land_become_1, s_Land_become_2, s_Land_become_5, s_Land_become_8, s_Land_become_9, s_Land_become_10, s_Land_become_11, s_Land_become_12, s_Land_become_15, s_Land_become_18, s_Land_become_19, s_Land_become_22, s_Land_become_23, s_Land_become_24, s_Land_become_25, s_Land_become_28, s_Land_become_29, s_Land_become_30, s_Land_become_33, s_Land_become_36, s_Land_become_39, s_Land_become_40, s_Land_become_41, s_Land_become_44, s_Land_become_47, s_Land_become_48, s_Land_become_50, s_Land_become_51, s_Land_become_54, s_Land_become_57, s_Land_become_58, s_Land_become_61, s_Land_become_62, s_Land_become_63, s_Land_become_64, s_Land_become_67, s_Land_become_68, s_Land_become_69, s_Land_become_72, s_Land_become_75, s_Land_become_78, s_Land_become_79, s_Land_become_82, s_Land_become_83, s_Land_become_84, s_Land_become_87, s_Land_become_88, s_Land_become_89, s_Land_become_92, s_Land_become_93, s_Land_become_96, s_Land_become_97, s_Land_become_100, s_Land_become_103, s_Land_become_104, s_Land_become_107, s_Land_become_108, s_Land_become_111, s_Land_become_114, s_Land_become_115, s_Land_become_118, s_Land_become_119, s_Land_become_122, s_Land_become_125, y_kd_sI, y_kd_sL, y_kd_sR, y_kd_cpI, y_kd_cpL, y_ln_sI, y_ln_sL, y_ln_sR, y_ln_cpI, y_ln_cpL, y_sz_sI, y_sz_sL, y_sz_sR, y_sz_cpI, y_sz_cpL, y_sl_sI, y_sl_sL, y_sl_sR, y_sl_cpI, y_sl_cpL, y_gI_sL, y_gI_sR, y_gI_cpI, y_gI_cpL, y_gI_nw, y_gL_sI, y_gL_sR, y_gL_cpI, y_gL_cpL, y_gL_nw, y_gR_sI, y_gR_sL, y_gR_cpI, y_gR_cpL, y_gR_nw, y_kd_nw, y_ln_nw, y_sz_nw, y_sl_nw, y_fx_int, y_fx_long, y_fx_ref, y_fx_null, y_fx_U, y_rf_s, y_rf_n, a_inb, a_ix, a_lt, a_eq, a_eq0, a_lt0, a_0lt, a_m1, a_m2, a_mlt, a_sub, a_dec, a_div, a_rem, a_shl, a_shr, a_bit, a_bit0, a_II, a_Ia, a_Ik, a_LL, a_La, a_Lk, a_RR, a_Ra, a_Rk, a_if0, a_if1, y_mul, y_and, y_or, nI_add, y_b1, y_b0, kon_v, kon_0, true_or, or_true, and_self, true_and, and_true, false_or, or_false, and_false, false_and, not_true_eq_false, not_false_eq_true, ite_self, ↓reduceIte, Nat.reduceEqDiff, Nat.reduceLeDiff, Nat.reduceAdd, Nat.reduceMul, Nat.reduceSub, Nat.reduceLT, Nat.reduceShiftLeft, Nat.reduceOr, Nat.reduceAnd, Bool.false_eq_true, b_if, b_z1, b_z0, b_zz, b_a1, b_a0, b_lc, b_zF, b_zT, b_lbit, v1, e5, l1, l2, l3, l4, l5, l6, l7, l8, va_rf, w1, w2, w3, w4, d1, d2, q]
    · rcases z with (z | z) | z
      · exact Or.inl z
      · exact Or.inr ⟨z.1, by omega, z.2.2⟩
      · exact Or.inr ⟨by omega, by omega, z.2⟩
    · rcases z with z | z
      · exact Or.inl (Or.inl z)
      · by_cases q : k = 13 + i
        · exact Or.inr ⟨q, z.2.2⟩
        · exact Or.inl (Or.inr ⟨z.1, by omega, z.2.2⟩)) nd 0 () e0 (Nat.zero_add _) (c0.cg (fun k j => ⟨fun z => Or.inl z, fun z => by
        rcases z with z | z
        · exact z
        · omega⟩) (fun k j => Iff.rfl))
  exact ⟨e1, i1, c1⟩
/-- all that is copied of a Land with nf fields, nd deeds, nc cells, and so many changes -/
def lnD (nf nd nc ch : Nat) (k i : Nat) : Prop := (((((((k = 0 ∧ (i = 1 ∨ i = 3)) ∨ (2 ≤ k ∧ k < 2 + nf ∧ i < 4)) ∨ (13 ≤ k ∧ k < 13 + nd ∧ i < 9)) ∨ (k = 37 ∧ i < 4)) ∨ (k = 38 ∧ i = 0)) ∨ (k = 39 ∧ i < nc)) ∨ (k = 40 ∧ i < nc)) ∨ (k = 41 ∧ i = 0) ∨ (k = 42 ∧ i < 64) ∨ (k = 43 ∧ 1 ≤ i ∧ i < 7) ∨ (k = 44 ∧ 1 ≤ i ∧ i < 3) ∨ (k = 45 ∧ i < 100) ∨ (k = 46 ∧ i < ch) ∨ (k = 47 ∧ i < ch) ∨ (k = 50 ∧ i < 45) ∨ (k = 51 ∧ i < 45)
theorem be_rest {nf nd nc ch : Nat} {e3 : zMem} {x : Int32} (hd : o + 53 < m ∨ m + 53 < o) (q1 : oLand h m) (q2 : oLand h o) (s1 : oSearch h (m + 43) r t) (s2 : oSearch h (o + 43) r t) (g3 : gI h (o + 38) 0 = nI nc) (b3 : nc ≤ 100) (g4 : gI h (o + 44) 2 = nI ch) (b4 : ch ≤ 360) (c3 : dn 53 o m h e3 (fun k j => ((k = 0 ∧ (j = 1 ∨ j = 3)) ∨ (2 ≤ k ∧ k < 2 + nf ∧ j < 4)) ∨ (13 ≤ k ∧ k < 13 + nd ∧ j < 9)) (lnE nf)) : ∃ h' : zMem, ev g Land_become 78 [.ref m, .ref o, .int x] [] e3 = some (none, h') ∧ dn 53 o m h h' (lnD nf nd nc ch) (lnE nf) := by
  have p1 := c3.la q1
  have p2 := c3.la q2
  have i4 : ev g Land_become 78 [.ref m, .ref o, .int x] [] e3 = ev g Land_become 92 [.ref m, .ref o, .int x] [] (cpI e3 (o + 37) 0 (m + 37) 0 4) := by
    have l1 := la_k p1
    have l2 := la_k p2
    have l3 := la_r_4 p1
    have l4 := la_r_4 p2
    have l5 := la_k37 p1
    have l6 := la_k37 p2
    have l7 := la_l37 p1
    have l8 := la_l37 p2
    have g1 : rng (nI 0) (nI 4) 4 = true := a_rng (by omega) (by decide)
    clear c3 p1 p2 q1 q2 s1 s2 hd
    simp (disch := omega) only [s_Land_become_0, s_Land_become_1, s_Land_become_2, s_Land_become_5, s_Land_become_8, s_Land_become_9, s_Land_become_10, s_Land_become_11, s_Land_become_12, s_Land_become_15, s_Land_become_18, s_Land_become_19, s_Land_become_22, s_Land_become_23, s_Land_become_24, s_Land_become_25, s_Land_become_28, s_Land_become_29, s_Land_become_30, s_Land_become_33, s_Land_become_36, s_Land_become_39, s_Land_become_40, s_Land_become_41, s_Land_become_44, s_Land_become_47, s_Land_become_48, s_Land_become_49, s_Land_become_50, s_Land_become_51, s_Land_become_54, s_Land_become_57, s_Land_become_58, s_Land_become_61, s_Land_become_62, s_Land_become_63, s_Land_become_64, s_Land_become_67, s_Land_become_68, s_Land_become_69, s_Land_become_72, s_Land_become_75, s_Land_become_78, s_Land_become_79, s_Land_become_82, s_Land_become_83, s_Land_become_84, s_Land_become_87, s_Land_become_88, s_Land_become_89, s_Land_become_93, s_Land_become_96, s_Land_become_97, s_Land_become_100, s_Land_become_103, s_Land_become_104, s_Land_become_107, s_Land_become_108, s_Land_become_111, s_Land_become_114, s_Land_become_115, s_Land_become_118, s_Land_become_119, s_Land_become_122, s_Land_become_125, y_kd_sI, y_kd_sL, y_kd_sR, y_kd_cpI, y_kd_cpL, y_ln_sI, y_ln_sL, y_ln_sR, y_ln_cpI, y_ln_cpL, y_sz_sI, y_sz_sL, y_sz_sR, y_sz_cpI, y_sz_cpL, y_sl_sI, y_sl_sL, y_sl_sR, y_sl_cpI, y_sl_cpL, y_gI_sL, y_gI_sR, y_gI_cpI, y_gI_cpL, y_gI_nw, y_gL_sI, y_gL_sR, y_gL_cpI, y_gL_cpL, y_gL_nw, y_gR_sI, y_gR_sL, y_gR_cpI, y_gR_cpL, y_gR_nw, y_kd_nw, y_ln_nw, y_sz_nw, y_sl_nw, y_fx_int, y_fx_long, y_fx_ref, y_fx_null, y_fx_U, y_rf_s, y_rf_n, a_inb, a_ix, a_lt, a_eq, a_eq0, a_lt0, a_0lt, a_m1, a_m2, a_mlt, a_sub, a_dec, a_div, a_rem, a_shl, a_shr, a_bit, a_bit0, a_II, a_Ia, a_Ik, a_LL, a_La, a_Lk, a_RR, a_Ra, a_Rk, a_if0, a_if1, y_mul, y_and, y_or, nI_add, y_b1, y_b0, kon_v, kon_0, true_or, or_true, and_self, true_and, and_true, false_or, or_false, and_false, false_and, not_true_eq_false, not_false_eq_true, ite_self, ↓reduceIte, Nat.reduceEqDiff, Nat.reduceLeDiff, Nat.reduceAdd, Nat.reduceMul, Nat.reduceSub, Nat.reduceLT, Nat.reduceShiftLeft, Nat.reduceOr, Nat.reduceAnd, Bool.false_eq_true, b_if, b_z1, b_z0, b_zz, b_a1, b_a0, b_lc, b_zF, b_zT, b_lbit, l1, l2, l3, l4, l5, l6, l7, l8, va_rf, g1]
  have c4 := c3.O hd (k := 37) (by omega) (ov_cp (n := 4))
  rw [i4]
  clear i4 p1 p2
  generalize cpI e3 (o + 37) 0 (m + 37) 0 4 = e4 at *
  obtain ⟨e5, i5, c5⟩ := be_plan (g := g) c4 hd q1 q2 g3 b3
  obtain ⟨e6, i6, c6⟩ := be_board (g := g) c5 hd q1 q2
  obtain ⟨e7, i7, c7⟩ := be_search (g := g) c6 hd s1 s2 g4 b4
  refine ⟨e7, ?_, c7.cg (fun k i => ?_) (fun _ _ => Iff.rfl)⟩
  · have x1 := la_k (c4.la q1)
    have x2 := la_k (c4.la q2)
    have x3 := la_r_5 (c4.la q1)
    have x4 := la_r_5 (c4.la q2)
    have x5 := la_k38 (c4.la q1)
    have y1 := la_k (c5.la q1)
    have y2 := la_k (c5.la q2)
    have y3 := la_r_6 (c5.la q1)
    have y4 := la_r_6 (c5.la q2)
    have y5 := la_k41 (c5.la q1)
    have z1 := la_k (c6.la q1)
    have z2 := la_k (c6.la q2)
    have z3 := la_r_7 (c6.la q1)
    have z4 := la_r_7 (c6.la q2)
    have z5 : kd e6 (m + 43) = 7 := (c6.sr s1).1
    clear c3 c4 c5 c6 c7 q1 q2 s1 s2 hd
    simp (disch := omega) only [s_Land_become_0, s_Land_become_1, s_Land_become_2, s_Land_become_5, s_Land_become_8, s_Land_become_9, s_Land_become_10, s_Land_become_11, s_Land_become_12, s_Land_become_15, s_Land_become_18, s_Land_become_19, s_Land_become_22, s_Land_become_23, s_Land_become_24, s_Land_become_25, s_Land_become_28, s_Land_become_29, s_Land_become_30, s_Land_become_33, s_Land_become_36, s_Land_become_39, s_Land_become_40, s_Land_become_41, s_Land_become_44, s_Land_become_47, s_Land_become_48, s_Land_become_49, s_Land_become_50, s_Land_become_51, s_Land_become_54, s_Land_become_57, s_Land_become_58, s_Land_become_61, s_Land_become_62, s_Land_become_63, s_Land_become_64, s_Land_become_67, s_Land_become_68, s_Land_become_69, s_Land_become_72, s_Land_become_75, s_Land_become_78, s_Land_become_79, s_Land_become_82, s_Land_become_83, s_Land_become_84, s_Land_become_87, s_Land_become_88, s_Land_become_89, s_Land_become_92, s_Land_become_93, s_Land_become_96, s_Land_become_97, s_Land_become_100, s_Land_become_103, s_Land_become_104, s_Land_become_107, s_Land_become_108, s_Land_become_111, s_Land_become_114, s_Land_become_115, s_Land_become_118, s_Land_become_119, s_Land_become_122, s_Land_become_125, y_kd_sI, y_kd_sL, y_kd_sR, y_kd_cpI, y_kd_cpL, y_ln_sI, y_ln_sL, y_ln_sR, y_ln_cpI, y_ln_cpL, y_sz_sI, y_sz_sL, y_sz_sR, y_sz_cpI, y_sz_cpL, y_sl_sI, y_sl_sL, y_sl_sR, y_sl_cpI, y_sl_cpL, y_gI_sL, y_gI_sR, y_gI_cpI, y_gI_cpL, y_gI_nw, y_gL_sI, y_gL_sR, y_gL_cpI, y_gL_cpL, y_gL_nw, y_gR_sI, y_gR_sL, y_gR_cpI, y_gR_cpL, y_gR_nw, y_kd_nw, y_ln_nw, y_sz_nw, y_sl_nw, y_fx_int, y_fx_long, y_fx_ref, y_fx_null, y_fx_U, y_rf_s, y_rf_n, a_inb, a_ix, a_lt, a_eq, a_eq0, a_lt0, a_0lt, a_m1, a_m2, a_mlt, a_sub, a_dec, a_div, a_rem, a_shl, a_shr, a_bit, a_bit0, a_II, a_Ia, a_Ik, a_LL, a_La, a_Lk, a_RR, a_Ra, a_Rk, a_if0, a_if1, y_mul, y_and, y_or, nI_add, y_b1, y_b0, kon_v, kon_0, true_or, or_true, and_self, true_and, and_true, false_or, or_false, and_false, false_and, not_true_eq_false, not_false_eq_true, ite_self, ↓reduceIte, Nat.reduceEqDiff, Nat.reduceLeDiff, Nat.reduceAdd, Nat.reduceMul, Nat.reduceSub, Nat.reduceLT, Nat.reduceShiftLeft, Nat.reduceOr, Nat.reduceAnd, Bool.false_eq_true, b_if, b_z1, b_z0, b_zz, b_a1, b_a0, b_lc, b_zF, b_zT, b_lbit, x1, x2, x3, x4, x5, y1, y2, y3, y4, y5, z1, z2, z3, z4, z5, va_rf, i5, i6, i7]
  · unfold lnD
    simp only [or_assoc]
theorem be_land {nf nd nc ch : Nat} (hd : o + 53 < m ∨ m + 53 < o) (q1 : oLand h m) (q2 : oLand h o) (s1 : oSearch h (m + 43) r t) (s2 : oSearch h (o + 43) r t) (g1 : gI h o 1 = nI nf) (b1 : nf ≤ 10) (g2 : gI h o 3 = nI nd) (b2 : nd ≤ 24) (g3 : gI h (o + 38) 0 = nI nc) (b3 : nc ≤ 100) (g4 : gI h (o + 44) 2 = nI ch) (b4 : ch ≤ 360) (tf : ∀ d : Nat, d < nd → gI h (o + 13 + d) 7 &&& 1 = gI h (o + 13 + d) 7 ∧ gI h (o + 13 + d) 8 &&& 1 = gI h (o + 13 + d) 8) : ∃ h' : zMem, call g Land_become [.ref m, .ref o] h = some (none, h') ∧ dn 53 o m h h' (lnD nf nd nc ch) (lnE nf) := by
  have ne : ¬ o = m := by omega
  have i0 : call g Land_become [.ref m, .ref o] h = ev g Land_become 10 [.ref m, .ref o, .int (nI 0)] [] (sI h m 1 (nI nf)) := by
    have k1 := la_k q1
    have k2 := la_k q2
    rw [n_Land_become]
    simp (disch := omega) only [s_Land_become_0, s_Land_become_1, s_Land_become_2, s_Land_become_5, s_Land_become_8, s_Land_become_9, s_Land_become_11, s_Land_become_12, s_Land_become_15, s_Land_become_18, s_Land_become_19, s_Land_become_22, s_Land_become_23, s_Land_become_24, s_Land_become_25, s_Land_become_28, s_Land_become_29, s_Land_become_30, s_Land_become_33, s_Land_become_36, s_Land_become_39, s_Land_become_40, s_Land_become_41, s_Land_become_44, s_Land_become_47, s_Land_become_48, s_Land_become_49, s_Land_become_50, s_Land_become_51, s_Land_become_54, s_Land_become_57, s_Land_become_58, s_Land_become_61, s_Land_become_62, s_Land_become_63, s_Land_become_64, s_Land_become_67, s_Land_become_68, s_Land_become_69, s_Land_become_72, s_Land_become_75, s_Land_become_78, s_Land_become_79, s_Land_become_82, s_Land_become_83, s_Land_become_84, s_Land_become_87, s_Land_become_88, s_Land_become_89, s_Land_become_92, s_Land_become_93, s_Land_become_96, s_Land_become_97, s_Land_become_100, s_Land_become_103, s_Land_become_104, s_Land_become_107, s_Land_become_108, s_Land_become_111, s_Land_become_114, s_Land_become_115, s_Land_become_118, s_Land_become_119, s_Land_become_122, s_Land_become_125, y_kd_sI, y_kd_sL, y_kd_sR, y_kd_cpI, y_kd_cpL, y_ln_sI, y_ln_sL, y_ln_sR, y_ln_cpI, y_ln_cpL, y_sz_sI, y_sz_sL, y_sz_sR, y_sz_cpI, y_sz_cpL, y_sl_sI, y_sl_sL, y_sl_sR, y_sl_cpI, y_sl_cpL, y_gI_sL, y_gI_sR, y_gI_cpI, y_gI_cpL, y_gI_nw, y_gL_sI, y_gL_sR, y_gL_cpI, y_gL_cpL, y_gL_nw, y_gR_sI, y_gR_sL, y_gR_cpI, y_gR_cpL, y_gR_nw, y_kd_nw, y_ln_nw, y_sz_nw, y_sl_nw, y_fx_int, y_fx_long, y_fx_ref, y_fx_null, y_fx_U, y_rf_s, y_rf_n, a_inb, a_ix, a_lt, a_eq, a_eq0, a_lt0, a_0lt, a_m1, a_m2, a_mlt, a_sub, a_dec, a_div, a_rem, a_shl, a_shr, a_bit, a_bit0, a_II, a_Ia, a_Ik, a_LL, a_La, a_Lk, a_RR, a_Ra, a_Rk, a_if0, a_if1, y_mul, y_and, y_or, nI_add, y_b1, y_b0, kon_v, kon_0, true_or, or_true, and_self, true_and, and_true, false_or, or_false, and_false, false_and, not_true_eq_false, not_false_eq_true, ite_self, ↓reduceIte, Nat.reduceEqDiff, Nat.reduceLeDiff, Nat.reduceAdd, Nat.reduceMul, Nat.reduceSub, Nat.reduceLT, Nat.reduceShiftLeft, Nat.reduceOr, Nat.reduceAnd, Bool.false_eq_true, b_if, b_z1, b_z0, b_zz, b_a1, b_a0, b_lc, b_zF, b_zT, b_lbit, k1, k2, g1]
  have c0 : dn 53 o m h (sI h m 1 (nI nf)) (fun k i => k = 0 ∧ i = 1) (fun _ _ => False) := ((dn.rf (W := 53) (o := o) (m := m) (h := h)).I hd (k := 0) (s := 1) (v := nI nf) (by omega) g1.symm).cg (fun k i => by simp only [false_or]) (fun _ _ => Iff.rfl)
  obtain ⟨e1, i1, c1⟩ := be_fields (g := g) hd q1 q2 g1 b1 c0
  have v1 : gI e1 m 1 = nI nf := (c1.2.1 0 1 (by omega) (Or.inl ⟨rfl, rfl⟩)).trans g1
  have v2 : gI e1 o 3 = nI nd := (c1.src hd (k := 0) (by omega)).trans g2
  have i2 : ev g Land_become 10 [.ref m, .ref o, .int (nI nf)] [] e1 = ev g Land_become 49 [.ref m, .ref o, .int (nI 0)] [] (sI e1 m 3 (nI nd)) := by
    have kk1 := la_k (c1.la q1)
    have kk2 := la_k (c1.la q2)
    have e5 : (nf < nf) = False := eq_false (Nat.lt_irrefl _)
    rw [s_Land_become_10]
    clear c1 c0 i1 i0 q1 q2 s1 s2 tf
    simp (disch := omega) only [s_Land_become_0, s_Land_become_1, s_Land_become_2, s_Land_become_5, s_Land_become_8, s_Land_become_9, s_Land_become_11, s_Land_become_12, s_Land_become_15, s_Land_become_18, s_Land_become_19, s_Land_become_22, s_Land_become_23, s_Land_become_24, s_Land_become_25, s_Land_become_28, s_Land_become_29, s_Land_become_30, s_Land_become_33, s_Land_become_36, s_Land_become_39, s_Land_become_40, s_Land_become_41, s_Land_become_44, s_Land_become_47, s_Land_become_48, s_Land_become_50, s_Land_become_51, s_Land_become_54, s_Land_become_57, s_Land_become_58, s_Land_become_61, s_Land_become_62, s_Land_become_63, s_Land_become_64, s_Land_become_67, s_Land_become_68, s_Land_become_69, s_Land_become_72, s_Land_become_75, s_Land_become_78, s_Land_become_79, s_Land_become_82, s_Land_become_83, s_Land_become_84, s_Land_become_87, s_Land_become_88, s_Land_become_89, s_Land_become_92, s_Land_become_93, s_Land_become_96, s_Land_become_97, s_Land_become_100, s_Land_become_103, s_Land_become_104, s_Land_become_107, s_Land_become_108, s_Land_become_111, s_Land_become_114, s_Land_become_115, s_Land_become_118, s_Land_become_119, s_Land_become_122, s_Land_become_125, y_kd_sI, y_kd_sL, y_kd_sR, y_kd_cpI, y_kd_cpL, y_ln_sI, y_ln_sL, y_ln_sR, y_ln_cpI, y_ln_cpL, y_sz_sI, y_sz_sL, y_sz_sR, y_sz_cpI, y_sz_cpL, y_sl_sI, y_sl_sL, y_sl_sR, y_sl_cpI, y_sl_cpL, y_gI_sL, y_gI_sR, y_gI_cpI, y_gI_cpL, y_gI_nw, y_gL_sI, y_gL_sR, y_gL_cpI, y_gL_cpL, y_gL_nw, y_gR_sI, y_gR_sL, y_gR_cpI, y_gR_cpL, y_gR_nw, y_kd_nw, y_ln_nw, y_sz_nw, y_sl_nw, y_fx_int, y_fx_long, y_fx_ref, y_fx_null, y_fx_U, y_rf_s, y_rf_n, a_inb, a_ix, a_lt, a_eq, a_eq0, a_lt0, a_0lt, a_m1, a_m2, a_mlt, a_sub, a_dec, a_div, a_rem, a_shl, a_shr, a_bit, a_bit0, a_II, a_Ia, a_Ik, a_LL, a_La, a_Lk, a_RR, a_Ra, a_Rk, a_if0, a_if1, y_mul, y_and, y_or, nI_add, y_b1, y_b0, kon_v, kon_0, true_or, or_true, and_self, true_and, and_true, false_or, or_false, and_false, false_and, not_true_eq_false, not_false_eq_true, ite_self, ↓reduceIte, Nat.reduceEqDiff, Nat.reduceLeDiff, Nat.reduceAdd, Nat.reduceMul, Nat.reduceSub, Nat.reduceLT, Nat.reduceShiftLeft, Nat.reduceOr, Nat.reduceAnd, Bool.false_eq_true, b_if, b_z1, b_z0, b_zz, b_a1, b_a0, b_lc, b_zF, b_zT, b_lbit, v1, v2, e5, kk1, kk2]
  have c2 : dn 53 o m h (sI e1 m 3 (nI nd)) (fun k i => (k = 0 ∧ (i = 1 ∨ i = 3)) ∨ (2 ≤ k ∧ k < 2 + nf ∧ i < 4)) (lnE nf) := (c1.I hd (k := 0) (s := 3) (v := nI nd) (by omega) v2.symm).cg (fun k i => ⟨fun z => by
    rcases z with (z | z) | z
    · exact Or.inl ⟨z.1, Or.inl z.2⟩
    · exact Or.inr z
    · exact Or.inl ⟨z.1, Or.inr z.2⟩, fun z => by
    rcases z with ⟨z, y | y⟩ | z
    · exact Or.inl (Or.inl ⟨z, y⟩)
    · exact Or.inr ⟨z, y⟩
    · exact Or.inl (Or.inr z)⟩) (fun _ _ => Iff.rfl)
  obtain ⟨e3, i3, c3⟩ := be_deeds (g := g) hd q1 q2 g2 b2 tf c2
  have v3 : gI e3 m 3 = nI nd := (c3.2.1 0 3 (by omega) (Or.inl (Or.inl ⟨rfl, Or.inr rfl⟩))).trans g2
  have i4 : ev g Land_become 49 [.ref m, .ref o, .int (nI nd)] [] e3 = ev g Land_become 78 [.ref m, .ref o, .int (nI nd)] [] e3 := by
    have kk1 := la_k (c3.la q1)
    have e5 : (nd < nd) = False := eq_false (Nat.lt_irrefl _)
    rw [s_Land_become_49]
    clear c0 c1 c2 c3 i0 i1 i2 i3 q1 q2 s1 s2 tf
    simp (disch := omega) only [s_Land_become_0, s_Land_become_1, s_Land_become_2, s_Land_become_5, s_Land_become_8, s_Land_become_9, s_Land_become_10, s_Land_become_11, s_Land_become_12, s_Land_become_15, s_Land_become_18, s_Land_become_19, s_Land_become_22, s_Land_become_23, s_Land_become_24, s_Land_become_25, s_Land_become_28, s_Land_become_29, s_Land_become_30, s_Land_become_33, s_Land_become_36, s_Land_become_39, s_Land_become_40, s_Land_become_41, s_Land_become_44, s_Land_become_47, s_Land_become_48, s_Land_become_50, s_Land_become_51, s_Land_become_54, s_Land_become_57, s_Land_become_58, s_Land_become_61, s_Land_become_62, s_Land_become_63, s_Land_become_64, s_Land_become_67, s_Land_become_68, s_Land_become_69, s_Land_become_72, s_Land_become_75, s_Land_become_79, s_Land_become_82, s_Land_become_83, s_Land_become_84, s_Land_become_87, s_Land_become_88, s_Land_become_89, s_Land_become_92, s_Land_become_93, s_Land_become_96, s_Land_become_97, s_Land_become_100, s_Land_become_103, s_Land_become_104, s_Land_become_107, s_Land_become_108, s_Land_become_111, s_Land_become_114, s_Land_become_115, s_Land_become_118, s_Land_become_119, s_Land_become_122, s_Land_become_125, y_kd_sI, y_kd_sL, y_kd_sR, y_kd_cpI, y_kd_cpL, y_ln_sI, y_ln_sL, y_ln_sR, y_ln_cpI, y_ln_cpL, y_sz_sI, y_sz_sL, y_sz_sR, y_sz_cpI, y_sz_cpL, y_sl_sI, y_sl_sL, y_sl_sR, y_sl_cpI, y_sl_cpL, y_gI_sL, y_gI_sR, y_gI_cpI, y_gI_cpL, y_gI_nw, y_gL_sI, y_gL_sR, y_gL_cpI, y_gL_cpL, y_gL_nw, y_gR_sI, y_gR_sL, y_gR_cpI, y_gR_cpL, y_gR_nw, y_kd_nw, y_ln_nw, y_sz_nw, y_sl_nw, y_fx_int, y_fx_long, y_fx_ref, y_fx_null, y_fx_U, y_rf_s, y_rf_n, a_inb, a_ix, a_lt, a_eq, a_eq0, a_lt0, a_0lt, a_m1, a_m2, a_mlt, a_sub, a_dec, a_div, a_rem, a_shl, a_shr, a_bit, a_bit0, a_II, a_Ia, a_Ik, a_LL, a_La, a_Lk, a_RR, a_Ra, a_Rk, a_if0, a_if1, y_mul, y_and, y_or, nI_add, y_b1, y_b0, kon_v, kon_0, true_or, or_true, and_self, true_and, and_true, false_or, or_false, and_false, false_and, not_true_eq_false, not_false_eq_true, ite_self, ↓reduceIte, Nat.reduceEqDiff, Nat.reduceLeDiff, Nat.reduceAdd, Nat.reduceMul, Nat.reduceSub, Nat.reduceLT, Nat.reduceShiftLeft, Nat.reduceOr, Nat.reduceAnd, Bool.false_eq_true, b_if, b_z1, b_z0, b_zz, b_a1, b_a0, b_lc, b_zF, b_zT, b_lbit, v3, e5, kk1]
  obtain ⟨h', i5, c5⟩ := be_rest (g := g) (x := nI nd) hd q1 q2 s1 s2 g3 b3 g4 b4 c3
  exact ⟨h', by rw [i0, i1, i2, i3, i4, i5], c5⟩
end ZBE
