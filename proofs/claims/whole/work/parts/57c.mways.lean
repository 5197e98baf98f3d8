/-! the reference reads a deed: ways, old words, or -/
section ZMO2
variable {g : Nat → Nat} {B m p s e k i n a b q u x y : Nat} {h h' h'' : zMem} {T : zT} {σ : zK}
/-- what is known behind it: said, old words, the token or the fault -/
def moP (m n : Nat) (T : zT) (h h' : zMem) (x : Bool × Nat × Nat × zK) : Prop := mdF m n h h' ∧ (∀ b : Nat, m + 22 ≤ b → b ≤ m + 30 → ¬ b = m + 27 → ¬ b = m + 28 → gI h' b n = gI h b n) ∧ gI h' (m + 27) n = nI x.2.1 ∧ gI h' (m + 28) n = nI x.2.2.1 ∧ okt T x.2.2.2 ∧ (x.1 = true → mkn h' m T x.2.2.2) ∧ (¬ x.1 = true → gI h' m 47 = nI x.2.2.2.2.1)
theorem mC.w8 (c : mC g h m B T) : gR h (m + 83) 0 = some (g 104) ∧ gR h (m + 83) 1 = some (g 105) ∧ gR h (m + 83) 2 = some (g 106) ∧ gR h (m + 83) 3 = some (g 107) ∧ gR h (m + 83) 4 = some (g 108) ∧ gR h (m + 83) 5 = some (g 109) ∧ gR h (m + 83) 6 = some (g 110) ∧ gR h (m + 83) 7 = some (g 111) := by
  have w := c.2.2.2.2.2.1
  exact ⟨w 0 (by decide), w 1 (by decide), w 2 (by decide), w 3 (by decide), w 4 (by decide), w 5 (by decide), w 6 (by decide), w 7 (by decide)⟩
/-- a way is said -/
theorem m_say {v : Nat} (c : mC g h m B T) (t : mkn h m T σ) (ok : okt T σ) (h3 : ¬ σ.1 = 3) (h5 : gI h (m + 27) n = nI a) (h6 : gI h (m + 28) n = nI b) : ∃ h' : zMem, call g Mo_look [.ref m] (sI h (m + 27) n (nI (a ||| v))) = some (none, h') ∧ moP m n T h h' (true, a ||| v, b, tk T σ.2.2) := by
  have f1 : mdF m n h (sI h (m + 27) n (nI (a ||| v))) := mdF.rf.D (k := 27) (by omega)
  obtain ⟨h', e1, e2, e3⟩ := (c.fr f1).av (t.D (by omega)) ok h3
  refine ⟨h', e1, f1.tr (mdF.lk e2), fun b h1 h2 h3 h4 => (e2.d h1).trans (a_Ia h3), (e2.d (by omega)).trans a_II, (e2.d (by omega)).trans ((a_Ia (by omega)).trans h6), ok.nx, fun _ => e3, fun w => absurd rfl w⟩
theorem m_one (c : mC g h m B T) (t : mkn h m T σ) (ok : okt T σ) (hn : n < 24) (h5 : gI h (m + 27) n = nI a) (h6 : gI h (m + 28) n = nI b) : ∃ h' : zMem, call g Mo_one [.ref m, .int (nI n)] h = some (some (.int (bZ ((pOne T a b σ).1 = true))), h') ∧ moP m n T h h' (pOne T a b σ) := by
  have km := c.km
  have o := c.2.1
  have r49 := mo_r49 o
  have k49 := mo_k49 o
  have l49 := mo_l49 o
  have r21 := mo_r21 o
  have k21 := mo_k21 o
  have l21 := mo_l21 o
  obtain ⟨w0, w1, w2, w3, w4, w5, w6, w7⟩ := c.w8
  have d1 : (24 ≤ 27) = True := eq_true (by decide)
  have d2 : (27 < 30) = True := eq_true (by decide)
  have s4 : call g Mo_isWord [.ref m, .ref (g 104)] h = some (some (.int (bZ (isWb T σ (zWd 4) = true))), h) := c.sp 4 (by decide) t ok
  have s5 : call g Mo_isWord [.ref m, .ref (g 105)] h = some (some (.int (bZ (isWb T σ (zWd 5) = true))), h) := c.sp 5 (by decide) t ok
  have s6 : call g Mo_isWord [.ref m, .ref (g 106)] h = some (some (.int (bZ (isWb T σ (zWd 6) = true))), h) := c.sp 6 (by decide) t ok
  have s7 : call g Mo_isWord [.ref m, .ref (g 107)] h = some (some (.int (bZ (isWb T σ (zWd 7) = true))), h) := c.sp 7 (by decide) t ok
  have s8 : call g Mo_isWord [.ref m, .ref (g 108)] h = some (some (.int (bZ (isWb T σ (zWd 8) = true))), h) := c.sp 8 (by decide) t ok
  have s9 : call g Mo_isWord [.ref m, .ref (g 109)] h = some (some (.int (bZ (isWb T σ (zWd 9) = true))), h) := c.sp 9 (by decide) t ok
  have s10 : call g Mo_isWord [.ref m, .ref (g 110)] h = some (some (.int (bZ (isWb T σ (zWd 10) = true))), h) := c.sp 10 (by decide) t ok
  have s11 : call g Mo_isWord [.ref m, .ref (g 111)] h = some (some (.int (bZ (isWb T σ (zWd 11) = true))), h) := c.sp 11 (by decide) t ok
  have s12 : call g Mo_isWord [.ref m, .ref (g 112)] h = some (some (.int (bZ (isWb T σ (zWd 12) = true))), h) := c.sp 12 (by decide) t ok
  have s13 : call g Mo_isWord [.ref m, .ref (g 113)] h = some (some (.int (bZ (isWb T σ (zWd 13) = true))), h) := c.sp 13 (by decide) t ok
  rw [n_Mo_one]
  by_cases z4 : isWb T σ (zWd 4) = true
  · have y4 : (isWb T σ (zWd 4) = true) = True := eq_true z4
    have ew : wsy T σ = 1 := by
      unfold wsy
      rw [if_pos z4]
    obtain ⟨h1, a1, a2⟩ := m_say (g := g) (v := 1) c t ok (isW_3 z4) h5 h6
    have ep : pOne T a b σ = (true, a ||| 1, b, tk T σ.2.2) := by
      unfold pOne
      rw [ew, if_pos (by decide)]
    rw [ep]
    refine ⟨h1, ?_, a2⟩
    show _ = some (some (Value.int (nI 1)), _)
    simp (disch := omega) only [s_Mo_one_0, s_Mo_one_1, s_Mo_one_2, s_Mo_one_3, s_Mo_one_5, s_Mo_one_8, s_Mo_one_9, s_Mo_one_10, s_Mo_one_13, s_Mo_one_14, s_Mo_one_15, s_Mo_one_18, s_Mo_one_21, s_Mo_one_22, s_Mo_one_25, s_Mo_one_26, s_Mo_one_27, s_Mo_one_28, s_Mo_one_29, s_Mo_one_30, s_Mo_one_31, s_Mo_one_32, s_Mo_one_33, s_Mo_one_34, s_Mo_one_37, s_Mo_one_38, s_Mo_one_39, s_Mo_one_42, s_Mo_one_45, s_Mo_one_46, s_Mo_one_49, s_Mo_one_52, s_Mo_one_55, s_Mo_one_56, s_Mo_one_59, s_Mo_one_60, s_Mo_one_61, s_Mo_one_62, s_Mo_one_64, s_Mo_one_65, s_Mo_one_66, s_Mo_one_67, s_Mo_one_70, s_Mo_one_71, s_Mo_one_72, s_Mo_one_73, s_Mo_one_76, s_Mo_one_79, s_Mo_one_82, s_Mo_one_83, s_Mo_one_86, s_Mo_one_87, s_Mo_one_88, s_Mo_one_89, s_Mo_one_92, s_Mo_one_95, s_Mo_one_96, s_Mo_one_97, s_Mo_one_98, s_Mo_one_101, s_Mo_one_102, s_Mo_one_103, s_Mo_one_104, s_Mo_one_105, s_Mo_one_106, s_Mo_one_109, s_Mo_one_110, s_Mo_one_111, s_Mo_one_112, s_Mo_one_113, s_Mo_one_114, s_Mo_one_115, s_Mo_one_118, y_kd_sI, y_kd_sL, y_kd_sR, y_kd_cpI, y_kd_cpL, y_ln_sI, y_ln_sL, y_ln_sR, y_ln_cpI, y_ln_cpL, y_sz_sI, y_sz_sL, y_sz_sR, y_sz_cpI, y_sz_cpL, y_sl_sI, y_sl_sL, y_sl_sR, y_sl_cpI, y_sl_cpL, y_gI_sL, y_gI_sR, y_gI_cpI, y_gI_cpL, y_gI_nw, y_gL_sI, y_gL_sR, y_gL_cpI, y_gL_cpL, y_gL_nw, y_gR_sI, y_gR_sL, y_gR_cpI, y_gR_cpL, y_gR_nw, y_kd_nw, y_ln_nw, y_sz_nw, y_sl_nw, y_fx_int, y_fx_long, y_fx_ref, y_fx_null, y_fx_U, y_rf_s, y_rf_n, a_inb, a_ix, a_lt, a_eq, a_eq0, a_lt0, a_0lt, a_m1, a_m2, a_mlt, a_sub, a_dec, a_div, a_rem, a_shl, a_shr, a_bit, a_bit0, a_II, a_Ia, a_Ik, a_LL, a_La, a_Lk, a_RR, a_Ra, a_Rk, a_if0, a_if1, y_mul, y_and, y_or, nI_add, y_b1, y_b0, kon_v, kon_0, true_or, or_true, and_self, true_and, and_true, false_or, or_false, and_false, false_and, not_true_eq_false, not_false_eq_true, ite_self, ↓reduceIte, Nat.reduceEqDiff, Nat.reduceLeDiff, Nat.reduceAdd, Nat.reduceMul, Nat.reduceSub, Nat.reduceLT, Nat.reduceShiftLeft, Nat.reduceOr, Nat.reduceAnd, Bool.false_eq_true, b_if, b_z1, b_z0, b_zz, b_a1, b_a0, b_lc, b_zF, b_zT, b_lbit, km, r49, k49, l49, r21, k21, l21, w0, w1, w2, w3, w4, w5, w6, w7, d1, d2, va_rf, h5, s4, y4, a1]
  have y4 : (isWb T σ (zWd 4) = true) = False := eq_false z4
  by_cases z5 : isWb T σ (zWd 5) = true
  · have y5 : (isWb T σ (zWd 5) = true) = True := eq_true z5
    have ew : wsy T σ = 2 := by
      unfold wsy
      rw [if_neg z4, if_pos z5]
    obtain ⟨h1, a1, a2⟩ := m_say (g := g) (v := 2) c t ok (isW_3 z5) h5 h6
    have ep : pOne T a b σ = (true, a ||| 2, b, tk T σ.2.2) := by
      unfold pOne
      rw [ew, if_pos (by decide)]
    rw [ep]
    refine ⟨h1, ?_, a2⟩
    show _ = some (some (Value.int (nI 1)), _)
    simp (disch := omega) only [s_Mo_one_0, s_Mo_one_1, s_Mo_one_2, s_Mo_one_3, s_Mo_one_5, s_Mo_one_8, s_Mo_one_9, s_Mo_one_10, s_Mo_one_13, s_Mo_one_14, s_Mo_one_15, s_Mo_one_18, s_Mo_one_21, s_Mo_one_22, s_Mo_one_25, s_Mo_one_26, s_Mo_one_27, s_Mo_one_28, s_Mo_one_29, s_Mo_one_30, s_Mo_one_31, s_Mo_one_32, s_Mo_one_33, s_Mo_one_34, s_Mo_one_37, s_Mo_one_38, s_Mo_one_39, s_Mo_one_42, s_Mo_one_45, s_Mo_one_46, s_Mo_one_49, s_Mo_one_52, s_Mo_one_55, s_Mo_one_56, s_Mo_one_59, s_Mo_one_60, s_Mo_one_61, s_Mo_one_62, s_Mo_one_64, s_Mo_one_65, s_Mo_one_66, s_Mo_one_67, s_Mo_one_70, s_Mo_one_71, s_Mo_one_72, s_Mo_one_73, s_Mo_one_76, s_Mo_one_79, s_Mo_one_82, s_Mo_one_83, s_Mo_one_86, s_Mo_one_87, s_Mo_one_88, s_Mo_one_89, s_Mo_one_92, s_Mo_one_95, s_Mo_one_96, s_Mo_one_97, s_Mo_one_98, s_Mo_one_101, s_Mo_one_102, s_Mo_one_103, s_Mo_one_104, s_Mo_one_105, s_Mo_one_106, s_Mo_one_109, s_Mo_one_110, s_Mo_one_111, s_Mo_one_112, s_Mo_one_113, s_Mo_one_114, s_Mo_one_115, s_Mo_one_118, y_kd_sI, y_kd_sL, y_kd_sR, y_kd_cpI, y_kd_cpL, y_ln_sI, y_ln_sL, y_ln_sR, y_ln_cpI, y_ln_cpL, y_sz_sI, y_sz_sL, y_sz_sR, y_sz_cpI, y_sz_cpL, y_sl_sI, y_sl_sL, y_sl_sR, y_sl_cpI, y_sl_cpL, y_gI_sL, y_gI_sR, y_gI_cpI, y_gI_cpL, y_gI_nw, y_gL_sI, y_gL_sR, y_gL_cpI, y_gL_cpL, y_gL_nw, y_gR_sI, y_gR_sL, y_gR_cpI, y_gR_cpL, y_gR_nw, y_kd_nw, y_ln_nw, y_sz_nw, y_sl_nw, y_fx_int, y_fx_long, y_fx_ref, y_fx_null, y_fx_U, y_rf_s, y_rf_n, a_inb, a_ix, a_lt, a_eq, a_eq0, a_lt0, a_0lt, a_m1, a_m2, a_mlt, a_sub, a_dec, a_div, a_rem, a_shl, a_shr, a_bit, a_bit0, a_II, a_Ia, a_Ik, a_LL, a_La, a_Lk, a_RR, a_Ra, a_Rk, a_if0, a_if1, y_mul, y_and, y_or, nI_add, y_b1, y_b0, kon_v, kon_0, true_or, or_true, and_self, true_and, and_true, false_or, or_false, and_false, false_and, not_true_eq_false, not_false_eq_true, ite_self, ↓reduceIte, Nat.reduceEqDiff, Nat.reduceLeDiff, Nat.reduceAdd, Nat.reduceMul, Nat.reduceSub, Nat.reduceLT, Nat.reduceShiftLeft, Nat.reduceOr, Nat.reduceAnd, Bool.false_eq_true, b_if, b_z1, b_z0, b_zz, b_a1, b_a0, b_lc, b_zF, b_zT, b_lbit, km, r49, k49, l49, r21, k21, l21, w0, w1, w2, w3, w4, w5, w6, w7, d1, d2, va_rf, h5, s4, y4, s5, y5, a1]
  have y5 : (isWb T σ (zWd 5) = true) = False := eq_false z5
  by_cases z6 : isWb T σ (zWd 6) = true
  · have y6 : (isWb T σ (zWd 6) = true) = True := eq_true z6
    have ew : wsy T σ = 4 := by
      unfold wsy
      rw [if_neg z4, if_neg z5, if_pos z6]
    obtain ⟨h1, a1, a2⟩ := m_say (g := g) (v := 4) c t ok (isW_3 z6) h5 h6
    have ep : pOne T a b σ = (true, a ||| 4, b, tk T σ.2.2) := by
      unfold pOne
      rw [ew, if_pos (by decide)]
    rw [ep]
    refine ⟨h1, ?_, a2⟩
    show _ = some (some (Value.int (nI 1)), _)
    simp (disch := omega) only [s_Mo_one_0, s_Mo_one_1, s_Mo_one_2, s_Mo_one_3, s_Mo_one_5, s_Mo_one_8, s_Mo_one_9, s_Mo_one_10, s_Mo_one_13, s_Mo_one_14, s_Mo_one_15, s_Mo_one_18, s_Mo_one_21, s_Mo_one_22, s_Mo_one_25, s_Mo_one_26, s_Mo_one_27, s_Mo_one_28, s_Mo_one_29, s_Mo_one_30, s_Mo_one_31, s_Mo_one_32, s_Mo_one_33, s_Mo_one_34, s_Mo_one_37, s_Mo_one_38, s_Mo_one_39, s_Mo_one_42, s_Mo_one_45, s_Mo_one_46, s_Mo_one_49, s_Mo_one_52, s_Mo_one_55, s_Mo_one_56, s_Mo_one_59, s_Mo_one_60, s_Mo_one_61, s_Mo_one_62, s_Mo_one_64, s_Mo_one_65, s_Mo_one_66, s_Mo_one_67, s_Mo_one_70, s_Mo_one_71, s_Mo_one_72, s_Mo_one_73, s_Mo_one_76, s_Mo_one_79, s_Mo_one_82, s_Mo_one_83, s_Mo_one_86, s_Mo_one_87, s_Mo_one_88, s_Mo_one_89, s_Mo_one_92, s_Mo_one_95, s_Mo_one_96, s_Mo_one_97, s_Mo_one_98, s_Mo_one_101, s_Mo_one_102, s_Mo_one_103, s_Mo_one_104, s_Mo_one_105, s_Mo_one_106, s_Mo_one_109, s_Mo_one_110, s_Mo_one_111, s_Mo_one_112, s_Mo_one_113, s_Mo_one_114, s_Mo_one_115, s_Mo_one_118, y_kd_sI, y_kd_sL, y_kd_sR, y_kd_cpI, y_kd_cpL, y_ln_sI, y_ln_sL, y_ln_sR, y_ln_cpI, y_ln_cpL, y_sz_sI, y_sz_sL, y_sz_sR, y_sz_cpI, y_sz_cpL, y_sl_sI, y_sl_sL, y_sl_sR, y_sl_cpI, y_sl_cpL, y_gI_sL, y_gI_sR, y_gI_cpI, y_gI_cpL, y_gI_nw, y_gL_sI, y_gL_sR, y_gL_cpI, y_gL_cpL, y_gL_nw, y_gR_sI, y_gR_sL, y_gR_cpI, y_gR_cpL, y_gR_nw, y_kd_nw, y_ln_nw, y_sz_nw, y_sl_nw, y_fx_int, y_fx_long, y_fx_ref, y_fx_null, y_fx_U, y_rf_s, y_rf_n, a_inb, a_ix, a_lt, a_eq, a_eq0, a_lt0, a_0lt, a_m1, a_m2, a_mlt, a_sub, a_dec, a_div, a_rem, a_shl, a_shr, a_bit, a_bit0, a_II, a_Ia, a_Ik, a_LL, a_La, a_Lk, a_RR, a_Ra, a_Rk, a_if0, a_if1, y_mul, y_and, y_or, nI_add, y_b1, y_b0, kon_v, kon_0, true_or, or_true, and_self, true_and, and_true, false_or, or_false, and_false, false_and, not_true_eq_false, not_false_eq_true, ite_self, ↓reduceIte, Nat.reduceEqDiff, Nat.reduceLeDiff, Nat.reduceAdd, Nat.reduceMul, Nat.reduceSub, Nat.reduceLT, Nat.reduceShiftLeft, Nat.reduceOr, Nat.reduceAnd, Bool.false_eq_true, b_if, b_z1, b_z0, b_zz, b_a1, b_a0, b_lc, b_zF, b_zT, b_lbit, km, r49, k49, l49, r21, k21, l21, w0, w1, w2, w3, w4, w5, w6, w7, d1, d2, va_rf, h5, s4, y4, s5, y5, s6, y6, a1]
  have y6 : (isWb T σ (zWd 6) = true) = False := eq_false z6
  by_cases z7 : isWb T σ (zWd 7) = true
  · have y7 : (isWb T σ (zWd 7) = true) = True := eq_true z7
    have ew : wsy T σ = 8 := by
      unfold wsy
      rw [if_neg z4, if_neg z5, if_neg z6, if_pos z7]
    obtain ⟨h1, a1, a2⟩ := m_say (g := g) (v := 8) c t ok (isW_3 z7) h5 h6
    have ep : pOne T a b σ = (true, a ||| 8, b, tk T σ.2.2) := by
      unfold pOne
      rw [ew, if_pos (by decide)]
    rw [ep]
    refine ⟨h1, ?_, a2⟩
    show _ = some (some (Value.int (nI 1)), _)
    simp (disch := omega) only [s_Mo_one_0, s_Mo_one_1, s_Mo_one_2, s_Mo_one_3, s_Mo_one_5, s_Mo_one_8, s_Mo_one_9, s_Mo_one_10, s_Mo_one_13, s_Mo_one_14, s_Mo_one_15, s_Mo_one_18, s_Mo_one_21, s_Mo_one_22, s_Mo_one_25, s_Mo_one_26, s_Mo_one_27, s_Mo_one_28, s_Mo_one_29, s_Mo_one_30, s_Mo_one_31, s_Mo_one_32, s_Mo_one_33, s_Mo_one_34, s_Mo_one_37, s_Mo_one_38, s_Mo_one_39, s_Mo_one_42, s_Mo_one_45, s_Mo_one_46, s_Mo_one_49, s_Mo_one_52, s_Mo_one_55, s_Mo_one_56, s_Mo_one_59, s_Mo_one_60, s_Mo_one_61, s_Mo_one_62, s_Mo_one_64, s_Mo_one_65, s_Mo_one_66, s_Mo_one_67, s_Mo_one_70, s_Mo_one_71, s_Mo_one_72, s_Mo_one_73, s_Mo_one_76, s_Mo_one_79, s_Mo_one_82, s_Mo_one_83, s_Mo_one_86, s_Mo_one_87, s_Mo_one_88, s_Mo_one_89, s_Mo_one_92, s_Mo_one_95, s_Mo_one_96, s_Mo_one_97, s_Mo_one_98, s_Mo_one_101, s_Mo_one_102, s_Mo_one_103, s_Mo_one_104, s_Mo_one_105, s_Mo_one_106, s_Mo_one_109, s_Mo_one_110, s_Mo_one_111, s_Mo_one_112, s_Mo_one_113, s_Mo_one_114, s_Mo_one_115, s_Mo_one_118, y_kd_sI, y_kd_sL, y_kd_sR, y_kd_cpI, y_kd_cpL, y_ln_sI, y_ln_sL, y_ln_sR, y_ln_cpI, y_ln_cpL, y_sz_sI, y_sz_sL, y_sz_sR, y_sz_cpI, y_sz_cpL, y_sl_sI, y_sl_sL, y_sl_sR, y_sl_cpI, y_sl_cpL, y_gI_sL, y_gI_sR, y_gI_cpI, y_gI_cpL, y_gI_nw, y_gL_sI, y_gL_sR, y_gL_cpI, y_gL_cpL, y_gL_nw, y_gR_sI, y_gR_sL, y_gR_cpI, y_gR_cpL, y_gR_nw, y_kd_nw, y_ln_nw, y_sz_nw, y_sl_nw, y_fx_int, y_fx_long, y_fx_ref, y_fx_null, y_fx_U, y_rf_s, y_rf_n, a_inb, a_ix, a_lt, a_eq, a_eq0, a_lt0, a_0lt, a_m1, a_m2, a_mlt, a_sub, a_dec, a_div, a_rem, a_shl, a_shr, a_bit, a_bit0, a_II, a_Ia, a_Ik, a_LL, a_La, a_Lk, a_RR, a_Ra, a_Rk, a_if0, a_if1, y_mul, y_and, y_or, nI_add, y_b1, y_b0, kon_v, kon_0, true_or, or_true, and_self, true_and, and_true, false_or, or_false, and_false, false_and, not_true_eq_false, not_false_eq_true, ite_self, ↓reduceIte, Nat.reduceEqDiff, Nat.reduceLeDiff, Nat.reduceAdd, Nat.reduceMul, Nat.reduceSub, Nat.reduceLT, Nat.reduceShiftLeft, Nat.reduceOr, Nat.reduceAnd, Bool.false_eq_true, b_if, b_z1, b_z0, b_zz, b_a1, b_a0, b_lc, b_zF, b_zT, b_lbit, km, r49, k49, l49, r21, k21, l21, w0, w1, w2, w3, w4, w5, w6, w7, d1, d2, va_rf, h5, s4, y4, s5, y5, s6, y6, s7, y7, a1]
  have y7 : (isWb T σ (zWd 7) = true) = False := eq_false z7
  by_cases z8 : isWb T σ (zWd 8) = true
  · have y8 : (isWb T σ (zWd 8) = true) = True := eq_true z8
    have ew : wsy T σ = 16 := by
      unfold wsy
      rw [if_neg z4, if_neg z5, if_neg z6, if_neg z7, if_pos z8]
    obtain ⟨h1, a1, a2⟩ := m_say (g := g) (v := 16) c t ok (isW_3 z8) h5 h6
    have ep : pOne T a b σ = (true, a ||| 16, b, tk T σ.2.2) := by
      unfold pOne
      rw [ew, if_pos (by decide)]
    rw [ep]
    refine ⟨h1, ?_, a2⟩
    show _ = some (some (Value.int (nI 1)), _)
    simp (disch := omega) only [s_Mo_one_0, s_Mo_one_1, s_Mo_one_2, s_Mo_one_3, s_Mo_one_5, s_Mo_one_8, s_Mo_one_9, s_Mo_one_10, s_Mo_one_13, s_Mo_one_14, s_Mo_one_15, s_Mo_one_18, s_Mo_one_21, s_Mo_one_22, s_Mo_one_25, s_Mo_one_26, s_Mo_one_27, s_Mo_one_28, s_Mo_one_29, s_Mo_one_30, s_Mo_one_31, s_Mo_one_32, s_Mo_one_33, s_Mo_one_34, s_Mo_one_37, s_Mo_one_38, s_Mo_one_39, s_Mo_one_42, s_Mo_one_45, s_Mo_one_46, s_Mo_one_49, s_Mo_one_52, s_Mo_one_55, s_Mo_one_56, s_Mo_one_59, s_Mo_one_60, s_Mo_one_61, s_Mo_one_62, s_Mo_one_64, s_Mo_one_65, s_Mo_one_66, s_Mo_one_67, s_Mo_one_70, s_Mo_one_71, s_Mo_one_72, s_Mo_one_73, s_Mo_one_76, s_Mo_one_79, s_Mo_one_82, s_Mo_one_83, s_Mo_one_86, s_Mo_one_87, s_Mo_one_88, s_Mo_one_89, s_Mo_one_92, s_Mo_one_95, s_Mo_one_96, s_Mo_one_97, s_Mo_one_98, s_Mo_one_101, s_Mo_one_102, s_Mo_one_103, s_Mo_one_104, s_Mo_one_105, s_Mo_one_106, s_Mo_one_109, s_Mo_one_110, s_Mo_one_111, s_Mo_one_112, s_Mo_one_113, s_Mo_one_114, s_Mo_one_115, s_Mo_one_118, y_kd_sI, y_kd_sL, y_kd_sR, y_kd_cpI, y_kd_cpL, y_ln_sI, y_ln_sL, y_ln_sR, y_ln_cpI, y_ln_cpL, y_sz_sI, y_sz_sL, y_sz_sR, y_sz_cpI, y_sz_cpL, y_sl_sI, y_sl_sL, y_sl_sR, y_sl_cpI, y_sl_cpL, y_gI_sL, y_gI_sR, y_gI_cpI, y_gI_cpL, y_gI_nw, y_gL_sI, y_gL_sR, y_gL_cpI, y_gL_cpL, y_gL_nw, y_gR_sI, y_gR_sL, y_gR_cpI, y_gR_cpL, y_gR_nw, y_kd_nw, y_ln_nw, y_sz_nw, y_sl_nw, y_fx_int, y_fx_long, y_fx_ref, y_fx_null, y_fx_U, y_rf_s, y_rf_n, a_inb, a_ix, a_lt, a_eq, a_eq0, a_lt0, a_0lt, a_m1, a_m2, a_mlt, a_sub, a_dec, a_div, a_rem, a_shl, a_shr, a_bit, a_bit0, a_II, a_Ia, a_Ik, a_LL, a_La, a_Lk, a_RR, a_Ra, a_Rk, a_if0, a_if1, y_mul, y_and, y_or, nI_add, y_b1, y_b0, kon_v, kon_0, true_or, or_true, and_self, true_and, and_true, false_or, or_false, and_false, false_and, not_true_eq_false, not_false_eq_true, ite_self, ↓reduceIte, Nat.reduceEqDiff, Nat.reduceLeDiff, Nat.reduceAdd, Nat.reduceMul, Nat.reduceSub, Nat.reduceLT, Nat.reduceShiftLeft, Nat.reduceOr, Nat.reduceAnd, Bool.false_eq_true, b_if, b_z1, b_z0, b_zz, b_a1, b_a0, b_lc, b_zF, b_zT, b_lbit, km, r49, k49, l49, r21, k21, l21, w0, w1, w2, w3, w4, w5, w6, w7, d1, d2, va_rf, h5, s4, y4, s5, y5, s6, y6, s7, y7, s8, y8, a1]
  have y8 : (isWb T σ (zWd 8) = true) = False := eq_false z8
  by_cases z9 : isWb T σ (zWd 9) = true
  · have y9 : (isWb T σ (zWd 9) = true) = True := eq_true z9
    have ew : wsy T σ = 32 := by
      unfold wsy
      rw [if_neg z4, if_neg z5, if_neg z6, if_neg z7, if_neg z8, if_pos z9]
    obtain ⟨h1, a1, a2⟩ := m_say (g := g) (v := 32) c t ok (isW_3 z9) h5 h6
    have ep : pOne T a b σ = (true, a ||| 32, b, tk T σ.2.2) := by
      unfold pOne
      rw [ew, if_pos (by decide)]
    rw [ep]
    refine ⟨h1, ?_, a2⟩
    show _ = some (some (Value.int (nI 1)), _)
    simp (disch := omega) only [s_Mo_one_0, s_Mo_one_1, s_Mo_one_2, s_Mo_one_3, s_Mo_one_5, s_Mo_one_8, s_Mo_one_9, s_Mo_one_10, s_Mo_one_13, s_Mo_one_14, s_Mo_one_15, s_Mo_one_18, s_Mo_one_21, s_Mo_one_22, s_Mo_one_25, s_Mo_one_26, s_Mo_one_27, s_Mo_one_28, s_Mo_one_29, s_Mo_one_30, s_Mo_one_31, s_Mo_one_32, s_Mo_one_33, s_Mo_one_34, s_Mo_one_37, s_Mo_one_38, s_Mo_one_39, s_Mo_one_42, s_Mo_one_45, s_Mo_one_46, s_Mo_one_49, s_Mo_one_52, s_Mo_one_55, s_Mo_one_56, s_Mo_one_59, s_Mo_one_60, s_Mo_one_61, s_Mo_one_62, s_Mo_one_64, s_Mo_one_65, s_Mo_one_66, s_Mo_one_67, s_Mo_one_70, s_Mo_one_71, s_Mo_one_72, s_Mo_one_73, s_Mo_one_76, s_Mo_one_79, s_Mo_one_82, s_Mo_one_83, s_Mo_one_86, s_Mo_one_87, s_Mo_one_88, s_Mo_one_89, s_Mo_one_92, s_Mo_one_95, s_Mo_one_96, s_Mo_one_97, s_Mo_one_98, s_Mo_one_101, s_Mo_one_102, s_Mo_one_103, s_Mo_one_104, s_Mo_one_105, s_Mo_one_106, s_Mo_one_109, s_Mo_one_110, s_Mo_one_111, s_Mo_one_112, s_Mo_one_113, s_Mo_one_114, s_Mo_one_115, s_Mo_one_118, y_kd_sI, y_kd_sL, y_kd_sR, y_kd_cpI, y_kd_cpL, y_ln_sI, y_ln_sL, y_ln_sR, y_ln_cpI, y_ln_cpL, y_sz_sI, y_sz_sL, y_sz_sR, y_sz_cpI, y_sz_cpL, y_sl_sI, y_sl_sL, y_sl_sR, y_sl_cpI, y_sl_cpL, y_gI_sL, y_gI_sR, y_gI_cpI, y_gI_cpL, y_gI_nw, y_gL_sI, y_gL_sR, y_gL_cpI, y_gL_cpL, y_gL_nw, y_gR_sI, y_gR_sL, y_gR_cpI, y_gR_cpL, y_gR_nw, y_kd_nw, y_ln_nw, y_sz_nw, y_sl_nw, y_fx_int, y_fx_long, y_fx_ref, y_fx_null, y_fx_U, y_rf_s, y_rf_n, a_inb, a_ix, a_lt, a_eq, a_eq0, a_lt0, a_0lt, a_m1, a_m2, a_mlt, a_sub, a_dec, a_div, a_rem, a_shl, a_shr, a_bit, a_bit0, a_II, a_Ia, a_Ik, a_LL, a_La, a_Lk, a_RR, a_Ra, a_Rk, a_if0, a_if1, y_mul, y_and, y_or, nI_add, y_b1, y_b0, kon_v, kon_0, true_or, or_true, and_self, true_and, and_true, false_or, or_false, and_false, false_and, not_true_eq_false, not_false_eq_true, ite_self, ↓reduceIte, Nat.reduceEqDiff, Nat.reduceLeDiff, Nat.reduceAdd, Nat.reduceMul, Nat.reduceSub, Nat.reduceLT, Nat.reduceShiftLeft, Nat.reduceOr, Nat.reduceAnd, Bool.false_eq_true, b_if, b_z1, b_z0, b_zz, b_a1, b_a0, b_lc, b_zF, b_zT, b_lbit, km, r49, k49, l49, r21, k21, l21, w0, w1, w2, w3, w4, w5, w6, w7, d1, d2, va_rf, h5, s4, y4, s5, y5, s6, y6, s7, y7, s8, y8, s9, y9, a1]
  have y9 : (isWb T σ (zWd 9) = true) = False := eq_false z9
  by_cases z10 : isWb T σ (zWd 10) = true
  · have y10 : (isWb T σ (zWd 10) = true) = True := eq_true z10
    have ew : wsy T σ = 64 := by
      unfold wsy
      rw [if_neg z4, if_neg z5, if_neg z6, if_neg z7, if_neg z8, if_neg z9, if_pos z10]
    obtain ⟨h1, a1, a2⟩ := m_say (g := g) (v := 64) c t ok (isW_3 z10) h5 h6
    have ep : pOne T a b σ = (true, a ||| 64, b, tk T σ.2.2) := by
      unfold pOne
      rw [ew, if_pos (by decide)]
    rw [ep]
    refine ⟨h1, ?_, a2⟩
    show _ = some (some (Value.int (nI 1)), _)
    simp (disch := omega) only [s_Mo_one_0, s_Mo_one_1, s_Mo_one_2, s_Mo_one_3, s_Mo_one_5, s_Mo_one_8, s_Mo_one_9, s_Mo_one_10, s_Mo_one_13, s_Mo_one_14, s_Mo_one_15, s_Mo_one_18, s_Mo_one_21, s_Mo_one_22, s_Mo_one_25, s_Mo_one_26, s_Mo_one_27, s_Mo_one_28, s_Mo_one_29, s_Mo_one_30, s_Mo_one_31, s_Mo_one_32, s_Mo_one_33, s_Mo_one_34, s_Mo_one_37, s_Mo_one_38, s_Mo_one_39, s_Mo_one_42, s_Mo_one_45, s_Mo_one_46, s_Mo_one_49, s_Mo_one_52, s_Mo_one_55, s_Mo_one_56, s_Mo_one_59, s_Mo_one_60, s_Mo_one_61, s_Mo_one_62, s_Mo_one_64, s_Mo_one_65, s_Mo_one_66, s_Mo_one_67, s_Mo_one_70, s_Mo_one_71, s_Mo_one_72, s_Mo_one_73, s_Mo_one_76, s_Mo_one_79, s_Mo_one_82, s_Mo_one_83, s_Mo_one_86, s_Mo_one_87, s_Mo_one_88, s_Mo_one_89, s_Mo_one_92, s_Mo_one_95, s_Mo_one_96, s_Mo_one_97, s_Mo_one_98, s_Mo_one_101, s_Mo_one_102, s_Mo_one_103, s_Mo_one_104, s_Mo_one_105, s_Mo_one_106, s_Mo_one_109, s_Mo_one_110, s_Mo_one_111, s_Mo_one_112, s_Mo_one_113, s_Mo_one_114, s_Mo_one_115, s_Mo_one_118, y_kd_sI, y_kd_sL, y_kd_sR, y_kd_cpI, y_kd_cpL, y_ln_sI, y_ln_sL, y_ln_sR, y_ln_cpI, y_ln_cpL, y_sz_sI, y_sz_sL, y_sz_sR, y_sz_cpI, y_sz_cpL, y_sl_sI, y_sl_sL, y_sl_sR, y_sl_cpI, y_sl_cpL, y_gI_sL, y_gI_sR, y_gI_cpI, y_gI_cpL, y_gI_nw, y_gL_sI, y_gL_sR, y_gL_cpI, y_gL_cpL, y_gL_nw, y_gR_sI, y_gR_sL, y_gR_cpI, y_gR_cpL, y_gR_nw, y_kd_nw, y_ln_nw, y_sz_nw, y_sl_nw, y_fx_int, y_fx_long, y_fx_ref, y_fx_null, y_fx_U, y_rf_s, y_rf_n, a_inb, a_ix, a_lt, a_eq, a_eq0, a_lt0, a_0lt, a_m1, a_m2, a_mlt, a_sub, a_dec, a_div, a_rem, a_shl, a_shr, a_bit, a_bit0, a_II, a_Ia, a_Ik, a_LL, a_La, a_Lk, a_RR, a_Ra, a_Rk, a_if0, a_if1, y_mul, y_and, y_or, nI_add, y_b1, y_b0, kon_v, kon_0, true_or, or_true, and_self, true_and, and_true, false_or, or_false, and_false, false_and, not_true_eq_false, not_false_eq_true, ite_self, ↓reduceIte, Nat.reduceEqDiff, Nat.reduceLeDiff, Nat.reduceAdd, Nat.reduceMul, Nat.reduceSub, Nat.reduceLT, Nat.reduceShiftLeft, Nat.reduceOr, Nat.reduceAnd, Bool.false_eq_true, b_if, b_z1, b_z0, b_zz, b_a1, b_a0, b_lc, b_zF, b_zT, b_lbit, km, r49, k49, l49, r21, k21, l21, w0, w1, w2, w3, w4, w5, w6, w7, d1, d2, va_rf, h5, s4, y4, s5, y5, s6, y6, s7, y7, s8, y8, s9, y9, s10, y10, a1]
  have y10 : (isWb T σ (zWd 10) = true) = False := eq_false z10
  by_cases z11 : isWb T σ (zWd 11) = true
  · have y11 : (isWb T σ (zWd 11) = true) = True := eq_true z11
    have ew : wsy T σ = 128 := by
      unfold wsy
      rw [if_neg z4, if_neg z5, if_neg z6, if_neg z7, if_neg z8, if_neg z9, if_neg z10, if_pos z11]
    obtain ⟨h1, a1, a2⟩ := m_say (g := g) (v := 128) c t ok (isW_3 z11) h5 h6
    have ep : pOne T a b σ = (true, a ||| 128, b, tk T σ.2.2) := by
      unfold pOne
      rw [ew, if_pos (by decide)]
    rw [ep]
    refine ⟨h1, ?_, a2⟩
    show _ = some (some (Value.int (nI 1)), _)
    simp (disch := omega) only [s_Mo_one_0, s_Mo_one_1, s_Mo_one_2, s_Mo_one_3, s_Mo_one_5, s_Mo_one_8, s_Mo_one_9, s_Mo_one_10, s_Mo_one_13, s_Mo_one_14, s_Mo_one_15, s_Mo_one_18, s_Mo_one_21, s_Mo_one_22, s_Mo_one_25, s_Mo_one_26, s_Mo_one_27, s_Mo_one_28, s_Mo_one_29, s_Mo_one_30, s_Mo_one_31, s_Mo_one_32, s_Mo_one_33, s_Mo_one_34, s_Mo_one_37, s_Mo_one_38, s_Mo_one_39, s_Mo_one_42, s_Mo_one_45, s_Mo_one_46, s_Mo_one_49, s_Mo_one_52, s_Mo_one_55, s_Mo_one_56, s_Mo_one_59, s_Mo_one_60, s_Mo_one_61, s_Mo_one_62, s_Mo_one_64, s_Mo_one_65, s_Mo_one_66, s_Mo_one_67, s_Mo_one_70, s_Mo_one_71, s_Mo_one_72, s_Mo_one_73, s_Mo_one_76, s_Mo_one_79, s_Mo_one_82, s_Mo_one_83, s_Mo_one_86, s_Mo_one_87, s_Mo_one_88, s_Mo_one_89, s_Mo_one_92, s_Mo_one_95, s_Mo_one_96, s_Mo_one_97, s_Mo_one_98, s_Mo_one_101, s_Mo_one_102, s_Mo_one_103, s_Mo_one_104, s_Mo_one_105, s_Mo_one_106, s_Mo_one_109, s_Mo_one_110, s_Mo_one_111, s_Mo_one_112, s_Mo_one_113, s_Mo_one_114, s_Mo_one_115, s_Mo_one_118, y_kd_sI, y_kd_sL, y_kd_sR, y_kd_cpI, y_kd_cpL, y_ln_sI, y_ln_sL, y_ln_sR, y_ln_cpI, y_ln_cpL, y_sz_sI, y_sz_sL, y_sz_sR, y_sz_cpI, y_sz_cpL, y_sl_sI, y_sl_sL, y_sl_sR, y_sl_cpI, y_sl_cpL, y_gI_sL, y_gI_sR, y_gI_cpI, y_gI_cpL, y_gI_nw, y_gL_sI, y_gL_sR, y_gL_cpI, y_gL_cpL, y_gL_nw, y_gR_sI, y_gR_sL, y_gR_cpI, y_gR_cpL, y_gR_nw, y_kd_nw, y_ln_nw, y_sz_nw, y_sl_nw, y_fx_int, y_fx_long, y_fx_ref, y_fx_null, y_fx_U, y_rf_s, y_rf_n, a_inb, a_ix, a_lt, a_eq, a_eq0, a_lt0, a_0lt, a_m1, a_m2, a_mlt, a_sub, a_dec, a_div, a_rem, a_shl, a_shr, a_bit, a_bit0, a_II, a_Ia, a_Ik, a_LL, a_La, a_Lk, a_RR, a_Ra, a_Rk, a_if0, a_if1, y_mul, y_and, y_or, nI_add, y_b1, y_b0, kon_v, kon_0, true_or, or_true, and_self, true_and, and_true, false_or, or_false, and_false, false_and, not_true_eq_false, not_false_eq_true, ite_self, ↓reduceIte, Nat.reduceEqDiff, Nat.reduceLeDiff, Nat.reduceAdd, Nat.reduceMul, Nat.reduceSub, Nat.reduceLT, Nat.reduceShiftLeft, Nat.reduceOr, Nat.reduceAnd, Bool.false_eq_true, b_if, b_z1, b_z0, b_zz, b_a1, b_a0, b_lc, b_zF, b_zT, b_lbit, km, r49, k49, l49, r21, k21, l21, w0, w1, w2, w3, w4, w5, w6, w7, d1, d2, va_rf, h5, s4, y4, s5, y5, s6, y6, s7, y7, s8, y8, s9, y9, s10, y10, s11, y11, a1]
  have y11 : (isWb T σ (zWd 11) = true) = False := eq_false z11
  by_cases z12 : isWb T σ (zWd 12) = true
  · have y12 : (isWb T σ (zWd 12) = true) = True := eq_true z12
    have ew : wsy T σ = 24 := by
      unfold wsy
      rw [if_neg z4, if_neg z5, if_neg z6, if_neg z7, if_neg z8, if_neg z9, if_neg z10, if_neg z11, if_pos z12]
    obtain ⟨h1, a1, a2⟩ := m_say (g := g) (v := 24) c t ok (isW_3 z12) h5 h6
    have ep : pOne T a b σ = (true, a ||| 24, b, tk T σ.2.2) := by
      unfold pOne
      rw [ew, if_pos (by decide)]
    rw [ep]
    refine ⟨h1, ?_, a2⟩
    show _ = some (some (Value.int (nI 1)), _)
    simp (disch := omega) only [s_Mo_one_0, s_Mo_one_1, s_Mo_one_2, s_Mo_one_3, s_Mo_one_5, s_Mo_one_8, s_Mo_one_9, s_Mo_one_10, s_Mo_one_13, s_Mo_one_14, s_Mo_one_15, s_Mo_one_18, s_Mo_one_21, s_Mo_one_22, s_Mo_one_25, s_Mo_one_26, s_Mo_one_27, s_Mo_one_28, s_Mo_one_29, s_Mo_one_30, s_Mo_one_31, s_Mo_one_32, s_Mo_one_33, s_Mo_one_34, s_Mo_one_37, s_Mo_one_38, s_Mo_one_39, s_Mo_one_42, s_Mo_one_45, s_Mo_one_46, s_Mo_one_49, s_Mo_one_52, s_Mo_one_55, s_Mo_one_56, s_Mo_one_59, s_Mo_one_60, s_Mo_one_61, s_Mo_one_62, s_Mo_one_64, s_Mo_one_65, s_Mo_one_66, s_Mo_one_67, s_Mo_one_70, s_Mo_one_71, s_Mo_one_72, s_Mo_one_73, s_Mo_one_76, s_Mo_one_79, s_Mo_one_82, s_Mo_one_83, s_Mo_one_86, s_Mo_one_87, s_Mo_one_88, s_Mo_one_89, s_Mo_one_92, s_Mo_one_95, s_Mo_one_96, s_Mo_one_97, s_Mo_one_98, s_Mo_one_101, s_Mo_one_102, s_Mo_one_103, s_Mo_one_104, s_Mo_one_105, s_Mo_one_106, s_Mo_one_109, s_Mo_one_110, s_Mo_one_111, s_Mo_one_112, s_Mo_one_113, s_Mo_one_114, s_Mo_one_115, s_Mo_one_118, y_kd_sI, y_kd_sL, y_kd_sR, y_kd_cpI, y_kd_cpL, y_ln_sI, y_ln_sL, y_ln_sR, y_ln_cpI, y_ln_cpL, y_sz_sI, y_sz_sL, y_sz_sR, y_sz_cpI, y_sz_cpL, y_sl_sI, y_sl_sL, y_sl_sR, y_sl_cpI, y_sl_cpL, y_gI_sL, y_gI_sR, y_gI_cpI, y_gI_cpL, y_gI_nw, y_gL_sI, y_gL_sR, y_gL_cpI, y_gL_cpL, y_gL_nw, y_gR_sI, y_gR_sL, y_gR_cpI, y_gR_cpL, y_gR_nw, y_kd_nw, y_ln_nw, y_sz_nw, y_sl_nw, y_fx_int, y_fx_long, y_fx_ref, y_fx_null, y_fx_U, y_rf_s, y_rf_n, a_inb, a_ix, a_lt, a_eq, a_eq0, a_lt0, a_0lt, a_m1, a_m2, a_mlt, a_sub, a_dec, a_div, a_rem, a_shl, a_shr, a_bit, a_bit0, a_II, a_Ia, a_Ik, a_LL, a_La, a_Lk, a_RR, a_Ra, a_Rk, a_if0, a_if1, y_mul, y_and, y_or, nI_add, y_b1, y_b0, kon_v, kon_0, true_or, or_true, and_self, true_and, and_true, false_or, or_false, and_false, false_and, not_true_eq_false, not_false_eq_true, ite_self, ↓reduceIte, Nat.reduceEqDiff, Nat.reduceLeDiff, Nat.reduceAdd, Nat.reduceMul, Nat.reduceSub, Nat.reduceLT, Nat.reduceShiftLeft, Nat.reduceOr, Nat.reduceAnd, Bool.false_eq_true, b_if, b_z1, b_z0, b_zz, b_a1, b_a0, b_lc, b_zF, b_zT, b_lbit, km, r49, k49, l49, r21, k21, l21, w0, w1, w2, w3, w4, w5, w6, w7, d1, d2, va_rf, h5, s4, y4, s5, y5, s6, y6, s7, y7, s8, y8, s9, y9, s10, y10, s11, y11, s12, y12, a1]
  have y12 : (isWb T σ (zWd 12) = true) = False := eq_false z12
  have ew : wsy T σ = 0 := by
    unfold wsy
    rw [if_neg z4, if_neg z5, if_neg z6, if_neg z7, if_neg z8, if_neg z9, if_neg z10, if_neg z11, if_neg z12]
  unfold pOne
  rw [if_neg (fun w => w ew)]
  by_cases z13 : isWb T σ (zWd 13) = true
  · rw [if_pos z13]
    have y13 := eq_true z13
    obtain ⟨h1, a1, a2, a3⟩ := c.av t ok (isW_3 z13)
    have c1 := c.fr (n := n) (mdF.lk a2)
    have k2 := c1.km
    obtain ⟨tk1, tk2⟩ := m_number (g := g) (n := n) (lo := 0) (hi := 4) (M := nI 3) c1 a3 ok.nx (by decide) (by decide) (fun v hv => by rw [a_lt (by omega) (by omega)]; exact propext ⟨fun z => by omega, fun z => by omega⟩)
    by_cases z3 : nok T (tk T σ.2.2) 0 4 = true
    · rw [if_pos z3]
      obtain ⟨h2, b1, b2, b3, b4, b5⟩ := tk1 z3
      have v4 := (nok_i.1 z3).2.2
      generalize nvC T (tk T σ.2.2).2.1 (tk T σ.2.2).2.2 = v at *
      have c2 := c1.fr b2
      have k3 := c2.km
      have r22 := mo_r22 c2.2.1
      have k22 := mo_k22 c2.2.1
      have l22 := mo_l22 c2.2.1
      have f6 : gI h2 (m + 28) n = nI b := (b3 _ (by omega)).trans ((a2.d (by omega)).trans h6)
      have f5 : gI h2 (m + 27) n = nI a := (b3 _ (by omega)).trans ((a2.d (by omega)).trans h5)
      refine ⟨sI h2 (m + 28) n (nI (b ||| 1 <<< v)), ?_, ((mdF.lk a2).tr b2).D (k := 28) (by omega), fun b h1 h2 h3 h4 => ?_, ?_, a_II, ok.nx.nx, fun _ => b5.D (by omega), fun w => absurd rfl w⟩
      · show _ = some (some (Value.int (nI 1)), _)
        simp (disch := omega) only [s_Mo_one_0, s_Mo_one_1, s_Mo_one_2, s_Mo_one_3, s_Mo_one_5, s_Mo_one_8, s_Mo_one_9, s_Mo_one_10, s_Mo_one_13, s_Mo_one_14, s_Mo_one_15, s_Mo_one_18, s_Mo_one_21, s_Mo_one_22, s_Mo_one_25, s_Mo_one_26, s_Mo_one_27, s_Mo_one_28, s_Mo_one_29, s_Mo_one_30, s_Mo_one_31, s_Mo_one_32, s_Mo_one_33, s_Mo_one_34, s_Mo_one_37, s_Mo_one_38, s_Mo_one_39, s_Mo_one_42, s_Mo_one_45, s_Mo_one_46, s_Mo_one_49, s_Mo_one_52, s_Mo_one_55, s_Mo_one_56, s_Mo_one_59, s_Mo_one_60, s_Mo_one_61, s_Mo_one_62, s_Mo_one_64, s_Mo_one_65, s_Mo_one_66, s_Mo_one_67, s_Mo_one_70, s_Mo_one_71, s_Mo_one_72, s_Mo_one_73, s_Mo_one_76, s_Mo_one_79, s_Mo_one_82, s_Mo_one_83, s_Mo_one_86, s_Mo_one_87, s_Mo_one_88, s_Mo_one_89, s_Mo_one_92, s_Mo_one_95, s_Mo_one_96, s_Mo_one_97, s_Mo_one_98, s_Mo_one_101, s_Mo_one_102, s_Mo_one_103, s_Mo_one_104, s_Mo_one_105, s_Mo_one_106, s_Mo_one_109, s_Mo_one_110, s_Mo_one_111, s_Mo_one_112, s_Mo_one_113, s_Mo_one_114, s_Mo_one_115, s_Mo_one_118, y_kd_sI, y_kd_sL, y_kd_sR, y_kd_cpI, y_kd_cpL, y_ln_sI, y_ln_sL, y_ln_sR, y_ln_cpI, y_ln_cpL, y_sz_sI, y_sz_sL, y_sz_sR, y_sz_cpI, y_sz_cpL, y_sl_sI, y_sl_sL, y_sl_sR, y_sl_cpI, y_sl_cpL, y_gI_sL, y_gI_sR, y_gI_cpI, y_gI_cpL, y_gI_nw, y_gL_sI, y_gL_sR, y_gL_cpI, y_gL_cpL, y_gL_nw, y_gR_sI, y_gR_sL, y_gR_cpI, y_gR_cpL, y_gR_nw, y_kd_nw, y_ln_nw, y_sz_nw, y_sl_nw, y_fx_int, y_fx_long, y_fx_ref, y_fx_null, y_fx_U, y_rf_s, y_rf_n, a_inb, a_ix, a_lt, a_eq, a_eq0, a_lt0, a_0lt, a_m1, a_m2, a_mlt, a_sub, a_dec, a_div, a_rem, a_shl, a_shr, a_bit, a_bit0, a_II, a_Ia, a_Ik, a_LL, a_La, a_Lk, a_RR, a_Ra, a_Rk, a_if0, a_if1, y_mul, y_and, y_or, nI_add, y_b1, y_b0, kon_v, kon_0, true_or, or_true, and_self, true_and, and_true, false_or, or_false, and_false, false_and, not_true_eq_false, not_false_eq_true, ite_self, ↓reduceIte, Nat.reduceEqDiff, Nat.reduceLeDiff, Nat.reduceAdd, Nat.reduceMul, Nat.reduceSub, Nat.reduceLT, Nat.reduceShiftLeft, Nat.reduceOr, Nat.reduceAnd, Bool.false_eq_true, b_if, b_z1, b_z0, b_zz, b_a1, b_a0, b_lc, b_zF, b_zT, b_lbit, km, r49, k49, l49, r21, k21, l21, w0, w1, w2, w3, w4, w5, w6, w7, d1, d2, va_rf, h5, s4, y4, s5, y5, s6, y6, s7, y7, s8, y8, s9, y9, s10, y10, s11, y11, s12, y12, s13, y13, a1, k2, b1, k3, b4, r22, k22, l22, f6]
      · rw [a_Ia h4]; exact (b3 b h1).trans (a2.d h1)
      · rw [a_Ia (by omega)]; exact f5
    · rw [if_neg z3]
      have b1 := tk2 z3
      refine ⟨_, ?_, (mdF.lk a2).In (k := 47) (by omega), fun b h1 h2 h3 h4 => ?_, ?_, ?_, ok.nx, fun w => absurd (show false = true from w) (by decide), fun _ => a_II⟩
      · show _ = some (some (Value.int (nI 0)), _)
        simp (disch := omega) only [s_Mo_one_0, s_Mo_one_1, s_Mo_one_2, s_Mo_one_3, s_Mo_one_5, s_Mo_one_8, s_Mo_one_9, s_Mo_one_10, s_Mo_one_13, s_Mo_one_14, s_Mo_one_15, s_Mo_one_18, s_Mo_one_21, s_Mo_one_22, s_Mo_one_25, s_Mo_one_26, s_Mo_one_27, s_Mo_one_28, s_Mo_one_29, s_Mo_one_30, s_Mo_one_31, s_Mo_one_32, s_Mo_one_33, s_Mo_one_34, s_Mo_one_37, s_Mo_one_38, s_Mo_one_39, s_Mo_one_42, s_Mo_one_45, s_Mo_one_46, s_Mo_one_49, s_Mo_one_52, s_Mo_one_55, s_Mo_one_56, s_Mo_one_59, s_Mo_one_60, s_Mo_one_61, s_Mo_one_62, s_Mo_one_64, s_Mo_one_65, s_Mo_one_66, s_Mo_one_67, s_Mo_one_70, s_Mo_one_71, s_Mo_one_72, s_Mo_one_73, s_Mo_one_76, s_Mo_one_79, s_Mo_one_82, s_Mo_one_83, s_Mo_one_86, s_Mo_one_87, s_Mo_one_88, s_Mo_one_89, s_Mo_one_92, s_Mo_one_95, s_Mo_one_96, s_Mo_one_97, s_Mo_one_98, s_Mo_one_101, s_Mo_one_102, s_Mo_one_103, s_Mo_one_104, s_Mo_one_105, s_Mo_one_106, s_Mo_one_109, s_Mo_one_110, s_Mo_one_111, s_Mo_one_112, s_Mo_one_113, s_Mo_one_114, s_Mo_one_115, s_Mo_one_118, y_kd_sI, y_kd_sL, y_kd_sR, y_kd_cpI, y_kd_cpL, y_ln_sI, y_ln_sL, y_ln_sR, y_ln_cpI, y_ln_cpL, y_sz_sI, y_sz_sL, y_sz_sR, y_sz_cpI, y_sz_cpL, y_sl_sI, y_sl_sL, y_sl_sR, y_sl_cpI, y_sl_cpL, y_gI_sL, y_gI_sR, y_gI_cpI, y_gI_cpL, y_gI_nw, y_gL_sI, y_gL_sR, y_gL_cpI, y_gL_cpL, y_gL_nw, y_gR_sI, y_gR_sL, y_gR_cpI, y_gR_cpL, y_gR_nw, y_kd_nw, y_ln_nw, y_sz_nw, y_sl_nw, y_fx_int, y_fx_long, y_fx_ref, y_fx_null, y_fx_U, y_rf_s, y_rf_n, a_inb, a_ix, a_lt, a_eq, a_eq0, a_lt0, a_0lt, a_m1, a_m2, a_mlt, a_sub, a_dec, a_div, a_rem, a_shl, a_shr, a_bit, a_bit0, a_II, a_Ia, a_Ik, a_LL, a_La, a_Lk, a_RR, a_Ra, a_Rk, a_if0, a_if1, y_mul, y_and, y_or, nI_add, y_b1, y_b0, kon_v, kon_0, true_or, or_true, and_self, true_and, and_true, false_or, or_false, and_false, false_and, not_true_eq_false, not_false_eq_true, ite_self, ↓reduceIte, Nat.reduceEqDiff, Nat.reduceLeDiff, Nat.reduceAdd, Nat.reduceMul, Nat.reduceSub, Nat.reduceLT, Nat.reduceShiftLeft, Nat.reduceOr, Nat.reduceAnd, Bool.false_eq_true, b_if, b_z1, b_z0, b_zz, b_a1, b_a0, b_lc, b_zF, b_zT, b_lbit, km, r49, k49, l49, r21, k21, l21, w0, w1, w2, w3, w4, w5, w6, w7, d1, d2, va_rf, h5, s4, y4, s5, y5, s6, y6, s7, y7, s8, y8, s9, y9, s10, y10, s11, y11, s12, y12, s13, y13, a1, k2, b1]
      · rw [a_Ia (by omega)]; exact a2.d h1
      · rw [a_Ia (by omega)]; exact (a2.d (by omega)).trans h5
      · rw [a_Ia (by omega)]; exact (a2.d (by omega)).trans h6
  · rw [if_neg z13]
    have y13 := eq_false z13
    have qw := q_wrong (g := g) km
    rw [t.2.1] at qw
    refine ⟨_, ?_, mdF.rf.In (k := 47) (by omega), fun b h1 h2 h3 h4 => a_Ia (by omega), (a_Ia (by omega)).trans h5, (a_Ia (by omega)).trans h6, ok, fun w => absurd (show false = true from w) (by decide), fun _ => a_II⟩
    show _ = some (some (Value.int (nI 0)), _)
    simp (disch := omega) only [s_Mo_one_0, s_Mo_one_1, s_Mo_one_2, s_Mo_one_3, s_Mo_one_5, s_Mo_one_8, s_Mo_one_9, s_Mo_one_10, s_Mo_one_13, s_Mo_one_14, s_Mo_one_15, s_Mo_one_18, s_Mo_one_21, s_Mo_one_22, s_Mo_one_25, s_Mo_one_26, s_Mo_one_27, s_Mo_one_28, s_Mo_one_29, s_Mo_one_30, s_Mo_one_31, s_Mo_one_32, s_Mo_one_33, s_Mo_one_34, s_Mo_one_37, s_Mo_one_38, s_Mo_one_39, s_Mo_one_42, s_Mo_one_45, s_Mo_one_46, s_Mo_one_49, s_Mo_one_52, s_Mo_one_55, s_Mo_one_56, s_Mo_one_59, s_Mo_one_60, s_Mo_one_61, s_Mo_one_62, s_Mo_one_64, s_Mo_one_65, s_Mo_one_66, s_Mo_one_67, s_Mo_one_70, s_Mo_one_71, s_Mo_one_72, s_Mo_one_73, s_Mo_one_76, s_Mo_one_79, s_Mo_one_82, s_Mo_one_83, s_Mo_one_86, s_Mo_one_87, s_Mo_one_88, s_Mo_one_89, s_Mo_one_92, s_Mo_one_95, s_Mo_one_96, s_Mo_one_97, s_Mo_one_98, s_Mo_one_101, s_Mo_one_102, s_Mo_one_103, s_Mo_one_104, s_Mo_one_105, s_Mo_one_106, s_Mo_one_109, s_Mo_one_110, s_Mo_one_111, s_Mo_one_112, s_Mo_one_113, s_Mo_one_114, s_Mo_one_115, s_Mo_one_118, y_kd_sI, y_kd_sL, y_kd_sR, y_kd_cpI, y_kd_cpL, y_ln_sI, y_ln_sL, y_ln_sR, y_ln_cpI, y_ln_cpL, y_sz_sI, y_sz_sL, y_sz_sR, y_sz_cpI, y_sz_cpL, y_sl_sI, y_sl_sL, y_sl_sR, y_sl_cpI, y_sl_cpL, y_gI_sL, y_gI_sR, y_gI_cpI, y_gI_cpL, y_gI_nw, y_gL_sI, y_gL_sR, y_gL_cpI, y_gL_cpL, y_gL_nw, y_gR_sI, y_gR_sL, y_gR_cpI, y_gR_cpL, y_gR_nw, y_kd_nw, y_ln_nw, y_sz_nw, y_sl_nw, y_fx_int, y_fx_long, y_fx_ref, y_fx_null, y_fx_U, y_rf_s, y_rf_n, a_inb, a_ix, a_lt, a_eq, a_eq0, a_lt0, a_0lt, a_m1, a_m2, a_mlt, a_sub, a_dec, a_div, a_rem, a_shl, a_shr, a_bit, a_bit0, a_II, a_Ia, a_Ik, a_LL, a_La, a_Lk, a_RR, a_Ra, a_Rk, a_if0, a_if1, y_mul, y_and, y_or, nI_add, y_b1, y_b0, kon_v, kon_0, true_or, or_true, and_self, true_and, and_true, false_or, or_false, and_false, false_and, not_true_eq_false, not_false_eq_true, ite_self, ↓reduceIte, Nat.reduceEqDiff, Nat.reduceLeDiff, Nat.reduceAdd, Nat.reduceMul, Nat.reduceSub, Nat.reduceLT, Nat.reduceShiftLeft, Nat.reduceOr, Nat.reduceAnd, Bool.false_eq_true, b_if, b_z1, b_z0, b_zz, b_a1, b_a0, b_lc, b_zF, b_zT, b_lbit, km, r49, k49, l49, r21, k21, l21, w0, w1, w2, w3, w4, w5, w6, w7, d1, d2, va_rf, h5, s4, y4, s5, y5, s6, y6, s7, y7, s8, y8, s9, y9, s10, y10, s11, y11, s12, y12, s13, y13, qw]
theorem moP.tr {h0 : zMem} {x : Bool × Nat × Nat × zK} (f : mdF m n h0 h) (e : ∀ b : Nat, m + 22 ≤ b → b ≤ m + 30 → ¬ b = m + 27 → ¬ b = m + 28 → gI h b n = gI h0 b n) (q : moP m n T h h' x) : moP m n T h0 h' x := ⟨f.tr q.1, fun b h1 h2 h3 h4 => (q.2.1 b h1 h2 h3 h4).trans (e b h1 h2 h3 h4), q.2.2⟩
theorem tk_st (hp : p ≤ T.1) : p ≤ (tk T p).2.1 := by
  have := skp_b hp
  unfold tk
  rw [(tkA_b this.2).1]
  exact this.1
theorem pOne_mono (ok : okt T σ) : σ.2.1 ≤ (pOne T a b σ).2.2.2.2.1 := by
  have hb := ok.bd
  have s1 := tk_st (T := T) hb.2.2.1
  have hb2 := ok.nx.bd
  have s2 := tk_st (T := T) hb2.2.2.1
  unfold pOne
  split
  · exact Nat.le_trans hb.2.1 s1
  · split
    · split
      · exact Nat.le_trans hb.2.1 (Nat.le_trans s1 (Nat.le_trans hb2.2.1 s2))
      · exact Nat.le_trans hb.2.1 s1
    · exact Nat.le_refl _
theorem pOrs_f {x : Bool × Nat × Nat × zK} (z : ¬ x.1 = true) : ∀ k : Nat, pOrs T k x = x
  | 0 => rfl
  | k + 1 => if_neg (fun w => z w.1)
theorem m_ors (hn : n < 24) : ∀ (k : Nat) (x : Bool × Nat × Nat × zK) (h : zMem), T.1 ≤ x.2.2.2.2.1 + k → x.1 = true → mC g h m B T → mkn h m T x.2.2.2 → okt T x.2.2.2 → gI h (m + 27) n = nI x.2.1 → gI h (m + 28) n = nI x.2.2.1 → ∃ h' : zMem, ev g Mo_ways 31 [.ref m, .int (nI n)] [] h = some (some (.int (bZ ((pOrs T k x).1 = true))), h') ∧ moP m n T h h' (pOrs T k x)
  | 0, x, h, hk, hx, c, t, ok, h5, h6 => by
    have km := c.km
    have s14 : call g Mo_isWord [.ref m, .ref (g 114)] h = some (some (.int (bZ (isWb T x.2.2.2 (zWd 14) = true))), h) := c.sp 14 (by decide) t ok
    have z2 : ¬ isWb T x.2.2.2 (zWd 14) = true := fun w => by
      have w1 := (isWb_i.1 w).1
      have hb := ok.bd
      have := (hb.2.2.2.2 w1).1
      omega
    have y2 := eq_false z2
    refine ⟨h, ?_, mdF.rf, fun _ _ _ _ _ => rfl, h5, h6, ok, fun _ => t, fun w => absurd hx w⟩
    show _ = some (some (Value.int (bZ (x.1 = true))), _)
    rw [bZ_t hx, s_Mo_ways_31]
    simp (disch := omega) only [s_Mo_ways_0, s_Mo_ways_1, s_Mo_ways_4, s_Mo_ways_7, s_Mo_ways_10, s_Mo_ways_11, s_Mo_ways_14, s_Mo_ways_15, s_Mo_ways_16, s_Mo_ways_17, s_Mo_ways_18, s_Mo_ways_21, s_Mo_ways_22, s_Mo_ways_23, s_Mo_ways_26, s_Mo_ways_29, s_Mo_ways_30, s_Mo_ways_32, s_Mo_ways_35, s_Mo_ways_38, s_Mo_ways_41, s_Mo_ways_42, s_Mo_ways_45, s_Mo_ways_46, s_Mo_ways_47, s_Mo_ways_50, s_Mo_ways_53, s_Mo_ways_54, s_Mo_ways_55, s_Mo_ways_56, y_kd_sI, y_kd_sL, y_kd_sR, y_kd_cpI, y_kd_cpL, y_ln_sI, y_ln_sL, y_ln_sR, y_ln_cpI, y_ln_cpL, y_sz_sI, y_sz_sL, y_sz_sR, y_sz_cpI, y_sz_cpL, y_sl_sI, y_sl_sL, y_sl_sR, y_sl_cpI, y_sl_cpL, y_gI_sL, y_gI_sR, y_gI_cpI, y_gI_cpL, y_gI_nw, y_gL_sI, y_gL_sR, y_gL_cpI, y_gL_cpL, y_gL_nw, y_gR_sI, y_gR_sL, y_gR_cpI, y_gR_cpL, y_gR_nw, y_kd_nw, y_ln_nw, y_sz_nw, y_sl_nw, y_fx_int, y_fx_long, y_fx_ref, y_fx_null, y_fx_U, y_rf_s, y_rf_n, a_inb, a_ix, a_lt, a_eq, a_eq0, a_lt0, a_0lt, a_m1, a_m2, a_mlt, a_sub, a_dec, a_div, a_rem, a_shl, a_shr, a_bit, a_bit0, a_II, a_Ia, a_Ik, a_LL, a_La, a_Lk, a_RR, a_Ra, a_Rk, a_if0, a_if1, y_mul, y_and, y_or, nI_add, y_b1, y_b0, kon_v, kon_0, true_or, or_true, and_self, true_and, and_true, false_or, or_false, and_false, false_and, not_true_eq_false, not_false_eq_true, ite_self, ↓reduceIte, Nat.reduceEqDiff, Nat.reduceLeDiff, Nat.reduceAdd, Nat.reduceMul, Nat.reduceSub, Nat.reduceLT, Nat.reduceShiftLeft, Nat.reduceOr, Nat.reduceAnd, Bool.false_eq_true, b_if, b_z1, b_z0, b_zz, b_a1, b_a0, b_lc, b_zF, b_zT, b_lbit, km, s14, y2]
  | k + 1, x, h, hk, hx, c, t, ok, h5, h6 => by
    have km := c.km
    have s14 : call g Mo_isWord [.ref m, .ref (g 114)] h = some (some (.int (bZ (isWb T x.2.2.2 (zWd 14) = true))), h) := c.sp 14 (by decide) t ok
    have ex : pOrs T (k + 1) x = if x.1 = true ∧ isWb T x.2.2.2 (zWd 14) = true then pOrs T k (pOne T x.2.1 x.2.2.1 (tk T x.2.2.2.2.2)) else x := rfl
    rw [ex, s_Mo_ways_31]
    by_cases z2 : isWb T x.2.2.2 (zWd 14) = true
    · rw [if_pos ⟨hx, z2⟩]
      have y2 := eq_true z2
      obtain ⟨h1, a1, a2, a3⟩ := c.av t ok (isW_3 z2)
      have c1 := c.fr (n := n) (mdF.lk a2)
      have k2 := c1.km
      obtain ⟨h2, b1, b2⟩ := m_one (g := g) c1 a3 ok.nx hn ((a2.d (by omega)).trans h5) ((a2.d (by omega)).trans h6)
      have hb := ok.bd
      have st := (hb.2.2.2.2 (isWb_i.1 z2).1).1
      have s1 := tk_st (T := T) hb.2.2.1
      have s2 := pOne_mono (a := x.2.1) (b := x.2.2.1) ok.nx
      by_cases z4 : (pOne T x.2.1 x.2.2.1 (tk T x.2.2.2.2.2)).1 = true
      · rw [bZ_t z4] at b1
        obtain ⟨h3, d1, d2⟩ := m_ors hn k _ h2 (by omega) z4 (c1.fr b2.1) (b2.2.2.2.2.2.1 z4) b2.2.2.2.2.1 b2.2.2.1 b2.2.2.2.1
        refine ⟨h3, ?_, (d2.tr b2.1 b2.2.1).tr (mdF.lk a2) (fun b h1 _ _ _ => a2.d h1)⟩
        rw [← d1]
        simp (disch := omega) only [s_Mo_ways_0, s_Mo_ways_1, s_Mo_ways_4, s_Mo_ways_7, s_Mo_ways_10, s_Mo_ways_11, s_Mo_ways_14, s_Mo_ways_15, s_Mo_ways_16, s_Mo_ways_17, s_Mo_ways_18, s_Mo_ways_21, s_Mo_ways_22, s_Mo_ways_23, s_Mo_ways_26, s_Mo_ways_29, s_Mo_ways_30, s_Mo_ways_32, s_Mo_ways_35, s_Mo_ways_38, s_Mo_ways_41, s_Mo_ways_42, s_Mo_ways_45, s_Mo_ways_46, s_Mo_ways_47, s_Mo_ways_50, s_Mo_ways_53, s_Mo_ways_54, s_Mo_ways_55, s_Mo_ways_56, y_kd_sI, y_kd_sL, y_kd_sR, y_kd_cpI, y_kd_cpL, y_ln_sI, y_ln_sL, y_ln_sR, y_ln_cpI, y_ln_cpL, y_sz_sI, y_sz_sL, y_sz_sR, y_sz_cpI, y_sz_cpL, y_sl_sI, y_sl_sL, y_sl_sR, y_sl_cpI, y_sl_cpL, y_gI_sL, y_gI_sR, y_gI_cpI, y_gI_cpL, y_gI_nw, y_gL_sI, y_gL_sR, y_gL_cpI, y_gL_cpL, y_gL_nw, y_gR_sI, y_gR_sL, y_gR_cpI, y_gR_cpL, y_gR_nw, y_kd_nw, y_ln_nw, y_sz_nw, y_sl_nw, y_fx_int, y_fx_long, y_fx_ref, y_fx_null, y_fx_U, y_rf_s, y_rf_n, a_inb, a_ix, a_lt, a_eq, a_eq0, a_lt0, a_0lt, a_m1, a_m2, a_mlt, a_sub, a_dec, a_div, a_rem, a_shl, a_shr, a_bit, a_bit0, a_II, a_Ia, a_Ik, a_LL, a_La, a_Lk, a_RR, a_Ra, a_Rk, a_if0, a_if1, y_mul, y_and, y_or, nI_add, y_b1, y_b0, kon_v, kon_0, true_or, or_true, and_self, true_and, and_true, false_or, or_false, and_false, false_and, not_true_eq_false, not_false_eq_true, ite_self, ↓reduceIte, Nat.reduceEqDiff, Nat.reduceLeDiff, Nat.reduceAdd, Nat.reduceMul, Nat.reduceSub, Nat.reduceLT, Nat.reduceShiftLeft, Nat.reduceOr, Nat.reduceAnd, Bool.false_eq_true, b_if, b_z1, b_z0, b_zz, b_a1, b_a0, b_lc, b_zF, b_zT, b_lbit, km, s14, y2, a1, k2, b1]
      · rw [bZ_f z4] at b1
        rw [pOrs_f z4, bZ_f z4]
        refine ⟨h2, ?_, b2.tr (mdF.lk a2) (fun b h1 _ _ _ => a2.d h1)⟩
        simp (disch := omega) only [s_Mo_ways_0, s_Mo_ways_1, s_Mo_ways_4, s_Mo_ways_7, s_Mo_ways_10, s_Mo_ways_11, s_Mo_ways_14, s_Mo_ways_15, s_Mo_ways_16, s_Mo_ways_17, s_Mo_ways_18, s_Mo_ways_21, s_Mo_ways_22, s_Mo_ways_23, s_Mo_ways_26, s_Mo_ways_29, s_Mo_ways_30, s_Mo_ways_32, s_Mo_ways_35, s_Mo_ways_38, s_Mo_ways_41, s_Mo_ways_42, s_Mo_ways_45, s_Mo_ways_46, s_Mo_ways_47, s_Mo_ways_50, s_Mo_ways_53, s_Mo_ways_54, s_Mo_ways_55, s_Mo_ways_56, y_kd_sI, y_kd_sL, y_kd_sR, y_kd_cpI, y_kd_cpL, y_ln_sI, y_ln_sL, y_ln_sR, y_ln_cpI, y_ln_cpL, y_sz_sI, y_sz_sL, y_sz_sR, y_sz_cpI, y_sz_cpL, y_sl_sI, y_sl_sL, y_sl_sR, y_sl_cpI, y_sl_cpL, y_gI_sL, y_gI_sR, y_gI_cpI, y_gI_cpL, y_gI_nw, y_gL_sI, y_gL_sR, y_gL_cpI, y_gL_cpL, y_gL_nw, y_gR_sI, y_gR_sL, y_gR_cpI, y_gR_cpL, y_gR_nw, y_kd_nw, y_ln_nw, y_sz_nw, y_sl_nw, y_fx_int, y_fx_long, y_fx_ref, y_fx_null, y_fx_U, y_rf_s, y_rf_n, a_inb, a_ix, a_lt, a_eq, a_eq0, a_lt0, a_0lt, a_m1, a_m2, a_mlt, a_sub, a_dec, a_div, a_rem, a_shl, a_shr, a_bit, a_bit0, a_II, a_Ia, a_Ik, a_LL, a_La, a_Lk, a_RR, a_Ra, a_Rk, a_if0, a_if1, y_mul, y_and, y_or, nI_add, y_b1, y_b0, kon_v, kon_0, true_or, or_true, and_self, true_and, and_true, false_or, or_false, and_false, false_and, not_true_eq_false, not_false_eq_true, ite_self, ↓reduceIte, Nat.reduceEqDiff, Nat.reduceLeDiff, Nat.reduceAdd, Nat.reduceMul, Nat.reduceSub, Nat.reduceLT, Nat.reduceShiftLeft, Nat.reduceOr, Nat.reduceAnd, Bool.false_eq_true, b_if, b_z1, b_z0, b_zz, b_a1, b_a0, b_lc, b_zF, b_zT, b_lbit, km, s14, y2, a1, k2, b1]
    · rw [if_neg (fun w => z2 w.2), bZ_t hx]
      have y2 := eq_false z2
      refine ⟨h, ?_, mdF.rf, fun _ _ _ _ _ => rfl, h5, h6, ok, fun _ => t, fun w => absurd hx w⟩
      simp (disch := omega) only [s_Mo_ways_0, s_Mo_ways_1, s_Mo_ways_4, s_Mo_ways_7, s_Mo_ways_10, s_Mo_ways_11, s_Mo_ways_14, s_Mo_ways_15, s_Mo_ways_16, s_Mo_ways_17, s_Mo_ways_18, s_Mo_ways_21, s_Mo_ways_22, s_Mo_ways_23, s_Mo_ways_26, s_Mo_ways_29, s_Mo_ways_30, s_Mo_ways_32, s_Mo_ways_35, s_Mo_ways_38, s_Mo_ways_41, s_Mo_ways_42, s_Mo_ways_45, s_Mo_ways_46, s_Mo_ways_47, s_Mo_ways_50, s_Mo_ways_53, s_Mo_ways_54, s_Mo_ways_55, s_Mo_ways_56, y_kd_sI, y_kd_sL, y_kd_sR, y_kd_cpI, y_kd_cpL, y_ln_sI, y_ln_sL, y_ln_sR, y_ln_cpI, y_ln_cpL, y_sz_sI, y_sz_sL, y_sz_sR, y_sz_cpI, y_sz_cpL, y_sl_sI, y_sl_sL, y_sl_sR, y_sl_cpI, y_sl_cpL, y_gI_sL, y_gI_sR, y_gI_cpI, y_gI_cpL, y_gI_nw, y_gL_sI, y_gL_sR, y_gL_cpI, y_gL_cpL, y_gL_nw, y_gR_sI, y_gR_sL, y_gR_cpI, y_gR_cpL, y_gR_nw, y_kd_nw, y_ln_nw, y_sz_nw, y_sl_nw, y_fx_int, y_fx_long, y_fx_ref, y_fx_null, y_fx_U, y_rf_s, y_rf_n, a_inb, a_ix, a_lt, a_eq, a_eq0, a_lt0, a_0lt, a_m1, a_m2, a_mlt, a_sub, a_dec, a_div, a_rem, a_shl, a_shr, a_bit, a_bit0, a_II, a_Ia, a_Ik, a_LL, a_La, a_Lk, a_RR, a_Ra, a_Rk, a_if0, a_if1, y_mul, y_and, y_or, nI_add, y_b1, y_b0, kon_v, kon_0, true_or, or_true, and_self, true_and, and_true, false_or, or_false, and_false, false_and, not_true_eq_false, not_false_eq_true, ite_self, ↓reduceIte, Nat.reduceEqDiff, Nat.reduceLeDiff, Nat.reduceAdd, Nat.reduceMul, Nat.reduceSub, Nat.reduceLT, Nat.reduceShiftLeft, Nat.reduceOr, Nat.reduceAnd, Bool.false_eq_true, b_if, b_z1, b_z0, b_zz, b_a1, b_a0, b_lc, b_zF, b_zT, b_lbit, km, s14, y2]
end ZMO2
