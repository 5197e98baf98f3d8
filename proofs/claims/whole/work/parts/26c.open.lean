/-! the class's search in the machine: run, runBehind, open -/
section ZOP
variable {g : Nat → Nat} {q r t u n : Nat}
theorem l_run (hn : n ≤ 10) {most : Nat} (hm : most < 100000) : ∀ (k i : Nat) (h : zMem) (A : aA) (v3 : Value), i + k = most → oSearch h q r t → cW g h r t u q → rCS h q n A → aOK n A →
    ∃ h' : zMem, ev g Search_run 2 [.ref q, .int (nI most), .int (nI i), v3] [] h = some (some (.int (nI (aS (aRun n k A)))), h') ∧ rCS h' q n (aRun n k A) ∧ aOK n (aRun n k A) ∧ sam q (q + 8) h h' ∧ gI h' q 1 = gI h q 1
  | 0, i, h, A, v3, hk, ho, hc, hr, hA => by
    have e : i = most := by omega
    subst e
    refine ⟨h, ?_, hr, hA, sam.rf, rfl⟩
    have a1 := ho.1
    obtain ⟨f, ats, tr, r1, r2, r3, r4, r5, r6, -⟩ := hr
    simp (disch := omega) only [s_Search_run_0, s_Search_run_1, s_Search_run_2, s_Search_run_3, s_Search_run_4, s_Search_run_7, s_Search_run_8, s_Search_run_11, s_Search_run_14, s_Search_run_15, s_Search_run_18, s_Search_run_19, s_Search_run_22, s_Search_run_23, s_Search_run_24, s_Search_run_27, s_Search_run_28, s_Search_run_31, s_Search_run_32, s_Search_run_33, s_Search_run_34, s_Search_run_35, s_Search_run_36, s_Search_run_39, s_Search_run_40, s_Search_run_43, s_Search_run_44, s_Search_run_45, s_Search_run_46, s_Search_run_47, s_Search_run_48, s_Search_run_49, s_Search_run_50, s_Search_run_51, s_Search_run_54, s_Search_run_55, s_Search_run_58, s_Search_run_59, s_Search_run_62, s_Search_run_65, s_Search_run_66, s_Search_run_67, s_Search_run_68, s_Search_run_71, s_Search_run_72, s_Search_run_73, s_Search_run_76, s_Search_run_77, s_Search_run_80, s_Search_run_83, s_Search_run_84, s_Search_run_87, s_Search_run_88, s_Search_run_89, s_Search_run_92, s_Search_run_95, s_Search_run_96, s_Search_run_99, s_Search_run_102, s_Search_run_105, s_Search_run_106, s_Search_run_109, s_Search_run_112, s_Search_run_113, s_Search_run_114, s_Search_run_117, s_Search_run_118, s_Search_run_119, s_Search_run_122, s_Search_run_123, s_Search_run_126, s_Search_run_127, s_Search_run_130, s_Search_run_133, s_Search_run_136, s_Search_run_137, s_Search_run_140, y_kd_sI, y_kd_sL, y_kd_sR, y_kd_cpI, y_kd_cpL, y_ln_sI, y_ln_sL, y_ln_sR, y_ln_cpI, y_ln_cpL, y_sz_sI, y_sz_sL, y_sz_sR, y_sz_cpI, y_sz_cpL, y_sl_sI, y_sl_sL, y_sl_sR, y_sl_cpI, y_sl_cpL, y_gI_sL, y_gI_sR, y_gI_cpI, y_gI_cpL, y_gI_nw, y_gL_sI, y_gL_sR, y_gL_cpI, y_gL_cpL, y_gL_nw, y_gR_sI, y_gR_sL, y_gR_cpI, y_gR_cpL, y_gR_nw, y_kd_nw, y_ln_nw, y_sz_nw, y_sl_nw, y_fx_int, y_fx_long, y_fx_ref, y_fx_null, y_fx_U, y_rf_s, y_rf_n, a_inb, a_ix, a_lt, a_eq, a_eq0, a_lt0, a_0lt, a_m1, a_m2, a_mlt, a_sub, a_dec, a_div, a_rem, a_shl, a_shr, a_bit, a_bit0, a_II, a_Ia, a_Ik, a_LL, a_La, a_Lk, a_RR, a_Ra, a_Rk, a_if0, a_if1, y_mul, y_and, y_or, nI_add, y_b1, y_b0, kon_v, kon_0, true_or, or_true, and_self, true_and, and_true, false_or, or_false, and_false, false_and, not_true_eq_false, not_false_eq_true, ite_self, ↓reduceIte, Nat.reduceEqDiff, Nat.reduceLeDiff, Nat.reduceAdd, Nat.reduceMul, Nat.reduceSub, Nat.reduceLT, Nat.reduceShiftLeft, Nat.reduceOr, Nat.reduceAnd, a1, r6, Nat.lt_irrefl]
    rfl
  | k + 1, i, h, A, v3, hk, ho, hc, hr, hA => by
    have a1 := ho.1
    have hr' := hr
    obtain ⟨f, ats, tr, r1, r2, r3, r4, r5, r6, -⟩ := hr'
    have hlt : (i < most) = True := eq_true (by omega)
    have h3 := hA.2.2.1
    unfold aRun
    by_cases z : aS A = 0
    · rw [if_pos z]
      obtain ⟨h1, v3', e1, r1', s1, y1⟩ := b_step (g := g) (m := .int (nI most)) (i := nI i) (v3 := v3) hn ho hc hr hA z
      obtain ⟨h2, e2, r2', A2, s2, y2⟩ := l_run hn hm k (i + 1) h1 (aStep n A) v3' (by omega) (s1.sr ho) (s1.cw (Nat.le_refl _) hc) r1' (aOK_step hn hA z)
      refine ⟨h2, ?_, r2', A2, s1.tr s2, y2.trans y1⟩
      rw [← e2]
      have go : ev g Search_run 2 [.ref q, .int (nI most), .int (nI i), v3] [] h = ev g Search_run 14 [.ref q, .int (nI most), .int (nI i), v3] [] h := by
        rw [s_Search_run_2]
        simp (disch := omega) only [s_Search_run_0, s_Search_run_1, s_Search_run_3, s_Search_run_4, s_Search_run_7, s_Search_run_8, s_Search_run_11, s_Search_run_15, s_Search_run_18, s_Search_run_19, s_Search_run_22, s_Search_run_23, s_Search_run_24, s_Search_run_27, s_Search_run_28, s_Search_run_31, s_Search_run_32, s_Search_run_33, s_Search_run_34, s_Search_run_35, s_Search_run_36, s_Search_run_39, s_Search_run_40, s_Search_run_43, s_Search_run_44, s_Search_run_45, s_Search_run_46, s_Search_run_47, s_Search_run_48, s_Search_run_49, s_Search_run_50, s_Search_run_51, s_Search_run_54, s_Search_run_55, s_Search_run_58, s_Search_run_59, s_Search_run_62, s_Search_run_65, s_Search_run_66, s_Search_run_67, s_Search_run_68, s_Search_run_71, s_Search_run_72, s_Search_run_73, s_Search_run_76, s_Search_run_77, s_Search_run_80, s_Search_run_83, s_Search_run_84, s_Search_run_87, s_Search_run_88, s_Search_run_89, s_Search_run_92, s_Search_run_95, s_Search_run_96, s_Search_run_99, s_Search_run_102, s_Search_run_105, s_Search_run_106, s_Search_run_109, s_Search_run_112, s_Search_run_113, s_Search_run_114, s_Search_run_117, s_Search_run_118, s_Search_run_119, s_Search_run_122, s_Search_run_123, s_Search_run_126, s_Search_run_127, s_Search_run_130, s_Search_run_133, s_Search_run_136, s_Search_run_137, s_Search_run_140, y_kd_sI, y_kd_sL, y_kd_sR, y_kd_cpI, y_kd_cpL, y_ln_sI, y_ln_sL, y_ln_sR, y_ln_cpI, y_ln_cpL, y_sz_sI, y_sz_sL, y_sz_sR, y_sz_cpI, y_sz_cpL, y_sl_sI, y_sl_sL, y_sl_sR, y_sl_cpI, y_sl_cpL, y_gI_sL, y_gI_sR, y_gI_cpI, y_gI_cpL, y_gI_nw, y_gL_sI, y_gL_sR, y_gL_cpI, y_gL_cpL, y_gL_nw, y_gR_sI, y_gR_sL, y_gR_cpI, y_gR_cpL, y_gR_nw, y_kd_nw, y_ln_nw, y_sz_nw, y_sl_nw, y_fx_int, y_fx_long, y_fx_ref, y_fx_null, y_fx_U, y_rf_s, y_rf_n, a_inb, a_ix, a_lt, a_eq, a_eq0, a_lt0, a_0lt, a_m1, a_m2, a_mlt, a_sub, a_dec, a_div, a_rem, a_shl, a_shr, a_bit, a_bit0, a_II, a_Ia, a_Ik, a_LL, a_La, a_Lk, a_RR, a_Ra, a_Rk, a_if0, a_if1, y_mul, y_and, y_or, nI_add, y_b1, y_b0, kon_v, kon_0, true_or, or_true, and_self, true_and, and_true, false_or, or_false, and_false, false_and, not_true_eq_false, not_false_eq_true, ite_self, ↓reduceIte, Nat.reduceEqDiff, Nat.reduceLeDiff, Nat.reduceAdd, Nat.reduceMul, Nat.reduceSub, Nat.reduceLT, Nat.reduceShiftLeft, Nat.reduceOr, Nat.reduceAnd, a1, r6, z, hlt]
      rw [go, e1]
      simp (disch := omega) only [s_Search_run_130, s_Search_run_133, y_kd_sI, y_kd_sL, y_kd_sR, y_kd_cpI, y_kd_cpL, y_ln_sI, y_ln_sL, y_ln_sR, y_ln_cpI, y_ln_cpL, y_sz_sI, y_sz_sL, y_sz_sR, y_sz_cpI, y_sz_cpL, y_sl_sI, y_sl_sL, y_sl_sR, y_sl_cpI, y_sl_cpL, y_gI_sL, y_gI_sR, y_gI_cpI, y_gI_cpL, y_gI_nw, y_gL_sI, y_gL_sR, y_gL_cpI, y_gL_cpL, y_gL_nw, y_gR_sI, y_gR_sL, y_gR_cpI, y_gR_cpL, y_gR_nw, y_kd_nw, y_ln_nw, y_sz_nw, y_sl_nw, y_fx_int, y_fx_long, y_fx_ref, y_fx_null, y_fx_U, y_rf_s, y_rf_n, a_inb, a_ix, a_lt, a_eq, a_eq0, a_lt0, a_0lt, a_m1, a_m2, a_mlt, a_sub, a_dec, a_div, a_rem, a_shl, a_shr, a_bit, a_bit0, a_II, a_Ia, a_Ik, a_LL, a_La, a_Lk, a_RR, a_Ra, a_Rk, a_if0, a_if1, y_mul, y_and, y_or, nI_add, y_b1, y_b0, kon_v, kon_0, true_or, or_true, and_self, true_and, and_true, false_or, or_false, and_false, false_and, not_true_eq_false, not_false_eq_true, ite_self, ↓reduceIte, Nat.reduceEqDiff, Nat.reduceLeDiff, Nat.reduceAdd, Nat.reduceMul, Nat.reduceSub, Nat.reduceLT, Nat.reduceShiftLeft, Nat.reduceOr, Nat.reduceAnd]
    · rw [if_neg z]
      refine ⟨h, ?_, hr, hA, sam.rf, rfl⟩
      simp (disch := omega) only [s_Search_run_0, s_Search_run_1, s_Search_run_2, s_Search_run_3, s_Search_run_4, s_Search_run_7, s_Search_run_8, s_Search_run_11, s_Search_run_14, s_Search_run_15, s_Search_run_18, s_Search_run_19, s_Search_run_22, s_Search_run_23, s_Search_run_24, s_Search_run_27, s_Search_run_28, s_Search_run_31, s_Search_run_32, s_Search_run_33, s_Search_run_34, s_Search_run_35, s_Search_run_36, s_Search_run_39, s_Search_run_40, s_Search_run_43, s_Search_run_44, s_Search_run_45, s_Search_run_46, s_Search_run_47, s_Search_run_48, s_Search_run_49, s_Search_run_50, s_Search_run_51, s_Search_run_54, s_Search_run_55, s_Search_run_58, s_Search_run_59, s_Search_run_62, s_Search_run_65, s_Search_run_66, s_Search_run_67, s_Search_run_68, s_Search_run_71, s_Search_run_72, s_Search_run_73, s_Search_run_76, s_Search_run_77, s_Search_run_80, s_Search_run_83, s_Search_run_84, s_Search_run_87, s_Search_run_88, s_Search_run_89, s_Search_run_92, s_Search_run_95, s_Search_run_96, s_Search_run_99, s_Search_run_102, s_Search_run_105, s_Search_run_106, s_Search_run_109, s_Search_run_112, s_Search_run_113, s_Search_run_114, s_Search_run_117, s_Search_run_118, s_Search_run_119, s_Search_run_122, s_Search_run_123, s_Search_run_126, s_Search_run_127, s_Search_run_130, s_Search_run_133, s_Search_run_136, s_Search_run_137, s_Search_run_140, y_kd_sI, y_kd_sL, y_kd_sR, y_kd_cpI, y_kd_cpL, y_ln_sI, y_ln_sL, y_ln_sR, y_ln_cpI, y_ln_cpL, y_sz_sI, y_sz_sL, y_sz_sR, y_sz_cpI, y_sz_cpL, y_sl_sI, y_sl_sL, y_sl_sR, y_sl_cpI, y_sl_cpL, y_gI_sL, y_gI_sR, y_gI_cpI, y_gI_cpL, y_gI_nw, y_gL_sI, y_gL_sR, y_gL_cpI, y_gL_cpL, y_gL_nw, y_gR_sI, y_gR_sL, y_gR_cpI, y_gR_cpL, y_gR_nw, y_kd_nw, y_ln_nw, y_sz_nw, y_sl_nw, y_fx_int, y_fx_long, y_fx_ref, y_fx_null, y_fx_U, y_rf_s, y_rf_n, a_inb, a_ix, a_lt, a_eq, a_eq0, a_lt0, a_0lt, a_m1, a_m2, a_mlt, a_sub, a_dec, a_div, a_rem, a_shl, a_shr, a_bit, a_bit0, a_II, a_Ia, a_Ik, a_LL, a_La, a_Lk, a_RR, a_Ra, a_Rk, a_if0, a_if1, y_mul, y_and, y_or, nI_add, y_b1, y_b0, kon_v, kon_0, true_or, or_true, and_self, true_and, and_true, false_or, or_false, and_false, false_and, not_true_eq_false, not_false_eq_true, ite_self, ↓reduceIte, Nat.reduceEqDiff, Nat.reduceLeDiff, Nat.reduceAdd, Nat.reduceMul, Nat.reduceSub, Nat.reduceLT, Nat.reduceShiftLeft, Nat.reduceOr, Nat.reduceAnd, a1, r6, z, hlt]
theorem c_run {h : zMem} {A : aA} {most : Nat} (hn : n ≤ 10) (hm : most < 100000) (ho : oSearch h q r t) (hc : cW g h r t u q) (hr : rCS h q n A) (hA : aOK n A) :
    ∃ h' : zMem, call g Search_run [.ref q, .int (nI most)] h = some (some (.int (nI (aS (aRun n most A)))), h') ∧ rCS h' q n (aRun n most A) ∧ aOK n (aRun n most A) ∧ sam q (q + 8) h h' ∧ gI h' q 1 = gI h q 1 := by
  obtain ⟨h', e, k⟩ := l_run (g := g) hn hm most 0 h A zU (by omega) ho hc hr hA
  refine ⟨h', ?_, k⟩
  rw [n_Search_run, ← e, s_Search_run_0, s_Search_run_1]
  rfl
theorem q_goBack_m {h : zMem} (ho : oSearch h q r t) (h6 : gI h q 6 = nI 0 - nI 1) : call g Search_goBack [.ref q] h = some (none, sI (sI h q 6 (nI 0)) q 4 (nI 2)) := by
  obtain ⟨a1, a2, a3, a4, a5, a6, a7, a8, a9⟩ := ho
  have e1 : (nI 0 - nI 1 < (0 : Int32)) = True := eq_true (by decide)
  rw [n_Search_goBack]
  simp (disch := omega) only [s_Search_goBack_0, s_Search_goBack_1, s_Search_goBack_4, s_Search_goBack_7, s_Search_goBack_8, s_Search_goBack_11, s_Search_goBack_12, s_Search_goBack_15, s_Search_goBack_16, s_Search_goBack_19, s_Search_goBack_20, s_Search_goBack_23, s_Search_goBack_24, s_Search_goBack_27, s_Search_goBack_30, s_Search_goBack_31, s_Search_goBack_34, s_Search_goBack_35, s_Search_goBack_38, s_Search_goBack_39, s_Search_goBack_42, s_Search_goBack_43, s_Search_goBack_44, s_Search_goBack_47, s_Search_goBack_48, s_Search_goBack_49, s_Search_goBack_52, s_Search_goBack_53, s_Search_goBack_56, s_Search_goBack_59, s_Search_goBack_60, s_Search_goBack_63, s_Search_goBack_64, s_Search_goBack_67, s_Search_goBack_68, s_Search_goBack_71, s_Search_goBack_72, s_Search_goBack_75, s_Search_goBack_78, s_Search_goBack_79, s_Search_goBack_82, s_Search_goBack_85, s_Search_goBack_86, s_Search_goBack_87, s_Search_goBack_90, s_Search_goBack_91, s_Search_goBack_92, s_Search_goBack_95, y_kd_sI, y_kd_sL, y_kd_sR, y_kd_cpI, y_kd_cpL, y_ln_sI, y_ln_sL, y_ln_sR, y_ln_cpI, y_ln_cpL, y_sz_sI, y_sz_sL, y_sz_sR, y_sz_cpI, y_sz_cpL, y_sl_sI, y_sl_sL, y_sl_sR, y_sl_cpI, y_sl_cpL, y_gI_sL, y_gI_sR, y_gI_cpI, y_gI_cpL, y_gI_nw, y_gL_sI, y_gL_sR, y_gL_cpI, y_gL_cpL, y_gL_nw, y_gR_sI, y_gR_sL, y_gR_cpI, y_gR_cpL, y_gR_nw, y_kd_nw, y_ln_nw, y_sz_nw, y_sl_nw, y_fx_int, y_fx_long, y_fx_ref, y_fx_null, y_fx_U, y_rf_s, y_rf_n, a_inb, a_ix, a_lt, a_eq, a_eq0, a_lt0, a_0lt, a_m1, a_m2, a_mlt, a_sub, a_dec, a_div, a_rem, a_shl, a_shr, a_bit, a_bit0, a_II, a_Ia, a_Ik, a_LL, a_La, a_Lk, a_RR, a_Ra, a_Rk, a_if0, a_if1, y_mul, y_and, y_or, nI_add, y_b1, y_b0, kon_v, kon_0, true_or, or_true, and_self, true_and, and_true, false_or, or_false, and_false, false_and, not_true_eq_false, not_false_eq_true, ite_self, ↓reduceIte, Nat.reduceEqDiff, Nat.reduceLeDiff, Nat.reduceAdd, Nat.reduceMul, Nat.reduceSub, Nat.reduceLT, Nat.reduceShiftLeft, Nat.reduceOr, Nat.reduceAnd, a1, a2, a3, a4, a5, a6, a7, a8, h6, e1]
theorem c_behind {h : zMem} {A : aA} (hn : n ≤ 10) (ho : oSearch h q r t) (hc : cW g h r t u q) (hr : rCS h q n A) (hA : aOK n A) (h1 : aS A = 1) :
    ∃ h' : zMem, call g Search_runBehind [.ref q] h = some (some (.int (nI (aS (aRun n 20000 (aBehind n A))))), h') ∧ rCS h' q n (aRun n 20000 (aBehind n A)) ∧ aOK n (aRun n 20000 (aBehind n A)) ∧ sam q (q + 8) h h' ∧ gI h' q 1 = gI h q 1 := by
  have hB := aOK_behind hn hA h1
  have h45 := pn_le hn
  have ho' := ho
  obtain ⟨a1, a2, a3, a4, a5, a6, a7, a8, a9⟩ := ho'
  obtain ⟨A1, A2, A3, A4, A5, A6, A7, A8, A9, A10⟩ := hA
  have hL := A8 h1
  obtain ⟨f, ats, tr, r1, r2, r3, r4, r5, r6, r7, r8, r9⟩ := hr
  -- up to goBack, and behind it
  have key : ∃ h2 : zMem, ev g Search_runBehind 0 [.ref q] [] h = ev g Search_runBehind 23 [.ref q] [] h2 ∧ rCS h2 q n (aBehind n A) ∧ sam q (q + 8) h h2 ∧ gI h2 q 1 = gI h q 1 := by
    unfold aBehind
    by_cases z : n * (n - 1) / 2 = 0
    · rw [if_pos z]
      rw [hL, z] at r8
      have s1 : sam q (q + 8) h (sI (sI h q 4 (nI 0)) q 6 (nI 0 - nI 1)) := (sam.I (by omega)).aI (by omega)
      have gb := q_goBack_m (g := g) (s1.sr ho) a_II
      have k4 : gI (sI (sI (sI (sI h q 4 (nI 0)) q 6 (nI 0 - nI 1)) q 6 (nI 0)) q 4 (nI 2)) q 4 = nI 2 := a_II
      have k2 : gI (sI (sI (sI (sI h q 4 (nI 0)) q 6 (nI 0 - nI 1)) q 6 (nI 0)) q 4 (nI 2)) q 2 = nI (aC A) := by
        rw [a_Ik (by decide), a_Ik (by decide), a_Ik (by decide), a_Ik (by decide)]; exact r4
      have sp := q_see (g := g) (show kd (sI (sI (sI (sI h q 4 (nI 0)) q 6 (nI 0 - nI 1)) q 6 (nI 0)) q 4 (nI 2)) q = 7 from a1) k4 k2 (by decide) (by omega)
      rw [if_neg (by omega)] at sp
      refine ⟨sI (sI (sI (sI h q 4 (nI 0)) q 6 (nI 0 - nI 1)) q 6 (nI 0)) q 4 (nI 2), ?_, ⟨f, ats, tr, (((r1.I (by omega)).I (by omega)).I (by omega)).I (by omega), r2, r3, k2, ?_, k4, ?_, ?_, fun z => absurd rfl z⟩, (s1.aI (by omega)).aI (by omega), ?_⟩
      · simp (disch := omega) only [s_Search_runBehind_0, s_Search_runBehind_1, s_Search_runBehind_2, s_Search_runBehind_5, s_Search_runBehind_6, s_Search_runBehind_7, s_Search_runBehind_10, s_Search_runBehind_11, s_Search_runBehind_12, s_Search_runBehind_15, s_Search_runBehind_16, s_Search_runBehind_19, s_Search_runBehind_20, s_Search_runBehind_24, s_Search_runBehind_27, s_Search_runBehind_30, y_kd_sI, y_kd_sL, y_kd_sR, y_kd_cpI, y_kd_cpL, y_ln_sI, y_ln_sL, y_ln_sR, y_ln_cpI, y_ln_cpL, y_sz_sI, y_sz_sL, y_sz_sR, y_sz_cpI, y_sz_cpL, y_sl_sI, y_sl_sL, y_sl_sR, y_sl_cpI, y_sl_cpL, y_gI_sL, y_gI_sR, y_gI_cpI, y_gI_cpL, y_gI_nw, y_gL_sI, y_gL_sR, y_gL_cpI, y_gL_cpL, y_gL_nw, y_gR_sI, y_gR_sL, y_gR_cpI, y_gR_cpL, y_gR_nw, y_kd_nw, y_ln_nw, y_sz_nw, y_sl_nw, y_fx_int, y_fx_long, y_fx_ref, y_fx_null, y_fx_U, y_rf_s, y_rf_n, a_inb, a_ix, a_lt, a_eq, a_eq0, a_lt0, a_0lt, a_m1, a_m2, a_mlt, a_sub, a_dec, a_div, a_rem, a_shl, a_shr, a_bit, a_bit0, a_II, a_Ia, a_Ik, a_LL, a_La, a_Lk, a_RR, a_Ra, a_Rk, a_if0, a_if1, y_mul, y_and, y_or, nI_add, y_b1, y_b0, kon_v, kon_0, true_or, or_true, and_self, true_and, and_true, false_or, or_false, and_false, false_and, not_true_eq_false, not_false_eq_true, ite_self, ↓reduceIte, Nat.reduceEqDiff, Nat.reduceLeDiff, Nat.reduceAdd, Nat.reduceMul, Nat.reduceSub, Nat.reduceLT, Nat.reduceShiftLeft, Nat.reduceOr, Nat.reduceAnd, a1, r8, gb, sp]
      · rw [a_Ik (by decide), a_Ik (by decide), a_Ik (by decide), a_Ik (by decide)]; exact r5
      · rw [a_Ik (by decide), a_Ik (by decide), a_Ik (by decide), a_Ik (by decide)]; exact r7
      · rw [a_Ik (by decide), a_II]; rfl
      · rw [a_Ik (by decide), a_Ik (by decide), a_Ik (by decide), a_Ik (by decide)]
    · rw [if_neg z]
      obtain ⟨mk, w1, w2, w3, w4⟩ := r9 (by omega) (by omega)
      rw [if_pos h1] at w4
      rw [hL] at r8 w3 w4
      have e0 : nI (n * (n - 1) / 2) - nI 1 = nI (n * (n - 1) / 2 - 1) := y_sub (by omega)
      have s1 : sam q (q + 8) h (sI (sI h q 4 (nI 0)) q 6 (nI (n * (n - 1) / 2 - 1))) := (sam.I (by omega)).aI (by omega)
      have eP : n * (n - 1) / 2 - 1 + 1 = n * (n - 1) / 2 := by omega
      obtain ⟨h5, e5, p5⟩ := c_goBack (g := g) (F := aF A) (T := aT A) (L := n * (n - 1) / 2 - 1) (mk := mk) (ats := ats) (by omega) (s1.sr ho) (s1.cw (Nat.le_refl _) hc) ((r1.I (by omega)).I (by omega)) r2 r3 a_II (by rw [eP]; exact w3.fr (Nat.le_refl _) (fun j _ => by rw [a_Ia (by omega), a_Ia (by omega)])) (by rw [eP]; exact w4.fr (Nat.le_refl _) (fun j _ => by rw [a_Ia (by omega), a_Ia (by omega)]))
      obtain ⟨f6, ats6, tr6, y1', y2', y3', y4', y5', y6'⟩ := p5
      have s5 : sam q (q + 8) h h5 := s1.tr y4'
      have i5 := (s5.sr ho).1
      have v2 : gI h5 q 2 = nI (aC A) := by rw [y5' 2 (by decide) (by decide), a_Ik (by decide), a_Ik (by decide)]; exact r4
      have v3 : gI h5 q 3 = nI (aB A) := by rw [y5' 3 (by decide) (by decide), a_Ik (by decide), a_Ik (by decide)]; exact r5
      have v5 : gI h5 q 5 = nI (n * (n - 1) / 2) := by rw [y5' 5 (by decide) (by decide), a_Ik (by decide), a_Ik (by decide)]; exact r7
      have v1 : gI h5 q 1 = gI h q 1 := by rw [y5' 1 (by decide) (by decide), a_Ik (by decide), a_Ik (by decide)]
      rcases y6' with ⟨o1, o2, o3⟩ | ⟨L', mk', o1, o2, o3, o4, o5, o6, o7⟩
      · have sp := q_see (g := g) i5 o2 v2 (by decide) (by omega)
        rw [if_neg (by omega)] at sp
        rw [o1]
        refine ⟨h5, ?_, ⟨f6, ats6, tr6, y1', y2', y3', v2, v3, o2, v5, o3, fun z => absurd rfl z⟩, s5, v1⟩
        simp (disch := omega) only [s_Search_runBehind_0, s_Search_runBehind_1, s_Search_runBehind_2, s_Search_runBehind_5, s_Search_runBehind_6, s_Search_runBehind_7, s_Search_runBehind_10, s_Search_runBehind_11, s_Search_runBehind_12, s_Search_runBehind_15, s_Search_runBehind_16, s_Search_runBehind_19, s_Search_runBehind_20, s_Search_runBehind_24, s_Search_runBehind_27, s_Search_runBehind_30, y_kd_sI, y_kd_sL, y_kd_sR, y_kd_cpI, y_kd_cpL, y_ln_sI, y_ln_sL, y_ln_sR, y_ln_cpI, y_ln_cpL, y_sz_sI, y_sz_sL, y_sz_sR, y_sz_cpI, y_sz_cpL, y_sl_sI, y_sl_sL, y_sl_sR, y_sl_cpI, y_sl_cpL, y_gI_sL, y_gI_sR, y_gI_cpI, y_gI_cpL, y_gI_nw, y_gL_sI, y_gL_sR, y_gL_cpI, y_gL_cpL, y_gL_nw, y_gR_sI, y_gR_sL, y_gR_cpI, y_gR_cpL, y_gR_nw, y_kd_nw, y_ln_nw, y_sz_nw, y_sl_nw, y_fx_int, y_fx_long, y_fx_ref, y_fx_null, y_fx_U, y_rf_s, y_rf_n, a_inb, a_ix, a_lt, a_eq, a_eq0, a_lt0, a_0lt, a_m1, a_m2, a_mlt, a_sub, a_dec, a_div, a_rem, a_shl, a_shr, a_bit, a_bit0, a_II, a_Ia, a_Ik, a_LL, a_La, a_Lk, a_RR, a_Ra, a_Rk, a_if0, a_if1, y_mul, y_and, y_or, nI_add, y_b1, y_b0, kon_v, kon_0, true_or, or_true, and_self, true_and, and_true, false_or, or_false, and_false, false_and, not_true_eq_false, not_false_eq_true, ite_self, ↓reduceIte, Nat.reduceEqDiff, Nat.reduceLeDiff, Nat.reduceAdd, Nat.reduceMul, Nat.reduceSub, Nat.reduceLT, Nat.reduceShiftLeft, Nat.reduceOr, Nat.reduceAnd, a1, r8, e0, e5, sp, i5]
      · have o2' : gI h5 q 4 = nI 0 := by rw [o2, a_Ik (by decide), a_II]
        have sp := q_see (g := g) i5 o2' v2 (by decide) (by omega)
        rw [o1]
        have pre : rCS h5 q n (L', aC A, aB A, 0, aF A, aT A) := ⟨f6, ats6, tr6, y1', y2', y3', v2, v3, o2', v5, o3, fun _ _ => ⟨mk', o4, o5, o6, o7⟩⟩
        refine ⟨_, ?_, rCS_spent (by by_cases c : aC A = 20000 <;> simp [c]) A1 (by decide) pre, ?_, ?_⟩
        · simp (disch := omega) only [s_Search_runBehind_0, s_Search_runBehind_1, s_Search_runBehind_2, s_Search_runBehind_5, s_Search_runBehind_6, s_Search_runBehind_7, s_Search_runBehind_10, s_Search_runBehind_11, s_Search_runBehind_12, s_Search_runBehind_15, s_Search_runBehind_16, s_Search_runBehind_19, s_Search_runBehind_20, s_Search_runBehind_24, s_Search_runBehind_27, s_Search_runBehind_30, y_kd_sI, y_kd_sL, y_kd_sR, y_kd_cpI, y_kd_cpL, y_ln_sI, y_ln_sL, y_ln_sR, y_ln_cpI, y_ln_cpL, y_sz_sI, y_sz_sL, y_sz_sR, y_sz_cpI, y_sz_cpL, y_sl_sI, y_sl_sL, y_sl_sR, y_sl_cpI, y_sl_cpL, y_gI_sL, y_gI_sR, y_gI_cpI, y_gI_cpL, y_gI_nw, y_gL_sI, y_gL_sR, y_gL_cpI, y_gL_cpL, y_gL_nw, y_gR_sI, y_gR_sL, y_gR_cpI, y_gR_cpL, y_gR_nw, y_kd_nw, y_ln_nw, y_sz_nw, y_sl_nw, y_fx_int, y_fx_long, y_fx_ref, y_fx_null, y_fx_U, y_rf_s, y_rf_n, a_inb, a_ix, a_lt, a_eq, a_eq0, a_lt0, a_0lt, a_m1, a_m2, a_mlt, a_sub, a_dec, a_div, a_rem, a_shl, a_shr, a_bit, a_bit0, a_II, a_Ia, a_Ik, a_LL, a_La, a_Lk, a_RR, a_Ra, a_Rk, a_if0, a_if1, y_mul, y_and, y_or, nI_add, y_b1, y_b0, kon_v, kon_0, true_or, or_true, and_self, true_and, and_true, false_or, or_false, and_false, false_and, not_true_eq_false, not_false_eq_true, ite_self, ↓reduceIte, Nat.reduceEqDiff, Nat.reduceLeDiff, Nat.reduceAdd, Nat.reduceMul, Nat.reduceSub, Nat.reduceLT, Nat.reduceShiftLeft, Nat.reduceOr, Nat.reduceAnd, a1, r8, e0, e5, sp, i5]
        · split
          · exact s5.aI (by omega)
          · exact s5
        · split
          · rw [a_Ik (by decide)]; exact v1
          · exact v1
  obtain ⟨h2, e2, k2, s2, y2⟩ := key
  obtain ⟨h3, e3, k3, A3', s3, y3⟩ := c_run (g := g) (most := 20000) hn (by decide) (s2.sr ho) (s2.cw (Nat.le_refl _) hc) k2 hB
  refine ⟨h3, ?_, k3, A3', s2.tr s3, y3.trans y2⟩
  have i2 := (s2.sr ho).1
  rw [n_Search_runBehind, e2]
  simp (disch := omega) only [s_Search_runBehind_0, s_Search_runBehind_1, s_Search_runBehind_2, s_Search_runBehind_5, s_Search_runBehind_6, s_Search_runBehind_7, s_Search_runBehind_10, s_Search_runBehind_11, s_Search_runBehind_12, s_Search_runBehind_15, s_Search_runBehind_16, s_Search_runBehind_19, s_Search_runBehind_20, s_Search_runBehind_23, s_Search_runBehind_24, s_Search_runBehind_27, s_Search_runBehind_30, y_kd_sI, y_kd_sL, y_kd_sR, y_kd_cpI, y_kd_cpL, y_ln_sI, y_ln_sL, y_ln_sR, y_ln_cpI, y_ln_cpL, y_sz_sI, y_sz_sL, y_sz_sR, y_sz_cpI, y_sz_cpL, y_sl_sI, y_sl_sL, y_sl_sR, y_sl_cpI, y_sl_cpL, y_gI_sL, y_gI_sR, y_gI_cpI, y_gI_cpL, y_gI_nw, y_gL_sI, y_gL_sR, y_gL_cpI, y_gL_cpL, y_gL_nw, y_gR_sI, y_gR_sL, y_gR_cpI, y_gR_cpL, y_gR_nw, y_kd_nw, y_ln_nw, y_sz_nw, y_sl_nw, y_fx_int, y_fx_long, y_fx_ref, y_fx_null, y_fx_U, y_rf_s, y_rf_n, a_inb, a_ix, a_lt, a_eq, a_eq0, a_lt0, a_0lt, a_m1, a_m2, a_mlt, a_sub, a_dec, a_div, a_rem, a_shl, a_shr, a_bit, a_bit0, a_II, a_Ia, a_Ik, a_LL, a_La, a_Lk, a_RR, a_Ra, a_Rk, a_if0, a_if1, y_mul, y_and, y_or, nI_add, y_b1, y_b0, kon_v, kon_0, true_or, or_true, and_self, true_and, and_true, false_or, or_false, and_false, false_and, not_true_eq_false, not_false_eq_true, ite_self, ↓reduceIte, Nat.reduceEqDiff, Nat.reduceLeDiff, Nat.reduceAdd, Nat.reduceMul, Nat.reduceSub, Nat.reduceLT, Nat.reduceShiftLeft, Nat.reduceOr, Nat.reduceAnd, i2, e3]
/-- open: the sets are filled -/
theorem c_open {h : zMem} {f : Nat} {ats : Nat → Nat} {y : Int32} (hn : n ≤ 10) (ho : oSearch h q r t) (hc : cW g h r t u q) (hr : rS h (q + 1) n f (ats, [], [])) (hf : sy tur ats) :
    ∃ h' : zMem, call g Search_open [.ref q, .int y] h = some (none, h') ∧ rCS h' q n (aOpen n ats) ∧ sam q (q + 8) h h' ∧ gI h' q 1 = y := by
  have h45 := pn_le hn
  have ho' := ho
  obtain ⟨a1, a2, a3, a4, a5, a6, a7, a8, a9⟩ := ho'
  have b1 := a9.1
  have s1 : sam q (q + 8) h (sI (sI (sI (sI (sI h q 1 y) q 2 (nI 0)) q 3 (nI 0)) q 6 (nI 0)) q 5 (nI (n * (n - 1) / 2))) := (((((sam.I (by omega)).aI (by omega)).aI (by omega)).aI (by omega)).aI (by omega))
  have hr1 : rS (sI (sI (sI (sI (sI h q 1 y) q 2 (nI 0)) q 3 (nI 0)) q 6 (nI 0)) q 5 (nI (n * (n - 1) / 2))) (q + 1) n f (ats, [], []) := ((((hr.I (by omega)).I (by omega)).I (by omega)).I (by omega)).I (by omega)
  have pr := q_Sets_pairs (g := g) (show kd (sI (sI (sI (sI h q 1 y) q 2 (nI 0)) q 3 (nI 0)) q 6 (nI 0)) (q + 1) = 8 from b1) (show gI (sI (sI (sI (sI h q 1 y) q 2 (nI 0)) q 3 (nI 0)) q 6 (nI 0)) (q + 1) 1 = nI n by
    rw [a_Ia (by omega), a_Ia (by omega), a_Ia (by omega), a_Ia (by omega)]; exact hr.1) hn
  unfold aOpen
  by_cases z : n * (n - 1) / 2 = 0
  · rw [if_pos z]
    refine ⟨sI (sI (sI (sI (sI (sI h q 1 y) q 2 (nI 0)) q 3 (nI 0)) q 6 (nI 0)) q 5 (nI (n * (n - 1) / 2))) q 4 (nI 1), ?_, ⟨f, ats, [], hr1.I (by omega), hf, fun x hx => absurd hx List.not_mem_nil, ?_, ?_, a_II, ?_, ?_, fun _ hP => absurd z (by omega)⟩, s1.aI (by omega), ?_⟩
    · rw [n_Search_open]
      simp (disch := omega) only [s_Search_open_0, s_Search_open_1, s_Search_open_2, s_Search_open_5, s_Search_open_6, s_Search_open_7, s_Search_open_10, s_Search_open_11, s_Search_open_12, s_Search_open_15, s_Search_open_16, s_Search_open_17, s_Search_open_20, s_Search_open_21, s_Search_open_22, s_Search_open_25, s_Search_open_28, s_Search_open_31, s_Search_open_32, s_Search_open_35, s_Search_open_38, s_Search_open_39, s_Search_open_40, s_Search_open_43, s_Search_open_46, s_Search_open_47, s_Search_open_50, s_Search_open_53, s_Search_open_56, s_Search_open_57, s_Search_open_58, s_Search_open_61, s_Search_open_62, s_Search_open_65, s_Search_open_66, s_Search_open_67, s_Search_open_70, s_Search_open_73, s_Search_open_76, s_Search_open_77, s_Search_open_78, s_Search_open_79, s_Search_open_80, s_Search_open_83, s_Search_open_84, s_Search_open_85, s_Search_open_88, y_kd_sI, y_kd_sL, y_kd_sR, y_kd_cpI, y_kd_cpL, y_ln_sI, y_ln_sL, y_ln_sR, y_ln_cpI, y_ln_cpL, y_sz_sI, y_sz_sL, y_sz_sR, y_sz_cpI, y_sz_cpL, y_sl_sI, y_sl_sL, y_sl_sR, y_sl_cpI, y_sl_cpL, y_gI_sL, y_gI_sR, y_gI_cpI, y_gI_cpL, y_gI_nw, y_gL_sI, y_gL_sR, y_gL_cpI, y_gL_cpL, y_gL_nw, y_gR_sI, y_gR_sL, y_gR_cpI, y_gR_cpL, y_gR_nw, y_kd_nw, y_ln_nw, y_sz_nw, y_sl_nw, y_fx_int, y_fx_long, y_fx_ref, y_fx_null, y_fx_U, y_rf_s, y_rf_n, a_inb, a_ix, a_lt, a_eq, a_eq0, a_lt0, a_0lt, a_m1, a_m2, a_mlt, a_sub, a_dec, a_div, a_rem, a_shl, a_shr, a_bit, a_bit0, a_II, a_Ia, a_Ik, a_LL, a_La, a_Lk, a_RR, a_Ra, a_Rk, a_if0, a_if1, y_mul, y_and, y_or, nI_add, y_b1, y_b0, kon_v, kon_0, true_or, or_true, and_self, true_and, and_true, false_or, or_false, and_false, false_and, not_true_eq_false, not_false_eq_true, ite_self, ↓reduceIte, Nat.reduceEqDiff, Nat.reduceLeDiff, Nat.reduceAdd, Nat.reduceMul, Nat.reduceSub, Nat.reduceLT, Nat.reduceShiftLeft, Nat.reduceOr, Nat.reduceAnd, a1, a2, b1, pr, z]
    · rw [a_Ik (by decide), a_Ik (by decide), a_Ik (by decide), a_Ik (by decide), a_II]; rfl
    · rw [a_Ik (by decide), a_Ik (by decide), a_Ik (by decide), a_II]; rfl
    · rw [a_Ik (by decide), a_II]
    · rw [a_Ik (by decide), a_Ik (by decide), a_II]; rfl
    · rw [a_Ik (by decide), a_Ik (by decide), a_Ik (by decide), a_Ik (by decide), a_Ik (by decide), a_II]
  · rw [if_neg z]
    have go : call g Search_open [.ref q, .int y] h = ev g Search_open 50 [.ref q, .int y] [.ref (q + 1)] (sI (sI (sI (sI (sI h q 1 y) q 2 (nI 0)) q 3 (nI 0)) q 6 (nI 0)) q 5 (nI (n * (n - 1) / 2))) := by
      rw [n_Search_open]
      simp (disch := omega) only [s_Search_open_0, s_Search_open_1, s_Search_open_2, s_Search_open_5, s_Search_open_6, s_Search_open_7, s_Search_open_10, s_Search_open_11, s_Search_open_12, s_Search_open_15, s_Search_open_16, s_Search_open_17, s_Search_open_20, s_Search_open_21, s_Search_open_22, s_Search_open_25, s_Search_open_28, s_Search_open_31, s_Search_open_32, s_Search_open_35, s_Search_open_38, s_Search_open_39, s_Search_open_40, s_Search_open_43, s_Search_open_46, s_Search_open_47, s_Search_open_53, s_Search_open_56, s_Search_open_57, s_Search_open_58, s_Search_open_61, s_Search_open_62, s_Search_open_65, s_Search_open_66, s_Search_open_67, s_Search_open_70, s_Search_open_73, s_Search_open_76, s_Search_open_77, s_Search_open_78, s_Search_open_79, s_Search_open_80, s_Search_open_83, s_Search_open_84, s_Search_open_85, s_Search_open_88, y_kd_sI, y_kd_sL, y_kd_sR, y_kd_cpI, y_kd_cpL, y_ln_sI, y_ln_sL, y_ln_sR, y_ln_cpI, y_ln_cpL, y_sz_sI, y_sz_sL, y_sz_sR, y_sz_cpI, y_sz_cpL, y_sl_sI, y_sl_sL, y_sl_sR, y_sl_cpI, y_sl_cpL, y_gI_sL, y_gI_sR, y_gI_cpI, y_gI_cpL, y_gI_nw, y_gL_sI, y_gL_sR, y_gL_cpI, y_gL_cpL, y_gL_nw, y_gR_sI, y_gR_sL, y_gR_cpI, y_gR_cpL, y_gR_nw, y_kd_nw, y_ln_nw, y_sz_nw, y_sl_nw, y_fx_int, y_fx_long, y_fx_ref, y_fx_null, y_fx_U, y_rf_s, y_rf_n, a_inb, a_ix, a_lt, a_eq, a_eq0, a_lt0, a_0lt, a_m1, a_m2, a_mlt, a_sub, a_dec, a_div, a_rem, a_shl, a_shr, a_bit, a_bit0, a_II, a_Ia, a_Ik, a_LL, a_La, a_Lk, a_RR, a_Ra, a_Rk, a_if0, a_if1, y_mul, y_and, y_or, nI_add, y_b1, y_b0, kon_v, kon_0, true_or, or_true, and_self, true_and, and_true, false_or, or_false, and_false, false_and, not_true_eq_false, not_false_eq_true, ite_self, ↓reduceIte, Nat.reduceEqDiff, Nat.reduceLeDiff, Nat.reduceAdd, Nat.reduceMul, Nat.reduceSub, Nat.reduceLT, Nat.reduceShiftLeft, Nat.reduceOr, Nat.reduceAnd, a1, a2, b1, pr, z]
    rw [go]
    have v1 : gI (sI (sI (sI (sI (sI h q 1 y) q 2 (nI 0)) q 3 (nI 0)) q 6 (nI 0)) q 5 (nI (n * (n - 1) / 2))) q 1 = y := by
      rw [a_Ik (by decide), a_Ik (by decide), a_Ik (by decide), a_Ik (by decide), a_II]
    have v2 : gI (sI (sI (sI (sI (sI h q 1 y) q 2 (nI 0)) q 3 (nI 0)) q 6 (nI 0)) q 5 (nI (n * (n - 1) / 2))) q 2 = nI 0 := by
      rw [a_Ik (by decide), a_Ik (by decide), a_Ik (by decide), a_II]
    have v3 : gI (sI (sI (sI (sI (sI h q 1 y) q 2 (nI 0)) q 3 (nI 0)) q 6 (nI 0)) q 5 (nI (n * (n - 1) / 2))) q 3 = nI 0 := by
      rw [a_Ik (by decide), a_Ik (by decide), a_II]
    have v5 : gI (sI (sI (sI (sI (sI h q 1 y) q 2 (nI 0)) q 3 (nI 0)) q 6 (nI 0)) q 5 (nI (n * (n - 1) / 2))) q 5 = nI (n * (n - 1) / 2) := a_II
    have v6 : gI (sI (sI (sI (sI (sI h q 1 y) q 2 (nI 0)) q 3 (nI 0)) q 6 (nI 0)) q 5 (nI (n * (n - 1) / 2))) q 6 = nI 0 := by
      rw [a_Ik (by decide), a_II]
    generalize sI (sI (sI (sI (sI h q 1 y) q 2 (nI 0)) q 3 (nI 0)) q 6 (nI 0)) q 5 (nI (n * (n - 1) / 2)) = h1 at s1 hr1 v1 v2 v3 v5 v6
    have ho1 := s1.sr ho
    have hc1 := s1.cw (Nat.le_refl _) hc
    obtain ⟨h2, f', ats', p, dp, e2, p1, p2, p3, p4, p5⟩ := c_shrinkAll (g := g) hn (show g 1 < q + 1 by have := hc.2.2.2.1; omega) (show u < q + 1 ∨ q + 1 + 5 < u by have := hc.2.2.2.2.1; omega) hc1.1 ho1.2.2.2.2.2.2.2.2 hc1.2.1 hc1.2.2.1 hr1 hf
    have p5' := p5.sam
    have s2 : sam q (q + 8) h1 h2 := p5'.wd (by omega) (by omega)
    have E : ∀ k : Nat, gI h2 q k = gI h1 q k := fun k => p5'.2.2.2.2.2.1 q k (by omega)
    obtain ⟨i1, i2, i3, i4, i5, i6, i7, i8, i9⟩ := s2.sr ho1
    have j1 := ho1.2.2.2.2.2.2.2.2.1
    have hF : low n ats := fun a b ha hb hd => (sy_live (σ := (ats, [], [])) hf (by omega) (by omega)).1
    by_cases hp : p
    · have hw := p1.1 hp
      rw [tst_t hw]
      rw [bZ_t hp] at e2
      have nz1 : (nI 1 = (0 : Int32)) = False := eq_false (by decide)
      obtain ⟨c1, c2, c3⟩ := (s2.cw (Nat.le_refl _) hc1).1
      have c4 := c3 0 (by decide)
      obtain ⟨t1, t2⟩ := pP_lt (show 0 < 45 by decide)
      have t3 := (pP_n hn (show 0 < 45 by decide)).2 (show 0 < n * (n - 1) / 2 by omega)
      have t4 := (p2.2.1 (pP 0) (by omega)).1
      have t5 : ats' (pP 0) = gc n ats (pP 0) := by
        have := p4 hp (pP 0 / 10) (pP 0 % 10) (by omega) t3 (by omega)
        rw [show pP 0 / 10 * 10 + pP 0 % 10 = pP 0 by omega] at this
        exact this
      have t6 : gc n ats (pP 0) < 256 := by rw [← t5]; exact (p2.2.1 (pP 0) (by omega)).2
      dsimp only at t4
      rw [t5] at t4
      have i91 := i9.1
      have i92 := i9.2.1
      have i93 := i9.2.2.2.2.2.2.2.1
      have i94 := i9.2.2.2.2.2.2.2.2.1
      have hg1 := hc.2.2.2.1
      refine ⟨sI (sI h2 q 4 (nI 0)) (q + 7) 0 (nI (gc n ats (pP 0))), ?_, ⟨f', ats', [], (p2.I (by omega)).I (by omega), p3, fun x hx => absurd hx List.not_mem_nil, ?_, ?_, ?_, ?_, ?_, fun _ _ => ⟨fun _ => 0, ?_, p4 hp, fun j hj => absurd hj (Nat.not_lt_zero j), ?_⟩⟩, (s1.tr s2).tr ((sam.I (by omega)).aI (by omega)), ?_⟩
      · simp (disch := omega) only [s_Search_open_0, s_Search_open_1, s_Search_open_2, s_Search_open_5, s_Search_open_6, s_Search_open_7, s_Search_open_10, s_Search_open_11, s_Search_open_12, s_Search_open_15, s_Search_open_16, s_Search_open_17, s_Search_open_20, s_Search_open_21, s_Search_open_22, s_Search_open_25, s_Search_open_28, s_Search_open_31, s_Search_open_32, s_Search_open_35, s_Search_open_38, s_Search_open_39, s_Search_open_40, s_Search_open_43, s_Search_open_46, s_Search_open_47, s_Search_open_50, s_Search_open_53, s_Search_open_56, s_Search_open_57, s_Search_open_58, s_Search_open_61, s_Search_open_62, s_Search_open_65, s_Search_open_66, s_Search_open_67, s_Search_open_70, s_Search_open_73, s_Search_open_76, s_Search_open_77, s_Search_open_78, s_Search_open_79, s_Search_open_80, s_Search_open_83, s_Search_open_84, s_Search_open_85, s_Search_open_88, y_kd_sI, y_kd_sL, y_kd_sR, y_kd_cpI, y_kd_cpL, y_ln_sI, y_ln_sL, y_ln_sR, y_ln_cpI, y_ln_cpL, y_sz_sI, y_sz_sL, y_sz_sR, y_sz_cpI, y_sz_cpL, y_sl_sI, y_sl_sL, y_sl_sR, y_sl_cpI, y_sl_cpL, y_gI_sL, y_gI_sR, y_gI_cpI, y_gI_cpL, y_gI_nw, y_gL_sI, y_gL_sR, y_gL_cpI, y_gL_cpL, y_gL_nw, y_gR_sI, y_gR_sL, y_gR_cpI, y_gR_cpL, y_gR_nw, y_kd_nw, y_ln_nw, y_sz_nw, y_sl_nw, y_fx_int, y_fx_long, y_fx_ref, y_fx_null, y_fx_U, y_rf_s, y_rf_n, a_inb, a_ix, a_lt, a_eq, a_eq0, a_lt0, a_0lt, a_m1, a_m2, a_mlt, a_sub, a_dec, a_div, a_rem, a_shl, a_shr, a_bit, a_bit0, a_II, a_Ia, a_Ik, a_LL, a_La, a_Lk, a_RR, a_Ra, a_Rk, a_if0, a_if1, y_mul, y_and, y_or, nI_add, y_b1, y_b0, kon_v, kon_0, true_or, or_true, and_self, true_and, and_true, false_or, or_false, and_false, false_and, not_true_eq_false, not_false_eq_true, ite_self, ↓reduceIte, Nat.reduceEqDiff, Nat.reduceLeDiff, Nat.reduceAdd, Nat.reduceMul, Nat.reduceSub, Nat.reduceLT, Nat.reduceShiftLeft, Nat.reduceOr, Nat.reduceAnd, j1, e2, nz1, i1, i2, i3, i5, i6, i91, i92, i93, i94, c1, c2, c4, t4]
      · rw [a_Ia (by omega), a_Ik (by decide), E]; exact v2
      · rw [a_Ia (by omega), a_Ik (by decide), E]; exact v3
      · rw [a_Ia (by omega), a_II]; rfl
      · rw [a_Ia (by omega), a_Ik (by decide), E]; exact v5
      · rw [a_Ia (by omega), a_Ik (by decide), E]; exact v6
      · unfold wgt
        have := bsum_top (w := fun p => pc8 (ats' p)) (fun p => pc8_le _)
        dsimp only [List.length_nil]
        omega
      · show rUn _ q (fun _ => gc n ats) (fun _ => 0) 1
        intro j hj
        have e : j = 0 := by omega
        subst e
        rw [a_II]
        exact ⟨rfl, t6, Nat.zero_le _⟩
      · rw [a_Ia (by omega), a_Ik (by decide), E]; exact v1
    · have hw : ¬ whl n (gc n ats) := fun z => hp (p1.2 z)
      rw [tst_f hw]
      rw [bZ_f hp] at e2
      have z0 : (nI 0 = (0 : Int32)) = True := eq_true (by decide)
      refine ⟨sI h2 q 4 (nI 2), ?_, ⟨f', ats', [], p2.I (by omega), p3, fun x hx => absurd hx List.not_mem_nil, ?_, ?_, a_II, ?_, ?_, fun z => absurd rfl z⟩, (s1.tr s2).tr (sam.I (by omega)), ?_⟩
      · simp (disch := omega) only [s_Search_open_0, s_Search_open_1, s_Search_open_2, s_Search_open_5, s_Search_open_6, s_Search_open_7, s_Search_open_10, s_Search_open_11, s_Search_open_12, s_Search_open_15, s_Search_open_16, s_Search_open_17, s_Search_open_20, s_Search_open_21, s_Search_open_22, s_Search_open_25, s_Search_open_28, s_Search_open_31, s_Search_open_32, s_Search_open_35, s_Search_open_38, s_Search_open_39, s_Search_open_40, s_Search_open_43, s_Search_open_46, s_Search_open_47, s_Search_open_50, s_Search_open_53, s_Search_open_56, s_Search_open_57, s_Search_open_58, s_Search_open_61, s_Search_open_62, s_Search_open_65, s_Search_open_66, s_Search_open_67, s_Search_open_70, s_Search_open_73, s_Search_open_76, s_Search_open_77, s_Search_open_78, s_Search_open_79, s_Search_open_80, s_Search_open_83, s_Search_open_84, s_Search_open_85, s_Search_open_88, y_kd_sI, y_kd_sL, y_kd_sR, y_kd_cpI, y_kd_cpL, y_ln_sI, y_ln_sL, y_ln_sR, y_ln_cpI, y_ln_cpL, y_sz_sI, y_sz_sL, y_sz_sR, y_sz_cpI, y_sz_cpL, y_sl_sI, y_sl_sL, y_sl_sR, y_sl_cpI, y_sl_cpL, y_gI_sL, y_gI_sR, y_gI_cpI, y_gI_cpL, y_gI_nw, y_gL_sI, y_gL_sR, y_gL_cpI, y_gL_cpL, y_gL_nw, y_gR_sI, y_gR_sL, y_gR_cpI, y_gR_cpL, y_gR_nw, y_kd_nw, y_ln_nw, y_sz_nw, y_sl_nw, y_fx_int, y_fx_long, y_fx_ref, y_fx_null, y_fx_U, y_rf_s, y_rf_n, a_inb, a_ix, a_lt, a_eq, a_eq0, a_lt0, a_0lt, a_m1, a_m2, a_mlt, a_sub, a_dec, a_div, a_rem, a_shl, a_shr, a_bit, a_bit0, a_II, a_Ia, a_Ik, a_LL, a_La, a_Lk, a_RR, a_Ra, a_Rk, a_if0, a_if1, y_mul, y_and, y_or, nI_add, y_b1, y_b0, kon_v, kon_0, true_or, or_true, and_self, true_and, and_true, false_or, or_false, and_false, false_and, not_true_eq_false, not_false_eq_true, ite_self, ↓reduceIte, Nat.reduceEqDiff, Nat.reduceLeDiff, Nat.reduceAdd, Nat.reduceMul, Nat.reduceSub, Nat.reduceLT, Nat.reduceShiftLeft, Nat.reduceOr, Nat.reduceAnd, j1, e2, z0, i1, i2, i3, i5, i6]
      · rw [a_Ik (by decide), E]; exact v2
      · rw [a_Ik (by decide), E]; exact v3
      · rw [a_Ik (by decide), E]; exact v5
      · rw [a_Ik (by decide), E]; exact v6
      · rw [a_Ik (by decide), E]; exact v1
end ZOP
