/-! the reference's search in the machine: a choice -/
section ZMC
variable {g : Nat → Nat} {h : zMem} {m n : Nat}
theorem l_copy {L : Nat} {v1 : Int32} (hL : L < 45) (ho : oMo h m) (h1 : gI h m 38 = nI L) : ∃ h' : zMem, ev g Mo_choose 27 [.ref m, .int v1, .int (nI 0)] [] h = ev g Mo_choose 63 [.ref m, .int v1, .int (nI 100)] [] h' ∧ mch m h h' ∧ (∀ i : Nat, i < 100 → gI h' (m + 36 + (L + 1)) i = gI h (m + 36 + L) i) ∧ (∀ b k : Nat, ¬ b = m + 36 + (L + 1) → gI h' b k = gI h b k) := by
  obtain ⟨x', h', e1, e2, e3, e4⟩ := l_loop (g := g) (M := Mo_choose) (pc := 27) (st := []) (n := 100) (fun i (_ : Unit) => [.ref m, .int v1, .int (nI i)]) (fun i _ h' => mch m h h' ∧ (∀ j : Nat, j < i → gI h' (m + 36 + (L + 1)) j = gI h (m + 36 + L) j) ∧ (∀ b k : Nat, ¬ b = m + 36 + (L + 1) → gI h' b k = gI h b k)) (fun i x h2 hi hh => by
    obtain ⟨i1, i2, i3⟩ := hh
    have o2 := i1.mo ho
    have q1 : gI h2 m 38 = nI L := (i3 m 38 (by omega)).trans h1
    have q2 : gI h2 (m + 36 + L) i = gI h (m + 36 + L) i := i3 _ _ (by omega)
    refine ⟨(), sI h2 (m + 36 + (L + 1)) i (gI h (m + 36 + L) i), ?_, i1.tr (mch.J (by omega)), fun j hj => ?_, fun b k hb => by rw [a_Ia hb]; exact i3 b k hb⟩
    · show ev g Mo_choose 27 [.ref m, .int v1, .int (nI i)] [] h2 = ev g Mo_choose 27 [.ref m, .int v1, .int (nI (i + 1))] [] _
      have hlt : (i < 100) = True := eq_true hi
      rw [s_Mo_choose_27]
      simp (disch := omega) only [s_Mo_choose_0, s_Mo_choose_1, s_Mo_choose_4, s_Mo_choose_5, s_Mo_choose_6, s_Mo_choose_9, s_Mo_choose_10, s_Mo_choose_13, s_Mo_choose_14, s_Mo_choose_15, s_Mo_choose_16, s_Mo_choose_17, s_Mo_choose_20, s_Mo_choose_21, s_Mo_choose_22, s_Mo_choose_25, s_Mo_choose_26, s_Mo_choose_28, s_Mo_choose_30, s_Mo_choose_33, s_Mo_choose_34, s_Mo_choose_37, s_Mo_choose_38, s_Mo_choose_41, s_Mo_choose_42, s_Mo_choose_43, s_Mo_choose_44, s_Mo_choose_45, s_Mo_choose_46, s_Mo_choose_49, s_Mo_choose_50, s_Mo_choose_53, s_Mo_choose_54, s_Mo_choose_55, s_Mo_choose_56, s_Mo_choose_57, s_Mo_choose_60, s_Mo_choose_64, s_Mo_choose_67, s_Mo_choose_68, s_Mo_choose_71, s_Mo_choose_72, s_Mo_choose_73, s_Mo_choose_74, s_Mo_choose_75, s_Mo_choose_78, s_Mo_choose_81, s_Mo_choose_82, s_Mo_choose_85, s_Mo_choose_88, s_Mo_choose_89, s_Mo_choose_90, s_Mo_choose_91, s_Mo_choose_94, s_Mo_choose_95, s_Mo_choose_96, s_Mo_choose_99, s_Mo_choose_100, s_Mo_choose_103, s_Mo_choose_104, s_Mo_choose_105, s_Mo_choose_106, s_Mo_choose_107, s_Mo_choose_110, s_Mo_choose_113, s_Mo_choose_116, s_Mo_choose_117, s_Mo_choose_118, s_Mo_choose_121, s_Mo_choose_122, s_Mo_choose_123, s_Mo_choose_126, s_Mo_choose_127, s_Mo_choose_130, s_Mo_choose_131, s_Mo_choose_134, s_Mo_choose_137, s_Mo_choose_138, s_Mo_choose_139, s_Mo_choose_142, s_Mo_choose_143, s_Mo_choose_144, s_Mo_choose_147, s_Mo_choose_148, s_Mo_choose_151, s_Mo_choose_152, s_Mo_choose_153, s_Mo_choose_156, s_Mo_choose_157, s_Mo_choose_158, s_Mo_choose_161, s_Mo_choose_162, s_Mo_choose_163, s_Mo_choose_166, s_Mo_choose_167, s_Mo_choose_170, s_Mo_choose_173, s_Mo_choose_174, s_Mo_choose_175, s_Mo_choose_178, s_Mo_choose_181, s_Mo_choose_182, s_Mo_choose_185, s_Mo_choose_188, s_Mo_choose_191, s_Mo_choose_192, s_Mo_choose_193, s_Mo_choose_196, y_kd_sI, y_kd_sL, y_kd_sR, y_kd_cpI, y_kd_cpL, y_ln_sI, y_ln_sL, y_ln_sR, y_ln_cpI, y_ln_cpL, y_sz_sI, y_sz_sL, y_sz_sR, y_sz_cpI, y_sz_cpL, y_sl_sI, y_sl_sL, y_sl_sR, y_sl_cpI, y_sl_cpL, y_gI_sL, y_gI_sR, y_gI_cpI, y_gI_cpL, y_gI_nw, y_gL_sI, y_gL_sR, y_gL_cpI, y_gL_cpL, y_gL_nw, y_gR_sI, y_gR_sL, y_gR_cpI, y_gR_cpL, y_gR_nw, y_kd_nw, y_ln_nw, y_sz_nw, y_sl_nw, y_fx_int, y_fx_long, y_fx_ref, y_fx_null, y_fx_U, y_rf_s, y_rf_n, a_inb, a_ix, a_lt, a_eq, a_eq0, a_lt0, a_0lt, a_m1, a_m2, a_mlt, a_sub, a_dec, a_div, a_rem, a_shl, a_shr, a_bit, a_bit0, a_II, a_Ia, a_Ik, a_LL, a_La, a_Lk, a_RR, a_Ra, a_Rk, a_if0, a_if1, y_mul, y_and, y_or, nI_add, y_b1, y_b0, kon_v, kon_0, true_or, or_true, and_self, true_and, and_true, false_or, or_false, and_false, false_and, not_true_eq_false, not_false_eq_true, ite_self, ↓reduceIte, Nat.reduceEqDiff, Nat.reduceLeDiff, Nat.reduceAdd, Nat.reduceMul, Nat.reduceSub, Nat.reduceLT, Nat.reduceShiftLeft, Nat.reduceOr, Nat.reduceAnd, Bool.false_eq_true, mo_k o2, mo_r0 o2, mo_k0 o2, mo_l0 o2, mo_r1 o2, mo_k1 o2, mo_l1 o2, mo_r2 o2, mo_k2 o2, mo_l2 o2, mo_r3 o2, mo_k3 o2, mo_l3 o2, mo_r4 o2, mo_k4 o2, mo_l4 o2, mo_r5 o2, mo_k5 o2, mo_l5 o2, mo_r6 o2, mo_k6 o2, mo_l6 o2, mo_r8 o2, mo_k8 o2, mo_l8 o2, mo_r10 o2, mo_k10 o2, mo_l10 o2, mo_r11 o2, mo_k11 o2, mo_l11 o2, mo_r12 o2, mo_k12 o2, mo_l12 o2, mo_r13 o2, mo_k13 o2, mo_l13 o2, mo_r14 o2, mo_k14 o2, mo_l14 o2, mo_r16 o2, mo_k16 o2, mo_l16 o2, mo_r17 o2, mo_k17 o2, mo_l17 o2, mo_r18 o2, mo_k18 o2, mo_l18 o2, mo_r19 o2, mo_k19 o2, mo_l19 o2, mo_r20 o2, mo_k20 o2, mo_l20 o2, mo_r21 o2, mo_k21 o2, mo_l21 o2, mo_r22 o2, mo_k22 o2, mo_l22 o2, mo_r23 o2, mo_k23 o2, mo_l23 o2, mo_r24 o2, mo_k24 o2, mo_l24 o2, mo_r25 o2, mo_k25 o2, mo_l25 o2, mo_r26 o2, mo_k26 o2, mo_l26 o2, mo_r29 o2, mo_k29 o2, mo_l29 o2, mo_r30 o2, mo_k30 o2, mo_l30 o2, mo_r36 o2, mo_k36 o2, mo_l36 o2, mo_r37 o2, mo_k37 o2, mo_l37 o2, mo_r49 o2, mo_k49 o2, mo_l49 o2, mo_r50 o2, mo_k50 o2, mo_l50 o2, mo_r51 o2, mo_k51 o2, mo_l51 o2, mo_r56 o2, mo_k56 o2, mo_l56 o2, mo_r62 o2, mo_k62 o2, mo_l62 o2, mo_r63 o2, mo_k63 o2, mo_l63 o2, mo_r66 o2, mo_k66 o2, mo_l66 o2, mo_row o2, mo_rowk o2, mo_rowl o2, mo_set o2, mo_setk o2, mo_setl o2, q1, q2, hlt]
    · by_cases c : j = i
      · rw [c, a_II]
      · rw [a_Ik c]; exact i2 j (by omega)) 100 0 () h (by omega) ⟨mch.rf, fun j hj => absurd hj (Nat.not_lt_zero j), fun _ _ _ => rfl⟩
  refine ⟨h', e1.trans ?_, e2, e3, e4⟩
  simp (disch := omega) only [s_Mo_choose_0, s_Mo_choose_1, s_Mo_choose_4, s_Mo_choose_5, s_Mo_choose_6, s_Mo_choose_9, s_Mo_choose_10, s_Mo_choose_13, s_Mo_choose_14, s_Mo_choose_15, s_Mo_choose_16, s_Mo_choose_17, s_Mo_choose_20, s_Mo_choose_21, s_Mo_choose_22, s_Mo_choose_25, s_Mo_choose_26, s_Mo_choose_27, s_Mo_choose_28, s_Mo_choose_30, s_Mo_choose_33, s_Mo_choose_34, s_Mo_choose_37, s_Mo_choose_38, s_Mo_choose_41, s_Mo_choose_42, s_Mo_choose_43, s_Mo_choose_44, s_Mo_choose_45, s_Mo_choose_46, s_Mo_choose_49, s_Mo_choose_50, s_Mo_choose_53, s_Mo_choose_54, s_Mo_choose_55, s_Mo_choose_56, s_Mo_choose_57, s_Mo_choose_60, s_Mo_choose_64, s_Mo_choose_67, s_Mo_choose_68, s_Mo_choose_71, s_Mo_choose_72, s_Mo_choose_73, s_Mo_choose_74, s_Mo_choose_75, s_Mo_choose_78, s_Mo_choose_81, s_Mo_choose_82, s_Mo_choose_85, s_Mo_choose_88, s_Mo_choose_89, s_Mo_choose_90, s_Mo_choose_91, s_Mo_choose_94, s_Mo_choose_95, s_Mo_choose_96, s_Mo_choose_99, s_Mo_choose_100, s_Mo_choose_103, s_Mo_choose_104, s_Mo_choose_105, s_Mo_choose_106, s_Mo_choose_107, s_Mo_choose_110, s_Mo_choose_113, s_Mo_choose_116, s_Mo_choose_117, s_Mo_choose_118, s_Mo_choose_121, s_Mo_choose_122, s_Mo_choose_123, s_Mo_choose_126, s_Mo_choose_127, s_Mo_choose_130, s_Mo_choose_131, s_Mo_choose_134, s_Mo_choose_137, s_Mo_choose_138, s_Mo_choose_139, s_Mo_choose_142, s_Mo_choose_143, s_Mo_choose_144, s_Mo_choose_147, s_Mo_choose_148, s_Mo_choose_151, s_Mo_choose_152, s_Mo_choose_153, s_Mo_choose_156, s_Mo_choose_157, s_Mo_choose_158, s_Mo_choose_161, s_Mo_choose_162, s_Mo_choose_163, s_Mo_choose_166, s_Mo_choose_167, s_Mo_choose_170, s_Mo_choose_173, s_Mo_choose_174, s_Mo_choose_175, s_Mo_choose_178, s_Mo_choose_181, s_Mo_choose_182, s_Mo_choose_185, s_Mo_choose_188, s_Mo_choose_191, s_Mo_choose_192, s_Mo_choose_193, s_Mo_choose_196, y_kd_sI, y_kd_sL, y_kd_sR, y_kd_cpI, y_kd_cpL, y_ln_sI, y_ln_sL, y_ln_sR, y_ln_cpI, y_ln_cpL, y_sz_sI, y_sz_sL, y_sz_sR, y_sz_cpI, y_sz_cpL, y_sl_sI, y_sl_sL, y_sl_sR, y_sl_cpI, y_sl_cpL, y_gI_sL, y_gI_sR, y_gI_cpI, y_gI_cpL, y_gI_nw, y_gL_sI, y_gL_sR, y_gL_cpI, y_gL_cpL, y_gL_nw, y_gR_sI, y_gR_sL, y_gR_cpI, y_gR_cpL, y_gR_nw, y_kd_nw, y_ln_nw, y_sz_nw, y_sl_nw, y_fx_int, y_fx_long, y_fx_ref, y_fx_null, y_fx_U, y_rf_s, y_rf_n, a_inb, a_ix, a_lt, a_eq, a_eq0, a_lt0, a_0lt, a_m1, a_m2, a_mlt, a_sub, a_dec, a_div, a_rem, a_shl, a_shr, a_bit, a_bit0, a_II, a_Ia, a_Ik, a_LL, a_La, a_Lk, a_RR, a_Ra, a_Rk, a_if0, a_if1, y_mul, y_and, y_or, nI_add, y_b1, y_b0, kon_v, kon_0, true_or, or_true, and_self, true_and, and_true, false_or, or_false, and_false, false_and, not_true_eq_false, not_false_eq_true, ite_self, ↓reduceIte, Nat.reduceEqDiff, Nat.reduceLeDiff, Nat.reduceAdd, Nat.reduceMul, Nat.reduceSub, Nat.reduceLT, Nat.reduceShiftLeft, Nat.reduceOr, Nat.reduceAnd, Bool.false_eq_true, Nat.lt_irrefl]
theorem b_back {L c b : Nat} {F : Nat → Nat → Nat} {T : Nat → Nat} {v1 v2 : Value} (hn : n ≤ 10) (hT : ∀ j : Nat, T j ≤ 8) (hL : L < n * (n - 1) / 2) (hc : c ≤ 20000) (ho : oMo h m) (h34 : gI h m 34 = nI n) (h35 : gI h m 35 = nI (n * (n - 1) / 2)) (h38 : gI h m 38 = nI L) (h39 : gI h m 39 = nI c) (h40 : gI h m 40 = nI b) (h41 : gI h m 41 = nI 0) (hv : rLv h m n F (L + 1)) (ht : rTr h m T (L + 1)) :
    ∃ h' : zMem, ev g Mo_choose 166 [.ref m, v1, v2] [] h = some (none, h') ∧ rMS h' m n (aBack c b F T (aK F T L)) ∧ mch m h h' ∧ chg m (fun k => k = 38 ∨ k = 41) h h' := by
  obtain ⟨h1, c1, cc⟩ := c_comeBack (g := g) hn hT L h hL ho h38 hv ht
  have a1 := mo_k ho
  have o1 := c1.mo ho
  have b1 := mo_k o1
  have E : ∀ k : Nat, ¬ k = 38 → gI h1 m k = gI h m k := c1.2.2.2.2.2.2.2
  have c1' : chg m (fun k => k = 38 ∨ k = 41) h h1 := ⟨c1.1, c1.2.1, c1.2.2.1, c1.2.2.2.1, c1.2.2.2.2.1, c1.2.2.2.2.2.1, c1.2.2.2.2.2.2.1, fun k hk => E k (fun e => hk (Or.inl e))⟩
  have m1 : mch m h h1 := c1.mc (fun k hk => by omega)
  rcases cc with ⟨k1, k2, k3⟩ | ⟨r, k1, k2, k3⟩
  · rw [k1]
    have z0 : (nI 0 = (0 : Int32)) = True := eq_true (by decide)
    refine ⟨sI h1 m 41 (nI 2), ?_, ⟨?_, ?_, ?_, ?_, ?_, a_II, fun z => absurd rfl z⟩, m1.tr (mch.I (by omega)), c1'.tr (chg.I (Or.inr rfl))⟩
    · simp (disch := omega) only [s_Mo_choose_0, s_Mo_choose_1, s_Mo_choose_4, s_Mo_choose_5, s_Mo_choose_6, s_Mo_choose_9, s_Mo_choose_10, s_Mo_choose_13, s_Mo_choose_14, s_Mo_choose_15, s_Mo_choose_16, s_Mo_choose_17, s_Mo_choose_20, s_Mo_choose_21, s_Mo_choose_22, s_Mo_choose_25, s_Mo_choose_26, s_Mo_choose_27, s_Mo_choose_28, s_Mo_choose_30, s_Mo_choose_33, s_Mo_choose_34, s_Mo_choose_37, s_Mo_choose_38, s_Mo_choose_41, s_Mo_choose_42, s_Mo_choose_43, s_Mo_choose_44, s_Mo_choose_45, s_Mo_choose_46, s_Mo_choose_49, s_Mo_choose_50, s_Mo_choose_53, s_Mo_choose_54, s_Mo_choose_55, s_Mo_choose_56, s_Mo_choose_57, s_Mo_choose_60, s_Mo_choose_63, s_Mo_choose_64, s_Mo_choose_67, s_Mo_choose_68, s_Mo_choose_71, s_Mo_choose_72, s_Mo_choose_73, s_Mo_choose_74, s_Mo_choose_75, s_Mo_choose_78, s_Mo_choose_81, s_Mo_choose_82, s_Mo_choose_85, s_Mo_choose_88, s_Mo_choose_89, s_Mo_choose_90, s_Mo_choose_91, s_Mo_choose_94, s_Mo_choose_95, s_Mo_choose_96, s_Mo_choose_99, s_Mo_choose_100, s_Mo_choose_103, s_Mo_choose_104, s_Mo_choose_105, s_Mo_choose_106, s_Mo_choose_107, s_Mo_choose_110, s_Mo_choose_113, s_Mo_choose_116, s_Mo_choose_117, s_Mo_choose_118, s_Mo_choose_121, s_Mo_choose_122, s_Mo_choose_123, s_Mo_choose_126, s_Mo_choose_127, s_Mo_choose_130, s_Mo_choose_131, s_Mo_choose_134, s_Mo_choose_137, s_Mo_choose_138, s_Mo_choose_139, s_Mo_choose_142, s_Mo_choose_143, s_Mo_choose_144, s_Mo_choose_147, s_Mo_choose_148, s_Mo_choose_151, s_Mo_choose_152, s_Mo_choose_153, s_Mo_choose_156, s_Mo_choose_157, s_Mo_choose_158, s_Mo_choose_161, s_Mo_choose_162, s_Mo_choose_163, s_Mo_choose_166, s_Mo_choose_167, s_Mo_choose_170, s_Mo_choose_173, s_Mo_choose_174, s_Mo_choose_175, s_Mo_choose_178, s_Mo_choose_181, s_Mo_choose_182, s_Mo_choose_185, s_Mo_choose_188, s_Mo_choose_191, s_Mo_choose_192, s_Mo_choose_193, s_Mo_choose_196, y_kd_sI, y_kd_sL, y_kd_sR, y_kd_cpI, y_kd_cpL, y_ln_sI, y_ln_sL, y_ln_sR, y_ln_cpI, y_ln_cpL, y_sz_sI, y_sz_sL, y_sz_sR, y_sz_cpI, y_sz_cpL, y_sl_sI, y_sl_sL, y_sl_sR, y_sl_cpI, y_sl_cpL, y_gI_sL, y_gI_sR, y_gI_cpI, y_gI_cpL, y_gI_nw, y_gL_sI, y_gL_sR, y_gL_cpI, y_gL_cpL, y_gL_nw, y_gR_sI, y_gR_sL, y_gR_cpI, y_gR_cpL, y_gR_nw, y_kd_nw, y_ln_nw, y_sz_nw, y_sl_nw, y_fx_int, y_fx_long, y_fx_ref, y_fx_null, y_fx_U, y_rf_s, y_rf_n, a_inb, a_ix, a_lt, a_eq, a_eq0, a_lt0, a_0lt, a_m1, a_m2, a_mlt, a_sub, a_dec, a_div, a_rem, a_shl, a_shr, a_bit, a_bit0, a_II, a_Ia, a_Ik, a_LL, a_La, a_Lk, a_RR, a_Ra, a_Rk, a_if0, a_if1, y_mul, y_and, y_or, nI_add, y_b1, y_b0, kon_v, kon_0, true_or, or_true, and_self, true_and, and_true, false_or, or_false, and_false, false_and, not_true_eq_false, not_false_eq_true, ite_self, ↓reduceIte, Nat.reduceEqDiff, Nat.reduceLeDiff, Nat.reduceAdd, Nat.reduceMul, Nat.reduceSub, Nat.reduceLT, Nat.reduceShiftLeft, Nat.reduceOr, Nat.reduceAnd, Bool.false_eq_true, a1, b1, k2, z0]
    · rw [a_Ik (by decide), E 34 (by decide)]; exact h34
    · rw [a_Ik (by decide), E 35 (by decide)]; exact h35
    · rw [a_Ik (by decide)]; exact k3
    · rw [a_Ik (by decide), E 39 (by decide)]; exact h39
    · rw [a_Ik (by decide), E 40 (by decide)]; exact h40
  · rw [k1]
    obtain ⟨rl, -⟩ := aK_le L r k1
    have z1 : (nI 1 = (0 : Int32)) = False := eq_false (by decide)
    have d39 : gI h1 m 39 = nI c := (E 39 (by decide)).trans h39
    have hv1 : ∀ h2 : zMem, (∀ b k : Nat, ¬ b = m → gI h2 b k = gI h b k) → rLv h2 m n F (r + 1) ∧ rTr h2 m T (r + 1) := fun h2 e2 => ⟨fun j hj => by
      obtain ⟨G, g1, g2, g3⟩ := hv j (by omega)
      exact ⟨G, fun a b ha hb => by rw [e2 _ _ (by omega)]; exact g1 a b ha hb, g2, g3⟩, fun j hj => by rw [e2 _ _ (by omega)]; exact ht j (by omega)⟩
    by_cases zc : c = 20000
    · refine ⟨sI h1 m 41 (nI 3), ?_, ⟨?_, ?_, ?_, ?_, ?_, ?_, fun _ _ => ?_⟩, m1.tr (mch.I (by omega)), c1'.tr (chg.I (Or.inr rfl))⟩
      · have zt := eq_true zc
        simp (disch := omega) only [s_Mo_choose_0, s_Mo_choose_1, s_Mo_choose_4, s_Mo_choose_5, s_Mo_choose_6, s_Mo_choose_9, s_Mo_choose_10, s_Mo_choose_13, s_Mo_choose_14, s_Mo_choose_15, s_Mo_choose_16, s_Mo_choose_17, s_Mo_choose_20, s_Mo_choose_21, s_Mo_choose_22, s_Mo_choose_25, s_Mo_choose_26, s_Mo_choose_27, s_Mo_choose_28, s_Mo_choose_30, s_Mo_choose_33, s_Mo_choose_34, s_Mo_choose_37, s_Mo_choose_38, s_Mo_choose_41, s_Mo_choose_42, s_Mo_choose_43, s_Mo_choose_44, s_Mo_choose_45, s_Mo_choose_46, s_Mo_choose_49, s_Mo_choose_50, s_Mo_choose_53, s_Mo_choose_54, s_Mo_choose_55, s_Mo_choose_56, s_Mo_choose_57, s_Mo_choose_60, s_Mo_choose_63, s_Mo_choose_64, s_Mo_choose_67, s_Mo_choose_68, s_Mo_choose_71, s_Mo_choose_72, s_Mo_choose_73, s_Mo_choose_74, s_Mo_choose_75, s_Mo_choose_78, s_Mo_choose_81, s_Mo_choose_82, s_Mo_choose_85, s_Mo_choose_88, s_Mo_choose_89, s_Mo_choose_90, s_Mo_choose_91, s_Mo_choose_94, s_Mo_choose_95, s_Mo_choose_96, s_Mo_choose_99, s_Mo_choose_100, s_Mo_choose_103, s_Mo_choose_104, s_Mo_choose_105, s_Mo_choose_106, s_Mo_choose_107, s_Mo_choose_110, s_Mo_choose_113, s_Mo_choose_116, s_Mo_choose_117, s_Mo_choose_118, s_Mo_choose_121, s_Mo_choose_122, s_Mo_choose_123, s_Mo_choose_126, s_Mo_choose_127, s_Mo_choose_130, s_Mo_choose_131, s_Mo_choose_134, s_Mo_choose_137, s_Mo_choose_138, s_Mo_choose_139, s_Mo_choose_142, s_Mo_choose_143, s_Mo_choose_144, s_Mo_choose_147, s_Mo_choose_148, s_Mo_choose_151, s_Mo_choose_152, s_Mo_choose_153, s_Mo_choose_156, s_Mo_choose_157, s_Mo_choose_158, s_Mo_choose_161, s_Mo_choose_162, s_Mo_choose_163, s_Mo_choose_166, s_Mo_choose_167, s_Mo_choose_170, s_Mo_choose_173, s_Mo_choose_174, s_Mo_choose_175, s_Mo_choose_178, s_Mo_choose_181, s_Mo_choose_182, s_Mo_choose_185, s_Mo_choose_188, s_Mo_choose_191, s_Mo_choose_192, s_Mo_choose_193, s_Mo_choose_196, y_kd_sI, y_kd_sL, y_kd_sR, y_kd_cpI, y_kd_cpL, y_ln_sI, y_ln_sL, y_ln_sR, y_ln_cpI, y_ln_cpL, y_sz_sI, y_sz_sL, y_sz_sR, y_sz_cpI, y_sz_cpL, y_sl_sI, y_sl_sL, y_sl_sR, y_sl_cpI, y_sl_cpL, y_gI_sL, y_gI_sR, y_gI_cpI, y_gI_cpL, y_gI_nw, y_gL_sI, y_gL_sR, y_gL_cpI, y_gL_cpL, y_gL_nw, y_gR_sI, y_gR_sL, y_gR_cpI, y_gR_cpL, y_gR_nw, y_kd_nw, y_ln_nw, y_sz_nw, y_sl_nw, y_fx_int, y_fx_long, y_fx_ref, y_fx_null, y_fx_U, y_rf_s, y_rf_n, a_inb, a_ix, a_lt, a_eq, a_eq0, a_lt0, a_0lt, a_m1, a_m2, a_mlt, a_sub, a_dec, a_div, a_rem, a_shl, a_shr, a_bit, a_bit0, a_II, a_Ia, a_Ik, a_LL, a_La, a_Lk, a_RR, a_Ra, a_Rk, a_if0, a_if1, y_mul, y_and, y_or, nI_add, y_b1, y_b0, kon_v, kon_0, true_or, or_true, and_self, true_and, and_true, false_or, or_false, and_false, false_and, not_true_eq_false, not_false_eq_true, ite_self, ↓reduceIte, Nat.reduceEqDiff, Nat.reduceLeDiff, Nat.reduceAdd, Nat.reduceMul, Nat.reduceSub, Nat.reduceLT, Nat.reduceShiftLeft, Nat.reduceOr, Nat.reduceAnd, Bool.false_eq_true, a1, b1, k2, z1, d39, zt]
      · rw [a_Ik (by decide), E 34 (by decide)]; exact h34
      · rw [a_Ik (by decide), E 35 (by decide)]; exact h35
      · rw [a_Ik (by decide)]; exact k3
      · rw [a_Ik (by decide)]; exact d39
      · rw [a_Ik (by decide), E 40 (by decide)]; exact h40
      · rw [a_II]
        show nI 3 = nI (if c = 20000 then 3 else 0)
        rw [if_pos zc]
      · have e3 : aS (aBack c b F T (some r)) = 3 := if_pos zc
        rw [e3, if_neg (by decide)]
        exact hv1 _ (fun b k hb => by rw [a_Ia hb]; exact c1.2.2.2.2.2.2.1 b k hb)
    · refine ⟨h1, ?_, ⟨?_, ?_, k3, d39, ?_, ?_, fun _ _ => ?_⟩, m1, c1'⟩
      · have zt := eq_false zc
        simp (disch := omega) only [s_Mo_choose_0, s_Mo_choose_1, s_Mo_choose_4, s_Mo_choose_5, s_Mo_choose_6, s_Mo_choose_9, s_Mo_choose_10, s_Mo_choose_13, s_Mo_choose_14, s_Mo_choose_15, s_Mo_choose_16, s_Mo_choose_17, s_Mo_choose_20, s_Mo_choose_21, s_Mo_choose_22, s_Mo_choose_25, s_Mo_choose_26, s_Mo_choose_27, s_Mo_choose_28, s_Mo_choose_30, s_Mo_choose_33, s_Mo_choose_34, s_Mo_choose_37, s_Mo_choose_38, s_Mo_choose_41, s_Mo_choose_42, s_Mo_choose_43, s_Mo_choose_44, s_Mo_choose_45, s_Mo_choose_46, s_Mo_choose_49, s_Mo_choose_50, s_Mo_choose_53, s_Mo_choose_54, s_Mo_choose_55, s_Mo_choose_56, s_Mo_choose_57, s_Mo_choose_60, s_Mo_choose_63, s_Mo_choose_64, s_Mo_choose_67, s_Mo_choose_68, s_Mo_choose_71, s_Mo_choose_72, s_Mo_choose_73, s_Mo_choose_74, s_Mo_choose_75, s_Mo_choose_78, s_Mo_choose_81, s_Mo_choose_82, s_Mo_choose_85, s_Mo_choose_88, s_Mo_choose_89, s_Mo_choose_90, s_Mo_choose_91, s_Mo_choose_94, s_Mo_choose_95, s_Mo_choose_96, s_Mo_choose_99, s_Mo_choose_100, s_Mo_choose_103, s_Mo_choose_104, s_Mo_choose_105, s_Mo_choose_106, s_Mo_choose_107, s_Mo_choose_110, s_Mo_choose_113, s_Mo_choose_116, s_Mo_choose_117, s_Mo_choose_118, s_Mo_choose_121, s_Mo_choose_122, s_Mo_choose_123, s_Mo_choose_126, s_Mo_choose_127, s_Mo_choose_130, s_Mo_choose_131, s_Mo_choose_134, s_Mo_choose_137, s_Mo_choose_138, s_Mo_choose_139, s_Mo_choose_142, s_Mo_choose_143, s_Mo_choose_144, s_Mo_choose_147, s_Mo_choose_148, s_Mo_choose_151, s_Mo_choose_152, s_Mo_choose_153, s_Mo_choose_156, s_Mo_choose_157, s_Mo_choose_158, s_Mo_choose_161, s_Mo_choose_162, s_Mo_choose_163, s_Mo_choose_166, s_Mo_choose_167, s_Mo_choose_170, s_Mo_choose_173, s_Mo_choose_174, s_Mo_choose_175, s_Mo_choose_178, s_Mo_choose_181, s_Mo_choose_182, s_Mo_choose_185, s_Mo_choose_188, s_Mo_choose_191, s_Mo_choose_192, s_Mo_choose_193, s_Mo_choose_196, y_kd_sI, y_kd_sL, y_kd_sR, y_kd_cpI, y_kd_cpL, y_ln_sI, y_ln_sL, y_ln_sR, y_ln_cpI, y_ln_cpL, y_sz_sI, y_sz_sL, y_sz_sR, y_sz_cpI, y_sz_cpL, y_sl_sI, y_sl_sL, y_sl_sR, y_sl_cpI, y_sl_cpL, y_gI_sL, y_gI_sR, y_gI_cpI, y_gI_cpL, y_gI_nw, y_gL_sI, y_gL_sR, y_gL_cpI, y_gL_cpL, y_gL_nw, y_gR_sI, y_gR_sL, y_gR_cpI, y_gR_cpL, y_gR_nw, y_kd_nw, y_ln_nw, y_sz_nw, y_sl_nw, y_fx_int, y_fx_long, y_fx_ref, y_fx_null, y_fx_U, y_rf_s, y_rf_n, a_inb, a_ix, a_lt, a_eq, a_eq0, a_lt0, a_0lt, a_m1, a_m2, a_mlt, a_sub, a_dec, a_div, a_rem, a_shl, a_shr, a_bit, a_bit0, a_II, a_Ia, a_Ik, a_LL, a_La, a_Lk, a_RR, a_Ra, a_Rk, a_if0, a_if1, y_mul, y_and, y_or, nI_add, y_b1, y_b0, kon_v, kon_0, true_or, or_true, and_self, true_and, and_true, false_or, or_false, and_false, false_and, not_true_eq_false, not_false_eq_true, ite_self, ↓reduceIte, Nat.reduceEqDiff, Nat.reduceLeDiff, Nat.reduceAdd, Nat.reduceMul, Nat.reduceSub, Nat.reduceLT, Nat.reduceShiftLeft, Nat.reduceOr, Nat.reduceAnd, Bool.false_eq_true, a1, b1, k2, z1, d39, zt]
      · rw [E 34 (by decide)]; exact h34
      · rw [E 35 (by decide)]; exact h35
      · rw [E 40 (by decide)]; exact h40
      · rw [E 41 (by decide), h41]
        show nI 0 = nI (if c = 20000 then 3 else 0)
        rw [if_neg zc]
      · have e3 : aS (aBack c b F T (some r)) = 0 := if_neg zc
        rw [e3, if_neg (by decide)]
        exact hv1 _ (fun b k hb => c1.2.2.2.2.2.2.1 b k hb)
theorem c_Mo_choose {A : aA} (hn : n ≤ 10) (ho : oMo h m) (hT : cT g h 2) (hg : g 2 < m) (hK : kW h m) (hr : rMS h m n A) (hA : aOK n A) (hy : aSy n A) (h0 : aS A = 0) :
    ∃ h' : zMem, call g Mo_choose [.ref m] h = some (none, h') ∧ rMS h' m n (aStep n A) ∧ kW h' m ∧ mch m h h' ∧ gI h' m 53 = gI h m 53 := by
  obtain ⟨A1, A2, A3, A4, A5, A6, A7, A8, A9, A10⟩ := hA
  obtain ⟨g1, g2⟩ := A7 (Or.inl h0)
  have g3 := A10 h0
  have hP : 0 < n * (n - 1) / 2 := by omega
  have h45 := pn_le hn
  obtain ⟨r1, r2, r3, r4, r5, r6, r7⟩ := hr
  obtain ⟨w1, w2⟩ := r7 (by omega) hP
  rw [if_neg (by omega)] at w2
  have F0 := A6 (by omega) hP (aL A) (Nat.le_refl _)
  have hyL := hy (aL A) (Nat.le_refl _)
  unfold aStep
  generalize aL A = L at g1 g2 r3 w1 w2 F0 A6 hyL ⊢
  generalize aF A = F at g2 w1 F0 A6 hyL ⊢
  generalize aT A = T at g2 w2 A5 ⊢
  generalize aC A = ch at A1 A2 g3 r4 ⊢
  generalize aB A = bl at A2 r5 ⊢
  rw [h0] at r6
  have hL45 : L < 45 := by omega
  obtain ⟨p1, p2⟩ := pP_lt hL45
  have p3 := (pP_n hn hL45).2 g1
  have ep : pP L / 10 * 10 + pP L % 10 = pP L := by omega
  obtain ⟨x1, x2⟩ := w1.at hn (Nat.lt_succ_self L) g1
  have nw := q_Mo_nextWay (g := g) ho hL45 r3 (w2 L (by omega)) x1 x2 (A5 L)
  obtain ⟨y1, y2, y3, y4⟩ := un1 ⟨F L (pP L), x2⟩ ⟨T L, by have := A5 L; omega⟩ g2
  dsimp only at y1 y2 y3 y4
  generalize hwq : nx (F L (pP L)) (T L) = w at g2 y1 y2 y3 y4 nw ⊢
  have a1 := mo_k ho
  -- up to the copy
  have go1 : call g Mo_choose [.ref m] h = ev g Mo_choose 27 [.ref m, .int (nI w), .int (nI 0)] [] (sI (sI h (m + 82) L (nI w)) m 39 (nI (ch + 1))) := by
    rw [n_Mo_choose]
    simp (disch := omega) only [s_Mo_choose_0, s_Mo_choose_1, s_Mo_choose_4, s_Mo_choose_5, s_Mo_choose_6, s_Mo_choose_9, s_Mo_choose_10, s_Mo_choose_13, s_Mo_choose_14, s_Mo_choose_15, s_Mo_choose_16, s_Mo_choose_17, s_Mo_choose_20, s_Mo_choose_21, s_Mo_choose_22, s_Mo_choose_25, s_Mo_choose_26, s_Mo_choose_28, s_Mo_choose_30, s_Mo_choose_33, s_Mo_choose_34, s_Mo_choose_37, s_Mo_choose_38, s_Mo_choose_41, s_Mo_choose_42, s_Mo_choose_43, s_Mo_choose_44, s_Mo_choose_45, s_Mo_choose_46, s_Mo_choose_49, s_Mo_choose_50, s_Mo_choose_53, s_Mo_choose_54, s_Mo_choose_55, s_Mo_choose_56, s_Mo_choose_57, s_Mo_choose_60, s_Mo_choose_63, s_Mo_choose_64, s_Mo_choose_67, s_Mo_choose_68, s_Mo_choose_71, s_Mo_choose_72, s_Mo_choose_73, s_Mo_choose_74, s_Mo_choose_75, s_Mo_choose_78, s_Mo_choose_81, s_Mo_choose_82, s_Mo_choose_85, s_Mo_choose_88, s_Mo_choose_89, s_Mo_choose_90, s_Mo_choose_91, s_Mo_choose_94, s_Mo_choose_95, s_Mo_choose_96, s_Mo_choose_99, s_Mo_choose_100, s_Mo_choose_103, s_Mo_choose_104, s_Mo_choose_105, s_Mo_choose_106, s_Mo_choose_107, s_Mo_choose_110, s_Mo_choose_113, s_Mo_choose_116, s_Mo_choose_117, s_Mo_choose_118, s_Mo_choose_121, s_Mo_choose_122, s_Mo_choose_123, s_Mo_choose_126, s_Mo_choose_127, s_Mo_choose_130, s_Mo_choose_131, s_Mo_choose_134, s_Mo_choose_137, s_Mo_choose_138, s_Mo_choose_139, s_Mo_choose_142, s_Mo_choose_143, s_Mo_choose_144, s_Mo_choose_147, s_Mo_choose_148, s_Mo_choose_151, s_Mo_choose_152, s_Mo_choose_153, s_Mo_choose_156, s_Mo_choose_157, s_Mo_choose_158, s_Mo_choose_161, s_Mo_choose_162, s_Mo_choose_163, s_Mo_choose_166, s_Mo_choose_167, s_Mo_choose_170, s_Mo_choose_173, s_Mo_choose_174, s_Mo_choose_175, s_Mo_choose_178, s_Mo_choose_181, s_Mo_choose_182, s_Mo_choose_185, s_Mo_choose_188, s_Mo_choose_191, s_Mo_choose_192, s_Mo_choose_193, s_Mo_choose_196, y_kd_sI, y_kd_sL, y_kd_sR, y_kd_cpI, y_kd_cpL, y_ln_sI, y_ln_sL, y_ln_sR, y_ln_cpI, y_ln_cpL, y_sz_sI, y_sz_sL, y_sz_sR, y_sz_cpI, y_sz_cpL, y_sl_sI, y_sl_sL, y_sl_sR, y_sl_cpI, y_sl_cpL, y_gI_sL, y_gI_sR, y_gI_cpI, y_gI_cpL, y_gI_nw, y_gL_sI, y_gL_sR, y_gL_cpI, y_gL_cpL, y_gL_nw, y_gR_sI, y_gR_sL, y_gR_cpI, y_gR_cpL, y_gR_nw, y_kd_nw, y_ln_nw, y_sz_nw, y_sl_nw, y_fx_int, y_fx_long, y_fx_ref, y_fx_null, y_fx_U, y_rf_s, y_rf_n, a_inb, a_ix, a_lt, a_eq, a_eq0, a_lt0, a_0lt, a_m1, a_m2, a_mlt, a_sub, a_dec, a_div, a_rem, a_shl, a_shr, a_bit, a_bit0, a_II, a_Ia, a_Ik, a_LL, a_La, a_Lk, a_RR, a_Ra, a_Rk, a_if0, a_if1, y_mul, y_and, y_or, nI_add, y_b1, y_b0, kon_v, kon_0, true_or, or_true, and_self, true_and, and_true, false_or, or_false, and_false, false_and, not_true_eq_false, not_false_eq_true, ite_self, ↓reduceIte, Nat.reduceEqDiff, Nat.reduceLeDiff, Nat.reduceAdd, Nat.reduceMul, Nat.reduceSub, Nat.reduceLT, Nat.reduceShiftLeft, Nat.reduceOr, Nat.reduceAnd, Bool.false_eq_true, mo_k ho, mo_r0 ho, mo_k0 ho, mo_l0 ho, mo_r1 ho, mo_k1 ho, mo_l1 ho, mo_r2 ho, mo_k2 ho, mo_l2 ho, mo_r3 ho, mo_k3 ho, mo_l3 ho, mo_r4 ho, mo_k4 ho, mo_l4 ho, mo_r5 ho, mo_k5 ho, mo_l5 ho, mo_r6 ho, mo_k6 ho, mo_l6 ho, mo_r8 ho, mo_k8 ho, mo_l8 ho, mo_r10 ho, mo_k10 ho, mo_l10 ho, mo_r11 ho, mo_k11 ho, mo_l11 ho, mo_r12 ho, mo_k12 ho, mo_l12 ho, mo_r13 ho, mo_k13 ho, mo_l13 ho, mo_r14 ho, mo_k14 ho, mo_l14 ho, mo_r16 ho, mo_k16 ho, mo_l16 ho, mo_r17 ho, mo_k17 ho, mo_l17 ho, mo_r18 ho, mo_k18 ho, mo_l18 ho, mo_r19 ho, mo_k19 ho, mo_l19 ho, mo_r20 ho, mo_k20 ho, mo_l20 ho, mo_r21 ho, mo_k21 ho, mo_l21 ho, mo_r22 ho, mo_k22 ho, mo_l22 ho, mo_r23 ho, mo_k23 ho, mo_l23 ho, mo_r24 ho, mo_k24 ho, mo_l24 ho, mo_r25 ho, mo_k25 ho, mo_l25 ho, mo_r26 ho, mo_k26 ho, mo_l26 ho, mo_r29 ho, mo_k29 ho, mo_l29 ho, mo_r30 ho, mo_k30 ho, mo_l30 ho, mo_r36 ho, mo_k36 ho, mo_l36 ho, mo_r37 ho, mo_k37 ho, mo_l37 ho, mo_r49 ho, mo_k49 ho, mo_l49 ho, mo_r50 ho, mo_k50 ho, mo_l50 ho, mo_r51 ho, mo_k51 ho, mo_l51 ho, mo_r56 ho, mo_k56 ho, mo_l56 ho, mo_r62 ho, mo_k62 ho, mo_l62 ho, mo_r63 ho, mo_k63 ho, mo_l63 ho, mo_r66 ho, mo_k66 ho, mo_l66 ho, mo_row ho, mo_rowk ho, mo_rowl ho, mo_set ho, mo_setk ho, mo_setl ho, nw, r3, r4]
  rw [go1]
  have s1 : mch m h (sI (sI h (m + 82) L (nI w)) m 39 (nI (ch + 1))) := (mch.J (by omega)).tr (mch.I (by omega))
  have e1 : ∀ b k : Nat, ¬ b = m → ¬ b = m + 82 → gI (sI (sI h (m + 82) L (nI w)) m 39 (nI (ch + 1))) b k = gI h b k := fun b k c1 c2 => by rw [a_Ia c1, a_Ia c2]
  have e2 : ∀ k : Nat, gI (sI (sI h (m + 82) L (nI w)) m 39 (nI (ch + 1))) m k = if k = 39 then nI (ch + 1) else gI h m k := fun k => by
    rw [y_gI_sI, a_Ia (by omega)]
    simp only [true_and]
  have e3 : ∀ k : Nat, gI (sI (sI h (m + 82) L (nI w)) m 39 (nI (ch + 1))) (m + 82) k = if k = L then nI w else gI h (m + 82) k := fun k => by
    rw [a_Ia (by omega), y_gI_sI]
    simp only [true_and]
  generalize sI (sI h (m + 82) L (nI w)) m 39 (nI (ch + 1)) = h1 at s1 e1 e2 e3 ⊢
  have o1 := s1.mo ho
  have e38 : gI h1 m 38 = nI L := (e2 38).trans r3
  obtain ⟨h2, f1, f2, f3, f4⟩ := l_copy (g := g) (v1 := nI w) hL45 o1 e38
  rw [f1]
  have s2 := s1.tr f2
  have o2 := f2.mo o1
  obtain ⟨G, G1, G2, G3⟩ := w1 L (Nat.lt_succ_self L)
  have q1 : ∀ i : Nat, i < 100 → gI h2 (m + 36 + (L + 1)) i = gI h (m + 36 + L) i := fun i hi => (f3 i hi).trans (e1 _ _ (by omega) (by omega))
  have q2 : ∀ b k : Nat, ¬ b = m → ¬ b = m + 82 → ¬ b = m + 36 + (L + 1) → gI h2 b k = gI h b k := fun b k c1 c2 c3 => (f4 b k c3).trans (e1 b k c1 c2)
  have q3 : ∀ k : Nat, gI h2 m k = if k = 39 then nI (ch + 1) else gI h m k := fun k => (f4 m k (by omega)).trans (e2 k)
  have q4 : ∀ k : Nat, gI h2 (m + 82) k = if k = L then nI w else gI h (m + 82) k := fun k => (f4 _ k (by omega)).trans (e3 k)
  have u1 : gI h2 (m + 36 + (L + 1)) (pP L / 10 * 10 + pP L % 10) = nI (G (pP L / 10 * 10 + pP L % 10)) := (q1 _ (by omega)).trans (G1 _ _ (by omega) p3).1
  have u2 : gI h2 (m + 36 + (L + 1)) (pP L % 10 * 10 + pP L / 10) = nI (G (pP L % 10 * 10 + pP L / 10)) := (q1 _ (by omega)).trans (G1 _ _ p3 (by omega)).1
  have w8 : (2 : Nat) ^ w < 256 := Nat.lt_of_le_of_lt (Nat.pow_le_pow_right (by decide) (show w ≤ 7 by omega)) (by decide)
  have ls := q_Mo_less (g := g) (s := 2 ^ w) (show pP L / 10 < 10 by omega) (show pP L % 10 < 10 by omega) (show ¬ pP L / 10 = pP L % 10 by omega) (mo_setk o2 (show L + 1 < 46 by omega)) (mo_setl o2 (show L + 1 < 46 by omega)) u1 u2 w8
  rw [ep] at u1 ls
  have gA : G (pP L) = F L (pP L) := by
    have := G2 (pP L / 10) (pP L % 10) (by omega) p3 (by omega)
    rw [ep] at this
    exact this
  have gB : G (pP L % 10 * 10 + pP L / 10) = tur (F L (pP L)) := by
    rw [G2 (pP L % 10) (pP L / 10) p3 (by omega) (by omega), hyL (pP L / 10) (pP L % 10) (by omega) p3 (by omega), ep]
  -- the row with the choice in it
  have hrow : ∃ G' : Nat → Nat, rRow (sI (sI h2 (m + 36 + (L + 1)) (pP L) (nI (G (pP L) &&& 2 ^ w))) (m + 36 + (L + 1)) (pP L % 10 * 10 + pP L / 10) (nI (G (pP L % 10 * 10 + pP L / 10) &&& tur (2 ^ w)))) (m + 36 + (L + 1)) n G' ∧ eqv n G' (lsF (F L) (pP L) w) ∧ dia n G' := by
    refine ⟨lsF G (pP L) w, fun a b ha hb => ?_, lsF_eqv hn p1 p3 G2, fun a ha => ?_⟩
    · unfold lsF pAt
      by_cases c1 : a * 10 + b = pP L % 10 * 10 + pP L / 10
      · rw [if_pos c1, c1, a_II, gB, gA, ← tur_and x2 w8]
        exact ⟨rfl, tur_lt (Nat.lt_of_le_of_lt Nat.and_le_left x2)⟩
      · rw [if_neg c1, a_Ik c1]
        by_cases c2 : a * 10 + b = pP L
        · rw [if_pos c2, c2, a_II, gA]
          exact ⟨rfl, Nat.lt_of_le_of_lt Nat.and_le_left x2⟩
        · rw [if_neg c2, a_Ik c2, q1 _ (by omega)]
          exact G1 a b ha hb
    · unfold lsF pAt
      rw [if_neg (by omega), if_neg (by omega)]
      exact G3 a ha
  obtain ⟨G', K1, K2, K3⟩ := hrow
  have s3 : mch m h2 (sI (sI h2 (m + 36 + (L + 1)) (pP L) (nI (G (pP L) &&& 2 ^ w))) (m + 36 + (L + 1)) (pP L % 10 * 10 + pP L / 10) (nI (G (pP L % 10 * 10 + pP L / 10) &&& tur (2 ^ w)))) := (mch.J (by omega)).tr (mch.J (by omega))
  have e4 : ∀ b k : Nat, ¬ b = m + 36 + (L + 1) → gI (sI (sI h2 (m + 36 + (L + 1)) (pP L) (nI (G (pP L) &&& 2 ^ w))) (m + 36 + (L + 1)) (pP L % 10 * 10 + pP L / 10) (nI (G (pP L % 10 * 10 + pP L / 10) &&& tur (2 ^ w)))) b k = gI h2 b k := fun b k hb => by rw [a_Ia hb, a_Ia hb]
  have e0 : (1 : Nat) <<< w = 2 ^ w := Nat.one_shiftLeft w
  have q38 : gI h2 m 38 = nI L := (q3 38).trans r3
  have a2 := mo_k o2
  have go2 : ev g Mo_choose 63 [.ref m, .int (nI w), .int (nI 100)] [] h2 = ev g Mo_choose 94 [.ref m, .int (nI w), .int (nI 100)] [] (sI (sI h2 (m + 36 + (L + 1)) (pP L) (nI (G (pP L) &&& 2 ^ w))) (m + 36 + (L + 1)) (pP L % 10 * 10 + pP L / 10) (nI (G (pP L % 10 * 10 + pP L / 10) &&& tur (2 ^ w)))) := by
    simp (disch := omega) only [s_Mo_choose_0, s_Mo_choose_1, s_Mo_choose_4, s_Mo_choose_5, s_Mo_choose_6, s_Mo_choose_9, s_Mo_choose_10, s_Mo_choose_13, s_Mo_choose_14, s_Mo_choose_15, s_Mo_choose_16, s_Mo_choose_17, s_Mo_choose_20, s_Mo_choose_21, s_Mo_choose_22, s_Mo_choose_25, s_Mo_choose_26, s_Mo_choose_28, s_Mo_choose_30, s_Mo_choose_33, s_Mo_choose_34, s_Mo_choose_37, s_Mo_choose_38, s_Mo_choose_41, s_Mo_choose_42, s_Mo_choose_43, s_Mo_choose_44, s_Mo_choose_45, s_Mo_choose_46, s_Mo_choose_49, s_Mo_choose_50, s_Mo_choose_53, s_Mo_choose_54, s_Mo_choose_55, s_Mo_choose_56, s_Mo_choose_57, s_Mo_choose_60, s_Mo_choose_63, s_Mo_choose_64, s_Mo_choose_67, s_Mo_choose_68, s_Mo_choose_71, s_Mo_choose_72, s_Mo_choose_73, s_Mo_choose_74, s_Mo_choose_75, s_Mo_choose_78, s_Mo_choose_81, s_Mo_choose_82, s_Mo_choose_85, s_Mo_choose_88, s_Mo_choose_89, s_Mo_choose_90, s_Mo_choose_91, s_Mo_choose_95, s_Mo_choose_96, s_Mo_choose_99, s_Mo_choose_100, s_Mo_choose_103, s_Mo_choose_104, s_Mo_choose_105, s_Mo_choose_106, s_Mo_choose_107, s_Mo_choose_110, s_Mo_choose_113, s_Mo_choose_116, s_Mo_choose_117, s_Mo_choose_118, s_Mo_choose_121, s_Mo_choose_122, s_Mo_choose_123, s_Mo_choose_126, s_Mo_choose_127, s_Mo_choose_130, s_Mo_choose_131, s_Mo_choose_134, s_Mo_choose_137, s_Mo_choose_138, s_Mo_choose_139, s_Mo_choose_142, s_Mo_choose_143, s_Mo_choose_144, s_Mo_choose_147, s_Mo_choose_148, s_Mo_choose_151, s_Mo_choose_152, s_Mo_choose_153, s_Mo_choose_156, s_Mo_choose_157, s_Mo_choose_158, s_Mo_choose_161, s_Mo_choose_162, s_Mo_choose_163, s_Mo_choose_166, s_Mo_choose_167, s_Mo_choose_170, s_Mo_choose_173, s_Mo_choose_174, s_Mo_choose_175, s_Mo_choose_178, s_Mo_choose_181, s_Mo_choose_182, s_Mo_choose_185, s_Mo_choose_188, s_Mo_choose_191, s_Mo_choose_192, s_Mo_choose_193, s_Mo_choose_196, y_kd_sI, y_kd_sL, y_kd_sR, y_kd_cpI, y_kd_cpL, y_ln_sI, y_ln_sL, y_ln_sR, y_ln_cpI, y_ln_cpL, y_sz_sI, y_sz_sL, y_sz_sR, y_sz_cpI, y_sz_cpL, y_sl_sI, y_sl_sL, y_sl_sR, y_sl_cpI, y_sl_cpL, y_gI_sL, y_gI_sR, y_gI_cpI, y_gI_cpL, y_gI_nw, y_gL_sI, y_gL_sR, y_gL_cpI, y_gL_cpL, y_gL_nw, y_gR_sI, y_gR_sL, y_gR_cpI, y_gR_cpL, y_gR_nw, y_kd_nw, y_ln_nw, y_sz_nw, y_sl_nw, y_fx_int, y_fx_long, y_fx_ref, y_fx_null, y_fx_U, y_rf_s, y_rf_n, a_inb, a_ix, a_lt, a_eq, a_eq0, a_lt0, a_0lt, a_m1, a_m2, a_mlt, a_sub, a_dec, a_div, a_rem, a_shl, a_shr, a_bit, a_bit0, a_II, a_Ia, a_Ik, a_LL, a_La, a_Lk, a_RR, a_Ra, a_Rk, a_if0, a_if1, y_mul, y_and, y_or, nI_add, y_b1, y_b0, kon_v, kon_0, true_or, or_true, and_self, true_and, and_true, false_or, or_false, and_false, false_and, not_true_eq_false, not_false_eq_true, ite_self, ↓reduceIte, Nat.reduceEqDiff, Nat.reduceLeDiff, Nat.reduceAdd, Nat.reduceMul, Nat.reduceSub, Nat.reduceLT, Nat.reduceShiftLeft, Nat.reduceOr, Nat.reduceAnd, Bool.false_eq_true, mo_k o2, mo_r0 o2, mo_k0 o2, mo_l0 o2, mo_r1 o2, mo_k1 o2, mo_l1 o2, mo_r2 o2, mo_k2 o2, mo_l2 o2, mo_r3 o2, mo_k3 o2, mo_l3 o2, mo_r4 o2, mo_k4 o2, mo_l4 o2, mo_r5 o2, mo_k5 o2, mo_l5 o2, mo_r6 o2, mo_k6 o2, mo_l6 o2, mo_r8 o2, mo_k8 o2, mo_l8 o2, mo_r10 o2, mo_k10 o2, mo_l10 o2, mo_r11 o2, mo_k11 o2, mo_l11 o2, mo_r12 o2, mo_k12 o2, mo_l12 o2, mo_r13 o2, mo_k13 o2, mo_l13 o2, mo_r14 o2, mo_k14 o2, mo_l14 o2, mo_r16 o2, mo_k16 o2, mo_l16 o2, mo_r17 o2, mo_k17 o2, mo_l17 o2, mo_r18 o2, mo_k18 o2, mo_l18 o2, mo_r19 o2, mo_k19 o2, mo_l19 o2, mo_r20 o2, mo_k20 o2, mo_l20 o2, mo_r21 o2, mo_k21 o2, mo_l21 o2, mo_r22 o2, mo_k22 o2, mo_l22 o2, mo_r23 o2, mo_k23 o2, mo_l23 o2, mo_r24 o2, mo_k24 o2, mo_l24 o2, mo_r25 o2, mo_k25 o2, mo_l25 o2, mo_r26 o2, mo_k26 o2, mo_l26 o2, mo_r29 o2, mo_k29 o2, mo_l29 o2, mo_r30 o2, mo_k30 o2, mo_l30 o2, mo_r36 o2, mo_k36 o2, mo_l36 o2, mo_r37 o2, mo_k37 o2, mo_l37 o2, mo_r49 o2, mo_k49 o2, mo_l49 o2, mo_r50 o2, mo_k50 o2, mo_l50 o2, mo_r51 o2, mo_k51 o2, mo_l51 o2, mo_r56 o2, mo_k56 o2, mo_l56 o2, mo_r62 o2, mo_k62 o2, mo_l62 o2, mo_r63 o2, mo_k63 o2, mo_l63 o2, mo_r66 o2, mo_k66 o2, mo_l66 o2, mo_row o2, mo_rowk o2, mo_rowl o2, mo_set o2, mo_setk o2, mo_setl o2, q38, q_Mo_lesserOf hL45, q_Mo_greaterOf hL45, e0, ls]
  rw [go2]
  generalize sI (sI h2 (m + 36 + (L + 1)) (pP L) (nI (G (pP L) &&& 2 ^ w))) (m + 36 + (L + 1)) (pP L % 10 * 10 + pP L / 10) (nI (G (pP L % 10 * 10 + pP L / 10) &&& tur (2 ^ w))) = h3 at K1 s3 e4 ⊢
  have s123 := s2.tr s3
  have o3 := s3.mo o2
  have hl : low n (lsF (F L) (pP L) w) := lsF_low F0.2.2 x2
  have hlG : low n G' := K2.sy.lo hl
  have kW3 : kW h3 m := by
    have e52 : gI h3 m 52 = gI h m 52 := (e4 m 52 (by omega)).trans (q3 52)
    rcases hK with k | ⟨k, k'⟩
    · exact Or.inl (e52.trans k)
    · exact Or.inr ⟨e52.trans k, fun i hi => ((e4 _ _ (by omega)).trans (q2 _ _ (by omega) (by omega) (by omega))).trans (k' i hi)⟩
  obtain ⟨h4, F', p, dp, z1, z2, z3, z4, z5, z6, z7⟩ := c_Mo_shrinkAll (g := g) hn hlG K3 o3 (s123.ct hg hT) hg (show m + 36 ≤ m + 36 + (L + 1) ∧ m + 36 + (L + 1) ≤ m + 81 by omega) kW3 (mo_setk o3 (show L + 1 < 46 by omega)) (mo_setl o3 (show L + 1 < 46 by omega)) K1
  have eG : gc n G' = gc n (lsF (F L) (pP L) w) := gc_eqv hn hlG K2
  rw [eG] at z2 z6
  have s4 : mch m h h4 := s123.tr (z3.mc (by omega))
  have o4 := s4.mo ho
  have E : ∀ k : Nat, ¬ k = 52 → gI h4 m k = if k = 39 then nI (ch + 1) else gI h m k := fun k hk => ((z3.2.2.2.2.2.2.2 k hk).trans (e4 m k (by omega))).trans (q3 k)
  have E8 : ∀ k : Nat, gI h4 (m + 82) k = if k = L then nI w else gI h (m + 82) k := fun k => ((z3.2.2.2.2.2.2.1 _ k (by omega) (by omega) (by omega)).trans (e4 _ k (by omega))).trans (q4 k)
  have EL : ∀ j : Nat, j < L + 1 → ∀ k : Nat, gI h4 (m + 36 + j) k = gI h (m + 36 + j) k := fun j hj k => ((z3.2.2.2.2.2.2.1 _ k (by omega) (by omega) (by omega)).trans (e4 _ k (by omega))).trans (q2 _ k (by omega) (by omega) (by omega))
  have hv4 : rLv h4 m n F (L + 1) := fun j hj => by
    obtain ⟨Q, Q1, Q2, Q3⟩ := w1 j hj
    exact ⟨Q, fun a b ha hb => by rw [EL j hj]; exact Q1 a b ha hb, Q2, Q3⟩
  have ht4 : rTr h4 m (up T L (w + 1)) (L + 1) := fun j hj => by
    rw [E8 j]
    by_cases c : j = L
    · rw [if_pos c, c, up_s, y_sub (by omega)]; rfl
    · rw [if_neg c, up_n c]; exact w2 j hj
  have hT1 : ∀ j : Nat, up T L (w + 1) j ≤ 8 := fun j => by
    unfold up
    split
    · omega
    · exact A5 j
  have b34 : gI h4 m 34 = nI n := (E 34 (by decide)).trans r1
  have b35 : gI h4 m 35 = nI (n * (n - 1) / 2) := (E 35 (by decide)).trans r2
  have b38 : gI h4 m 38 = nI L := (E 38 (by decide)).trans r3
  have b39 : gI h4 m 39 = nI (ch + 1) := E 39 (by decide)
  have b40 : gI h4 m 40 = nI bl := (E 40 (by decide)).trans r5
  have b41 : gI h4 m 41 = nI 0 := (E 41 (by decide)).trans r6
  have b53 : gI h4 m 53 = gI h m 53 := E 53 (by decide)
  have c38 : gI h3 m 38 = nI L := ((e4 m 38 (by omega)).trans (q3 38)).trans r3
  have c34 : gI h3 m 34 = nI n := ((e4 m 34 (by omega)).trans (q3 34)).trans r1
  have a3 := mo_k o3
  have a4 := mo_k o4
  have kWn : ∀ h5 : zMem, (∀ k : Nat, gI h5 (m + 85) k = gI h4 (m + 85) k) → gI h5 m 52 = gI h4 m 52 → kW h5 m := fun h5 c1 c2 => by
    rcases z4 with k | ⟨k, k'⟩
    · exact Or.inl (c2.trans k)
    · exact Or.inr ⟨c2.trans k, fun i hi => (c1 i).trans (k' i hi)⟩
  by_cases hp : p
  · have hw := z2.1 hp
    rw [tst_t hw]
    rw [bZ_t hp] at z1
    have nz1 : (nI 1 = (0 : Int32)) = False := eq_false (by decide)
    have hv5 : ∀ h5 : zMem, (∀ b k : Nat, ¬ b = m → ¬ b = m + 82 → gI h5 b k = gI h4 b k) → rLv h5 m n (up F (L + 1) (gc n (lsF (F L) (pP L) w))) (L + 1 + 1) := fun h5 e5 j hj => by
      by_cases c : j = L + 1
      · subst c
        rw [up_s]
        exact ⟨F', fun a b ha hb => by rw [e5 _ _ (by omega) (by omega)]; exact z5 a b ha hb, z6, fun a ha => by rw [z7]; exact K3 a ha⟩
      · rw [up_n c]
        obtain ⟨Q, Q1, Q2, Q3⟩ := hv4 j (by omega)
        exact ⟨Q, fun a b ha hb => by rw [e5 _ _ (by omega) (by omega)]; exact Q1 a b ha hb, Q2, Q3⟩
    by_cases zz : L + 1 = n * (n - 1) / 2
    · rw [if_pos zz]
      have zt : (L + 1 = n * (n - 1) / 2) = True := eq_true zz
      refine ⟨sI (sI h4 m 38 (nI (L + 1))) m 41 (nI 1), ?_, ⟨?_, ?_, ?_, ?_, ?_, a_II, fun _ _ => ⟨hv5 _ (fun b k c1 _ => by rw [a_Ia c1, a_Ia c1]), fun j hj => ?_⟩⟩, kWn _ (fun k => by rw [a_Ia (by omega), a_Ia (by omega)]) (by rw [a_Ik (by decide), a_Ik (by decide)]), (s4.tr (mch.I (by omega))).tr (mch.I (by omega)), ?_⟩
      · simp (disch := omega) only [s_Mo_choose_0, s_Mo_choose_1, s_Mo_choose_4, s_Mo_choose_5, s_Mo_choose_6, s_Mo_choose_9, s_Mo_choose_10, s_Mo_choose_13, s_Mo_choose_14, s_Mo_choose_15, s_Mo_choose_16, s_Mo_choose_17, s_Mo_choose_20, s_Mo_choose_21, s_Mo_choose_22, s_Mo_choose_25, s_Mo_choose_26, s_Mo_choose_27, s_Mo_choose_28, s_Mo_choose_30, s_Mo_choose_33, s_Mo_choose_34, s_Mo_choose_37, s_Mo_choose_38, s_Mo_choose_41, s_Mo_choose_42, s_Mo_choose_43, s_Mo_choose_44, s_Mo_choose_45, s_Mo_choose_46, s_Mo_choose_49, s_Mo_choose_50, s_Mo_choose_53, s_Mo_choose_54, s_Mo_choose_55, s_Mo_choose_56, s_Mo_choose_57, s_Mo_choose_60, s_Mo_choose_63, s_Mo_choose_64, s_Mo_choose_67, s_Mo_choose_68, s_Mo_choose_71, s_Mo_choose_72, s_Mo_choose_73, s_Mo_choose_74, s_Mo_choose_75, s_Mo_choose_78, s_Mo_choose_81, s_Mo_choose_82, s_Mo_choose_85, s_Mo_choose_88, s_Mo_choose_89, s_Mo_choose_90, s_Mo_choose_91, s_Mo_choose_94, s_Mo_choose_95, s_Mo_choose_96, s_Mo_choose_99, s_Mo_choose_100, s_Mo_choose_103, s_Mo_choose_104, s_Mo_choose_105, s_Mo_choose_106, s_Mo_choose_107, s_Mo_choose_110, s_Mo_choose_113, s_Mo_choose_116, s_Mo_choose_117, s_Mo_choose_118, s_Mo_choose_121, s_Mo_choose_122, s_Mo_choose_123, s_Mo_choose_126, s_Mo_choose_127, s_Mo_choose_130, s_Mo_choose_131, s_Mo_choose_134, s_Mo_choose_137, s_Mo_choose_138, s_Mo_choose_139, s_Mo_choose_142, s_Mo_choose_143, s_Mo_choose_144, s_Mo_choose_147, s_Mo_choose_148, s_Mo_choose_151, s_Mo_choose_152, s_Mo_choose_153, s_Mo_choose_156, s_Mo_choose_157, s_Mo_choose_158, s_Mo_choose_161, s_Mo_choose_162, s_Mo_choose_163, s_Mo_choose_166, s_Mo_choose_167, s_Mo_choose_170, s_Mo_choose_173, s_Mo_choose_174, s_Mo_choose_175, s_Mo_choose_178, s_Mo_choose_181, s_Mo_choose_182, s_Mo_choose_185, s_Mo_choose_188, s_Mo_choose_191, s_Mo_choose_192, s_Mo_choose_193, s_Mo_choose_196, y_kd_sI, y_kd_sL, y_kd_sR, y_kd_cpI, y_kd_cpL, y_ln_sI, y_ln_sL, y_ln_sR, y_ln_cpI, y_ln_cpL, y_sz_sI, y_sz_sL, y_sz_sR, y_sz_cpI, y_sz_cpL, y_sl_sI, y_sl_sL, y_sl_sR, y_sl_cpI, y_sl_cpL, y_gI_sL, y_gI_sR, y_gI_cpI, y_gI_cpL, y_gI_nw, y_gL_sI, y_gL_sR, y_gL_cpI, y_gL_cpL, y_gL_nw, y_gR_sI, y_gR_sL, y_gR_cpI, y_gR_cpL, y_gR_nw, y_kd_nw, y_ln_nw, y_sz_nw, y_sl_nw, y_fx_int, y_fx_long, y_fx_ref, y_fx_null, y_fx_U, y_rf_s, y_rf_n, a_inb, a_ix, a_lt, a_eq, a_eq0, a_lt0, a_0lt, a_m1, a_m2, a_mlt, a_sub, a_dec, a_div, a_rem, a_shl, a_shr, a_bit, a_bit0, a_II, a_Ia, a_Ik, a_LL, a_La, a_Lk, a_RR, a_Ra, a_Rk, a_if0, a_if1, y_mul, y_and, y_or, nI_add, y_b1, y_b0, kon_v, kon_0, true_or, or_true, and_self, true_and, and_true, false_or, or_false, and_false, false_and, not_true_eq_false, not_false_eq_true, ite_self, ↓reduceIte, Nat.reduceEqDiff, Nat.reduceLeDiff, Nat.reduceAdd, Nat.reduceMul, Nat.reduceSub, Nat.reduceLT, Nat.reduceShiftLeft, Nat.reduceOr, Nat.reduceAnd, Bool.false_eq_true, mo_k o3, mo_r0 o3, mo_k0 o3, mo_l0 o3, mo_r1 o3, mo_k1 o3, mo_l1 o3, mo_r2 o3, mo_k2 o3, mo_l2 o3, mo_r3 o3, mo_k3 o3, mo_l3 o3, mo_r4 o3, mo_k4 o3, mo_l4 o3, mo_r5 o3, mo_k5 o3, mo_l5 o3, mo_r6 o3, mo_k6 o3, mo_l6 o3, mo_r8 o3, mo_k8 o3, mo_l8 o3, mo_r10 o3, mo_k10 o3, mo_l10 o3, mo_r11 o3, mo_k11 o3, mo_l11 o3, mo_r12 o3, mo_k12 o3, mo_l12 o3, mo_r13 o3, mo_k13 o3, mo_l13 o3, mo_r14 o3, mo_k14 o3, mo_l14 o3, mo_r16 o3, mo_k16 o3, mo_l16 o3, mo_r17 o3, mo_k17 o3, mo_l17 o3, mo_r18 o3, mo_k18 o3, mo_l18 o3, mo_r19 o3, mo_k19 o3, mo_l19 o3, mo_r20 o3, mo_k20 o3, mo_l20 o3, mo_r21 o3, mo_k21 o3, mo_l21 o3, mo_r22 o3, mo_k22 o3, mo_l22 o3, mo_r23 o3, mo_k23 o3, mo_l23 o3, mo_r24 o3, mo_k24 o3, mo_l24 o3, mo_r25 o3, mo_k25 o3, mo_l25 o3, mo_r26 o3, mo_k26 o3, mo_l26 o3, mo_r29 o3, mo_k29 o3, mo_l29 o3, mo_r30 o3, mo_k30 o3, mo_l30 o3, mo_r36 o3, mo_k36 o3, mo_l36 o3, mo_r37 o3, mo_k37 o3, mo_l37 o3, mo_r49 o3, mo_k49 o3, mo_l49 o3, mo_r50 o3, mo_k50 o3, mo_l50 o3, mo_r51 o3, mo_k51 o3, mo_l51 o3, mo_r56 o3, mo_k56 o3, mo_l56 o3, mo_r62 o3, mo_k62 o3, mo_l62 o3, mo_r63 o3, mo_k63 o3, mo_l63 o3, mo_r66 o3, mo_k66 o3, mo_l66 o3, mo_row o3, mo_rowk o3, mo_rowl o3, mo_set o3, mo_setk o3, mo_setl o3, c38, c34, z1, nz1, a4, b38, b35, zt]
      · rw [a_Ik (by decide), a_Ik (by decide)]; exact b34
      · rw [a_Ik (by decide), a_Ik (by decide)]; exact b35
      · rw [a_Ik (by decide), a_II]; rfl
      · rw [a_Ik (by decide), a_Ik (by decide)]; exact b39
      · rw [a_Ik (by decide), a_Ik (by decide)]; exact b40
      · have hj' : j < L + 1 := hj
        rw [a_Ia (by omega), a_Ia (by omega)]; exact ht4 j hj'
      · rw [a_Ik (by decide), a_Ik (by decide)]; exact b53
    · rw [if_neg zz]
      have zt : (L + 1 = n * (n - 1) / 2) = False := eq_false zz
      have hlt : L + 1 < n * (n - 1) / 2 := by omega
      have fg := fOK_at hn hlt (fOK_gc hn hl hw)
      have hT2 : ∀ j : Nat, up (up T L (w + 1)) (L + 1) 0 j ≤ 8 := fun j => by
        unfold up
        split
        · omega
        · split
          · omega
          · exact A5 j
      have eK : aK (up F (L + 1) (gc n (lsF (F L) (pP L) w))) (up (up T L (w + 1)) (L + 1) 0) (L + 1) = some (L + 1) := by
        unfold aK
        rw [up_s, up_s, if_neg]
        have := nx_of fg.1 fg.2
        omega
      have t5 : rTr (sI (sI h4 m 38 (nI (L + 1))) (m + 82) (L + 1) (-1)) m (up (up T L (w + 1)) (L + 1) 0) (L + 1 + 1) := fun j hj => by
        by_cases c : j = L + 1
        · rw [c, a_II, up_s]; rfl
        · rw [a_Ik c, a_Ia (by omega), up_n c]; exact ht4 j (by omega)
      have s5 : mch m h4 (sI (sI h4 m 38 (nI (L + 1))) (m + 82) (L + 1) (-1)) := (mch.I (by omega)).tr (mch.J (by omega))
      obtain ⟨h6, v1, v2, v3, v4⟩ := b_back (g := g) (L := L + 1) (c := ch + 1) (b := bl) (v1 := .int (nI w)) (v2 := .int (nI 100)) hn hT2 hlt (by omega) (s5.mo o4) (by rw [a_Ia (by omega), a_Ik (by decide)]; exact b34) (by rw [a_Ia (by omega), a_Ik (by decide)]; exact b35) (by rw [a_Ia (by omega), a_II]) (by rw [a_Ia (by omega), a_Ik (by decide)]; exact b39) (by rw [a_Ia (by omega), a_Ik (by decide)]; exact b40) (by rw [a_Ia (by omega), a_Ik (by decide)]; exact b41) (hv5 _ (fun b k c1 c2 => by rw [a_Ia c2, a_Ia c1])) t5
      rw [eK] at v2
      refine ⟨h6, Eq.trans ?_ v1, v2, kWn _ (fun k => by rw [v4.2.2.2.2.2.2.1 _ _ (by omega), a_Ia (by omega), a_Ia (by omega)]) (by rw [v4.2.2.2.2.2.2.2 52 (by omega), a_Ia (by omega), a_Ik (by decide)]), (s4.tr s5).tr v3, ?_⟩
      · simp (disch := omega) only [s_Mo_choose_0, s_Mo_choose_1, s_Mo_choose_4, s_Mo_choose_5, s_Mo_choose_6, s_Mo_choose_9, s_Mo_choose_10, s_Mo_choose_13, s_Mo_choose_14, s_Mo_choose_15, s_Mo_choose_16, s_Mo_choose_17, s_Mo_choose_20, s_Mo_choose_21, s_Mo_choose_22, s_Mo_choose_25, s_Mo_choose_26, s_Mo_choose_27, s_Mo_choose_28, s_Mo_choose_30, s_Mo_choose_33, s_Mo_choose_34, s_Mo_choose_37, s_Mo_choose_38, s_Mo_choose_41, s_Mo_choose_42, s_Mo_choose_43, s_Mo_choose_44, s_Mo_choose_45, s_Mo_choose_46, s_Mo_choose_49, s_Mo_choose_50, s_Mo_choose_53, s_Mo_choose_54, s_Mo_choose_55, s_Mo_choose_56, s_Mo_choose_57, s_Mo_choose_60, s_Mo_choose_63, s_Mo_choose_64, s_Mo_choose_67, s_Mo_choose_68, s_Mo_choose_71, s_Mo_choose_72, s_Mo_choose_73, s_Mo_choose_74, s_Mo_choose_75, s_Mo_choose_78, s_Mo_choose_81, s_Mo_choose_82, s_Mo_choose_85, s_Mo_choose_88, s_Mo_choose_89, s_Mo_choose_90, s_Mo_choose_91, s_Mo_choose_94, s_Mo_choose_95, s_Mo_choose_96, s_Mo_choose_99, s_Mo_choose_100, s_Mo_choose_103, s_Mo_choose_104, s_Mo_choose_105, s_Mo_choose_106, s_Mo_choose_107, s_Mo_choose_110, s_Mo_choose_113, s_Mo_choose_116, s_Mo_choose_117, s_Mo_choose_118, s_Mo_choose_121, s_Mo_choose_122, s_Mo_choose_123, s_Mo_choose_126, s_Mo_choose_127, s_Mo_choose_130, s_Mo_choose_131, s_Mo_choose_134, s_Mo_choose_137, s_Mo_choose_138, s_Mo_choose_139, s_Mo_choose_142, s_Mo_choose_143, s_Mo_choose_144, s_Mo_choose_147, s_Mo_choose_148, s_Mo_choose_151, s_Mo_choose_152, s_Mo_choose_153, s_Mo_choose_156, s_Mo_choose_157, s_Mo_choose_158, s_Mo_choose_161, s_Mo_choose_162, s_Mo_choose_163, s_Mo_choose_167, s_Mo_choose_170, s_Mo_choose_173, s_Mo_choose_174, s_Mo_choose_175, s_Mo_choose_178, s_Mo_choose_181, s_Mo_choose_182, s_Mo_choose_185, s_Mo_choose_188, s_Mo_choose_191, s_Mo_choose_192, s_Mo_choose_193, s_Mo_choose_196, y_kd_sI, y_kd_sL, y_kd_sR, y_kd_cpI, y_kd_cpL, y_ln_sI, y_ln_sL, y_ln_sR, y_ln_cpI, y_ln_cpL, y_sz_sI, y_sz_sL, y_sz_sR, y_sz_cpI, y_sz_cpL, y_sl_sI, y_sl_sL, y_sl_sR, y_sl_cpI, y_sl_cpL, y_gI_sL, y_gI_sR, y_gI_cpI, y_gI_cpL, y_gI_nw, y_gL_sI, y_gL_sR, y_gL_cpI, y_gL_cpL, y_gL_nw, y_gR_sI, y_gR_sL, y_gR_cpI, y_gR_cpL, y_gR_nw, y_kd_nw, y_ln_nw, y_sz_nw, y_sl_nw, y_fx_int, y_fx_long, y_fx_ref, y_fx_null, y_fx_U, y_rf_s, y_rf_n, a_inb, a_ix, a_lt, a_eq, a_eq0, a_lt0, a_0lt, a_m1, a_m2, a_mlt, a_sub, a_dec, a_div, a_rem, a_shl, a_shr, a_bit, a_bit0, a_II, a_Ia, a_Ik, a_LL, a_La, a_Lk, a_RR, a_Ra, a_Rk, a_if0, a_if1, y_mul, y_and, y_or, nI_add, y_b1, y_b0, kon_v, kon_0, true_or, or_true, and_self, true_and, and_true, false_or, or_false, and_false, false_and, not_true_eq_false, not_false_eq_true, ite_self, ↓reduceIte, Nat.reduceEqDiff, Nat.reduceLeDiff, Nat.reduceAdd, Nat.reduceMul, Nat.reduceSub, Nat.reduceLT, Nat.reduceShiftLeft, Nat.reduceOr, Nat.reduceAnd, Bool.false_eq_true, mo_k o3, mo_r0 o3, mo_k0 o3, mo_l0 o3, mo_r1 o3, mo_k1 o3, mo_l1 o3, mo_r2 o3, mo_k2 o3, mo_l2 o3, mo_r3 o3, mo_k3 o3, mo_l3 o3, mo_r4 o3, mo_k4 o3, mo_l4 o3, mo_r5 o3, mo_k5 o3, mo_l5 o3, mo_r6 o3, mo_k6 o3, mo_l6 o3, mo_r8 o3, mo_k8 o3, mo_l8 o3, mo_r10 o3, mo_k10 o3, mo_l10 o3, mo_r11 o3, mo_k11 o3, mo_l11 o3, mo_r12 o3, mo_k12 o3, mo_l12 o3, mo_r13 o3, mo_k13 o3, mo_l13 o3, mo_r14 o3, mo_k14 o3, mo_l14 o3, mo_r16 o3, mo_k16 o3, mo_l16 o3, mo_r17 o3, mo_k17 o3, mo_l17 o3, mo_r18 o3, mo_k18 o3, mo_l18 o3, mo_r19 o3, mo_k19 o3, mo_l19 o3, mo_r20 o3, mo_k20 o3, mo_l20 o3, mo_r21 o3, mo_k21 o3, mo_l21 o3, mo_r22 o3, mo_k22 o3, mo_l22 o3, mo_r23 o3, mo_k23 o3, mo_l23 o3, mo_r24 o3, mo_k24 o3, mo_l24 o3, mo_r25 o3, mo_k25 o3, mo_l25 o3, mo_r26 o3, mo_k26 o3, mo_l26 o3, mo_r29 o3, mo_k29 o3, mo_l29 o3, mo_r30 o3, mo_k30 o3, mo_l30 o3, mo_r36 o3, mo_k36 o3, mo_l36 o3, mo_r37 o3, mo_k37 o3, mo_l37 o3, mo_r49 o3, mo_k49 o3, mo_l49 o3, mo_r50 o3, mo_k50 o3, mo_l50 o3, mo_r51 o3, mo_k51 o3, mo_l51 o3, mo_r56 o3, mo_k56 o3, mo_l56 o3, mo_r62 o3, mo_k62 o3, mo_l62 o3, mo_r63 o3, mo_k63 o3, mo_l63 o3, mo_r66 o3, mo_k66 o3, mo_l66 o3, mo_row o3, mo_rowk o3, mo_rowl o3, mo_set o3, mo_setk o3, mo_setl o3, c38, c34, z1, nz1, a4, b38, b35, zt, mo_r37 o4, mo_k37 o4, mo_l37 o4]
      · rw [v4.2.2.2.2.2.2.2 53 (by omega), a_Ia (by omega), a_Ik (by decide)]; exact b53
  · have hw : ¬ whl n (gc n (lsF (F L) (pP L) w)) := fun c => hp (z2.2 c)
    rw [tst_f hw]
    rw [bZ_f hp] at z1
    have z0 : (nI 0 = (0 : Int32)) = True := eq_true (by decide)
    have s5 : mch m h4 (sI h4 m 40 (nI (bl + 1))) := mch.I (by omega)
    obtain ⟨h6, v1, v2, v3, v4⟩ := b_back (g := g) (L := L) (c := ch + 1) (b := bl + 1) (v1 := .int (nI w)) (v2 := .int (nI 100)) hn hT1 g1 (by omega) (s5.mo o4) (by rw [a_Ik (by decide)]; exact b34) (by rw [a_Ik (by decide)]; exact b35) (by rw [a_Ik (by decide)]; exact b38) (by rw [a_Ik (by decide)]; exact b39) a_II (by rw [a_Ik (by decide)]; exact b41) (fun j hj => by
      obtain ⟨Q, Q1, Q2, Q3⟩ := hv4 j hj
      exact ⟨Q, fun a b ha hb => by rw [a_Ia (by omega)]; exact Q1 a b ha hb, Q2, Q3⟩) (fun j hj => by rw [a_Ia (by omega)]; exact ht4 j hj)
    refine ⟨h6, Eq.trans ?_ v1, v2, kWn _ (fun k => by rw [v4.2.2.2.2.2.2.1 _ _ (by omega), a_Ia (by omega)]) (by rw [v4.2.2.2.2.2.2.2 52 (by omega), a_Ik (by decide)]), (s4.tr s5).tr v3, ?_⟩
    · simp (disch := omega) only [s_Mo_choose_0, s_Mo_choose_1, s_Mo_choose_4, s_Mo_choose_5, s_Mo_choose_6, s_Mo_choose_9, s_Mo_choose_10, s_Mo_choose_13, s_Mo_choose_14, s_Mo_choose_15, s_Mo_choose_16, s_Mo_choose_17, s_Mo_choose_20, s_Mo_choose_21, s_Mo_choose_22, s_Mo_choose_25, s_Mo_choose_26, s_Mo_choose_27, s_Mo_choose_28, s_Mo_choose_30, s_Mo_choose_33, s_Mo_choose_34, s_Mo_choose_37, s_Mo_choose_38, s_Mo_choose_41, s_Mo_choose_42, s_Mo_choose_43, s_Mo_choose_44, s_Mo_choose_45, s_Mo_choose_46, s_Mo_choose_49, s_Mo_choose_50, s_Mo_choose_53, s_Mo_choose_54, s_Mo_choose_55, s_Mo_choose_56, s_Mo_choose_57, s_Mo_choose_60, s_Mo_choose_63, s_Mo_choose_64, s_Mo_choose_67, s_Mo_choose_68, s_Mo_choose_71, s_Mo_choose_72, s_Mo_choose_73, s_Mo_choose_74, s_Mo_choose_75, s_Mo_choose_78, s_Mo_choose_81, s_Mo_choose_82, s_Mo_choose_85, s_Mo_choose_88, s_Mo_choose_89, s_Mo_choose_90, s_Mo_choose_91, s_Mo_choose_94, s_Mo_choose_95, s_Mo_choose_96, s_Mo_choose_99, s_Mo_choose_100, s_Mo_choose_103, s_Mo_choose_104, s_Mo_choose_105, s_Mo_choose_106, s_Mo_choose_107, s_Mo_choose_110, s_Mo_choose_113, s_Mo_choose_116, s_Mo_choose_117, s_Mo_choose_118, s_Mo_choose_121, s_Mo_choose_122, s_Mo_choose_123, s_Mo_choose_126, s_Mo_choose_127, s_Mo_choose_130, s_Mo_choose_131, s_Mo_choose_134, s_Mo_choose_137, s_Mo_choose_138, s_Mo_choose_139, s_Mo_choose_142, s_Mo_choose_143, s_Mo_choose_144, s_Mo_choose_147, s_Mo_choose_148, s_Mo_choose_151, s_Mo_choose_152, s_Mo_choose_153, s_Mo_choose_156, s_Mo_choose_157, s_Mo_choose_158, s_Mo_choose_161, s_Mo_choose_162, s_Mo_choose_163, s_Mo_choose_167, s_Mo_choose_170, s_Mo_choose_173, s_Mo_choose_174, s_Mo_choose_175, s_Mo_choose_178, s_Mo_choose_181, s_Mo_choose_182, s_Mo_choose_185, s_Mo_choose_188, s_Mo_choose_191, s_Mo_choose_192, s_Mo_choose_193, s_Mo_choose_196, y_kd_sI, y_kd_sL, y_kd_sR, y_kd_cpI, y_kd_cpL, y_ln_sI, y_ln_sL, y_ln_sR, y_ln_cpI, y_ln_cpL, y_sz_sI, y_sz_sL, y_sz_sR, y_sz_cpI, y_sz_cpL, y_sl_sI, y_sl_sL, y_sl_sR, y_sl_cpI, y_sl_cpL, y_gI_sL, y_gI_sR, y_gI_cpI, y_gI_cpL, y_gI_nw, y_gL_sI, y_gL_sR, y_gL_cpI, y_gL_cpL, y_gL_nw, y_gR_sI, y_gR_sL, y_gR_cpI, y_gR_cpL, y_gR_nw, y_kd_nw, y_ln_nw, y_sz_nw, y_sl_nw, y_fx_int, y_fx_long, y_fx_ref, y_fx_null, y_fx_U, y_rf_s, y_rf_n, a_inb, a_ix, a_lt, a_eq, a_eq0, a_lt0, a_0lt, a_m1, a_m2, a_mlt, a_sub, a_dec, a_div, a_rem, a_shl, a_shr, a_bit, a_bit0, a_II, a_Ia, a_Ik, a_LL, a_La, a_Lk, a_RR, a_Ra, a_Rk, a_if0, a_if1, y_mul, y_and, y_or, nI_add, y_b1, y_b0, kon_v, kon_0, true_or, or_true, and_self, true_and, and_true, false_or, or_false, and_false, false_and, not_true_eq_false, not_false_eq_true, ite_self, ↓reduceIte, Nat.reduceEqDiff, Nat.reduceLeDiff, Nat.reduceAdd, Nat.reduceMul, Nat.reduceSub, Nat.reduceLT, Nat.reduceShiftLeft, Nat.reduceOr, Nat.reduceAnd, Bool.false_eq_true, mo_k o3, mo_r0 o3, mo_k0 o3, mo_l0 o3, mo_r1 o3, mo_k1 o3, mo_l1 o3, mo_r2 o3, mo_k2 o3, mo_l2 o3, mo_r3 o3, mo_k3 o3, mo_l3 o3, mo_r4 o3, mo_k4 o3, mo_l4 o3, mo_r5 o3, mo_k5 o3, mo_l5 o3, mo_r6 o3, mo_k6 o3, mo_l6 o3, mo_r8 o3, mo_k8 o3, mo_l8 o3, mo_r10 o3, mo_k10 o3, mo_l10 o3, mo_r11 o3, mo_k11 o3, mo_l11 o3, mo_r12 o3, mo_k12 o3, mo_l12 o3, mo_r13 o3, mo_k13 o3, mo_l13 o3, mo_r14 o3, mo_k14 o3, mo_l14 o3, mo_r16 o3, mo_k16 o3, mo_l16 o3, mo_r17 o3, mo_k17 o3, mo_l17 o3, mo_r18 o3, mo_k18 o3, mo_l18 o3, mo_r19 o3, mo_k19 o3, mo_l19 o3, mo_r20 o3, mo_k20 o3, mo_l20 o3, mo_r21 o3, mo_k21 o3, mo_l21 o3, mo_r22 o3, mo_k22 o3, mo_l22 o3, mo_r23 o3, mo_k23 o3, mo_l23 o3, mo_r24 o3, mo_k24 o3, mo_l24 o3, mo_r25 o3, mo_k25 o3, mo_l25 o3, mo_r26 o3, mo_k26 o3, mo_l26 o3, mo_r29 o3, mo_k29 o3, mo_l29 o3, mo_r30 o3, mo_k30 o3, mo_l30 o3, mo_r36 o3, mo_k36 o3, mo_l36 o3, mo_r37 o3, mo_k37 o3, mo_l37 o3, mo_r49 o3, mo_k49 o3, mo_l49 o3, mo_r50 o3, mo_k50 o3, mo_l50 o3, mo_r51 o3, mo_k51 o3, mo_l51 o3, mo_r56 o3, mo_k56 o3, mo_l56 o3, mo_r62 o3, mo_k62 o3, mo_l62 o3, mo_r63 o3, mo_k63 o3, mo_l63 o3, mo_r66 o3, mo_k66 o3, mo_l66 o3, mo_row o3, mo_rowk o3, mo_rowl o3, mo_set o3, mo_setk o3, mo_setl o3, c38, c34, z1, z0, a4, b40]
    · rw [v4.2.2.2.2.2.2.2 53 (by omega), a_Ik (by decide)]; exact b53
end ZMC
