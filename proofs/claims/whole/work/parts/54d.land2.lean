/-! the constructor of Land -/
/-- an empty land -/
def laE (h : zMem) (m : Nat) : Prop := gI h m 1 = nI 0 ∧ gI h m 3 = nI 0 ∧ (∀ w : Nat, w < 4 → gI h (m + 37) w = -1) ∧ gI h (m + 38) 0 = nI 0 ∧ gI h (m + 41) 0 = nI 1 ∧ (∀ i : Nat, i < 64 → gI h (m + 42) i = nI 0) ∧ gI h (m + 43) 1 = -1 ∧ gI h (m + 44) 2 = nI 0
section ZCM
variable {g : Nat → Nat} {m a r t : Nat} {h h' h'' : zMem}
theorem sb_st {K w c s : Nat} {h1 : zMem} {v : Option Nat} (n5 : kp h (nw h K 0 w) (m + c) (m + c)) (b : kp (nw h K 0 w) h1 (m + c) (m + c)) (hc : 0 < c) : kp h (sR h1 m s v) (m + c) m ∧ kx h (sR h1 m s v) m s := by
  have e := n5.tr b
  refine ⟨(e.wd (Nat.le_refl _) (Or.inr (by omega))).tr kp_R, fun k hk => ⟨?_, ?_, ?_⟩⟩
  · rw [a_Rk hk]; exact (e.2 m k (by omega) (by omega)).1
  · exact (e.2 m k (by omega) (by omega)).2.1
  · exact (e.2 m k (by omega) (by omega)).2.2
/-- fields, deeds, what old words mean -/
def laA (h h8 : zMem) (m : Nat) : Prop := okk 4 m h8 ∧ kp h h8 m m ∧ sz h8 = m + 38 ∧ sl h8 = sl h + 304 ∧ (gR h8 m 0 = some (m + 1) ∧ gR h8 m 2 = some (m + 12) ∧ gR h8 m 4 = some (m + 37)) ∧ (kd h8 (m + 1) = 25 ∧ ln h8 (m + 1) = 10 ∧ kd h8 (m + 12) = 26 ∧ ln h8 (m + 12) = 24 ∧ kd h8 (m + 37) = 20 ∧ ln h8 (m + 37) = 4) ∧ (∀ j : Nat, j < 10 → gR h8 (m + 1) j = some (m + 2 + j) ∧ kd h8 (m + 2 + j) = 3) ∧ (∀ j : Nat, j < 24 → gR h8 (m + 12) j = some (m + 13 + j) ∧ kd h8 (m + 13 + j) = 2) ∧ gI h8 m 1 = nI 0 ∧ gI h8 m 3 = nI 0 ∧ ∀ w : Nat, w < 4 → gI h8 (m + 37) w = -1
theorem k_LandA (hk : kd h m = 4) (hz : sz h = m + 1) : ∃ h8 : zMem, call g Land_init [.ref m, .ref r] h = ev g Land_init 113 [.ref m, .ref r, .int (nI 4)] [] h8 ∧ laA h h8 m := by
  have o : okk 4 m h := ⟨hk, by omega⟩
  have s0 : call g Land_init [.ref m, .ref r] h = ev g Land_init 4 [.ref m, .ref r, zU] [] h := by
    rw [n_Land_init]
    simp (disch := omega) only [s_Land_init_0, s_Land_init_1, s_Land_init_5, s_Land_init_7, s_Land_init_10, s_Land_init_10n, s_Land_init_13, s_Land_init_14, s_Land_init_15, s_Land_init_16, s_Land_init_18, s_Land_init_21, s_Land_init_22, s_Land_init_25, s_Land_init_26, s_Land_init_29, s_Land_init_30, s_Land_init_33, s_Land_init_34, s_Land_init_37, s_Land_init_40, s_Land_init_41, s_Land_init_42, s_Land_init_45, s_Land_init_46, s_Land_init_48, s_Land_init_51, s_Land_init_51n, s_Land_init_54, s_Land_init_55, s_Land_init_56, s_Land_init_57, s_Land_init_59, s_Land_init_62, s_Land_init_63, s_Land_init_66, s_Land_init_67, s_Land_init_70, s_Land_init_71, s_Land_init_74, s_Land_init_75, s_Land_init_78, s_Land_init_81, s_Land_init_82, s_Land_init_83, s_Land_init_86, s_Land_init_87, s_Land_init_88, s_Land_init_90, s_Land_init_90n, s_Land_init_93, s_Land_init_94, s_Land_init_95, s_Land_init_96, s_Land_init_97, s_Land_init_100, s_Land_init_101, s_Land_init_104, s_Land_init_105, s_Land_init_106, s_Land_init_107, s_Land_init_110, s_Land_init_113, s_Land_init_114, s_Land_init_117, s_Land_init_118, s_Land_init_121, s_Land_init_121n, s_Land_init_124, s_Land_init_125, s_Land_init_128, s_Land_init_129, s_Land_init_132, s_Land_init_132n, s_Land_init_135, s_Land_init_136, s_Land_init_139, s_Land_init_140, s_Land_init_141, s_Land_init_144, s_Land_init_144n, s_Land_init_147, s_Land_init_148, s_Land_init_150, s_Land_init_152, s_Land_init_152n, s_Land_init_155, s_Land_init_156, s_Land_init_158, s_Land_init_160, s_Land_init_160n, s_Land_init_163, y_kd_sI, y_kd_sL, y_kd_sR, y_kd_cpI, y_kd_cpL, y_ln_sI, y_ln_sL, y_ln_sR, y_ln_cpI, y_ln_cpL, y_sz_sI, y_sz_sL, y_sz_sR, y_sz_cpI, y_sz_cpL, y_sl_sI, y_sl_sL, y_sl_sR, y_sl_cpI, y_sl_cpL, y_gI_sL, y_gI_sR, y_gI_cpI, y_gI_cpL, y_gI_nw, y_gL_sI, y_gL_sR, y_gL_cpI, y_gL_cpL, y_gL_nw, y_gR_sI, y_gR_sL, y_gR_cpI, y_gR_cpL, y_gR_nw, y_kd_nw, y_ln_nw, y_sz_nw, y_sl_nw, y_fx_int, y_fx_long, y_fx_ref, y_fx_null, y_fx_U, y_rf_s, y_rf_n, a_inb, a_ix, a_lt, a_eq, a_eq0, a_lt0, a_0lt, a_m1, a_m2, a_mlt, a_sub, a_dec, a_div, a_rem, a_shl, a_shr, a_bit, a_bit0, a_II, a_Ia, a_Ik, a_LL, a_La, a_Lk, a_RR, a_Ra, a_Rk, a_if0, a_if1, y_mul, y_and, y_or, nI_add, y_b1, y_b0, kon_v, kon_0, true_or, or_true, and_self, true_and, and_true, false_or, or_false, and_false, false_and, not_true_eq_false, not_false_eq_true, ite_self, ↓reduceIte, Nat.reduceEqDiff, Nat.reduceLeDiff, Nat.reduceAdd, Nat.reduceMul, Nat.reduceSub, Nat.reduceLT, Nat.reduceShiftLeft, Nat.reduceOr, Nat.reduceAnd, Bool.false_eq_true, b_if, b_z1, b_z0, b_zz, b_a1, b_a0, b_lc, b_zF, b_zT, b_lbit]
  rw [s0, iLand_init_0 o]
  clear s0
  obtain ⟨p1, x1, z1, w1, n1, f1⟩ := al_st (m := m) (h := h) (e := (0, 25, 10)) (c := 1) (d := 2) hz (by decide) rfl
  have o1 := o.S (e := (0, 25, 10))
  generalize alS m h (0, 25, 10) = h1 at *
  have s1 : ev g Land_init 13 [.ref m, .ref r, zU] [] h1 = ev g Land_init 15 [.ref m, .ref r, .int (nI 0)] [] h1 := by
    simp (disch := omega) only [s_Land_init_0, s_Land_init_1, s_Land_init_4, s_Land_init_5, s_Land_init_7, s_Land_init_10, s_Land_init_10n, s_Land_init_13, s_Land_init_14, s_Land_init_16, s_Land_init_18, s_Land_init_21, s_Land_init_22, s_Land_init_25, s_Land_init_26, s_Land_init_29, s_Land_init_30, s_Land_init_33, s_Land_init_34, s_Land_init_37, s_Land_init_40, s_Land_init_41, s_Land_init_42, s_Land_init_45, s_Land_init_46, s_Land_init_48, s_Land_init_51, s_Land_init_51n, s_Land_init_54, s_Land_init_55, s_Land_init_56, s_Land_init_57, s_Land_init_59, s_Land_init_62, s_Land_init_63, s_Land_init_66, s_Land_init_67, s_Land_init_70, s_Land_init_71, s_Land_init_74, s_Land_init_75, s_Land_init_78, s_Land_init_81, s_Land_init_82, s_Land_init_83, s_Land_init_86, s_Land_init_87, s_Land_init_88, s_Land_init_90, s_Land_init_90n, s_Land_init_93, s_Land_init_94, s_Land_init_95, s_Land_init_96, s_Land_init_97, s_Land_init_100, s_Land_init_101, s_Land_init_104, s_Land_init_105, s_Land_init_106, s_Land_init_107, s_Land_init_110, s_Land_init_113, s_Land_init_114, s_Land_init_117, s_Land_init_118, s_Land_init_121, s_Land_init_121n, s_Land_init_124, s_Land_init_125, s_Land_init_128, s_Land_init_129, s_Land_init_132, s_Land_init_132n, s_Land_init_135, s_Land_init_136, s_Land_init_139, s_Land_init_140, s_Land_init_141, s_Land_init_144, s_Land_init_144n, s_Land_init_147, s_Land_init_148, s_Land_init_150, s_Land_init_152, s_Land_init_152n, s_Land_init_155, s_Land_init_156, s_Land_init_158, s_Land_init_160, s_Land_init_160n, s_Land_init_163, y_kd_sI, y_kd_sL, y_kd_sR, y_kd_cpI, y_kd_cpL, y_ln_sI, y_ln_sL, y_ln_sR, y_ln_cpI, y_ln_cpL, y_sz_sI, y_sz_sL, y_sz_sR, y_sz_cpI, y_sz_cpL, y_sl_sI, y_sl_sL, y_sl_sR, y_sl_cpI, y_sl_cpL, y_gI_sL, y_gI_sR, y_gI_cpI, y_gI_cpL, y_gI_nw, y_gL_sI, y_gL_sR, y_gL_cpI, y_gL_cpL, y_gL_nw, y_gR_sI, y_gR_sL, y_gR_cpI, y_gR_cpL, y_gR_nw, y_kd_nw, y_ln_nw, y_sz_nw, y_sl_nw, y_fx_int, y_fx_long, y_fx_ref, y_fx_null, y_fx_U, y_rf_s, y_rf_n, a_inb, a_ix, a_lt, a_eq, a_eq0, a_lt0, a_0lt, a_m1, a_m2, a_mlt, a_sub, a_dec, a_div, a_rem, a_shl, a_shr, a_bit, a_bit0, a_II, a_Ia, a_Ik, a_LL, a_La, a_Lk, a_RR, a_Ra, a_Rk, a_if0, a_if1, y_mul, y_and, y_or, nI_add, y_b1, y_b0, kon_v, kon_0, true_or, or_true, and_self, true_and, and_true, false_or, or_false, and_false, false_and, not_true_eq_false, not_false_eq_true, ite_self, ↓reduceIte, Nat.reduceEqDiff, Nat.reduceLeDiff, Nat.reduceAdd, Nat.reduceMul, Nat.reduceSub, Nat.reduceLT, Nat.reduceShiftLeft, Nat.reduceOr, Nat.reduceAnd, Bool.false_eq_true, b_if, b_z1, b_z0, b_zz, b_a1, b_a0, b_lc, b_zF, b_zT, b_lbit]
  obtain ⟨h2, q2, ⟨p2, z2, w2, n2⟩⟩ := la_fields (g := g) (r := r) o1 f1 n1.1 n1.2.1 (by omega)
  rw [s1, q2]
  clear s1 q2
  have k2 : kd h2 m = 4 := ((p2.1 m (by omega)).1).trans o1.1
  have s2 : ev g Land_init 40 [.ref m, .ref r, .int (nI 10)] [] h2 = ev g Land_init 45 [.ref m, .ref r, .int (nI 10)] [] (sI h2 m 1 (nI 0)) := by
    simp (disch := omega) only [s_Land_init_0, s_Land_init_1, s_Land_init_4, s_Land_init_5, s_Land_init_7, s_Land_init_10, s_Land_init_10n, s_Land_init_13, s_Land_init_14, s_Land_init_15, s_Land_init_16, s_Land_init_18, s_Land_init_21, s_Land_init_22, s_Land_init_25, s_Land_init_26, s_Land_init_29, s_Land_init_30, s_Land_init_33, s_Land_init_34, s_Land_init_37, s_Land_init_40, s_Land_init_41, s_Land_init_42, s_Land_init_46, s_Land_init_48, s_Land_init_51, s_Land_init_51n, s_Land_init_54, s_Land_init_55, s_Land_init_56, s_Land_init_57, s_Land_init_59, s_Land_init_62, s_Land_init_63, s_Land_init_66, s_Land_init_67, s_Land_init_70, s_Land_init_71, s_Land_init_74, s_Land_init_75, s_Land_init_78, s_Land_init_81, s_Land_init_82, s_Land_init_83, s_Land_init_86, s_Land_init_87, s_Land_init_88, s_Land_init_90, s_Land_init_90n, s_Land_init_93, s_Land_init_94, s_Land_init_95, s_Land_init_96, s_Land_init_97, s_Land_init_100, s_Land_init_101, s_Land_init_104, s_Land_init_105, s_Land_init_106, s_Land_init_107, s_Land_init_110, s_Land_init_113, s_Land_init_114, s_Land_init_117, s_Land_init_118, s_Land_init_121, s_Land_init_121n, s_Land_init_124, s_Land_init_125, s_Land_init_128, s_Land_init_129, s_Land_init_132, s_Land_init_132n, s_Land_init_135, s_Land_init_136, s_Land_init_139, s_Land_init_140, s_Land_init_141, s_Land_init_144, s_Land_init_144n, s_Land_init_147, s_Land_init_148, s_Land_init_150, s_Land_init_152, s_Land_init_152n, s_Land_init_155, s_Land_init_156, s_Land_init_158, s_Land_init_160, s_Land_init_160n, s_Land_init_163, y_kd_sI, y_kd_sL, y_kd_sR, y_kd_cpI, y_kd_cpL, y_ln_sI, y_ln_sL, y_ln_sR, y_ln_cpI, y_ln_cpL, y_sz_sI, y_sz_sL, y_sz_sR, y_sz_cpI, y_sz_cpL, y_sl_sI, y_sl_sL, y_sl_sR, y_sl_cpI, y_sl_cpL, y_gI_sL, y_gI_sR, y_gI_cpI, y_gI_cpL, y_gI_nw, y_gL_sI, y_gL_sR, y_gL_cpI, y_gL_cpL, y_gL_nw, y_gR_sI, y_gR_sL, y_gR_cpI, y_gR_cpL, y_gR_nw, y_kd_nw, y_ln_nw, y_sz_nw, y_sl_nw, y_fx_int, y_fx_long, y_fx_ref, y_fx_null, y_fx_U, y_rf_s, y_rf_n, a_inb, a_ix, a_lt, a_eq, a_eq0, a_lt0, a_0lt, a_m1, a_m2, a_mlt, a_sub, a_dec, a_div, a_rem, a_shl, a_shr, a_bit, a_bit0, a_II, a_Ia, a_Ik, a_LL, a_La, a_Lk, a_RR, a_Ra, a_Rk, a_if0, a_if1, y_mul, y_and, y_or, nI_add, y_b1, y_b0, kon_v, kon_0, true_or, or_true, and_self, true_and, and_true, false_or, or_false, and_false, false_and, not_true_eq_false, not_false_eq_true, ite_self, ↓reduceIte, Nat.reduceEqDiff, Nat.reduceLeDiff, Nat.reduceAdd, Nat.reduceMul, Nat.reduceSub, Nat.reduceLT, Nat.reduceShiftLeft, Nat.reduceOr, Nat.reduceAnd, Bool.false_eq_true, b_if, b_z1, b_z0, b_zz, b_a1, b_a0, b_lc, b_zF, b_zT, b_lbit, k2]
  rw [s2]
  clear s2
  have p3 : kp h2 (sI h2 m 1 (nI 0)) (m + 12) m := kp_I
  have z3 : sz (sI h2 m 1 (nI 0)) = m + 12 := by show sz h2 = _; omega
  have w3 : sl (sI h2 m 1 (nI 0)) = sl h2 := rfl
  have o3 : okk 4 m (sI h2 m 1 (nI 0)) := ⟨k2, by rw [z3]; omega⟩
  have i3 : gI (sI h2 m 1 (nI 0)) m 1 = nI 0 := a_II
  have y3 : ∀ k : Nat, gR (sI h2 m 1 (nI 0)) m k = gR h2 m k := fun k => rfl
  generalize sI h2 m 1 (nI 0) = h3 at *
  rw [iLand_init_2 o3]
  obtain ⟨p4, x4, z4, w4, n4, f4⟩ := al_st (m := m) (h := h3) (e := (2, 26, 24)) (c := 12) (d := 13) z3 (by decide) rfl
  have o4 := o3.S (e := (2, 26, 24))
  generalize alS m h3 (2, 26, 24) = h4 at *
  have s4 : ev g Land_init 54 [.ref m, .ref r, .int (nI 10)] [] h4 = ev g Land_init 56 [.ref m, .ref r, .int (nI 0)] [] h4 := by
    simp (disch := omega) only [s_Land_init_0, s_Land_init_1, s_Land_init_4, s_Land_init_5, s_Land_init_7, s_Land_init_10, s_Land_init_10n, s_Land_init_13, s_Land_init_14, s_Land_init_15, s_Land_init_16, s_Land_init_18, s_Land_init_21, s_Land_init_22, s_Land_init_25, s_Land_init_26, s_Land_init_29, s_Land_init_30, s_Land_init_33, s_Land_init_34, s_Land_init_37, s_Land_init_40, s_Land_init_41, s_Land_init_42, s_Land_init_45, s_Land_init_46, s_Land_init_48, s_Land_init_51, s_Land_init_51n, s_Land_init_54, s_Land_init_55, s_Land_init_57, s_Land_init_59, s_Land_init_62, s_Land_init_63, s_Land_init_66, s_Land_init_67, s_Land_init_70, s_Land_init_71, s_Land_init_74, s_Land_init_75, s_Land_init_78, s_Land_init_81, s_Land_init_82, s_Land_init_83, s_Land_init_86, s_Land_init_87, s_Land_init_88, s_Land_init_90, s_Land_init_90n, s_Land_init_93, s_Land_init_94, s_Land_init_95, s_Land_init_96, s_Land_init_97, s_Land_init_100, s_Land_init_101, s_Land_init_104, s_Land_init_105, s_Land_init_106, s_Land_init_107, s_Land_init_110, s_Land_init_113, s_Land_init_114, s_Land_init_117, s_Land_init_118, s_Land_init_121, s_Land_init_121n, s_Land_init_124, s_Land_init_125, s_Land_init_128, s_Land_init_129, s_Land_init_132, s_Land_init_132n, s_Land_init_135, s_Land_init_136, s_Land_init_139, s_Land_init_140, s_Land_init_141, s_Land_init_144, s_Land_init_144n, s_Land_init_147, s_Land_init_148, s_Land_init_150, s_Land_init_152, s_Land_init_152n, s_Land_init_155, s_Land_init_156, s_Land_init_158, s_Land_init_160, s_Land_init_160n, s_Land_init_163, y_kd_sI, y_kd_sL, y_kd_sR, y_kd_cpI, y_kd_cpL, y_ln_sI, y_ln_sL, y_ln_sR, y_ln_cpI, y_ln_cpL, y_sz_sI, y_sz_sL, y_sz_sR, y_sz_cpI, y_sz_cpL, y_sl_sI, y_sl_sL, y_sl_sR, y_sl_cpI, y_sl_cpL, y_gI_sL, y_gI_sR, y_gI_cpI, y_gI_cpL, y_gI_nw, y_gL_sI, y_gL_sR, y_gL_cpI, y_gL_cpL, y_gL_nw, y_gR_sI, y_gR_sL, y_gR_cpI, y_gR_cpL, y_gR_nw, y_kd_nw, y_ln_nw, y_sz_nw, y_sl_nw, y_fx_int, y_fx_long, y_fx_ref, y_fx_null, y_fx_U, y_rf_s, y_rf_n, a_inb, a_ix, a_lt, a_eq, a_eq0, a_lt0, a_0lt, a_m1, a_m2, a_mlt, a_sub, a_dec, a_div, a_rem, a_shl, a_shr, a_bit, a_bit0, a_II, a_Ia, a_Ik, a_LL, a_La, a_Lk, a_RR, a_Ra, a_Rk, a_if0, a_if1, y_mul, y_and, y_or, nI_add, y_b1, y_b0, kon_v, kon_0, true_or, or_true, and_self, true_and, and_true, false_or, or_false, and_false, false_and, not_true_eq_false, not_false_eq_true, ite_self, ↓reduceIte, Nat.reduceEqDiff, Nat.reduceLeDiff, Nat.reduceAdd, Nat.reduceMul, Nat.reduceSub, Nat.reduceLT, Nat.reduceShiftLeft, Nat.reduceOr, Nat.reduceAnd, Bool.false_eq_true, b_if, b_z1, b_z0, b_zz, b_a1, b_a0, b_lc, b_zF, b_zT, b_lbit]
  obtain ⟨h5, q5, ⟨p5, z5, w5, n5⟩⟩ := la_deeds (g := g) (r := r) o4 f4 n4.1 n4.2.1 (by omega)
  rw [s4, q5]
  clear s4 q5
  have k5 : kd h5 m = 4 := ((p5.1 m (by omega)).1).trans o4.1
  have s5 : ev g Land_init 81 [.ref m, .ref r, .int (nI 24)] [] h5 = ev g Land_init 86 [.ref m, .ref r, .int (nI 24)] [] (sI h5 m 3 (nI 0)) := by
    simp (disch := omega) only [s_Land_init_0, s_Land_init_1, s_Land_init_4, s_Land_init_5, s_Land_init_7, s_Land_init_10, s_Land_init_10n, s_Land_init_13, s_Land_init_14, s_Land_init_15, s_Land_init_16, s_Land_init_18, s_Land_init_21, s_Land_init_22, s_Land_init_25, s_Land_init_26, s_Land_init_29, s_Land_init_30, s_Land_init_33, s_Land_init_34, s_Land_init_37, s_Land_init_40, s_Land_init_41, s_Land_init_42, s_Land_init_45, s_Land_init_46, s_Land_init_48, s_Land_init_51, s_Land_init_51n, s_Land_init_54, s_Land_init_55, s_Land_init_56, s_Land_init_57, s_Land_init_59, s_Land_init_62, s_Land_init_63, s_Land_init_66, s_Land_init_67, s_Land_init_70, s_Land_init_71, s_Land_init_74, s_Land_init_75, s_Land_init_78, s_Land_init_81, s_Land_init_82, s_Land_init_83, s_Land_init_87, s_Land_init_88, s_Land_init_90, s_Land_init_90n, s_Land_init_93, s_Land_init_94, s_Land_init_95, s_Land_init_96, s_Land_init_97, s_Land_init_100, s_Land_init_101, s_Land_init_104, s_Land_init_105, s_Land_init_106, s_Land_init_107, s_Land_init_110, s_Land_init_113, s_Land_init_114, s_Land_init_117, s_Land_init_118, s_Land_init_121, s_Land_init_121n, s_Land_init_124, s_Land_init_125, s_Land_init_128, s_Land_init_129, s_Land_init_132, s_Land_init_132n, s_Land_init_135, s_Land_init_136, s_Land_init_139, s_Land_init_140, s_Land_init_141, s_Land_init_144, s_Land_init_144n, s_Land_init_147, s_Land_init_148, s_Land_init_150, s_Land_init_152, s_Land_init_152n, s_Land_init_155, s_Land_init_156, s_Land_init_158, s_Land_init_160, s_Land_init_160n, s_Land_init_163, y_kd_sI, y_kd_sL, y_kd_sR, y_kd_cpI, y_kd_cpL, y_ln_sI, y_ln_sL, y_ln_sR, y_ln_cpI, y_ln_cpL, y_sz_sI, y_sz_sL, y_sz_sR, y_sz_cpI, y_sz_cpL, y_sl_sI, y_sl_sL, y_sl_sR, y_sl_cpI, y_sl_cpL, y_gI_sL, y_gI_sR, y_gI_cpI, y_gI_cpL, y_gI_nw, y_gL_sI, y_gL_sR, y_gL_cpI, y_gL_cpL, y_gL_nw, y_gR_sI, y_gR_sL, y_gR_cpI, y_gR_cpL, y_gR_nw, y_kd_nw, y_ln_nw, y_sz_nw, y_sl_nw, y_fx_int, y_fx_long, y_fx_ref, y_fx_null, y_fx_U, y_rf_s, y_rf_n, a_inb, a_ix, a_lt, a_eq, a_eq0, a_lt0, a_0lt, a_m1, a_m2, a_mlt, a_sub, a_dec, a_div, a_rem, a_shl, a_shr, a_bit, a_bit0, a_II, a_Ia, a_Ik, a_LL, a_La, a_Lk, a_RR, a_Ra, a_Rk, a_if0, a_if1, y_mul, y_and, y_or, nI_add, y_b1, y_b0, kon_v, kon_0, true_or, or_true, and_self, true_and, and_true, false_or, or_false, and_false, false_and, not_true_eq_false, not_false_eq_true, ite_self, ↓reduceIte, Nat.reduceEqDiff, Nat.reduceLeDiff, Nat.reduceAdd, Nat.reduceMul, Nat.reduceSub, Nat.reduceLT, Nat.reduceShiftLeft, Nat.reduceOr, Nat.reduceAnd, Bool.false_eq_true, b_if, b_z1, b_z0, b_zz, b_a1, b_a0, b_lc, b_zF, b_zT, b_lbit, k5]
  rw [s5]
  clear s5
  have p6 : kp h5 (sI h5 m 3 (nI 0)) (m + 37) m := kp_I
  have z6 : sz (sI h5 m 3 (nI 0)) = m + 37 := by show sz h5 = _; omega
  have w6 : sl (sI h5 m 3 (nI 0)) = sl h5 := rfl
  have o6 : okk 4 m (sI h5 m 3 (nI 0)) := ⟨k5, by rw [z6]; omega⟩
  have i6 : gI (sI h5 m 3 (nI 0)) m 3 = nI 0 := a_II
  have j6 : gI (sI h5 m 3 (nI 0)) m 1 = gI h5 m 1 := a_Ik (by decide)
  have y6 : ∀ k : Nat, gR (sI h5 m 3 (nI 0)) m k = gR h5 m k := fun k => rfl
  generalize sI h5 m 3 (nI 0) = h6 at *
  rw [iLand_init_4 o6]
  obtain ⟨p7, x7, z7, w7, n7, f7⟩ := al_st (m := m) (h := h6) (e := (4, 20, 4)) (c := 37) (d := 38) z6 (by decide) rfl
  have o7 := o6.S (e := (4, 20, 4))
  generalize alS m h6 (4, 20, 4) = h7 at *
  have s7 : ev g Land_init 93 [.ref m, .ref r, .int (nI 24)] [] h7 = ev g Land_init 95 [.ref m, .ref r, .int (nI 0)] [] h7 := by
    simp (disch := omega) only [s_Land_init_0, s_Land_init_1, s_Land_init_4, s_Land_init_5, s_Land_init_7, s_Land_init_10, s_Land_init_10n, s_Land_init_13, s_Land_init_14, s_Land_init_15, s_Land_init_16, s_Land_init_18, s_Land_init_21, s_Land_init_22, s_Land_init_25, s_Land_init_26, s_Land_init_29, s_Land_init_30, s_Land_init_33, s_Land_init_34, s_Land_init_37, s_Land_init_40, s_Land_init_41, s_Land_init_42, s_Land_init_45, s_Land_init_46, s_Land_init_48, s_Land_init_51, s_Land_init_51n, s_Land_init_54, s_Land_init_55, s_Land_init_56, s_Land_init_57, s_Land_init_59, s_Land_init_62, s_Land_init_63, s_Land_init_66, s_Land_init_67, s_Land_init_70, s_Land_init_71, s_Land_init_74, s_Land_init_75, s_Land_init_78, s_Land_init_81, s_Land_init_82, s_Land_init_83, s_Land_init_86, s_Land_init_87, s_Land_init_88, s_Land_init_90, s_Land_init_90n, s_Land_init_93, s_Land_init_94, s_Land_init_96, s_Land_init_97, s_Land_init_100, s_Land_init_101, s_Land_init_104, s_Land_init_105, s_Land_init_106, s_Land_init_107, s_Land_init_110, s_Land_init_113, s_Land_init_114, s_Land_init_117, s_Land_init_118, s_Land_init_121, s_Land_init_121n, s_Land_init_124, s_Land_init_125, s_Land_init_128, s_Land_init_129, s_Land_init_132, s_Land_init_132n, s_Land_init_135, s_Land_init_136, s_Land_init_139, s_Land_init_140, s_Land_init_141, s_Land_init_144, s_Land_init_144n, s_Land_init_147, s_Land_init_148, s_Land_init_150, s_Land_init_152, s_Land_init_152n, s_Land_init_155, s_Land_init_156, s_Land_init_158, s_Land_init_160, s_Land_init_160n, s_Land_init_163, y_kd_sI, y_kd_sL, y_kd_sR, y_kd_cpI, y_kd_cpL, y_ln_sI, y_ln_sL, y_ln_sR, y_ln_cpI, y_ln_cpL, y_sz_sI, y_sz_sL, y_sz_sR, y_sz_cpI, y_sz_cpL, y_sl_sI, y_sl_sL, y_sl_sR, y_sl_cpI, y_sl_cpL, y_gI_sL, y_gI_sR, y_gI_cpI, y_gI_cpL, y_gI_nw, y_gL_sI, y_gL_sR, y_gL_cpI, y_gL_cpL, y_gL_nw, y_gR_sI, y_gR_sL, y_gR_cpI, y_gR_cpL, y_gR_nw, y_kd_nw, y_ln_nw, y_sz_nw, y_sl_nw, y_fx_int, y_fx_long, y_fx_ref, y_fx_null, y_fx_U, y_rf_s, y_rf_n, a_inb, a_ix, a_lt, a_eq, a_eq0, a_lt0, a_0lt, a_m1, a_m2, a_mlt, a_sub, a_dec, a_div, a_rem, a_shl, a_shr, a_bit, a_bit0, a_II, a_Ia, a_Ik, a_LL, a_La, a_Lk, a_RR, a_Ra, a_Rk, a_if0, a_if1, y_mul, y_and, y_or, nI_add, y_b1, y_b0, kon_v, kon_0, true_or, or_true, and_self, true_and, and_true, false_or, or_false, and_false, false_and, not_true_eq_false, not_false_eq_true, ite_self, ↓reduceIte, Nat.reduceEqDiff, Nat.reduceLeDiff, Nat.reduceAdd, Nat.reduceMul, Nat.reduceSub, Nat.reduceLT, Nat.reduceShiftLeft, Nat.reduceOr, Nat.reduceAnd, Bool.false_eq_true, b_if, b_z1, b_z0, b_zz, b_a1, b_a0, b_lc, b_zF, b_zT, b_lbit]
  obtain ⟨h8, q8, t8, n8⟩ := la_means (g := g) (r := r) o7 f7 n7.1 n7.2.1
  rw [s7, q8]
  clear s7 q8
  have z8 : sz h8 = m + 38 := (t8.2.2.2.1).trans z7
  have w8 := t8.2.2.2.2.1
  have o8 : okk 4 m h8 := ⟨(t8.1 m).trans o7.1, by omega⟩
  have G1 : kp h h8 m m := ((((((p1.wd (by omega) (Or.inl rfl)).tr (p2.wd (by omega) (Or.inr (by omega)))).tr (p3.wd (by omega) (Or.inl rfl))).tr (p4.wd (by omega) (Or.inl rfl))).tr (p5.wd (by omega) (Or.inr (by omega)))).tr (p6.wd (by omega) (Or.inl rfl))).tr ((p7.wd (by omega) (Or.inl rfl)).tr (kp_sam t8 (by omega)))
  have T7 : kp h7 h8 (m + 37) m := kp_sam t8 (by omega)
  have T5 : kp h5 h8 (m + 37) m := (p6.tr (p7.wd (by omega) (Or.inl rfl))).tr T7
  have T2 : kp h2 h8 (m + 12) m := ((p3.tr (p4.wd (by omega) (Or.inl rfl))).tr (p5.wd (by omega) (Or.inr (by omega)))).tr (T5.wd (by omega) (Or.inl rfl))
  have y2 : ∀ k : Nat, gR h2 m k = gR h1 m k := fun k => (p2.2 m k (by omega) (by omega)).1
  have y4 : ∀ k : Nat, ¬ k = 2 → gR h4 m k = gR h3 m k := fun k hk => (x4 k hk).1
  have y5 : ∀ k : Nat, gR h5 m k = gR h4 m k := fun k => (p5.2 m k (by omega) (by omega)).1
  have y7 : ∀ k : Nat, ¬ k = 4 → gR h7 m k = gR h6 m k := fun k hk => (x7 k hk).1
  have y8 : ∀ k : Nat, gR h8 m k = gR h7 m k := fun k => t8.2.2.1 m k
  have j8 : ∀ k : Nat, ¬ k = 4 → gI h8 m k = gI h6 m k := fun k k4 => (t8.2.2.2.2.2.1 m k (by omega)).trans (x7 k k4).2.1
  have g0 : gR h8 m 0 = some (m + 1) := by simp (disch := decide) only [y8, y7, y6, y5, y4, y3, y2, f1]
  have g2 : gR h8 m 2 = some (m + 12) := by simp (disch := decide) only [y8, y7, y6, y5, f4]
  have g4 : gR h8 m 4 = some (m + 37) := by simp (disch := decide) only [y8, f7]
  have k1 : kd h8 (m + 1) = 25 := ((T2.1 _ (by omega)).1).trans (((p2.1 _ (by omega)).1).trans n1.1)
  have l1 : ln h8 (m + 1) = 10 := ((T2.1 _ (by omega)).2).trans (((p2.1 _ (by omega)).2).trans n1.2.1)
  have k12 : kd h8 (m + 12) = 26 := ((T5.1 _ (by omega)).1).trans (((p5.1 _ (by omega)).1).trans n4.1)
  have l12 : ln h8 (m + 12) = 24 := ((T5.1 _ (by omega)).2).trans (((p5.1 _ (by omega)).2).trans n4.2.1)
  refine ⟨h8, rfl, o8, G1, z8, ?_, ⟨g0, g2, g4⟩, ⟨k1, l1, k12, l12, (t8.1 _).trans n7.1, (t8.2.1 _).trans n7.2.1⟩, fun j hj => ⟨?_, ?_⟩, fun j hj => ⟨?_, ?_⟩, ?_, ?_, n8⟩
  · have w1 : sl h1 = sl h + 10 := w1
    have w4 : sl h4 = sl h3 + 24 := w4
    have w7 : sl h7 = sl h6 + 4 := w7
    omega
  · exact ((T2.2 _ _ (by omega) (by omega)).1).trans (n2 j hj).1
  · have := (n2 j hj).2
    exact ((T2.1 _ (by omega)).1).trans this
  · exact ((T5.2 _ _ (by omega) (by omega)).1).trans (n5 j hj).1
  · have := (n5 j hj).2
    exact ((T5.1 _ (by omega)).1).trans this
  · rw [j8 1 (by decide), j6, (p5.2 m 1 (by omega) (by omega)).2.1, (x4 1 (by decide)).2.1, i3]
  · rw [j8 3 (by decide), i6]
theorem k_Land (hk : kd h m = 4) (hz : sz h = m + 1) (w : rul h r t) (hr : r < m) (ht : t < m) : ∃ h' : zMem, call g Land_init [.ref m, .ref r] h = some (none, h') ∧ kp h h' m m ∧ sz h' = m + 54 ∧ sl h' = sl h + 1667 ∧ oLand h' m ∧ oSearch h' (m + 43) r t ∧ qE h' (m + 44) ∧ laE h' m := by
  obtain ⟨h8, q8, o8, G1, z8, w8, ⟨f1, f4, f7⟩, ⟨n11, n112, n41, n42, n71, n72⟩, n2, n5, i3, i6, n8⟩ := k_LandA (g := g) (r := r) hk hz
  rw [q8]
  clear q8 hk
  -- the plan
  obtain ⟨a1, a2, a3, a4, a5⟩ := nw_st (h := h8) (m := m) (K := 5) (w := 3) (c := 38) (d := 39) z8 rfl
  obtain ⟨e9, q9, b1, b2, b3, b4, b5, b6, b7⟩ := k_Plan (g := g) a1 a2
  obtain ⟨p9, x9⟩ := sb_st (s := 5) (v := some (sz h8)) a5 b1 (by decide)
  rw [← z8] at q9
  have o9 : okk 4 m (sR e9 m 5 (some (sz h8))) := ⟨((p9.1 m (by omega)).1).trans o8.1, by show m < sz e9; omega⟩
  rw [jLand_init_5 o8 q9 o9.1]
  clear q9
  have f9 : gR (sR e9 m 5 (some (sz h8))) m 5 = some (m + 38) := by rw [a_RR, z8]
  have t9 : kp e9 (sR e9 m 5 (some (sz h8))) (m + 41) m := kp_R
  have z9 : sz (sR e9 m 5 (some (sz h8))) = m + 41 := b2
  have w9 : sl (sR e9 m 5 (some (sz h8))) = sl e9 := rfl
  generalize sR e9 m 5 (some (sz h8)) = h9 at *
  -- the board
  obtain ⟨c1, c2, c3, c4, c5⟩ := nw_st (h := h9) (m := m) (K := 1) (w := 2) (c := 41) (d := 42) z9 rfl
  obtain ⟨e10, q10, d1, d2, d3, d4, d5, d6, d7⟩ := k_Board (g := g) c1 c2
  obtain ⟨p10, x10⟩ := sb_st (s := 6) (v := some (sz h9)) c5 d1 (by decide)
  rw [← z9] at q10
  have o10 : okk 4 m (sR e10 m 6 (some (sz h9))) := ⟨((p10.1 m (by omega)).1).trans o9.1, by show m < sz e10; omega⟩
  rw [jLand_init_6 o9 q10 o10.1]
  clear q10
  have f10 : gR (sR e10 m 6 (some (sz h9))) m 6 = some (m + 41) := by rw [a_RR, z9]
  have t10 : kp e10 (sR e10 m 6 (some (sz h9))) (m + 43) m := kp_R
  have z10 : sz (sR e10 m 6 (some (sz h9))) = m + 43 := d2
  have w10 : sl (sR e10 m 6 (some (sz h9))) = sl e10 := rfl
  generalize sR e10 m 6 (some (sz h9)) = h10 at *
  have G2 : kp h h10 m m := (G1.tr (p9.wd (by omega) (Or.inl rfl))).tr (p10.wd (by omega) (Or.inl rfl))
  have w' := w.fr G2 hr ht (by omega)
  -- the search
  obtain ⟨u1, u2, u3, u4, u5⟩ := nw_st (h := h10) (m := m) (K := 7) (w := 9) (c := 43) (d := 44) z10 rfl
  have w'' := w'.fr (u5.wd (Nat.le_refl _) (Or.inl rfl)) (by omega) (by omega) (by omega)
  obtain ⟨e11, q11, v1, v2, v3, v4, v5, v6, v7⟩ := k_Search (g := g) u1 u2 w'' (by omega) (by omega)
  obtain ⟨p11, x11⟩ := sb_st (s := 7) (v := some (sz h10)) u5 v1 (by decide)
  rw [← z10] at q11
  have o11 : okk 4 m (sR e11 m 7 (some (sz h10))) := ⟨((p11.1 m (by omega)).1).trans o10.1, by show m < sz e11; omega⟩
  rw [jLand_init_7 o10 q11 o11.1]
  clear q11
  have f11 : gR (sR e11 m 7 (some (sz h10))) m 7 = some (m + 43) := by rw [a_RR, z10]
  have t11 : kp e11 (sR e11 m 7 (some (sz h10))) (m + 52) m := kp_R
  have z11 : sz (sR e11 m 7 (some (sz h10))) = m + 52 := v2
  have w11 : sl (sR e11 m 7 (some (sz h10))) = sl e11 := rfl
  generalize sR e11 m 7 (some (sz h10)) = h11 at *
  -- two arrays
  rw [iLand_init_8 o11]
  obtain ⟨p12, x12, z12, w12, n12, f12⟩ := al_st (m := m) (h := h11) (e := (8, 20, 10)) (c := 52) (d := 53) z11 (by decide) rfl
  have o12 := o11.S (e := (8, 20, 10))
  generalize alS m h11 (8, 20, 10) = h12 at *
  rw [iLand_init_9 o12, s_Land_init_163]
  obtain ⟨p13, x13, z13, w13, n13, f13⟩ := al_st (m := m) (h := h12) (e := (9, 20, 10)) (c := 53) (d := 54) z12 (by decide) rfl
  have o13 := o12.S (e := (9, 20, 10))
  generalize alS m h12 (9, 20, 10) = h13 at *
  -- what stays to the end
  have T11 : kp h11 h13 (m + 52) m := p12.tr (p13.wd (by omega) (Or.inl rfl))
  have S11 : kp e11 h13 (m + 52) m := t11.tr T11
  have T10 : kp h10 h13 (m + 43) m := p11.tr (T11.wd (by omega) (Or.inl rfl))
  have S10 : kp e10 h13 (m + 43) m := t10.tr T10
  have T9 : kp h9 h13 (m + 41) m := p10.tr (T10.wd (by omega) (Or.inl rfl))
  have S9 : kp e9 h13 (m + 41) m := t9.tr T9
  have T8 : kp h8 h13 (m + 38) m := p9.tr (T9.wd (by omega) (Or.inl rfl))
  have G : kp h h13 m m := G2.tr (T10.wd (by omega) (Or.inl rfl))
  -- m's own
  have y9 : ∀ k : Nat, ¬ k = 5 → gR h9 m k = gR h8 m k := fun k hk => (x9 k hk).1
  have y10 : ∀ k : Nat, ¬ k = 6 → gR h10 m k = gR h9 m k := fun k hk => (x10 k hk).1
  have y11 : ∀ k : Nat, ¬ k = 7 → gR h11 m k = gR h10 m k := fun k hk => (x11 k hk).1
  have y12 : ∀ k : Nat, ¬ k = 8 → gR h12 m k = gR h11 m k := fun k hk => (x12 k hk).1
  have y13 : ∀ k : Nat, ¬ k = 9 → gR h13 m k = gR h12 m k := fun k hk => (x13 k hk).1
  have j13 : ∀ k : Nat, ¬ k = 9 → ¬ k = 8 → ¬ k = 7 → ¬ k = 6 → ¬ k = 5 → gI h13 m k = gI h8 m k := fun k k9 k8 k7 k6 k5 => ((x13 k k9).2.1).trans (((x12 k k8).2.1).trans (((x11 k k7).2.1).trans (((x10 k k6).2.1).trans (x9 k k5).2.1)))
  have g0 : gR h13 m 0 = some (m + 1) := by simp (disch := decide) only [y13, y12, y11, y10, y9, f1]
  have g2 : gR h13 m 2 = some (m + 12) := by simp (disch := decide) only [y13, y12, y11, y10, y9, f4]
  have g4 : gR h13 m 4 = some (m + 37) := by simp (disch := decide) only [y13, y12, y11, y10, y9, f7]
  have g5 : gR h13 m 5 = some (m + 38) := by simp (disch := decide) only [y13, y12, y11, y10, f9]
  have g6 : gR h13 m 6 = some (m + 41) := by simp (disch := decide) only [y13, y12, y11, f10]
  have g7 : gR h13 m 7 = some (m + 43) := by simp (disch := decide) only [y13, y12, f11]
  have g8 : gR h13 m 8 = some (m + 52) := by simp (disch := decide) only [y13, f12]
  have k1 : kd h13 (m + 1) = 25 := ((T8.1 _ (by omega)).1).trans n11
  have l1 : ln h13 (m + 1) = 10 := ((T8.1 _ (by omega)).2).trans n112
  have k12 : kd h13 (m + 12) = 26 := ((T8.1 _ (by omega)).1).trans n41
  have l12 : ln h13 (m + 12) = 24 := ((T8.1 _ (by omega)).2).trans n42
  have k37 : kd h13 (m + 37) = 20 := ((T8.1 _ (by omega)).1).trans n71
  have l37 : ln h13 (m + 37) = 4 := ((T8.1 _ (by omega)).2).trans n72
  have k52 : kd h13 (m + 52) = 20 := ((p13.1 _ (by omega)).1).trans n12.1
  have l52 : ln h13 (m + 52) = 10 := ((p13.1 _ (by omega)).2).trans n12.2.1
  have E9 : ∀ b : Nat, b < m + 41 → kd h13 b = kd e9 b ∧ ln h13 b = ln e9 b := fun b hb => S9.1 b hb
  have E10 : ∀ b : Nat, b < m + 43 → kd h13 b = kd e10 b ∧ ln h13 b = ln e10 b := fun b hb => S10.1 b hb
  refine ⟨h13, rfl, G, z13, ?_, ⟨⟨o13.1, g0, g2, g4, g5, g6, g7, g8, f13, k1, l1, k12⟩, ⟨l12, k37, l37, ?_, ?_, ?_, ?_, ?_, ?_, k52, l52, n13.1⟩, ⟨n13.2.1, ?_, ?_, ?_, ?_, ?_⟩, fun j hj => ⟨?_, ?_⟩, fun j hj => ⟨?_, ?_⟩⟩, ?_, ?_, ⟨?_, ?_, fun w hw => ?_, ?_, ?_, fun i hi => ?_, ?_, ?_⟩⟩
  · have w12 : sl h12 = sl h11 + 10 := w12
    have w13 : sl h13 = sl h12 + 10 := w13
    omega
  · exact ((E9 _ (by omega)).1).trans b6.1
  · exact ((E9 _ (by omega)).2).trans b6.2.1
  · exact ((E9 _ (by omega)).1).trans b6.2.2.1
  · exact ((E9 _ (by omega)).2).trans b6.2.2.2
  · exact ((E10 _ (by omega)).1).trans d6.1
  · exact ((E10 _ (by omega)).2).trans d6.2.1
  · exact ((E9 _ (by omega)).1).trans b4
  · exact ((S9.2 _ _ (by omega) (by omega)).1).trans b5.1
  · exact ((S9.2 _ _ (by omega) (by omega)).1).trans b5.2
  · exact ((E10 _ (by omega)).1).trans d4
  · exact ((S10.2 _ _ (by omega) (by omega)).1).trans d5
  · have := (n2 j hj).1
    exact ((T8.2 _ _ (by omega) (by omega)).1).trans this
  · have := (n2 j hj).2
    exact ((T8.1 _ (by omega)).1).trans this
  · have := (n5 j hj).1
    exact ((T8.2 _ _ (by omega) (by omega)).1).trans this
  · have := (n5 j hj).2
    exact ((T8.1 _ (by omega)).1).trans this
  · exact sr_fr S11 (by omega) (by omega) (by omega) (by omega) (by omega) v4
  · obtain ⟨f, c1, c2, c3, c4⟩ := v5
    exact ⟨f, ((S11.2 _ _ (by omega) (by omega)).2.1).trans c1, c2, ((S11.2 _ _ (by omega) (by omega)).2.1).trans c3, fun p hp => ((S11.2 _ _ (by omega) (by omega)).2.1).trans (c4 p hp)⟩
  · rw [j13 1 (by decide) (by decide) (by decide) (by decide) (by decide), i3]
  · rw [j13 3 (by decide) (by decide) (by decide) (by decide) (by decide), i6]
  · exact ((T8.2 _ _ (by omega) (by omega)).2.1).trans (n8 w hw)
  · exact ((S9.2 _ _ (by omega) (by omega)).2.1).trans b7
  · exact ((S10.2 _ _ (by omega) (by omega)).2.1).trans d7
  · exact ((S10.2 _ _ (by omega) (by omega)).2.1).trans (d6.2.2 i).2.1
  · exact ((S11.2 _ _ (by omega) (by omega)).2.1).trans v6
  · exact ((S11.2 _ _ (by omega) (by omega)).2.1).trans v7
end ZCM
