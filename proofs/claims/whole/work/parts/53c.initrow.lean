/-! the constructors of the reference: letters and words, all steps in a row -/
section ZMJ
variable {g : Nat → Nat} {m : Nat} {h : zMem} {y : Int32}
theorem iMo_init_49 (o : okm m h) (hs : ∀ i : Nat, i < 8 → kd h (g (104 + i)) = 41 ∧ g (104 + i) < sz h) : ev g Mo_init 256 [.ref m] [] h = ev g Mo_init 307 [.ref m] [] (alS8 g m h) := by
  have k1 : kd (nw h 27 8 8) m = 13 := by rw [y_kd_nw, if_neg (by have := o.2; omega)]; exact o.1
  have k2 : kd (nw h 27 8 8) (sz h) = 27 := by rw [y_kd_nw, if_pos rfl]
  have k3 : ln (nw h 27 8 8) (sz h) = 8 := by rw [y_ln_nw, if_pos rfl]
  have b1 : inb (nI 8) 65536 = true := by decide
  have x1 : ix (nI 8) = 8 := by decide
  have ek : elK 27 = 41 := rfl
  have c1 : (24 ≤ 27) = True := eq_true (by decide)
  have c2 : (27 < 28) = True := eq_true (by decide)
  have s0 : kd (nw h 27 8 8) (g 104) = 41 := by rw [y_kd_nw, if_neg (by have := (hs 0 (by decide)).2; show ¬ g (104 + 0) = sz h; omega)]; exact (hs 0 (by decide)).1
  have i0 : inb (nI 0) 8 = true := by decide
  have j0 : ix (nI 0) = 0 := by decide
  have s1 : kd (nw h 27 8 8) (g 105) = 41 := by rw [y_kd_nw, if_neg (by have := (hs 1 (by decide)).2; show ¬ g (104 + 1) = sz h; omega)]; exact (hs 1 (by decide)).1
  have i1 : inb (nI 1) 8 = true := by decide
  have j1 : ix (nI 1) = 1 := by decide
  have s2 : kd (nw h 27 8 8) (g 106) = 41 := by rw [y_kd_nw, if_neg (by have := (hs 2 (by decide)).2; show ¬ g (104 + 2) = sz h; omega)]; exact (hs 2 (by decide)).1
  have i2 : inb (nI 2) 8 = true := by decide
  have j2 : ix (nI 2) = 2 := by decide
  have s3 : kd (nw h 27 8 8) (g 107) = 41 := by rw [y_kd_nw, if_neg (by have := (hs 3 (by decide)).2; show ¬ g (104 + 3) = sz h; omega)]; exact (hs 3 (by decide)).1
  have i3 : inb (nI 3) 8 = true := by decide
  have j3 : ix (nI 3) = 3 := by decide
  have s4 : kd (nw h 27 8 8) (g 108) = 41 := by rw [y_kd_nw, if_neg (by have := (hs 4 (by decide)).2; show ¬ g (104 + 4) = sz h; omega)]; exact (hs 4 (by decide)).1
  have i4 : inb (nI 4) 8 = true := by decide
  have j4 : ix (nI 4) = 4 := by decide
  have s5 : kd (nw h 27 8 8) (g 109) = 41 := by rw [y_kd_nw, if_neg (by have := (hs 5 (by decide)).2; show ¬ g (104 + 5) = sz h; omega)]; exact (hs 5 (by decide)).1
  have i5 : inb (nI 5) 8 = true := by decide
  have j5 : ix (nI 5) = 5 := by decide
  have s6 : kd (nw h 27 8 8) (g 110) = 41 := by rw [y_kd_nw, if_neg (by have := (hs 6 (by decide)).2; show ¬ g (104 + 6) = sz h; omega)]; exact (hs 6 (by decide)).1
  have i6 : inb (nI 6) 8 = true := by decide
  have j6 : ix (nI 6) = 6 := by decide
  have s7 : kd (nw h 27 8 8) (g 111) = 41 := by rw [y_kd_nw, if_neg (by have := (hs 7 (by decide)).2; show ¬ g (104 + 7) = sz h; omega)]; exact (hs 7 (by decide)).1
  have i7 : inb (nI 7) 8 = true := by decide
  have j7 : ix (nI 7) = 7 := by decide
  simp (disch := omega) only [s_Mo_init_0, s_Mo_init_1, s_Mo_init_4, s_Mo_init_5, s_Mo_init_7, s_Mo_init_9, s_Mo_init_9n, s_Mo_init_12, s_Mo_init_13, s_Mo_init_15, s_Mo_init_17, s_Mo_init_17n, s_Mo_init_20, s_Mo_init_21, s_Mo_init_23, s_Mo_init_25, s_Mo_init_25n, s_Mo_init_28, s_Mo_init_29, s_Mo_init_31, s_Mo_init_33, s_Mo_init_37, s_Mo_init_37n, s_Mo_init_40, s_Mo_init_41, s_Mo_init_43, s_Mo_init_45, s_Mo_init_45n, s_Mo_init_48, s_Mo_init_49, s_Mo_init_51, s_Mo_init_53, s_Mo_init_53n, s_Mo_init_56, s_Mo_init_57, s_Mo_init_59, s_Mo_init_61, s_Mo_init_61n, s_Mo_init_64, s_Mo_init_65, s_Mo_init_67, s_Mo_init_69, s_Mo_init_69n, s_Mo_init_72, s_Mo_init_73, s_Mo_init_75, s_Mo_init_77, s_Mo_init_77n, s_Mo_init_80, s_Mo_init_81, s_Mo_init_83, s_Mo_init_85, s_Mo_init_85n, s_Mo_init_88, s_Mo_init_89, s_Mo_init_91, s_Mo_init_93, s_Mo_init_93n, s_Mo_init_96, s_Mo_init_97, s_Mo_init_99, s_Mo_init_101, s_Mo_init_101n, s_Mo_init_104, s_Mo_init_105, s_Mo_init_107, s_Mo_init_109, s_Mo_init_109n, s_Mo_init_112, s_Mo_init_113, s_Mo_init_115, s_Mo_init_117, s_Mo_init_117n, s_Mo_init_120, s_Mo_init_121, s_Mo_init_123, s_Mo_init_125, s_Mo_init_125n, s_Mo_init_128, s_Mo_init_129, s_Mo_init_131, s_Mo_init_133, s_Mo_init_133n, s_Mo_init_136, s_Mo_init_137, s_Mo_init_139, s_Mo_init_141, s_Mo_init_141n, s_Mo_init_144, s_Mo_init_145, s_Mo_init_147, s_Mo_init_149, s_Mo_init_149n, s_Mo_init_152, s_Mo_init_153, s_Mo_init_155, s_Mo_init_157, s_Mo_init_157n, s_Mo_init_160, s_Mo_init_161, s_Mo_init_163, s_Mo_init_165, s_Mo_init_165n, s_Mo_init_168, s_Mo_init_169, s_Mo_init_171, s_Mo_init_173, s_Mo_init_173n, s_Mo_init_176, s_Mo_init_177, s_Mo_init_179, s_Mo_init_181, s_Mo_init_181n, s_Mo_init_184, s_Mo_init_185, s_Mo_init_186, s_Mo_init_188, s_Mo_init_189, s_Mo_init_190, s_Mo_init_191, s_Mo_init_192, s_Mo_init_193, s_Mo_init_194, s_Mo_init_195, s_Mo_init_196, s_Mo_init_197, s_Mo_init_198, s_Mo_init_199, s_Mo_init_200, s_Mo_init_201, s_Mo_init_202, s_Mo_init_203, s_Mo_init_204, s_Mo_init_204n, s_Mo_init_207, s_Mo_init_208, s_Mo_init_210, s_Mo_init_212, s_Mo_init_212n, s_Mo_init_215, s_Mo_init_216, s_Mo_init_217, s_Mo_init_220, s_Mo_init_221, s_Mo_init_223, s_Mo_init_225, s_Mo_init_225n, s_Mo_init_228, s_Mo_init_229, s_Mo_init_231, s_Mo_init_233, s_Mo_init_233n, s_Mo_init_236, s_Mo_init_237, s_Mo_init_239, s_Mo_init_241, s_Mo_init_245, s_Mo_init_245n, s_Mo_init_248, s_Mo_init_249, s_Mo_init_251, s_Mo_init_253, s_Mo_init_253n, s_Mo_init_256, s_Mo_init_257, s_Mo_init_259, s_Mo_init_262, s_Mo_init_263, s_Mo_init_264, s_Mo_init_266, s_Mo_init_267, s_Mo_init_268, s_Mo_init_269, s_Mo_init_271, s_Mo_init_272, s_Mo_init_273, s_Mo_init_274, s_Mo_init_276, s_Mo_init_277, s_Mo_init_278, s_Mo_init_279, s_Mo_init_281, s_Mo_init_282, s_Mo_init_283, s_Mo_init_284, s_Mo_init_286, s_Mo_init_287, s_Mo_init_288, s_Mo_init_289, s_Mo_init_291, s_Mo_init_292, s_Mo_init_293, s_Mo_init_295, s_Mo_init_297, s_Mo_init_298, s_Mo_init_299, s_Mo_init_301, s_Mo_init_303, s_Mo_init_304, s_Mo_init_304n, s_Mo_init_308, s_Mo_init_309, s_Mo_init_312, s_Mo_init_313, s_Mo_init_314, s_Mo_init_316, s_Mo_init_317, s_Mo_init_318, s_Mo_init_319, s_Mo_init_321, s_Mo_init_322, s_Mo_init_323, s_Mo_init_324, s_Mo_init_326, s_Mo_init_327, s_Mo_init_327n, s_Mo_init_330, s_Mo_init_331, s_Mo_init_334, s_Mo_init_336, s_Mo_init_336n, s_Mo_init_339, s_Mo_init_340, s_Mo_init_342, s_Mo_init_344, s_Mo_init_344n, s_Mo_init_347, s_Mo_init_348, s_Mo_init_351, s_Mo_init_353, s_Mo_init_353n, s_Mo_init_356, s_Mo_init_357, s_Mo_init_359, s_Mo_init_361, s_Mo_init_361n, s_Mo_init_364, s_Mo_init_365, s_Mo_init_367, s_Mo_init_369, s_Mo_init_369n, s_Mo_init_372, s_Mo_init_373, s_Mo_init_376, s_Mo_init_377, s_Mo_init_378, s_Mo_init_381, s_Mo_init_381n, s_Mo_init_384, y_kd_sI, y_kd_sL, y_kd_sR, y_kd_cpI, y_kd_cpL, y_ln_sI, y_ln_sL, y_ln_sR, y_ln_cpI, y_ln_cpL, y_sz_sI, y_sz_sL, y_sz_sR, y_sz_cpI, y_sz_cpL, y_sl_sI, y_sl_sL, y_sl_sR, y_sl_cpI, y_sl_cpL, y_gI_sL, y_gI_sR, y_gI_cpI, y_gI_cpL, y_gI_nw, y_gL_sI, y_gL_sR, y_gL_cpI, y_gL_cpL, y_gL_nw, y_gR_sI, y_gR_sL, y_gR_cpI, y_gR_cpL, y_gR_nw, y_kd_nw, y_ln_nw, y_sz_nw, y_sl_nw, y_fx_int, y_fx_long, y_fx_ref, y_fx_null, y_fx_U, y_rf_s, y_rf_n, a_inb, a_ix, a_lt, a_eq, a_eq0, a_lt0, a_0lt, a_m1, a_m2, a_mlt, a_sub, a_dec, a_div, a_rem, a_shl, a_shr, a_bit, a_bit0, a_II, a_Ia, a_Ik, a_LL, a_La, a_Lk, a_RR, a_Ra, a_Rk, a_if0, a_if1, y_mul, y_and, y_or, nI_add, y_b1, y_b0, kon_v, kon_0, true_or, or_true, and_self, true_and, and_true, false_or, or_false, and_false, false_and, not_true_eq_false, not_false_eq_true, ite_self, ↓reduceIte, Nat.reduceEqDiff, Nat.reduceLeDiff, Nat.reduceAdd, Nat.reduceMul, Nat.reduceSub, Nat.reduceLT, Nat.reduceShiftLeft, Nat.reduceOr, Nat.reduceAnd, Bool.false_eq_true, b_if, b_z1, b_z0, b_zz, b_a1, b_a0, b_lc, b_zF, b_zT, b_lbit, k1, k2, k3, b1, x1, ek, c1, c2, o.1, and_self, true_and, eq_self, s0, i0, j0, s1, i1, j1, s2, i2, j2, s3, i3, j3, s4, i4, j4, s5, i5, j5, s6, i6, j6, s7, i7, j7]
  rfl
theorem iMo_init_50 (o : okm m h) (hs : ∀ i : Nat, i < 3 → kd h (g (100 + i)) = 41 ∧ g (100 + i) < sz h) : ev g Mo_init 307 [.ref m] [] h = ev g Mo_init 330 [.ref m] [] (alS3 g m h) := by
  have k1 : kd (nw h 27 3 3) m = 13 := by rw [y_kd_nw, if_neg (by have := o.2; omega)]; exact o.1
  have k2 : kd (nw h 27 3 3) (sz h) = 27 := by rw [y_kd_nw, if_pos rfl]
  have k3 : ln (nw h 27 3 3) (sz h) = 3 := by rw [y_ln_nw, if_pos rfl]
  have b1 : inb (nI 3) 65536 = true := by decide
  have x1 : ix (nI 3) = 3 := by decide
  have ek : elK 27 = 41 := rfl
  have c1 : (24 ≤ 27) = True := eq_true (by decide)
  have c2 : (27 < 28) = True := eq_true (by decide)
  have s0 : kd (nw h 27 3 3) (g 100) = 41 := by rw [y_kd_nw, if_neg (by have := (hs 0 (by decide)).2; show ¬ g (100 + 0) = sz h; omega)]; exact (hs 0 (by decide)).1
  have i0 : inb (nI 0) 3 = true := by decide
  have j0 : ix (nI 0) = 0 := by decide
  have s1 : kd (nw h 27 3 3) (g 101) = 41 := by rw [y_kd_nw, if_neg (by have := (hs 1 (by decide)).2; show ¬ g (100 + 1) = sz h; omega)]; exact (hs 1 (by decide)).1
  have i1 : inb (nI 1) 3 = true := by decide
  have j1 : ix (nI 1) = 1 := by decide
  have s2 : kd (nw h 27 3 3) (g 102) = 41 := by rw [y_kd_nw, if_neg (by have := (hs 2 (by decide)).2; show ¬ g (100 + 2) = sz h; omega)]; exact (hs 2 (by decide)).1
  have i2 : inb (nI 2) 3 = true := by decide
  have j2 : ix (nI 2) = 2 := by decide
  simp (disch := omega) only [s_Mo_init_0, s_Mo_init_1, s_Mo_init_4, s_Mo_init_5, s_Mo_init_7, s_Mo_init_9, s_Mo_init_9n, s_Mo_init_12, s_Mo_init_13, s_Mo_init_15, s_Mo_init_17, s_Mo_init_17n, s_Mo_init_20, s_Mo_init_21, s_Mo_init_23, s_Mo_init_25, s_Mo_init_25n, s_Mo_init_28, s_Mo_init_29, s_Mo_init_31, s_Mo_init_33, s_Mo_init_37, s_Mo_init_37n, s_Mo_init_40, s_Mo_init_41, s_Mo_init_43, s_Mo_init_45, s_Mo_init_45n, s_Mo_init_48, s_Mo_init_49, s_Mo_init_51, s_Mo_init_53, s_Mo_init_53n, s_Mo_init_56, s_Mo_init_57, s_Mo_init_59, s_Mo_init_61, s_Mo_init_61n, s_Mo_init_64, s_Mo_init_65, s_Mo_init_67, s_Mo_init_69, s_Mo_init_69n, s_Mo_init_72, s_Mo_init_73, s_Mo_init_75, s_Mo_init_77, s_Mo_init_77n, s_Mo_init_80, s_Mo_init_81, s_Mo_init_83, s_Mo_init_85, s_Mo_init_85n, s_Mo_init_88, s_Mo_init_89, s_Mo_init_91, s_Mo_init_93, s_Mo_init_93n, s_Mo_init_96, s_Mo_init_97, s_Mo_init_99, s_Mo_init_101, s_Mo_init_101n, s_Mo_init_104, s_Mo_init_105, s_Mo_init_107, s_Mo_init_109, s_Mo_init_109n, s_Mo_init_112, s_Mo_init_113, s_Mo_init_115, s_Mo_init_117, s_Mo_init_117n, s_Mo_init_120, s_Mo_init_121, s_Mo_init_123, s_Mo_init_125, s_Mo_init_125n, s_Mo_init_128, s_Mo_init_129, s_Mo_init_131, s_Mo_init_133, s_Mo_init_133n, s_Mo_init_136, s_Mo_init_137, s_Mo_init_139, s_Mo_init_141, s_Mo_init_141n, s_Mo_init_144, s_Mo_init_145, s_Mo_init_147, s_Mo_init_149, s_Mo_init_149n, s_Mo_init_152, s_Mo_init_153, s_Mo_init_155, s_Mo_init_157, s_Mo_init_157n, s_Mo_init_160, s_Mo_init_161, s_Mo_init_163, s_Mo_init_165, s_Mo_init_165n, s_Mo_init_168, s_Mo_init_169, s_Mo_init_171, s_Mo_init_173, s_Mo_init_173n, s_Mo_init_176, s_Mo_init_177, s_Mo_init_179, s_Mo_init_181, s_Mo_init_181n, s_Mo_init_184, s_Mo_init_185, s_Mo_init_186, s_Mo_init_188, s_Mo_init_189, s_Mo_init_190, s_Mo_init_191, s_Mo_init_192, s_Mo_init_193, s_Mo_init_194, s_Mo_init_195, s_Mo_init_196, s_Mo_init_197, s_Mo_init_198, s_Mo_init_199, s_Mo_init_200, s_Mo_init_201, s_Mo_init_202, s_Mo_init_203, s_Mo_init_204, s_Mo_init_204n, s_Mo_init_207, s_Mo_init_208, s_Mo_init_210, s_Mo_init_212, s_Mo_init_212n, s_Mo_init_215, s_Mo_init_216, s_Mo_init_217, s_Mo_init_220, s_Mo_init_221, s_Mo_init_223, s_Mo_init_225, s_Mo_init_225n, s_Mo_init_228, s_Mo_init_229, s_Mo_init_231, s_Mo_init_233, s_Mo_init_233n, s_Mo_init_236, s_Mo_init_237, s_Mo_init_239, s_Mo_init_241, s_Mo_init_245, s_Mo_init_245n, s_Mo_init_248, s_Mo_init_249, s_Mo_init_251, s_Mo_init_253, s_Mo_init_253n, s_Mo_init_256, s_Mo_init_257, s_Mo_init_259, s_Mo_init_262, s_Mo_init_263, s_Mo_init_264, s_Mo_init_266, s_Mo_init_267, s_Mo_init_268, s_Mo_init_269, s_Mo_init_271, s_Mo_init_272, s_Mo_init_273, s_Mo_init_274, s_Mo_init_276, s_Mo_init_277, s_Mo_init_278, s_Mo_init_279, s_Mo_init_281, s_Mo_init_282, s_Mo_init_283, s_Mo_init_284, s_Mo_init_286, s_Mo_init_287, s_Mo_init_288, s_Mo_init_289, s_Mo_init_291, s_Mo_init_292, s_Mo_init_293, s_Mo_init_295, s_Mo_init_297, s_Mo_init_298, s_Mo_init_299, s_Mo_init_301, s_Mo_init_303, s_Mo_init_304, s_Mo_init_304n, s_Mo_init_307, s_Mo_init_308, s_Mo_init_309, s_Mo_init_312, s_Mo_init_313, s_Mo_init_314, s_Mo_init_316, s_Mo_init_317, s_Mo_init_318, s_Mo_init_319, s_Mo_init_321, s_Mo_init_322, s_Mo_init_323, s_Mo_init_324, s_Mo_init_326, s_Mo_init_327, s_Mo_init_327n, s_Mo_init_331, s_Mo_init_334, s_Mo_init_336, s_Mo_init_336n, s_Mo_init_339, s_Mo_init_340, s_Mo_init_342, s_Mo_init_344, s_Mo_init_344n, s_Mo_init_347, s_Mo_init_348, s_Mo_init_351, s_Mo_init_353, s_Mo_init_353n, s_Mo_init_356, s_Mo_init_357, s_Mo_init_359, s_Mo_init_361, s_Mo_init_361n, s_Mo_init_364, s_Mo_init_365, s_Mo_init_367, s_Mo_init_369, s_Mo_init_369n, s_Mo_init_372, s_Mo_init_373, s_Mo_init_376, s_Mo_init_377, s_Mo_init_378, s_Mo_init_381, s_Mo_init_381n, s_Mo_init_384, y_kd_sI, y_kd_sL, y_kd_sR, y_kd_cpI, y_kd_cpL, y_ln_sI, y_ln_sL, y_ln_sR, y_ln_cpI, y_ln_cpL, y_sz_sI, y_sz_sL, y_sz_sR, y_sz_cpI, y_sz_cpL, y_sl_sI, y_sl_sL, y_sl_sR, y_sl_cpI, y_sl_cpL, y_gI_sL, y_gI_sR, y_gI_cpI, y_gI_cpL, y_gI_nw, y_gL_sI, y_gL_sR, y_gL_cpI, y_gL_cpL, y_gL_nw, y_gR_sI, y_gR_sL, y_gR_cpI, y_gR_cpL, y_gR_nw, y_kd_nw, y_ln_nw, y_sz_nw, y_sl_nw, y_fx_int, y_fx_long, y_fx_ref, y_fx_null, y_fx_U, y_rf_s, y_rf_n, a_inb, a_ix, a_lt, a_eq, a_eq0, a_lt0, a_0lt, a_m1, a_m2, a_mlt, a_sub, a_dec, a_div, a_rem, a_shl, a_shr, a_bit, a_bit0, a_II, a_Ia, a_Ik, a_LL, a_La, a_Lk, a_RR, a_Ra, a_Rk, a_if0, a_if1, y_mul, y_and, y_or, nI_add, y_b1, y_b0, kon_v, kon_0, true_or, or_true, and_self, true_and, and_true, false_or, or_false, and_false, false_and, not_true_eq_false, not_false_eq_true, ite_self, ↓reduceIte, Nat.reduceEqDiff, Nat.reduceLeDiff, Nat.reduceAdd, Nat.reduceMul, Nat.reduceSub, Nat.reduceLT, Nat.reduceShiftLeft, Nat.reduceOr, Nat.reduceAnd, Bool.false_eq_true, b_if, b_z1, b_z0, b_zz, b_a1, b_a0, b_lc, b_zF, b_zT, b_lbit, k1, k2, k3, b1, x1, ek, c1, c2, o.1, and_self, true_and, eq_self, s0, i0, j0, s1, i1, j1, s2, i2, j2]
  rfl
theorem iMo_init__49 (o : okm m h) (hs : ∀ i : Nat, i < 8 → kd h (g (104 + i)) = 41 ∧ g (104 + i) < sz h) : ev g Mo_init_ 256 [.ref m, .int y] [] h = ev g Mo_init_ 307 [.ref m, .int y] [] (alS8 g m h) := by
  have k1 : kd (nw h 27 8 8) m = 13 := by rw [y_kd_nw, if_neg (by have := o.2; omega)]; exact o.1
  have k2 : kd (nw h 27 8 8) (sz h) = 27 := by rw [y_kd_nw, if_pos rfl]
  have k3 : ln (nw h 27 8 8) (sz h) = 8 := by rw [y_ln_nw, if_pos rfl]
  have b1 : inb (nI 8) 65536 = true := by decide
  have x1 : ix (nI 8) = 8 := by decide
  have ek : elK 27 = 41 := rfl
  have c1 : (24 ≤ 27) = True := eq_true (by decide)
  have c2 : (27 < 28) = True := eq_true (by decide)
  have s0 : kd (nw h 27 8 8) (g 104) = 41 := by rw [y_kd_nw, if_neg (by have := (hs 0 (by decide)).2; show ¬ g (104 + 0) = sz h; omega)]; exact (hs 0 (by decide)).1
  have i0 : inb (nI 0) 8 = true := by decide
  have j0 : ix (nI 0) = 0 := by decide
  have s1 : kd (nw h 27 8 8) (g 105) = 41 := by rw [y_kd_nw, if_neg (by have := (hs 1 (by decide)).2; show ¬ g (104 + 1) = sz h; omega)]; exact (hs 1 (by decide)).1
  have i1 : inb (nI 1) 8 = true := by decide
  have j1 : ix (nI 1) = 1 := by decide
  have s2 : kd (nw h 27 8 8) (g 106) = 41 := by rw [y_kd_nw, if_neg (by have := (hs 2 (by decide)).2; show ¬ g (104 + 2) = sz h; omega)]; exact (hs 2 (by decide)).1
  have i2 : inb (nI 2) 8 = true := by decide
  have j2 : ix (nI 2) = 2 := by decide
  have s3 : kd (nw h 27 8 8) (g 107) = 41 := by rw [y_kd_nw, if_neg (by have := (hs 3 (by decide)).2; show ¬ g (104 + 3) = sz h; omega)]; exact (hs 3 (by decide)).1
  have i3 : inb (nI 3) 8 = true := by decide
  have j3 : ix (nI 3) = 3 := by decide
  have s4 : kd (nw h 27 8 8) (g 108) = 41 := by rw [y_kd_nw, if_neg (by have := (hs 4 (by decide)).2; show ¬ g (104 + 4) = sz h; omega)]; exact (hs 4 (by decide)).1
  have i4 : inb (nI 4) 8 = true := by decide
  have j4 : ix (nI 4) = 4 := by decide
  have s5 : kd (nw h 27 8 8) (g 109) = 41 := by rw [y_kd_nw, if_neg (by have := (hs 5 (by decide)).2; show ¬ g (104 + 5) = sz h; omega)]; exact (hs 5 (by decide)).1
  have i5 : inb (nI 5) 8 = true := by decide
  have j5 : ix (nI 5) = 5 := by decide
  have s6 : kd (nw h 27 8 8) (g 110) = 41 := by rw [y_kd_nw, if_neg (by have := (hs 6 (by decide)).2; show ¬ g (104 + 6) = sz h; omega)]; exact (hs 6 (by decide)).1
  have i6 : inb (nI 6) 8 = true := by decide
  have j6 : ix (nI 6) = 6 := by decide
  have s7 : kd (nw h 27 8 8) (g 111) = 41 := by rw [y_kd_nw, if_neg (by have := (hs 7 (by decide)).2; show ¬ g (104 + 7) = sz h; omega)]; exact (hs 7 (by decide)).1
  have i7 : inb (nI 7) 8 = true := by decide
  have j7 : ix (nI 7) = 7 := by decide
  simp (disch := omega) only [s_Mo_init__0, s_Mo_init__1, s_Mo_init__4, s_Mo_init__5, s_Mo_init__7, s_Mo_init__9, s_Mo_init__9n, s_Mo_init__12, s_Mo_init__13, s_Mo_init__15, s_Mo_init__17, s_Mo_init__17n, s_Mo_init__20, s_Mo_init__21, s_Mo_init__23, s_Mo_init__25, s_Mo_init__25n, s_Mo_init__28, s_Mo_init__29, s_Mo_init__31, s_Mo_init__33, s_Mo_init__37, s_Mo_init__37n, s_Mo_init__40, s_Mo_init__41, s_Mo_init__43, s_Mo_init__45, s_Mo_init__45n, s_Mo_init__48, s_Mo_init__49, s_Mo_init__51, s_Mo_init__53, s_Mo_init__53n, s_Mo_init__56, s_Mo_init__57, s_Mo_init__59, s_Mo_init__61, s_Mo_init__61n, s_Mo_init__64, s_Mo_init__65, s_Mo_init__67, s_Mo_init__69, s_Mo_init__69n, s_Mo_init__72, s_Mo_init__73, s_Mo_init__75, s_Mo_init__77, s_Mo_init__77n, s_Mo_init__80, s_Mo_init__81, s_Mo_init__83, s_Mo_init__85, s_Mo_init__85n, s_Mo_init__88, s_Mo_init__89, s_Mo_init__91, s_Mo_init__93, s_Mo_init__93n, s_Mo_init__96, s_Mo_init__97, s_Mo_init__99, s_Mo_init__101, s_Mo_init__101n, s_Mo_init__104, s_Mo_init__105, s_Mo_init__107, s_Mo_init__109, s_Mo_init__109n, s_Mo_init__112, s_Mo_init__113, s_Mo_init__115, s_Mo_init__117, s_Mo_init__117n, s_Mo_init__120, s_Mo_init__121, s_Mo_init__123, s_Mo_init__125, s_Mo_init__125n, s_Mo_init__128, s_Mo_init__129, s_Mo_init__131, s_Mo_init__133, s_Mo_init__133n, s_Mo_init__136, s_Mo_init__137, s_Mo_init__139, s_Mo_init__141, s_Mo_init__141n, s_Mo_init__144, s_Mo_init__145, s_Mo_init__147, s_Mo_init__149, s_Mo_init__149n, s_Mo_init__152, s_Mo_init__153, s_Mo_init__155, s_Mo_init__157, s_Mo_init__157n, s_Mo_init__160, s_Mo_init__161, s_Mo_init__163, s_Mo_init__165, s_Mo_init__165n, s_Mo_init__168, s_Mo_init__169, s_Mo_init__171, s_Mo_init__173, s_Mo_init__173n, s_Mo_init__176, s_Mo_init__177, s_Mo_init__179, s_Mo_init__181, s_Mo_init__181n, s_Mo_init__184, s_Mo_init__185, s_Mo_init__186, s_Mo_init__188, s_Mo_init__189, s_Mo_init__190, s_Mo_init__191, s_Mo_init__192, s_Mo_init__193, s_Mo_init__194, s_Mo_init__195, s_Mo_init__196, s_Mo_init__197, s_Mo_init__198, s_Mo_init__199, s_Mo_init__200, s_Mo_init__201, s_Mo_init__202, s_Mo_init__203, s_Mo_init__204, s_Mo_init__204n, s_Mo_init__207, s_Mo_init__208, s_Mo_init__210, s_Mo_init__212, s_Mo_init__212n, s_Mo_init__215, s_Mo_init__216, s_Mo_init__217, s_Mo_init__220, s_Mo_init__221, s_Mo_init__223, s_Mo_init__225, s_Mo_init__225n, s_Mo_init__228, s_Mo_init__229, s_Mo_init__231, s_Mo_init__233, s_Mo_init__233n, s_Mo_init__236, s_Mo_init__237, s_Mo_init__239, s_Mo_init__241, s_Mo_init__245, s_Mo_init__245n, s_Mo_init__248, s_Mo_init__249, s_Mo_init__251, s_Mo_init__253, s_Mo_init__253n, s_Mo_init__256, s_Mo_init__257, s_Mo_init__259, s_Mo_init__262, s_Mo_init__263, s_Mo_init__264, s_Mo_init__266, s_Mo_init__267, s_Mo_init__268, s_Mo_init__269, s_Mo_init__271, s_Mo_init__272, s_Mo_init__273, s_Mo_init__274, s_Mo_init__276, s_Mo_init__277, s_Mo_init__278, s_Mo_init__279, s_Mo_init__281, s_Mo_init__282, s_Mo_init__283, s_Mo_init__284, s_Mo_init__286, s_Mo_init__287, s_Mo_init__288, s_Mo_init__289, s_Mo_init__291, s_Mo_init__292, s_Mo_init__293, s_Mo_init__295, s_Mo_init__297, s_Mo_init__298, s_Mo_init__299, s_Mo_init__301, s_Mo_init__303, s_Mo_init__304, s_Mo_init__304n, s_Mo_init__308, s_Mo_init__309, s_Mo_init__312, s_Mo_init__313, s_Mo_init__314, s_Mo_init__316, s_Mo_init__317, s_Mo_init__318, s_Mo_init__319, s_Mo_init__321, s_Mo_init__322, s_Mo_init__323, s_Mo_init__324, s_Mo_init__326, s_Mo_init__327, s_Mo_init__327n, s_Mo_init__330, s_Mo_init__331, s_Mo_init__334, s_Mo_init__336, s_Mo_init__336n, s_Mo_init__339, s_Mo_init__340, s_Mo_init__342, s_Mo_init__344, s_Mo_init__344n, s_Mo_init__347, s_Mo_init__348, s_Mo_init__351, s_Mo_init__353, s_Mo_init__353n, s_Mo_init__356, s_Mo_init__357, s_Mo_init__359, s_Mo_init__361, s_Mo_init__361n, s_Mo_init__364, s_Mo_init__365, s_Mo_init__367, s_Mo_init__369, s_Mo_init__369n, s_Mo_init__372, s_Mo_init__373, s_Mo_init__374, s_Mo_init__374n, s_Mo_init__377, y_kd_sI, y_kd_sL, y_kd_sR, y_kd_cpI, y_kd_cpL, y_ln_sI, y_ln_sL, y_ln_sR, y_ln_cpI, y_ln_cpL, y_sz_sI, y_sz_sL, y_sz_sR, y_sz_cpI, y_sz_cpL, y_sl_sI, y_sl_sL, y_sl_sR, y_sl_cpI, y_sl_cpL, y_gI_sL, y_gI_sR, y_gI_cpI, y_gI_cpL, y_gI_nw, y_gL_sI, y_gL_sR, y_gL_cpI, y_gL_cpL, y_gL_nw, y_gR_sI, y_gR_sL, y_gR_cpI, y_gR_cpL, y_gR_nw, y_kd_nw, y_ln_nw, y_sz_nw, y_sl_nw, y_fx_int, y_fx_long, y_fx_ref, y_fx_null, y_fx_U, y_rf_s, y_rf_n, a_inb, a_ix, a_lt, a_eq, a_eq0, a_lt0, a_0lt, a_m1, a_m2, a_mlt, a_sub, a_dec, a_div, a_rem, a_shl, a_shr, a_bit, a_bit0, a_II, a_Ia, a_Ik, a_LL, a_La, a_Lk, a_RR, a_Ra, a_Rk, a_if0, a_if1, y_mul, y_and, y_or, nI_add, y_b1, y_b0, kon_v, kon_0, true_or, or_true, and_self, true_and, and_true, false_or, or_false, and_false, false_and, not_true_eq_false, not_false_eq_true, ite_self, ↓reduceIte, Nat.reduceEqDiff, Nat.reduceLeDiff, Nat.reduceAdd, Nat.reduceMul, Nat.reduceSub, Nat.reduceLT, Nat.reduceShiftLeft, Nat.reduceOr, Nat.reduceAnd, Bool.false_eq_true, b_if, b_z1, b_z0, b_zz, b_a1, b_a0, b_lc, b_zF, b_zT, b_lbit, k1, k2, k3, b1, x1, ek, c1, c2, o.1, and_self, true_and, eq_self, s0, i0, j0, s1, i1, j1, s2, i2, j2, s3, i3, j3, s4, i4, j4, s5, i5, j5, s6, i6, j6, s7, i7, j7]
  rfl
theorem iMo_init__50 (o : okm m h) (hs : ∀ i : Nat, i < 3 → kd h (g (100 + i)) = 41 ∧ g (100 + i) < sz h) : ev g Mo_init_ 307 [.ref m, .int y] [] h = ev g Mo_init_ 330 [.ref m, .int y] [] (alS3 g m h) := by
  have k1 : kd (nw h 27 3 3) m = 13 := by rw [y_kd_nw, if_neg (by have := o.2; omega)]; exact o.1
  have k2 : kd (nw h 27 3 3) (sz h) = 27 := by rw [y_kd_nw, if_pos rfl]
  have k3 : ln (nw h 27 3 3) (sz h) = 3 := by rw [y_ln_nw, if_pos rfl]
  have b1 : inb (nI 3) 65536 = true := by decide
  have x1 : ix (nI 3) = 3 := by decide
  have ek : elK 27 = 41 := rfl
  have c1 : (24 ≤ 27) = True := eq_true (by decide)
  have c2 : (27 < 28) = True := eq_true (by decide)
  have s0 : kd (nw h 27 3 3) (g 100) = 41 := by rw [y_kd_nw, if_neg (by have := (hs 0 (by decide)).2; show ¬ g (100 + 0) = sz h; omega)]; exact (hs 0 (by decide)).1
  have i0 : inb (nI 0) 3 = true := by decide
  have j0 : ix (nI 0) = 0 := by decide
  have s1 : kd (nw h 27 3 3) (g 101) = 41 := by rw [y_kd_nw, if_neg (by have := (hs 1 (by decide)).2; show ¬ g (100 + 1) = sz h; omega)]; exact (hs 1 (by decide)).1
  have i1 : inb (nI 1) 3 = true := by decide
  have j1 : ix (nI 1) = 1 := by decide
  have s2 : kd (nw h 27 3 3) (g 102) = 41 := by rw [y_kd_nw, if_neg (by have := (hs 2 (by decide)).2; show ¬ g (100 + 2) = sz h; omega)]; exact (hs 2 (by decide)).1
  have i2 : inb (nI 2) 3 = true := by decide
  have j2 : ix (nI 2) = 2 := by decide
  simp (disch := omega) only [s_Mo_init__0, s_Mo_init__1, s_Mo_init__4, s_Mo_init__5, s_Mo_init__7, s_Mo_init__9, s_Mo_init__9n, s_Mo_init__12, s_Mo_init__13, s_Mo_init__15, s_Mo_init__17, s_Mo_init__17n, s_Mo_init__20, s_Mo_init__21, s_Mo_init__23, s_Mo_init__25, s_Mo_init__25n, s_Mo_init__28, s_Mo_init__29, s_Mo_init__31, s_Mo_init__33, s_Mo_init__37, s_Mo_init__37n, s_Mo_init__40, s_Mo_init__41, s_Mo_init__43, s_Mo_init__45, s_Mo_init__45n, s_Mo_init__48, s_Mo_init__49, s_Mo_init__51, s_Mo_init__53, s_Mo_init__53n, s_Mo_init__56, s_Mo_init__57, s_Mo_init__59, s_Mo_init__61, s_Mo_init__61n, s_Mo_init__64, s_Mo_init__65, s_Mo_init__67, s_Mo_init__69, s_Mo_init__69n, s_Mo_init__72, s_Mo_init__73, s_Mo_init__75, s_Mo_init__77, s_Mo_init__77n, s_Mo_init__80, s_Mo_init__81, s_Mo_init__83, s_Mo_init__85, s_Mo_init__85n, s_Mo_init__88, s_Mo_init__89, s_Mo_init__91, s_Mo_init__93, s_Mo_init__93n, s_Mo_init__96, s_Mo_init__97, s_Mo_init__99, s_Mo_init__101, s_Mo_init__101n, s_Mo_init__104, s_Mo_init__105, s_Mo_init__107, s_Mo_init__109, s_Mo_init__109n, s_Mo_init__112, s_Mo_init__113, s_Mo_init__115, s_Mo_init__117, s_Mo_init__117n, s_Mo_init__120, s_Mo_init__121, s_Mo_init__123, s_Mo_init__125, s_Mo_init__125n, s_Mo_init__128, s_Mo_init__129, s_Mo_init__131, s_Mo_init__133, s_Mo_init__133n, s_Mo_init__136, s_Mo_init__137, s_Mo_init__139, s_Mo_init__141, s_Mo_init__141n, s_Mo_init__144, s_Mo_init__145, s_Mo_init__147, s_Mo_init__149, s_Mo_init__149n, s_Mo_init__152, s_Mo_init__153, s_Mo_init__155, s_Mo_init__157, s_Mo_init__157n, s_Mo_init__160, s_Mo_init__161, s_Mo_init__163, s_Mo_init__165, s_Mo_init__165n, s_Mo_init__168, s_Mo_init__169, s_Mo_init__171, s_Mo_init__173, s_Mo_init__173n, s_Mo_init__176, s_Mo_init__177, s_Mo_init__179, s_Mo_init__181, s_Mo_init__181n, s_Mo_init__184, s_Mo_init__185, s_Mo_init__186, s_Mo_init__188, s_Mo_init__189, s_Mo_init__190, s_Mo_init__191, s_Mo_init__192, s_Mo_init__193, s_Mo_init__194, s_Mo_init__195, s_Mo_init__196, s_Mo_init__197, s_Mo_init__198, s_Mo_init__199, s_Mo_init__200, s_Mo_init__201, s_Mo_init__202, s_Mo_init__203, s_Mo_init__204, s_Mo_init__204n, s_Mo_init__207, s_Mo_init__208, s_Mo_init__210, s_Mo_init__212, s_Mo_init__212n, s_Mo_init__215, s_Mo_init__216, s_Mo_init__217, s_Mo_init__220, s_Mo_init__221, s_Mo_init__223, s_Mo_init__225, s_Mo_init__225n, s_Mo_init__228, s_Mo_init__229, s_Mo_init__231, s_Mo_init__233, s_Mo_init__233n, s_Mo_init__236, s_Mo_init__237, s_Mo_init__239, s_Mo_init__241, s_Mo_init__245, s_Mo_init__245n, s_Mo_init__248, s_Mo_init__249, s_Mo_init__251, s_Mo_init__253, s_Mo_init__253n, s_Mo_init__256, s_Mo_init__257, s_Mo_init__259, s_Mo_init__262, s_Mo_init__263, s_Mo_init__264, s_Mo_init__266, s_Mo_init__267, s_Mo_init__268, s_Mo_init__269, s_Mo_init__271, s_Mo_init__272, s_Mo_init__273, s_Mo_init__274, s_Mo_init__276, s_Mo_init__277, s_Mo_init__278, s_Mo_init__279, s_Mo_init__281, s_Mo_init__282, s_Mo_init__283, s_Mo_init__284, s_Mo_init__286, s_Mo_init__287, s_Mo_init__288, s_Mo_init__289, s_Mo_init__291, s_Mo_init__292, s_Mo_init__293, s_Mo_init__295, s_Mo_init__297, s_Mo_init__298, s_Mo_init__299, s_Mo_init__301, s_Mo_init__303, s_Mo_init__304, s_Mo_init__304n, s_Mo_init__307, s_Mo_init__308, s_Mo_init__309, s_Mo_init__312, s_Mo_init__313, s_Mo_init__314, s_Mo_init__316, s_Mo_init__317, s_Mo_init__318, s_Mo_init__319, s_Mo_init__321, s_Mo_init__322, s_Mo_init__323, s_Mo_init__324, s_Mo_init__326, s_Mo_init__327, s_Mo_init__327n, s_Mo_init__331, s_Mo_init__334, s_Mo_init__336, s_Mo_init__336n, s_Mo_init__339, s_Mo_init__340, s_Mo_init__342, s_Mo_init__344, s_Mo_init__344n, s_Mo_init__347, s_Mo_init__348, s_Mo_init__351, s_Mo_init__353, s_Mo_init__353n, s_Mo_init__356, s_Mo_init__357, s_Mo_init__359, s_Mo_init__361, s_Mo_init__361n, s_Mo_init__364, s_Mo_init__365, s_Mo_init__367, s_Mo_init__369, s_Mo_init__369n, s_Mo_init__372, s_Mo_init__373, s_Mo_init__374, s_Mo_init__374n, s_Mo_init__377, y_kd_sI, y_kd_sL, y_kd_sR, y_kd_cpI, y_kd_cpL, y_ln_sI, y_ln_sL, y_ln_sR, y_ln_cpI, y_ln_cpL, y_sz_sI, y_sz_sL, y_sz_sR, y_sz_cpI, y_sz_cpL, y_sl_sI, y_sl_sL, y_sl_sR, y_sl_cpI, y_sl_cpL, y_gI_sL, y_gI_sR, y_gI_cpI, y_gI_cpL, y_gI_nw, y_gL_sI, y_gL_sR, y_gL_cpI, y_gL_cpL, y_gL_nw, y_gR_sI, y_gR_sL, y_gR_cpI, y_gR_cpL, y_gR_nw, y_kd_nw, y_ln_nw, y_sz_nw, y_sl_nw, y_fx_int, y_fx_long, y_fx_ref, y_fx_null, y_fx_U, y_rf_s, y_rf_n, a_inb, a_ix, a_lt, a_eq, a_eq0, a_lt0, a_0lt, a_m1, a_m2, a_mlt, a_sub, a_dec, a_div, a_rem, a_shl, a_shr, a_bit, a_bit0, a_II, a_Ia, a_Ik, a_LL, a_La, a_Lk, a_RR, a_Ra, a_Rk, a_if0, a_if1, y_mul, y_and, y_or, nI_add, y_b1, y_b0, kon_v, kon_0, true_or, or_true, and_self, true_and, and_true, false_or, or_false, and_false, false_and, not_true_eq_false, not_false_eq_true, ite_self, ↓reduceIte, Nat.reduceEqDiff, Nat.reduceLeDiff, Nat.reduceAdd, Nat.reduceMul, Nat.reduceSub, Nat.reduceLT, Nat.reduceShiftLeft, Nat.reduceOr, Nat.reduceAnd, Bool.false_eq_true, b_if, b_z1, b_z0, b_zz, b_a1, b_a0, b_lc, b_zF, b_zT, b_lbit, k1, k2, k3, b1, x1, ek, c1, c2, o.1, and_self, true_and, eq_self, s0, i0, j0, s1, i1, j1, s2, i2, j2]
  rfl
theorem ok27 {v : Int32} (o : okm m h) : okm m (sI h m 27 v) := o
theorem alI_o {v : Int32} {ks : Nat → Prop} : alO m h (sI h m 27 v) ks := ⟨fun _ _ => ⟨rfl, rfl⟩, fun _ _ _ _ => rfl, fun _ _ => rfl, fun b k _ e => ⟨by rw [y_gI_sI, if_neg e], rfl⟩⟩
def moM0 (g : Nat → Nat) (m : Nat) (h : zMem) : zMem := alS m h (0, 20, 8)
def moM1 (g : Nat → Nat) (m : Nat) (h : zMem) : zMem := alS m (moM0 g m h) (1, 20, 8)
def moM2 (g : Nat → Nat) (m : Nat) (h : zMem) : zMem := alS m (moM1 g m h) (2, 20, 8)
def moM3 (g : Nat → Nat) (m : Nat) (h : zMem) : zMem := alM m (moM2 g m h) 3 28 21 8 64
def moM4 (g : Nat → Nat) (m : Nat) (h : zMem) : zMem := alS m (moM3 g m h) (4, 20, 8)
def moM5 (g : Nat → Nat) (m : Nat) (h : zMem) : zMem := alS m (moM4 g m h) (5, 21, 64)
def moM6 (g : Nat → Nat) (m : Nat) (h : zMem) : zMem := alS m (moM5 g m h) (6, 20, 80)
def moM7 (g : Nat → Nat) (m : Nat) (h : zMem) : zMem := alS m (moM6 g m h) (8, 20, 8)
def moM8 (g : Nat → Nat) (m : Nat) (h : zMem) : zMem := alS m (moM7 g m h) (10, 20, 10)
def moM9 (g : Nat → Nat) (m : Nat) (h : zMem) : zMem := alS m (moM8 g m h) (11, 20, 10)
def moM10 (g : Nat → Nat) (m : Nat) (h : zMem) : zMem := alS m (moM9 g m h) (12, 20, 10)
def moM11 (g : Nat → Nat) (m : Nat) (h : zMem) : zMem := alS m (moM10 g m h) (13, 20, 10)
def moM12 (g : Nat → Nat) (m : Nat) (h : zMem) : zMem := alS m (moM11 g m h) (14, 21, 10)
def moM13 (g : Nat → Nat) (m : Nat) (h : zMem) : zMem := alS m (moM12 g m h) (16, 20, 24)
def moM14 (g : Nat → Nat) (m : Nat) (h : zMem) : zMem := alS m (moM13 g m h) (17, 20, 24)
def moM15 (g : Nat → Nat) (m : Nat) (h : zMem) : zMem := alS m (moM14 g m h) (18, 20, 24)
def moM16 (g : Nat → Nat) (m : Nat) (h : zMem) : zMem := alS m (moM15 g m h) (19, 20, 24)
def moM17 (g : Nat → Nat) (m : Nat) (h : zMem) : zMem := alS m (moM16 g m h) (20, 20, 24)
def moM18 (g : Nat → Nat) (m : Nat) (h : zMem) : zMem := alS m (moM17 g m h) (21, 20, 24)
def moM19 (g : Nat → Nat) (m : Nat) (h : zMem) : zMem := alS m (moM18 g m h) (22, 20, 24)
def moM20 (g : Nat → Nat) (m : Nat) (h : zMem) : zMem := alS m (moM19 g m h) (23, 20, 24)
def moM21 (g : Nat → Nat) (m : Nat) (h : zMem) : zMem := alS m (moM20 g m h) (24, 20, 24)
def moM22 (g : Nat → Nat) (m : Nat) (h : zMem) : zMem := alWd m (moM21 g m h)
def moM23 (g : Nat → Nat) (m : Nat) (h : zMem) : zMem := alS m (moM22 g m h) (26, 20, 64)
def moM24 (g : Nat → Nat) (m : Nat) (h : zMem) : zMem := sI (moM23 g m h) m 27 (nI 1)
def moM25 (g : Nat → Nat) (m : Nat) (h : zMem) : zMem := alS m (moM24 g m h) (29, 20, 100)
def moM26 (g : Nat → Nat) (m : Nat) (h : zMem) : zMem := alS m (moM25 g m h) (30, 20, 100)
def moM27 (g : Nat → Nat) (m : Nat) (h : zMem) : zMem := alM m (moM26 g m h) 36 29 20 46 100
def moM28 (g : Nat → Nat) (m : Nat) (h : zMem) : zMem := alS m (moM27 g m h) (37, 20, 45)
def moM29 (g : Nat → Nat) (m : Nat) (h : zMem) : zMem := alS8 g m (moM28 g m h)
def moM30 (g : Nat → Nat) (m : Nat) (h : zMem) : zMem := alS3 g m (moM29 g m h)
def moM31 (g : Nat → Nat) (m : Nat) (h : zMem) : zMem := alS m (moM30 g m h) (51, 20, 2048)
def moM32 (g : Nat → Nat) (m : Nat) (h : zMem) : zMem := alS m (moM31 g m h) (56, 20, 8)
def moM33 (g : Nat → Nat) (m : Nat) (h : zMem) : zMem := alS m (moM32 g m h) (62, 20, 256)
def moM34 (g : Nat → Nat) (m : Nat) (h : zMem) : zMem := alS m (moM33 g m h) (63, 20, 48)
def moM35 (g : Nat → Nat) (m : Nat) (h : zMem) : zMem := alS m (moM34 g m h) (66, 20, 10)
theorem okm0 (o : okm m h) : okm m (moM0 g m h) := okS o
theorem okm1 (o : okm m h) : okm m (moM1 g m h) := okS (okm0 (g := g) o)
theorem okm2 (o : okm m h) : okm m (moM2 g m h) := okS (okm1 (g := g) o)
theorem okm3 (o : okm m h) : okm m (moM3 g m h) := okM (okm2 (g := g) o)
theorem okm4 (o : okm m h) : okm m (moM4 g m h) := okS (okm3 (g := g) o)
theorem okm5 (o : okm m h) : okm m (moM5 g m h) := okS (okm4 (g := g) o)
theorem okm6 (o : okm m h) : okm m (moM6 g m h) := okS (okm5 (g := g) o)
theorem okm7 (o : okm m h) : okm m (moM7 g m h) := okS (okm6 (g := g) o)
theorem okm8 (o : okm m h) : okm m (moM8 g m h) := okS (okm7 (g := g) o)
theorem okm9 (o : okm m h) : okm m (moM9 g m h) := okS (okm8 (g := g) o)
theorem okm10 (o : okm m h) : okm m (moM10 g m h) := okS (okm9 (g := g) o)
theorem okm11 (o : okm m h) : okm m (moM11 g m h) := okS (okm10 (g := g) o)
theorem okm12 (o : okm m h) : okm m (moM12 g m h) := okS (okm11 (g := g) o)
theorem okm13 (o : okm m h) : okm m (moM13 g m h) := okS (okm12 (g := g) o)
theorem okm14 (o : okm m h) : okm m (moM14 g m h) := okS (okm13 (g := g) o)
theorem okm15 (o : okm m h) : okm m (moM15 g m h) := okS (okm14 (g := g) o)
theorem okm16 (o : okm m h) : okm m (moM16 g m h) := okS (okm15 (g := g) o)
theorem okm17 (o : okm m h) : okm m (moM17 g m h) := okS (okm16 (g := g) o)
theorem okm18 (o : okm m h) : okm m (moM18 g m h) := okS (okm17 (g := g) o)
theorem okm19 (o : okm m h) : okm m (moM19 g m h) := okS (okm18 (g := g) o)
theorem okm20 (o : okm m h) : okm m (moM20 g m h) := okS (okm19 (g := g) o)
theorem okm21 (o : okm m h) : okm m (moM21 g m h) := okS (okm20 (g := g) o)
theorem okm22 (o : okm m h) : okm m (moM22 g m h) := okW (okm21 (g := g) o)
theorem okm23 (o : okm m h) : okm m (moM23 g m h) := okS (okm22 (g := g) o)
theorem okm24 (o : okm m h) : okm m (moM24 g m h) := ok27 (okm23 (g := g) o)
theorem okm25 (o : okm m h) : okm m (moM25 g m h) := okS (okm24 (g := g) o)
theorem okm26 (o : okm m h) : okm m (moM26 g m h) := okS (okm25 (g := g) o)
theorem okm27 (o : okm m h) : okm m (moM27 g m h) := okM (okm26 (g := g) o)
theorem okm28 (o : okm m h) : okm m (moM28 g m h) := okS (okm27 (g := g) o)
theorem okm29 (o : okm m h) : okm m (moM29 g m h) := ok8 (okm28 (g := g) o)
theorem okm30 (o : okm m h) : okm m (moM30 g m h) := ok3 (okm29 (g := g) o)
theorem okm31 (o : okm m h) : okm m (moM31 g m h) := okS (okm30 (g := g) o)
theorem okm32 (o : okm m h) : okm m (moM32 g m h) := okS (okm31 (g := g) o)
theorem okm33 (o : okm m h) : okm m (moM33 g m h) := okS (okm32 (g := g) o)
theorem okm34 (o : okm m h) : okm m (moM34 g m h) := okS (okm33 (g := g) o)
theorem okm35 (o : okm m h) : okm m (moM35 g m h) := okS (okm34 (g := g) o)
theorem kdm0 (o : okm m h) (b : Nat) (hb : b < m) : kd (moM0 g m h) b = kd h b := (((alS_o o.2).2.2.1).1 b (Nat.lt_trans hb o.2)).1.trans (rfl)
theorem kdm1 (o : okm m h) (b : Nat) (hb : b < m) : kd (moM1 g m h) b = kd h b := (((alS_o (okm0 (g := g) o).2).2.2.1).1 b (Nat.lt_trans hb (okm0 (g := g) o).2)).1.trans (kdm0 o b hb)
theorem kdm2 (o : okm m h) (b : Nat) (hb : b < m) : kd (moM2 g m h) b = kd h b := (((alS_o (okm1 (g := g) o).2).2.2.1).1 b (Nat.lt_trans hb (okm1 (g := g) o).2)).1.trans (kdm1 o b hb)
theorem kdm3 (o : okm m h) (b : Nat) (hb : b < m) : kd (moM3 g m h) b = kd h b := (((alM_o (okm2 (g := g) o).2).2.2.1).1 b (Nat.lt_trans hb (okm2 (g := g) o).2)).1.trans (kdm2 o b hb)
theorem kdm4 (o : okm m h) (b : Nat) (hb : b < m) : kd (moM4 g m h) b = kd h b := (((alS_o (okm3 (g := g) o).2).2.2.1).1 b (Nat.lt_trans hb (okm3 (g := g) o).2)).1.trans (kdm3 o b hb)
theorem kdm5 (o : okm m h) (b : Nat) (hb : b < m) : kd (moM5 g m h) b = kd h b := (((alS_o (okm4 (g := g) o).2).2.2.1).1 b (Nat.lt_trans hb (okm4 (g := g) o).2)).1.trans (kdm4 o b hb)
theorem kdm6 (o : okm m h) (b : Nat) (hb : b < m) : kd (moM6 g m h) b = kd h b := (((alS_o (okm5 (g := g) o).2).2.2.1).1 b (Nat.lt_trans hb (okm5 (g := g) o).2)).1.trans (kdm5 o b hb)
theorem kdm7 (o : okm m h) (b : Nat) (hb : b < m) : kd (moM7 g m h) b = kd h b := (((alS_o (okm6 (g := g) o).2).2.2.1).1 b (Nat.lt_trans hb (okm6 (g := g) o).2)).1.trans (kdm6 o b hb)
theorem kdm8 (o : okm m h) (b : Nat) (hb : b < m) : kd (moM8 g m h) b = kd h b := (((alS_o (okm7 (g := g) o).2).2.2.1).1 b (Nat.lt_trans hb (okm7 (g := g) o).2)).1.trans (kdm7 o b hb)
theorem kdm9 (o : okm m h) (b : Nat) (hb : b < m) : kd (moM9 g m h) b = kd h b := (((alS_o (okm8 (g := g) o).2).2.2.1).1 b (Nat.lt_trans hb (okm8 (g := g) o).2)).1.trans (kdm8 o b hb)
theorem kdm10 (o : okm m h) (b : Nat) (hb : b < m) : kd (moM10 g m h) b = kd h b := (((alS_o (okm9 (g := g) o).2).2.2.1).1 b (Nat.lt_trans hb (okm9 (g := g) o).2)).1.trans (kdm9 o b hb)
theorem kdm11 (o : okm m h) (b : Nat) (hb : b < m) : kd (moM11 g m h) b = kd h b := (((alS_o (okm10 (g := g) o).2).2.2.1).1 b (Nat.lt_trans hb (okm10 (g := g) o).2)).1.trans (kdm10 o b hb)
theorem kdm12 (o : okm m h) (b : Nat) (hb : b < m) : kd (moM12 g m h) b = kd h b := (((alS_o (okm11 (g := g) o).2).2.2.1).1 b (Nat.lt_trans hb (okm11 (g := g) o).2)).1.trans (kdm11 o b hb)
theorem kdm13 (o : okm m h) (b : Nat) (hb : b < m) : kd (moM13 g m h) b = kd h b := (((alS_o (okm12 (g := g) o).2).2.2.1).1 b (Nat.lt_trans hb (okm12 (g := g) o).2)).1.trans (kdm12 o b hb)
theorem kdm14 (o : okm m h) (b : Nat) (hb : b < m) : kd (moM14 g m h) b = kd h b := (((alS_o (okm13 (g := g) o).2).2.2.1).1 b (Nat.lt_trans hb (okm13 (g := g) o).2)).1.trans (kdm13 o b hb)
theorem kdm15 (o : okm m h) (b : Nat) (hb : b < m) : kd (moM15 g m h) b = kd h b := (((alS_o (okm14 (g := g) o).2).2.2.1).1 b (Nat.lt_trans hb (okm14 (g := g) o).2)).1.trans (kdm14 o b hb)
theorem kdm16 (o : okm m h) (b : Nat) (hb : b < m) : kd (moM16 g m h) b = kd h b := (((alS_o (okm15 (g := g) o).2).2.2.1).1 b (Nat.lt_trans hb (okm15 (g := g) o).2)).1.trans (kdm15 o b hb)
theorem kdm17 (o : okm m h) (b : Nat) (hb : b < m) : kd (moM17 g m h) b = kd h b := (((alS_o (okm16 (g := g) o).2).2.2.1).1 b (Nat.lt_trans hb (okm16 (g := g) o).2)).1.trans (kdm16 o b hb)
theorem kdm18 (o : okm m h) (b : Nat) (hb : b < m) : kd (moM18 g m h) b = kd h b := (((alS_o (okm17 (g := g) o).2).2.2.1).1 b (Nat.lt_trans hb (okm17 (g := g) o).2)).1.trans (kdm17 o b hb)
theorem kdm19 (o : okm m h) (b : Nat) (hb : b < m) : kd (moM19 g m h) b = kd h b := (((alS_o (okm18 (g := g) o).2).2.2.1).1 b (Nat.lt_trans hb (okm18 (g := g) o).2)).1.trans (kdm18 o b hb)
theorem kdm20 (o : okm m h) (b : Nat) (hb : b < m) : kd (moM20 g m h) b = kd h b := (((alS_o (okm19 (g := g) o).2).2.2.1).1 b (Nat.lt_trans hb (okm19 (g := g) o).2)).1.trans (kdm19 o b hb)
theorem kdm21 (o : okm m h) (b : Nat) (hb : b < m) : kd (moM21 g m h) b = kd h b := (((alS_o (okm20 (g := g) o).2).2.2.1).1 b (Nat.lt_trans hb (okm20 (g := g) o).2)).1.trans (kdm20 o b hb)
theorem kdm22 (o : okm m h) (b : Nat) (hb : b < m) : kd (moM22 g m h) b = kd h b := (((alWd_o (okm21 (g := g) o).2).2.2.1).1 b (Nat.lt_trans hb (okm21 (g := g) o).2)).1.trans (kdm21 o b hb)
theorem kdm23 (o : okm m h) (b : Nat) (hb : b < m) : kd (moM23 g m h) b = kd h b := (((alS_o (okm22 (g := g) o).2).2.2.1).1 b (Nat.lt_trans hb (okm22 (g := g) o).2)).1.trans (kdm22 o b hb)
theorem kdm24 (o : okm m h) (b : Nat) (hb : b < m) : kd (moM24 g m h) b = kd h b := ((alI_o (m := m) (ks := fun _ => False)).1 b (Nat.lt_trans hb (okm23 (g := g) o).2)).1.trans (kdm23 o b hb)
theorem kdm25 (o : okm m h) (b : Nat) (hb : b < m) : kd (moM25 g m h) b = kd h b := (((alS_o (okm24 (g := g) o).2).2.2.1).1 b (Nat.lt_trans hb (okm24 (g := g) o).2)).1.trans (kdm24 o b hb)
theorem kdm26 (o : okm m h) (b : Nat) (hb : b < m) : kd (moM26 g m h) b = kd h b := (((alS_o (okm25 (g := g) o).2).2.2.1).1 b (Nat.lt_trans hb (okm25 (g := g) o).2)).1.trans (kdm25 o b hb)
theorem kdm27 (o : okm m h) (b : Nat) (hb : b < m) : kd (moM27 g m h) b = kd h b := (((alM_o (okm26 (g := g) o).2).2.2.1).1 b (Nat.lt_trans hb (okm26 (g := g) o).2)).1.trans (kdm26 o b hb)
theorem kdm28 (o : okm m h) (b : Nat) (hb : b < m) : kd (moM28 g m h) b = kd h b := (((alS_o (okm27 (g := g) o).2).2.2.1).1 b (Nat.lt_trans hb (okm27 (g := g) o).2)).1.trans (kdm27 o b hb)
theorem kdm29 (o : okm m h) (b : Nat) (hb : b < m) : kd (moM29 g m h) b = kd h b := (((alS8_o (okm28 (g := g) o).2).2.2.1).1 b (Nat.lt_trans hb (okm28 (g := g) o).2)).1.trans (kdm28 o b hb)
theorem kdm30 (o : okm m h) (b : Nat) (hb : b < m) : kd (moM30 g m h) b = kd h b := (((alS3_o (okm29 (g := g) o).2).2.2.1).1 b (Nat.lt_trans hb (okm29 (g := g) o).2)).1.trans (kdm29 o b hb)
theorem kdm31 (o : okm m h) (b : Nat) (hb : b < m) : kd (moM31 g m h) b = kd h b := (((alS_o (okm30 (g := g) o).2).2.2.1).1 b (Nat.lt_trans hb (okm30 (g := g) o).2)).1.trans (kdm30 o b hb)
theorem kdm32 (o : okm m h) (b : Nat) (hb : b < m) : kd (moM32 g m h) b = kd h b := (((alS_o (okm31 (g := g) o).2).2.2.1).1 b (Nat.lt_trans hb (okm31 (g := g) o).2)).1.trans (kdm31 o b hb)
theorem kdm33 (o : okm m h) (b : Nat) (hb : b < m) : kd (moM33 g m h) b = kd h b := (((alS_o (okm32 (g := g) o).2).2.2.1).1 b (Nat.lt_trans hb (okm32 (g := g) o).2)).1.trans (kdm32 o b hb)
theorem kdm34 (o : okm m h) (b : Nat) (hb : b < m) : kd (moM34 g m h) b = kd h b := (((alS_o (okm33 (g := g) o).2).2.2.1).1 b (Nat.lt_trans hb (okm33 (g := g) o).2)).1.trans (kdm33 o b hb)
theorem kdm35 (o : okm m h) (b : Nat) (hb : b < m) : kd (moM35 g m h) b = kd h b := (((alS_o (okm34 (g := g) o).2).2.2.1).1 b (Nat.lt_trans hb (okm34 (g := g) o).2)).1.trans (kdm34 o b hb)
theorem cMo_init (o : okm m h) (hs : ∀ i : Nat, i < 17 → kd h (g (100 + i)) = 41 ∧ g (100 + i) < m) : ev g Mo_init 4 [.ref m] [] h = ev g Mo_init 372 [.ref m] [] (moM35 g m h) := by
  have s50 : ∀ i : Nat, i < 3 → kd (moM29 g m h) (g (100 + i)) = 41 ∧ g (100 + i) < sz (moM29 g m h) := fun i hi => by
    have q := hs (0 + i) (by omega)
    rw [show 100 + (0 + i) = 100 + i by omega] at q
    exact ⟨(kdm29 (g := g) o _ q.2).trans q.1, Nat.lt_trans q.2 (okm29 (g := g) o).2⟩
  have s49 : ∀ i : Nat, i < 8 → kd (moM28 g m h) (g (104 + i)) = 41 ∧ g (104 + i) < sz (moM28 g m h) := fun i hi => by
    have q := hs (4 + i) (by omega)
    rw [show 100 + (4 + i) = 104 + i by omega] at q
    exact ⟨(kdm28 (g := g) o _ q.2).trans q.1, Nat.lt_trans q.2 (okm28 (g := g) o).2⟩
  refine Eq.trans (iMo_init_0 (g := g) o) ?_
  refine Eq.trans (iMo_init_1 (g := g) (okm0 (g := g) o)) ?_
  refine Eq.trans (iMo_init_2 (g := g) (okm1 (g := g) o)) ?_
  refine Eq.trans (iMo_init_3 (g := g) (okm2 (g := g) o)) ?_
  refine Eq.trans (iMo_init_4 (g := g) (okm3 (g := g) o)) ?_
  refine Eq.trans (iMo_init_5 (g := g) (okm4 (g := g) o)) ?_
  refine Eq.trans (iMo_init_6 (g := g) (okm5 (g := g) o)) ?_
  refine Eq.trans (iMo_init_8 (g := g) (okm6 (g := g) o)) ?_
  refine Eq.trans (iMo_init_10 (g := g) (okm7 (g := g) o)) ?_
  refine Eq.trans (iMo_init_11 (g := g) (okm8 (g := g) o)) ?_
  refine Eq.trans (iMo_init_12 (g := g) (okm9 (g := g) o)) ?_
  refine Eq.trans (iMo_init_13 (g := g) (okm10 (g := g) o)) ?_
  refine Eq.trans (iMo_init_14 (g := g) (okm11 (g := g) o)) ?_
  refine Eq.trans (iMo_init_16 (g := g) (okm12 (g := g) o)) ?_
  refine Eq.trans (iMo_init_17 (g := g) (okm13 (g := g) o)) ?_
  refine Eq.trans (iMo_init_18 (g := g) (okm14 (g := g) o)) ?_
  refine Eq.trans (iMo_init_19 (g := g) (okm15 (g := g) o)) ?_
  refine Eq.trans (iMo_init_20 (g := g) (okm16 (g := g) o)) ?_
  refine Eq.trans (iMo_init_21 (g := g) (okm17 (g := g) o)) ?_
  refine Eq.trans (iMo_init_22 (g := g) (okm18 (g := g) o)) ?_
  refine Eq.trans (iMo_init_23 (g := g) (okm19 (g := g) o)) ?_
  refine Eq.trans (iMo_init_24 (g := g) (okm20 (g := g) o)) ?_
  refine Eq.trans (iMo_init_25 (g := g) (okm21 (g := g) o)) ?_
  refine Eq.trans (iMo_init_26 (g := g) (okm22 (g := g) o)) ?_
  refine Eq.trans (iMo_init_27 (g := g) (okm23 (g := g) o)) ?_
  refine Eq.trans (iMo_init_29 (g := g) (okm24 (g := g) o)) ?_
  refine Eq.trans (iMo_init_30 (g := g) (okm25 (g := g) o)) ?_
  refine Eq.trans (iMo_init_36 (g := g) (okm26 (g := g) o)) ?_
  refine Eq.trans (iMo_init_37 (g := g) (okm27 (g := g) o)) ?_
  refine Eq.trans (iMo_init_49 (g := g) (okm28 (g := g) o) s49) ?_
  refine Eq.trans (iMo_init_50 (g := g) (okm29 (g := g) o) s50) ?_
  refine Eq.trans (iMo_init_51 (g := g) (okm30 (g := g) o)) ?_
  refine Eq.trans (iMo_init_56 (g := g) (okm31 (g := g) o)) ?_
  refine Eq.trans (iMo_init_62 (g := g) (okm32 (g := g) o)) ?_
  refine Eq.trans (iMo_init_63 (g := g) (okm33 (g := g) o)) ?_
  refine Eq.trans (iMo_init_66 (g := g) (okm34 (g := g) o)) ?_
  rfl
theorem cMo_init_ (o : okm m h) (hs : ∀ i : Nat, i < 17 → kd h (g (100 + i)) = 41 ∧ g (100 + i) < m) : ev g Mo_init_ 4 [.ref m, .int y] [] h = ev g Mo_init_ 372 [.ref m, .int y] [] (moM35 g m h) := by
  have s50 : ∀ i : Nat, i < 3 → kd (moM29 g m h) (g (100 + i)) = 41 ∧ g (100 + i) < sz (moM29 g m h) := fun i hi => by
    have q := hs (0 + i) (by omega)
    rw [show 100 + (0 + i) = 100 + i by omega] at q
    exact ⟨(kdm29 (g := g) o _ q.2).trans q.1, Nat.lt_trans q.2 (okm29 (g := g) o).2⟩
  have s49 : ∀ i : Nat, i < 8 → kd (moM28 g m h) (g (104 + i)) = 41 ∧ g (104 + i) < sz (moM28 g m h) := fun i hi => by
    have q := hs (4 + i) (by omega)
    rw [show 100 + (4 + i) = 104 + i by omega] at q
    exact ⟨(kdm28 (g := g) o _ q.2).trans q.1, Nat.lt_trans q.2 (okm28 (g := g) o).2⟩
  refine Eq.trans (iMo_init__0 (g := g) (y := y) o) ?_
  refine Eq.trans (iMo_init__1 (g := g) (y := y) (okm0 (g := g) o)) ?_
  refine Eq.trans (iMo_init__2 (g := g) (y := y) (okm1 (g := g) o)) ?_
  refine Eq.trans (iMo_init__3 (g := g) (y := y) (okm2 (g := g) o)) ?_
  refine Eq.trans (iMo_init__4 (g := g) (y := y) (okm3 (g := g) o)) ?_
  refine Eq.trans (iMo_init__5 (g := g) (y := y) (okm4 (g := g) o)) ?_
  refine Eq.trans (iMo_init__6 (g := g) (y := y) (okm5 (g := g) o)) ?_
  refine Eq.trans (iMo_init__8 (g := g) (y := y) (okm6 (g := g) o)) ?_
  refine Eq.trans (iMo_init__10 (g := g) (y := y) (okm7 (g := g) o)) ?_
  refine Eq.trans (iMo_init__11 (g := g) (y := y) (okm8 (g := g) o)) ?_
  refine Eq.trans (iMo_init__12 (g := g) (y := y) (okm9 (g := g) o)) ?_
  refine Eq.trans (iMo_init__13 (g := g) (y := y) (okm10 (g := g) o)) ?_
  refine Eq.trans (iMo_init__14 (g := g) (y := y) (okm11 (g := g) o)) ?_
  refine Eq.trans (iMo_init__16 (g := g) (y := y) (okm12 (g := g) o)) ?_
  refine Eq.trans (iMo_init__17 (g := g) (y := y) (okm13 (g := g) o)) ?_
  refine Eq.trans (iMo_init__18 (g := g) (y := y) (okm14 (g := g) o)) ?_
  refine Eq.trans (iMo_init__19 (g := g) (y := y) (okm15 (g := g) o)) ?_
  refine Eq.trans (iMo_init__20 (g := g) (y := y) (okm16 (g := g) o)) ?_
  refine Eq.trans (iMo_init__21 (g := g) (y := y) (okm17 (g := g) o)) ?_
  refine Eq.trans (iMo_init__22 (g := g) (y := y) (okm18 (g := g) o)) ?_
  refine Eq.trans (iMo_init__23 (g := g) (y := y) (okm19 (g := g) o)) ?_
  refine Eq.trans (iMo_init__24 (g := g) (y := y) (okm20 (g := g) o)) ?_
  refine Eq.trans (iMo_init__25 (g := g) (y := y) (okm21 (g := g) o)) ?_
  refine Eq.trans (iMo_init__26 (g := g) (y := y) (okm22 (g := g) o)) ?_
  refine Eq.trans (iMo_init__27 (g := g) (y := y) (okm23 (g := g) o)) ?_
  refine Eq.trans (iMo_init__29 (g := g) (y := y) (okm24 (g := g) o)) ?_
  refine Eq.trans (iMo_init__30 (g := g) (y := y) (okm25 (g := g) o)) ?_
  refine Eq.trans (iMo_init__36 (g := g) (y := y) (okm26 (g := g) o)) ?_
  refine Eq.trans (iMo_init__37 (g := g) (y := y) (okm27 (g := g) o)) ?_
  refine Eq.trans (iMo_init__49 (g := g) (y := y) (okm28 (g := g) o) s49) ?_
  refine Eq.trans (iMo_init__50 (g := g) (y := y) (okm29 (g := g) o) s50) ?_
  refine Eq.trans (iMo_init__51 (g := g) (y := y) (okm30 (g := g) o)) ?_
  refine Eq.trans (iMo_init__56 (g := g) (y := y) (okm31 (g := g) o)) ?_
  refine Eq.trans (iMo_init__62 (g := g) (y := y) (okm32 (g := g) o)) ?_
  refine Eq.trans (iMo_init__63 (g := g) (y := y) (okm33 (g := g) o)) ?_
  refine Eq.trans (iMo_init__66 (g := g) (y := y) (okm34 (g := g) o)) ?_
  rfl
end ZMJ
