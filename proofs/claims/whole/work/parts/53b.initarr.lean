/-! the constructors of the reference: old words, letters -/
def alWd (m : Nat) (h : zMem) : zMem := sR (sI (sI (sI (sI (nw h 20 4 4) (sz h) 0 (-1)) (sz h) 1 (-1)) (sz h) 2 (-1)) (sz h) 3 (-1)) m 25 (some (sz h))
def alS8 (g : Nat → Nat) (m : Nat) (h : zMem) : zMem := sR (sR (sR (sR (sR (sR (sR (sR (sR (nw h 27 8 8) (sz h) 0 (some (g 104))) (sz h) 1 (some (g 105))) (sz h) 2 (some (g 106))) (sz h) 3 (some (g 107))) (sz h) 4 (some (g 108))) (sz h) 5 (some (g 109))) (sz h) 6 (some (g 110))) (sz h) 7 (some (g 111))) m 49 (some (sz h))
def alS3 (g : Nat → Nat) (m : Nat) (h : zMem) : zMem := sR (sR (sR (sR (nw h 27 3 3) (sz h) 0 (some (g 100))) (sz h) 1 (some (g 101))) (sz h) 2 (some (g 102))) m 50 (some (sz h))
section ZMA
variable {g : Nat → Nat} {m : Nat} {h h' : zMem} {ks : Nat → Prop}
theorem alWd_o (hm : m < sz h) : sz (alWd m h) = sz h + 1 ∧ sl (alWd m h) = sl h + 4 ∧ alO m h (alWd m h) (fun k => k = 25) ∧ (kd (alWd m h) (sz h) = 20 ∧ ln (alWd m h) (sz h) = 4 ∧ ∀ j : Nat, gR (alWd m h) (sz h) j = none ∧ gL (alWd m h) (sz h) j = 0 ∧ (j < 4 → gI (alWd m h) (sz h) j = -1)) ∧ gR (alWd m h) m 25 = some (sz h) := by
  unfold alWd
  refine ⟨rfl, rfl, ⟨fun b hb => ⟨?_, ?_⟩, fun b k hb hbm => ?_, fun k hk => ?_, fun b k hb _ => ⟨?_, ?_⟩⟩, ⟨?_, ?_, fun j => ⟨?_, ?_, fun hj => ?_⟩⟩, a_RR⟩
  · show kd (nw h 20 4 4) b = kd h b
    rw [y_kd_nw, if_neg (by omega)]
  · show ln (nw h 20 4 4) b = ln h b
    rw [y_ln_nw, if_neg (by omega)]
  · rw [a_Ra hbm]
    show gR (nw h 20 4 4) b k = gR h b k
    rw [y_gR_nw, if_neg (by omega)]
  · rw [a_Rk hk]
    show gR (nw h 20 4 4) m k = gR h m k
    rw [y_gR_nw, if_neg (by omega)]
  · show gI (sI (sI (sI (sI (nw h 20 4 4) (sz h) 0 (-1)) (sz h) 1 (-1)) (sz h) 2 (-1)) (sz h) 3 (-1)) b k = gI h b k
    rw [a_Ia (by omega), a_Ia (by omega), a_Ia (by omega), a_Ia (by omega), y_gI_nw, if_neg (by omega)]
  · show gL (nw h 20 4 4) b k = gL h b k
    rw [y_gL_nw, if_neg (by omega)]
  · show kd (nw h 20 4 4) (sz h) = _
    rw [y_kd_nw, if_pos rfl]
  · show ln (nw h 20 4 4) (sz h) = _
    rw [y_ln_nw, if_pos rfl]
  · rw [a_Ra (by omega)]
    show gR (nw h 20 4 4) (sz h) j = none
    rw [y_gR_nw, if_pos rfl]
  · show gL (nw h 20 4 4) (sz h) j = 0
    rw [y_gL_nw, if_pos rfl]
  · show gI (sI (sI (sI (sI (nw h 20 4 4) (sz h) 0 (-1)) (sz h) 1 (-1)) (sz h) 2 (-1)) (sz h) 3 (-1)) (sz h) j = -1
    have : j = 0 ∨ j = 1 ∨ j = 2 ∨ j = 3 := by omega
    rcases this with rfl | rfl | rfl | rfl
    · rw [a_Ik (by decide), a_Ik (by decide), a_Ik (by decide), a_II]
    · rw [a_Ik (by decide), a_Ik (by decide), a_II]
    · rw [a_Ik (by decide), a_II]
    · rw [a_II]
theorem alS8_o (hm : m < sz h) : sz (alS8 g m h) = sz h + 1 ∧ sl (alS8 g m h) = sl h + 8 ∧ alO m h (alS8 g m h) (fun k => k = 49) ∧ (kd (alS8 g m h) (sz h) = 27 ∧ ln (alS8 g m h) (sz h) = 8 ∧ ∀ j : Nat, gI (alS8 g m h) (sz h) j = 0 ∧ gL (alS8 g m h) (sz h) j = 0 ∧ (j < 8 → gR (alS8 g m h) (sz h) j = some (g (104 + j)))) ∧ gR (alS8 g m h) m 49 = some (sz h) := by
  unfold alS8
  refine ⟨rfl, rfl, ⟨fun b hb => ⟨?_, ?_⟩, fun b k hb hbm => ?_, fun k hk => ?_, fun b k hb _ => ⟨?_, ?_⟩⟩, ⟨?_, ?_, fun j => ⟨?_, ?_, fun hj => ?_⟩⟩, a_RR⟩
  · show kd (nw h 27 8 8) b = kd h b
    rw [y_kd_nw, if_neg (by omega)]
  · show ln (nw h 27 8 8) b = ln h b
    rw [y_ln_nw, if_neg (by omega)]
  · rw [a_Ra hbm]
    simp (disch := omega) only [a_Ra]
    rw [y_gR_nw, if_neg (by omega)]
  · rw [a_Rk hk]
    simp (disch := omega) only [a_Ra]
    rw [y_gR_nw, if_neg (by omega)]
  · show gI (nw h 27 8 8) b k = gI h b k
    rw [y_gI_nw, if_neg (by omega)]
  · show gL (nw h 27 8 8) b k = gL h b k
    rw [y_gL_nw, if_neg (by omega)]
  · show kd (nw h 27 8 8) (sz h) = _
    rw [y_kd_nw, if_pos rfl]
  · show ln (nw h 27 8 8) (sz h) = _
    rw [y_ln_nw, if_pos rfl]
  · show gI (nw h 27 8 8) (sz h) j = 0
    rw [y_gI_nw, if_pos rfl]
  · show gL (nw h 27 8 8) (sz h) j = 0
    rw [y_gL_nw, if_pos rfl]
  · rw [a_Ra (by omega)]
    have : j = 0 ∨ j = 1 ∨ j = 2 ∨ j = 3 ∨ j = 4 ∨ j = 5 ∨ j = 6 ∨ j = 7 := by omega
    rcases this with rfl | rfl | rfl | rfl | rfl | rfl | rfl | rfl
    · rw [a_Rk (by decide), a_Rk (by decide), a_Rk (by decide), a_Rk (by decide), a_Rk (by decide), a_Rk (by decide), a_Rk (by decide), a_RR]
    · rw [a_Rk (by decide), a_Rk (by decide), a_Rk (by decide), a_Rk (by decide), a_Rk (by decide), a_Rk (by decide), a_RR]
    · rw [a_Rk (by decide), a_Rk (by decide), a_Rk (by decide), a_Rk (by decide), a_Rk (by decide), a_RR]
    · rw [a_Rk (by decide), a_Rk (by decide), a_Rk (by decide), a_Rk (by decide), a_RR]
    · rw [a_Rk (by decide), a_Rk (by decide), a_Rk (by decide), a_RR]
    · rw [a_Rk (by decide), a_Rk (by decide), a_RR]
    · rw [a_Rk (by decide), a_RR]
    · rw [a_RR]
theorem alS3_o (hm : m < sz h) : sz (alS3 g m h) = sz h + 1 ∧ sl (alS3 g m h) = sl h + 3 ∧ alO m h (alS3 g m h) (fun k => k = 50) ∧ (kd (alS3 g m h) (sz h) = 27 ∧ ln (alS3 g m h) (sz h) = 3 ∧ ∀ j : Nat, gI (alS3 g m h) (sz h) j = 0 ∧ gL (alS3 g m h) (sz h) j = 0 ∧ (j < 3 → gR (alS3 g m h) (sz h) j = some (g (100 + j)))) ∧ gR (alS3 g m h) m 50 = some (sz h) := by
  unfold alS3
  refine ⟨rfl, rfl, ⟨fun b hb => ⟨?_, ?_⟩, fun b k hb hbm => ?_, fun k hk => ?_, fun b k hb _ => ⟨?_, ?_⟩⟩, ⟨?_, ?_, fun j => ⟨?_, ?_, fun hj => ?_⟩⟩, a_RR⟩
  · show kd (nw h 27 3 3) b = kd h b
    rw [y_kd_nw, if_neg (by omega)]
  · show ln (nw h 27 3 3) b = ln h b
    rw [y_ln_nw, if_neg (by omega)]
  · rw [a_Ra hbm]
    simp (disch := omega) only [a_Ra]
    rw [y_gR_nw, if_neg (by omega)]
  · rw [a_Rk hk]
    simp (disch := omega) only [a_Ra]
    rw [y_gR_nw, if_neg (by omega)]
  · show gI (nw h 27 3 3) b k = gI h b k
    rw [y_gI_nw, if_neg (by omega)]
  · show gL (nw h 27 3 3) b k = gL h b k
    rw [y_gL_nw, if_neg (by omega)]
  · show kd (nw h 27 3 3) (sz h) = _
    rw [y_kd_nw, if_pos rfl]
  · show ln (nw h 27 3 3) (sz h) = _
    rw [y_ln_nw, if_pos rfl]
  · show gI (nw h 27 3 3) (sz h) j = 0
    rw [y_gI_nw, if_pos rfl]
  · show gL (nw h 27 3 3) (sz h) j = 0
    rw [y_gL_nw, if_pos rfl]
  · rw [a_Ra (by omega)]
    have : j = 0 ∨ j = 1 ∨ j = 2 := by omega
    rcases this with rfl | rfl | rfl
    · rw [a_Rk (by decide), a_Rk (by decide), a_RR]
    · rw [a_Rk (by decide), a_RR]
    · rw [a_RR]
theorem okW (o : okm m h) : okm m (alWd m h) := o.fr (alWd_o o.2).2.2.1 (by rw [(alWd_o o.2).1]; omega)
theorem ok8 (o : okm m h) : okm m (alS8 g m h) := o.fr (alS8_o o.2).2.2.1 (by rw [(alS8_o (g := g) o.2).1]; omega)
theorem ok3 (o : okm m h) : okm m (alS3 g m h) := o.fr (alS3_o o.2).2.2.1 (by rw [(alS3_o (g := g) o.2).1]; omega)
theorem iMo_init_25 (o : okm m h) : ev g Mo_init 184 [.ref m] [] h = ev g Mo_init 207 [.ref m] [] (alWd m h) := by
  have k1 : kd (nw h 20 4 4) m = 13 := by rw [y_kd_nw, if_neg (by have := o.2; omega)]; exact o.1
  have k2 : kd (nw h 20 4 4) (sz h) = 20 := by rw [y_kd_nw, if_pos rfl]
  have k3 : ln (nw h 20 4 4) (sz h) = 4 := by rw [y_ln_nw, if_pos rfl]
  have b1 : inb (nI 4) 65536 = true := by decide
  have x1 : ix (nI 4) = 4 := by decide
  simp (disch := omega) only [s_Mo_init_0, s_Mo_init_1, s_Mo_init_4, s_Mo_init_5, s_Mo_init_7, s_Mo_init_9, s_Mo_init_9n, s_Mo_init_12, s_Mo_init_13, s_Mo_init_15, s_Mo_init_17, s_Mo_init_17n, s_Mo_init_20, s_Mo_init_21, s_Mo_init_23, s_Mo_init_25, s_Mo_init_25n, s_Mo_init_28, s_Mo_init_29, s_Mo_init_31, s_Mo_init_33, s_Mo_init_37, s_Mo_init_37n, s_Mo_init_40, s_Mo_init_41, s_Mo_init_43, s_Mo_init_45, s_Mo_init_45n, s_Mo_init_48, s_Mo_init_49, s_Mo_init_51, s_Mo_init_53, s_Mo_init_53n, s_Mo_init_56, s_Mo_init_57, s_Mo_init_59, s_Mo_init_61, s_Mo_init_61n, s_Mo_init_64, s_Mo_init_65, s_Mo_init_67, s_Mo_init_69, s_Mo_init_69n, s_Mo_init_72, s_Mo_init_73, s_Mo_init_75, s_Mo_init_77, s_Mo_init_77n, s_Mo_init_80, s_Mo_init_81, s_Mo_init_83, s_Mo_init_85, s_Mo_init_85n, s_Mo_init_88, s_Mo_init_89, s_Mo_init_91, s_Mo_init_93, s_Mo_init_93n, s_Mo_init_96, s_Mo_init_97, s_Mo_init_99, s_Mo_init_101, s_Mo_init_101n, s_Mo_init_104, s_Mo_init_105, s_Mo_init_107, s_Mo_init_109, s_Mo_init_109n, s_Mo_init_112, s_Mo_init_113, s_Mo_init_115, s_Mo_init_117, s_Mo_init_117n, s_Mo_init_120, s_Mo_init_121, s_Mo_init_123, s_Mo_init_125, s_Mo_init_125n, s_Mo_init_128, s_Mo_init_129, s_Mo_init_131, s_Mo_init_133, s_Mo_init_133n, s_Mo_init_136, s_Mo_init_137, s_Mo_init_139, s_Mo_init_141, s_Mo_init_141n, s_Mo_init_144, s_Mo_init_145, s_Mo_init_147, s_Mo_init_149, s_Mo_init_149n, s_Mo_init_152, s_Mo_init_153, s_Mo_init_155, s_Mo_init_157, s_Mo_init_157n, s_Mo_init_160, s_Mo_init_161, s_Mo_init_163, s_Mo_init_165, s_Mo_init_165n, s_Mo_init_168, s_Mo_init_169, s_Mo_init_171, s_Mo_init_173, s_Mo_init_173n, s_Mo_init_176, s_Mo_init_177, s_Mo_init_179, s_Mo_init_181, s_Mo_init_181n, s_Mo_init_184, s_Mo_init_185, s_Mo_init_186, s_Mo_init_188, s_Mo_init_189, s_Mo_init_190, s_Mo_init_191, s_Mo_init_192, s_Mo_init_193, s_Mo_init_194, s_Mo_init_195, s_Mo_init_196, s_Mo_init_197, s_Mo_init_198, s_Mo_init_199, s_Mo_init_200, s_Mo_init_201, s_Mo_init_202, s_Mo_init_203, s_Mo_init_204, s_Mo_init_204n, s_Mo_init_208, s_Mo_init_210, s_Mo_init_212, s_Mo_init_212n, s_Mo_init_215, s_Mo_init_216, s_Mo_init_217, s_Mo_init_220, s_Mo_init_221, s_Mo_init_223, s_Mo_init_225, s_Mo_init_225n, s_Mo_init_228, s_Mo_init_229, s_Mo_init_231, s_Mo_init_233, s_Mo_init_233n, s_Mo_init_236, s_Mo_init_237, s_Mo_init_239, s_Mo_init_241, s_Mo_init_245, s_Mo_init_245n, s_Mo_init_248, s_Mo_init_249, s_Mo_init_251, s_Mo_init_253, s_Mo_init_253n, s_Mo_init_256, s_Mo_init_257, s_Mo_init_259, s_Mo_init_262, s_Mo_init_263, s_Mo_init_264, s_Mo_init_266, s_Mo_init_267, s_Mo_init_268, s_Mo_init_269, s_Mo_init_271, s_Mo_init_272, s_Mo_init_273, s_Mo_init_274, s_Mo_init_276, s_Mo_init_277, s_Mo_init_278, s_Mo_init_279, s_Mo_init_281, s_Mo_init_282, s_Mo_init_283, s_Mo_init_284, s_Mo_init_286, s_Mo_init_287, s_Mo_init_288, s_Mo_init_289, s_Mo_init_291, s_Mo_init_292, s_Mo_init_293, s_Mo_init_295, s_Mo_init_297, s_Mo_init_298, s_Mo_init_299, s_Mo_init_301, s_Mo_init_303, s_Mo_init_304, s_Mo_init_304n, s_Mo_init_307, s_Mo_init_308, s_Mo_init_309, s_Mo_init_312, s_Mo_init_313, s_Mo_init_314, s_Mo_init_316, s_Mo_init_317, s_Mo_init_318, s_Mo_init_319, s_Mo_init_321, s_Mo_init_322, s_Mo_init_323, s_Mo_init_324, s_Mo_init_326, s_Mo_init_327, s_Mo_init_327n, s_Mo_init_330, s_Mo_init_331, s_Mo_init_334, s_Mo_init_336, s_Mo_init_336n, s_Mo_init_339, s_Mo_init_340, s_Mo_init_342, s_Mo_init_344, s_Mo_init_344n, s_Mo_init_347, s_Mo_init_348, s_Mo_init_351, s_Mo_init_353, s_Mo_init_353n, s_Mo_init_356, s_Mo_init_357, s_Mo_init_359, s_Mo_init_361, s_Mo_init_361n, s_Mo_init_364, s_Mo_init_365, s_Mo_init_367, s_Mo_init_369, s_Mo_init_369n, s_Mo_init_372, s_Mo_init_373, s_Mo_init_376, s_Mo_init_377, s_Mo_init_378, s_Mo_init_381, s_Mo_init_381n, s_Mo_init_384, y_kd_sI, y_kd_sL, y_kd_sR, y_kd_cpI, y_kd_cpL, y_ln_sI, y_ln_sL, y_ln_sR, y_ln_cpI, y_ln_cpL, y_sz_sI, y_sz_sL, y_sz_sR, y_sz_cpI, y_sz_cpL, y_sl_sI, y_sl_sL, y_sl_sR, y_sl_cpI, y_sl_cpL, y_gI_sL, y_gI_sR, y_gI_cpI, y_gI_cpL, y_gI_nw, y_gL_sI, y_gL_sR, y_gL_cpI, y_gL_cpL, y_gL_nw, y_gR_sI, y_gR_sL, y_gR_cpI, y_gR_cpL, y_gR_nw, y_kd_nw, y_ln_nw, y_sz_nw, y_sl_nw, y_fx_int, y_fx_long, y_fx_ref, y_fx_null, y_fx_U, y_rf_s, y_rf_n, a_inb, a_ix, a_lt, a_eq, a_eq0, a_lt0, a_0lt, a_m1, a_m2, a_mlt, a_sub, a_dec, a_div, a_rem, a_shl, a_shr, a_bit, a_bit0, a_II, a_Ia, a_Ik, a_LL, a_La, a_Lk, a_RR, a_Ra, a_Rk, a_if0, a_if1, y_mul, y_and, y_or, nI_add, y_b1, y_b0, kon_v, kon_0, true_or, or_true, and_self, true_and, and_true, false_or, or_false, and_false, false_and, not_true_eq_false, not_false_eq_true, ite_self, ↓reduceIte, Nat.reduceEqDiff, Nat.reduceLeDiff, Nat.reduceAdd, Nat.reduceMul, Nat.reduceSub, Nat.reduceLT, Nat.reduceShiftLeft, Nat.reduceOr, Nat.reduceAnd, Bool.false_eq_true, b_if, b_z1, b_z0, b_zz, b_a1, b_a0, b_lc, b_zF, b_zT, b_lbit, k1, k2, k3, b1, x1, o.1]
  rfl
theorem iMo_init__25 {y : Int32} (o : okm m h) : ev g Mo_init_ 184 [.ref m, .int y] [] h = ev g Mo_init_ 207 [.ref m, .int y] [] (alWd m h) := by
  have k1 : kd (nw h 20 4 4) m = 13 := by rw [y_kd_nw, if_neg (by have := o.2; omega)]; exact o.1
  have k2 : kd (nw h 20 4 4) (sz h) = 20 := by rw [y_kd_nw, if_pos rfl]
  have k3 : ln (nw h 20 4 4) (sz h) = 4 := by rw [y_ln_nw, if_pos rfl]
  have b1 : inb (nI 4) 65536 = true := by decide
  have x1 : ix (nI 4) = 4 := by decide
  simp (disch := omega) only [s_Mo_init__0, s_Mo_init__1, s_Mo_init__4, s_Mo_init__5, s_Mo_init__7, s_Mo_init__9, s_Mo_init__9n, s_Mo_init__12, s_Mo_init__13, s_Mo_init__15, s_Mo_init__17, s_Mo_init__17n, s_Mo_init__20, s_Mo_init__21, s_Mo_init__23, s_Mo_init__25, s_Mo_init__25n, s_Mo_init__28, s_Mo_init__29, s_Mo_init__31, s_Mo_init__33, s_Mo_init__37, s_Mo_init__37n, s_Mo_init__40, s_Mo_init__41, s_Mo_init__43, s_Mo_init__45, s_Mo_init__45n, s_Mo_init__48, s_Mo_init__49, s_Mo_init__51, s_Mo_init__53, s_Mo_init__53n, s_Mo_init__56, s_Mo_init__57, s_Mo_init__59, s_Mo_init__61, s_Mo_init__61n, s_Mo_init__64, s_Mo_init__65, s_Mo_init__67, s_Mo_init__69, s_Mo_init__69n, s_Mo_init__72, s_Mo_init__73, s_Mo_init__75, s_Mo_init__77, s_Mo_init__77n, s_Mo_init__80, s_Mo_init__81, s_Mo_init__83, s_Mo_init__85, s_Mo_init__85n, s_Mo_init__88, s_Mo_init__89, s_Mo_init__91, s_Mo_init__93, s_Mo_init__93n, s_Mo_init__96, s_Mo_init__97, s_Mo_init__99, s_Mo_init__101, s_Mo_init__101n, s_Mo_init__104, s_Mo_init__105, s_Mo_init__107, s_Mo_init__109, s_Mo_init__109n, s_Mo_init__112, s_Mo_init__113, s_Mo_init__115, s_Mo_init__117, s_Mo_init__117n, s_Mo_init__120, s_Mo_init__121, s_Mo_init__123, s_Mo_init__125, s_Mo_init__125n, s_Mo_init__128, s_Mo_init__129, s_Mo_init__131, s_Mo_init__133, s_Mo_init__133n, s_Mo_init__136, s_Mo_init__137, s_Mo_init__139, s_Mo_init__141, s_Mo_init__141n, s_Mo_init__144, s_Mo_init__145, s_Mo_init__147, s_Mo_init__149, s_Mo_init__149n, s_Mo_init__152, s_Mo_init__153, s_Mo_init__155, s_Mo_init__157, s_Mo_init__157n, s_Mo_init__160, s_Mo_init__161, s_Mo_init__163, s_Mo_init__165, s_Mo_init__165n, s_Mo_init__168, s_Mo_init__169, s_Mo_init__171, s_Mo_init__173, s_Mo_init__173n, s_Mo_init__176, s_Mo_init__177, s_Mo_init__179, s_Mo_init__181, s_Mo_init__181n, s_Mo_init__184, s_Mo_init__185, s_Mo_init__186, s_Mo_init__188, s_Mo_init__189, s_Mo_init__190, s_Mo_init__191, s_Mo_init__192, s_Mo_init__193, s_Mo_init__194, s_Mo_init__195, s_Mo_init__196, s_Mo_init__197, s_Mo_init__198, s_Mo_init__199, s_Mo_init__200, s_Mo_init__201, s_Mo_init__202, s_Mo_init__203, s_Mo_init__204, s_Mo_init__204n, s_Mo_init__208, s_Mo_init__210, s_Mo_init__212, s_Mo_init__212n, s_Mo_init__215, s_Mo_init__216, s_Mo_init__217, s_Mo_init__220, s_Mo_init__221, s_Mo_init__223, s_Mo_init__225, s_Mo_init__225n, s_Mo_init__228, s_Mo_init__229, s_Mo_init__231, s_Mo_init__233, s_Mo_init__233n, s_Mo_init__236, s_Mo_init__237, s_Mo_init__239, s_Mo_init__241, s_Mo_init__245, s_Mo_init__245n, s_Mo_init__248, s_Mo_init__249, s_Mo_init__251, s_Mo_init__253, s_Mo_init__253n, s_Mo_init__256, s_Mo_init__257, s_Mo_init__259, s_Mo_init__262, s_Mo_init__263, s_Mo_init__264, s_Mo_init__266, s_Mo_init__267, s_Mo_init__268, s_Mo_init__269, s_Mo_init__271, s_Mo_init__272, s_Mo_init__273, s_Mo_init__274, s_Mo_init__276, s_Mo_init__277, s_Mo_init__278, s_Mo_init__279, s_Mo_init__281, s_Mo_init__282, s_Mo_init__283, s_Mo_init__284, s_Mo_init__286, s_Mo_init__287, s_Mo_init__288, s_Mo_init__289, s_Mo_init__291, s_Mo_init__292, s_Mo_init__293, s_Mo_init__295, s_Mo_init__297, s_Mo_init__298, s_Mo_init__299, s_Mo_init__301, s_Mo_init__303, s_Mo_init__304, s_Mo_init__304n, s_Mo_init__307, s_Mo_init__308, s_Mo_init__309, s_Mo_init__312, s_Mo_init__313, s_Mo_init__314, s_Mo_init__316, s_Mo_init__317, s_Mo_init__318, s_Mo_init__319, s_Mo_init__321, s_Mo_init__322, s_Mo_init__323, s_Mo_init__324, s_Mo_init__326, s_Mo_init__327, s_Mo_init__327n, s_Mo_init__330, s_Mo_init__331, s_Mo_init__334, s_Mo_init__336, s_Mo_init__336n, s_Mo_init__339, s_Mo_init__340, s_Mo_init__342, s_Mo_init__344, s_Mo_init__344n, s_Mo_init__347, s_Mo_init__348, s_Mo_init__351, s_Mo_init__353, s_Mo_init__353n, s_Mo_init__356, s_Mo_init__357, s_Mo_init__359, s_Mo_init__361, s_Mo_init__361n, s_Mo_init__364, s_Mo_init__365, s_Mo_init__367, s_Mo_init__369, s_Mo_init__369n, s_Mo_init__372, s_Mo_init__373, s_Mo_init__374, s_Mo_init__374n, s_Mo_init__377, y_kd_sI, y_kd_sL, y_kd_sR, y_kd_cpI, y_kd_cpL, y_ln_sI, y_ln_sL, y_ln_sR, y_ln_cpI, y_ln_cpL, y_sz_sI, y_sz_sL, y_sz_sR, y_sz_cpI, y_sz_cpL, y_sl_sI, y_sl_sL, y_sl_sR, y_sl_cpI, y_sl_cpL, y_gI_sL, y_gI_sR, y_gI_cpI, y_gI_cpL, y_gI_nw, y_gL_sI, y_gL_sR, y_gL_cpI, y_gL_cpL, y_gL_nw, y_gR_sI, y_gR_sL, y_gR_cpI, y_gR_cpL, y_gR_nw, y_kd_nw, y_ln_nw, y_sz_nw, y_sl_nw, y_fx_int, y_fx_long, y_fx_ref, y_fx_null, y_fx_U, y_rf_s, y_rf_n, a_inb, a_ix, a_lt, a_eq, a_eq0, a_lt0, a_0lt, a_m1, a_m2, a_mlt, a_sub, a_dec, a_div, a_rem, a_shl, a_shr, a_bit, a_bit0, a_II, a_Ia, a_Ik, a_LL, a_La, a_Lk, a_RR, a_Ra, a_Rk, a_if0, a_if1, y_mul, y_and, y_or, nI_add, y_b1, y_b0, kon_v, kon_0, true_or, or_true, and_self, true_and, and_true, false_or, or_false, and_false, false_and, not_true_eq_false, not_false_eq_true, ite_self, ↓reduceIte, Nat.reduceEqDiff, Nat.reduceLeDiff, Nat.reduceAdd, Nat.reduceMul, Nat.reduceSub, Nat.reduceLT, Nat.reduceShiftLeft, Nat.reduceOr, Nat.reduceAnd, Bool.false_eq_true, b_if, b_z1, b_z0, b_zz, b_a1, b_a0, b_lc, b_zF, b_zT, b_lbit, k1, k2, k3, b1, x1, o.1]
  rfl
end ZMA
