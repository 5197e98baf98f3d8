/-! a new reference: all of it -/
section ZML
variable {g : Nat → Nat} {m : Nat} {h h' : zMem} {y : Int32}
theorem alS_I27 {e : Nat × Nat × Nat} (hm : m < sz h) : gI (alS m h e) m 27 = gI h m 27 := by
  unfold alS
  rw [y_gI_sR, y_gI_nw, if_neg (by omega)]
theorem alM_I27 {s K k n w : Nat} (hm : m < sz h) : gI (alM m h s K k n w) m 27 = gI h m 27 := by
  unfold alM
  rw [y_gI_sR]
  show (if sz h ≤ m ∧ m ≤ sz h + n then 0 else gI h m 27) = _
  rw [if_neg (by omega)]
theorem alS8_I27 (hm : m < sz h) : gI (alS8 g m h) m 27 = gI h m 27 := by
  unfold alS8
  simp only [y_gI_sR]
  rw [y_gI_nw, if_neg (by omega)]
theorem alS3_I27 (hm : m < sz h) : gI (alS3 g m h) m 27 = gI h m 27 := by
  unfold alS3
  simp only [y_gI_sR]
  rw [y_gI_nw, if_neg (by omega)]
theorem g33m0 (o : okm m h) : gR (moM0 g m h) m 33 = gR h m 33 := ((alS_o (e := (0, 20, 8)) o.2).2.2.1.2.2.1 33 (by show ¬ 33 = 0; decide)).trans rfl
theorem g33m1 (o : okm m h) : gR (moM1 g m h) m 33 = gR h m 33 := ((alS_o (e := (1, 20, 8)) (okm0 (g := g) o).2).2.2.1.2.2.1 33 (by show ¬ 33 = 1; decide)).trans (g33m0 (g := g) o)
theorem g33m2 (o : okm m h) : gR (moM2 g m h) m 33 = gR h m 33 := ((alS_o (e := (2, 20, 8)) (okm1 (g := g) o).2).2.2.1.2.2.1 33 (by show ¬ 33 = 2; decide)).trans (g33m1 (g := g) o)
theorem g33m3 (o : okm m h) : gR (moM3 g m h) m 33 = gR h m 33 := ((alM_o (s := 3) (K := 28) (k := 21) (n := 8) (w := 64) (okm2 (g := g) o).2).2.2.1.2.2.1 33 (by show ¬ 33 = 3; decide)).trans (g33m2 (g := g) o)
theorem g33m4 (o : okm m h) : gR (moM4 g m h) m 33 = gR h m 33 := ((alS_o (e := (4, 20, 8)) (okm3 (g := g) o).2).2.2.1.2.2.1 33 (by show ¬ 33 = 4; decide)).trans (g33m3 (g := g) o)
theorem g33m5 (o : okm m h) : gR (moM5 g m h) m 33 = gR h m 33 := ((alS_o (e := (5, 21, 64)) (okm4 (g := g) o).2).2.2.1.2.2.1 33 (by show ¬ 33 = 5; decide)).trans (g33m4 (g := g) o)
theorem g33m6 (o : okm m h) : gR (moM6 g m h) m 33 = gR h m 33 := ((alS_o (e := (6, 20, 80)) (okm5 (g := g) o).2).2.2.1.2.2.1 33 (by show ¬ 33 = 6; decide)).trans (g33m5 (g := g) o)
theorem g33m7 (o : okm m h) : gR (moM7 g m h) m 33 = gR h m 33 := ((alS_o (e := (8, 20, 8)) (okm6 (g := g) o).2).2.2.1.2.2.1 33 (by show ¬ 33 = 8; decide)).trans (g33m6 (g := g) o)
theorem g33m8 (o : okm m h) : gR (moM8 g m h) m 33 = gR h m 33 := ((alS_o (e := (10, 20, 10)) (okm7 (g := g) o).2).2.2.1.2.2.1 33 (by show ¬ 33 = 10; decide)).trans (g33m7 (g := g) o)
theorem g33m9 (o : okm m h) : gR (moM9 g m h) m 33 = gR h m 33 := ((alS_o (e := (11, 20, 10)) (okm8 (g := g) o).2).2.2.1.2.2.1 33 (by show ¬ 33 = 11; decide)).trans (g33m8 (g := g) o)
theorem g33m10 (o : okm m h) : gR (moM10 g m h) m 33 = gR h m 33 := ((alS_o (e := (12, 20, 10)) (okm9 (g := g) o).2).2.2.1.2.2.1 33 (by show ¬ 33 = 12; decide)).trans (g33m9 (g := g) o)
theorem g33m11 (o : okm m h) : gR (moM11 g m h) m 33 = gR h m 33 := ((alS_o (e := (13, 20, 10)) (okm10 (g := g) o).2).2.2.1.2.2.1 33 (by show ¬ 33 = 13; decide)).trans (g33m10 (g := g) o)
theorem g33m12 (o : okm m h) : gR (moM12 g m h) m 33 = gR h m 33 := ((alS_o (e := (14, 21, 10)) (okm11 (g := g) o).2).2.2.1.2.2.1 33 (by show ¬ 33 = 14; decide)).trans (g33m11 (g := g) o)
theorem g33m13 (o : okm m h) : gR (moM13 g m h) m 33 = gR h m 33 := ((alS_o (e := (16, 20, 24)) (okm12 (g := g) o).2).2.2.1.2.2.1 33 (by show ¬ 33 = 16; decide)).trans (g33m12 (g := g) o)
theorem g33m14 (o : okm m h) : gR (moM14 g m h) m 33 = gR h m 33 := ((alS_o (e := (17, 20, 24)) (okm13 (g := g) o).2).2.2.1.2.2.1 33 (by show ¬ 33 = 17; decide)).trans (g33m13 (g := g) o)
theorem g33m15 (o : okm m h) : gR (moM15 g m h) m 33 = gR h m 33 := ((alS_o (e := (18, 20, 24)) (okm14 (g := g) o).2).2.2.1.2.2.1 33 (by show ¬ 33 = 18; decide)).trans (g33m14 (g := g) o)
theorem g33m16 (o : okm m h) : gR (moM16 g m h) m 33 = gR h m 33 := ((alS_o (e := (19, 20, 24)) (okm15 (g := g) o).2).2.2.1.2.2.1 33 (by show ¬ 33 = 19; decide)).trans (g33m15 (g := g) o)
theorem g33m17 (o : okm m h) : gR (moM17 g m h) m 33 = gR h m 33 := ((alS_o (e := (20, 20, 24)) (okm16 (g := g) o).2).2.2.1.2.2.1 33 (by show ¬ 33 = 20; decide)).trans (g33m16 (g := g) o)
theorem g33m18 (o : okm m h) : gR (moM18 g m h) m 33 = gR h m 33 := ((alS_o (e := (21, 20, 24)) (okm17 (g := g) o).2).2.2.1.2.2.1 33 (by show ¬ 33 = 21; decide)).trans (g33m17 (g := g) o)
theorem g33m19 (o : okm m h) : gR (moM19 g m h) m 33 = gR h m 33 := ((alS_o (e := (22, 20, 24)) (okm18 (g := g) o).2).2.2.1.2.2.1 33 (by show ¬ 33 = 22; decide)).trans (g33m18 (g := g) o)
theorem g33m20 (o : okm m h) : gR (moM20 g m h) m 33 = gR h m 33 := ((alS_o (e := (23, 20, 24)) (okm19 (g := g) o).2).2.2.1.2.2.1 33 (by show ¬ 33 = 23; decide)).trans (g33m19 (g := g) o)
theorem g33m21 (o : okm m h) : gR (moM21 g m h) m 33 = gR h m 33 := ((alS_o (e := (24, 20, 24)) (okm20 (g := g) o).2).2.2.1.2.2.1 33 (by show ¬ 33 = 24; decide)).trans (g33m20 (g := g) o)
theorem g33m22 (o : okm m h) : gR (moM22 g m h) m 33 = gR h m 33 := ((alWd_o (okm21 (g := g) o).2).2.2.1.2.2.1 33 (by show ¬ 33 = 25; decide)).trans (g33m21 (g := g) o)
theorem g33m23 (o : okm m h) : gR (moM23 g m h) m 33 = gR h m 33 := ((alS_o (e := (26, 20, 64)) (okm22 (g := g) o).2).2.2.1.2.2.1 33 (by show ¬ 33 = 26; decide)).trans (g33m22 (g := g) o)
theorem g33m24 (o : okm m h) : gR (moM24 g m h) m 33 = gR h m 33 := g33m23 o
theorem g33m25 (o : okm m h) : gR (moM25 g m h) m 33 = gR h m 33 := ((alS_o (e := (29, 20, 100)) (okm24 (g := g) o).2).2.2.1.2.2.1 33 (by show ¬ 33 = 29; decide)).trans (g33m24 (g := g) o)
theorem g33m26 (o : okm m h) : gR (moM26 g m h) m 33 = gR h m 33 := ((alS_o (e := (30, 20, 100)) (okm25 (g := g) o).2).2.2.1.2.2.1 33 (by show ¬ 33 = 30; decide)).trans (g33m25 (g := g) o)
theorem g33m27 (o : okm m h) : gR (moM27 g m h) m 33 = gR h m 33 := ((alM_o (s := 36) (K := 29) (k := 20) (n := 46) (w := 100) (okm26 (g := g) o).2).2.2.1.2.2.1 33 (by show ¬ 33 = 36; decide)).trans (g33m26 (g := g) o)
theorem g33m28 (o : okm m h) : gR (moM28 g m h) m 33 = gR h m 33 := ((alS_o (e := (37, 20, 45)) (okm27 (g := g) o).2).2.2.1.2.2.1 33 (by show ¬ 33 = 37; decide)).trans (g33m27 (g := g) o)
theorem g33m29 (o : okm m h) : gR (moM29 g m h) m 33 = gR h m 33 := ((alS8_o (g := g) (okm28 (g := g) o).2).2.2.1.2.2.1 33 (by show ¬ 33 = 49; decide)).trans (g33m28 (g := g) o)
theorem g33m30 (o : okm m h) : gR (moM30 g m h) m 33 = gR h m 33 := ((alS3_o (g := g) (okm29 (g := g) o).2).2.2.1.2.2.1 33 (by show ¬ 33 = 50; decide)).trans (g33m29 (g := g) o)
theorem g33m31 (o : okm m h) : gR (moM31 g m h) m 33 = gR h m 33 := ((alS_o (e := (51, 20, 2048)) (okm30 (g := g) o).2).2.2.1.2.2.1 33 (by show ¬ 33 = 51; decide)).trans (g33m30 (g := g) o)
theorem g33m32 (o : okm m h) : gR (moM32 g m h) m 33 = gR h m 33 := ((alS_o (e := (56, 20, 8)) (okm31 (g := g) o).2).2.2.1.2.2.1 33 (by show ¬ 33 = 56; decide)).trans (g33m31 (g := g) o)
theorem g33m33 (o : okm m h) : gR (moM33 g m h) m 33 = gR h m 33 := ((alS_o (e := (62, 20, 256)) (okm32 (g := g) o).2).2.2.1.2.2.1 33 (by show ¬ 33 = 62; decide)).trans (g33m32 (g := g) o)
theorem g33m34 (o : okm m h) : gR (moM34 g m h) m 33 = gR h m 33 := ((alS_o (e := (63, 20, 48)) (okm33 (g := g) o).2).2.2.1.2.2.1 33 (by show ¬ 33 = 63; decide)).trans (g33m33 (g := g) o)
theorem g33m35 (o : okm m h) : gR (moM35 g m h) m 33 = gR h m 33 := ((alS_o (e := (66, 20, 10)) (okm34 (g := g) o).2).2.2.1.2.2.1 33 (by show ¬ 33 = 66; decide)).trans (g33m34 (g := g) o)
theorem g27m24 : gI (moM24 g m h) m 27 = nI 1 := a_II
theorem g27m25 (o : okm m h) : gI (moM25 g m h) m 27 = nI 1 := (alS_I27 (okm24 (g := g) o).2).trans (g27m24 (g := g) (m := m) (h := h))
theorem g27m26 (o : okm m h) : gI (moM26 g m h) m 27 = nI 1 := (alS_I27 (okm25 (g := g) o).2).trans (g27m25 (g := g) o)
theorem g27m27 (o : okm m h) : gI (moM27 g m h) m 27 = nI 1 := (alM_I27 (okm26 (g := g) o).2).trans (g27m26 (g := g) o)
theorem g27m28 (o : okm m h) : gI (moM28 g m h) m 27 = nI 1 := (alS_I27 (okm27 (g := g) o).2).trans (g27m27 (g := g) o)
theorem g27m29 (o : okm m h) : gI (moM29 g m h) m 27 = nI 1 := (alS8_I27 (okm28 (g := g) o).2).trans (g27m28 (g := g) o)
theorem g27m30 (o : okm m h) : gI (moM30 g m h) m 27 = nI 1 := (alS3_I27 (okm29 (g := g) o).2).trans (g27m29 (g := g) o)
theorem g27m31 (o : okm m h) : gI (moM31 g m h) m 27 = nI 1 := (alS_I27 (okm30 (g := g) o).2).trans (g27m30 (g := g) o)
theorem g27m32 (o : okm m h) : gI (moM32 g m h) m 27 = nI 1 := (alS_I27 (okm31 (g := g) o).2).trans (g27m31 (g := g) o)
theorem g27m33 (o : okm m h) : gI (moM33 g m h) m 27 = nI 1 := (alS_I27 (okm32 (g := g) o).2).trans (g27m32 (g := g) o)
theorem g27m34 (o : okm m h) : gI (moM34 g m h) m 27 = nI 1 := (alS_I27 (okm33 (g := g) o).2).trans (g27m33 (g := g) o)
theorem g27m35 (o : okm m h) : gI (moM35 g m h) m 27 = nI 1 := (alS_I27 (okm34 (g := g) o).2).trans (g27m34 (g := g) o)
def moH (g : Nat → Nat) (m : Nat) (h : zMem) : zMem := sR (sR (moM35 g (m + 90) (nw (moM35 g m h) 13 0 67)) (m + 90) 42 none) m 42 (some (m + 90))
theorem mo_ok2 (o : okm m h) (hz : sz h = m + 1) : okm (m + 90) (nw (moM35 g m h) 13 0 67) ∧ sz (nw (moM35 g m h) 13 0 67) = m + 90 + 1 ∧ sl (nw (moM35 g m h) 13 0 67) = sl h + 8310 + 67 := by
  obtain ⟨a, b⟩ := szm35 (g := g) o
  have e : sz (moM35 g m h) = m + 90 := by omega
  refine ⟨⟨?_, ?_⟩, ?_, ?_⟩
  · rw [y_kd_nw, if_pos e.symm]
  · rw [y_sz_nw, e]; omega
  · rw [y_sz_nw, e]
  · rw [y_sl_nw, b]
theorem mo_hs2 (o : okm m h) (hz : sz h = m + 1) (hs : ∀ i : Nat, i < 17 → kd h (g (100 + i)) = 41 ∧ g (100 + i) < m) : ∀ i : Nat, i < 17 → kd (nw (moM35 g m h) 13 0 67) (g (100 + i)) = 41 ∧ g (100 + i) < m + 90 := fun i hi => by
  obtain ⟨a, b⟩ := hs i hi
  have e := (szm35 (g := g) o).1
  rw [y_kd_nw, if_neg (by omega)]
  exact ⟨(kdm35 o _ b).trans a, by omega⟩
theorem q_Mo_init (o : okm m h) (hz : sz h = m + 1) (hs : ∀ i : Nat, i < 17 → kd h (g (100 + i)) = 41 ∧ g (100 + i) < m) : call g Mo_init [.ref m] h = some (none, moH g m h) := by
  obtain ⟨o2, z2, -⟩ := mo_ok2 (g := g) o hz
  have hs2 := mo_hs2 o hz hs
  have e : sz (moM35 g m h) = m + 90 := by have := (szm35 (g := g) o).1; omega
  have q := q_Mo_init_ (g := g) (y := nI 1) o2 hs2
  have k1 := (okm35 (g := g) o).1
  have k2 : kd (nw (moM35 g m h) 13 0 67) (m + 90) = 13 := o2.1
  have k3 : kd (moM35 g (m + 90) (nw (moM35 g m h) 13 0 67)) m = 13 := by
    rw [kdm35 o2 m (by omega), y_kd_nw, if_neg (by omega)]
    exact k1
  have go : call g Mo_init [.ref m] h = ev g Mo_init 4 [.ref m] [] h := by
    rw [n_Mo_init]
    simp (disch := omega) only [s_Mo_init_0, s_Mo_init_1, s_Mo_init_5, s_Mo_init_7, s_Mo_init_9, s_Mo_init_9n, s_Mo_init_12, s_Mo_init_13, s_Mo_init_15, s_Mo_init_17, s_Mo_init_17n, s_Mo_init_20, s_Mo_init_21, s_Mo_init_23, s_Mo_init_25, s_Mo_init_25n, s_Mo_init_28, s_Mo_init_29, s_Mo_init_31, s_Mo_init_33, s_Mo_init_37, s_Mo_init_37n, s_Mo_init_40, s_Mo_init_41, s_Mo_init_43, s_Mo_init_45, s_Mo_init_45n, s_Mo_init_48, s_Mo_init_49, s_Mo_init_51, s_Mo_init_53, s_Mo_init_53n, s_Mo_init_56, s_Mo_init_57, s_Mo_init_59, s_Mo_init_61, s_Mo_init_61n, s_Mo_init_64, s_Mo_init_65, s_Mo_init_67, s_Mo_init_69, s_Mo_init_69n, s_Mo_init_72, s_Mo_init_73, s_Mo_init_75, s_Mo_init_77, s_Mo_init_77n, s_Mo_init_80, s_Mo_init_81, s_Mo_init_83, s_Mo_init_85, s_Mo_init_85n, s_Mo_init_88, s_Mo_init_89, s_Mo_init_91, s_Mo_init_93, s_Mo_init_93n, s_Mo_init_96, s_Mo_init_97, s_Mo_init_99, s_Mo_init_101, s_Mo_init_101n, s_Mo_init_104, s_Mo_init_105, s_Mo_init_107, s_Mo_init_109, s_Mo_init_109n, s_Mo_init_112, s_Mo_init_113, s_Mo_init_115, s_Mo_init_117, s_Mo_init_117n, s_Mo_init_120, s_Mo_init_121, s_Mo_init_123, s_Mo_init_125, s_Mo_init_125n, s_Mo_init_128, s_Mo_init_129, s_Mo_init_131, s_Mo_init_133, s_Mo_init_133n, s_Mo_init_136, s_Mo_init_137, s_Mo_init_139, s_Mo_init_141, s_Mo_init_141n, s_Mo_init_144, s_Mo_init_145, s_Mo_init_147, s_Mo_init_149, s_Mo_init_149n, s_Mo_init_152, s_Mo_init_153, s_Mo_init_155, s_Mo_init_157, s_Mo_init_157n, s_Mo_init_160, s_Mo_init_161, s_Mo_init_163, s_Mo_init_165, s_Mo_init_165n, s_Mo_init_168, s_Mo_init_169, s_Mo_init_171, s_Mo_init_173, s_Mo_init_173n, s_Mo_init_176, s_Mo_init_177, s_Mo_init_179, s_Mo_init_181, s_Mo_init_181n, s_Mo_init_184, s_Mo_init_185, s_Mo_init_186, s_Mo_init_188, s_Mo_init_189, s_Mo_init_190, s_Mo_init_191, s_Mo_init_192, s_Mo_init_193, s_Mo_init_194, s_Mo_init_195, s_Mo_init_196, s_Mo_init_197, s_Mo_init_198, s_Mo_init_199, s_Mo_init_200, s_Mo_init_201, s_Mo_init_202, s_Mo_init_203, s_Mo_init_204, s_Mo_init_204n, s_Mo_init_207, s_Mo_init_208, s_Mo_init_210, s_Mo_init_212, s_Mo_init_212n, s_Mo_init_215, s_Mo_init_216, s_Mo_init_217, s_Mo_init_220, s_Mo_init_221, s_Mo_init_223, s_Mo_init_225, s_Mo_init_225n, s_Mo_init_228, s_Mo_init_229, s_Mo_init_231, s_Mo_init_233, s_Mo_init_233n, s_Mo_init_236, s_Mo_init_237, s_Mo_init_239, s_Mo_init_241, s_Mo_init_245, s_Mo_init_245n, s_Mo_init_248, s_Mo_init_249, s_Mo_init_251, s_Mo_init_253, s_Mo_init_253n, s_Mo_init_256, s_Mo_init_257, s_Mo_init_259, s_Mo_init_262, s_Mo_init_263, s_Mo_init_264, s_Mo_init_266, s_Mo_init_267, s_Mo_init_268, s_Mo_init_269, s_Mo_init_271, s_Mo_init_272, s_Mo_init_273, s_Mo_init_274, s_Mo_init_276, s_Mo_init_277, s_Mo_init_278, s_Mo_init_279, s_Mo_init_281, s_Mo_init_282, s_Mo_init_283, s_Mo_init_284, s_Mo_init_286, s_Mo_init_287, s_Mo_init_288, s_Mo_init_289, s_Mo_init_291, s_Mo_init_292, s_Mo_init_293, s_Mo_init_295, s_Mo_init_297, s_Mo_init_298, s_Mo_init_299, s_Mo_init_301, s_Mo_init_303, s_Mo_init_304, s_Mo_init_304n, s_Mo_init_307, s_Mo_init_308, s_Mo_init_309, s_Mo_init_312, s_Mo_init_313, s_Mo_init_314, s_Mo_init_316, s_Mo_init_317, s_Mo_init_318, s_Mo_init_319, s_Mo_init_321, s_Mo_init_322, s_Mo_init_323, s_Mo_init_324, s_Mo_init_326, s_Mo_init_327, s_Mo_init_327n, s_Mo_init_330, s_Mo_init_331, s_Mo_init_334, s_Mo_init_336, s_Mo_init_336n, s_Mo_init_339, s_Mo_init_340, s_Mo_init_342, s_Mo_init_344, s_Mo_init_344n, s_Mo_init_347, s_Mo_init_348, s_Mo_init_351, s_Mo_init_353, s_Mo_init_353n, s_Mo_init_356, s_Mo_init_357, s_Mo_init_359, s_Mo_init_361, s_Mo_init_361n, s_Mo_init_364, s_Mo_init_365, s_Mo_init_367, s_Mo_init_369, s_Mo_init_369n, s_Mo_init_372, s_Mo_init_373, s_Mo_init_376, s_Mo_init_377, s_Mo_init_378, s_Mo_init_381, s_Mo_init_381n, s_Mo_init_384, y_kd_sI, y_kd_sL, y_kd_sR, y_kd_cpI, y_kd_cpL, y_ln_sI, y_ln_sL, y_ln_sR, y_ln_cpI, y_ln_cpL, y_sz_sI, y_sz_sL, y_sz_sR, y_sz_cpI, y_sz_cpL, y_sl_sI, y_sl_sL, y_sl_sR, y_sl_cpI, y_sl_cpL, y_gI_sL, y_gI_sR, y_gI_cpI, y_gI_cpL, y_gI_nw, y_gL_sI, y_gL_sR, y_gL_cpI, y_gL_cpL, y_gL_nw, y_gR_sI, y_gR_sL, y_gR_cpI, y_gR_cpL, y_gR_nw, y_kd_nw, y_ln_nw, y_sz_nw, y_sl_nw, y_fx_int, y_fx_long, y_fx_ref, y_fx_null, y_fx_U, y_rf_s, y_rf_n, a_inb, a_ix, a_lt, a_eq, a_eq0, a_lt0, a_0lt, a_m1, a_m2, a_mlt, a_sub, a_dec, a_div, a_rem, a_shl, a_shr, a_bit, a_bit0, a_II, a_Ia, a_Ik, a_LL, a_La, a_Lk, a_RR, a_Ra, a_Rk, a_if0, a_if1, y_mul, y_and, y_or, nI_add, y_b1, y_b0, kon_v, kon_0, true_or, or_true, and_self, true_and, and_true, false_or, or_false, and_false, false_and, not_true_eq_false, not_false_eq_true, ite_self, ↓reduceIte, Nat.reduceEqDiff, Nat.reduceLeDiff, Nat.reduceAdd, Nat.reduceMul, Nat.reduceSub, Nat.reduceLT, Nat.reduceShiftLeft, Nat.reduceOr, Nat.reduceAnd, Bool.false_eq_true, b_if, b_z1, b_z0, b_zz, b_a1, b_a0, b_lc, b_zF, b_zT, b_lbit]
  rw [go, cMo_init o hs]
  unfold moH
  simp (disch := omega) only [s_Mo_init_0, s_Mo_init_1, s_Mo_init_5, s_Mo_init_7, s_Mo_init_9, s_Mo_init_9n, s_Mo_init_12, s_Mo_init_13, s_Mo_init_15, s_Mo_init_17, s_Mo_init_17n, s_Mo_init_20, s_Mo_init_21, s_Mo_init_23, s_Mo_init_25, s_Mo_init_25n, s_Mo_init_28, s_Mo_init_29, s_Mo_init_31, s_Mo_init_33, s_Mo_init_37, s_Mo_init_37n, s_Mo_init_40, s_Mo_init_41, s_Mo_init_43, s_Mo_init_45, s_Mo_init_45n, s_Mo_init_48, s_Mo_init_49, s_Mo_init_51, s_Mo_init_53, s_Mo_init_53n, s_Mo_init_56, s_Mo_init_57, s_Mo_init_59, s_Mo_init_61, s_Mo_init_61n, s_Mo_init_64, s_Mo_init_65, s_Mo_init_67, s_Mo_init_69, s_Mo_init_69n, s_Mo_init_72, s_Mo_init_73, s_Mo_init_75, s_Mo_init_77, s_Mo_init_77n, s_Mo_init_80, s_Mo_init_81, s_Mo_init_83, s_Mo_init_85, s_Mo_init_85n, s_Mo_init_88, s_Mo_init_89, s_Mo_init_91, s_Mo_init_93, s_Mo_init_93n, s_Mo_init_96, s_Mo_init_97, s_Mo_init_99, s_Mo_init_101, s_Mo_init_101n, s_Mo_init_104, s_Mo_init_105, s_Mo_init_107, s_Mo_init_109, s_Mo_init_109n, s_Mo_init_112, s_Mo_init_113, s_Mo_init_115, s_Mo_init_117, s_Mo_init_117n, s_Mo_init_120, s_Mo_init_121, s_Mo_init_123, s_Mo_init_125, s_Mo_init_125n, s_Mo_init_128, s_Mo_init_129, s_Mo_init_131, s_Mo_init_133, s_Mo_init_133n, s_Mo_init_136, s_Mo_init_137, s_Mo_init_139, s_Mo_init_141, s_Mo_init_141n, s_Mo_init_144, s_Mo_init_145, s_Mo_init_147, s_Mo_init_149, s_Mo_init_149n, s_Mo_init_152, s_Mo_init_153, s_Mo_init_155, s_Mo_init_157, s_Mo_init_157n, s_Mo_init_160, s_Mo_init_161, s_Mo_init_163, s_Mo_init_165, s_Mo_init_165n, s_Mo_init_168, s_Mo_init_169, s_Mo_init_171, s_Mo_init_173, s_Mo_init_173n, s_Mo_init_176, s_Mo_init_177, s_Mo_init_179, s_Mo_init_181, s_Mo_init_181n, s_Mo_init_184, s_Mo_init_185, s_Mo_init_186, s_Mo_init_188, s_Mo_init_189, s_Mo_init_190, s_Mo_init_191, s_Mo_init_192, s_Mo_init_193, s_Mo_init_194, s_Mo_init_195, s_Mo_init_196, s_Mo_init_197, s_Mo_init_198, s_Mo_init_199, s_Mo_init_200, s_Mo_init_201, s_Mo_init_202, s_Mo_init_203, s_Mo_init_204, s_Mo_init_204n, s_Mo_init_207, s_Mo_init_208, s_Mo_init_210, s_Mo_init_212, s_Mo_init_212n, s_Mo_init_215, s_Mo_init_216, s_Mo_init_217, s_Mo_init_220, s_Mo_init_221, s_Mo_init_223, s_Mo_init_225, s_Mo_init_225n, s_Mo_init_228, s_Mo_init_229, s_Mo_init_231, s_Mo_init_233, s_Mo_init_233n, s_Mo_init_236, s_Mo_init_237, s_Mo_init_239, s_Mo_init_241, s_Mo_init_245, s_Mo_init_245n, s_Mo_init_248, s_Mo_init_249, s_Mo_init_251, s_Mo_init_253, s_Mo_init_253n, s_Mo_init_256, s_Mo_init_257, s_Mo_init_259, s_Mo_init_262, s_Mo_init_263, s_Mo_init_264, s_Mo_init_266, s_Mo_init_267, s_Mo_init_268, s_Mo_init_269, s_Mo_init_271, s_Mo_init_272, s_Mo_init_273, s_Mo_init_274, s_Mo_init_276, s_Mo_init_277, s_Mo_init_278, s_Mo_init_279, s_Mo_init_281, s_Mo_init_282, s_Mo_init_283, s_Mo_init_284, s_Mo_init_286, s_Mo_init_287, s_Mo_init_288, s_Mo_init_289, s_Mo_init_291, s_Mo_init_292, s_Mo_init_293, s_Mo_init_295, s_Mo_init_297, s_Mo_init_298, s_Mo_init_299, s_Mo_init_301, s_Mo_init_303, s_Mo_init_304, s_Mo_init_304n, s_Mo_init_307, s_Mo_init_308, s_Mo_init_309, s_Mo_init_312, s_Mo_init_313, s_Mo_init_314, s_Mo_init_316, s_Mo_init_317, s_Mo_init_318, s_Mo_init_319, s_Mo_init_321, s_Mo_init_322, s_Mo_init_323, s_Mo_init_324, s_Mo_init_326, s_Mo_init_327, s_Mo_init_327n, s_Mo_init_330, s_Mo_init_331, s_Mo_init_334, s_Mo_init_336, s_Mo_init_336n, s_Mo_init_339, s_Mo_init_340, s_Mo_init_342, s_Mo_init_344, s_Mo_init_344n, s_Mo_init_347, s_Mo_init_348, s_Mo_init_351, s_Mo_init_353, s_Mo_init_353n, s_Mo_init_356, s_Mo_init_357, s_Mo_init_359, s_Mo_init_361, s_Mo_init_361n, s_Mo_init_364, s_Mo_init_365, s_Mo_init_367, s_Mo_init_369, s_Mo_init_369n, s_Mo_init_372, s_Mo_init_373, s_Mo_init_376, s_Mo_init_377, s_Mo_init_378, s_Mo_init_381, s_Mo_init_381n, s_Mo_init_384, y_kd_sI, y_kd_sL, y_kd_sR, y_kd_cpI, y_kd_cpL, y_ln_sI, y_ln_sL, y_ln_sR, y_ln_cpI, y_ln_cpL, y_sz_sI, y_sz_sL, y_sz_sR, y_sz_cpI, y_sz_cpL, y_sl_sI, y_sl_sL, y_sl_sR, y_sl_cpI, y_sl_cpL, y_gI_sL, y_gI_sR, y_gI_cpI, y_gI_cpL, y_gI_nw, y_gL_sI, y_gL_sR, y_gL_cpI, y_gL_cpL, y_gL_nw, y_gR_sI, y_gR_sL, y_gR_cpI, y_gR_cpL, y_gR_nw, y_kd_nw, y_ln_nw, y_sz_nw, y_sl_nw, y_fx_int, y_fx_long, y_fx_ref, y_fx_null, y_fx_U, y_rf_s, y_rf_n, a_inb, a_ix, a_lt, a_eq, a_eq0, a_lt0, a_0lt, a_m1, a_m2, a_mlt, a_sub, a_dec, a_div, a_rem, a_shl, a_shr, a_bit, a_bit0, a_II, a_Ia, a_Ik, a_LL, a_La, a_Lk, a_RR, a_Ra, a_Rk, a_if0, a_if1, y_mul, y_and, y_or, nI_add, y_b1, y_b0, kon_v, kon_0, true_or, or_true, and_self, true_and, and_true, false_or, or_false, and_false, false_and, not_true_eq_false, not_false_eq_true, ite_self, ↓reduceIte, Nat.reduceEqDiff, Nat.reduceLeDiff, Nat.reduceAdd, Nat.reduceMul, Nat.reduceSub, Nat.reduceLT, Nat.reduceShiftLeft, Nat.reduceOr, Nat.reduceAnd, Bool.false_eq_true, b_if, b_z1, b_z0, b_zz, b_a1, b_a0, b_lc, b_zF, b_zT, b_lbit, e, k2, q, k3]
theorem moH_R {b k : Nat} (hk : ¬ (b = m ∧ k = 42)) (hk2 : ¬ (b = m + 90 ∧ k = 42)) : gR (moH g m h) b k = gR (moM35 g (m + 90) (nw (moM35 g m h) 13 0 67)) b k := by
  unfold moH
  rw [y_gR_sR, if_neg hk, y_gR_sR, if_neg hk2]
theorem moH_k {b : Nat} : kd (moH g m h) b = kd (moM35 g (m + 90) (nw (moM35 g m h) 13 0 67)) b := by
  unfold moH
  generalize moM35 g (m + 90) (nw (moM35 g m h) 13 0 67) = X
  rfl
theorem moH_l {b : Nat} : ln (moH g m h) b = ln (moM35 g (m + 90) (nw (moM35 g m h) 13 0 67)) b := by
  unfold moH
  generalize moM35 g (m + 90) (nw (moM35 g m h) 13 0 67) = X
  rfl
theorem moH_I {b k : Nat} : gI (moH g m h) b k = gI (moM35 g (m + 90) (nw (moM35 g m h) 13 0 67)) b k := by
  unfold moH
  generalize moM35 g (m + 90) (nw (moM35 g m h) 13 0 67) = X
  rfl
theorem moH_L {b k : Nat} : gL (moH g m h) b k = gL (moM35 g (m + 90) (nw (moM35 g m h) 13 0 67)) b k := by
  unfold moH
  generalize moM35 g (m + 90) (nw (moM35 g m h) 13 0 67) = X
  rfl
theorem moH_z : sz (moH g m h) = sz (moM35 g (m + 90) (nw (moM35 g m h) 13 0 67)) := by
  unfold moH
  generalize moM35 g (m + 90) (nw (moM35 g m h) 13 0 67) = X
  rfl
theorem moH_s : sl (moH g m h) = sl (moM35 g (m + 90) (nw (moM35 g m h) 13 0 67)) := by
  unfold moH
  generalize moM35 g (m + 90) (nw (moM35 g m h) 13 0 67) = X
  rfl
theorem moH_lo (o : okm m h) (hz : sz h = m + 1) {b : Nat} (hb : b < m + 90) : kd (moH g m h) b = kd (moM35 g m h) b ∧ ln (moH g m h) b = ln (moM35 g m h) b ∧ (∀ k : Nat, ¬ (b = m ∧ k = 42) → gR (moH g m h) b k = gR (moM35 g m h) b k) ∧ ∀ k : Nat, gI (moH g m h) b k = gI (moM35 g m h) b k ∧ gL (moH g m h) b k = gL (moM35 g m h) b k := by
  obtain ⟨o2, z2, -⟩ := mo_ok2 (g := g) o hz
  have e : sz (moM35 g m h) = m + 90 := by have := (szm35 (g := g) o).1; omega
  have f := feS (g := g) o2
  obtain ⟨f1, f2, f3, f4⟩ := f
  refine ⟨moH_k.trans (((f1 b (by omega)).1).trans ?_), moH_l.trans (((f1 b (by omega)).2).trans ?_), fun k hk => (moH_R hk (by omega)).trans ((f2 b k (by omega) (by omega)).trans ?_), fun k => ⟨moH_I.trans (((f4 b k (by omega) (by omega)).1).trans ?_), moH_L.trans (((f4 b k (by omega) (by omega)).2).trans ?_)⟩⟩
  · rw [y_kd_nw, if_neg (by omega)]
  · rw [y_ln_nw, if_neg (by omega)]
  · rw [y_gR_nw, if_neg (by omega)]
  · rw [y_gI_nw, if_neg (by omega)]
  · rw [y_gL_nw, if_neg (by omega)]
theorem moH_all (o : okm m h) (hz : sz h = m + 1) (hs : ∀ i : Nat, i < 17 → kd h (g (100 + i)) = 41 ∧ g (100 + i) < m) : (oMo (moH g m h) m ∧ oMo (moH g m h) (m + 90) ∧ gR (moH g m h) m 42 = some (m + 90) ∧ (∀ i : Nat, i < 8 → gR (moH g m h) (m + 83) i = some (g (104 + i))) ∧ (∀ i : Nat, i < 3 → gR (moH g m h) (m + 84) i = some (g (100 + i)))) ∧ sz (moH g m h) = m + 180 ∧ sl (moH g m h) = sl h + 16687 ∧ (∀ b : Nat, b < m → kd (moH g m h) b = kd h b ∧ ln (moH g m h) b = ln h b ∧ ∀ k : Nat, gR (moH g m h) b k = gR h b k ∧ gI (moH g m h) b k = gI h b k ∧ gL (moH g m h) b k = gL h b k) ∧ (∀ k : Nat, ¬ k = 27 → gI (moH g m h) m k = gI h m k) ∧ gI (moH g m h) m 27 = nI 1 ∧ (∀ k : Nat, ¬ k = 27 → gI (moH g m h) (m + 90) k = 0) ∧ (∀ j : Nat, gI (moH g m h) (m + 1) j = 0 ∧ gI (moH g m h) (m + 16) j = 0 ∧ gI (moH g m h) (m + 32) j = 0) ∧ (∀ j : Nat, j < 4 → gI (moH g m h) (m + 31) j = -1) ∧ gR (moH g m h) m 33 = gR h m 33 := by
  obtain ⟨o2, z2, w2⟩ := mo_ok2 (g := g) o hz
  have lo := fun (b : Nat) (hb : b < m + 90) => moH_lo (g := g) o hz hb
  have f := feS (g := g) o
  have f2 := feS (g := g) o2
  refine ⟨⟨?_, ?_, a_RR, fun i hi => ?_, fun i hi => ?_⟩, ?_, ?_, fun b hb => ⟨?_, ?_, fun k => ⟨?_, ?_, ?_⟩⟩, fun k hk => ?_, ?_, fun k hk => ?_, fun j => ⟨?_, ?_, ?_⟩, fun j hj => ?_, ?_⟩
  · exact oMo_fr (fun b _ hb => (lo b hb).1) (fun b _ hb => (lo b hb).2.1) (fun b k _ hb hk => (lo b hb).2.2.1 k (by omega)) (mo_made o hz)
  · exact oMo_fr (fun b _ _ => moH_k) (fun b _ _ => moH_l) (fun b k h1 h2 hk => moH_R (by omega) (by omega)) (mo_made o2 z2)
  · exact ((lo _ (by omega)).2.2.1 i (by omega)).trans (((fn49 (g := g) o hz).1.2.2 i).2.2 hi)
  · exact ((lo _ (by omega)).2.2.1 i (by omega)).trans (((fn50 (g := g) o hz).1.2.2 i).2.2 hi)
  · have := (szm35 (g := g) o2).1
    rw [moH_z]
    omega
  · have := (szm35 (g := g) o2).2
    rw [moH_s]
    omega
  · exact ((lo b (by omega)).1).trans (f.1 b (by omega)).1
  · exact ((lo b (by omega)).2.1).trans (f.1 b (by omega)).2
  · exact ((lo b (by omega)).2.2.1 k (by omega)).trans (f.2.1 b k (by omega) (by omega))
  · exact (((lo b (by omega)).2.2.2 k).1).trans (f.2.2.2 b k (by omega) (by omega)).1
  · exact (((lo b (by omega)).2.2.2 k).2).trans (f.2.2.2 b k (by omega) (by omega)).2
  · exact (((lo m (by omega)).2.2.2 k).1).trans (f.2.2.2 m k (by omega) (by omega)).1
  · exact (((lo m (by omega)).2.2.2 27).1).trans (g27m35 o)
  · have e : sz (moM35 g m h) = m + 90 := by have := (szm35 (g := g) o).1; omega
    refine Eq.trans moH_I (Eq.trans (f2.2.2.2 (m + 90) k (by omega) (by omega)).1 ?_)
    rw [y_gI_nw, if_pos e.symm]
  · exact (((lo _ (by omega)).2.2.2 j).1).trans ((fn0 (g := g) o hz).1.2.2 j).2.1
  · exact (((lo _ (by omega)).2.2.2 j).1).trans ((fn8 (g := g) o hz).1.2.2 j).2.1
  · exact (((lo _ (by omega)).2.2.2 j).1).trans ((fn26 (g := g) o hz).1.2.2 j).2.1
  · exact (((lo _ (by omega)).2.2.2 j).1).trans (((fn25 (g := g) o hz).1.2.2 j).2.2 hj)
  · exact ((lo m (by omega)).2.2.1 33 (by omega)).trans (g33m35 o)
end ZML
