/-! a turn of spread: the first of the queue -/
section ZTU
variable {g : Nat → Nat} {h : zMem} {o r t n f : Nat} {ats : Nat → Nat} {tr : List (Nat × Nat)} {q : List Nat} {x : Nat}
theorem b_pop {fn tu : Int32} {v3 v4 v5 v6 : Value} (ho : oSets h o r t) (hr : rS h o n f (ats, tr, x :: q)) (hx : x < 100) : ev g Sets_spread 18 [.ref o, .int fn, .int tu, v3, v4, v5, v6] [] h = ev g Sets_spread 73 [.ref o, .int fn, .int tu, .int (nI x), .int (nI (x / 10)), .int (nI (x % 10)), .int (nI 0)] [] (sI (sI (sI h o 8 (nI ((f + 1) % 45))) o 9 (nI q.length)) (o + 5) x (nI 0)) := by
  obtain ⟨r1, r2, r3, r4, r5, r6, r7, r8, r9, r10, r11⟩ := hr
  obtain ⟨a1, a2, a3, a4, a5, a6, a7, b1, b2, b3, b4, b5, b6, b7, b8, b9, b10, c1, c2, c3, c4, c5⟩ := ho
  dsimp only at r1 r2 r3 r4 r5 r6 r7 r8 r9 r10 r11
  have k1 := r10 0 x rfl
  rw [show (f + 0) % 45 = f by omega] at k1
  have e1 : inb (nI f) 45 = true := y_inb r7 (by decide)
  have e2 : ix (nI f) = f := y_ix (by omega)
  have e3 : iRem (nI (f + 1)) (nI 45) = nI ((f + 1) % 45) := y_rem (by omega) (by decide)
  have e4 : inb (nI x) 100 = true := y_inb hx (by decide)
  have e5 : ix (nI x) = x := y_ix (by omega)
  have e6 : nI x / nI 10 = nI (x / 10) := y_div (by omega) (by decide)
  have e7 : iRem (nI x) (nI 10) = nI (x % 10) := y_rem (by omega) (by decide)
  have e8 : (nI 45 = (0 : Int32)) = False := eq_false (by decide)
  have e9 : (nI 10 = (0 : Int32)) = False := eq_false (by decide)
  have e10 : nI (x :: q).length - nI 1 = nI q.length := y_sub (Nat.le_add_left 1 q.length)
  have e11 : (nI 0 &&& 1) = nI 0 := by decide
  have e12 : ((23 : Nat) = 22) = False := eq_false (by decide)
  have d1 : ((9 : Nat) = 8) = False := eq_false (by decide)
  simp only [s_Sets_spread_0, s_Sets_spread_1, s_Sets_spread_2, s_Sets_spread_3, s_Sets_spread_5, s_Sets_spread_8, s_Sets_spread_11, s_Sets_spread_12, s_Sets_spread_15, s_Sets_spread_18, s_Sets_spread_19, s_Sets_spread_22, s_Sets_spread_23, s_Sets_spread_26, s_Sets_spread_27, s_Sets_spread_28, s_Sets_spread_29, s_Sets_spread_30, s_Sets_spread_33, s_Sets_spread_34, s_Sets_spread_35, s_Sets_spread_37, s_Sets_spread_38, s_Sets_spread_41, s_Sets_spread_42, s_Sets_spread_43, s_Sets_spread_46, s_Sets_spread_47, s_Sets_spread_48, s_Sets_spread_51, s_Sets_spread_52, s_Sets_spread_55, s_Sets_spread_56, s_Sets_spread_57, s_Sets_spread_58, s_Sets_spread_59, s_Sets_spread_61, s_Sets_spread_62, s_Sets_spread_64, s_Sets_spread_65, s_Sets_spread_67, s_Sets_spread_68, s_Sets_spread_70, s_Sets_spread_71, s_Sets_spread_75, s_Sets_spread_76, s_Sets_spread_79, s_Sets_spread_82, s_Sets_spread_83, s_Sets_spread_86, s_Sets_spread_88, s_Sets_spread_90, s_Sets_spread_93, s_Sets_spread_95, s_Sets_spread_97, s_Sets_spread_100, s_Sets_spread_101, s_Sets_spread_103, s_Sets_spread_105, s_Sets_spread_106, s_Sets_spread_108, s_Sets_spread_109, s_Sets_spread_110, s_Sets_spread_113, s_Sets_spread_114, s_Sets_spread_117, s_Sets_spread_118, s_Sets_spread_119, s_Sets_spread_120, s_Sets_spread_123, s_Sets_spread_125, s_Sets_spread_127, s_Sets_spread_128, s_Sets_spread_130, s_Sets_spread_131, s_Sets_spread_132, s_Sets_spread_135, s_Sets_spread_138, s_Sets_spread_141, s_Sets_spread_142, s_Sets_spread_144, s_Sets_spread_146, s_Sets_spread_147, s_Sets_spread_149, s_Sets_spread_150, s_Sets_spread_151, s_Sets_spread_154, s_Sets_spread_155, s_Sets_spread_158, s_Sets_spread_160, s_Sets_spread_162, s_Sets_spread_163, s_Sets_spread_165, s_Sets_spread_166, s_Sets_spread_167, s_Sets_spread_168, s_Sets_spread_171, s_Sets_spread_172, s_Sets_spread_173, s_Sets_spread_176, s_Sets_spread_179, s_Sets_spread_182, s_Sets_spread_183, s_Sets_spread_186, s_Sets_spread_187, s_Sets_spread_188, s_Sets_spread_191, s_Sets_spread_194, s_Sets_spread_197, s_Sets_spread_200, s_Sets_spread_201, y_kd_sI, y_kd_sL, y_kd_sR, y_kd_cpI, y_kd_cpL, y_ln_sI, y_ln_sL, y_ln_sR, y_ln_cpI, y_ln_cpL, y_sz_sI, y_sz_sL, y_sz_sR, y_sz_cpI, y_sz_cpL, y_sl_sI, y_sl_sL, y_sl_sR, y_sl_cpI, y_sl_cpL, y_gI_sI, y_gI_sL, y_gI_sR, y_gI_cpI, y_gI_cpL, y_gI_nw, y_gL_sI, y_gL_sL, y_gL_sR, y_gL_cpI, y_gL_cpL, y_gL_nw, y_gR_sI, y_gR_sL, y_gR_sR, y_gR_cpI, y_gR_cpL, y_gR_nw, y_kd_nw, y_ln_nw, y_sz_nw, y_sl_nw, y_fx_int, y_fx_long, y_fx_ref, y_fx_null, y_fx_U, y_rf_s, y_rf_n, a1, a2, a6, a7, b7, b8, b9, b10, r6, r8, k1, e1, e2, e3, e4, e5, e6, e7, e8, e9, e10, e11, e12, d1, nI_add, and_false, false_and, true_or, or_true, and_self, ↓reduceIte]
end ZTU
