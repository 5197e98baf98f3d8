/-! the constructor of the class, all of it -/
def dcE (g : Nat → Nat) (h : zMem) (B : Nat) : Prop := oDC h B ∧ oLand h (B + 23) ∧ oSearch h (B + 23 + 43) (B + 20) (B + 21) ∧ oLand h (B + 77) ∧ oSearch h (B + 77 + 43) (B + 20) (B + 21) ∧ oSearch h (B + 132) (B + 20) (B + 21) ∧ (∀ v : Nat, v < 256 → gI h (B + 21) v = nI (tur v)) ∧ (∀ i : Nat, i < 1024 → gI h (B + 22) i = nI (hvT i)) ∧ (∀ j : Nat, j < 8 → shE h (B + 2 + 2 * j)) ∧ gI h (B + 18) 0 = nI 0 ∧ (∀ i : Nat, gI h (B + 131) i = 0) ∧ gI h B 4 = nI 0 ∧ laE h (B + 23) ∧ qE h (B + 23 + 44) ∧ qE h (B + 77 + 44)
def dcA (h h4 : zMem) (B : Nat) : Prop := okk 12 B h4 ∧ kp h h4 B B ∧ sz h4 = B + 23 ∧ sl h4 = sl h + 1920 ∧ (gR h4 B 0 = some (B + 1) ∧ gR h4 B 1 = some (B + 18) ∧ gR h4 B 6 = some (B + 20) ∧ kd h4 (B + 1) = 24 ∧ ln h4 (B + 1) = 8) ∧ (∀ j : Nat, j < 8 → gR h4 (B + 1) j = some (B + 2 + 2 * j) ∧ shE h4 (B + 2 + 2 * j)) ∧ (kd h4 (B + 18) = 10 ∧ gR h4 (B + 18) 1 = some (B + 19) ∧ kd h4 (B + 19) = 22 ∧ ln h4 (B + 19) = 80 ∧ gI h4 (B + 18) 0 = nI 0) ∧ (kd h4 (B + 20) = 11 ∧ gR h4 (B + 20) 0 = some (B + 21) ∧ gR h4 (B + 20) 1 = some (B + 22) ∧ kd h4 (B + 21) = 20 ∧ ln h4 (B + 21) = 256 ∧ kd h4 (B + 22) = 20 ∧ ln h4 (B + 22) = 1024) ∧ (∀ v : Nat, v < 256 → gI h4 (B + 21) v = nI (tur v)) ∧ ∀ i : Nat, i < 1024 → gI h4 (B + 22) i = nI (hvT i)
def dcB (h4 h7 : zMem) (B : Nat) : Prop := okk 12 B h7 ∧ kp h4 h7 (B + 23) B ∧ sz h7 = B + 131 ∧ sl h7 = sl h4 + 3354 ∧ (∀ k : Nat, ¬ k = 2 → ¬ k = 3 → gR h7 B k = gR h4 B k) ∧ gR h7 B 2 = some (B + 23) ∧ gR h7 B 3 = some (B + 77) ∧ gI h7 B 4 = nI 0 ∧ oLand h7 (B + 23) ∧ oSearch h7 (B + 23 + 43) (B + 20) (B + 21) ∧ oLand h7 (B + 77) ∧ oSearch h7 (B + 77 + 43) (B + 20) (B + 21) ∧ laE h7 (B + 23) ∧ qE h7 (B + 23 + 44) ∧ qE h7 (B + 77 + 44)
section ZCE
variable {g : Nat → Nat} {B m a r t : Nat} {h h' h'' : zMem}
theorem k_DCa (hk : kd h B = 12) (hz : sz h = B + 1) (c : cT g h 0) (h0 : g 0 < B) : ∃ h4 : zMem, call g DC_init [.ref B] h = ev g DC_init 62 [.ref B, .int (nI 8)] [] h4 ∧ dcA h h4 B := by
  have o : okk 12 B h := ⟨hk, by omega⟩
  have s0 : call g DC_init [.ref B] h = ev g DC_init 4 [.ref B, zU] [] h := by
    rw [n_DC_init]
    simp (disch := omega) only [s_DC_init_0, s_DC_init_1, s_DC_init_5, s_DC_init_7, s_DC_init_10, s_DC_init_10n, s_DC_init_13, s_DC_init_14, s_DC_init_15, s_DC_init_16, s_DC_init_18, s_DC_init_21, s_DC_init_22, s_DC_init_25, s_DC_init_26, s_DC_init_29, s_DC_init_30, s_DC_init_33, s_DC_init_34, s_DC_init_37, s_DC_init_40, s_DC_init_41, s_DC_init_44, s_DC_init_45, s_DC_init_48, s_DC_init_48n, s_DC_init_51, s_DC_init_52, s_DC_init_55, s_DC_init_56, s_DC_init_59, s_DC_init_59n, s_DC_init_62, s_DC_init_63, s_DC_init_66, s_DC_init_67, s_DC_init_68, s_DC_init_71, s_DC_init_74, s_DC_init_74n, s_DC_init_77, s_DC_init_78, s_DC_init_81, s_DC_init_82, s_DC_init_83, s_DC_init_86, s_DC_init_89, s_DC_init_89n, s_DC_init_92, s_DC_init_93, s_DC_init_94, s_DC_init_97, s_DC_init_98, s_DC_init_99, s_DC_init_101, s_DC_init_101n, s_DC_init_104, s_DC_init_105, s_DC_init_108, s_DC_init_109, s_DC_init_110, s_DC_init_113, s_DC_init_116, s_DC_init_116n, s_DC_init_119, s_DC_init_120, s_DC_init_123, s_DC_init_124, s_DC_init_127, s_DC_init_127n, s_DC_init_130, s_DC_init_131, s_DC_init_133, s_DC_init_135, s_DC_init_135n, s_DC_init_138, y_kd_sI, y_kd_sL, y_kd_sR, y_kd_cpI, y_kd_cpL, y_ln_sI, y_ln_sL, y_ln_sR, y_ln_cpI, y_ln_cpL, y_sz_sI, y_sz_sL, y_sz_sR, y_sz_cpI, y_sz_cpL, y_sl_sI, y_sl_sL, y_sl_sR, y_sl_cpI, y_sl_cpL, y_gI_sL, y_gI_sR, y_gI_cpI, y_gI_cpL, y_gI_nw, y_gL_sI, y_gL_sR, y_gL_cpI, y_gL_cpL, y_gL_nw, y_gR_sI, y_gR_sL, y_gR_cpI, y_gR_cpL, y_gR_nw, y_kd_nw, y_ln_nw, y_sz_nw, y_sl_nw, y_fx_int, y_fx_long, y_fx_ref, y_fx_null, y_fx_U, y_rf_s, y_rf_n, a_inb, a_ix, a_lt, a_eq, a_eq0, a_lt0, a_0lt, a_m1, a_m2, a_mlt, a_sub, a_dec, a_div, a_rem, a_shl, a_shr, a_bit, a_bit0, a_II, a_Ia, a_Ik, a_LL, a_La, a_Lk, a_RR, a_Ra, a_Rk, a_if0, a_if1, y_mul, y_and, y_or, nI_add, y_b1, y_b0, kon_v, kon_0, true_or, or_true, and_self, true_and, and_true, false_or, or_false, and_false, false_and, not_true_eq_false, not_false_eq_true, ite_self, ↓reduceIte, Nat.reduceEqDiff, Nat.reduceLeDiff, Nat.reduceAdd, Nat.reduceMul, Nat.reduceSub, Nat.reduceLT, Nat.reduceShiftLeft, Nat.reduceOr, Nat.reduceAnd, Bool.false_eq_true, b_if, b_z1, b_z0, b_zz, b_a1, b_a0, b_lc, b_zF, b_zT, b_lbit]
  rw [s0, iDC_init_0 o]
  clear s0
  obtain ⟨p1, x1, z1, w1, n1, f1⟩ := al_st (m := B) (h := h) (e := (0, 24, 8)) (c := 1) (d := 2) hz (by decide) rfl
  have o1 := o.S (e := (0, 24, 8))
  generalize alS B h (0, 24, 8) = h1 at *
  have s1 : ev g DC_init 13 [.ref B, zU] [] h1 = ev g DC_init 15 [.ref B, .int (nI 0)] [] h1 := by
    simp (disch := omega) only [s_DC_init_0, s_DC_init_1, s_DC_init_4, s_DC_init_5, s_DC_init_7, s_DC_init_10, s_DC_init_10n, s_DC_init_13, s_DC_init_14, s_DC_init_16, s_DC_init_18, s_DC_init_21, s_DC_init_22, s_DC_init_25, s_DC_init_26, s_DC_init_29, s_DC_init_30, s_DC_init_33, s_DC_init_34, s_DC_init_37, s_DC_init_40, s_DC_init_41, s_DC_init_44, s_DC_init_45, s_DC_init_48, s_DC_init_48n, s_DC_init_51, s_DC_init_52, s_DC_init_55, s_DC_init_56, s_DC_init_59, s_DC_init_59n, s_DC_init_62, s_DC_init_63, s_DC_init_66, s_DC_init_67, s_DC_init_68, s_DC_init_71, s_DC_init_74, s_DC_init_74n, s_DC_init_77, s_DC_init_78, s_DC_init_81, s_DC_init_82, s_DC_init_83, s_DC_init_86, s_DC_init_89, s_DC_init_89n, s_DC_init_92, s_DC_init_93, s_DC_init_94, s_DC_init_97, s_DC_init_98, s_DC_init_99, s_DC_init_101, s_DC_init_101n, s_DC_init_104, s_DC_init_105, s_DC_init_108, s_DC_init_109, s_DC_init_110, s_DC_init_113, s_DC_init_116, s_DC_init_116n, s_DC_init_119, s_DC_init_120, s_DC_init_123, s_DC_init_124, s_DC_init_127, s_DC_init_127n, s_DC_init_130, s_DC_init_131, s_DC_init_133, s_DC_init_135, s_DC_init_135n, s_DC_init_138, y_kd_sI, y_kd_sL, y_kd_sR, y_kd_cpI, y_kd_cpL, y_ln_sI, y_ln_sL, y_ln_sR, y_ln_cpI, y_ln_cpL, y_sz_sI, y_sz_sL, y_sz_sR, y_sz_cpI, y_sz_cpL, y_sl_sI, y_sl_sL, y_sl_sR, y_sl_cpI, y_sl_cpL, y_gI_sL, y_gI_sR, y_gI_cpI, y_gI_cpL, y_gI_nw, y_gL_sI, y_gL_sR, y_gL_cpI, y_gL_cpL, y_gL_nw, y_gR_sI, y_gR_sL, y_gR_cpI, y_gR_cpL, y_gR_nw, y_kd_nw, y_ln_nw, y_sz_nw, y_sl_nw, y_fx_int, y_fx_long, y_fx_ref, y_fx_null, y_fx_U, y_rf_s, y_rf_n, a_inb, a_ix, a_lt, a_eq, a_eq0, a_lt0, a_0lt, a_m1, a_m2, a_mlt, a_sub, a_dec, a_div, a_rem, a_shl, a_shr, a_bit, a_bit0, a_II, a_Ia, a_Ik, a_LL, a_La, a_Lk, a_RR, a_Ra, a_Rk, a_if0, a_if1, y_mul, y_and, y_or, nI_add, y_b1, y_b0, kon_v, kon_0, true_or, or_true, and_self, true_and, and_true, false_or, or_false, and_false, false_and, not_true_eq_false, not_false_eq_true, ite_self, ↓reduceIte, Nat.reduceEqDiff, Nat.reduceLeDiff, Nat.reduceAdd, Nat.reduceMul, Nat.reduceSub, Nat.reduceLT, Nat.reduceShiftLeft, Nat.reduceOr, Nat.reduceAnd, Bool.false_eq_true, b_if, b_z1, b_z0, b_zz, b_a1, b_a0, b_lc, b_zF, b_zT, b_lbit]
  obtain ⟨h2, q2, ⟨p2, z2, w2, n2⟩⟩ := dc_shelves (g := g) o1 f1 n1.1 n1.2.1 z1
  rw [s1, q2]
  clear s1 q2
  have o2 : okk 12 B h2 := ⟨((p2.1 B (by omega)).1).trans o1.1, by omega⟩
  have z2 : sz h2 = B + 18 := by omega
  have G2 : kp h h2 B B := (p1.wd (by omega) (Or.inl rfl)).tr (p2.wd (by omega) (Or.inr (by omega)))
  -- the tape
  obtain ⟨a1, a2, a3, a4, a5⟩ := nw_st (h := h2) (m := B) (K := 10) (w := 6) (c := 18) (d := 19) z2 rfl
  obtain ⟨e3, q, b1_3, b2_3, s3, c3_1, c3_2, c3_3, c3_4⟩ := k_Tape (g := g) a1 a2
  obtain ⟨p3, x3⟩ := sb_st (s := 1) (v := some (sz h2)) a5 b1_3 (by decide)
  rw [← z2] at q
  have o3 : okk 12 B (sR e3 B 1 (some (sz h2))) := ⟨((p3.1 B (by omega)).1).trans o2.1, by show B < sz e3; omega⟩
  rw [jDC_init_1 o2 q o3.1]
  clear q
  have f3 : gR (sR e3 B 1 (some (sz h2))) B 1 = some (B + 18) := by rw [a_RR, z2]
  have t3 : kp e3 (sR e3 B 1 (some (sz h2))) (B + 20) B := kp_R
  have z3 : sz (sR e3 B 1 (some (sz h2))) = B + 20 := b2_3
  have w3 : sl (sR e3 B 1 (some (sz h2))) = sl e3 := rfl
  have G3 : kp h (sR e3 B 1 (some (sz h2))) B B := G2.tr (p3.wd (by omega) (Or.inl rfl))
  generalize sR e3 B 1 (some (sz h2)) = h3 at *
  have y3 : ∀ k : Nat, ¬ k = 1 → gR h3 B k = gR h2 B k := fun k hk => (x3 k hk).1
  clear a1 a2 a4 a5
  have s3 : sl h3 = sl h2 + 86 := by omega
  clear a3
  -- the rules
  obtain ⟨a1, a2, a3, a4, a5⟩ := nw_st (h := h3) (m := B) (K := 11) (w := 2) (c := 20) (d := 21) z3 rfl
  have ct : cT g (nw h3 11 0 2) 0 := by
    have e := G3.tr ((a5.wd (by omega) (Or.inr (by omega))) : kp h3 (nw h3 11 0 2) B B)
    exact ⟨((e.1 _ h0).1).trans c.1, ((e.1 _ h0).2).trans c.2.1, fun k hk => ((e.2 _ k h0 (by omega)).2.1).trans (c.2.2 k hk)⟩
  obtain ⟨e4, q, b1_4, b2_4, s4, c4_1, c4_2, c4_3, c4_4, c4_5⟩ := k_Ways (g := g) a1 a2 ct (by omega)
  obtain ⟨p4, x4⟩ := sb_st (s := 6) (v := some (sz h3)) a5 b1_4 (by decide)
  rw [← z3] at q
  have o4 : okk 12 B (sR e4 B 6 (some (sz h3))) := ⟨((p4.1 B (by omega)).1).trans o3.1, by show B < sz e4; omega⟩
  rw [jDC_init_6 o3 q o4.1]
  clear q
  have f4 : gR (sR e4 B 6 (some (sz h3))) B 6 = some (B + 20) := by rw [a_RR, z3]
  have t4 : kp e4 (sR e4 B 6 (some (sz h3))) (B + 23) B := kp_R
  have z4 : sz (sR e4 B 6 (some (sz h3))) = B + 23 := b2_4
  have w4 : sl (sR e4 B 6 (some (sz h3))) = sl e4 := rfl
  have G4 : kp h (sR e4 B 6 (some (sz h3))) B B := G3.tr (p4.wd (by omega) (Or.inl rfl))
  generalize sR e4 B 6 (some (sz h3)) = h4 at *
  have y4 : ∀ k : Nat, ¬ k = 6 → gR h4 B k = gR h3 B k := fun k hk => (x4 k hk).1
  clear a1 a2 a4 a5
  have s4 : sl h4 = sl h3 + 1282 := by omega
  clear a3 ct
  have r4 : rul h4 (B + 20) (B + 21) := ⟨((t4.1 _ (by omega)).1).trans c4_1, ((t4.2 _ _ (by omega) (by omega)).1).trans c4_2.1, ((t4.1 _ (by omega)).1).trans c4_3.1, ((t4.1 _ (by omega)).2).trans c4_3.2.1⟩
  have S4 : kp e4 h4 (B + 23) B := t4
  have T3 : kp h3 h4 (B + 20) B := p4
  have S3 : kp e3 h4 (B + 20) B := t3.tr T3
  have T2 : kp h2 h4 (B + 18) B := p3.tr (T3.wd (by omega) (Or.inl rfl))
  have y2 : ∀ k : Nat, gR h2 B k = gR h1 B k := fun k => (p2.2 B k (by omega) (by omega)).1
  have k1 : kd h4 (B + 1) = 24 := ((T2.1 _ (by omega)).1).trans (((p2.1 _ (by omega)).1).trans n1.1)
  have l1 : ln h4 (B + 1) = 8 := ((T2.1 _ (by omega)).2).trans (((p2.1 _ (by omega)).2).trans n1.2.1)
  have g0 : gR h4 B 0 = some (B + 1) := by simp (disch := decide) only [y4, y3, y2, f1]
  have g1 : gR h4 B 1 = some (B + 18) := by simp (disch := decide) only [y4, f3]
  refine ⟨h4, rfl, o4, G4, z4, ?_, ⟨g0, g1, f4, k1, l1⟩, fun j hj => ⟨?_, ((n2 j hj).2).fr T2 (by omega) (by omega)⟩, ⟨((S3.1 _ (by omega)).1).trans c3_1, ((S3.2 _ _ (by omega) (by omega)).1).trans c3_2, ((S3.1 _ (by omega)).1).trans c3_3.1, ((S3.1 _ (by omega)).2).trans c3_3.2, ((S3.2 _ _ (by omega) (by omega)).2.1).trans c3_4⟩, ⟨((S4.1 _ (by omega)).1).trans c4_1, ((S4.2 _ _ (by omega) (by omega)).1).trans c4_2.1, ((S4.2 _ _ (by omega) (by omega)).1).trans c4_2.2, ((S4.1 _ (by omega)).1).trans c4_3.1, ((S4.1 _ (by omega)).2).trans c4_3.2.1, ((S4.1 _ (by omega)).1).trans c4_3.2.2.1, ((S4.1 _ (by omega)).2).trans c4_3.2.2.2⟩, fun v hv => ((S4.2 _ _ (by omega) (by omega)).2.1).trans (c4_4 v hv), fun i hi => ((S4.2 _ _ (by omega) (by omega)).2.1).trans (c4_5 i hi)⟩
  · have w1 : sl h1 = sl h + 8 := w1
    omega
  · exact ((T2.2 _ _ (by omega) (by omega)).1).trans (n2 j hj).1
theorem k_DCb {h4 : zMem} (o4 : okk 12 B h4) (z4 : sz h4 = B + 23) (r4 : rul h4 (B + 20) (B + 21)) (f4 : gR h4 B 6 = some (B + 20)) : ∃ h7 : zMem, ev g DC_init 62 [.ref B, .int (nI 8)] [] h4 = ev g DC_init 97 [.ref B, .int (nI 8)] [] h7 ∧ dcB h4 h7 B := by
  -- the land
  obtain ⟨a1, a2, a3, a4, a5⟩ := nw_st (h := h4) (m := B) (K := 4) (w := 10) (c := 23) (d := 24) z4 rfl
  obtain ⟨e5, q, b1_5, b2_5, s5, c5_1, c5_2, c5_3, c5_4⟩ := k_Land (g := g) (r := B + 20) (t := B + 21) a1 a2 (r4.fr a5 (by omega) (by omega) (by omega)) (by omega) (by omega)
  obtain ⟨p5, x5⟩ := sb_st (s := 2) (v := some (sz h4)) a5 b1_5 (by decide)
  rw [← z4] at q
  have o5 : okk 12 B (sR e5 B 2 (some (sz h4))) := ⟨((p5.1 B (by omega)).1).trans o4.1, by show B < sz e5; omega⟩
  rw [jDC_init_2 o4 f4 q o5.1]
  clear q
  have f5 : gR (sR e5 B 2 (some (sz h4))) B 2 = some (B + 23) := by rw [a_RR, z4]
  have t5 : kp e5 (sR e5 B 2 (some (sz h4))) (B + 77) B := kp_R
  have z5 : sz (sR e5 B 2 (some (sz h4))) = B + 77 := b2_5
  have w5 : sl (sR e5 B 2 (some (sz h4))) = sl e5 := rfl
  generalize sR e5 B 2 (some (sz h4)) = h5 at *
  have y5 : ∀ k : Nat, ¬ k = 2 → gR h5 B k = gR h4 B k := fun k hk => (x5 k hk).1
  clear a1 a2 a4 a5
  have s5 : sl h5 = sl h4 + 1677 := by omega
  clear a3
  have r5 := r4.fr p5 (by omega) (by omega) (by omega)
  have g5 : gR h5 B 6 = some (B + 20) := (y5 6 (by decide)).trans f4
  -- the kept land
  obtain ⟨a1, a2, a3, a4, a5⟩ := nw_st (h := h5) (m := B) (K := 4) (w := 10) (c := 77) (d := 78) z5 rfl
  obtain ⟨e6, q, b1_6, b2_6, s6, c6_1, c6_2, c6_3, -⟩ := k_Land (g := g) (r := B + 20) (t := B + 21) a1 a2 (r5.fr a5 (by omega) (by omega) (by omega)) (by omega) (by omega)
  obtain ⟨p6, x6⟩ := sb_st (s := 3) (v := some (sz h5)) a5 b1_6 (by decide)
  rw [← z5] at q
  have o6 : okk 12 B (sR e6 B 3 (some (sz h5))) := ⟨((p6.1 B (by omega)).1).trans o5.1, by show B < sz e6; omega⟩
  rw [jDC_init_3 o5 g5 q o6.1]
  clear q
  have f6 : gR (sR e6 B 3 (some (sz h5))) B 3 = some (B + 77) := by rw [a_RR, z5]
  have t6 : kp e6 (sR e6 B 3 (some (sz h5))) (B + 131) B := kp_R
  have z6 : sz (sR e6 B 3 (some (sz h5))) = B + 131 := b2_6
  have w6 : sl (sR e6 B 3 (some (sz h5))) = sl e6 := rfl
  generalize sR e6 B 3 (some (sz h5)) = h6 at *
  have y6 : ∀ k : Nat, ¬ k = 3 → gR h6 B k = gR h5 B k := fun k hk => (x6 k hk).1
  clear a1 a2 a4 a5
  have s6 : sl h6 = sl h5 + 1677 := by omega
  clear a3
  have r6 := r5.fr p6 (by omega) (by omega) (by omega)
  have s7 : ev g DC_init 92 [.ref B, .int (nI 8)] [] h6 = ev g DC_init 97 [.ref B, .int (nI 8)] [] (sI h6 B 4 (nI 0)) := by
    have k6 := o6.1
    simp (disch := omega) only [s_DC_init_0, s_DC_init_1, s_DC_init_4, s_DC_init_5, s_DC_init_7, s_DC_init_10, s_DC_init_10n, s_DC_init_13, s_DC_init_14, s_DC_init_15, s_DC_init_16, s_DC_init_18, s_DC_init_21, s_DC_init_22, s_DC_init_25, s_DC_init_26, s_DC_init_29, s_DC_init_30, s_DC_init_33, s_DC_init_34, s_DC_init_37, s_DC_init_40, s_DC_init_41, s_DC_init_44, s_DC_init_45, s_DC_init_48, s_DC_init_48n, s_DC_init_51, s_DC_init_52, s_DC_init_55, s_DC_init_56, s_DC_init_59, s_DC_init_59n, s_DC_init_62, s_DC_init_63, s_DC_init_66, s_DC_init_67, s_DC_init_68, s_DC_init_71, s_DC_init_74, s_DC_init_74n, s_DC_init_77, s_DC_init_78, s_DC_init_81, s_DC_init_82, s_DC_init_83, s_DC_init_86, s_DC_init_89, s_DC_init_89n, s_DC_init_92, s_DC_init_93, s_DC_init_94, s_DC_init_98, s_DC_init_99, s_DC_init_101, s_DC_init_101n, s_DC_init_104, s_DC_init_105, s_DC_init_108, s_DC_init_109, s_DC_init_110, s_DC_init_113, s_DC_init_116, s_DC_init_116n, s_DC_init_119, s_DC_init_120, s_DC_init_123, s_DC_init_124, s_DC_init_127, s_DC_init_127n, s_DC_init_130, s_DC_init_131, s_DC_init_133, s_DC_init_135, s_DC_init_135n, s_DC_init_138, y_kd_sI, y_kd_sL, y_kd_sR, y_kd_cpI, y_kd_cpL, y_ln_sI, y_ln_sL, y_ln_sR, y_ln_cpI, y_ln_cpL, y_sz_sI, y_sz_sL, y_sz_sR, y_sz_cpI, y_sz_cpL, y_sl_sI, y_sl_sL, y_sl_sR, y_sl_cpI, y_sl_cpL, y_gI_sL, y_gI_sR, y_gI_cpI, y_gI_cpL, y_gI_nw, y_gL_sI, y_gL_sR, y_gL_cpI, y_gL_cpL, y_gL_nw, y_gR_sI, y_gR_sL, y_gR_cpI, y_gR_cpL, y_gR_nw, y_kd_nw, y_ln_nw, y_sz_nw, y_sl_nw, y_fx_int, y_fx_long, y_fx_ref, y_fx_null, y_fx_U, y_rf_s, y_rf_n, a_inb, a_ix, a_lt, a_eq, a_eq0, a_lt0, a_0lt, a_m1, a_m2, a_mlt, a_sub, a_dec, a_div, a_rem, a_shl, a_shr, a_bit, a_bit0, a_II, a_Ia, a_Ik, a_LL, a_La, a_Lk, a_RR, a_Ra, a_Rk, a_if0, a_if1, y_mul, y_and, y_or, nI_add, y_b1, y_b0, kon_v, kon_0, true_or, or_true, and_self, true_and, and_true, false_or, or_false, and_false, false_and, not_true_eq_false, not_false_eq_true, ite_self, ↓reduceIte, Nat.reduceEqDiff, Nat.reduceLeDiff, Nat.reduceAdd, Nat.reduceMul, Nat.reduceSub, Nat.reduceLT, Nat.reduceShiftLeft, Nat.reduceOr, Nat.reduceAnd, Bool.false_eq_true, b_if, b_z1, b_z0, b_zz, b_a1, b_a0, b_lc, b_zF, b_zT, b_lbit, k6]
  rw [s7]
  clear s7
  have p7 : kp h6 (sI h6 B 4 (nI 0)) (B + 131) B := kp_I
  have z7 : sz (sI h6 B 4 (nI 0)) = B + 131 := z6
  have w7 : sl (sI h6 B 4 (nI 0)) = sl h6 := rfl
  have o7 : okk 12 B (sI h6 B 4 (nI 0)) := o6
  have i7 : gI (sI h6 B 4 (nI 0)) B 4 = nI 0 := a_II
  have y7 : ∀ k : Nat, gR (sI h6 B 4 (nI 0)) B k = gR h6 B k := fun k => rfl
  generalize sI h6 B 4 (nI 0) = h7 at *
  have T6 : kp h6 h7 (B + 131) B := p7
  have S6 : kp e6 h7 (B + 131) B := t6.tr T6
  have T5 : kp h5 h7 (B + 77) B := p6.tr (T6.wd (by omega) (Or.inl rfl))
  have S5 : kp e5 h7 (B + 77) B := t5.tr T5
  refine ⟨h7, rfl, o7, p5.tr (T5.wd (by omega) (Or.inl rfl)), z7, by omega, fun k k2 k3 => by rw [y7, y6 k k3, y5 k k2], ?_, (y7 3).trans f6, i7, la_fr S5 (by omega) (by omega) c5_1, sr_fr S5 (by omega) (by omega) (by omega) (by omega) (by omega) c5_2, la_fr S6 (by omega) (by omega) c6_1, sr_fr S6 (by omega) (by omega) (by omega) (by omega) (by omega) c6_2, c5_4.fr S5 (by omega) (by omega), c5_3.fr S5 (by omega) (by omega), c6_3.fr S6 (by omega) (by omega)⟩
  rw [y7, y6 2 (by decide)]
  exact f5
theorem k_DC (hk : kd h B = 12) (hz : sz h = B + 1) (c : cT g h 0) (h0 : g 0 < B) : ∃ h' : zMem, call g DC_init [.ref B] h = some (none, h') ∧ kp h h' B B ∧ sz h' = B + 145 ∧ sl h' = sl h + 6672 ∧ dcE g h' B := by
  obtain ⟨h4, q4, o4, G4, z4, w4, ⟨f1, f3, f4, a1, a2⟩, n2, ⟨c3_1, c3_2, c3_3, c3_4, c3_5⟩, ⟨c4_1, c4_2, c4_3, c4_4, c4_5, c4_6, c4_7⟩, A8, A9⟩ := k_DCa (g := g) hk hz c h0
  have r4 : rul h4 (B + 20) (B + 21) := ⟨c4_1, c4_2, c4_4, c4_5⟩
  obtain ⟨h7, q7, o7, B2, z7, w7, y7, f5, f6, i7, B7, B8, B9, B10, B11, B12, B13⟩ := k_DCb (g := g) o4 z4 r4 f4
  have r7 := r4.fr B2 (by omega) (by omega) (by omega)
  rw [q4, q7]
  clear q4 q7 hk c
  rw [iDC_init_5 o7]
  obtain ⟨p8, x8, z8, w8, n8, f8⟩ := al_st (m := B) (h := h7) (e := (5, 20, 5)) (c := 131) (d := 132) z7 (by decide) rfl
  have o8 := o7.S (e := (5, 20, 5))
  generalize alS B h7 (5, 20, 5) = h8 at *
  have y8 : ∀ k : Nat, ¬ k = 5 → gR h8 B k = gR h7 B k := fun k hk => (x8 k hk).1
  have r8 := r7.fr p8 (by omega) (by omega) (by omega)
  have g8 : gR h8 B 6 = some (B + 20) := by simp (disch := decide) only [y8, y7, f4]
  -- the probe
  obtain ⟨b1, b2, a3, b4, a5⟩ := nw_st (h := h8) (m := B) (K := 7) (w := 9) (c := 132) (d := 133) z8 rfl
  obtain ⟨e9, q, b1_9, b2_9, s9, c9_1, -, -, -⟩ := k_Search (g := g) (r := B + 20) (t := B + 21) b1 b2 (r8.fr a5 (by omega) (by omega) (by omega)) (by omega) (by omega)
  obtain ⟨p9, x9⟩ := sb_st (s := 7) (v := some (sz h8)) a5 b1_9 (by decide)
  rw [← z8] at q
  have o9 : okk 12 B (sR e9 B 7 (some (sz h8))) := ⟨((p9.1 B (by omega)).1).trans o8.1, by show B < sz e9; omega⟩
  rw [jDC_init_7 o8 g8 q o9.1]
  clear q
  have f9 : gR (sR e9 B 7 (some (sz h8))) B 7 = some (B + 132) := by rw [a_RR, z8]
  have t9 : kp e9 (sR e9 B 7 (some (sz h8))) (B + 141) B := kp_R
  have z9 : sz (sR e9 B 7 (some (sz h8))) = B + 141 := b2_9
  have w9 : sl (sR e9 B 7 (some (sz h8))) = sl e9 := rfl
  generalize sR e9 B 7 (some (sz h8)) = h9 at *
  have y9 : ∀ k : Nat, ¬ k = 7 → gR h9 B k = gR h8 B k := fun k hk => (x9 k hk).1
  clear b1 b2 b4 a5
  have s9 : sl h9 = sl h8 + 1074 := by omega
  clear a3
  -- the quarrels
  obtain ⟨b1, b2, a3, b4, a5⟩ := nw_st (h := h9) (m := B) (K := 6) (w := 7) (c := 141) (d := 142) z9 rfl
  obtain ⟨e10, q, b1_10, b2_10, s10, c10_1, c10_2, c10_3, -⟩ := k_Quarrels (g := g) b1 b2
  obtain ⟨p10, x10⟩ := sb_st (s := 8) (v := some (sz h9)) a5 b1_10 (by decide)
  rw [← z9] at q
  have o10 : okk 12 B (sR e10 B 8 (some (sz h9))) := ⟨((p10.1 B (by omega)).1).trans o9.1, by show B < sz e10; omega⟩
  rw [jDC_init_8 o9 q o10.1]
  clear q
  have f10 : gR (sR e10 B 8 (some (sz h9))) B 8 = some (B + 141) := by rw [a_RR, z9]
  have t10 : kp e10 (sR e10 B 8 (some (sz h9))) (B + 144) B := kp_R
  have z10 : sz (sR e10 B 8 (some (sz h9))) = B + 144 := b2_10
  have w10 : sl (sR e10 B 8 (some (sz h9))) = sl e10 := rfl
  generalize sR e10 B 8 (some (sz h9)) = h10 at *
  have y10 : ∀ k : Nat, ¬ k = 8 → gR h10 B k = gR h9 B k := fun k hk => (x10 k hk).1
  clear b1 b2 b4 a5
  have s10 : sl h10 = sl h9 + 271 := by omega
  clear a3
  rw [iDC_init_9 o10, s_DC_init_138]
  obtain ⟨p11, x11, z11, w11, n11, f11⟩ := al_st (m := B) (h := h10) (e := (9, 20, 48)) (c := 144) (d := 145) z10 (by decide) rfl
  have o11 := o10.S (e := (9, 20, 48))
  generalize alS B h10 (9, 20, 48) = h11 at *
  have y11 : ∀ k : Nat, ¬ k = 9 → gR h11 B k = gR h10 B k := fun k hk => (x11 k hk).1
  -- what stays to the end
  have S10 : kp e10 h11 (B + 144) B := t10.tr p11
  have T9 : kp h9 h11 (B + 141) B := p10.tr (p11.wd (by omega) (Or.inl rfl))
  have S9 : kp e9 h11 (B + 141) B := t9.tr T9
  have T8 : kp h8 h11 (B + 132) B := p9.tr (T9.wd (by omega) (Or.inl rfl))
  have T7 : kp h7 h11 (B + 131) B := p8.tr (T8.wd (by omega) (Or.inl rfl))
  have T4 : kp h4 h11 (B + 23) B := B2.tr (T7.wd (by omega) (Or.inl rfl))
  have G : kp h h11 B B := G4.tr (T4.wd (by omega) (Or.inl rfl))
  have k1 : kd h11 (B + 1) = 24 := ((T4.1 _ (by omega)).1).trans a1
  have l1 : ln h11 (B + 1) = 8 := ((T4.1 _ (by omega)).2).trans a2
  have g0 : gR h11 B 0 = some (B + 1) := by simp (disch := decide) only [y11, y10, y9, y8, y7, f1]
  have g1 : gR h11 B 1 = some (B + 18) := by simp (disch := decide) only [y11, y10, y9, y8, y7, f3]
  have g2 : gR h11 B 2 = some (B + 23) := by simp (disch := decide) only [y11, y10, y9, y8, f5]
  have g3 : gR h11 B 3 = some (B + 77) := by simp (disch := decide) only [y11, y10, y9, y8, f6]
  have g5' : gR h11 B 5 = some (B + 131) := by simp (disch := decide) only [y11, y10, y9, f8]
  have g6 : gR h11 B 6 = some (B + 20) := by simp (disch := decide) only [y11, y10, y9, g8]
  have g7 : gR h11 B 7 = some (B + 132) := by simp (disch := decide) only [y11, y10, f9]
  have g8' : gR h11 B 8 = some (B + 141) := by simp (disch := decide) only [y11, f10]
  have i4 : gI h11 B 4 = nI 0 := ((x11 4 (by decide)).2.1).trans (((x10 4 (by decide)).2.1).trans (((x9 4 (by decide)).2.1).trans (((x8 4 (by decide)).2.1).trans i7)))
  have E10 : ∀ b : Nat, b < B + 144 → kd h11 b = kd e10 b ∧ ln h11 b = ln e10 b := fun b hb => S10.1 b hb
  have E8 : ∀ b : Nat, b < B + 132 → kd h11 b = kd h8 b ∧ ln h11 b = ln h8 b := fun b hb => T8.1 b hb
  have c2 : ∀ j : Nat, j < 8 → shE h11 (B + 2 + 2 * j) := fun j hj => ((n2 j hj).2).fr T4 (by omega) (by omega)
  have E4 : ∀ b : Nat, b < B + 23 → kd h11 b = kd h4 b ∧ ln h11 b = ln h4 b := fun b hb => T4.1 b hb
  refine ⟨h11, rfl, G, z11, ?_, ⟨⟨o11.1, g0, g1, g2, g3, g5', g6, g7, g8', f11, k1, l1⟩, ⟨?_, ?_, ?_, ?_, ?_, ?_, ?_, ?_, ?_, ?_, ?_, ?_⟩, ⟨n11.1, n11.2.1, ?_, ?_, ?_, ?_, ?_, ?_, ?_, ?_⟩, fun j hj => ?_⟩, ?_, ?_, ?_, ?_, ?_, fun v hv => ?_, fun i hi => ?_, c2, ?_, fun i => ?_, i4, ?_, ?_, ?_⟩
  · have w8 : sl h8 = sl h7 + 5 := w8
    have w11 : sl h11 = sl h10 + 48 := w11
    omega
  · exact ((E4 _ (by omega)).1).trans c3_3
  · exact ((E4 _ (by omega)).2).trans c3_4
  · exact ((E4 _ (by omega)).1).trans c4_4
  · exact ((E4 _ (by omega)).2).trans c4_5
  · exact ((E4 _ (by omega)).1).trans c4_6
  · exact ((E4 _ (by omega)).2).trans c4_7
  · exact ((E8 _ (by omega)).1).trans n8.1
  · exact ((E8 _ (by omega)).2).trans n8.2.1
  · exact ((E10 _ (by omega)).1).trans c10_3.1
  · exact ((E10 _ (by omega)).2).trans c10_3.2.1
  · exact ((E10 _ (by omega)).1).trans c10_3.2.2.1
  · exact ((E10 _ (by omega)).2).trans c10_3.2.2.2
  · exact ((E4 _ (by omega)).1).trans c3_1
  · exact ((T4.2 _ _ (by omega) (by omega)).1).trans c3_2
  · exact ((E4 _ (by omega)).1).trans c4_1
  · exact ((T4.2 _ _ (by omega) (by omega)).1).trans c4_2
  · exact ((T4.2 _ _ (by omega) (by omega)).1).trans c4_3
  · exact ((E10 _ (by omega)).1).trans c10_1
  · exact ((S10.2 _ _ (by omega) (by omega)).1).trans c10_2.1
  · exact ((S10.2 _ _ (by omega) (by omega)).1).trans c10_2.2
  · obtain ⟨u1, u2, u3, u4, -⟩ := c2 j hj
    rw [show B + 2 + 2 * j + 1 = B + 3 + 2 * j by omega] at u2 u3 u4
    exact ⟨((T4.2 _ _ (by omega) (by omega)).1).trans (n2 j hj).1, u1, u2, u3, u4⟩
  · exact la_fr T7 (by omega) (by omega) B7
  · exact sr_fr T7 (by omega) (by omega) (by omega) (by omega) (by omega) B8
  · exact la_fr T7 (by omega) (by omega) B9
  · exact sr_fr T7 (by omega) (by omega) (by omega) (by omega) (by omega) B10
  · exact sr_fr S9 (by omega) (by omega) (by omega) (by omega) (by omega) c9_1
  · exact ((T4.2 _ _ (by omega) (by omega)).2.1).trans (A8 v hv)
  · exact ((T4.2 _ _ (by omega) (by omega)).2.1).trans (A9 i hi)
  · exact ((T4.2 _ _ (by omega) (by omega)).2.1).trans c3_5
  · exact ((T8.2 _ _ (by omega) (by omega)).2.1).trans (n8.2.2 i).2.1
  · exact B11.fr T7 (by omega) (by omega)
  · exact B12.fr T7 (by omega) (by omega)
  · exact B13.fr T7 (by omega) (by omega)
end ZCE
