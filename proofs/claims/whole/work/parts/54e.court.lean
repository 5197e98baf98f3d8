/-! the constructor of the class -/
def shE (h : zMem) (a : Nat) : Prop := kd h a = 9 ∧ gR h a 3 = some (a + 1) ∧ kd h (a + 1) = 21 ∧ ln h (a + 1) = 64 ∧ gI h a 0 = -1 ∧ gI h a 1 = nI 0 ∧ gI h a 2 = -1 ∧ ∀ i : Nat, gL h (a + 1) i = 0
section ZCD
variable {g : Nat → Nat} {B m a r t : Nat} {h h' h'' : zMem}
theorem shE.fr {N X : Nat} (c : shE h a) (F : kp h h' N X) (h1 : a + 2 ≤ N) (h2 : X < a ∨ a + 1 < X) : shE h' a := by
  obtain ⟨F1, F2⟩ := F
  obtain ⟨c1, c2, c3, c4, c5, c6, c7, c8⟩ := c
  exact ⟨((F1 _ (by omega)).1).trans c1, ((F2 _ _ (by omega) (by omega)).1).trans c2, ((F1 _ (by omega)).1).trans c3, ((F1 _ (by omega)).2).trans c4, ((F2 _ _ (by omega) (by omega)).2.1).trans c5, ((F2 _ _ (by omega) (by omega)).2.1).trans c6, ((F2 _ _ (by omega) (by omega)).2.1).trans c7, fun i => ((F2 _ _ (by omega) (by omega)).2.2).trans (c8 i)⟩
theorem la_fr {N X l : Nat} (F : kp h h' N X) (h1 : l + 54 ≤ N) (h2 : X < l ∨ l + 53 < X) (c : oLand h l) : oLand h' l := by
  obtain ⟨F1, F2⟩ := F
  have f1 : ∀ b : Nat, b < N → kd h' b = kd h b := fun b hb => (F1 b hb).1
  have f2 : ∀ b : Nat, b < N → ln h' b = ln h b := fun b hb => (F1 b hb).2
  have f3 : ∀ b k : Nat, b < N → ¬ b = X → gR h' b k = gR h b k := fun b k hb hx => (F2 b k hb hx).1
  obtain ⟨c0, c1, c2, c3, c4⟩ := c
  refine ⟨?_, ?_, ?_, fun j hj => ?_, fun j hj => ?_⟩
  · unfold oLand0 at *
    simp (disch := omega) only [f1, f2, f3]
    exact c0
  · unfold oLand1 at *
    simp (disch := omega) only [f1, f2, f3]
    exact c1
  · unfold oLand2 at *
    simp (disch := omega) only [f1, f2, f3]
    exact c2
  · rw [f1 _ (by omega), f3 _ _ (by omega) (by omega)]; exact c3 j hj
  · rw [f1 _ (by omega), f3 _ _ (by omega) (by omega)]; exact c4 j hj
theorem laE.fr {N X l : Nat} (c : laE h l) (F : kp h h' N X) (h1 : l + 54 ≤ N) (h2 : X < l ∨ l + 53 < X) : laE h' l := by
  obtain ⟨F1, F2⟩ := F
  have f : ∀ b k : Nat, b < N → ¬ b = X → gI h' b k = gI h b k := fun b k hb hx => (F2 b k hb hx).2.1
  obtain ⟨c1, c2, c3, c4, c5, c6, c7, c8⟩ := c
  exact ⟨(f _ _ (by omega) (by omega)).trans c1, (f _ _ (by omega) (by omega)).trans c2, fun w hw => (f _ _ (by omega) (by omega)).trans (c3 w hw), (f _ _ (by omega) (by omega)).trans c4, (f _ _ (by omega) (by omega)).trans c5, fun i hi => (f _ _ (by omega) (by omega)).trans (c6 i hi), (f _ _ (by omega) (by omega)).trans c7, (f _ _ (by omega) (by omega)).trans c8⟩
theorem qE.fr {N X q : Nat} (c : qE h q) (F : kp h h' N X) (h1 : q + 6 ≤ N) (h2 : X < q ∨ q + 5 < X) : qE h' q := by
  obtain ⟨F1, F2⟩ := F
  obtain ⟨x, c1, c2, c3, c4⟩ := c
  exact ⟨x, ((F2 _ _ (by omega) (by omega)).2.1).trans c1, c2, ((F2 _ _ (by omega) (by omega)).2.1).trans c3, fun p hp => ((F2 _ _ (by omega) (by omega)).2.1).trans (c4 p hp)⟩
def shL (h0 h : zMem) (B i : Nat) : Prop := kp h0 h (B + 2) (B + 1) ∧ sz h = B + 2 + 2 * i ∧ sl h = sl h0 + i * 68 ∧ ∀ j : Nat, j < i → gR h (B + 1) j = some (B + 2 + 2 * j) ∧ shE h (B + 2 + 2 * j)
theorem dc_shelves (o : okk 12 B h) (k1 : gR h B 0 = some (B + 1)) (k2 : kd h (B + 1) = 24) (k3 : ln h (B + 1) = 8) (hz : sz h = B + 2) : ∃ h' : zMem, ev g DC_init 15 [.ref B, .int (nI 0)] [] h = ev g DC_init 40 [.ref B, .int (nI 8)] [] h' ∧ shL h h' B 8 := by
  obtain ⟨y, h4, s5, u⟩ := l_loop (α := Unit) (g := g) (M := DC_init) (pc := 15) (st := []) (n := 8) (fun i _ => [.ref B, .int (nI i)]) (fun i _ h' => shL h h' B i) (fun i y h' hi c => by
      obtain ⟨o1, o2, o3, o4⟩ := c
      obtain ⟨n1, n2, n3, n4, n5⟩ := nw_st (h := h') (m := B) (K := 9) (w := 4) (c := 2 + 2 * i) (d := 3 + 2 * i) (by omega) (by omega)
      rw [← Nat.add_assoc] at n1 n4 n5
      obtain ⟨h2, q, b1, b2, b3, b4, b5, b6, b7, b8, b9⟩ := k_Shelf (g := g) n1 (by rw [n2]; omega)
      refine ⟨(), sR h2 (B + 1) i (some (B + 2 + 2 * i)), ?_, ((o1.tr (n5.wd (by omega) (Or.inr (by omega)))).tr (b1.wd (by omega) (Or.inr (by omega)))).tr kp_R, ?_, ?_, fun j hj => ⟨?_, ?_⟩⟩
      · have e1 : kd h' B = 12 := ((o1.1 B (by omega)).1).trans o.1
        have e2 : gR h' B 0 = some (B + 1) := ((o1.2 B 0 (by omega) (by omega)).1).trans k1
        have e3 : kd h2 (B + 1) = 24 := ((b1.1 _ (by omega)).1).trans (((n5.1 _ (by omega)).1).trans (((o1.1 _ (by omega)).1).trans k2))
        have e4 : ln h2 (B + 1) = 8 := ((b1.1 _ (by omega)).2).trans (((n5.1 _ (by omega)).2).trans (((o1.1 _ (by omega)).2).trans k3))
        have e5 : (i < 8) = True := eq_true hi
        have ek : elK 24 = 9 := rfl
        have c1 : (24 ≤ 24) = True := eq_true (by decide)
        have c2 : (24 < 28) = True := eq_true (by decide)
        rw [s_DC_init_15]
        simp (disch := omega) only [s_DC_init_0, s_DC_init_1, s_DC_init_4, s_DC_init_5, s_DC_init_7, s_DC_init_10, s_DC_init_10n, s_DC_init_13, s_DC_init_14, s_DC_init_16, s_DC_init_18, s_DC_init_21, s_DC_init_22, s_DC_init_25, s_DC_init_26, s_DC_init_29, s_DC_init_30, s_DC_init_33, s_DC_init_34, s_DC_init_37, s_DC_init_40, s_DC_init_41, s_DC_init_44, s_DC_init_45, s_DC_init_48, s_DC_init_48n, s_DC_init_51, s_DC_init_52, s_DC_init_55, s_DC_init_56, s_DC_init_59, s_DC_init_59n, s_DC_init_62, s_DC_init_63, s_DC_init_66, s_DC_init_67, s_DC_init_68, s_DC_init_71, s_DC_init_74, s_DC_init_74n, s_DC_init_77, s_DC_init_78, s_DC_init_81, s_DC_init_82, s_DC_init_83, s_DC_init_86, s_DC_init_89, s_DC_init_89n, s_DC_init_92, s_DC_init_93, s_DC_init_94, s_DC_init_97, s_DC_init_98, s_DC_init_99, s_DC_init_101, s_DC_init_101n, s_DC_init_104, s_DC_init_105, s_DC_init_108, s_DC_init_109, s_DC_init_110, s_DC_init_113, s_DC_init_116, s_DC_init_116n, s_DC_init_119, s_DC_init_120, s_DC_init_123, s_DC_init_124, s_DC_init_127, s_DC_init_127n, s_DC_init_130, s_DC_init_131, s_DC_init_133, s_DC_init_135, s_DC_init_135n, s_DC_init_138, y_kd_sI, y_kd_sL, y_kd_sR, y_kd_cpI, y_kd_cpL, y_ln_sI, y_ln_sL, y_ln_sR, y_ln_cpI, y_ln_cpL, y_sz_sI, y_sz_sL, y_sz_sR, y_sz_cpI, y_sz_cpL, y_sl_sI, y_sl_sL, y_sl_sR, y_sl_cpI, y_sl_cpL, y_gI_sL, y_gI_sR, y_gI_cpI, y_gI_cpL, y_gI_nw, y_gL_sI, y_gL_sR, y_gL_cpI, y_gL_cpL, y_gL_nw, y_gR_sI, y_gR_sL, y_gR_cpI, y_gR_cpL, y_gR_nw, y_kd_nw, y_ln_nw, y_sz_nw, y_sl_nw, y_fx_int, y_fx_long, y_fx_ref, y_fx_null, y_fx_U, y_rf_s, y_rf_n, a_inb, a_ix, a_lt, a_eq, a_eq0, a_lt0, a_0lt, a_m1, a_m2, a_mlt, a_sub, a_dec, a_div, a_rem, a_shl, a_shr, a_bit, a_bit0, a_II, a_Ia, a_Ik, a_LL, a_La, a_Lk, a_RR, a_Ra, a_Rk, a_if0, a_if1, y_mul, y_and, y_or, nI_add, y_b1, y_b0, kon_v, kon_0, true_or, or_true, and_self, true_and, and_true, false_or, or_false, and_false, false_and, not_true_eq_false, not_false_eq_true, ite_self, ↓reduceIte, Nat.reduceEqDiff, Nat.reduceLeDiff, Nat.reduceAdd, Nat.reduceMul, Nat.reduceSub, Nat.reduceLT, Nat.reduceShiftLeft, Nat.reduceOr, Nat.reduceAnd, Bool.false_eq_true, b_if, b_z1, b_z0, b_zz, b_a1, b_a0, b_lc, b_zF, b_zT, b_lbit, e1, e2, va_rf, o2, q, e3, e4, e5, ek, c1, c2, b4, eq_self]
      · show sz h2 = _
        rw [b2]; omega
      · show sl h2 = _
        rw [b3, n3, o3]; omega
      · by_cases e : j = i
        · rw [e, a_RR]
        · rw [a_Rk e, (b1.2 _ j (by omega) (by omega)).1, (n5.2 _ j (by omega) (by omega)).1]
          exact (o4 j (by omega)).1
      · by_cases e : j = i
        · rw [e]
          have c : shE h2 (B + 2 + 2 * i) := ⟨b4, b5, b6.1, b6.2.1, b7, b8, b9, fun i => (b6.2.2 i).2.2⟩
          exact c.fr (kp_R (N := B + 4 + 2 * i)) (by omega) (by omega)
        · have c := (o4 j (by omega)).2
          exact ((c.fr n5 (by omega) (by omega)).fr b1 (by omega) (by omega)).fr (kp_R (N := B + 2 + 2 * i)) (by omega) (by omega)) 8 0 () h rfl ⟨kp.rf, by omega, by omega, fun v hv => absurd hv (by omega)⟩
  refine ⟨h4, s5.trans ?_, u⟩
  have q5 : (8 < 8) = False := eq_false (by decide)
  rw [s_DC_init_15]
  simp (disch := omega) only [s_DC_init_0, s_DC_init_1, s_DC_init_4, s_DC_init_5, s_DC_init_7, s_DC_init_10, s_DC_init_10n, s_DC_init_13, s_DC_init_14, s_DC_init_16, s_DC_init_18, s_DC_init_21, s_DC_init_22, s_DC_init_25, s_DC_init_26, s_DC_init_29, s_DC_init_30, s_DC_init_33, s_DC_init_34, s_DC_init_37, s_DC_init_41, s_DC_init_44, s_DC_init_45, s_DC_init_48, s_DC_init_48n, s_DC_init_51, s_DC_init_52, s_DC_init_55, s_DC_init_56, s_DC_init_59, s_DC_init_59n, s_DC_init_62, s_DC_init_63, s_DC_init_66, s_DC_init_67, s_DC_init_68, s_DC_init_71, s_DC_init_74, s_DC_init_74n, s_DC_init_77, s_DC_init_78, s_DC_init_81, s_DC_init_82, s_DC_init_83, s_DC_init_86, s_DC_init_89, s_DC_init_89n, s_DC_init_92, s_DC_init_93, s_DC_init_94, s_DC_init_97, s_DC_init_98, s_DC_init_99, s_DC_init_101, s_DC_init_101n, s_DC_init_104, s_DC_init_105, s_DC_init_108, s_DC_init_109, s_DC_init_110, s_DC_init_113, s_DC_init_116, s_DC_init_116n, s_DC_init_119, s_DC_init_120, s_DC_init_123, s_DC_init_124, s_DC_init_127, s_DC_init_127n, s_DC_init_130, s_DC_init_131, s_DC_init_133, s_DC_init_135, s_DC_init_135n, s_DC_init_138, y_kd_sI, y_kd_sL, y_kd_sR, y_kd_cpI, y_kd_cpL, y_ln_sI, y_ln_sL, y_ln_sR, y_ln_cpI, y_ln_cpL, y_sz_sI, y_sz_sL, y_sz_sR, y_sz_cpI, y_sz_cpL, y_sl_sI, y_sl_sL, y_sl_sR, y_sl_cpI, y_sl_cpL, y_gI_sL, y_gI_sR, y_gI_cpI, y_gI_cpL, y_gI_nw, y_gL_sI, y_gL_sR, y_gL_cpI, y_gL_cpL, y_gL_nw, y_gR_sI, y_gR_sL, y_gR_cpI, y_gR_cpL, y_gR_nw, y_kd_nw, y_ln_nw, y_sz_nw, y_sl_nw, y_fx_int, y_fx_long, y_fx_ref, y_fx_null, y_fx_U, y_rf_s, y_rf_n, a_inb, a_ix, a_lt, a_eq, a_eq0, a_lt0, a_0lt, a_m1, a_m2, a_mlt, a_sub, a_dec, a_div, a_rem, a_shl, a_shr, a_bit, a_bit0, a_II, a_Ia, a_Ik, a_LL, a_La, a_Lk, a_RR, a_Ra, a_Rk, a_if0, a_if1, y_mul, y_and, y_or, nI_add, y_b1, y_b0, kon_v, kon_0, true_or, or_true, and_self, true_and, and_true, false_or, or_false, and_false, false_and, not_true_eq_false, not_false_eq_true, ite_self, ↓reduceIte, Nat.reduceEqDiff, Nat.reduceLeDiff, Nat.reduceAdd, Nat.reduceMul, Nat.reduceSub, Nat.reduceLT, Nat.reduceShiftLeft, Nat.reduceOr, Nat.reduceAnd, Bool.false_eq_true, b_if, b_z1, b_z0, b_zz, b_a1, b_a0, b_lc, b_zF, b_zT, b_lbit, q5]
end ZCD
