/-! the law: its loop -/
section ZLP
variable {g : Nat → Nat} {A B N SL i : Nat} {h h' : zMem}
theorem i_63 (x : Int32) : ∃ b : Nat, b < 64 ∧ x &&& nI 63 = nI b := by
  have e : x &&& nI 63 = nI (x.toBitVec.toNat % 64) := by
    apply Int32.toBitVec_inj.1
    apply BitVec.eq_of_toNat_eq
    rw [Int32.toBitVec_and, BitVec.toNat_and, show (nI 63).toBitVec.toNat = 2 ^ 6 - 1 by decide, Nat.and_two_pow_sub_one_eq_mod]
    show _ = (BitVec.ofNat 32 (x.toBitVec.toNat % 64)).toNat
    rw [BitVec.toNat_ofNat]
    omega
  exact ⟨_, Nat.mod_lt _ (by decide), e⟩
theorem law_all (w : Lw g A B N SL h) (hi : i + 6 ≤ N) {m : Nat} (hm : m < 64) : ∃ h' : zMem, ev g La_law 33 [.ref A, .ref B, .ref (B + 145), .int (nI i)] [.int (nI m)] h = ev g La_law 2069 [.ref A, .ref B, .ref (B + 145), .int (nI i)] [] h' ∧ Lw g A B N SL h' := by
  by_cases z0 : m = 0
  · rw [z0, s_La_law_33_0]
    exact law_0 w hi
  by_cases z1 : m = 1
  · rw [z1, s_La_law_33_1]
    exact law_1 w hi
  by_cases z2 : m = 2
  · rw [z2, s_La_law_33_2]
    exact law_2 w hi
  by_cases z3 : m = 3
  · rw [z3, s_La_law_33_3]
    exact law_3 w hi
  by_cases z4 : m = 4
  · rw [z4, s_La_law_33_4]
    exact law_4 w hi
  by_cases z5 : m = 5
  · rw [z5, s_La_law_33_5]
    exact law_5 w hi
  by_cases z6 : m = 6
  · rw [z6, s_La_law_33_6]
    exact law_6 w hi
  by_cases z7 : m = 7
  · rw [z7, s_La_law_33_7]
    exact law_7 w hi
  by_cases z8 : m = 8
  · rw [z8, s_La_law_33_8]
    exact law_8 w hi
  by_cases z9 : m = 9
  · rw [z9, s_La_law_33_9]
    exact law_9 w hi
  by_cases z10 : m = 10
  · rw [z10, s_La_law_33_10]
    exact law_10 w hi
  by_cases z11 : m = 11
  · rw [z11, s_La_law_33_11]
    exact law_11 w hi
  by_cases z12 : m = 12
  · rw [z12, s_La_law_33_12]
    exact law_12 w hi
  by_cases z13 : m = 13
  · rw [z13, s_La_law_33_13]
    exact law_13 w hi
  by_cases z14 : m = 14
  · rw [z14, s_La_law_33_14]
    exact law_14 w hi
  by_cases z15 : m = 15
  · rw [z15, s_La_law_33_15]
    exact law_15 w hi
  by_cases z16 : m = 16
  · rw [z16, s_La_law_33_16]
    exact law_16 w hi
  by_cases z17 : m = 17
  · rw [z17, s_La_law_33_17]
    exact law_17 w hi
  by_cases z18 : m = 18
  · rw [z18, s_La_law_33_18]
    exact law_18 w hi
  by_cases z19 : m = 19
  · rw [z19, s_La_law_33_19]
    exact law_19 w hi
  by_cases z20 : m = 20
  · rw [z20, s_La_law_33_20]
    exact law_20 w hi
  by_cases z21 : m = 21
  · rw [z21, s_La_law_33_21]
    exact law_21 w hi
  by_cases z22 : m = 22
  · rw [z22, s_La_law_33_22]
    exact law_22 w hi
  by_cases z23 : m = 23
  · rw [z23, s_La_law_33_23]
    exact law_23 w hi
  by_cases z24 : m = 24
  · rw [z24, s_La_law_33_24]
    exact law_24 w hi
  by_cases z25 : m = 25
  · rw [z25, s_La_law_33_25]
    exact law_25 w hi
  by_cases z26 : m = 26
  · rw [z26, s_La_law_33_26]
    exact law_26 w hi
  by_cases z27 : m = 27
  · rw [z27, s_La_law_33_27]
    exact law_27 w hi
  by_cases z28 : m = 28
  · rw [z28, s_La_law_33_28]
    exact law_28 w hi
  by_cases z29 : m = 29
  · rw [z29, s_La_law_33_29]
    exact law_29 w hi
  by_cases z30 : m = 30
  · rw [z30, s_La_law_33_30]
    exact law_30 w hi
  by_cases z31 : m = 31
  · rw [z31, s_La_law_33_31]
    exact law_31 w hi
  by_cases z32 : m = 32
  · rw [z32, s_La_law_33_32]
    exact law_32 w hi
  by_cases z33 : m = 33
  · rw [z33, s_La_law_33_33]
    exact law_33 w hi
  by_cases z34 : m = 34
  · rw [z34, s_La_law_33_34]
    exact law_34 w hi
  by_cases z35 : m = 35
  · rw [z35, s_La_law_33_35]
    exact law_35 w hi
  by_cases z36 : m = 36
  · rw [z36, s_La_law_33_36]
    exact law_36 w hi
  by_cases z37 : m = 37
  · rw [z37, s_La_law_33_37]
    exact law_37 w hi
  by_cases z38 : m = 38
  · rw [z38, s_La_law_33_38]
    exact law_38 w hi
  by_cases z39 : m = 39
  · rw [z39, s_La_law_33_39]
    exact law_39 w hi
  by_cases z40 : m = 40
  · rw [z40, s_La_law_33_40]
    exact law_40 w hi
  by_cases z41 : m = 41
  · rw [z41, s_La_law_33_41]
    exact law_41 w hi
  by_cases z42 : m = 42
  · rw [z42, s_La_law_33_42]
    exact law_42 w hi
  by_cases z43 : m = 43
  · rw [z43, s_La_law_33_43]
    exact law_43 w hi
  by_cases z44 : m = 44
  · rw [z44, s_La_law_33_44]
    exact law_44 w hi
  by_cases z45 : m = 45
  · rw [z45, s_La_law_33_45]
    exact law_45 w hi
  by_cases z46 : m = 46
  · rw [z46, s_La_law_33_46]
    exact law_46 w hi
  by_cases z47 : m = 47
  · rw [z47, s_La_law_33_47]
    exact law_47 w hi
  by_cases z48 : m = 48
  · rw [z48, s_La_law_33_48]
    exact law_48 w hi
  by_cases z49 : m = 49
  · rw [z49, s_La_law_33_49]
    exact law_49 w hi
  by_cases z50 : m = 50
  · rw [z50, s_La_law_33_50]
    exact law_50 w hi
  by_cases z51 : m = 51
  · rw [z51, s_La_law_33_51]
    exact law_51 w hi
  by_cases z52 : m = 52
  · rw [z52, s_La_law_33_52]
    exact law_52 w hi
  by_cases z53 : m = 53
  · rw [z53, s_La_law_33_53]
    exact law_53 w hi
  by_cases z54 : m = 54
  · rw [z54, s_La_law_33_54]
    exact law_54 w hi
  by_cases z55 : m = 55
  · rw [z55, s_La_law_33_55]
    exact law_55 w hi
  by_cases z56 : m = 56
  · rw [z56, s_La_law_33_56]
    exact law_56 w hi
  by_cases z57 : m = 57
  · rw [z57, s_La_law_33_57]
    exact law_57 w hi
  by_cases z58 : m = 58
  · rw [z58, s_La_law_33_58]
    exact law_58 w hi
  have hx : (nI m).toInt < 0 ∨ 58 < (nI m).toInt := by
    rw [nI_toInt (by omega)]
    omega
  rw [s_La_law_33_d hx]
  exact ⟨h, rfl, w⟩
theorem law_loop : ∀ (d i : Nat) (h : zMem), N ≤ i + 6 * d → i ≤ N → Lw g A B N SL h → ∃ h' : zMem, ev g La_law 18 [.ref A, .ref B, .ref (B + 145), .int (nI i)] [] h = some (some (.int (nI 1)), h') ∧ Lw g A B N SL h'
  | d, i, h, hd, hN, w => by
    obtain ⟨w1, kA, lA, hAB, hN2⟩ := id w
    have d1 : (20 ≤ 40) = True := eq_true (by decide)
    have d2 : (40 ≤ 42) = True := eq_true (by decide)
    have d3 : (40 = 41) = False := eq_false (by decide)
    have d5 : ((40 : Nat) = 20) = False := eq_false (by decide)
    have d4 : (40 < 40) = False := eq_false (by decide)
    by_cases z : i + 6 ≤ N
    · cases d with
      | zero => omega
      | succ d =>
        obtain ⟨m, hm, em⟩ := i_63 (gI h A i)
        obtain ⟨h1, e1, w3⟩ := law_all w z hm
        have lt : (nI (N - 6) < nI i) = False := by
          rw [a_lt (by omega) (by omega)]
          exact eq_false (by omega)
        have go : ev g La_law 18 [.ref A, .ref B, .ref (B + 145), .int (nI i)] [] h = ev g La_law 33 [.ref A, .ref B, .ref (B + 145), .int (nI i)] [.int (nI m)] h := by
          have sb := a_sub (a := N) (b := 6) (by omega)
          clear e1 w3
          rw [s_La_law_18]
          simp (disch := omega) only [s_La_law_19, s_La_law_20, s_La_law_21, s_La_law_23, s_La_law_24, s_La_law_27, s_La_law_28, s_La_law_29, s_La_law_30, s_La_law_32, a_inb, a_ix, kA, lA, d1, d2, d3, d4, sb, lt, em, and_self, true_and, true_or, not_false_eq_true, and_true, and_false, false_and, or_true, d5, ↓reduceIte]
        have go2 : ev g La_law 2069 [.ref A, .ref B, .ref (B + 145), .int (nI i)] [] h1 = ev g La_law 18 [.ref A, .ref B, .ref (B + 145), .int (nI (i + 6))] [] h1 := by
          simp (disch := omega) only [s_La_law_2069, s_La_law_2072, y_kd_sI, y_kd_sL, y_kd_sR, y_kd_cpI, y_kd_cpL, y_ln_sI, y_ln_sL, y_ln_sR, y_ln_cpI, y_ln_cpL, y_sz_sI, y_sz_sL, y_sz_sR, y_sz_cpI, y_sz_cpL, y_sl_sI, y_sl_sL, y_sl_sR, y_sl_cpI, y_sl_cpL, y_gI_sL, y_gI_sR, y_gI_cpI, y_gI_cpL, y_gI_nw, y_gL_sI, y_gL_sR, y_gL_cpI, y_gL_cpL, y_gL_nw, y_gR_sI, y_gR_sL, y_gR_cpI, y_gR_cpL, y_gR_nw, y_kd_nw, y_ln_nw, y_sz_nw, y_sl_nw, y_fx_int, y_fx_long, y_fx_ref, y_fx_null, y_fx_U, y_rf_s, y_rf_n, a_inb, a_ix, a_lt, a_eq, a_eq0, a_lt0, a_0lt, a_m1, a_m2, a_mlt, a_sub, a_dec, a_div, a_rem, a_shl, a_shr, a_bit, a_bit0, a_II, a_Ia, a_Ik, a_LL, a_La, a_Lk, a_RR, a_Ra, a_Rk, a_if0, a_if1, y_mul, y_and, y_or, nI_add, y_b1, y_b0, kon_v, kon_0, true_or, or_true, and_self, true_and, and_true, false_or, or_false, and_false, false_and, not_true_eq_false, not_false_eq_true, ite_self, ↓reduceIte, Nat.reduceEqDiff, Nat.reduceLeDiff, Nat.reduceAdd, Nat.reduceMul, Nat.reduceSub, Nat.reduceLT, Nat.reduceShiftLeft, Nat.reduceOr, Nat.reduceAnd, Bool.false_eq_true, b_if, b_z1, b_z0, b_zz, b_a1, b_a0, b_lc, b_zF, b_zT, b_lbit]
        rw [go, e1, go2]
        exact law_loop d (i + 6) h1 (by omega) z w3
    · refine ⟨h, ?_, w⟩
      by_cases n6 : 6 ≤ N
      · have sb := a_sub (a := N) (b := 6) n6
        have lt : (nI (N - 6) < nI i) = True := by
          rw [a_lt (by omega) (by omega)]
          exact eq_true (by omega)
        rw [s_La_law_18]
        simp (disch := omega) only [s_La_law_19, s_La_law_20, s_La_law_21, s_La_law_23, s_La_law_24, s_La_law_2075, s_La_law_2076, y_b1, kA, lA, d1, d2, d3, d4, sb, lt, and_self, true_and, true_or, not_false_eq_true, and_true, and_false, false_and, or_true, d5, ↓reduceIte]
      · have lt : (nI N - nI 6 < nI i) = True := by
          apply eq_true
          have all : ∀ a b : Fin 6, nI a.val - nI 6 < nI b.val := by decide +kernel
          exact all ⟨N, by omega⟩ ⟨i, by omega⟩
        rw [s_La_law_18]
        simp (disch := omega) only [s_La_law_19, s_La_law_20, s_La_law_21, s_La_law_23, s_La_law_24, s_La_law_2075, s_La_law_2076, y_b1, kA, lA, d1, d2, d3, d4, lt, and_self, true_and, true_or, not_false_eq_true, and_true, and_false, false_and, or_true, d5, ↓reduceIte]
/-- the law holds of every script -/
theorem law_holds (hz : sz h = B) (b : bX g B h) (p : cP g h) (p1 : g 1 < B) (hAB : A < B) (kA : kd h A = 40) (lA : ln h A = N) (hN : N < 2147483648) : ∃ h' : zMem, call g La_law [.ref A] h = some (some (.int (nI 1)), h') ∧ sz h' ≤ B + 505 ∧ sl h' ≤ sl h + 120000 := by
  obtain ⟨h1, h2, e1, k1, z1, e2, jx, fr⟩ := JX_start (g := g) hz (by omega) b p p1
  have w : Lw g A B N (sl h) h2 := ⟨jx, (fr A hAB).1.trans kA, (fr A hAB).2.1.trans lA, hAB, hN⟩
  obtain ⟨h3, e3, w3⟩ := law_loop (g := g) (A := A) (B := B) (N := N) (SL := sl h) N 0 h2 (by omega) (Nat.zero_le _) w
  refine ⟨h3, ?_, ?_⟩
  · rw [← e3, n_La_law]
    simp (disch := omega) only [s_La_law_0, s_La_law_3, s_La_law_4, s_La_law_7, s_La_law_8, s_La_law_11, s_La_law_12, s_La_law_15, s_La_law_16, s_La_law_17, hz, z1, e1, e2, kon_v, kon_0, y_fx_U, y_fx_int, y_fx_ref, y_sz_nw]
  · obtain ⟨H, T, Λ, K, κ, ρ, k, hb, hc, hm⟩ := w3.1
    obtain ⟨-, -, -, -, -, -, -, -, m9⟩ := hm
    cases κ with
    | false =>
      obtain ⟨-, q1, q2⟩ := m9.1 rfl
      omega
    | true =>
      obtain ⟨-, q1, q2, -⟩ := m9.2 rfl
      omega
end ZLP
