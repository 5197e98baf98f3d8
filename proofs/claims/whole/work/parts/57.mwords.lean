/-! the reference: its tape, its words -/
theorem i64_w : ∀ c : Fin 26, (nI (97 + c.val)).toInt64 - 97 + lN 1 = lN (c.val + 1) := by decide +kernel
theorem i64_d : ∀ c : Fin 10, (nI (48 + c.val)).toInt64 - 48 = lN c.val := by decide +kernel
section ZMW
variable {g : Nat → Nat} {B m p s e k i n a b q u : Nat} {h h' h'' : zMem} {T : zT} {σ : zK}
theorem tl_w {x : Int64} (h1 : 97 ≤ b) (h2 : b ≤ 122) : lN a * 32 + (nI b).toInt64 - 97 + lN 1 = lN (a * 32 + (b - 96)) := by
  have e := i64_w ⟨b - 97, by omega⟩
  dsimp only at e
  rw [show 97 + (b - 97) = b by omega, show b - 97 + 1 = b - 96 by omega] at e
  have e2 : lN a * 32 + (nI b).toInt64 - 97 + lN 1 = lN a * 32 + ((nI b).toInt64 - 97 + lN 1) := by
    rw [Int64.sub_eq_add_neg, Int64.sub_eq_add_neg, Int64.add_assoc, Int64.add_assoc, Int64.add_assoc]
  rw [e2, e]
  exact ((Int64.ofNat_add _ _).trans (by rw [Int64.ofNat_mul]; rfl)).symm
theorem tl_d (h1 : 48 ≤ b) (h2 : b ≤ 57) : lN a * 10 + (nI b).toInt64 - 48 = lN (a * 10 + (b - 48)) := by
  have e := i64_d ⟨b - 48, by omega⟩
  dsimp only at e
  rw [show 48 + (b - 48) = b by omega] at e
  have e2 : lN a * 10 + (nI b).toInt64 - 48 = lN a * 10 + ((nI b).toInt64 - 48) := by
    rw [Int64.sub_eq_add_neg, Int64.sub_eq_add_neg, Int64.add_assoc]
  rw [e2, e]
  exact ((Int64.ofNat_add _ _).trans (by rw [Int64.ofNat_mul]; rfl)).symm
theorem lN_inj {x y : Nat} (hx : x < 2 ^ 63) (hy : y < 2 ^ 63) (e : lN x = lN y) : x = y := by
  have e2 : (lN x).toBitVec = (lN y).toBitVec := by rw [e]
  rw [lN_bv, lN_bv] at e2
  have e3 := congrArg BitVec.toNat e2
  rw [BitVec.toNat_ofNat, BitVec.toNat_ofNat, Nat.mod_eq_of_lt (by omega), Nat.mod_eq_of_lt (by omega)] at e3
  exact e3
theorem lN_m1 {y : Nat} (hy : y < 2 ^ 63) : ¬ (-1 : Int64) = lN y := fun e => by
  have e2 : ((-1 : Int64)).toBitVec = (lN y).toBitVec := by rw [e]
  rw [lN_bv] at e2
  have e3 := congrArg BitVec.toNat e2
  rw [BitVec.toNat_ofNat, Nat.mod_eq_of_lt (by omega)] at e3
  have e4 : ((-1 : Int64)).toBitVec.toNat = 18446744073709551615 := by decide
  omega
theorem tlW_y (hs : s ≤ q) (h8 : q - s < 8) (hl : isL (T.2 q) = true) : tlW T s q * 32 + (nI (T.2 q)).toInt64 - 97 + lN 1 = tlW T s (q + 1) := by
  have hL := of_decide_eq_true hl
  unfold tlW
  rw [if_pos (by omega), if_pos (by omega), tl_w (x := 0) hL.1 hL.2, show q + 1 - s = (q - s) + 1 by omega]
  show _ = lN (wvl (fun i => T.2 (s + i)) (q - s) * 32 + (T.2 (s + (q - s)) - 96))
  rw [show s + (q - s) = q by omega]
theorem tlW_n (hs : s ≤ q) (h8 : ¬ q - s < 8) : (-1 : Int64) = tlW T s (q + 1) := by
  unfold tlW
  rw [if_neg (by omega)]
theorem tlN_y (hs : s ≤ q) (h8 : q - s < 3) (hl : isD (T.2 q) = true) : tlN T s q * 10 + (nI (T.2 q)).toInt64 - 48 = tlN T s (q + 1) := by
  have hL := of_decide_eq_true hl
  unfold tlN
  rw [if_pos (by omega), if_pos (by omega), tl_d hL.1 hL.2, show q + 1 - s = (q - s) + 1 by omega]
  show _ = lN (nvl (fun i => T.2 (s + i)) (q - s) * 10 + (T.2 (s + (q - s)) - 48))
  rw [show s + (q - s) = q by omega]
theorem tlN_n (hs : s ≤ q) (h8 : ¬ q - s < 3) : (100000 : Int64) = tlN T s (q + 1) := by
  unfold tlN
  rw [if_neg (by omega)]
theorem q_letters (z : zStr g h B) (hk : k < 17) : call g Mo_letters [.ref (g (100 + k))] h = some (some (.long (lN (wvl (fun i => (zWd k).getD i 0) (zWd k).length))), h) := by
  have w1 := (z k hk).1
  have ql := q_len (g := g) z hk
  have l10 := (zW_l ⟨k, hk⟩).1
  dsimp only at l10
  have lp : ∀ (d j : Nat), j + d = (zWd k).length → ev g Mo_letters 4 [.ref (g (100 + k)), .long (lN (wvl (fun i => (zWd k).getD i 0) j)), zU, .int (nI j)] [] h = some (some (.long (lN (wvl (fun i => (zWd k).getD i 0) (zWd k).length))), h) := by
    intro d
    induction d with
    | zero =>
      intro j hj
      have e0 : j = (zWd k).length := by omega
      have e1 : (j < (zWd k).length) = False := eq_false (by omega)
      rw [← e0, s_Mo_letters_4]
      rw [← e0] at ql e1
      simp (disch := omega) only [s_Mo_letters_0, s_Mo_letters_1, s_Mo_letters_2, s_Mo_letters_3, s_Mo_letters_5, s_Mo_letters_6, s_Mo_letters_9, s_Mo_letters_12, s_Mo_letters_13, s_Mo_letters_16, s_Mo_letters_17, s_Mo_letters_18, s_Mo_letters_19, s_Mo_letters_22, s_Mo_letters_23, s_Mo_letters_24, s_Mo_letters_27, s_Mo_letters_28, s_Mo_letters_29, s_Mo_letters_30, s_Mo_letters_31, s_Mo_letters_34, s_Mo_letters_37, s_Mo_letters_38, y_kd_sI, y_kd_sL, y_kd_sR, y_kd_cpI, y_kd_cpL, y_ln_sI, y_ln_sL, y_ln_sR, y_ln_cpI, y_ln_cpL, y_sz_sI, y_sz_sL, y_sz_sR, y_sz_cpI, y_sz_cpL, y_sl_sI, y_sl_sL, y_sl_sR, y_sl_cpI, y_sl_cpL, y_gI_sL, y_gI_sR, y_gI_cpI, y_gI_cpL, y_gI_nw, y_gL_sI, y_gL_sR, y_gL_cpI, y_gL_cpL, y_gL_nw, y_gR_sI, y_gR_sL, y_gR_cpI, y_gR_cpL, y_gR_nw, y_kd_nw, y_ln_nw, y_sz_nw, y_sl_nw, y_fx_int, y_fx_long, y_fx_ref, y_fx_null, y_fx_U, y_rf_s, y_rf_n, a_inb, a_ix, a_lt, a_eq, a_eq0, a_lt0, a_0lt, a_m1, a_m2, a_mlt, a_sub, a_dec, a_div, a_rem, a_shl, a_shr, a_bit, a_bit0, a_II, a_Ia, a_Ik, a_LL, a_La, a_Lk, a_RR, a_Ra, a_Rk, a_if0, a_if1, y_mul, y_and, y_or, nI_add, y_b1, y_b0, kon_v, kon_0, true_or, or_true, and_self, true_and, and_true, false_or, or_false, and_false, false_and, not_true_eq_false, not_false_eq_true, ite_self, ↓reduceIte, Nat.reduceEqDiff, Nat.reduceLeDiff, Nat.reduceAdd, Nat.reduceMul, Nat.reduceSub, Nat.reduceLT, Nat.reduceShiftLeft, Nat.reduceOr, Nat.reduceAnd, Bool.false_eq_true, b_if, b_z1, b_z0, b_zz, b_a1, b_a0, b_lc, b_zF, b_zT, b_lbit, w1, ql, e1]
    | succ d ih =>
      intro j hj
      have e1 : (j < (zWd k).length) = True := eq_true (by omega)
      have qc := q_charAt (g := g) (i := j) z hk (by omega)
      have l11 := (zW_l ⟨k, hk⟩).2.2 ⟨j, by omega⟩ (by dsimp only; omega)
      dsimp only at l11
      have e2 : lN (wvl (fun i => (zWd k).getD i 0) j) * 32 + (nI ((zWd k).getD j 0)).toInt64 - 97 + lN 1 = lN (wvl (fun i => (zWd k).getD i 0) (j + 1)) := tl_w (x := 0) l11.1 l11.2
      have := ih (j + 1) (by omega)
      rw [s_Mo_letters_4]
      simp (disch := omega) only [s_Mo_letters_0, s_Mo_letters_1, s_Mo_letters_2, s_Mo_letters_3, s_Mo_letters_5, s_Mo_letters_6, s_Mo_letters_9, s_Mo_letters_12, s_Mo_letters_13, s_Mo_letters_16, s_Mo_letters_17, s_Mo_letters_18, s_Mo_letters_19, s_Mo_letters_22, s_Mo_letters_23, s_Mo_letters_24, s_Mo_letters_27, s_Mo_letters_28, s_Mo_letters_29, s_Mo_letters_30, s_Mo_letters_31, s_Mo_letters_34, s_Mo_letters_37, s_Mo_letters_38, y_kd_sI, y_kd_sL, y_kd_sR, y_kd_cpI, y_kd_cpL, y_ln_sI, y_ln_sL, y_ln_sR, y_ln_cpI, y_ln_cpL, y_sz_sI, y_sz_sL, y_sz_sR, y_sz_cpI, y_sz_cpL, y_sl_sI, y_sl_sL, y_sl_sR, y_sl_cpI, y_sl_cpL, y_gI_sL, y_gI_sR, y_gI_cpI, y_gI_cpL, y_gI_nw, y_gL_sI, y_gL_sR, y_gL_cpI, y_gL_cpL, y_gL_nw, y_gR_sI, y_gR_sL, y_gR_cpI, y_gR_cpL, y_gR_nw, y_kd_nw, y_ln_nw, y_sz_nw, y_sl_nw, y_fx_int, y_fx_long, y_fx_ref, y_fx_null, y_fx_U, y_rf_s, y_rf_n, a_inb, a_ix, a_lt, a_eq, a_eq0, a_lt0, a_0lt, a_m1, a_m2, a_mlt, a_sub, a_dec, a_div, a_rem, a_shl, a_shr, a_bit, a_bit0, a_II, a_Ia, a_Ik, a_LL, a_La, a_Lk, a_RR, a_Ra, a_Rk, a_if0, a_if1, y_mul, y_and, y_or, nI_add, y_b1, y_b0, kon_v, kon_0, true_or, or_true, and_self, true_and, and_true, false_or, or_false, and_false, false_and, not_true_eq_false, not_false_eq_true, ite_self, ↓reduceIte, Nat.reduceEqDiff, Nat.reduceLeDiff, Nat.reduceAdd, Nat.reduceMul, Nat.reduceSub, Nat.reduceLT, Nat.reduceShiftLeft, Nat.reduceOr, Nat.reduceAnd, Bool.false_eq_true, b_if, b_z1, b_z0, b_zz, b_a1, b_a0, b_lc, b_zF, b_zT, b_lbit, w1, ql, e1, qc, e2, this]
  have l0 := lp (zWd k).length 0 (by omega)
  have n0 : wvl (fun i => (zWd k).getD i 0) 0 = 0 := rfl
  rw [n0] at l0
  rw [n_Mo_letters]
  simp (disch := omega) only [s_Mo_letters_0, s_Mo_letters_1, s_Mo_letters_2, s_Mo_letters_3, s_Mo_letters_5, s_Mo_letters_6, s_Mo_letters_9, s_Mo_letters_12, s_Mo_letters_13, s_Mo_letters_16, s_Mo_letters_17, s_Mo_letters_18, s_Mo_letters_19, s_Mo_letters_22, s_Mo_letters_23, s_Mo_letters_24, s_Mo_letters_27, s_Mo_letters_28, s_Mo_letters_29, s_Mo_letters_30, s_Mo_letters_31, s_Mo_letters_34, s_Mo_letters_37, s_Mo_letters_38, y_kd_sI, y_kd_sL, y_kd_sR, y_kd_cpI, y_kd_cpL, y_ln_sI, y_ln_sL, y_ln_sR, y_ln_cpI, y_ln_cpL, y_sz_sI, y_sz_sL, y_sz_sR, y_sz_cpI, y_sz_cpL, y_sl_sI, y_sl_sL, y_sl_sR, y_sl_cpI, y_sl_cpL, y_gI_sL, y_gI_sR, y_gI_cpI, y_gI_cpL, y_gI_nw, y_gL_sI, y_gL_sR, y_gL_cpI, y_gL_cpL, y_gL_nw, y_gR_sI, y_gR_sL, y_gR_cpI, y_gR_cpL, y_gR_nw, y_kd_nw, y_ln_nw, y_sz_nw, y_sl_nw, y_fx_int, y_fx_long, y_fx_ref, y_fx_null, y_fx_U, y_rf_s, y_rf_n, a_inb, a_ix, a_lt, a_eq, a_eq0, a_lt0, a_0lt, a_m1, a_m2, a_mlt, a_sub, a_dec, a_div, a_rem, a_shl, a_shr, a_bit, a_bit0, a_II, a_Ia, a_Ik, a_LL, a_La, a_Lk, a_RR, a_Ra, a_Rk, a_if0, a_if1, y_mul, y_and, y_or, nI_add, y_b1, y_b0, kon_v, kon_0, true_or, or_true, and_self, true_and, and_true, false_or, or_false, and_false, false_and, not_true_eq_false, not_false_eq_true, ite_self, ↓reduceIte, Nat.reduceEqDiff, Nat.reduceLeDiff, Nat.reduceAdd, Nat.reduceMul, Nat.reduceSub, Nat.reduceLT, Nat.reduceShiftLeft, Nat.reduceOr, Nat.reduceAnd, Bool.false_eq_true, b_if, b_z1, b_z0, b_zz, b_a1, b_a0, b_lc, b_zF, b_zT, b_lbit]
  exact l0
theorem zW_8 : ∀ k : Fin 17, (zWd k.val).length ≤ 8 := by decide +kernel
/-- the reference's token -/
def mkn (h : zMem) (m : Nat) (T : zT) (σ : zK) : Prop := gI h m 44 = nI σ.1 ∧ gI h m 45 = nI σ.2.1 ∧ (¬ σ.1 = 3 → gI h m 43 = nI σ.2.2) ∧ (σ.1 = 1 → gL h m 46 = tlW T σ.2.1 σ.2.2) ∧ (σ.1 = 2 → gL h m 46 = tlN T σ.2.1 σ.2.2)
theorem q_isWord (z : zStr g h B) (km : kd h m = 13) (t : mkn h m T σ) (ok : okt T σ) (hk : k < 17) : call g Mo_isWord [.ref m, .ref (g (100 + k))] h = some (some (.int (bZ (isWb T σ (zWd k) = true))), h) := by
  obtain ⟨t1, -, -, t4, -⟩ := t
  have hb := ok.bd
  have ql := q_letters (g := g) z hk
  have l10 := (zW_l ⟨k, hk⟩).1
  dsimp only at l10
  rw [n_Mo_isWord]
  by_cases z1 : σ.1 = 1
  · have t4 := t4 z1
    rw [z1] at t1
    obtain ⟨hse, hl⟩ := hb.2.2.2.2 z1
    have wl : wvl (fun i => (zWd k).getD i 0) (zWd k).length < 2 ^ 63 := by
      have a := wvl_lt (F := fun i => (zWd k).getD i 0) (zWd k).length (fun i hi => ((zW_l ⟨k, hk⟩).2.2 ⟨i, by omega⟩ hi).2)
      have b : 32 ^ (zWd k).length ≤ 32 ^ 9 := Nat.pow_le_pow_right (by decide) (by omega)
      have c : 32 ^ 9 < 2 ^ 63 := by decide
      omega
    have key : (tlW T σ.2.1 σ.2.2 = lN (wvl (fun i => (zWd k).getD i 0) (zWd k).length)) = (isWb T σ (zWd k) = true) := by
      apply propext
      rw [isWb_i]
      unfold tlW
      by_cases z2 : σ.2.2 - σ.2.1 ≤ 8
      · rw [if_pos z2]
        have hF : ∀ i : Nat, i < σ.2.2 - σ.2.1 → 97 ≤ T.2 (σ.2.1 + i) ∧ T.2 (σ.2.1 + i) ≤ 122 := fun i hi => of_decide_eq_true (hl _ (by omega) (by omega))
        have wl2 : wvl (fun i => T.2 (σ.2.1 + i)) (σ.2.2 - σ.2.1) < 2 ^ 63 := by
          have a := wvl_lt (F := fun i => T.2 (σ.2.1 + i)) (σ.2.2 - σ.2.1) (fun i hi => (hF i hi).2)
          have b : 32 ^ (σ.2.2 - σ.2.1) ≤ 32 ^ 9 := Nat.pow_le_pow_right (by decide) (by omega)
          have c : 32 ^ 9 < 2 ^ 63 := by decide
          omega
        have hG : ∀ i : Nat, i < (zWd k).length → 97 ≤ (fun i => (zWd k).getD i 0) i ∧ (fun i => (zWd k).getD i 0) i ≤ 122 := fun i hi => (zW_l ⟨k, hk⟩).2.2 ⟨i, by omega⟩ hi
        constructor
        · intro w
          obtain ⟨c1, c2⟩ := wvl_inj _ _ _ _ hF hG (lN_inj wl2 wl w)
          exact ⟨z1, c1, fun i hi => c2 i (by omega)⟩
        · rintro ⟨-, c1, c2⟩
          rw [c1, wvl_c _ (fun i hi => c2 i hi)]
      · rw [if_neg z2]
        exact ⟨fun w => absurd w (lN_m1 wl), fun w => by
          have w1 : σ.2.2 - σ.2.1 = (zWd k).length := w.2.1
          have w2 := zW_8 ⟨k, hk⟩
          dsimp only at w2
          omega⟩
    by_cases z3 : isWb T σ (zWd k) = true
    · have y := key.trans (eq_true z3)
      rw [bZ_t z3]
      simp (disch := omega) only [s_Mo_isWord_0, s_Mo_isWord_1, s_Mo_isWord_4, s_Mo_isWord_5, s_Mo_isWord_8, s_Mo_isWord_9, s_Mo_isWord_12, s_Mo_isWord_13, s_Mo_isWord_16, s_Mo_isWord_17, s_Mo_isWord_20, s_Mo_isWord_21, s_Mo_isWord_24, s_Mo_isWord_25, y_kd_sI, y_kd_sL, y_kd_sR, y_kd_cpI, y_kd_cpL, y_ln_sI, y_ln_sL, y_ln_sR, y_ln_cpI, y_ln_cpL, y_sz_sI, y_sz_sL, y_sz_sR, y_sz_cpI, y_sz_cpL, y_sl_sI, y_sl_sL, y_sl_sR, y_sl_cpI, y_sl_cpL, y_gI_sL, y_gI_sR, y_gI_cpI, y_gI_cpL, y_gI_nw, y_gL_sI, y_gL_sR, y_gL_cpI, y_gL_cpL, y_gL_nw, y_gR_sI, y_gR_sL, y_gR_cpI, y_gR_cpL, y_gR_nw, y_kd_nw, y_ln_nw, y_sz_nw, y_sl_nw, y_fx_int, y_fx_long, y_fx_ref, y_fx_null, y_fx_U, y_rf_s, y_rf_n, a_inb, a_ix, a_lt, a_eq, a_eq0, a_lt0, a_0lt, a_m1, a_m2, a_mlt, a_sub, a_dec, a_div, a_rem, a_shl, a_shr, a_bit, a_bit0, a_II, a_Ia, a_Ik, a_LL, a_La, a_Lk, a_RR, a_Ra, a_Rk, a_if0, a_if1, y_mul, y_and, y_or, nI_add, y_b1, y_b0, kon_v, kon_0, true_or, or_true, and_self, true_and, and_true, false_or, or_false, and_false, false_and, not_true_eq_false, not_false_eq_true, ite_self, ↓reduceIte, Nat.reduceEqDiff, Nat.reduceLeDiff, Nat.reduceAdd, Nat.reduceMul, Nat.reduceSub, Nat.reduceLT, Nat.reduceShiftLeft, Nat.reduceOr, Nat.reduceAnd, Bool.false_eq_true, b_if, b_z1, b_z0, b_zz, b_a1, b_a0, b_lc, b_zF, b_zT, b_lbit, km, t1, t4, ql, y]
    · have y := key.trans (eq_false z3)
      rw [bZ_f z3]
      simp (disch := omega) only [s_Mo_isWord_0, s_Mo_isWord_1, s_Mo_isWord_4, s_Mo_isWord_5, s_Mo_isWord_8, s_Mo_isWord_9, s_Mo_isWord_12, s_Mo_isWord_13, s_Mo_isWord_16, s_Mo_isWord_17, s_Mo_isWord_20, s_Mo_isWord_21, s_Mo_isWord_24, s_Mo_isWord_25, y_kd_sI, y_kd_sL, y_kd_sR, y_kd_cpI, y_kd_cpL, y_ln_sI, y_ln_sL, y_ln_sR, y_ln_cpI, y_ln_cpL, y_sz_sI, y_sz_sL, y_sz_sR, y_sz_cpI, y_sz_cpL, y_sl_sI, y_sl_sL, y_sl_sR, y_sl_cpI, y_sl_cpL, y_gI_sL, y_gI_sR, y_gI_cpI, y_gI_cpL, y_gI_nw, y_gL_sI, y_gL_sR, y_gL_cpI, y_gL_cpL, y_gL_nw, y_gR_sI, y_gR_sL, y_gR_cpI, y_gR_cpL, y_gR_nw, y_kd_nw, y_ln_nw, y_sz_nw, y_sl_nw, y_fx_int, y_fx_long, y_fx_ref, y_fx_null, y_fx_U, y_rf_s, y_rf_n, a_inb, a_ix, a_lt, a_eq, a_eq0, a_lt0, a_0lt, a_m1, a_m2, a_mlt, a_sub, a_dec, a_div, a_rem, a_shl, a_shr, a_bit, a_bit0, a_II, a_Ia, a_Ik, a_LL, a_La, a_Lk, a_RR, a_Ra, a_Rk, a_if0, a_if1, y_mul, y_and, y_or, nI_add, y_b1, y_b0, kon_v, kon_0, true_or, or_true, and_self, true_and, and_true, false_or, or_false, and_false, false_and, not_true_eq_false, not_false_eq_true, ite_self, ↓reduceIte, Nat.reduceEqDiff, Nat.reduceLeDiff, Nat.reduceAdd, Nat.reduceMul, Nat.reduceSub, Nat.reduceLT, Nat.reduceShiftLeft, Nat.reduceOr, Nat.reduceAnd, Bool.false_eq_true, b_if, b_z1, b_z0, b_zz, b_a1, b_a0, b_lc, b_zF, b_zT, b_lbit, km, t1, t4, ql, y]
  · have y := eq_false z1
    rw [bZ_f (fun w => z1 (isWb_i.1 w).1)]
    simp (disch := omega) only [s_Mo_isWord_0, s_Mo_isWord_1, s_Mo_isWord_4, s_Mo_isWord_5, s_Mo_isWord_8, s_Mo_isWord_9, s_Mo_isWord_12, s_Mo_isWord_13, s_Mo_isWord_16, s_Mo_isWord_17, s_Mo_isWord_20, s_Mo_isWord_21, s_Mo_isWord_24, s_Mo_isWord_25, y_kd_sI, y_kd_sL, y_kd_sR, y_kd_cpI, y_kd_cpL, y_ln_sI, y_ln_sL, y_ln_sR, y_ln_cpI, y_ln_cpL, y_sz_sI, y_sz_sL, y_sz_sR, y_sz_cpI, y_sz_cpL, y_sl_sI, y_sl_sL, y_sl_sR, y_sl_cpI, y_sl_cpL, y_gI_sL, y_gI_sR, y_gI_cpI, y_gI_cpL, y_gI_nw, y_gL_sI, y_gL_sR, y_gL_cpI, y_gL_cpL, y_gL_nw, y_gR_sI, y_gR_sL, y_gR_cpI, y_gR_cpL, y_gR_nw, y_kd_nw, y_ln_nw, y_sz_nw, y_sl_nw, y_fx_int, y_fx_long, y_fx_ref, y_fx_null, y_fx_U, y_rf_s, y_rf_n, a_inb, a_ix, a_lt, a_eq, a_eq0, a_lt0, a_0lt, a_m1, a_m2, a_mlt, a_sub, a_dec, a_div, a_rem, a_shl, a_shr, a_bit, a_bit0, a_II, a_Ia, a_Ik, a_LL, a_La, a_Lk, a_RR, a_Ra, a_Rk, a_if0, a_if1, y_mul, y_and, y_or, nI_add, y_b1, y_b0, kon_v, kon_0, true_or, or_true, and_self, true_and, and_true, false_or, or_false, and_false, false_and, not_true_eq_false, not_false_eq_true, ite_self, ↓reduceIte, Nat.reduceEqDiff, Nat.reduceLeDiff, Nat.reduceAdd, Nat.reduceMul, Nat.reduceSub, Nat.reduceLT, Nat.reduceShiftLeft, Nat.reduceOr, Nat.reduceAnd, Bool.false_eq_true, b_if, b_z1, b_z0, b_zz, b_a1, b_a0, b_lc, b_zF, b_zT, b_lbit, km, t1, y]
end ZMW
