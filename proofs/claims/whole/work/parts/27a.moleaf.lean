/-! the reference's leaves -/
theorem i_lt {x y : Int32} : (x < y) = (x.toInt < y.toInt) := propext Int32.lt_iff_toInt_lt
theorem l_lt {x y : Int32} : (x.toInt64 < y.toInt64) = (x < y) := by
  rw [i_lt]
  apply propext
  rw [Int64.lt_iff_toInt_lt, Int32.toInt_toInt64, Int32.toInt_toInt64]
/-- what is within is a number -/
theorem i_nat {x : Int32} {n : Nat} (h0 : ¬ x < 0) (h1 : x < nI n) (hn : n < 2147483648) : ∃ k : Nat, x = nI k ∧ k < n := by
  rw [i_lt] at h0 h1
  rw [nI_toInt (by omega)] at h1
  have h2 : (0 : Int32).toInt = 0 := rfl
  rw [h2] at h0
  refine ⟨x.toInt.toNat, ?_, by omega⟩
  apply Int32.toInt_inj.mp
  rw [nI_toInt (by omega)]
  omega
theorem lc_l {x y : Int64} : (lg_cmp x y < (0 : Int32)) = (x < y) := by
  unfold lg_cmp
  by_cases z1 : x > y
  · rw [if_pos z1]
    exact propext ⟨fun h => absurd h (by decide), fun h => absurd h (by
      rw [gt_iff_lt, Int64.lt_iff_toInt_lt] at z1
      rw [Int64.lt_iff_toInt_lt]
      omega)⟩
  · rw [if_neg z1]
    by_cases z2 : x = y
    · rw [if_pos z2]
      exact propext ⟨fun h => absurd h (by decide), fun h => absurd h (by
        rw [Int64.lt_iff_toInt_lt, z2]
        omega)⟩
    · rw [if_neg z2]
      exact propext ⟨fun _ => by
        rw [gt_iff_lt, Int64.lt_iff_toInt_lt] at z1
        rw [← Int64.toInt_inj] at z2
        rw [Int64.lt_iff_toInt_lt]
        omega, fun _ => by decide⟩
theorem lc_g {x y : Int64} : ((0 : Int32) < lg_cmp x y) = (y < x) := by
  unfold lg_cmp
  by_cases z1 : x > y
  · rw [if_pos z1]
    exact propext ⟨fun _ => z1, fun _ => by decide⟩
  · rw [if_neg z1]
    split
    · exact propext ⟨fun h => absurd h (by decide), fun h => absurd h z1⟩
    · exact propext ⟨fun h => absurd h (by decide), fun h => absurd h z1⟩
theorem bZ_c {p q : Prop} [Decidable p] [Decidable q] (h : p ↔ q) : bZ p = bZ q := by
  by_cases z : p
  · rw [bZ_t z, bZ_t (h.1 z)]
  · rw [bZ_f z, bZ_f (fun y => z (h.2 y))]
theorem bZ_T : bZ True = nI 1 := bZ_t trivial
theorem bZ_F : bZ False = nI 0 := bZ_f (fun h => h)
section ZML
variable {g : Nat → Nat} {h : zMem} {m n : Nat} {x y : Int32}
theorem q_Mo_in {v a b : Int64} : call g Mo_in [.long v, .long a, .long b] h = some (some (.int (bZ (¬ v < a ∧ ¬ b < v))), h) := by
  rw [n_Mo_in]
  simp only [s_Mo_in_0, s_Mo_in_1, s_Mo_in_2, s_Mo_in_3, s_Mo_in_6, s_Mo_in_7, s_Mo_in_9, s_Mo_in_10, s_Mo_in_13, s_Mo_in_14, s_Mo_in_17, s_Mo_in_18, lc_l, lc_g, y_b1, y_b0, ↓reduceIte]
  unfold bZ
  repeat' split
  all_goals first | rfl | contradiction | (exfalso; simp_all; done)
theorem q_in0 {k : Nat} (hk : k < 1000000) : call g Mo_in [.long x.toInt64, .long (lN 0), .long (lN k)] h = some (some (.int (bZ (¬ x < 0 ∧ x < nI (k + 1)))), h) := by
  rw [q_Mo_in, ← nI_l (show 0 < 2 ^ 31 by decide), ← nI_l (show k < 2 ^ 31 by omega)]
  congr 3
  apply congrArg
  apply bZ_c
  rw [l_lt, l_lt, i_lt, i_lt, i_lt, i_lt, nI_toInt (by omega), nI_toInt (by omega), nI_toInt (by omega)]
  have h2 : (0 : Int32).toInt = 0 := rfl
  rw [h2]
  omega
theorem q_inx {k : Nat} (hk : k < 1000000) : call g Mo_in [.long x.toInt64, .long (lN 0), .long (nI k - nI 1).toInt64] h = some (some (.int (bZ (¬ x < 0 ∧ x < nI k))), h) := by
  rw [q_Mo_in, ← nI_l (show 0 < 2 ^ 31 by decide)]
  congr 3
  apply congrArg
  apply bZ_c
  rw [l_lt, l_lt, i_lt, i_lt, i_lt, i_lt, nI_toInt (by omega), nI_toInt (by omega)]
  have h2 : (0 : Int32).toInt = 0 := rfl
  have h3 : (nI k - nI 1).toInt = (k : Int) - 1 := by
    cases k with
    | zero => rfl
    | succ k => rw [y_sub (by omega), nI_toInt (by omega)]; omega
  rw [h2, h3]
  omega
theorem q_Mo_isYear : call g Mo_isYear [.int x] h = some (some (.int (bZ (¬ x < 0 ∧ x < nI 1000))), h) := by
  have e : (999 : Int64) = lN 999 := by decide
  rw [n_Mo_isYear]
  simp only [s_Mo_isYear_0, s_Mo_isYear_1, s_Mo_isYear_2, s_Mo_isYear_3, s_Mo_isYear_6, s_Mo_isYear_9, e, q_in0 (show 999 < 1000000 by decide), kon_v, bZ_and, ↓reduceIte]
theorem q_Mo_isWay : call g Mo_isWay [.int x] h = some (some (.int (bZ (¬ x < 0 ∧ x < nI 8))), h) := by
  have e : (7 : Int64) = lN 7 := by decide
  rw [n_Mo_isWay]
  simp only [s_Mo_isWay_0, s_Mo_isWay_1, s_Mo_isWay_2, s_Mo_isWay_3, s_Mo_isWay_6, s_Mo_isWay_9, e, q_in0 (show 7 < 1000000 by decide), kon_v, bZ_and, ↓reduceIte]
theorem q_Mo_isField (hk : kd h m = 13) (hn : gI h m 9 = nI n) (h1 : n < 1000) : call g Mo_isField [.ref m, .int x] h = some (some (.int (bZ (¬ x < 0 ∧ x < nI n))), h) := by
  rw [n_Mo_isField]
  simp only [s_Mo_isField_0, s_Mo_isField_1, s_Mo_isField_2, s_Mo_isField_3, s_Mo_isField_4, s_Mo_isField_7, s_Mo_isField_8, s_Mo_isField_9, s_Mo_isField_10, s_Mo_isField_13, hk, hn, q_inx (show n < 1000000 by omega), kon_v, bZ_and, ↓reduceIte]
theorem q_Mo_isDeed (hk : kd h m = 13) (hn : gI h m 15 = nI n) (h1 : n < 1000) : call g Mo_isDeed [.ref m, .int x] h = some (some (.int (bZ (¬ x < 0 ∧ x < nI n))), h) := by
  rw [n_Mo_isDeed]
  simp only [s_Mo_isDeed_0, s_Mo_isDeed_1, s_Mo_isDeed_2, s_Mo_isDeed_3, s_Mo_isDeed_4, s_Mo_isDeed_7, s_Mo_isDeed_8, s_Mo_isDeed_9, s_Mo_isDeed_10, s_Mo_isDeed_13, hk, hn, q_inx (show n < 1000000 by omega), kon_v, bZ_and, ↓reduceIte]
theorem q_Mo_isSet : call g Mo_isSet [.int x] h = some (some (.int (bZ (0 < x ∧ x < nI 256))), h) := by
  have e : (255 : Int64) = lN 255 := by decide
  have e1 : lN 1 = (nI 1).toInt64 := by decide
  have e2 : lN 255 = (nI 255).toInt64 := by decide
  rw [n_Mo_isSet]
  simp only [s_Mo_isSet_0, s_Mo_isSet_1, s_Mo_isSet_2, s_Mo_isSet_3, s_Mo_isSet_6, s_Mo_isSet_9, e, e1, e2, q_Mo_in, l_lt, kon_v, bZ_and, ↓reduceIte]
  congr 3
  apply congrArg
  apply bZ_c
  rw [i_lt, i_lt, i_lt, i_lt, nI_toInt (by decide), nI_toInt (by decide), nI_toInt (by decide)]
  have h2 : (0 : Int32).toInt = 0 := rfl
  rw [h2]
  omega
theorem q_Mo_areTwo (hk : kd h m = 13) (hn : gI h m 9 = nI n) (h1 : n < 1000) : call g Mo_areTwo [.ref m, .int x, .int y] h = some (some (.int (bZ ((¬ x < 0 ∧ x < nI n) ∧ (¬ y < 0 ∧ y < nI n) ∧ ¬ x = y))), h) := by
  rw [n_Mo_areTwo]
  simp only [s_Mo_areTwo_0, s_Mo_areTwo_1, s_Mo_areTwo_2, s_Mo_areTwo_5, s_Mo_areTwo_8, s_Mo_areTwo_9, s_Mo_areTwo_10, s_Mo_areTwo_13, s_Mo_areTwo_16, s_Mo_areTwo_17, s_Mo_areTwo_18, s_Mo_areTwo_21, s_Mo_areTwo_22, s_Mo_areTwo_25, s_Mo_areTwo_26, q_Mo_isField hk hn h1, hk, kon_v, bZ_if, y_b1, y_b0, ↓reduceIte]
  unfold bZ
  repeat' split
  all_goals first | rfl | contradiction | (exfalso; simp_all; done)
theorem turR0 : ∀ v : Fin 256, (v.val &&& 135) ||| (if v.val &&& 8 = 0 then 0 else 32) ||| (if v.val &&& 32 = 0 then 0 else 8) ||| (if v.val &&& 16 = 0 then 0 else 64) ||| (if v.val &&& 64 = 0 then 0 else 16) = tur v.val := by decide +kernel
theorem q_Mo_turn {v : Nat} (hv : v < 256) : call g Mo_turn [.int (nI v)] h = some (some (.int (nI (tur v))), h) := by
  have e := turR0 ⟨v, hv⟩
  dsimp only at e
  have b1 : v &&& 8 < 256 := Nat.lt_of_le_of_lt Nat.and_le_left hv
  have b2 : v &&& 32 < 256 := Nat.lt_of_le_of_lt Nat.and_le_left hv
  have b3 : v &&& 16 < 256 := Nat.lt_of_le_of_lt Nat.and_le_left hv
  have b4 : v &&& 64 < 256 := Nat.lt_of_le_of_lt Nat.and_le_left hv
  rw [n_Mo_turn, ← e]
  by_cases z1 : v &&& 8 = 0 <;> by_cases z2 : v &&& 32 = 0 <;> by_cases z3 : v &&& 16 = 0 <;> by_cases z4 : v &&& 64 = 0 <;> simp (disch := omega) only [s_Mo_turn_0, s_Mo_turn_1, s_Mo_turn_4, s_Mo_turn_5, s_Mo_turn_6, s_Mo_turn_7, s_Mo_turn_8, s_Mo_turn_10, s_Mo_turn_11, s_Mo_turn_14, s_Mo_turn_16, s_Mo_turn_19, s_Mo_turn_20, s_Mo_turn_21, s_Mo_turn_22, s_Mo_turn_23, s_Mo_turn_24, s_Mo_turn_26, s_Mo_turn_27, s_Mo_turn_30, s_Mo_turn_32, s_Mo_turn_35, s_Mo_turn_36, s_Mo_turn_37, s_Mo_turn_38, s_Mo_turn_39, s_Mo_turn_40, s_Mo_turn_42, s_Mo_turn_43, s_Mo_turn_46, s_Mo_turn_48, s_Mo_turn_51, s_Mo_turn_52, s_Mo_turn_53, s_Mo_turn_54, s_Mo_turn_55, s_Mo_turn_56, s_Mo_turn_58, s_Mo_turn_59, s_Mo_turn_62, s_Mo_turn_64, s_Mo_turn_67, s_Mo_turn_68, s_Mo_turn_69, s_Mo_turn_70, s_Mo_turn_71, y_kd_sI, y_kd_sL, y_kd_sR, y_kd_cpI, y_kd_cpL, y_ln_sI, y_ln_sL, y_ln_sR, y_ln_cpI, y_ln_cpL, y_sz_sI, y_sz_sL, y_sz_sR, y_sz_cpI, y_sz_cpL, y_sl_sI, y_sl_sL, y_sl_sR, y_sl_cpI, y_sl_cpL, y_gI_sL, y_gI_sR, y_gI_cpI, y_gI_cpL, y_gI_nw, y_gL_sI, y_gL_sR, y_gL_cpI, y_gL_cpL, y_gL_nw, y_gR_sI, y_gR_sL, y_gR_cpI, y_gR_cpL, y_gR_nw, y_kd_nw, y_ln_nw, y_sz_nw, y_sl_nw, y_fx_int, y_fx_long, y_fx_ref, y_fx_null, y_fx_U, y_rf_s, y_rf_n, a_inb, a_ix, a_lt, a_eq, a_eq0, a_lt0, a_0lt, a_m1, a_m2, a_mlt, a_sub, a_dec, a_div, a_rem, a_shl, a_shr, a_bit, a_bit0, a_II, a_Ia, a_Ik, a_LL, a_La, a_Lk, a_RR, a_Ra, a_Rk, a_if0, a_if1, y_mul, y_and, y_or, nI_add, y_b1, y_b0, kon_v, kon_0, true_or, or_true, and_self, true_and, and_true, false_or, or_false, and_false, false_and, not_true_eq_false, not_false_eq_true, ite_self, ↓reduceIte, Nat.reduceEqDiff, Nat.reduceLeDiff, Nat.reduceAdd, Nat.reduceMul, Nat.reduceSub, Nat.reduceLT, Nat.reduceShiftLeft, Nat.reduceOr, Nat.reduceAnd, z1, z2, z3, z4, Nat.or_zero]
theorem q_Mo_greaterOf {k : Nat} (hk : k < 45) : call g Mo_greaterOf [.int (nI k)] h = some (some (.int (nI (pP k % 10))), h) := by
  have key : ∀ k : Fin 45, (∀ b : Fin 10, 1 ≤ b.val → b.val < pP k.val % 10 → (b.val + 1) * b.val / 2 ≤ k.val) ∧ ¬ (pP k.val % 10 + 1) * (pP k.val % 10) / 2 ≤ k.val ∧ 1 ≤ pP k.val % 10 := by decide +kernel
  obtain ⟨k1, k2, k3⟩ := key ⟨k, hk⟩
  dsimp only at k1 k2 k3
  have e0 : ∀ b : Nat, b < 10 → nI b * nI b = nI (b * b) := fun b _ => y_mul b b
  have fin : ∀ b : Nat, b ≤ 10 → (b + 1) * b < 1000 := fun b hb => Nat.lt_of_le_of_lt (Nat.mul_le_mul (show b + 1 ≤ 11 by omega) hb) (by decide)
  obtain ⟨x', h', e1, e2⟩ := l_loop (g := g) (M := Mo_greaterOf) (pc := 2) (st := []) (n := pP k % 10) (fun i (_ : Unit) => [.int (nI k), .int (nI i)]) (fun i _ h' => 1 ≤ i ∧ h' = h) (fun i x h' hi hh => by
    obtain ⟨h1, rfl⟩ := hh
    refine ⟨(), h', ?_, by omega, rfl⟩
    have f1 := fin i (by omega)
    have f2 := k1 ⟨i, by omega⟩ h1 hi
    dsimp only at f2
    have nz : (nI 2 = (0 : Int32)) = False := eq_false (by decide)
    have nl : (k < (i + 1) * i / 2) = False := eq_false (by omega)
    show ev g Mo_greaterOf 2 [.int (nI k), .int (nI i)] [] h' = ev g Mo_greaterOf 2 [.int (nI k), .int (nI (i + 1))] [] h'
    rw [s_Mo_greaterOf_2]
    simp (disch := omega) only [s_Mo_greaterOf_0, s_Mo_greaterOf_1, s_Mo_greaterOf_3, s_Mo_greaterOf_4, s_Mo_greaterOf_5, s_Mo_greaterOf_6, s_Mo_greaterOf_7, s_Mo_greaterOf_8, s_Mo_greaterOf_9, s_Mo_greaterOf_10, s_Mo_greaterOf_13, s_Mo_greaterOf_16, s_Mo_greaterOf_19, s_Mo_greaterOf_20, y_kd_sI, y_kd_sL, y_kd_sR, y_kd_cpI, y_kd_cpL, y_ln_sI, y_ln_sL, y_ln_sR, y_ln_cpI, y_ln_cpL, y_sz_sI, y_sz_sL, y_sz_sR, y_sz_cpI, y_sz_cpL, y_sl_sI, y_sl_sL, y_sl_sR, y_sl_cpI, y_sl_cpL, y_gI_sL, y_gI_sR, y_gI_cpI, y_gI_cpL, y_gI_nw, y_gL_sI, y_gL_sR, y_gL_cpI, y_gL_cpL, y_gL_nw, y_gR_sI, y_gR_sL, y_gR_cpI, y_gR_cpL, y_gR_nw, y_kd_nw, y_ln_nw, y_sz_nw, y_sl_nw, y_fx_int, y_fx_long, y_fx_ref, y_fx_null, y_fx_U, y_rf_s, y_rf_n, a_inb, a_ix, a_lt, a_eq, a_eq0, a_lt0, a_0lt, a_m1, a_m2, a_mlt, a_sub, a_dec, a_div, a_rem, a_shl, a_shr, a_bit, a_bit0, a_II, a_Ia, a_Ik, a_LL, a_La, a_Lk, a_RR, a_Ra, a_Rk, a_if0, a_if1, y_mul, y_and, y_or, nI_add, y_b1, y_b0, kon_v, kon_0, true_or, or_true, and_self, true_and, and_true, false_or, or_false, and_false, false_and, not_true_eq_false, not_false_eq_true, ite_self, ↓reduceIte, Nat.reduceEqDiff, Nat.reduceLeDiff, Nat.reduceAdd, Nat.reduceMul, Nat.reduceSub, Nat.reduceLT, Nat.reduceShiftLeft, Nat.reduceOr, Nat.reduceAnd, nz, nl]) (pP k % 10 - 1) 1 () h (by omega) ⟨Nat.le_refl _, rfl⟩
  rw [n_Mo_greaterOf]
  obtain ⟨-, rfl⟩ := e2
  have f1 := fin (pP k % 10) (by omega)
  have nz : (nI 2 = (0 : Int32)) = False := eq_false (by decide)
  have nl : (k < (pP k % 10 + 1) * (pP k % 10) / 2) = True := eq_true (by omega)
  rw [s_Mo_greaterOf_0, s_Mo_greaterOf_1]
  refine Eq.trans (show _ = ev g Mo_greaterOf 2 [.int (nI k), .int (nI 1)] [] h' from rfl) (e1.trans ?_)
  simp (disch := omega) only [s_Mo_greaterOf_0, s_Mo_greaterOf_1, s_Mo_greaterOf_2, s_Mo_greaterOf_3, s_Mo_greaterOf_4, s_Mo_greaterOf_5, s_Mo_greaterOf_6, s_Mo_greaterOf_7, s_Mo_greaterOf_8, s_Mo_greaterOf_9, s_Mo_greaterOf_10, s_Mo_greaterOf_13, s_Mo_greaterOf_16, s_Mo_greaterOf_19, s_Mo_greaterOf_20, y_kd_sI, y_kd_sL, y_kd_sR, y_kd_cpI, y_kd_cpL, y_ln_sI, y_ln_sL, y_ln_sR, y_ln_cpI, y_ln_cpL, y_sz_sI, y_sz_sL, y_sz_sR, y_sz_cpI, y_sz_cpL, y_sl_sI, y_sl_sL, y_sl_sR, y_sl_cpI, y_sl_cpL, y_gI_sL, y_gI_sR, y_gI_cpI, y_gI_cpL, y_gI_nw, y_gL_sI, y_gL_sR, y_gL_cpI, y_gL_cpL, y_gL_nw, y_gR_sI, y_gR_sL, y_gR_cpI, y_gR_cpL, y_gR_nw, y_kd_nw, y_ln_nw, y_sz_nw, y_sl_nw, y_fx_int, y_fx_long, y_fx_ref, y_fx_null, y_fx_U, y_rf_s, y_rf_n, a_inb, a_ix, a_lt, a_eq, a_eq0, a_lt0, a_0lt, a_m1, a_m2, a_mlt, a_sub, a_dec, a_div, a_rem, a_shl, a_shr, a_bit, a_bit0, a_II, a_Ia, a_Ik, a_LL, a_La, a_Lk, a_RR, a_Ra, a_Rk, a_if0, a_if1, y_mul, y_and, y_or, nI_add, y_b1, y_b0, kon_v, kon_0, true_or, or_true, and_self, true_and, and_true, false_or, or_false, and_false, false_and, not_true_eq_false, not_false_eq_true, ite_self, ↓reduceIte, Nat.reduceEqDiff, Nat.reduceLeDiff, Nat.reduceAdd, Nat.reduceMul, Nat.reduceSub, Nat.reduceLT, Nat.reduceShiftLeft, Nat.reduceOr, Nat.reduceAnd, nz, nl]
theorem q_Mo_lesserOf {k : Nat} (hk : k < 45) : call g Mo_lesserOf [.int (nI k)] h = some (some (.int (nI (pP k / 10))), h) := by
  have key : ∀ k : Fin 45, k.val - (pP k.val % 10) * (pP k.val % 10 - 1) / 2 = pP k.val / 10 ∧ (pP k.val % 10) * (pP k.val % 10 - 1) / 2 ≤ k.val ∧ 1 ≤ pP k.val % 10 ∧ (pP k.val % 10) * (pP k.val % 10 - 1) < 1000 := by decide +kernel
  obtain ⟨k1, k2, k3, k4⟩ := key ⟨k, hk⟩
  dsimp only at k1 k2 k3 k4
  have nz : (nI 2 = (0 : Int32)) = False := eq_false (by decide)
  rw [n_Mo_lesserOf, ← k1]
  simp (disch := omega) only [s_Mo_lesserOf_0, s_Mo_lesserOf_1, s_Mo_lesserOf_4, s_Mo_lesserOf_5, s_Mo_lesserOf_6, s_Mo_lesserOf_7, s_Mo_lesserOf_8, s_Mo_lesserOf_9, s_Mo_lesserOf_10, s_Mo_lesserOf_11, s_Mo_lesserOf_12, s_Mo_lesserOf_13, s_Mo_lesserOf_14, y_kd_sI, y_kd_sL, y_kd_sR, y_kd_cpI, y_kd_cpL, y_ln_sI, y_ln_sL, y_ln_sR, y_ln_cpI, y_ln_cpL, y_sz_sI, y_sz_sL, y_sz_sR, y_sz_cpI, y_sz_cpL, y_sl_sI, y_sl_sL, y_sl_sR, y_sl_cpI, y_sl_cpL, y_gI_sL, y_gI_sR, y_gI_cpI, y_gI_cpL, y_gI_nw, y_gL_sI, y_gL_sR, y_gL_cpI, y_gL_cpL, y_gL_nw, y_gR_sI, y_gR_sL, y_gR_cpI, y_gR_cpL, y_gR_nw, y_kd_nw, y_ln_nw, y_sz_nw, y_sl_nw, y_fx_int, y_fx_long, y_fx_ref, y_fx_null, y_fx_U, y_rf_s, y_rf_n, a_inb, a_ix, a_lt, a_eq, a_eq0, a_lt0, a_0lt, a_m1, a_m2, a_mlt, a_sub, a_dec, a_div, a_rem, a_shl, a_shr, a_bit, a_bit0, a_II, a_Ia, a_Ik, a_LL, a_La, a_Lk, a_RR, a_Ra, a_Rk, a_if0, a_if1, y_mul, y_and, y_or, nI_add, y_b1, y_b0, kon_v, kon_0, true_or, or_true, and_self, true_and, and_true, false_or, or_false, and_false, false_and, not_true_eq_false, not_false_eq_true, ite_self, ↓reduceIte, Nat.reduceEqDiff, Nat.reduceLeDiff, Nat.reduceAdd, Nat.reduceMul, Nat.reduceSub, Nat.reduceLT, Nat.reduceShiftLeft, Nat.reduceOr, Nat.reduceAnd, q_Mo_greaterOf hk, nz]
end ZML
