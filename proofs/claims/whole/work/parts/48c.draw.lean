/-! draws -/
theorem sI_sI {h : zMem} {a k : Nat} {v w : Int32} : sI (sI h a k v) a k w = sI h a k w := by
  unfold sI u2
  dsimp only
  congr 6
  funext x y
  by_cases c : x = a ∧ y = k
  · rw [if_pos c, if_pos c]
  · rw [if_neg c, if_neg c, if_neg c]
def sdN (s : Int32) : Int32 := s * 1103515245 + nI 12345
def topI (x : Int32) : Nat := x.toBitVec.toNat / 65536
theorem topI_lt (x : Int32) : topI x < 65536 := by
  unfold topI
  have := x.toBitVec.isLt
  omega
theorem i_top (x : Int32) : iUshr x (nI 16) = nI (topI x) := by
  apply Int32.toBitVec_inj.1
  show (x.toUInt32 >>> ((nI 16).toUInt32 &&& Int32.toUInt32 31)).toBitVec = BitVec.ofNat 32 (topI x)
  rw [UInt32.toBitVec_shiftRight, show ((nI 16).toUInt32 &&& Int32.toUInt32 31).toBitVec % 32 = BitVec.ofNat 32 16 by decide]
  show x.toBitVec >>> BitVec.ofNat 32 16 = _
  apply BitVec.eq_of_toNat_eq
  have := topI_lt x
  rw [BitVec.ushiftRight_eq', BitVec.toNat_ushiftRight, BitVec.toNat_ofNat, BitVec.toNat_ofNat, Nat.mod_eq_of_lt (by decide : 16 < 2 ^ 32), Nat.shiftRight_eq_div_pow, Nat.mod_eq_of_lt (by omega)]
  rfl
def bxL (r0 c0 r1 c1 : Nat) : Int64 := lN (orN (fun i => if bxB r0 c0 r1 c1 i = true then 2 ^ i else 0) 64)
theorem lb_bxL {r0 c0 r1 c1 i : Nat} (hi : i < 64) : lb (bxL r0 c0 r1 c1) i = bxB r0 c0 r1 c1 i := by
  have key : ∀ i : Nat, (orN (fun i => if bxB r0 c0 r1 c1 i = true then 2 ^ i else 0) 64).testBit i = true ↔ i < 64 ∧ bxB r0 c0 r1 c1 i = true := fun i => by
    rw [orN_bit]
    constructor
    · rintro ⟨j, hj, e⟩
      rw [if_bit, Nat.testBit_two_pow, decide_eq_true_eq] at e
      obtain ⟨e1, e2⟩ := e
      subst e2
      exact ⟨hj, e1⟩
    · rintro ⟨h1, h2⟩
      exact ⟨i, h1, if_bit.2 ⟨h2, by rw [Nat.testBit_two_pow]; exact decide_eq_true rfl⟩⟩
  unfold bxL
  rw [lb_N (Nat.lt_pow_two_of_testBit _ (fun j hj => by
    rw [Bool.eq_false_iff]
    intro c
    have := (key j).1 c
    omega))]
  apply Bool.eq_iff_iff.2
  rw [key]
  exact ⟨fun c => c.2, fun c => ⟨hi, c⟩⟩
/-- a box from a seed, and the seed behind it -/
def bxS (s : Int32) : Int64 := bxL (topI (sdN s) % 6) (topI (sdN (sdN s)) % 6) (min 7 (topI (sdN s) % 6 + topI (sdN (sdN (sdN s))) % 3)) (min 7 (topI (sdN (sdN s)) % 6 + topI (sdN (sdN (sdN (sdN s)))) % 3))
def sd4 (s : Int32) : Int32 := sdN (sdN (sdN (sdN s)))
def drI (s : Int32) : Nat := wyL (bxS s) (bxS (sd4 s)) * 8 + wyL (bxS (sd4 s)) (bxS (sd4 (sd4 s)))
def drW (s : Int32) : Nat := wyL (bxS s) (bxS (sd4 (sd4 s)))
/-- lands drawn: the seed, and what is found -/
abbrev zDr : Type := Int32 × (Nat → Nat)
def drF (z : zDr) : zDr := (sd4 (sd4 (sd4 z.1)), up z.2 (drI z.1) (z.2 (drI z.1) ||| 1 <<< drW z.1))
def drN (z : zDr) : Nat → zDr
  | 0 => z
  | n + 1 => drF (drN z n)
theorem drI_lt (s : Int32) : drI s < 64 := by
  have h1 := wyL_lt (bxS s) (bxS (sd4 s))
  have h2 := wyL_lt (bxS (sd4 s)) (bxS (sd4 (sd4 s)))
  unfold drI
  omega
theorem drW_lt (s : Int32) : drW s < 8 := wyL_lt _ _
theorem drN_lt {z : zDr} (hz : ∀ i : Nat, i < 64 → z.2 i < 256) : ∀ n i : Nat, i < 64 → (drN z n).2 i < 256
  | 0, i, hi => hz i hi
  | n + 1, i, hi => by
    have ih := drN_lt hz n
    show (up (drN z n).2 _ _) i < 256
    unfold up
    split
    · refine Nat.or_lt_two_pow (n := 8) (ih _ (drI_lt _)) ?_
      rw [Nat.one_shiftLeft]
      exact Nat.pow_lt_pow_right (by decide) (drW_lt _)
    · exact ih i hi
section ZDR
variable {g : Nat → Nat} {B SL m l b : Nat} {h h' : zMem} {H : zH} {T : zT} {Λ K : zL} {κ : Bool} {ρ ρ' : Nat → Int32} {s : Int32}
theorem q_drawBelow {n : Nat} (hk : kd h b = 1) (hs : gI h b 0 = s) (h1 : 1 ≤ n) (h2 : n < 100) : call g Board_drawBelow [.ref b, .int (nI n)] h = some (some (.int (nI (topI (sdN s) % n))), sI h b 0 (sdN s)) := by
  have es : s * 1103515245 + nI 12345 = sdN s := rfl
  have t1 := topI_lt (sdN s)
  have nz : (nI n = (0 : Int32)) = False := eq_false (by rw [a_eq0 (by omega)]; omega)
  rw [n_Board_drawBelow]
  by_cases c : n = 1
  · subst c
    simp (disch := omega) only [s_Board_drawBelow_0, s_Board_drawBelow_1, s_Board_drawBelow_2, s_Board_drawBelow_5, s_Board_drawBelow_7, s_Board_drawBelow_8, s_Board_drawBelow_11, s_Board_drawBelow_12, s_Board_drawBelow_15, s_Board_drawBelow_16, s_Board_drawBelow_19, s_Board_drawBelow_21, s_Board_drawBelow_22, s_Board_drawBelow_23, s_Board_drawBelow_24, s_Board_drawBelow_27, s_Board_drawBelow_28, y_kd_sI, y_kd_sL, y_kd_sR, y_kd_cpI, y_kd_cpL, y_ln_sI, y_ln_sL, y_ln_sR, y_ln_cpI, y_ln_cpL, y_sz_sI, y_sz_sL, y_sz_sR, y_sz_cpI, y_sz_cpL, y_sl_sI, y_sl_sL, y_sl_sR, y_sl_cpI, y_sl_cpL, y_gI_sL, y_gI_sR, y_gI_cpI, y_gI_cpL, y_gI_nw, y_gL_sI, y_gL_sR, y_gL_cpI, y_gL_cpL, y_gL_nw, y_gR_sI, y_gR_sL, y_gR_cpI, y_gR_cpL, y_gR_nw, y_kd_nw, y_ln_nw, y_sz_nw, y_sl_nw, y_fx_int, y_fx_long, y_fx_ref, y_fx_null, y_fx_U, y_rf_s, y_rf_n, a_inb, a_ix, a_lt, a_eq, a_eq0, a_lt0, a_0lt, a_m1, a_m2, a_mlt, a_sub, a_dec, a_div, a_rem, a_shl, a_shr, a_bit, a_bit0, a_II, a_Ia, a_Ik, a_LL, a_La, a_Lk, a_RR, a_Ra, a_Rk, a_if0, a_if1, y_mul, y_and, y_or, nI_add, y_b1, y_b0, kon_v, kon_0, true_or, or_true, and_self, true_and, and_true, false_or, or_false, and_false, false_and, not_true_eq_false, not_false_eq_true, ite_self, ↓reduceIte, Nat.reduceEqDiff, Nat.reduceLeDiff, Nat.reduceAdd, Nat.reduceMul, Nat.reduceSub, Nat.reduceLT, Nat.reduceShiftLeft, Nat.reduceOr, Nat.reduceAnd, Bool.false_eq_true, b_if, b_z1, b_z0, b_zz, b_a1, b_a0, b_lc, b_zF, b_zT, b_lbit, hk, hs, es, i_top, q_Math_max, nz]
  · have ct : (1 < n) = True := eq_true (by omega)
    simp (disch := omega) only [s_Board_drawBelow_0, s_Board_drawBelow_1, s_Board_drawBelow_2, s_Board_drawBelow_5, s_Board_drawBelow_7, s_Board_drawBelow_8, s_Board_drawBelow_11, s_Board_drawBelow_12, s_Board_drawBelow_15, s_Board_drawBelow_16, s_Board_drawBelow_19, s_Board_drawBelow_21, s_Board_drawBelow_22, s_Board_drawBelow_23, s_Board_drawBelow_24, s_Board_drawBelow_27, s_Board_drawBelow_28, y_kd_sI, y_kd_sL, y_kd_sR, y_kd_cpI, y_kd_cpL, y_ln_sI, y_ln_sL, y_ln_sR, y_ln_cpI, y_ln_cpL, y_sz_sI, y_sz_sL, y_sz_sR, y_sz_cpI, y_sz_cpL, y_sl_sI, y_sl_sL, y_sl_sR, y_sl_cpI, y_sl_cpL, y_gI_sL, y_gI_sR, y_gI_cpI, y_gI_cpL, y_gI_nw, y_gL_sI, y_gL_sR, y_gL_cpI, y_gL_cpL, y_gL_nw, y_gR_sI, y_gR_sL, y_gR_cpI, y_gR_cpL, y_gR_nw, y_kd_nw, y_ln_nw, y_sz_nw, y_sl_nw, y_fx_int, y_fx_long, y_fx_ref, y_fx_null, y_fx_U, y_rf_s, y_rf_n, a_inb, a_ix, a_lt, a_eq, a_eq0, a_lt0, a_0lt, a_m1, a_m2, a_mlt, a_sub, a_dec, a_div, a_rem, a_shl, a_shr, a_bit, a_bit0, a_II, a_Ia, a_Ik, a_LL, a_La, a_Lk, a_RR, a_Ra, a_Rk, a_if0, a_if1, y_mul, y_and, y_or, nI_add, y_b1, y_b0, kon_v, kon_0, true_or, or_true, and_self, true_and, and_true, false_or, or_false, and_false, false_and, not_true_eq_false, not_false_eq_true, ite_self, ↓reduceIte, Nat.reduceEqDiff, Nat.reduceLeDiff, Nat.reduceAdd, Nat.reduceMul, Nat.reduceSub, Nat.reduceLT, Nat.reduceShiftLeft, Nat.reduceOr, Nat.reduceAnd, Bool.false_eq_true, b_if, b_z1, b_z0, b_zz, b_a1, b_a0, b_lc, b_zF, b_zT, b_lbit, hk, hs, es, i_top, q_Math_max, ct, nz]
theorem q_below {n : Nat} (hk : kd h m = 13) (hs : gI h m 27 = s) (h1 : 1 ≤ n) (h2 : n < 100) : call g Mo_below [.ref m, .int (nI n)] h = some (some (.int (nI (topI (sdN s) % n))), sI h m 27 (sdN s)) := by
  have es : s * 1103515245 + nI 12345 = sdN s := rfl
  have t1 := topI_lt (sdN s)
  have nz : (nI n = (0 : Int32)) = False := eq_false (by rw [a_eq0 (by omega)]; omega)
  rw [n_Mo_below]
  simp (disch := omega) only [s_Mo_below_0, s_Mo_below_1, s_Mo_below_2, s_Mo_below_5, s_Mo_below_8, s_Mo_below_9, s_Mo_below_12, s_Mo_below_13, s_Mo_below_16, s_Mo_below_17, s_Mo_below_20, s_Mo_below_22, s_Mo_below_23, s_Mo_below_24, s_Mo_below_25, y_kd_sI, y_kd_sL, y_kd_sR, y_kd_cpI, y_kd_cpL, y_ln_sI, y_ln_sL, y_ln_sR, y_ln_cpI, y_ln_cpL, y_sz_sI, y_sz_sL, y_sz_sR, y_sz_cpI, y_sz_cpL, y_sl_sI, y_sl_sL, y_sl_sR, y_sl_cpI, y_sl_cpL, y_gI_sL, y_gI_sR, y_gI_cpI, y_gI_cpL, y_gI_nw, y_gL_sI, y_gL_sR, y_gL_cpI, y_gL_cpL, y_gL_nw, y_gR_sI, y_gR_sL, y_gR_cpI, y_gR_cpL, y_gR_nw, y_kd_nw, y_ln_nw, y_sz_nw, y_sl_nw, y_fx_int, y_fx_long, y_fx_ref, y_fx_null, y_fx_U, y_rf_s, y_rf_n, a_inb, a_ix, a_lt, a_eq, a_eq0, a_lt0, a_0lt, a_m1, a_m2, a_mlt, a_sub, a_dec, a_div, a_rem, a_shl, a_shr, a_bit, a_bit0, a_II, a_Ia, a_Ik, a_LL, a_La, a_Lk, a_RR, a_Ra, a_Rk, a_if0, a_if1, y_mul, y_and, y_or, nI_add, y_b1, y_b0, kon_v, kon_0, true_or, or_true, and_self, true_and, and_true, false_or, or_false, and_false, false_and, not_true_eq_false, not_false_eq_true, ite_self, ↓reduceIte, Nat.reduceEqDiff, Nat.reduceLeDiff, Nat.reduceAdd, Nat.reduceMul, Nat.reduceSub, Nat.reduceLT, Nat.reduceShiftLeft, Nat.reduceOr, Nat.reduceAnd, Bool.false_eq_true, b_if, b_z1, b_z0, b_zz, b_a1, b_a0, b_lc, b_zF, b_zT, b_lbit, hk, hs, es, i_top, nz]
theorem q_box' {r0 c0 r1 c1 : Nat} (h1 : r0 ≤ 7) (h2 : c0 ≤ 7) (h3 : r1 ≤ 7) (h4 : c1 ≤ 7) (h5 : r0 ≤ r1) (h6 : c0 ≤ c1) : call g Board_box [.int (nI r0), .int (nI c0), .int (nI r1), .int (nI c1)] h = some (some (.long (bxL r0 c0 r1 c1)), h) := by
  obtain ⟨w, w1, w2⟩ := q_box (g := g) (h := h) h1 h2 h3 h4 h5 h6
  rw [w2, show w = bxL r0 c0 r1 c1 from lb_ext (fun i hi => by rw [w1 i hi, lb_bxL hi])]
theorem q_min7 {x : Nat} (hx : x < 100) : call g Math_min [.int (nI 7), .int (nI x)] h = some (some (.int (nI (min 7 x))), h) := by
  have e := a_lt (a := x) (b := 7) (by omega) (by omega)
  rw [q_Math_min]
  by_cases c : x < 7
  · rw [if_pos (by rw [e]; exact c), show min 7 x = x by omega]
  · rw [if_neg (by rw [e]; exact c), show min 7 x = 7 by omega]
theorem q_drawBox (hk : kd h b = 1) (hs : gI h b 0 = s) : call g Board_drawBox [.ref b] h = some (some (.long (bxS s)), sI h b 0 (sd4 s)) := by
  have e1 := q_drawBelow (g := g) (n := 6) hk hs (by decide) (by decide)
  have e2 := q_drawBelow (g := g) (h := sI h b 0 (sdN s)) (n := 6) (s := sdN s) (b := b) hk a_II (by decide) (by decide)
  have e3 := q_drawBelow (g := g) (h := sI h b 0 (sdN (sdN s))) (n := 3) (s := sdN (sdN s)) (b := b) hk a_II (by decide) (by decide)
  have e4 := q_drawBelow (g := g) (h := sI h b 0 (sdN (sdN (sdN s)))) (n := 3) (s := sdN (sdN (sdN s))) (b := b) hk a_II (by decide) (by decide)
  rw [sI_sI] at e2 e3 e4
  unfold bxS sd4
  have t1 := Nat.mod_lt (topI (sdN s)) (show 0 < 6 by decide)
  have t2 := Nat.mod_lt (topI (sdN (sdN s))) (show 0 < 6 by decide)
  have t3 := Nat.mod_lt (topI (sdN (sdN (sdN s)))) (show 0 < 3 by decide)
  have t4 := Nat.mod_lt (topI (sdN (sdN (sdN (sdN s))))) (show 0 < 3 by decide)
  generalize topI (sdN s) % 6 = r at *
  generalize topI (sdN (sdN s)) % 6 = c at *
  generalize topI (sdN (sdN (sdN s))) % 3 = x at *
  generalize topI (sdN (sdN (sdN (sdN s)))) % 3 = y at *
  have f1 := fun h => q_min7 (g := g) (h := h) (x := r + x) (by omega)
  have f2 := fun h => q_min7 (g := g) (h := h) (x := c + y) (by omega)
  have f3 := fun h => q_box' (g := g) (h := h) (r0 := r) (c0 := c) (r1 := min 7 (r + x)) (c1 := min 7 (c + y)) (by omega) (by omega) (by omega) (by omega) (by omega) (by omega)
  rw [n_Board_drawBox]
  simp (disch := omega) only [s_Board_drawBox_0, s_Board_drawBox_1, s_Board_drawBox_3, s_Board_drawBox_6, s_Board_drawBox_7, s_Board_drawBox_8, s_Board_drawBox_10, s_Board_drawBox_13, s_Board_drawBox_14, s_Board_drawBox_16, s_Board_drawBox_17, s_Board_drawBox_18, s_Board_drawBox_19, s_Board_drawBox_22, s_Board_drawBox_23, s_Board_drawBox_26, s_Board_drawBox_27, s_Board_drawBox_29, s_Board_drawBox_30, s_Board_drawBox_31, s_Board_drawBox_32, s_Board_drawBox_35, s_Board_drawBox_36, s_Board_drawBox_39, s_Board_drawBox_41, s_Board_drawBox_42, s_Board_drawBox_43, s_Board_drawBox_44, s_Board_drawBox_46, s_Board_drawBox_49, y_kd_sI, y_kd_sL, y_kd_sR, y_kd_cpI, y_kd_cpL, y_ln_sI, y_ln_sL, y_ln_sR, y_ln_cpI, y_ln_cpL, y_sz_sI, y_sz_sL, y_sz_sR, y_sz_cpI, y_sz_cpL, y_sl_sI, y_sl_sL, y_sl_sR, y_sl_cpI, y_sl_cpL, y_gI_sL, y_gI_sR, y_gI_cpI, y_gI_cpL, y_gI_nw, y_gL_sI, y_gL_sR, y_gL_cpI, y_gL_cpL, y_gL_nw, y_gR_sI, y_gR_sL, y_gR_cpI, y_gR_cpL, y_gR_nw, y_kd_nw, y_ln_nw, y_sz_nw, y_sl_nw, y_fx_int, y_fx_long, y_fx_ref, y_fx_null, y_fx_U, y_rf_s, y_rf_n, a_inb, a_ix, a_lt, a_eq, a_eq0, a_lt0, a_0lt, a_m1, a_m2, a_mlt, a_sub, a_dec, a_div, a_rem, a_shl, a_shr, a_bit, a_bit0, a_II, a_Ia, a_Ik, a_LL, a_La, a_Lk, a_RR, a_Ra, a_Rk, a_if0, a_if1, y_mul, y_and, y_or, nI_add, y_b1, y_b0, kon_v, kon_0, true_or, or_true, and_self, true_and, and_true, false_or, or_false, and_false, false_and, not_true_eq_false, not_false_eq_true, ite_self, ↓reduceIte, Nat.reduceEqDiff, Nat.reduceLeDiff, Nat.reduceAdd, Nat.reduceMul, Nat.reduceSub, Nat.reduceLT, Nat.reduceShiftLeft, Nat.reduceOr, Nat.reduceAnd, Bool.false_eq_true, b_if, b_z1, b_z0, b_zz, b_a1, b_a0, b_lc, b_zF, b_zT, b_lbit, hk, e1, e2, e3, e4, f1, f2, f3]
theorem q_drawLand (hk : kd h b = 1) (hr : gR h b 1 = some (b + 1)) (hk2 : kd h (b + 1) = 20) (hl : ln h (b + 1) = 64) {E : Nat → Nat} (hs : gI h b 0 = s) (hE : ∀ i : Nat, i < 64 → gI h (b + 1) i = nI (E i)) : call g Board_drawLand [.ref b] h = some (none, sI (sI h b 0 (sd4 (sd4 (sd4 s)))) (b + 1) (drI s) (nI (E (drI s) ||| 1 <<< drW s))) := by
  have e1 := q_drawBox (g := g) hk hs
  have e2 := q_drawBox (g := g) (h := sI h b 0 (sd4 s)) (s := sd4 s) (b := b) hk a_II
  have e3 := q_drawBox (g := g) (h := sI h b 0 (sd4 (sd4 s))) (s := sd4 (sd4 s)) (b := b) hk a_II
  rw [sI_sI] at e2 e3
  have il := drI_lt s
  have wl := drW_lt s
  have v := hE _ il
  unfold drI at il v
  unfold drW at wl
  have w1 := wyL_lt (bxS s) (bxS (sd4 s))
  have w2 := wyL_lt (bxS (sd4 s)) (bxS (sd4 (sd4 s)))
  unfold drI drW
  rw [n_Board_drawLand]
  simp (disch := omega) only [s_Board_drawLand_0, s_Board_drawLand_1, s_Board_drawLand_4, s_Board_drawLand_5, s_Board_drawLand_6, s_Board_drawLand_9, s_Board_drawLand_10, s_Board_drawLand_11, s_Board_drawLand_14, s_Board_drawLand_16, s_Board_drawLand_17, s_Board_drawLand_20, s_Board_drawLand_21, s_Board_drawLand_22, s_Board_drawLand_25, s_Board_drawLand_27, s_Board_drawLand_28, s_Board_drawLand_29, s_Board_drawLand_31, s_Board_drawLand_34, s_Board_drawLand_35, s_Board_drawLand_36, s_Board_drawLand_37, s_Board_drawLand_38, s_Board_drawLand_39, s_Board_drawLand_41, s_Board_drawLand_44, s_Board_drawLand_45, s_Board_drawLand_46, s_Board_drawLand_47, y_kd_sI, y_kd_sL, y_kd_sR, y_kd_cpI, y_kd_cpL, y_ln_sI, y_ln_sL, y_ln_sR, y_ln_cpI, y_ln_cpL, y_sz_sI, y_sz_sL, y_sz_sR, y_sz_cpI, y_sz_cpL, y_sl_sI, y_sl_sL, y_sl_sR, y_sl_cpI, y_sl_cpL, y_gI_sL, y_gI_sR, y_gI_cpI, y_gI_cpL, y_gI_nw, y_gL_sI, y_gL_sR, y_gL_cpI, y_gL_cpL, y_gL_nw, y_gR_sI, y_gR_sL, y_gR_cpI, y_gR_cpL, y_gR_nw, y_kd_nw, y_ln_nw, y_sz_nw, y_sl_nw, y_fx_int, y_fx_long, y_fx_ref, y_fx_null, y_fx_U, y_rf_s, y_rf_n, a_inb, a_ix, a_lt, a_eq, a_eq0, a_lt0, a_0lt, a_m1, a_m2, a_mlt, a_sub, a_dec, a_div, a_rem, a_shl, a_shr, a_bit, a_bit0, a_II, a_Ia, a_Ik, a_LL, a_La, a_Lk, a_RR, a_Ra, a_Rk, a_if0, a_if1, y_mul, y_and, y_or, nI_add, y_b1, y_b0, kon_v, kon_0, true_or, or_true, and_self, true_and, and_true, false_or, or_false, and_false, false_and, not_true_eq_false, not_false_eq_true, ite_self, ↓reduceIte, Nat.reduceEqDiff, Nat.reduceLeDiff, Nat.reduceAdd, Nat.reduceMul, Nat.reduceSub, Nat.reduceLT, Nat.reduceShiftLeft, Nat.reduceOr, Nat.reduceAnd, Bool.false_eq_true, b_if, b_z1, b_z0, b_zz, b_a1, b_a0, b_lc, b_zF, b_zT, b_lbit, hk, hr, hk2, hl, e1, e2, e3, q_Board_wayOf, v]
theorem q_Mo_box (oM : oMo h m) (hs : gI h m 27 = s) : call g Mo_box [.ref m] h = some (some (.long (bxS s)), sI h m 27 (sd4 s)) := by
  have hk := mo_k oM
  have e1 := q_below (g := g) (n := 6) hk hs (by decide) (by decide)
  have e2 := q_below (g := g) (h := sI h m 27 (sdN s)) (n := 6) (s := sdN s) (m := m) hk a_II (by decide) (by decide)
  have e3 := q_below (g := g) (h := sI h m 27 (sdN (sdN s))) (n := 3) (s := sdN (sdN s)) (m := m) hk a_II (by decide) (by decide)
  have e4 := q_below (g := g) (h := sI h m 27 (sdN (sdN (sdN s)))) (n := 3) (s := sdN (sdN (sdN s))) (m := m) hk a_II (by decide) (by decide)
  rw [sI_sI] at e2 e3 e4
  unfold bxS sd4
  have t1 := Nat.mod_lt (topI (sdN s)) (show 0 < 6 by decide)
  have t2 := Nat.mod_lt (topI (sdN (sdN s))) (show 0 < 6 by decide)
  have t3 := Nat.mod_lt (topI (sdN (sdN (sdN s)))) (show 0 < 3 by decide)
  have t4 := Nat.mod_lt (topI (sdN (sdN (sdN (sdN s))))) (show 0 < 3 by decide)
  generalize topI (sdN s) % 6 = r0 at *
  generalize topI (sdN (sdN s)) % 6 = c0 at *
  generalize topI (sdN (sdN (sdN s))) % 3 = rm at *
  generalize topI (sdN (sdN (sdN (sdN s)))) % 3 = cm at *
  have go : ev g Mo_box 0 [.ref m, zU, zU, zU, zU, zU, zU, zU, zU] [] h = ev g Mo_box 33 [.ref m, .int (nI r0), .int (nI c0), .int (nI rm), .int (nI cm), .long (lN 0), zU, .int (nI r0), zU] [] (sI h m 27 (sdN (sdN (sdN (sdN s))))) := by
    simp (disch := omega) only [s_Mo_box_0, s_Mo_box_1, s_Mo_box_3, s_Mo_box_6, s_Mo_box_7, s_Mo_box_8, s_Mo_box_10, s_Mo_box_13, s_Mo_box_14, s_Mo_box_15, s_Mo_box_16, s_Mo_box_19, s_Mo_box_20, s_Mo_box_21, s_Mo_box_22, s_Mo_box_25, s_Mo_box_27, s_Mo_box_28, s_Mo_box_30, s_Mo_box_31, s_Mo_box_35, s_Mo_box_36, s_Mo_box_37, s_Mo_box_38, s_Mo_box_41, s_Mo_box_43, s_Mo_box_45, s_Mo_box_48, s_Mo_box_49, s_Mo_box_51, s_Mo_box_53, s_Mo_box_54, s_Mo_box_56, s_Mo_box_57, s_Mo_box_60, s_Mo_box_62, s_Mo_box_64, s_Mo_box_67, s_Mo_box_69, s_Mo_box_70, s_Mo_box_72, s_Mo_box_74, s_Mo_box_75, s_Mo_box_77, s_Mo_box_78, s_Mo_box_79, s_Mo_box_80, s_Mo_box_82, s_Mo_box_85, s_Mo_box_88, s_Mo_box_91, s_Mo_box_94, s_Mo_box_96, y_kd_sI, y_kd_sL, y_kd_sR, y_kd_cpI, y_kd_cpL, y_ln_sI, y_ln_sL, y_ln_sR, y_ln_cpI, y_ln_cpL, y_sz_sI, y_sz_sL, y_sz_sR, y_sz_cpI, y_sz_cpL, y_sl_sI, y_sl_sL, y_sl_sR, y_sl_cpI, y_sl_cpL, y_gI_sL, y_gI_sR, y_gI_cpI, y_gI_cpL, y_gI_nw, y_gL_sI, y_gL_sR, y_gL_cpI, y_gL_cpL, y_gL_nw, y_gR_sI, y_gR_sL, y_gR_cpI, y_gR_cpL, y_gR_nw, y_kd_nw, y_ln_nw, y_sz_nw, y_sl_nw, y_fx_int, y_fx_long, y_fx_ref, y_fx_null, y_fx_U, y_rf_s, y_rf_n, a_inb, a_ix, a_lt, a_eq, a_eq0, a_lt0, a_0lt, a_m1, a_m2, a_mlt, a_sub, a_dec, a_div, a_rem, a_shl, a_shr, a_bit, a_bit0, a_II, a_Ia, a_Ik, a_LL, a_La, a_Lk, a_RR, a_Ra, a_Rk, a_if0, a_if1, y_mul, y_and, y_or, nI_add, y_b1, y_b0, kon_v, kon_0, true_or, or_true, and_self, true_and, and_true, false_or, or_false, and_false, false_and, not_true_eq_false, not_false_eq_true, ite_self, ↓reduceIte, Nat.reduceEqDiff, Nat.reduceLeDiff, Nat.reduceAdd, Nat.reduceMul, Nat.reduceSub, Nat.reduceLT, Nat.reduceShiftLeft, Nat.reduceOr, Nat.reduceAnd, Bool.false_eq_true, b_if, b_z1, b_z0, b_zz, b_a1, b_a0, b_lc, b_zF, b_zT, b_lbit, hk, e1, e2, e3, e4]
  rw [n_Mo_box, go]
  generalize sI h m 27 (sdN (sdN (sdN (sdN s)))) = h9
  have inner : ∀ (r : Nat) (v0 : Int64), r ≤ 7 → ∃ w : Int64, (∀ i : Nat, i < 64 → (lb w i = true ↔ lb v0 i = true ∨ (i / 8 = r ∧ c0 ≤ i % 8 ∧ i % 8 ≤ min 7 (c0 + cm)))) ∧ ev g Mo_box 51 [.ref m, .int (nI r0), .int (nI c0), .int (nI rm), .int (nI cm), .long v0, zU, .int (nI r), .int (nI c0)] [] h9 = ev g Mo_box 88 [.ref m, .int (nI r0), .int (nI c0), .int (nI rm), .int (nI cm), .long w, zU, .int (nI r), .int (nI (min 7 (c0 + cm) + 1))] [] h9 := fun r v0 hr => by
    obtain ⟨w, h', f1, f2, rfl⟩ := l_loop (g := g) (M := Mo_box) (pc := 51) (st := []) (n := min 7 (c0 + cm) + 1) (fun c (w : Int64) => [.ref m, .int (nI r0), .int (nI c0), .int (nI rm), .int (nI cm), .long w, zU, .int (nI r), .int (nI c)]) (fun c w h' => (c0 ≤ c ∧ ∀ i : Nat, i < 64 → (lb w i = true ↔ lb v0 i = true ∨ (i / 8 = r ∧ c0 ≤ i % 8 ∧ i % 8 < c))) ∧ h' = h9) (fun c w h' hc hh => by
      obtain ⟨⟨P0, P⟩, rfl⟩ := hh
      have hl1 : (c0 + cm < c) = False := eq_false (by omega)
      have hl2 : (c < 8) = True := eq_true (by omega)
      refine ⟨w ||| lShl (lN 1) (nI (8 * r + c)), h', ?_, ⟨by omega, fun i hi => ?_⟩, rfl⟩
      · show ev g Mo_box 51 [.ref m, .int (nI r0), .int (nI c0), .int (nI rm), .int (nI cm), .long w, zU, .int (nI r), .int (nI c)] [] h' = ev g Mo_box 51 [.ref m, .int (nI r0), .int (nI c0), .int (nI rm), .int (nI cm), .long (w ||| lShl (lN 1) (nI (8 * r + c))), zU, .int (nI r), .int (nI (c + 1))] [] h'
        rw [s_Mo_box_51]
        simp (disch := omega) only [s_Mo_box_0, s_Mo_box_1, s_Mo_box_3, s_Mo_box_6, s_Mo_box_7, s_Mo_box_8, s_Mo_box_10, s_Mo_box_13, s_Mo_box_14, s_Mo_box_15, s_Mo_box_16, s_Mo_box_19, s_Mo_box_20, s_Mo_box_21, s_Mo_box_22, s_Mo_box_25, s_Mo_box_27, s_Mo_box_28, s_Mo_box_30, s_Mo_box_31, s_Mo_box_35, s_Mo_box_36, s_Mo_box_37, s_Mo_box_38, s_Mo_box_41, s_Mo_box_43, s_Mo_box_45, s_Mo_box_48, s_Mo_box_49, s_Mo_box_53, s_Mo_box_54, s_Mo_box_56, s_Mo_box_57, s_Mo_box_60, s_Mo_box_62, s_Mo_box_64, s_Mo_box_67, s_Mo_box_69, s_Mo_box_70, s_Mo_box_72, s_Mo_box_74, s_Mo_box_75, s_Mo_box_77, s_Mo_box_78, s_Mo_box_79, s_Mo_box_80, s_Mo_box_82, s_Mo_box_85, s_Mo_box_88, s_Mo_box_91, s_Mo_box_94, s_Mo_box_96, y_kd_sI, y_kd_sL, y_kd_sR, y_kd_cpI, y_kd_cpL, y_ln_sI, y_ln_sL, y_ln_sR, y_ln_cpI, y_ln_cpL, y_sz_sI, y_sz_sL, y_sz_sR, y_sz_cpI, y_sz_cpL, y_sl_sI, y_sl_sL, y_sl_sR, y_sl_cpI, y_sl_cpL, y_gI_sL, y_gI_sR, y_gI_cpI, y_gI_cpL, y_gI_nw, y_gL_sI, y_gL_sR, y_gL_cpI, y_gL_cpL, y_gL_nw, y_gR_sI, y_gR_sL, y_gR_cpI, y_gR_cpL, y_gR_nw, y_kd_nw, y_ln_nw, y_sz_nw, y_sl_nw, y_fx_int, y_fx_long, y_fx_ref, y_fx_null, y_fx_U, y_rf_s, y_rf_n, a_inb, a_ix, a_lt, a_eq, a_eq0, a_lt0, a_0lt, a_m1, a_m2, a_mlt, a_sub, a_dec, a_div, a_rem, a_shl, a_shr, a_bit, a_bit0, a_II, a_Ia, a_Ik, a_LL, a_La, a_Lk, a_RR, a_Ra, a_Rk, a_if0, a_if1, y_mul, y_and, y_or, nI_add, y_b1, y_b0, kon_v, kon_0, true_or, or_true, and_self, true_and, and_true, false_or, or_false, and_false, false_and, not_true_eq_false, not_false_eq_true, ite_self, ↓reduceIte, Nat.reduceEqDiff, Nat.reduceLeDiff, Nat.reduceAdd, Nat.reduceMul, Nat.reduceSub, Nat.reduceLT, Nat.reduceShiftLeft, Nat.reduceOr, Nat.reduceAnd, Bool.false_eq_true, b_if, b_z1, b_z0, b_zz, b_a1, b_a0, b_lc, b_zF, b_zT, b_lbit, hl1, hl2]
      · rw [lb_or, Bool.or_eq_true, P i hi, lb_bit (by omega), decide_eq_true_eq]
        constructor
        · rintro ((d | d) | d)
          · exact Or.inl d
          · exact Or.inr (by omega)
          · exact Or.inr (by omega)
        · rintro (d | d)
          · exact Or.inl (Or.inl d)
          · by_cases q : i = 8 * r + c
            · exact Or.inr q
            · exact Or.inl (Or.inr (by omega))) (min 7 (c0 + cm) + 1 - c0) c0 v0 h9 (by omega) ⟨⟨Nat.le_refl _, fun i hi => ⟨fun c => Or.inl c, fun c => by rcases c with c | c; exact c; omega⟩⟩, rfl⟩
    refine ⟨w, fun i hi => ?_, ?_⟩
    · rw [f2.2 i hi]
      constructor
      · rintro (d | d)
        · exact Or.inl d
        · exact Or.inr (by omega)
      · rintro (d | d)
        · exact Or.inl d
        · exact Or.inr (by omega)
    · refine Eq.trans f1 ?_
      rw [s_Mo_box_51]
      by_cases q : c0 + cm < min 7 (c0 + cm) + 1
      · simp (disch := omega) only [s_Mo_box_0, s_Mo_box_1, s_Mo_box_3, s_Mo_box_6, s_Mo_box_7, s_Mo_box_8, s_Mo_box_10, s_Mo_box_13, s_Mo_box_14, s_Mo_box_15, s_Mo_box_16, s_Mo_box_19, s_Mo_box_20, s_Mo_box_21, s_Mo_box_22, s_Mo_box_25, s_Mo_box_27, s_Mo_box_28, s_Mo_box_30, s_Mo_box_31, s_Mo_box_35, s_Mo_box_36, s_Mo_box_37, s_Mo_box_38, s_Mo_box_41, s_Mo_box_43, s_Mo_box_45, s_Mo_box_48, s_Mo_box_49, s_Mo_box_53, s_Mo_box_54, s_Mo_box_56, s_Mo_box_57, s_Mo_box_60, s_Mo_box_62, s_Mo_box_64, s_Mo_box_67, s_Mo_box_69, s_Mo_box_70, s_Mo_box_72, s_Mo_box_74, s_Mo_box_75, s_Mo_box_77, s_Mo_box_78, s_Mo_box_79, s_Mo_box_80, s_Mo_box_82, s_Mo_box_85, s_Mo_box_91, s_Mo_box_94, s_Mo_box_96, y_kd_sI, y_kd_sL, y_kd_sR, y_kd_cpI, y_kd_cpL, y_ln_sI, y_ln_sL, y_ln_sR, y_ln_cpI, y_ln_cpL, y_sz_sI, y_sz_sL, y_sz_sR, y_sz_cpI, y_sz_cpL, y_sl_sI, y_sl_sL, y_sl_sR, y_sl_cpI, y_sl_cpL, y_gI_sL, y_gI_sR, y_gI_cpI, y_gI_cpL, y_gI_nw, y_gL_sI, y_gL_sR, y_gL_cpI, y_gL_cpL, y_gL_nw, y_gR_sI, y_gR_sL, y_gR_cpI, y_gR_cpL, y_gR_nw, y_kd_nw, y_ln_nw, y_sz_nw, y_sl_nw, y_fx_int, y_fx_long, y_fx_ref, y_fx_null, y_fx_U, y_rf_s, y_rf_n, a_inb, a_ix, a_lt, a_eq, a_eq0, a_lt0, a_0lt, a_m1, a_m2, a_mlt, a_sub, a_dec, a_div, a_rem, a_shl, a_shr, a_bit, a_bit0, a_II, a_Ia, a_Ik, a_LL, a_La, a_Lk, a_RR, a_Ra, a_Rk, a_if0, a_if1, y_mul, y_and, y_or, nI_add, y_b1, y_b0, kon_v, kon_0, true_or, or_true, and_self, true_and, and_true, false_or, or_false, and_false, false_and, not_true_eq_false, not_false_eq_true, ite_self, ↓reduceIte, Nat.reduceEqDiff, Nat.reduceLeDiff, Nat.reduceAdd, Nat.reduceMul, Nat.reduceSub, Nat.reduceLT, Nat.reduceShiftLeft, Nat.reduceOr, Nat.reduceAnd, Bool.false_eq_true, b_if, b_z1, b_z0, b_zz, b_a1, b_a0, b_lc, b_zF, b_zT, b_lbit, eq_true q]
      · have q8 : (min 7 (c0 + cm) + 1 < 8) = False := eq_false (by omega)
        simp (disch := omega) only [s_Mo_box_0, s_Mo_box_1, s_Mo_box_3, s_Mo_box_6, s_Mo_box_7, s_Mo_box_8, s_Mo_box_10, s_Mo_box_13, s_Mo_box_14, s_Mo_box_15, s_Mo_box_16, s_Mo_box_19, s_Mo_box_20, s_Mo_box_21, s_Mo_box_22, s_Mo_box_25, s_Mo_box_27, s_Mo_box_28, s_Mo_box_30, s_Mo_box_31, s_Mo_box_35, s_Mo_box_36, s_Mo_box_37, s_Mo_box_38, s_Mo_box_41, s_Mo_box_43, s_Mo_box_45, s_Mo_box_48, s_Mo_box_49, s_Mo_box_53, s_Mo_box_54, s_Mo_box_56, s_Mo_box_57, s_Mo_box_60, s_Mo_box_62, s_Mo_box_64, s_Mo_box_67, s_Mo_box_69, s_Mo_box_70, s_Mo_box_72, s_Mo_box_74, s_Mo_box_75, s_Mo_box_77, s_Mo_box_78, s_Mo_box_79, s_Mo_box_80, s_Mo_box_82, s_Mo_box_85, s_Mo_box_91, s_Mo_box_94, s_Mo_box_96, y_kd_sI, y_kd_sL, y_kd_sR, y_kd_cpI, y_kd_cpL, y_ln_sI, y_ln_sL, y_ln_sR, y_ln_cpI, y_ln_cpL, y_sz_sI, y_sz_sL, y_sz_sR, y_sz_cpI, y_sz_cpL, y_sl_sI, y_sl_sL, y_sl_sR, y_sl_cpI, y_sl_cpL, y_gI_sL, y_gI_sR, y_gI_cpI, y_gI_cpL, y_gI_nw, y_gL_sI, y_gL_sR, y_gL_cpI, y_gL_cpL, y_gL_nw, y_gR_sI, y_gR_sL, y_gR_cpI, y_gR_cpL, y_gR_nw, y_kd_nw, y_ln_nw, y_sz_nw, y_sl_nw, y_fx_int, y_fx_long, y_fx_ref, y_fx_null, y_fx_U, y_rf_s, y_rf_n, a_inb, a_ix, a_lt, a_eq, a_eq0, a_lt0, a_0lt, a_m1, a_m2, a_mlt, a_sub, a_dec, a_div, a_rem, a_shl, a_shr, a_bit, a_bit0, a_II, a_Ia, a_Ik, a_LL, a_La, a_Lk, a_RR, a_Ra, a_Rk, a_if0, a_if1, y_mul, y_and, y_or, nI_add, y_b1, y_b0, kon_v, kon_0, true_or, or_true, and_self, true_and, and_true, false_or, or_false, and_false, false_and, not_true_eq_false, not_false_eq_true, ite_self, ↓reduceIte, Nat.reduceEqDiff, Nat.reduceLeDiff, Nat.reduceAdd, Nat.reduceMul, Nat.reduceSub, Nat.reduceLT, Nat.reduceShiftLeft, Nat.reduceOr, Nat.reduceAnd, Bool.false_eq_true, b_if, b_z1, b_z0, b_zz, b_a1, b_a0, b_lc, b_zF, b_zT, b_lbit, eq_false q, q8]
  obtain ⟨⟨w, v8⟩, h', f1, ⟨f20, f2⟩, rfl⟩ := l_loop (g := g) (M := Mo_box) (pc := 33) (st := []) (n := min 7 (r0 + rm) + 1) (fun r (w : Int64 × Value) => [.ref m, .int (nI r0), .int (nI c0), .int (nI rm), .int (nI cm), .long w.1, zU, .int (nI r), w.2]) (fun r w h' => (r0 ≤ r ∧ ∀ i : Nat, i < 64 → (lb w.1 i = true ↔ (r0 ≤ i / 8 ∧ i / 8 < r ∧ c0 ≤ i % 8 ∧ i % 8 ≤ min 7 (c0 + cm)))) ∧ h' = h9) (fun r w h' hr hh => by
    obtain ⟨⟨P0, P⟩, rfl⟩ := hh
    obtain ⟨w, v8⟩ := w
    have hl1 : (r0 + rm < r) = False := eq_false (by omega)
    have hl2 : (r < 8) = True := eq_true (by omega)
    obtain ⟨w', Q, e⟩ := inner r w (by omega)
    refine ⟨(w', .int (nI (min 7 (c0 + cm) + 1))), h', ?_, ⟨by omega, fun i hi => ?_⟩, rfl⟩
    · show ev g Mo_box 33 [.ref m, .int (nI r0), .int (nI c0), .int (nI rm), .int (nI cm), .long w, zU, .int (nI r), v8] [] h' = ev g Mo_box 33 [.ref m, .int (nI r0), .int (nI c0), .int (nI rm), .int (nI cm), .long w', zU, .int (nI (r + 1)), .int (nI (min 7 (c0 + cm) + 1))] [] h'
      have a1 : ev g Mo_box 33 [.ref m, .int (nI r0), .int (nI c0), .int (nI rm), .int (nI cm), .long w, zU, .int (nI r), v8] [] h' = ev g Mo_box 51 [.ref m, .int (nI r0), .int (nI c0), .int (nI rm), .int (nI cm), .long w, zU, .int (nI r), .int (nI c0)] [] h' := by
        rw [s_Mo_box_33]
        simp (disch := omega) only [s_Mo_box_0, s_Mo_box_1, s_Mo_box_3, s_Mo_box_6, s_Mo_box_7, s_Mo_box_8, s_Mo_box_10, s_Mo_box_13, s_Mo_box_14, s_Mo_box_15, s_Mo_box_16, s_Mo_box_19, s_Mo_box_20, s_Mo_box_21, s_Mo_box_22, s_Mo_box_25, s_Mo_box_27, s_Mo_box_28, s_Mo_box_30, s_Mo_box_31, s_Mo_box_35, s_Mo_box_36, s_Mo_box_37, s_Mo_box_38, s_Mo_box_41, s_Mo_box_43, s_Mo_box_45, s_Mo_box_48, s_Mo_box_49, s_Mo_box_53, s_Mo_box_54, s_Mo_box_56, s_Mo_box_57, s_Mo_box_60, s_Mo_box_62, s_Mo_box_64, s_Mo_box_67, s_Mo_box_69, s_Mo_box_70, s_Mo_box_72, s_Mo_box_74, s_Mo_box_75, s_Mo_box_77, s_Mo_box_78, s_Mo_box_79, s_Mo_box_80, s_Mo_box_82, s_Mo_box_85, s_Mo_box_88, s_Mo_box_91, s_Mo_box_94, s_Mo_box_96, y_kd_sI, y_kd_sL, y_kd_sR, y_kd_cpI, y_kd_cpL, y_ln_sI, y_ln_sL, y_ln_sR, y_ln_cpI, y_ln_cpL, y_sz_sI, y_sz_sL, y_sz_sR, y_sz_cpI, y_sz_cpL, y_sl_sI, y_sl_sL, y_sl_sR, y_sl_cpI, y_sl_cpL, y_gI_sL, y_gI_sR, y_gI_cpI, y_gI_cpL, y_gI_nw, y_gL_sI, y_gL_sR, y_gL_cpI, y_gL_cpL, y_gL_nw, y_gR_sI, y_gR_sL, y_gR_cpI, y_gR_cpL, y_gR_nw, y_kd_nw, y_ln_nw, y_sz_nw, y_sl_nw, y_fx_int, y_fx_long, y_fx_ref, y_fx_null, y_fx_U, y_rf_s, y_rf_n, a_inb, a_ix, a_lt, a_eq, a_eq0, a_lt0, a_0lt, a_m1, a_m2, a_mlt, a_sub, a_dec, a_div, a_rem, a_shl, a_shr, a_bit, a_bit0, a_II, a_Ia, a_Ik, a_LL, a_La, a_Lk, a_RR, a_Ra, a_Rk, a_if0, a_if1, y_mul, y_and, y_or, nI_add, y_b1, y_b0, kon_v, kon_0, true_or, or_true, and_self, true_and, and_true, false_or, or_false, and_false, false_and, not_true_eq_false, not_false_eq_true, ite_self, ↓reduceIte, Nat.reduceEqDiff, Nat.reduceLeDiff, Nat.reduceAdd, Nat.reduceMul, Nat.reduceSub, Nat.reduceLT, Nat.reduceShiftLeft, Nat.reduceOr, Nat.reduceAnd, Bool.false_eq_true, b_if, b_z1, b_z0, b_zz, b_a1, b_a0, b_lc, b_zF, b_zT, b_lbit, hl1, hl2]
      rw [a1, e]
      simp (disch := omega) only [s_Mo_box_0, s_Mo_box_1, s_Mo_box_3, s_Mo_box_6, s_Mo_box_7, s_Mo_box_8, s_Mo_box_10, s_Mo_box_13, s_Mo_box_14, s_Mo_box_15, s_Mo_box_16, s_Mo_box_19, s_Mo_box_20, s_Mo_box_21, s_Mo_box_22, s_Mo_box_25, s_Mo_box_27, s_Mo_box_28, s_Mo_box_30, s_Mo_box_31, s_Mo_box_35, s_Mo_box_36, s_Mo_box_37, s_Mo_box_38, s_Mo_box_41, s_Mo_box_43, s_Mo_box_45, s_Mo_box_48, s_Mo_box_49, s_Mo_box_53, s_Mo_box_54, s_Mo_box_56, s_Mo_box_57, s_Mo_box_60, s_Mo_box_62, s_Mo_box_64, s_Mo_box_67, s_Mo_box_69, s_Mo_box_70, s_Mo_box_72, s_Mo_box_74, s_Mo_box_75, s_Mo_box_77, s_Mo_box_78, s_Mo_box_79, s_Mo_box_80, s_Mo_box_82, s_Mo_box_85, s_Mo_box_88, s_Mo_box_91, s_Mo_box_94, s_Mo_box_96, y_kd_sI, y_kd_sL, y_kd_sR, y_kd_cpI, y_kd_cpL, y_ln_sI, y_ln_sL, y_ln_sR, y_ln_cpI, y_ln_cpL, y_sz_sI, y_sz_sL, y_sz_sR, y_sz_cpI, y_sz_cpL, y_sl_sI, y_sl_sL, y_sl_sR, y_sl_cpI, y_sl_cpL, y_gI_sL, y_gI_sR, y_gI_cpI, y_gI_cpL, y_gI_nw, y_gL_sI, y_gL_sR, y_gL_cpI, y_gL_cpL, y_gL_nw, y_gR_sI, y_gR_sL, y_gR_cpI, y_gR_cpL, y_gR_nw, y_kd_nw, y_ln_nw, y_sz_nw, y_sl_nw, y_fx_int, y_fx_long, y_fx_ref, y_fx_null, y_fx_U, y_rf_s, y_rf_n, a_inb, a_ix, a_lt, a_eq, a_eq0, a_lt0, a_0lt, a_m1, a_m2, a_mlt, a_sub, a_dec, a_div, a_rem, a_shl, a_shr, a_bit, a_bit0, a_II, a_Ia, a_Ik, a_LL, a_La, a_Lk, a_RR, a_Ra, a_Rk, a_if0, a_if1, y_mul, y_and, y_or, nI_add, y_b1, y_b0, kon_v, kon_0, true_or, or_true, and_self, true_and, and_true, false_or, or_false, and_false, false_and, not_true_eq_false, not_false_eq_true, ite_self, ↓reduceIte, Nat.reduceEqDiff, Nat.reduceLeDiff, Nat.reduceAdd, Nat.reduceMul, Nat.reduceSub, Nat.reduceLT, Nat.reduceShiftLeft, Nat.reduceOr, Nat.reduceAnd, Bool.false_eq_true, b_if, b_z1, b_z0, b_zz, b_a1, b_a0, b_lc, b_zF, b_zT, b_lbit]
    · rw [Q i hi]
      dsimp only at P
      rw [P i hi]
      constructor
      · rintro (d | d)
        · omega
        · omega
      · intro d
        by_cases q : i / 8 = r
        · exact Or.inr ⟨q, d.2.2⟩
        · exact Or.inl (by omega)) (min 7 (r0 + rm) + 1 - r0) r0 (lN 0, zU) h9 (by omega) ⟨⟨Nat.le_refl _, fun i hi => by
      dsimp only
      rw [lb_0]
      exact ⟨fun c => absurd c (by decide), fun c => by omega⟩⟩, rfl⟩
  have ew : w = bxL r0 c0 (min 7 (r0 + rm)) (min 7 (c0 + cm)) := lb_ext (fun i hi => by
    rw [lb_bxL hi]
    apply Bool.eq_iff_iff.2
    dsimp only at f2
    rw [f2 i hi, bxB_t]
    omega)
  rw [← ew]
  refine Eq.trans f1 ?_
  dsimp only
  rw [s_Mo_box_33]
  by_cases q : r0 + rm < min 7 (r0 + rm) + 1
  · simp (disch := omega) only [s_Mo_box_0, s_Mo_box_1, s_Mo_box_3, s_Mo_box_6, s_Mo_box_7, s_Mo_box_8, s_Mo_box_10, s_Mo_box_13, s_Mo_box_14, s_Mo_box_15, s_Mo_box_16, s_Mo_box_19, s_Mo_box_20, s_Mo_box_21, s_Mo_box_22, s_Mo_box_25, s_Mo_box_27, s_Mo_box_28, s_Mo_box_30, s_Mo_box_31, s_Mo_box_35, s_Mo_box_36, s_Mo_box_37, s_Mo_box_38, s_Mo_box_41, s_Mo_box_43, s_Mo_box_45, s_Mo_box_48, s_Mo_box_49, s_Mo_box_51, s_Mo_box_53, s_Mo_box_54, s_Mo_box_56, s_Mo_box_57, s_Mo_box_60, s_Mo_box_62, s_Mo_box_64, s_Mo_box_67, s_Mo_box_69, s_Mo_box_70, s_Mo_box_72, s_Mo_box_74, s_Mo_box_75, s_Mo_box_77, s_Mo_box_78, s_Mo_box_79, s_Mo_box_80, s_Mo_box_82, s_Mo_box_85, s_Mo_box_88, s_Mo_box_91, s_Mo_box_94, s_Mo_box_96, y_kd_sI, y_kd_sL, y_kd_sR, y_kd_cpI, y_kd_cpL, y_ln_sI, y_ln_sL, y_ln_sR, y_ln_cpI, y_ln_cpL, y_sz_sI, y_sz_sL, y_sz_sR, y_sz_cpI, y_sz_cpL, y_sl_sI, y_sl_sL, y_sl_sR, y_sl_cpI, y_sl_cpL, y_gI_sL, y_gI_sR, y_gI_cpI, y_gI_cpL, y_gI_nw, y_gL_sI, y_gL_sR, y_gL_cpI, y_gL_cpL, y_gL_nw, y_gR_sI, y_gR_sL, y_gR_cpI, y_gR_cpL, y_gR_nw, y_kd_nw, y_ln_nw, y_sz_nw, y_sl_nw, y_fx_int, y_fx_long, y_fx_ref, y_fx_null, y_fx_U, y_rf_s, y_rf_n, a_inb, a_ix, a_lt, a_eq, a_eq0, a_lt0, a_0lt, a_m1, a_m2, a_mlt, a_sub, a_dec, a_div, a_rem, a_shl, a_shr, a_bit, a_bit0, a_II, a_Ia, a_Ik, a_LL, a_La, a_Lk, a_RR, a_Ra, a_Rk, a_if0, a_if1, y_mul, y_and, y_or, nI_add, y_b1, y_b0, kon_v, kon_0, true_or, or_true, and_self, true_and, and_true, false_or, or_false, and_false, false_and, not_true_eq_false, not_false_eq_true, ite_self, ↓reduceIte, Nat.reduceEqDiff, Nat.reduceLeDiff, Nat.reduceAdd, Nat.reduceMul, Nat.reduceSub, Nat.reduceLT, Nat.reduceShiftLeft, Nat.reduceOr, Nat.reduceAnd, Bool.false_eq_true, b_if, b_z1, b_z0, b_zz, b_a1, b_a0, b_lc, b_zF, b_zT, b_lbit, eq_true q]
  · have q8 : (min 7 (r0 + rm) + 1 < 8) = False := eq_false (by omega)
    simp (disch := omega) only [s_Mo_box_0, s_Mo_box_1, s_Mo_box_3, s_Mo_box_6, s_Mo_box_7, s_Mo_box_8, s_Mo_box_10, s_Mo_box_13, s_Mo_box_14, s_Mo_box_15, s_Mo_box_16, s_Mo_box_19, s_Mo_box_20, s_Mo_box_21, s_Mo_box_22, s_Mo_box_25, s_Mo_box_27, s_Mo_box_28, s_Mo_box_30, s_Mo_box_31, s_Mo_box_35, s_Mo_box_36, s_Mo_box_37, s_Mo_box_38, s_Mo_box_41, s_Mo_box_43, s_Mo_box_45, s_Mo_box_48, s_Mo_box_49, s_Mo_box_51, s_Mo_box_53, s_Mo_box_54, s_Mo_box_56, s_Mo_box_57, s_Mo_box_60, s_Mo_box_62, s_Mo_box_64, s_Mo_box_67, s_Mo_box_69, s_Mo_box_70, s_Mo_box_72, s_Mo_box_74, s_Mo_box_75, s_Mo_box_77, s_Mo_box_78, s_Mo_box_79, s_Mo_box_80, s_Mo_box_82, s_Mo_box_85, s_Mo_box_88, s_Mo_box_91, s_Mo_box_94, s_Mo_box_96, y_kd_sI, y_kd_sL, y_kd_sR, y_kd_cpI, y_kd_cpL, y_ln_sI, y_ln_sL, y_ln_sR, y_ln_cpI, y_ln_cpL, y_sz_sI, y_sz_sL, y_sz_sR, y_sz_cpI, y_sz_cpL, y_sl_sI, y_sl_sL, y_sl_sR, y_sl_cpI, y_sl_cpL, y_gI_sL, y_gI_sR, y_gI_cpI, y_gI_cpL, y_gI_nw, y_gL_sI, y_gL_sR, y_gL_cpI, y_gL_cpL, y_gL_nw, y_gR_sI, y_gR_sL, y_gR_cpI, y_gR_cpL, y_gR_nw, y_kd_nw, y_ln_nw, y_sz_nw, y_sl_nw, y_fx_int, y_fx_long, y_fx_ref, y_fx_null, y_fx_U, y_rf_s, y_rf_n, a_inb, a_ix, a_lt, a_eq, a_eq0, a_lt0, a_0lt, a_m1, a_m2, a_mlt, a_sub, a_dec, a_div, a_rem, a_shl, a_shr, a_bit, a_bit0, a_II, a_Ia, a_Ik, a_LL, a_La, a_Lk, a_RR, a_Ra, a_Rk, a_if0, a_if1, y_mul, y_and, y_or, nI_add, y_b1, y_b0, kon_v, kon_0, true_or, or_true, and_self, true_and, and_true, false_or, or_false, and_false, false_and, not_true_eq_false, not_false_eq_true, ite_self, ↓reduceIte, Nat.reduceEqDiff, Nat.reduceLeDiff, Nat.reduceAdd, Nat.reduceMul, Nat.reduceSub, Nat.reduceLT, Nat.reduceShiftLeft, Nat.reduceOr, Nat.reduceAnd, Bool.false_eq_true, b_if, b_z1, b_z0, b_zz, b_a1, b_a0, b_lc, b_zF, b_zT, b_lbit, eq_false q, q8]
end ZDR
