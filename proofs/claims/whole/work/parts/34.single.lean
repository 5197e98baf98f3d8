/-! one way: what counts it, and that a telling has one for each pair -/
def sing (s : Nat) : Prop := ∃ w : Nat, w < 8 ∧ s = 2 ^ w
theorem sb_sing {x w : Nat} (h : sb x (2 ^ w)) (hx : ¬ x = 0) : x = 2 ^ w := by
  apply sb_eq h
  intro i hi
  rw [Nat.testBit_two_pow, decide_eq_true_eq] at hi
  subst hi
  obtain ⟨j, hj⟩ := ne0_bit.1 hx
  have := h j hj
  rw [Nat.testBit_two_pow, decide_eq_true_eq] at this
  rw [this]
  exact hj
def aSn (A : aA) : Prop := ∀ i : Nat, i ≤ aL A → ∀ j : Nat, j < i → sing (aF A i (pP j))
theorem aSn_back {c b L : Nat} {F : Nat → Nat → Nat} {T : Nat → Nat} (h : ∀ i : Nat, i ≤ L → ∀ j : Nat, j < i → sing (F i (pP j))) : aSn (aBack c b F T (aK F T L)) := by
  cases e : aK F T L with
  | none => exact fun i hi => h i (Nat.le_trans hi (Nat.zero_le _))
  | some r => exact fun i hi => h i (Nat.le_trans hi (aK_le L r e).1)
theorem aSn_step {n : Nat} {A : aA} (hn : n ≤ 10) (hA : aOK n A) (h0 : aS A = 0) (h : aSn A) : aSn (aStep n A) := by
  obtain ⟨A1, A2, A3, A4, A5, A6, A7, A8, A9, A10⟩ := hA
  obtain ⟨g1, g2⟩ := A7 (Or.inl h0)
  have h45 := pn_le hn
  have F0 := A6 (by omega) (by omega) (aL A) (Nat.le_refl _)
  obtain ⟨p1, p2⟩ := pP_lt (show aL A < 45 by omega)
  have p3 := (pP_n hn (show aL A < 45 by omega)).2 g1
  have f8 := (fOK_at hn g1 F0).1
  have u4 := (un1 ⟨aF A (aL A) (pP (aL A)), f8⟩ ⟨aT A (aL A), by have := A5 (aL A); omega⟩ g2).2.2.2
  dsimp only at u4
  unfold aStep
  generalize hwq : nx (aF A (aL A) (pP (aL A))) (aT A (aL A)) = w at g2 u4 ⊢
  by_cases hw : whl n (gc n (lsF (aF A (aL A)) (pP (aL A)) w))
  · rw [tst_t hw]
    have hU : ∀ i : Nat, i ≤ aL A + 1 → ∀ j : Nat, j < i → sing (up (aF A) (aL A + 1) (gc n (lsF (aF A (aL A)) (pP (aL A)) w)) i (pP j)) := by
      intro i hi j hj
      by_cases e : i = aL A + 1
      · subst e
        rw [up_s]
        have j45 : j < 45 := by omega
        obtain ⟨q1, q2⟩ := pP_lt j45
        have q3 := (pP_n hn j45).2 (show j < n * (n - 1) / 2 by omega)
        have ep : pP j = pP j / 10 * 10 + pP j % 10 := by omega
        have hs := gc_sub hn (F := lsF (aF A (aL A)) (pP (aL A)) w) (pP j / 10) (pP j % 10) (by omega) q3 (by omega)
        have hz := hw (pP j / 10) (pP j % 10) (by omega) q3 (by omega)
        rw [← ep] at hs hz
        by_cases c : j = aL A
        · have e2 : lsF (aF A (aL A)) (pP (aL A)) w (pP j) = 2 ^ w := by
            unfold lsF pAt
            rw [if_neg (by rw [c]; omega), if_pos (by rw [c]), u4]
          rw [e2] at hs
          exact ⟨w, g2, sb_sing hs hz⟩
        · have e2 : lsF (aF A (aL A)) (pP (aL A)) w (pP j) = aF A (aL A) (pP j) := by
            unfold lsF pAt
            have n1 : ¬ pP j = pP (aL A) := fun e => c (pP_inj0 ⟨j, j45⟩ ⟨aL A, by omega⟩ e)
            have t1 : (pP (aL A) % 10 * 10 + pP (aL A) / 10) / 10 = pP (aL A) % 10 := by omega
            have t2 : (pP (aL A) % 10 * 10 + pP (aL A) / 10) % 10 = pP (aL A) / 10 := by omega
            have n2 : ¬ pP j = pP (aL A) % 10 * 10 + pP (aL A) / 10 := fun e => by
              rw [e, t1, t2] at q1
              omega
            rw [if_neg n2, if_neg n1]
          obtain ⟨v, hv, ev0⟩ := h (aL A) (Nat.le_refl _) j (by omega)
          rw [e2, ev0] at hs
          exact ⟨v, hv, sb_sing hs hz⟩
      · rw [up_n e]
        exact h i (by omega) j hj
    split
    · exact hU
    · exact hU
  · rw [tst_f hw]
    exact aSn_back h
theorem aSn_run {n : Nat} (hn : n ≤ 10) : ∀ (k : Nat) (A : aA), aOK n A → aSn A → aSn (aRun n k A)
  | 0, A, _, h => h
  | k + 1, A, hA, h => by
    unfold aRun
    split
    · exact aSn_run hn k _ (aOK_step hn hA ‹_›) (aSn_step hn hA ‹_› h)
    · exact h
theorem aSn_open {n : Nat} {S : Nat → Nat} : aSn (aOpen n S) := fun i hi j hj => by
  have : i ≤ 0 := hi
  omega
theorem aSn_behind {n : Nat} {A : aA} (hA : aOK n A) (h1 : aS A = 1) (h : aSn A) : aSn (aBehind n A) := by
  have e := hA.2.2.2.2.2.2.2.1 h1
  unfold aBehind
  split
  · exact fun i hi => h i (Nat.le_trans hi (Nat.zero_le _))
  · exact aSn_back (fun i hi => h i (by omega))
theorem aSn_srch {V : Nat → Nat → Int32} {nf nd : Nat} {y of : Int32} (k1 : kF nf V) (k2 : kDd nf nd V) : aSn (aSrch V nf nd y of) := by
  have hs := sy_fam (y := y) (sel := fun d => selV V y d ∧ bitI of d) k1 k2
  exact aSn_run k1.1 20000 _ (aOK_open k1.1 (low_sy k1.1 hs)) aSn_open
theorem tur_one0 : ∀ w : Fin 8, tur (2 ^ w.val) = 2 ^ tb w.val := by decide +kernel
/-- a telling that is found has one way for each two -/
theorem found_sing {n : Nat} {A : aA} (hn : n ≤ 10) (hA : aOK n A) (hy : aSy n A) (hs : aSn A) (h1 : aS A = 1) {a b : Nat} (ha : a < n) (hb : b < n) (hab : ¬ a = b) : sing (aF A (aL A) (a * 10 + b)) := by
  have hL := hA.2.2.2.2.2.2.2.1 h1
  rcases Nat.lt_or_ge a b with c | c
  · obtain ⟨k, hk, e⟩ := pP_ex hn c hb
    rw [← e]
    exact hs (aL A) (Nat.le_refl _) k (by omega)
  · obtain ⟨k, hk, e⟩ := pP_ex hn (show b < a by omega) ha
    obtain ⟨w, hw, h⟩ := hs (aL A) (Nat.le_refl _) k (by omega)
    rw [e] at h
    rw [hy (aL A) (Nat.le_refl _) b a hb ha (fun e => hab e.symm), h, tur_one0 ⟨w, hw⟩]
    exact ⟨tb w, tb_lt hw, rfl⟩
section ZBC
variable {g : Nat → Nat} {h : zMem}
def b1 (i : Int32) : Int32 := i - (iUshr i (nI 1) &&& 1431655765)
def b2 (i : Int32) : Int32 := (i &&& 858993459) + (iUshr i (nI 2) &&& 858993459)
def b3 (i : Int32) : Int32 := (i + iUshr i (nI 4)) &&& 252645135
def b4 (i : Int32) : Int32 := i + iUshr i (nI 8)
def b5 (i : Int32) : Int32 := i + iUshr i (nI 16)
def bcI (i : Int32) : Int32 := b5 (b4 (b3 (b2 (b1 i)))) &&& nI 63
theorem q_bitCount {i : Int32} : call g Integer_bitCount [.int i] h = some (some (.int (bcI i)), h) := by
  rw [n_Integer_bitCount]
  simp only [s_Integer_bitCount_0, s_Integer_bitCount_1, s_Integer_bitCount_2, s_Integer_bitCount_3, s_Integer_bitCount_4, s_Integer_bitCount_7, s_Integer_bitCount_8, s_Integer_bitCount_9, s_Integer_bitCount_10, s_Integer_bitCount_11, s_Integer_bitCount_14, s_Integer_bitCount_15, s_Integer_bitCount_16, s_Integer_bitCount_17, s_Integer_bitCount_18, s_Integer_bitCount_21, s_Integer_bitCount_22, s_Integer_bitCount_23, s_Integer_bitCount_24, s_Integer_bitCount_25, s_Integer_bitCount_26, s_Integer_bitCount_27, s_Integer_bitCount_28, s_Integer_bitCount_29, s_Integer_bitCount_32, s_Integer_bitCount_33, s_Integer_bitCount_34, s_Integer_bitCount_35, s_Integer_bitCount_36, s_Integer_bitCount_38, s_Integer_bitCount_39, s_Integer_bitCount_40, s_Integer_bitCount_41, s_Integer_bitCount_42, s_Integer_bitCount_43, s_Integer_bitCount_45, s_Integer_bitCount_46, s_Integer_bitCount_47, s_Integer_bitCount_48, s_Integer_bitCount_49, s_Integer_bitCount_51, s_Integer_bitCount_52, y_kd_sI, y_kd_sL, y_kd_sR, y_kd_cpI, y_kd_cpL, y_ln_sI, y_ln_sL, y_ln_sR, y_ln_cpI, y_ln_cpL, y_sz_sI, y_sz_sL, y_sz_sR, y_sz_cpI, y_sz_cpL, y_sl_sI, y_sl_sL, y_sl_sR, y_sl_cpI, y_sl_cpL, y_gI_sI, y_gI_sL, y_gI_sR, y_gI_cpI, y_gI_cpL, y_gI_nw, y_gL_sI, y_gL_sL, y_gL_sR, y_gL_cpI, y_gL_cpL, y_gL_nw, y_gR_sI, y_gR_sL, y_gR_sR, y_gR_cpI, y_gR_cpL, y_gR_nw, y_kd_nw, y_ln_nw, y_sz_nw, y_sl_nw, y_fx_int, y_fx_long, y_fx_ref, y_fx_null, y_fx_U, y_rf_s, y_rf_n]
  rfl
theorem bcI8 : ∀ v : Fin 256, bcI (nI v.val) = nI (pc8 v.val) := by decide +kernel
theorem q_bitCount8 {v : Nat} (hv : v < 256) : call g Integer_bitCount [.int (nI v)] h = some (some (.int (nI (pc8 v))), h) := by
  rw [q_bitCount, bcI8 ⟨v, hv⟩]
theorem pc8_one : ∀ s : Fin 256, (pc8 s.val = 1 → ∃ w : Fin 8, s.val = 2 ^ w.val) := by decide +kernel
theorem pc8_pow : ∀ w : Fin 8, pc8 (2 ^ w.val) = 1 ∧ pc8 (2 ^ w.val - 1) = w.val := by decide +kernel
theorem q_only1 {w : Nat} (hw : w < 8) : call g Ways_only [.int (nI (2 ^ w))] h = some (some (.int (nI w)), h) := by
  have p8 : (2 : Nat) ^ w < 256 := Nat.lt_of_le_of_lt (Nat.pow_le_pow_right (by decide) (show w ≤ 7 by omega)) (by decide)
  have p1 : 1 ≤ (2 : Nat) ^ w := Nat.one_le_two_pow
  obtain ⟨k1, k2⟩ := pc8_pow ⟨w, hw⟩
  dsimp only at k1 k2
  have e1 := q_bitCount8 (g := g) (h := h) p8
  have e2 := q_bitCount8 (g := g) (h := h) (show 2 ^ w - 1 < 256 by omega)
  rw [k1] at e1
  rw [k2] at e2
  rw [n_Ways_only]
  simp (disch := omega) only [s_Ways_only_0, s_Ways_only_1, s_Ways_only_4, s_Ways_only_5, s_Ways_only_8, s_Ways_only_9, s_Ways_only_10, s_Ways_only_11, s_Ways_only_14, s_Ways_only_17, s_Ways_only_18, y_kd_sI, y_kd_sL, y_kd_sR, y_kd_cpI, y_kd_cpL, y_ln_sI, y_ln_sL, y_ln_sR, y_ln_cpI, y_ln_cpL, y_sz_sI, y_sz_sL, y_sz_sR, y_sz_cpI, y_sz_cpL, y_sl_sI, y_sl_sL, y_sl_sR, y_sl_cpI, y_sl_cpL, y_gI_sL, y_gI_sR, y_gI_cpI, y_gI_cpL, y_gI_nw, y_gL_sI, y_gL_sR, y_gL_cpI, y_gL_cpL, y_gL_nw, y_gR_sI, y_gR_sL, y_gR_cpI, y_gR_cpL, y_gR_nw, y_kd_nw, y_ln_nw, y_sz_nw, y_sl_nw, y_fx_int, y_fx_long, y_fx_ref, y_fx_null, y_fx_U, y_rf_s, y_rf_n, a_inb, a_ix, a_lt, a_eq, a_eq0, a_lt0, a_0lt, a_m1, a_m2, a_mlt, a_sub, a_dec, a_div, a_rem, a_shl, a_shr, a_bit, a_bit0, a_II, a_Ia, a_Ik, a_LL, a_La, a_Lk, a_RR, a_Ra, a_Rk, a_if0, a_if1, y_mul, y_and, y_or, nI_add, y_b1, y_b0, kon_v, kon_0, true_or, or_true, and_self, true_and, and_true, false_or, or_false, and_false, false_and, not_true_eq_false, not_false_eq_true, ite_self, ↓reduceIte, Nat.reduceEqDiff, Nat.reduceLeDiff, Nat.reduceAdd, Nat.reduceMul, Nat.reduceSub, Nat.reduceLT, Nat.reduceShiftLeft, Nat.reduceOr, Nat.reduceAnd, Bool.false_eq_true, b_if, b_z1, b_z0, b_zz, b_a1, b_a0, e1, e2]
theorem q_only0 {s : Nat} (hs : s < 256) (hn : ¬ sing s) : call g Ways_only [.int (nI s)] h = some (some (.int (-1)), h) := by
  have e1 := q_bitCount8 (g := g) (h := h) hs
  have zf : (pc8 s = 1) = False := eq_false (fun e => by
    obtain ⟨w, hw⟩ := pc8_one ⟨s, hs⟩ e
    exact hn ⟨w.val, w.isLt, hw⟩)
  have := pc8_le s
  rw [n_Ways_only]
  simp (disch := omega) only [s_Ways_only_0, s_Ways_only_1, s_Ways_only_4, s_Ways_only_5, s_Ways_only_8, s_Ways_only_9, s_Ways_only_10, s_Ways_only_11, s_Ways_only_14, s_Ways_only_17, s_Ways_only_18, y_kd_sI, y_kd_sL, y_kd_sR, y_kd_cpI, y_kd_cpL, y_ln_sI, y_ln_sL, y_ln_sR, y_ln_cpI, y_ln_cpL, y_sz_sI, y_sz_sL, y_sz_sR, y_sz_cpI, y_sz_cpL, y_sl_sI, y_sl_sL, y_sl_sR, y_sl_cpI, y_sl_cpL, y_gI_sL, y_gI_sR, y_gI_cpI, y_gI_cpL, y_gI_nw, y_gL_sI, y_gL_sR, y_gL_cpI, y_gL_cpL, y_gL_nw, y_gR_sI, y_gR_sL, y_gR_cpI, y_gR_cpL, y_gR_nw, y_kd_nw, y_ln_nw, y_sz_nw, y_sl_nw, y_fx_int, y_fx_long, y_fx_ref, y_fx_null, y_fx_U, y_rf_s, y_rf_n, a_inb, a_ix, a_lt, a_eq, a_eq0, a_lt0, a_0lt, a_m1, a_m2, a_mlt, a_sub, a_dec, a_div, a_rem, a_shl, a_shr, a_bit, a_bit0, a_II, a_Ia, a_Ik, a_LL, a_La, a_Lk, a_RR, a_Ra, a_Rk, a_if0, a_if1, y_mul, y_and, y_or, nI_add, y_b1, y_b0, kon_v, kon_0, true_or, or_true, and_self, true_and, and_true, false_or, or_false, and_false, false_and, not_true_eq_false, not_false_eq_true, ite_self, ↓reduceIte, Nat.reduceEqDiff, Nat.reduceLeDiff, Nat.reduceAdd, Nat.reduceMul, Nat.reduceSub, Nat.reduceLT, Nat.reduceShiftLeft, Nat.reduceOr, Nat.reduceAnd, Bool.false_eq_true, b_if, b_z1, b_z0, b_zz, b_a1, b_a0, e1, zf]
theorem q_wayIn {w : Nat} (hw : w < 8) : call g Mo_wayIn [.int (nI (2 ^ w))] h = some (some (.int (nI w)), h) := by
  have p8 : (2 : Nat) ^ w < 256 := Nat.lt_of_le_of_lt (Nat.pow_le_pow_right (by decide) (show w ≤ 7 by omega)) (by decide)
  obtain ⟨x', h', e1, e2⟩ := l_loop (g := g) (M := Mo_wayIn) (pc := 2) (st := []) (n := w) (fun i (_ : Unit) => [.int (nI (2 ^ w)), .int (nI i)]) (fun i _ h' => h' = h) (fun i x h' hi hh => by
    subst hh
    refine ⟨(), h', ?_, rfl⟩
    show ev g Mo_wayIn 2 [.int (nI (2 ^ w)), .int (nI i)] [] h' = ev g Mo_wayIn 2 [.int (nI (2 ^ w)), .int (nI (i + 1))] [] h'
    have zb : (2 ^ w).testBit i = false := by rw [Nat.testBit_two_pow]; exact decide_eq_false (by omega)
    rw [s_Mo_wayIn_2]
    simp (disch := omega) only [s_Mo_wayIn_0, s_Mo_wayIn_1, s_Mo_wayIn_3, s_Mo_wayIn_4, s_Mo_wayIn_5, s_Mo_wayIn_6, s_Mo_wayIn_7, s_Mo_wayIn_10, s_Mo_wayIn_13, s_Mo_wayIn_16, s_Mo_wayIn_17, y_kd_sI, y_kd_sL, y_kd_sR, y_kd_cpI, y_kd_cpL, y_ln_sI, y_ln_sL, y_ln_sR, y_ln_cpI, y_ln_cpL, y_sz_sI, y_sz_sL, y_sz_sR, y_sz_cpI, y_sz_cpL, y_sl_sI, y_sl_sL, y_sl_sR, y_sl_cpI, y_sl_cpL, y_gI_sL, y_gI_sR, y_gI_cpI, y_gI_cpL, y_gI_nw, y_gL_sI, y_gL_sR, y_gL_cpI, y_gL_cpL, y_gL_nw, y_gR_sI, y_gR_sL, y_gR_cpI, y_gR_cpL, y_gR_nw, y_kd_nw, y_ln_nw, y_sz_nw, y_sl_nw, y_fx_int, y_fx_long, y_fx_ref, y_fx_null, y_fx_U, y_rf_s, y_rf_n, a_inb, a_ix, a_lt, a_eq, a_eq0, a_lt0, a_0lt, a_m1, a_m2, a_mlt, a_sub, a_dec, a_div, a_rem, a_shl, a_shr, a_bit, a_bit0, a_II, a_Ia, a_Ik, a_LL, a_La, a_Lk, a_RR, a_Ra, a_Rk, a_if0, a_if1, y_mul, y_and, y_or, nI_add, y_b1, y_b0, kon_v, kon_0, true_or, or_true, and_self, true_and, and_true, false_or, or_false, and_false, false_and, not_true_eq_false, not_false_eq_true, ite_self, ↓reduceIte, Nat.reduceEqDiff, Nat.reduceLeDiff, Nat.reduceAdd, Nat.reduceMul, Nat.reduceSub, Nat.reduceLT, Nat.reduceShiftLeft, Nat.reduceOr, Nat.reduceAnd, Bool.false_eq_true, b_if, b_z1, b_z0, b_zz, b_a1, b_a0, zb]) w 0 () h (by omega) rfl
  subst e2
  have zb : (2 ^ w).testBit w = true := Nat.testBit_two_pow_self
  rw [n_Mo_wayIn, s_Mo_wayIn_0, s_Mo_wayIn_1]
  refine Eq.trans (show _ = ev g Mo_wayIn 2 [.int (nI (2 ^ w)), .int (nI 0)] [] h' from rfl) (e1.trans ?_)
  simp (disch := omega) only [s_Mo_wayIn_0, s_Mo_wayIn_1, s_Mo_wayIn_2, s_Mo_wayIn_3, s_Mo_wayIn_4, s_Mo_wayIn_5, s_Mo_wayIn_6, s_Mo_wayIn_7, s_Mo_wayIn_10, s_Mo_wayIn_13, s_Mo_wayIn_16, s_Mo_wayIn_17, y_kd_sI, y_kd_sL, y_kd_sR, y_kd_cpI, y_kd_cpL, y_ln_sI, y_ln_sL, y_ln_sR, y_ln_cpI, y_ln_cpL, y_sz_sI, y_sz_sL, y_sz_sR, y_sz_cpI, y_sz_cpL, y_sl_sI, y_sl_sL, y_sl_sR, y_sl_cpI, y_sl_cpL, y_gI_sL, y_gI_sR, y_gI_cpI, y_gI_cpL, y_gI_nw, y_gL_sI, y_gL_sR, y_gL_cpI, y_gL_cpL, y_gL_nw, y_gR_sI, y_gR_sL, y_gR_cpI, y_gR_cpL, y_gR_nw, y_kd_nw, y_ln_nw, y_sz_nw, y_sl_nw, y_fx_int, y_fx_long, y_fx_ref, y_fx_null, y_fx_U, y_rf_s, y_rf_n, a_inb, a_ix, a_lt, a_eq, a_eq0, a_lt0, a_0lt, a_m1, a_m2, a_mlt, a_sub, a_dec, a_div, a_rem, a_shl, a_shr, a_bit, a_bit0, a_II, a_Ia, a_Ik, a_LL, a_La, a_Lk, a_RR, a_Ra, a_Rk, a_if0, a_if1, y_mul, y_and, y_or, nI_add, y_b1, y_b0, kon_v, kon_0, true_or, or_true, and_self, true_and, and_true, false_or, or_false, and_false, false_and, not_true_eq_false, not_false_eq_true, ite_self, ↓reduceIte, Nat.reduceEqDiff, Nat.reduceLeDiff, Nat.reduceAdd, Nat.reduceMul, Nat.reduceSub, Nat.reduceLT, Nat.reduceShiftLeft, Nat.reduceOr, Nat.reduceAnd, Bool.false_eq_true, b_if, b_z1, b_z0, b_zz, b_a1, b_a0, zb]
end ZBC
