/-! the class's search in the machine: a choice, runs -/
def rCS (h : zMem) (q n : Nat) (A : aA) : Prop := ∃ (f : Nat) (ats : Nat → Nat) (tr : List (Nat × Nat)), rS h (q + 1) n f (ats, tr, []) ∧ sy tur ats ∧ tOL tr ∧ gI h q 2 = nI (aC A) ∧ gI h q 3 = nI (aB A) ∧ gI h q 4 = nI (aS A) ∧ gI h q 5 = nI (n * (n - 1) / 2) ∧ gI h q 6 = nI (aL A) ∧ (¬ aS A = 2 → 0 < n * (n - 1) / 2 → ∃ mk : Nat → Nat, wgt (ats, tr, []) ≤ 360 ∧ eqv n ats (aF A (aL A)) ∧ rMk h q n ats tr (aF A) (aL A) mk ∧ rUn h q (aF A) (aT A) (if aS A = 1 then aL A else aL A + 1))
section ZRN
variable {g : Nat → Nat} {h : zMem} {q r t u n : Nat}
theorem q_see {st ch : Nat} (hk : kd h q = 7) (h4 : gI h q 4 = nI st) (h2 : gI h q 2 = nI ch) (hs : st < 100) (hc : ch < 100000) : call g Search_seeWhetherSpent [.ref q] h = some (none, if st = 0 ∧ 20000 ≤ ch then sI h q 4 (nI 3) else h) := by
  rw [n_Search_seeWhetherSpent]
  by_cases z1 : st = 0
  · by_cases z2 : ch < 20000
    · rw [if_neg (by omega)]
      simp (disch := omega) only [s_Search_seeWhetherSpent_0, s_Search_seeWhetherSpent_1, s_Search_seeWhetherSpent_4, s_Search_seeWhetherSpent_7, s_Search_seeWhetherSpent_8, s_Search_seeWhetherSpent_11, s_Search_seeWhetherSpent_14, s_Search_seeWhetherSpent_17, s_Search_seeWhetherSpent_18, s_Search_seeWhetherSpent_19, s_Search_seeWhetherSpent_22, y_kd_sI, y_kd_sL, y_kd_sR, y_kd_cpI, y_kd_cpL, y_ln_sI, y_ln_sL, y_ln_sR, y_ln_cpI, y_ln_cpL, y_sz_sI, y_sz_sL, y_sz_sR, y_sz_cpI, y_sz_cpL, y_sl_sI, y_sl_sL, y_sl_sR, y_sl_cpI, y_sl_cpL, y_gI_sL, y_gI_sR, y_gI_cpI, y_gI_cpL, y_gI_nw, y_gL_sI, y_gL_sR, y_gL_cpI, y_gL_cpL, y_gL_nw, y_gR_sI, y_gR_sL, y_gR_cpI, y_gR_cpL, y_gR_nw, y_kd_nw, y_ln_nw, y_sz_nw, y_sl_nw, y_fx_int, y_fx_long, y_fx_ref, y_fx_null, y_fx_U, y_rf_s, y_rf_n, a_inb, a_ix, a_lt, a_eq, a_eq0, a_lt0, a_0lt, a_m1, a_m2, a_mlt, a_sub, a_dec, a_div, a_rem, a_shl, a_shr, a_bit, a_bit0, a_II, a_Ia, a_Ik, a_LL, a_La, a_Lk, a_RR, a_Ra, a_Rk, a_if0, a_if1, y_mul, y_and, y_or, nI_add, y_b1, y_b0, kon_v, kon_0, true_or, or_true, and_self, true_and, and_true, false_or, or_false, and_false, false_and, not_true_eq_false, not_false_eq_true, ite_self, ↓reduceIte, Nat.reduceEqDiff, Nat.reduceLeDiff, Nat.reduceAdd, Nat.reduceMul, Nat.reduceSub, Nat.reduceLT, Nat.reduceShiftLeft, Nat.reduceOr, Nat.reduceAnd, hk, h4, h2, z1, z2]
    · rw [if_pos (by omega)]
      simp (disch := omega) only [s_Search_seeWhetherSpent_0, s_Search_seeWhetherSpent_1, s_Search_seeWhetherSpent_4, s_Search_seeWhetherSpent_7, s_Search_seeWhetherSpent_8, s_Search_seeWhetherSpent_11, s_Search_seeWhetherSpent_14, s_Search_seeWhetherSpent_17, s_Search_seeWhetherSpent_18, s_Search_seeWhetherSpent_19, s_Search_seeWhetherSpent_22, y_kd_sI, y_kd_sL, y_kd_sR, y_kd_cpI, y_kd_cpL, y_ln_sI, y_ln_sL, y_ln_sR, y_ln_cpI, y_ln_cpL, y_sz_sI, y_sz_sL, y_sz_sR, y_sz_cpI, y_sz_cpL, y_sl_sI, y_sl_sL, y_sl_sR, y_sl_cpI, y_sl_cpL, y_gI_sL, y_gI_sR, y_gI_cpI, y_gI_cpL, y_gI_nw, y_gL_sI, y_gL_sR, y_gL_cpI, y_gL_cpL, y_gL_nw, y_gR_sI, y_gR_sL, y_gR_cpI, y_gR_cpL, y_gR_nw, y_kd_nw, y_ln_nw, y_sz_nw, y_sl_nw, y_fx_int, y_fx_long, y_fx_ref, y_fx_null, y_fx_U, y_rf_s, y_rf_n, a_inb, a_ix, a_lt, a_eq, a_eq0, a_lt0, a_0lt, a_m1, a_m2, a_mlt, a_sub, a_dec, a_div, a_rem, a_shl, a_shr, a_bit, a_bit0, a_II, a_Ia, a_Ik, a_LL, a_La, a_Lk, a_RR, a_Ra, a_Rk, a_if0, a_if1, y_mul, y_and, y_or, nI_add, y_b1, y_b0, kon_v, kon_0, true_or, or_true, and_self, true_and, and_true, false_or, or_false, and_false, false_and, not_true_eq_false, not_false_eq_true, ite_self, ↓reduceIte, Nat.reduceEqDiff, Nat.reduceLeDiff, Nat.reduceAdd, Nat.reduceMul, Nat.reduceSub, Nat.reduceLT, Nat.reduceShiftLeft, Nat.reduceOr, Nat.reduceAnd, hk, h4, h2, z1, z2]
  · rw [if_neg (by omega)]
    simp (disch := omega) only [s_Search_seeWhetherSpent_0, s_Search_seeWhetherSpent_1, s_Search_seeWhetherSpent_4, s_Search_seeWhetherSpent_7, s_Search_seeWhetherSpent_8, s_Search_seeWhetherSpent_11, s_Search_seeWhetherSpent_14, s_Search_seeWhetherSpent_17, s_Search_seeWhetherSpent_18, s_Search_seeWhetherSpent_19, s_Search_seeWhetherSpent_22, y_kd_sI, y_kd_sL, y_kd_sR, y_kd_cpI, y_kd_cpL, y_ln_sI, y_ln_sL, y_ln_sR, y_ln_cpI, y_ln_cpL, y_sz_sI, y_sz_sL, y_sz_sR, y_sz_cpI, y_sz_cpL, y_sl_sI, y_sl_sL, y_sl_sR, y_sl_cpI, y_sl_cpL, y_gI_sL, y_gI_sR, y_gI_cpI, y_gI_cpL, y_gI_nw, y_gL_sI, y_gL_sR, y_gL_cpI, y_gL_cpL, y_gL_nw, y_gR_sI, y_gR_sL, y_gR_cpI, y_gR_cpL, y_gR_nw, y_kd_nw, y_ln_nw, y_sz_nw, y_sl_nw, y_fx_int, y_fx_long, y_fx_ref, y_fx_null, y_fx_U, y_rf_s, y_rf_n, a_inb, a_ix, a_lt, a_eq, a_eq0, a_lt0, a_0lt, a_m1, a_m2, a_mlt, a_sub, a_dec, a_div, a_rem, a_shl, a_shr, a_bit, a_bit0, a_II, a_Ia, a_Ik, a_LL, a_La, a_Lk, a_RR, a_Ra, a_Rk, a_if0, a_if1, y_mul, y_and, y_or, nI_add, y_b1, y_b0, kon_v, kon_0, true_or, or_true, and_self, true_and, and_true, false_or, or_false, and_false, false_and, not_true_eq_false, not_false_eq_true, ite_self, ↓reduceIte, Nat.reduceEqDiff, Nat.reduceLeDiff, Nat.reduceAdd, Nat.reduceMul, Nat.reduceSub, Nat.reduceLT, Nat.reduceShiftLeft, Nat.reduceOr, Nat.reduceAnd, hk, h4, h2, z1]
/-- behind goAhead or goBack -/
theorem b_spent {m i v3 : Value} {st ch : Nat} (hk : kd h q = 7) (h4 : gI h q 4 = nI st) (h2 : gI h q 2 = nI ch) (hs : st < 100) (hc : ch < 100000) : ev g Search_run 126 [.ref q, m, i, v3] [] h = ev g Search_run 130 [.ref q, m, i, v3] [] (if st = 0 ∧ 20000 ≤ ch then sI h q 4 (nI 3) else h) := by
  simp (disch := omega) only [s_Search_run_126, s_Search_run_127, y_kd_sI, y_kd_sL, y_kd_sR, y_kd_cpI, y_kd_cpL, y_ln_sI, y_ln_sL, y_ln_sR, y_ln_cpI, y_ln_cpL, y_sz_sI, y_sz_sL, y_sz_sR, y_sz_cpI, y_sz_cpL, y_sl_sI, y_sl_sL, y_sl_sR, y_sl_cpI, y_sl_cpL, y_gI_sL, y_gI_sR, y_gI_cpI, y_gI_cpL, y_gI_nw, y_gL_sI, y_gL_sR, y_gL_cpI, y_gL_cpL, y_gL_nw, y_gR_sI, y_gR_sL, y_gR_cpI, y_gR_cpL, y_gR_nw, y_kd_nw, y_ln_nw, y_sz_nw, y_sl_nw, y_fx_int, y_fx_long, y_fx_ref, y_fx_null, y_fx_U, y_rf_s, y_rf_n, a_inb, a_ix, a_lt, a_eq, a_eq0, a_lt0, a_0lt, a_m1, a_m2, a_mlt, a_sub, a_dec, a_div, a_rem, a_shl, a_shr, a_bit, a_bit0, a_II, a_Ia, a_Ik, a_LL, a_La, a_Lk, a_RR, a_Ra, a_Rk, a_if0, a_if1, y_mul, y_and, y_or, nI_add, y_b1, y_b0, kon_v, kon_0, true_or, or_true, and_self, true_and, and_true, false_or, or_false, and_false, false_and, not_true_eq_false, not_false_eq_true, ite_self, ↓reduceIte, Nat.reduceEqDiff, Nat.reduceLeDiff, Nat.reduceAdd, Nat.reduceMul, Nat.reduceSub, Nat.reduceLT, Nat.reduceShiftLeft, Nat.reduceOr, Nat.reduceAnd, hk, q_see hk h4 h2 hs hc]
theorem rCS_spent {L c b st st' : Nat} {F : Nat → Nat → Nat} {T : Nat → Nat} (hs : st' = if st = 0 ∧ c = 20000 then 3 else st) (hc : c ≤ 20000) (h4 : st < 100) (hr : rCS h q n (L, c, b, st, F, T)) : rCS (if st = 0 ∧ 20000 ≤ c then sI h q 4 (nI 3) else h) q n (L, c, b, st', F, T) := by
  by_cases z : st = 0 ∧ 20000 ≤ c
  · rw [if_pos z]
    rw [if_pos (by omega)] at hs
    obtain ⟨f, ats, tr, k1, k2, k3, k4, k5, k6, k7, k8, k9⟩ := hr
    refine ⟨f, ats, tr, k1.I (by omega), k2, k3, ?_, ?_, ?_, ?_, ?_, fun _ hP => ?_⟩
    · rw [a_Ik (by decide)]; exact k4
    · rw [a_Ik (by decide)]; exact k5
    · rw [a_II, hs]; rfl
    · rw [a_Ik (by decide)]; exact k7
    · rw [a_Ik (by decide)]; exact k8
    · obtain ⟨mk, w1, w2, w3, w4⟩ := k9 (by show ¬ st = 2; omega) hP
      refine ⟨mk, w1, w2, w3.fr (Nat.le_refl _) (fun j _ => a_Ia (by omega)), ?_⟩
      have e1 : (if aS (L, c, b, st, F, T) = 1 then aL (L, c, b, st, F, T) else aL (L, c, b, st, F, T) + 1) = L + 1 := if_neg (show ¬ st = 1 by omega)
      have e2 : (if aS (L, c, b, st', F, T) = 1 then aL (L, c, b, st', F, T) else aL (L, c, b, st', F, T) + 1) = L + 1 := if_neg (show ¬ st' = 1 by omega)
      rw [e1] at w4
      rw [e2]
      exact w4.fr (Nat.le_refl _) (fun j _ => a_Ia (by omega))
  · rw [if_neg z]
    rw [if_neg (by omega)] at hs
    rw [hs]
    exact hr
theorem b_step {A : aA} {m v3 : Value} {i : Int32} (hn : n ≤ 10) (ho : oSearch h q r t) (hc : cW g h r t u q) (hr : rCS h q n A) (hA : aOK n A) (h0 : aS A = 0) :
    ∃ (h' : zMem) (v3' : Value), ev g Search_run 14 [.ref q, m, .int i, v3] [] h = ev g Search_run 130 [.ref q, m, .int i, v3'] [] h' ∧ rCS h' q n (aStep n A) ∧ sam q (q + 8) h h' ∧ gI h' q 1 = gI h q 1 := by
  obtain ⟨A1, A2, A3, A4, A5, A6, A7, A8, A9, A10⟩ := hA
  obtain ⟨g1, g2⟩ := A7 (Or.inl h0)
  have g3 := A10 h0
  have hP : 0 < n * (n - 1) / 2 := by omega
  have h45 := pn_le hn
  obtain ⟨f, ats, tr, r1, r2, r3, r4, r5, r6, r7, r8, r9⟩ := hr
  obtain ⟨mk, w1, w2, w3, w4⟩ := r9 (by omega) hP
  have F0 := A6 (by omega) hP (aL A) (Nat.le_refl _)
  rw [if_neg (by omega)] at w4
  unfold aStep
  generalize aL A = L at g1 g2 r8 w2 w3 w4 F0 A6 ⊢
  generalize aF A = F at g2 w2 w3 w4 F0 A6 ⊢
  generalize aT A = T at g2 w4 A5 ⊢
  generalize aC A = ch at A1 A2 g3 r4 ⊢
  generalize aB A = bl at A2 r5 ⊢
  obtain ⟨u1, u2, u3⟩ := w4 L (by omega)
  obtain ⟨y1, y2, y3, y4⟩ := un1 ⟨F L (pP L), u2⟩ ⟨T L, by omega⟩ g2
  dsimp only at y1 y2 y3 y4
  generalize hwq : nx (F L (pP L)) (T L) = w at g2 y1 y2 y3 y4 ⊢
  obtain ⟨p1, p2⟩ := pP_lt (show L < 45 by omega)
  have p3 := (pP_n hn (show L < 45 by omega)).2 g1
  have ats_eq : ats (pP L) = F L (pP L) := by
    have := w2 (pP L / 10) (pP L % 10) (by omega) p3 (by omega)
    rw [show pP L / 10 * 10 + pP L % 10 = pP L by omega] at this
    exact this
  obtain ⟨k1, k2, k3, k4, k5, k6, k7⟩ := k_choice (w := w) hn p1 p3 r2 (w2.sy.cl F0.1) (w2.sy.wh F0.2.1) w1 (by rw [ats_eq]; exact y4) _ rfl
  have eG : gc n (lsF (F L) (pP L) w) = gc n (pKeep tur (pP L) (2 ^ w) (ats, tr, [])).1 := by
    rw [k7]
    exact gc_eqv hn (lsF_low F0.2.2 u2) (lsF_eqv hn p1 p3 w2.sy)
  rw [eG]
  have ho' := ho
  obtain ⟨a1, a2, a3, a4, a5, a6, a7, a8, a9⟩ := ho'
  have b1 := a9.1
  have b2 := a9.2.1
  have b3 := a9.2.2.2.2.2.2.2.1
  have b4 := a9.2.2.2.2.2.2.2.2.1
  have r4' := r1.2.2.1
  have r5' := r1.2.2.2.1
  dsimp only at r4' r5'
  obtain ⟨c1, c2, c3⟩ := hc.1
  have hg1 := hc.2.2.2.1
  have c4 := c3 L (by omega)
  -- up to keep
  have go1 : ev g Search_run 14 [.ref q, m, .int i, v3] [] h = ev g Search_run 89 [.ref q, m, .int i, .int (nI (2 ^ w))] [.int (nI (2 ^ w)), .int (nI (pP L)), .ref (q + 1)] (sI (sI (sI h (q + 7) L (nI (un (F L (pP L)) (w + 1)))) (q + 8) L (nI tr.length)) q 2 (nI (ch + 1))) := by
    simp (disch := omega) only [s_Search_run_0, s_Search_run_1, s_Search_run_3, s_Search_run_4, s_Search_run_7, s_Search_run_8, s_Search_run_11, s_Search_run_14, s_Search_run_15, s_Search_run_18, s_Search_run_19, s_Search_run_22, s_Search_run_23, s_Search_run_24, s_Search_run_27, s_Search_run_28, s_Search_run_31, s_Search_run_32, s_Search_run_33, s_Search_run_34, s_Search_run_35, s_Search_run_36, s_Search_run_39, s_Search_run_40, s_Search_run_43, s_Search_run_44, s_Search_run_45, s_Search_run_46, s_Search_run_47, s_Search_run_48, s_Search_run_49, s_Search_run_50, s_Search_run_51, s_Search_run_54, s_Search_run_55, s_Search_run_58, s_Search_run_59, s_Search_run_62, s_Search_run_65, s_Search_run_66, s_Search_run_67, s_Search_run_68, s_Search_run_71, s_Search_run_72, s_Search_run_73, s_Search_run_76, s_Search_run_77, s_Search_run_80, s_Search_run_83, s_Search_run_84, s_Search_run_87, s_Search_run_88, s_Search_run_92, s_Search_run_95, s_Search_run_96, s_Search_run_99, s_Search_run_102, s_Search_run_105, s_Search_run_106, s_Search_run_109, s_Search_run_112, s_Search_run_113, s_Search_run_114, s_Search_run_117, s_Search_run_118, s_Search_run_119, s_Search_run_122, s_Search_run_123, s_Search_run_126, s_Search_run_127, s_Search_run_133, s_Search_run_136, s_Search_run_137, s_Search_run_140, y_kd_sI, y_kd_sL, y_kd_sR, y_kd_cpI, y_kd_cpL, y_ln_sI, y_ln_sL, y_ln_sR, y_ln_cpI, y_ln_cpL, y_sz_sI, y_sz_sL, y_sz_sR, y_sz_cpI, y_sz_cpL, y_sl_sI, y_sl_sL, y_sl_sR, y_sl_cpI, y_sl_cpL, y_gI_sL, y_gI_sR, y_gI_cpI, y_gI_cpL, y_gI_nw, y_gL_sI, y_gL_sR, y_gL_cpI, y_gL_cpL, y_gL_nw, y_gR_sI, y_gR_sL, y_gR_cpI, y_gR_cpL, y_gR_nw, y_kd_nw, y_ln_nw, y_sz_nw, y_sl_nw, y_fx_int, y_fx_long, y_fx_ref, y_fx_null, y_fx_U, y_rf_s, y_rf_n, a_inb, a_ix, a_lt, a_eq, a_eq0, a_lt0, a_0lt, a_m1, a_m2, a_mlt, a_sub, a_dec, a_div, a_rem, a_shl, a_shr, a_bit, a_bit0, a_II, a_Ia, a_Ik, a_LL, a_La, a_Lk, a_RR, a_Ra, a_Rk, a_if0, a_if1, y_mul, y_and, y_or, nI_add, y_b1, y_b0, kon_v, kon_0, true_or, or_true, and_self, true_and, and_true, false_or, or_false, and_false, false_and, not_true_eq_false, not_false_eq_true, ite_self, ↓reduceIte, Nat.reduceEqDiff, Nat.reduceLeDiff, Nat.reduceAdd, Nat.reduceMul, Nat.reduceSub, Nat.reduceLT, Nat.reduceShiftLeft, Nat.reduceOr, Nat.reduceAnd, a1, a2, a3, a4, a5, a6, a7, a8, b1, r8, u1, y1, y2, r4', r4, c1, c2, c4]
  have s1 : sam q (q + 8) h (sI (sI (sI h (q + 7) L (nI (un (F L (pP L)) (w + 1)))) (q + 8) L (nI tr.length)) q 2 (nI (ch + 1))) := ((sam.I (by omega)).aI (by omega)).aI (by omega)
  have hr1 : rS (sI (sI (sI h (q + 7) L (nI (un (F L (pP L)) (w + 1)))) (q + 8) L (nI tr.length)) q 2 (nI (ch + 1))) (q + 1) n f (ats, tr, []) := ((r1.I (by omega)).I (by omega)).I (by omega)
  have e7 : ∀ j : Nat, gI (sI (sI (sI h (q + 7) L (nI (un (F L (pP L)) (w + 1)))) (q + 8) L (nI tr.length)) q 2 (nI (ch + 1))) (q + 7) j = if j = L then nI (un (F L (pP L)) (w + 1)) else gI h (q + 7) j := fun j => by
    rw [a_Ia (by omega), a_Ia (by omega), y_gI_sI]
    simp only [true_and]
  have e8 : ∀ j : Nat, gI (sI (sI (sI h (q + 7) L (nI (un (F L (pP L)) (w + 1)))) (q + 8) L (nI tr.length)) q 2 (nI (ch + 1))) (q + 8) j = if j = L then nI tr.length else gI h (q + 8) j := fun j => by
    rw [a_Ia (by omega), y_gI_sI, a_Ia (by omega)]
    simp only [true_and]
  have e9 : ∀ k : Nat, gI (sI (sI (sI h (q + 7) L (nI (un (F L (pP L)) (w + 1)))) (q + 8) L (nI tr.length)) q 2 (nI (ch + 1))) q k = if k = 2 then nI (ch + 1) else gI h q k := fun k => by
    rw [y_gI_sI, a_Ia (by omega), a_Ia (by omega)]
    simp only [true_and]
  generalize sI (sI (sI h (q + 7) L (nI (un (F L (pP L)) (w + 1)))) (q + 8) L (nI tr.length)) q 2 (nI (ch + 1)) = h1 at go1 s1 hr1 e7 e8 e9
  rw [go1]
  have ho1 := s1.sr ho
  have hc1 := s1.cw (Nat.le_refl _) hc
  obtain ⟨h2, x1, x2, x3⟩ := c_keep (g := g) (s := 2 ^ w) ho1.2.2.2.2.2.2.2.2 hr1 (show pP L < 100 by omega) hc1.2.2.1
  have good1 : bZ (ats (pP L) &&& 2 ^ w = ats (pP L) ∨ ¬ ats (pP L) &&& 2 ^ w = 0) = nI 1 := bZ_t (Or.inr (by rw [ats_eq, y4]; exact Nat.pos_iff_ne_zero.1 (Nat.two_pow_pos w)))
  dsimp only at x1
  rw [good1] at x1
  have x3' := x3.sam
  have s2 : sam q (q + 8) h1 h2 := x3'.wd (by omega) (by omega)
  have s12 := s1.tr s2
  have ho2 := s2.sr ho1
  have hc2 := s2.cw (Nat.le_refl _) hc1
  have a12 := ho2.1
  have a22 := ho2.2.1
  have a92 := ho2.2.2.2.2.2.2.2.2
  have a91 := ho1.2.2.2.2.2.2.2.2
  generalize pKeep tur (pP L) (2 ^ w) (ats, tr, []) = σ1 at x2 k1 k2 k3 k4 k5 k6 k7 eG ⊢
  obtain ⟨sp1, sp2, sp3, sp4, sp5⟩ := k_spread (n := n) (hv := hvT) hn (fun s k hs hk => f2_fo hs hk) k1 k2 k3 k4 k5
  obtain ⟨h3, f', z1, z2, -, z4⟩ := c_spread (g := g) (hv := hvT) hn (show u < q + 1 ∨ q + 1 + 5 < u by have := hc.2.2.2.2.1; omega) a92 hc2.2.1 x2 ⟨k2.1, fun x hx => by have := k2.2 x hx; omega⟩ hc2.2.2.1
  generalize pSp tur hvT n 405 σ1 true = R at sp1 sp2 sp3 sp4 sp5 z1 z2
  obtain ⟨⟨ats', tr', q'⟩, b⟩ := R
  dsimp only at sp1 sp2 sp4 sp5 z1 z2
  subst sp1
  have tot : trS (ats, tr, []) (ats', tr', []) := k6.tr sp3
  have z4' := z4.sam
  have s3 : sam q (q + 8) h2 h3 := z4'.wd (by omega) (by omega)
  have s123 := s12.tr s3
  have ho3 := s3.sr ho2
  have hc3 := s3.cw (Nat.le_refl _) hc2
  have E : ∀ c k : Nat, (c < q + 1 ∨ q + 1 + 5 < c) → gI h3 c k = gI h1 c k := fun c k hck => (z4'.2.2.2.2.2.1 c k hck).trans (x3'.2.2.2.2.2.1 c k hck)
  have E7 : ∀ j : Nat, gI h3 (q + 7) j = if j = L then nI (un (F L (pP L)) (w + 1)) else gI h (q + 7) j := fun j => (E _ _ (by omega)).trans (e7 j)
  have E8 : ∀ j : Nat, gI h3 (q + 8) j = if j = L then nI tr.length else gI h (q + 8) j := fun j => (E _ _ (by omega)).trans (e8 j)
  have E9 : ∀ k : Nat, gI h3 q k = if k = 2 then nI (ch + 1) else gI h q k := fun k => (E _ _ (by omega)).trans (e9 k)
  have ht' : tOL tr' := tot.2.2.1 r3
  have hm' : rMk h3 q n ats' tr' F (L + 1) (fun j => if j = L then tr.length else mk j) := by
    intro j hj
    dsimp only
    by_cases c : j = L
    · subst c
      rw [if_pos rfl, E8 j, if_pos rfl]
      have := tot.2.1 tr.length (Nat.le_refl _)
      dsimp only at this
      have e0 : ∀ f : Nat → Nat, pBk tur tr tr.length tr.length f = f := fun f => by
        cases hl : tr.length with
        | zero => rfl
        | succ k => unfold pBk; rw [if_pos (by omega)]
      refine ⟨rfl, tot.1, ?_, ?_, fun i hi => ?_⟩
      · rw [this, e0]; exact w1
      · rw [this, e0]; exact w2
      · rw [if_neg (by omega)]; exact (w3 i hi).2.1
    · obtain ⟨v1, v2, v3', v4, v5⟩ := w3 j (by omega)
      rw [if_neg c, E8 j, if_neg c]
      have := tot.2.1 (mk j) v2
      dsimp only at this
      refine ⟨v1, Nat.le_trans v2 tot.1, ?_, ?_, fun i hi => ?_⟩
      · rw [this]; exact v3'
      · rw [this]; exact v4
      · rw [if_neg (by omega)]; exact v5 i hi
  have hu' : rUn h3 q F (up T L (w + 1)) (L + 1) := by
    intro j hj
    by_cases c : j = L
    · subst c
      rw [E7 j, if_pos rfl, up_s]
      exact ⟨rfl, u2, by omega⟩
    · rw [E7 j, if_neg c, up_n c]
      exact w4 j hj
  have bx3 := (s3.sr ho2).1
  have b90 := a91.1
  cases b with
  | true =>
    have hw2 := sp4.1 rfl
    have heq := sp5 rfl
    rw [tst_t hw2]
    have nz1 : (nI 1 = (0 : Int32)) = False := eq_false (by decide)
    have z1' : call g Sets_spread [.ref (q + 1)] h2 = some (some (.int (nI 1)), h3) := z1
    have go2 : ev g Search_run 89 [.ref q, m, .int i, .int (nI (2 ^ w))] [.int (nI (2 ^ w)), .int (nI (pP L)), .ref (q + 1)] h1 = ev g Search_run 106 [.ref q, m, .int i, .int (nI (2 ^ w))] [.ref q] h3 := by
      simp (disch := omega) only [s_Search_run_0, s_Search_run_1, s_Search_run_3, s_Search_run_4, s_Search_run_7, s_Search_run_8, s_Search_run_11, s_Search_run_14, s_Search_run_15, s_Search_run_18, s_Search_run_19, s_Search_run_22, s_Search_run_23, s_Search_run_24, s_Search_run_27, s_Search_run_28, s_Search_run_31, s_Search_run_32, s_Search_run_33, s_Search_run_34, s_Search_run_35, s_Search_run_36, s_Search_run_39, s_Search_run_40, s_Search_run_43, s_Search_run_44, s_Search_run_45, s_Search_run_46, s_Search_run_47, s_Search_run_48, s_Search_run_49, s_Search_run_50, s_Search_run_51, s_Search_run_54, s_Search_run_55, s_Search_run_58, s_Search_run_59, s_Search_run_62, s_Search_run_65, s_Search_run_66, s_Search_run_67, s_Search_run_68, s_Search_run_71, s_Search_run_72, s_Search_run_73, s_Search_run_76, s_Search_run_77, s_Search_run_80, s_Search_run_83, s_Search_run_84, s_Search_run_87, s_Search_run_88, s_Search_run_89, s_Search_run_92, s_Search_run_95, s_Search_run_96, s_Search_run_99, s_Search_run_102, s_Search_run_105, s_Search_run_109, s_Search_run_112, s_Search_run_113, s_Search_run_114, s_Search_run_117, s_Search_run_118, s_Search_run_119, s_Search_run_122, s_Search_run_123, s_Search_run_126, s_Search_run_127, s_Search_run_133, s_Search_run_136, s_Search_run_137, s_Search_run_140, y_kd_sI, y_kd_sL, y_kd_sR, y_kd_cpI, y_kd_cpL, y_ln_sI, y_ln_sL, y_ln_sR, y_ln_cpI, y_ln_cpL, y_sz_sI, y_sz_sL, y_sz_sR, y_sz_cpI, y_sz_cpL, y_sl_sI, y_sl_sL, y_sl_sR, y_sl_cpI, y_sl_cpL, y_gI_sL, y_gI_sR, y_gI_cpI, y_gI_cpL, y_gI_nw, y_gL_sI, y_gL_sR, y_gL_cpI, y_gL_cpL, y_gL_nw, y_gR_sI, y_gR_sL, y_gR_cpI, y_gR_cpL, y_gR_nw, y_kd_nw, y_ln_nw, y_sz_nw, y_sl_nw, y_fx_int, y_fx_long, y_fx_ref, y_fx_null, y_fx_U, y_rf_s, y_rf_n, a_inb, a_ix, a_lt, a_eq, a_eq0, a_lt0, a_0lt, a_m1, a_m2, a_mlt, a_sub, a_dec, a_div, a_rem, a_shl, a_shr, a_bit, a_bit0, a_II, a_Ia, a_Ik, a_LL, a_La, a_Lk, a_RR, a_Ra, a_Rk, a_if0, a_if1, y_mul, y_and, y_or, nI_add, y_b1, y_b0, kon_v, kon_0, true_or, or_true, and_self, true_and, and_true, false_or, or_false, and_false, false_and, not_true_eq_false, not_false_eq_true, ite_self, ↓reduceIte, Nat.reduceEqDiff, Nat.reduceLeDiff, Nat.reduceAdd, Nat.reduceMul, Nat.reduceSub, Nat.reduceLT, Nat.reduceShiftLeft, Nat.reduceOr, Nat.reduceAnd, b90, x1, z1', a12, a22, a92.1, nz1]
    rw [go2]
    have hm2 : rMk h3 q n ats' tr' (up F (L + 1) (gc n σ1.1)) (L + 1) (fun j => if j = L then tr.length else mk j) := by
      intro j hj
      rw [up_n (by omega)]
      exact hm' j hj
    obtain ⟨i1, i2, i3, i4, i5, i6, i7, i8, i9⟩ := ho3
    have v6 : gI h3 q 6 = nI L := (E9 6).trans r8
    have v5 : gI h3 q 5 = nI (n * (n - 1) / 2) := (E9 5).trans r7
    have v4 : gI h3 q 4 = nI 0 := ((E9 4).trans r6).trans (by rw [h0])
    have v3'' : gI h3 q 3 = nI bl := (E9 3).trans r5
    have v2 : gI h3 q 2 = nI (ch + 1) := E9 2
    have v1 : gI h3 q 1 = gI h q 1 := E9 1
    have wg' : wgt (ats', tr', []) ≤ 360 := Nat.le_trans tot.2.2.2 w1
    by_cases zz : L + 1 = n * (n - 1) / 2
    · rw [if_pos zz]
      have go3 : ev g Search_run 106 [.ref q, m, .int i, .int (nI (2 ^ w))] [.ref q] h3 = ev g Search_run 126 [.ref q, m, .int i, .int (nI (2 ^ w))] [] (sI (sI h3 q 6 (nI (L + 1))) q 4 (nI 1)) := by
        have gA : call g Search_goAhead [.ref q] h3 = some (none, sI (sI h3 q 6 (nI (L + 1))) q 4 (nI 1)) := by
          rw [n_Search_goAhead]
          have nlt : (L + 1 < L + 1) = False := eq_false (by omega)
          rw [← zz] at v5
          simp (disch := omega) only [s_Search_goAhead_0, s_Search_goAhead_1, s_Search_goAhead_2, s_Search_goAhead_5, s_Search_goAhead_6, s_Search_goAhead_7, s_Search_goAhead_10, s_Search_goAhead_11, s_Search_goAhead_14, s_Search_goAhead_15, s_Search_goAhead_18, s_Search_goAhead_21, s_Search_goAhead_22, s_Search_goAhead_25, s_Search_goAhead_26, s_Search_goAhead_29, s_Search_goAhead_30, s_Search_goAhead_33, s_Search_goAhead_36, s_Search_goAhead_39, s_Search_goAhead_40, s_Search_goAhead_43, s_Search_goAhead_44, s_Search_goAhead_45, s_Search_goAhead_46, s_Search_goAhead_49, s_Search_goAhead_50, s_Search_goAhead_51, s_Search_goAhead_54, y_kd_sI, y_kd_sL, y_kd_sR, y_kd_cpI, y_kd_cpL, y_ln_sI, y_ln_sL, y_ln_sR, y_ln_cpI, y_ln_cpL, y_sz_sI, y_sz_sL, y_sz_sR, y_sz_cpI, y_sz_cpL, y_sl_sI, y_sl_sL, y_sl_sR, y_sl_cpI, y_sl_cpL, y_gI_sL, y_gI_sR, y_gI_cpI, y_gI_cpL, y_gI_nw, y_gL_sI, y_gL_sR, y_gL_cpI, y_gL_cpL, y_gL_nw, y_gR_sI, y_gR_sL, y_gR_cpI, y_gR_cpL, y_gR_nw, y_kd_nw, y_ln_nw, y_sz_nw, y_sl_nw, y_fx_int, y_fx_long, y_fx_ref, y_fx_null, y_fx_U, y_rf_s, y_rf_n, a_inb, a_ix, a_lt, a_eq, a_eq0, a_lt0, a_0lt, a_m1, a_m2, a_mlt, a_sub, a_dec, a_div, a_rem, a_shl, a_shr, a_bit, a_bit0, a_II, a_Ia, a_Ik, a_LL, a_La, a_Lk, a_RR, a_Ra, a_Rk, a_if0, a_if1, y_mul, y_and, y_or, nI_add, y_b1, y_b0, kon_v, kon_0, true_or, or_true, and_self, true_and, and_true, false_or, or_false, and_false, false_and, not_true_eq_false, not_false_eq_true, ite_self, ↓reduceIte, Nat.reduceEqDiff, Nat.reduceLeDiff, Nat.reduceAdd, Nat.reduceMul, Nat.reduceSub, Nat.reduceLT, Nat.reduceShiftLeft, Nat.reduceOr, Nat.reduceAnd, i1, i2, i3, v6, v5, nlt]
        simp (disch := omega) only [s_Search_run_106, s_Search_run_109, y_kd_sI, y_kd_sL, y_kd_sR, y_kd_cpI, y_kd_cpL, y_ln_sI, y_ln_sL, y_ln_sR, y_ln_cpI, y_ln_cpL, y_sz_sI, y_sz_sL, y_sz_sR, y_sz_cpI, y_sz_cpL, y_sl_sI, y_sl_sL, y_sl_sR, y_sl_cpI, y_sl_cpL, y_gI_sL, y_gI_sR, y_gI_cpI, y_gI_cpL, y_gI_nw, y_gL_sI, y_gL_sR, y_gL_cpI, y_gL_cpL, y_gL_nw, y_gR_sI, y_gR_sL, y_gR_cpI, y_gR_cpL, y_gR_nw, y_kd_nw, y_ln_nw, y_sz_nw, y_sl_nw, y_fx_int, y_fx_long, y_fx_ref, y_fx_null, y_fx_U, y_rf_s, y_rf_n, a_inb, a_ix, a_lt, a_eq, a_eq0, a_lt0, a_0lt, a_m1, a_m2, a_mlt, a_sub, a_dec, a_div, a_rem, a_shl, a_shr, a_bit, a_bit0, a_II, a_Ia, a_Ik, a_LL, a_La, a_Lk, a_RR, a_Ra, a_Rk, a_if0, a_if1, y_mul, y_and, y_or, nI_add, y_b1, y_b0, kon_v, kon_0, true_or, or_true, and_self, true_and, and_true, false_or, or_false, and_false, false_and, not_true_eq_false, not_false_eq_true, ite_self, ↓reduceIte, Nat.reduceEqDiff, Nat.reduceLeDiff, Nat.reduceAdd, Nat.reduceMul, Nat.reduceSub, Nat.reduceLT, Nat.reduceShiftLeft, Nat.reduceOr, Nat.reduceAnd, i1, gA]
      rw [go3]
      have q4 : gI (sI (sI h3 q 6 (nI (L + 1))) q 4 (nI 1)) q 4 = nI 1 := a_II
      have q2 : gI (sI (sI h3 q 6 (nI (L + 1))) q 4 (nI 1)) q 2 = nI (ch + 1) := by rw [a_Ik (by decide), a_Ik (by decide)]; exact v2
      rw [b_spent (g := g) (m := m) (i := .int i) (show kd (sI (sI h3 q 6 (nI (L + 1))) q 4 (nI 1)) q = 7 from i1) q4 q2 (by decide) (by omega)]
      have s4 : sam q (q + 8) h (sI (sI h3 q 6 (nI (L + 1))) q 4 (nI 1)) := (s123.aI (by omega)).aI (by omega)
      rw [if_neg (by omega)]
      refine ⟨_, _, rfl, ⟨f', ats', tr', (z2.I (by omega)).I (by omega), sp2, ht', q2, ?_, q4, ?_, ?_, fun _ _ => ⟨_, wg', ?_, hm2.fr (Nat.le_refl _) (fun j _ => ?_), ?_⟩⟩, s4, ?_⟩
      · rw [a_Ik (by decide), a_Ik (by decide)]; exact v3''
      · rw [a_Ik (by decide), a_Ik (by decide)]; exact v5
      · rw [a_Ik (by decide), a_II]; rfl
      · show eqv n ats' (up F (L + 1) (gc n σ1.1) (L + 1))
        rw [up_s]; exact heq
      · rw [a_Ia (by omega), a_Ia (by omega)]
      · show rUn _ q (up F (L + 1) (gc n σ1.1)) (up T L (w + 1)) (L + 1)
        intro j hj
        rw [up_n (show ¬ j = L + 1 by omega), a_Ia (by omega), a_Ia (by omega)]
        exact hu' j hj
      · rw [a_Ik (by decide), a_Ik (by decide)]; exact v1
    · rw [if_neg zz]
      obtain ⟨d1, d2, d3⟩ := hc3.1
      have d4 := d3 (L + 1) (by omega)
      obtain ⟨t1, t2⟩ := pP_lt (show L + 1 < 45 by omega)
      have t3 := (pP_n hn (show L + 1 < 45 by omega)).2 (by omega)
      have t4 := (z2.2.1 (pP (L + 1)) (by omega)).1
      dsimp only at t4
      have t5 : ats' (pP (L + 1)) = gc n σ1.1 (pP (L + 1)) := by
        have := heq (pP (L + 1) / 10) (pP (L + 1) % 10) (by omega) t3 (by omega)
        rw [show pP (L + 1) / 10 * 10 + pP (L + 1) % 10 = pP (L + 1) by omega] at this
        exact this
      have t6 : gc n σ1.1 (pP (L + 1)) < 256 := by rw [← t5]; exact (z2.2.1 (pP (L + 1)) (by omega)).2
      rw [t5] at t4
      have go3 : ev g Search_run 106 [.ref q, m, .int i, .int (nI (2 ^ w))] [.ref q] h3 = ev g Search_run 126 [.ref q, m, .int i, .int (nI (2 ^ w))] [] (sI (sI h3 q 6 (nI (L + 1))) (q + 7) (L + 1) (nI (gc n σ1.1 (pP (L + 1))))) := by
        have gA : call g Search_goAhead [.ref q] h3 = some (none, sI (sI h3 q 6 (nI (L + 1))) (q + 7) (L + 1) (nI (gc n σ1.1 (pP (L + 1))))) := by
          rw [n_Search_goAhead]
          have ylt : (L + 1 < n * (n - 1) / 2) = True := eq_true (by omega)
          have i91 := i9.1
          have i92 := i9.2.1
          have i93 := i9.2.2.2.2.2.2.2.1
          have i94 := i9.2.2.2.2.2.2.2.2.1
          simp (disch := omega) only [s_Search_goAhead_0, s_Search_goAhead_1, s_Search_goAhead_2, s_Search_goAhead_5, s_Search_goAhead_6, s_Search_goAhead_7, s_Search_goAhead_10, s_Search_goAhead_11, s_Search_goAhead_14, s_Search_goAhead_15, s_Search_goAhead_18, s_Search_goAhead_21, s_Search_goAhead_22, s_Search_goAhead_25, s_Search_goAhead_26, s_Search_goAhead_29, s_Search_goAhead_30, s_Search_goAhead_33, s_Search_goAhead_36, s_Search_goAhead_39, s_Search_goAhead_40, s_Search_goAhead_43, s_Search_goAhead_44, s_Search_goAhead_45, s_Search_goAhead_46, s_Search_goAhead_49, s_Search_goAhead_50, s_Search_goAhead_51, s_Search_goAhead_54, y_kd_sI, y_kd_sL, y_kd_sR, y_kd_cpI, y_kd_cpL, y_ln_sI, y_ln_sL, y_ln_sR, y_ln_cpI, y_ln_cpL, y_sz_sI, y_sz_sL, y_sz_sR, y_sz_cpI, y_sz_cpL, y_sl_sI, y_sl_sL, y_sl_sR, y_sl_cpI, y_sl_cpL, y_gI_sL, y_gI_sR, y_gI_cpI, y_gI_cpL, y_gI_nw, y_gL_sI, y_gL_sR, y_gL_cpI, y_gL_cpL, y_gL_nw, y_gR_sI, y_gR_sL, y_gR_cpI, y_gR_cpL, y_gR_nw, y_kd_nw, y_ln_nw, y_sz_nw, y_sl_nw, y_fx_int, y_fx_long, y_fx_ref, y_fx_null, y_fx_U, y_rf_s, y_rf_n, a_inb, a_ix, a_lt, a_eq, a_eq0, a_lt0, a_0lt, a_m1, a_m2, a_mlt, a_sub, a_dec, a_div, a_rem, a_shl, a_shr, a_bit, a_bit0, a_II, a_Ia, a_Ik, a_LL, a_La, a_Lk, a_RR, a_Ra, a_Rk, a_if0, a_if1, y_mul, y_and, y_or, nI_add, y_b1, y_b0, kon_v, kon_0, true_or, or_true, and_self, true_and, and_true, false_or, or_false, and_false, false_and, not_true_eq_false, not_false_eq_true, ite_self, ↓reduceIte, Nat.reduceEqDiff, Nat.reduceLeDiff, Nat.reduceAdd, Nat.reduceMul, Nat.reduceSub, Nat.reduceLT, Nat.reduceShiftLeft, Nat.reduceOr, Nat.reduceAnd, i1, i2, i3, i4, i5, i6, i91, i92, i93, i94, v6, v5, ylt, d1, d2, d4, t4]
        simp (disch := omega) only [s_Search_run_106, s_Search_run_109, y_kd_sI, y_kd_sL, y_kd_sR, y_kd_cpI, y_kd_cpL, y_ln_sI, y_ln_sL, y_ln_sR, y_ln_cpI, y_ln_cpL, y_sz_sI, y_sz_sL, y_sz_sR, y_sz_cpI, y_sz_cpL, y_sl_sI, y_sl_sL, y_sl_sR, y_sl_cpI, y_sl_cpL, y_gI_sL, y_gI_sR, y_gI_cpI, y_gI_cpL, y_gI_nw, y_gL_sI, y_gL_sR, y_gL_cpI, y_gL_cpL, y_gL_nw, y_gR_sI, y_gR_sL, y_gR_cpI, y_gR_cpL, y_gR_nw, y_kd_nw, y_ln_nw, y_sz_nw, y_sl_nw, y_fx_int, y_fx_long, y_fx_ref, y_fx_null, y_fx_U, y_rf_s, y_rf_n, a_inb, a_ix, a_lt, a_eq, a_eq0, a_lt0, a_0lt, a_m1, a_m2, a_mlt, a_sub, a_dec, a_div, a_rem, a_shl, a_shr, a_bit, a_bit0, a_II, a_Ia, a_Ik, a_LL, a_La, a_Lk, a_RR, a_Ra, a_Rk, a_if0, a_if1, y_mul, y_and, y_or, nI_add, y_b1, y_b0, kon_v, kon_0, true_or, or_true, and_self, true_and, and_true, false_or, or_false, and_false, false_and, not_true_eq_false, not_false_eq_true, ite_self, ↓reduceIte, Nat.reduceEqDiff, Nat.reduceLeDiff, Nat.reduceAdd, Nat.reduceMul, Nat.reduceSub, Nat.reduceLT, Nat.reduceShiftLeft, Nat.reduceOr, Nat.reduceAnd, i1, gA]
      rw [go3]
      have q4 : gI (sI (sI h3 q 6 (nI (L + 1))) (q + 7) (L + 1) (nI (gc n σ1.1 (pP (L + 1))))) q 4 = nI 0 := by rw [a_Ia (by omega), a_Ik (by decide)]; exact v4
      have q2 : gI (sI (sI h3 q 6 (nI (L + 1))) (q + 7) (L + 1) (nI (gc n σ1.1 (pP (L + 1))))) q 2 = nI (ch + 1) := by rw [a_Ia (by omega), a_Ik (by decide)]; exact v2
      rw [b_spent (g := g) (m := m) (i := .int i) (show kd (sI (sI h3 q 6 (nI (L + 1))) (q + 7) (L + 1) (nI (gc n σ1.1 (pP (L + 1))))) q = 7 from i1) q4 q2 (by decide) (by omega)]
      have s4 : sam q (q + 8) h (sI (sI h3 q 6 (nI (L + 1))) (q + 7) (L + 1) (nI (gc n σ1.1 (pP (L + 1))))) := (s123.aI (by omega)).aI (by omega)
      have pre : rCS (sI (sI h3 q 6 (nI (L + 1))) (q + 7) (L + 1) (nI (gc n σ1.1 (pP (L + 1))))) q n (L + 1, ch + 1, bl, 0, up F (L + 1) (gc n σ1.1), up (up T L (w + 1)) (L + 1) 0) := by
        refine ⟨f', ats', tr', (z2.I (by omega)).I (by omega), sp2, ht', q2, ?_, q4, ?_, ?_, fun _ _ => ⟨_, wg', ?_, hm2.fr (Nat.le_refl _) (fun j _ => ?_), ?_⟩⟩
        · rw [a_Ia (by omega), a_Ik (by decide)]; exact v3''
        · rw [a_Ia (by omega), a_Ik (by decide)]; exact v5
        · rw [a_Ia (by omega), a_II]; rfl
        · show eqv n ats' (up F (L + 1) (gc n σ1.1) (L + 1))
          rw [up_s]; exact heq
        · rw [a_Ia (by omega), a_Ia (by omega)]
        · show rUn _ q (up F (L + 1) (gc n σ1.1)) (up (up T L (w + 1)) (L + 1) 0) (L + 1 + 1)
          intro j hj
          by_cases c : j = L + 1
          · subst c
            rw [up_s, up_s, a_II]
            exact ⟨rfl, t6, by omega⟩
          · rw [up_n c, up_n c, a_Ik c, a_Ia (by omega)]
            exact hu' j (by omega)
      have s5 : sam q (q + 8) h (if (0 : Nat) = 0 ∧ 20000 ≤ ch + 1 then sI (sI (sI h3 q 6 (nI (L + 1))) (q + 7) (L + 1) (nI (gc n σ1.1 (pP (L + 1))))) q 4 (nI 3) else sI (sI h3 q 6 (nI (L + 1))) (q + 7) (L + 1) (nI (gc n σ1.1 (pP (L + 1))))) := by
        split
        · exact s4.aI (by omega)
        · exact s4
      refine ⟨_, _, rfl, rCS_spent (by by_cases c : ch + 1 = 20000 <;> simp [c]) (by omega) (by decide) pre, s5, ?_⟩
      split
      · rw [a_Ik (by decide), a_Ia (by omega), a_Ik (by decide)]; exact v1
      · rw [a_Ia (by omega), a_Ik (by decide)]; exact v1
  | false =>
    have hw2 : ¬ whl n (gc n σ1.1) := fun z => by have := sp4.2 z; cases this
    rw [tst_f hw2]
    have z0 : (nI 0 = (0 : Int32)) = True := eq_true (by decide)
    have nz1 : (nI 1 = (0 : Int32)) = False := eq_false (by decide)
    have z1' : call g Sets_spread [.ref (q + 1)] h2 = some (some (.int (nI 0)), h3) := z1
    have v3'' : gI h3 q 3 = nI bl := (E9 3).trans r5
    have go2 : ev g Search_run 89 [.ref q, m, .int i, .int (nI (2 ^ w))] [.int (nI (2 ^ w)), .int (nI (pP L)), .ref (q + 1)] h1 = ev g Search_run 123 [.ref q, m, .int i, .int (nI (2 ^ w))] [.ref q] (sI h3 q 3 (nI (bl + 1))) := by
      simp (disch := omega) only [s_Search_run_0, s_Search_run_1, s_Search_run_3, s_Search_run_4, s_Search_run_7, s_Search_run_8, s_Search_run_11, s_Search_run_14, s_Search_run_15, s_Search_run_18, s_Search_run_19, s_Search_run_22, s_Search_run_23, s_Search_run_24, s_Search_run_27, s_Search_run_28, s_Search_run_31, s_Search_run_32, s_Search_run_33, s_Search_run_34, s_Search_run_35, s_Search_run_36, s_Search_run_39, s_Search_run_40, s_Search_run_43, s_Search_run_44, s_Search_run_45, s_Search_run_46, s_Search_run_47, s_Search_run_48, s_Search_run_49, s_Search_run_50, s_Search_run_51, s_Search_run_54, s_Search_run_55, s_Search_run_58, s_Search_run_59, s_Search_run_62, s_Search_run_65, s_Search_run_66, s_Search_run_67, s_Search_run_68, s_Search_run_71, s_Search_run_72, s_Search_run_73, s_Search_run_76, s_Search_run_77, s_Search_run_80, s_Search_run_83, s_Search_run_84, s_Search_run_87, s_Search_run_88, s_Search_run_89, s_Search_run_92, s_Search_run_95, s_Search_run_96, s_Search_run_99, s_Search_run_102, s_Search_run_105, s_Search_run_106, s_Search_run_109, s_Search_run_112, s_Search_run_113, s_Search_run_114, s_Search_run_117, s_Search_run_118, s_Search_run_119, s_Search_run_122, s_Search_run_126, s_Search_run_127, s_Search_run_133, s_Search_run_136, s_Search_run_137, s_Search_run_140, y_kd_sI, y_kd_sL, y_kd_sR, y_kd_cpI, y_kd_cpL, y_ln_sI, y_ln_sL, y_ln_sR, y_ln_cpI, y_ln_cpL, y_sz_sI, y_sz_sL, y_sz_sR, y_sz_cpI, y_sz_cpL, y_sl_sI, y_sl_sL, y_sl_sR, y_sl_cpI, y_sl_cpL, y_gI_sL, y_gI_sR, y_gI_cpI, y_gI_cpL, y_gI_nw, y_gL_sI, y_gL_sR, y_gL_cpI, y_gL_cpL, y_gL_nw, y_gR_sI, y_gR_sL, y_gR_cpI, y_gR_cpL, y_gR_nw, y_kd_nw, y_ln_nw, y_sz_nw, y_sl_nw, y_fx_int, y_fx_long, y_fx_ref, y_fx_null, y_fx_U, y_rf_s, y_rf_n, a_inb, a_ix, a_lt, a_eq, a_eq0, a_lt0, a_0lt, a_m1, a_m2, a_mlt, a_sub, a_dec, a_div, a_rem, a_shl, a_shr, a_bit, a_bit0, a_II, a_Ia, a_Ik, a_LL, a_La, a_Lk, a_RR, a_Ra, a_Rk, a_if0, a_if1, y_mul, y_and, y_or, nI_add, y_b1, y_b0, kon_v, kon_0, true_or, or_true, and_self, true_and, and_true, false_or, or_false, and_false, false_and, not_true_eq_false, not_false_eq_true, ite_self, ↓reduceIte, Nat.reduceEqDiff, Nat.reduceLeDiff, Nat.reduceAdd, Nat.reduceMul, Nat.reduceSub, Nat.reduceLT, Nat.reduceShiftLeft, Nat.reduceOr, Nat.reduceAnd, b90, x1, z1', a12, a22, a92.1, nz1, z0, bx3, v3'']
    rw [go2]
    have s4 : sam q (q + 8) h3 (sI h3 q 3 (nI (bl + 1))) := sam.I (by omega)
    have v6 : gI (sI h3 q 3 (nI (bl + 1))) q 6 = nI L := by rw [a_Ik (by decide)]; exact (E9 6).trans r8
    obtain ⟨h5, e5, p5⟩ := c_goBack (g := g) (F := F) (T := up T L (w + 1)) (show L < 45 by omega) (s4.sr ho3) (s4.cw (Nat.le_refl _) hc3) (z2.I (by omega)) sp2 ht' v6 (hm'.fr (Nat.le_refl _) (fun j _ => a_Ia (by omega))) (hu'.fr (Nat.le_refl _) (fun j _ => a_Ia (by omega)))
    obtain ⟨f6, ats6, tr6, y1', y2', y3', y4', y5', y6'⟩ := p5
    have i1 := ho3.1
    have go3 : ev g Search_run 123 [.ref q, m, .int i, .int (nI (2 ^ w))] [.ref q] (sI h3 q 3 (nI (bl + 1))) = ev g Search_run 126 [.ref q, m, .int i, .int (nI (2 ^ w))] [] h5 := by
      simp (disch := omega) only [s_Search_run_123, y_kd_sI, y_kd_sL, y_kd_sR, y_kd_cpI, y_kd_cpL, y_ln_sI, y_ln_sL, y_ln_sR, y_ln_cpI, y_ln_cpL, y_sz_sI, y_sz_sL, y_sz_sR, y_sz_cpI, y_sz_cpL, y_sl_sI, y_sl_sL, y_sl_sR, y_sl_cpI, y_sl_cpL, y_gI_sL, y_gI_sR, y_gI_cpI, y_gI_cpL, y_gI_nw, y_gL_sI, y_gL_sR, y_gL_cpI, y_gL_cpL, y_gL_nw, y_gR_sI, y_gR_sL, y_gR_cpI, y_gR_cpL, y_gR_nw, y_kd_nw, y_ln_nw, y_sz_nw, y_sl_nw, y_fx_int, y_fx_long, y_fx_ref, y_fx_null, y_fx_U, y_rf_s, y_rf_n, a_inb, a_ix, a_lt, a_eq, a_eq0, a_lt0, a_0lt, a_m1, a_m2, a_mlt, a_sub, a_dec, a_div, a_rem, a_shl, a_shr, a_bit, a_bit0, a_II, a_Ia, a_Ik, a_LL, a_La, a_Lk, a_RR, a_Ra, a_Rk, a_if0, a_if1, y_mul, y_and, y_or, nI_add, y_b1, y_b0, kon_v, kon_0, true_or, or_true, and_self, true_and, and_true, false_or, or_false, and_false, false_and, not_true_eq_false, not_false_eq_true, ite_self, ↓reduceIte, Nat.reduceEqDiff, Nat.reduceLeDiff, Nat.reduceAdd, Nat.reduceMul, Nat.reduceSub, Nat.reduceLT, Nat.reduceShiftLeft, Nat.reduceOr, Nat.reduceAnd, i1, e5]
    rw [go3]
    have s5 : sam q (q + 8) h h5 := (s123.tr s4).tr y4'
    have i5 := (s5.sr ho).1
    have v2 : gI h5 q 2 = nI (ch + 1) := by rw [y5' 2 (by decide) (by decide), a_Ik (by decide)]; exact E9 2
    have v3x : gI h5 q 3 = nI (bl + 1) := by rw [y5' 3 (by decide) (by decide), a_II]
    have v5 : gI h5 q 5 = nI (n * (n - 1) / 2) := by rw [y5' 5 (by decide) (by decide), a_Ik (by decide)]; exact (E9 5).trans r7
    have v1 : gI h5 q 1 = gI h q 1 := by rw [y5' 1 (by decide) (by decide), a_Ik (by decide)]; exact E9 1
    rcases y6' with ⟨o1, o2, o3⟩ | ⟨L', mk', o1, o2, o3, o4, o5, o6, o7⟩
    · rw [o1, b_spent (g := g) (m := m) (i := .int i) i5 o2 v2 (by decide) (by omega), if_neg (by omega)]
      exact ⟨_, _, rfl, ⟨f6, ats6, tr6, y1', y2', y3', v2, v3x, o2, v5, o3, fun z => absurd rfl z⟩, s5, v1⟩
    · have o2' : gI h5 q 4 = nI 0 := by rw [o2, a_Ik (by decide)]; exact ((E9 4).trans r6).trans (by rw [h0])
      rw [o1, b_spent (g := g) (m := m) (i := .int i) i5 o2' v2 (by decide) (by omega)]
      have pre : rCS h5 q n (L', ch + 1, bl + 1, 0, F, up T L (w + 1)) := ⟨f6, ats6, tr6, y1', y2', y3', v2, v3x, o2', v5, o3, fun _ _ => ⟨mk', o4, o5, o6, o7⟩⟩
      refine ⟨_, _, rfl, rCS_spent (by by_cases c : ch + 1 = 20000 <;> simp [c]) (by omega) (by decide) pre, ?_, ?_⟩
      · split
        · exact s5.aI (by omega)
        · exact s5
      · split
        · rw [a_Ik (by decide)]; exact v1
        · exact v1
end ZRN
