/-! the reference's search in the machine: goOn, goBehind, beginSearch -/
theorem aC_back {c b : Nat} {F : Nat → Nat → Nat} {T : Nat → Nat} {o : Option Nat} : aC (aBack c b F T o) = c := by
  cases o <;> rfl
theorem aC_step {n : Nat} {A : aA} : aC (aStep n A) = aC A + 1 := by
  unfold aStep
  by_cases hw : whl n (gc n (lsF (aF A (aL A)) (pP (aL A)) (nx (aF A (aL A) (pP (aL A))) (aT A (aL A)))))
  · rw [tst_t hw]
    split <;> rfl
  · rw [tst_f hw, aC_back]
section ZMG
variable {g : Nat → Nat} {h : zMem} {m n : Nat}
theorem kW.mv {h' : zMem} (hK : kW h m) (c1 : ∀ k : Nat, gI h' (m + 85) k = gI h (m + 85) k) (c2 : gI h' m 52 = gI h m 52) : kW h' m := by
  rcases hK with k | ⟨k, k'⟩
  · exact Or.inl (c2.trans k)
  · exact Or.inr ⟨c2.trans k, fun i hi => (c1 i).trans (k' i hi)⟩
theorem l_goOn (hn : n ≤ 10) (hg : g 2 < m) : ∀ (k : Nat) (h : zMem) (A : aA), 20000 - aC A ≤ k → oMo h m → cT g h 2 → kW h m → rMS h m n A → aOK n A → aSy n A →
    ∃ h' : zMem, ev g Mo_goOn 0 [.ref m] [] h = some (none, h') ∧ rMS h' m n (aRun n k A) ∧ kW h' m ∧ mch m h h' ∧ gI h' m 53 = gI h m 53 := by
  intro k
  induction k with
  | zero =>
    intro h A hc ho hT hK hr hA hy
    have h0 : ¬ aS A = 0 := fun e => by have := hA.2.2.2.2.2.2.2.2.2 e; omega
    have h3 := hA.2.2.1
    refine ⟨h, ?_, hr, hK, mch.rf, rfl⟩
    have r6 := hr.2.2.2.2.2.1
    have a1 := mo_k ho
    have zf := eq_false h0
    simp (disch := omega) only [s_Mo_goOn_0, s_Mo_goOn_1, s_Mo_goOn_4, s_Mo_goOn_7, s_Mo_goOn_8, s_Mo_goOn_11, s_Mo_goOn_14, y_kd_sI, y_kd_sL, y_kd_sR, y_kd_cpI, y_kd_cpL, y_ln_sI, y_ln_sL, y_ln_sR, y_ln_cpI, y_ln_cpL, y_sz_sI, y_sz_sL, y_sz_sR, y_sz_cpI, y_sz_cpL, y_sl_sI, y_sl_sL, y_sl_sR, y_sl_cpI, y_sl_cpL, y_gI_sL, y_gI_sR, y_gI_cpI, y_gI_cpL, y_gI_nw, y_gL_sI, y_gL_sR, y_gL_cpI, y_gL_cpL, y_gL_nw, y_gR_sI, y_gR_sL, y_gR_cpI, y_gR_cpL, y_gR_nw, y_kd_nw, y_ln_nw, y_sz_nw, y_sl_nw, y_fx_int, y_fx_long, y_fx_ref, y_fx_null, y_fx_U, y_rf_s, y_rf_n, a_inb, a_ix, a_lt, a_eq, a_eq0, a_lt0, a_0lt, a_m1, a_m2, a_mlt, a_sub, a_dec, a_div, a_rem, a_shl, a_shr, a_bit, a_bit0, a_II, a_Ia, a_Ik, a_LL, a_La, a_Lk, a_RR, a_Ra, a_Rk, a_if0, a_if1, y_mul, y_and, y_or, nI_add, y_b1, y_b0, kon_v, kon_0, true_or, or_true, and_self, true_and, and_true, false_or, or_false, and_false, false_and, not_true_eq_false, not_false_eq_true, ite_self, ↓reduceIte, Nat.reduceEqDiff, Nat.reduceLeDiff, Nat.reduceAdd, Nat.reduceMul, Nat.reduceSub, Nat.reduceLT, Nat.reduceShiftLeft, Nat.reduceOr, Nat.reduceAnd, Bool.false_eq_true, a1, r6, zf]
  | succ k ih =>
    intro h A hc ho hT hK hr hA hy
    have h3 := hA.2.2.1
    have r6 := hr.2.2.2.2.2.1
    have a1 := mo_k ho
    unfold aRun
    by_cases h0 : aS A = 0
    · rw [if_pos h0]
      obtain ⟨h1, e1, e2, e3, e4, e5⟩ := c_Mo_choose (g := g) hn ho hT hg hK hr hA hy h0
      obtain ⟨h2, f1, f2, f3, f4, f5⟩ := ih h1 (aStep n A) (by rw [aC_step]; omega) (e4.mo ho) (e4.ct hg hT) e3 e2 (aOK_step hn hA h0) (aSy_step hn hA h0 hy)
      refine ⟨h2, ?_, f2, f3, e4.tr f4, f5.trans e5⟩
      rw [← f1]
      have z0 := eq_true h0
      rw [s_Mo_goOn_0]
      simp (disch := omega) only [s_Mo_goOn_1, s_Mo_goOn_4, s_Mo_goOn_7, s_Mo_goOn_8, s_Mo_goOn_11, s_Mo_goOn_14, y_kd_sI, y_kd_sL, y_kd_sR, y_kd_cpI, y_kd_cpL, y_ln_sI, y_ln_sL, y_ln_sR, y_ln_cpI, y_ln_cpL, y_sz_sI, y_sz_sL, y_sz_sR, y_sz_cpI, y_sz_cpL, y_sl_sI, y_sl_sL, y_sl_sR, y_sl_cpI, y_sl_cpL, y_gI_sL, y_gI_sR, y_gI_cpI, y_gI_cpL, y_gI_nw, y_gL_sI, y_gL_sR, y_gL_cpI, y_gL_cpL, y_gL_nw, y_gR_sI, y_gR_sL, y_gR_cpI, y_gR_cpL, y_gR_nw, y_kd_nw, y_ln_nw, y_sz_nw, y_sl_nw, y_fx_int, y_fx_long, y_fx_ref, y_fx_null, y_fx_U, y_rf_s, y_rf_n, a_inb, a_ix, a_lt, a_eq, a_eq0, a_lt0, a_0lt, a_m1, a_m2, a_mlt, a_sub, a_dec, a_div, a_rem, a_shl, a_shr, a_bit, a_bit0, a_II, a_Ia, a_Ik, a_LL, a_La, a_Lk, a_RR, a_Ra, a_Rk, a_if0, a_if1, y_mul, y_and, y_or, nI_add, y_b1, y_b0, kon_v, kon_0, true_or, or_true, and_self, true_and, and_true, false_or, or_false, and_false, false_and, not_true_eq_false, not_false_eq_true, ite_self, ↓reduceIte, Nat.reduceEqDiff, Nat.reduceLeDiff, Nat.reduceAdd, Nat.reduceMul, Nat.reduceSub, Nat.reduceLT, Nat.reduceShiftLeft, Nat.reduceOr, Nat.reduceAnd, Bool.false_eq_true, a1, r6, z0, e1]
    · rw [if_neg h0]
      refine ⟨h, ?_, hr, hK, mch.rf, rfl⟩
      have zf := eq_false h0
      simp (disch := omega) only [s_Mo_goOn_0, s_Mo_goOn_1, s_Mo_goOn_4, s_Mo_goOn_7, s_Mo_goOn_8, s_Mo_goOn_11, s_Mo_goOn_14, y_kd_sI, y_kd_sL, y_kd_sR, y_kd_cpI, y_kd_cpL, y_ln_sI, y_ln_sL, y_ln_sR, y_ln_cpI, y_ln_cpL, y_sz_sI, y_sz_sL, y_sz_sR, y_sz_cpI, y_sz_cpL, y_sl_sI, y_sl_sL, y_sl_sR, y_sl_cpI, y_sl_cpL, y_gI_sL, y_gI_sR, y_gI_cpI, y_gI_cpL, y_gI_nw, y_gL_sI, y_gL_sR, y_gL_cpI, y_gL_cpL, y_gL_nw, y_gR_sI, y_gR_sL, y_gR_cpI, y_gR_cpL, y_gR_nw, y_kd_nw, y_ln_nw, y_sz_nw, y_sl_nw, y_fx_int, y_fx_long, y_fx_ref, y_fx_null, y_fx_U, y_rf_s, y_rf_n, a_inb, a_ix, a_lt, a_eq, a_eq0, a_lt0, a_0lt, a_m1, a_m2, a_mlt, a_sub, a_dec, a_div, a_rem, a_shl, a_shr, a_bit, a_bit0, a_II, a_Ia, a_Ik, a_LL, a_La, a_Lk, a_RR, a_Ra, a_Rk, a_if0, a_if1, y_mul, y_and, y_or, nI_add, y_b1, y_b0, kon_v, kon_0, true_or, or_true, and_self, true_and, and_true, false_or, or_false, and_false, false_and, not_true_eq_false, not_false_eq_true, ite_self, ↓reduceIte, Nat.reduceEqDiff, Nat.reduceLeDiff, Nat.reduceAdd, Nat.reduceMul, Nat.reduceSub, Nat.reduceLT, Nat.reduceShiftLeft, Nat.reduceOr, Nat.reduceAnd, Bool.false_eq_true, a1, r6, zf]
theorem c_Mo_goOn {A : aA} (hn : n ≤ 10) (hg : g 2 < m) (ho : oMo h m) (hT : cT g h 2) (hK : kW h m) (hr : rMS h m n A) (hA : aOK n A) (hy : aSy n A) :
    ∃ h' : zMem, call g Mo_goOn [.ref m] h = some (none, h') ∧ rMS h' m n (aRun n 20000 A) ∧ kW h' m ∧ mch m h h' ∧ gI h' m 53 = gI h m 53 := by
  obtain ⟨h', e⟩ := l_goOn (g := g) hn hg 20000 h A (by omega) ho hT hK hr hA hy
  exact ⟨h', (n_Mo_goOn).trans e.1, e.2⟩
theorem aRun_st {A : aA} {k : Nat} (h : ¬ aS A = 0) : aRun n k A = A := by
  cases k with
  | zero => rfl
  | succ k => unfold aRun; rw [if_neg h]
theorem c_Mo_goBehind {A : aA} (hn : n ≤ 10) (hg : g 2 < m) (ho : oMo h m) (hT : cT g h 2) (hK : kW h m) (hr : rMS h m n A) (hA : aOK n A) (hy : aSy n A) (h1 : aS A = 1) :
    ∃ h' : zMem, call g Mo_goBehind [.ref m] h = some (none, h') ∧ rMS h' m n (aRun n 20000 (aBehind n A)) ∧ kW h' m ∧ mch m h h' ∧ gI h' m 53 = nI 0 := by
  have hB := aOK_behind hn hA h1
  have hyB := aSy_behind hA h1 hy
  have h45 := pn_le hn
  obtain ⟨A1, A2, A3, A4, A5, A6, A7, A8, A9, A10⟩ := hA
  have hL := A8 h1
  obtain ⟨r1, r2, r3, r4, r5, r6, r7⟩ := hr
  have a1 := mo_k ho
  have d0 : (nI 0 &&& 1 = nI 0) = True := y_b0
  by_cases z : n * (n - 1) / 2 = 0
  · have eB : aBehind n A = (0, aC A, aB A, 2, aF A, aT A) := if_pos z
    rw [eB] at hB ⊢
    rw [aRun_st (by show ¬ (2 : Nat) = 0; decide)]
    have zt := eq_true z
    refine ⟨sI (sI h m 53 (nI 0)) m 41 (nI 2), ?_, ⟨?_, ?_, ?_, ?_, ?_, a_II, fun z => absurd rfl z⟩, hK.mv (fun k => by rw [a_Ia (by omega), a_Ia (by omega)]) (by rw [a_Ik (by decide), a_Ik (by decide)]), (mch.I (by omega)).tr (mch.I (by omega)), by rw [a_Ik (by decide), a_II]⟩
    · rw [n_Mo_goBehind]
      simp (disch := omega) only [s_Mo_goBehind_0, s_Mo_goBehind_1, s_Mo_goBehind_2, s_Mo_goBehind_5, s_Mo_goBehind_6, s_Mo_goBehind_9, s_Mo_goBehind_12, s_Mo_goBehind_13, s_Mo_goBehind_14, s_Mo_goBehind_17, s_Mo_goBehind_18, s_Mo_goBehind_19, s_Mo_goBehind_20, s_Mo_goBehind_23, s_Mo_goBehind_24, s_Mo_goBehind_25, s_Mo_goBehind_28, s_Mo_goBehind_29, s_Mo_goBehind_30, s_Mo_goBehind_33, s_Mo_goBehind_34, s_Mo_goBehind_37, s_Mo_goBehind_40, s_Mo_goBehind_41, s_Mo_goBehind_42, s_Mo_goBehind_45, s_Mo_goBehind_48, s_Mo_goBehind_49, s_Mo_goBehind_52, s_Mo_goBehind_55, s_Mo_goBehind_58, s_Mo_goBehind_59, s_Mo_goBehind_60, s_Mo_goBehind_63, s_Mo_goBehind_66, s_Mo_goBehind_67, s_Mo_goBehind_70, y_kd_sI, y_kd_sL, y_kd_sR, y_kd_cpI, y_kd_cpL, y_ln_sI, y_ln_sL, y_ln_sR, y_ln_cpI, y_ln_cpL, y_sz_sI, y_sz_sL, y_sz_sR, y_sz_cpI, y_sz_cpL, y_sl_sI, y_sl_sL, y_sl_sR, y_sl_cpI, y_sl_cpL, y_gI_sL, y_gI_sR, y_gI_cpI, y_gI_cpL, y_gI_nw, y_gL_sI, y_gL_sR, y_gL_cpI, y_gL_cpL, y_gL_nw, y_gR_sI, y_gR_sL, y_gR_cpI, y_gR_cpL, y_gR_nw, y_kd_nw, y_ln_nw, y_sz_nw, y_sl_nw, y_fx_int, y_fx_long, y_fx_ref, y_fx_null, y_fx_U, y_rf_s, y_rf_n, a_inb, a_ix, a_lt, a_eq, a_eq0, a_lt0, a_0lt, a_m1, a_m2, a_mlt, a_sub, a_dec, a_div, a_rem, a_shl, a_shr, a_bit, a_bit0, a_II, a_Ia, a_Ik, a_LL, a_La, a_Lk, a_RR, a_Ra, a_Rk, a_if0, a_if1, y_mul, y_and, y_or, nI_add, y_b1, y_b0, kon_v, kon_0, true_or, or_true, and_self, true_and, and_true, false_or, or_false, and_false, false_and, not_true_eq_false, not_false_eq_true, ite_self, ↓reduceIte, Nat.reduceEqDiff, Nat.reduceLeDiff, Nat.reduceAdd, Nat.reduceMul, Nat.reduceSub, Nat.reduceLT, Nat.reduceShiftLeft, Nat.reduceOr, Nat.reduceAnd, Bool.false_eq_true, a1, r2, zt, d0]
    · rw [a_Ik (by decide), a_Ik (by decide)]; exact r1
    · rw [a_Ik (by decide), a_Ik (by decide)]; exact r2
    · rw [a_Ik (by decide), a_Ik (by decide), r3, hL, z]; rfl
    · rw [a_Ik (by decide), a_Ik (by decide)]; exact r4
    · rw [a_Ik (by decide), a_Ik (by decide)]; exact r5
  · have eB : aBehind n A = aBack (aC A) (aB A) (aF A) (aT A) (aK (aF A) (aT A) (n * (n - 1) / 2 - 1)) := if_neg z
    obtain ⟨w1, w2⟩ := r7 (by omega) (by omega)
    rw [if_pos h1] at w2
    rw [hL] at w1 w2
    have zf := eq_false z
    have e0 : nI (n * (n - 1) / 2) - nI 1 = nI (n * (n - 1) / 2 - 1) := y_sub (by omega)
    have s1 : mch m h (sI (sI (sI h m 53 (nI 0)) m 38 (nI (n * (n - 1) / 2 - 1))) m 41 (nI 0)) := ((mch.I (by omega)).tr (mch.I (by omega))).tr (mch.I (by omega))
    have E : ∀ k : Nat, gI (sI (sI (sI h m 53 (nI 0)) m 38 (nI (n * (n - 1) / 2 - 1))) m 41 (nI 0)) m k = if k = 41 then nI 0 else if k = 38 then nI (n * (n - 1) / 2 - 1) else if k = 53 then nI 0 else gI h m k := fun k => by
      rw [y_gI_sI, y_gI_sI, y_gI_sI]
      simp only [true_and]
    have E2 : ∀ b k : Nat, ¬ b = m → gI (sI (sI (sI h m 53 (nI 0)) m 38 (nI (n * (n - 1) / 2 - 1))) m 41 (nI 0)) b k = gI h b k := fun b k hb => by rw [a_Ia hb, a_Ia hb, a_Ia hb]
    have go : call g Mo_goBehind [.ref m] h = ev g Mo_goBehind 34 [.ref m] [.ref m] (sI (sI (sI h m 53 (nI 0)) m 38 (nI (n * (n - 1) / 2 - 1))) m 41 (nI 0)) := by
      rw [n_Mo_goBehind]
      simp (disch := omega) only [s_Mo_goBehind_0, s_Mo_goBehind_1, s_Mo_goBehind_2, s_Mo_goBehind_5, s_Mo_goBehind_6, s_Mo_goBehind_9, s_Mo_goBehind_12, s_Mo_goBehind_13, s_Mo_goBehind_14, s_Mo_goBehind_17, s_Mo_goBehind_18, s_Mo_goBehind_19, s_Mo_goBehind_20, s_Mo_goBehind_23, s_Mo_goBehind_24, s_Mo_goBehind_25, s_Mo_goBehind_28, s_Mo_goBehind_29, s_Mo_goBehind_30, s_Mo_goBehind_33, s_Mo_goBehind_37, s_Mo_goBehind_40, s_Mo_goBehind_41, s_Mo_goBehind_42, s_Mo_goBehind_45, s_Mo_goBehind_48, s_Mo_goBehind_49, s_Mo_goBehind_52, s_Mo_goBehind_55, s_Mo_goBehind_58, s_Mo_goBehind_59, s_Mo_goBehind_60, s_Mo_goBehind_63, s_Mo_goBehind_66, s_Mo_goBehind_67, s_Mo_goBehind_70, y_kd_sI, y_kd_sL, y_kd_sR, y_kd_cpI, y_kd_cpL, y_ln_sI, y_ln_sL, y_ln_sR, y_ln_cpI, y_ln_cpL, y_sz_sI, y_sz_sL, y_sz_sR, y_sz_cpI, y_sz_cpL, y_sl_sI, y_sl_sL, y_sl_sR, y_sl_cpI, y_sl_cpL, y_gI_sL, y_gI_sR, y_gI_cpI, y_gI_cpL, y_gI_nw, y_gL_sI, y_gL_sR, y_gL_cpI, y_gL_cpL, y_gL_nw, y_gR_sI, y_gR_sL, y_gR_cpI, y_gR_cpL, y_gR_nw, y_kd_nw, y_ln_nw, y_sz_nw, y_sl_nw, y_fx_int, y_fx_long, y_fx_ref, y_fx_null, y_fx_U, y_rf_s, y_rf_n, a_inb, a_ix, a_lt, a_eq, a_eq0, a_lt0, a_0lt, a_m1, a_m2, a_mlt, a_sub, a_dec, a_div, a_rem, a_shl, a_shr, a_bit, a_bit0, a_II, a_Ia, a_Ik, a_LL, a_La, a_Lk, a_RR, a_Ra, a_Rk, a_if0, a_if1, y_mul, y_and, y_or, nI_add, y_b1, y_b0, kon_v, kon_0, true_or, or_true, and_self, true_and, and_true, false_or, or_false, and_false, false_and, not_true_eq_false, not_false_eq_true, ite_self, ↓reduceIte, Nat.reduceEqDiff, Nat.reduceLeDiff, Nat.reduceAdd, Nat.reduceMul, Nat.reduceSub, Nat.reduceLT, Nat.reduceShiftLeft, Nat.reduceOr, Nat.reduceAnd, Bool.false_eq_true, a1, r2, zf, d0, e0]
    rw [go]
    generalize sI (sI (sI h m 53 (nI 0)) m 38 (nI (n * (n - 1) / 2 - 1))) m 41 (nI 0) = h1 at s1 E E2 ⊢
    have o1 := s1.mo ho
    have eP : n * (n - 1) / 2 - 1 + 1 = n * (n - 1) / 2 := by omega
    obtain ⟨h2, c1, cc⟩ := c_comeBack (g := g) (F := aF A) (T := aT A) hn A5 (n * (n - 1) / 2 - 1) h1 (by omega) o1 (E 38) (fun j hj => by
      obtain ⟨Q, Q1, Q2, Q3⟩ := w1 j (by omega)
      exact ⟨Q, fun a b ha hb => by rw [E2 _ _ (by omega)]; exact Q1 a b ha hb, Q2, Q3⟩) (fun j hj => by rw [E2 _ _ (by omega)]; exact w2 j (by omega))
    have C : ∀ k : Nat, ¬ k = 38 → gI h2 m k = gI h1 m k := c1.2.2.2.2.2.2.2
    have C2 : ∀ b k : Nat, ¬ b = m → gI h2 b k = gI h b k := fun b k hb => (c1.2.2.2.2.2.2.1 b k hb).trans (E2 b k hb)
    have s2 : mch m h h2 := s1.tr (c1.mc (fun k hk => by omega))
    have o2 := s2.mo ho
    have b1 := mo_k o1
    have b2 := mo_k o2
    have d34 : gI h2 m 34 = nI n := ((C 34 (by decide)).trans (E 34)).trans r1
    have d35 : gI h2 m 35 = nI (n * (n - 1) / 2) := ((C 35 (by decide)).trans (E 35)).trans r2
    have d39 : gI h2 m 39 = nI (aC A) := ((C 39 (by decide)).trans (E 39)).trans r4
    have d40 : gI h2 m 40 = nI (aB A) := ((C 40 (by decide)).trans (E 40)).trans r5
    have d41 : gI h2 m 41 = nI 0 := (C 41 (by decide)).trans (E 41)
    have d53 : gI h2 m 53 = nI 0 := (C 53 (by decide)).trans (E 53)
    have d52 : gI h2 m 52 = gI h m 52 := (C 52 (by decide)).trans (E 52)
    have hK2 : kW h2 m := hK.mv (fun k => C2 _ k (by omega)) d52
    rcases cc with ⟨k1, k2, k3⟩ | ⟨r, k1, k2, k3⟩
    · rw [eB, k1]
      rw [aRun_st (by show ¬ (2 : Nat) = 0; decide)]
      have z0 : (nI 0 = (0 : Int32)) = True := eq_true (by decide)
      refine ⟨sI h2 m 41 (nI 2), ?_, ⟨?_, ?_, ?_, ?_, ?_, a_II, fun z => absurd rfl z⟩, hK2.mv (fun k => by rw [a_Ia (by omega)]) (by rw [a_Ik (by decide)]), s2.tr (mch.I (by omega)), by rw [a_Ik (by decide)]; exact d53⟩
      · simp (disch := omega) only [s_Mo_goBehind_0, s_Mo_goBehind_1, s_Mo_goBehind_2, s_Mo_goBehind_5, s_Mo_goBehind_6, s_Mo_goBehind_9, s_Mo_goBehind_12, s_Mo_goBehind_13, s_Mo_goBehind_14, s_Mo_goBehind_17, s_Mo_goBehind_18, s_Mo_goBehind_19, s_Mo_goBehind_20, s_Mo_goBehind_23, s_Mo_goBehind_24, s_Mo_goBehind_25, s_Mo_goBehind_28, s_Mo_goBehind_29, s_Mo_goBehind_30, s_Mo_goBehind_33, s_Mo_goBehind_34, s_Mo_goBehind_37, s_Mo_goBehind_40, s_Mo_goBehind_41, s_Mo_goBehind_42, s_Mo_goBehind_45, s_Mo_goBehind_48, s_Mo_goBehind_49, s_Mo_goBehind_52, s_Mo_goBehind_55, s_Mo_goBehind_58, s_Mo_goBehind_59, s_Mo_goBehind_60, s_Mo_goBehind_63, s_Mo_goBehind_66, s_Mo_goBehind_67, s_Mo_goBehind_70, y_kd_sI, y_kd_sL, y_kd_sR, y_kd_cpI, y_kd_cpL, y_ln_sI, y_ln_sL, y_ln_sR, y_ln_cpI, y_ln_cpL, y_sz_sI, y_sz_sL, y_sz_sR, y_sz_cpI, y_sz_cpL, y_sl_sI, y_sl_sL, y_sl_sR, y_sl_cpI, y_sl_cpL, y_gI_sL, y_gI_sR, y_gI_cpI, y_gI_cpL, y_gI_nw, y_gL_sI, y_gL_sR, y_gL_cpI, y_gL_cpL, y_gL_nw, y_gR_sI, y_gR_sL, y_gR_cpI, y_gR_cpL, y_gR_nw, y_kd_nw, y_ln_nw, y_sz_nw, y_sl_nw, y_fx_int, y_fx_long, y_fx_ref, y_fx_null, y_fx_U, y_rf_s, y_rf_n, a_inb, a_ix, a_lt, a_eq, a_eq0, a_lt0, a_0lt, a_m1, a_m2, a_mlt, a_sub, a_dec, a_div, a_rem, a_shl, a_shr, a_bit, a_bit0, a_II, a_Ia, a_Ik, a_LL, a_La, a_Lk, a_RR, a_Ra, a_Rk, a_if0, a_if1, y_mul, y_and, y_or, nI_add, y_b1, y_b0, kon_v, kon_0, true_or, or_true, and_self, true_and, and_true, false_or, or_false, and_false, false_and, not_true_eq_false, not_false_eq_true, ite_self, ↓reduceIte, Nat.reduceEqDiff, Nat.reduceLeDiff, Nat.reduceAdd, Nat.reduceMul, Nat.reduceSub, Nat.reduceLT, Nat.reduceShiftLeft, Nat.reduceOr, Nat.reduceAnd, Bool.false_eq_true, b1, b2, k2, z0]
      · rw [a_Ik (by decide)]; exact d34
      · rw [a_Ik (by decide)]; exact d35
      · rw [a_Ik (by decide)]; exact k3
      · rw [a_Ik (by decide)]; exact d39
      · rw [a_Ik (by decide)]; exact d40
    · obtain ⟨rl, -⟩ := aK_le _ r k1
      have z1 : (nI 1 = (0 : Int32)) = False := eq_false (by decide)
      have hv : ∀ h3 : zMem, (∀ b k : Nat, ¬ b = m → gI h3 b k = gI h2 b k) → rLv h3 m n (aF A) (r + 1) ∧ rTr h3 m (aT A) (r + 1) := fun h3 e3 => ⟨fun j hj => by
        obtain ⟨Q, Q1, Q2, Q3⟩ := w1 j (by omega)
        exact ⟨Q, fun a b ha hb => by rw [e3 _ _ (by omega), C2 _ _ (by omega)]; exact Q1 a b ha hb, Q2, Q3⟩, fun j hj => by rw [e3 _ _ (by omega), C2 _ _ (by omega)]; exact w2 j (by omega)⟩
      by_cases zc : aC A = 20000
      · have eA : aBehind n A = (r, aC A, aB A, 3, aF A, aT A) := by
          rw [eB, k1]
          unfold aBack
          simp only [zc, ↓reduceIte]
        rw [eA, aRun_st (by show ¬ (3 : Nat) = 0; decide)]
        have zt := eq_true zc
        refine ⟨sI h2 m 41 (nI 3), ?_, ⟨?_, ?_, ?_, ?_, ?_, a_II, fun _ _ => hv _ (fun b k hb => a_Ia hb)⟩, hK2.mv (fun k => by rw [a_Ia (by omega)]) (by rw [a_Ik (by decide)]), s2.tr (mch.I (by omega)), by rw [a_Ik (by decide)]; exact d53⟩
        · simp (disch := omega) only [s_Mo_goBehind_0, s_Mo_goBehind_1, s_Mo_goBehind_2, s_Mo_goBehind_5, s_Mo_goBehind_6, s_Mo_goBehind_9, s_Mo_goBehind_12, s_Mo_goBehind_13, s_Mo_goBehind_14, s_Mo_goBehind_17, s_Mo_goBehind_18, s_Mo_goBehind_19, s_Mo_goBehind_20, s_Mo_goBehind_23, s_Mo_goBehind_24, s_Mo_goBehind_25, s_Mo_goBehind_28, s_Mo_goBehind_29, s_Mo_goBehind_30, s_Mo_goBehind_33, s_Mo_goBehind_34, s_Mo_goBehind_37, s_Mo_goBehind_40, s_Mo_goBehind_41, s_Mo_goBehind_42, s_Mo_goBehind_45, s_Mo_goBehind_48, s_Mo_goBehind_49, s_Mo_goBehind_52, s_Mo_goBehind_55, s_Mo_goBehind_58, s_Mo_goBehind_59, s_Mo_goBehind_60, s_Mo_goBehind_63, s_Mo_goBehind_66, s_Mo_goBehind_67, s_Mo_goBehind_70, y_kd_sI, y_kd_sL, y_kd_sR, y_kd_cpI, y_kd_cpL, y_ln_sI, y_ln_sL, y_ln_sR, y_ln_cpI, y_ln_cpL, y_sz_sI, y_sz_sL, y_sz_sR, y_sz_cpI, y_sz_cpL, y_sl_sI, y_sl_sL, y_sl_sR, y_sl_cpI, y_sl_cpL, y_gI_sL, y_gI_sR, y_gI_cpI, y_gI_cpL, y_gI_nw, y_gL_sI, y_gL_sR, y_gL_cpI, y_gL_cpL, y_gL_nw, y_gR_sI, y_gR_sL, y_gR_cpI, y_gR_cpL, y_gR_nw, y_kd_nw, y_ln_nw, y_sz_nw, y_sl_nw, y_fx_int, y_fx_long, y_fx_ref, y_fx_null, y_fx_U, y_rf_s, y_rf_n, a_inb, a_ix, a_lt, a_eq, a_eq0, a_lt0, a_0lt, a_m1, a_m2, a_mlt, a_sub, a_dec, a_div, a_rem, a_shl, a_shr, a_bit, a_bit0, a_II, a_Ia, a_Ik, a_LL, a_La, a_Lk, a_RR, a_Ra, a_Rk, a_if0, a_if1, y_mul, y_and, y_or, nI_add, y_b1, y_b0, kon_v, kon_0, true_or, or_true, and_self, true_and, and_true, false_or, or_false, and_false, false_and, not_true_eq_false, not_false_eq_true, ite_self, ↓reduceIte, Nat.reduceEqDiff, Nat.reduceLeDiff, Nat.reduceAdd, Nat.reduceMul, Nat.reduceSub, Nat.reduceLT, Nat.reduceShiftLeft, Nat.reduceOr, Nat.reduceAnd, Bool.false_eq_true, b1, b2, k2, z1, d39, zt]
        · rw [a_Ik (by decide)]; exact d34
        · rw [a_Ik (by decide)]; exact d35
        · rw [a_Ik (by decide)]; exact k3
        · rw [a_Ik (by decide)]; exact d39
        · rw [a_Ik (by decide)]; exact d40
      · have eA : aBehind n A = (r, aC A, aB A, 0, aF A, aT A) := by
          rw [eB, k1]
          unfold aBack
          simp only [zc, ↓reduceIte]
        rw [eA] at hB hyB ⊢
        have zt := eq_false zc
        obtain ⟨h3, f1, f2, f3, f4, f5⟩ := c_Mo_goOn (g := g) hn hg o2 (s2.ct hg hT) hK2 (A := (r, aC A, aB A, 0, aF A, aT A)) ⟨d34, d35, k3, d39, d40, d41, fun _ _ => hv h2 (fun _ _ _ => rfl)⟩ hB hyB
        refine ⟨h3, ?_, f2, f3, s2.tr f4, f5.trans d53⟩
        simp (disch := omega) only [s_Mo_goBehind_0, s_Mo_goBehind_1, s_Mo_goBehind_2, s_Mo_goBehind_5, s_Mo_goBehind_6, s_Mo_goBehind_9, s_Mo_goBehind_12, s_Mo_goBehind_13, s_Mo_goBehind_14, s_Mo_goBehind_17, s_Mo_goBehind_18, s_Mo_goBehind_19, s_Mo_goBehind_20, s_Mo_goBehind_23, s_Mo_goBehind_24, s_Mo_goBehind_25, s_Mo_goBehind_28, s_Mo_goBehind_29, s_Mo_goBehind_30, s_Mo_goBehind_33, s_Mo_goBehind_34, s_Mo_goBehind_37, s_Mo_goBehind_40, s_Mo_goBehind_41, s_Mo_goBehind_42, s_Mo_goBehind_45, s_Mo_goBehind_48, s_Mo_goBehind_49, s_Mo_goBehind_52, s_Mo_goBehind_55, s_Mo_goBehind_58, s_Mo_goBehind_59, s_Mo_goBehind_60, s_Mo_goBehind_63, s_Mo_goBehind_66, s_Mo_goBehind_67, s_Mo_goBehind_70, y_kd_sI, y_kd_sL, y_kd_sR, y_kd_cpI, y_kd_cpL, y_ln_sI, y_ln_sL, y_ln_sR, y_ln_cpI, y_ln_cpL, y_sz_sI, y_sz_sL, y_sz_sR, y_sz_cpI, y_sz_cpL, y_sl_sI, y_sl_sL, y_sl_sR, y_sl_cpI, y_sl_cpL, y_gI_sL, y_gI_sR, y_gI_cpI, y_gI_cpL, y_gI_nw, y_gL_sI, y_gL_sR, y_gL_cpI, y_gL_cpL, y_gL_nw, y_gR_sI, y_gR_sL, y_gR_cpI, y_gR_cpL, y_gR_nw, y_kd_nw, y_ln_nw, y_sz_nw, y_sl_nw, y_fx_int, y_fx_long, y_fx_ref, y_fx_null, y_fx_U, y_rf_s, y_rf_n, a_inb, a_ix, a_lt, a_eq, a_eq0, a_lt0, a_0lt, a_m1, a_m2, a_mlt, a_sub, a_dec, a_div, a_rem, a_shl, a_shr, a_bit, a_bit0, a_II, a_Ia, a_Ik, a_LL, a_La, a_Lk, a_RR, a_Ra, a_Rk, a_if0, a_if1, y_mul, y_and, y_or, nI_add, y_b1, y_b0, kon_v, kon_0, true_or, or_true, and_self, true_and, and_true, false_or, or_false, and_false, false_and, not_true_eq_false, not_false_eq_true, ite_self, ↓reduceIte, Nat.reduceEqDiff, Nat.reduceLeDiff, Nat.reduceAdd, Nat.reduceMul, Nat.reduceSub, Nat.reduceLT, Nat.reduceShiftLeft, Nat.reduceOr, Nat.reduceAnd, Bool.false_eq_true, b1, b2, k2, z1, d39, zt, f1]
theorem c_Mo_begin {S : Nat → Nat} (hn : n ≤ 10) (hg : g 2 < m) (ho : oMo h m) (hT : cT g h 2) (hK : kW h m) (hr : rRow h (m + 36) n S) (hl : low n S) (hd : dia n S) :
    ∃ h' : zMem, call g Mo_beginSearch [.ref m, .int (nI n)] h = some (none, h') ∧ rMS h' m n (aOpen n S) ∧ kW h' m ∧ mch m h h' ∧ gI h' m 53 = nI 0 := by
  have h45 := pn_le hn
  have a1 := mo_k ho
  have d0 : (nI 0 &&& 1 = nI 0) = True := y_b0
  have hsz : n * (n - 1) < 1000 := Nat.lt_of_le_of_lt (Nat.mul_le_mul hn (show n - 1 ≤ 10 by omega)) (by decide)
  have eP : nI n * (nI n - nI 1) / nI 2 = nI (n * (n - 1) / 2) := by
    cases n with
    | zero => decide
    | succ k => rw [y_sub (by omega), y_mul, y_div (by omega) (by decide)]
  have nz2 : (nI 2 = (0 : Int32)) = False := eq_false (by decide)
  have go : call g Mo_beginSearch [.ref m, .int (nI n)] h = ev g Mo_beginSearch 49 [.ref m, .int (nI n)] [.int (nI n), .ref (m + 36), .ref m] (sI (sI (sI (sI (sI (sI (sI h m 53 (nI 0)) m 34 (nI n)) m 35 (nI (n * (n - 1) / 2))) m 38 (nI 0)) m 39 (nI 0)) m 40 (nI 0)) m 41 (nI 0)) := by
    have o36 := mo_set ho (show 0 < 46 by decide)
    rw [n_Mo_beginSearch]
    simp (disch := omega) only [s_Mo_beginSearch_0, s_Mo_beginSearch_1, s_Mo_beginSearch_2, s_Mo_beginSearch_5, s_Mo_beginSearch_6, s_Mo_beginSearch_7, s_Mo_beginSearch_10, s_Mo_beginSearch_11, s_Mo_beginSearch_12, s_Mo_beginSearch_13, s_Mo_beginSearch_14, s_Mo_beginSearch_15, s_Mo_beginSearch_16, s_Mo_beginSearch_17, s_Mo_beginSearch_18, s_Mo_beginSearch_21, s_Mo_beginSearch_22, s_Mo_beginSearch_23, s_Mo_beginSearch_26, s_Mo_beginSearch_27, s_Mo_beginSearch_28, s_Mo_beginSearch_31, s_Mo_beginSearch_32, s_Mo_beginSearch_33, s_Mo_beginSearch_36, s_Mo_beginSearch_37, s_Mo_beginSearch_38, s_Mo_beginSearch_41, s_Mo_beginSearch_42, s_Mo_beginSearch_43, s_Mo_beginSearch_46, s_Mo_beginSearch_47, s_Mo_beginSearch_48, s_Mo_beginSearch_52, s_Mo_beginSearch_55, s_Mo_beginSearch_56, s_Mo_beginSearch_57, s_Mo_beginSearch_60, s_Mo_beginSearch_63, s_Mo_beginSearch_64, s_Mo_beginSearch_67, s_Mo_beginSearch_70, s_Mo_beginSearch_71, s_Mo_beginSearch_72, s_Mo_beginSearch_75, s_Mo_beginSearch_78, s_Mo_beginSearch_79, s_Mo_beginSearch_82, s_Mo_beginSearch_83, s_Mo_beginSearch_84, s_Mo_beginSearch_85, y_kd_sI, y_kd_sL, y_kd_sR, y_kd_cpI, y_kd_cpL, y_ln_sI, y_ln_sL, y_ln_sR, y_ln_cpI, y_ln_cpL, y_sz_sI, y_sz_sL, y_sz_sR, y_sz_cpI, y_sz_cpL, y_sl_sI, y_sl_sL, y_sl_sR, y_sl_cpI, y_sl_cpL, y_gI_sL, y_gI_sR, y_gI_cpI, y_gI_cpL, y_gI_nw, y_gL_sI, y_gL_sR, y_gL_cpI, y_gL_cpL, y_gL_nw, y_gR_sI, y_gR_sL, y_gR_cpI, y_gR_cpL, y_gR_nw, y_kd_nw, y_ln_nw, y_sz_nw, y_sl_nw, y_fx_int, y_fx_long, y_fx_ref, y_fx_null, y_fx_U, y_rf_s, y_rf_n, a_inb, a_ix, a_lt, a_eq, a_eq0, a_lt0, a_0lt, a_m1, a_m2, a_mlt, a_sub, a_dec, a_div, a_rem, a_shl, a_shr, a_bit, a_bit0, a_II, a_Ia, a_Ik, a_LL, a_La, a_Lk, a_RR, a_Ra, a_Rk, a_if0, a_if1, y_mul, y_and, y_or, nI_add, y_b1, y_b0, kon_v, kon_0, true_or, or_true, and_self, true_and, and_true, false_or, or_false, and_false, false_and, not_true_eq_false, not_false_eq_true, ite_self, ↓reduceIte, Nat.reduceEqDiff, Nat.reduceLeDiff, Nat.reduceAdd, Nat.reduceMul, Nat.reduceSub, Nat.reduceLT, Nat.reduceShiftLeft, Nat.reduceOr, Nat.reduceAnd, Bool.false_eq_true, mo_k ho, mo_r0 ho, mo_k0 ho, mo_l0 ho, mo_r1 ho, mo_k1 ho, mo_l1 ho, mo_r2 ho, mo_k2 ho, mo_l2 ho, mo_r3 ho, mo_k3 ho, mo_l3 ho, mo_r4 ho, mo_k4 ho, mo_l4 ho, mo_r5 ho, mo_k5 ho, mo_l5 ho, mo_r6 ho, mo_k6 ho, mo_l6 ho, mo_r8 ho, mo_k8 ho, mo_l8 ho, mo_r10 ho, mo_k10 ho, mo_l10 ho, mo_r11 ho, mo_k11 ho, mo_l11 ho, mo_r12 ho, mo_k12 ho, mo_l12 ho, mo_r13 ho, mo_k13 ho, mo_l13 ho, mo_r14 ho, mo_k14 ho, mo_l14 ho, mo_r16 ho, mo_k16 ho, mo_l16 ho, mo_r17 ho, mo_k17 ho, mo_l17 ho, mo_r18 ho, mo_k18 ho, mo_l18 ho, mo_r19 ho, mo_k19 ho, mo_l19 ho, mo_r20 ho, mo_k20 ho, mo_l20 ho, mo_r21 ho, mo_k21 ho, mo_l21 ho, mo_r22 ho, mo_k22 ho, mo_l22 ho, mo_r23 ho, mo_k23 ho, mo_l23 ho, mo_r24 ho, mo_k24 ho, mo_l24 ho, mo_r25 ho, mo_k25 ho, mo_l25 ho, mo_r26 ho, mo_k26 ho, mo_l26 ho, mo_r29 ho, mo_k29 ho, mo_l29 ho, mo_r30 ho, mo_k30 ho, mo_l30 ho, mo_r36 ho, mo_k36 ho, mo_l36 ho, mo_r37 ho, mo_k37 ho, mo_l37 ho, mo_r49 ho, mo_k49 ho, mo_l49 ho, mo_r50 ho, mo_k50 ho, mo_l50 ho, mo_r51 ho, mo_k51 ho, mo_l51 ho, mo_r56 ho, mo_k56 ho, mo_l56 ho, mo_r62 ho, mo_k62 ho, mo_l62 ho, mo_r63 ho, mo_k63 ho, mo_l63 ho, mo_r66 ho, mo_k66 ho, mo_l66 ho, mo_row ho, mo_rowk ho, mo_rowl ho, mo_set ho, mo_setk ho, mo_setl ho, nz2, eP, d0, o36, Nat.add_zero]
  rw [go]
  have E : ∀ k : Nat, gI (sI (sI (sI (sI (sI (sI (sI h m 53 (nI 0)) m 34 (nI n)) m 35 (nI (n * (n - 1) / 2))) m 38 (nI 0)) m 39 (nI 0)) m 40 (nI 0)) m 41 (nI 0)) m k = if k = 41 then nI 0 else if k = 40 then nI 0 else if k = 39 then nI 0 else if k = 38 then nI 0 else if k = 35 then nI (n * (n - 1) / 2) else if k = 34 then nI n else if k = 53 then nI 0 else gI h m k := fun k => by
    rw [y_gI_sI, y_gI_sI, y_gI_sI, y_gI_sI, y_gI_sI, y_gI_sI, y_gI_sI]
    simp only [true_and]
  have E2 : ∀ b k : Nat, ¬ b = m → gI (sI (sI (sI (sI (sI (sI (sI h m 53 (nI 0)) m 34 (nI n)) m 35 (nI (n * (n - 1) / 2))) m 38 (nI 0)) m 39 (nI 0)) m 40 (nI 0)) m 41 (nI 0)) b k = gI h b k := fun b k hb => by rw [a_Ia hb, a_Ia hb, a_Ia hb, a_Ia hb, a_Ia hb, a_Ia hb, a_Ia hb]
  have s1 : mch m h (sI (sI (sI (sI (sI (sI (sI h m 53 (nI 0)) m 34 (nI n)) m 35 (nI (n * (n - 1) / 2))) m 38 (nI 0)) m 39 (nI 0)) m 40 (nI 0)) m 41 (nI 0)) := ((((((mch.I (by omega)).tr (mch.I (by omega))).tr (mch.I (by omega))).tr (mch.I (by omega))).tr (mch.I (by omega))).tr (mch.I (by omega))).tr (mch.I (by omega))
  generalize sI (sI (sI (sI (sI (sI (sI h m 53 (nI 0)) m 34 (nI n)) m 35 (nI (n * (n - 1) / 2))) m 38 (nI 0)) m 39 (nI 0)) m 40 (nI 0)) m 41 (nI 0) = h1 at E E2 s1 ⊢
  have o1 := s1.mo ho
  obtain ⟨h2, F', p, dp, z1, z2, z3, z4, z5, z6, z7⟩ := c_Mo_shrinkAll (g := g) (ra := m + 36) hn hl hd o1 (s1.ct hg hT) hg (by omega) (hK.mv (fun k => E2 _ k (by omega)) (E 52)) (mo_setk o1 (show 0 < 46 by decide)) (mo_setl o1 (show 0 < 46 by decide)) (fun a b ha hb => by rw [E2 _ _ (by omega)]; exact hr a b ha hb)
  have s2 : mch m h h2 := s1.tr (z3.mc (by omega))
  have o2 := s2.mo ho
  have b1 := mo_k o1
  have b2 := mo_k o2
  have C : ∀ k : Nat, ¬ k = 52 → gI h2 m k = gI h1 m k := z3.2.2.2.2.2.2.2
  have d34 : gI h2 m 34 = nI n := (C 34 (by decide)).trans (E 34)
  have d35 : gI h2 m 35 = nI (n * (n - 1) / 2) := (C 35 (by decide)).trans (E 35)
  have d38 : gI h2 m 38 = nI 0 := (C 38 (by decide)).trans (E 38)
  have d39 : gI h2 m 39 = nI 0 := (C 39 (by decide)).trans (E 39)
  have d40 : gI h2 m 40 = nI 0 := (C 40 (by decide)).trans (E 40)
  have d41 : gI h2 m 41 = nI 0 := (C 41 (by decide)).trans (E 41)
  have d53 : gI h2 m 53 = nI 0 := (C 53 (by decide)).trans (E 53)
  unfold aOpen
  have nz1 : (nI 1 = (0 : Int32)) = False := eq_false (by decide)
  have nz0 : (nI 0 = (0 : Int32)) = True := eq_true (by decide)
  by_cases z : n * (n - 1) / 2 = 0
  · rw [if_pos z]
    have hn1 : n ≤ 1 := by
      rcases Nat.lt_or_ge 1 n with c | c
      · have : 2 * 1 ≤ n * (n - 1) := Nat.mul_le_mul (show 2 ≤ n by omega) (show 1 ≤ n - 1 by omega)
        omega
      · exact c
    have hw : whl n (gc n S) := fun a b ha hb hab => by omega
    have hp := z2.2 hw
    rw [bZ_t hp] at z1
    have zt := eq_true z
    refine ⟨sI h2 m 41 (nI 1), ?_, ⟨?_, ?_, ?_, ?_, ?_, a_II, fun _ hP => absurd z (by omega)⟩, z4.mv (fun k => by rw [a_Ia (by omega)]) (by rw [a_Ik (by decide)]), s2.tr (mch.I (by omega)), by rw [a_Ik (by decide)]; exact d53⟩
    · simp (disch := omega) only [s_Mo_beginSearch_0, s_Mo_beginSearch_1, s_Mo_beginSearch_2, s_Mo_beginSearch_5, s_Mo_beginSearch_6, s_Mo_beginSearch_7, s_Mo_beginSearch_10, s_Mo_beginSearch_11, s_Mo_beginSearch_12, s_Mo_beginSearch_13, s_Mo_beginSearch_14, s_Mo_beginSearch_15, s_Mo_beginSearch_16, s_Mo_beginSearch_17, s_Mo_beginSearch_18, s_Mo_beginSearch_21, s_Mo_beginSearch_22, s_Mo_beginSearch_23, s_Mo_beginSearch_26, s_Mo_beginSearch_27, s_Mo_beginSearch_28, s_Mo_beginSearch_31, s_Mo_beginSearch_32, s_Mo_beginSearch_33, s_Mo_beginSearch_36, s_Mo_beginSearch_37, s_Mo_beginSearch_38, s_Mo_beginSearch_41, s_Mo_beginSearch_42, s_Mo_beginSearch_43, s_Mo_beginSearch_46, s_Mo_beginSearch_47, s_Mo_beginSearch_48, s_Mo_beginSearch_49, s_Mo_beginSearch_52, s_Mo_beginSearch_55, s_Mo_beginSearch_56, s_Mo_beginSearch_57, s_Mo_beginSearch_60, s_Mo_beginSearch_63, s_Mo_beginSearch_64, s_Mo_beginSearch_67, s_Mo_beginSearch_70, s_Mo_beginSearch_71, s_Mo_beginSearch_72, s_Mo_beginSearch_75, s_Mo_beginSearch_78, s_Mo_beginSearch_79, s_Mo_beginSearch_82, s_Mo_beginSearch_83, s_Mo_beginSearch_84, s_Mo_beginSearch_85, y_kd_sI, y_kd_sL, y_kd_sR, y_kd_cpI, y_kd_cpL, y_ln_sI, y_ln_sL, y_ln_sR, y_ln_cpI, y_ln_cpL, y_sz_sI, y_sz_sL, y_sz_sR, y_sz_cpI, y_sz_cpL, y_sl_sI, y_sl_sL, y_sl_sR, y_sl_cpI, y_sl_cpL, y_gI_sL, y_gI_sR, y_gI_cpI, y_gI_cpL, y_gI_nw, y_gL_sI, y_gL_sR, y_gL_cpI, y_gL_cpL, y_gL_nw, y_gR_sI, y_gR_sL, y_gR_cpI, y_gR_cpL, y_gR_nw, y_kd_nw, y_ln_nw, y_sz_nw, y_sl_nw, y_fx_int, y_fx_long, y_fx_ref, y_fx_null, y_fx_U, y_rf_s, y_rf_n, a_inb, a_ix, a_lt, a_eq, a_eq0, a_lt0, a_0lt, a_m1, a_m2, a_mlt, a_sub, a_dec, a_div, a_rem, a_shl, a_shr, a_bit, a_bit0, a_II, a_Ia, a_Ik, a_LL, a_La, a_Lk, a_RR, a_Ra, a_Rk, a_if0, a_if1, y_mul, y_and, y_or, nI_add, y_b1, y_b0, kon_v, kon_0, true_or, or_true, and_self, true_and, and_true, false_or, or_false, and_false, false_and, not_true_eq_false, not_false_eq_true, ite_self, ↓reduceIte, Nat.reduceEqDiff, Nat.reduceLeDiff, Nat.reduceAdd, Nat.reduceMul, Nat.reduceSub, Nat.reduceLT, Nat.reduceShiftLeft, Nat.reduceOr, Nat.reduceAnd, Bool.false_eq_true, b1, b2, z1, nz1, d35, zt]
    · rw [a_Ik (by decide)]; exact d34
    · rw [a_Ik (by decide)]; exact d35
    · rw [a_Ik (by decide)]; exact d38
    · rw [a_Ik (by decide)]; exact d39
    · rw [a_Ik (by decide)]; exact d40
  · rw [if_neg z]
    have zf := eq_false z
    by_cases hp : p
    · rw [tst_t (z2.1 hp)]
      rw [bZ_t hp] at z1
      refine ⟨sI h2 (m + 82) 0 (-1), ?_, ⟨?_, ?_, ?_, ?_, ?_, ?_, fun _ _ => ⟨fun j hj => ?_, fun j hj => ?_⟩⟩, z4.mv (fun k => by rw [a_Ia (by omega)]) (by rw [a_Ia (by omega)]), s2.tr (mch.J (by omega)), by rw [a_Ia (by omega)]; exact d53⟩
      · simp (disch := omega) only [s_Mo_beginSearch_0, s_Mo_beginSearch_1, s_Mo_beginSearch_2, s_Mo_beginSearch_5, s_Mo_beginSearch_6, s_Mo_beginSearch_7, s_Mo_beginSearch_10, s_Mo_beginSearch_11, s_Mo_beginSearch_12, s_Mo_beginSearch_13, s_Mo_beginSearch_14, s_Mo_beginSearch_15, s_Mo_beginSearch_16, s_Mo_beginSearch_17, s_Mo_beginSearch_18, s_Mo_beginSearch_21, s_Mo_beginSearch_22, s_Mo_beginSearch_23, s_Mo_beginSearch_26, s_Mo_beginSearch_27, s_Mo_beginSearch_28, s_Mo_beginSearch_31, s_Mo_beginSearch_32, s_Mo_beginSearch_33, s_Mo_beginSearch_36, s_Mo_beginSearch_37, s_Mo_beginSearch_38, s_Mo_beginSearch_41, s_Mo_beginSearch_42, s_Mo_beginSearch_43, s_Mo_beginSearch_46, s_Mo_beginSearch_47, s_Mo_beginSearch_48, s_Mo_beginSearch_49, s_Mo_beginSearch_52, s_Mo_beginSearch_55, s_Mo_beginSearch_56, s_Mo_beginSearch_57, s_Mo_beginSearch_60, s_Mo_beginSearch_63, s_Mo_beginSearch_64, s_Mo_beginSearch_67, s_Mo_beginSearch_70, s_Mo_beginSearch_71, s_Mo_beginSearch_72, s_Mo_beginSearch_75, s_Mo_beginSearch_78, s_Mo_beginSearch_79, s_Mo_beginSearch_82, s_Mo_beginSearch_83, s_Mo_beginSearch_84, s_Mo_beginSearch_85, y_kd_sI, y_kd_sL, y_kd_sR, y_kd_cpI, y_kd_cpL, y_ln_sI, y_ln_sL, y_ln_sR, y_ln_cpI, y_ln_cpL, y_sz_sI, y_sz_sL, y_sz_sR, y_sz_cpI, y_sz_cpL, y_sl_sI, y_sl_sL, y_sl_sR, y_sl_cpI, y_sl_cpL, y_gI_sL, y_gI_sR, y_gI_cpI, y_gI_cpL, y_gI_nw, y_gL_sI, y_gL_sR, y_gL_cpI, y_gL_cpL, y_gL_nw, y_gR_sI, y_gR_sL, y_gR_cpI, y_gR_cpL, y_gR_nw, y_kd_nw, y_ln_nw, y_sz_nw, y_sl_nw, y_fx_int, y_fx_long, y_fx_ref, y_fx_null, y_fx_U, y_rf_s, y_rf_n, a_inb, a_ix, a_lt, a_eq, a_eq0, a_lt0, a_0lt, a_m1, a_m2, a_mlt, a_sub, a_dec, a_div, a_rem, a_shl, a_shr, a_bit, a_bit0, a_II, a_Ia, a_Ik, a_LL, a_La, a_Lk, a_RR, a_Ra, a_Rk, a_if0, a_if1, y_mul, y_and, y_or, nI_add, y_b1, y_b0, kon_v, kon_0, true_or, or_true, and_self, true_and, and_true, false_or, or_false, and_false, false_and, not_true_eq_false, not_false_eq_true, ite_self, ↓reduceIte, Nat.reduceEqDiff, Nat.reduceLeDiff, Nat.reduceAdd, Nat.reduceMul, Nat.reduceSub, Nat.reduceLT, Nat.reduceShiftLeft, Nat.reduceOr, Nat.reduceAnd, Bool.false_eq_true, b1, b2, z1, nz1, d35, zf, mo_r37 o2, mo_k37 o2, mo_l37 o2]
      · rw [a_Ia (by omega)]; exact d34
      · rw [a_Ia (by omega)]; exact d35
      · rw [a_Ia (by omega)]; exact d38
      · rw [a_Ia (by omega)]; exact d39
      · rw [a_Ia (by omega)]; exact d40
      · rw [a_Ia (by omega)]; exact d41
      · have e : j = 0 := by
          have : j < 0 + 1 := hj
          omega
        subst e
        exact ⟨F', fun a b ha hb => by rw [a_Ia (by omega)]; exact z5 a b ha hb, z6, fun a ha => by rw [z7]; exact hd a ha⟩
      · have e : j = 0 := by
          have : j < 0 + 1 := hj
          omega
        subst e
        rw [a_II]
        rfl
    · rw [tst_f (fun c => hp (z2.2 c))]
      rw [bZ_f hp] at z1
      refine ⟨sI h2 m 41 (nI 2), ?_, ⟨?_, ?_, ?_, ?_, ?_, a_II, fun z => absurd rfl z⟩, z4.mv (fun k => by rw [a_Ia (by omega)]) (by rw [a_Ik (by decide)]), s2.tr (mch.I (by omega)), by rw [a_Ik (by decide)]; exact d53⟩
      · simp (disch := omega) only [s_Mo_beginSearch_0, s_Mo_beginSearch_1, s_Mo_beginSearch_2, s_Mo_beginSearch_5, s_Mo_beginSearch_6, s_Mo_beginSearch_7, s_Mo_beginSearch_10, s_Mo_beginSearch_11, s_Mo_beginSearch_12, s_Mo_beginSearch_13, s_Mo_beginSearch_14, s_Mo_beginSearch_15, s_Mo_beginSearch_16, s_Mo_beginSearch_17, s_Mo_beginSearch_18, s_Mo_beginSearch_21, s_Mo_beginSearch_22, s_Mo_beginSearch_23, s_Mo_beginSearch_26, s_Mo_beginSearch_27, s_Mo_beginSearch_28, s_Mo_beginSearch_31, s_Mo_beginSearch_32, s_Mo_beginSearch_33, s_Mo_beginSearch_36, s_Mo_beginSearch_37, s_Mo_beginSearch_38, s_Mo_beginSearch_41, s_Mo_beginSearch_42, s_Mo_beginSearch_43, s_Mo_beginSearch_46, s_Mo_beginSearch_47, s_Mo_beginSearch_48, s_Mo_beginSearch_49, s_Mo_beginSearch_52, s_Mo_beginSearch_55, s_Mo_beginSearch_56, s_Mo_beginSearch_57, s_Mo_beginSearch_60, s_Mo_beginSearch_63, s_Mo_beginSearch_64, s_Mo_beginSearch_67, s_Mo_beginSearch_70, s_Mo_beginSearch_71, s_Mo_beginSearch_72, s_Mo_beginSearch_75, s_Mo_beginSearch_78, s_Mo_beginSearch_79, s_Mo_beginSearch_82, s_Mo_beginSearch_83, s_Mo_beginSearch_84, s_Mo_beginSearch_85, y_kd_sI, y_kd_sL, y_kd_sR, y_kd_cpI, y_kd_cpL, y_ln_sI, y_ln_sL, y_ln_sR, y_ln_cpI, y_ln_cpL, y_sz_sI, y_sz_sL, y_sz_sR, y_sz_cpI, y_sz_cpL, y_sl_sI, y_sl_sL, y_sl_sR, y_sl_cpI, y_sl_cpL, y_gI_sL, y_gI_sR, y_gI_cpI, y_gI_cpL, y_gI_nw, y_gL_sI, y_gL_sR, y_gL_cpI, y_gL_cpL, y_gL_nw, y_gR_sI, y_gR_sL, y_gR_cpI, y_gR_cpL, y_gR_nw, y_kd_nw, y_ln_nw, y_sz_nw, y_sl_nw, y_fx_int, y_fx_long, y_fx_ref, y_fx_null, y_fx_U, y_rf_s, y_rf_n, a_inb, a_ix, a_lt, a_eq, a_eq0, a_lt0, a_0lt, a_m1, a_m2, a_mlt, a_sub, a_dec, a_div, a_rem, a_shl, a_shr, a_bit, a_bit0, a_II, a_Ia, a_Ik, a_LL, a_La, a_Lk, a_RR, a_Ra, a_Rk, a_if0, a_if1, y_mul, y_and, y_or, nI_add, y_b1, y_b0, kon_v, kon_0, true_or, or_true, and_self, true_and, and_true, false_or, or_false, and_false, false_and, not_true_eq_false, not_false_eq_true, ite_self, ↓reduceIte, Nat.reduceEqDiff, Nat.reduceLeDiff, Nat.reduceAdd, Nat.reduceMul, Nat.reduceSub, Nat.reduceLT, Nat.reduceShiftLeft, Nat.reduceOr, Nat.reduceAnd, Bool.false_eq_true, b1, b2, z1, nz0]
      · rw [a_Ik (by decide)]; exact d34
      · rw [a_Ik (by decide)]; exact d35
      · rw [a_Ik (by decide)]; exact d38
      · rw [a_Ik (by decide)]; exact d39
      · rw [a_Ik (by decide)]; exact d40
end ZMG
