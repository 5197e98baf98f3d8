/-! the reference's search as of a year, remembered -/
theorem low_sy {n : Nat} {F : Nat → Nat} (hn : n ≤ 10) (h : sy tur F) : low n F := fun a b ha hb _ => (sy_live (σ := (F, [], [])) h (by omega) (by omega)).1
theorem symF_sy {n : Nat} {F : Nat → Nat} (hn : n ≤ 10) (h : sy tur F) : symF n F := fun a b ha hb _ => (sy_live (σ := (F, [], [])) h (show a < 10 by omega) (show b < 10 by omega)).2
theorem aOpen_c {n : Nat} {F G : Nat → Nat} (hn : n ≤ 10) (hF : low n F) (h : eqv n F G) : aOpen n F = aOpen n G := by
  unfold aOpen
  rw [gc_eqv hn hF h]
theorem aOK_srch {V : Nat → Nat → Int32} {nf nd : Nat} {y of : Int32} (k1 : kF nf V) (k2 : kDd nf nd V) : aOK nf (aSrch V nf nd y of) ∧ aSy nf (aSrch V nf nd y of) := by
  have hs := sy_fam (y := y) (sel := fun d => selV V y d ∧ bitI of d) k1 k2
  have h0 := aOK_open k1.1 (low_sy k1.1 hs)
  exact ⟨aOK_run (A := aOpen nf (fam V nf nd y (fun d => selV V y d ∧ bitI of d))) k1.1 20000 _ h0, aSy_run k1.1 20000 _ h0 (aSy_open k1.1 (low_sy k1.1 hs) (symF_sy k1.1 hs))⟩
section ZMH
variable {g : Nat → Nat} {m ra n : Nat} {V : Nat → Nat → Int32} {W : Nat → Int64} {nf nd : Nat} {h h' h'' : zMem}
theorem msk.cs (s : msk m ra h h') (hr : m + 36 ≤ ra ∧ ra ≤ m + 82) : mcs m h h' := ⟨s.1, s.2.1, s.2.2.1, s.2.2.2.1, s.2.2.2.2.1, s.2.2.2.2.2.1, fun b k h1 h2 _ => s.2.2.2.2.2.2 b k (by omega) (fun e => absurd e h1), fun k h1 h2 => s.2.2.2.2.2.2 m k (by omega) (by omega)⟩
theorem c_Mo_search {y of : Int32} (ho : oMo h m) (hT : cT g h 2) (hg : g 2 < m) (hK : kW h m) (h1 : mF h m nf V W) (h2 : mDd h m nd V) (h3 : mMn h m V) (k1 : kF nf V) (k2 : kDd nf nd V) (k3 : kMn V) (hf : mFr h m nf nd V) :
    ∃ h' : zMem, call g Mo_search [.ref m, .int y, .int of] h = some (none, h') ∧ rMS h' m nf (aSrch V nf nd y of) ∧ mFr h' m nf nd V ∧ kW h' m ∧ mcs m h h' := by
  have n10 := k1.1
  have a1 := mo_k ho
  have d1 : (nI 1 &&& 1 = nI 1) = True := y_b1
  -- made anew
  have anew : ∃ h' : zMem, ev g Mo_search 24 [.ref m, .int y, .int of] [] h = some (none, h') ∧ rMS h' m nf (aSrch V nf nd y of) ∧ mFr h' m nf nd V ∧ kW h' m ∧ mcs m h h' := by
    obtain ⟨hA, eA, rA, mA, fA⟩ := c_makeSets (g := g) (y := y) (of := of) ho (show m + 36 ≤ m + 36 + 0 by omega) (mo_setk ho (show 0 < 46 by decide)) (mo_setl ho (show 0 < 46 by decide)) h1 h2 h3 k1 k2 k3
    have sA := mA.cs (by omega)
    have oA := sA.mo ho
    obtain ⟨G, g1, g2, g3⟩ := rA
    have hs := sy_fam (y := y) (sel := fun d => selV V y d ∧ bitI of d) k1 k2
    have hlF := low_sy n10 hs
    have hlG := g2.sy.lo hlF
    have kA : kW hA m := hK.mv (fun k => mA.2.2.2.2.2.2 _ k (by omega) (by omega)) (mA.2.2.2.2.2.2 m 52 (by omega) (by omega))
    obtain ⟨hB, eB, rB, kB, sB, fB⟩ := c_Mo_begin (g := g) (S := G) n10 hg oA (sA.ct hg hT) kA g1 hlG g3
    rw [aOpen_c n10 hlG g2] at rB
    have oB := sB.mo oA
    have h0 := aOK_open n10 hlF
    obtain ⟨hC, eC, rC, kC, sC, fC⟩ := c_Mo_goOn (g := g) n10 hg oB (sB.ct hg (sA.ct hg hT)) kB rB h0 (aSy_open n10 hlF (symF_sy n10 hs))
    have sABC : mcs m h hC := (sA.tr sB.cs).tr sC.cs
    have oC := sC.mo oB
    have sD : mcs m hC (sI (sI (sI hC m 53 (nI 1)) m 54 y) m 55 of) := ((mcs.I (by omega)).tr (mcs.I (by omega))).tr (mcs.I (by omega))
    have rD : rMS (sI (sI (sI hC m 53 (nI 1)) m 54 y) m 55 of) m nf (aSrch V nf nd y of) := by
      obtain ⟨q1, q2, q3, q4, q5, q6, q7⟩ := rC
      have e : ∀ k : Nat, k < 53 → gI (sI (sI (sI hC m 53 (nI 1)) m 54 y) m 55 of) m k = gI hC m k := fun k hk => by rw [a_Ik (by omega), a_Ik (by omega), a_Ik (by omega)]
      have e' : ∀ b k : Nat, ¬ b = m → gI (sI (sI (sI hC m 53 (nI 1)) m 54 y) m 55 of) b k = gI hC b k := fun b k hb => by rw [a_Ia hb, a_Ia hb, a_Ia hb]
      refine ⟨by rw [e 34 (by decide)]; exact q1, by rw [e 35 (by decide)]; exact q2, by rw [e 38 (by decide)]; exact q3, by rw [e 39 (by decide)]; exact q4, by rw [e 40 (by decide)]; exact q5, by rw [e 41 (by decide)]; exact q6, fun c1 c2 => ?_⟩
      obtain ⟨w1, w2⟩ := q7 c1 c2
      exact ⟨fun j hj => by
        obtain ⟨Q, Q1, Q2, Q3⟩ := w1 j hj
        exact ⟨Q, fun a b ha hb => by rw [e' _ _ (by omega)]; exact Q1 a b ha hb, Q2, Q3⟩, fun j hj => by rw [e' _ _ (by omega)]; exact w2 j hj⟩
    refine ⟨_, ?_, rD, Or.inr ⟨by rw [a_Ik (by decide), a_Ik (by decide), a_II], ?_⟩, kC.mv (fun k => by rw [a_Ia (by omega), a_Ia (by omega), a_Ia (by omega)]) (by rw [a_Ik (by decide), a_Ik (by decide), a_Ik (by decide)]), sABC.tr sD⟩
    · have c1 := h1.1
      have cA := (mA.mF (by omega) h1).1
      have aA := mo_k oA
      have aB := mo_k oB
      have aC := mo_k oC
      have o36 := mo_set ho (show 0 < 46 by decide)
      simp (disch := omega) only [s_Mo_search_0, s_Mo_search_1, s_Mo_search_4, s_Mo_search_7, s_Mo_search_8, s_Mo_search_11, s_Mo_search_12, s_Mo_search_15, s_Mo_search_16, s_Mo_search_19, s_Mo_search_20, s_Mo_search_23, s_Mo_search_24, s_Mo_search_25, s_Mo_search_26, s_Mo_search_29, s_Mo_search_30, s_Mo_search_31, s_Mo_search_32, s_Mo_search_33, s_Mo_search_36, s_Mo_search_37, s_Mo_search_38, s_Mo_search_41, s_Mo_search_44, s_Mo_search_45, s_Mo_search_48, s_Mo_search_49, s_Mo_search_50, s_Mo_search_53, s_Mo_search_54, s_Mo_search_55, s_Mo_search_58, s_Mo_search_59, s_Mo_search_60, s_Mo_search_63, y_kd_sI, y_kd_sL, y_kd_sR, y_kd_cpI, y_kd_cpL, y_ln_sI, y_ln_sL, y_ln_sR, y_ln_cpI, y_ln_cpL, y_sz_sI, y_sz_sL, y_sz_sR, y_sz_cpI, y_sz_cpL, y_sl_sI, y_sl_sL, y_sl_sR, y_sl_cpI, y_sl_cpL, y_gI_sL, y_gI_sR, y_gI_cpI, y_gI_cpL, y_gI_nw, y_gL_sI, y_gL_sR, y_gL_cpI, y_gL_cpL, y_gL_nw, y_gR_sI, y_gR_sL, y_gR_cpI, y_gR_cpL, y_gR_nw, y_kd_nw, y_ln_nw, y_sz_nw, y_sl_nw, y_fx_int, y_fx_long, y_fx_ref, y_fx_null, y_fx_U, y_rf_s, y_rf_n, a_inb, a_ix, a_lt, a_eq, a_eq0, a_lt0, a_0lt, a_m1, a_m2, a_mlt, a_sub, a_dec, a_div, a_rem, a_shl, a_shr, a_bit, a_bit0, a_II, a_Ia, a_Ik, a_LL, a_La, a_Lk, a_RR, a_Ra, a_Rk, a_if0, a_if1, y_mul, y_and, y_or, nI_add, y_b1, y_b0, kon_v, kon_0, true_or, or_true, and_self, true_and, and_true, false_or, or_false, and_false, false_and, not_true_eq_false, not_false_eq_true, ite_self, ↓reduceIte, Nat.reduceEqDiff, Nat.reduceLeDiff, Nat.reduceAdd, Nat.reduceMul, Nat.reduceSub, Nat.reduceLT, Nat.reduceShiftLeft, Nat.reduceOr, Nat.reduceAnd, Bool.false_eq_true, mo_k ho, mo_r0 ho, mo_k0 ho, mo_l0 ho, mo_r1 ho, mo_k1 ho, mo_l1 ho, mo_r2 ho, mo_k2 ho, mo_l2 ho, mo_r3 ho, mo_k3 ho, mo_l3 ho, mo_r4 ho, mo_k4 ho, mo_l4 ho, mo_r5 ho, mo_k5 ho, mo_l5 ho, mo_r6 ho, mo_k6 ho, mo_l6 ho, mo_r8 ho, mo_k8 ho, mo_l8 ho, mo_r10 ho, mo_k10 ho, mo_l10 ho, mo_r11 ho, mo_k11 ho, mo_l11 ho, mo_r12 ho, mo_k12 ho, mo_l12 ho, mo_r13 ho, mo_k13 ho, mo_l13 ho, mo_r14 ho, mo_k14 ho, mo_l14 ho, mo_r16 ho, mo_k16 ho, mo_l16 ho, mo_r17 ho, mo_k17 ho, mo_l17 ho, mo_r18 ho, mo_k18 ho, mo_l18 ho, mo_r19 ho, mo_k19 ho, mo_l19 ho, mo_r20 ho, mo_k20 ho, mo_l20 ho, mo_r21 ho, mo_k21 ho, mo_l21 ho, mo_r22 ho, mo_k22 ho, mo_l22 ho, mo_r23 ho, mo_k23 ho, mo_l23 ho, mo_r24 ho, mo_k24 ho, mo_l24 ho, mo_r25 ho, mo_k25 ho, mo_l25 ho, mo_r26 ho, mo_k26 ho, mo_l26 ho, mo_r29 ho, mo_k29 ho, mo_l29 ho, mo_r30 ho, mo_k30 ho, mo_l30 ho, mo_r36 ho, mo_k36 ho, mo_l36 ho, mo_r37 ho, mo_k37 ho, mo_l37 ho, mo_r49 ho, mo_k49 ho, mo_l49 ho, mo_r50 ho, mo_k50 ho, mo_l50 ho, mo_r51 ho, mo_k51 ho, mo_l51 ho, mo_r56 ho, mo_k56 ho, mo_l56 ho, mo_r62 ho, mo_k62 ho, mo_l62 ho, mo_r63 ho, mo_k63 ho, mo_l63 ho, mo_r66 ho, mo_k66 ho, mo_l66 ho, mo_row ho, mo_rowk ho, mo_rowl ho, mo_set ho, mo_setk ho, mo_setl ho, o36, eA, cA, aA, aB, aC, eB, eC, d1]
    · have e54 : gI (sI (sI (sI hC m 53 (nI 1)) m 54 y) m 55 of) m 54 = y := by rw [a_Ik (by decide), a_II]
      have e55 : gI (sI (sI (sI hC m 53 (nI 1)) m 54 y) m 55 of) m 55 = of := a_II
      rw [e54, e55]
      exact rD
  rcases hf with f0 | ⟨f1, f2⟩
  · obtain ⟨h', e1, e2⟩ := anew
    refine ⟨h', ?_, e2⟩
    rw [← e1, n_Mo_search]
    simp (disch := omega) only [s_Mo_search_0, s_Mo_search_1, s_Mo_search_4, s_Mo_search_7, s_Mo_search_8, s_Mo_search_11, s_Mo_search_12, s_Mo_search_15, s_Mo_search_16, s_Mo_search_19, s_Mo_search_20, s_Mo_search_23, s_Mo_search_25, s_Mo_search_26, s_Mo_search_29, s_Mo_search_30, s_Mo_search_31, s_Mo_search_32, s_Mo_search_33, s_Mo_search_36, s_Mo_search_37, s_Mo_search_38, s_Mo_search_41, s_Mo_search_44, s_Mo_search_45, s_Mo_search_48, s_Mo_search_49, s_Mo_search_50, s_Mo_search_53, s_Mo_search_54, s_Mo_search_55, s_Mo_search_58, s_Mo_search_59, s_Mo_search_60, s_Mo_search_63, y_kd_sI, y_kd_sL, y_kd_sR, y_kd_cpI, y_kd_cpL, y_ln_sI, y_ln_sL, y_ln_sR, y_ln_cpI, y_ln_cpL, y_sz_sI, y_sz_sL, y_sz_sR, y_sz_cpI, y_sz_cpL, y_sl_sI, y_sl_sL, y_sl_sR, y_sl_cpI, y_sl_cpL, y_gI_sL, y_gI_sR, y_gI_cpI, y_gI_cpL, y_gI_nw, y_gL_sI, y_gL_sR, y_gL_cpI, y_gL_cpL, y_gL_nw, y_gR_sI, y_gR_sL, y_gR_cpI, y_gR_cpL, y_gR_nw, y_kd_nw, y_ln_nw, y_sz_nw, y_sl_nw, y_fx_int, y_fx_long, y_fx_ref, y_fx_null, y_fx_U, y_rf_s, y_rf_n, a_inb, a_ix, a_lt, a_eq, a_eq0, a_lt0, a_0lt, a_m1, a_m2, a_mlt, a_sub, a_dec, a_div, a_rem, a_shl, a_shr, a_bit, a_bit0, a_II, a_Ia, a_Ik, a_LL, a_La, a_Lk, a_RR, a_Ra, a_Rk, a_if0, a_if1, y_mul, y_and, y_or, nI_add, y_b1, y_b0, kon_v, kon_0, true_or, or_true, and_self, true_and, and_true, false_or, or_false, and_false, false_and, not_true_eq_false, not_false_eq_true, ite_self, ↓reduceIte, Nat.reduceEqDiff, Nat.reduceLeDiff, Nat.reduceAdd, Nat.reduceMul, Nat.reduceSub, Nat.reduceLT, Nat.reduceShiftLeft, Nat.reduceOr, Nat.reduceAnd, Bool.false_eq_true, a1, f0]
  · by_cases z1 : gI h m 54 = y
    · by_cases z2 : gI h m 55 = of
      · refine ⟨h, ?_, by rw [← z1, ← z2]; exact f2, Or.inr ⟨f1, f2⟩, hK, mcs.rf⟩
        have zt1 := eq_true z1
        have zt2 := eq_true z2
        rw [n_Mo_search]
        simp (disch := omega) only [s_Mo_search_0, s_Mo_search_1, s_Mo_search_4, s_Mo_search_7, s_Mo_search_8, s_Mo_search_11, s_Mo_search_12, s_Mo_search_15, s_Mo_search_16, s_Mo_search_19, s_Mo_search_20, s_Mo_search_23, s_Mo_search_25, s_Mo_search_26, s_Mo_search_29, s_Mo_search_30, s_Mo_search_31, s_Mo_search_32, s_Mo_search_33, s_Mo_search_36, s_Mo_search_37, s_Mo_search_38, s_Mo_search_41, s_Mo_search_44, s_Mo_search_45, s_Mo_search_48, s_Mo_search_49, s_Mo_search_50, s_Mo_search_53, s_Mo_search_54, s_Mo_search_55, s_Mo_search_58, s_Mo_search_59, s_Mo_search_60, s_Mo_search_63, y_kd_sI, y_kd_sL, y_kd_sR, y_kd_cpI, y_kd_cpL, y_ln_sI, y_ln_sL, y_ln_sR, y_ln_cpI, y_ln_cpL, y_sz_sI, y_sz_sL, y_sz_sR, y_sz_cpI, y_sz_cpL, y_sl_sI, y_sl_sL, y_sl_sR, y_sl_cpI, y_sl_cpL, y_gI_sL, y_gI_sR, y_gI_cpI, y_gI_cpL, y_gI_nw, y_gL_sI, y_gL_sR, y_gL_cpI, y_gL_cpL, y_gL_nw, y_gR_sI, y_gR_sL, y_gR_cpI, y_gR_cpL, y_gR_nw, y_kd_nw, y_ln_nw, y_sz_nw, y_sl_nw, y_fx_int, y_fx_long, y_fx_ref, y_fx_null, y_fx_U, y_rf_s, y_rf_n, a_inb, a_ix, a_lt, a_eq, a_eq0, a_lt0, a_0lt, a_m1, a_m2, a_mlt, a_sub, a_dec, a_div, a_rem, a_shl, a_shr, a_bit, a_bit0, a_II, a_Ia, a_Ik, a_LL, a_La, a_Lk, a_RR, a_Ra, a_Rk, a_if0, a_if1, y_mul, y_and, y_or, nI_add, y_b1, y_b0, kon_v, kon_0, true_or, or_true, and_self, true_and, and_true, false_or, or_false, and_false, false_and, not_true_eq_false, not_false_eq_true, ite_self, ↓reduceIte, Nat.reduceEqDiff, Nat.reduceLeDiff, Nat.reduceAdd, Nat.reduceMul, Nat.reduceSub, Nat.reduceLT, Nat.reduceShiftLeft, Nat.reduceOr, Nat.reduceAnd, Bool.false_eq_true, a1, f1, zt1, zt2]
      · obtain ⟨h', e1, e2⟩ := anew
        refine ⟨h', ?_, e2⟩
        have zt1 := eq_true z1
        have zt2 := eq_false z2
        rw [← e1, n_Mo_search]
        simp (disch := omega) only [s_Mo_search_0, s_Mo_search_1, s_Mo_search_4, s_Mo_search_7, s_Mo_search_8, s_Mo_search_11, s_Mo_search_12, s_Mo_search_15, s_Mo_search_16, s_Mo_search_19, s_Mo_search_20, s_Mo_search_23, s_Mo_search_25, s_Mo_search_26, s_Mo_search_29, s_Mo_search_30, s_Mo_search_31, s_Mo_search_32, s_Mo_search_33, s_Mo_search_36, s_Mo_search_37, s_Mo_search_38, s_Mo_search_41, s_Mo_search_44, s_Mo_search_45, s_Mo_search_48, s_Mo_search_49, s_Mo_search_50, s_Mo_search_53, s_Mo_search_54, s_Mo_search_55, s_Mo_search_58, s_Mo_search_59, s_Mo_search_60, s_Mo_search_63, y_kd_sI, y_kd_sL, y_kd_sR, y_kd_cpI, y_kd_cpL, y_ln_sI, y_ln_sL, y_ln_sR, y_ln_cpI, y_ln_cpL, y_sz_sI, y_sz_sL, y_sz_sR, y_sz_cpI, y_sz_cpL, y_sl_sI, y_sl_sL, y_sl_sR, y_sl_cpI, y_sl_cpL, y_gI_sL, y_gI_sR, y_gI_cpI, y_gI_cpL, y_gI_nw, y_gL_sI, y_gL_sR, y_gL_cpI, y_gL_cpL, y_gL_nw, y_gR_sI, y_gR_sL, y_gR_cpI, y_gR_cpL, y_gR_nw, y_kd_nw, y_ln_nw, y_sz_nw, y_sl_nw, y_fx_int, y_fx_long, y_fx_ref, y_fx_null, y_fx_U, y_rf_s, y_rf_n, a_inb, a_ix, a_lt, a_eq, a_eq0, a_lt0, a_0lt, a_m1, a_m2, a_mlt, a_sub, a_dec, a_div, a_rem, a_shl, a_shr, a_bit, a_bit0, a_II, a_Ia, a_Ik, a_LL, a_La, a_Lk, a_RR, a_Ra, a_Rk, a_if0, a_if1, y_mul, y_and, y_or, nI_add, y_b1, y_b0, kon_v, kon_0, true_or, or_true, and_self, true_and, and_true, false_or, or_false, and_false, false_and, not_true_eq_false, not_false_eq_true, ite_self, ↓reduceIte, Nat.reduceEqDiff, Nat.reduceLeDiff, Nat.reduceAdd, Nat.reduceMul, Nat.reduceSub, Nat.reduceLT, Nat.reduceShiftLeft, Nat.reduceOr, Nat.reduceAnd, Bool.false_eq_true, a1, f1, zt1, zt2]
    · obtain ⟨h', e1, e2⟩ := anew
      refine ⟨h', ?_, e2⟩
      have zt1 := eq_false z1
      rw [← e1, n_Mo_search]
      simp (disch := omega) only [s_Mo_search_0, s_Mo_search_1, s_Mo_search_4, s_Mo_search_7, s_Mo_search_8, s_Mo_search_11, s_Mo_search_12, s_Mo_search_15, s_Mo_search_16, s_Mo_search_19, s_Mo_search_20, s_Mo_search_23, s_Mo_search_25, s_Mo_search_26, s_Mo_search_29, s_Mo_search_30, s_Mo_search_31, s_Mo_search_32, s_Mo_search_33, s_Mo_search_36, s_Mo_search_37, s_Mo_search_38, s_Mo_search_41, s_Mo_search_44, s_Mo_search_45, s_Mo_search_48, s_Mo_search_49, s_Mo_search_50, s_Mo_search_53, s_Mo_search_54, s_Mo_search_55, s_Mo_search_58, s_Mo_search_59, s_Mo_search_60, s_Mo_search_63, y_kd_sI, y_kd_sL, y_kd_sR, y_kd_cpI, y_kd_cpL, y_ln_sI, y_ln_sL, y_ln_sR, y_ln_cpI, y_ln_cpL, y_sz_sI, y_sz_sL, y_sz_sR, y_sz_cpI, y_sz_cpL, y_sl_sI, y_sl_sL, y_sl_sR, y_sl_cpI, y_sl_cpL, y_gI_sL, y_gI_sR, y_gI_cpI, y_gI_cpL, y_gI_nw, y_gL_sI, y_gL_sR, y_gL_cpI, y_gL_cpL, y_gL_nw, y_gR_sI, y_gR_sL, y_gR_cpI, y_gR_cpL, y_gR_nw, y_kd_nw, y_ln_nw, y_sz_nw, y_sl_nw, y_fx_int, y_fx_long, y_fx_ref, y_fx_null, y_fx_U, y_rf_s, y_rf_n, a_inb, a_ix, a_lt, a_eq, a_eq0, a_lt0, a_0lt, a_m1, a_m2, a_mlt, a_sub, a_dec, a_div, a_rem, a_shl, a_shr, a_bit, a_bit0, a_II, a_Ia, a_Ik, a_LL, a_La, a_Lk, a_RR, a_Ra, a_Rk, a_if0, a_if1, y_mul, y_and, y_or, nI_add, y_b1, y_b0, kon_v, kon_0, true_or, or_true, and_self, true_and, and_true, false_or, or_false, and_false, false_and, not_true_eq_false, not_false_eq_true, ite_self, ↓reduceIte, Nat.reduceEqDiff, Nat.reduceLeDiff, Nat.reduceAdd, Nat.reduceMul, Nat.reduceSub, Nat.reduceLT, Nat.reduceShiftLeft, Nat.reduceOr, Nat.reduceAnd, Bool.false_eq_true, a1, f1, zt1]
end ZMH
