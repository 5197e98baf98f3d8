/-! back: the reference's shelves -/
section ZBK2
variable {g : Nat → Nat} {B SL m n i : Nat} {h h' : zMem} {H : zH} {T : zT} {Λ K : zL} {κ : Bool} {ρ : Nat → Int32}
/-- the reference's shelves -/
theorem m_shelves (hn : n ≤ 10) {nf : Nat} (hf : nf ≤ 10) (k : kSh nf H) (o : oMo h m) (h1 : gI h m 9 = nI n) (c : mSh h m H) : ∃ h' : zMem, ev g Mo_back 22 [.ref m, zU] [] h = some (some (.int (nI 1)), h') ∧ sam (m + 1) (m + 1) h h' ∧ (∀ j : Nat, gL h' (m + 1) j = gL h (m + 1) j) ∧ ∀ s : Nat, s < 8 → gI h' (m + 1) s = if bk (H.2.2.1 s) n then nI 0 else gI h (m + 1) s := by
  have i0 : ev g Mo_back 22 [.ref m, zU] [] h = ev g Mo_back 24 [.ref m, .int (nI 0)] [] h := by
    simp (disch := omega) only [s_Mo_back_0, s_Mo_back_1, s_Mo_back_4, s_Mo_back_4n, s_Mo_back_4r, s_Mo_back_7, s_Mo_back_8, s_Mo_back_10, s_Mo_back_13, s_Mo_back_14, s_Mo_back_15, s_Mo_back_16, s_Mo_back_19, s_Mo_back_22, s_Mo_back_23, s_Mo_back_25, s_Mo_back_27, s_Mo_back_30, s_Mo_back_31, s_Mo_back_34, s_Mo_back_35, s_Mo_back_36, s_Mo_back_37, s_Mo_back_40, s_Mo_back_41, s_Mo_back_44, s_Mo_back_45, s_Mo_back_46, s_Mo_back_47, s_Mo_back_50, s_Mo_back_53, s_Mo_back_54, s_Mo_back_57, s_Mo_back_58, s_Mo_back_59, s_Mo_back_60, s_Mo_back_63, s_Mo_back_66, s_Mo_back_67, y_kd_sI, y_kd_sL, y_kd_sR, y_kd_cpI, y_kd_cpL, y_ln_sI, y_ln_sL, y_ln_sR, y_ln_cpI, y_ln_cpL, y_sz_sI, y_sz_sL, y_sz_sR, y_sz_cpI, y_sz_cpL, y_sl_sI, y_sl_sL, y_sl_sR, y_sl_cpI, y_sl_cpL, y_gI_sL, y_gI_sR, y_gI_cpI, y_gI_cpL, y_gI_nw, y_gL_sI, y_gL_sR, y_gL_cpI, y_gL_cpL, y_gL_nw, y_gR_sI, y_gR_sL, y_gR_cpI, y_gR_cpL, y_gR_nw, y_kd_nw, y_ln_nw, y_sz_nw, y_sl_nw, y_fx_int, y_fx_long, y_fx_ref, y_fx_null, y_fx_U, y_rf_s, y_rf_n, a_inb, a_ix, a_lt, a_eq, a_eq0, a_lt0, a_0lt, a_m1, a_m2, a_mlt, a_sub, a_dec, a_div, a_rem, a_shl, a_shr, a_bit, a_bit0, a_II, a_Ia, a_Ik, a_LL, a_La, a_Lk, a_RR, a_Ra, a_Rk, a_if0, a_if1, y_mul, y_and, y_or, nI_add, y_b1, y_b0, kon_v, kon_0, true_or, or_true, and_self, true_and, and_true, false_or, or_false, and_false, false_and, not_true_eq_false, not_false_eq_true, ite_self, ↓reduceIte, Nat.reduceEqDiff, Nat.reduceLeDiff, Nat.reduceAdd, Nat.reduceMul, Nat.reduceSub, Nat.reduceLT, Nat.reduceShiftLeft, Nat.reduceOr, Nat.reduceAnd, Bool.false_eq_true, b_if, b_z1, b_z0, b_zz, b_a1, b_a0, b_lc, b_zF, b_zT, b_lbit]
  obtain ⟨_, h2, i1, s, t, c'⟩ := l_loop (α := Unit) (g := g) (M := Mo_back) (pc := 24) (st := []) (n := 8) (fun i _ => [.ref m, .int (nI i)]) (fun i _ h' => sam (m + 1) (m + 1) h h' ∧ (∀ j : Nat, gL h' (m + 1) j = gL h (m + 1) j) ∧ ∀ s : Nat, s < 8 → gI h' (m + 1) s = if s < i ∧ bk (H.2.2.1 s) n then nI 0 else gI h (m + 1) s) (fun i x h' hi ⟨s, t, c'⟩ => by
    have o' := s.mo o
    have v1 : gI h' m 9 = nI n := (s.2.2.2.2.2.1 _ _ (by omega)).trans h1
    have v2 : gI h' (m + 1) i = gI h (m + 1) i := by
      have := c' i hi
      rw [if_neg (fun z => Nat.lt_irrefl _ z.1)] at this
      exact this
    have v3 : gI h' (m + 13) i = gI h (m + 13) i := s.2.2.2.2.2.1 _ _ (by omega)
    obtain ⟨c1, c2, c3⟩ := c i hi
    have k1 := mo_k o'
    have k2 := mo_r0 o'
    have k3 := mo_k0 o'
    have k4 := mo_l0 o'
    have k5 := mo_r4 o'
    have k6 := mo_k4 o'
    have k7 := mo_l4 o'
    have e5 : (i < 8) = True := eq_true hi
    have no : ¬ bk (H.2.2.1 i) n → ∀ s : Nat, s < 8 → gI h' (m + 1) s = if s < i + 1 ∧ bk (H.2.2.1 s) n then nI 0 else gI h (m + 1) s := fun nb s hs => by
      rw [c' s hs]
      by_cases q : s = i
      · rw [q, if_neg (fun z => nb z.2), if_neg (fun z => nb z.2)]
      · by_cases z : s < i ∧ bk (H.2.2.1 s) n
        · rw [if_pos z, if_pos ⟨by omega, z.2⟩]
        · rw [if_neg z, if_neg (fun y => z ⟨by omega, y.2⟩)]
    rw [s_Mo_back_24]
    by_cases z1 : H.2.2.1 i = -1
    · have z2 : (gI h' (m + 1) i = nI 2) = False := by
        apply eq_false
        rw [v2, c1, if_neg (fun c => c z1)]
        split
        · decide
        · decide
      refine ⟨(), h', ?_, s, t, no (fun z => z.1 z1)⟩
      simp (disch := omega) only [s_Mo_back_0, s_Mo_back_1, s_Mo_back_4, s_Mo_back_4n, s_Mo_back_4r, s_Mo_back_7, s_Mo_back_8, s_Mo_back_10, s_Mo_back_13, s_Mo_back_14, s_Mo_back_15, s_Mo_back_16, s_Mo_back_19, s_Mo_back_22, s_Mo_back_23, s_Mo_back_25, s_Mo_back_27, s_Mo_back_30, s_Mo_back_31, s_Mo_back_34, s_Mo_back_35, s_Mo_back_36, s_Mo_back_37, s_Mo_back_40, s_Mo_back_41, s_Mo_back_44, s_Mo_back_45, s_Mo_back_46, s_Mo_back_47, s_Mo_back_50, s_Mo_back_53, s_Mo_back_54, s_Mo_back_57, s_Mo_back_58, s_Mo_back_59, s_Mo_back_60, s_Mo_back_63, s_Mo_back_66, s_Mo_back_67, y_kd_sI, y_kd_sL, y_kd_sR, y_kd_cpI, y_kd_cpL, y_ln_sI, y_ln_sL, y_ln_sR, y_ln_cpI, y_ln_cpL, y_sz_sI, y_sz_sL, y_sz_sR, y_sz_cpI, y_sz_cpL, y_sl_sI, y_sl_sL, y_sl_sR, y_sl_cpI, y_sl_cpL, y_gI_sL, y_gI_sR, y_gI_cpI, y_gI_cpL, y_gI_nw, y_gL_sI, y_gL_sR, y_gL_cpI, y_gL_cpL, y_gL_nw, y_gR_sI, y_gR_sL, y_gR_cpI, y_gR_cpL, y_gR_nw, y_kd_nw, y_ln_nw, y_sz_nw, y_sl_nw, y_fx_int, y_fx_long, y_fx_ref, y_fx_null, y_fx_U, y_rf_s, y_rf_n, a_inb, a_ix, a_lt, a_eq, a_eq0, a_lt0, a_0lt, a_m1, a_m2, a_mlt, a_sub, a_dec, a_div, a_rem, a_shl, a_shr, a_bit, a_bit0, a_II, a_Ia, a_Ik, a_LL, a_La, a_Lk, a_RR, a_Ra, a_Rk, a_if0, a_if1, y_mul, y_and, y_or, nI_add, y_b1, y_b0, kon_v, kon_0, true_or, or_true, and_self, true_and, and_true, false_or, or_false, and_false, false_and, not_true_eq_false, not_false_eq_true, ite_self, ↓reduceIte, Nat.reduceEqDiff, Nat.reduceLeDiff, Nat.reduceAdd, Nat.reduceMul, Nat.reduceSub, Nat.reduceLT, Nat.reduceShiftLeft, Nat.reduceOr, Nat.reduceAnd, Bool.false_eq_true, b_if, b_z1, b_z0, b_zz, b_a1, b_a0, b_lc, b_zF, b_zT, b_lbit, k1, k2, k3, k4, e5, va_rf, z2]
    have z2 : (gI h' (m + 1) i = nI 2) = True := by
      apply eq_true
      rw [v2, c1, if_pos z1]
    rcases k i hi with ⟨-, c3⟩ | ⟨c3, -⟩ | ⟨-, f, c4, c5⟩
    · exact absurd c3 z1
    · exact absurd c3 z1
    have v4 : gI h' (m + 13) i = nI f := by rw [v3, c3 z1, c4]
    by_cases z4 : f < n
    · have z5 : (f < n) = True := eq_true z4
      refine ⟨(), h', ?_, s, t, no (fun z => z.2 (by rw [c4, a_lt (by omega) (by omega)]; exact z4))⟩
      simp (disch := omega) only [s_Mo_back_0, s_Mo_back_1, s_Mo_back_4, s_Mo_back_4n, s_Mo_back_4r, s_Mo_back_7, s_Mo_back_8, s_Mo_back_10, s_Mo_back_13, s_Mo_back_14, s_Mo_back_15, s_Mo_back_16, s_Mo_back_19, s_Mo_back_22, s_Mo_back_23, s_Mo_back_25, s_Mo_back_27, s_Mo_back_30, s_Mo_back_31, s_Mo_back_34, s_Mo_back_35, s_Mo_back_36, s_Mo_back_37, s_Mo_back_40, s_Mo_back_41, s_Mo_back_44, s_Mo_back_45, s_Mo_back_46, s_Mo_back_47, s_Mo_back_50, s_Mo_back_53, s_Mo_back_54, s_Mo_back_57, s_Mo_back_58, s_Mo_back_59, s_Mo_back_60, s_Mo_back_63, s_Mo_back_66, s_Mo_back_67, y_kd_sI, y_kd_sL, y_kd_sR, y_kd_cpI, y_kd_cpL, y_ln_sI, y_ln_sL, y_ln_sR, y_ln_cpI, y_ln_cpL, y_sz_sI, y_sz_sL, y_sz_sR, y_sz_cpI, y_sz_cpL, y_sl_sI, y_sl_sL, y_sl_sR, y_sl_cpI, y_sl_cpL, y_gI_sL, y_gI_sR, y_gI_cpI, y_gI_cpL, y_gI_nw, y_gL_sI, y_gL_sR, y_gL_cpI, y_gL_cpL, y_gL_nw, y_gR_sI, y_gR_sL, y_gR_cpI, y_gR_cpL, y_gR_nw, y_kd_nw, y_ln_nw, y_sz_nw, y_sl_nw, y_fx_int, y_fx_long, y_fx_ref, y_fx_null, y_fx_U, y_rf_s, y_rf_n, a_inb, a_ix, a_lt, a_eq, a_eq0, a_lt0, a_0lt, a_m1, a_m2, a_mlt, a_sub, a_dec, a_div, a_rem, a_shl, a_shr, a_bit, a_bit0, a_II, a_Ia, a_Ik, a_LL, a_La, a_Lk, a_RR, a_Ra, a_Rk, a_if0, a_if1, y_mul, y_and, y_or, nI_add, y_b1, y_b0, kon_v, kon_0, true_or, or_true, and_self, true_and, and_true, false_or, or_false, and_false, false_and, not_true_eq_false, not_false_eq_true, ite_self, ↓reduceIte, Nat.reduceEqDiff, Nat.reduceLeDiff, Nat.reduceAdd, Nat.reduceMul, Nat.reduceSub, Nat.reduceLT, Nat.reduceShiftLeft, Nat.reduceOr, Nat.reduceAnd, Bool.false_eq_true, b_if, b_z1, b_z0, b_zz, b_a1, b_a0, b_lc, b_zF, b_zT, b_lbit, k1, k2, k3, k4, k5, k6, k7, e5, va_rf, z2, v1, v4, z5]
    · have z5 : (f < n) = False := eq_false z4
      have yb : bk (H.2.2.1 i) n := ⟨z1, by rw [c4, a_lt (by omega) (by omega)]; exact z4⟩
      refine ⟨(), sI h' (m + 1) i (nI 0), ?_, s.aI (by omega), t, fun s hs => ?_⟩
      · simp (disch := omega) only [s_Mo_back_0, s_Mo_back_1, s_Mo_back_4, s_Mo_back_4n, s_Mo_back_4r, s_Mo_back_7, s_Mo_back_8, s_Mo_back_10, s_Mo_back_13, s_Mo_back_14, s_Mo_back_15, s_Mo_back_16, s_Mo_back_19, s_Mo_back_22, s_Mo_back_23, s_Mo_back_25, s_Mo_back_27, s_Mo_back_30, s_Mo_back_31, s_Mo_back_34, s_Mo_back_35, s_Mo_back_36, s_Mo_back_37, s_Mo_back_40, s_Mo_back_41, s_Mo_back_44, s_Mo_back_45, s_Mo_back_46, s_Mo_back_47, s_Mo_back_50, s_Mo_back_53, s_Mo_back_54, s_Mo_back_57, s_Mo_back_58, s_Mo_back_59, s_Mo_back_60, s_Mo_back_63, s_Mo_back_66, s_Mo_back_67, y_kd_sI, y_kd_sL, y_kd_sR, y_kd_cpI, y_kd_cpL, y_ln_sI, y_ln_sL, y_ln_sR, y_ln_cpI, y_ln_cpL, y_sz_sI, y_sz_sL, y_sz_sR, y_sz_cpI, y_sz_cpL, y_sl_sI, y_sl_sL, y_sl_sR, y_sl_cpI, y_sl_cpL, y_gI_sL, y_gI_sR, y_gI_cpI, y_gI_cpL, y_gI_nw, y_gL_sI, y_gL_sR, y_gL_cpI, y_gL_cpL, y_gL_nw, y_gR_sI, y_gR_sL, y_gR_cpI, y_gR_cpL, y_gR_nw, y_kd_nw, y_ln_nw, y_sz_nw, y_sl_nw, y_fx_int, y_fx_long, y_fx_ref, y_fx_null, y_fx_U, y_rf_s, y_rf_n, a_inb, a_ix, a_lt, a_eq, a_eq0, a_lt0, a_0lt, a_m1, a_m2, a_mlt, a_sub, a_dec, a_div, a_rem, a_shl, a_shr, a_bit, a_bit0, a_II, a_Ia, a_Ik, a_LL, a_La, a_Lk, a_RR, a_Ra, a_Rk, a_if0, a_if1, y_mul, y_and, y_or, nI_add, y_b1, y_b0, kon_v, kon_0, true_or, or_true, and_self, true_and, and_true, false_or, or_false, and_false, false_and, not_true_eq_false, not_false_eq_true, ite_self, ↓reduceIte, Nat.reduceEqDiff, Nat.reduceLeDiff, Nat.reduceAdd, Nat.reduceMul, Nat.reduceSub, Nat.reduceLT, Nat.reduceShiftLeft, Nat.reduceOr, Nat.reduceAnd, Bool.false_eq_true, b_if, b_z1, b_z0, b_zz, b_a1, b_a0, b_lc, b_zF, b_zT, b_lbit, k1, k2, k3, k4, k5, k6, k7, e5, va_rf, z2, v1, v4, z5]
      · by_cases q : s = i
        · rw [q, a_II, if_pos ⟨by omega, yb⟩]
        · rw [a_Ik q, c' s hs]
          by_cases z : s < i ∧ bk (H.2.2.1 s) n
          · rw [if_pos z, if_pos ⟨by omega, z.2⟩]
          · rw [if_neg z, if_neg (fun y => z ⟨by omega, y.2⟩)]) 8 0 () h rfl ⟨sam.rf, fun _ => rfl, fun s _ => by rw [if_neg (fun z => Nat.not_lt_zero _ z.1)]⟩
  refine ⟨h2, ?_, s, t, fun s hs => ?_⟩
  · rw [i0, i1, s_Mo_back_24]
    have e5 : (8 < 8) = False := eq_false (by decide)
    simp (disch := omega) only [s_Mo_back_0, s_Mo_back_1, s_Mo_back_4, s_Mo_back_4n, s_Mo_back_4r, s_Mo_back_7, s_Mo_back_8, s_Mo_back_10, s_Mo_back_13, s_Mo_back_14, s_Mo_back_15, s_Mo_back_16, s_Mo_back_19, s_Mo_back_22, s_Mo_back_23, s_Mo_back_25, s_Mo_back_27, s_Mo_back_30, s_Mo_back_31, s_Mo_back_34, s_Mo_back_35, s_Mo_back_36, s_Mo_back_37, s_Mo_back_40, s_Mo_back_41, s_Mo_back_44, s_Mo_back_45, s_Mo_back_46, s_Mo_back_47, s_Mo_back_50, s_Mo_back_53, s_Mo_back_54, s_Mo_back_57, s_Mo_back_58, s_Mo_back_59, s_Mo_back_60, s_Mo_back_63, s_Mo_back_66, s_Mo_back_67, y_kd_sI, y_kd_sL, y_kd_sR, y_kd_cpI, y_kd_cpL, y_ln_sI, y_ln_sL, y_ln_sR, y_ln_cpI, y_ln_cpL, y_sz_sI, y_sz_sL, y_sz_sR, y_sz_cpI, y_sz_cpL, y_sl_sI, y_sl_sL, y_sl_sR, y_sl_cpI, y_sl_cpL, y_gI_sL, y_gI_sR, y_gI_cpI, y_gI_cpL, y_gI_nw, y_gL_sI, y_gL_sR, y_gL_cpI, y_gL_cpL, y_gL_nw, y_gR_sI, y_gR_sL, y_gR_cpI, y_gR_cpL, y_gR_nw, y_kd_nw, y_ln_nw, y_sz_nw, y_sl_nw, y_fx_int, y_fx_long, y_fx_ref, y_fx_null, y_fx_U, y_rf_s, y_rf_n, a_inb, a_ix, a_lt, a_eq, a_eq0, a_lt0, a_0lt, a_m1, a_m2, a_mlt, a_sub, a_dec, a_div, a_rem, a_shl, a_shr, a_bit, a_bit0, a_II, a_Ia, a_Ik, a_LL, a_La, a_Lk, a_RR, a_Ra, a_Rk, a_if0, a_if1, y_mul, y_and, y_or, nI_add, y_b1, y_b0, kon_v, kon_0, true_or, or_true, and_self, true_and, and_true, false_or, or_false, and_false, false_and, not_true_eq_false, not_false_eq_true, ite_self, ↓reduceIte, Nat.reduceEqDiff, Nat.reduceLeDiff, Nat.reduceAdd, Nat.reduceMul, Nat.reduceSub, Nat.reduceLT, Nat.reduceShiftLeft, Nat.reduceOr, Nat.reduceAnd, Bool.false_eq_true, b_if, b_z1, b_z0, b_zz, b_a1, b_a0, b_lc, b_zF, b_zT, b_lbit, e5]
  · rw [c' s hs]
    by_cases z : bk (H.2.2.1 s) n
    · rw [if_pos ⟨hs, z⟩, if_pos z]
    · rw [if_neg (fun y => z y.2), if_neg z]
end ZBK2
