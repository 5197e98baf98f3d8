/-! deed -/
section ZJD
variable {g : Nat → Nat} {B SL m n nf : Nat} {h h' : zMem} {H : zH} {T : zT} {Λ K : zL} {κ : Bool} {ρ : Nat → Int32}
theorem kTp0 (k : kTp T) : kTp (0, T.2) := ⟨Nat.zero_le _, fun i hi => absurd hi (Nat.not_lt_zero _)⟩
/-- the class's world behind a deed: the tape is empty, the land has changed, or a refusal is counted -/
theorem cX_dd {Λ' : zL} {ρ' : Nat → Int32} (k : kX H T Λ K κ) (hn : zD Λ < 24) (s : shp h h') (e : ∀ b k : Nat, ¬ b = B + 18 → ¬ b = B + 23 + 13 + zD Λ → ¬ (b = B + 23 ∧ k = 3) → ¬ b = B + 131 → gI h' b k = gI h b k) (eL : ∀ b k : Nat, gL h' b k = gL h b k) (e0 : gI h' (B + 18) 0 = nI 0) (er : cRf h' B ρ') (el : cL h' (B + 23) Λ') (c : cX g B h H T Λ K κ ρ) : cX g B h' H (0, T.2) Λ' K κ ρ' := by
  have hB : 0 < B := by have := c.1.2.2.2.2.2.2.2; omega
  obtain ⟨c1, c2, c3, c4, c5, c6, c7, c8, c9⟩ := c
  have ff : ∀ lo hi : Nat, (hi < B + 18 ∨ (B + 18 < lo ∧ hi < B + 23) ∨ (B + 23 + 36 < lo ∧ hi < B + 131)) → smF lo hi h h' := fun lo hi q => ⟨fun b k h1 h2 => e b k (by omega) (by omega) (by omega) (by omega), fun b k _ _ => eL b k⟩
  exact ⟨cSP_fr s (ff _ _ (by omega)) (ff _ _ (by omega)) c1, cSh_fr (ff _ _ (by omega)) c2, ⟨e0, fun i hi => absurd hi (Nat.not_lt_zero _)⟩, er, ((ff B B (by omega)).1 _ _ (by omega) (by omega)).trans c5, el, qE_fr (ff _ _ (by omega)) c7, qE_fr (ff _ _ (by omega)) c8, fun z => cL_fr (k.2.2.2 z) (ff _ _ (by omega)) (c9 z)⟩
theorem c_deed (k : kX H T Λ K κ) (hb : bX g B h) (hc : cX g B h H T Λ K κ ρ) (hn : zD Λ < 24) : ∃ h' : zMem, (rOk T (zF Λ) → call g DC_deed [.ref B] h = some (some (.int (nI (zD Λ))), h') ∧ cX g B h' H (0, T.2) (nD Λ (dvl T (zF Λ))) K κ ρ) ∧ (¬ rOk T (zF Λ) → call g DC_deed [.ref B] h = some (some (.int (-20 - nI (rFt T (zF Λ)))), h') ∧ cX g B h' H (0, T.2) Λ K κ (up ρ 0 (ρ 0 + nI 1))) ∧ shp h h' ∧ smF (B + 145) (B + 145 + 359) h h' ∧ bX g B h' := by
  have hB : 0 < B := by have := hc.1.2.2.2.2.2.2.2; omega
  have kf := k.2.2.1.1.1
  have hc0 := hc
  obtain ⟨c1, c2, c3, c4, c5, c6, c7, c8, c9⟩ := hc0
  have o := c1.1
  have ol := c1.2.1
  have cc : cC g h B T := ⟨hb.2.2.2.2.2, o, c3, k.2.1⟩
  have kd2 := la_dk ol hn
  obtain ⟨h1, r, e1, e2, e3, f1, e4⟩ := c_read (g := g) (nf := zF Λ) cc (d := B + 23 + 13 + zD Λ) (by omega) kd2 kf
  have o1 := f1.1.dc o
  have ol1 := f1.1.la ol
  have q1 := dc_k o
  have q2 := dc_r2 o
  have q3 := dc_r1 o
  have q4 := la_k ol
  have q5 := la_r_2 ol
  have q6 := la_k12 ol
  have q7 := la_l12 ol
  have q8 := la_d ol hn
  have q9 := c6.2.1.1
  have q10 := c6.1.1
  have q11 := dc_k18 o
  have u1 := dc_k o1
  have u2 := dc_r1 o1
  have u3 := dc_k18 o1
  have u4 := dc_r2 o1
  have u5 := la_k ol1
  have d1 : (24 ≤ 26) = True := eq_true (by decide)
  have d2 : (26 < 30) = True := eq_true (by decide)
  have nn : (zD Λ < 24) = True := eq_true hn
  have v3 : gI h1 (B + 23) 3 = nI (zD Λ) := (f1.2.1 _ _ (by omega) (by omega)).trans q9
  have go : call g DC_deed [.ref B] h = ev g DC_deed 53 [.ref B, .int (nI (zD Λ)), .int r] [] (sI h1 (B + 18) 0 (nI 0)) := by
    rw [n_DC_deed]
    simp (disch := omega) only [s_DC_deed_0, s_DC_deed_1, s_DC_deed_4, s_DC_deed_7, s_DC_deed_8, s_DC_deed_9, s_DC_deed_11, s_DC_deed_14, s_DC_deed_15, s_DC_deed_17, s_DC_deed_20, s_DC_deed_21, s_DC_deed_22, s_DC_deed_25, s_DC_deed_26, s_DC_deed_29, s_DC_deed_32, s_DC_deed_33, s_DC_deed_34, s_DC_deed_35, s_DC_deed_38, s_DC_deed_41, s_DC_deed_44, s_DC_deed_45, s_DC_deed_46, s_DC_deed_49, s_DC_deed_50, s_DC_deed_54, s_DC_deed_55, s_DC_deed_58, s_DC_deed_59, s_DC_deed_61, s_DC_deed_64, s_DC_deed_65, s_DC_deed_67, s_DC_deed_68, s_DC_deed_69, s_DC_deed_70, s_DC_deed_71, s_DC_deed_74, s_DC_deed_75, s_DC_deed_78, s_DC_deed_79, s_DC_deed_80, s_DC_deed_83, s_DC_deed_84, y_kd_sI, y_kd_sL, y_kd_sR, y_kd_cpI, y_kd_cpL, y_ln_sI, y_ln_sL, y_ln_sR, y_ln_cpI, y_ln_cpL, y_sz_sI, y_sz_sL, y_sz_sR, y_sz_cpI, y_sz_cpL, y_sl_sI, y_sl_sL, y_sl_sR, y_sl_cpI, y_sl_cpL, y_gI_sL, y_gI_sR, y_gI_cpI, y_gI_cpL, y_gI_nw, y_gL_sI, y_gL_sR, y_gL_cpI, y_gL_cpL, y_gL_nw, y_gR_sI, y_gR_sL, y_gR_cpI, y_gR_cpL, y_gR_nw, y_kd_nw, y_ln_nw, y_sz_nw, y_sl_nw, y_fx_int, y_fx_long, y_fx_ref, y_fx_null, y_fx_U, y_rf_s, y_rf_n, a_inb, a_ix, a_lt, a_eq, a_eq0, a_lt0, a_0lt, a_m1, a_m2, a_mlt, a_sub, a_dec, a_div, a_rem, a_shl, a_shr, a_bit, a_bit0, a_II, a_Ia, a_Ik, a_LL, a_La, a_Lk, a_RR, a_Ra, a_Rk, a_if0, a_if1, y_mul, y_and, y_or, nI_add, y_b1, y_b0, kon_v, kon_0, true_or, or_true, and_self, true_and, and_true, false_or, or_false, and_false, false_and, not_true_eq_false, not_false_eq_true, ite_self, ↓reduceIte, Nat.reduceEqDiff, Nat.reduceLeDiff, Nat.reduceAdd, Nat.reduceMul, Nat.reduceSub, Nat.reduceLT, Nat.reduceShiftLeft, Nat.reduceOr, Nat.reduceAnd, Bool.false_eq_true, b_if, b_z1, b_z0, b_zz, b_a1, b_a0, b_lc, b_zF, b_zT, b_lbit, q1, q2, q3, q4, q5, q6, q7, q8, q9, q10, q11, d1, d2, nn, va_rf, e1, u1, u2, u3]
  rw [go]
  clear go
  by_cases ok : rOk T (zF Λ)
  · have er := e2 ok
    subst er
    have m1 : ((-1 : Int32) = -1) = True := eq_true rfl
    refine ⟨sI (sI h1 (B + 18) 0 (nI 0)) (B + 23) 3 (nI (zD Λ + 1)), fun _ => ⟨?_, ?_⟩, fun w => absurd ok w, f1.1, ⟨fun b j p _ => ?_, fun b j _ _ => f1.2.2.1 b j⟩, bX_fr f1.1 ⟨fun b j _ p => ?_, fun b j _ _ => f1.2.2.1 b j⟩ hb⟩
    · simp (disch := omega) only [s_DC_deed_0, s_DC_deed_1, s_DC_deed_4, s_DC_deed_7, s_DC_deed_8, s_DC_deed_9, s_DC_deed_11, s_DC_deed_14, s_DC_deed_15, s_DC_deed_17, s_DC_deed_20, s_DC_deed_21, s_DC_deed_22, s_DC_deed_25, s_DC_deed_26, s_DC_deed_29, s_DC_deed_32, s_DC_deed_33, s_DC_deed_34, s_DC_deed_35, s_DC_deed_38, s_DC_deed_41, s_DC_deed_44, s_DC_deed_45, s_DC_deed_46, s_DC_deed_49, s_DC_deed_50, s_DC_deed_53, s_DC_deed_54, s_DC_deed_55, s_DC_deed_58, s_DC_deed_59, s_DC_deed_61, s_DC_deed_64, s_DC_deed_65, s_DC_deed_67, s_DC_deed_68, s_DC_deed_69, s_DC_deed_70, s_DC_deed_71, s_DC_deed_74, s_DC_deed_75, s_DC_deed_78, s_DC_deed_79, s_DC_deed_80, s_DC_deed_83, s_DC_deed_84, y_kd_sI, y_kd_sL, y_kd_sR, y_kd_cpI, y_kd_cpL, y_ln_sI, y_ln_sL, y_ln_sR, y_ln_cpI, y_ln_cpL, y_sz_sI, y_sz_sL, y_sz_sR, y_sz_cpI, y_sz_cpL, y_sl_sI, y_sl_sL, y_sl_sR, y_sl_cpI, y_sl_cpL, y_gI_sL, y_gI_sR, y_gI_cpI, y_gI_cpL, y_gI_nw, y_gL_sI, y_gL_sR, y_gL_cpI, y_gL_cpL, y_gL_nw, y_gR_sI, y_gR_sL, y_gR_cpI, y_gR_cpL, y_gR_nw, y_kd_nw, y_ln_nw, y_sz_nw, y_sl_nw, y_fx_int, y_fx_long, y_fx_ref, y_fx_null, y_fx_U, y_rf_s, y_rf_n, a_inb, a_ix, a_lt, a_eq, a_eq0, a_lt0, a_0lt, a_m1, a_m2, a_mlt, a_sub, a_dec, a_div, a_rem, a_shl, a_shr, a_bit, a_bit0, a_II, a_Ia, a_Ik, a_LL, a_La, a_Lk, a_RR, a_Ra, a_Rk, a_if0, a_if1, y_mul, y_and, y_or, nI_add, y_b1, y_b0, kon_v, kon_0, true_or, or_true, and_self, true_and, and_true, false_or, or_false, and_false, false_and, not_true_eq_false, not_false_eq_true, ite_self, ↓reduceIte, Nat.reduceEqDiff, Nat.reduceLeDiff, Nat.reduceAdd, Nat.reduceMul, Nat.reduceSub, Nat.reduceLT, Nat.reduceShiftLeft, Nat.reduceOr, Nat.reduceAnd, Bool.false_eq_true, b_if, b_z1, b_z0, b_zz, b_a1, b_a0, b_lc, b_zF, b_zT, b_lbit, m1, u1, u4, u5, v3]
    · obtain ⟨g0, g1, g2, g3, g4, g5, g6, g7, g8⟩ := e4 ok
      have em : ∀ b j : Nat, ¬ b = B + 18 → ¬ b = B + 23 + 13 + zD Λ → ¬ (b = B + 23 ∧ j = 3) → gI (sI (sI h1 (B + 18) 0 (nI 0)) (B + 23) 3 (nI (zD Λ + 1))) b j = gI h b j := fun b j n1 n2 n3 => by
        rw [y_gI_sI, if_neg n3, a_Ia n1]
        exact f1.2.1 b j n1 n2
      have dd : ∀ j : Nat, gI (sI (sI h1 (B + 18) 0 (nI 0)) (B + 23) 3 (nI (zD Λ + 1))) (B + 23 + 13 + zD Λ) j = gI h1 (B + 23 + 13 + zD Λ) j := fun j => by rw [a_Ia (by omega), a_Ia (by omega)]
      refine cX_dd k hn f1.1 (fun b j n1 n2 n3 _ => em b j n1 n2 n3) f1.2.2.1 ?_ (fun i hi => (em _ _ (by omega) (by omega) (by omega)).trans (c4 i hi)) ?_ hc
      · rw [a_Ia (by omega), a_II]
      · refine (cL_nd k.2.2.1 hn (fun b j n1 n2 n3 n4 => em b j (by omega) n3 n4) f1.2.2.1 c6).2 a_II (fun j hj => ?_)
        rw [dd]
        have : j = 0 ∨ j = 1 ∨ j = 2 ∨ j = 3 ∨ j = 4 ∨ j = 5 ∨ j = 6 ∨ j = 7 ∨ j = 8 := by omega
        rcases this with w | w | w | w | w | w | w | w | w <;> subst w
        · exact g0
        · exact g1
        · exact g2
        · exact g3
        · exact g4
        · exact g5
        · exact g6
        · exact g7
        · exact g8
    · rw [a_Ia (by omega), a_Ia (by omega)]
      exact f1.2.1 b j (by omega) (by omega)
    · rw [a_Ia (by omega), a_Ia (by omega)]
      exact f1.2.1 b j (by omega) (by omega)
  · obtain ⟨er, ft⟩ := e3 ok
    subst er
    have m1 : (nI (rFt T (zF Λ)) = (-1 : Int32)) = False := a_m1 (by omega)
    have o2 : oDC (sI h1 (B + 18) 0 (nI 0)) B := (sam.I (lo := B + 18) (hi := B + 18) (by omega) : sam _ _ h1 (sI h1 (B + 18) 0 (nI 0))).dc o1
    have qr := q_DC_refuse0 (g := g) o2
    refine ⟨sI (sI h1 (B + 18) 0 (nI 0)) (B + 131) 0 (gI (sI h1 (B + 18) 0 (nI 0)) (B + 131) 0 + nI 1), fun w => absurd w ok, fun _ => ⟨?_, ?_⟩, f1.1, ⟨fun b j p _ => ?_, fun b j _ _ => f1.2.2.1 b j⟩, bX_fr f1.1 ⟨fun b j _ p => ?_, fun b j _ _ => f1.2.2.1 b j⟩ hb⟩
    · simp (disch := omega) only [s_DC_deed_0, s_DC_deed_1, s_DC_deed_4, s_DC_deed_7, s_DC_deed_8, s_DC_deed_9, s_DC_deed_11, s_DC_deed_14, s_DC_deed_15, s_DC_deed_17, s_DC_deed_20, s_DC_deed_21, s_DC_deed_22, s_DC_deed_25, s_DC_deed_26, s_DC_deed_29, s_DC_deed_32, s_DC_deed_33, s_DC_deed_34, s_DC_deed_35, s_DC_deed_38, s_DC_deed_41, s_DC_deed_44, s_DC_deed_45, s_DC_deed_46, s_DC_deed_49, s_DC_deed_50, s_DC_deed_53, s_DC_deed_54, s_DC_deed_55, s_DC_deed_58, s_DC_deed_59, s_DC_deed_61, s_DC_deed_64, s_DC_deed_65, s_DC_deed_67, s_DC_deed_68, s_DC_deed_69, s_DC_deed_70, s_DC_deed_71, s_DC_deed_74, s_DC_deed_75, s_DC_deed_78, s_DC_deed_79, s_DC_deed_80, s_DC_deed_83, s_DC_deed_84, y_kd_sI, y_kd_sL, y_kd_sR, y_kd_cpI, y_kd_cpL, y_ln_sI, y_ln_sL, y_ln_sR, y_ln_cpI, y_ln_cpL, y_sz_sI, y_sz_sL, y_sz_sR, y_sz_cpI, y_sz_cpL, y_sl_sI, y_sl_sL, y_sl_sR, y_sl_cpI, y_sl_cpL, y_gI_sL, y_gI_sR, y_gI_cpI, y_gI_cpL, y_gI_nw, y_gL_sI, y_gL_sR, y_gL_cpI, y_gL_cpL, y_gL_nw, y_gR_sI, y_gR_sL, y_gR_cpI, y_gR_cpL, y_gR_nw, y_kd_nw, y_ln_nw, y_sz_nw, y_sl_nw, y_fx_int, y_fx_long, y_fx_ref, y_fx_null, y_fx_U, y_rf_s, y_rf_n, a_inb, a_ix, a_lt, a_eq, a_eq0, a_lt0, a_0lt, a_m1, a_m2, a_mlt, a_sub, a_dec, a_div, a_rem, a_shl, a_shr, a_bit, a_bit0, a_II, a_Ia, a_Ik, a_LL, a_La, a_Lk, a_RR, a_Ra, a_Rk, a_if0, a_if1, y_mul, y_and, y_or, nI_add, y_b1, y_b0, kon_v, kon_0, true_or, or_true, and_self, true_and, and_true, false_or, or_false, and_false, false_and, not_true_eq_false, not_false_eq_true, ite_self, ↓reduceIte, Nat.reduceEqDiff, Nat.reduceLeDiff, Nat.reduceAdd, Nat.reduceMul, Nat.reduceSub, Nat.reduceLT, Nat.reduceShiftLeft, Nat.reduceOr, Nat.reduceAnd, Bool.false_eq_true, b_if, b_z1, b_z0, b_zz, b_a1, b_a0, b_lc, b_zF, b_zT, b_lbit, m1, u1, qr]
    · have em : ∀ b j : Nat, ¬ b = B + 18 → ¬ b = B + 23 + 13 + zD Λ → ¬ b = B + 131 → gI (sI (sI h1 (B + 18) 0 (nI 0)) (B + 131) 0 (gI (sI h1 (B + 18) 0 (nI 0)) (B + 131) 0 + nI 1)) b j = gI h b j := fun b j n1 n2 n3 => by
        rw [a_Ia n3, a_Ia n1]
        exact f1.2.1 b j n1 n2
      have e31 : ∀ j : Nat, gI (sI h1 (B + 18) 0 (nI 0)) (B + 131) j = gI h (B + 131) j := fun j => by
        rw [a_Ia (by omega)]
        exact f1.2.1 _ _ (by omega) (by omega)
      refine cX_dd k hn f1.1 (fun b j n1 n2 _ n4 => em b j n1 n2 n4) f1.2.2.1 ?_ (fun i hi => ?_) ?_ hc
      · rw [a_Ia (by omega), a_II]
      · by_cases q : i = 0
        · rw [q, a_II, up_s, e31, c4 0 (by decide)]
        · rw [a_Ik q, up_n q, e31]
          exact c4 i hi
      · exact (cL_nd (dv := fun _ => 0) k.2.2.1 hn (fun b j n1 n2 n3 n4 => em b j (by omega) n3 (by omega)) f1.2.2.1 c6).1 ((em _ _ (by omega) (by omega) (by omega)).trans q9)
    · rw [a_Ia (by omega), a_Ia (by omega)]
      exact f1.2.1 b j (by omega) (by omega)
    · rw [a_Ia (by omega), a_Ia (by omega)]
      exact f1.2.1 b j (by omega) (by omega)
/-- the reference's world behind a deed -/
theorem mX_dd {Λ' : zL} {ρ' : Nat → Int32} (k : kX H T Λ K κ) (s : shp h h') (e : ∀ b k : Nat, ¬ (b = m ∧ (k = 15 ∨ k = 7 ∨ k = 53 ∨ (43 ≤ k ∧ k ≤ 48))) → ¬ (m + 22 ≤ b ∧ b ≤ m + 30 ∧ k = zD Λ) → ¬ b = m + 16 → gI h' b k = gI h b k) (eL : ∀ b k : Nat, ¬ (b = m ∧ k = 46) → gL h' b k = gL h b k) (e7 : gI h' m 7 = nI 0) (e53 : gI h' m 53 = nI 0) (er : mRf h' m ρ') (el : mL h' m Λ') (c : mX g m SL h H T Λ K κ ρ) : mX g m SL h' H (0, T.2) Λ' K κ ρ' := by
  obtain ⟨c1, c2, c3, c4, c5, c6, c7, c8, c9⟩ := c
  refine ⟨mSP_fr s c1, c2.mv (fun i => e _ _ (by omega) (by omega) (by omega)) (e _ _ (by omega) (by omega) (by omega)), c3.mv (fun i => e _ _ (by omega) (by omega) (by omega)) (e _ _ (by omega) (by omega) (by omega)), Or.inl e53, mSh_fr ⟨fun b i h1 h2 => e _ _ (by omega) (by omega) (by omega), fun b i h1 h2 => eL _ _ (by omega)⟩ c5, ⟨e7, fun i hi => absurd hi (Nat.not_lt_zero _)⟩, er, el, mKp_fr k.2.2.2 s ⟨fun b i h1 h2 => e _ _ (by omega) (by omega) (by omega), fun b i h1 h2 => eL _ _ (by omega)⟩ c9⟩
theorem m_deed (k : kX H T Λ K κ) (hb : bX g B h) (hB : B ≤ m) (hm : mX g m SL h H T Λ K κ ρ) (hn : zD Λ < 24) : ∃ h' : zMem, (rOk T (zF Λ) → call g Mo_deed [.ref m] h = some (some (.int (nI (zD Λ))), h') ∧ mX g m SL h' H (0, T.2) (nD Λ (dvl T (zF Λ))) K κ ρ) ∧ (¬ rOk T (zF Λ) → call g Mo_deed [.ref m] h = some (some (.int (-20 - nI (rFt T (zF Λ)))), h') ∧ mX g m SL h' H (0, T.2) Λ K κ (up ρ 0 (ρ 0 + nI 1))) ∧ shp h h' ∧ ∀ lo hi : Nat, (hi < m) → smF lo hi h h' := by
  have kf := k.2.2.1.1.1
  have hm0 := hm
  obtain ⟨c1, c2, c3, c4, c5, c6, c7, c8, c9⟩ := hm0
  have o := c1.1
  have f0 : mdF m (zD Λ) h h := mdF.rf
  have h15 := c8.2.1.1
  have h9 := c8.1.1
  have s0 : sam m m h (sI h m 53 (nI 0)) := sam.I (by omega)
  have e53 : ∀ b j : Nat, ¬ (b = m ∧ j = 53) → gI (sI h m 53 (nI 0)) b j = gI h b j := fun b j q => by rw [y_gI_sI, if_neg q]
  have cc : mC g (sI h m 53 (nI 0)) m B T := by
    refine ⟨fun i hi => ?_, s0.mo o, ⟨(e53 _ _ (by omega)).trans c6.1, fun i hi => (e53 _ _ (by omega)).trans (c6.2 i hi)⟩, k.2.1, hB, fun i hi => c1.2.2.2.1 i hi, fun i hi => c1.2.2.2.2 i hi⟩
    obtain ⟨w1, w2, v, w3, w4, w5, w6, w7⟩ := hb.2.2.2.2.2 i hi
    exact ⟨w1, w2, v, w3, w4, w5, w6, fun j hj => (e53 _ _ (by omega)).trans (w7 j hj)⟩
  obtain ⟨h1, e1, e2, f1, e4⟩ := m_read (g := g) (nf := zF Λ) (n := zD Λ) cc hn kf ((e53 _ _ (by omega)).trans h9)
  have km := mo_k o
  have k1 : kd h1 m = 13 := (f1.1.1 m).trans km
  have sp : shp h h1 := shp_tr s0.sh f1.1
  have g15 : gI h1 m 15 = nI (zD Λ) := (f1.2.1 _ _ (by omega) (by omega)).trans ((e53 _ _ (by omega)).trans h15)
  have m15 : gI (sI h m 53 (nI 0)) m 15 = nI (zD Λ) := (e53 _ _ (by omega)).trans h15
  have nn : (zD Λ = 24) = False := eq_false (by omega)
  have g53 : gI h1 m 53 = nI 0 := (f1.2.1 _ _ (by omega) (by omega)).trans a_II
  have ee : ∀ b j : Nat, ¬ (b = m ∧ (j = 15 ∨ j = 7 ∨ j = 53 ∨ (43 ≤ j ∧ j ≤ 48))) → ¬ (m + 22 ≤ b ∧ b ≤ m + 30 ∧ j = zD Λ) → gI h1 b j = gI h b j := fun b j n1 n2 => (f1.2.1 b j (by omega) n2).trans (e53 b j (by omega))
  by_cases ok : rOk T (zF Λ)
  · have e1 := e1 ok
    refine ⟨sI (sI h1 m 7 (nI 0)) m 15 (nI (zD Λ + 1)), fun _ => ⟨?_, ?_⟩, fun w => absurd ok w, sp, fun lo hi q => ⟨fun b j _ p => ?_, fun b j _ p => ?_⟩⟩
    · rw [n_Mo_deed]
      simp (disch := omega) only [s_Mo_deed_0, s_Mo_deed_1, s_Mo_deed_4, s_Mo_deed_6, s_Mo_deed_9, s_Mo_deed_10, s_Mo_deed_12, s_Mo_deed_15, s_Mo_deed_16, s_Mo_deed_17, s_Mo_deed_18, s_Mo_deed_21, s_Mo_deed_22, s_Mo_deed_23, s_Mo_deed_26, s_Mo_deed_29, s_Mo_deed_30, s_Mo_deed_31, s_Mo_deed_32, s_Mo_deed_35, s_Mo_deed_36, s_Mo_deed_39, s_Mo_deed_40, s_Mo_deed_42, s_Mo_deed_45, s_Mo_deed_46, s_Mo_deed_48, s_Mo_deed_49, s_Mo_deed_52, s_Mo_deed_53, s_Mo_deed_54, s_Mo_deed_55, s_Mo_deed_56, s_Mo_deed_59, s_Mo_deed_60, s_Mo_deed_61, s_Mo_deed_62, s_Mo_deed_65, y_kd_sI, y_kd_sL, y_kd_sR, y_kd_cpI, y_kd_cpL, y_ln_sI, y_ln_sL, y_ln_sR, y_ln_cpI, y_ln_cpL, y_sz_sI, y_sz_sL, y_sz_sR, y_sz_cpI, y_sz_cpL, y_sl_sI, y_sl_sL, y_sl_sR, y_sl_cpI, y_sl_cpL, y_gI_sL, y_gI_sR, y_gI_cpI, y_gI_cpL, y_gI_nw, y_gL_sI, y_gL_sR, y_gL_cpI, y_gL_cpL, y_gL_nw, y_gR_sI, y_gR_sL, y_gR_cpI, y_gR_cpL, y_gR_nw, y_kd_nw, y_ln_nw, y_sz_nw, y_sl_nw, y_fx_int, y_fx_long, y_fx_ref, y_fx_null, y_fx_U, y_rf_s, y_rf_n, a_inb, a_ix, a_lt, a_eq, a_eq0, a_lt0, a_0lt, a_m1, a_m2, a_mlt, a_sub, a_dec, a_div, a_rem, a_shl, a_shr, a_bit, a_bit0, a_II, a_Ia, a_Ik, a_LL, a_La, a_Lk, a_RR, a_Ra, a_Rk, a_if0, a_if1, y_mul, y_and, y_or, nI_add, y_b1, y_b0, kon_v, kon_0, true_or, or_true, and_self, true_and, and_true, false_or, or_false, and_false, false_and, not_true_eq_false, not_false_eq_true, ite_self, ↓reduceIte, Nat.reduceEqDiff, Nat.reduceLeDiff, Nat.reduceAdd, Nat.reduceMul, Nat.reduceSub, Nat.reduceLT, Nat.reduceShiftLeft, Nat.reduceOr, Nat.reduceAnd, Bool.false_eq_true, b_if, b_z1, b_z0, b_zz, b_a1, b_a0, b_lc, b_zF, b_zT, b_lbit, km, h15, nn, m15, e1, k1, g15]
    · obtain ⟨g0, g1, g2, g3, g4, g5, g6, g7, g8⟩ := e4 ok
      have em : ∀ b j : Nat, ¬ (b = m ∧ (j = 15 ∨ j = 7 ∨ j = 53 ∨ (43 ≤ j ∧ j ≤ 48))) → ¬ (m + 22 ≤ b ∧ b ≤ m + 30 ∧ j = zD Λ) → gI (sI (sI h1 m 7 (nI 0)) m 15 (nI (zD Λ + 1))) b j = gI h b j := fun b j n1 n2 => by
        rw [y_gI_sI, if_neg (by omega), y_gI_sI, if_neg (by omega)]
        exact ee b j n1 n2
      have dd : ∀ j : Nat, gI (sI (sI h1 m 7 (nI 0)) m 15 (nI (zD Λ + 1))) (m + 22 + j) (zD Λ) = gI h1 (m + 22 + j) (zD Λ) := fun j => by rw [a_Ia (by omega), a_Ia (by omega)]
      refine mX_dd k sp (fun b j n1 n2 _ => em b j n1 n2) f1.2.2 ?_ ?_ (fun i hi => (em _ _ (by omega) (by omega)).trans (c7 i hi)) ?_ hm
      · rw [a_Ik (by decide), a_II]
      · rw [a_Ik (by decide), a_Ik (by decide)]; exact g53
      · refine (mL_nd k.2.2.1 hn (fun b j _ _ n1 n2 _ => em b j n1 n2) f1.2.2 c8).2 a_II (fun j hj => ?_)
        rw [dd]
        have : j = 0 ∨ j = 1 ∨ j = 2 ∨ j = 3 ∨ j = 4 ∨ j = 5 ∨ j = 6 ∨ j = 7 ∨ j = 8 := by omega
        rcases this with w | w | w | w | w | w | w | w | w <;> subst w
        · exact g0
        · exact g1
        · exact g2
        · exact g3
        · exact g4
        · exact g5
        · exact g6
        · exact g7
        · exact g8
    · rw [a_Ia (by omega), a_Ia (by omega)]
      exact ee b j (by omega) (by omega)
    · exact f1.2.2 b j (by omega)
  · obtain ⟨e2, ft⟩ := e2 ok
    have o2 : oMo (sI h1 m 7 (nI 0)) m := (sam.I (lo := m) (hi := m) (by omega) : sam _ _ h1 (sI h1 m 7 (nI 0))).mo (sp.mo o)
    have qr := q_Mo_refuse0 (g := g) o2
    have ft2 : gI (sI h1 m 7 (nI 0)) m 47 = nI (rFt T (zF Λ)) := (a_Ik (by decide)).trans ft
    have ne : ¬ m = m + 16 := by omega
    refine ⟨sI (sI h1 m 7 (nI 0)) (m + 16) 2 (gI (sI h1 m 7 (nI 0)) (m + 16) 2 + nI 1), fun w => absurd w ok, fun _ => ⟨?_, ?_⟩, sp, fun lo hi q => ⟨fun b j _ p => ?_, fun b j _ p => ?_⟩⟩
    · have z0 : ((nI 0 : Int32) = 0) = True := eq_true rfl
      rw [n_Mo_deed]
      simp (disch := omega) only [s_Mo_deed_0, s_Mo_deed_1, s_Mo_deed_4, s_Mo_deed_6, s_Mo_deed_9, s_Mo_deed_10, s_Mo_deed_12, s_Mo_deed_15, s_Mo_deed_16, s_Mo_deed_17, s_Mo_deed_18, s_Mo_deed_21, s_Mo_deed_22, s_Mo_deed_23, s_Mo_deed_26, s_Mo_deed_29, s_Mo_deed_30, s_Mo_deed_31, s_Mo_deed_32, s_Mo_deed_35, s_Mo_deed_36, s_Mo_deed_39, s_Mo_deed_40, s_Mo_deed_42, s_Mo_deed_45, s_Mo_deed_46, s_Mo_deed_48, s_Mo_deed_49, s_Mo_deed_52, s_Mo_deed_53, s_Mo_deed_54, s_Mo_deed_55, s_Mo_deed_56, s_Mo_deed_59, s_Mo_deed_60, s_Mo_deed_61, s_Mo_deed_62, s_Mo_deed_65, y_kd_sI, y_kd_sL, y_kd_sR, y_kd_cpI, y_kd_cpL, y_ln_sI, y_ln_sL, y_ln_sR, y_ln_cpI, y_ln_cpL, y_sz_sI, y_sz_sL, y_sz_sR, y_sz_cpI, y_sz_cpL, y_sl_sI, y_sl_sL, y_sl_sR, y_sl_cpI, y_sl_cpL, y_gI_sL, y_gI_sR, y_gI_cpI, y_gI_cpL, y_gI_nw, y_gL_sI, y_gL_sR, y_gL_cpI, y_gL_cpL, y_gL_nw, y_gR_sI, y_gR_sL, y_gR_cpI, y_gR_cpL, y_gR_nw, y_kd_nw, y_ln_nw, y_sz_nw, y_sl_nw, y_fx_int, y_fx_long, y_fx_ref, y_fx_null, y_fx_U, y_rf_s, y_rf_n, a_inb, a_ix, a_lt, a_eq, a_eq0, a_lt0, a_0lt, a_m1, a_m2, a_mlt, a_sub, a_dec, a_div, a_rem, a_shl, a_shr, a_bit, a_bit0, a_II, a_Ia, a_Ik, a_LL, a_La, a_Lk, a_RR, a_Ra, a_Rk, a_if0, a_if1, y_mul, y_and, y_or, nI_add, y_b1, y_b0, kon_v, kon_0, true_or, or_true, and_self, true_and, and_true, false_or, or_false, and_false, false_and, not_true_eq_false, not_false_eq_true, ite_self, ↓reduceIte, Nat.reduceEqDiff, Nat.reduceLeDiff, Nat.reduceAdd, Nat.reduceMul, Nat.reduceSub, Nat.reduceLT, Nat.reduceShiftLeft, Nat.reduceOr, Nat.reduceAnd, Bool.false_eq_true, b_if, b_z1, b_z0, b_zz, b_a1, b_a0, b_lc, b_zF, b_zT, b_lbit, km, h15, nn, m15, e2, k1, qr, ft2, z0]
    · have em : ∀ b j : Nat, ¬ (b = m ∧ (j = 15 ∨ j = 7 ∨ j = 53 ∨ (43 ≤ j ∧ j ≤ 48))) → ¬ (m + 22 ≤ b ∧ b ≤ m + 30 ∧ j = zD Λ) → ¬ b = m + 16 → gI (sI (sI h1 m 7 (nI 0)) (m + 16) 2 (gI (sI h1 m 7 (nI 0)) (m + 16) 2 + nI 1)) b j = gI h b j := fun b j n1 n2 n3 => by
        rw [a_Ia n3, y_gI_sI, if_neg (by omega)]
        exact ee b j n1 n2
      have e16 : ∀ j : Nat, gI (sI h1 m 7 (nI 0)) (m + 16) j = gI h (m + 16) j := fun j => by
        rw [a_Ia (by omega)]
        exact ee _ _ (by omega) (by omega)
      refine mX_dd k sp (fun b j n1 n2 n3 => em b j n1 n2 n3) f1.2.2 ?_ ?_ (fun i hi => ?_) ?_ hm
      · rw [a_Ia (by omega), a_II]
      · rw [a_Ia (by omega), a_Ik (by decide)]; exact g53
      · by_cases q : i = 0
        · rw [q, a_II, up_s, e16]
          exact congrArg (· + nI 1) (c7 0 (by decide))
        · rw [a_Ik (by omega), up_n q, e16]
          exact c7 i hi
      · refine (mL_nd (dv := fun _ => 0) k.2.2.1 hn (fun b j _ _ n1 n2 n3 => em b j n1 n2 n3) f1.2.2 c8).1 ?_
        rw [a_Ia (by omega), a_Ik (by decide)]
        exact g15
    · rw [a_Ia (by omega), a_Ia (by omega)]
      exact ee b j (by omega) (by omega)
    · exact f1.2.2 b j (by omega)
theorem j_deed (j : JX g B SL h) : JJ g B SL DC_deed Mo_deed [] h := by
  obtain ⟨H, T, Λ, K, κ, ρ, j⟩ := j.p
  have hB := j.2.2.1.1.2.2.2.2.2.2.2
  by_cases hn : zD Λ < 24
  · obtain ⟨k, hb, hc, hm⟩ := j
    obtain ⟨h1, a1, a2, s1, s2, b1⟩ := c_deed (g := g) k hb hc hn
    have hm1 := mX_fr k s1 s2 hm
    obtain ⟨h2, d1, d2, s3, s4⟩ := m_deed (g := g) (B := B) k b1 (by omega) hm1 hn
    have bx := bX_fr s3 (s4 0 (B - 1) (by omega)) b1
    by_cases ok : rOk T (zF Λ)
    · obtain ⟨a1, cx⟩ := a1 ok
      obtain ⟨d1, mx⟩ := d1 ok
      have k' : kX H (0, T.2) (nD Λ (dvl T (zF Λ))) K κ := ⟨k.1, kTp0 k.2.1, kL_nd k.2.2.1 hn (dvl_k ok), k.2.2.2⟩
      exact ⟨h1, h2, _, a1, d1, ⟨H, (0, T.2), _, K, κ, ρ, k', bx, cX_fr k' s3 (s4 _ _ (by omega)) cx, mx⟩⟩
    · obtain ⟨a2, cx⟩ := a2 ok
      obtain ⟨d2, mx⟩ := d2 ok
      have k' : kX H (0, T.2) Λ K κ := ⟨k.1, kTp0 k.2.1, k.2.2.1, k.2.2.2⟩
      exact ⟨h1, h2, _, a2, d2, ⟨H, (0, T.2), Λ, K, κ, _, k', bx, cX_fr k' s3 (s4 _ _ (by omega)) cx, mx⟩⟩
  · have n24 := j.1.2.2.1.2.1.1
    have e24 : zD Λ = 24 := by omega
    have c3 : gI h (B + 23) 3 = nI 24 := by rw [← e24]; exact j.2.2.1.2.2.2.2.2.1.2.1.1
    have z1 : (24 < 24) = False := eq_false (by decide)
    have z2 : ((nI 24 : Int32) = nI 24) = True := eq_true rfl
    refine ⟨sI h (B + 131) 4 (gI h (B + 131) 4 + nI 1), _, -6, ?_, ?_, ((j.rc (i := 4) (by decide)).rm (i := 4) (by decide)).x⟩
    · rw [n_DC_deed]
      simp (disch := omega) only [s_DC_deed_0, s_DC_deed_1, s_DC_deed_4, s_DC_deed_7, s_DC_deed_8, s_DC_deed_9, s_DC_deed_11, s_DC_deed_14, s_DC_deed_15, s_DC_deed_17, s_DC_deed_20, s_DC_deed_21, s_DC_deed_22, s_DC_deed_25, s_DC_deed_26, s_DC_deed_29, s_DC_deed_32, s_DC_deed_33, s_DC_deed_34, s_DC_deed_35, s_DC_deed_38, s_DC_deed_41, s_DC_deed_44, s_DC_deed_45, s_DC_deed_46, s_DC_deed_49, s_DC_deed_50, s_DC_deed_53, s_DC_deed_54, s_DC_deed_55, s_DC_deed_58, s_DC_deed_59, s_DC_deed_61, s_DC_deed_64, s_DC_deed_65, s_DC_deed_67, s_DC_deed_68, s_DC_deed_69, s_DC_deed_70, s_DC_deed_71, s_DC_deed_74, s_DC_deed_75, s_DC_deed_78, s_DC_deed_79, s_DC_deed_80, s_DC_deed_83, s_DC_deed_84, y_kd_sI, y_kd_sL, y_kd_sR, y_kd_cpI, y_kd_cpL, y_ln_sI, y_ln_sL, y_ln_sR, y_ln_cpI, y_ln_cpL, y_sz_sI, y_sz_sL, y_sz_sR, y_sz_cpI, y_sz_cpL, y_sl_sI, y_sl_sL, y_sl_sR, y_sl_cpI, y_sl_cpL, y_gI_sL, y_gI_sR, y_gI_cpI, y_gI_cpL, y_gI_nw, y_gL_sI, y_gL_sR, y_gL_cpI, y_gL_cpL, y_gL_nw, y_gR_sI, y_gR_sL, y_gR_cpI, y_gR_cpL, y_gR_nw, y_kd_nw, y_ln_nw, y_sz_nw, y_sl_nw, y_fx_int, y_fx_long, y_fx_ref, y_fx_null, y_fx_U, y_rf_s, y_rf_n, a_inb, a_ix, a_lt, a_eq, a_eq0, a_lt0, a_0lt, a_m1, a_m2, a_mlt, a_sub, a_dec, a_div, a_rem, a_shl, a_shr, a_bit, a_bit0, a_II, a_Ia, a_Ik, a_LL, a_La, a_Lk, a_RR, a_Ra, a_Rk, a_if0, a_if1, y_mul, y_and, y_or, nI_add, y_b1, y_b0, kon_v, kon_0, true_or, or_true, and_self, true_and, and_true, false_or, or_false, and_false, false_and, not_true_eq_false, not_false_eq_true, ite_self, ↓reduceIte, Nat.reduceEqDiff, Nat.reduceLeDiff, Nat.reduceAdd, Nat.reduceMul, Nat.reduceSub, Nat.reduceLT, Nat.reduceShiftLeft, Nat.reduceOr, Nat.reduceAnd, Bool.false_eq_true, b_if, b_z1, b_z0, b_zz, b_a1, b_a0, b_lc, b_zF, b_zT, b_lbit, dc_k j.dc, dc_r2 j.dc, la_k j.la, c3, z1, va_rf, q_DC_refuse4 j.dc]
    · have j1 := j.rc (i := 4) (by decide)
      have m15 : gI (sI h (B + 131) 4 (gI h (B + 131) 4 + nI 1)) (B + 145) 15 = nI 24 := by rw [← e24]; exact j1.2.2.2.2.2.2.2.2.2.2.1.2.1.1
      rw [n_Mo_deed]
      simp (disch := omega) only [s_Mo_deed_0, s_Mo_deed_1, s_Mo_deed_4, s_Mo_deed_6, s_Mo_deed_9, s_Mo_deed_10, s_Mo_deed_12, s_Mo_deed_15, s_Mo_deed_16, s_Mo_deed_17, s_Mo_deed_18, s_Mo_deed_21, s_Mo_deed_22, s_Mo_deed_23, s_Mo_deed_26, s_Mo_deed_29, s_Mo_deed_30, s_Mo_deed_31, s_Mo_deed_32, s_Mo_deed_35, s_Mo_deed_36, s_Mo_deed_39, s_Mo_deed_40, s_Mo_deed_42, s_Mo_deed_45, s_Mo_deed_46, s_Mo_deed_48, s_Mo_deed_49, s_Mo_deed_52, s_Mo_deed_53, s_Mo_deed_54, s_Mo_deed_55, s_Mo_deed_56, s_Mo_deed_59, s_Mo_deed_60, s_Mo_deed_61, s_Mo_deed_62, s_Mo_deed_65, y_kd_sI, y_kd_sL, y_kd_sR, y_kd_cpI, y_kd_cpL, y_ln_sI, y_ln_sL, y_ln_sR, y_ln_cpI, y_ln_cpL, y_sz_sI, y_sz_sL, y_sz_sR, y_sz_cpI, y_sz_cpL, y_sl_sI, y_sl_sL, y_sl_sR, y_sl_cpI, y_sl_cpL, y_gI_sL, y_gI_sR, y_gI_cpI, y_gI_cpL, y_gI_nw, y_gL_sI, y_gL_sR, y_gL_cpI, y_gL_cpL, y_gL_nw, y_gR_sI, y_gR_sL, y_gR_cpI, y_gR_cpL, y_gR_nw, y_kd_nw, y_ln_nw, y_sz_nw, y_sl_nw, y_fx_int, y_fx_long, y_fx_ref, y_fx_null, y_fx_U, y_rf_s, y_rf_n, a_inb, a_ix, a_lt, a_eq, a_eq0, a_lt0, a_0lt, a_m1, a_m2, a_mlt, a_sub, a_dec, a_div, a_rem, a_shl, a_shr, a_bit, a_bit0, a_II, a_Ia, a_Ik, a_LL, a_La, a_Lk, a_RR, a_Ra, a_Rk, a_if0, a_if1, y_mul, y_and, y_or, nI_add, y_b1, y_b0, kon_v, kon_0, true_or, or_true, and_self, true_and, and_true, false_or, or_false, and_false, false_and, not_true_eq_false, not_false_eq_true, ite_self, ↓reduceIte, Nat.reduceEqDiff, Nat.reduceLeDiff, Nat.reduceAdd, Nat.reduceMul, Nat.reduceSub, Nat.reduceLT, Nat.reduceShiftLeft, Nat.reduceOr, Nat.reduceAnd, Bool.false_eq_true, b_if, b_z1, b_z0, b_zz, b_a1, b_a0, b_lc, b_zF, b_zT, b_lbit, mo_k j1.mo, m15, z2, q_Mo_refuse4 j1.mo]
      try rfl
end ZJD
