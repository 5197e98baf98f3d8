/-! back, all of it -/
section ZBK3
variable {g : Nat → Nat} {B SL m n i : Nat} {h h' : zMem} {H : zH} {T : zT} {Λ K : zL} {κ : Bool} {ρ : Nat → Int32}
theorem moD_im {k i : Nat} (z : moD k i) : (k = 0 ∧ (i = 9 ∨ i = 15 ∨ i = 27 ∨ i = 28 ∨ i = 31 ∨ i = 32)) ∨ (17 ≤ k ∧ k ≤ 34) ∨ (k = 90 ∧ 34 ≤ i ∧ i ≤ 41) ∨ k = 172 ∨ (126 ≤ k ∧ k < 172) := by
  unfold moD at z
  repeat' (rcases (z : _ ∨ _) with z | z)
  all_goals (first | exact z.elim | omega)
theorem not_moD {k i : Nat} (h : (1 ≤ k ∧ k < 17) ∨ k = 85 ∨ k = 175 ∨ (k = 0 ∧ (i = 7 ∨ i = 52 ∨ i = 53)) ∨ (k = 90 ∧ i = 52)) : ¬ moD k i := fun z => by
  have := moD_im z
  omega
theorem mL_sh (e : ∀ b k : Nat, (b = m ∨ m + 15 ≤ b) → gI h' b k = gI h b k) (eL : ∀ b k : Nat, (b < m + 5 ∨ m + 14 < b) → gL h' b k = gL h b k) (c8 : mL h m Λ) : mL h' m Λ := by
  obtain ⟨l1, l2, l3, l4, l5, l6, l7⟩ := c8
  refine ⟨⟨(e _ _ (by omega)).trans l1.1, fun f hf => ?_⟩, ⟨(e _ _ (by omega)).trans l2.1, fun f hf => ?_⟩, fun w hw => (e _ _ (by omega)).trans (l3 w hw), ⟨(e _ _ (by omega)).trans l4.1, fun w hw => ?_⟩, ⟨(e _ _ (by omega)).trans l5.1, fun w hw => (e _ _ (by omega)).trans (l5.2 w hw)⟩, fun y => (e _ _ (by omega)).trans (l6 y), fun y => ⟨(e _ _ (by omega)).trans (l7 y).1, (e _ _ (by omega)).trans (l7 y).2.1, rMS_fr' (fun b k hb => e b k (by omega)) (l7 y).2.2⟩⟩
  · rw [e _ _ (by omega), e _ _ (by omega), e _ _ (by omega), e _ _ (by omega), eL _ _ (by omega)]; exact l1.2 f hf
  · rw [e _ _ (by omega), e _ _ (by omega), e _ _ (by omega), e _ _ (by omega), e _ _ (by omega), e _ _ (by omega), e _ _ (by omega), e _ _ (by omega), e _ _ (by omega)]; exact l2.2 f hf
  · rw [e _ _ (by omega), e _ _ (by omega)]; exact l4.2 w hw
theorem j_back (j : JX g B SL h) : JJ g B SL DC_back Mo_back [] h := by
  obtain ⟨H, T, Λ, K, κ, ρ, j⟩ := j.p
  have hB := j.2.2.1.1.2.2.2.2.2.2.2
  cases κ with
  | false =>
    have c5 : gI h B 4 = nI 0 := j.2.2.1.2.2.2.2.1
    have r33 : gR h (B + 145) 33 = none := (j.2.2.2.2.2.2.2.2.2.2.2.1 rfl).1
    refine ⟨sI h (B + 131) 3 (gI h (B + 131) 3 + nI 1), _, -5, ?_, ?_, ((j.rc (i := 3) (by decide)).rm (i := 3) (by decide)).x⟩
    · rw [n_DC_back]
      simp (disch := omega) only [s_DC_back_0, s_DC_back_1, s_DC_back_4, s_DC_back_7, s_DC_back_8, s_DC_back_10, s_DC_back_13, s_DC_back_14, s_DC_back_15, s_DC_back_18, s_DC_back_19, s_DC_back_22, s_DC_back_25, s_DC_back_26, s_DC_back_27, s_DC_back_28, s_DC_back_30, s_DC_back_33, s_DC_back_34, s_DC_back_37, s_DC_back_38, s_DC_back_39, s_DC_back_42, s_DC_back_45, s_DC_back_46, s_DC_back_49, s_DC_back_50, s_DC_back_53, s_DC_back_54, s_DC_back_55, s_DC_back_58, s_DC_back_61, s_DC_back_64, s_DC_back_65, s_DC_back_68, s_DC_back_69, s_DC_back_70, s_DC_back_71, s_DC_back_74, s_DC_back_77, s_DC_back_80, s_DC_back_81, y_kd_sI, y_kd_sL, y_kd_sR, y_kd_cpI, y_kd_cpL, y_ln_sI, y_ln_sL, y_ln_sR, y_ln_cpI, y_ln_cpL, y_sz_sI, y_sz_sL, y_sz_sR, y_sz_cpI, y_sz_cpL, y_sl_sI, y_sl_sL, y_sl_sR, y_sl_cpI, y_sl_cpL, y_gI_sL, y_gI_sR, y_gI_cpI, y_gI_cpL, y_gI_nw, y_gL_sI, y_gL_sR, y_gL_cpI, y_gL_cpL, y_gL_nw, y_gR_sI, y_gR_sL, y_gR_cpI, y_gR_cpL, y_gR_nw, y_kd_nw, y_ln_nw, y_sz_nw, y_sl_nw, y_fx_int, y_fx_long, y_fx_ref, y_fx_null, y_fx_U, y_rf_s, y_rf_n, a_inb, a_ix, a_lt, a_eq, a_eq0, a_lt0, a_0lt, a_m1, a_m2, a_mlt, a_sub, a_dec, a_div, a_rem, a_shl, a_shr, a_bit, a_bit0, a_II, a_Ia, a_Ik, a_LL, a_La, a_Lk, a_RR, a_Ra, a_Rk, a_if0, a_if1, y_mul, y_and, y_or, nI_add, y_b1, y_b0, kon_v, kon_0, true_or, or_true, and_self, true_and, and_true, false_or, or_false, and_false, false_and, not_true_eq_false, not_false_eq_true, ite_self, ↓reduceIte, Nat.reduceEqDiff, Nat.reduceLeDiff, Nat.reduceAdd, Nat.reduceMul, Nat.reduceSub, Nat.reduceLT, Nat.reduceShiftLeft, Nat.reduceOr, Nat.reduceAnd, Bool.false_eq_true, b_if, b_z1, b_z0, b_zz, b_a1, b_a0, b_lc, b_zF, b_zT, b_lbit, dc_k j.dc, c5, q_DC_refuse3 j.dc]
    · have j1 := j.rc (i := 3) (by decide)
      have r33 : gR (sI h (B + 131) 3 (gI h (B + 131) 3 + nI 1)) (B + 145) 33 = none := r33
      rw [n_Mo_back]
      simp (disch := omega) only [s_Mo_back_0, s_Mo_back_1, s_Mo_back_4, s_Mo_back_4n, s_Mo_back_4r, s_Mo_back_7, s_Mo_back_8, s_Mo_back_10, s_Mo_back_13, s_Mo_back_14, s_Mo_back_15, s_Mo_back_16, s_Mo_back_19, s_Mo_back_22, s_Mo_back_23, s_Mo_back_24, s_Mo_back_25, s_Mo_back_27, s_Mo_back_30, s_Mo_back_31, s_Mo_back_34, s_Mo_back_35, s_Mo_back_36, s_Mo_back_37, s_Mo_back_40, s_Mo_back_41, s_Mo_back_44, s_Mo_back_45, s_Mo_back_46, s_Mo_back_47, s_Mo_back_50, s_Mo_back_53, s_Mo_back_54, s_Mo_back_57, s_Mo_back_58, s_Mo_back_59, s_Mo_back_60, s_Mo_back_63, s_Mo_back_66, s_Mo_back_67, y_kd_sI, y_kd_sL, y_kd_sR, y_kd_cpI, y_kd_cpL, y_ln_sI, y_ln_sL, y_ln_sR, y_ln_cpI, y_ln_cpL, y_sz_sI, y_sz_sL, y_sz_sR, y_sz_cpI, y_sz_cpL, y_sl_sI, y_sl_sL, y_sl_sR, y_sl_cpI, y_sl_cpL, y_gI_sL, y_gI_sR, y_gI_cpI, y_gI_cpL, y_gI_nw, y_gL_sI, y_gL_sR, y_gL_cpI, y_gL_cpL, y_gL_nw, y_gR_sI, y_gR_sL, y_gR_cpI, y_gR_cpL, y_gR_nw, y_kd_nw, y_ln_nw, y_sz_nw, y_sl_nw, y_fx_int, y_fx_long, y_fx_ref, y_fx_null, y_fx_U, y_rf_s, y_rf_n, a_inb, a_ix, a_lt, a_eq, a_eq0, a_lt0, a_0lt, a_m1, a_m2, a_mlt, a_sub, a_dec, a_div, a_rem, a_shl, a_shr, a_bit, a_bit0, a_II, a_Ia, a_Ik, a_LL, a_La, a_Lk, a_RR, a_Ra, a_Rk, a_if0, a_if1, y_mul, y_and, y_or, nI_add, y_b1, y_b0, kon_v, kon_0, true_or, or_true, and_self, true_and, and_true, false_or, or_false, and_false, false_and, not_true_eq_false, not_false_eq_true, ite_self, ↓reduceIte, Nat.reduceEqDiff, Nat.reduceLeDiff, Nat.reduceAdd, Nat.reduceMul, Nat.reduceSub, Nat.reduceLT, Nat.reduceShiftLeft, Nat.reduceOr, Nat.reduceAnd, Bool.false_eq_true, b_if, b_z1, b_z0, b_zz, b_a1, b_a0, b_lc, b_zF, b_zT, b_lbit, mo_k j1.mo, r33, va_rf, q_Mo_refuse3 j1.mo]
      try rfl
  | true =>
    obtain ⟨k, hb, hc, hm⟩ := j
    obtain ⟨h1, e1, s, f, b1, c1⟩ := c_dback (g := g) k hb hc
    have hm1 := mX_fr k s f hm
    have kK := k.2.2.2 rfl
    have k' : kX (Hb H (zF K) 8) T K K true := ⟨Hb_k kK.1.1 k.2.2.1.1.1 k.1, k.2.1, kK, fun _ => kK⟩
    obtain ⟨m1, m2, m3, m4, m5, m6, m7, m8, m9⟩ := hm1
    obtain ⟨r33, z, w, o1, o2, r42, mK⟩ := m9.2 rfl
    obtain ⟨h2, e2, c⟩ := c_takeFrom (g := g) (o := B + 145 + 180) (m := B + 145) (h := h1) (by omega) m1.1 o1 m1.2.2.1 o2 m1.2.1 r42
    have sm : sam (B + 145) (B + 145 + 179) h1 h2 := (sam.I (by omega)).tr c.1
    have l' := be_mL (Λ := K) kK c (mL_fr kK ⟨fun b k' h1 h2 => a_Ia (by omega), fun b k' _ _ => rfl⟩ mK)
    have km := mo_k m1.1
    have go : call g Mo_back [.ref (B + 145)] h1 = ev g Mo_back 22 [.ref (B + 145), zU] [] h2 := by
      rw [n_Mo_back]
      simp (disch := omega) only [s_Mo_back_0, s_Mo_back_1, s_Mo_back_4, s_Mo_back_4n, s_Mo_back_4r, s_Mo_back_7, s_Mo_back_8, s_Mo_back_10, s_Mo_back_13, s_Mo_back_14, s_Mo_back_15, s_Mo_back_16, s_Mo_back_19, s_Mo_back_23, s_Mo_back_24, s_Mo_back_25, s_Mo_back_27, s_Mo_back_30, s_Mo_back_31, s_Mo_back_34, s_Mo_back_35, s_Mo_back_36, s_Mo_back_37, s_Mo_back_40, s_Mo_back_41, s_Mo_back_44, s_Mo_back_45, s_Mo_back_46, s_Mo_back_47, s_Mo_back_50, s_Mo_back_53, s_Mo_back_54, s_Mo_back_57, s_Mo_back_58, s_Mo_back_59, s_Mo_back_60, s_Mo_back_63, s_Mo_back_66, s_Mo_back_67, y_kd_sI, y_kd_sL, y_kd_sR, y_kd_cpI, y_kd_cpL, y_ln_sI, y_ln_sL, y_ln_sR, y_ln_cpI, y_ln_cpL, y_sz_sI, y_sz_sL, y_sz_sR, y_sz_cpI, y_sz_cpL, y_sl_sI, y_sl_sL, y_sl_sR, y_sl_cpI, y_sl_cpL, y_gI_sL, y_gI_sR, y_gI_cpI, y_gI_cpL, y_gI_nw, y_gL_sI, y_gL_sR, y_gL_cpI, y_gL_cpL, y_gL_nw, y_gR_sI, y_gR_sL, y_gR_cpI, y_gR_cpL, y_gR_nw, y_kd_nw, y_ln_nw, y_sz_nw, y_sl_nw, y_fx_int, y_fx_long, y_fx_ref, y_fx_null, y_fx_U, y_rf_s, y_rf_n, a_inb, a_ix, a_lt, a_eq, a_eq0, a_lt0, a_0lt, a_m1, a_m2, a_mlt, a_sub, a_dec, a_div, a_rem, a_shl, a_shr, a_bit, a_bit0, a_II, a_Ia, a_Ik, a_LL, a_La, a_Lk, a_RR, a_Ra, a_Rk, a_if0, a_if1, y_mul, y_and, y_or, nI_add, y_b1, y_b0, kon_v, kon_0, true_or, or_true, and_self, true_and, and_true, false_or, or_false, and_false, false_and, not_true_eq_false, not_false_eq_true, ite_self, ↓reduceIte, Nat.reduceEqDiff, Nat.reduceLeDiff, Nat.reduceAdd, Nat.reduceMul, Nat.reduceSub, Nat.reduceLT, Nat.reduceShiftLeft, Nat.reduceOr, Nat.reduceAnd, Bool.false_eq_true, b_if, b_z1, b_z0, b_zz, b_a1, b_a0, b_lc, b_zF, b_zT, b_lbit, km, r33, va_rf, e2]
    have un : ∀ k i : Nat, k ≤ 179 → ¬ moD k i → ¬ (k = 0 ∧ i = 53) → gI h2 (B + 145 + k) i = gI h1 (B + 145 + k) i := fun k i hk hd ne => (c.2.2.1 k i hk hd).trans (by rw [y_gI_sI, if_neg (by omega)])
    have unL : ∀ k i : Nat, k ≤ 179 → ¬ k = 21 → gL h2 (B + 145 + k) i = gL h1 (B + 145 + k) i := fun k i hk hd => (c.2.2.2.2 k i hk (fun z => hd z.1)).trans rfl
    have f53 : gI h2 (B + 145) 53 = nI 0 := (c.2.2.1 0 53 (by omega) (not_moD (by omega))).trans a_II
    have w1 : kW h2 (B + 145) := m2.mv (fun i => un 85 i (by omega) (not_moD (by omega)) (by omega)) (un 0 52 (by omega) (not_moD (by omega)) (by omega))
    have w2 : kW h2 (B + 145 + 90) := m3.mv (fun i => un 175 i (by omega) (not_moD (by omega)) (by omega)) (un 90 52 (by omega) (not_moD (by omega)) (by omega))
    have sh2 : mSh h2 (B + 145) H := mSh_fr ⟨fun b i p q => by
      have := un (b - (B + 145)) i (by omega) (not_moD (by omega)) (by omega)
      rw [show B + 145 + (b - (B + 145)) = b by omega] at this
      exact this, fun b i p q => by
      have := unL (b - (B + 145)) i (by omega) (by omega)
      rw [show B + 145 + (b - (B + 145)) = b by omega] at this
      exact this⟩ m5
    have tp2 : mTp h2 (B + 145) T := ⟨(un 0 7 (by omega) (not_moD (by omega)) (by omega)).trans m6.1, fun i hi => (un 15 i (by omega) (not_moD (by omega)) (by omega)).trans (m6.2 i hi)⟩
    have rf2 : mRf h2 (B + 145) ρ := fun i hi => (un 16 (i + 2) (by omega) (not_moD (by omega)) (by omega)).trans (m7 i hi)
    obtain ⟨h3, e3, s3, t3, v3⟩ := m_shelves (g := g) kK.1.1 k.2.2.1.1.1 k.1 (sm.mo m1.1) l'.1.1 sh2
    have ss : sam (B + 145) (B + 145 + 179) h1 h3 := sm.tr (s3.wd (by omega) (by omega))
    have sp := ss.sh
    have ff : smF 0 (B + 144) h1 h3 := ss.out (by omega)
    have f3 : ∀ lo hi : Nat, (hi < B + 146 ∨ B + 146 < lo) → smF lo hi h2 h3 := fun lo hi n1 => s3.out (by omega)
    have f3L : smF (B + 145 + 180) (B + 145 + 359) h1 h3 := ss.out (by omega)
    refine ⟨h1, h3, nI 1, e1, by rw [go, e3], ⟨Hb H (zF K) 8, T, K, K, true, ρ, k', bX_fr sp (ff.wd (by omega) (by omega)) b1, cX_fr k' sp (ff.wd (by omega) (by omega)) c1, mSP_fr sp m1, ?_, ?_, Or.inl (((f3 (B + 145) (B + 145) (by omega)).1 _ _ (by omega) (by omega)).trans f53), fun s hs => ?_, ⟨((f3 (B + 145) (B + 145) (by omega)).1 _ _ (by omega) (by omega)).trans tp2.1, fun i hi => ((f3 (B + 145 + 15) (B + 145 + 15) (by omega)).1 _ _ (by omega) (by omega)).trans (tp2.2 i hi)⟩, fun i hi => ((f3 (B + 145 + 16) (B + 145 + 16) (by omega)).1 _ _ (by omega) (by omega)).trans (rf2 i hi), ?_, mKp_fr (fun _ => kK) sp f3L m9⟩⟩
    · exact w1.mv (fun i => (f3 (B + 145 + 85) (B + 145 + 85) (by omega)).1 _ _ (by omega) (by omega)) ((f3 (B + 145) (B + 145) (by omega)).1 _ _ (by omega) (by omega))
    · exact kW_fr (f3 _ _ (by omega)) w2
    · obtain ⟨c1, c2, c3⟩ := sh2 s hs
      have g13 : gI h3 (B + 145 + 13) s = gI h2 (B + 145 + 13) s := (f3 (B + 145 + 13) (B + 145 + 13) (by omega)).1 _ _ (by omega) (by omega)
      have g2 : gI h3 (B + 145 + 2) s = gI h2 (B + 145 + 2) s := (f3 (B + 145 + 2) (B + 145 + 2) (by omega)).1 _ _ (by omega) (by omega)
      have g3 : gI h3 (B + 145 + 3) s = gI h2 (B + 145 + 3) s := (f3 (B + 145 + 3) (B + 145 + 3) (by omega)).1 _ _ (by omega) (by omega)
      have gl : ∀ i : Nat, gL h3 (B + 145 + 5 + s) i = gL h2 (B + 145 + 5 + s) i := fun i => (f3 (B + 145 + 5) (B + 145 + 13) (by omega)).2 _ _ (by omega) (by omega)
      unfold Hb
      dsimp only
      rw [v3 s hs]
      by_cases q : bk (H.2.2.1 s) (zF K)
      · simp only [if_pos q, if_pos (show s < 8 ∧ bk (H.2.2.1 s) (zF K) from ⟨hs, q⟩), not_true_eq_false, if_false, false_implies, implies_true, and_self, true_implies]
      · simp only [if_neg q, if_neg (show ¬ (s < 8 ∧ bk (H.2.2.1 s) (zF K)) from fun c => q c.2), g13, g2, g3, gl]
        exact ⟨c1, c2, c3⟩
    · exact mL_sh (fun b k hb => s3.2.2.2.2.2.1 b k (by omega)) (fun b k hb => by
        by_cases q : b = B + 145 + 1
        · rw [q]; exact t3 k
        · exact s3.2.2.2.2.2.2 b k (by omega)) l'
end ZBK3
