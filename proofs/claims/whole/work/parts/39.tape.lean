/-! the tape: wipe -/
theorem rMS_fr2 {m n : Nat} {A : aA} {h h' : zMem} (e0 : ∀ k : Nat, 30 ≤ k → gI h' m k = gI h m k) (e : ∀ b k : Nat, m + 36 ≤ b → gI h' b k = gI h b k) (r : rMS h m n A) : rMS h' m n A := by
  obtain ⟨r1, r2, r3, r4, r5, r6, r7⟩ := r
  refine ⟨(e0 _ (by decide)).trans r1, (e0 _ (by decide)).trans r2, (e0 _ (by decide)).trans r3, (e0 _ (by decide)).trans r4, (e0 _ (by decide)).trans r5, (e0 _ (by decide)).trans r6, fun a b => ?_⟩
  obtain ⟨w1, w2⟩ := r7 a b
  exact ⟨fun j hj => by
    obtain ⟨Q, Q1, Q2, Q3⟩ := w1 j hj
    exact ⟨Q, fun a b ha hb => by rw [e _ _ (by omega)]; exact Q1 a b ha hb, Q2, Q3⟩, fun j hj => (e _ _ (by omega)).trans (w2 j hj)⟩
section ZTP
variable {g : Nat → Nat} {B SL m : Nat} {h h' : zMem} {H : zH} {T T' : zT} {Λ K : zL} {κ : Bool} {ρ ρ' : Nat → Int32}
theorem mX_tape (hk : kX H T Λ K κ) (s : shp h h') (e0 : ∀ k : Nat, ¬ k = 7 → gI h' m k = gI h m k) (e1 : ∀ b k : Nat, ¬ b = m → ¬ b = m + 15 → gI h' b k = gI h b k) (eL : ∀ b k : Nat, gL h' b k = gL h b k) (ht : mTp h' m T') (c : mX g m SL h H T Λ K κ ρ) : mX g m SL h' H T' Λ K κ ρ := by
  obtain ⟨c1, c2, c3, c4, c5, c6, c7, c8, c9⟩ := c
  have r2 : ∀ {n : Nat} {A : aA}, rMS h m n A → rMS h' m n A := fun r => rMS_fr2 (fun k hk => e0 k (by omega)) (fun b k hb => e1 b k (by omega) (by omega)) r
  refine ⟨mSP_fr s c1, c2.mv (fun k => e1 _ _ (by omega) (by omega)) (e0 _ (by decide)), c3.mv (fun k => e1 _ _ (by omega) (by omega)) (e1 _ _ (by omega) (by omega)), ?_, mSh_fr ⟨fun b k _ _ => e1 _ _ (by omega) (by omega), fun b k _ _ => eL _ _⟩ c5 |> fun x => x, ht, fun i hi => (e1 _ _ (by omega) (by omega)).trans (c7 i hi), ?_, mKp_fr hk.2.2.2 s ⟨fun b k _ _ => e1 _ _ (by omega) (by omega), fun b k _ _ => eL _ _⟩ c9⟩
  · unfold mFr
    rw [e0 _ (by decide), e0 _ (by decide), e0 _ (by decide)]
    rcases c4 with d | ⟨d1, d2⟩
    · exact Or.inl d
    · exact Or.inr ⟨d1, r2 d2⟩
  · obtain ⟨l1, l2, l3, l4, l5, l6, l7⟩ := c8
    refine ⟨⟨(e0 _ (by decide)).trans l1.1, fun f hf => ?_⟩, ⟨(e0 _ (by decide)).trans l2.1, fun f hf => ?_⟩, fun w hw => (e1 _ _ (by omega) (by omega)).trans (l3 w hw), ⟨(e0 _ (by decide)).trans l4.1, fun w hw => ?_⟩, ⟨(e0 _ (by decide)).trans l5.1, fun w hw => (e1 _ _ (by omega) (by omega)).trans (l5.2 w hw)⟩, fun y => (e0 _ (by decide)).trans (l6 y), fun y => ⟨(e0 _ (by decide)).trans (l7 y).1, (e0 _ (by decide)).trans (l7 y).2.1, rMS_fr2 (fun k _ => e1 _ _ (by omega) (by omega)) (fun b k hb => e1 b k (by omega) (by omega)) (l7 y).2.2⟩⟩
    · rw [e1 _ _ (by omega) (by omega), e1 _ _ (by omega) (by omega), e1 _ _ (by omega) (by omega), e1 _ _ (by omega) (by omega), eL]; exact l1.2 f hf
    · rw [e1 _ _ (by omega) (by omega), e1 _ _ (by omega) (by omega), e1 _ _ (by omega) (by omega), e1 _ _ (by omega) (by omega), e1 _ _ (by omega) (by omega), e1 _ _ (by omega) (by omega), e1 _ _ (by omega) (by omega), e1 _ _ (by omega) (by omega), e1 _ _ (by omega) (by omega)]; exact l2.2 f hf
    · rw [e1 _ _ (by omega) (by omega), e1 _ _ (by omega) (by omega)]; exact l4.2 w hw
/-- the tape changed on both sides -/
theorem JP.tp (j : JP g B SL h H T Λ K κ ρ ρ) {h1 : zMem} (ht : kTp T') (s : sam (B + 18) (B + 19) h h1) (hc : cTp h1 B T') (s2 : shp h1 h') (e0 : ∀ k : Nat, ¬ k = 7 → gI h' (B + 145) k = gI h1 (B + 145) k) (e1 : ∀ b k : Nat, ¬ b = B + 145 → ¬ b = B + 145 + 15 → gI h' b k = gI h1 b k) (eL : ∀ b k : Nat, gL h' b k = gL h1 b k) (hm' : mTp h' (B + 145) T') : JX g B SL h' := by
  have hB := j.B0
  obtain ⟨hk, hb, hcx, hm⟩ := j
  have hk' : kX H T' Λ K κ := ⟨hk.1, ht, hk.2.2⟩
  have hm1 := mX_fr hk s.sh (s.out (by omega)) hm
  have f : smF 0 (B + 144) h1 h' := ⟨fun b k _ _ => e1 _ _ (by omega) (by omega), fun b k _ _ => eL _ _⟩
  exact JP.x (g := g) (B := B) (SL := SL) (ρ := ρ) ⟨hk', bX_fr s2 (f.wd (by omega) (by omega)) (bX_fr s.sh (s.out0 hB (by omega)) hb), cX_fr hk' s2 (f.wd (by omega) (by omega)) (cX_tape hk s hcx hc), mX_tape hk s2 e0 e1 eL hm' hm1⟩
theorem j_wipe (J : JX g B SL h) : JJ g B SL DC_wipe Mo_wipe [] h := by
  obtain ⟨H, T, Λ, K, κ, ρ, j⟩ := J.p
  have c1 := j.2.2.1.2.2.1.1
  have m1 := j.2.2.2.2.2.2.2.2.1.1
  have s1 : sam (B + 18) (B + 19) h (sI h (B + 18) 0 (nI 0)) := sam.I (by omega)
  have oM := j.mo1 s1.sh
  refine ⟨sI h (B + 18) 0 (nI 0), sI (sI h (B + 18) 0 (nI 0)) (B + 145) 7 (nI 0), nI T.1, ?_, ?_, j.tp (T' := (0, T.2)) ⟨Nat.zero_le _, fun i hi => absurd hi (Nat.not_lt_zero i)⟩ s1 ⟨a_II, fun i hi => absurd hi (Nat.not_lt_zero i)⟩ ⟨fun _ => rfl, fun _ => rfl, fun _ _ => rfl, rfl, rfl⟩ (fun k hk => a_Ik hk) (fun b k hb _ => a_Ia hb) (fun _ _ => rfl) ⟨a_II, fun i hi => absurd hi (Nat.not_lt_zero i)⟩⟩
  · rw [n_DC_wipe]
    simp (disch := omega) only [s_DC_wipe_0, s_DC_wipe_1, s_DC_wipe_4, s_DC_wipe_7, s_DC_wipe_8, s_DC_wipe_9, s_DC_wipe_12, s_DC_wipe_13, s_DC_wipe_16, s_DC_wipe_17, y_kd_sI, y_kd_sL, y_kd_sR, y_kd_cpI, y_kd_cpL, y_ln_sI, y_ln_sL, y_ln_sR, y_ln_cpI, y_ln_cpL, y_sz_sI, y_sz_sL, y_sz_sR, y_sz_cpI, y_sz_cpL, y_sl_sI, y_sl_sL, y_sl_sR, y_sl_cpI, y_sl_cpL, y_gI_sL, y_gI_sR, y_gI_cpI, y_gI_cpL, y_gI_nw, y_gL_sI, y_gL_sR, y_gL_cpI, y_gL_cpL, y_gL_nw, y_gR_sI, y_gR_sL, y_gR_cpI, y_gR_cpL, y_gR_nw, y_kd_nw, y_ln_nw, y_sz_nw, y_sl_nw, y_fx_int, y_fx_long, y_fx_ref, y_fx_null, y_fx_U, y_rf_s, y_rf_n, a_inb, a_ix, a_lt, a_eq, a_eq0, a_lt0, a_0lt, a_m1, a_m2, a_mlt, a_sub, a_dec, a_div, a_rem, a_shl, a_shr, a_bit, a_bit0, a_II, a_Ia, a_Ik, a_LL, a_La, a_Lk, a_RR, a_Ra, a_Rk, a_if0, a_if1, y_mul, y_and, y_or, nI_add, y_b1, y_b0, kon_v, kon_0, true_or, or_true, and_self, true_and, and_true, false_or, or_false, and_false, false_and, not_true_eq_false, not_false_eq_true, ite_self, ↓reduceIte, Nat.reduceEqDiff, Nat.reduceLeDiff, Nat.reduceAdd, Nat.reduceMul, Nat.reduceSub, Nat.reduceLT, Nat.reduceShiftLeft, Nat.reduceOr, Nat.reduceAnd, Bool.false_eq_true, b_if, b_z1, b_z0, b_zz, b_a1, b_a0, dc_k j.dc, dc_r0 j.dc, dc_r1 j.dc, dc_r2 j.dc, dc_r3 j.dc, dc_r5 j.dc, dc_r6 j.dc, dc_r7 j.dc, dc_r8 j.dc, dc_r9 j.dc, dc_k1 j.dc, dc_l1 j.dc, dc_k19 j.dc, dc_l19 j.dc, dc_k21 j.dc, dc_l21 j.dc, dc_k22 j.dc, dc_l22 j.dc, dc_k131 j.dc, dc_l131 j.dc, dc_k142 j.dc, dc_l142 j.dc, dc_k143 j.dc, dc_l143 j.dc, dc_k144 j.dc, dc_l144 j.dc, dc_k18 j.dc, dc_r18 j.dc, dc_k20 j.dc, dc_r20_0 j.dc, dc_r20_1 j.dc, dc_k141 j.dc, dc_r141_5 j.dc, dc_r141_6 j.dc, dc_s j.dc, dc_sk j.dc, dc_sr j.dc, dc_ek j.dc, dc_el j.dc, c1]
  · rw [n_Mo_wipe]
    simp (disch := omega) only [s_Mo_wipe_0, s_Mo_wipe_1, s_Mo_wipe_4, s_Mo_wipe_5, s_Mo_wipe_6, s_Mo_wipe_7, s_Mo_wipe_10, s_Mo_wipe_11, y_kd_sI, y_kd_sL, y_kd_sR, y_kd_cpI, y_kd_cpL, y_ln_sI, y_ln_sL, y_ln_sR, y_ln_cpI, y_ln_cpL, y_sz_sI, y_sz_sL, y_sz_sR, y_sz_cpI, y_sz_cpL, y_sl_sI, y_sl_sL, y_sl_sR, y_sl_cpI, y_sl_cpL, y_gI_sL, y_gI_sR, y_gI_cpI, y_gI_cpL, y_gI_nw, y_gL_sI, y_gL_sR, y_gL_cpI, y_gL_cpL, y_gL_nw, y_gR_sI, y_gR_sL, y_gR_cpI, y_gR_cpL, y_gR_nw, y_kd_nw, y_ln_nw, y_sz_nw, y_sl_nw, y_fx_int, y_fx_long, y_fx_ref, y_fx_null, y_fx_U, y_rf_s, y_rf_n, a_inb, a_ix, a_lt, a_eq, a_eq0, a_lt0, a_0lt, a_m1, a_m2, a_mlt, a_sub, a_dec, a_div, a_rem, a_shl, a_shr, a_bit, a_bit0, a_II, a_Ia, a_Ik, a_LL, a_La, a_Lk, a_RR, a_Ra, a_Rk, a_if0, a_if1, y_mul, y_and, y_or, nI_add, y_b1, y_b0, kon_v, kon_0, true_or, or_true, and_self, true_and, and_true, false_or, or_false, and_false, false_and, not_true_eq_false, not_false_eq_true, ite_self, ↓reduceIte, Nat.reduceEqDiff, Nat.reduceLeDiff, Nat.reduceAdd, Nat.reduceMul, Nat.reduceSub, Nat.reduceLT, Nat.reduceShiftLeft, Nat.reduceOr, Nat.reduceAnd, Bool.false_eq_true, b_if, b_z1, b_z0, b_zz, b_a1, b_a0, mo_k oM, m1]
end ZTP
