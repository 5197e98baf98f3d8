/-! seed -/
theorem fam_26 {V : Nat → Nat → Int32} {c i nf nd : Nat} {y of v : Int32} (hc : 26 ≤ c) : aSrch (uV V c i v) nf nd y of = aSrch V nf nd y of := by
  have e : ∀ x : Nat, x < 26 → uV V c i v x = V x := fun x hx => uV_c (by omega)
  have l : ∀ d' : Nat, lts (uV V c i v) d' = lts V d' := fun d' => by
    unfold lts
    rw [e 20 (by decide), e 21 (by decide), e 22 (by decide), e 23 (by decide), lW_V (e 25 (by decide))]
  have s : ∀ d' : Nat, selV (uV V c i v) y d' = selV V y d' := fun d' => by
    unfold selV
    rw [e 24 (by decide), e 18 (by decide)]
  have f : ∀ n : Nat, fD (uV V c i v) (fun d => selV V y d ∧ bitI of d) n = fD V (fun d => selV V y d ∧ bitI of d) n := by
    intro n
    induction n with
    | zero => rfl
    | succ n ih =>
      unfold fD
      rw [ih, l, e 16 (by decide), e 17 (by decide)]
  have p : ∀ (F : Nat → Nat) (n : Nat), fP (uV V c i v) y F n = fP V y F n := by
    intro F n
    induction n with
    | zero => rfl
    | succ n ih =>
      unfold fP
      rw [ih, e 10 (by decide), e 12 (by decide), e 13 (by decide)]
  unfold aSrch fam
  simp only [s, f, p]
section ZSD
variable {g : Nat → Nat} {B SL m l : Nat} {h h' : zMem} {H : zH} {T T' : zT} {Λ K : zL} {κ : Bool} {ρ ρ' : Nat → Int32} {v : Int32}
theorem cL_sd (hk : kL Λ) (hc : cL h l Λ) : cL (sI h (l + 41) 0 v) l (setV Λ (uV (zV Λ) 27 0 v)) := by
  obtain ⟨c1, c2, c3, c4, c5, c6, c7, c8⟩ := hc
  have n24 := hk.2.1.1
  have n10 := hk.1.1
  have e : ∀ b k : Nat, ¬ b = l + 41 → gI (sI h (l + 41) 0 v) b k = gI h b k := fun b k hb => a_Ia hb
  have u : ∀ x : Nat, ¬ x = 27 → uV (zV Λ) 27 0 v x = zV Λ x := fun x hx => uV_c hx
  refine ⟨?_, ?_, fun x hx => ?_, ?_, ?_, (e _ _ (by omega)).trans c6, fun y => (e _ _ (by omega)).trans (c7 y), fun y => rCS_fr ⟨fun b k _ _ => e _ _ (by omega), fun _ _ _ _ => rfl⟩ (c8 y)⟩
  · show cF _ l (zF Λ) (uV (zV Λ) 27 0 v) (zW Λ)
    unfold cF
    rw [u 10 (by decide), u 11 (by decide), u 12 (by decide), u 13 (by decide)]
    exact cF_fr n10 ⟨fun b k _ _ => e _ _ (by omega), fun _ _ _ _ => rfl⟩ c1
  · show cDd _ l (zD Λ) (uV (zV Λ) 27 0 v)
    unfold cDd
    rw [u 16 (by decide), u 17 (by decide), u 18 (by decide), u 19 (by decide), u 20 (by decide), u 21 (by decide), u 22 (by decide), u 23 (by decide), u 24 (by decide)]
    exact cDd_fr n24 ⟨fun b k _ _ => e _ _ (by omega), fun _ _ _ _ => rfl⟩ c2
  · show gI _ (l + 37) x = uV (zV Λ) 27 0 v 25 x
    rw [e _ _ (by omega), u 25 (by decide)]; exact c3 x hx
  · show cPl _ l (zC Λ) (uV (zV Λ) 27 0 v)
    unfold cPl
    rw [u 29 (by decide), u 30 (by decide)]
    exact ⟨(e _ _ (by omega)).trans c4.1, fun x hx => ⟨(e _ _ (by omega)).trans (c4.2 x hx).1, (e _ _ (by omega)).trans (c4.2 x hx).2⟩⟩
  · show cBd _ l (uV (zV Λ) 27 0 v)
    unfold cBd
    rw [u 26 (by decide), uV_s]
    exact ⟨a_II, fun x hx => (e _ _ (by omega)).trans (c5.2 x hx)⟩
theorem mL_sd (hk : kL Λ) (hc : mL h m Λ) : mL (sI h m 27 v) m (setV Λ (uV (zV Λ) 27 0 v)) := by
  obtain ⟨c1, c2, c3, c4, c5, c6, c7⟩ := hc
  have e : ∀ b k : Nat, ¬ b = m → gI (sI h m 27 v) b k = gI h b k := fun b k hb => a_Ia hb
  have e' : ∀ k : Nat, ¬ k = 27 → gI (sI h m 27 v) m k = gI h m k := fun k hk => a_Ik hk
  have u : ∀ x : Nat, ¬ x = 27 → uV (zV Λ) 27 0 v x = zV Λ x := fun x hx => uV_c hx
  refine ⟨?_, ?_, fun x hx => ?_, ?_, ?_, fun z => (e' _ (by decide)).trans (c6 z), fun z => ⟨(e' _ (by decide)).trans (c7 z).1, (e' _ (by decide)).trans (c7 z).2.1, rMS_fr (hk.2.2.2.2.2 z).1 (hk.aL45 z) ⟨fun b k _ _ => e _ _ (by omega), fun b k _ _ => rfl⟩ (c7 z).2.2⟩⟩
  · show mF _ m (zF Λ) (uV (zV Λ) 27 0 v) (zW Λ)
    unfold mF
    rw [u 10 (by decide), u 11 (by decide), u 12 (by decide), u 13 (by decide)]
    refine ⟨(e' _ (by decide)).trans c1.1, fun f hf => ?_⟩
    rw [e _ _ (by omega), e _ _ (by omega), e _ _ (by omega), e _ _ (by omega)]
    exact c1.2 f hf
  · show mDd _ m (zD Λ) (uV (zV Λ) 27 0 v)
    unfold mDd
    rw [u 16 (by decide), u 17 (by decide), u 18 (by decide), u 19 (by decide), u 20 (by decide), u 21 (by decide), u 22 (by decide), u 23 (by decide), u 24 (by decide)]
    refine ⟨(e' _ (by decide)).trans c2.1, fun d hd => ?_⟩
    rw [e _ _ (by omega), e _ _ (by omega), e _ _ (by omega), e _ _ (by omega), e _ _ (by omega), e _ _ (by omega), e _ _ (by omega), e _ _ (by omega), e _ _ (by omega)]
    exact c2.2 d hd
  · show gI _ (m + 31) x = uV (zV Λ) 27 0 v 25 x
    rw [e _ _ (by omega), u 25 (by decide)]; exact c3 x hx
  · show mPl _ m (zC Λ) (uV (zV Λ) 27 0 v)
    unfold mPl
    rw [u 29 (by decide), u 30 (by decide)]
    exact ⟨(e' _ (by decide)).trans c4.1, fun x hx => ⟨(e _ _ (by omega)).trans (c4.2 x hx).1, (e _ _ (by omega)).trans (c4.2 x hx).2⟩⟩
  · show mBd _ m (uV (zV Λ) 27 0 v)
    unfold mBd
    rw [u 26 (by decide), uV_s]
    exact ⟨a_II, fun x hx => (e _ _ (by omega)).trans (c5.2 x hx)⟩
theorem j_seed (J : JX g B SL h) : JJ g B SL DC_seed Mo_seed [.int v] h := by
  obtain ⟨H, T, Λ, K, κ, ρ, j⟩ := J.p
  have s1 : sam (B + 23) (B + 23 + 53) h (sI h (B + 23 + 41) 0 v) := sam.I (by omega)
  have cl := cL_sd (v := v) j.kc j.cL0
  obtain ⟨b1, b2, b3⟩ := j.cl s1 cl (qE_fr ⟨fun b k _ _ => a_Ia (by omega), fun _ _ _ _ => rfl⟩ j.qE0)
  have c1 := j.cL0.2.2.2.2.1.1
  have m1 := b3.2.2.2.2.2.2.2.1.2.2.2.2.1.1
  have oM := j.mo1 s1.sh
  have hk' : kX H T (setV Λ (uV (zV Λ) 27 0 v)) K κ := kX_V j.1 (kF_u (by decide) (by decide) j.kc.1) (kDd_u (by decide) j.kc.2.1) (kMn_u (by decide) j.kc.2.2.1) (kPl_u (by decide) (by decide) j.kc.2.2.2.1) (kBd_u (by decide) j.kc.2.2.2.2.1)
  have f1 : mFr (sI (sI h (B + 23 + 41) 0 v) (B + 145) 27 v) (B + 145) (zF Λ) (zD Λ) (uV (zV Λ) 27 0 v) := by
    have f0 := b3.2.2.2.1
    unfold mFr at f0 ⊢
    have q : ∀ k : Nat, ¬ k = 27 → gI (sI (sI h (B + 23 + 41) 0 v) (B + 145) 27 v) (B + 145) k = gI (sI h (B + 23 + 41) 0 v) (B + 145) k := fun k hk => a_Ik hk
    rw [q 53 (by decide), q 54 (by decide), q 55 (by decide)]
    rcases f0 with d | ⟨d1, d2⟩
    · exact Or.inl d
    · refine Or.inr ⟨d1, ?_⟩
      rw [fam_26 (by decide)]
      exact rMS_fr2 (fun k hk => a_Ik (by omega)) (fun b k hb => a_Ia (by omega)) d2
  refine ⟨sI h (B + 23 + 41) 0 v, sI (sI h (B + 23 + 41) 0 v) (B + 145) 27 v, zV Λ 27 0, ?_, ?_, JX_up j.1 hk' b1 b2 b3 ⟨fun _ => rfl, fun _ => rfl, fun _ _ => rfl, rfl, rfl⟩ (fun b k h1 h2 => a_Ia h1) (fun b k _ => rfl) (fun k _ _ h3 _ _ => a_Ik h3) (mL_sd j.kc b3.2.2.2.2.2.2.2.1) f1⟩
  · rw [n_DC_seed]
    simp (disch := omega) only [s_DC_seed_0, s_DC_seed_1, s_DC_seed_4, s_DC_seed_7, s_DC_seed_10, s_DC_seed_11, s_DC_seed_12, s_DC_seed_15, s_DC_seed_18, s_DC_seed_19, s_DC_seed_22, s_DC_seed_23, y_kd_sI, y_kd_sL, y_kd_sR, y_kd_cpI, y_kd_cpL, y_ln_sI, y_ln_sL, y_ln_sR, y_ln_cpI, y_ln_cpL, y_sz_sI, y_sz_sL, y_sz_sR, y_sz_cpI, y_sz_cpL, y_sl_sI, y_sl_sL, y_sl_sR, y_sl_cpI, y_sl_cpL, y_gI_sL, y_gI_sR, y_gI_cpI, y_gI_cpL, y_gI_nw, y_gL_sI, y_gL_sR, y_gL_cpI, y_gL_cpL, y_gL_nw, y_gR_sI, y_gR_sL, y_gR_cpI, y_gR_cpL, y_gR_nw, y_kd_nw, y_ln_nw, y_sz_nw, y_sl_nw, y_fx_int, y_fx_long, y_fx_ref, y_fx_null, y_fx_U, y_rf_s, y_rf_n, a_inb, a_ix, a_lt, a_eq, a_eq0, a_lt0, a_0lt, a_m1, a_m2, a_mlt, a_sub, a_dec, a_div, a_rem, a_shl, a_shr, a_bit, a_bit0, a_II, a_Ia, a_Ik, a_LL, a_La, a_Lk, a_RR, a_Ra, a_Rk, a_if0, a_if1, y_mul, y_and, y_or, nI_add, y_b1, y_b0, kon_v, kon_0, true_or, or_true, and_self, true_and, and_true, false_or, or_false, and_false, false_and, not_true_eq_false, not_false_eq_true, ite_self, ↓reduceIte, Nat.reduceEqDiff, Nat.reduceLeDiff, Nat.reduceAdd, Nat.reduceMul, Nat.reduceSub, Nat.reduceLT, Nat.reduceShiftLeft, Nat.reduceOr, Nat.reduceAnd, Bool.false_eq_true, b_if, b_z1, b_z0, b_zz, b_a1, b_a0, dc_k j.dc, dc_r0 j.dc, dc_r1 j.dc, dc_r2 j.dc, dc_r3 j.dc, dc_r5 j.dc, dc_r6 j.dc, dc_r7 j.dc, dc_r8 j.dc, dc_r9 j.dc, dc_k1 j.dc, dc_l1 j.dc, dc_k19 j.dc, dc_l19 j.dc, dc_k21 j.dc, dc_l21 j.dc, dc_k22 j.dc, dc_l22 j.dc, dc_k131 j.dc, dc_l131 j.dc, dc_k142 j.dc, dc_l142 j.dc, dc_k143 j.dc, dc_l143 j.dc, dc_k144 j.dc, dc_l144 j.dc, dc_k18 j.dc, dc_r18 j.dc, dc_k20 j.dc, dc_r20_0 j.dc, dc_r20_1 j.dc, dc_k141 j.dc, dc_r141_5 j.dc, dc_r141_6 j.dc, dc_s j.dc, dc_sk j.dc, dc_sr j.dc, dc_ek j.dc, dc_el j.dc, la_k j.la, la_r_0 j.la, la_r_2 j.la, la_r_4 j.la, la_r_5 j.la, la_r_6 j.la, la_r_7 j.la, la_r_8 j.la, la_r_9 j.la, la_k1 j.la, la_l1 j.la, la_k12 j.la, la_l12 j.la, la_k37 j.la, la_l37 j.la, la_k39 j.la, la_l39 j.la, la_k40 j.la, la_l40 j.la, la_k42 j.la, la_l42 j.la, la_k52 j.la, la_l52 j.la, la_k53 j.la, la_l53 j.la, la_k38 j.la, la_r38_1 j.la, la_r38_2 j.la, la_k41 j.la, la_r41_1 j.la, la_f j.la, la_fk j.la, la_d j.la, la_dk j.la, c1]
  · rw [n_Mo_seed]
    simp (disch := omega) only [s_Mo_seed_0, s_Mo_seed_1, s_Mo_seed_4, s_Mo_seed_5, s_Mo_seed_6, s_Mo_seed_7, s_Mo_seed_10, s_Mo_seed_11, y_kd_sI, y_kd_sL, y_kd_sR, y_kd_cpI, y_kd_cpL, y_ln_sI, y_ln_sL, y_ln_sR, y_ln_cpI, y_ln_cpL, y_sz_sI, y_sz_sL, y_sz_sR, y_sz_cpI, y_sz_cpL, y_sl_sI, y_sl_sL, y_sl_sR, y_sl_cpI, y_sl_cpL, y_gI_sL, y_gI_sR, y_gI_cpI, y_gI_cpL, y_gI_nw, y_gL_sI, y_gL_sR, y_gL_cpI, y_gL_cpL, y_gL_nw, y_gR_sI, y_gR_sL, y_gR_cpI, y_gR_cpL, y_gR_nw, y_kd_nw, y_ln_nw, y_sz_nw, y_sl_nw, y_fx_int, y_fx_long, y_fx_ref, y_fx_null, y_fx_U, y_rf_s, y_rf_n, a_inb, a_ix, a_lt, a_eq, a_eq0, a_lt0, a_0lt, a_m1, a_m2, a_mlt, a_sub, a_dec, a_div, a_rem, a_shl, a_shr, a_bit, a_bit0, a_II, a_Ia, a_Ik, a_LL, a_La, a_Lk, a_RR, a_Ra, a_Rk, a_if0, a_if1, y_mul, y_and, y_or, nI_add, y_b1, y_b0, kon_v, kon_0, true_or, or_true, and_self, true_and, and_true, false_or, or_false, and_false, false_and, not_true_eq_false, not_false_eq_true, ite_self, ↓reduceIte, Nat.reduceEqDiff, Nat.reduceLeDiff, Nat.reduceAdd, Nat.reduceMul, Nat.reduceSub, Nat.reduceLT, Nat.reduceShiftLeft, Nat.reduceOr, Nat.reduceAnd, Bool.false_eq_true, b_if, b_z1, b_z0, b_zz, b_a1, b_a0, mo_k oM, m1]
end ZSD
