/-! draws, gone through -/
def bdV (V : Nat → Nat → Int32) (z : zDr) : Nat → Nat → Int32 := up (up V 26 (fun i => nI (z.2 i))) 27 (fun _ => z.1)
theorem bdV_c {V : Nat → Nat → Int32} {z : zDr} {x : Nat} (h1 : ¬ x = 26) (h2 : ¬ x = 27) : bdV V z x = V x := by
  unfold bdV
  rw [up_n h2, up_n h1]
theorem bdV_26 {V : Nat → Nat → Int32} {z : zDr} {i : Nat} : bdV V z 26 i = nI (z.2 i) := by
  unfold bdV
  rw [up_n (by decide), up_s]
theorem bdV_27 {V : Nat → Nat → Int32} {z : zDr} {i : Nat} : bdV V z 27 i = z.1 := by
  unfold bdV
  rw [up_s]
theorem fam_e {V V' : Nat → Nat → Int32} {nf nd : Nat} {y of : Int32} (e : ∀ x : Nat, x < 26 → V' x = V x) : aSrch V' nf nd y of = aSrch V nf nd y of := by
  have l : ∀ d' : Nat, lts V' d' = lts V d' := fun d' => by
    unfold lts
    rw [e 20 (by decide), e 21 (by decide), e 22 (by decide), e 23 (by decide), lW_V (e 25 (by decide))]
  have s : ∀ d' : Nat, selV V' y d' = selV V y d' := fun d' => by
    unfold selV
    rw [e 24 (by decide), e 18 (by decide)]
  have f : ∀ n : Nat, fD V' (fun d => selV V y d ∧ bitI of d) n = fD V (fun d => selV V y d ∧ bitI of d) n := by
    intro n
    induction n with
    | zero => rfl
    | succ n ih =>
      unfold fD
      rw [ih, l, e 16 (by decide), e 17 (by decide)]
  have p : ∀ (F : Nat → Nat) (n : Nat), fP V' y F n = fP V y F n := by
    intro F n
    induction n with
    | zero => rfl
    | succ n ih =>
      unfold fP
      rw [ih, e 10 (by decide), e 12 (by decide), e 13 (by decide)]
  unfold aSrch fam
  simp only [s, f, p]
section ZDS
variable {g : Nat → Nat} {B SL m l b : Nat} {h h' : zMem} {H : zH} {T T' : zT} {Λ K : zL} {κ : Bool} {ρ ρ' : Nat → Int32} {v : Int32} {E : Nat → Nat} {z : zDr} {n : Nat}
theorem cL_bd (hk : kL Λ) (s : sam (l + 41) (l + 42) h h') (h1 : gI h' (l + 41) 0 = z.1) (h2 : ∀ i : Nat, i < 64 → gI h' (l + 42) i = nI (z.2 i)) (hc : cL h l Λ) : cL h' l (setV Λ (bdV (zV Λ) z)) := by
  obtain ⟨c1, c2, c3, c4, c5, c6, c7, c8⟩ := hc
  have n24 := hk.2.1.1
  have n10 := hk.1.1
  have e : ∀ b k : Nat, (b < l + 41 ∨ l + 42 < b) → gI h' b k = gI h b k := s.2.2.2.2.2.1
  have eL : ∀ b k : Nat, (b < l + 41 ∨ l + 42 < b) → gL h' b k = gL h b k := s.2.2.2.2.2.2
  have u : ∀ x : Nat, ¬ x = 26 → ¬ x = 27 → bdV (zV Λ) z x = zV Λ x := fun x hx hy => bdV_c hx hy
  refine ⟨?_, ?_, fun x hx => ?_, ?_, ?_, (e _ _ (by omega)).trans c6, fun y => (e _ _ (by omega)).trans (c7 y), fun y => rCS_fr (s.out (by omega)) (c8 y)⟩
  · show cF _ l (zF Λ) (bdV (zV Λ) z) (zW Λ)
    unfold cF
    rw [u 10 (by decide) (by decide), u 11 (by decide) (by decide), u 12 (by decide) (by decide), u 13 (by decide) (by decide)]
    exact cF_fr n10 (s.out (by omega)) c1
  · show cDd _ l (zD Λ) (bdV (zV Λ) z)
    unfold cDd
    rw [u 16 (by decide) (by decide), u 17 (by decide) (by decide), u 18 (by decide) (by decide), u 19 (by decide) (by decide), u 20 (by decide) (by decide), u 21 (by decide) (by decide), u 22 (by decide) (by decide), u 23 (by decide) (by decide), u 24 (by decide) (by decide)]
    exact cDd_fr n24 (s.out (by omega)) c2
  · show gI _ (l + 37) x = bdV (zV Λ) z 25 x
    rw [e _ _ (by omega), u 25 (by decide) (by decide)]; exact c3 x hx
  · show cPl _ l (zC Λ) (bdV (zV Λ) z)
    unfold cPl
    rw [u 29 (by decide) (by decide), u 30 (by decide) (by decide)]
    exact ⟨(e _ _ (by omega)).trans c4.1, fun x hx => ⟨(e _ _ (by omega)).trans (c4.2 x hx).1, (e _ _ (by omega)).trans (c4.2 x hx).2⟩⟩
  · show cBd _ l (bdV (zV Λ) z)
    exact ⟨h1.trans bdV_27.symm, fun i hi => (h2 i hi).trans bdV_26.symm⟩
/-- the reference's drawn lands changed -/
def mbd (m : Nat) (h h' : zMem) : Prop := sam m (m + 32) h h' ∧ (∀ b k : Nat, ¬ b = m → ¬ b = m + 32 → gI h' b k = gI h b k) ∧ (∀ k : Nat, ¬ k = 27 → gI h' m k = gI h m k) ∧ ∀ b k : Nat, gL h' b k = gL h b k
theorem mL_bd (hk : kL Λ) (s : mbd m h h') (h1 : gI h' m 27 = z.1) (h2 : ∀ i : Nat, i < 64 → gI h' (m + 32) i = nI (z.2 i)) (hc : mL h m Λ) : mL h' m (setV Λ (bdV (zV Λ) z)) := by
  obtain ⟨c1, c2, c3, c4, c5, c6, c7⟩ := hc
  obtain ⟨-, e, e', eL⟩ := s
  have u : ∀ x : Nat, ¬ x = 26 → ¬ x = 27 → bdV (zV Λ) z x = zV Λ x := fun x hx hy => bdV_c hx hy
  refine ⟨?_, ?_, fun x hx => ?_, ?_, ?_, fun z => (e' _ (by decide)).trans (c6 z), fun z => ⟨(e' _ (by decide)).trans (c7 z).1, (e' _ (by decide)).trans (c7 z).2.1, rMS_fr (hk.2.2.2.2.2 z).1 (hk.aL45 z) ⟨fun b k _ _ => e _ _ (by omega) (by omega), fun b k _ _ => eL _ _⟩ (c7 z).2.2⟩⟩
  · show mF _ m (zF Λ) (bdV (zV Λ) z) (zW Λ)
    unfold mF
    rw [u 10 (by decide) (by decide), u 11 (by decide) (by decide), u 12 (by decide) (by decide), u 13 (by decide) (by decide)]
    refine ⟨(e' _ (by decide)).trans c1.1, fun f hf => ?_⟩
    rw [e _ _ (by omega) (by omega), e _ _ (by omega) (by omega), e _ _ (by omega) (by omega), e _ _ (by omega) (by omega), eL]
    exact c1.2 f hf
  · show mDd _ m (zD Λ) (bdV (zV Λ) z)
    unfold mDd
    rw [u 16 (by decide) (by decide), u 17 (by decide) (by decide), u 18 (by decide) (by decide), u 19 (by decide) (by decide), u 20 (by decide) (by decide), u 21 (by decide) (by decide), u 22 (by decide) (by decide), u 23 (by decide) (by decide), u 24 (by decide) (by decide)]
    refine ⟨(e' _ (by decide)).trans c2.1, fun d hd => ?_⟩
    rw [e _ _ (by omega) (by omega), e _ _ (by omega) (by omega), e _ _ (by omega) (by omega), e _ _ (by omega) (by omega), e _ _ (by omega) (by omega), e _ _ (by omega) (by omega), e _ _ (by omega) (by omega), e _ _ (by omega) (by omega), e _ _ (by omega) (by omega)]
    exact c2.2 d hd
  · show gI _ (m + 31) x = bdV (zV Λ) z 25 x
    rw [e _ _ (by omega) (by omega), u 25 (by decide) (by decide)]; exact c3 x hx
  · show mPl _ m (zC Λ) (bdV (zV Λ) z)
    unfold mPl
    rw [u 29 (by decide) (by decide), u 30 (by decide) (by decide)]
    exact ⟨(e' _ (by decide)).trans c4.1, fun x hx => ⟨(e _ _ (by omega) (by omega)).trans (c4.2 x hx).1, (e _ _ (by omega) (by omega)).trans (c4.2 x hx).2⟩⟩
  · show mBd _ m (bdV (zV Λ) z)
    exact ⟨h1.trans bdV_27.symm, fun i hi => (h2 i hi).trans bdV_26.symm⟩
theorem q_foundWays (hk : kd h b = 1) (hr : gR h b 1 = some (b + 1)) (hk2 : kd h (b + 1) = 20) (hl : ln h (b + 1) = 64) (hE : ∀ i : Nat, i < 64 → gI h (b + 1) i = nI (E i) ∧ E i < 256) : call g Board_foundWays [.ref b] h = some (some (.int (nI (smN (fun i => pcn (E i)) 64))), h) := by
  have bd : ∀ i : Nat, i ≤ 64 → smN (fun i => pcn (E i)) i ≤ 64 * 32 := fun i hi => Nat.le_trans (smN_le (b := 32) i (fun j _ => pcn_le _)) (Nat.mul_le_mul_right _ hi)
  obtain ⟨e1, e2⟩ := l_fold (g := g) (M := Board_foundWays) (pc := 4) (st := []) (h := h) (n := 64) (fun i (x : Nat) => [.ref b, .int (nI x), .int (nI i)]) (fun i x => x = smN (fun i => pcn (E i)) i) (fun i x => x + pcn (E i)) (fun i x hi hx => by
    have hlt : (i < 64) = True := eq_true hi
    obtain ⟨v, v2⟩ := hE i hi
    have bcq := q_Int_bitCount (g := g) (h := h) (n := E i) (by omega)
    have pe : cn (E i).testBit 32 = pcn (E i) := rfl
    rw [pe] at bcq
    refine ⟨?_, by rw [hx]; rfl⟩
    show ev g Board_foundWays 4 [.ref b, .int (nI x), .int (nI i)] [] h = ev g Board_foundWays 4 [.ref b, .int (nI (x + pcn (E i))), .int (nI (i + 1))] [] h
    rw [s_Board_foundWays_4]
    simp (disch := omega) only [s_Board_foundWays_0, s_Board_foundWays_1, s_Board_foundWays_2, s_Board_foundWays_3, s_Board_foundWays_5, s_Board_foundWays_6, s_Board_foundWays_9, s_Board_foundWays_10, s_Board_foundWays_13, s_Board_foundWays_14, s_Board_foundWays_15, s_Board_foundWays_18, s_Board_foundWays_19, s_Board_foundWays_20, s_Board_foundWays_23, s_Board_foundWays_24, s_Board_foundWays_25, s_Board_foundWays_28, s_Board_foundWays_31, s_Board_foundWays_32, y_kd_sI, y_kd_sL, y_kd_sR, y_kd_cpI, y_kd_cpL, y_ln_sI, y_ln_sL, y_ln_sR, y_ln_cpI, y_ln_cpL, y_sz_sI, y_sz_sL, y_sz_sR, y_sz_cpI, y_sz_cpL, y_sl_sI, y_sl_sL, y_sl_sR, y_sl_cpI, y_sl_cpL, y_gI_sL, y_gI_sR, y_gI_cpI, y_gI_cpL, y_gI_nw, y_gL_sI, y_gL_sR, y_gL_cpI, y_gL_cpL, y_gL_nw, y_gR_sI, y_gR_sL, y_gR_cpI, y_gR_cpL, y_gR_nw, y_kd_nw, y_ln_nw, y_sz_nw, y_sl_nw, y_fx_int, y_fx_long, y_fx_ref, y_fx_null, y_fx_U, y_rf_s, y_rf_n, a_inb, a_ix, a_lt, a_eq, a_eq0, a_lt0, a_0lt, a_m1, a_m2, a_mlt, a_sub, a_dec, a_div, a_rem, a_shl, a_shr, a_bit, a_bit0, a_II, a_Ia, a_Ik, a_LL, a_La, a_Lk, a_RR, a_Ra, a_Rk, a_if0, a_if1, y_mul, y_and, y_or, nI_add, y_b1, y_b0, kon_v, kon_0, true_or, or_true, and_self, true_and, and_true, false_or, or_false, and_false, false_and, not_true_eq_false, not_false_eq_true, ite_self, ↓reduceIte, Nat.reduceEqDiff, Nat.reduceLeDiff, Nat.reduceAdd, Nat.reduceMul, Nat.reduceSub, Nat.reduceLT, Nat.reduceShiftLeft, Nat.reduceOr, Nat.reduceAnd, Bool.false_eq_true, b_if, b_z1, b_z0, b_zz, b_a1, b_a0, b_lc, b_zF, b_zT, b_lbit, hk, hr, hk2, hl, hlt, v, bcq]) 64 0 0 (by omega) rfl
  rw [n_Board_foundWays, s_Board_foundWays_0, s_Board_foundWays_1, s_Board_foundWays_2, s_Board_foundWays_3]
  refine Eq.trans (show _ = ev g Board_foundWays 4 [.ref b, .int (nI 0), .int (nI 0)] [] h from rfl) (e1.trans ?_)
  simp (disch := omega) only [s_Board_foundWays_0, s_Board_foundWays_1, s_Board_foundWays_2, s_Board_foundWays_3, s_Board_foundWays_4, s_Board_foundWays_5, s_Board_foundWays_6, s_Board_foundWays_9, s_Board_foundWays_10, s_Board_foundWays_13, s_Board_foundWays_14, s_Board_foundWays_15, s_Board_foundWays_18, s_Board_foundWays_19, s_Board_foundWays_20, s_Board_foundWays_23, s_Board_foundWays_24, s_Board_foundWays_25, s_Board_foundWays_28, s_Board_foundWays_31, s_Board_foundWays_32, y_kd_sI, y_kd_sL, y_kd_sR, y_kd_cpI, y_kd_cpL, y_ln_sI, y_ln_sL, y_ln_sR, y_ln_cpI, y_ln_cpL, y_sz_sI, y_sz_sL, y_sz_sR, y_sz_cpI, y_sz_cpL, y_sl_sI, y_sl_sL, y_sl_sR, y_sl_cpI, y_sl_cpL, y_gI_sL, y_gI_sR, y_gI_cpI, y_gI_cpL, y_gI_nw, y_gL_sI, y_gL_sR, y_gL_cpI, y_gL_cpL, y_gL_nw, y_gR_sI, y_gR_sL, y_gR_cpI, y_gR_cpL, y_gR_nw, y_kd_nw, y_ln_nw, y_sz_nw, y_sl_nw, y_fx_int, y_fx_long, y_fx_ref, y_fx_null, y_fx_U, y_rf_s, y_rf_n, a_inb, a_ix, a_lt, a_eq, a_eq0, a_lt0, a_0lt, a_m1, a_m2, a_mlt, a_sub, a_dec, a_div, a_rem, a_shl, a_shr, a_bit, a_bit0, a_II, a_Ia, a_Ik, a_LL, a_La, a_Lk, a_RR, a_Ra, a_Rk, a_if0, a_if1, y_mul, y_and, y_or, nI_add, y_b1, y_b0, kon_v, kon_0, true_or, or_true, and_self, true_and, and_true, false_or, or_false, and_false, false_and, not_true_eq_false, not_false_eq_true, ite_self, ↓reduceIte, Nat.reduceEqDiff, Nat.reduceLeDiff, Nat.reduceAdd, Nat.reduceMul, Nat.reduceSub, Nat.reduceLT, Nat.reduceShiftLeft, Nat.reduceOr, Nat.reduceAnd, Bool.false_eq_true, b_if, b_z1, b_z0, b_zz, b_a1, b_a0, b_lc, b_zF, b_zT, b_lbit, hk, hr, hk2, hl, Nat.lt_irrefl, e2]
theorem c_draws (hk0 : kd h B = 12) (hr0 : gR h B 2 = some (B + 23)) (hk1 : kd h (B + 23) = 4) (hr1 : gR h (B + 23) 6 = some (B + 23 + 41)) (hk : kd h (B + 23 + 41) = 1) (hr : gR h (B + 23 + 41) 1 = some (B + 23 + 42)) (hk2 : kd h (B + 23 + 42) = 20) (hl : ln h (B + 23 + 42) = 64) (hn : n < 101) (hs : gI h (B + 23 + 41) 0 = z.1) (hE : ∀ i : Nat, i < 64 → gI h (B + 23 + 42) i = nI (z.2 i)) (hz : ∀ i : Nat, i < 64 → z.2 i < 256) : ∃ h' : zMem, ev g DC_draw 20 [.ref B, .int (nI n), .int (nI 0)] [] h = some (some (.int (nI (smN (fun i => pcn ((drN z n).2 i)) 64))), h') ∧ sam (B + 23 + 41) (B + 23 + 42) h h' ∧ gI h' (B + 23 + 41) 0 = (drN z n).1 ∧ ∀ i : Nat, i < 64 → gI h' (B + 23 + 42) i = nI ((drN z n).2 i) := by
  obtain ⟨x, h', e1, s, f1, f2⟩ := l_loop (g := g) (M := DC_draw) (pc := 20) (st := []) (n := n) (fun i (_ : Unit) => [.ref B, .int (nI n), .int (nI i)]) (fun i _ h' => sam (B + 23 + 41) (B + 23 + 42) h h' ∧ gI h' (B + 23 + 41) 0 = (drN z i).1 ∧ ∀ j : Nat, j < 64 → gI h' (B + 23 + 42) j = nI ((drN z i).2 j)) (fun i x h' hi hh => by
    obtain ⟨s, f1, f2⟩ := hh
    have hlt : (i < n) = True := eq_true hi
    have q := q_drawLand (g := g) (h := h') (b := B + 23 + 41) ((s.1 _).trans hk) ((s.2.2.1 _ _).trans hr) ((s.1 _).trans hk2) ((s.2.1 _).trans hl) f1 f2
    have t0 := (s.1 B).trans hk0
    have t1 := (s.2.2.1 B 2).trans hr0
    have t2 := (s.1 (B + 23)).trans hk1
    have t3 := (s.2.2.1 (B + 23) 6).trans hr1
    have t4 := (s.1 (B + 23 + 41)).trans hk
    refine ⟨(), _, ?_, (s.aI (a := B + 23 + 41) (k := 0) (v := (drN z (i + 1)).1) (by omega)).aI (a := B + 23 + 42) (k := drI (drN z i).1) (v := nI ((drN z i).2 (drI (drN z i).1) ||| 1 <<< drW (drN z i).1)) (by omega), ?_, fun j hj => ?_⟩
    · show ev g DC_draw 20 [.ref B, .int (nI n), .int (nI i)] [] h' = ev g DC_draw 20 [.ref B, .int (nI n), .int (nI (i + 1))] [] _
      rw [s_DC_draw_20]
      simp (disch := omega) only [s_DC_draw_0, s_DC_draw_1, s_DC_draw_2, s_DC_draw_5, s_DC_draw_6, s_DC_draw_8, s_DC_draw_11, s_DC_draw_12, s_DC_draw_14, s_DC_draw_17, s_DC_draw_18, s_DC_draw_19, s_DC_draw_21, s_DC_draw_22, s_DC_draw_25, s_DC_draw_26, s_DC_draw_29, s_DC_draw_32, s_DC_draw_35, s_DC_draw_38, s_DC_draw_41, s_DC_draw_42, s_DC_draw_45, s_DC_draw_48, s_DC_draw_51, y_kd_sI, y_kd_sL, y_kd_sR, y_kd_cpI, y_kd_cpL, y_ln_sI, y_ln_sL, y_ln_sR, y_ln_cpI, y_ln_cpL, y_sz_sI, y_sz_sL, y_sz_sR, y_sz_cpI, y_sz_cpL, y_sl_sI, y_sl_sL, y_sl_sR, y_sl_cpI, y_sl_cpL, y_gI_sL, y_gI_sR, y_gI_cpI, y_gI_cpL, y_gI_nw, y_gL_sI, y_gL_sR, y_gL_cpI, y_gL_cpL, y_gL_nw, y_gR_sI, y_gR_sL, y_gR_cpI, y_gR_cpL, y_gR_nw, y_kd_nw, y_ln_nw, y_sz_nw, y_sl_nw, y_fx_int, y_fx_long, y_fx_ref, y_fx_null, y_fx_U, y_rf_s, y_rf_n, a_inb, a_ix, a_lt, a_eq, a_eq0, a_lt0, a_0lt, a_m1, a_m2, a_mlt, a_sub, a_dec, a_div, a_rem, a_shl, a_shr, a_bit, a_bit0, a_II, a_Ia, a_Ik, a_LL, a_La, a_Lk, a_RR, a_Ra, a_Rk, a_if0, a_if1, y_mul, y_and, y_or, nI_add, y_b1, y_b0, kon_v, kon_0, true_or, or_true, and_self, true_and, and_true, false_or, or_false, and_false, false_and, not_true_eq_false, not_false_eq_true, ite_self, ↓reduceIte, Nat.reduceEqDiff, Nat.reduceLeDiff, Nat.reduceAdd, Nat.reduceMul, Nat.reduceSub, Nat.reduceLT, Nat.reduceShiftLeft, Nat.reduceOr, Nat.reduceAnd, Bool.false_eq_true, b_if, b_z1, b_z0, b_zz, b_a1, b_a0, b_lc, b_zF, b_zT, b_lbit, hlt, t0, t1, t2, t3, t4, q]
      rfl
    · rw [a_Ia (by omega), a_II]
    · by_cases c : j = drI (drN z i).1
      · rw [c, a_II]
        show _ = nI (up (drN z i).2 _ _ _)
        rw [up_s]
      · rw [a_Ik c, a_Ia (by omega), f2 j hj]
        show _ = nI (up (drN z i).2 _ _ _)
        rw [up_n c]) n 0 () h (by omega) ⟨sam.rf, hs, hE⟩
  have q := q_foundWays (g := g) (h := h') (b := B + 23 + 41) (E := (drN z n).2) ((s.1 _).trans hk) ((s.2.2.1 _ _).trans hr) ((s.1 _).trans hk2) ((s.2.1 _).trans hl) (fun i hi => ⟨f2 i hi, drN_lt hz n i hi⟩)
  refine ⟨h', e1.trans ?_, s, f1, f2⟩
  have t0 := (s.1 B).trans hk0
  have t1 := (s.2.2.1 B 2).trans hr0
  have t2 := (s.1 (B + 23)).trans hk1
  have t3 := (s.2.2.1 (B + 23) 6).trans hr1
  have t4 := (s.1 (B + 23 + 41)).trans hk
  simp (disch := omega) only [s_DC_draw_0, s_DC_draw_1, s_DC_draw_2, s_DC_draw_5, s_DC_draw_6, s_DC_draw_8, s_DC_draw_11, s_DC_draw_12, s_DC_draw_14, s_DC_draw_17, s_DC_draw_18, s_DC_draw_19, s_DC_draw_20, s_DC_draw_21, s_DC_draw_22, s_DC_draw_25, s_DC_draw_26, s_DC_draw_29, s_DC_draw_32, s_DC_draw_35, s_DC_draw_38, s_DC_draw_41, s_DC_draw_42, s_DC_draw_45, s_DC_draw_48, s_DC_draw_51, y_kd_sI, y_kd_sL, y_kd_sR, y_kd_cpI, y_kd_cpL, y_ln_sI, y_ln_sL, y_ln_sR, y_ln_cpI, y_ln_cpL, y_sz_sI, y_sz_sL, y_sz_sR, y_sz_cpI, y_sz_cpL, y_sl_sI, y_sl_sL, y_sl_sR, y_sl_cpI, y_sl_cpL, y_gI_sL, y_gI_sR, y_gI_cpI, y_gI_cpL, y_gI_nw, y_gL_sI, y_gL_sR, y_gL_cpI, y_gL_cpL, y_gL_nw, y_gR_sI, y_gR_sL, y_gR_cpI, y_gR_cpL, y_gR_nw, y_kd_nw, y_ln_nw, y_sz_nw, y_sl_nw, y_fx_int, y_fx_long, y_fx_ref, y_fx_null, y_fx_U, y_rf_s, y_rf_n, a_inb, a_ix, a_lt, a_eq, a_eq0, a_lt0, a_0lt, a_m1, a_m2, a_mlt, a_sub, a_dec, a_div, a_rem, a_shl, a_shr, a_bit, a_bit0, a_II, a_Ia, a_Ik, a_LL, a_La, a_Lk, a_RR, a_Ra, a_Rk, a_if0, a_if1, y_mul, y_and, y_or, nI_add, y_b1, y_b0, kon_v, kon_0, true_or, or_true, and_self, true_and, and_true, false_or, or_false, and_false, false_and, not_true_eq_false, not_false_eq_true, ite_self, ↓reduceIte, Nat.reduceEqDiff, Nat.reduceLeDiff, Nat.reduceAdd, Nat.reduceMul, Nat.reduceSub, Nat.reduceLT, Nat.reduceShiftLeft, Nat.reduceOr, Nat.reduceAnd, Bool.false_eq_true, b_if, b_z1, b_z0, b_zz, b_a1, b_a0, b_lc, b_zF, b_zT, b_lbit, Nat.lt_irrefl, t0, t1, t2, t3, t4, q]
theorem mbd.a27 (s : mbd m h h') : mbd m h (sI h' m 27 v) := ⟨s.1.aI (by omega), fun b k h1 h2 => (a_Ia h1).trans (s.2.1 b k h1 h2), fun k hk => (a_Ik hk).trans (s.2.2.1 k hk), s.2.2.2⟩
theorem mbd.a32 {k : Nat} (s : mbd m h h') : mbd m h (sI h' (m + 32) k v) := ⟨s.1.aI (by omega), fun b k h1 h2 => (a_Ia h2).trans (s.2.1 b k h1 h2), fun k hk => (a_Ia (by omega)).trans (s.2.2.1 k hk), s.2.2.2⟩
theorem m_draws (oM : oMo h m) (hn : n < 101) (hs : gI h m 27 = z.1) (hE : ∀ i : Nat, i < 64 → gI h (m + 32) i = nI (z.2 i)) (hz : ∀ i : Nat, i < 64 → z.2 i < 256) : ∃ h' : zMem, ev g Mo_draw 21 [.ref m, .int (nI n), .int (nI 0), zU, zU, zU, zU, zU, zU] [] h = some (some (.int (nI (smN (fun i => pcn ((drN z n).2 i)) 64))), h') ∧ mbd m h h' ∧ gI h' m 27 = (drN z n).1 ∧ ∀ i : Nat, i < 64 → gI h' (m + 32) i = nI ((drN z n).2 i) := by
  obtain ⟨⟨v3, v5, v7⟩, h', e1, s, f1, f2⟩ := l_loop (g := g) (M := Mo_draw) (pc := 21) (st := []) (n := n) (fun i (x : Value × Value × Value) => [.ref m, .int (nI n), .int (nI i), x.1, zU, x.2.1, zU, x.2.2, zU]) (fun i _ h' => mbd m h h' ∧ gI h' m 27 = (drN z i).1 ∧ ∀ j : Nat, j < 64 → gI h' (m + 32) j = nI ((drN z i).2 j)) (fun i x h' hi hh => by
    obtain ⟨s, f1, f2⟩ := hh
    obtain ⟨v3, v5, v7⟩ := x
    have o1 := s.1.mo oM
    have hlt : (i < n) = True := eq_true hi
    generalize hs9 : (drN z i).1 = s9 at f1
    have b1 := q_Mo_box (g := g) o1 f1
    have b2 := q_Mo_box (g := g) (h := sI h' m 27 (sd4 s9)) (m := m) (s := sd4 s9) ((s.a27 (v := sd4 s9)).1.mo oM) a_II
    have b3 := q_Mo_box (g := g) (h := sI h' m 27 (sd4 (sd4 s9))) (m := m) (s := sd4 (sd4 s9)) ((s.a27 (v := sd4 (sd4 s9))).1.mo oM) a_II
    rw [sI_sI] at b2 b3
    have il := drI_lt s9
    have wl := drW_lt s9
    have vv := f2 _ il
    refine ⟨(.long (bxS s9), .long (bxS (sd4 s9)), .long (bxS (sd4 (sd4 s9)))), sI (sI h' m 27 (sd4 (sd4 (sd4 s9)))) (m + 32) (drI s9) (nI ((drN z i).2 (drI s9) ||| 1 <<< drW s9)), ?_, s.a27.a32, ?_, fun j hj => ?_⟩
    · show ev g Mo_draw 21 [.ref m, .int (nI n), .int (nI i), v3, zU, v5, zU, v7, zU] [] h' = ev g Mo_draw 21 [.ref m, .int (nI n), .int (nI (i + 1)), .long (bxS s9), zU, .long (bxS (sd4 s9)), zU, .long (bxS (sd4 (sd4 s9))), zU] [] _
      unfold drI at il vv
      unfold drW at wl
      have w1 := wyL_lt (bxS s9) (bxS (sd4 s9))
      have w2 := wyL_lt (bxS (sd4 s9)) (bxS (sd4 (sd4 s9)))
      unfold drI drW
      rw [Nat.mul_comm (wyL (bxS s9) (bxS (sd4 s9))) 8] at il vv ⊢
      rw [s_Mo_draw_21]
      simp (disch := omega) only [s_Mo_draw_0, s_Mo_draw_1, s_Mo_draw_2, s_Mo_draw_3, s_Mo_draw_6, s_Mo_draw_9, s_Mo_draw_12, s_Mo_draw_13, s_Mo_draw_15, s_Mo_draw_18, s_Mo_draw_19, s_Mo_draw_20, s_Mo_draw_22, s_Mo_draw_23, s_Mo_draw_26, s_Mo_draw_27, s_Mo_draw_30, s_Mo_draw_31, s_Mo_draw_32, s_Mo_draw_35, s_Mo_draw_37, s_Mo_draw_38, s_Mo_draw_41, s_Mo_draw_43, s_Mo_draw_44, s_Mo_draw_47, s_Mo_draw_49, s_Mo_draw_50, s_Mo_draw_52, s_Mo_draw_55, s_Mo_draw_56, s_Mo_draw_58, s_Mo_draw_60, s_Mo_draw_63, s_Mo_draw_64, s_Mo_draw_65, s_Mo_draw_66, s_Mo_draw_67, s_Mo_draw_68, s_Mo_draw_70, s_Mo_draw_73, s_Mo_draw_74, s_Mo_draw_75, s_Mo_draw_76, s_Mo_draw_79, s_Mo_draw_82, s_Mo_draw_83, s_Mo_draw_84, s_Mo_draw_85, s_Mo_draw_86, s_Mo_draw_87, s_Mo_draw_89, s_Mo_draw_92, s_Mo_draw_93, s_Mo_draw_94, s_Mo_draw_97, s_Mo_draw_98, s_Mo_draw_99, s_Mo_draw_100, s_Mo_draw_103, s_Mo_draw_104, s_Mo_draw_105, s_Mo_draw_108, s_Mo_draw_111, s_Mo_draw_112, y_kd_sI, y_kd_sL, y_kd_sR, y_kd_cpI, y_kd_cpL, y_ln_sI, y_ln_sL, y_ln_sR, y_ln_cpI, y_ln_cpL, y_sz_sI, y_sz_sL, y_sz_sR, y_sz_cpI, y_sz_cpL, y_sl_sI, y_sl_sL, y_sl_sR, y_sl_cpI, y_sl_cpL, y_gI_sL, y_gI_sR, y_gI_cpI, y_gI_cpL, y_gI_nw, y_gL_sI, y_gL_sR, y_gL_cpI, y_gL_cpL, y_gL_nw, y_gR_sI, y_gR_sL, y_gR_cpI, y_gR_cpL, y_gR_nw, y_kd_nw, y_ln_nw, y_sz_nw, y_sl_nw, y_fx_int, y_fx_long, y_fx_ref, y_fx_null, y_fx_U, y_rf_s, y_rf_n, a_inb, a_ix, a_lt, a_eq, a_eq0, a_lt0, a_0lt, a_m1, a_m2, a_mlt, a_sub, a_dec, a_div, a_rem, a_shl, a_shr, a_bit, a_bit0, a_II, a_Ia, a_Ik, a_LL, a_La, a_Lk, a_RR, a_Ra, a_Rk, a_if0, a_if1, y_mul, y_and, y_or, nI_add, y_b1, y_b0, kon_v, kon_0, true_or, or_true, and_self, true_and, and_true, false_or, or_false, and_false, false_and, not_true_eq_false, not_false_eq_true, ite_self, ↓reduceIte, Nat.reduceEqDiff, Nat.reduceLeDiff, Nat.reduceAdd, Nat.reduceMul, Nat.reduceSub, Nat.reduceLT, Nat.reduceShiftLeft, Nat.reduceOr, Nat.reduceAnd, Bool.false_eq_true, b_if, b_z1, b_z0, b_zz, b_a1, b_a0, b_lc, b_zF, b_zT, b_lbit, mo_k o1, mo_r0 o1, mo_k0 o1, mo_l0 o1, mo_r1 o1, mo_k1 o1, mo_l1 o1, mo_r2 o1, mo_k2 o1, mo_l2 o1, mo_r3 o1, mo_k3 o1, mo_l3 o1, mo_r4 o1, mo_k4 o1, mo_l4 o1, mo_r5 o1, mo_k5 o1, mo_l5 o1, mo_r6 o1, mo_k6 o1, mo_l6 o1, mo_r8 o1, mo_k8 o1, mo_l8 o1, mo_r10 o1, mo_k10 o1, mo_l10 o1, mo_r11 o1, mo_k11 o1, mo_l11 o1, mo_r12 o1, mo_k12 o1, mo_l12 o1, mo_r13 o1, mo_k13 o1, mo_l13 o1, mo_r14 o1, mo_k14 o1, mo_l14 o1, mo_r16 o1, mo_k16 o1, mo_l16 o1, mo_r17 o1, mo_k17 o1, mo_l17 o1, mo_r18 o1, mo_k18 o1, mo_l18 o1, mo_r19 o1, mo_k19 o1, mo_l19 o1, mo_r20 o1, mo_k20 o1, mo_l20 o1, mo_r21 o1, mo_k21 o1, mo_l21 o1, mo_r22 o1, mo_k22 o1, mo_l22 o1, mo_r23 o1, mo_k23 o1, mo_l23 o1, mo_r24 o1, mo_k24 o1, mo_l24 o1, mo_r25 o1, mo_k25 o1, mo_l25 o1, mo_r26 o1, mo_k26 o1, mo_l26 o1, mo_r29 o1, mo_k29 o1, mo_l29 o1, mo_r30 o1, mo_k30 o1, mo_l30 o1, mo_r36 o1, mo_k36 o1, mo_l36 o1, mo_r37 o1, mo_k37 o1, mo_l37 o1, mo_r49 o1, mo_k49 o1, mo_l49 o1, mo_r50 o1, mo_k50 o1, mo_l50 o1, mo_r51 o1, mo_k51 o1, mo_l51 o1, mo_r56 o1, mo_k56 o1, mo_l56 o1, mo_r62 o1, mo_k62 o1, mo_l62 o1, mo_r63 o1, mo_k63 o1, mo_l63 o1, mo_r66 o1, mo_k66 o1, mo_l66 o1, mo_row o1, mo_rowk o1, mo_rowl o1, mo_set o1, mo_setk o1, mo_setl o1, hlt, b1, b2, b3, q_Mo_wayOf, vv]
    · rw [a_Ia (by omega), a_II]
      show _ = sd4 (sd4 (sd4 (drN z i).1))
      rw [hs9]
    · by_cases c : j = drI s9
      · rw [c, a_II]
        show _ = nI (up (drN z i).2 (drI (drN z i).1) _ _)
        rw [hs9, up_s]
      · rw [a_Ik c, a_Ia (by omega), f2 j hj]
        show _ = nI (up (drN z i).2 (drI (drN z i).1) _ _)
        rw [hs9, up_n c]) n 0 (zU, zU, zU) h (by omega) ⟨⟨sam.rf, fun _ _ _ _ => rfl, fun _ _ => rfl, fun _ _ => rfl⟩, hs, hE⟩
  have o1 := s.1.mo oM
  refine ⟨h', e1.trans ?_, s, f1, f2⟩
  have hE' : ∀ i : Nat, i < 64 → (drN z n).2 i < 256 := drN_lt hz n
  generalize (drN z n).2 = E at f2 hE'
  have bd : ∀ i : Nat, i ≤ 64 → smN (fun i => pcn (E i)) i ≤ 64 * 32 := fun i hi => Nat.le_trans (smN_le (b := 32) i (fun j _ => pcn_le _)) (Nat.mul_le_mul_right _ hi)
  obtain ⟨g1, g2⟩ := l_fold (g := g) (M := Mo_draw) (pc := 86) (st := []) (h := h') (n := 64) (fun i (x : Nat) => [.ref m, .int (nI n), .int (nI x), .int (nI i), zU, v5, zU, v7, zU]) (fun i x => x = smN (fun i => pcn (E i)) i) (fun i x => x + pcn (E i)) (fun i x hi hx => by
    have hlt : (i < 64) = True := eq_true hi
    have v := f2 i hi
    have v2 := hE' i hi
    have bcq := q_Mo_count (g := g) (h := h') (v := (nI (E i)).toInt64)
    rw [l_bc (by omega)] at bcq
    refine ⟨?_, by rw [hx]; rfl⟩
    show ev g Mo_draw 86 [.ref m, .int (nI n), .int (nI x), .int (nI i), zU, v5, zU, v7, zU] [] h' = ev g Mo_draw 86 [.ref m, .int (nI n), .int (nI (x + pcn (E i))), .int (nI (i + 1)), zU, v5, zU, v7, zU] [] h'
    rw [s_Mo_draw_86]
    simp (disch := omega) only [s_Mo_draw_0, s_Mo_draw_1, s_Mo_draw_2, s_Mo_draw_3, s_Mo_draw_6, s_Mo_draw_9, s_Mo_draw_12, s_Mo_draw_13, s_Mo_draw_15, s_Mo_draw_18, s_Mo_draw_19, s_Mo_draw_20, s_Mo_draw_21, s_Mo_draw_22, s_Mo_draw_23, s_Mo_draw_26, s_Mo_draw_27, s_Mo_draw_30, s_Mo_draw_31, s_Mo_draw_32, s_Mo_draw_35, s_Mo_draw_37, s_Mo_draw_38, s_Mo_draw_41, s_Mo_draw_43, s_Mo_draw_44, s_Mo_draw_47, s_Mo_draw_49, s_Mo_draw_50, s_Mo_draw_52, s_Mo_draw_55, s_Mo_draw_56, s_Mo_draw_58, s_Mo_draw_60, s_Mo_draw_63, s_Mo_draw_64, s_Mo_draw_65, s_Mo_draw_66, s_Mo_draw_67, s_Mo_draw_68, s_Mo_draw_70, s_Mo_draw_73, s_Mo_draw_74, s_Mo_draw_75, s_Mo_draw_76, s_Mo_draw_79, s_Mo_draw_82, s_Mo_draw_83, s_Mo_draw_84, s_Mo_draw_85, s_Mo_draw_87, s_Mo_draw_89, s_Mo_draw_92, s_Mo_draw_93, s_Mo_draw_94, s_Mo_draw_97, s_Mo_draw_98, s_Mo_draw_99, s_Mo_draw_100, s_Mo_draw_103, s_Mo_draw_104, s_Mo_draw_105, s_Mo_draw_108, s_Mo_draw_111, s_Mo_draw_112, y_kd_sI, y_kd_sL, y_kd_sR, y_kd_cpI, y_kd_cpL, y_ln_sI, y_ln_sL, y_ln_sR, y_ln_cpI, y_ln_cpL, y_sz_sI, y_sz_sL, y_sz_sR, y_sz_cpI, y_sz_cpL, y_sl_sI, y_sl_sL, y_sl_sR, y_sl_cpI, y_sl_cpL, y_gI_sL, y_gI_sR, y_gI_cpI, y_gI_cpL, y_gI_nw, y_gL_sI, y_gL_sR, y_gL_cpI, y_gL_cpL, y_gL_nw, y_gR_sI, y_gR_sL, y_gR_cpI, y_gR_cpL, y_gR_nw, y_kd_nw, y_ln_nw, y_sz_nw, y_sl_nw, y_fx_int, y_fx_long, y_fx_ref, y_fx_null, y_fx_U, y_rf_s, y_rf_n, a_inb, a_ix, a_lt, a_eq, a_eq0, a_lt0, a_0lt, a_m1, a_m2, a_mlt, a_sub, a_dec, a_div, a_rem, a_shl, a_shr, a_bit, a_bit0, a_II, a_Ia, a_Ik, a_LL, a_La, a_Lk, a_RR, a_Ra, a_Rk, a_if0, a_if1, y_mul, y_and, y_or, nI_add, y_b1, y_b0, kon_v, kon_0, true_or, or_true, and_self, true_and, and_true, false_or, or_false, and_false, false_and, not_true_eq_false, not_false_eq_true, ite_self, ↓reduceIte, Nat.reduceEqDiff, Nat.reduceLeDiff, Nat.reduceAdd, Nat.reduceMul, Nat.reduceSub, Nat.reduceLT, Nat.reduceShiftLeft, Nat.reduceOr, Nat.reduceAnd, Bool.false_eq_true, b_if, b_z1, b_z0, b_zz, b_a1, b_a0, b_lc, b_zF, b_zT, b_lbit, mo_k o1, mo_r0 o1, mo_k0 o1, mo_l0 o1, mo_r1 o1, mo_k1 o1, mo_l1 o1, mo_r2 o1, mo_k2 o1, mo_l2 o1, mo_r3 o1, mo_k3 o1, mo_l3 o1, mo_r4 o1, mo_k4 o1, mo_l4 o1, mo_r5 o1, mo_k5 o1, mo_l5 o1, mo_r6 o1, mo_k6 o1, mo_l6 o1, mo_r8 o1, mo_k8 o1, mo_l8 o1, mo_r10 o1, mo_k10 o1, mo_l10 o1, mo_r11 o1, mo_k11 o1, mo_l11 o1, mo_r12 o1, mo_k12 o1, mo_l12 o1, mo_r13 o1, mo_k13 o1, mo_l13 o1, mo_r14 o1, mo_k14 o1, mo_l14 o1, mo_r16 o1, mo_k16 o1, mo_l16 o1, mo_r17 o1, mo_k17 o1, mo_l17 o1, mo_r18 o1, mo_k18 o1, mo_l18 o1, mo_r19 o1, mo_k19 o1, mo_l19 o1, mo_r20 o1, mo_k20 o1, mo_l20 o1, mo_r21 o1, mo_k21 o1, mo_l21 o1, mo_r22 o1, mo_k22 o1, mo_l22 o1, mo_r23 o1, mo_k23 o1, mo_l23 o1, mo_r24 o1, mo_k24 o1, mo_l24 o1, mo_r25 o1, mo_k25 o1, mo_l25 o1, mo_r26 o1, mo_k26 o1, mo_l26 o1, mo_r29 o1, mo_k29 o1, mo_l29 o1, mo_r30 o1, mo_k30 o1, mo_l30 o1, mo_r36 o1, mo_k36 o1, mo_l36 o1, mo_r37 o1, mo_k37 o1, mo_l37 o1, mo_r49 o1, mo_k49 o1, mo_l49 o1, mo_r50 o1, mo_k50 o1, mo_l50 o1, mo_r51 o1, mo_k51 o1, mo_l51 o1, mo_r56 o1, mo_k56 o1, mo_l56 o1, mo_r62 o1, mo_k62 o1, mo_l62 o1, mo_r63 o1, mo_k63 o1, mo_l63 o1, mo_r66 o1, mo_k66 o1, mo_l66 o1, mo_row o1, mo_rowk o1, mo_rowl o1, mo_set o1, mo_setk o1, mo_setl o1, hlt, v, bcq]) 64 0 0 (by omega) rfl
  have go : ev g Mo_draw 21 [.ref m, .int (nI n), .int (nI n), v3, zU, v5, zU, v7, zU] [] h' = ev g Mo_draw 86 [.ref m, .int (nI n), .int (nI 0), .int (nI 0), zU, v5, zU, v7, zU] [] h' := by
    simp (disch := omega) only [s_Mo_draw_0, s_Mo_draw_1, s_Mo_draw_2, s_Mo_draw_3, s_Mo_draw_6, s_Mo_draw_9, s_Mo_draw_12, s_Mo_draw_13, s_Mo_draw_15, s_Mo_draw_18, s_Mo_draw_19, s_Mo_draw_20, s_Mo_draw_21, s_Mo_draw_22, s_Mo_draw_23, s_Mo_draw_26, s_Mo_draw_27, s_Mo_draw_30, s_Mo_draw_31, s_Mo_draw_32, s_Mo_draw_35, s_Mo_draw_37, s_Mo_draw_38, s_Mo_draw_41, s_Mo_draw_43, s_Mo_draw_44, s_Mo_draw_47, s_Mo_draw_49, s_Mo_draw_50, s_Mo_draw_52, s_Mo_draw_55, s_Mo_draw_56, s_Mo_draw_58, s_Mo_draw_60, s_Mo_draw_63, s_Mo_draw_64, s_Mo_draw_65, s_Mo_draw_66, s_Mo_draw_67, s_Mo_draw_68, s_Mo_draw_70, s_Mo_draw_73, s_Mo_draw_74, s_Mo_draw_75, s_Mo_draw_76, s_Mo_draw_79, s_Mo_draw_82, s_Mo_draw_83, s_Mo_draw_84, s_Mo_draw_85, s_Mo_draw_87, s_Mo_draw_89, s_Mo_draw_92, s_Mo_draw_93, s_Mo_draw_94, s_Mo_draw_97, s_Mo_draw_98, s_Mo_draw_99, s_Mo_draw_100, s_Mo_draw_103, s_Mo_draw_104, s_Mo_draw_105, s_Mo_draw_108, s_Mo_draw_111, s_Mo_draw_112, y_kd_sI, y_kd_sL, y_kd_sR, y_kd_cpI, y_kd_cpL, y_ln_sI, y_ln_sL, y_ln_sR, y_ln_cpI, y_ln_cpL, y_sz_sI, y_sz_sL, y_sz_sR, y_sz_cpI, y_sz_cpL, y_sl_sI, y_sl_sL, y_sl_sR, y_sl_cpI, y_sl_cpL, y_gI_sL, y_gI_sR, y_gI_cpI, y_gI_cpL, y_gI_nw, y_gL_sI, y_gL_sR, y_gL_cpI, y_gL_cpL, y_gL_nw, y_gR_sI, y_gR_sL, y_gR_cpI, y_gR_cpL, y_gR_nw, y_kd_nw, y_ln_nw, y_sz_nw, y_sl_nw, y_fx_int, y_fx_long, y_fx_ref, y_fx_null, y_fx_U, y_rf_s, y_rf_n, a_inb, a_ix, a_lt, a_eq, a_eq0, a_lt0, a_0lt, a_m1, a_m2, a_mlt, a_sub, a_dec, a_div, a_rem, a_shl, a_shr, a_bit, a_bit0, a_II, a_Ia, a_Ik, a_LL, a_La, a_Lk, a_RR, a_Ra, a_Rk, a_if0, a_if1, y_mul, y_and, y_or, nI_add, y_b1, y_b0, kon_v, kon_0, true_or, or_true, and_self, true_and, and_true, false_or, or_false, and_false, false_and, not_true_eq_false, not_false_eq_true, ite_self, ↓reduceIte, Nat.reduceEqDiff, Nat.reduceLeDiff, Nat.reduceAdd, Nat.reduceMul, Nat.reduceSub, Nat.reduceLT, Nat.reduceShiftLeft, Nat.reduceOr, Nat.reduceAnd, Bool.false_eq_true, b_if, b_z1, b_z0, b_zz, b_a1, b_a0, b_lc, b_zF, b_zT, b_lbit, Nat.lt_irrefl]
  refine go.trans (g1.trans ?_)
  simp (disch := omega) only [s_Mo_draw_0, s_Mo_draw_1, s_Mo_draw_2, s_Mo_draw_3, s_Mo_draw_6, s_Mo_draw_9, s_Mo_draw_12, s_Mo_draw_13, s_Mo_draw_15, s_Mo_draw_18, s_Mo_draw_19, s_Mo_draw_20, s_Mo_draw_21, s_Mo_draw_22, s_Mo_draw_23, s_Mo_draw_26, s_Mo_draw_27, s_Mo_draw_30, s_Mo_draw_31, s_Mo_draw_32, s_Mo_draw_35, s_Mo_draw_37, s_Mo_draw_38, s_Mo_draw_41, s_Mo_draw_43, s_Mo_draw_44, s_Mo_draw_47, s_Mo_draw_49, s_Mo_draw_50, s_Mo_draw_52, s_Mo_draw_55, s_Mo_draw_56, s_Mo_draw_58, s_Mo_draw_60, s_Mo_draw_63, s_Mo_draw_64, s_Mo_draw_65, s_Mo_draw_66, s_Mo_draw_67, s_Mo_draw_68, s_Mo_draw_70, s_Mo_draw_73, s_Mo_draw_74, s_Mo_draw_75, s_Mo_draw_76, s_Mo_draw_79, s_Mo_draw_82, s_Mo_draw_83, s_Mo_draw_84, s_Mo_draw_85, s_Mo_draw_86, s_Mo_draw_87, s_Mo_draw_89, s_Mo_draw_92, s_Mo_draw_93, s_Mo_draw_94, s_Mo_draw_97, s_Mo_draw_98, s_Mo_draw_99, s_Mo_draw_100, s_Mo_draw_103, s_Mo_draw_104, s_Mo_draw_105, s_Mo_draw_108, s_Mo_draw_111, s_Mo_draw_112, y_kd_sI, y_kd_sL, y_kd_sR, y_kd_cpI, y_kd_cpL, y_ln_sI, y_ln_sL, y_ln_sR, y_ln_cpI, y_ln_cpL, y_sz_sI, y_sz_sL, y_sz_sR, y_sz_cpI, y_sz_cpL, y_sl_sI, y_sl_sL, y_sl_sR, y_sl_cpI, y_sl_cpL, y_gI_sL, y_gI_sR, y_gI_cpI, y_gI_cpL, y_gI_nw, y_gL_sI, y_gL_sR, y_gL_cpI, y_gL_cpL, y_gL_nw, y_gR_sI, y_gR_sL, y_gR_cpI, y_gR_cpL, y_gR_nw, y_kd_nw, y_ln_nw, y_sz_nw, y_sl_nw, y_fx_int, y_fx_long, y_fx_ref, y_fx_null, y_fx_U, y_rf_s, y_rf_n, a_inb, a_ix, a_lt, a_eq, a_eq0, a_lt0, a_0lt, a_m1, a_m2, a_mlt, a_sub, a_dec, a_div, a_rem, a_shl, a_shr, a_bit, a_bit0, a_II, a_Ia, a_Ik, a_LL, a_La, a_Lk, a_RR, a_Ra, a_Rk, a_if0, a_if1, y_mul, y_and, y_or, nI_add, y_b1, y_b0, kon_v, kon_0, true_or, or_true, and_self, true_and, and_true, false_or, or_false, and_false, false_and, not_true_eq_false, not_false_eq_true, ite_self, ↓reduceIte, Nat.reduceEqDiff, Nat.reduceLeDiff, Nat.reduceAdd, Nat.reduceMul, Nat.reduceSub, Nat.reduceLT, Nat.reduceShiftLeft, Nat.reduceOr, Nat.reduceAnd, Bool.false_eq_true, b_if, b_z1, b_z0, b_zz, b_a1, b_a0, b_lc, b_zF, b_zT, b_lbit, Nat.lt_irrefl, g2]
theorem j_draw (J : JX g B SL h) : JJ g B SL DC_draw Mo_draw [.int v] h := by
  obtain ⟨H, T, Λ, K, κ, ρ, j⟩ := J.p
  have e100 : (100 : Int64) = lN 100 := by decide
  have bad : (v < nI 1) = True ∨ ((v < nI 1) = False ∧ (nI 100 < v) = True ∧ (v < nI 101) = False) ∨ ∃ k : Nat, v = nI k ∧ 1 ≤ k ∧ k < 101 := by
    by_cases c1 : v < nI 1
    · exact Or.inl (eq_true c1)
    · by_cases c2 : v < nI 101
      · have c3 : ¬ v < 0 := by
          rw [i_lt] at c1 ⊢
          rw [nI_toInt (by decide)] at c1
          have h2 : (0 : Int32).toInt = 0 := rfl
          rw [h2]
          omega
        obtain ⟨k, rfl, hk⟩ := i_nat c3 c2 (by decide)
        refine Or.inr (Or.inr ⟨k, rfl, ?_, hk⟩)
        by_cases k0 : k = 0
        · rw [k0] at c1
          exact absurd (show nI 0 < nI 1 by decide) c1
        · omega
      · refine Or.inr (Or.inl ⟨eq_false c1, eq_true ?_, eq_false c2⟩)
        rw [i_lt, nI_toInt (by omega)] at c2 ⊢
        omega
  rcases bad with z | ⟨z1, z2, z3⟩ | ⟨N, rfl, hN1, hN2⟩
  · refine ⟨sI h (B + 131) 0 (gI h (B + 131) 0 + nI 1), _, -2, ?_, ?_, ((j.rc (i := 0) (by decide)).rm (i := 0) (by decide)).x⟩
    · rw [n_DC_draw]
      simp (disch := omega) only [s_DC_draw_0, s_DC_draw_1, s_DC_draw_2, s_DC_draw_5, s_DC_draw_6, s_DC_draw_8, s_DC_draw_11, s_DC_draw_12, s_DC_draw_14, s_DC_draw_17, s_DC_draw_18, s_DC_draw_19, s_DC_draw_21, s_DC_draw_22, s_DC_draw_25, s_DC_draw_26, s_DC_draw_29, s_DC_draw_32, s_DC_draw_35, s_DC_draw_38, s_DC_draw_41, s_DC_draw_42, s_DC_draw_45, s_DC_draw_48, s_DC_draw_51, y_kd_sI, y_kd_sL, y_kd_sR, y_kd_cpI, y_kd_cpL, y_ln_sI, y_ln_sL, y_ln_sR, y_ln_cpI, y_ln_cpL, y_sz_sI, y_sz_sL, y_sz_sR, y_sz_cpI, y_sz_cpL, y_sl_sI, y_sl_sL, y_sl_sR, y_sl_cpI, y_sl_cpL, y_gI_sL, y_gI_sR, y_gI_cpI, y_gI_cpL, y_gI_nw, y_gL_sI, y_gL_sR, y_gL_cpI, y_gL_cpL, y_gL_nw, y_gR_sI, y_gR_sL, y_gR_cpI, y_gR_cpL, y_gR_nw, y_kd_nw, y_ln_nw, y_sz_nw, y_sl_nw, y_fx_int, y_fx_long, y_fx_ref, y_fx_null, y_fx_U, y_rf_s, y_rf_n, a_inb, a_ix, a_lt, a_eq, a_eq0, a_lt0, a_0lt, a_m1, a_m2, a_mlt, a_sub, a_dec, a_div, a_rem, a_shl, a_shr, a_bit, a_bit0, a_II, a_Ia, a_Ik, a_LL, a_La, a_Lk, a_RR, a_Ra, a_Rk, a_if0, a_if1, y_mul, y_and, y_or, nI_add, y_b1, y_b0, kon_v, kon_0, true_or, or_true, and_self, true_and, and_true, false_or, or_false, and_false, false_and, not_true_eq_false, not_false_eq_true, ite_self, ↓reduceIte, Nat.reduceEqDiff, Nat.reduceLeDiff, Nat.reduceAdd, Nat.reduceMul, Nat.reduceSub, Nat.reduceLT, Nat.reduceShiftLeft, Nat.reduceOr, Nat.reduceAnd, Bool.false_eq_true, b_if, b_z1, b_z0, b_zz, b_a1, b_a0, b_lc, b_zF, b_zT, b_lbit, dc_k j.dc, dc_r0 j.dc, dc_r1 j.dc, dc_r2 j.dc, dc_r3 j.dc, dc_r5 j.dc, dc_r6 j.dc, dc_r7 j.dc, dc_r8 j.dc, dc_r9 j.dc, dc_k1 j.dc, dc_l1 j.dc, dc_k19 j.dc, dc_l19 j.dc, dc_k21 j.dc, dc_l21 j.dc, dc_k22 j.dc, dc_l22 j.dc, dc_k131 j.dc, dc_l131 j.dc, dc_k142 j.dc, dc_l142 j.dc, dc_k143 j.dc, dc_l143 j.dc, dc_k144 j.dc, dc_l144 j.dc, dc_k18 j.dc, dc_r18 j.dc, dc_k20 j.dc, dc_r20_0 j.dc, dc_r20_1 j.dc, dc_k141 j.dc, dc_r141_5 j.dc, dc_r141_6 j.dc, dc_s j.dc, dc_sk j.dc, dc_sr j.dc, dc_ek j.dc, dc_el j.dc, z, q_DC_refuse0 j.dc]
    · have j1 := j.rc (i := 0) (by decide)
      rw [n_Mo_draw]
      simp (disch := omega) only [s_Mo_draw_0, s_Mo_draw_1, s_Mo_draw_2, s_Mo_draw_3, s_Mo_draw_6, s_Mo_draw_9, s_Mo_draw_12, s_Mo_draw_13, s_Mo_draw_15, s_Mo_draw_18, s_Mo_draw_19, s_Mo_draw_20, s_Mo_draw_22, s_Mo_draw_23, s_Mo_draw_26, s_Mo_draw_27, s_Mo_draw_30, s_Mo_draw_31, s_Mo_draw_32, s_Mo_draw_35, s_Mo_draw_37, s_Mo_draw_38, s_Mo_draw_41, s_Mo_draw_43, s_Mo_draw_44, s_Mo_draw_47, s_Mo_draw_49, s_Mo_draw_50, s_Mo_draw_52, s_Mo_draw_55, s_Mo_draw_56, s_Mo_draw_58, s_Mo_draw_60, s_Mo_draw_63, s_Mo_draw_64, s_Mo_draw_65, s_Mo_draw_66, s_Mo_draw_67, s_Mo_draw_68, s_Mo_draw_70, s_Mo_draw_73, s_Mo_draw_74, s_Mo_draw_75, s_Mo_draw_76, s_Mo_draw_79, s_Mo_draw_82, s_Mo_draw_83, s_Mo_draw_84, s_Mo_draw_85, s_Mo_draw_86, s_Mo_draw_87, s_Mo_draw_89, s_Mo_draw_92, s_Mo_draw_93, s_Mo_draw_94, s_Mo_draw_97, s_Mo_draw_98, s_Mo_draw_99, s_Mo_draw_100, s_Mo_draw_103, s_Mo_draw_104, s_Mo_draw_105, s_Mo_draw_108, s_Mo_draw_111, s_Mo_draw_112, y_kd_sI, y_kd_sL, y_kd_sR, y_kd_cpI, y_kd_cpL, y_ln_sI, y_ln_sL, y_ln_sR, y_ln_cpI, y_ln_cpL, y_sz_sI, y_sz_sL, y_sz_sR, y_sz_cpI, y_sz_cpL, y_sl_sI, y_sl_sL, y_sl_sR, y_sl_cpI, y_sl_cpL, y_gI_sL, y_gI_sR, y_gI_cpI, y_gI_cpL, y_gI_nw, y_gL_sI, y_gL_sR, y_gL_cpI, y_gL_cpL, y_gL_nw, y_gR_sI, y_gR_sL, y_gR_cpI, y_gR_cpL, y_gR_nw, y_kd_nw, y_ln_nw, y_sz_nw, y_sl_nw, y_fx_int, y_fx_long, y_fx_ref, y_fx_null, y_fx_U, y_rf_s, y_rf_n, a_inb, a_ix, a_lt, a_eq, a_eq0, a_lt0, a_0lt, a_m1, a_m2, a_mlt, a_sub, a_dec, a_div, a_rem, a_shl, a_shr, a_bit, a_bit0, a_II, a_Ia, a_Ik, a_LL, a_La, a_Lk, a_RR, a_Ra, a_Rk, a_if0, a_if1, y_mul, y_and, y_or, nI_add, y_b1, y_b0, kon_v, kon_0, true_or, or_true, and_self, true_and, and_true, false_or, or_false, and_false, false_and, not_true_eq_false, not_false_eq_true, ite_self, ↓reduceIte, Nat.reduceEqDiff, Nat.reduceLeDiff, Nat.reduceAdd, Nat.reduceMul, Nat.reduceSub, Nat.reduceLT, Nat.reduceShiftLeft, Nat.reduceOr, Nat.reduceAnd, Bool.false_eq_true, b_if, b_z1, b_z0, b_zz, b_a1, b_a0, b_lc, b_zF, b_zT, b_lbit, e100, q_in1, z, mo_k j1.mo, q_Mo_refuse0 j1.mo]
      try rfl
  · refine ⟨sI h (B + 131) 0 (gI h (B + 131) 0 + nI 1), _, -2, ?_, ?_, ((j.rc (i := 0) (by decide)).rm (i := 0) (by decide)).x⟩
    · rw [n_DC_draw]
      simp (disch := omega) only [s_DC_draw_0, s_DC_draw_1, s_DC_draw_2, s_DC_draw_5, s_DC_draw_6, s_DC_draw_8, s_DC_draw_11, s_DC_draw_12, s_DC_draw_14, s_DC_draw_17, s_DC_draw_18, s_DC_draw_19, s_DC_draw_21, s_DC_draw_22, s_DC_draw_25, s_DC_draw_26, s_DC_draw_29, s_DC_draw_32, s_DC_draw_35, s_DC_draw_38, s_DC_draw_41, s_DC_draw_42, s_DC_draw_45, s_DC_draw_48, s_DC_draw_51, y_kd_sI, y_kd_sL, y_kd_sR, y_kd_cpI, y_kd_cpL, y_ln_sI, y_ln_sL, y_ln_sR, y_ln_cpI, y_ln_cpL, y_sz_sI, y_sz_sL, y_sz_sR, y_sz_cpI, y_sz_cpL, y_sl_sI, y_sl_sL, y_sl_sR, y_sl_cpI, y_sl_cpL, y_gI_sL, y_gI_sR, y_gI_cpI, y_gI_cpL, y_gI_nw, y_gL_sI, y_gL_sR, y_gL_cpI, y_gL_cpL, y_gL_nw, y_gR_sI, y_gR_sL, y_gR_cpI, y_gR_cpL, y_gR_nw, y_kd_nw, y_ln_nw, y_sz_nw, y_sl_nw, y_fx_int, y_fx_long, y_fx_ref, y_fx_null, y_fx_U, y_rf_s, y_rf_n, a_inb, a_ix, a_lt, a_eq, a_eq0, a_lt0, a_0lt, a_m1, a_m2, a_mlt, a_sub, a_dec, a_div, a_rem, a_shl, a_shr, a_bit, a_bit0, a_II, a_Ia, a_Ik, a_LL, a_La, a_Lk, a_RR, a_Ra, a_Rk, a_if0, a_if1, y_mul, y_and, y_or, nI_add, y_b1, y_b0, kon_v, kon_0, true_or, or_true, and_self, true_and, and_true, false_or, or_false, and_false, false_and, not_true_eq_false, not_false_eq_true, ite_self, ↓reduceIte, Nat.reduceEqDiff, Nat.reduceLeDiff, Nat.reduceAdd, Nat.reduceMul, Nat.reduceSub, Nat.reduceLT, Nat.reduceShiftLeft, Nat.reduceOr, Nat.reduceAnd, Bool.false_eq_true, b_if, b_z1, b_z0, b_zz, b_a1, b_a0, b_lc, b_zF, b_zT, b_lbit, dc_k j.dc, dc_r0 j.dc, dc_r1 j.dc, dc_r2 j.dc, dc_r3 j.dc, dc_r5 j.dc, dc_r6 j.dc, dc_r7 j.dc, dc_r8 j.dc, dc_r9 j.dc, dc_k1 j.dc, dc_l1 j.dc, dc_k19 j.dc, dc_l19 j.dc, dc_k21 j.dc, dc_l21 j.dc, dc_k22 j.dc, dc_l22 j.dc, dc_k131 j.dc, dc_l131 j.dc, dc_k142 j.dc, dc_l142 j.dc, dc_k143 j.dc, dc_l143 j.dc, dc_k144 j.dc, dc_l144 j.dc, dc_k18 j.dc, dc_r18 j.dc, dc_k20 j.dc, dc_r20_0 j.dc, dc_r20_1 j.dc, dc_k141 j.dc, dc_r141_5 j.dc, dc_r141_6 j.dc, dc_s j.dc, dc_sk j.dc, dc_sr j.dc, dc_ek j.dc, dc_el j.dc, z1, z2, q_DC_refuse0 j.dc]
    · have j1 := j.rc (i := 0) (by decide)
      rw [n_Mo_draw]
      simp (disch := omega) only [s_Mo_draw_0, s_Mo_draw_1, s_Mo_draw_2, s_Mo_draw_3, s_Mo_draw_6, s_Mo_draw_9, s_Mo_draw_12, s_Mo_draw_13, s_Mo_draw_15, s_Mo_draw_18, s_Mo_draw_19, s_Mo_draw_20, s_Mo_draw_22, s_Mo_draw_23, s_Mo_draw_26, s_Mo_draw_27, s_Mo_draw_30, s_Mo_draw_31, s_Mo_draw_32, s_Mo_draw_35, s_Mo_draw_37, s_Mo_draw_38, s_Mo_draw_41, s_Mo_draw_43, s_Mo_draw_44, s_Mo_draw_47, s_Mo_draw_49, s_Mo_draw_50, s_Mo_draw_52, s_Mo_draw_55, s_Mo_draw_56, s_Mo_draw_58, s_Mo_draw_60, s_Mo_draw_63, s_Mo_draw_64, s_Mo_draw_65, s_Mo_draw_66, s_Mo_draw_67, s_Mo_draw_68, s_Mo_draw_70, s_Mo_draw_73, s_Mo_draw_74, s_Mo_draw_75, s_Mo_draw_76, s_Mo_draw_79, s_Mo_draw_82, s_Mo_draw_83, s_Mo_draw_84, s_Mo_draw_85, s_Mo_draw_86, s_Mo_draw_87, s_Mo_draw_89, s_Mo_draw_92, s_Mo_draw_93, s_Mo_draw_94, s_Mo_draw_97, s_Mo_draw_98, s_Mo_draw_99, s_Mo_draw_100, s_Mo_draw_103, s_Mo_draw_104, s_Mo_draw_105, s_Mo_draw_108, s_Mo_draw_111, s_Mo_draw_112, y_kd_sI, y_kd_sL, y_kd_sR, y_kd_cpI, y_kd_cpL, y_ln_sI, y_ln_sL, y_ln_sR, y_ln_cpI, y_ln_cpL, y_sz_sI, y_sz_sL, y_sz_sR, y_sz_cpI, y_sz_cpL, y_sl_sI, y_sl_sL, y_sl_sR, y_sl_cpI, y_sl_cpL, y_gI_sL, y_gI_sR, y_gI_cpI, y_gI_cpL, y_gI_nw, y_gL_sI, y_gL_sR, y_gL_cpI, y_gL_cpL, y_gL_nw, y_gR_sI, y_gR_sL, y_gR_cpI, y_gR_cpL, y_gR_nw, y_kd_nw, y_ln_nw, y_sz_nw, y_sl_nw, y_fx_int, y_fx_long, y_fx_ref, y_fx_null, y_fx_U, y_rf_s, y_rf_n, a_inb, a_ix, a_lt, a_eq, a_eq0, a_lt0, a_0lt, a_m1, a_m2, a_mlt, a_sub, a_dec, a_div, a_rem, a_shl, a_shr, a_bit, a_bit0, a_II, a_Ia, a_Ik, a_LL, a_La, a_Lk, a_RR, a_Ra, a_Rk, a_if0, a_if1, y_mul, y_and, y_or, nI_add, y_b1, y_b0, kon_v, kon_0, true_or, or_true, and_self, true_and, and_true, false_or, or_false, and_false, false_and, not_true_eq_false, not_false_eq_true, ite_self, ↓reduceIte, Nat.reduceEqDiff, Nat.reduceLeDiff, Nat.reduceAdd, Nat.reduceMul, Nat.reduceSub, Nat.reduceLT, Nat.reduceShiftLeft, Nat.reduceOr, Nat.reduceAnd, Bool.false_eq_true, b_if, b_z1, b_z0, b_zz, b_a1, b_a0, b_lc, b_zF, b_zT, b_lbit, e100, q_in1, z1, z3, mo_k j1.mo, q_Mo_refuse0 j1.mo]
      try rfl
  · have nt1 : (N < 1) = False := eq_false (by omega)
    have nt2 : (100 < N) = False := eq_false (by omega)
    have nt3 : (N < 101) = True := eq_true hN2
    have kb := j.kc.2.2.2.2.1
    have cb := j.cL0.2.2.2.2.1
    obtain ⟨E, hE⟩ : ∃ E : Nat → Nat, ∀ i : Nat, i < 64 → zV Λ 26 i = nI (E i) ∧ E i < 256 := by
      refine ⟨fun i => (zV Λ 26 i).toInt.toNat, fun i hi => ?_⟩
      obtain ⟨k, k1, k2⟩ := kb i hi
      have q : (zV Λ 26 i).toInt.toNat = k := by
        rw [k1, nI_toInt (by omega), Int.toNat_natCast]
      show zV Λ 26 i = nI (zV Λ 26 i).toInt.toNat ∧ (zV Λ 26 i).toInt.toNat < 256
      rw [q]
      exact ⟨k1, k2⟩
    obtain ⟨h1, e1, s1, f1, f2⟩ := c_draws (g := g) (B := B) (n := N) (z := (zV Λ 27 0, E)) (dc_k j.dc) (dc_r2 j.dc) (la_k j.la) (la_r_6 j.la) (la_k41 j.la) (la_r41_1 j.la) (la_k42 j.la) (la_l42 j.la) hN2 cb.1 (fun i hi => (cb.2 i hi).trans (hE i hi).1) (fun i hi => (hE i hi).2)
    have cl := cL_bd j.kc s1 f1 f2 j.cL0
    obtain ⟨b1, b2, b3⟩ := j.cl (s1.wd (by omega) (by omega)) cl (qE_fr (s1.out (by omega)) j.qE0)
    have oM := j.mo1 s1.sh
    have mb := b3.2.2.2.2.2.2.2.1.2.2.2.2.1
    obtain ⟨h2, e2, s2, d1, d2⟩ := m_draws (g := g) (n := N) (z := (zV Λ 27 0, E)) oM hN2 mb.1 (fun i hi => (mb.2 i hi).trans (hE i hi).1) (fun i hi => (hE i hi).2)
    have hl := drN_lt (z := (zV Λ 27 0, E)) (fun i hi => (hE i hi).2) N
    generalize drN (zV Λ 27 0, E) N = z' at *
    have ue : ∀ x : Nat, x < 26 → bdV (zV Λ) z' x = zV Λ x := fun x hx => bdV_c (by omega) (by omega)
    have hk' : kX H T (setV Λ (bdV (zV Λ) z')) K κ := kX_V j.1 (by unfold kF; rw [ue 10 (by decide), ue 13 (by decide)]; exact j.kc.1) (by unfold kDd; rw [ue 16 (by decide), ue 17 (by decide), ue 19 (by decide), ue 20 (by decide), ue 21 (by decide), ue 22 (by decide), ue 23 (by decide), ue 24 (by decide)]; exact j.kc.2.1) (by unfold kMn; rw [ue 25 (by decide)]; exact j.kc.2.2.1) (by unfold kPl; rw [bdV_c (by decide) (by decide), bdV_c (by decide) (by decide)]; exact j.kc.2.2.2.1) (fun i hi => ⟨z'.2 i, bdV_26, hl i hi⟩)
    have f1' : mFr h2 (B + 145) (zF Λ) (zD Λ) (bdV (zV Λ) z') := by
      have f0 := b3.2.2.2.1
      unfold mFr at f0 ⊢
      rw [s2.2.2.1 53 (by decide), s2.2.2.1 54 (by decide), s2.2.2.1 55 (by decide)]
      rcases f0 with d | ⟨d1, d2⟩
      · exact Or.inl d
      · refine Or.inr ⟨d1, ?_⟩
        rw [fam_e ue]
        exact rMS_fr2 (fun k hk => s2.2.2.1 _ (by omega)) (fun b k hb => s2.2.1 _ _ (by omega) (by omega)) d2
    refine ⟨h1, h2, nI (smN (fun i => pcn (z'.2 i)) 64), ?_, ?_, JX_up j.1 hk' b1 b2 b3 s2.1.sh (fun b k h1 h2 => s2.2.1 _ _ h1 (by omega)) (fun b k _ => s2.2.2.2 _ _) (fun k _ _ h3 _ _ => s2.2.2.1 _ h3) (mL_bd j.kc s2 d1 d2 b3.2.2.2.2.2.2.2.1) f1'⟩
    · rw [n_DC_draw]
      simp (disch := omega) only [s_DC_draw_0, s_DC_draw_1, s_DC_draw_2, s_DC_draw_5, s_DC_draw_6, s_DC_draw_8, s_DC_draw_11, s_DC_draw_12, s_DC_draw_14, s_DC_draw_17, s_DC_draw_18, s_DC_draw_19, s_DC_draw_21, s_DC_draw_22, s_DC_draw_25, s_DC_draw_26, s_DC_draw_29, s_DC_draw_32, s_DC_draw_35, s_DC_draw_38, s_DC_draw_41, s_DC_draw_42, s_DC_draw_45, s_DC_draw_48, s_DC_draw_51, y_kd_sI, y_kd_sL, y_kd_sR, y_kd_cpI, y_kd_cpL, y_ln_sI, y_ln_sL, y_ln_sR, y_ln_cpI, y_ln_cpL, y_sz_sI, y_sz_sL, y_sz_sR, y_sz_cpI, y_sz_cpL, y_sl_sI, y_sl_sL, y_sl_sR, y_sl_cpI, y_sl_cpL, y_gI_sL, y_gI_sR, y_gI_cpI, y_gI_cpL, y_gI_nw, y_gL_sI, y_gL_sR, y_gL_cpI, y_gL_cpL, y_gL_nw, y_gR_sI, y_gR_sL, y_gR_cpI, y_gR_cpL, y_gR_nw, y_kd_nw, y_ln_nw, y_sz_nw, y_sl_nw, y_fx_int, y_fx_long, y_fx_ref, y_fx_null, y_fx_U, y_rf_s, y_rf_n, a_inb, a_ix, a_lt, a_eq, a_eq0, a_lt0, a_0lt, a_m1, a_m2, a_mlt, a_sub, a_dec, a_div, a_rem, a_shl, a_shr, a_bit, a_bit0, a_II, a_Ia, a_Ik, a_LL, a_La, a_Lk, a_RR, a_Ra, a_Rk, a_if0, a_if1, y_mul, y_and, y_or, nI_add, y_b1, y_b0, kon_v, kon_0, true_or, or_true, and_self, true_and, and_true, false_or, or_false, and_false, false_and, not_true_eq_false, not_false_eq_true, ite_self, ↓reduceIte, Nat.reduceEqDiff, Nat.reduceLeDiff, Nat.reduceAdd, Nat.reduceMul, Nat.reduceSub, Nat.reduceLT, Nat.reduceShiftLeft, Nat.reduceOr, Nat.reduceAnd, Bool.false_eq_true, b_if, b_z1, b_z0, b_zz, b_a1, b_a0, b_lc, b_zF, b_zT, b_lbit, nt1, nt2]
      exact e1
    · rw [n_Mo_draw]
      simp (disch := omega) only [s_Mo_draw_0, s_Mo_draw_1, s_Mo_draw_2, s_Mo_draw_3, s_Mo_draw_6, s_Mo_draw_9, s_Mo_draw_12, s_Mo_draw_13, s_Mo_draw_15, s_Mo_draw_18, s_Mo_draw_19, s_Mo_draw_20, s_Mo_draw_22, s_Mo_draw_23, s_Mo_draw_26, s_Mo_draw_27, s_Mo_draw_30, s_Mo_draw_31, s_Mo_draw_32, s_Mo_draw_35, s_Mo_draw_37, s_Mo_draw_38, s_Mo_draw_41, s_Mo_draw_43, s_Mo_draw_44, s_Mo_draw_47, s_Mo_draw_49, s_Mo_draw_50, s_Mo_draw_52, s_Mo_draw_55, s_Mo_draw_56, s_Mo_draw_58, s_Mo_draw_60, s_Mo_draw_63, s_Mo_draw_64, s_Mo_draw_65, s_Mo_draw_66, s_Mo_draw_67, s_Mo_draw_68, s_Mo_draw_70, s_Mo_draw_73, s_Mo_draw_74, s_Mo_draw_75, s_Mo_draw_76, s_Mo_draw_79, s_Mo_draw_82, s_Mo_draw_83, s_Mo_draw_84, s_Mo_draw_85, s_Mo_draw_86, s_Mo_draw_87, s_Mo_draw_89, s_Mo_draw_92, s_Mo_draw_93, s_Mo_draw_94, s_Mo_draw_97, s_Mo_draw_98, s_Mo_draw_99, s_Mo_draw_100, s_Mo_draw_103, s_Mo_draw_104, s_Mo_draw_105, s_Mo_draw_108, s_Mo_draw_111, s_Mo_draw_112, y_kd_sI, y_kd_sL, y_kd_sR, y_kd_cpI, y_kd_cpL, y_ln_sI, y_ln_sL, y_ln_sR, y_ln_cpI, y_ln_cpL, y_sz_sI, y_sz_sL, y_sz_sR, y_sz_cpI, y_sz_cpL, y_sl_sI, y_sl_sL, y_sl_sR, y_sl_cpI, y_sl_cpL, y_gI_sL, y_gI_sR, y_gI_cpI, y_gI_cpL, y_gI_nw, y_gL_sI, y_gL_sR, y_gL_cpI, y_gL_cpL, y_gL_nw, y_gR_sI, y_gR_sL, y_gR_cpI, y_gR_cpL, y_gR_nw, y_kd_nw, y_ln_nw, y_sz_nw, y_sl_nw, y_fx_int, y_fx_long, y_fx_ref, y_fx_null, y_fx_U, y_rf_s, y_rf_n, a_inb, a_ix, a_lt, a_eq, a_eq0, a_lt0, a_0lt, a_m1, a_m2, a_mlt, a_sub, a_dec, a_div, a_rem, a_shl, a_shr, a_bit, a_bit0, a_II, a_Ia, a_Ik, a_LL, a_La, a_Lk, a_RR, a_Ra, a_Rk, a_if0, a_if1, y_mul, y_and, y_or, nI_add, y_b1, y_b0, kon_v, kon_0, true_or, or_true, and_self, true_and, and_true, false_or, or_false, and_false, false_and, not_true_eq_false, not_false_eq_true, ite_self, ↓reduceIte, Nat.reduceEqDiff, Nat.reduceLeDiff, Nat.reduceAdd, Nat.reduceMul, Nat.reduceSub, Nat.reduceLT, Nat.reduceShiftLeft, Nat.reduceOr, Nat.reduceAnd, Bool.false_eq_true, b_if, b_z1, b_z0, b_zz, b_a1, b_a0, b_lc, b_zF, b_zT, b_lbit, e100, q_in1, nt1, nt3]
      exact e2
end ZDS
