/-! what settles most: tellings, counted -/
noncomputable def tly (P : Nat) (A : aA) (t : Nat → Nat) (x : Nat) : Nat := t x + (if x / 8 < P ∧ aF A (aL A) (pP (x / 8)) = 2 ^ (x % 8) then 1 else 0)
theorem tly_0 {A : aA} {t : Nat → Nat} {x : Nat} : tly 0 A t x = t x := by
  unfold tly
  rw [if_neg (by omega), Nat.add_zero]
theorem tly_le {P : Nat} {A : aA} {t : Nat → Nat} {x : Nat} : t x ≤ tly P A t x ∧ tly P A t x ≤ t x + 1 := by
  unfold tly
  split <;> omega
theorem tly_s {k w : Nat} {A : aA} {t : Nat → Nat} (hw : w < 8) (e : aF A (aL A) (pP k) = 2 ^ w) : tly (k + 1) A t (k * 8 + w) = tly k A t (k * 8 + w) + 1 ∧ ∀ x : Nat, ¬ x = k * 8 + w → tly (k + 1) A t x = tly k A t x := by
  constructor
  · have e1 : (k * 8 + w) / 8 = k := by omega
    have e2 : (k * 8 + w) % 8 = w := by omega
    unfold tly
    rw [e1, e2, if_pos ⟨by omega, e⟩, if_neg (by omega)]
  · intro x hx
    unfold tly
    by_cases c : x / 8 = k
    · rw [c, if_neg (fun d => ?_), if_neg (fun d => by omega)]
      have d2 := d.2
      rw [e] at d2
      have := (Nat.pow_right_inj (a := 2) (by decide)).1 d2
      omega
    · by_cases d : x / 8 < k ∧ aF A (aL A) (pP (x / 8)) = 2 ^ (x % 8)
      · rw [if_pos d, if_pos ⟨by omega, d.2⟩]
      · rw [if_neg d, if_neg (fun q => d ⟨by omega, q.2⟩)]
noncomputable def aNx (n : Nat) (A : aA) : aA := aRun n 20000 (aBehind n A)
noncomputable def tmn (n : Nat) : Nat → aA → (Nat → Nat) → (Nat → Nat) × aA
  | 0, A, t => (t, A)
  | k + 1, A, t => if aS A = 1 then tmn n k (aNx n A) (tly (n * (n - 1) / 2) A t) else (t, A)
def aG (n : Nat) (A : aA) : Prop := aOK n A ∧ aSy n A ∧ aSn A ∧ (aS A = 1 ∨ aS A = 2 ∨ aS A = 3)
theorem aC_run {n : Nat} : ∀ (k : Nat) (A : aA), aS A = 0 → aS (aRun n k A) = 1 → aC A + 1 ≤ aC (aRun n k A)
  | 0, A, h0, h1 => by
    have h1 : aS A = 1 := h1
    omega
  | k + 1, A, h0, h1 => by
    unfold aRun at h1 ⊢
    rw [if_pos h0] at h1 ⊢
    have c := aC_step (n := n) (A := A)
    by_cases z : aS (aStep n A) = 0
    · have := aC_run k (aStep n A) z h1
      omega
    · have e : aRun n k (aStep n A) = aStep n A := by
        cases k with
        | zero => rfl
        | succ k =>
          unfold aRun
          rw [if_neg z]
      rw [e]
      omega
theorem aRun_id {n k : Nat} {A : aA} (z : ¬ aS A = 0) : aRun n k A = A := by
  cases k with
  | zero => rfl
  | succ k =>
    unfold aRun
    rw [if_neg z]
theorem aBh_st {n : Nat} {A : aA} : ¬ aS (aBehind n A) = 1 ∧ aC (aBehind n A) = aC A := by
  unfold aBehind
  split
  · exact ⟨by show ¬ (2 : Nat) = 1; decide, rfl⟩
  · refine ⟨?_, aC_back⟩
    unfold aBack
    split
    · show ¬ (2 : Nat) = 1; decide
    · show ¬ (if aC A = 20000 then 3 else 0) = 1
      split <;> decide
theorem aG_nx {n : Nat} {A : aA} (hn : n ≤ 10) (h : aG n A) (z : aS A = 1) : aG n (aNx n A) ∧ (aS (aNx n A) = 1 → aC A + 1 ≤ aC (aNx n A)) := by
  obtain ⟨hA, hy, hs, -⟩ := h
  have B1 := aOK_behind hn hA z
  have R1 := aOK_run (A := aBehind n A) hn 20000 _ B1
  have h3 := R1.2.2.1
  have h0 : ¬ aS (aRun n 20000 (aBehind n A)) = 0 := aRun_done hn 20000 _ (by omega) B1
  refine ⟨⟨R1, aSy_run hn _ _ B1 (aSy_behind hA z hy), aSn_run hn _ _ B1 (aSn_behind hA z hs), by unfold aNx; omega⟩, fun q => ?_⟩
  unfold aNx at q ⊢
  by_cases c : aS (aBehind n A) = 0
  · have := aC_run _ _ c q
    rw [aBh_st.2] at this
    exact this
  · rw [aRun_id c] at q
    exact absurd q aBh_st.1
theorem aG_srch {V : Nat → Nat → Int32} {nf nd : Nat} {y of : Int32} (k1 : kF nf V) (k2 : kDd nf nd V) (h2 : 2 ≤ nf) : aG nf (aSrch V nf nd y of) ∧ (aS (aSrch V nf nd y of) = 1 → 1 ≤ aC (aSrch V nf nd y of)) := by
  obtain ⟨A1, A2⟩ := aOK_srch (y := y) (of := of) k1 k2
  have A3 := aSn_srch (y := y) (of := of) k1 k2
  refine ⟨⟨A1, A2, A3, srch_st k1 k2⟩, fun q => ?_⟩
  have hP : ¬ nf * (nf - 1) / 2 = 0 := by
    have e : 2 * 1 ≤ nf * (nf - 1) := Nat.mul_le_mul h2 (show 1 ≤ nf - 1 by omega)
    omega
  unfold aSrch at q ⊢
  by_cases c : aS (aOpen nf (fam V nf nd y (fun d => selV V y d ∧ bitI of d))) = 0
  · have := aC_run _ _ c q
    omega
  · rw [aRun_id c] at q
    refine absurd q ?_
    show ¬ (if nf * (nf - 1) / 2 = 0 then 1 else tst _ 0 2) = 1
    rw [if_neg hP]
    unfold tst
    split <;> decide
def TI (P : Nat) (t : Nat → Nat) : Prop := (∀ x : Nat, t x = 0) ∨ ∀ k : Nat, k < P → ∃ w : Nat, w < 8 ∧ 1 ≤ t (k * 8 + w)
theorem aG_one {n k : Nat} {A : aA} (h : aG n A) (z : aS A = 1) (hk : k < n * (n - 1) / 2) : ∃ w : Nat, w < 8 ∧ aF A (aL A) (pP k) = 2 ^ w := by
  obtain ⟨hA, -, hs, -⟩ := h
  have hL := hA.2.2.2.2.2.2.2.1 z
  exact hs (aL A) (Nat.le_refl _) k (by omega)
theorem tly_TI {n : Nat} {A : aA} {t : Nat → Nat} (h : aG n A) (z : aS A = 1) : TI (n * (n - 1) / 2) (tly (n * (n - 1) / 2) A t) := by
  refine Or.inr (fun k hk => ?_)
  obtain ⟨w, hw, e⟩ := aG_one h z hk
  refine ⟨w, hw, ?_⟩
  have e1 : (k * 8 + w) / 8 = k := by omega
  have e2 : (k * 8 + w) % 8 = w := by omega
  unfold tly
  rw [e1, e2, if_pos ⟨hk, e⟩]
  omega
theorem tmn_all {n : Nat} (hn : n ≤ 10) : ∀ (f : Nat) (A : aA) (t : Nat → Nat) (i : Nat), aG n A → (aS A = 1 → 20001 ≤ aC A + f) → (∀ x : Nat, t x ≤ i) → TI (n * (n - 1) / 2) t → (∀ x : Nat, (tmn n f A t).1 x ≤ i + f) ∧ TI (n * (n - 1) / 2) (tmn n f A t).1 ∧ (aS (tmn n f A t).2 = 2 ∨ aS (tmn n f A t).2 = 3)
  | 0, A, t, i, hA, hf, hi, ht => by
    refine ⟨hi, ht, ?_⟩
    show aS A = 2 ∨ aS A = 3
    have c := hA.1.1
    rcases hA.2.2.2 with q | q | q
    · have := hf q
      omega
    · exact Or.inl q
    · exact Or.inr q
  | f + 1, A, t, i, hA, hf, hi, ht => by
    unfold tmn
    by_cases z : aS A = 1
    · rw [if_pos z]
      obtain ⟨g1, g2⟩ := aG_nx hn hA z
      have q := tmn_all hn f (aNx n A) (tly (n * (n - 1) / 2) A t) (i + 1) g1 (fun c => by have := g2 c; have := hf z; omega) (fun x => by have := hi x; have := (tly_le (P := n * (n - 1) / 2) (A := A) (t := t) (x := x)).2; omega) (tly_TI hA z)
      rw [show i + (f + 1) = i + 1 + f by omega]
      exact q
    · rw [if_neg z]
      refine ⟨fun x => Nat.le_trans (hi x) (by omega), ht, ?_⟩
      rcases hA.2.2.2 with q | q | q
      · exact absurd q z
      · exact Or.inl q
      · exact Or.inr q
section ZST
variable {g : Nat → Nat} {B SL m n : Nat} {h h' : zMem} {H : zH} {T : zT} {Λ K : zL} {κ : Bool} {ρ ρ' : Nat → Int32} {t : Nat → Nat} {A : aA} {y : Int32}
/-- the class counts one telling -/
theorem JP.ctl (j : JP g B SL h H T Λ K κ ρ ρ') {i : Nat} {v5 : Value} {e0 : Int32} (hr : rCS h (B + 132) (zF Λ) A) (hA : aG (zF Λ) A) (st : aS A = 1) (h2 : 2 ≤ zF Λ) (h4 : zF Λ ≤ 4) (ht : ∀ x : Nat, x < 48 → gI h (B + 144) x = nI (t x) ∧ t x ≤ 20000) : ∃ (h' : zMem) (v : Value), ev g DC_tallyTellings 71 [.ref B, .int y, .int e0, .int (nI i), .int (nI 0), v5] [] h = ev g DC_tallyTellings 134 [.ref B, .int y, .int e0, .int (nI i), .int (nI (zF Λ * (zF Λ - 1) / 2)), v] [] h' ∧ sam (B + 144) (B + 144) h h' ∧ ∀ x : Nat, x < 48 → gI h' (B + 144) x = nI (tly (zF Λ * (zF Λ - 1) / 2) A t x) := by
  have n10 : zF Λ ≤ 10 := by omega
  have hP : 0 < zF Λ * (zF Λ - 1) / 2 ∧ zF Λ * (zF Λ - 1) / 2 ≤ 6 := by
    have : zF Λ = 2 ∨ zF Λ = 3 ∨ zF Λ = 4 := by omega
    rcases this with e | e | e <;> rw [e] <;> decide
  obtain ⟨f, ats, tr, p1, p2, p3, p4, p5, p6, p7, p8, p9⟩ := hr
  obtain ⟨mk, w1, w2, -⟩ := p9 (by rw [st]; decide) hP.1
  have d6 := j.2.2.1.1.2.2.2.2.2.1
  have cp := j.2.2.1.1.2.2.2.2.2.2.1.1
  obtain ⟨v, h', e1, s, f1⟩ := l_loop (g := g) (M := DC_tallyTellings) (pc := 71) (st := []) (n := zF Λ * (zF Λ - 1) / 2) (fun k (v : Value) => [.ref B, .int y, .int e0, .int (nI i), .int (nI k), v]) (fun k _ h' => sam (B + 144) (B + 144) h h' ∧ ∀ x : Nat, x < 48 → gI h' (B + 144) x = nI (tly k A t x)) (fun k v h' hk hh => by
    obtain ⟨s, f1⟩ := hh
    obtain ⟨w, hw, ew⟩ := aG_one hA st hk
    have k45 : k < 45 := by omega
    obtain ⟨q1, q2⟩ := pP_lt k45
    have q3 := (pP_n n10 k45).2 hk
    have ep : pP k / 10 * 10 + pP k % 10 = pP k := by omega
    have vv := (p1.2.1 (pP k) (by omega)).1
    dsimp only at vv
    have ww := w2 (pP k / 10) (pP k % 10) (by omega) q3 (by omega)
    rw [ep] at ww
    rw [ww, ew] at vv
    have vv' := (s.2.2.2.2.2.1 _ _ (by omega)).trans vv
    have P5 := (s.2.2.2.2.2.1 (B + 132) 5 (by omega)).trans p7
    have cp' := s.cp (by have := j.2.1.2.1; omega) cp
    have pk := cp'.2.2 k k45
    have ck := cp'.1
    have cl := cp'.2.1
    have o1 := s.dc j.dc
    have d6' := s.sr d6
    have u1 := d6'.1
    have u2 := d6'.2.1
    have u3 := d6'.2.2.2.2.2.2.2.2.1
    have u4 := d6'.2.2.2.2.2.2.2.2.2.1
    have u5 := d6'.2.2.2.2.2.2.2.2.2.2.2.2.2.2.2.1
    have u6 := d6'.2.2.2.2.2.2.2.2.2.2.2.2.2.2.2.2.1
    have hlt : (k < zF Λ * (zF Λ - 1) / 2) = True := eq_true hk
    generalize zF Λ * (zF Λ - 1) / 2 = P at *
    have vt := f1 (k * 8 + w) (by omega)
    obtain ⟨t1, t2⟩ := tly_s (t := t) hw ew
    have b1 := (ht (k * 8 + w) (by omega)).2
    have b2 := (tly_le (P := k) (A := A) (t := t) (x := k * 8 + w)).2
    refine ⟨.int (nI w), sI h' (B + 144) (k * 8 + w) (nI (tly k A t (k * 8 + w) + 1)), ?_, s.aI (by omega), fun x hx => ?_⟩
    · show ev g DC_tallyTellings 71 [.ref B, .int y, .int e0, .int (nI i), .int (nI k), v] [] h' = ev g DC_tallyTellings 71 [.ref B, .int y, .int e0, .int (nI i), .int (nI (k + 1)), .int (nI w)] [] _
      rw [s_DC_tallyTellings_71]
      simp (disch := omega) only [s_DC_tallyTellings_0, s_DC_tallyTellings_1, s_DC_tallyTellings_4, s_DC_tallyTellings_7, s_DC_tallyTellings_8, s_DC_tallyTellings_11, s_DC_tallyTellings_12, s_DC_tallyTellings_15, s_DC_tallyTellings_18, s_DC_tallyTellings_19, s_DC_tallyTellings_22, s_DC_tallyTellings_23, s_DC_tallyTellings_24, s_DC_tallyTellings_25, s_DC_tallyTellings_26, s_DC_tallyTellings_27, s_DC_tallyTellings_28, s_DC_tallyTellings_31, s_DC_tallyTellings_32, s_DC_tallyTellings_35, s_DC_tallyTellings_36, s_DC_tallyTellings_39, s_DC_tallyTellings_40, s_DC_tallyTellings_41, s_DC_tallyTellings_42, s_DC_tallyTellings_45, s_DC_tallyTellings_48, s_DC_tallyTellings_49, s_DC_tallyTellings_50, s_DC_tallyTellings_53, s_DC_tallyTellings_54, s_DC_tallyTellings_55, s_DC_tallyTellings_56, s_DC_tallyTellings_57, s_DC_tallyTellings_60, s_DC_tallyTellings_63, s_DC_tallyTellings_64, s_DC_tallyTellings_65, s_DC_tallyTellings_68, s_DC_tallyTellings_69, s_DC_tallyTellings_73, s_DC_tallyTellings_74, s_DC_tallyTellings_77, s_DC_tallyTellings_80, s_DC_tallyTellings_83, s_DC_tallyTellings_84, s_DC_tallyTellings_87, s_DC_tallyTellings_90, s_DC_tallyTellings_93, s_DC_tallyTellings_96, s_DC_tallyTellings_98, s_DC_tallyTellings_99, s_DC_tallyTellings_100, s_DC_tallyTellings_103, s_DC_tallyTellings_105, s_DC_tallyTellings_107, s_DC_tallyTellings_108, s_DC_tallyTellings_111, s_DC_tallyTellings_112, s_DC_tallyTellings_115, s_DC_tallyTellings_117, s_DC_tallyTellings_119, s_DC_tallyTellings_120, s_DC_tallyTellings_122, s_DC_tallyTellings_123, s_DC_tallyTellings_124, s_DC_tallyTellings_125, s_DC_tallyTellings_126, s_DC_tallyTellings_127, s_DC_tallyTellings_128, s_DC_tallyTellings_131, s_DC_tallyTellings_135, s_DC_tallyTellings_138, s_DC_tallyTellings_141, s_DC_tallyTellings_142, s_DC_tallyTellings_145, s_DC_tallyTellings_148, s_DC_tallyTellings_149, s_DC_tallyTellings_150, s_DC_tallyTellings_153, s_DC_tallyTellings_154, s_DC_tallyTellings_157, s_DC_tallyTellings_158, y_kd_sI, y_kd_sL, y_kd_sR, y_kd_cpI, y_kd_cpL, y_ln_sI, y_ln_sL, y_ln_sR, y_ln_cpI, y_ln_cpL, y_sz_sI, y_sz_sL, y_sz_sR, y_sz_cpI, y_sz_cpL, y_sl_sI, y_sl_sL, y_sl_sR, y_sl_cpI, y_sl_cpL, y_gI_sL, y_gI_sR, y_gI_cpI, y_gI_cpL, y_gI_nw, y_gL_sI, y_gL_sR, y_gL_cpI, y_gL_cpL, y_gL_nw, y_gR_sI, y_gR_sL, y_gR_cpI, y_gR_cpL, y_gR_nw, y_kd_nw, y_ln_nw, y_sz_nw, y_sl_nw, y_fx_int, y_fx_long, y_fx_ref, y_fx_null, y_fx_U, y_rf_s, y_rf_n, a_inb, a_ix, a_lt, a_eq, a_eq0, a_lt0, a_0lt, a_m1, a_m2, a_mlt, a_sub, a_dec, a_div, a_rem, a_shl, a_shr, a_bit, a_bit0, a_II, a_Ia, a_Ik, a_LL, a_La, a_Lk, a_RR, a_Ra, a_Rk, a_if0, a_if1, y_mul, y_and, y_or, nI_add, y_b1, y_b0, kon_v, kon_0, true_or, or_true, and_self, true_and, and_true, false_or, or_false, and_false, false_and, not_true_eq_false, not_false_eq_true, ite_self, ↓reduceIte, Nat.reduceEqDiff, Nat.reduceLeDiff, Nat.reduceAdd, Nat.reduceMul, Nat.reduceSub, Nat.reduceLT, Nat.reduceShiftLeft, Nat.reduceOr, Nat.reduceAnd, Bool.false_eq_true, b_if, b_z1, b_z0, b_zz, b_a1, b_a0, b_lc, b_zF, b_zT, b_lbit, dc_k o1, dc_r0 o1, dc_r1 o1, dc_r2 o1, dc_r3 o1, dc_r5 o1, dc_r6 o1, dc_r7 o1, dc_r8 o1, dc_r9 o1, dc_k1 o1, dc_l1 o1, dc_k19 o1, dc_l19 o1, dc_k21 o1, dc_l21 o1, dc_k22 o1, dc_l22 o1, dc_k131 o1, dc_l131 o1, dc_k142 o1, dc_l142 o1, dc_k143 o1, dc_l143 o1, dc_k144 o1, dc_l144 o1, dc_k18 o1, dc_r18 o1, dc_k20 o1, dc_r20_0 o1, dc_r20_1 o1, dc_k141 o1, dc_r141_5 o1, dc_r141_6 o1, dc_s o1, dc_sk o1, dc_sr o1, dc_ek o1, dc_el o1, u1, u2, u3, u4, u5, u6, P5, hlt, ck, cl, pk, vv', q_only1 hw, vt]
    · by_cases c : x = k * 8 + w
      · rw [c, a_II, t1]
      · rw [a_Ik c, f1 x hx, t2 x c]) (zF Λ * (zF Λ - 1) / 2) 0 v5 h (by omega) ⟨sam.rf, fun x hx => by rw [tly_0]; exact (ht x hx).1⟩
  refine ⟨h', v, e1.trans ?_, s, f1⟩
  have P5 := (s.2.2.2.2.2.1 (B + 132) 5 (by omega)).trans p7
  have o1 := s.dc j.dc
  have u1 := (s.sr d6).1
  generalize zF Λ * (zF Λ - 1) / 2 = P at *
  rw [s_DC_tallyTellings_71]
  simp (disch := omega) only [s_DC_tallyTellings_0, s_DC_tallyTellings_1, s_DC_tallyTellings_4, s_DC_tallyTellings_7, s_DC_tallyTellings_8, s_DC_tallyTellings_11, s_DC_tallyTellings_12, s_DC_tallyTellings_15, s_DC_tallyTellings_18, s_DC_tallyTellings_19, s_DC_tallyTellings_22, s_DC_tallyTellings_23, s_DC_tallyTellings_24, s_DC_tallyTellings_25, s_DC_tallyTellings_26, s_DC_tallyTellings_27, s_DC_tallyTellings_28, s_DC_tallyTellings_31, s_DC_tallyTellings_32, s_DC_tallyTellings_35, s_DC_tallyTellings_36, s_DC_tallyTellings_39, s_DC_tallyTellings_40, s_DC_tallyTellings_41, s_DC_tallyTellings_42, s_DC_tallyTellings_45, s_DC_tallyTellings_48, s_DC_tallyTellings_49, s_DC_tallyTellings_50, s_DC_tallyTellings_53, s_DC_tallyTellings_54, s_DC_tallyTellings_55, s_DC_tallyTellings_56, s_DC_tallyTellings_57, s_DC_tallyTellings_60, s_DC_tallyTellings_63, s_DC_tallyTellings_64, s_DC_tallyTellings_65, s_DC_tallyTellings_68, s_DC_tallyTellings_69, s_DC_tallyTellings_73, s_DC_tallyTellings_74, s_DC_tallyTellings_77, s_DC_tallyTellings_80, s_DC_tallyTellings_83, s_DC_tallyTellings_84, s_DC_tallyTellings_87, s_DC_tallyTellings_90, s_DC_tallyTellings_93, s_DC_tallyTellings_96, s_DC_tallyTellings_98, s_DC_tallyTellings_99, s_DC_tallyTellings_100, s_DC_tallyTellings_103, s_DC_tallyTellings_105, s_DC_tallyTellings_107, s_DC_tallyTellings_108, s_DC_tallyTellings_111, s_DC_tallyTellings_112, s_DC_tallyTellings_115, s_DC_tallyTellings_117, s_DC_tallyTellings_119, s_DC_tallyTellings_120, s_DC_tallyTellings_122, s_DC_tallyTellings_123, s_DC_tallyTellings_124, s_DC_tallyTellings_125, s_DC_tallyTellings_126, s_DC_tallyTellings_127, s_DC_tallyTellings_128, s_DC_tallyTellings_131, s_DC_tallyTellings_135, s_DC_tallyTellings_138, s_DC_tallyTellings_141, s_DC_tallyTellings_142, s_DC_tallyTellings_145, s_DC_tallyTellings_148, s_DC_tallyTellings_149, s_DC_tallyTellings_150, s_DC_tallyTellings_153, s_DC_tallyTellings_154, s_DC_tallyTellings_157, s_DC_tallyTellings_158, y_kd_sI, y_kd_sL, y_kd_sR, y_kd_cpI, y_kd_cpL, y_ln_sI, y_ln_sL, y_ln_sR, y_ln_cpI, y_ln_cpL, y_sz_sI, y_sz_sL, y_sz_sR, y_sz_cpI, y_sz_cpL, y_sl_sI, y_sl_sL, y_sl_sR, y_sl_cpI, y_sl_cpL, y_gI_sL, y_gI_sR, y_gI_cpI, y_gI_cpL, y_gI_nw, y_gL_sI, y_gL_sR, y_gL_cpI, y_gL_cpL, y_gL_nw, y_gR_sI, y_gR_sL, y_gR_cpI, y_gR_cpL, y_gR_nw, y_kd_nw, y_ln_nw, y_sz_nw, y_sl_nw, y_fx_int, y_fx_long, y_fx_ref, y_fx_null, y_fx_U, y_rf_s, y_rf_n, a_inb, a_ix, a_lt, a_eq, a_eq0, a_lt0, a_0lt, a_m1, a_m2, a_mlt, a_sub, a_dec, a_div, a_rem, a_shl, a_shr, a_bit, a_bit0, a_II, a_Ia, a_Ik, a_LL, a_La, a_Lk, a_RR, a_Ra, a_Rk, a_if0, a_if1, y_mul, y_and, y_or, nI_add, y_b1, y_b0, kon_v, kon_0, true_or, or_true, and_self, true_and, and_true, false_or, or_false, and_false, false_and, not_true_eq_false, not_false_eq_true, ite_self, ↓reduceIte, Nat.reduceEqDiff, Nat.reduceLeDiff, Nat.reduceAdd, Nat.reduceMul, Nat.reduceSub, Nat.reduceLT, Nat.reduceShiftLeft, Nat.reduceOr, Nat.reduceAnd, Bool.false_eq_true, b_if, b_z1, b_z0, b_zz, b_a1, b_a0, b_lc, b_zF, b_zT, b_lbit, dc_k o1, dc_r0 o1, dc_r1 o1, dc_r2 o1, dc_r3 o1, dc_r5 o1, dc_r6 o1, dc_r7 o1, dc_r8 o1, dc_r9 o1, dc_k1 o1, dc_l1 o1, dc_k19 o1, dc_l19 o1, dc_k21 o1, dc_l21 o1, dc_k22 o1, dc_l22 o1, dc_k131 o1, dc_l131 o1, dc_k142 o1, dc_l142 o1, dc_k143 o1, dc_l143 o1, dc_k144 o1, dc_l144 o1, dc_k18 o1, dc_r18 o1, dc_k20 o1, dc_r20_0 o1, dc_r20_1 o1, dc_k141 o1, dc_r141_5 o1, dc_r141_6 o1, dc_s o1, dc_sk o1, dc_sr o1, dc_ek o1, dc_el o1, u1, P5, Nat.lt_irrefl]
theorem l_tly_c : ∀ (f i : Nat) (h : zMem) (A : aA) (t : Nat → Nat) (v4 v5 : Value), i + f = 20000 → 2 ≤ zF Λ → zF Λ ≤ 4 → JP g B SL h H T Λ K κ ρ ρ' → rCS h (B + 132) (zF Λ) A → aG (zF Λ) A → (aS A = 1 → 20001 ≤ aC A + f) → (∀ x : Nat, x < 48 → gI h (B + 144) x = nI (t x) ∧ t x ≤ i) →
    ∃ h' : zMem, ev g DC_tallyTellings 56 [.ref B, .int y, .int (nI (aS A)), .int (nI i), v4, v5] [] h = some (some (.int (if aS (tmn (zF Λ) f A t).2 = 2 then nI 1 else nI 0)), h') ∧ JP g B SL h' H T Λ K κ ρ ρ' ∧ (∀ x : Nat, x < 48 → gI h' (B + 144) x = nI ((tmn (zF Λ) f A t).1 x)) ∧ gI h' (B + 132) 5 = nI (zF Λ * (zF Λ - 1) / 2) := by
  intro f
  induction f with
  | zero =>
    intro i h A t v4 v5 hi h2 h4 j hr hA hf ht
    have ca := hA.1.1
    refine ⟨h, ?_, j, fun x hx => (ht x hx).1, by obtain ⟨_, _, _, _, _, _, _, _, _, p7, _⟩ := hr; exact p7⟩
    show _ = some (some (Value.int (if aS A = 2 then nI 1 else nI 0)), h)
    have lt : (i < 20000) = False := eq_false (by omega)
    rcases hA.2.2.2 with q | q | q
    · have := hf q; omega
    · rw [q, s_DC_tallyTellings_56]
      simp (disch := omega) only [s_DC_tallyTellings_0, s_DC_tallyTellings_1, s_DC_tallyTellings_4, s_DC_tallyTellings_7, s_DC_tallyTellings_8, s_DC_tallyTellings_11, s_DC_tallyTellings_12, s_DC_tallyTellings_15, s_DC_tallyTellings_18, s_DC_tallyTellings_19, s_DC_tallyTellings_22, s_DC_tallyTellings_23, s_DC_tallyTellings_24, s_DC_tallyTellings_25, s_DC_tallyTellings_26, s_DC_tallyTellings_27, s_DC_tallyTellings_28, s_DC_tallyTellings_31, s_DC_tallyTellings_32, s_DC_tallyTellings_35, s_DC_tallyTellings_36, s_DC_tallyTellings_39, s_DC_tallyTellings_40, s_DC_tallyTellings_41, s_DC_tallyTellings_42, s_DC_tallyTellings_45, s_DC_tallyTellings_48, s_DC_tallyTellings_49, s_DC_tallyTellings_50, s_DC_tallyTellings_53, s_DC_tallyTellings_54, s_DC_tallyTellings_55, s_DC_tallyTellings_57, s_DC_tallyTellings_60, s_DC_tallyTellings_63, s_DC_tallyTellings_64, s_DC_tallyTellings_65, s_DC_tallyTellings_68, s_DC_tallyTellings_69, s_DC_tallyTellings_71, s_DC_tallyTellings_73, s_DC_tallyTellings_74, s_DC_tallyTellings_77, s_DC_tallyTellings_80, s_DC_tallyTellings_83, s_DC_tallyTellings_84, s_DC_tallyTellings_87, s_DC_tallyTellings_90, s_DC_tallyTellings_93, s_DC_tallyTellings_96, s_DC_tallyTellings_98, s_DC_tallyTellings_99, s_DC_tallyTellings_100, s_DC_tallyTellings_103, s_DC_tallyTellings_105, s_DC_tallyTellings_107, s_DC_tallyTellings_108, s_DC_tallyTellings_111, s_DC_tallyTellings_112, s_DC_tallyTellings_115, s_DC_tallyTellings_117, s_DC_tallyTellings_119, s_DC_tallyTellings_120, s_DC_tallyTellings_122, s_DC_tallyTellings_123, s_DC_tallyTellings_124, s_DC_tallyTellings_125, s_DC_tallyTellings_126, s_DC_tallyTellings_127, s_DC_tallyTellings_128, s_DC_tallyTellings_131, s_DC_tallyTellings_134, s_DC_tallyTellings_135, s_DC_tallyTellings_138, s_DC_tallyTellings_141, s_DC_tallyTellings_142, s_DC_tallyTellings_145, s_DC_tallyTellings_148, s_DC_tallyTellings_149, s_DC_tallyTellings_150, s_DC_tallyTellings_153, s_DC_tallyTellings_154, s_DC_tallyTellings_157, s_DC_tallyTellings_158, y_kd_sI, y_kd_sL, y_kd_sR, y_kd_cpI, y_kd_cpL, y_ln_sI, y_ln_sL, y_ln_sR, y_ln_cpI, y_ln_cpL, y_sz_sI, y_sz_sL, y_sz_sR, y_sz_cpI, y_sz_cpL, y_sl_sI, y_sl_sL, y_sl_sR, y_sl_cpI, y_sl_cpL, y_gI_sL, y_gI_sR, y_gI_cpI, y_gI_cpL, y_gI_nw, y_gL_sI, y_gL_sR, y_gL_cpI, y_gL_cpL, y_gL_nw, y_gR_sI, y_gR_sL, y_gR_cpI, y_gR_cpL, y_gR_nw, y_kd_nw, y_ln_nw, y_sz_nw, y_sl_nw, y_fx_int, y_fx_long, y_fx_ref, y_fx_null, y_fx_U, y_rf_s, y_rf_n, a_inb, a_ix, a_lt, a_eq, a_eq0, a_lt0, a_0lt, a_m1, a_m2, a_mlt, a_sub, a_dec, a_div, a_rem, a_shl, a_shr, a_bit, a_bit0, a_II, a_Ia, a_Ik, a_LL, a_La, a_Lk, a_RR, a_Ra, a_Rk, a_if0, a_if1, y_mul, y_and, y_or, nI_add, y_b1, y_b0, kon_v, kon_0, true_or, or_true, and_self, true_and, and_true, false_or, or_false, and_false, false_and, not_true_eq_false, not_false_eq_true, ite_self, ↓reduceIte, Nat.reduceEqDiff, Nat.reduceLeDiff, Nat.reduceAdd, Nat.reduceMul, Nat.reduceSub, Nat.reduceLT, Nat.reduceShiftLeft, Nat.reduceOr, Nat.reduceAnd, Bool.false_eq_true, b_if, b_z1, b_z0, b_zz, b_a1, b_a0, b_lc, b_zF, b_zT, b_lbit, lt]
    · rw [q, s_DC_tallyTellings_56]
      simp (disch := omega) only [s_DC_tallyTellings_0, s_DC_tallyTellings_1, s_DC_tallyTellings_4, s_DC_tallyTellings_7, s_DC_tallyTellings_8, s_DC_tallyTellings_11, s_DC_tallyTellings_12, s_DC_tallyTellings_15, s_DC_tallyTellings_18, s_DC_tallyTellings_19, s_DC_tallyTellings_22, s_DC_tallyTellings_23, s_DC_tallyTellings_24, s_DC_tallyTellings_25, s_DC_tallyTellings_26, s_DC_tallyTellings_27, s_DC_tallyTellings_28, s_DC_tallyTellings_31, s_DC_tallyTellings_32, s_DC_tallyTellings_35, s_DC_tallyTellings_36, s_DC_tallyTellings_39, s_DC_tallyTellings_40, s_DC_tallyTellings_41, s_DC_tallyTellings_42, s_DC_tallyTellings_45, s_DC_tallyTellings_48, s_DC_tallyTellings_49, s_DC_tallyTellings_50, s_DC_tallyTellings_53, s_DC_tallyTellings_54, s_DC_tallyTellings_55, s_DC_tallyTellings_57, s_DC_tallyTellings_60, s_DC_tallyTellings_63, s_DC_tallyTellings_64, s_DC_tallyTellings_65, s_DC_tallyTellings_68, s_DC_tallyTellings_69, s_DC_tallyTellings_71, s_DC_tallyTellings_73, s_DC_tallyTellings_74, s_DC_tallyTellings_77, s_DC_tallyTellings_80, s_DC_tallyTellings_83, s_DC_tallyTellings_84, s_DC_tallyTellings_87, s_DC_tallyTellings_90, s_DC_tallyTellings_93, s_DC_tallyTellings_96, s_DC_tallyTellings_98, s_DC_tallyTellings_99, s_DC_tallyTellings_100, s_DC_tallyTellings_103, s_DC_tallyTellings_105, s_DC_tallyTellings_107, s_DC_tallyTellings_108, s_DC_tallyTellings_111, s_DC_tallyTellings_112, s_DC_tallyTellings_115, s_DC_tallyTellings_117, s_DC_tallyTellings_119, s_DC_tallyTellings_120, s_DC_tallyTellings_122, s_DC_tallyTellings_123, s_DC_tallyTellings_124, s_DC_tallyTellings_125, s_DC_tallyTellings_126, s_DC_tallyTellings_127, s_DC_tallyTellings_128, s_DC_tallyTellings_131, s_DC_tallyTellings_134, s_DC_tallyTellings_135, s_DC_tallyTellings_138, s_DC_tallyTellings_141, s_DC_tallyTellings_142, s_DC_tallyTellings_145, s_DC_tallyTellings_148, s_DC_tallyTellings_149, s_DC_tallyTellings_150, s_DC_tallyTellings_153, s_DC_tallyTellings_154, s_DC_tallyTellings_157, s_DC_tallyTellings_158, y_kd_sI, y_kd_sL, y_kd_sR, y_kd_cpI, y_kd_cpL, y_ln_sI, y_ln_sL, y_ln_sR, y_ln_cpI, y_ln_cpL, y_sz_sI, y_sz_sL, y_sz_sR, y_sz_cpI, y_sz_cpL, y_sl_sI, y_sl_sL, y_sl_sR, y_sl_cpI, y_sl_cpL, y_gI_sL, y_gI_sR, y_gI_cpI, y_gI_cpL, y_gI_nw, y_gL_sI, y_gL_sR, y_gL_cpI, y_gL_cpL, y_gL_nw, y_gR_sI, y_gR_sL, y_gR_cpI, y_gR_cpL, y_gR_nw, y_kd_nw, y_ln_nw, y_sz_nw, y_sl_nw, y_fx_int, y_fx_long, y_fx_ref, y_fx_null, y_fx_U, y_rf_s, y_rf_n, a_inb, a_ix, a_lt, a_eq, a_eq0, a_lt0, a_0lt, a_m1, a_m2, a_mlt, a_sub, a_dec, a_div, a_rem, a_shl, a_shr, a_bit, a_bit0, a_II, a_Ia, a_Ik, a_LL, a_La, a_Lk, a_RR, a_Ra, a_Rk, a_if0, a_if1, y_mul, y_and, y_or, nI_add, y_b1, y_b0, kon_v, kon_0, true_or, or_true, and_self, true_and, and_true, false_or, or_false, and_false, false_and, not_true_eq_false, not_false_eq_true, ite_self, ↓reduceIte, Nat.reduceEqDiff, Nat.reduceLeDiff, Nat.reduceAdd, Nat.reduceMul, Nat.reduceSub, Nat.reduceLT, Nat.reduceShiftLeft, Nat.reduceOr, Nat.reduceAnd, Bool.false_eq_true, b_if, b_z1, b_z0, b_zz, b_a1, b_a0, b_lc, b_zF, b_zT, b_lbit, lt]
  | succ f ih =>
    intro i h A t v4 v5 hi h2 h4 j hr hA hf ht
    have n10 : zF Λ ≤ 10 := by omega
    have lt : (i < 20000) = True := eq_true (by omega)
    by_cases z : aS A = 1
    · obtain ⟨g1, g2⟩ := aG_nx n10 hA z
      obtain ⟨h1, v, e1, s1, f1⟩ := j.ctl (y := y) (i := i) (v5 := v5) (e0 := nI 1) hr hA z h2 h4 (fun x hx => ⟨(ht x hx).1, by have := (ht x hx).2; omega⟩)
      have j1 := j.cs s1 (by omega) (by omega)
      obtain ⟨h3, e3, r3, -, s3, j3⟩ := j1.cbh (rCS_fr (s1.out (by omega)) hr) hA.1 z
      obtain ⟨h5, e5, j5, f5⟩ := ih (i + 1) h3 (aNx (zF Λ) A) (tly (zF Λ * (zF Λ - 1) / 2) A t) (.int (nI (zF Λ * (zF Λ - 1) / 2))) v (by omega) h2 h4 j3 r3 g1 (fun c => by have := g2 c; have := hf z; omega) (fun x hx => ⟨(s3.2.2.2.2.2.1 _ _ (by omega)).trans (f1 x hx), by have := (ht x hx).2; have := (tly_le (P := zF Λ * (zF Λ - 1) / 2) (A := A) (t := t) (x := x)).2; omega⟩)
      have et : tmn (zF Λ) (f + 1) A t = tmn (zF Λ) f (aNx (zF Λ) A) (tly (zF Λ * (zF Λ - 1) / 2) A t) := by
        show (if aS A = 1 then _ else _) = _
        rw [if_pos z]
      rw [et]
      refine ⟨h5, ?_, j5, f5⟩
      rw [← e5]
      have u1 := j1.2.2.1.1.2.2.2.2.2.1.1
      have o1 := j1.dc
      have go : ev g DC_tallyTellings 56 [.ref B, .int y, .int (nI (aS A)), .int (nI i), v4, v5] [] h = ev g DC_tallyTellings 71 [.ref B, .int y, .int (nI 1), .int (nI i), .int (nI 0), v5] [] h := by
        rw [z, s_DC_tallyTellings_56]
        simp (disch := omega) only [s_DC_tallyTellings_0, s_DC_tallyTellings_1, s_DC_tallyTellings_4, s_DC_tallyTellings_7, s_DC_tallyTellings_8, s_DC_tallyTellings_11, s_DC_tallyTellings_12, s_DC_tallyTellings_15, s_DC_tallyTellings_18, s_DC_tallyTellings_19, s_DC_tallyTellings_22, s_DC_tallyTellings_23, s_DC_tallyTellings_24, s_DC_tallyTellings_25, s_DC_tallyTellings_26, s_DC_tallyTellings_27, s_DC_tallyTellings_28, s_DC_tallyTellings_31, s_DC_tallyTellings_32, s_DC_tallyTellings_35, s_DC_tallyTellings_36, s_DC_tallyTellings_39, s_DC_tallyTellings_40, s_DC_tallyTellings_41, s_DC_tallyTellings_42, s_DC_tallyTellings_45, s_DC_tallyTellings_48, s_DC_tallyTellings_49, s_DC_tallyTellings_50, s_DC_tallyTellings_53, s_DC_tallyTellings_54, s_DC_tallyTellings_55, s_DC_tallyTellings_57, s_DC_tallyTellings_60, s_DC_tallyTellings_63, s_DC_tallyTellings_64, s_DC_tallyTellings_65, s_DC_tallyTellings_68, s_DC_tallyTellings_69, s_DC_tallyTellings_73, s_DC_tallyTellings_74, s_DC_tallyTellings_77, s_DC_tallyTellings_80, s_DC_tallyTellings_83, s_DC_tallyTellings_84, s_DC_tallyTellings_87, s_DC_tallyTellings_90, s_DC_tallyTellings_93, s_DC_tallyTellings_96, s_DC_tallyTellings_98, s_DC_tallyTellings_99, s_DC_tallyTellings_100, s_DC_tallyTellings_103, s_DC_tallyTellings_105, s_DC_tallyTellings_107, s_DC_tallyTellings_108, s_DC_tallyTellings_111, s_DC_tallyTellings_112, s_DC_tallyTellings_115, s_DC_tallyTellings_117, s_DC_tallyTellings_119, s_DC_tallyTellings_120, s_DC_tallyTellings_122, s_DC_tallyTellings_123, s_DC_tallyTellings_124, s_DC_tallyTellings_125, s_DC_tallyTellings_126, s_DC_tallyTellings_127, s_DC_tallyTellings_128, s_DC_tallyTellings_131, s_DC_tallyTellings_134, s_DC_tallyTellings_135, s_DC_tallyTellings_138, s_DC_tallyTellings_141, s_DC_tallyTellings_142, s_DC_tallyTellings_145, s_DC_tallyTellings_148, s_DC_tallyTellings_149, s_DC_tallyTellings_150, s_DC_tallyTellings_153, s_DC_tallyTellings_154, s_DC_tallyTellings_157, s_DC_tallyTellings_158, y_kd_sI, y_kd_sL, y_kd_sR, y_kd_cpI, y_kd_cpL, y_ln_sI, y_ln_sL, y_ln_sR, y_ln_cpI, y_ln_cpL, y_sz_sI, y_sz_sL, y_sz_sR, y_sz_cpI, y_sz_cpL, y_sl_sI, y_sl_sL, y_sl_sR, y_sl_cpI, y_sl_cpL, y_gI_sL, y_gI_sR, y_gI_cpI, y_gI_cpL, y_gI_nw, y_gL_sI, y_gL_sR, y_gL_cpI, y_gL_cpL, y_gL_nw, y_gR_sI, y_gR_sL, y_gR_cpI, y_gR_cpL, y_gR_nw, y_kd_nw, y_ln_nw, y_sz_nw, y_sl_nw, y_fx_int, y_fx_long, y_fx_ref, y_fx_null, y_fx_U, y_rf_s, y_rf_n, a_inb, a_ix, a_lt, a_eq, a_eq0, a_lt0, a_0lt, a_m1, a_m2, a_mlt, a_sub, a_dec, a_div, a_rem, a_shl, a_shr, a_bit, a_bit0, a_II, a_Ia, a_Ik, a_LL, a_La, a_Lk, a_RR, a_Ra, a_Rk, a_if0, a_if1, y_mul, y_and, y_or, nI_add, y_b1, y_b0, kon_v, kon_0, true_or, or_true, and_self, true_and, and_true, false_or, or_false, and_false, false_and, not_true_eq_false, not_false_eq_true, ite_self, ↓reduceIte, Nat.reduceEqDiff, Nat.reduceLeDiff, Nat.reduceAdd, Nat.reduceMul, Nat.reduceSub, Nat.reduceLT, Nat.reduceShiftLeft, Nat.reduceOr, Nat.reduceAnd, Bool.false_eq_true, b_if, b_z1, b_z0, b_zz, b_a1, b_a0, b_lc, b_zF, b_zT, b_lbit, lt]
      rw [go, e1]
      have e3' : call g Search_runBehind [.ref (B + 132)] h1 = some (some (.int (nI (aS (aNx (zF Λ) A)))), h3) := e3
      simp (disch := omega) only [s_DC_tallyTellings_0, s_DC_tallyTellings_1, s_DC_tallyTellings_4, s_DC_tallyTellings_7, s_DC_tallyTellings_8, s_DC_tallyTellings_11, s_DC_tallyTellings_12, s_DC_tallyTellings_15, s_DC_tallyTellings_18, s_DC_tallyTellings_19, s_DC_tallyTellings_22, s_DC_tallyTellings_23, s_DC_tallyTellings_24, s_DC_tallyTellings_25, s_DC_tallyTellings_26, s_DC_tallyTellings_27, s_DC_tallyTellings_28, s_DC_tallyTellings_31, s_DC_tallyTellings_32, s_DC_tallyTellings_35, s_DC_tallyTellings_36, s_DC_tallyTellings_39, s_DC_tallyTellings_40, s_DC_tallyTellings_41, s_DC_tallyTellings_42, s_DC_tallyTellings_45, s_DC_tallyTellings_48, s_DC_tallyTellings_49, s_DC_tallyTellings_50, s_DC_tallyTellings_53, s_DC_tallyTellings_54, s_DC_tallyTellings_55, s_DC_tallyTellings_57, s_DC_tallyTellings_60, s_DC_tallyTellings_63, s_DC_tallyTellings_64, s_DC_tallyTellings_65, s_DC_tallyTellings_68, s_DC_tallyTellings_69, s_DC_tallyTellings_73, s_DC_tallyTellings_74, s_DC_tallyTellings_77, s_DC_tallyTellings_80, s_DC_tallyTellings_83, s_DC_tallyTellings_84, s_DC_tallyTellings_87, s_DC_tallyTellings_90, s_DC_tallyTellings_93, s_DC_tallyTellings_96, s_DC_tallyTellings_98, s_DC_tallyTellings_99, s_DC_tallyTellings_100, s_DC_tallyTellings_103, s_DC_tallyTellings_105, s_DC_tallyTellings_107, s_DC_tallyTellings_108, s_DC_tallyTellings_111, s_DC_tallyTellings_112, s_DC_tallyTellings_115, s_DC_tallyTellings_117, s_DC_tallyTellings_119, s_DC_tallyTellings_120, s_DC_tallyTellings_122, s_DC_tallyTellings_123, s_DC_tallyTellings_124, s_DC_tallyTellings_125, s_DC_tallyTellings_126, s_DC_tallyTellings_127, s_DC_tallyTellings_128, s_DC_tallyTellings_131, s_DC_tallyTellings_134, s_DC_tallyTellings_135, s_DC_tallyTellings_138, s_DC_tallyTellings_141, s_DC_tallyTellings_142, s_DC_tallyTellings_145, s_DC_tallyTellings_148, s_DC_tallyTellings_149, s_DC_tallyTellings_150, s_DC_tallyTellings_153, s_DC_tallyTellings_154, s_DC_tallyTellings_157, s_DC_tallyTellings_158, y_kd_sI, y_kd_sL, y_kd_sR, y_kd_cpI, y_kd_cpL, y_ln_sI, y_ln_sL, y_ln_sR, y_ln_cpI, y_ln_cpL, y_sz_sI, y_sz_sL, y_sz_sR, y_sz_cpI, y_sz_cpL, y_sl_sI, y_sl_sL, y_sl_sR, y_sl_cpI, y_sl_cpL, y_gI_sL, y_gI_sR, y_gI_cpI, y_gI_cpL, y_gI_nw, y_gL_sI, y_gL_sR, y_gL_cpI, y_gL_cpL, y_gL_nw, y_gR_sI, y_gR_sL, y_gR_cpI, y_gR_cpL, y_gR_nw, y_kd_nw, y_ln_nw, y_sz_nw, y_sl_nw, y_fx_int, y_fx_long, y_fx_ref, y_fx_null, y_fx_U, y_rf_s, y_rf_n, a_inb, a_ix, a_lt, a_eq, a_eq0, a_lt0, a_0lt, a_m1, a_m2, a_mlt, a_sub, a_dec, a_div, a_rem, a_shl, a_shr, a_bit, a_bit0, a_II, a_Ia, a_Ik, a_LL, a_La, a_Lk, a_RR, a_Ra, a_Rk, a_if0, a_if1, y_mul, y_and, y_or, nI_add, y_b1, y_b0, kon_v, kon_0, true_or, or_true, and_self, true_and, and_true, false_or, or_false, and_false, false_and, not_true_eq_false, not_false_eq_true, ite_self, ↓reduceIte, Nat.reduceEqDiff, Nat.reduceLeDiff, Nat.reduceAdd, Nat.reduceMul, Nat.reduceSub, Nat.reduceLT, Nat.reduceShiftLeft, Nat.reduceOr, Nat.reduceAnd, Bool.false_eq_true, b_if, b_z1, b_z0, b_zz, b_a1, b_a0, b_lc, b_zF, b_zT, b_lbit, dc_k o1, dc_r0 o1, dc_r1 o1, dc_r2 o1, dc_r3 o1, dc_r5 o1, dc_r6 o1, dc_r7 o1, dc_r8 o1, dc_r9 o1, dc_k1 o1, dc_l1 o1, dc_k19 o1, dc_l19 o1, dc_k21 o1, dc_l21 o1, dc_k22 o1, dc_l22 o1, dc_k131 o1, dc_l131 o1, dc_k142 o1, dc_l142 o1, dc_k143 o1, dc_l143 o1, dc_k144 o1, dc_l144 o1, dc_k18 o1, dc_r18 o1, dc_k20 o1, dc_r20_0 o1, dc_r20_1 o1, dc_k141 o1, dc_r141_5 o1, dc_r141_6 o1, dc_s o1, dc_sk o1, dc_sr o1, dc_ek o1, dc_el o1, u1, e3']
    · have et : tmn (zF Λ) (f + 1) A t = (t, A) := by
        show (if aS A = 1 then _ else _) = _
        rw [if_neg z]
      rw [et]
      refine ⟨h, ?_, j, fun x hx => (ht x hx).1, by obtain ⟨_, _, _, _, _, _, _, _, _, p7, _⟩ := hr; exact p7⟩
      rcases hA.2.2.2 with q | q | q
      · exact absurd q z
      · rw [q, s_DC_tallyTellings_56]
        simp (disch := omega) only [s_DC_tallyTellings_0, s_DC_tallyTellings_1, s_DC_tallyTellings_4, s_DC_tallyTellings_7, s_DC_tallyTellings_8, s_DC_tallyTellings_11, s_DC_tallyTellings_12, s_DC_tallyTellings_15, s_DC_tallyTellings_18, s_DC_tallyTellings_19, s_DC_tallyTellings_22, s_DC_tallyTellings_23, s_DC_tallyTellings_24, s_DC_tallyTellings_25, s_DC_tallyTellings_26, s_DC_tallyTellings_27, s_DC_tallyTellings_28, s_DC_tallyTellings_31, s_DC_tallyTellings_32, s_DC_tallyTellings_35, s_DC_tallyTellings_36, s_DC_tallyTellings_39, s_DC_tallyTellings_40, s_DC_tallyTellings_41, s_DC_tallyTellings_42, s_DC_tallyTellings_45, s_DC_tallyTellings_48, s_DC_tallyTellings_49, s_DC_tallyTellings_50, s_DC_tallyTellings_53, s_DC_tallyTellings_54, s_DC_tallyTellings_55, s_DC_tallyTellings_57, s_DC_tallyTellings_60, s_DC_tallyTellings_63, s_DC_tallyTellings_64, s_DC_tallyTellings_65, s_DC_tallyTellings_68, s_DC_tallyTellings_69, s_DC_tallyTellings_71, s_DC_tallyTellings_73, s_DC_tallyTellings_74, s_DC_tallyTellings_77, s_DC_tallyTellings_80, s_DC_tallyTellings_83, s_DC_tallyTellings_84, s_DC_tallyTellings_87, s_DC_tallyTellings_90, s_DC_tallyTellings_93, s_DC_tallyTellings_96, s_DC_tallyTellings_98, s_DC_tallyTellings_99, s_DC_tallyTellings_100, s_DC_tallyTellings_103, s_DC_tallyTellings_105, s_DC_tallyTellings_107, s_DC_tallyTellings_108, s_DC_tallyTellings_111, s_DC_tallyTellings_112, s_DC_tallyTellings_115, s_DC_tallyTellings_117, s_DC_tallyTellings_119, s_DC_tallyTellings_120, s_DC_tallyTellings_122, s_DC_tallyTellings_123, s_DC_tallyTellings_124, s_DC_tallyTellings_125, s_DC_tallyTellings_126, s_DC_tallyTellings_127, s_DC_tallyTellings_128, s_DC_tallyTellings_131, s_DC_tallyTellings_134, s_DC_tallyTellings_135, s_DC_tallyTellings_138, s_DC_tallyTellings_141, s_DC_tallyTellings_142, s_DC_tallyTellings_145, s_DC_tallyTellings_148, s_DC_tallyTellings_149, s_DC_tallyTellings_150, s_DC_tallyTellings_153, s_DC_tallyTellings_154, s_DC_tallyTellings_157, s_DC_tallyTellings_158, y_kd_sI, y_kd_sL, y_kd_sR, y_kd_cpI, y_kd_cpL, y_ln_sI, y_ln_sL, y_ln_sR, y_ln_cpI, y_ln_cpL, y_sz_sI, y_sz_sL, y_sz_sR, y_sz_cpI, y_sz_cpL, y_sl_sI, y_sl_sL, y_sl_sR, y_sl_cpI, y_sl_cpL, y_gI_sL, y_gI_sR, y_gI_cpI, y_gI_cpL, y_gI_nw, y_gL_sI, y_gL_sR, y_gL_cpI, y_gL_cpL, y_gL_nw, y_gR_sI, y_gR_sL, y_gR_cpI, y_gR_cpL, y_gR_nw, y_kd_nw, y_ln_nw, y_sz_nw, y_sl_nw, y_fx_int, y_fx_long, y_fx_ref, y_fx_null, y_fx_U, y_rf_s, y_rf_n, a_inb, a_ix, a_lt, a_eq, a_eq0, a_lt0, a_0lt, a_m1, a_m2, a_mlt, a_sub, a_dec, a_div, a_rem, a_shl, a_shr, a_bit, a_bit0, a_II, a_Ia, a_Ik, a_LL, a_La, a_Lk, a_RR, a_Ra, a_Rk, a_if0, a_if1, y_mul, y_and, y_or, nI_add, y_b1, y_b0, kon_v, kon_0, true_or, or_true, and_self, true_and, and_true, false_or, or_false, and_false, false_and, not_true_eq_false, not_false_eq_true, ite_self, ↓reduceIte, Nat.reduceEqDiff, Nat.reduceLeDiff, Nat.reduceAdd, Nat.reduceMul, Nat.reduceSub, Nat.reduceLT, Nat.reduceShiftLeft, Nat.reduceOr, Nat.reduceAnd, Bool.false_eq_true, b_if, b_z1, b_z0, b_zz, b_a1, b_a0, b_lc, b_zF, b_zT, b_lbit, lt, q]
      · rw [q, s_DC_tallyTellings_56]
        simp (disch := omega) only [s_DC_tallyTellings_0, s_DC_tallyTellings_1, s_DC_tallyTellings_4, s_DC_tallyTellings_7, s_DC_tallyTellings_8, s_DC_tallyTellings_11, s_DC_tallyTellings_12, s_DC_tallyTellings_15, s_DC_tallyTellings_18, s_DC_tallyTellings_19, s_DC_tallyTellings_22, s_DC_tallyTellings_23, s_DC_tallyTellings_24, s_DC_tallyTellings_25, s_DC_tallyTellings_26, s_DC_tallyTellings_27, s_DC_tallyTellings_28, s_DC_tallyTellings_31, s_DC_tallyTellings_32, s_DC_tallyTellings_35, s_DC_tallyTellings_36, s_DC_tallyTellings_39, s_DC_tallyTellings_40, s_DC_tallyTellings_41, s_DC_tallyTellings_42, s_DC_tallyTellings_45, s_DC_tallyTellings_48, s_DC_tallyTellings_49, s_DC_tallyTellings_50, s_DC_tallyTellings_53, s_DC_tallyTellings_54, s_DC_tallyTellings_55, s_DC_tallyTellings_57, s_DC_tallyTellings_60, s_DC_tallyTellings_63, s_DC_tallyTellings_64, s_DC_tallyTellings_65, s_DC_tallyTellings_68, s_DC_tallyTellings_69, s_DC_tallyTellings_71, s_DC_tallyTellings_73, s_DC_tallyTellings_74, s_DC_tallyTellings_77, s_DC_tallyTellings_80, s_DC_tallyTellings_83, s_DC_tallyTellings_84, s_DC_tallyTellings_87, s_DC_tallyTellings_90, s_DC_tallyTellings_93, s_DC_tallyTellings_96, s_DC_tallyTellings_98, s_DC_tallyTellings_99, s_DC_tallyTellings_100, s_DC_tallyTellings_103, s_DC_tallyTellings_105, s_DC_tallyTellings_107, s_DC_tallyTellings_108, s_DC_tallyTellings_111, s_DC_tallyTellings_112, s_DC_tallyTellings_115, s_DC_tallyTellings_117, s_DC_tallyTellings_119, s_DC_tallyTellings_120, s_DC_tallyTellings_122, s_DC_tallyTellings_123, s_DC_tallyTellings_124, s_DC_tallyTellings_125, s_DC_tallyTellings_126, s_DC_tallyTellings_127, s_DC_tallyTellings_128, s_DC_tallyTellings_131, s_DC_tallyTellings_134, s_DC_tallyTellings_135, s_DC_tallyTellings_138, s_DC_tallyTellings_141, s_DC_tallyTellings_142, s_DC_tallyTellings_145, s_DC_tallyTellings_148, s_DC_tallyTellings_149, s_DC_tallyTellings_150, s_DC_tallyTellings_153, s_DC_tallyTellings_154, s_DC_tallyTellings_157, s_DC_tallyTellings_158, y_kd_sI, y_kd_sL, y_kd_sR, y_kd_cpI, y_kd_cpL, y_ln_sI, y_ln_sL, y_ln_sR, y_ln_cpI, y_ln_cpL, y_sz_sI, y_sz_sL, y_sz_sR, y_sz_cpI, y_sz_cpL, y_sl_sI, y_sl_sL, y_sl_sR, y_sl_cpI, y_sl_cpL, y_gI_sL, y_gI_sR, y_gI_cpI, y_gI_cpL, y_gI_nw, y_gL_sI, y_gL_sR, y_gL_cpI, y_gL_cpL, y_gL_nw, y_gR_sI, y_gR_sL, y_gR_cpI, y_gR_cpL, y_gR_nw, y_kd_nw, y_ln_nw, y_sz_nw, y_sl_nw, y_fx_int, y_fx_long, y_fx_ref, y_fx_null, y_fx_U, y_rf_s, y_rf_n, a_inb, a_ix, a_lt, a_eq, a_eq0, a_lt0, a_0lt, a_m1, a_m2, a_mlt, a_sub, a_dec, a_div, a_rem, a_shl, a_shr, a_bit, a_bit0, a_II, a_Ia, a_Ik, a_LL, a_La, a_Lk, a_RR, a_Ra, a_Rk, a_if0, a_if1, y_mul, y_and, y_or, nI_add, y_b1, y_b0, kon_v, kon_0, true_or, or_true, and_self, true_and, and_true, false_or, or_false, and_false, false_and, not_true_eq_false, not_false_eq_true, ite_self, ↓reduceIte, Nat.reduceEqDiff, Nat.reduceLeDiff, Nat.reduceAdd, Nat.reduceMul, Nat.reduceSub, Nat.reduceLT, Nat.reduceShiftLeft, Nat.reduceOr, Nat.reduceAnd, Bool.false_eq_true, b_if, b_z1, b_z0, b_zz, b_a1, b_a0, b_lc, b_zF, b_zT, b_lbit, lt, q]
end ZST
