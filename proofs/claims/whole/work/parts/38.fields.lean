/-! fields: field, part -/
def fldV (V : Nat → Nat → Int32) (n : Nat) (a y : Int32) : Nat → Nat → Int32 := uV (uV (uV (uV V 10 n a) 11 n y) 12 n (-1)) 13 n (-1)
def gonV (V : Nat → Nat → Int32) (f : Nat) (y p : Int32) : Nat → Nat → Int32 := uV (uV (uV V 10 f (nI 4)) 12 f y) 13 f p
def fldL (Λ : zL) (n : Nat) (V : Nat → Nat → Int32) (W : Nat → Int64) : zL := (n, zD Λ, zC Λ, V, W, zN Λ, zS_ Λ, zYr Λ)
def cAF (h : zMem) (l n : Nat) (a y : Int32) : zMem := sI (sL (sI (sI (sI (sI h (l + 2 + n) 0 a) (l + 2 + n) 1 y) (l + 2 + n) 2 (-1)) (l + 2 + n) 3 (-1)) (l + 2 + n) 4 (lN 0)) l 1 (nI (n + 1))
def mAF (h : zMem) (m n : Nat) (a y : Int32) : zMem := sI (sI (sL (sI (sI (sI (sI h (m + 17) n a) (m + 18) n y) (m + 19) n (-1)) (m + 20) n (-1)) (m + 21) n (lN 0)) m 9 (nI (n + 1))) m 53 (nI 0)
def cGO (h : zMem) (l f : Nat) (y p : Int32) : zMem := sI (sI (sI h (l + 2 + f) 0 (nI 4)) (l + 2 + f) 2 y) (l + 2 + f) 3 p
def mGO (h : zMem) (m f : Nat) (y p : Int32) : zMem := sI (sI (sI (sI h (m + 17) f (nI 4)) m 53 (nI 0)) (m + 19) f y) (m + 20) f p
section ZFD
variable {g : Nat → Nat} {B SL m l n : Nat} {h h' : zMem} {H H' : zH} {T : zT} {Λ K : zL} {κ : Bool} {ρ ρ' : Nat → Int32} {V V' : Nat → Nat → Int32} {W W' : Nat → Int64} {a y p : Int32}
/-- a land where the fields alone change -/
theorem cL_flds (hk : kL Λ) (hc : cL h l Λ) (e : ∀ b k : Nat, l + 12 ≤ b → gI h' b k = gI h b k) (eL : ∀ b k : Nat, l + 12 ≤ b → gL h' b k = gL h b k) (e3 : gI h' l 3 = gI h l 3) (u : ∀ x : Nat, 16 ≤ x → V' x = zV Λ x) (hf : cF h' l n V' W') : cL h' l (fldL Λ n V' W') := by
  obtain ⟨c1, c2, c3, c4, c5, c6, c7, c8⟩ := hc
  refine ⟨hf, ?_, fun x hx => ?_, ?_, ?_, (e _ _ (by omega)).trans c6, fun y => (e _ _ (by omega)).trans (c7 y), fun y => rCS_fr ⟨fun b k _ _ => e _ _ (by omega), fun b k _ _ => eL _ _ (by omega)⟩ (c8 y)⟩
  · show cDd _ l (zD Λ) V'
    unfold cDd
    rw [u 16 (by decide), u 17 (by decide), u 18 (by decide), u 19 (by decide), u 20 (by decide), u 21 (by decide), u 22 (by decide), u 23 (by decide), u 24 (by decide)]
    refine ⟨e3.trans c2.1, fun d hd => ?_⟩
    rw [e _ _ (by omega), e _ _ (by omega), e _ _ (by omega), e _ _ (by omega), e _ _ (by omega), e _ _ (by omega), e _ _ (by omega), e _ _ (by omega), e _ _ (by omega)]
    exact c2.2 d hd
  · show gI _ (l + 37) x = V' 25 x
    rw [e _ _ (by omega), u 25 (by decide)]; exact c3 x hx
  · show cPl _ l (zC Λ) V'
    unfold cPl
    rw [u 29 (by decide), u 30 (by decide)]
    exact ⟨(e _ _ (by omega)).trans c4.1, fun x hx => ⟨(e _ _ (by omega)).trans (c4.2 x hx).1, (e _ _ (by omega)).trans (c4.2 x hx).2⟩⟩
  · show cBd _ l V'
    unfold cBd
    rw [u 26 (by decide), u 27 (by decide)]
    exact ⟨(e _ _ (by omega)).trans c5.1, fun x hx => (e _ _ (by omega)).trans (c5.2 x hx)⟩
theorem mL_flds (hk : kL Λ) (hc : mL h m Λ) (e : ∀ b k : Nat, m + 22 ≤ b → gI h' b k = gI h b k) (eL : ∀ b k : Nat, m + 22 ≤ b → gL h' b k = gL h b k) (e2 : ∀ k : Nat, ¬ k = 9 → ¬ k = 53 → gI h' m k = gI h m k) (u : ∀ x : Nat, 16 ≤ x → V' x = zV Λ x) (hf : mF h' m n V' W') : mL h' m (fldL Λ n V' W') := by
  obtain ⟨c1, c2, c3, c4, c5, c6, c7⟩ := hc
  refine ⟨hf, ?_, fun x hx => ?_, ?_, ?_, fun z => (e2 _ (by decide) (by decide)).trans (c6 z), fun z => ⟨(e2 _ (by decide) (by decide)).trans (c7 z).1, (e2 _ (by decide) (by decide)).trans (c7 z).2.1, rMS_fr (hk.2.2.2.2.2 z).1 (hk.aL45 z) ⟨fun b k _ _ => e _ _ (by omega), fun b k _ _ => eL _ _ (by omega)⟩ (c7 z).2.2⟩⟩
  · show mDd _ m (zD Λ) V'
    unfold mDd
    rw [u 16 (by decide), u 17 (by decide), u 18 (by decide), u 19 (by decide), u 20 (by decide), u 21 (by decide), u 22 (by decide), u 23 (by decide), u 24 (by decide)]
    refine ⟨(e2 _ (by decide) (by decide)).trans c2.1, fun d hd => ?_⟩
    rw [e _ _ (by omega), e _ _ (by omega), e _ _ (by omega), e _ _ (by omega), e _ _ (by omega), e _ _ (by omega), e _ _ (by omega), e _ _ (by omega), e _ _ (by omega)]
    exact c2.2 d hd
  · show gI _ (m + 31) x = V' 25 x
    rw [e _ _ (by omega), u 25 (by decide)]; exact c3 x hx
  · show mPl _ m (zC Λ) V'
    unfold mPl
    rw [u 29 (by decide), u 30 (by decide)]
    exact ⟨(e2 _ (by decide) (by decide)).trans c4.1, fun x hx => ⟨(e _ _ (by omega)).trans (c4.2 x hx).1, (e _ _ (by omega)).trans (c4.2 x hx).2⟩⟩
  · show mBd _ m V'
    unfold mBd
    rw [u 26 (by decide), u 27 (by decide)]
    exact ⟨(e2 _ (by decide) (by decide)).trans c5.1, fun x hx => (e _ _ (by omega)).trans (c5.2 x hx)⟩
theorem kL_flds (hk : kL Λ) (hn : zF Λ ≤ n) (hf : kF n V') (u : ∀ x : Nat, 16 ≤ x → V' x = zV Λ x) : kL (fldL Λ n V' W') := by
  obtain ⟨k1, k2, k3, k4, k5, k6⟩ := hk
  refine ⟨hf, ?_, ?_, ?_, ?_, k6⟩
  · show kDd n (zD Λ) V'
    unfold kDd
    rw [u 16 (by decide), u 17 (by decide), u 19 (by decide), u 20 (by decide), u 21 (by decide), u 22 (by decide), u 23 (by decide), u 24 (by decide)]
    refine ⟨k2.1, fun d hd => ?_⟩
    obtain ⟨⟨a, b, q1, q2, q3, q4, q5⟩, r⟩ := k2.2 d hd
    exact ⟨⟨a, b, q1, q2, by omega, by omega, q5⟩, r⟩
  · show kMn V'
    unfold kMn
    rw [u 25 (by decide)]
    exact k3
  · show kPl (zC Λ) V'
    unfold kPl
    rw [u 29 (by decide), u 30 (by decide)]
    exact k4
  · show kBd V'
    unfold kBd
    rw [u 26 (by decide)]
    exact k5
theorem kSh_mono {n n' : Nat} (hn : n ≤ n') (hk : kSh n H) : kSh n' H := fun s hs => by
  rcases hk s hs with c | c | ⟨c, f, c1, c2⟩
  · exact Or.inl c
  · exact Or.inr (Or.inl c)
  · exact Or.inr (Or.inr ⟨c, f, c1, by omega⟩)
theorem kX_flds (hk : kX H T Λ K κ) (hn : zF Λ ≤ n) (hf : kF n V') (u : ∀ x : Nat, 16 ≤ x → V' x = zV Λ x) : kX H T (fldL Λ n V' W') K κ := ⟨kSh_mono hn hk.1, hk.2.1, kL_flds hk.2.2.1 hn hf u, hk.2.2.2⟩
theorem fldV_u {x : Nat} (hx : 16 ≤ x) : fldV V n a y x = V x := by
  unfold fldV
  rw [uV_c (by omega), uV_c (by omega), uV_c (by omega), uV_c (by omega)]
theorem gonV_u {x f : Nat} (hx : 16 ≤ x) : gonV V f y p x = V x := by
  unfold gonV
  rw [uV_c (by omega), uV_c (by omega), uV_c (by omega)]
theorem fldV_v : fldV V n a y 10 n = a ∧ fldV V n a y 11 n = y ∧ fldV V n a y 12 n = -1 ∧ fldV V n a y 13 n = -1 := by
  unfold fldV
  refine ⟨?_, ?_, ?_, ?_⟩
  · rw [uV_n (by decide), uV_n (by decide), uV_n (by decide), uV_s]
  · rw [uV_n (by decide), uV_n (by decide), uV_s]
  · rw [uV_n (by decide), uV_s]
  · rw [uV_s]
theorem fldV_o {x f : Nat} (hf : ¬ f = n) : fldV V n a y x f = V x f := by
  unfold fldV uV up
  split <;> split <;> split <;> split <;> simp_all
theorem cF_add (hn : n ≤ 10) (hc : cF h l n V W) : cF (cAF h l n a y) l (n + 1) (fldV V n a y) (up W n (lN 0)) := by
  unfold cAF
  refine ⟨a_II, fun f hf => ?_⟩
  by_cases q : f = n
  · subst q
    obtain ⟨v1, v2, v3, v4⟩ := fldV_v (V := V) (n := f) (a := a) (y := y)
    rw [v1, v2, v3, v4, up_s]
    simp (disch := omega) only [a_Ia, y_gI_sL, y_gL_sI, a_II, a_Ik, a_LL, Nat.reduceEqDiff, not_false_eq_true, and_self]
  · rw [fldV_o q, fldV_o q, fldV_o q, fldV_o q, up_n q]
    simp (disch := omega) only [a_Ia, y_gI_sL, y_gL_sI, a_La]
    exact hc.2 f (by omega)
theorem mF_add (hn : n ≤ 10) (hc : mF h m n V W) : mF (mAF h m n a y) m (n + 1) (fldV V n a y) (up W n (lN 0)) := by
  unfold mAF
  refine ⟨by rw [a_Ik (by decide), a_II], fun f hf => ?_⟩
  by_cases q : f = n
  · subst q
    obtain ⟨v1, v2, v3, v4⟩ := fldV_v (V := V) (n := f) (a := a) (y := y)
    rw [v1, v2, v3, v4, up_s]
    simp (disch := omega) only [a_Ia, y_gI_sL, y_gL_sI, a_II, a_Ik, a_LL, Nat.reduceEqDiff, not_false_eq_true, and_self]
  · rw [fldV_o q, fldV_o q, fldV_o q, fldV_o q, up_n q]
    simp (disch := omega) only [a_Ia, y_gI_sL, y_gL_sI, a_Ik, a_Lk]
    exact hc.2 f (by omega)
theorem kF_add (hn : n < 10) (hk : kF n V) (ha : nLt a 4) : kF (n + 1) (fldV V n a y) := by
  refine ⟨by omega, fun f hf => ?_⟩
  obtain ⟨k, rfl, ha⟩ := ha
  by_cases q : f = n
  · subst q
    obtain ⟨v1, v2, v3, v4⟩ := fldV_v (V := V) (n := f) (a := nI k) (y := y)
    rw [v1, v4]
    refine ⟨⟨k, rfl, by omega⟩, fun e => ?_⟩
    rw [a_eq (by omega) (by omega)] at e
    omega
  · rw [fldV_o q, fldV_o q]
    obtain ⟨k1, k2⟩ := hk.2 f (by omega)
    refine ⟨k1, fun e => ?_⟩
    obtain ⟨p, p1, p2, p3⟩ := k2 e
    exact ⟨p, p1, p2, by omega⟩
theorem q_addF (ol : oLand h l) (hn : n < 10) (h1 : gI h l 1 = nI n) : call g Land_addField [.ref l, .int a, .int y] h = some (some (.int (nI n)), cAF h l n a y) := by
  have kf := la_fk ol hn
  have e1 := n_Field_start (g := g) (h := h) (x0 := l + 2 + n) (x1 := a) (x2 := y)
  rw [n_Land_addField]
  simp (disch := omega) only [s_Land_addField_0, s_Land_addField_1, s_Land_addField_4, s_Land_addField_5, s_Land_addField_8, s_Land_addField_9, s_Land_addField_10, s_Land_addField_11, s_Land_addField_14, s_Land_addField_15, s_Land_addField_16, s_Land_addField_19, s_Land_addField_20, s_Land_addField_21, s_Land_addField_24, s_Land_addField_25, s_Land_addField_28, s_Land_addField_29, s_Land_addField_30, n_Field_start, s_Field_start_0, s_Field_start_1, s_Field_start_2, s_Field_start_5, s_Field_start_6, s_Field_start_7, s_Field_start_10, s_Field_start_11, s_Field_start_12, s_Field_start_15, s_Field_start_16, s_Field_start_17, s_Field_start_20, s_Field_start_21, s_Field_start_22, s_Field_start_25, y_kd_sI, y_kd_sL, y_kd_sR, y_kd_cpI, y_kd_cpL, y_ln_sI, y_ln_sL, y_ln_sR, y_ln_cpI, y_ln_cpL, y_sz_sI, y_sz_sL, y_sz_sR, y_sz_cpI, y_sz_cpL, y_sl_sI, y_sl_sL, y_sl_sR, y_sl_cpI, y_sl_cpL, y_gI_sL, y_gI_sR, y_gI_cpI, y_gI_cpL, y_gI_nw, y_gL_sI, y_gL_sR, y_gL_cpI, y_gL_cpL, y_gL_nw, y_gR_sI, y_gR_sL, y_gR_cpI, y_gR_cpL, y_gR_nw, y_kd_nw, y_ln_nw, y_sz_nw, y_sl_nw, y_fx_int, y_fx_long, y_fx_ref, y_fx_null, y_fx_U, y_rf_s, y_rf_n, a_inb, a_ix, a_lt, a_eq, a_eq0, a_lt0, a_0lt, a_m1, a_m2, a_mlt, a_sub, a_dec, a_div, a_rem, a_shl, a_shr, a_bit, a_bit0, a_II, a_Ia, a_Ik, a_LL, a_La, a_Lk, a_RR, a_Ra, a_Rk, a_if0, a_if1, y_mul, y_and, y_or, nI_add, y_b1, y_b0, kon_v, kon_0, true_or, or_true, and_self, true_and, and_true, false_or, or_false, and_false, false_and, not_true_eq_false, not_false_eq_true, ite_self, ↓reduceIte, Nat.reduceEqDiff, Nat.reduceLeDiff, Nat.reduceAdd, Nat.reduceMul, Nat.reduceSub, Nat.reduceLT, Nat.reduceShiftLeft, Nat.reduceOr, Nat.reduceAnd, Bool.false_eq_true, b_if, b_z1, b_z0, b_zz, b_a1, b_a0, la_k ol, la_r_0 ol, la_r_2 ol, la_r_4 ol, la_r_5 ol, la_r_6 ol, la_r_7 ol, la_r_8 ol, la_r_9 ol, la_k1 ol, la_l1 ol, la_k12 ol, la_l12 ol, la_k37 ol, la_l37 ol, la_k39 ol, la_l39 ol, la_k40 ol, la_l40 ol, la_k42 ol, la_l42 ol, la_k52 ol, la_l52 ol, la_k53 ol, la_l53 ol, la_k38 ol, la_r38_1 ol, la_r38_2 ol, la_k41 ol, la_r41_1 ol, la_f ol, la_fk ol, la_d ol, la_dk ol, h1, kf]
  rfl
theorem q_newF (oM : oMo h m) (hn : n < 10) (h1 : gI h m 9 = nI n) : call g Mo_newField [.ref m, .int a, .int y] h = some (none, mAF h m n a y) := by
  rw [n_Mo_newField]
  simp (disch := omega) only [s_Mo_newField_0, s_Mo_newField_1, s_Mo_newField_4, s_Mo_newField_5, s_Mo_newField_8, s_Mo_newField_9, s_Mo_newField_10, s_Mo_newField_11, s_Mo_newField_14, s_Mo_newField_15, s_Mo_newField_18, s_Mo_newField_19, s_Mo_newField_20, s_Mo_newField_21, s_Mo_newField_24, s_Mo_newField_25, s_Mo_newField_28, s_Mo_newField_29, s_Mo_newField_30, s_Mo_newField_31, s_Mo_newField_34, s_Mo_newField_35, s_Mo_newField_38, s_Mo_newField_39, s_Mo_newField_40, s_Mo_newField_41, s_Mo_newField_44, s_Mo_newField_45, s_Mo_newField_48, s_Mo_newField_49, s_Mo_newField_50, s_Mo_newField_51, s_Mo_newField_52, s_Mo_newField_55, s_Mo_newField_56, s_Mo_newField_57, s_Mo_newField_60, s_Mo_newField_61, s_Mo_newField_62, s_Mo_newField_65, y_kd_sI, y_kd_sL, y_kd_sR, y_kd_cpI, y_kd_cpL, y_ln_sI, y_ln_sL, y_ln_sR, y_ln_cpI, y_ln_cpL, y_sz_sI, y_sz_sL, y_sz_sR, y_sz_cpI, y_sz_cpL, y_sl_sI, y_sl_sL, y_sl_sR, y_sl_cpI, y_sl_cpL, y_gI_sL, y_gI_sR, y_gI_cpI, y_gI_cpL, y_gI_nw, y_gL_sI, y_gL_sR, y_gL_cpI, y_gL_cpL, y_gL_nw, y_gR_sI, y_gR_sL, y_gR_cpI, y_gR_cpL, y_gR_nw, y_kd_nw, y_ln_nw, y_sz_nw, y_sl_nw, y_fx_int, y_fx_long, y_fx_ref, y_fx_null, y_fx_U, y_rf_s, y_rf_n, a_inb, a_ix, a_lt, a_eq, a_eq0, a_lt0, a_0lt, a_m1, a_m2, a_mlt, a_sub, a_dec, a_div, a_rem, a_shl, a_shr, a_bit, a_bit0, a_II, a_Ia, a_Ik, a_LL, a_La, a_Lk, a_RR, a_Ra, a_Rk, a_if0, a_if1, y_mul, y_and, y_or, nI_add, y_b1, y_b0, kon_v, kon_0, true_or, or_true, and_self, true_and, and_true, false_or, or_false, and_false, false_and, not_true_eq_false, not_false_eq_true, ite_self, ↓reduceIte, Nat.reduceEqDiff, Nat.reduceLeDiff, Nat.reduceAdd, Nat.reduceMul, Nat.reduceSub, Nat.reduceLT, Nat.reduceShiftLeft, Nat.reduceOr, Nat.reduceAnd, Bool.false_eq_true, b_if, b_z1, b_z0, b_zz, b_a1, b_a0, mo_k oM, mo_r0 oM, mo_k0 oM, mo_l0 oM, mo_r1 oM, mo_k1 oM, mo_l1 oM, mo_r2 oM, mo_k2 oM, mo_l2 oM, mo_r3 oM, mo_k3 oM, mo_l3 oM, mo_r4 oM, mo_k4 oM, mo_l4 oM, mo_r5 oM, mo_k5 oM, mo_l5 oM, mo_r6 oM, mo_k6 oM, mo_l6 oM, mo_r8 oM, mo_k8 oM, mo_l8 oM, mo_r10 oM, mo_k10 oM, mo_l10 oM, mo_r11 oM, mo_k11 oM, mo_l11 oM, mo_r12 oM, mo_k12 oM, mo_l12 oM, mo_r13 oM, mo_k13 oM, mo_l13 oM, mo_r14 oM, mo_k14 oM, mo_l14 oM, mo_r16 oM, mo_k16 oM, mo_l16 oM, mo_r17 oM, mo_k17 oM, mo_l17 oM, mo_r18 oM, mo_k18 oM, mo_l18 oM, mo_r19 oM, mo_k19 oM, mo_l19 oM, mo_r20 oM, mo_k20 oM, mo_l20 oM, mo_r21 oM, mo_k21 oM, mo_l21 oM, mo_r22 oM, mo_k22 oM, mo_l22 oM, mo_r23 oM, mo_k23 oM, mo_l23 oM, mo_r24 oM, mo_k24 oM, mo_l24 oM, mo_r25 oM, mo_k25 oM, mo_l25 oM, mo_r26 oM, mo_k26 oM, mo_l26 oM, mo_r29 oM, mo_k29 oM, mo_l29 oM, mo_r30 oM, mo_k30 oM, mo_l30 oM, mo_r36 oM, mo_k36 oM, mo_l36 oM, mo_r37 oM, mo_k37 oM, mo_l37 oM, mo_r49 oM, mo_k49 oM, mo_l49 oM, mo_r50 oM, mo_k50 oM, mo_l50 oM, mo_r51 oM, mo_k51 oM, mo_l51 oM, mo_r56 oM, mo_k56 oM, mo_l56 oM, mo_r62 oM, mo_k62 oM, mo_l62 oM, mo_r63 oM, mo_k63 oM, mo_l63 oM, mo_r66 oM, mo_k66 oM, mo_l66 oM, mo_row oM, mo_rowk oM, mo_rowl oM, mo_set oM, mo_setk oM, mo_setl oM, h1]
  rfl
theorem cAF_sam (hn : n ≤ 10) : sam l (l + 53) h (cAF h l n a y) := (((((((sam.I (by omega)).aI (by omega)).aI (by omega)).aI (by omega)).aL (by omega)).aI (by omega)) : sam l (l + 53) h _)
end ZFD
