/-! the sets as of a year: numbers, and the class's fill -/
def selV (V : Nat → Nat → Int32) (y : Int32) (d : Nat) : Prop := V 24 d = nI 0 ∧ ¬ y < V 18 d
noncomputable def asO (V : Nat → Nat → Int32) (y : Int32) (n : Nat) : Nat := orN (fun d => tst (selV V y d) (2 ^ d) 0) n
/-- what old words add; none: one means nothing -/
def lW (V : Nat → Nat → Int32) (o : Nat) : Nat → Nat → Nat → Option Nat
  | 0, _, s => some s
  | k + 1, w, s => if o.testBit w = true then (if V 25 w = -1 then none else lW V o k (w + 1) (s ||| 1 <<< ix (V 25 w))) else lW V o k (w + 1) s
/-- what a deed lets -/
def lts (V : Nat → Nat → Int32) (d : Nat) : Nat := if V 20 d = -1 then (match lW V (ix (V 22 d)) 4 0 (ix (V 21 d)) with | none => 255 | some x => if V 23 d = nI 0 then x else 255 - x) else if V 20 d = nI 0 then 3 else 103
def lsn (F : Nat → Nat) (a b s : Nat) : Nat → Nat := pAt tur (a * 10 + b) (F (a * 10 + b) &&& s) F
noncomputable def fD (V : Nat → Nat → Int32) (sel : Nat → Prop) : Nat → (Nat → Nat)
  | 0 => fun _ => 255
  | d + 1 => tst (sel d) (lsn (fD V sel d) (ix (V 16 d)) (ix (V 17 d)) (lts V d)) (fD V sel d)
noncomputable def fP (V : Nat → Nat → Int32) (y : Int32) (F : Nat → Nat) : Nat → (Nat → Nat)
  | 0 => F
  | f + 1 => tst (V 10 f = nI 4 ∧ ¬ y < V 12 f) (lsn (lsn (lsn (fP V y F f) (ix (V 13 f)) f 24) (ix (V 13 f) + 1) f 24) (ix (V 13 f)) (ix (V 13 f) + 1) 3) (fP V y F f)
noncomputable def fam (V : Nat → Nat → Int32) (nf nd : Nat) (y : Int32) (sel : Nat → Prop) : Nat → Nat := fP V y (fD V sel nd) nf
theorem fD_c {V : Nat → Nat → Int32} {sel sel' : Nat → Prop} : ∀ n : Nat, (∀ d : Nat, d < n → (sel d ↔ sel' d)) → fD V sel n = fD V sel' n
  | 0, _ => rfl
  | n + 1, h => by
    unfold fD
    rw [fD_c n (fun d hd => h d (by omega))]
    by_cases z : sel n
    · rw [tst_t z, tst_t ((h n (by omega)).1 z)]
    · rw [tst_f z, tst_f (fun c => z ((h n (by omega)).2 c))]
theorem lW_lt {V : Nat → Nat → Int32} (hm : kMn V) {o : Nat} : ∀ (k w s x : Nat), w + k = 4 → s < 256 → lW V o k w s = some x → x < 256
  | 0, w, s, x, _, hs, h => by cases h; exact hs
  | k + 1, w, s, x, hk, hs, h => by
    unfold lW at h
    split at h
    · split at h
      · cases h
      · rename_i z
        rcases hm w (by omega) with c | ⟨j, c, hj⟩
        · exact absurd c z
        · refine lW_lt hm k (w + 1) _ x (by omega) ?_ h
          rw [c, a_ix (by omega)]
          have : (1 : Nat) <<< j < 256 := by
            rw [Nat.one_shiftLeft]
            exact Nat.lt_of_le_of_lt (Nat.pow_le_pow_right (by decide) (show j ≤ 7 by omega)) (by decide)
          exact Nat.or_lt_two_pow (n := 8) hs this
    · exact lW_lt hm k (w + 1) s x (by omega) hs h
theorem lts_lt {V : Nat → Nat → Int32} {nf nd d : Nat} (hk : kDd nf nd V) (hm : kMn V) (hd : d < nd) : lts V d < 256 := by
  obtain ⟨-, -, -, ⟨s, hs, hs2⟩, -⟩ := hk.2 d hd
  unfold lts
  split
  · split
    · decide
    · rename_i x hx
      have := lW_lt hm 4 0 _ x rfl (by rw [hs, a_ix (by omega)]; exact hs2) hx
      split
      · exact this
      · omega
  · split <;> decide
theorem sy_lsn {F : Nat → Nat} {a b s : Nat} (hf : sy tur F) (ha : a < 10) (hb : b < 10) (hd : ¬ a = b) : sy tur (lsn F a b s) := by
  have h1 := (hf (a * 10 + b) (by omega)).1
  exact sy_at tur_OK hf (by omega) (by omega) (Nat.lt_of_le_of_lt Nat.and_le_left h1)
theorem sy_fD {V : Nat → Nat → Int32} {nf nd : Nat} {sel : Nat → Prop} (hf : nf ≤ 10) (hk : kDd nf nd V) : ∀ n : Nat, n ≤ nd → sy tur (fD V sel n)
  | 0, _ => fun p _ => ⟨show (255 : Nat) < 256 by decide, show (255 : Nat) = tur 255 by decide⟩
  | n + 1, h => by
    unfold fD
    obtain ⟨⟨a, b, h1, h2, h3, h4, h5⟩, -⟩ := hk.2 n (by omega)
    have ih := sy_fD (sel := sel) hf hk n (by omega)
    by_cases z : sel n
    · rw [tst_t z, h1, h2, a_ix (by omega), a_ix (by omega)]
      exact sy_lsn ih (by omega) (by omega) h5
    · rw [tst_f z]; exact ih
theorem sy_fP {V : Nat → Nat → Int32} {nf : Nat} {y : Int32} {F : Nat → Nat} (hk : kF nf V) (hF : sy tur F) : ∀ n : Nat, n ≤ nf → sy tur (fP V y F n)
  | 0, _ => hF
  | n + 1, h => by
    unfold fP
    have ih := sy_fP (y := y) hk hF n (by omega)
    have h10 := hk.1
    by_cases z : V 10 n = nI 4 ∧ ¬ y < V 12 n
    · obtain ⟨p, p1, p2, p3⟩ := (hk.2 n (by omega)).2 z.1
      rw [tst_t z, p1, a_ix (by omega)]
      exact sy_lsn (sy_lsn (sy_lsn ih (by omega) (by omega) (by omega)) (by omega) (by omega) (by omega)) (by omega) (by omega) (by omega)
    · rw [tst_f z]; exact ih
theorem sy_fam {V : Nat → Nat → Int32} {nf nd : Nat} {y : Int32} {sel : Nat → Prop} (h1 : kF nf V) (h2 : kDd nf nd V) : sy tur (fam V nf nd y sel) := sy_fP h1 (sy_fD h1.1 h2 nd (Nat.le_refl _)) nf (Nat.le_refl _)
section ZFI
variable {g : Nat → Nat} {h : zMem} {l o r t u : Nat} {V : Nat → Nat → Int32} {W : Nat → Int64} {nf nd : Nat}
theorem asO_step {y : Int32} {n : Nat} : asO V y (n + 1) = asO V y n ||| tst (selV V y n) (1 <<< n) 0 := by
  have e : (1 : Nat) <<< n = 2 ^ n := Nat.one_shiftLeft n
  unfold asO
  rw [e]
  rfl
theorem q_Land_asOf {y : Int32} (ho : oLand h l) (hn : nd ≤ 24) (hc : cDd h l nd V) : call g Land_asOf [.ref l, .int y] h = some (some (.int (nI (asO V y nd))), h) := by
  obtain ⟨c1, c2⟩ := hc
  obtain ⟨e1, e2⟩ := l_fold (g := g) (M := Land_asOf) (pc := 4) (st := []) (h := h) (n := nd) (fun i (x : Nat) => [.ref l, .int y, .int (nI x), .int (nI i)]) (fun i x => x = asO V y i) (fun i x => x ||| tst (selV V y i) (1 <<< i) 0) (fun d x hd hx => by
    obtain ⟨d1, d2, d3, d4, d5, d6, d7, d8, d9⟩ := c2 d hd
    have hlt : (d < nd) = True := eq_true hd
    refine ⟨?_, by rw [hx, asO_step]⟩
    show ev g Land_asOf 4 [.ref l, .int y, .int (nI x), .int (nI d)] [] h = ev g Land_asOf 4 [.ref l, .int y, .int (nI _), .int (nI (d + 1))] [] h
    rw [s_Land_asOf_4]
    by_cases z : selV V y d
    · obtain ⟨z1, z2⟩ := z
      have z3 : (nI 0 = (0 : Int32)) = True := eq_true (by decide)
      rw [tst_t ⟨z1, z2⟩]
      rw [z1] at d9
      simp (disch := omega) only [s_Land_asOf_0, s_Land_asOf_1, s_Land_asOf_2, s_Land_asOf_3, s_Land_asOf_5, s_Land_asOf_6, s_Land_asOf_9, s_Land_asOf_12, s_Land_asOf_13, s_Land_asOf_16, s_Land_asOf_17, s_Land_asOf_18, s_Land_asOf_21, s_Land_asOf_24, s_Land_asOf_25, s_Land_asOf_28, s_Land_asOf_29, s_Land_asOf_30, s_Land_asOf_33, s_Land_asOf_34, s_Land_asOf_37, s_Land_asOf_38, s_Land_asOf_39, s_Land_asOf_40, s_Land_asOf_41, s_Land_asOf_42, s_Land_asOf_43, s_Land_asOf_46, s_Land_asOf_49, s_Land_asOf_50, y_kd_sI, y_kd_sL, y_kd_sR, y_kd_cpI, y_kd_cpL, y_ln_sI, y_ln_sL, y_ln_sR, y_ln_cpI, y_ln_cpL, y_sz_sI, y_sz_sL, y_sz_sR, y_sz_cpI, y_sz_cpL, y_sl_sI, y_sl_sL, y_sl_sR, y_sl_cpI, y_sl_cpL, y_gI_sL, y_gI_sR, y_gI_cpI, y_gI_cpL, y_gI_nw, y_gL_sI, y_gL_sR, y_gL_cpI, y_gL_cpL, y_gL_nw, y_gR_sI, y_gR_sL, y_gR_cpI, y_gR_cpL, y_gR_nw, y_kd_nw, y_ln_nw, y_sz_nw, y_sl_nw, y_fx_int, y_fx_long, y_fx_ref, y_fx_null, y_fx_U, y_rf_s, y_rf_n, a_inb, a_ix, a_lt, a_eq, a_eq0, a_lt0, a_0lt, a_m1, a_m2, a_mlt, a_sub, a_dec, a_div, a_rem, a_shl, a_shr, a_bit, a_bit0, a_II, a_Ia, a_Ik, a_LL, a_La, a_Lk, a_RR, a_Ra, a_Rk, a_if0, a_if1, y_mul, y_and, y_or, nI_add, y_b1, y_b0, kon_v, kon_0, true_or, or_true, and_self, true_and, and_true, false_or, or_false, and_false, false_and, not_true_eq_false, not_false_eq_true, ite_self, ↓reduceIte, Nat.reduceEqDiff, Nat.reduceLeDiff, Nat.reduceAdd, Nat.reduceMul, Nat.reduceSub, Nat.reduceLT, Nat.reduceShiftLeft, Nat.reduceOr, Nat.reduceAnd, Bool.false_eq_true, la_k ho, la_r_0 ho, la_r_2 ho, la_r_4 ho, la_r_5 ho, la_r_6 ho, la_r_7 ho, la_r_8 ho, la_r_9 ho, la_k1 ho, la_l1 ho, la_k12 ho, la_l12 ho, la_k37 ho, la_l37 ho, la_k39 ho, la_l39 ho, la_k40 ho, la_l40 ho, la_k42 ho, la_l42 ho, la_k52 ho, la_l52 ho, la_k53 ho, la_l53 ho, la_k38 ho, la_r38_1 ho, la_r38_2 ho, la_k41 ho, la_r41_1 ho, la_f ho, la_fk ho, la_d ho, la_dk ho, c1, hlt, d9, d3, z2, z3]
    · rw [tst_f z]
      by_cases z1 : V 24 d = 0
      · have z2 : y < V 18 d := by
          by_cases c : y < V 18 d
          · exact c
          · exact absurd ⟨z1, c⟩ z
        simp (disch := omega) only [s_Land_asOf_0, s_Land_asOf_1, s_Land_asOf_2, s_Land_asOf_3, s_Land_asOf_5, s_Land_asOf_6, s_Land_asOf_9, s_Land_asOf_12, s_Land_asOf_13, s_Land_asOf_16, s_Land_asOf_17, s_Land_asOf_18, s_Land_asOf_21, s_Land_asOf_24, s_Land_asOf_25, s_Land_asOf_28, s_Land_asOf_29, s_Land_asOf_30, s_Land_asOf_33, s_Land_asOf_34, s_Land_asOf_37, s_Land_asOf_38, s_Land_asOf_39, s_Land_asOf_40, s_Land_asOf_41, s_Land_asOf_42, s_Land_asOf_43, s_Land_asOf_46, s_Land_asOf_49, s_Land_asOf_50, y_kd_sI, y_kd_sL, y_kd_sR, y_kd_cpI, y_kd_cpL, y_ln_sI, y_ln_sL, y_ln_sR, y_ln_cpI, y_ln_cpL, y_sz_sI, y_sz_sL, y_sz_sR, y_sz_cpI, y_sz_cpL, y_sl_sI, y_sl_sL, y_sl_sR, y_sl_cpI, y_sl_cpL, y_gI_sL, y_gI_sR, y_gI_cpI, y_gI_cpL, y_gI_nw, y_gL_sI, y_gL_sR, y_gL_cpI, y_gL_cpL, y_gL_nw, y_gR_sI, y_gR_sL, y_gR_cpI, y_gR_cpL, y_gR_nw, y_kd_nw, y_ln_nw, y_sz_nw, y_sl_nw, y_fx_int, y_fx_long, y_fx_ref, y_fx_null, y_fx_U, y_rf_s, y_rf_n, a_inb, a_ix, a_lt, a_eq, a_eq0, a_lt0, a_0lt, a_m1, a_m2, a_mlt, a_sub, a_dec, a_div, a_rem, a_shl, a_shr, a_bit, a_bit0, a_II, a_Ia, a_Ik, a_LL, a_La, a_Lk, a_RR, a_Ra, a_Rk, a_if0, a_if1, y_mul, y_and, y_or, nI_add, y_b1, y_b0, kon_v, kon_0, true_or, or_true, and_self, true_and, and_true, false_or, or_false, and_false, false_and, not_true_eq_false, not_false_eq_true, ite_self, ↓reduceIte, Nat.reduceEqDiff, Nat.reduceLeDiff, Nat.reduceAdd, Nat.reduceMul, Nat.reduceSub, Nat.reduceLT, Nat.reduceShiftLeft, Nat.reduceOr, Nat.reduceAnd, Bool.false_eq_true, la_k ho, la_r_0 ho, la_r_2 ho, la_r_4 ho, la_r_5 ho, la_r_6 ho, la_r_7 ho, la_r_8 ho, la_r_9 ho, la_k1 ho, la_l1 ho, la_k12 ho, la_l12 ho, la_k37 ho, la_l37 ho, la_k39 ho, la_l39 ho, la_k40 ho, la_l40 ho, la_k42 ho, la_l42 ho, la_k52 ho, la_l52 ho, la_k53 ho, la_l53 ho, la_k38 ho, la_r38_1 ho, la_r38_2 ho, la_k41 ho, la_r41_1 ho, la_f ho, la_fk ho, la_d ho, la_dk ho, c1, hlt, d9, d3, z1, z2, Nat.or_zero]
      · simp (disch := omega) only [s_Land_asOf_0, s_Land_asOf_1, s_Land_asOf_2, s_Land_asOf_3, s_Land_asOf_5, s_Land_asOf_6, s_Land_asOf_9, s_Land_asOf_12, s_Land_asOf_13, s_Land_asOf_16, s_Land_asOf_17, s_Land_asOf_18, s_Land_asOf_21, s_Land_asOf_24, s_Land_asOf_25, s_Land_asOf_28, s_Land_asOf_29, s_Land_asOf_30, s_Land_asOf_33, s_Land_asOf_34, s_Land_asOf_37, s_Land_asOf_38, s_Land_asOf_39, s_Land_asOf_40, s_Land_asOf_41, s_Land_asOf_42, s_Land_asOf_43, s_Land_asOf_46, s_Land_asOf_49, s_Land_asOf_50, y_kd_sI, y_kd_sL, y_kd_sR, y_kd_cpI, y_kd_cpL, y_ln_sI, y_ln_sL, y_ln_sR, y_ln_cpI, y_ln_cpL, y_sz_sI, y_sz_sL, y_sz_sR, y_sz_cpI, y_sz_cpL, y_sl_sI, y_sl_sL, y_sl_sR, y_sl_cpI, y_sl_cpL, y_gI_sL, y_gI_sR, y_gI_cpI, y_gI_cpL, y_gI_nw, y_gL_sI, y_gL_sR, y_gL_cpI, y_gL_cpL, y_gL_nw, y_gR_sI, y_gR_sL, y_gR_cpI, y_gR_cpL, y_gR_nw, y_kd_nw, y_ln_nw, y_sz_nw, y_sl_nw, y_fx_int, y_fx_long, y_fx_ref, y_fx_null, y_fx_U, y_rf_s, y_rf_n, a_inb, a_ix, a_lt, a_eq, a_eq0, a_lt0, a_0lt, a_m1, a_m2, a_mlt, a_sub, a_dec, a_div, a_rem, a_shl, a_shr, a_bit, a_bit0, a_II, a_Ia, a_Ik, a_LL, a_La, a_Lk, a_RR, a_Ra, a_Rk, a_if0, a_if1, y_mul, y_and, y_or, nI_add, y_b1, y_b0, kon_v, kon_0, true_or, or_true, and_self, true_and, and_true, false_or, or_false, and_false, false_and, not_true_eq_false, not_false_eq_true, ite_self, ↓reduceIte, Nat.reduceEqDiff, Nat.reduceLeDiff, Nat.reduceAdd, Nat.reduceMul, Nat.reduceSub, Nat.reduceLT, Nat.reduceShiftLeft, Nat.reduceOr, Nat.reduceAnd, Bool.false_eq_true, la_k ho, la_r_0 ho, la_r_2 ho, la_r_4 ho, la_r_5 ho, la_r_6 ho, la_r_7 ho, la_r_8 ho, la_r_9 ho, la_k1 ho, la_l1 ho, la_k12 ho, la_l12 ho, la_k37 ho, la_l37 ho, la_k39 ho, la_l39 ho, la_k40 ho, la_l40 ho, la_k42 ho, la_l42 ho, la_k52 ho, la_l52 ho, la_k53 ho, la_l53 ho, la_k38 ho, la_r38_1 ho, la_r38_2 ho, la_k41 ho, la_r41_1 ho, la_f ho, la_fk ho, la_d ho, la_dk ho, c1, hlt, d9, d3, z1, Nat.or_zero]) nd 0 0 (by omega) rfl
  rw [n_Land_asOf, s_Land_asOf_0, s_Land_asOf_1, s_Land_asOf_2, s_Land_asOf_3]
  refine Eq.trans (show _ = ev g Land_asOf 4 [.ref l, .int y, .int (nI 0), .int (nI 0)] [] h from rfl) (e1.trans ?_)
  simp (disch := omega) only [s_Land_asOf_0, s_Land_asOf_1, s_Land_asOf_2, s_Land_asOf_3, s_Land_asOf_4, s_Land_asOf_5, s_Land_asOf_6, s_Land_asOf_9, s_Land_asOf_12, s_Land_asOf_13, s_Land_asOf_16, s_Land_asOf_17, s_Land_asOf_18, s_Land_asOf_21, s_Land_asOf_24, s_Land_asOf_25, s_Land_asOf_28, s_Land_asOf_29, s_Land_asOf_30, s_Land_asOf_33, s_Land_asOf_34, s_Land_asOf_37, s_Land_asOf_38, s_Land_asOf_39, s_Land_asOf_40, s_Land_asOf_41, s_Land_asOf_42, s_Land_asOf_43, s_Land_asOf_46, s_Land_asOf_49, s_Land_asOf_50, y_kd_sI, y_kd_sL, y_kd_sR, y_kd_cpI, y_kd_cpL, y_ln_sI, y_ln_sL, y_ln_sR, y_ln_cpI, y_ln_cpL, y_sz_sI, y_sz_sL, y_sz_sR, y_sz_cpI, y_sz_cpL, y_sl_sI, y_sl_sL, y_sl_sR, y_sl_cpI, y_sl_cpL, y_gI_sL, y_gI_sR, y_gI_cpI, y_gI_cpL, y_gI_nw, y_gL_sI, y_gL_sR, y_gL_cpI, y_gL_cpL, y_gL_nw, y_gR_sI, y_gR_sL, y_gR_cpI, y_gR_cpL, y_gR_nw, y_kd_nw, y_ln_nw, y_sz_nw, y_sl_nw, y_fx_int, y_fx_long, y_fx_ref, y_fx_null, y_fx_U, y_rf_s, y_rf_n, a_inb, a_ix, a_lt, a_eq, a_eq0, a_lt0, a_0lt, a_m1, a_m2, a_mlt, a_sub, a_dec, a_div, a_rem, a_shl, a_shr, a_bit, a_bit0, a_II, a_Ia, a_Ik, a_LL, a_La, a_Lk, a_RR, a_Ra, a_Rk, a_if0, a_if1, y_mul, y_and, y_or, nI_add, y_b1, y_b0, kon_v, kon_0, true_or, or_true, and_self, true_and, and_true, false_or, or_false, and_false, false_and, not_true_eq_false, not_false_eq_true, ite_self, ↓reduceIte, Nat.reduceEqDiff, Nat.reduceLeDiff, Nat.reduceAdd, Nat.reduceMul, Nat.reduceSub, Nat.reduceLT, Nat.reduceShiftLeft, Nat.reduceOr, Nat.reduceAnd, Bool.false_eq_true, la_k ho, la_r_0 ho, la_r_2 ho, la_r_4 ho, la_r_5 ho, la_r_6 ho, la_r_7 ho, la_r_8 ho, la_r_9 ho, la_k1 ho, la_l1 ho, la_k12 ho, la_l12 ho, la_k37 ho, la_l37 ho, la_k39 ho, la_l39 ho, la_k40 ho, la_l40 ho, la_k42 ho, la_l42 ho, la_k52 ho, la_l52 ho, la_k53 ho, la_l53 ho, la_k38 ho, la_r38_1 ho, la_r38_2 ho, la_k41 ho, la_r41_1 ho, la_f ho, la_fk ho, la_d ho, la_dk ho, c1, Nat.lt_irrefl, e2]
theorem nt255 : ∀ x : Fin 256, nI 255 &&& (nI x.val ^^^ (-1)) = nI (255 - x.val) := by decide +kernel
theorem q_Deed_lets {a b d : Nat} (hk : kd h a = 2) (h4 : gI h a 4 = V 20 d) (h5 : gI h a 5 = V 21 d) (h6 : gI h a 6 = V 22 d) (h7 : gI h a 7 = V 23 d) (hb : kd h b = 20) (hl : ln h b = 4) (hw : ∀ w : Nat, w < 4 → gI h b w = V 25 w) (hm : kMn V) (hd : nLt (V 21 d) 256 ∧ nLt (V 22 d) 16 ∧ nLt (V 23 d) 2) : call g Deed_lets [.ref a, .ref b] h = some (some (.int (nI (lts V d))), h) := by
  obtain ⟨⟨s, hs, hs2⟩, ⟨o, ho, ho2⟩, ⟨x, hx, hx2⟩⟩ := hd
  have loop : ∀ (k w s : Nat), w + k = 4 → s < 256 → ev g Deed_lets 29 [.ref a, .ref b, .int (nI s), .int (nI w)] [] h = some (some (.int (nI (match lW V o k w s with | none => 255 | some x => if V 23 d = nI 0 then x else 255 - x))), h) := by
    intro k
    induction k with
    | zero =>
      intro w s hw4 hs
      have e : w = 4 := by omega
      subst e
      unfold lW
      dsimp only
      have e255 := nt255 ⟨s, hs⟩
      dsimp only at e255
      by_cases z : V 23 d = nI 0
      · rw [if_pos z]
        rw [z] at h7
        have z3 : (nI 0 = (0 : Int32)) = True := eq_true (by decide)
        simp (disch := omega) only [s_Deed_lets_0, s_Deed_lets_1, s_Deed_lets_4, s_Deed_lets_5, s_Deed_lets_8, s_Deed_lets_9, s_Deed_lets_12, s_Deed_lets_15, s_Deed_lets_16, s_Deed_lets_19, s_Deed_lets_21, s_Deed_lets_22, s_Deed_lets_23, s_Deed_lets_26, s_Deed_lets_27, s_Deed_lets_28, s_Deed_lets_29, s_Deed_lets_30, s_Deed_lets_31, s_Deed_lets_32, s_Deed_lets_35, s_Deed_lets_36, s_Deed_lets_39, s_Deed_lets_40, s_Deed_lets_41, s_Deed_lets_42, s_Deed_lets_43, s_Deed_lets_46, s_Deed_lets_47, s_Deed_lets_48, s_Deed_lets_49, s_Deed_lets_50, s_Deed_lets_53, s_Deed_lets_56, s_Deed_lets_57, s_Deed_lets_58, s_Deed_lets_59, s_Deed_lets_60, s_Deed_lets_61, s_Deed_lets_62, s_Deed_lets_63, s_Deed_lets_64, s_Deed_lets_65, s_Deed_lets_68, s_Deed_lets_71, s_Deed_lets_72, s_Deed_lets_75, s_Deed_lets_78, s_Deed_lets_81, s_Deed_lets_82, s_Deed_lets_83, s_Deed_lets_84, s_Deed_lets_85, s_Deed_lets_88, s_Deed_lets_89, y_kd_sI, y_kd_sL, y_kd_sR, y_kd_cpI, y_kd_cpL, y_ln_sI, y_ln_sL, y_ln_sR, y_ln_cpI, y_ln_cpL, y_sz_sI, y_sz_sL, y_sz_sR, y_sz_cpI, y_sz_cpL, y_sl_sI, y_sl_sL, y_sl_sR, y_sl_cpI, y_sl_cpL, y_gI_sL, y_gI_sR, y_gI_cpI, y_gI_cpL, y_gI_nw, y_gL_sI, y_gL_sR, y_gL_cpI, y_gL_cpL, y_gL_nw, y_gR_sI, y_gR_sL, y_gR_cpI, y_gR_cpL, y_gR_nw, y_kd_nw, y_ln_nw, y_sz_nw, y_sl_nw, y_fx_int, y_fx_long, y_fx_ref, y_fx_null, y_fx_U, y_rf_s, y_rf_n, a_inb, a_ix, a_lt, a_eq, a_eq0, a_lt0, a_0lt, a_m1, a_m2, a_mlt, a_sub, a_dec, a_div, a_rem, a_shl, a_shr, a_bit, a_bit0, a_II, a_Ia, a_Ik, a_LL, a_La, a_Lk, a_RR, a_Ra, a_Rk, a_if0, a_if1, y_mul, y_and, y_or, nI_add, y_b1, y_b0, kon_v, kon_0, true_or, or_true, and_self, true_and, and_true, false_or, or_false, and_false, false_and, not_true_eq_false, not_false_eq_true, ite_self, ↓reduceIte, Nat.reduceEqDiff, Nat.reduceLeDiff, Nat.reduceAdd, Nat.reduceMul, Nat.reduceSub, Nat.reduceLT, Nat.reduceShiftLeft, Nat.reduceOr, Nat.reduceAnd, Bool.false_eq_true, hk, hb, hl, Nat.lt_irrefl, h7, z3]
      · rw [if_neg z]
        have z3 : (V 23 d = (0 : Int32)) = False := eq_false z
        simp (disch := omega) only [s_Deed_lets_0, s_Deed_lets_1, s_Deed_lets_4, s_Deed_lets_5, s_Deed_lets_8, s_Deed_lets_9, s_Deed_lets_12, s_Deed_lets_15, s_Deed_lets_16, s_Deed_lets_19, s_Deed_lets_21, s_Deed_lets_22, s_Deed_lets_23, s_Deed_lets_26, s_Deed_lets_27, s_Deed_lets_28, s_Deed_lets_29, s_Deed_lets_30, s_Deed_lets_31, s_Deed_lets_32, s_Deed_lets_35, s_Deed_lets_36, s_Deed_lets_39, s_Deed_lets_40, s_Deed_lets_41, s_Deed_lets_42, s_Deed_lets_43, s_Deed_lets_46, s_Deed_lets_47, s_Deed_lets_48, s_Deed_lets_49, s_Deed_lets_50, s_Deed_lets_53, s_Deed_lets_56, s_Deed_lets_57, s_Deed_lets_58, s_Deed_lets_59, s_Deed_lets_60, s_Deed_lets_61, s_Deed_lets_62, s_Deed_lets_63, s_Deed_lets_64, s_Deed_lets_65, s_Deed_lets_68, s_Deed_lets_71, s_Deed_lets_72, s_Deed_lets_75, s_Deed_lets_78, s_Deed_lets_81, s_Deed_lets_82, s_Deed_lets_83, s_Deed_lets_84, s_Deed_lets_85, s_Deed_lets_88, s_Deed_lets_89, y_kd_sI, y_kd_sL, y_kd_sR, y_kd_cpI, y_kd_cpL, y_ln_sI, y_ln_sL, y_ln_sR, y_ln_cpI, y_ln_cpL, y_sz_sI, y_sz_sL, y_sz_sR, y_sz_cpI, y_sz_cpL, y_sl_sI, y_sl_sL, y_sl_sR, y_sl_cpI, y_sl_cpL, y_gI_sL, y_gI_sR, y_gI_cpI, y_gI_cpL, y_gI_nw, y_gL_sI, y_gL_sR, y_gL_cpI, y_gL_cpL, y_gL_nw, y_gR_sI, y_gR_sL, y_gR_cpI, y_gR_cpL, y_gR_nw, y_kd_nw, y_ln_nw, y_sz_nw, y_sl_nw, y_fx_int, y_fx_long, y_fx_ref, y_fx_null, y_fx_U, y_rf_s, y_rf_n, a_inb, a_ix, a_lt, a_eq, a_eq0, a_lt0, a_0lt, a_m1, a_m2, a_mlt, a_sub, a_dec, a_div, a_rem, a_shl, a_shr, a_bit, a_bit0, a_II, a_Ia, a_Ik, a_LL, a_La, a_Lk, a_RR, a_Ra, a_Rk, a_if0, a_if1, y_mul, y_and, y_or, nI_add, y_b1, y_b0, kon_v, kon_0, true_or, or_true, and_self, true_and, and_true, false_or, or_false, and_false, false_and, not_true_eq_false, not_false_eq_true, ite_self, ↓reduceIte, Nat.reduceEqDiff, Nat.reduceLeDiff, Nat.reduceAdd, Nat.reduceMul, Nat.reduceSub, Nat.reduceLT, Nat.reduceShiftLeft, Nat.reduceOr, Nat.reduceAnd, Bool.false_eq_true, hk, hb, hl, Nat.lt_irrefl, h7, z3, e255]
    | succ k ih =>
      intro w s hw4 hs
      have hlt : (w < 4) = True := eq_true (by omega)
      have w1 := hw w (by omega)
      unfold lW
      rw [s_Deed_lets_29]
      by_cases z1 : o.testBit w = true
      · rw [if_pos z1]
        by_cases z2 : V 25 w = -1
        · rw [if_pos z2]
          simp (disch := omega) only [s_Deed_lets_0, s_Deed_lets_1, s_Deed_lets_4, s_Deed_lets_5, s_Deed_lets_8, s_Deed_lets_9, s_Deed_lets_12, s_Deed_lets_15, s_Deed_lets_16, s_Deed_lets_19, s_Deed_lets_21, s_Deed_lets_22, s_Deed_lets_23, s_Deed_lets_26, s_Deed_lets_27, s_Deed_lets_28, s_Deed_lets_30, s_Deed_lets_31, s_Deed_lets_32, s_Deed_lets_35, s_Deed_lets_36, s_Deed_lets_39, s_Deed_lets_40, s_Deed_lets_41, s_Deed_lets_42, s_Deed_lets_43, s_Deed_lets_46, s_Deed_lets_47, s_Deed_lets_48, s_Deed_lets_49, s_Deed_lets_50, s_Deed_lets_53, s_Deed_lets_56, s_Deed_lets_57, s_Deed_lets_58, s_Deed_lets_59, s_Deed_lets_60, s_Deed_lets_61, s_Deed_lets_62, s_Deed_lets_63, s_Deed_lets_64, s_Deed_lets_65, s_Deed_lets_68, s_Deed_lets_71, s_Deed_lets_72, s_Deed_lets_75, s_Deed_lets_78, s_Deed_lets_81, s_Deed_lets_82, s_Deed_lets_83, s_Deed_lets_84, s_Deed_lets_85, s_Deed_lets_88, s_Deed_lets_89, y_kd_sI, y_kd_sL, y_kd_sR, y_kd_cpI, y_kd_cpL, y_ln_sI, y_ln_sL, y_ln_sR, y_ln_cpI, y_ln_cpL, y_sz_sI, y_sz_sL, y_sz_sR, y_sz_cpI, y_sz_cpL, y_sl_sI, y_sl_sL, y_sl_sR, y_sl_cpI, y_sl_cpL, y_gI_sL, y_gI_sR, y_gI_cpI, y_gI_cpL, y_gI_nw, y_gL_sI, y_gL_sR, y_gL_cpI, y_gL_cpL, y_gL_nw, y_gR_sI, y_gR_sL, y_gR_cpI, y_gR_cpL, y_gR_nw, y_kd_nw, y_ln_nw, y_sz_nw, y_sl_nw, y_fx_int, y_fx_long, y_fx_ref, y_fx_null, y_fx_U, y_rf_s, y_rf_n, a_inb, a_ix, a_lt, a_eq, a_eq0, a_lt0, a_0lt, a_m1, a_m2, a_mlt, a_sub, a_dec, a_div, a_rem, a_shl, a_shr, a_bit, a_bit0, a_II, a_Ia, a_Ik, a_LL, a_La, a_Lk, a_RR, a_Ra, a_Rk, a_if0, a_if1, y_mul, y_and, y_or, nI_add, y_b1, y_b0, kon_v, kon_0, true_or, or_true, and_self, true_and, and_true, false_or, or_false, and_false, false_and, not_true_eq_false, not_false_eq_true, ite_self, ↓reduceIte, Nat.reduceEqDiff, Nat.reduceLeDiff, Nat.reduceAdd, Nat.reduceMul, Nat.reduceSub, Nat.reduceLT, Nat.reduceShiftLeft, Nat.reduceOr, Nat.reduceAnd, Bool.false_eq_true, hk, hb, hl, hlt, h6, ho, z1, w1, z2]
        · rw [if_neg z2]
          obtain ⟨j, c, hj⟩ : nLt (V 25 w) 8 := by
            rcases hm w (by omega) with c | c
            · exact absurd c z2
            · exact c
          have hs' : s ||| 1 <<< j < 256 := by
            have : (1 : Nat) <<< j < 256 := by
              rw [Nat.one_shiftLeft]
              exact Nat.lt_of_le_of_lt (Nat.pow_le_pow_right (by decide) (show j ≤ 7 by omega)) (by decide)
            exact Nat.or_lt_two_pow (n := 8) hs this
          rw [c, a_ix (show j < 2147483648 by omega), ← ih (w + 1) _ (by omega) hs']
          simp (disch := omega) only [s_Deed_lets_0, s_Deed_lets_1, s_Deed_lets_4, s_Deed_lets_5, s_Deed_lets_8, s_Deed_lets_9, s_Deed_lets_12, s_Deed_lets_15, s_Deed_lets_16, s_Deed_lets_19, s_Deed_lets_21, s_Deed_lets_22, s_Deed_lets_23, s_Deed_lets_26, s_Deed_lets_27, s_Deed_lets_28, s_Deed_lets_30, s_Deed_lets_31, s_Deed_lets_32, s_Deed_lets_35, s_Deed_lets_36, s_Deed_lets_39, s_Deed_lets_40, s_Deed_lets_41, s_Deed_lets_42, s_Deed_lets_43, s_Deed_lets_46, s_Deed_lets_47, s_Deed_lets_48, s_Deed_lets_49, s_Deed_lets_50, s_Deed_lets_53, s_Deed_lets_56, s_Deed_lets_57, s_Deed_lets_58, s_Deed_lets_59, s_Deed_lets_60, s_Deed_lets_61, s_Deed_lets_62, s_Deed_lets_63, s_Deed_lets_64, s_Deed_lets_65, s_Deed_lets_68, s_Deed_lets_71, s_Deed_lets_72, s_Deed_lets_75, s_Deed_lets_78, s_Deed_lets_81, s_Deed_lets_82, s_Deed_lets_83, s_Deed_lets_84, s_Deed_lets_85, s_Deed_lets_88, s_Deed_lets_89, y_kd_sI, y_kd_sL, y_kd_sR, y_kd_cpI, y_kd_cpL, y_ln_sI, y_ln_sL, y_ln_sR, y_ln_cpI, y_ln_cpL, y_sz_sI, y_sz_sL, y_sz_sR, y_sz_cpI, y_sz_cpL, y_sl_sI, y_sl_sL, y_sl_sR, y_sl_cpI, y_sl_cpL, y_gI_sL, y_gI_sR, y_gI_cpI, y_gI_cpL, y_gI_nw, y_gL_sI, y_gL_sR, y_gL_cpI, y_gL_cpL, y_gL_nw, y_gR_sI, y_gR_sL, y_gR_cpI, y_gR_cpL, y_gR_nw, y_kd_nw, y_ln_nw, y_sz_nw, y_sl_nw, y_fx_int, y_fx_long, y_fx_ref, y_fx_null, y_fx_U, y_rf_s, y_rf_n, a_inb, a_ix, a_lt, a_eq, a_eq0, a_lt0, a_0lt, a_m1, a_m2, a_mlt, a_sub, a_dec, a_div, a_rem, a_shl, a_shr, a_bit, a_bit0, a_II, a_Ia, a_Ik, a_LL, a_La, a_Lk, a_RR, a_Ra, a_Rk, a_if0, a_if1, y_mul, y_and, y_or, nI_add, y_b1, y_b0, kon_v, kon_0, true_or, or_true, and_self, true_and, and_true, false_or, or_false, and_false, false_and, not_true_eq_false, not_false_eq_true, ite_self, ↓reduceIte, Nat.reduceEqDiff, Nat.reduceLeDiff, Nat.reduceAdd, Nat.reduceMul, Nat.reduceSub, Nat.reduceLT, Nat.reduceShiftLeft, Nat.reduceOr, Nat.reduceAnd, Bool.false_eq_true, hk, hb, hl, hlt, h6, ho, z1, w1, c]
      · rw [if_neg z1, ← ih (w + 1) s (by omega) hs]
        simp (disch := omega) only [s_Deed_lets_0, s_Deed_lets_1, s_Deed_lets_4, s_Deed_lets_5, s_Deed_lets_8, s_Deed_lets_9, s_Deed_lets_12, s_Deed_lets_15, s_Deed_lets_16, s_Deed_lets_19, s_Deed_lets_21, s_Deed_lets_22, s_Deed_lets_23, s_Deed_lets_26, s_Deed_lets_27, s_Deed_lets_28, s_Deed_lets_30, s_Deed_lets_31, s_Deed_lets_32, s_Deed_lets_35, s_Deed_lets_36, s_Deed_lets_39, s_Deed_lets_40, s_Deed_lets_41, s_Deed_lets_42, s_Deed_lets_43, s_Deed_lets_46, s_Deed_lets_47, s_Deed_lets_48, s_Deed_lets_49, s_Deed_lets_50, s_Deed_lets_53, s_Deed_lets_56, s_Deed_lets_57, s_Deed_lets_58, s_Deed_lets_59, s_Deed_lets_60, s_Deed_lets_61, s_Deed_lets_62, s_Deed_lets_63, s_Deed_lets_64, s_Deed_lets_65, s_Deed_lets_68, s_Deed_lets_71, s_Deed_lets_72, s_Deed_lets_75, s_Deed_lets_78, s_Deed_lets_81, s_Deed_lets_82, s_Deed_lets_83, s_Deed_lets_84, s_Deed_lets_85, s_Deed_lets_88, s_Deed_lets_89, y_kd_sI, y_kd_sL, y_kd_sR, y_kd_cpI, y_kd_cpL, y_ln_sI, y_ln_sL, y_ln_sR, y_ln_cpI, y_ln_cpL, y_sz_sI, y_sz_sL, y_sz_sR, y_sz_cpI, y_sz_cpL, y_sl_sI, y_sl_sL, y_sl_sR, y_sl_cpI, y_sl_cpL, y_gI_sL, y_gI_sR, y_gI_cpI, y_gI_cpL, y_gI_nw, y_gL_sI, y_gL_sR, y_gL_cpI, y_gL_cpL, y_gL_nw, y_gR_sI, y_gR_sL, y_gR_cpI, y_gR_cpL, y_gR_nw, y_kd_nw, y_ln_nw, y_sz_nw, y_sl_nw, y_fx_int, y_fx_long, y_fx_ref, y_fx_null, y_fx_U, y_rf_s, y_rf_n, a_inb, a_ix, a_lt, a_eq, a_eq0, a_lt0, a_0lt, a_m1, a_m2, a_mlt, a_sub, a_dec, a_div, a_rem, a_shl, a_shr, a_bit, a_bit0, a_II, a_Ia, a_Ik, a_LL, a_La, a_Lk, a_RR, a_Ra, a_Rk, a_if0, a_if1, y_mul, y_and, y_or, nI_add, y_b1, y_b0, kon_v, kon_0, true_or, or_true, and_self, true_and, and_true, false_or, or_false, and_false, false_and, not_true_eq_false, not_false_eq_true, ite_self, ↓reduceIte, Nat.reduceEqDiff, Nat.reduceLeDiff, Nat.reduceAdd, Nat.reduceMul, Nat.reduceSub, Nat.reduceLT, Nat.reduceShiftLeft, Nat.reduceOr, Nat.reduceAnd, Bool.false_eq_true, hk, hb, hl, hlt, h6, ho, z1]
  rw [n_Deed_lets]
  unfold lts
  by_cases z : V 20 d = -1
  · rw [if_pos z]
    have e5 : ix (V 22 d) = o := by rw [ho, a_ix (by omega)]
    have e6 : ix (V 21 d) = s := by rw [hs, a_ix (by omega)]
    rw [e5, e6, ← loop 4 0 s (by omega) hs2]
    simp (disch := omega) only [s_Deed_lets_0, s_Deed_lets_1, s_Deed_lets_4, s_Deed_lets_5, s_Deed_lets_8, s_Deed_lets_9, s_Deed_lets_12, s_Deed_lets_15, s_Deed_lets_16, s_Deed_lets_19, s_Deed_lets_21, s_Deed_lets_22, s_Deed_lets_23, s_Deed_lets_26, s_Deed_lets_27, s_Deed_lets_28, s_Deed_lets_30, s_Deed_lets_31, s_Deed_lets_32, s_Deed_lets_35, s_Deed_lets_36, s_Deed_lets_39, s_Deed_lets_40, s_Deed_lets_41, s_Deed_lets_42, s_Deed_lets_43, s_Deed_lets_46, s_Deed_lets_47, s_Deed_lets_48, s_Deed_lets_49, s_Deed_lets_50, s_Deed_lets_53, s_Deed_lets_56, s_Deed_lets_57, s_Deed_lets_58, s_Deed_lets_59, s_Deed_lets_60, s_Deed_lets_61, s_Deed_lets_62, s_Deed_lets_63, s_Deed_lets_64, s_Deed_lets_65, s_Deed_lets_68, s_Deed_lets_71, s_Deed_lets_72, s_Deed_lets_75, s_Deed_lets_78, s_Deed_lets_81, s_Deed_lets_82, s_Deed_lets_83, s_Deed_lets_84, s_Deed_lets_85, s_Deed_lets_88, s_Deed_lets_89, y_kd_sI, y_kd_sL, y_kd_sR, y_kd_cpI, y_kd_cpL, y_ln_sI, y_ln_sL, y_ln_sR, y_ln_cpI, y_ln_cpL, y_sz_sI, y_sz_sL, y_sz_sR, y_sz_cpI, y_sz_cpL, y_sl_sI, y_sl_sL, y_sl_sR, y_sl_cpI, y_sl_cpL, y_gI_sL, y_gI_sR, y_gI_cpI, y_gI_cpL, y_gI_nw, y_gL_sI, y_gL_sR, y_gL_cpI, y_gL_cpL, y_gL_nw, y_gR_sI, y_gR_sL, y_gR_cpI, y_gR_cpL, y_gR_nw, y_kd_nw, y_ln_nw, y_sz_nw, y_sl_nw, y_fx_int, y_fx_long, y_fx_ref, y_fx_null, y_fx_U, y_rf_s, y_rf_n, a_inb, a_ix, a_lt, a_eq, a_eq0, a_lt0, a_0lt, a_m1, a_m2, a_mlt, a_sub, a_dec, a_div, a_rem, a_shl, a_shr, a_bit, a_bit0, a_II, a_Ia, a_Ik, a_LL, a_La, a_Lk, a_RR, a_Ra, a_Rk, a_if0, a_if1, y_mul, y_and, y_or, nI_add, y_b1, y_b0, kon_v, kon_0, true_or, or_true, and_self, true_and, and_true, false_or, or_false, and_false, false_and, not_true_eq_false, not_false_eq_true, ite_self, ↓reduceIte, Nat.reduceEqDiff, Nat.reduceLeDiff, Nat.reduceAdd, Nat.reduceMul, Nat.reduceSub, Nat.reduceLT, Nat.reduceShiftLeft, Nat.reduceOr, Nat.reduceAnd, Bool.false_eq_true, hk, h4, h5, hs, z]
  · rw [if_neg z]
    by_cases z2 : V 20 d = nI 0
    · rw [if_pos z2]
      have z3 : (V 20 d = (0 : Int32)) = True := eq_true z2
      have z4 : (V 20 d = (-1 : Int32)) = False := eq_false z
      simp (disch := omega) only [s_Deed_lets_0, s_Deed_lets_1, s_Deed_lets_4, s_Deed_lets_5, s_Deed_lets_8, s_Deed_lets_9, s_Deed_lets_12, s_Deed_lets_15, s_Deed_lets_16, s_Deed_lets_19, s_Deed_lets_21, s_Deed_lets_22, s_Deed_lets_23, s_Deed_lets_26, s_Deed_lets_27, s_Deed_lets_28, s_Deed_lets_30, s_Deed_lets_31, s_Deed_lets_32, s_Deed_lets_35, s_Deed_lets_36, s_Deed_lets_39, s_Deed_lets_40, s_Deed_lets_41, s_Deed_lets_42, s_Deed_lets_43, s_Deed_lets_46, s_Deed_lets_47, s_Deed_lets_48, s_Deed_lets_49, s_Deed_lets_50, s_Deed_lets_53, s_Deed_lets_56, s_Deed_lets_57, s_Deed_lets_58, s_Deed_lets_59, s_Deed_lets_60, s_Deed_lets_61, s_Deed_lets_62, s_Deed_lets_63, s_Deed_lets_64, s_Deed_lets_65, s_Deed_lets_68, s_Deed_lets_71, s_Deed_lets_72, s_Deed_lets_75, s_Deed_lets_78, s_Deed_lets_81, s_Deed_lets_82, s_Deed_lets_83, s_Deed_lets_84, s_Deed_lets_85, s_Deed_lets_88, s_Deed_lets_89, y_kd_sI, y_kd_sL, y_kd_sR, y_kd_cpI, y_kd_cpL, y_ln_sI, y_ln_sL, y_ln_sR, y_ln_cpI, y_ln_cpL, y_sz_sI, y_sz_sL, y_sz_sR, y_sz_cpI, y_sz_cpL, y_sl_sI, y_sl_sL, y_sl_sR, y_sl_cpI, y_sl_cpL, y_gI_sL, y_gI_sR, y_gI_cpI, y_gI_cpL, y_gI_nw, y_gL_sI, y_gL_sR, y_gL_cpI, y_gL_cpL, y_gL_nw, y_gR_sI, y_gR_sL, y_gR_cpI, y_gR_cpL, y_gR_nw, y_kd_nw, y_ln_nw, y_sz_nw, y_sl_nw, y_fx_int, y_fx_long, y_fx_ref, y_fx_null, y_fx_U, y_rf_s, y_rf_n, a_inb, a_ix, a_lt, a_eq, a_eq0, a_lt0, a_0lt, a_m1, a_m2, a_mlt, a_sub, a_dec, a_div, a_rem, a_shl, a_shr, a_bit, a_bit0, a_II, a_Ia, a_Ik, a_LL, a_La, a_Lk, a_RR, a_Ra, a_Rk, a_if0, a_if1, y_mul, y_and, y_or, nI_add, y_b1, y_b0, kon_v, kon_0, true_or, or_true, and_self, true_and, and_true, false_or, or_false, and_false, false_and, not_true_eq_false, not_false_eq_true, ite_self, ↓reduceIte, Nat.reduceEqDiff, Nat.reduceLeDiff, Nat.reduceAdd, Nat.reduceMul, Nat.reduceSub, Nat.reduceLT, Nat.reduceShiftLeft, Nat.reduceOr, Nat.reduceAnd, Bool.false_eq_true, hk, h4, z3, z4]
    · rw [if_neg z2]
      have z3 : (V 20 d = (0 : Int32)) = False := eq_false z2
      have z4 : (V 20 d = (-1 : Int32)) = False := eq_false z
      simp (disch := omega) only [s_Deed_lets_0, s_Deed_lets_1, s_Deed_lets_4, s_Deed_lets_5, s_Deed_lets_8, s_Deed_lets_9, s_Deed_lets_12, s_Deed_lets_15, s_Deed_lets_16, s_Deed_lets_19, s_Deed_lets_21, s_Deed_lets_22, s_Deed_lets_23, s_Deed_lets_26, s_Deed_lets_27, s_Deed_lets_28, s_Deed_lets_30, s_Deed_lets_31, s_Deed_lets_32, s_Deed_lets_35, s_Deed_lets_36, s_Deed_lets_39, s_Deed_lets_40, s_Deed_lets_41, s_Deed_lets_42, s_Deed_lets_43, s_Deed_lets_46, s_Deed_lets_47, s_Deed_lets_48, s_Deed_lets_49, s_Deed_lets_50, s_Deed_lets_53, s_Deed_lets_56, s_Deed_lets_57, s_Deed_lets_58, s_Deed_lets_59, s_Deed_lets_60, s_Deed_lets_61, s_Deed_lets_62, s_Deed_lets_63, s_Deed_lets_64, s_Deed_lets_65, s_Deed_lets_68, s_Deed_lets_71, s_Deed_lets_72, s_Deed_lets_75, s_Deed_lets_78, s_Deed_lets_81, s_Deed_lets_82, s_Deed_lets_83, s_Deed_lets_84, s_Deed_lets_85, s_Deed_lets_88, s_Deed_lets_89, y_kd_sI, y_kd_sL, y_kd_sR, y_kd_cpI, y_kd_cpL, y_ln_sI, y_ln_sL, y_ln_sR, y_ln_cpI, y_ln_cpL, y_sz_sI, y_sz_sL, y_sz_sR, y_sz_cpI, y_sz_cpL, y_sl_sI, y_sl_sL, y_sl_sR, y_sl_cpI, y_sl_cpL, y_gI_sL, y_gI_sR, y_gI_cpI, y_gI_cpL, y_gI_nw, y_gL_sI, y_gL_sR, y_gL_cpI, y_gL_cpL, y_gL_nw, y_gR_sI, y_gR_sL, y_gR_cpI, y_gR_cpL, y_gR_nw, y_kd_nw, y_ln_nw, y_sz_nw, y_sl_nw, y_fx_int, y_fx_long, y_fx_ref, y_fx_null, y_fx_U, y_rf_s, y_rf_n, a_inb, a_ix, a_lt, a_eq, a_eq0, a_lt0, a_0lt, a_m1, a_m2, a_mlt, a_sub, a_dec, a_div, a_rem, a_shl, a_shr, a_bit, a_bit0, a_II, a_Ia, a_Ik, a_LL, a_La, a_Lk, a_RR, a_Ra, a_Rk, a_if0, a_if1, y_mul, y_and, y_or, nI_add, y_b1, y_b0, kon_v, kon_0, true_or, or_true, and_self, true_and, and_true, false_or, or_false, and_false, false_and, not_true_eq_false, not_false_eq_true, ite_self, ↓reduceIte, Nat.reduceEqDiff, Nat.reduceLeDiff, Nat.reduceAdd, Nat.reduceMul, Nat.reduceSub, Nat.reduceLT, Nat.reduceShiftLeft, Nat.reduceOr, Nat.reduceAnd, Bool.false_eq_true, hk, h4, z3, z4]
theorem mOpen_I : ∀ (k i : Nat) (h : zMem) (b j : Nat), gI (mOpen o k i h) b j = if b = o + 1 ∧ i ≤ j ∧ j < i + k then nI 255 else if b = o + 5 ∧ i ≤ j ∧ j < i + k then nI 0 else gI h b j
  | 0, i, h, b, j => by
    unfold mOpen
    rw [if_neg (by omega), if_neg (by omega)]
  | k + 1, i, h, b, j => by
    unfold mOpen
    rw [mOpen_I k (i + 1)]
    by_cases c1 : b = o + 1
    · subst c1
      by_cases c2 : i ≤ j ∧ j < i + (k + 1)
      · rw [if_pos (show o + 1 = o + 1 ∧ i ≤ j ∧ j < i + (k + 1) from ⟨rfl, c2⟩)]
        by_cases c3 : j = i
        · rw [if_neg (by omega), if_neg (by omega), a_Ia (by omega), c3, a_II]
        · rw [if_pos (by omega)]
      · rw [if_neg (by omega), if_neg (by omega), if_neg (by omega), if_neg (by omega), a_Ia (by omega), a_Ik (by omega)]
    · rw [if_neg (by omega), if_neg (show ¬ (b = o + 1 ∧ i ≤ j ∧ j < i + (k + 1)) by omega)]
      by_cases c4 : b = o + 5
      · subst c4
        by_cases c2 : i ≤ j ∧ j < i + (k + 1)
        · rw [if_pos (show o + 5 = o + 5 ∧ i ≤ j ∧ j < i + (k + 1) from ⟨rfl, c2⟩)]
          by_cases c3 : j = i
          · rw [if_neg (by omega), c3, a_II]
          · rw [if_pos (by omega)]
        · rw [if_neg (by omega), if_neg (by omega), a_Ik (by omega), a_Ia (by omega)]
      · rw [if_neg (by omega), if_neg (by omega), a_Ia (by omega), a_Ia (by omega)]
theorem mOpen_s : ∀ (k i : Nat) (h : zMem), sameO o h (mOpen o k i h)
  | 0, i, h => sameO.rf
  | k + 1, i, h => ((sameO.I (by omega)).trn (sameO.I (by omega))).trn (mOpen_s k (i + 1) _)
theorem c_Sets_open {n : Nat} (ho : oSets h o r t) : ∃ h' : zMem, call g Sets_open [.ref o, .int (nI n)] h = some (none, h') ∧ rS h' o n 0 (fun _ => 255, [], []) ∧ sameO o h h' := by
  refine ⟨_, q_Sets_open ho, ?_, (((sameO.I (by omega)).trn (sameO.I (by omega))).trn (sameO.I (by omega))).trn ((sameO.I (by omega)).trn (mOpen_s 100 0 _))⟩
  have e : ∀ b j : Nat, gI (mOpen o 100 0 (sI (sI (sI (sI h o 1 (nI n)) o 2 (nI 0)) o 8 (nI 0)) o 9 (nI 0))) b j = if b = o + 1 ∧ 0 ≤ j ∧ j < 0 + 100 then nI 255 else if b = o + 5 ∧ 0 ≤ j ∧ j < 0 + 100 then nI 0 else gI (sI (sI (sI (sI h o 1 (nI n)) o 2 (nI 0)) o 8 (nI 0)) o 9 (nI 0)) b j := fun b j => mOpen_I 100 0 _ b j
  generalize mOpen o 100 0 (sI (sI (sI (sI h o 1 (nI n)) o 2 (nI 0)) o 8 (nI 0)) o 9 (nI 0)) = h1 at e ⊢
  refine ⟨?_, fun p hp => ⟨?_, show (255 : Nat) < 256 by decide⟩, ?_, show 0 ≤ 360 by decide, fun i x hx => ?_, ?_, by decide, ?_, show 0 ≤ 45 by decide, fun i x hx => ?_, fun p hp => ?_⟩
  · rw [e, if_neg (by omega), if_neg (by omega), a_Ik (by decide), a_Ik (by decide), a_Ik (by decide), a_II]
  · rw [e, if_pos (by omega)]
  · rw [e, if_neg (by omega), if_neg (by omega), a_Ik (by decide), a_Ik (by decide), a_II]; rfl
  · cases hx
  · rw [e, if_neg (by omega), if_neg (by omega), a_Ik (by decide), a_II]
  · rw [e, if_neg (by omega), if_neg (by omega), a_II]; rfl
  · cases hx
  · rw [e, if_neg (by omega), if_pos (by omega), bZ_f List.not_mem_nil]
end ZFI
