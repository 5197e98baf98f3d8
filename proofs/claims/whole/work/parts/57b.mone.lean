/-! the reference reads a number, a way, an old word -/
/-- what reading the n-th deed changes -/
def mdF (m n : Nat) (h h' : zMem) : Prop := shp h h' ∧ (∀ b k : Nat, ¬ (b = m ∧ 43 ≤ k ∧ k ≤ 48) → ¬ (m + 22 ≤ b ∧ b ≤ m + 30 ∧ k = n) → gI h' b k = gI h b k) ∧ ∀ b k : Nat, ¬ (b = m ∧ k = 46) → gL h' b k = gL h b k
/-- of the deed all but what lies at x and y stays -/
def mdk (m n x y : Nat) (h h' : zMem) : Prop := ∀ b : Nat, m + 22 ≤ b → b ≤ m + 30 → ¬ b = m + x → ¬ b = m + y → gI h' b n = gI h b n
def mC (g : Nat → Nat) (h : zMem) (m B : Nat) (T : zT) : Prop := zStr g h B ∧ oMo h m ∧ mTp h m T ∧ kTp T ∧ B ≤ m ∧ (∀ i : Nat, i < 8 → gR h (m + 83) i = some (g (104 + i))) ∧ ∀ i : Nat, i < 3 → gR h (m + 84) i = some (g (100 + i))
section ZMO1
variable {g : Nat → Nat} {B m p s e k i n a b q u x y : Nat} {h h' h'' : zMem} {T : zT} {σ : zK}
theorem mdF.rf : mdF m n h h := ⟨⟨fun _ => rfl, fun _ => rfl, fun _ _ => rfl, rfl, rfl⟩, fun _ _ _ _ => rfl, fun _ _ _ => rfl⟩
theorem mdF.tr (x : mdF m n h h') (y : mdF m n h' h'') : mdF m n h h'' := ⟨shp_tr x.1 y.1, fun b k c d => (y.2.1 b k c d).trans (x.2.1 b k c d), fun b k c => (y.2.2 b k c).trans (x.2.2 b k c)⟩
theorem mdF.lk (f : lkF m h h') : mdF m n h h' := ⟨f.1, fun b k c _ => f.2.1 b k (fun z => c ⟨z.1, z.2.1, by omega⟩), f.2.2⟩
theorem mdF.In {k : Nat} {v : Int32} (x : mdF m n h h') (hk : 43 ≤ k ∧ k ≤ 48) : mdF m n h (sI h' m k v) := ⟨x.1, fun b j c d => by rw [y_gI_sI, if_neg (fun z => c ⟨z.1, by omega⟩)]; exact x.2.1 b j c d, fun b j c => x.2.2 b j c⟩
theorem mdF.D {k : Nat} {v : Int32} (x : mdF m n h h') (hk : 22 ≤ k ∧ k ≤ 30) : mdF m n h (sI h' (m + k) n v) := ⟨x.1, fun b j c d => by rw [y_gI_sI, if_neg (fun z => d ⟨by omega, by omega, z.2⟩)]; exact x.2.1 b j c d, fun b j c => x.2.2 b j c⟩
theorem lkF.d (f : lkF m h h') {b : Nat} (hb : m + 22 ≤ b) : gI h' b n = gI h b n := f.2.1 b n (by omega)
theorem mC.fr (c : mC g h m B T) (f : mdF m n h h') : mC g h' m B T := by
  obtain ⟨z, o, c, kt, hB, w8, w3⟩ := c
  obtain ⟨s, f1, f2⟩ := f
  refine ⟨fun k hk => ?_, s.mo o, ⟨(f1 _ _ (by omega) (by omega)).trans c.1, fun i hi => (f1 _ _ (by omega) (by omega)).trans (c.2 i hi)⟩, kt, hB, fun i hi => (s.2.2.1 _ _).trans (w8 i hi), fun i hi => (s.2.2.1 _ _).trans (w3 i hi)⟩
  obtain ⟨w1, w2, v, w3, w4, w5, w6, w7⟩ := z k hk
  exact ⟨(s.1 _).trans w1, w2, v, (s.2.2.1 _ _).trans w3, w4, (s.1 _).trans w5, (s.2.1 _).trans w6, fun i hi => (f1 _ _ (by omega) (by omega)).trans (w7 i hi)⟩
theorem mC.km (c : mC g h m B T) : kd h m = 13 := mo_k c.2.1
theorem mC.sp (c : mC g h m B T) (k : Nat) (hk : k < 17) (t : mkn h m T σ) (ok : okt T σ) : call g Mo_isWord [.ref m, .ref (g (100 + k))] h = some (some (.int (bZ (isWb T σ (zWd k) = true))), h) := q_isWord c.1 c.km t ok hk
theorem mC.av (c : mC g h m B T) (t : mkn h m T σ) (ok : okt T σ) (h3 : ¬ σ.1 = 3) : ∃ h' : zMem, call g Mo_look [.ref m] h = some (none, h') ∧ lkF m h h' ∧ mkn h' m T (tk T σ.2.2) := c_look c.2.1 c.2.2.1 c.2.2.2.1 (t.2.2.1 h3) ok.bd.2.2.1
theorem isW_3 {w : List Nat} (hw : isWb T σ w = true) : ¬ σ.1 = 3 := by
  have := (isWb_i.1 hw).1
  omega
theorem mkn.D {v : Int32} (t : mkn h m T σ) (hk : 22 ≤ k) : mkn (sI h (m + k) n v) m T σ := by
  obtain ⟨t1, t2, t3, t4, t5⟩ := t
  exact ⟨by rw [a_Ia (by omega)]; exact t1, by rw [a_Ia (by omega)]; exact t2, fun z => by rw [a_Ia (by omega)]; exact t3 z, t4, t5⟩
theorem q_wrong (km : kd h m = 13) : call g Mo_wrong [.ref m] h = some (some (.int (nI 0)), sI h m 47 (gI h m 45)) := by
  rw [n_Mo_wrong]
  simp (disch := omega) only [s_Mo_wrong_0, s_Mo_wrong_1, s_Mo_wrong_2, s_Mo_wrong_5, s_Mo_wrong_8, s_Mo_wrong_9, y_kd_sI, y_kd_sL, y_kd_sR, y_kd_cpI, y_kd_cpL, y_ln_sI, y_ln_sL, y_ln_sR, y_ln_cpI, y_ln_cpL, y_sz_sI, y_sz_sL, y_sz_sR, y_sz_cpI, y_sz_cpL, y_sl_sI, y_sl_sL, y_sl_sR, y_sl_cpI, y_sl_cpL, y_gI_sL, y_gI_sR, y_gI_cpI, y_gI_cpL, y_gI_nw, y_gL_sI, y_gL_sR, y_gL_cpI, y_gL_cpL, y_gL_nw, y_gR_sI, y_gR_sL, y_gR_cpI, y_gR_cpL, y_gR_nw, y_kd_nw, y_ln_nw, y_sz_nw, y_sl_nw, y_fx_int, y_fx_long, y_fx_ref, y_fx_null, y_fx_U, y_rf_s, y_rf_n, a_inb, a_ix, a_lt, a_eq, a_eq0, a_lt0, a_0lt, a_m1, a_m2, a_mlt, a_sub, a_dec, a_div, a_rem, a_shl, a_shr, a_bit, a_bit0, a_II, a_Ia, a_Ik, a_LL, a_La, a_Lk, a_RR, a_Ra, a_Rk, a_if0, a_if1, y_mul, y_and, y_or, nI_add, y_b1, y_b0, kon_v, kon_0, true_or, or_true, and_self, true_and, and_true, false_or, or_false, and_false, false_and, not_true_eq_false, not_false_eq_true, ite_self, ↓reduceIte, Nat.reduceEqDiff, Nat.reduceLeDiff, Nat.reduceAdd, Nat.reduceMul, Nat.reduceSub, Nat.reduceLT, Nat.reduceShiftLeft, Nat.reduceOr, Nat.reduceAnd, Bool.false_eq_true, b_if, b_z1, b_z0, b_zz, b_a1, b_a0, b_lc, b_zF, b_zT, b_lbit, km]
theorem tlN_u (h2 : σ.1 = 2) (ok : okt T σ) : ∃ u : Nat, u ≤ 100000 ∧ tlN T σ.2.1 σ.2.2 = (nI u).toInt64 ∧ ((u = nvC T σ.2.1 σ.2.2 ∧ u < 1000) ∨ (1000 ≤ u ∧ 1000 ≤ nvC T σ.2.1 σ.2.2)) := by
  have hd := ok.bd.2.2.2.1 h2
  unfold tlN nvC
  by_cases z : σ.2.2 - σ.2.1 ≤ 3
  · have a := nvl_lt (F := fun i => T.2 (σ.2.1 + i)) (σ.2.2 - σ.2.1) (fun i hi => (of_decide_eq_true (hd _ (by omega) (by omega))).2)
    have b : 10 ^ (σ.2.2 - σ.2.1) ≤ 10 ^ 3 := Nat.pow_le_pow_right (by decide) z
    rw [if_pos z, if_neg (by omega)]
    exact ⟨_, by omega, (nI_l (by omega)).symm, Or.inl ⟨rfl, by omega⟩⟩
  · rw [if_neg z, if_pos (by omega)]
    exact ⟨100000, by decide, by decide, Or.inr ⟨by decide, by decide⟩⟩
theorem i64_32 {u : Nat} : ((nI u).toInt64).toInt32 = nI u := Int32.toInt32_toInt64 _
theorem m_number {lo hi : Nat} {M : Int32} (c : mC g h m B T) (t : mkn h m T σ) (ok : okt T σ) (hlo : lo < 1000) (hhi : hi ≤ 1000) (hm : ∀ v : Nat, v ≤ 100000 → (M < nI v) = (¬ v < hi)) : (nok T σ lo hi = true → ∃ h' : zMem, call g Mo_number [.ref m, .int (nI lo), .int M] h = some (some (.int (nI 1)), h') ∧ mdF m n h h' ∧ (∀ b : Nat, m + 22 ≤ b → gI h' b n = gI h b n) ∧ gI h' m 48 = nI (nvC T σ.2.1 σ.2.2) ∧ mkn h' m T (tk T σ.2.2)) ∧ (¬ nok T σ lo hi = true → call g Mo_number [.ref m, .int (nI lo), .int M] h = some (some (.int (nI 0)), sI h m 47 (nI σ.2.1))) := by
  have km := c.km
  have t1 := t.1
  have t2 := t.2.1
  have qw := q_wrong (g := g) km
  rw [t2] at qw
  by_cases y1 : σ.1 = 2
  · obtain ⟨u, u1, u2, u3⟩ := tlN_u y1 ok
    have t5 := (t.2.2.2.2 y1).trans u2
    have hm' := hm u u1
    have t1' := t1
    rw [y1] at t1'
    have qi : call g Mo_in [.long (nI u).toInt64, .long (nI lo).toInt64, .long M.toInt64] h = some (some (.int (bZ (lo ≤ u ∧ u < hi))), h) := by
      rw [q_Mo_in]
      congr 3
      apply congrArg
      apply bZ_c
      rw [l_lt, l_lt, hm', a_lt (by omega) (by omega)]
      omega
    constructor
    · intro y
      obtain ⟨-, y2, y3⟩ := nok_i.1 y
      have uv : u = nvC T σ.2.1 σ.2.2 := by omega
      rw [bZ_t ⟨by omega, by omega⟩] at qi
      have f1 : mdF m n h (sI h m 48 (nI u)) := mdF.rf.In (by omega)
      have t6 : mkn (sI h m 48 (nI u)) m T σ := by
        obtain ⟨r1, r2, r3, r4, r5⟩ := t
        exact ⟨(a_Ik (by decide)).trans r1, (a_Ik (by decide)).trans r2, fun z => (a_Ik (by decide)).trans (r3 z), r4, r5⟩
      obtain ⟨h', e1, e2, e3⟩ := (c.fr f1).av t6 ok (by omega)
      refine ⟨h', ?_, f1.tr (mdF.lk e2), fun b hb => (e2.d hb).trans (a_Ia (by omega)), ?_, e3⟩
      · have i3 := i64_32 (u := u)
        rw [n_Mo_number]
        simp (disch := omega) only [s_Mo_number_0, s_Mo_number_1, s_Mo_number_4, s_Mo_number_5, s_Mo_number_8, s_Mo_number_9, s_Mo_number_12, s_Mo_number_13, s_Mo_number_14, s_Mo_number_15, s_Mo_number_16, s_Mo_number_19, s_Mo_number_22, s_Mo_number_23, s_Mo_number_26, s_Mo_number_27, s_Mo_number_28, s_Mo_number_29, s_Mo_number_32, s_Mo_number_33, s_Mo_number_36, s_Mo_number_37, s_Mo_number_40, s_Mo_number_41, y_kd_sI, y_kd_sL, y_kd_sR, y_kd_cpI, y_kd_cpL, y_ln_sI, y_ln_sL, y_ln_sR, y_ln_cpI, y_ln_cpL, y_sz_sI, y_sz_sL, y_sz_sR, y_sz_cpI, y_sz_cpL, y_sl_sI, y_sl_sL, y_sl_sR, y_sl_cpI, y_sl_cpL, y_gI_sL, y_gI_sR, y_gI_cpI, y_gI_cpL, y_gI_nw, y_gL_sI, y_gL_sR, y_gL_cpI, y_gL_cpL, y_gL_nw, y_gR_sI, y_gR_sL, y_gR_cpI, y_gR_cpL, y_gR_nw, y_kd_nw, y_ln_nw, y_sz_nw, y_sl_nw, y_fx_int, y_fx_long, y_fx_ref, y_fx_null, y_fx_U, y_rf_s, y_rf_n, a_inb, a_ix, a_lt, a_eq, a_eq0, a_lt0, a_0lt, a_m1, a_m2, a_mlt, a_sub, a_dec, a_div, a_rem, a_shl, a_shr, a_bit, a_bit0, a_II, a_Ia, a_Ik, a_LL, a_La, a_Lk, a_RR, a_Ra, a_Rk, a_if0, a_if1, y_mul, y_and, y_or, nI_add, y_b1, y_b0, kon_v, kon_0, true_or, or_true, and_self, true_and, and_true, false_or, or_false, and_false, false_and, not_true_eq_false, not_false_eq_true, ite_self, ↓reduceIte, Nat.reduceEqDiff, Nat.reduceLeDiff, Nat.reduceAdd, Nat.reduceMul, Nat.reduceSub, Nat.reduceLT, Nat.reduceShiftLeft, Nat.reduceOr, Nat.reduceAnd, Bool.false_eq_true, b_if, b_z1, b_z0, b_zz, b_a1, b_a0, b_lc, b_zF, b_zT, b_lbit, km, t1', t5, qi, i3, e1]
      · rw [e2.2.1 _ _ (by omega), a_II, uv]
    · intro y
      have y' : ¬ (lo ≤ u ∧ u < hi) := fun z => y (nok_i.2 ⟨y1, by omega, by omega⟩)
      rw [bZ_f y'] at qi
      rw [n_Mo_number]
      simp (disch := omega) only [s_Mo_number_0, s_Mo_number_1, s_Mo_number_4, s_Mo_number_5, s_Mo_number_8, s_Mo_number_9, s_Mo_number_12, s_Mo_number_13, s_Mo_number_14, s_Mo_number_15, s_Mo_number_16, s_Mo_number_19, s_Mo_number_22, s_Mo_number_23, s_Mo_number_26, s_Mo_number_27, s_Mo_number_28, s_Mo_number_29, s_Mo_number_32, s_Mo_number_33, s_Mo_number_36, s_Mo_number_37, s_Mo_number_40, s_Mo_number_41, y_kd_sI, y_kd_sL, y_kd_sR, y_kd_cpI, y_kd_cpL, y_ln_sI, y_ln_sL, y_ln_sR, y_ln_cpI, y_ln_cpL, y_sz_sI, y_sz_sL, y_sz_sR, y_sz_cpI, y_sz_cpL, y_sl_sI, y_sl_sL, y_sl_sR, y_sl_cpI, y_sl_cpL, y_gI_sL, y_gI_sR, y_gI_cpI, y_gI_cpL, y_gI_nw, y_gL_sI, y_gL_sR, y_gL_cpI, y_gL_cpL, y_gL_nw, y_gR_sI, y_gR_sL, y_gR_cpI, y_gR_cpL, y_gR_nw, y_kd_nw, y_ln_nw, y_sz_nw, y_sl_nw, y_fx_int, y_fx_long, y_fx_ref, y_fx_null, y_fx_U, y_rf_s, y_rf_n, a_inb, a_ix, a_lt, a_eq, a_eq0, a_lt0, a_0lt, a_m1, a_m2, a_mlt, a_sub, a_dec, a_div, a_rem, a_shl, a_shr, a_bit, a_bit0, a_II, a_Ia, a_Ik, a_LL, a_La, a_Lk, a_RR, a_Ra, a_Rk, a_if0, a_if1, y_mul, y_and, y_or, nI_add, y_b1, y_b0, kon_v, kon_0, true_or, or_true, and_self, true_and, and_true, false_or, or_false, and_false, false_and, not_true_eq_false, not_false_eq_true, ite_self, ↓reduceIte, Nat.reduceEqDiff, Nat.reduceLeDiff, Nat.reduceAdd, Nat.reduceMul, Nat.reduceSub, Nat.reduceLT, Nat.reduceShiftLeft, Nat.reduceOr, Nat.reduceAnd, Bool.false_eq_true, b_if, b_z1, b_z0, b_zz, b_a1, b_a0, b_lc, b_zF, b_zT, b_lbit, km, t1', t5, qi, qw]
  · refine ⟨fun y => absurd (nok_i.1 y).1 y1, fun _ => ?_⟩
    have e4 : (σ.1 = 2) = False := eq_false y1
    have hb := ok.bd
    rw [n_Mo_number]
    simp (disch := omega) only [s_Mo_number_0, s_Mo_number_1, s_Mo_number_4, s_Mo_number_5, s_Mo_number_8, s_Mo_number_9, s_Mo_number_12, s_Mo_number_13, s_Mo_number_14, s_Mo_number_15, s_Mo_number_16, s_Mo_number_19, s_Mo_number_22, s_Mo_number_23, s_Mo_number_26, s_Mo_number_27, s_Mo_number_28, s_Mo_number_29, s_Mo_number_32, s_Mo_number_33, s_Mo_number_36, s_Mo_number_37, s_Mo_number_40, s_Mo_number_41, y_kd_sI, y_kd_sL, y_kd_sR, y_kd_cpI, y_kd_cpL, y_ln_sI, y_ln_sL, y_ln_sR, y_ln_cpI, y_ln_cpL, y_sz_sI, y_sz_sL, y_sz_sR, y_sz_cpI, y_sz_cpL, y_sl_sI, y_sl_sL, y_sl_sR, y_sl_cpI, y_sl_cpL, y_gI_sL, y_gI_sR, y_gI_cpI, y_gI_cpL, y_gI_nw, y_gL_sI, y_gL_sR, y_gL_cpI, y_gL_cpL, y_gL_nw, y_gR_sI, y_gR_sL, y_gR_cpI, y_gR_cpL, y_gR_nw, y_kd_nw, y_ln_nw, y_sz_nw, y_sl_nw, y_fx_int, y_fx_long, y_fx_ref, y_fx_null, y_fx_U, y_rf_s, y_rf_n, a_inb, a_ix, a_lt, a_eq, a_eq0, a_lt0, a_0lt, a_m1, a_m2, a_mlt, a_sub, a_dec, a_div, a_rem, a_shl, a_shr, a_bit, a_bit0, a_II, a_Ia, a_Ik, a_LL, a_La, a_Lk, a_RR, a_Ra, a_Rk, a_if0, a_if1, y_mul, y_and, y_or, nI_add, y_b1, y_b0, kon_v, kon_0, true_or, or_true, and_self, true_and, and_true, false_or, or_false, and_false, false_and, not_true_eq_false, not_false_eq_true, ite_self, ↓reduceIte, Nat.reduceEqDiff, Nat.reduceLeDiff, Nat.reduceAdd, Nat.reduceMul, Nat.reduceSub, Nat.reduceLT, Nat.reduceShiftLeft, Nat.reduceOr, Nat.reduceAnd, Bool.false_eq_true, b_if, b_z1, b_z0, b_zz, b_a1, b_a0, b_lc, b_zF, b_zT, b_lbit, km, t1, e4, qw]
end ZMO1
