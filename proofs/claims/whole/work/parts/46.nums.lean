/-! deeds that quarrel: which they are, and sets of them -/
noncomputable def nmL (sel : Nat → Prop) : Nat → List Nat
  | 0 => []
  | d + 1 => tst (sel d) (nmL sel d ++ [d]) (nmL sel d)
def dsO (L : List Nat) (x : Nat) : Nat := orN (fun i => if x.testBit i = true then 1 <<< L.getD i 0 else 0) L.length
def smN (f : Nat → Nat) : Nat → Nat
  | 0 => 0
  | n + 1 => smN f n + f n
def smO (L : List Nat) (W : Nat → Nat) (x : Nat) : Nat := smN (fun i => if x.testBit i = true then W (L.getD i 0) else 0) L.length
/-- a list of numbers below n -/
def lOK (L : List Nat) (n : Nat) : Prop := L.length ≤ 8 ∧ ∀ i : Nat, i < L.length → L.getD i 0 < n
theorem gD_1 {L : List Nat} {d i : Nat} (h : i < L.length) : (L ++ [d]).getD i 0 = L.getD i 0 := by
  rw [List.getD_eq_getElem?_getD, List.getD_eq_getElem?_getD, List.getElem?_append_left h]
theorem gD_2 {L : List Nat} {d : Nat} : (L ++ [d]).getD L.length 0 = d := by
  rw [List.getD_eq_getElem?_getD, List.getElem?_append_right (Nat.le_refl _), Nat.sub_self]
  rfl
theorem nmL_t {sel : Nat → Prop} {d : Nat} (h : sel d) : nmL sel (d + 1) = nmL sel d ++ [d] := tst_t h
theorem nmL_f {sel : Nat → Prop} {d : Nat} (h : ¬ sel d) : nmL sel (d + 1) = nmL sel d := tst_f h
theorem nmL_in {sel : Nat → Prop} : ∀ d i : Nat, i < (nmL sel d).length → (nmL sel d).getD i 0 < d ∧ sel ((nmL sel d).getD i 0)
  | 0, i, h => absurd h (Nat.not_lt_zero i)
  | d + 1, i, h => by
    by_cases c : sel d
    · rw [nmL_t c] at h ⊢
      rw [List.length_append] at h
      have h' : i < (nmL sel d).length + 1 := h
      by_cases q : i < (nmL sel d).length
      · rw [gD_1 q]
        obtain ⟨a, b⟩ := nmL_in d i q
        exact ⟨by omega, b⟩
      · rw [show i = (nmL sel d).length by omega, gD_2]
        exact ⟨Nat.lt_succ_self d, c⟩
    · rw [nmL_f c] at h ⊢
      obtain ⟨a, b⟩ := nmL_in d i h
      exact ⟨by omega, b⟩
theorem nmL_c {sel sel' : Nat → Prop} : ∀ n : Nat, (∀ d : Nat, d < n → (sel d ↔ sel' d)) → nmL sel n = nmL sel' n
  | 0, _ => rfl
  | n + 1, h => by
    by_cases c : sel n
    · rw [nmL_t c, nmL_t ((h n (by omega)).1 c), nmL_c n (fun d hd => h d (by omega))]
    · rw [nmL_f c, nmL_f (fun q => c ((h n (by omega)).2 q)), nmL_c n (fun d hd => h d (by omega))]
theorem nmL_len {p : Nat → Bool} : ∀ n : Nat, (nmL (fun d => p d = true) n).length = cn p n
  | 0 => rfl
  | n + 1 => by
    unfold cn
    by_cases c : p n = true
    · rw [nmL_t (sel := fun d => p d = true) c, if_pos c, List.length_append, nmL_len n]
      rfl
    · rw [nmL_f (sel := fun d => p d = true) c, if_neg c, nmL_len n]
      rfl
theorem nmL_mono {sel : Nat → Prop} {m : Nat} : ∀ k : Nat, (nmL sel m).length ≤ (nmL sel (m + k)).length
  | 0 => Nat.le_refl _
  | k + 1 => by
    have := nmL_mono (sel := sel) (m := m) k
    by_cases c : sel (m + k)
    · rw [show m + (k + 1) = m + k + 1 by omega, nmL_t c, List.length_append]; omega
    · rw [show m + (k + 1) = m + k + 1 by omega, nmL_f c]; exact this
theorem nmL_ext {sel : Nat → Prop} {m : Nat} : ∀ k : Nat, (∀ d : Nat, m ≤ d → ¬ sel d) → nmL sel (m + k) = nmL sel m
  | 0, _ => rfl
  | k + 1, h => by
    rw [show m + (k + 1) = m + k + 1 by omega, nmL_f (h _ (by omega)), nmL_ext k h]
theorem dsO_lt {L : List Nat} {x n : Nat} (h : lOK L n) (hn : n ≤ 24) : dsO L x < 16777216 := by
  apply Nat.lt_pow_two_of_testBit (n := 24)
  intro i hi
  rw [Bool.eq_false_iff]
  intro c
  unfold dsO at c
  rw [orN_bit] at c
  obtain ⟨j, hj, c⟩ := c
  rw [if_bit, one_b] at c
  have := h.2 j hj
  omega
theorem dsO_bit {L : List Nat} {x d : Nat} : (dsO L x).testBit d = true ↔ ∃ i : Nat, i < L.length ∧ x.testBit i = true ∧ d = L.getD i 0 := by
  unfold dsO
  rw [orN_bit]
  constructor
  · rintro ⟨i, hi, c⟩
    rw [if_bit, one_b] at c
    exact ⟨i, hi, c.1, c.2⟩
  · rintro ⟨i, hi, c1, c2⟩
    exact ⟨i, hi, if_bit.2 ⟨c1, one_b.2 c2⟩⟩
theorem smN_le {f : Nat → Nat} {b : Nat} : ∀ n : Nat, (∀ i : Nat, i < n → f i ≤ b) → smN f n ≤ n * b
  | 0, _ => Nat.zero_le _
  | n + 1, h => by
    have h1 := smN_le n (fun i hi => h i (by omega))
    have h2 := h n (by omega)
    unfold smN
    rw [Nat.succ_mul]
    omega
theorem smO_lt {L : List Nat} {W : Nat → Nat} {x n : Nat} (h : lOK L n) (hw : ∀ d : Nat, d < n → W d < 100) : smO L W x < 1000 := by
  have := smN_le (f := fun i => if x.testBit i = true then W (L.getD i 0) else 0) (b := 100) L.length (fun i hi => by
    split
    · exact Nat.le_of_lt (hw _ (h.2 i hi))
    · omega)
  have h8 := h.1
  unfold smO
  have : L.length * 100 ≤ 8 * 100 := Nat.mul_le_mul_right _ h8
  omega
def QS (h : zMem) (B : Nat) (L : List Nat) : Prop := gI h (B + 141) 4 = nI L.length ∧ ∀ i : Nat, i < L.length → gI h (B + 142) i = nI (L.getD i 0)
def MS (h : zMem) (m : Nat) (L : List Nat) : Prop := gI h m 57 = nI L.length ∧ ∀ i : Nat, i < L.length → gI h (m + 86) i = nI (L.getD i 0)
section ZNM
variable {g : Nat → Nat} {B SL m l : Nat} {h h' : zMem} {L : List Nat} {V : Nat → Nat → Int32} {n : Nat}
theorem QS_fr (s : smF (B + 141) (B + 142) h h') (q : QS h B L) : QS h' B L := ⟨(s.1 _ _ (by omega) (by omega)).trans q.1, fun i hi => (s.1 _ _ (by omega) (by omega)).trans (q.2 i hi)⟩
theorem q_deedsOf (o : oDC h B) (q : QS h B L) (hL : lOK L 24) {x : Nat} (hx : x < 256) : call g Quarrels_deedsOf [.ref (B + 141), .int (nI x)] h = some (some (.int (nI (dsO L x))), h) := by
  have l8 := hL.1
  obtain ⟨q1, q2⟩ := q
  obtain ⟨e1, e2⟩ := l_fold (g := g) (M := Quarrels_deedsOf) (pc := 4) (st := []) (h := h) (n := L.length) (fun i (y : Nat) => [.ref (B + 141), .int (nI x), .int (nI y), .int (nI i)]) (fun i y => y = orN (fun i => if x.testBit i = true then 1 <<< L.getD i 0 else 0) i) (fun i y => y ||| (if x.testBit i = true then 1 <<< L.getD i 0 else 0)) (fun i y hi hy => by
    have hlt : (i < L.length) = True := eq_true hi
    have v := q2 i hi
    have b := hL.2 i hi
    refine ⟨?_, by rw [hy]; rfl⟩
    show ev g Quarrels_deedsOf 4 [.ref (B + 141), .int (nI x), .int (nI y), .int (nI i)] [] h = ev g Quarrels_deedsOf 4 [.ref (B + 141), .int (nI x), .int (nI (y ||| (if x.testBit i = true then 1 <<< L.getD i 0 else 0))), .int (nI (i + 1))] [] h
    rw [s_Quarrels_deedsOf_4]
    by_cases z : x.testBit i = true
    · have zt : (x.testBit i = true) = True := eq_true z
      simp (disch := omega) only [s_Quarrels_deedsOf_0, s_Quarrels_deedsOf_1, s_Quarrels_deedsOf_2, s_Quarrels_deedsOf_3, s_Quarrels_deedsOf_5, s_Quarrels_deedsOf_6, s_Quarrels_deedsOf_9, s_Quarrels_deedsOf_12, s_Quarrels_deedsOf_13, s_Quarrels_deedsOf_14, s_Quarrels_deedsOf_15, s_Quarrels_deedsOf_16, s_Quarrels_deedsOf_17, s_Quarrels_deedsOf_18, s_Quarrels_deedsOf_21, s_Quarrels_deedsOf_22, s_Quarrels_deedsOf_23, s_Quarrels_deedsOf_26, s_Quarrels_deedsOf_27, s_Quarrels_deedsOf_28, s_Quarrels_deedsOf_29, s_Quarrels_deedsOf_32, s_Quarrels_deedsOf_33, s_Quarrels_deedsOf_34, s_Quarrels_deedsOf_35, s_Quarrels_deedsOf_38, s_Quarrels_deedsOf_41, s_Quarrels_deedsOf_42, y_kd_sI, y_kd_sL, y_kd_sR, y_kd_cpI, y_kd_cpL, y_ln_sI, y_ln_sL, y_ln_sR, y_ln_cpI, y_ln_cpL, y_sz_sI, y_sz_sL, y_sz_sR, y_sz_cpI, y_sz_cpL, y_sl_sI, y_sl_sL, y_sl_sR, y_sl_cpI, y_sl_cpL, y_gI_sL, y_gI_sR, y_gI_cpI, y_gI_cpL, y_gI_nw, y_gL_sI, y_gL_sR, y_gL_cpI, y_gL_cpL, y_gL_nw, y_gR_sI, y_gR_sL, y_gR_cpI, y_gR_cpL, y_gR_nw, y_kd_nw, y_ln_nw, y_sz_nw, y_sl_nw, y_fx_int, y_fx_long, y_fx_ref, y_fx_null, y_fx_U, y_rf_s, y_rf_n, a_inb, a_ix, a_lt, a_eq, a_eq0, a_lt0, a_0lt, a_m1, a_m2, a_mlt, a_sub, a_dec, a_div, a_rem, a_shl, a_shr, a_bit, a_bit0, a_II, a_Ia, a_Ik, a_LL, a_La, a_Lk, a_RR, a_Ra, a_Rk, a_if0, a_if1, y_mul, y_and, y_or, nI_add, y_b1, y_b0, kon_v, kon_0, true_or, or_true, and_self, true_and, and_true, false_or, or_false, and_false, false_and, not_true_eq_false, not_false_eq_true, ite_self, ↓reduceIte, Nat.reduceEqDiff, Nat.reduceLeDiff, Nat.reduceAdd, Nat.reduceMul, Nat.reduceSub, Nat.reduceLT, Nat.reduceShiftLeft, Nat.reduceOr, Nat.reduceAnd, Bool.false_eq_true, b_if, b_z1, b_z0, b_zz, b_a1, b_a0, b_lc, b_zF, b_zT, b_lbit, dc_k o, dc_r0 o, dc_r1 o, dc_r2 o, dc_r3 o, dc_r5 o, dc_r6 o, dc_r7 o, dc_r8 o, dc_r9 o, dc_k1 o, dc_l1 o, dc_k19 o, dc_l19 o, dc_k21 o, dc_l21 o, dc_k22 o, dc_l22 o, dc_k131 o, dc_l131 o, dc_k142 o, dc_l142 o, dc_k143 o, dc_l143 o, dc_k144 o, dc_l144 o, dc_k18 o, dc_r18 o, dc_k20 o, dc_r20_0 o, dc_r20_1 o, dc_k141 o, dc_r141_5 o, dc_r141_6 o, dc_s o, dc_sk o, dc_sr o, dc_ek o, dc_el o, q1, hlt, zt, v]
    · have zt : (x.testBit i = true) = False := eq_false z
      simp (disch := omega) only [s_Quarrels_deedsOf_0, s_Quarrels_deedsOf_1, s_Quarrels_deedsOf_2, s_Quarrels_deedsOf_3, s_Quarrels_deedsOf_5, s_Quarrels_deedsOf_6, s_Quarrels_deedsOf_9, s_Quarrels_deedsOf_12, s_Quarrels_deedsOf_13, s_Quarrels_deedsOf_14, s_Quarrels_deedsOf_15, s_Quarrels_deedsOf_16, s_Quarrels_deedsOf_17, s_Quarrels_deedsOf_18, s_Quarrels_deedsOf_21, s_Quarrels_deedsOf_22, s_Quarrels_deedsOf_23, s_Quarrels_deedsOf_26, s_Quarrels_deedsOf_27, s_Quarrels_deedsOf_28, s_Quarrels_deedsOf_29, s_Quarrels_deedsOf_32, s_Quarrels_deedsOf_33, s_Quarrels_deedsOf_34, s_Quarrels_deedsOf_35, s_Quarrels_deedsOf_38, s_Quarrels_deedsOf_41, s_Quarrels_deedsOf_42, y_kd_sI, y_kd_sL, y_kd_sR, y_kd_cpI, y_kd_cpL, y_ln_sI, y_ln_sL, y_ln_sR, y_ln_cpI, y_ln_cpL, y_sz_sI, y_sz_sL, y_sz_sR, y_sz_cpI, y_sz_cpL, y_sl_sI, y_sl_sL, y_sl_sR, y_sl_cpI, y_sl_cpL, y_gI_sL, y_gI_sR, y_gI_cpI, y_gI_cpL, y_gI_nw, y_gL_sI, y_gL_sR, y_gL_cpI, y_gL_cpL, y_gL_nw, y_gR_sI, y_gR_sL, y_gR_cpI, y_gR_cpL, y_gR_nw, y_kd_nw, y_ln_nw, y_sz_nw, y_sl_nw, y_fx_int, y_fx_long, y_fx_ref, y_fx_null, y_fx_U, y_rf_s, y_rf_n, a_inb, a_ix, a_lt, a_eq, a_eq0, a_lt0, a_0lt, a_m1, a_m2, a_mlt, a_sub, a_dec, a_div, a_rem, a_shl, a_shr, a_bit, a_bit0, a_II, a_Ia, a_Ik, a_LL, a_La, a_Lk, a_RR, a_Ra, a_Rk, a_if0, a_if1, y_mul, y_and, y_or, nI_add, y_b1, y_b0, kon_v, kon_0, true_or, or_true, and_self, true_and, and_true, false_or, or_false, and_false, false_and, not_true_eq_false, not_false_eq_true, ite_self, ↓reduceIte, Nat.reduceEqDiff, Nat.reduceLeDiff, Nat.reduceAdd, Nat.reduceMul, Nat.reduceSub, Nat.reduceLT, Nat.reduceShiftLeft, Nat.reduceOr, Nat.reduceAnd, Bool.false_eq_true, b_if, b_z1, b_z0, b_zz, b_a1, b_a0, b_lc, b_zF, b_zT, b_lbit, dc_k o, dc_r0 o, dc_r1 o, dc_r2 o, dc_r3 o, dc_r5 o, dc_r6 o, dc_r7 o, dc_r8 o, dc_r9 o, dc_k1 o, dc_l1 o, dc_k19 o, dc_l19 o, dc_k21 o, dc_l21 o, dc_k22 o, dc_l22 o, dc_k131 o, dc_l131 o, dc_k142 o, dc_l142 o, dc_k143 o, dc_l143 o, dc_k144 o, dc_l144 o, dc_k18 o, dc_r18 o, dc_k20 o, dc_r20_0 o, dc_r20_1 o, dc_k141 o, dc_r141_5 o, dc_r141_6 o, dc_s o, dc_sk o, dc_sr o, dc_ek o, dc_el o, q1, hlt, zt, v]) L.length 0 0 (by omega) rfl
  rw [e2] at e1
  rw [n_Quarrels_deedsOf, s_Quarrels_deedsOf_0, s_Quarrels_deedsOf_1, s_Quarrels_deedsOf_2, s_Quarrels_deedsOf_3]
  refine Eq.trans (show _ = ev g Quarrels_deedsOf 4 [.ref (B + 141), .int (nI x), .int (nI 0), .int (nI 0)] [] h from rfl) (e1.trans ?_)
  simp (disch := omega) only [s_Quarrels_deedsOf_0, s_Quarrels_deedsOf_1, s_Quarrels_deedsOf_2, s_Quarrels_deedsOf_3, s_Quarrels_deedsOf_4, s_Quarrels_deedsOf_5, s_Quarrels_deedsOf_6, s_Quarrels_deedsOf_9, s_Quarrels_deedsOf_12, s_Quarrels_deedsOf_13, s_Quarrels_deedsOf_14, s_Quarrels_deedsOf_15, s_Quarrels_deedsOf_16, s_Quarrels_deedsOf_17, s_Quarrels_deedsOf_18, s_Quarrels_deedsOf_21, s_Quarrels_deedsOf_22, s_Quarrels_deedsOf_23, s_Quarrels_deedsOf_26, s_Quarrels_deedsOf_27, s_Quarrels_deedsOf_28, s_Quarrels_deedsOf_29, s_Quarrels_deedsOf_32, s_Quarrels_deedsOf_33, s_Quarrels_deedsOf_34, s_Quarrels_deedsOf_35, s_Quarrels_deedsOf_38, s_Quarrels_deedsOf_41, s_Quarrels_deedsOf_42, y_kd_sI, y_kd_sL, y_kd_sR, y_kd_cpI, y_kd_cpL, y_ln_sI, y_ln_sL, y_ln_sR, y_ln_cpI, y_ln_cpL, y_sz_sI, y_sz_sL, y_sz_sR, y_sz_cpI, y_sz_cpL, y_sl_sI, y_sl_sL, y_sl_sR, y_sl_cpI, y_sl_cpL, y_gI_sL, y_gI_sR, y_gI_cpI, y_gI_cpL, y_gI_nw, y_gL_sI, y_gL_sR, y_gL_cpI, y_gL_cpL, y_gL_nw, y_gR_sI, y_gR_sL, y_gR_cpI, y_gR_cpL, y_gR_nw, y_kd_nw, y_ln_nw, y_sz_nw, y_sl_nw, y_fx_int, y_fx_long, y_fx_ref, y_fx_null, y_fx_U, y_rf_s, y_rf_n, a_inb, a_ix, a_lt, a_eq, a_eq0, a_lt0, a_0lt, a_m1, a_m2, a_mlt, a_sub, a_dec, a_div, a_rem, a_shl, a_shr, a_bit, a_bit0, a_II, a_Ia, a_Ik, a_LL, a_La, a_Lk, a_RR, a_Ra, a_Rk, a_if0, a_if1, y_mul, y_and, y_or, nI_add, y_b1, y_b0, kon_v, kon_0, true_or, or_true, and_self, true_and, and_true, false_or, or_false, and_false, false_and, not_true_eq_false, not_false_eq_true, ite_self, ↓reduceIte, Nat.reduceEqDiff, Nat.reduceLeDiff, Nat.reduceAdd, Nat.reduceMul, Nat.reduceSub, Nat.reduceLT, Nat.reduceShiftLeft, Nat.reduceOr, Nat.reduceAnd, Bool.false_eq_true, b_if, b_z1, b_z0, b_zz, b_a1, b_a0, b_lc, b_zF, b_zT, b_lbit, dc_k o, dc_r0 o, dc_r1 o, dc_r2 o, dc_r3 o, dc_r5 o, dc_r6 o, dc_r7 o, dc_r8 o, dc_r9 o, dc_k1 o, dc_l1 o, dc_k19 o, dc_l19 o, dc_k21 o, dc_l21 o, dc_k22 o, dc_l22 o, dc_k131 o, dc_l131 o, dc_k142 o, dc_l142 o, dc_k143 o, dc_l143 o, dc_k144 o, dc_l144 o, dc_k18 o, dc_r18 o, dc_k20 o, dc_r20_0 o, dc_r20_1 o, dc_k141 o, dc_r141_5 o, dc_r141_6 o, dc_s o, dc_sk o, dc_sr o, dc_ek o, dc_el o, q1, Nat.lt_irrefl]
  rfl
theorem q_named (o : oMo h m) (q : MS h m L) (hL : lOK L 24) {x : Nat} (hx : x < 256) : call g Mo_named [.ref m, .int (nI x)] h = some (some (.int (nI (dsO L x))), h) := by
  have l8 := hL.1
  obtain ⟨q1, q2⟩ := q
  obtain ⟨e1, e2⟩ := l_fold (g := g) (M := Mo_named) (pc := 4) (st := []) (h := h) (n := L.length) (fun i (y : Nat) => [.ref m, .int (nI x), .int (nI y), .int (nI i)]) (fun i y => y = orN (fun i => if x.testBit i = true then 1 <<< L.getD i 0 else 0) i) (fun i y => y ||| (if x.testBit i = true then 1 <<< L.getD i 0 else 0)) (fun i y hi hy => by
    have hlt : (i < L.length) = True := eq_true hi
    have v := q2 i hi
    have b := hL.2 i hi
    refine ⟨?_, by rw [hy]; rfl⟩
    show ev g Mo_named 4 [.ref m, .int (nI x), .int (nI y), .int (nI i)] [] h = ev g Mo_named 4 [.ref m, .int (nI x), .int (nI (y ||| (if x.testBit i = true then 1 <<< L.getD i 0 else 0))), .int (nI (i + 1))] [] h
    rw [s_Mo_named_4]
    by_cases z : x.testBit i = true
    · have zt : (x.testBit i = true) = True := eq_true z
      simp (disch := omega) only [s_Mo_named_0, s_Mo_named_1, s_Mo_named_2, s_Mo_named_3, s_Mo_named_5, s_Mo_named_6, s_Mo_named_9, s_Mo_named_12, s_Mo_named_13, s_Mo_named_14, s_Mo_named_15, s_Mo_named_16, s_Mo_named_17, s_Mo_named_18, s_Mo_named_21, s_Mo_named_22, s_Mo_named_23, s_Mo_named_26, s_Mo_named_27, s_Mo_named_28, s_Mo_named_29, s_Mo_named_32, s_Mo_named_33, s_Mo_named_34, s_Mo_named_35, s_Mo_named_38, s_Mo_named_41, s_Mo_named_42, y_kd_sI, y_kd_sL, y_kd_sR, y_kd_cpI, y_kd_cpL, y_ln_sI, y_ln_sL, y_ln_sR, y_ln_cpI, y_ln_cpL, y_sz_sI, y_sz_sL, y_sz_sR, y_sz_cpI, y_sz_cpL, y_sl_sI, y_sl_sL, y_sl_sR, y_sl_cpI, y_sl_cpL, y_gI_sL, y_gI_sR, y_gI_cpI, y_gI_cpL, y_gI_nw, y_gL_sI, y_gL_sR, y_gL_cpI, y_gL_cpL, y_gL_nw, y_gR_sI, y_gR_sL, y_gR_cpI, y_gR_cpL, y_gR_nw, y_kd_nw, y_ln_nw, y_sz_nw, y_sl_nw, y_fx_int, y_fx_long, y_fx_ref, y_fx_null, y_fx_U, y_rf_s, y_rf_n, a_inb, a_ix, a_lt, a_eq, a_eq0, a_lt0, a_0lt, a_m1, a_m2, a_mlt, a_sub, a_dec, a_div, a_rem, a_shl, a_shr, a_bit, a_bit0, a_II, a_Ia, a_Ik, a_LL, a_La, a_Lk, a_RR, a_Ra, a_Rk, a_if0, a_if1, y_mul, y_and, y_or, nI_add, y_b1, y_b0, kon_v, kon_0, true_or, or_true, and_self, true_and, and_true, false_or, or_false, and_false, false_and, not_true_eq_false, not_false_eq_true, ite_self, ↓reduceIte, Nat.reduceEqDiff, Nat.reduceLeDiff, Nat.reduceAdd, Nat.reduceMul, Nat.reduceSub, Nat.reduceLT, Nat.reduceShiftLeft, Nat.reduceOr, Nat.reduceAnd, Bool.false_eq_true, b_if, b_z1, b_z0, b_zz, b_a1, b_a0, b_lc, b_zF, b_zT, b_lbit, mo_k o, mo_r56 o, mo_k56 o, mo_l56 o, q1, hlt, zt, v]
    · have zt : (x.testBit i = true) = False := eq_false z
      simp (disch := omega) only [s_Mo_named_0, s_Mo_named_1, s_Mo_named_2, s_Mo_named_3, s_Mo_named_5, s_Mo_named_6, s_Mo_named_9, s_Mo_named_12, s_Mo_named_13, s_Mo_named_14, s_Mo_named_15, s_Mo_named_16, s_Mo_named_17, s_Mo_named_18, s_Mo_named_21, s_Mo_named_22, s_Mo_named_23, s_Mo_named_26, s_Mo_named_27, s_Mo_named_28, s_Mo_named_29, s_Mo_named_32, s_Mo_named_33, s_Mo_named_34, s_Mo_named_35, s_Mo_named_38, s_Mo_named_41, s_Mo_named_42, y_kd_sI, y_kd_sL, y_kd_sR, y_kd_cpI, y_kd_cpL, y_ln_sI, y_ln_sL, y_ln_sR, y_ln_cpI, y_ln_cpL, y_sz_sI, y_sz_sL, y_sz_sR, y_sz_cpI, y_sz_cpL, y_sl_sI, y_sl_sL, y_sl_sR, y_sl_cpI, y_sl_cpL, y_gI_sL, y_gI_sR, y_gI_cpI, y_gI_cpL, y_gI_nw, y_gL_sI, y_gL_sR, y_gL_cpI, y_gL_cpL, y_gL_nw, y_gR_sI, y_gR_sL, y_gR_cpI, y_gR_cpL, y_gR_nw, y_kd_nw, y_ln_nw, y_sz_nw, y_sl_nw, y_fx_int, y_fx_long, y_fx_ref, y_fx_null, y_fx_U, y_rf_s, y_rf_n, a_inb, a_ix, a_lt, a_eq, a_eq0, a_lt0, a_0lt, a_m1, a_m2, a_mlt, a_sub, a_dec, a_div, a_rem, a_shl, a_shr, a_bit, a_bit0, a_II, a_Ia, a_Ik, a_LL, a_La, a_Lk, a_RR, a_Ra, a_Rk, a_if0, a_if1, y_mul, y_and, y_or, nI_add, y_b1, y_b0, kon_v, kon_0, true_or, or_true, and_self, true_and, and_true, false_or, or_false, and_false, false_and, not_true_eq_false, not_false_eq_true, ite_self, ↓reduceIte, Nat.reduceEqDiff, Nat.reduceLeDiff, Nat.reduceAdd, Nat.reduceMul, Nat.reduceSub, Nat.reduceLT, Nat.reduceShiftLeft, Nat.reduceOr, Nat.reduceAnd, Bool.false_eq_true, b_if, b_z1, b_z0, b_zz, b_a1, b_a0, b_lc, b_zF, b_zT, b_lbit, mo_k o, mo_r56 o, mo_k56 o, mo_l56 o, q1, hlt, zt, v]) L.length 0 0 (by omega) rfl
  rw [e2] at e1
  rw [n_Mo_named, s_Mo_named_0, s_Mo_named_1, s_Mo_named_2, s_Mo_named_3]
  refine Eq.trans (show _ = ev g Mo_named 4 [.ref m, .int (nI x), .int (nI 0), .int (nI 0)] [] h from rfl) (e1.trans ?_)
  simp (disch := omega) only [s_Mo_named_0, s_Mo_named_1, s_Mo_named_2, s_Mo_named_3, s_Mo_named_4, s_Mo_named_5, s_Mo_named_6, s_Mo_named_9, s_Mo_named_12, s_Mo_named_13, s_Mo_named_14, s_Mo_named_15, s_Mo_named_16, s_Mo_named_17, s_Mo_named_18, s_Mo_named_21, s_Mo_named_22, s_Mo_named_23, s_Mo_named_26, s_Mo_named_27, s_Mo_named_28, s_Mo_named_29, s_Mo_named_32, s_Mo_named_33, s_Mo_named_34, s_Mo_named_35, s_Mo_named_38, s_Mo_named_41, s_Mo_named_42, y_kd_sI, y_kd_sL, y_kd_sR, y_kd_cpI, y_kd_cpL, y_ln_sI, y_ln_sL, y_ln_sR, y_ln_cpI, y_ln_cpL, y_sz_sI, y_sz_sL, y_sz_sR, y_sz_cpI, y_sz_cpL, y_sl_sI, y_sl_sL, y_sl_sR, y_sl_cpI, y_sl_cpL, y_gI_sL, y_gI_sR, y_gI_cpI, y_gI_cpL, y_gI_nw, y_gL_sI, y_gL_sR, y_gL_cpI, y_gL_cpL, y_gL_nw, y_gR_sI, y_gR_sL, y_gR_cpI, y_gR_cpL, y_gR_nw, y_kd_nw, y_ln_nw, y_sz_nw, y_sl_nw, y_fx_int, y_fx_long, y_fx_ref, y_fx_null, y_fx_U, y_rf_s, y_rf_n, a_inb, a_ix, a_lt, a_eq, a_eq0, a_lt0, a_0lt, a_m1, a_m2, a_mlt, a_sub, a_dec, a_div, a_rem, a_shl, a_shr, a_bit, a_bit0, a_II, a_Ia, a_Ik, a_LL, a_La, a_Lk, a_RR, a_Ra, a_Rk, a_if0, a_if1, y_mul, y_and, y_or, nI_add, y_b1, y_b0, kon_v, kon_0, true_or, or_true, and_self, true_and, and_true, false_or, or_false, and_false, false_and, not_true_eq_false, not_false_eq_true, ite_self, ↓reduceIte, Nat.reduceEqDiff, Nat.reduceLeDiff, Nat.reduceAdd, Nat.reduceMul, Nat.reduceSub, Nat.reduceLT, Nat.reduceShiftLeft, Nat.reduceOr, Nat.reduceAnd, Bool.false_eq_true, b_if, b_z1, b_z0, b_zz, b_a1, b_a0, b_lc, b_zF, b_zT, b_lbit, mo_k o, q1, Nat.lt_irrefl]
  rfl
def wgO (V : Nat → Nat → Int32) (d : Nat) : Nat := ix (V 19 d)
theorem wg_v {nf nd d : Nat} (k : kDd nf nd V) (hd : d < nd) : V 19 d = nI (wgO V d) ∧ wgO V d < 100 := by
  obtain ⟨-, ⟨w, e, -, hw⟩, -⟩ := k.2 d hd
  unfold wgO
  rw [e, a_ix (by omega)]
  exact ⟨rfl, hw⟩
theorem q_sumOf {nf nd : Nat} (o : oDC h B) (ol : oLand h l) (q : QS h B L) (hc : cDd h l nd V) (k : kDd nf nd V) (hL : lOK L nd) {x : Nat} (hx : x < 256) : call g Quarrels_sumOf [.ref (B + 141), .ref l, .int (nI x)] h = some (some (.int (nI (smO L (wgO V) x))), h) := by
  have l8 := hL.1
  have n24 := k.1
  obtain ⟨q1, q2⟩ := q
  obtain ⟨e1, e2⟩ := l_fold (g := g) (M := Quarrels_sumOf) (pc := 5) (st := []) (h := h) (n := L.length) (fun i (y : Nat) => [.ref (B + 141), .ref l, .int (nI x), .int (nI y), .int (nI i)]) (fun i y => y = smN (fun i => if x.testBit i = true then wgO V (L.getD i 0) else 0) i) (fun i y => y + (if x.testBit i = true then wgO V (L.getD i 0) else 0)) (fun i y hi hy => by
    have hlt : (i < L.length) = True := eq_true hi
    have v := q2 i hi
    have b := hL.2 i hi
    obtain ⟨w1, w2⟩ := wg_v k b
    have dd := (hc.2 _ b).2.2.2.1
    rw [w1] at dd
    have kd2 := la_dk ol (show L.getD i 0 < 24 by omega)
    refine ⟨?_, by rw [hy]; rfl⟩
    show ev g Quarrels_sumOf 5 [.ref (B + 141), .ref l, .int (nI x), .int (nI y), .int (nI i)] [] h = ev g Quarrels_sumOf 5 [.ref (B + 141), .ref l, .int (nI x), .int (nI (y + (if x.testBit i = true then wgO V (L.getD i 0) else 0))), .int (nI (i + 1))] [] h
    rw [s_Quarrels_sumOf_5]
    by_cases z : x.testBit i = true
    · have zt : (x.testBit i = true) = True := eq_true z
      simp (disch := omega) only [s_Quarrels_sumOf_0, s_Quarrels_sumOf_1, s_Quarrels_sumOf_2, s_Quarrels_sumOf_3, s_Quarrels_sumOf_7, s_Quarrels_sumOf_8, s_Quarrels_sumOf_11, s_Quarrels_sumOf_14, s_Quarrels_sumOf_15, s_Quarrels_sumOf_16, s_Quarrels_sumOf_18, s_Quarrels_sumOf_19, s_Quarrels_sumOf_20, s_Quarrels_sumOf_21, s_Quarrels_sumOf_24, s_Quarrels_sumOf_25, s_Quarrels_sumOf_28, s_Quarrels_sumOf_29, s_Quarrels_sumOf_32, s_Quarrels_sumOf_34, s_Quarrels_sumOf_35, s_Quarrels_sumOf_36, s_Quarrels_sumOf_39, s_Quarrels_sumOf_42, s_Quarrels_sumOf_43, s_Quarrels_sumOf_44, s_Quarrels_sumOf_45, s_Quarrels_sumOf_48, s_Quarrels_sumOf_51, s_Quarrels_sumOf_52, y_kd_sI, y_kd_sL, y_kd_sR, y_kd_cpI, y_kd_cpL, y_ln_sI, y_ln_sL, y_ln_sR, y_ln_cpI, y_ln_cpL, y_sz_sI, y_sz_sL, y_sz_sR, y_sz_cpI, y_sz_cpL, y_sl_sI, y_sl_sL, y_sl_sR, y_sl_cpI, y_sl_cpL, y_gI_sL, y_gI_sR, y_gI_cpI, y_gI_cpL, y_gI_nw, y_gL_sI, y_gL_sR, y_gL_cpI, y_gL_cpL, y_gL_nw, y_gR_sI, y_gR_sL, y_gR_cpI, y_gR_cpL, y_gR_nw, y_kd_nw, y_ln_nw, y_sz_nw, y_sl_nw, y_fx_int, y_fx_long, y_fx_ref, y_fx_null, y_fx_U, y_rf_s, y_rf_n, a_inb, a_ix, a_lt, a_eq, a_eq0, a_lt0, a_0lt, a_m1, a_m2, a_mlt, a_sub, a_dec, a_div, a_rem, a_shl, a_shr, a_bit, a_bit0, a_II, a_Ia, a_Ik, a_LL, a_La, a_Lk, a_RR, a_Ra, a_Rk, a_if0, a_if1, y_mul, y_and, y_or, nI_add, y_b1, y_b0, kon_v, kon_0, true_or, or_true, and_self, true_and, and_true, false_or, or_false, and_false, false_and, not_true_eq_false, not_false_eq_true, ite_self, ↓reduceIte, Nat.reduceEqDiff, Nat.reduceLeDiff, Nat.reduceAdd, Nat.reduceMul, Nat.reduceSub, Nat.reduceLT, Nat.reduceShiftLeft, Nat.reduceOr, Nat.reduceAnd, Bool.false_eq_true, b_if, b_z1, b_z0, b_zz, b_a1, b_a0, b_lc, b_zF, b_zT, b_lbit, dc_k o, dc_r0 o, dc_r1 o, dc_r2 o, dc_r3 o, dc_r5 o, dc_r6 o, dc_r7 o, dc_r8 o, dc_r9 o, dc_k1 o, dc_l1 o, dc_k19 o, dc_l19 o, dc_k21 o, dc_l21 o, dc_k22 o, dc_l22 o, dc_k131 o, dc_l131 o, dc_k142 o, dc_l142 o, dc_k143 o, dc_l143 o, dc_k144 o, dc_l144 o, dc_k18 o, dc_r18 o, dc_k20 o, dc_r20_0 o, dc_r20_1 o, dc_k141 o, dc_r141_5 o, dc_r141_6 o, dc_s o, dc_sk o, dc_sr o, dc_ek o, dc_el o, la_k ol, la_r_0 ol, la_r_2 ol, la_r_4 ol, la_r_5 ol, la_r_6 ol, la_r_7 ol, la_r_8 ol, la_r_9 ol, la_k1 ol, la_l1 ol, la_k12 ol, la_l12 ol, la_k37 ol, la_l37 ol, la_k39 ol, la_l39 ol, la_k40 ol, la_l40 ol, la_k42 ol, la_l42 ol, la_k52 ol, la_l52 ol, la_k53 ol, la_l53 ol, la_k38 ol, la_r38_1 ol, la_r38_2 ol, la_k41 ol, la_r41_1 ol, la_f ol, la_fk ol, la_d ol, la_dk ol, q1, hlt, zt, v, kd2, dd]
    · have zt : (x.testBit i = true) = False := eq_false z
      simp (disch := omega) only [s_Quarrels_sumOf_0, s_Quarrels_sumOf_1, s_Quarrels_sumOf_2, s_Quarrels_sumOf_3, s_Quarrels_sumOf_7, s_Quarrels_sumOf_8, s_Quarrels_sumOf_11, s_Quarrels_sumOf_14, s_Quarrels_sumOf_15, s_Quarrels_sumOf_16, s_Quarrels_sumOf_18, s_Quarrels_sumOf_19, s_Quarrels_sumOf_20, s_Quarrels_sumOf_21, s_Quarrels_sumOf_24, s_Quarrels_sumOf_25, s_Quarrels_sumOf_28, s_Quarrels_sumOf_29, s_Quarrels_sumOf_32, s_Quarrels_sumOf_34, s_Quarrels_sumOf_35, s_Quarrels_sumOf_36, s_Quarrels_sumOf_39, s_Quarrels_sumOf_42, s_Quarrels_sumOf_43, s_Quarrels_sumOf_44, s_Quarrels_sumOf_45, s_Quarrels_sumOf_48, s_Quarrels_sumOf_51, s_Quarrels_sumOf_52, y_kd_sI, y_kd_sL, y_kd_sR, y_kd_cpI, y_kd_cpL, y_ln_sI, y_ln_sL, y_ln_sR, y_ln_cpI, y_ln_cpL, y_sz_sI, y_sz_sL, y_sz_sR, y_sz_cpI, y_sz_cpL, y_sl_sI, y_sl_sL, y_sl_sR, y_sl_cpI, y_sl_cpL, y_gI_sL, y_gI_sR, y_gI_cpI, y_gI_cpL, y_gI_nw, y_gL_sI, y_gL_sR, y_gL_cpI, y_gL_cpL, y_gL_nw, y_gR_sI, y_gR_sL, y_gR_cpI, y_gR_cpL, y_gR_nw, y_kd_nw, y_ln_nw, y_sz_nw, y_sl_nw, y_fx_int, y_fx_long, y_fx_ref, y_fx_null, y_fx_U, y_rf_s, y_rf_n, a_inb, a_ix, a_lt, a_eq, a_eq0, a_lt0, a_0lt, a_m1, a_m2, a_mlt, a_sub, a_dec, a_div, a_rem, a_shl, a_shr, a_bit, a_bit0, a_II, a_Ia, a_Ik, a_LL, a_La, a_Lk, a_RR, a_Ra, a_Rk, a_if0, a_if1, y_mul, y_and, y_or, nI_add, y_b1, y_b0, kon_v, kon_0, true_or, or_true, and_self, true_and, and_true, false_or, or_false, and_false, false_and, not_true_eq_false, not_false_eq_true, ite_self, ↓reduceIte, Nat.reduceEqDiff, Nat.reduceLeDiff, Nat.reduceAdd, Nat.reduceMul, Nat.reduceSub, Nat.reduceLT, Nat.reduceShiftLeft, Nat.reduceOr, Nat.reduceAnd, Bool.false_eq_true, b_if, b_z1, b_z0, b_zz, b_a1, b_a0, b_lc, b_zF, b_zT, b_lbit, dc_k o, dc_r0 o, dc_r1 o, dc_r2 o, dc_r3 o, dc_r5 o, dc_r6 o, dc_r7 o, dc_r8 o, dc_r9 o, dc_k1 o, dc_l1 o, dc_k19 o, dc_l19 o, dc_k21 o, dc_l21 o, dc_k22 o, dc_l22 o, dc_k131 o, dc_l131 o, dc_k142 o, dc_l142 o, dc_k143 o, dc_l143 o, dc_k144 o, dc_l144 o, dc_k18 o, dc_r18 o, dc_k20 o, dc_r20_0 o, dc_r20_1 o, dc_k141 o, dc_r141_5 o, dc_r141_6 o, dc_s o, dc_sk o, dc_sr o, dc_ek o, dc_el o, q1, hlt, zt, v]) L.length 0 0 (by omega) rfl
  rw [e2] at e1
  rw [n_Quarrels_sumOf, s_Quarrels_sumOf_0, s_Quarrels_sumOf_1, s_Quarrels_sumOf_2, s_Quarrels_sumOf_3]
  refine Eq.trans (show _ = ev g Quarrels_sumOf 5 [.ref (B + 141), .ref l, .int (nI x), .int (nI 0), .int (nI 0)] [] h from rfl) (e1.trans ?_)
  simp (disch := omega) only [s_Quarrels_sumOf_0, s_Quarrels_sumOf_1, s_Quarrels_sumOf_2, s_Quarrels_sumOf_3, s_Quarrels_sumOf_5, s_Quarrels_sumOf_7, s_Quarrels_sumOf_8, s_Quarrels_sumOf_11, s_Quarrels_sumOf_14, s_Quarrels_sumOf_15, s_Quarrels_sumOf_16, s_Quarrels_sumOf_18, s_Quarrels_sumOf_19, s_Quarrels_sumOf_20, s_Quarrels_sumOf_21, s_Quarrels_sumOf_24, s_Quarrels_sumOf_25, s_Quarrels_sumOf_28, s_Quarrels_sumOf_29, s_Quarrels_sumOf_32, s_Quarrels_sumOf_34, s_Quarrels_sumOf_35, s_Quarrels_sumOf_36, s_Quarrels_sumOf_39, s_Quarrels_sumOf_42, s_Quarrels_sumOf_43, s_Quarrels_sumOf_44, s_Quarrels_sumOf_45, s_Quarrels_sumOf_48, s_Quarrels_sumOf_51, s_Quarrels_sumOf_52, y_kd_sI, y_kd_sL, y_kd_sR, y_kd_cpI, y_kd_cpL, y_ln_sI, y_ln_sL, y_ln_sR, y_ln_cpI, y_ln_cpL, y_sz_sI, y_sz_sL, y_sz_sR, y_sz_cpI, y_sz_cpL, y_sl_sI, y_sl_sL, y_sl_sR, y_sl_cpI, y_sl_cpL, y_gI_sL, y_gI_sR, y_gI_cpI, y_gI_cpL, y_gI_nw, y_gL_sI, y_gL_sR, y_gL_cpI, y_gL_cpL, y_gL_nw, y_gR_sI, y_gR_sL, y_gR_cpI, y_gR_cpL, y_gR_nw, y_kd_nw, y_ln_nw, y_sz_nw, y_sl_nw, y_fx_int, y_fx_long, y_fx_ref, y_fx_null, y_fx_U, y_rf_s, y_rf_n, a_inb, a_ix, a_lt, a_eq, a_eq0, a_lt0, a_0lt, a_m1, a_m2, a_mlt, a_sub, a_dec, a_div, a_rem, a_shl, a_shr, a_bit, a_bit0, a_II, a_Ia, a_Ik, a_LL, a_La, a_Lk, a_RR, a_Ra, a_Rk, a_if0, a_if1, y_mul, y_and, y_or, nI_add, y_b1, y_b0, kon_v, kon_0, true_or, or_true, and_self, true_and, and_true, false_or, or_false, and_false, false_and, not_true_eq_false, not_false_eq_true, ite_self, ↓reduceIte, Nat.reduceEqDiff, Nat.reduceLeDiff, Nat.reduceAdd, Nat.reduceMul, Nat.reduceSub, Nat.reduceLT, Nat.reduceShiftLeft, Nat.reduceOr, Nat.reduceAnd, Bool.false_eq_true, b_if, b_z1, b_z0, b_zz, b_a1, b_a0, b_lc, b_zF, b_zT, b_lbit, dc_k o, dc_r0 o, dc_r1 o, dc_r2 o, dc_r3 o, dc_r5 o, dc_r6 o, dc_r7 o, dc_r8 o, dc_r9 o, dc_k1 o, dc_l1 o, dc_k19 o, dc_l19 o, dc_k21 o, dc_l21 o, dc_k22 o, dc_l22 o, dc_k131 o, dc_l131 o, dc_k142 o, dc_l142 o, dc_k143 o, dc_l143 o, dc_k144 o, dc_l144 o, dc_k18 o, dc_r18 o, dc_k20 o, dc_r20_0 o, dc_r20_1 o, dc_k141 o, dc_r141_5 o, dc_r141_6 o, dc_s o, dc_sk o, dc_sr o, dc_ek o, dc_el o, q1, Nat.lt_irrefl]
  rfl
theorem q_weightOf {nf nd : Nat} (o : oMo h m) (q : MS h m L) (hc : mDd h m nd V) (k : kDd nf nd V) (hL : lOK L nd) {x : Nat} (hx : x < 256) : call g Mo_weightOf [.ref m, .int (nI x)] h = some (some (.int (nI (smO L (wgO V) x))), h) := by
  have l8 := hL.1
  have n24 := k.1
  obtain ⟨q1, q2⟩ := q
  obtain ⟨e1, e2⟩ := l_fold (g := g) (M := Mo_weightOf) (pc := 4) (st := []) (h := h) (n := L.length) (fun i (y : Nat) => [.ref m, .int (nI x), .int (nI y), .int (nI i)]) (fun i y => y = smN (fun i => if x.testBit i = true then wgO V (L.getD i 0) else 0) i) (fun i y => y + (if x.testBit i = true then wgO V (L.getD i 0) else 0)) (fun i y hi hy => by
    have hlt : (i < L.length) = True := eq_true hi
    have v := q2 i hi
    have b := hL.2 i hi
    obtain ⟨w1, w2⟩ := wg_v k b
    have dd := (hc.2 _ b).2.2.2.1
    rw [w1] at dd
    refine ⟨?_, by rw [hy]; rfl⟩
    show ev g Mo_weightOf 4 [.ref m, .int (nI x), .int (nI y), .int (nI i)] [] h = ev g Mo_weightOf 4 [.ref m, .int (nI x), .int (nI (y + (if x.testBit i = true then wgO V (L.getD i 0) else 0))), .int (nI (i + 1))] [] h
    rw [s_Mo_weightOf_4]
    by_cases z : x.testBit i = true
    · have zt : (x.testBit i = true) = True := eq_true z
      simp (disch := omega) only [s_Mo_weightOf_0, s_Mo_weightOf_1, s_Mo_weightOf_2, s_Mo_weightOf_3, s_Mo_weightOf_5, s_Mo_weightOf_6, s_Mo_weightOf_9, s_Mo_weightOf_12, s_Mo_weightOf_13, s_Mo_weightOf_14, s_Mo_weightOf_15, s_Mo_weightOf_16, s_Mo_weightOf_17, s_Mo_weightOf_18, s_Mo_weightOf_21, s_Mo_weightOf_22, s_Mo_weightOf_25, s_Mo_weightOf_26, s_Mo_weightOf_29, s_Mo_weightOf_30, s_Mo_weightOf_31, s_Mo_weightOf_32, s_Mo_weightOf_35, s_Mo_weightOf_36, s_Mo_weightOf_37, s_Mo_weightOf_38, s_Mo_weightOf_41, s_Mo_weightOf_44, s_Mo_weightOf_45, y_kd_sI, y_kd_sL, y_kd_sR, y_kd_cpI, y_kd_cpL, y_ln_sI, y_ln_sL, y_ln_sR, y_ln_cpI, y_ln_cpL, y_sz_sI, y_sz_sL, y_sz_sR, y_sz_cpI, y_sz_cpL, y_sl_sI, y_sl_sL, y_sl_sR, y_sl_cpI, y_sl_cpL, y_gI_sL, y_gI_sR, y_gI_cpI, y_gI_cpL, y_gI_nw, y_gL_sI, y_gL_sR, y_gL_cpI, y_gL_cpL, y_gL_nw, y_gR_sI, y_gR_sL, y_gR_cpI, y_gR_cpL, y_gR_nw, y_kd_nw, y_ln_nw, y_sz_nw, y_sl_nw, y_fx_int, y_fx_long, y_fx_ref, y_fx_null, y_fx_U, y_rf_s, y_rf_n, a_inb, a_ix, a_lt, a_eq, a_eq0, a_lt0, a_0lt, a_m1, a_m2, a_mlt, a_sub, a_dec, a_div, a_rem, a_shl, a_shr, a_bit, a_bit0, a_II, a_Ia, a_Ik, a_LL, a_La, a_Lk, a_RR, a_Ra, a_Rk, a_if0, a_if1, y_mul, y_and, y_or, nI_add, y_b1, y_b0, kon_v, kon_0, true_or, or_true, and_self, true_and, and_true, false_or, or_false, and_false, false_and, not_true_eq_false, not_false_eq_true, ite_self, ↓reduceIte, Nat.reduceEqDiff, Nat.reduceLeDiff, Nat.reduceAdd, Nat.reduceMul, Nat.reduceSub, Nat.reduceLT, Nat.reduceShiftLeft, Nat.reduceOr, Nat.reduceAnd, Bool.false_eq_true, b_if, b_z1, b_z0, b_zz, b_a1, b_a0, b_lc, b_zF, b_zT, b_lbit, mo_k o, mo_r56 o, mo_k56 o, mo_l56 o, mo_r19 o, mo_k19 o, mo_l19 o, q1, hlt, zt, v, dd]
    · have zt : (x.testBit i = true) = False := eq_false z
      simp (disch := omega) only [s_Mo_weightOf_0, s_Mo_weightOf_1, s_Mo_weightOf_2, s_Mo_weightOf_3, s_Mo_weightOf_5, s_Mo_weightOf_6, s_Mo_weightOf_9, s_Mo_weightOf_12, s_Mo_weightOf_13, s_Mo_weightOf_14, s_Mo_weightOf_15, s_Mo_weightOf_16, s_Mo_weightOf_17, s_Mo_weightOf_18, s_Mo_weightOf_21, s_Mo_weightOf_22, s_Mo_weightOf_25, s_Mo_weightOf_26, s_Mo_weightOf_29, s_Mo_weightOf_30, s_Mo_weightOf_31, s_Mo_weightOf_32, s_Mo_weightOf_35, s_Mo_weightOf_36, s_Mo_weightOf_37, s_Mo_weightOf_38, s_Mo_weightOf_41, s_Mo_weightOf_44, s_Mo_weightOf_45, y_kd_sI, y_kd_sL, y_kd_sR, y_kd_cpI, y_kd_cpL, y_ln_sI, y_ln_sL, y_ln_sR, y_ln_cpI, y_ln_cpL, y_sz_sI, y_sz_sL, y_sz_sR, y_sz_cpI, y_sz_cpL, y_sl_sI, y_sl_sL, y_sl_sR, y_sl_cpI, y_sl_cpL, y_gI_sL, y_gI_sR, y_gI_cpI, y_gI_cpL, y_gI_nw, y_gL_sI, y_gL_sR, y_gL_cpI, y_gL_cpL, y_gL_nw, y_gR_sI, y_gR_sL, y_gR_cpI, y_gR_cpL, y_gR_nw, y_kd_nw, y_ln_nw, y_sz_nw, y_sl_nw, y_fx_int, y_fx_long, y_fx_ref, y_fx_null, y_fx_U, y_rf_s, y_rf_n, a_inb, a_ix, a_lt, a_eq, a_eq0, a_lt0, a_0lt, a_m1, a_m2, a_mlt, a_sub, a_dec, a_div, a_rem, a_shl, a_shr, a_bit, a_bit0, a_II, a_Ia, a_Ik, a_LL, a_La, a_Lk, a_RR, a_Ra, a_Rk, a_if0, a_if1, y_mul, y_and, y_or, nI_add, y_b1, y_b0, kon_v, kon_0, true_or, or_true, and_self, true_and, and_true, false_or, or_false, and_false, false_and, not_true_eq_false, not_false_eq_true, ite_self, ↓reduceIte, Nat.reduceEqDiff, Nat.reduceLeDiff, Nat.reduceAdd, Nat.reduceMul, Nat.reduceSub, Nat.reduceLT, Nat.reduceShiftLeft, Nat.reduceOr, Nat.reduceAnd, Bool.false_eq_true, b_if, b_z1, b_z0, b_zz, b_a1, b_a0, b_lc, b_zF, b_zT, b_lbit, mo_k o, q1, hlt, zt, v]) L.length 0 0 (by omega) rfl
  rw [e2] at e1
  rw [n_Mo_weightOf, s_Mo_weightOf_0, s_Mo_weightOf_1, s_Mo_weightOf_2, s_Mo_weightOf_3]
  refine Eq.trans (show _ = ev g Mo_weightOf 4 [.ref m, .int (nI x), .int (nI 0), .int (nI 0)] [] h from rfl) (e1.trans ?_)
  simp (disch := omega) only [s_Mo_weightOf_0, s_Mo_weightOf_1, s_Mo_weightOf_2, s_Mo_weightOf_3, s_Mo_weightOf_4, s_Mo_weightOf_5, s_Mo_weightOf_6, s_Mo_weightOf_9, s_Mo_weightOf_12, s_Mo_weightOf_13, s_Mo_weightOf_14, s_Mo_weightOf_15, s_Mo_weightOf_16, s_Mo_weightOf_17, s_Mo_weightOf_18, s_Mo_weightOf_21, s_Mo_weightOf_22, s_Mo_weightOf_25, s_Mo_weightOf_26, s_Mo_weightOf_29, s_Mo_weightOf_30, s_Mo_weightOf_31, s_Mo_weightOf_32, s_Mo_weightOf_35, s_Mo_weightOf_36, s_Mo_weightOf_37, s_Mo_weightOf_38, s_Mo_weightOf_41, s_Mo_weightOf_44, s_Mo_weightOf_45, y_kd_sI, y_kd_sL, y_kd_sR, y_kd_cpI, y_kd_cpL, y_ln_sI, y_ln_sL, y_ln_sR, y_ln_cpI, y_ln_cpL, y_sz_sI, y_sz_sL, y_sz_sR, y_sz_cpI, y_sz_cpL, y_sl_sI, y_sl_sL, y_sl_sR, y_sl_cpI, y_sl_cpL, y_gI_sL, y_gI_sR, y_gI_cpI, y_gI_cpL, y_gI_nw, y_gL_sI, y_gL_sR, y_gL_cpI, y_gL_cpL, y_gL_nw, y_gR_sI, y_gR_sL, y_gR_cpI, y_gR_cpL, y_gR_nw, y_kd_nw, y_ln_nw, y_sz_nw, y_sl_nw, y_fx_int, y_fx_long, y_fx_ref, y_fx_null, y_fx_U, y_rf_s, y_rf_n, a_inb, a_ix, a_lt, a_eq, a_eq0, a_lt0, a_0lt, a_m1, a_m2, a_mlt, a_sub, a_dec, a_div, a_rem, a_shl, a_shr, a_bit, a_bit0, a_II, a_Ia, a_Ik, a_LL, a_La, a_Lk, a_RR, a_Ra, a_Rk, a_if0, a_if1, y_mul, y_and, y_or, nI_add, y_b1, y_b0, kon_v, kon_0, true_or, or_true, and_self, true_and, and_true, false_or, or_false, and_false, false_and, not_true_eq_false, not_false_eq_true, ite_self, ↓reduceIte, Nat.reduceEqDiff, Nat.reduceLeDiff, Nat.reduceAdd, Nat.reduceMul, Nat.reduceSub, Nat.reduceLT, Nat.reduceShiftLeft, Nat.reduceOr, Nat.reduceAnd, Bool.false_eq_true, b_if, b_z1, b_z0, b_zz, b_a1, b_a0, b_lc, b_zF, b_zT, b_lbit, mo_k o, q1, Nat.lt_irrefl]
  rfl
/-- the class's list -/
theorem c_list (o : oDC h B) {am : Nat} (ha : am < 16777216) (h8 : (nmL (fun d => am.testBit d = true) 24).length ≤ 8) : ∃ h' : zMem, call g Quarrels_list [.ref (B + 141), .int (nI am)] h = some (none, h') ∧ sam (B + 141) (B + 142) h h' ∧ QS h' B (nmL (fun d => am.testBit d = true) 24) := by
  have lp : ∀ (k d : Nat) (h : zMem), d + k = 24 → oDC h B → QS h B (nmL (fun d => am.testBit d = true) d) → ∃ h' : zMem, ev g Quarrels_list 7 [.ref (B + 141), .int (nI am), .int (nI d)] [] h = some (none, h') ∧ sam (B + 141) (B + 142) h h' ∧ QS h' B (nmL (fun d => am.testBit d = true) 24) := by
    intro k
    induction k with
    | zero =>
      intro d h hk o q
      have e : d = 24 := by omega
      subst e
      refine ⟨h, ?_, sam.rf, q⟩
      rw [s_Quarrels_list_7]
      simp (disch := omega) only [s_Quarrels_list_0, s_Quarrels_list_1, s_Quarrels_list_2, s_Quarrels_list_5, s_Quarrels_list_6, s_Quarrels_list_8, s_Quarrels_list_10, s_Quarrels_list_13, s_Quarrels_list_14, s_Quarrels_list_17, s_Quarrels_list_19, s_Quarrels_list_22, s_Quarrels_list_23, s_Quarrels_list_24, s_Quarrels_list_25, s_Quarrels_list_26, s_Quarrels_list_27, s_Quarrels_list_30, s_Quarrels_list_31, s_Quarrels_list_34, s_Quarrels_list_35, s_Quarrels_list_38, s_Quarrels_list_39, s_Quarrels_list_40, s_Quarrels_list_41, s_Quarrels_list_42, s_Quarrels_list_45, s_Quarrels_list_46, s_Quarrels_list_47, s_Quarrels_list_50, s_Quarrels_list_53, s_Quarrels_list_56, y_kd_sI, y_kd_sL, y_kd_sR, y_kd_cpI, y_kd_cpL, y_ln_sI, y_ln_sL, y_ln_sR, y_ln_cpI, y_ln_cpL, y_sz_sI, y_sz_sL, y_sz_sR, y_sz_cpI, y_sz_cpL, y_sl_sI, y_sl_sL, y_sl_sR, y_sl_cpI, y_sl_cpL, y_gI_sL, y_gI_sR, y_gI_cpI, y_gI_cpL, y_gI_nw, y_gL_sI, y_gL_sR, y_gL_cpI, y_gL_cpL, y_gL_nw, y_gR_sI, y_gR_sL, y_gR_cpI, y_gR_cpL, y_gR_nw, y_kd_nw, y_ln_nw, y_sz_nw, y_sl_nw, y_fx_int, y_fx_long, y_fx_ref, y_fx_null, y_fx_U, y_rf_s, y_rf_n, a_inb, a_ix, a_lt, a_eq, a_eq0, a_lt0, a_0lt, a_m1, a_m2, a_mlt, a_sub, a_dec, a_div, a_rem, a_shl, a_shr, a_bit, a_bit0, a_II, a_Ia, a_Ik, a_LL, a_La, a_Lk, a_RR, a_Ra, a_Rk, a_if0, a_if1, y_mul, y_and, y_or, nI_add, y_b1, y_b0, kon_v, kon_0, true_or, or_true, and_self, true_and, and_true, false_or, or_false, and_false, false_and, not_true_eq_false, not_false_eq_true, ite_self, ↓reduceIte, Nat.reduceEqDiff, Nat.reduceLeDiff, Nat.reduceAdd, Nat.reduceMul, Nat.reduceSub, Nat.reduceLT, Nat.reduceShiftLeft, Nat.reduceOr, Nat.reduceAnd, Bool.false_eq_true, b_if, b_z1, b_z0, b_zz, b_a1, b_a0, b_lc, b_zF, b_zT, b_lbit, Nat.lt_irrefl]
    | succ k ih =>
      intro d h hk o q
      have hd : (d < 24) = True := eq_true (by omega)
      have lm := nmL_mono (sel := fun d => am.testBit d = true) (m := d) (24 - d)
      rw [show d + (24 - d) = 24 by omega] at lm
      by_cases c8 : (nmL (fun d => am.testBit d = true) d).length < 8
      · have c8t := eq_true c8
        by_cases z : am.testBit d = true
        · have zt : (am.testBit d = true) = True := eq_true z
          have s1 : sam (B + 141) (B + 142) h (sI (sI h (B + 142) (nmL (fun d => am.testBit d = true) d).length (nI d)) (B + 141) 4 (nI ((nmL (fun d => am.testBit d = true) d).length + 1))) := (sam.I (by omega)).aI (by omega)
          have q' : QS (sI (sI h (B + 142) (nmL (fun d => am.testBit d = true) d).length (nI d)) (B + 141) 4 (nI ((nmL (fun d => am.testBit d = true) d).length + 1))) B (nmL (fun d => am.testBit d = true) (d + 1)) := by
            rw [nmL_t (sel := fun d => am.testBit d = true) z]
            refine ⟨by rw [a_II, List.length_append]; rfl, fun i hi => ?_⟩
            rw [List.length_append] at hi
            have hi' : i < (nmL (fun d => am.testBit d = true) d).length + 1 := hi
            rw [a_Ia (by omega)]
            by_cases w : i < (nmL (fun d => am.testBit d = true) d).length
            · rw [a_Ik (by omega), gD_1 w]; exact q.2 i w
            · rw [show i = (nmL (fun d => am.testBit d = true) d).length by omega, a_II, gD_2]
          obtain ⟨h', e1, e2, e3⟩ := ih (d + 1) _ (by omega) (s1.dc o) q'
          refine ⟨h', ?_, s1.tr e2, e3⟩
          rw [← e1, s_Quarrels_list_7]
          simp (disch := omega) only [s_Quarrels_list_0, s_Quarrels_list_1, s_Quarrels_list_2, s_Quarrels_list_5, s_Quarrels_list_6, s_Quarrels_list_8, s_Quarrels_list_10, s_Quarrels_list_13, s_Quarrels_list_14, s_Quarrels_list_17, s_Quarrels_list_19, s_Quarrels_list_22, s_Quarrels_list_23, s_Quarrels_list_24, s_Quarrels_list_25, s_Quarrels_list_26, s_Quarrels_list_27, s_Quarrels_list_30, s_Quarrels_list_31, s_Quarrels_list_34, s_Quarrels_list_35, s_Quarrels_list_38, s_Quarrels_list_39, s_Quarrels_list_40, s_Quarrels_list_41, s_Quarrels_list_42, s_Quarrels_list_45, s_Quarrels_list_46, s_Quarrels_list_47, s_Quarrels_list_50, s_Quarrels_list_53, s_Quarrels_list_56, y_kd_sI, y_kd_sL, y_kd_sR, y_kd_cpI, y_kd_cpL, y_ln_sI, y_ln_sL, y_ln_sR, y_ln_cpI, y_ln_cpL, y_sz_sI, y_sz_sL, y_sz_sR, y_sz_cpI, y_sz_cpL, y_sl_sI, y_sl_sL, y_sl_sR, y_sl_cpI, y_sl_cpL, y_gI_sL, y_gI_sR, y_gI_cpI, y_gI_cpL, y_gI_nw, y_gL_sI, y_gL_sR, y_gL_cpI, y_gL_cpL, y_gL_nw, y_gR_sI, y_gR_sL, y_gR_cpI, y_gR_cpL, y_gR_nw, y_kd_nw, y_ln_nw, y_sz_nw, y_sl_nw, y_fx_int, y_fx_long, y_fx_ref, y_fx_null, y_fx_U, y_rf_s, y_rf_n, a_inb, a_ix, a_lt, a_eq, a_eq0, a_lt0, a_0lt, a_m1, a_m2, a_mlt, a_sub, a_dec, a_div, a_rem, a_shl, a_shr, a_bit, a_bit0, a_II, a_Ia, a_Ik, a_LL, a_La, a_Lk, a_RR, a_Ra, a_Rk, a_if0, a_if1, y_mul, y_and, y_or, nI_add, y_b1, y_b0, kon_v, kon_0, true_or, or_true, and_self, true_and, and_true, false_or, or_false, and_false, false_and, not_true_eq_false, not_false_eq_true, ite_self, ↓reduceIte, Nat.reduceEqDiff, Nat.reduceLeDiff, Nat.reduceAdd, Nat.reduceMul, Nat.reduceSub, Nat.reduceLT, Nat.reduceShiftLeft, Nat.reduceOr, Nat.reduceAnd, Bool.false_eq_true, b_if, b_z1, b_z0, b_zz, b_a1, b_a0, b_lc, b_zF, b_zT, b_lbit, dc_k o, dc_r0 o, dc_r1 o, dc_r2 o, dc_r3 o, dc_r5 o, dc_r6 o, dc_r7 o, dc_r8 o, dc_r9 o, dc_k1 o, dc_l1 o, dc_k19 o, dc_l19 o, dc_k21 o, dc_l21 o, dc_k22 o, dc_l22 o, dc_k131 o, dc_l131 o, dc_k142 o, dc_l142 o, dc_k143 o, dc_l143 o, dc_k144 o, dc_l144 o, dc_k18 o, dc_r18 o, dc_k20 o, dc_r20_0 o, dc_r20_1 o, dc_k141 o, dc_r141_5 o, dc_r141_6 o, dc_s o, dc_sk o, dc_sr o, dc_ek o, dc_el o, hd, q.1, c8t, zt]
        · have zt : (am.testBit d = true) = False := eq_false z
          have q' := q
          rw [← nmL_f (sel := fun d => am.testBit d = true) z] at q'
          obtain ⟨h', e1, e2, e3⟩ := ih (d + 1) h (by omega) o q'
          refine ⟨h', ?_, e2, e3⟩
          rw [← e1, s_Quarrels_list_7]
          simp (disch := omega) only [s_Quarrels_list_0, s_Quarrels_list_1, s_Quarrels_list_2, s_Quarrels_list_5, s_Quarrels_list_6, s_Quarrels_list_8, s_Quarrels_list_10, s_Quarrels_list_13, s_Quarrels_list_14, s_Quarrels_list_17, s_Quarrels_list_19, s_Quarrels_list_22, s_Quarrels_list_23, s_Quarrels_list_24, s_Quarrels_list_25, s_Quarrels_list_26, s_Quarrels_list_27, s_Quarrels_list_30, s_Quarrels_list_31, s_Quarrels_list_34, s_Quarrels_list_35, s_Quarrels_list_38, s_Quarrels_list_39, s_Quarrels_list_40, s_Quarrels_list_41, s_Quarrels_list_42, s_Quarrels_list_45, s_Quarrels_list_46, s_Quarrels_list_47, s_Quarrels_list_50, s_Quarrels_list_53, s_Quarrels_list_56, y_kd_sI, y_kd_sL, y_kd_sR, y_kd_cpI, y_kd_cpL, y_ln_sI, y_ln_sL, y_ln_sR, y_ln_cpI, y_ln_cpL, y_sz_sI, y_sz_sL, y_sz_sR, y_sz_cpI, y_sz_cpL, y_sl_sI, y_sl_sL, y_sl_sR, y_sl_cpI, y_sl_cpL, y_gI_sL, y_gI_sR, y_gI_cpI, y_gI_cpL, y_gI_nw, y_gL_sI, y_gL_sR, y_gL_cpI, y_gL_cpL, y_gL_nw, y_gR_sI, y_gR_sL, y_gR_cpI, y_gR_cpL, y_gR_nw, y_kd_nw, y_ln_nw, y_sz_nw, y_sl_nw, y_fx_int, y_fx_long, y_fx_ref, y_fx_null, y_fx_U, y_rf_s, y_rf_n, a_inb, a_ix, a_lt, a_eq, a_eq0, a_lt0, a_0lt, a_m1, a_m2, a_mlt, a_sub, a_dec, a_div, a_rem, a_shl, a_shr, a_bit, a_bit0, a_II, a_Ia, a_Ik, a_LL, a_La, a_Lk, a_RR, a_Ra, a_Rk, a_if0, a_if1, y_mul, y_and, y_or, nI_add, y_b1, y_b0, kon_v, kon_0, true_or, or_true, and_self, true_and, and_true, false_or, or_false, and_false, false_and, not_true_eq_false, not_false_eq_true, ite_self, ↓reduceIte, Nat.reduceEqDiff, Nat.reduceLeDiff, Nat.reduceAdd, Nat.reduceMul, Nat.reduceSub, Nat.reduceLT, Nat.reduceShiftLeft, Nat.reduceOr, Nat.reduceAnd, Bool.false_eq_true, b_if, b_z1, b_z0, b_zz, b_a1, b_a0, b_lc, b_zF, b_zT, b_lbit, dc_k o, dc_r0 o, dc_r1 o, dc_r2 o, dc_r3 o, dc_r5 o, dc_r6 o, dc_r7 o, dc_r8 o, dc_r9 o, dc_k1 o, dc_l1 o, dc_k19 o, dc_l19 o, dc_k21 o, dc_l21 o, dc_k22 o, dc_l22 o, dc_k131 o, dc_l131 o, dc_k142 o, dc_l142 o, dc_k143 o, dc_l143 o, dc_k144 o, dc_l144 o, dc_k18 o, dc_r18 o, dc_k20 o, dc_r20_0 o, dc_r20_1 o, dc_k141 o, dc_r141_5 o, dc_r141_6 o, dc_s o, dc_sk o, dc_sr o, dc_ek o, dc_el o, hd, q.1, c8t, zt]
      · have c8t := eq_false c8
        have no : ∀ x : Nat, d ≤ x → x < 24 → ¬ am.testBit x = true := fun x h1 h2 c => by
          have a := nmL_mono (sel := fun d => am.testBit d = true) (m := d) (x - d)
          rw [show d + (x - d) = x by omega] at a
          have b := nmL_mono (sel := fun d => am.testBit d = true) (m := x + 1) (24 - (x + 1))
          rw [show x + 1 + (24 - (x + 1)) = 24 by omega, nmL_t (sel := fun d => am.testBit d = true) c, List.length_append] at b
          have b' : (nmL (fun d => am.testBit d = true) x).length + 1 ≤ (nmL (fun d => am.testBit d = true) 24).length := b
          omega
        have e24 := nmL_c (sel := fun d => am.testBit d = true) (sel' := fun x => am.testBit x = true ∧ x < d) 24 (fun x hx => ⟨fun c => ⟨c, Classical.byContradiction (fun w => no x (by omega) hx c)⟩, fun c => c.1⟩)
        have e24' := nmL_ext (sel := fun x => am.testBit x = true ∧ x < d) (m := d) (24 - d) (fun x hx c => by omega)
        rw [show d + (24 - d) = 24 by omega] at e24'
        have e24'' := nmL_c (sel := fun x => am.testBit x = true ∧ x < d) (sel' := fun d => am.testBit d = true) d (fun x hx => ⟨fun c => c.1, fun c => ⟨c, hx⟩⟩)
        rw [e24, e24', e24'']
        refine ⟨h, ?_, sam.rf, q⟩
        rw [s_Quarrels_list_7]
        simp (disch := omega) only [s_Quarrels_list_0, s_Quarrels_list_1, s_Quarrels_list_2, s_Quarrels_list_5, s_Quarrels_list_6, s_Quarrels_list_8, s_Quarrels_list_10, s_Quarrels_list_13, s_Quarrels_list_14, s_Quarrels_list_17, s_Quarrels_list_19, s_Quarrels_list_22, s_Quarrels_list_23, s_Quarrels_list_24, s_Quarrels_list_25, s_Quarrels_list_26, s_Quarrels_list_27, s_Quarrels_list_30, s_Quarrels_list_31, s_Quarrels_list_34, s_Quarrels_list_35, s_Quarrels_list_38, s_Quarrels_list_39, s_Quarrels_list_40, s_Quarrels_list_41, s_Quarrels_list_42, s_Quarrels_list_45, s_Quarrels_list_46, s_Quarrels_list_47, s_Quarrels_list_50, s_Quarrels_list_53, s_Quarrels_list_56, y_kd_sI, y_kd_sL, y_kd_sR, y_kd_cpI, y_kd_cpL, y_ln_sI, y_ln_sL, y_ln_sR, y_ln_cpI, y_ln_cpL, y_sz_sI, y_sz_sL, y_sz_sR, y_sz_cpI, y_sz_cpL, y_sl_sI, y_sl_sL, y_sl_sR, y_sl_cpI, y_sl_cpL, y_gI_sL, y_gI_sR, y_gI_cpI, y_gI_cpL, y_gI_nw, y_gL_sI, y_gL_sR, y_gL_cpI, y_gL_cpL, y_gL_nw, y_gR_sI, y_gR_sL, y_gR_cpI, y_gR_cpL, y_gR_nw, y_kd_nw, y_ln_nw, y_sz_nw, y_sl_nw, y_fx_int, y_fx_long, y_fx_ref, y_fx_null, y_fx_U, y_rf_s, y_rf_n, a_inb, a_ix, a_lt, a_eq, a_eq0, a_lt0, a_0lt, a_m1, a_m2, a_mlt, a_sub, a_dec, a_div, a_rem, a_shl, a_shr, a_bit, a_bit0, a_II, a_Ia, a_Ik, a_LL, a_La, a_Lk, a_RR, a_Ra, a_Rk, a_if0, a_if1, y_mul, y_and, y_or, nI_add, y_b1, y_b0, kon_v, kon_0, true_or, or_true, and_self, true_and, and_true, false_or, or_false, and_false, false_and, not_true_eq_false, not_false_eq_true, ite_self, ↓reduceIte, Nat.reduceEqDiff, Nat.reduceLeDiff, Nat.reduceAdd, Nat.reduceMul, Nat.reduceSub, Nat.reduceLT, Nat.reduceShiftLeft, Nat.reduceOr, Nat.reduceAnd, Bool.false_eq_true, b_if, b_z1, b_z0, b_zz, b_a1, b_a0, b_lc, b_zF, b_zT, b_lbit, dc_k o, dc_r0 o, dc_r1 o, dc_r2 o, dc_r3 o, dc_r5 o, dc_r6 o, dc_r7 o, dc_r8 o, dc_r9 o, dc_k1 o, dc_l1 o, dc_k19 o, dc_l19 o, dc_k21 o, dc_l21 o, dc_k22 o, dc_l22 o, dc_k131 o, dc_l131 o, dc_k142 o, dc_l142 o, dc_k143 o, dc_l143 o, dc_k144 o, dc_l144 o, dc_k18 o, dc_r18 o, dc_k20 o, dc_r20_0 o, dc_r20_1 o, dc_k141 o, dc_r141_5 o, dc_r141_6 o, dc_s o, dc_sk o, dc_sr o, dc_ek o, dc_el o, hd, q.1, c8t]
  have s0 : sam (B + 141) (B + 142) h (sI h (B + 141) 4 (nI 0)) := sam.I (by omega)
  obtain ⟨h', e1, e2, e3⟩ := lp 24 0 (sI h (B + 141) 4 (nI 0)) (by omega) (s0.dc o) ⟨a_II, fun i hi => absurd hi (Nat.not_lt_zero i)⟩
  refine ⟨h', ?_, s0.tr e2, e3⟩
  rw [n_Quarrels_list, ← e1]
  simp (disch := omega) only [s_Quarrels_list_0, s_Quarrels_list_1, s_Quarrels_list_2, s_Quarrels_list_5, s_Quarrels_list_6, s_Quarrels_list_8, s_Quarrels_list_10, s_Quarrels_list_13, s_Quarrels_list_14, s_Quarrels_list_17, s_Quarrels_list_19, s_Quarrels_list_22, s_Quarrels_list_23, s_Quarrels_list_24, s_Quarrels_list_25, s_Quarrels_list_26, s_Quarrels_list_27, s_Quarrels_list_30, s_Quarrels_list_31, s_Quarrels_list_34, s_Quarrels_list_35, s_Quarrels_list_38, s_Quarrels_list_39, s_Quarrels_list_40, s_Quarrels_list_41, s_Quarrels_list_42, s_Quarrels_list_45, s_Quarrels_list_46, s_Quarrels_list_47, s_Quarrels_list_50, s_Quarrels_list_53, s_Quarrels_list_56, y_kd_sI, y_kd_sL, y_kd_sR, y_kd_cpI, y_kd_cpL, y_ln_sI, y_ln_sL, y_ln_sR, y_ln_cpI, y_ln_cpL, y_sz_sI, y_sz_sL, y_sz_sR, y_sz_cpI, y_sz_cpL, y_sl_sI, y_sl_sL, y_sl_sR, y_sl_cpI, y_sl_cpL, y_gI_sL, y_gI_sR, y_gI_cpI, y_gI_cpL, y_gI_nw, y_gL_sI, y_gL_sR, y_gL_cpI, y_gL_cpL, y_gL_nw, y_gR_sI, y_gR_sL, y_gR_cpI, y_gR_cpL, y_gR_nw, y_kd_nw, y_ln_nw, y_sz_nw, y_sl_nw, y_fx_int, y_fx_long, y_fx_ref, y_fx_null, y_fx_U, y_rf_s, y_rf_n, a_inb, a_ix, a_lt, a_eq, a_eq0, a_lt0, a_0lt, a_m1, a_m2, a_mlt, a_sub, a_dec, a_div, a_rem, a_shl, a_shr, a_bit, a_bit0, a_II, a_Ia, a_Ik, a_LL, a_La, a_Lk, a_RR, a_Ra, a_Rk, a_if0, a_if1, y_mul, y_and, y_or, nI_add, y_b1, y_b0, kon_v, kon_0, true_or, or_true, and_self, true_and, and_true, false_or, or_false, and_false, false_and, not_true_eq_false, not_false_eq_true, ite_self, ↓reduceIte, Nat.reduceEqDiff, Nat.reduceLeDiff, Nat.reduceAdd, Nat.reduceMul, Nat.reduceSub, Nat.reduceLT, Nat.reduceShiftLeft, Nat.reduceOr, Nat.reduceAnd, Bool.false_eq_true, b_if, b_z1, b_z0, b_zz, b_a1, b_a0, b_lc, b_zF, b_zT, b_lbit, dc_k o, dc_r0 o, dc_r1 o, dc_r2 o, dc_r3 o, dc_r5 o, dc_r6 o, dc_r7 o, dc_r8 o, dc_r9 o, dc_k1 o, dc_l1 o, dc_k19 o, dc_l19 o, dc_k21 o, dc_l21 o, dc_k22 o, dc_l22 o, dc_k131 o, dc_l131 o, dc_k142 o, dc_l142 o, dc_k143 o, dc_l143 o, dc_k144 o, dc_l144 o, dc_k18 o, dc_r18 o, dc_k20 o, dc_r20_0 o, dc_r20_1 o, dc_k141 o, dc_r141_5 o, dc_r141_6 o, dc_s o, dc_sk o, dc_sr o, dc_ek o, dc_el o]
/-- the reference's -/
theorem m_take {nf nd : Nat} {y : Int32} (o : oMo h m) (hd : mDd h m nd V) (k : kDd nf nd V) : ∃ h' : zMem, mfe m h h' ∧ (∀ k : Nat, 58 ≤ k → gI h' m k = gI h m k) ∧ (((nmL (selV V y) nd).length ≤ 8 ∧ call g Mo_takeDeeds [.ref m, .int y] h = some (some (.int (nI 1)), h') ∧ MS h' m (nmL (selV V y) nd)) ∨ (8 < (nmL (selV V y) nd).length ∧ call g Mo_takeDeeds [.ref m, .int y] h = some (some (.int (nI 0)), h'))) := by
  have n24 := k.1
  have lp : ∀ (k d : Nat) (h : zMem), d + k = nd → oMo h m → mDd h m nd V → MS h m (nmL (selV V y) d) → (nmL (selV V y) d).length ≤ 8 → ∃ h' : zMem, mfe m h h' ∧ (∀ k : Nat, 58 ≤ k → gI h' m k = gI h m k) ∧ (((nmL (selV V y) nd).length ≤ 8 ∧ ev g Mo_takeDeeds 7 [.ref m, .int y, .int (nI d)] [] h = some (some (.int (nI 1)), h') ∧ MS h' m (nmL (selV V y) nd)) ∨ (8 < (nmL (selV V y) nd).length ∧ ev g Mo_takeDeeds 7 [.ref m, .int y, .int (nI d)] [] h = some (some (.int (nI 0)), h'))) := by
    intro k
    induction k with
    | zero =>
      intro d h hk o hd q h8
      have e : d = nd := by omega
      subst e
      have m15 := hd.1
      refine ⟨h, mfe.rf, fun _ _ => rfl, Or.inl ⟨h8, ?_, q⟩⟩
      rw [s_Mo_takeDeeds_7]
      simp (disch := omega) only [s_Mo_takeDeeds_0, s_Mo_takeDeeds_1, s_Mo_takeDeeds_2, s_Mo_takeDeeds_5, s_Mo_takeDeeds_6, s_Mo_takeDeeds_8, s_Mo_takeDeeds_9, s_Mo_takeDeeds_12, s_Mo_takeDeeds_15, s_Mo_takeDeeds_16, s_Mo_takeDeeds_17, s_Mo_takeDeeds_18, s_Mo_takeDeeds_21, s_Mo_takeDeeds_24, s_Mo_takeDeeds_25, s_Mo_takeDeeds_28, s_Mo_takeDeeds_30, s_Mo_takeDeeds_33, s_Mo_takeDeeds_34, s_Mo_takeDeeds_35, s_Mo_takeDeeds_36, s_Mo_takeDeeds_39, s_Mo_takeDeeds_40, s_Mo_takeDeeds_41, s_Mo_takeDeeds_44, s_Mo_takeDeeds_45, s_Mo_takeDeeds_46, s_Mo_takeDeeds_47, s_Mo_takeDeeds_50, s_Mo_takeDeeds_51, s_Mo_takeDeeds_52, s_Mo_takeDeeds_55, s_Mo_takeDeeds_58, s_Mo_takeDeeds_59, y_kd_sI, y_kd_sL, y_kd_sR, y_kd_cpI, y_kd_cpL, y_ln_sI, y_ln_sL, y_ln_sR, y_ln_cpI, y_ln_cpL, y_sz_sI, y_sz_sL, y_sz_sR, y_sz_cpI, y_sz_cpL, y_sl_sI, y_sl_sL, y_sl_sR, y_sl_cpI, y_sl_cpL, y_gI_sL, y_gI_sR, y_gI_cpI, y_gI_cpL, y_gI_nw, y_gL_sI, y_gL_sR, y_gL_cpI, y_gL_cpL, y_gL_nw, y_gR_sI, y_gR_sL, y_gR_cpI, y_gR_cpL, y_gR_nw, y_kd_nw, y_ln_nw, y_sz_nw, y_sl_nw, y_fx_int, y_fx_long, y_fx_ref, y_fx_null, y_fx_U, y_rf_s, y_rf_n, a_inb, a_ix, a_lt, a_eq, a_eq0, a_lt0, a_0lt, a_m1, a_m2, a_mlt, a_sub, a_dec, a_div, a_rem, a_shl, a_shr, a_bit, a_bit0, a_II, a_Ia, a_Ik, a_LL, a_La, a_Lk, a_RR, a_Ra, a_Rk, a_if0, a_if1, y_mul, y_and, y_or, nI_add, y_b1, y_b0, kon_v, kon_0, true_or, or_true, and_self, true_and, and_true, false_or, or_false, and_false, false_and, not_true_eq_false, not_false_eq_true, ite_self, ↓reduceIte, Nat.reduceEqDiff, Nat.reduceLeDiff, Nat.reduceAdd, Nat.reduceMul, Nat.reduceSub, Nat.reduceLT, Nat.reduceShiftLeft, Nat.reduceOr, Nat.reduceAnd, Bool.false_eq_true, b_if, b_z1, b_z0, b_zz, b_a1, b_a0, b_lc, b_zF, b_zT, b_lbit, mo_k o, m15, Nat.lt_irrefl]
    | succ k ih =>
      intro d h hk o hd q h8
      have hlt : (d < nd) = True := eq_true (by omega)
      have m15 := hd.1
      obtain ⟨p, pd, pe, pc⟩ := q_Mo_counts (g := g) (y := y) o hd (show d < nd by omega) n24
      by_cases z : selV V y d
      · rw [bZ_t (pe.2 z)] at pc
        by_cases c8 : (nmL (selV V y) d).length = 8
        · have c8t := eq_true c8
          refine ⟨h, mfe.rf, fun _ _ => rfl, Or.inr ⟨?_, ?_⟩⟩
          · have a := nmL_mono (sel := selV V y) (m := d + 1) (nd - (d + 1))
            rw [show d + 1 + (nd - (d + 1)) = nd by omega, nmL_t z, List.length_append] at a
            have a' : (nmL (selV V y) d).length + 1 ≤ (nmL (selV V y) nd).length := a
            omega
          · rw [s_Mo_takeDeeds_7]
            simp (disch := omega) only [s_Mo_takeDeeds_0, s_Mo_takeDeeds_1, s_Mo_takeDeeds_2, s_Mo_takeDeeds_5, s_Mo_takeDeeds_6, s_Mo_takeDeeds_8, s_Mo_takeDeeds_9, s_Mo_takeDeeds_12, s_Mo_takeDeeds_15, s_Mo_takeDeeds_16, s_Mo_takeDeeds_17, s_Mo_takeDeeds_18, s_Mo_takeDeeds_21, s_Mo_takeDeeds_24, s_Mo_takeDeeds_25, s_Mo_takeDeeds_28, s_Mo_takeDeeds_30, s_Mo_takeDeeds_33, s_Mo_takeDeeds_34, s_Mo_takeDeeds_35, s_Mo_takeDeeds_36, s_Mo_takeDeeds_39, s_Mo_takeDeeds_40, s_Mo_takeDeeds_41, s_Mo_takeDeeds_44, s_Mo_takeDeeds_45, s_Mo_takeDeeds_46, s_Mo_takeDeeds_47, s_Mo_takeDeeds_50, s_Mo_takeDeeds_51, s_Mo_takeDeeds_52, s_Mo_takeDeeds_55, s_Mo_takeDeeds_58, s_Mo_takeDeeds_59, y_kd_sI, y_kd_sL, y_kd_sR, y_kd_cpI, y_kd_cpL, y_ln_sI, y_ln_sL, y_ln_sR, y_ln_cpI, y_ln_cpL, y_sz_sI, y_sz_sL, y_sz_sR, y_sz_cpI, y_sz_cpL, y_sl_sI, y_sl_sL, y_sl_sR, y_sl_cpI, y_sl_cpL, y_gI_sL, y_gI_sR, y_gI_cpI, y_gI_cpL, y_gI_nw, y_gL_sI, y_gL_sR, y_gL_cpI, y_gL_cpL, y_gL_nw, y_gR_sI, y_gR_sL, y_gR_cpI, y_gR_cpL, y_gR_nw, y_kd_nw, y_ln_nw, y_sz_nw, y_sl_nw, y_fx_int, y_fx_long, y_fx_ref, y_fx_null, y_fx_U, y_rf_s, y_rf_n, a_inb, a_ix, a_lt, a_eq, a_eq0, a_lt0, a_0lt, a_m1, a_m2, a_mlt, a_sub, a_dec, a_div, a_rem, a_shl, a_shr, a_bit, a_bit0, a_II, a_Ia, a_Ik, a_LL, a_La, a_Lk, a_RR, a_Ra, a_Rk, a_if0, a_if1, y_mul, y_and, y_or, nI_add, y_b1, y_b0, kon_v, kon_0, true_or, or_true, and_self, true_and, and_true, false_or, or_false, and_false, false_and, not_true_eq_false, not_false_eq_true, ite_self, ↓reduceIte, Nat.reduceEqDiff, Nat.reduceLeDiff, Nat.reduceAdd, Nat.reduceMul, Nat.reduceSub, Nat.reduceLT, Nat.reduceShiftLeft, Nat.reduceOr, Nat.reduceAnd, Bool.false_eq_true, b_if, b_z1, b_z0, b_zz, b_a1, b_a0, b_lc, b_zF, b_zT, b_lbit, mo_k o, m15, hlt, pc, q.1, c8t]
        · have c8t := eq_false c8
          have s1 : mfe m h (sI (sI h m 57 (nI ((nmL (selV V y) d).length + 1))) (m + 86) (nmL (selV V y) d).length (nI d)) := (mfe.S (by omega)).tr (mfe.I (by omega))
          have q' : MS (sI (sI h m 57 (nI ((nmL (selV V y) d).length + 1))) (m + 86) (nmL (selV V y) d).length (nI d)) m (nmL (selV V y) (d + 1)) := by
            rw [nmL_t z]
            refine ⟨by rw [a_Ia (by omega), a_II, List.length_append]; rfl, fun i hi => ?_⟩
            rw [List.length_append] at hi
            have hi' : i < (nmL (selV V y) d).length + 1 := hi
            by_cases w : i < (nmL (selV V y) d).length
            · rw [a_Ik (by omega), a_Ia (by omega), gD_1 w]; exact q.2 i w
            · rw [show i = (nmL (selV V y) d).length by omega, a_II, gD_2]
          have hd' : mDd (sI (sI h m 57 (nI ((nmL (selV V y) d).length + 1))) (m + 86) (nmL (selV V y) d).length (nI d)) m nd V := by
            refine ⟨by rw [a_Ia (by omega), a_Ik (by decide)]; exact hd.1, fun x hx => ?_⟩
            simp (disch := omega) only [a_Ia]
            exact hd.2 x hx
          obtain ⟨h', e1, ef, e2⟩ := ih (d + 1) _ (by omega) (s1.1.mo o) hd' q' (by rw [nmL_t z, List.length_append]; show (nmL (selV V y) d).length + 1 ≤ 8; omega)
          have go : ev g Mo_takeDeeds 7 [.ref m, .int y, .int (nI d)] [] h = ev g Mo_takeDeeds 7 [.ref m, .int y, .int (nI (d + 1))] [] (sI (sI h m 57 (nI ((nmL (selV V y) d).length + 1))) (m + 86) (nmL (selV V y) d).length (nI d)) := by
            rw [s_Mo_takeDeeds_7]
            simp (disch := omega) only [s_Mo_takeDeeds_0, s_Mo_takeDeeds_1, s_Mo_takeDeeds_2, s_Mo_takeDeeds_5, s_Mo_takeDeeds_6, s_Mo_takeDeeds_8, s_Mo_takeDeeds_9, s_Mo_takeDeeds_12, s_Mo_takeDeeds_15, s_Mo_takeDeeds_16, s_Mo_takeDeeds_17, s_Mo_takeDeeds_18, s_Mo_takeDeeds_21, s_Mo_takeDeeds_24, s_Mo_takeDeeds_25, s_Mo_takeDeeds_28, s_Mo_takeDeeds_30, s_Mo_takeDeeds_33, s_Mo_takeDeeds_34, s_Mo_takeDeeds_35, s_Mo_takeDeeds_36, s_Mo_takeDeeds_39, s_Mo_takeDeeds_40, s_Mo_takeDeeds_41, s_Mo_takeDeeds_44, s_Mo_takeDeeds_45, s_Mo_takeDeeds_46, s_Mo_takeDeeds_47, s_Mo_takeDeeds_50, s_Mo_takeDeeds_51, s_Mo_takeDeeds_52, s_Mo_takeDeeds_55, s_Mo_takeDeeds_58, s_Mo_takeDeeds_59, y_kd_sI, y_kd_sL, y_kd_sR, y_kd_cpI, y_kd_cpL, y_ln_sI, y_ln_sL, y_ln_sR, y_ln_cpI, y_ln_cpL, y_sz_sI, y_sz_sL, y_sz_sR, y_sz_cpI, y_sz_cpL, y_sl_sI, y_sl_sL, y_sl_sR, y_sl_cpI, y_sl_cpL, y_gI_sL, y_gI_sR, y_gI_cpI, y_gI_cpL, y_gI_nw, y_gL_sI, y_gL_sR, y_gL_cpI, y_gL_cpL, y_gL_nw, y_gR_sI, y_gR_sL, y_gR_cpI, y_gR_cpL, y_gR_nw, y_kd_nw, y_ln_nw, y_sz_nw, y_sl_nw, y_fx_int, y_fx_long, y_fx_ref, y_fx_null, y_fx_U, y_rf_s, y_rf_n, a_inb, a_ix, a_lt, a_eq, a_eq0, a_lt0, a_0lt, a_m1, a_m2, a_mlt, a_sub, a_dec, a_div, a_rem, a_shl, a_shr, a_bit, a_bit0, a_II, a_Ia, a_Ik, a_LL, a_La, a_Lk, a_RR, a_Ra, a_Rk, a_if0, a_if1, y_mul, y_and, y_or, nI_add, y_b1, y_b0, kon_v, kon_0, true_or, or_true, and_self, true_and, and_true, false_or, or_false, and_false, false_and, not_true_eq_false, not_false_eq_true, ite_self, ↓reduceIte, Nat.reduceEqDiff, Nat.reduceLeDiff, Nat.reduceAdd, Nat.reduceMul, Nat.reduceSub, Nat.reduceLT, Nat.reduceShiftLeft, Nat.reduceOr, Nat.reduceAnd, Bool.false_eq_true, b_if, b_z1, b_z0, b_zz, b_a1, b_a0, b_lc, b_zF, b_zT, b_lbit, mo_k o, mo_r56 o, mo_k56 o, mo_l56 o, m15, hlt, pc, q.1, c8t]
          rw [go]
          exact ⟨h', s1.tr e1, fun k hk => (ef k hk).trans (by rw [a_Ia (by omega), a_Ik (by omega)]), e2⟩
      · rw [bZ_f (fun c => z (pe.1 c))] at pc
        have q' := q
        rw [← nmL_f z] at q'
        obtain ⟨h', e1, ef, e2⟩ := ih (d + 1) h (by omega) o hd q' (by rw [nmL_f z]; exact h8)
        have go : ev g Mo_takeDeeds 7 [.ref m, .int y, .int (nI d)] [] h = ev g Mo_takeDeeds 7 [.ref m, .int y, .int (nI (d + 1))] [] h := by
          rw [s_Mo_takeDeeds_7]
          simp (disch := omega) only [s_Mo_takeDeeds_0, s_Mo_takeDeeds_1, s_Mo_takeDeeds_2, s_Mo_takeDeeds_5, s_Mo_takeDeeds_6, s_Mo_takeDeeds_8, s_Mo_takeDeeds_9, s_Mo_takeDeeds_12, s_Mo_takeDeeds_15, s_Mo_takeDeeds_16, s_Mo_takeDeeds_17, s_Mo_takeDeeds_18, s_Mo_takeDeeds_21, s_Mo_takeDeeds_24, s_Mo_takeDeeds_25, s_Mo_takeDeeds_28, s_Mo_takeDeeds_30, s_Mo_takeDeeds_33, s_Mo_takeDeeds_34, s_Mo_takeDeeds_35, s_Mo_takeDeeds_36, s_Mo_takeDeeds_39, s_Mo_takeDeeds_40, s_Mo_takeDeeds_41, s_Mo_takeDeeds_44, s_Mo_takeDeeds_45, s_Mo_takeDeeds_46, s_Mo_takeDeeds_47, s_Mo_takeDeeds_50, s_Mo_takeDeeds_51, s_Mo_takeDeeds_52, s_Mo_takeDeeds_55, s_Mo_takeDeeds_58, s_Mo_takeDeeds_59, y_kd_sI, y_kd_sL, y_kd_sR, y_kd_cpI, y_kd_cpL, y_ln_sI, y_ln_sL, y_ln_sR, y_ln_cpI, y_ln_cpL, y_sz_sI, y_sz_sL, y_sz_sR, y_sz_cpI, y_sz_cpL, y_sl_sI, y_sl_sL, y_sl_sR, y_sl_cpI, y_sl_cpL, y_gI_sL, y_gI_sR, y_gI_cpI, y_gI_cpL, y_gI_nw, y_gL_sI, y_gL_sR, y_gL_cpI, y_gL_cpL, y_gL_nw, y_gR_sI, y_gR_sL, y_gR_cpI, y_gR_cpL, y_gR_nw, y_kd_nw, y_ln_nw, y_sz_nw, y_sl_nw, y_fx_int, y_fx_long, y_fx_ref, y_fx_null, y_fx_U, y_rf_s, y_rf_n, a_inb, a_ix, a_lt, a_eq, a_eq0, a_lt0, a_0lt, a_m1, a_m2, a_mlt, a_sub, a_dec, a_div, a_rem, a_shl, a_shr, a_bit, a_bit0, a_II, a_Ia, a_Ik, a_LL, a_La, a_Lk, a_RR, a_Ra, a_Rk, a_if0, a_if1, y_mul, y_and, y_or, nI_add, y_b1, y_b0, kon_v, kon_0, true_or, or_true, and_self, true_and, and_true, false_or, or_false, and_false, false_and, not_true_eq_false, not_false_eq_true, ite_self, ↓reduceIte, Nat.reduceEqDiff, Nat.reduceLeDiff, Nat.reduceAdd, Nat.reduceMul, Nat.reduceSub, Nat.reduceLT, Nat.reduceShiftLeft, Nat.reduceOr, Nat.reduceAnd, Bool.false_eq_true, b_if, b_z1, b_z0, b_zz, b_a1, b_a0, b_lc, b_zF, b_zT, b_lbit, mo_k o, m15, hlt, pc]
        rw [go]
        exact ⟨h', e1, ef, e2⟩
  have s0 : mfe m h (sI h m 57 (nI 0)) := mfe.S (by omega)
  have hd' : mDd (sI h m 57 (nI 0)) m nd V := by
    refine ⟨by rw [a_Ik (by decide)]; exact hd.1, fun x hx => ?_⟩
    simp (disch := omega) only [a_Ia]
    exact hd.2 x hx
  obtain ⟨h', e1, ef, e2⟩ := lp nd 0 (sI h m 57 (nI 0)) (by omega) (s0.1.mo o) hd' ⟨a_II, fun i hi => absurd hi (Nat.not_lt_zero i)⟩ (Nat.zero_le _)
  have go : call g Mo_takeDeeds [.ref m, .int y] h = ev g Mo_takeDeeds 7 [.ref m, .int y, .int (nI 0)] [] (sI h m 57 (nI 0)) := by
    rw [n_Mo_takeDeeds]
    simp (disch := omega) only [s_Mo_takeDeeds_0, s_Mo_takeDeeds_1, s_Mo_takeDeeds_2, s_Mo_takeDeeds_5, s_Mo_takeDeeds_6, s_Mo_takeDeeds_8, s_Mo_takeDeeds_9, s_Mo_takeDeeds_12, s_Mo_takeDeeds_15, s_Mo_takeDeeds_16, s_Mo_takeDeeds_17, s_Mo_takeDeeds_18, s_Mo_takeDeeds_21, s_Mo_takeDeeds_24, s_Mo_takeDeeds_25, s_Mo_takeDeeds_28, s_Mo_takeDeeds_30, s_Mo_takeDeeds_33, s_Mo_takeDeeds_34, s_Mo_takeDeeds_35, s_Mo_takeDeeds_36, s_Mo_takeDeeds_39, s_Mo_takeDeeds_40, s_Mo_takeDeeds_41, s_Mo_takeDeeds_44, s_Mo_takeDeeds_45, s_Mo_takeDeeds_46, s_Mo_takeDeeds_47, s_Mo_takeDeeds_50, s_Mo_takeDeeds_51, s_Mo_takeDeeds_52, s_Mo_takeDeeds_55, s_Mo_takeDeeds_58, s_Mo_takeDeeds_59, y_kd_sI, y_kd_sL, y_kd_sR, y_kd_cpI, y_kd_cpL, y_ln_sI, y_ln_sL, y_ln_sR, y_ln_cpI, y_ln_cpL, y_sz_sI, y_sz_sL, y_sz_sR, y_sz_cpI, y_sz_cpL, y_sl_sI, y_sl_sL, y_sl_sR, y_sl_cpI, y_sl_cpL, y_gI_sL, y_gI_sR, y_gI_cpI, y_gI_cpL, y_gI_nw, y_gL_sI, y_gL_sR, y_gL_cpI, y_gL_cpL, y_gL_nw, y_gR_sI, y_gR_sL, y_gR_cpI, y_gR_cpL, y_gR_nw, y_kd_nw, y_ln_nw, y_sz_nw, y_sl_nw, y_fx_int, y_fx_long, y_fx_ref, y_fx_null, y_fx_U, y_rf_s, y_rf_n, a_inb, a_ix, a_lt, a_eq, a_eq0, a_lt0, a_0lt, a_m1, a_m2, a_mlt, a_sub, a_dec, a_div, a_rem, a_shl, a_shr, a_bit, a_bit0, a_II, a_Ia, a_Ik, a_LL, a_La, a_Lk, a_RR, a_Ra, a_Rk, a_if0, a_if1, y_mul, y_and, y_or, nI_add, y_b1, y_b0, kon_v, kon_0, true_or, or_true, and_self, true_and, and_true, false_or, or_false, and_false, false_and, not_true_eq_false, not_false_eq_true, ite_self, ↓reduceIte, Nat.reduceEqDiff, Nat.reduceLeDiff, Nat.reduceAdd, Nat.reduceMul, Nat.reduceSub, Nat.reduceLT, Nat.reduceShiftLeft, Nat.reduceOr, Nat.reduceAnd, Bool.false_eq_true, b_if, b_z1, b_z0, b_zz, b_a1, b_a0, b_lc, b_zF, b_zT, b_lbit, mo_k o]
  rw [go]
  exact ⟨h', s0.tr e1, fun k hk => (ef k hk).trans (a_Ik (by omega)), e2⟩
end ZNM
