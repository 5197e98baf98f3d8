/-! which sets can be -/
def pfP (F : Nat → Nat) (c x : Nat) : Prop := ∃ i : Nat, i < c ∧ ¬ x.testBit i = true ∧ F (x ||| 1 <<< i) = 1
noncomputable def qsO (cv : Nat → Int32) (c x : Nat) (o : Option (Nat → Nat)) : Option (Nat → Nat) := match o with
  | none => none
  | some F => tst (pfP F c x) (some (up F x 1)) (if cv x = -5 then none else some (up F x (if cv x = nI 1 then 1 else 0)))
noncomputable def qs (cv : Nat → Int32) (c : Nat) : Nat → Option (Nat → Nat)
  | 0 => some (fun _ => 0)
  | s + 1 => qsO cv c (2 ^ c - 1 - s) (qs cv c s)
theorem qs_none {cv : Nat → Int32} {c s : Nat} (h : qs cv c s = none) : ∀ k : Nat, qs cv c (s + k) = none
  | 0 => h
  | k + 1 => by
    show qsO cv c _ (qs cv c (s + k)) = none
    rw [qs_none h k]
    rfl
theorem qs_2 {cv : Nat → Int32} {c : Nat} : ∀ (s : Nat) (F : Nat → Nat), qs cv c s = some F → ∀ y : Nat, F y < 2
  | 0, F, h, y => by
    cases h
    show 0 < 2
    decide
  | s + 1, F, h, y => by
    have h' : qsO cv c (2 ^ c - 1 - s) (qs cv c s) = some F := h
    cases e : qs cv c s with
    | none => rw [e] at h'; cases h'
    | some G =>
      rw [e] at h'
      have g2 := qs_2 s G e
      unfold qsO at h'
      dsimp only at h'
      by_cases z : pfP G c (2 ^ c - 1 - s)
      · rw [tst_t z] at h'
        cases h'
        unfold up
        split
        · decide
        · exact g2 y
      · rw [tst_f z] at h'
        split at h'
        · cases h'
        · cases h'
          unfold up
          split
          · split <;> decide
          · exact g2 y
theorem p2_le {c : Nat} (hc : c ≤ 8) : 2 ^ c ≤ 256 := Nat.pow_le_pow_right (by decide) hc
theorem or_bit {x i c : Nat} (hx : x < 2 ^ c) (hi : i < c) (h : ¬ x.testBit i = true) : x < x ||| 1 <<< i ∧ x ||| 1 <<< i < 2 ^ c := by
  have h1 : 1 <<< i < 2 ^ c := by
    rw [Nat.one_shiftLeft]
    exact Nat.pow_lt_pow_right (by decide) hi
  refine ⟨?_, Nat.or_lt_two_pow hx h1⟩
  have a : x ≤ x ||| 1 <<< i := Nat.left_le_or
  have b : ¬ x = x ||| 1 <<< i := fun e => h (by
    rw [e, Nat.testBit_or, one_b.2 rfl, Bool.or_true])
  omega
section ZCN
variable {g : Nat → Nat} {B SL m l : Nat} {h h' : zMem} {H : zH} {T : zT} {Λ K : zL} {κ : Bool} {ρ ρ' : Nat → Int32} {L : List Nat} {F : Nat → Nat}
theorem q_isPart (o : oDC h B) (q : QS h B L) (hL : lOK L 24) {x : Nat} (hx : x < 2 ^ L.length) (hF : ∀ y : Nat, x < y → y < 2 ^ L.length → gI h (B + 143) y = nI (F y) ∧ F y < 2) : (pfP F L.length x → call g Quarrels_isPartOfFine [.ref (B + 141), .int (nI x)] h = some (some (.int (nI 1)), h)) ∧ (¬ pfP F L.length x → call g Quarrels_isPartOfFine [.ref (B + 141), .int (nI x)] h = some (some (.int (nI 0)), h)) := by
  have l8 := hL.1
  have p8 := p2_le l8
  have q1 := q.1
  have f := l_find (g := g) (M := Quarrels_isPartOfFine) (pc := 2) (st := []) (h := h) (n := L.length) (fun i => [.ref (B + 141), .int (nI x), .int (nI i)]) (fun i => ¬ x.testBit i = true ∧ F (x ||| 1 <<< i) = 1) (fun _ => some (some (.int (nI 1)), h)) (some (some (.int (nI 0)), h)) (fun i hi hc => by
    have hlt : (i < L.length) = True := eq_true hi
    have zt : (x.testBit i = true) = False := eq_false hc.1
    obtain ⟨b1, b2⟩ := or_bit hx hi hc.1
    obtain ⟨v, -⟩ := hF _ b1 b2
    rw [hc.2] at v
    rw [s_Quarrels_isPartOfFine_2]
    simp (disch := omega) only [s_Quarrels_isPartOfFine_0, s_Quarrels_isPartOfFine_1, s_Quarrels_isPartOfFine_3, s_Quarrels_isPartOfFine_4, s_Quarrels_isPartOfFine_7, s_Quarrels_isPartOfFine_10, s_Quarrels_isPartOfFine_11, s_Quarrels_isPartOfFine_12, s_Quarrels_isPartOfFine_13, s_Quarrels_isPartOfFine_14, s_Quarrels_isPartOfFine_15, s_Quarrels_isPartOfFine_18, s_Quarrels_isPartOfFine_19, s_Quarrels_isPartOfFine_22, s_Quarrels_isPartOfFine_23, s_Quarrels_isPartOfFine_24, s_Quarrels_isPartOfFine_25, s_Quarrels_isPartOfFine_26, s_Quarrels_isPartOfFine_27, s_Quarrels_isPartOfFine_28, s_Quarrels_isPartOfFine_31, s_Quarrels_isPartOfFine_32, s_Quarrels_isPartOfFine_33, s_Quarrels_isPartOfFine_36, s_Quarrels_isPartOfFine_39, s_Quarrels_isPartOfFine_40, y_kd_sI, y_kd_sL, y_kd_sR, y_kd_cpI, y_kd_cpL, y_ln_sI, y_ln_sL, y_ln_sR, y_ln_cpI, y_ln_cpL, y_sz_sI, y_sz_sL, y_sz_sR, y_sz_cpI, y_sz_cpL, y_sl_sI, y_sl_sL, y_sl_sR, y_sl_cpI, y_sl_cpL, y_gI_sL, y_gI_sR, y_gI_cpI, y_gI_cpL, y_gI_nw, y_gL_sI, y_gL_sR, y_gL_cpI, y_gL_cpL, y_gL_nw, y_gR_sI, y_gR_sL, y_gR_cpI, y_gR_cpL, y_gR_nw, y_kd_nw, y_ln_nw, y_sz_nw, y_sl_nw, y_fx_int, y_fx_long, y_fx_ref, y_fx_null, y_fx_U, y_rf_s, y_rf_n, a_inb, a_ix, a_lt, a_eq, a_eq0, a_lt0, a_0lt, a_m1, a_m2, a_mlt, a_sub, a_dec, a_div, a_rem, a_shl, a_shr, a_bit, a_bit0, a_II, a_Ia, a_Ik, a_LL, a_La, a_Lk, a_RR, a_Ra, a_Rk, a_if0, a_if1, y_mul, y_and, y_or, nI_add, y_b1, y_b0, kon_v, kon_0, true_or, or_true, and_self, true_and, and_true, false_or, or_false, and_false, false_and, not_true_eq_false, not_false_eq_true, ite_self, ↓reduceIte, Nat.reduceEqDiff, Nat.reduceLeDiff, Nat.reduceAdd, Nat.reduceMul, Nat.reduceSub, Nat.reduceLT, Nat.reduceShiftLeft, Nat.reduceOr, Nat.reduceAnd, Bool.false_eq_true, b_if, b_z1, b_z0, b_zz, b_a1, b_a0, b_lc, b_zF, b_zT, b_lbit, dc_k o, dc_r0 o, dc_r1 o, dc_r2 o, dc_r3 o, dc_r5 o, dc_r6 o, dc_r7 o, dc_r8 o, dc_r9 o, dc_k1 o, dc_l1 o, dc_k19 o, dc_l19 o, dc_k21 o, dc_l21 o, dc_k22 o, dc_l22 o, dc_k131 o, dc_l131 o, dc_k142 o, dc_l142 o, dc_k143 o, dc_l143 o, dc_k144 o, dc_l144 o, dc_k18 o, dc_r18 o, dc_k20 o, dc_r20_0 o, dc_r20_1 o, dc_k141 o, dc_r141_5 o, dc_r141_6 o, dc_s o, dc_sk o, dc_sr o, dc_ek o, dc_el o, q1, hlt, zt, v]) (fun i hi hc => by
    have hlt : (i < L.length) = True := eq_true hi
    show ev g Quarrels_isPartOfFine 2 [.ref (B + 141), .int (nI x), .int (nI i)] [] h = ev g Quarrels_isPartOfFine 2 [.ref (B + 141), .int (nI x), .int (nI (i + 1))] [] h
    rw [s_Quarrels_isPartOfFine_2]
    by_cases z : x.testBit i = true
    · have zt : (x.testBit i = true) = True := eq_true z
      simp (disch := omega) only [s_Quarrels_isPartOfFine_0, s_Quarrels_isPartOfFine_1, s_Quarrels_isPartOfFine_3, s_Quarrels_isPartOfFine_4, s_Quarrels_isPartOfFine_7, s_Quarrels_isPartOfFine_10, s_Quarrels_isPartOfFine_11, s_Quarrels_isPartOfFine_12, s_Quarrels_isPartOfFine_13, s_Quarrels_isPartOfFine_14, s_Quarrels_isPartOfFine_15, s_Quarrels_isPartOfFine_18, s_Quarrels_isPartOfFine_19, s_Quarrels_isPartOfFine_22, s_Quarrels_isPartOfFine_23, s_Quarrels_isPartOfFine_24, s_Quarrels_isPartOfFine_25, s_Quarrels_isPartOfFine_26, s_Quarrels_isPartOfFine_27, s_Quarrels_isPartOfFine_28, s_Quarrels_isPartOfFine_31, s_Quarrels_isPartOfFine_32, s_Quarrels_isPartOfFine_33, s_Quarrels_isPartOfFine_36, s_Quarrels_isPartOfFine_39, s_Quarrels_isPartOfFine_40, y_kd_sI, y_kd_sL, y_kd_sR, y_kd_cpI, y_kd_cpL, y_ln_sI, y_ln_sL, y_ln_sR, y_ln_cpI, y_ln_cpL, y_sz_sI, y_sz_sL, y_sz_sR, y_sz_cpI, y_sz_cpL, y_sl_sI, y_sl_sL, y_sl_sR, y_sl_cpI, y_sl_cpL, y_gI_sL, y_gI_sR, y_gI_cpI, y_gI_cpL, y_gI_nw, y_gL_sI, y_gL_sR, y_gL_cpI, y_gL_cpL, y_gL_nw, y_gR_sI, y_gR_sL, y_gR_cpI, y_gR_cpL, y_gR_nw, y_kd_nw, y_ln_nw, y_sz_nw, y_sl_nw, y_fx_int, y_fx_long, y_fx_ref, y_fx_null, y_fx_U, y_rf_s, y_rf_n, a_inb, a_ix, a_lt, a_eq, a_eq0, a_lt0, a_0lt, a_m1, a_m2, a_mlt, a_sub, a_dec, a_div, a_rem, a_shl, a_shr, a_bit, a_bit0, a_II, a_Ia, a_Ik, a_LL, a_La, a_Lk, a_RR, a_Ra, a_Rk, a_if0, a_if1, y_mul, y_and, y_or, nI_add, y_b1, y_b0, kon_v, kon_0, true_or, or_true, and_self, true_and, and_true, false_or, or_false, and_false, false_and, not_true_eq_false, not_false_eq_true, ite_self, ↓reduceIte, Nat.reduceEqDiff, Nat.reduceLeDiff, Nat.reduceAdd, Nat.reduceMul, Nat.reduceSub, Nat.reduceLT, Nat.reduceShiftLeft, Nat.reduceOr, Nat.reduceAnd, Bool.false_eq_true, b_if, b_z1, b_z0, b_zz, b_a1, b_a0, b_lc, b_zF, b_zT, b_lbit, dc_k o, dc_r0 o, dc_r1 o, dc_r2 o, dc_r3 o, dc_r5 o, dc_r6 o, dc_r7 o, dc_r8 o, dc_r9 o, dc_k1 o, dc_l1 o, dc_k19 o, dc_l19 o, dc_k21 o, dc_l21 o, dc_k22 o, dc_l22 o, dc_k131 o, dc_l131 o, dc_k142 o, dc_l142 o, dc_k143 o, dc_l143 o, dc_k144 o, dc_l144 o, dc_k18 o, dc_r18 o, dc_k20 o, dc_r20_0 o, dc_r20_1 o, dc_k141 o, dc_r141_5 o, dc_r141_6 o, dc_s o, dc_sk o, dc_sr o, dc_ek o, dc_el o, q1, hlt, zt]
    · have zt : (x.testBit i = true) = False := eq_false z
      obtain ⟨b1, b2⟩ := or_bit hx hi z
      obtain ⟨v, v2⟩ := hF _ b1 b2
      have v0 : F (x ||| 1 <<< i) = 0 := by
        have : ¬ F (x ||| 1 <<< i) = 1 := fun e => hc ⟨z, e⟩
        omega
      rw [v0] at v
      simp (disch := omega) only [s_Quarrels_isPartOfFine_0, s_Quarrels_isPartOfFine_1, s_Quarrels_isPartOfFine_3, s_Quarrels_isPartOfFine_4, s_Quarrels_isPartOfFine_7, s_Quarrels_isPartOfFine_10, s_Quarrels_isPartOfFine_11, s_Quarrels_isPartOfFine_12, s_Quarrels_isPartOfFine_13, s_Quarrels_isPartOfFine_14, s_Quarrels_isPartOfFine_15, s_Quarrels_isPartOfFine_18, s_Quarrels_isPartOfFine_19, s_Quarrels_isPartOfFine_22, s_Quarrels_isPartOfFine_23, s_Quarrels_isPartOfFine_24, s_Quarrels_isPartOfFine_25, s_Quarrels_isPartOfFine_26, s_Quarrels_isPartOfFine_27, s_Quarrels_isPartOfFine_28, s_Quarrels_isPartOfFine_31, s_Quarrels_isPartOfFine_32, s_Quarrels_isPartOfFine_33, s_Quarrels_isPartOfFine_36, s_Quarrels_isPartOfFine_39, s_Quarrels_isPartOfFine_40, y_kd_sI, y_kd_sL, y_kd_sR, y_kd_cpI, y_kd_cpL, y_ln_sI, y_ln_sL, y_ln_sR, y_ln_cpI, y_ln_cpL, y_sz_sI, y_sz_sL, y_sz_sR, y_sz_cpI, y_sz_cpL, y_sl_sI, y_sl_sL, y_sl_sR, y_sl_cpI, y_sl_cpL, y_gI_sL, y_gI_sR, y_gI_cpI, y_gI_cpL, y_gI_nw, y_gL_sI, y_gL_sR, y_gL_cpI, y_gL_cpL, y_gL_nw, y_gR_sI, y_gR_sL, y_gR_cpI, y_gR_cpL, y_gR_nw, y_kd_nw, y_ln_nw, y_sz_nw, y_sl_nw, y_fx_int, y_fx_long, y_fx_ref, y_fx_null, y_fx_U, y_rf_s, y_rf_n, a_inb, a_ix, a_lt, a_eq, a_eq0, a_lt0, a_0lt, a_m1, a_m2, a_mlt, a_sub, a_dec, a_div, a_rem, a_shl, a_shr, a_bit, a_bit0, a_II, a_Ia, a_Ik, a_LL, a_La, a_Lk, a_RR, a_Ra, a_Rk, a_if0, a_if1, y_mul, y_and, y_or, nI_add, y_b1, y_b0, kon_v, kon_0, true_or, or_true, and_self, true_and, and_true, false_or, or_false, and_false, false_and, not_true_eq_false, not_false_eq_true, ite_self, ↓reduceIte, Nat.reduceEqDiff, Nat.reduceLeDiff, Nat.reduceAdd, Nat.reduceMul, Nat.reduceSub, Nat.reduceLT, Nat.reduceShiftLeft, Nat.reduceOr, Nat.reduceAnd, Bool.false_eq_true, b_if, b_z1, b_z0, b_zz, b_a1, b_a0, b_lc, b_zF, b_zT, b_lbit, dc_k o, dc_r0 o, dc_r1 o, dc_r2 o, dc_r3 o, dc_r5 o, dc_r6 o, dc_r7 o, dc_r8 o, dc_r9 o, dc_k1 o, dc_l1 o, dc_k19 o, dc_l19 o, dc_k21 o, dc_l21 o, dc_k22 o, dc_l22 o, dc_k131 o, dc_l131 o, dc_k142 o, dc_l142 o, dc_k143 o, dc_l143 o, dc_k144 o, dc_l144 o, dc_k18 o, dc_r18 o, dc_k20 o, dc_r20_0 o, dc_r20_1 o, dc_k141 o, dc_r141_5 o, dc_r141_6 o, dc_s o, dc_sk o, dc_sr o, dc_ek o, dc_el o, q1, hlt, zt, v]) (by
    simp (disch := omega) only [s_Quarrels_isPartOfFine_0, s_Quarrels_isPartOfFine_1, s_Quarrels_isPartOfFine_2, s_Quarrels_isPartOfFine_3, s_Quarrels_isPartOfFine_4, s_Quarrels_isPartOfFine_7, s_Quarrels_isPartOfFine_10, s_Quarrels_isPartOfFine_11, s_Quarrels_isPartOfFine_12, s_Quarrels_isPartOfFine_13, s_Quarrels_isPartOfFine_14, s_Quarrels_isPartOfFine_15, s_Quarrels_isPartOfFine_18, s_Quarrels_isPartOfFine_19, s_Quarrels_isPartOfFine_22, s_Quarrels_isPartOfFine_23, s_Quarrels_isPartOfFine_24, s_Quarrels_isPartOfFine_25, s_Quarrels_isPartOfFine_26, s_Quarrels_isPartOfFine_27, s_Quarrels_isPartOfFine_28, s_Quarrels_isPartOfFine_31, s_Quarrels_isPartOfFine_32, s_Quarrels_isPartOfFine_33, s_Quarrels_isPartOfFine_36, s_Quarrels_isPartOfFine_39, s_Quarrels_isPartOfFine_40, y_kd_sI, y_kd_sL, y_kd_sR, y_kd_cpI, y_kd_cpL, y_ln_sI, y_ln_sL, y_ln_sR, y_ln_cpI, y_ln_cpL, y_sz_sI, y_sz_sL, y_sz_sR, y_sz_cpI, y_sz_cpL, y_sl_sI, y_sl_sL, y_sl_sR, y_sl_cpI, y_sl_cpL, y_gI_sL, y_gI_sR, y_gI_cpI, y_gI_cpL, y_gI_nw, y_gL_sI, y_gL_sR, y_gL_cpI, y_gL_cpL, y_gL_nw, y_gR_sI, y_gR_sL, y_gR_cpI, y_gR_cpL, y_gR_nw, y_kd_nw, y_ln_nw, y_sz_nw, y_sl_nw, y_fx_int, y_fx_long, y_fx_ref, y_fx_null, y_fx_U, y_rf_s, y_rf_n, a_inb, a_ix, a_lt, a_eq, a_eq0, a_lt0, a_0lt, a_m1, a_m2, a_mlt, a_sub, a_dec, a_div, a_rem, a_shl, a_shr, a_bit, a_bit0, a_II, a_Ia, a_Ik, a_LL, a_La, a_Lk, a_RR, a_Ra, a_Rk, a_if0, a_if1, y_mul, y_and, y_or, nI_add, y_b1, y_b0, kon_v, kon_0, true_or, or_true, and_self, true_and, and_true, false_or, or_false, and_false, false_and, not_true_eq_false, not_false_eq_true, ite_self, ↓reduceIte, Nat.reduceEqDiff, Nat.reduceLeDiff, Nat.reduceAdd, Nat.reduceMul, Nat.reduceSub, Nat.reduceLT, Nat.reduceShiftLeft, Nat.reduceOr, Nat.reduceAnd, Bool.false_eq_true, b_if, b_z1, b_z0, b_zz, b_a1, b_a0, b_lc, b_zF, b_zT, b_lbit, dc_k o, dc_r0 o, dc_r1 o, dc_r2 o, dc_r3 o, dc_r5 o, dc_r6 o, dc_r7 o, dc_r8 o, dc_r9 o, dc_k1 o, dc_l1 o, dc_k19 o, dc_l19 o, dc_k21 o, dc_l21 o, dc_k22 o, dc_l22 o, dc_k131 o, dc_l131 o, dc_k142 o, dc_l142 o, dc_k143 o, dc_l143 o, dc_k144 o, dc_l144 o, dc_k18 o, dc_r18 o, dc_k20 o, dc_r20_0 o, dc_r20_1 o, dc_k141 o, dc_r141_5 o, dc_r141_6 o, dc_s o, dc_sk o, dc_sr o, dc_ek o, dc_el o, q1, Nat.lt_irrefl]) L.length 0 (by omega)
  rw [n_Quarrels_isPartOfFine, s_Quarrels_isPartOfFine_0, s_Quarrels_isPartOfFine_1]
  rcases f with ⟨i, -, i1, ⟨i2, i3⟩, -, e⟩ | ⟨no, e⟩
  · exact ⟨fun _ => e, fun z => absurd ⟨i, i1, i2, i3⟩ z⟩
  · exact ⟨fun ⟨i, i1, i2, i3⟩ => absurd ⟨i2, i3⟩ (no i (Nat.zero_le _) i1), fun _ => e⟩
/-- the class's loop over the sets -/
theorem JP.cqs {y : Int32} (hL : lOK L 24) : ∀ (k s : Nat) (h : zMem) (F : Nat → Nat) (v : Value) (am : Int32), s + k = 2 ^ L.length → qs (fun x => canV (zV Λ) (zF Λ) (zD Λ) y (fun d => (dsO L x).testBit d = true)) L.length s = some F → JP g B SL h H T Λ K κ ρ ρ' → QS h B L → (∀ z : Nat, k ≤ z → z < 2 ^ L.length → gI h (B + 143) z = nI (F z)) →
    (qs (fun x => canV (zV Λ) (zF Λ) (zD Λ) y (fun d => (dsO L x).testBit d = true)) L.length (2 ^ L.length) = none ∧ ∃ h' : zMem, ev g Quarrels_examine 35 [.ref (B + 141), .ref (B + 23), .ref (B + 132), .int y, .int am, .int (dek k), v] [] h = some (some (.int (nI 0)), h') ∧ JP g B SL h' H T Λ K κ ρ ρ') ∨ (∃ F' : Nat → Nat, qs (fun x => canV (zV Λ) (zF Λ) (zD Λ) y (fun d => (dsO L x).testBit d = true)) L.length (2 ^ L.length) = some F' ∧ ∃ (h' : zMem) (v' : Value), ev g Quarrels_examine 35 [.ref (B + 141), .ref (B + 23), .ref (B + 132), .int y, .int am, .int (dek k), v] [] h = ev g Quarrels_examine 110 [.ref (B + 141), .ref (B + 23), .ref (B + 132), .int y, .int am, .int (dek 0), v'] [] h' ∧ JP g B SL h' H T Λ K κ ρ ρ' ∧ QS h' B L ∧ ∀ z : Nat, z < 2 ^ L.length → gI h' (B + 143) z = nI (F' z)) := by
  have p8 := p2_le hL.1
  intro k
  induction k with
  | zero =>
    intro s h F v am hk hq j q hF
    have e : s = 2 ^ L.length := by omega
    rw [← e]
    refine Or.inr ⟨F, hq, h, v, ?_, j, q, fun z hz => hF z (Nat.zero_le _) (by rw [← e]; exact hz)⟩
    have m1 : ((-1 : Int32) < 0) = True := eq_true (by decide)
    rw [s_Quarrels_examine_35, dek_0]
    simp (disch := omega) only [s_Quarrels_examine_0, s_Quarrels_examine_1, s_Quarrels_examine_2, s_Quarrels_examine_5, s_Quarrels_examine_7, s_Quarrels_examine_9, s_Quarrels_examine_12, s_Quarrels_examine_14, s_Quarrels_examine_17, s_Quarrels_examine_18, s_Quarrels_examine_19, s_Quarrels_examine_20, s_Quarrels_examine_22, s_Quarrels_examine_25, s_Quarrels_examine_26, s_Quarrels_examine_27, s_Quarrels_examine_30, s_Quarrels_examine_31, s_Quarrels_examine_32, s_Quarrels_examine_33, s_Quarrels_examine_37, s_Quarrels_examine_40, s_Quarrels_examine_41, s_Quarrels_examine_44, s_Quarrels_examine_46, s_Quarrels_examine_47, s_Quarrels_examine_49, s_Quarrels_examine_52, s_Quarrels_examine_53, s_Quarrels_examine_54, s_Quarrels_examine_57, s_Quarrels_examine_59, s_Quarrels_examine_60, s_Quarrels_examine_63, s_Quarrels_examine_64, s_Quarrels_examine_65, s_Quarrels_examine_66, s_Quarrels_examine_67, s_Quarrels_examine_69, s_Quarrels_examine_72, s_Quarrels_examine_75, s_Quarrels_examine_77, s_Quarrels_examine_79, s_Quarrels_examine_81, s_Quarrels_examine_84, s_Quarrels_examine_85, s_Quarrels_examine_86, s_Quarrels_examine_87, s_Quarrels_examine_90, s_Quarrels_examine_92, s_Quarrels_examine_94, s_Quarrels_examine_95, s_Quarrels_examine_98, s_Quarrels_examine_99, s_Quarrels_examine_102, s_Quarrels_examine_103, s_Quarrels_examine_104, s_Quarrels_examine_107, s_Quarrels_examine_111, s_Quarrels_examine_114, s_Quarrels_examine_115, s_Quarrels_examine_116, s_Quarrels_examine_119, s_Quarrels_examine_120, y_kd_sI, y_kd_sL, y_kd_sR, y_kd_cpI, y_kd_cpL, y_ln_sI, y_ln_sL, y_ln_sR, y_ln_cpI, y_ln_cpL, y_sz_sI, y_sz_sL, y_sz_sR, y_sz_cpI, y_sz_cpL, y_sl_sI, y_sl_sL, y_sl_sR, y_sl_cpI, y_sl_cpL, y_gI_sL, y_gI_sR, y_gI_cpI, y_gI_cpL, y_gI_nw, y_gL_sI, y_gL_sR, y_gL_cpI, y_gL_cpL, y_gL_nw, y_gR_sI, y_gR_sL, y_gR_cpI, y_gR_cpL, y_gR_nw, y_kd_nw, y_ln_nw, y_sz_nw, y_sl_nw, y_fx_int, y_fx_long, y_fx_ref, y_fx_null, y_fx_U, y_rf_s, y_rf_n, a_inb, a_ix, a_lt, a_eq, a_eq0, a_lt0, a_0lt, a_m1, a_m2, a_mlt, a_sub, a_dec, a_div, a_rem, a_shl, a_shr, a_bit, a_bit0, a_II, a_Ia, a_Ik, a_LL, a_La, a_Lk, a_RR, a_Ra, a_Rk, a_if0, a_if1, y_mul, y_and, y_or, nI_add, y_b1, y_b0, kon_v, kon_0, true_or, or_true, and_self, true_and, and_true, false_or, or_false, and_false, false_and, not_true_eq_false, not_false_eq_true, ite_self, ↓reduceIte, Nat.reduceEqDiff, Nat.reduceLeDiff, Nat.reduceAdd, Nat.reduceMul, Nat.reduceSub, Nat.reduceLT, Nat.reduceShiftLeft, Nat.reduceOr, Nat.reduceAnd, Bool.false_eq_true, b_if, b_z1, b_z0, b_zz, b_a1, b_a0, b_lc, b_zF, b_zT, b_lbit, m1]
  | succ k ih =>
    intro s h F v am hk hq j q hF
    have ek : 2 ^ L.length - 1 - s = k := by omega
    have kN : k < 2 ^ L.length := by omega
    have F2 := qs_2 s F hq
    obtain ⟨i1, i2⟩ := q_isPart (g := g) j.dc q hL kN (fun y h1 h2 => ⟨hF y (by omega) h2, F2 y⟩)
    have kd : dek (k + 1) = nI k := dek_s
    have dd := dek_d (show k < 1000 by omega)
    have e11 : nI 1 &&& 1 = nI 1 := by decide
    have e01 : nI 0 &&& 1 = nI 0 := by decide
    by_cases z : pfP F L.length k
    · have c1 := i1 z
      have s1 : sam (B + 143) (B + 143) h (sI h (B + 143) k (nI 1)) := sam.I (by omega)
      have j1 := j.cs s1 (by omega) (by omega)
      have hq' : qs (fun x => canV (zV Λ) (zF Λ) (zD Λ) y (fun d => (dsO L x).testBit d = true)) L.length (s + 1) = some (up F k 1) := by
        show qsO _ _ _ (qs _ _ s) = _
        rw [hq, ek]
        exact tst_t z
      have go : ev g Quarrels_examine 35 [.ref (B + 141), .ref (B + 23), .ref (B + 132), .int y, .int am, .int (dek (k + 1)), v] [] h = ev g Quarrels_examine 35 [.ref (B + 141), .ref (B + 23), .ref (B + 132), .int y, .int am, .int (dek k), v] [] (sI h (B + 143) k (nI 1)) := by
        rw [s_Quarrels_examine_35, kd]
        simp (disch := omega) only [s_Quarrels_examine_0, s_Quarrels_examine_1, s_Quarrels_examine_2, s_Quarrels_examine_5, s_Quarrels_examine_7, s_Quarrels_examine_9, s_Quarrels_examine_12, s_Quarrels_examine_14, s_Quarrels_examine_17, s_Quarrels_examine_18, s_Quarrels_examine_19, s_Quarrels_examine_20, s_Quarrels_examine_22, s_Quarrels_examine_25, s_Quarrels_examine_26, s_Quarrels_examine_27, s_Quarrels_examine_30, s_Quarrels_examine_31, s_Quarrels_examine_32, s_Quarrels_examine_33, s_Quarrels_examine_37, s_Quarrels_examine_40, s_Quarrels_examine_41, s_Quarrels_examine_44, s_Quarrels_examine_46, s_Quarrels_examine_47, s_Quarrels_examine_49, s_Quarrels_examine_52, s_Quarrels_examine_53, s_Quarrels_examine_54, s_Quarrels_examine_57, s_Quarrels_examine_59, s_Quarrels_examine_60, s_Quarrels_examine_63, s_Quarrels_examine_64, s_Quarrels_examine_65, s_Quarrels_examine_66, s_Quarrels_examine_67, s_Quarrels_examine_69, s_Quarrels_examine_72, s_Quarrels_examine_75, s_Quarrels_examine_77, s_Quarrels_examine_79, s_Quarrels_examine_81, s_Quarrels_examine_84, s_Quarrels_examine_85, s_Quarrels_examine_86, s_Quarrels_examine_87, s_Quarrels_examine_90, s_Quarrels_examine_92, s_Quarrels_examine_94, s_Quarrels_examine_95, s_Quarrels_examine_98, s_Quarrels_examine_99, s_Quarrels_examine_102, s_Quarrels_examine_103, s_Quarrels_examine_104, s_Quarrels_examine_107, s_Quarrels_examine_111, s_Quarrels_examine_114, s_Quarrels_examine_115, s_Quarrels_examine_116, s_Quarrels_examine_119, s_Quarrels_examine_120, y_kd_sI, y_kd_sL, y_kd_sR, y_kd_cpI, y_kd_cpL, y_ln_sI, y_ln_sL, y_ln_sR, y_ln_cpI, y_ln_cpL, y_sz_sI, y_sz_sL, y_sz_sR, y_sz_cpI, y_sz_cpL, y_sl_sI, y_sl_sL, y_sl_sR, y_sl_cpI, y_sl_cpL, y_gI_sL, y_gI_sR, y_gI_cpI, y_gI_cpL, y_gI_nw, y_gL_sI, y_gL_sR, y_gL_cpI, y_gL_cpL, y_gL_nw, y_gR_sI, y_gR_sL, y_gR_cpI, y_gR_cpL, y_gR_nw, y_kd_nw, y_ln_nw, y_sz_nw, y_sl_nw, y_fx_int, y_fx_long, y_fx_ref, y_fx_null, y_fx_U, y_rf_s, y_rf_n, a_inb, a_ix, a_lt, a_eq, a_eq0, a_lt0, a_0lt, a_m1, a_m2, a_mlt, a_sub, a_dec, a_div, a_rem, a_shl, a_shr, a_bit, a_bit0, a_II, a_Ia, a_Ik, a_LL, a_La, a_Lk, a_RR, a_Ra, a_Rk, a_if0, a_if1, y_mul, y_and, y_or, nI_add, y_b1, y_b0, kon_v, kon_0, true_or, or_true, and_self, true_and, and_true, false_or, or_false, and_false, false_and, not_true_eq_false, not_false_eq_true, ite_self, ↓reduceIte, Nat.reduceEqDiff, Nat.reduceLeDiff, Nat.reduceAdd, Nat.reduceMul, Nat.reduceSub, Nat.reduceLT, Nat.reduceShiftLeft, Nat.reduceOr, Nat.reduceAnd, Bool.false_eq_true, b_if, b_z1, b_z0, b_zz, b_a1, b_a0, b_lc, b_zF, b_zT, b_lbit, dc_k j.dc, dc_r0 j.dc, dc_r1 j.dc, dc_r2 j.dc, dc_r3 j.dc, dc_r5 j.dc, dc_r6 j.dc, dc_r7 j.dc, dc_r8 j.dc, dc_r9 j.dc, dc_k1 j.dc, dc_l1 j.dc, dc_k19 j.dc, dc_l19 j.dc, dc_k21 j.dc, dc_l21 j.dc, dc_k22 j.dc, dc_l22 j.dc, dc_k131 j.dc, dc_l131 j.dc, dc_k142 j.dc, dc_l142 j.dc, dc_k143 j.dc, dc_l143 j.dc, dc_k144 j.dc, dc_l144 j.dc, dc_k18 j.dc, dc_r18 j.dc, dc_k20 j.dc, dc_r20_0 j.dc, dc_r20_1 j.dc, dc_k141 j.dc, dc_r141_5 j.dc, dc_r141_6 j.dc, dc_s j.dc, dc_sk j.dc, dc_sr j.dc, dc_ek j.dc, dc_el j.dc, c1, e11]
        rw [dd]
      rw [go]
      exact ih (s + 1) _ (up F k 1) v am (by omega) hq' j1 (QS_fr (s1.out (by omega)) q) (fun x h1 h2 => by
        by_cases w : x = k
        · rw [w, a_II, up_s]
        · rw [a_Ik w, up_n w]; exact hF x (by omega) h2)
    · have c1 := i2 z
      have s1 : sam (B + 143) (B + 143) h (sI h (B + 143) k (nI 0)) := sam.I (by omega)
      have j1 := j.cs s1 (by omega) (by omega)
      have qq1 := QS_fr (h' := sI h (B + 143) k (nI 0)) (s1.out (by omega)) q
      have cd := q_deedsOf (g := g) j1.dc qq1 hL (show k < 256 by omega)
      obtain ⟨h2, c2, s2, j2⟩ := j1.ccan (y := y) (am := dsO L k) (by have := dsO_lt (x := k) hL (Nat.le_refl _); omega)
      have l1 := la_k j1.la
      have go1 : ev g Quarrels_examine 35 [.ref (B + 141), .ref (B + 23), .ref (B + 132), .int y, .int am, .int (dek (k + 1)), v] [] h = ev g Quarrels_examine 77 [.ref (B + 141), .ref (B + 23), .ref (B + 132), .int y, .int am, .int (nI k), .int (canV (zV Λ) (zF Λ) (zD Λ) y (fun d => (dsO L k).testBit d = true))] [] h2 := by
        rw [s_Quarrels_examine_35, kd]
        simp (disch := omega) only [s_Quarrels_examine_0, s_Quarrels_examine_1, s_Quarrels_examine_2, s_Quarrels_examine_5, s_Quarrels_examine_7, s_Quarrels_examine_9, s_Quarrels_examine_12, s_Quarrels_examine_14, s_Quarrels_examine_17, s_Quarrels_examine_18, s_Quarrels_examine_19, s_Quarrels_examine_20, s_Quarrels_examine_22, s_Quarrels_examine_25, s_Quarrels_examine_26, s_Quarrels_examine_27, s_Quarrels_examine_30, s_Quarrels_examine_31, s_Quarrels_examine_32, s_Quarrels_examine_33, s_Quarrels_examine_37, s_Quarrels_examine_40, s_Quarrels_examine_41, s_Quarrels_examine_44, s_Quarrels_examine_46, s_Quarrels_examine_47, s_Quarrels_examine_49, s_Quarrels_examine_52, s_Quarrels_examine_53, s_Quarrels_examine_54, s_Quarrels_examine_57, s_Quarrels_examine_59, s_Quarrels_examine_60, s_Quarrels_examine_63, s_Quarrels_examine_64, s_Quarrels_examine_65, s_Quarrels_examine_66, s_Quarrels_examine_67, s_Quarrels_examine_69, s_Quarrels_examine_72, s_Quarrels_examine_75, s_Quarrels_examine_79, s_Quarrels_examine_81, s_Quarrels_examine_84, s_Quarrels_examine_85, s_Quarrels_examine_86, s_Quarrels_examine_87, s_Quarrels_examine_90, s_Quarrels_examine_92, s_Quarrels_examine_94, s_Quarrels_examine_95, s_Quarrels_examine_98, s_Quarrels_examine_99, s_Quarrels_examine_102, s_Quarrels_examine_103, s_Quarrels_examine_104, s_Quarrels_examine_107, s_Quarrels_examine_111, s_Quarrels_examine_114, s_Quarrels_examine_115, s_Quarrels_examine_116, s_Quarrels_examine_119, s_Quarrels_examine_120, y_kd_sI, y_kd_sL, y_kd_sR, y_kd_cpI, y_kd_cpL, y_ln_sI, y_ln_sL, y_ln_sR, y_ln_cpI, y_ln_cpL, y_sz_sI, y_sz_sL, y_sz_sR, y_sz_cpI, y_sz_cpL, y_sl_sI, y_sl_sL, y_sl_sR, y_sl_cpI, y_sl_cpL, y_gI_sL, y_gI_sR, y_gI_cpI, y_gI_cpL, y_gI_nw, y_gL_sI, y_gL_sR, y_gL_cpI, y_gL_cpL, y_gL_nw, y_gR_sI, y_gR_sL, y_gR_cpI, y_gR_cpL, y_gR_nw, y_kd_nw, y_ln_nw, y_sz_nw, y_sl_nw, y_fx_int, y_fx_long, y_fx_ref, y_fx_null, y_fx_U, y_rf_s, y_rf_n, a_inb, a_ix, a_lt, a_eq, a_eq0, a_lt0, a_0lt, a_m1, a_m2, a_mlt, a_sub, a_dec, a_div, a_rem, a_shl, a_shr, a_bit, a_bit0, a_II, a_Ia, a_Ik, a_LL, a_La, a_Lk, a_RR, a_Ra, a_Rk, a_if0, a_if1, y_mul, y_and, y_or, nI_add, y_b1, y_b0, kon_v, kon_0, true_or, or_true, and_self, true_and, and_true, false_or, or_false, and_false, false_and, not_true_eq_false, not_false_eq_true, ite_self, ↓reduceIte, Nat.reduceEqDiff, Nat.reduceLeDiff, Nat.reduceAdd, Nat.reduceMul, Nat.reduceSub, Nat.reduceLT, Nat.reduceShiftLeft, Nat.reduceOr, Nat.reduceAnd, Bool.false_eq_true, b_if, b_z1, b_z0, b_zz, b_a1, b_a0, b_lc, b_zF, b_zT, b_lbit, dc_k j.dc, dc_r0 j.dc, dc_r1 j.dc, dc_r2 j.dc, dc_r3 j.dc, dc_r5 j.dc, dc_r6 j.dc, dc_r7 j.dc, dc_r8 j.dc, dc_r9 j.dc, dc_k1 j.dc, dc_l1 j.dc, dc_k19 j.dc, dc_l19 j.dc, dc_k21 j.dc, dc_l21 j.dc, dc_k22 j.dc, dc_l22 j.dc, dc_k131 j.dc, dc_l131 j.dc, dc_k142 j.dc, dc_l142 j.dc, dc_k143 j.dc, dc_l143 j.dc, dc_k144 j.dc, dc_l144 j.dc, dc_k18 j.dc, dc_r18 j.dc, dc_k20 j.dc, dc_r20_0 j.dc, dc_r20_1 j.dc, dc_k141 j.dc, dc_r141_5 j.dc, dc_r141_6 j.dc, dc_s j.dc, dc_sk j.dc, dc_sr j.dc, dc_ek j.dc, dc_el j.dc, c1, e01, cd, l1, c2]
      rw [go1]
      by_cases w : canV (zV Λ) (zF Λ) (zD Λ) y (fun d => (dsO L k).testBit d = true) = -5
      · refine Or.inl ⟨?_, h2, ?_, j2⟩
        · have hq' : qs (fun x => canV (zV Λ) (zF Λ) (zD Λ) y (fun d => (dsO L x).testBit d = true)) L.length (s + 1) = none := by
            show qsO _ _ _ (qs _ _ s) = _
            rw [hq, ek]
            unfold qsO
            dsimp only
            rw [tst_f z, if_pos w]
          have := qs_none hq' k
          rw [show s + 1 + k = 2 ^ L.length by omega] at this
          exact this
        · rw [w]
          simp (disch := omega) only [s_Quarrels_examine_0, s_Quarrels_examine_1, s_Quarrels_examine_2, s_Quarrels_examine_5, s_Quarrels_examine_7, s_Quarrels_examine_9, s_Quarrels_examine_12, s_Quarrels_examine_14, s_Quarrels_examine_17, s_Quarrels_examine_18, s_Quarrels_examine_19, s_Quarrels_examine_20, s_Quarrels_examine_22, s_Quarrels_examine_25, s_Quarrels_examine_26, s_Quarrels_examine_27, s_Quarrels_examine_30, s_Quarrels_examine_31, s_Quarrels_examine_32, s_Quarrels_examine_33, s_Quarrels_examine_37, s_Quarrels_examine_40, s_Quarrels_examine_41, s_Quarrels_examine_44, s_Quarrels_examine_46, s_Quarrels_examine_47, s_Quarrels_examine_49, s_Quarrels_examine_52, s_Quarrels_examine_53, s_Quarrels_examine_54, s_Quarrels_examine_57, s_Quarrels_examine_59, s_Quarrels_examine_60, s_Quarrels_examine_63, s_Quarrels_examine_64, s_Quarrels_examine_65, s_Quarrels_examine_66, s_Quarrels_examine_67, s_Quarrels_examine_69, s_Quarrels_examine_72, s_Quarrels_examine_75, s_Quarrels_examine_77, s_Quarrels_examine_79, s_Quarrels_examine_81, s_Quarrels_examine_84, s_Quarrels_examine_85, s_Quarrels_examine_86, s_Quarrels_examine_87, s_Quarrels_examine_90, s_Quarrels_examine_92, s_Quarrels_examine_94, s_Quarrels_examine_95, s_Quarrels_examine_98, s_Quarrels_examine_99, s_Quarrels_examine_102, s_Quarrels_examine_103, s_Quarrels_examine_104, s_Quarrels_examine_107, s_Quarrels_examine_111, s_Quarrels_examine_114, s_Quarrels_examine_115, s_Quarrels_examine_116, s_Quarrels_examine_119, s_Quarrels_examine_120, y_kd_sI, y_kd_sL, y_kd_sR, y_kd_cpI, y_kd_cpL, y_ln_sI, y_ln_sL, y_ln_sR, y_ln_cpI, y_ln_cpL, y_sz_sI, y_sz_sL, y_sz_sR, y_sz_cpI, y_sz_cpL, y_sl_sI, y_sl_sL, y_sl_sR, y_sl_cpI, y_sl_cpL, y_gI_sL, y_gI_sR, y_gI_cpI, y_gI_cpL, y_gI_nw, y_gL_sI, y_gL_sR, y_gL_cpI, y_gL_cpL, y_gL_nw, y_gR_sI, y_gR_sL, y_gR_cpI, y_gR_cpL, y_gR_nw, y_kd_nw, y_ln_nw, y_sz_nw, y_sl_nw, y_fx_int, y_fx_long, y_fx_ref, y_fx_null, y_fx_U, y_rf_s, y_rf_n, a_inb, a_ix, a_lt, a_eq, a_eq0, a_lt0, a_0lt, a_m1, a_m2, a_mlt, a_sub, a_dec, a_div, a_rem, a_shl, a_shr, a_bit, a_bit0, a_II, a_Ia, a_Ik, a_LL, a_La, a_Lk, a_RR, a_Ra, a_Rk, a_if0, a_if1, y_mul, y_and, y_or, nI_add, y_b1, y_b0, kon_v, kon_0, true_or, or_true, and_self, true_and, and_true, false_or, or_false, and_false, false_and, not_true_eq_false, not_false_eq_true, ite_self, ↓reduceIte, Nat.reduceEqDiff, Nat.reduceLeDiff, Nat.reduceAdd, Nat.reduceMul, Nat.reduceSub, Nat.reduceLT, Nat.reduceShiftLeft, Nat.reduceOr, Nat.reduceAnd, Bool.false_eq_true, b_if, b_z1, b_z0, b_zz, b_a1, b_a0, b_lc, b_zF, b_zT, b_lbit, m5_5]
      · have wf := eq_false w
        have hq' : qs (fun x => canV (zV Λ) (zF Λ) (zD Λ) y (fun d => (dsO L x).testBit d = true)) L.length (s + 1) = some (up F k (if canV (zV Λ) (zF Λ) (zD Λ) y (fun d => (dsO L k).testBit d = true) = nI 1 then 1 else 0)) := by
          show qsO _ _ _ (qs _ _ s) = _
          rw [hq, ek]
          unfold qsO
          dsimp only
          rw [tst_f z, if_neg w]
        have s3 : sam (B + 23 + 52) (B + 140) (sI h (B + 143) k (nI 0)) h2 := s2
        have hF2 : ∀ x : Nat, ¬ x = k → k ≤ x → x < 2 ^ L.length → gI h2 (B + 143) x = nI (F x) := fun x h1 h2' h3' => by
          rw [s3.2.2.2.2.2.1 _ _ (by omega), a_Ik h1]
          exact hF x (by omega) h3'
        have qq2 := QS_fr (h' := h2) (s3.out (by omega)) qq1
        by_cases u : canV (zV Λ) (zF Λ) (zD Λ) y (fun d => (dsO L k).testBit d = true) = nI 1
        · rw [if_pos u] at hq'
          have s4 : sam (B + 143) (B + 143) h2 (sI h2 (B + 143) k (nI 1)) := sam.I (by omega)
          have j4 := j2.cs s4 (by omega) (by omega)
          have go : ev g Quarrels_examine 77 [.ref (B + 141), .ref (B + 23), .ref (B + 132), .int y, .int am, .int (nI k), .int (canV (zV Λ) (zF Λ) (zD Λ) y (fun d => (dsO L k).testBit d = true))] [] h2 = ev g Quarrels_examine 35 [.ref (B + 141), .ref (B + 23), .ref (B + 132), .int y, .int am, .int (dek k), .int (nI 1)] [] (sI h2 (B + 143) k (nI 1)) := by
            rw [u]
            simp (disch := omega) only [s_Quarrels_examine_0, s_Quarrels_examine_1, s_Quarrels_examine_2, s_Quarrels_examine_5, s_Quarrels_examine_7, s_Quarrels_examine_9, s_Quarrels_examine_12, s_Quarrels_examine_14, s_Quarrels_examine_17, s_Quarrels_examine_18, s_Quarrels_examine_19, s_Quarrels_examine_20, s_Quarrels_examine_22, s_Quarrels_examine_25, s_Quarrels_examine_26, s_Quarrels_examine_27, s_Quarrels_examine_30, s_Quarrels_examine_31, s_Quarrels_examine_32, s_Quarrels_examine_33, s_Quarrels_examine_37, s_Quarrels_examine_40, s_Quarrels_examine_41, s_Quarrels_examine_44, s_Quarrels_examine_46, s_Quarrels_examine_47, s_Quarrels_examine_49, s_Quarrels_examine_52, s_Quarrels_examine_53, s_Quarrels_examine_54, s_Quarrels_examine_57, s_Quarrels_examine_59, s_Quarrels_examine_60, s_Quarrels_examine_63, s_Quarrels_examine_64, s_Quarrels_examine_65, s_Quarrels_examine_66, s_Quarrels_examine_67, s_Quarrels_examine_69, s_Quarrels_examine_72, s_Quarrels_examine_75, s_Quarrels_examine_77, s_Quarrels_examine_79, s_Quarrels_examine_81, s_Quarrels_examine_84, s_Quarrels_examine_85, s_Quarrels_examine_86, s_Quarrels_examine_87, s_Quarrels_examine_90, s_Quarrels_examine_92, s_Quarrels_examine_94, s_Quarrels_examine_95, s_Quarrels_examine_98, s_Quarrels_examine_99, s_Quarrels_examine_102, s_Quarrels_examine_103, s_Quarrels_examine_104, s_Quarrels_examine_107, s_Quarrels_examine_111, s_Quarrels_examine_114, s_Quarrels_examine_115, s_Quarrels_examine_116, s_Quarrels_examine_119, s_Quarrels_examine_120, y_kd_sI, y_kd_sL, y_kd_sR, y_kd_cpI, y_kd_cpL, y_ln_sI, y_ln_sL, y_ln_sR, y_ln_cpI, y_ln_cpL, y_sz_sI, y_sz_sL, y_sz_sR, y_sz_cpI, y_sz_cpL, y_sl_sI, y_sl_sL, y_sl_sR, y_sl_cpI, y_sl_cpL, y_gI_sL, y_gI_sR, y_gI_cpI, y_gI_cpL, y_gI_nw, y_gL_sI, y_gL_sR, y_gL_cpI, y_gL_cpL, y_gL_nw, y_gR_sI, y_gR_sL, y_gR_cpI, y_gR_cpL, y_gR_nw, y_kd_nw, y_ln_nw, y_sz_nw, y_sl_nw, y_fx_int, y_fx_long, y_fx_ref, y_fx_null, y_fx_U, y_rf_s, y_rf_n, a_inb, a_ix, a_lt, a_eq, a_eq0, a_lt0, a_0lt, a_m1, a_m2, a_mlt, a_sub, a_dec, a_div, a_rem, a_shl, a_shr, a_bit, a_bit0, a_II, a_Ia, a_Ik, a_LL, a_La, a_Lk, a_RR, a_Ra, a_Rk, a_if0, a_if1, y_mul, y_and, y_or, nI_add, y_b1, y_b0, kon_v, kon_0, true_or, or_true, and_self, true_and, and_true, false_or, or_false, and_false, false_and, not_true_eq_false, not_false_eq_true, ite_self, ↓reduceIte, Nat.reduceEqDiff, Nat.reduceLeDiff, Nat.reduceAdd, Nat.reduceMul, Nat.reduceSub, Nat.reduceLT, Nat.reduceShiftLeft, Nat.reduceOr, Nat.reduceAnd, Bool.false_eq_true, b_if, b_z1, b_z0, b_zz, b_a1, b_a0, b_lc, b_zF, b_zT, b_lbit, dc_k j2.dc, dc_r0 j2.dc, dc_r1 j2.dc, dc_r2 j2.dc, dc_r3 j2.dc, dc_r5 j2.dc, dc_r6 j2.dc, dc_r7 j2.dc, dc_r8 j2.dc, dc_r9 j2.dc, dc_k1 j2.dc, dc_l1 j2.dc, dc_k19 j2.dc, dc_l19 j2.dc, dc_k21 j2.dc, dc_l21 j2.dc, dc_k22 j2.dc, dc_l22 j2.dc, dc_k131 j2.dc, dc_l131 j2.dc, dc_k142 j2.dc, dc_l142 j2.dc, dc_k143 j2.dc, dc_l143 j2.dc, dc_k144 j2.dc, dc_l144 j2.dc, dc_k18 j2.dc, dc_r18 j2.dc, dc_k20 j2.dc, dc_r20_0 j2.dc, dc_r20_1 j2.dc, dc_k141 j2.dc, dc_r141_5 j2.dc, dc_r141_6 j2.dc, dc_s j2.dc, dc_sk j2.dc, dc_sr j2.dc, dc_ek j2.dc, dc_el j2.dc, m5_1, e11]
            rw [dd]
          rw [go]
          exact ih (s + 1) _ _ _ am (by omega) hq' j4 (QS_fr (s4.out (by omega)) qq2) (fun x h1 h2' => by
            by_cases w : x = k
            · rw [w, a_II, up_s]
            · rw [a_Ik w, up_n w]; exact hF2 x w (by omega) h2')
        · rw [if_neg u] at hq'
          have u0 : canV (zV Λ) (zF Λ) (zD Λ) y (fun d => (dsO L k).testBit d = true) = nI 0 := by
            rcases canV_3 (V := zV Λ) (nf := zF Λ) (nd := zD Λ) (y := y) (sel := fun d => (dsO L k).testBit d = true) with c | c | c
            · exact absurd c w
            · exact c
            · exact absurd c u
          have s4 : sam (B + 143) (B + 143) h2 (sI h2 (B + 143) k (nI 0)) := sam.I (by omega)
          have j4 := j2.cs s4 (by omega) (by omega)
          have go : ev g Quarrels_examine 77 [.ref (B + 141), .ref (B + 23), .ref (B + 132), .int y, .int am, .int (nI k), .int (canV (zV Λ) (zF Λ) (zD Λ) y (fun d => (dsO L k).testBit d = true))] [] h2 = ev g Quarrels_examine 35 [.ref (B + 141), .ref (B + 23), .ref (B + 132), .int y, .int am, .int (dek k), .int (nI 0)] [] (sI h2 (B + 143) k (nI 0)) := by
            rw [u0]
            simp (disch := omega) only [s_Quarrels_examine_0, s_Quarrels_examine_1, s_Quarrels_examine_2, s_Quarrels_examine_5, s_Quarrels_examine_7, s_Quarrels_examine_9, s_Quarrels_examine_12, s_Quarrels_examine_14, s_Quarrels_examine_17, s_Quarrels_examine_18, s_Quarrels_examine_19, s_Quarrels_examine_20, s_Quarrels_examine_22, s_Quarrels_examine_25, s_Quarrels_examine_26, s_Quarrels_examine_27, s_Quarrels_examine_30, s_Quarrels_examine_31, s_Quarrels_examine_32, s_Quarrels_examine_33, s_Quarrels_examine_37, s_Quarrels_examine_40, s_Quarrels_examine_41, s_Quarrels_examine_44, s_Quarrels_examine_46, s_Quarrels_examine_47, s_Quarrels_examine_49, s_Quarrels_examine_52, s_Quarrels_examine_53, s_Quarrels_examine_54, s_Quarrels_examine_57, s_Quarrels_examine_59, s_Quarrels_examine_60, s_Quarrels_examine_63, s_Quarrels_examine_64, s_Quarrels_examine_65, s_Quarrels_examine_66, s_Quarrels_examine_67, s_Quarrels_examine_69, s_Quarrels_examine_72, s_Quarrels_examine_75, s_Quarrels_examine_77, s_Quarrels_examine_79, s_Quarrels_examine_81, s_Quarrels_examine_84, s_Quarrels_examine_85, s_Quarrels_examine_86, s_Quarrels_examine_87, s_Quarrels_examine_90, s_Quarrels_examine_92, s_Quarrels_examine_94, s_Quarrels_examine_95, s_Quarrels_examine_98, s_Quarrels_examine_99, s_Quarrels_examine_102, s_Quarrels_examine_103, s_Quarrels_examine_104, s_Quarrels_examine_107, s_Quarrels_examine_111, s_Quarrels_examine_114, s_Quarrels_examine_115, s_Quarrels_examine_116, s_Quarrels_examine_119, s_Quarrels_examine_120, y_kd_sI, y_kd_sL, y_kd_sR, y_kd_cpI, y_kd_cpL, y_ln_sI, y_ln_sL, y_ln_sR, y_ln_cpI, y_ln_cpL, y_sz_sI, y_sz_sL, y_sz_sR, y_sz_cpI, y_sz_cpL, y_sl_sI, y_sl_sL, y_sl_sR, y_sl_cpI, y_sl_cpL, y_gI_sL, y_gI_sR, y_gI_cpI, y_gI_cpL, y_gI_nw, y_gL_sI, y_gL_sR, y_gL_cpI, y_gL_cpL, y_gL_nw, y_gR_sI, y_gR_sL, y_gR_cpI, y_gR_cpL, y_gR_nw, y_kd_nw, y_ln_nw, y_sz_nw, y_sl_nw, y_fx_int, y_fx_long, y_fx_ref, y_fx_null, y_fx_U, y_rf_s, y_rf_n, a_inb, a_ix, a_lt, a_eq, a_eq0, a_lt0, a_0lt, a_m1, a_m2, a_mlt, a_sub, a_dec, a_div, a_rem, a_shl, a_shr, a_bit, a_bit0, a_II, a_Ia, a_Ik, a_LL, a_La, a_Lk, a_RR, a_Ra, a_Rk, a_if0, a_if1, y_mul, y_and, y_or, nI_add, y_b1, y_b0, kon_v, kon_0, true_or, or_true, and_self, true_and, and_true, false_or, or_false, and_false, false_and, not_true_eq_false, not_false_eq_true, ite_self, ↓reduceIte, Nat.reduceEqDiff, Nat.reduceLeDiff, Nat.reduceAdd, Nat.reduceMul, Nat.reduceSub, Nat.reduceLT, Nat.reduceShiftLeft, Nat.reduceOr, Nat.reduceAnd, Bool.false_eq_true, b_if, b_z1, b_z0, b_zz, b_a1, b_a0, b_lc, b_zF, b_zT, b_lbit, dc_k j2.dc, dc_r0 j2.dc, dc_r1 j2.dc, dc_r2 j2.dc, dc_r3 j2.dc, dc_r5 j2.dc, dc_r6 j2.dc, dc_r7 j2.dc, dc_r8 j2.dc, dc_r9 j2.dc, dc_k1 j2.dc, dc_l1 j2.dc, dc_k19 j2.dc, dc_l19 j2.dc, dc_k21 j2.dc, dc_l21 j2.dc, dc_k22 j2.dc, dc_l22 j2.dc, dc_k131 j2.dc, dc_l131 j2.dc, dc_k142 j2.dc, dc_l142 j2.dc, dc_k143 j2.dc, dc_l143 j2.dc, dc_k144 j2.dc, dc_l144 j2.dc, dc_k18 j2.dc, dc_r18 j2.dc, dc_k20 j2.dc, dc_r20_0 j2.dc, dc_r20_1 j2.dc, dc_k141 j2.dc, dc_r141_5 j2.dc, dc_r141_6 j2.dc, dc_s j2.dc, dc_sk j2.dc, dc_sr j2.dc, dc_ek j2.dc, dc_el j2.dc, m5_0, e01]
            rw [dd]
          rw [go]
          exact ih (s + 1) _ _ _ am (by omega) hq' j4 (QS_fr (s4.out (by omega)) qq2) (fun x h1 h2' => by
            by_cases w : x = k
            · rw [w, a_II, up_s]
            · rw [a_Ik w, up_n w]; exact hF2 x w (by omega) h2')
end ZCN
