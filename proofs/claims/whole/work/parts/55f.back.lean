/-! back -/
abbrev bk (x : Int32) (n : Nat) : Prop := ¬ x = -1 ∧ ¬ x < nI n
/-- shelves below i let go of what is no field now -/
def Hb (H : zH) (n i : Nat) : zH := (fun s => if s < i ∧ bk (H.2.2.1 s) n then -1 else H.1 s, fun s => if s < i ∧ bk (H.2.2.1 s) n then nI 0 else H.2.1 s, fun s => if s < i ∧ bk (H.2.2.1 s) n then -1 else H.2.2.1 s, H.2.2.2)
section ZBK
variable {g : Nat → Nat} {B SL m n i : Nat} {h h' : zMem} {H : zH} {T : zT} {Λ K : zL} {κ : Bool} {ρ : Nat → Int32}
theorem Hb_0 : cSh h B H → cSh h B (Hb H n 0) := fun c s hs => by
  obtain ⟨c1, c2, c3, c4⟩ := c s hs
  unfold Hb
  refine ⟨?_, ?_, ?_, c4⟩
  · rw [if_neg (fun z => Nat.not_lt_zero _ z.1)]; exact c1
  · rw [if_neg (fun z => Nat.not_lt_zero _ z.1)]; exact c2
  · rw [if_neg (fun z => Nat.not_lt_zero _ z.1)]; exact c3
theorem Hb_n (hb : ¬ bk (H.2.2.1 i) n) : Hb H n (i + 1) = Hb H n i := by
  have e : ∀ s : Nat, (s < i + 1 ∧ bk (H.2.2.1 s) n) = (s < i ∧ bk (H.2.2.1 s) n) := fun s => by
    apply propext
    constructor
    · rintro ⟨z1, z2⟩
      refine ⟨?_, z2⟩
      by_cases q : s = i
      · rw [q] at z2; exact absurd z2 hb
      · omega
    · exact fun z => ⟨by omega, z.2⟩
  unfold Hb
  simp only [e]
theorem Hb_y (hi : i < 8) (hb : bk (H.2.2.1 i) n) (c : cSh h B (Hb H n i)) : cSh (sI (sI (sI h (B + 2 + 2 * i) 0 (-1)) (B + 2 + 2 * i) 1 (nI 0)) (B + 2 + 2 * i) 2 (-1)) B (Hb H n (i + 1)) := fun s hs => by
  obtain ⟨c1, c2, c3, c4⟩ := c s hs
  by_cases q : s = i
  · subst q
    unfold Hb
    refine ⟨?_, ?_, ?_, c4⟩
    · rw [a_Ik (by decide), a_Ik (by decide), a_II, if_pos ⟨by omega, hb⟩]
    · rw [a_Ik (by decide), a_II, if_pos ⟨by omega, hb⟩]
    · rw [a_II, if_pos ⟨by omega, hb⟩]
  · have e : (s < i + 1 ∧ bk (H.2.2.1 s) n) = (s < i ∧ bk (H.2.2.1 s) n) := propext ⟨fun z => ⟨by omega, z.2⟩, fun z => ⟨by omega, z.2⟩⟩
    unfold Hb at *
    simp only [e]
    refine ⟨?_, ?_, ?_, c4⟩
    · rw [a_Ia (by omega), a_Ia (by omega), a_Ia (by omega)]; exact c1
    · rw [a_Ia (by omega), a_Ia (by omega), a_Ia (by omega)]; exact c2
    · rw [a_Ia (by omega), a_Ia (by omega), a_Ia (by omega)]; exact c3
theorem Hb_k {nf : Nat} (hn : n ≤ 10) (hf : nf ≤ 10) (k : kSh nf H) : kSh n (Hb H n 8) := fun s hs => by
  unfold Hb
  by_cases z : bk (H.2.2.1 s) n
  · left
    simp only [if_pos (show s < 8 ∧ bk (H.2.2.1 s) n from ⟨hs, z⟩), and_self]
  · simp only [if_neg (show ¬ (s < 8 ∧ bk (H.2.2.1 s) n) from fun c => z c.2)]
    rcases k s hs with c | c | ⟨c1, f, c2, c3⟩
    · exact Or.inl c
    · exact Or.inr (Or.inl c)
    · refine Or.inr (Or.inr ⟨c1, f, c2, ?_⟩)
      by_cases q : f < n
      · exact q
      · refine absurd ⟨?_, ?_⟩ z
        · rw [c2, a_m1 (by omega)]; exact fun c => c
        · rw [c2, a_lt (by omega) (by omega)]; exact q
theorem c_shelves (hn : n ≤ 10) {nf : Nat} (hf : nf ≤ 10) (k : kSh nf H) (o : oDC h B) (ol : oLand h (B + 23)) (h1 : gI h (B + 23) 1 = nI n) (c : cSh h B H) : ∃ h' : zMem, ev g DC_back 25 [.ref B, zU] [] h = some (some (.int (nI 1)), h') ∧ sam (B + 2) (B + 17) h h' ∧ cSh h' B (Hb H n 8) := by
  have i0 : ev g DC_back 25 [.ref B, zU] [] h = ev g DC_back 27 [.ref B, .int (nI 0)] [] h := by
    simp (disch := omega) only [s_DC_back_0, s_DC_back_1, s_DC_back_4, s_DC_back_7, s_DC_back_8, s_DC_back_10, s_DC_back_13, s_DC_back_14, s_DC_back_15, s_DC_back_18, s_DC_back_19, s_DC_back_22, s_DC_back_25, s_DC_back_26, s_DC_back_28, s_DC_back_30, s_DC_back_33, s_DC_back_34, s_DC_back_37, s_DC_back_38, s_DC_back_39, s_DC_back_42, s_DC_back_45, s_DC_back_46, s_DC_back_49, s_DC_back_50, s_DC_back_53, s_DC_back_54, s_DC_back_55, s_DC_back_58, s_DC_back_61, s_DC_back_64, s_DC_back_65, s_DC_back_68, s_DC_back_69, s_DC_back_70, s_DC_back_71, s_DC_back_74, s_DC_back_77, s_DC_back_80, s_DC_back_81, y_kd_sI, y_kd_sL, y_kd_sR, y_kd_cpI, y_kd_cpL, y_ln_sI, y_ln_sL, y_ln_sR, y_ln_cpI, y_ln_cpL, y_sz_sI, y_sz_sL, y_sz_sR, y_sz_cpI, y_sz_cpL, y_sl_sI, y_sl_sL, y_sl_sR, y_sl_cpI, y_sl_cpL, y_gI_sL, y_gI_sR, y_gI_cpI, y_gI_cpL, y_gI_nw, y_gL_sI, y_gL_sR, y_gL_cpI, y_gL_cpL, y_gL_nw, y_gR_sI, y_gR_sL, y_gR_cpI, y_gR_cpL, y_gR_nw, y_kd_nw, y_ln_nw, y_sz_nw, y_sl_nw, y_fx_int, y_fx_long, y_fx_ref, y_fx_null, y_fx_U, y_rf_s, y_rf_n, a_inb, a_ix, a_lt, a_eq, a_eq0, a_lt0, a_0lt, a_m1, a_m2, a_mlt, a_sub, a_dec, a_div, a_rem, a_shl, a_shr, a_bit, a_bit0, a_II, a_Ia, a_Ik, a_LL, a_La, a_Lk, a_RR, a_Ra, a_Rk, a_if0, a_if1, y_mul, y_and, y_or, nI_add, y_b1, y_b0, kon_v, kon_0, true_or, or_true, and_self, true_and, and_true, false_or, or_false, and_false, false_and, not_true_eq_false, not_false_eq_true, ite_self, ↓reduceIte, Nat.reduceEqDiff, Nat.reduceLeDiff, Nat.reduceAdd, Nat.reduceMul, Nat.reduceSub, Nat.reduceLT, Nat.reduceShiftLeft, Nat.reduceOr, Nat.reduceAnd, Bool.false_eq_true, b_if, b_z1, b_z0, b_zz, b_a1, b_a0, b_lc, b_zF, b_zT, b_lbit]
  obtain ⟨_, h2, i1, s, c'⟩ := l_loop (α := Unit) (g := g) (M := DC_back) (pc := 27) (st := []) (n := 8) (fun i _ => [.ref B, .int (nI i)]) (fun i _ h' => sam (B + 2) (B + 17) h h' ∧ cSh h' B (Hb H n i)) (fun i x h' hi ⟨s, c⟩ => by
    have o' := s.dc o
    have ol' := s.la ol
    have v1 : gI h' (B + 23) 1 = nI n := (s.2.2.2.2.2.1 _ _ (by omega)).trans h1
    have w2 : gI h' (B + 2 + 2 * i) 2 = H.2.2.1 i := by
      have := (c i hi).2.2.1
      unfold Hb at this
      rw [if_neg (fun z => Nat.lt_irrefl _ z.1)] at this
      exact this
    have k1 := dc_k o'
    have k2 := dc_r0 o'
    have k3 := dc_k1 o'
    have k4 := dc_l1 o'
    have k5 := dc_s o' hi
    have k6 := dc_sk o' hi
    have k7 := dc_r2 o'
    have k8 := la_k ol'
    have d1 : (24 ≤ 24) = True := eq_true (by decide)
    have d2 : (24 < 30) = True := eq_true (by decide)
    have e5 : (i < 8) = True := eq_true hi
    have q1 := q_hasField (g := g) k6 w2
    have q2 := q_Land_hasField (g := g) (x := H.2.2.1 i) k8
    rw [v1] at q2
    rw [s_DC_back_27]
    by_cases z1 : H.2.2.1 i = -1
    · have z2 : (¬ H.2.2.1 i = -1) = False := eq_false (fun c => c z1)
      refine ⟨(), h', ?_, s, ?_⟩
      · simp (disch := omega) only [s_DC_back_0, s_DC_back_1, s_DC_back_4, s_DC_back_7, s_DC_back_8, s_DC_back_10, s_DC_back_13, s_DC_back_14, s_DC_back_15, s_DC_back_18, s_DC_back_19, s_DC_back_22, s_DC_back_25, s_DC_back_26, s_DC_back_28, s_DC_back_30, s_DC_back_33, s_DC_back_34, s_DC_back_37, s_DC_back_38, s_DC_back_39, s_DC_back_42, s_DC_back_45, s_DC_back_46, s_DC_back_49, s_DC_back_50, s_DC_back_53, s_DC_back_54, s_DC_back_55, s_DC_back_58, s_DC_back_61, s_DC_back_64, s_DC_back_65, s_DC_back_68, s_DC_back_69, s_DC_back_70, s_DC_back_71, s_DC_back_74, s_DC_back_77, s_DC_back_80, s_DC_back_81, y_kd_sI, y_kd_sL, y_kd_sR, y_kd_cpI, y_kd_cpL, y_ln_sI, y_ln_sL, y_ln_sR, y_ln_cpI, y_ln_cpL, y_sz_sI, y_sz_sL, y_sz_sR, y_sz_cpI, y_sz_cpL, y_sl_sI, y_sl_sL, y_sl_sR, y_sl_cpI, y_sl_cpL, y_gI_sL, y_gI_sR, y_gI_cpI, y_gI_cpL, y_gI_nw, y_gL_sI, y_gL_sR, y_gL_cpI, y_gL_cpL, y_gL_nw, y_gR_sI, y_gR_sL, y_gR_cpI, y_gR_cpL, y_gR_nw, y_kd_nw, y_ln_nw, y_sz_nw, y_sl_nw, y_fx_int, y_fx_long, y_fx_ref, y_fx_null, y_fx_U, y_rf_s, y_rf_n, a_inb, a_ix, a_lt, a_eq, a_eq0, a_lt0, a_0lt, a_m1, a_m2, a_mlt, a_sub, a_dec, a_div, a_rem, a_shl, a_shr, a_bit, a_bit0, a_II, a_Ia, a_Ik, a_LL, a_La, a_Lk, a_RR, a_Ra, a_Rk, a_if0, a_if1, y_mul, y_and, y_or, nI_add, y_b1, y_b0, kon_v, kon_0, true_or, or_true, and_self, true_and, and_true, false_or, or_false, and_false, false_and, not_true_eq_false, not_false_eq_true, ite_self, ↓reduceIte, Nat.reduceEqDiff, Nat.reduceLeDiff, Nat.reduceAdd, Nat.reduceMul, Nat.reduceSub, Nat.reduceLT, Nat.reduceShiftLeft, Nat.reduceOr, Nat.reduceAnd, Bool.false_eq_true, b_if, b_z1, b_z0, b_zz, b_a1, b_a0, b_lc, b_zF, b_zT, b_lbit, k1, k2, k3, k4, k5, k6, d1, d2, e5, va_rf, q1, z2]
      · rw [Hb_n (fun z => z.1 z1)]; exact c
    have z2 : (¬ H.2.2.1 i = -1) = True := eq_true z1
    rcases k i hi with ⟨-, c3⟩ | ⟨c3, -⟩ | ⟨c1, f, c2, c3⟩
    · exact absurd c3 z1
    · exact absurd c3 z1
    have z3 : (¬ H.2.2.1 i < 0 ∧ H.2.2.1 i < nI n) = (f < n) := by
      rw [c2, a_lt0 (by omega), a_lt (by omega) (by omega)]
      simp only [not_false_eq_true, true_and]
    by_cases z4 : f < n
    · have z5 : (¬ H.2.2.1 i < 0 ∧ H.2.2.1 i < nI n) = True := by rw [z3]; exact eq_true z4
      refine ⟨(), h', ?_, s, ?_⟩
      · simp (disch := omega) only [s_DC_back_0, s_DC_back_1, s_DC_back_4, s_DC_back_7, s_DC_back_8, s_DC_back_10, s_DC_back_13, s_DC_back_14, s_DC_back_15, s_DC_back_18, s_DC_back_19, s_DC_back_22, s_DC_back_25, s_DC_back_26, s_DC_back_28, s_DC_back_30, s_DC_back_33, s_DC_back_34, s_DC_back_37, s_DC_back_38, s_DC_back_39, s_DC_back_42, s_DC_back_45, s_DC_back_46, s_DC_back_49, s_DC_back_50, s_DC_back_53, s_DC_back_54, s_DC_back_55, s_DC_back_58, s_DC_back_61, s_DC_back_64, s_DC_back_65, s_DC_back_68, s_DC_back_69, s_DC_back_70, s_DC_back_71, s_DC_back_74, s_DC_back_77, s_DC_back_80, s_DC_back_81, y_kd_sI, y_kd_sL, y_kd_sR, y_kd_cpI, y_kd_cpL, y_ln_sI, y_ln_sL, y_ln_sR, y_ln_cpI, y_ln_cpL, y_sz_sI, y_sz_sL, y_sz_sR, y_sz_cpI, y_sz_cpL, y_sl_sI, y_sl_sL, y_sl_sR, y_sl_cpI, y_sl_cpL, y_gI_sL, y_gI_sR, y_gI_cpI, y_gI_cpL, y_gI_nw, y_gL_sI, y_gL_sR, y_gL_cpI, y_gL_cpL, y_gL_nw, y_gR_sI, y_gR_sL, y_gR_cpI, y_gR_cpL, y_gR_nw, y_kd_nw, y_ln_nw, y_sz_nw, y_sl_nw, y_fx_int, y_fx_long, y_fx_ref, y_fx_null, y_fx_U, y_rf_s, y_rf_n, a_inb, a_ix, a_lt, a_eq, a_eq0, a_lt0, a_0lt, a_m1, a_m2, a_mlt, a_sub, a_dec, a_div, a_rem, a_shl, a_shr, a_bit, a_bit0, a_II, a_Ia, a_Ik, a_LL, a_La, a_Lk, a_RR, a_Ra, a_Rk, a_if0, a_if1, y_mul, y_and, y_or, nI_add, y_b1, y_b0, kon_v, kon_0, true_or, or_true, and_self, true_and, and_true, false_or, or_false, and_false, false_and, not_true_eq_false, not_false_eq_true, ite_self, ↓reduceIte, Nat.reduceEqDiff, Nat.reduceLeDiff, Nat.reduceAdd, Nat.reduceMul, Nat.reduceSub, Nat.reduceLT, Nat.reduceShiftLeft, Nat.reduceOr, Nat.reduceAnd, Bool.false_eq_true, b_if, b_z1, b_z0, b_zz, b_a1, b_a0, b_lc, b_zF, b_zT, b_lbit, k1, k2, k3, k4, k5, k6, k7, k8, w2, d1, d2, e5, va_rf, q1, q2, z2, z5]
      · rw [Hb_n (fun z => z.2 (by rw [c2, a_lt (by omega) (by omega)]; exact z4))]; exact c
    · have z5 : (¬ H.2.2.1 i < 0 ∧ H.2.2.1 i < nI n) = False := by rw [z3]; exact eq_false z4
      refine ⟨(), sI (sI (sI h' (B + 2 + 2 * i) 0 (-1)) (B + 2 + 2 * i) 1 (nI 0)) (B + 2 + 2 * i) 2 (-1), ?_, ((s.aI (by omega)).aI (by omega)).aI (by omega), ?_⟩
      · simp (disch := omega) only [s_DC_back_0, s_DC_back_1, s_DC_back_4, s_DC_back_7, s_DC_back_8, s_DC_back_10, s_DC_back_13, s_DC_back_14, s_DC_back_15, s_DC_back_18, s_DC_back_19, s_DC_back_22, s_DC_back_25, s_DC_back_26, s_DC_back_28, s_DC_back_30, s_DC_back_33, s_DC_back_34, s_DC_back_37, s_DC_back_38, s_DC_back_39, s_DC_back_42, s_DC_back_45, s_DC_back_46, s_DC_back_49, s_DC_back_50, s_DC_back_53, s_DC_back_54, s_DC_back_55, s_DC_back_58, s_DC_back_61, s_DC_back_64, s_DC_back_65, s_DC_back_68, s_DC_back_69, s_DC_back_70, s_DC_back_71, s_DC_back_74, s_DC_back_77, s_DC_back_80, s_DC_back_81, y_kd_sI, y_kd_sL, y_kd_sR, y_kd_cpI, y_kd_cpL, y_ln_sI, y_ln_sL, y_ln_sR, y_ln_cpI, y_ln_cpL, y_sz_sI, y_sz_sL, y_sz_sR, y_sz_cpI, y_sz_cpL, y_sl_sI, y_sl_sL, y_sl_sR, y_sl_cpI, y_sl_cpL, y_gI_sL, y_gI_sR, y_gI_cpI, y_gI_cpL, y_gI_nw, y_gL_sI, y_gL_sR, y_gL_cpI, y_gL_cpL, y_gL_nw, y_gR_sI, y_gR_sL, y_gR_cpI, y_gR_cpL, y_gR_nw, y_kd_nw, y_ln_nw, y_sz_nw, y_sl_nw, y_fx_int, y_fx_long, y_fx_ref, y_fx_null, y_fx_U, y_rf_s, y_rf_n, a_inb, a_ix, a_lt, a_eq, a_eq0, a_lt0, a_0lt, a_m1, a_m2, a_mlt, a_sub, a_dec, a_div, a_rem, a_shl, a_shr, a_bit, a_bit0, a_II, a_Ia, a_Ik, a_LL, a_La, a_Lk, a_RR, a_Ra, a_Rk, a_if0, a_if1, y_mul, y_and, y_or, nI_add, y_b1, y_b0, kon_v, kon_0, true_or, or_true, and_self, true_and, and_true, false_or, or_false, and_false, false_and, not_true_eq_false, not_false_eq_true, ite_self, ↓reduceIte, Nat.reduceEqDiff, Nat.reduceLeDiff, Nat.reduceAdd, Nat.reduceMul, Nat.reduceSub, Nat.reduceLT, Nat.reduceShiftLeft, Nat.reduceOr, Nat.reduceAnd, Bool.false_eq_true, b_if, b_z1, b_z0, b_zz, b_a1, b_a0, b_lc, b_zF, b_zT, b_lbit, k1, k2, k3, k4, k5, k6, k7, k8, w2, d1, d2, e5, va_rf, q1, q2, z2, z5, n_Shelf_holdField, s_Shelf_holdField_0, s_Shelf_holdField_1, s_Shelf_holdField_2, s_Shelf_holdField_5, s_Shelf_holdField_6, s_Shelf_holdField_7, s_Shelf_holdField_10, s_Shelf_holdField_11, s_Shelf_holdField_12, s_Shelf_holdField_15]
      · exact Hb_y hi ⟨z1, by rw [c2, a_lt (by omega) (by omega)]; exact z4⟩ c) 8 0 () h rfl ⟨sam.rf, Hb_0 c⟩
  refine ⟨h2, ?_, s, c'⟩
  rw [i0, i1, s_DC_back_27]
  have e5 : (8 < 8) = False := eq_false (by decide)
  simp (disch := omega) only [s_DC_back_0, s_DC_back_1, s_DC_back_4, s_DC_back_7, s_DC_back_8, s_DC_back_10, s_DC_back_13, s_DC_back_14, s_DC_back_15, s_DC_back_18, s_DC_back_19, s_DC_back_22, s_DC_back_25, s_DC_back_26, s_DC_back_28, s_DC_back_30, s_DC_back_33, s_DC_back_34, s_DC_back_37, s_DC_back_38, s_DC_back_39, s_DC_back_42, s_DC_back_45, s_DC_back_46, s_DC_back_49, s_DC_back_50, s_DC_back_53, s_DC_back_54, s_DC_back_55, s_DC_back_58, s_DC_back_61, s_DC_back_64, s_DC_back_65, s_DC_back_68, s_DC_back_69, s_DC_back_70, s_DC_back_71, s_DC_back_74, s_DC_back_77, s_DC_back_80, s_DC_back_81, y_kd_sI, y_kd_sL, y_kd_sR, y_kd_cpI, y_kd_cpL, y_ln_sI, y_ln_sL, y_ln_sR, y_ln_cpI, y_ln_cpL, y_sz_sI, y_sz_sL, y_sz_sR, y_sz_cpI, y_sz_cpL, y_sl_sI, y_sl_sL, y_sl_sR, y_sl_cpI, y_sl_cpL, y_gI_sL, y_gI_sR, y_gI_cpI, y_gI_cpL, y_gI_nw, y_gL_sI, y_gL_sR, y_gL_cpI, y_gL_cpL, y_gL_nw, y_gR_sI, y_gR_sL, y_gR_cpI, y_gR_cpL, y_gR_nw, y_kd_nw, y_ln_nw, y_sz_nw, y_sl_nw, y_fx_int, y_fx_long, y_fx_ref, y_fx_null, y_fx_U, y_rf_s, y_rf_n, a_inb, a_ix, a_lt, a_eq, a_eq0, a_lt0, a_0lt, a_m1, a_m2, a_mlt, a_sub, a_dec, a_div, a_rem, a_shl, a_shr, a_bit, a_bit0, a_II, a_Ia, a_Ik, a_LL, a_La, a_Lk, a_RR, a_Ra, a_Rk, a_if0, a_if1, y_mul, y_and, y_or, nI_add, y_b1, y_b0, kon_v, kon_0, true_or, or_true, and_self, true_and, and_true, false_or, or_false, and_false, false_and, not_true_eq_false, not_false_eq_true, ite_self, ↓reduceIte, Nat.reduceEqDiff, Nat.reduceLeDiff, Nat.reduceAdd, Nat.reduceMul, Nat.reduceSub, Nat.reduceLT, Nat.reduceShiftLeft, Nat.reduceOr, Nat.reduceAnd, Bool.false_eq_true, b_if, b_z1, b_z0, b_zz, b_a1, b_a0, b_lc, b_zF, b_zT, b_lbit, e5]
/-- the class takes its land back -/
theorem c_back (k : kX H T Λ K true) (hb : bX g B h) (hc : cX g B h H T Λ K true ρ) : ∃ h' : zMem, call g DC_back [.ref B] h = some (some (.int (nI 1)), h') ∧ shp h h' ∧ smF (B + 145) (B + 145 + 359) h h' ∧ bX g B h' ∧ cX g B h' (Hb H (zF K) 8) T K K true ρ := by
  have hB : 0 < B := by have := hc.1.2.2.2.2.2.2.2; omega
  have kK := k.2.2.2 rfl
  obtain ⟨c1, c2, c3, c4, c5, c6, c7, c8, c9⟩ := hc
  have c9 := c9 rfl
  obtain ⟨d1, d2, d3, d4, d5, d6, d7, d8⟩ := c1
  obtain ⟨h1, e, sm, cl, qe⟩ := c_become (g := g) (o := B + 77) (m := B + 23) (Λ := K) (by omega) d2 d4 d3 d5 kK c9 c7
  obtain ⟨h2, e2, sm2, cs⟩ := c_shelves (g := g) kK.1.1 k.2.2.1.1.1 k.1 (sm.dc d1) (sm.la d2) cl.1.1 (cSh_fr (sm.out (by omega)) c2)
  have s : shp h h2 := shp_tr sm.sh sm2.sh
  have ff : ∀ lo hi : Nat, (hi < B + 2 ∨ B + 17 < lo) → (hi < B + 23 ∨ B + 23 + 53 < lo) → smF lo hi h h2 := fun lo hi n1 n2 => (sm.out (by omega)).tr (sm2.out (by omega))
  refine ⟨h2, ?_, s, ff _ _ (by omega) (by omega), bX_fr s (ff _ _ (by omega) (by omega)) hb, cSP_fr s (ff _ _ (by omega) (by omega)) (ff _ _ (by omega) (by omega)) ⟨d1, d2, d3, d4, d5, d6, d7, d8⟩, cs, cTp_fr (ff _ _ (by omega) (by omega)) c3, cRf_fr (ff _ _ (by omega) (by omega)) c4, ?_, cL_fr kK (sm2.out (by omega)) cl, qE_fr (sm2.out (by omega)) qe, qE_fr (ff _ _ (by omega) (by omega)) c8, fun _ => cL_fr kK (ff _ _ (by omega) (by omega)) c9⟩
  · have k1 := dc_k d1
    have r3 := dc_r3 d1
    have r2 := dc_r2 d1
    have k4 := la_k d2
    have c5 : gI h B 4 = nI 1 := c5
    have go : call g DC_back [.ref B] h = ev g DC_back 25 [.ref B, zU] [] h1 := by
      rw [n_DC_back]
      simp (disch := omega) only [s_DC_back_0, s_DC_back_1, s_DC_back_4, s_DC_back_7, s_DC_back_8, s_DC_back_10, s_DC_back_13, s_DC_back_14, s_DC_back_15, s_DC_back_18, s_DC_back_19, s_DC_back_22, s_DC_back_26, s_DC_back_27, s_DC_back_28, s_DC_back_30, s_DC_back_33, s_DC_back_34, s_DC_back_37, s_DC_back_38, s_DC_back_39, s_DC_back_42, s_DC_back_45, s_DC_back_46, s_DC_back_49, s_DC_back_50, s_DC_back_53, s_DC_back_54, s_DC_back_55, s_DC_back_58, s_DC_back_61, s_DC_back_64, s_DC_back_65, s_DC_back_68, s_DC_back_69, s_DC_back_70, s_DC_back_71, s_DC_back_74, s_DC_back_77, s_DC_back_80, s_DC_back_81, y_kd_sI, y_kd_sL, y_kd_sR, y_kd_cpI, y_kd_cpL, y_ln_sI, y_ln_sL, y_ln_sR, y_ln_cpI, y_ln_cpL, y_sz_sI, y_sz_sL, y_sz_sR, y_sz_cpI, y_sz_cpL, y_sl_sI, y_sl_sL, y_sl_sR, y_sl_cpI, y_sl_cpL, y_gI_sL, y_gI_sR, y_gI_cpI, y_gI_cpL, y_gI_nw, y_gL_sI, y_gL_sR, y_gL_cpI, y_gL_cpL, y_gL_nw, y_gR_sI, y_gR_sL, y_gR_cpI, y_gR_cpL, y_gR_nw, y_kd_nw, y_ln_nw, y_sz_nw, y_sl_nw, y_fx_int, y_fx_long, y_fx_ref, y_fx_null, y_fx_U, y_rf_s, y_rf_n, a_inb, a_ix, a_lt, a_eq, a_eq0, a_lt0, a_0lt, a_m1, a_m2, a_mlt, a_sub, a_dec, a_div, a_rem, a_shl, a_shr, a_bit, a_bit0, a_II, a_Ia, a_Ik, a_LL, a_La, a_Lk, a_RR, a_Ra, a_Rk, a_if0, a_if1, y_mul, y_and, y_or, nI_add, y_b1, y_b0, kon_v, kon_0, true_or, or_true, and_self, true_and, and_true, false_or, or_false, and_false, false_and, not_true_eq_false, not_false_eq_true, ite_self, ↓reduceIte, Nat.reduceEqDiff, Nat.reduceLeDiff, Nat.reduceAdd, Nat.reduceMul, Nat.reduceSub, Nat.reduceLT, Nat.reduceShiftLeft, Nat.reduceOr, Nat.reduceAnd, Bool.false_eq_true, b_if, b_z1, b_z0, b_zz, b_a1, b_a0, b_lc, b_zF, b_zT, b_lbit, k1, r3, r2, k4, c5, va_rf, e]
    rw [go, e2]
  · exact ((ff B B (by omega) (by omega)).1 B 4 (by omega) (by omega)).trans c5
/-- the reference's shelves -/
theorem m_shelves (hn : n ≤ 10) {nf : Nat} (hf : nf ≤ 10) (k : kSh nf H) (o : oMo h m) (h1 : gI h m 9 = nI n) (c : mSh h m H) : ∃ h' : zMem, ev g Mo_back 22 [.ref m, zU] [] h = some (some (.int (nI 1)), h') ∧ sam (m + 1) (m + 1) h h' ∧ (∀ j : Nat, gL h' (m + 1) j = gL h (m + 1) j) ∧ ∀ s : Nat, s < 8 → gI h' (m + 1) s = if bk (H.2.2.1 s) n then nI 0 else gI h (m + 1) s := by
  have i0 : ev g Mo_back 22 [.ref m, zU] [] h = ev g Mo_back 24 [.ref m, .int (nI 0)] [] h := by
    simp (disch := omega) only [s_Mo_back_0, s_Mo_back_1, s_Mo_back_4, s_Mo_back_4n, s_Mo_back_4r, s_Mo_back_7, s_Mo_back_8, s_Mo_back_10, s_Mo_back_13, s_Mo_back_14, s_Mo_back_15, s_Mo_back_16, s_Mo_back_19, s_Mo_back_22, s_Mo_back_23, s_Mo_back_25, s_Mo_back_27, s_Mo_back_30, s_Mo_back_31, s_Mo_back_34, s_Mo_back_35, s_Mo_back_36, s_Mo_back_37, s_Mo_back_40, s_Mo_back_41, s_Mo_back_44, s_Mo_back_45, s_Mo_back_46, s_Mo_back_47, s_Mo_back_50, s_Mo_back_53, s_Mo_back_54, s_Mo_back_57, s_Mo_back_58, s_Mo_back_59, s_Mo_back_60, s_Mo_back_63, s_Mo_back_66, s_Mo_back_67, y_kd_sI, y_kd_sL, y_kd_sR, y_kd_cpI, y_kd_cpL, y_ln_sI, y_ln_sL, y_ln_sR, y_ln_cpI, y_ln_cpL, y_sz_sI, y_sz_sL, y_sz_sR, y_sz_cpI, y_sz_cpL, y_sl_sI, y_sl_sL, y_sl_sR, y_sl_cpI, y_sl_cpL, y_gI_sL, y_gI_sR, y_gI_cpI, y_gI_cpL, y_gI_nw, y_gL_sI, y_gL_sR, y_gL_cpI, y_gL_cpL, y_gL_nw, y_gR_sI, y_gR_sL, y_gR_cpI, y_gR_cpL, y_gR_nw, y_kd_nw, y_ln_nw, y_sz_nw, y_sl_nw, y_fx_int, y_fx_long, y_fx_ref, y_fx_null, y_fx_U, y_rf_s, y_rf_n, a_inb, a_ix, a_lt, a_eq, a_eq0, a_lt0, a_0lt, a_m1, a_m2, a_mlt, a_sub, a_dec, a_div, a_rem, a_shl, a_shr, a_bit, a_bit0, a_II, a_Ia, a_Ik, a_LL, a_La, a_Lk, a_RR, a_Ra, a_Rk, a_if0, a_if1, y_mul, y_and, y_or, nI_add, y_b1, y_b0, kon_v, kon_0, true_or, or_true, and_self, true_and, and_true, false_or, or_false, and_false, false_and, not_true_eq_false, not_false_eq_true, ite_self, ↓reduceIte, Nat.reduceEqDiff, Nat.reduceLeDiff, Nat.reduceAdd, Nat.reduceMul, Nat.reduceSub, Nat.reduceLT, Nat.reduceShiftLeft, Nat.reduceOr, Nat.reduceAnd, Bool.false_eq_true, b_if, b_z1, b_z0, b_zz, b_a1, b_a0, b_lc, b_zF, b_zT, b_lbit]
  obtain ⟨_, h2, i1, s, t, c'⟩ := l_loop (α := Unit) (g := g) (M := Mo_back) (pc := 24) (st := []) (n := 8) (fun i _ => [.ref m, .int (nI i)]) (fun i _ h' => sam (m + 1) (m + 1) h h' ∧ (∀ j : Nat, gL h' (m + 1) j = gL h (m + 1) j) ∧ ∀ s : Nat, s < 8 → gI h' (m + 1) s = if s < i ∧ bk (H.2.2.1 s) n then nI 0 else gI h (m + 1) s) (fun i x h' hi ⟨s, t, c'⟩ => by
    have o' := s.mo o
    have v1 : gI h' m 9 = nI n := (s.2.2.2.2.2.1 _ _ (by omega)).trans h1
    have v2 : gI h' (m + 1) i = gI h (m + 1) i := by
      have := c' i hi
      rw [if_neg (fun z => Nat.lt_irrefl _ z.1)] at this
      exact this
    have v3 : gI h' (m + 13) i = gI h (m + 13) i := s.2.2.2.2.2.1 _ _ (by omega)
    obtain ⟨c1, c2, c3⟩ := c i hi
    have k1 := mo_k o'
    have k2 := mo_r0 o'
    have k3 := mo_k0 o'
    have k4 := mo_l0 o'
    have k5 := mo_r4 o'
    have k6 := mo_k4 o'
    have k7 := mo_l4 o'
    have e5 : (i < 8) = True := eq_true hi
    have no : ¬ bk (H.2.2.1 i) n → ∀ s : Nat, s < 8 → gI h' (m + 1) s = if s < i + 1 ∧ bk (H.2.2.1 s) n then nI 0 else gI h (m + 1) s := fun nb s hs => by
      rw [c' s hs]
      by_cases q : s = i
      · rw [q, if_neg (fun z => nb z.2), if_neg (fun z => nb z.2)]
      · by_cases z : s < i ∧ bk (H.2.2.1 s) n
        · rw [if_pos z, if_pos ⟨by omega, z.2⟩]
        · rw [if_neg z, if_neg (fun y => z ⟨by omega, y.2⟩)]
    rw [s_Mo_back_24]
    by_cases z1 : H.2.2.1 i = -1
    · have z2 : (gI h' (m + 1) i = nI 2) = False := by
        apply eq_false
        rw [v2, c1, if_neg (fun c => c z1)]
        split
        · decide
        · decide
      refine ⟨(), h', ?_, s, t, no (fun z => z.1 z1)⟩
      simp (disch := omega) only [s_Mo_back_0, s_Mo_back_1, s_Mo_back_4, s_Mo_back_4n, s_Mo_back_4r, s_Mo_back_7, s_Mo_back_8, s_Mo_back_10, s_Mo_back_13, s_Mo_back_14, s_Mo_back_15, s_Mo_back_16, s_Mo_back_19, s_Mo_back_22, s_Mo_back_23, s_Mo_back_25, s_Mo_back_27, s_Mo_back_30, s_Mo_back_31, s_Mo_back_34, s_Mo_back_35, s_Mo_back_36, s_Mo_back_37, s_Mo_back_40, s_Mo_back_41, s_Mo_back_44, s_Mo_back_45, s_Mo_back_46, s_Mo_back_47, s_Mo_back_50, s_Mo_back_53, s_Mo_back_54, s_Mo_back_57, s_Mo_back_58, s_Mo_back_59, s_Mo_back_60, s_Mo_back_63, s_Mo_back_66, s_Mo_back_67, y_kd_sI, y_kd_sL, y_kd_sR, y_kd_cpI, y_kd_cpL, y_ln_sI, y_ln_sL, y_ln_sR, y_ln_cpI, y_ln_cpL, y_sz_sI, y_sz_sL, y_sz_sR, y_sz_cpI, y_sz_cpL, y_sl_sI, y_sl_sL, y_sl_sR, y_sl_cpI, y_sl_cpL, y_gI_sL, y_gI_sR, y_gI_cpI, y_gI_cpL, y_gI_nw, y_gL_sI, y_gL_sR, y_gL_cpI, y_gL_cpL, y_gL_nw, y_gR_sI, y_gR_sL, y_gR_cpI, y_gR_cpL, y_gR_nw, y_kd_nw, y_ln_nw, y_sz_nw, y_sl_nw, y_fx_int, y_fx_long, y_fx_ref, y_fx_null, y_fx_U, y_rf_s, y_rf_n, a_inb, a_ix, a_lt, a_eq, a_eq0, a_lt0, a_0lt, a_m1, a_m2, a_mlt, a_sub, a_dec, a_div, a_rem, a_shl, a_shr, a_bit, a_bit0, a_II, a_Ia, a_Ik, a_LL, a_La, a_Lk, a_RR, a_Ra, a_Rk, a_if0, a_if1, y_mul, y_and, y_or, nI_add, y_b1, y_b0, kon_v, kon_0, true_or, or_true, and_self, true_and, and_true, false_or, or_false, and_false, false_and, not_true_eq_false, not_false_eq_true, ite_self, ↓reduceIte, Nat.reduceEqDiff, Nat.reduceLeDiff, Nat.reduceAdd, Nat.reduceMul, Nat.reduceSub, Nat.reduceLT, Nat.reduceShiftLeft, Nat.reduceOr, Nat.reduceAnd, Bool.false_eq_true, b_if, b_z1, b_z0, b_zz, b_a1, b_a0, b_lc, b_zF, b_zT, b_lbit, k1, k2, k3, k4, e5, va_rf, z2]
    have z2 : (gI h' (m + 1) i = nI 2) = True := by
      apply eq_true
      rw [v2, c1, if_pos z1]
    rcases k i hi with ⟨-, c3⟩ | ⟨c3, -⟩ | ⟨-, f, c4, c5⟩
    · exact absurd c3 z1
    · exact absurd c3 z1
    have v4 : gI h' (m + 13) i = nI f := by rw [v3, c3 z1, c4]
    by_cases z4 : f < n
    · have z5 : (f < n) = True := eq_true z4
      refine ⟨(), h', ?_, s, t, no (fun z => z.2 (by rw [c4, a_lt (by omega) (by omega)]; exact z4))⟩
      simp (disch := omega) only [s_Mo_back_0, s_Mo_back_1, s_Mo_back_4, s_Mo_back_4n, s_Mo_back_4r, s_Mo_back_7, s_Mo_back_8, s_Mo_back_10, s_Mo_back_13, s_Mo_back_14, s_Mo_back_15, s_Mo_back_16, s_Mo_back_19, s_Mo_back_22, s_Mo_back_23, s_Mo_back_25, s_Mo_back_27, s_Mo_back_30, s_Mo_back_31, s_Mo_back_34, s_Mo_back_35, s_Mo_back_36, s_Mo_back_37, s_Mo_back_40, s_Mo_back_41, s_Mo_back_44, s_Mo_back_45, s_Mo_back_46, s_Mo_back_47, s_Mo_back_50, s_Mo_back_53, s_Mo_back_54, s_Mo_back_57, s_Mo_back_58, s_Mo_back_59, s_Mo_back_60, s_Mo_back_63, s_Mo_back_66, s_Mo_back_67, y_kd_sI, y_kd_sL, y_kd_sR, y_kd_cpI, y_kd_cpL, y_ln_sI, y_ln_sL, y_ln_sR, y_ln_cpI, y_ln_cpL, y_sz_sI, y_sz_sL, y_sz_sR, y_sz_cpI, y_sz_cpL, y_sl_sI, y_sl_sL, y_sl_sR, y_sl_cpI, y_sl_cpL, y_gI_sL, y_gI_sR, y_gI_cpI, y_gI_cpL, y_gI_nw, y_gL_sI, y_gL_sR, y_gL_cpI, y_gL_cpL, y_gL_nw, y_gR_sI, y_gR_sL, y_gR_cpI, y_gR_cpL, y_gR_nw, y_kd_nw, y_ln_nw, y_sz_nw, y_sl_nw, y_fx_int, y_fx_long, y_fx_ref, y_fx_null, y_fx_U, y_rf_s, y_rf_n, a_inb, a_ix, a_lt, a_eq, a_eq0, a_lt0, a_0lt, a_m1, a_m2, a_mlt, a_sub, a_dec, a_div, a_rem, a_shl, a_shr, a_bit, a_bit0, a_II, a_Ia, a_Ik, a_LL, a_La, a_Lk, a_RR, a_Ra, a_Rk, a_if0, a_if1, y_mul, y_and, y_or, nI_add, y_b1, y_b0, kon_v, kon_0, true_or, or_true, and_self, true_and, and_true, false_or, or_false, and_false, false_and, not_true_eq_false, not_false_eq_true, ite_self, ↓reduceIte, Nat.reduceEqDiff, Nat.reduceLeDiff, Nat.reduceAdd, Nat.reduceMul, Nat.reduceSub, Nat.reduceLT, Nat.reduceShiftLeft, Nat.reduceOr, Nat.reduceAnd, Bool.false_eq_true, b_if, b_z1, b_z0, b_zz, b_a1, b_a0, b_lc, b_zF, b_zT, b_lbit, k1, k2, k3, k4, k5, k6, k7, e5, va_rf, z2, v1, v4, z5]
    · have z5 : (f < n) = False := eq_false z4
      have yb : bk (H.2.2.1 i) n := ⟨z1, by rw [c4, a_lt (by omega) (by omega)]; exact z4⟩
      refine ⟨(), sI h' (m + 1) i (nI 0), ?_, s.aI (by omega), t, fun s hs => ?_⟩
      · simp (disch := omega) only [s_Mo_back_0, s_Mo_back_1, s_Mo_back_4, s_Mo_back_4n, s_Mo_back_4r, s_Mo_back_7, s_Mo_back_8, s_Mo_back_10, s_Mo_back_13, s_Mo_back_14, s_Mo_back_15, s_Mo_back_16, s_Mo_back_19, s_Mo_back_22, s_Mo_back_23, s_Mo_back_25, s_Mo_back_27, s_Mo_back_30, s_Mo_back_31, s_Mo_back_34, s_Mo_back_35, s_Mo_back_36, s_Mo_back_37, s_Mo_back_40, s_Mo_back_41, s_Mo_back_44, s_Mo_back_45, s_Mo_back_46, s_Mo_back_47, s_Mo_back_50, s_Mo_back_53, s_Mo_back_54, s_Mo_back_57, s_Mo_back_58, s_Mo_back_59, s_Mo_back_60, s_Mo_back_63, s_Mo_back_66, s_Mo_back_67, y_kd_sI, y_kd_sL, y_kd_sR, y_kd_cpI, y_kd_cpL, y_ln_sI, y_ln_sL, y_ln_sR, y_ln_cpI, y_ln_cpL, y_sz_sI, y_sz_sL, y_sz_sR, y_sz_cpI, y_sz_cpL, y_sl_sI, y_sl_sL, y_sl_sR, y_sl_cpI, y_sl_cpL, y_gI_sL, y_gI_sR, y_gI_cpI, y_gI_cpL, y_gI_nw, y_gL_sI, y_gL_sR, y_gL_cpI, y_gL_cpL, y_gL_nw, y_gR_sI, y_gR_sL, y_gR_cpI, y_gR_cpL, y_gR_nw, y_kd_nw, y_ln_nw, y_sz_nw, y_sl_nw, y_fx_int, y_fx_long, y_fx_ref, y_fx_null, y_fx_U, y_rf_s, y_rf_n, a_inb, a_ix, a_lt, a_eq, a_eq0, a_lt0, a_0lt, a_m1, a_m2, a_mlt, a_sub, a_dec, a_div, a_rem, a_shl, a_shr, a_bit, a_bit0, a_II, a_Ia, a_Ik, a_LL, a_La, a_Lk, a_RR, a_Ra, a_Rk, a_if0, a_if1, y_mul, y_and, y_or, nI_add, y_b1, y_b0, kon_v, kon_0, true_or, or_true, and_self, true_and, and_true, false_or, or_false, and_false, false_and, not_true_eq_false, not_false_eq_true, ite_self, ↓reduceIte, Nat.reduceEqDiff, Nat.reduceLeDiff, Nat.reduceAdd, Nat.reduceMul, Nat.reduceSub, Nat.reduceLT, Nat.reduceShiftLeft, Nat.reduceOr, Nat.reduceAnd, Bool.false_eq_true, b_if, b_z1, b_z0, b_zz, b_a1, b_a0, b_lc, b_zF, b_zT, b_lbit, k1, k2, k3, k4, k5, k6, k7, e5, va_rf, z2, v1, v4, z5]
      · by_cases q : s = i
        · rw [q, a_II, if_pos ⟨by omega, yb⟩]
        · rw [a_Ik q, c' s hs]
          by_cases z : s < i ∧ bk (H.2.2.1 s) n
          · rw [if_pos z, if_pos ⟨by omega, z.2⟩]
          · rw [if_neg z, if_neg (fun y => z ⟨by omega, y.2⟩)]) 8 0 () h rfl ⟨sam.rf, fun _ => rfl, fun s _ => by rw [if_neg (fun z => Nat.not_lt_zero _ z.1)]⟩
  refine ⟨h2, ?_, s, t, fun s hs => ?_⟩
  · rw [i0, i1, s_Mo_back_24]
    have e5 : (8 < 8) = False := eq_false (by decide)
    simp (disch := omega) only [s_Mo_back_0, s_Mo_back_1, s_Mo_back_4, s_Mo_back_4n, s_Mo_back_4r, s_Mo_back_7, s_Mo_back_8, s_Mo_back_10, s_Mo_back_13, s_Mo_back_14, s_Mo_back_15, s_Mo_back_16, s_Mo_back_19, s_Mo_back_22, s_Mo_back_23, s_Mo_back_25, s_Mo_back_27, s_Mo_back_30, s_Mo_back_31, s_Mo_back_34, s_Mo_back_35, s_Mo_back_36, s_Mo_back_37, s_Mo_back_40, s_Mo_back_41, s_Mo_back_44, s_Mo_back_45, s_Mo_back_46, s_Mo_back_47, s_Mo_back_50, s_Mo_back_53, s_Mo_back_54, s_Mo_back_57, s_Mo_back_58, s_Mo_back_59, s_Mo_back_60, s_Mo_back_63, s_Mo_back_66, s_Mo_back_67, y_kd_sI, y_kd_sL, y_kd_sR, y_kd_cpI, y_kd_cpL, y_ln_sI, y_ln_sL, y_ln_sR, y_ln_cpI, y_ln_cpL, y_sz_sI, y_sz_sL, y_sz_sR, y_sz_cpI, y_sz_cpL, y_sl_sI, y_sl_sL, y_sl_sR, y_sl_cpI, y_sl_cpL, y_gI_sL, y_gI_sR, y_gI_cpI, y_gI_cpL, y_gI_nw, y_gL_sI, y_gL_sR, y_gL_cpI, y_gL_cpL, y_gL_nw, y_gR_sI, y_gR_sL, y_gR_cpI, y_gR_cpL, y_gR_nw, y_kd_nw, y_ln_nw, y_sz_nw, y_sl_nw, y_fx_int, y_fx_long, y_fx_ref, y_fx_null, y_fx_U, y_rf_s, y_rf_n, a_inb, a_ix, a_lt, a_eq, a_eq0, a_lt0, a_0lt, a_m1, a_m2, a_mlt, a_sub, a_dec, a_div, a_rem, a_shl, a_shr, a_bit, a_bit0, a_II, a_Ia, a_Ik, a_LL, a_La, a_Lk, a_RR, a_Ra, a_Rk, a_if0, a_if1, y_mul, y_and, y_or, nI_add, y_b1, y_b0, kon_v, kon_0, true_or, or_true, and_self, true_and, and_true, false_or, or_false, and_false, false_and, not_true_eq_false, not_false_eq_true, ite_self, ↓reduceIte, Nat.reduceEqDiff, Nat.reduceLeDiff, Nat.reduceAdd, Nat.reduceMul, Nat.reduceSub, Nat.reduceLT, Nat.reduceShiftLeft, Nat.reduceOr, Nat.reduceAnd, Bool.false_eq_true, b_if, b_z1, b_z0, b_zz, b_a1, b_a0, b_lc, b_zF, b_zT, b_lbit, e5]
  · rw [c' s hs]
    by_cases z : bk (H.2.2.1 s) n
    · rw [if_pos ⟨hs, z⟩, if_pos z]
    · rw [if_neg (fun y => z y.2), if_neg z]
theorem not_moD {k i : Nat} (h : (1 ≤ k ∧ k < 17) ∨ k = 85 ∨ k = 175 ∨ (k = 0 ∧ (i = 7 ∨ i = 52 ∨ i = 53)) ∨ (k = 90 ∧ i = 52)) : ¬ moD k i := by
  unfold moD
  rintro z
  have z' := z
  repeat' (first | rcases z with z | z)
  all_goals omega
theorem mL_sh (e : ∀ b k : Nat, (b = m ∨ m + 15 ≤ b) → gI h' b k = gI h b k) (eL : ∀ b k : Nat, (b < m + 5 ∨ m + 14 < b) → gL h' b k = gL h b k) (c8 : mL h m Λ) : mL h' m Λ := by
  obtain ⟨l1, l2, l3, l4, l5, l6, l7⟩ := c8
  refine ⟨⟨(e _ _ (by omega)).trans l1.1, fun f hf => ?_⟩, ⟨(e _ _ (by omega)).trans l2.1, fun f hf => ?_⟩, fun w hw => (e _ _ (by omega)).trans (l3 w hw), ⟨(e _ _ (by omega)).trans l4.1, fun w hw => ?_⟩, ⟨(e _ _ (by omega)).trans l5.1, fun w hw => (e _ _ (by omega)).trans (l5.2 w hw)⟩, fun y => (e _ _ (by omega)).trans (l6 y), fun y => ⟨(e _ _ (by omega)).trans (l7 y).1, (e _ _ (by omega)).trans (l7 y).2.1, rMS_fr' (fun b k hb => e b k (by omega)) (l7 y).2.2⟩⟩
  · rw [e _ _ (by omega), e _ _ (by omega), e _ _ (by omega), e _ _ (by omega), eL _ _ (by omega)]; exact l1.2 f hf
  · rw [e _ _ (by omega), e _ _ (by omega), e _ _ (by omega), e _ _ (by omega), e _ _ (by omega), e _ _ (by omega), e _ _ (by omega), e _ _ (by omega), e _ _ (by omega)]; exact l2.2 f hf
  · rw [e _ _ (by omega), e _ _ (by omega)]; exact l4.2 w hw
theorem j_back (j : JX g B SL h) : JJ g B SL DC_back Mo_back [] h := by
  obtain ⟨H, T, Λ, K, κ, ρ, j⟩ := j.p
  have hB := j.2.2.1.1.2.2.2.2.2.2.2
  cases κ with
  | false =>
    have c5 : gI h B 4 = nI 0 := j.2.2.1.2.2.2.2.1
    have r33 : gR h (B + 145) 33 = none := (j.2.2.2.2.2.2.2.2.2.2.2.1 rfl).1
    refine ⟨sI h (B + 131) 3 (gI h (B + 131) 3 + nI 1), _, -5, ?_, ?_, ((j.rc (i := 3) (by decide)).rm (i := 3) (by decide)).x⟩
    · rw [n_DC_back]
      simp (disch := omega) only [s_DC_back_0, s_DC_back_1, s_DC_back_4, s_DC_back_7, s_DC_back_8, s_DC_back_10, s_DC_back_13, s_DC_back_14, s_DC_back_15, s_DC_back_18, s_DC_back_19, s_DC_back_22, s_DC_back_25, s_DC_back_26, s_DC_back_27, s_DC_back_28, s_DC_back_30, s_DC_back_33, s_DC_back_34, s_DC_back_37, s_DC_back_38, s_DC_back_39, s_DC_back_42, s_DC_back_45, s_DC_back_46, s_DC_back_49, s_DC_back_50, s_DC_back_53, s_DC_back_54, s_DC_back_55, s_DC_back_58, s_DC_back_61, s_DC_back_64, s_DC_back_65, s_DC_back_68, s_DC_back_69, s_DC_back_70, s_DC_back_71, s_DC_back_74, s_DC_back_77, s_DC_back_80, s_DC_back_81, y_kd_sI, y_kd_sL, y_kd_sR, y_kd_cpI, y_kd_cpL, y_ln_sI, y_ln_sL, y_ln_sR, y_ln_cpI, y_ln_cpL, y_sz_sI, y_sz_sL, y_sz_sR, y_sz_cpI, y_sz_cpL, y_sl_sI, y_sl_sL, y_sl_sR, y_sl_cpI, y_sl_cpL, y_gI_sL, y_gI_sR, y_gI_cpI, y_gI_cpL, y_gI_nw, y_gL_sI, y_gL_sR, y_gL_cpI, y_gL_cpL, y_gL_nw, y_gR_sI, y_gR_sL, y_gR_cpI, y_gR_cpL, y_gR_nw, y_kd_nw, y_ln_nw, y_sz_nw, y_sl_nw, y_fx_int, y_fx_long, y_fx_ref, y_fx_null, y_fx_U, y_rf_s, y_rf_n, a_inb, a_ix, a_lt, a_eq, a_eq0, a_lt0, a_0lt, a_m1, a_m2, a_mlt, a_sub, a_dec, a_div, a_rem, a_shl, a_shr, a_bit, a_bit0, a_II, a_Ia, a_Ik, a_LL, a_La, a_Lk, a_RR, a_Ra, a_Rk, a_if0, a_if1, y_mul, y_and, y_or, nI_add, y_b1, y_b0, kon_v, kon_0, true_or, or_true, and_self, true_and, and_true, false_or, or_false, and_false, false_and, not_true_eq_false, not_false_eq_true, ite_self, ↓reduceIte, Nat.reduceEqDiff, Nat.reduceLeDiff, Nat.reduceAdd, Nat.reduceMul, Nat.reduceSub, Nat.reduceLT, Nat.reduceShiftLeft, Nat.reduceOr, Nat.reduceAnd, Bool.false_eq_true, b_if, b_z1, b_z0, b_zz, b_a1, b_a0, b_lc, b_zF, b_zT, b_lbit, dc_k j.dc, c5, q_DC_refuse3 j.dc]
    · have j1 := j.rc (i := 3) (by decide)
      have r33 : gR (sI h (B + 131) 3 (gI h (B + 131) 3 + nI 1)) (B + 145) 33 = none := r33
      rw [n_Mo_back]
      simp (disch := omega) only [s_Mo_back_0, s_Mo_back_1, s_Mo_back_4, s_Mo_back_4n, s_Mo_back_4r, s_Mo_back_7, s_Mo_back_8, s_Mo_back_10, s_Mo_back_13, s_Mo_back_14, s_Mo_back_15, s_Mo_back_16, s_Mo_back_19, s_Mo_back_22, s_Mo_back_23, s_Mo_back_24, s_Mo_back_25, s_Mo_back_27, s_Mo_back_30, s_Mo_back_31, s_Mo_back_34, s_Mo_back_35, s_Mo_back_36, s_Mo_back_37, s_Mo_back_40, s_Mo_back_41, s_Mo_back_44, s_Mo_back_45, s_Mo_back_46, s_Mo_back_47, s_Mo_back_50, s_Mo_back_53, s_Mo_back_54, s_Mo_back_57, s_Mo_back_58, s_Mo_back_59, s_Mo_back_60, s_Mo_back_63, s_Mo_back_66, s_Mo_back_67, y_kd_sI, y_kd_sL, y_kd_sR, y_kd_cpI, y_kd_cpL, y_ln_sI, y_ln_sL, y_ln_sR, y_ln_cpI, y_ln_cpL, y_sz_sI, y_sz_sL, y_sz_sR, y_sz_cpI, y_sz_cpL, y_sl_sI, y_sl_sL, y_sl_sR, y_sl_cpI, y_sl_cpL, y_gI_sL, y_gI_sR, y_gI_cpI, y_gI_cpL, y_gI_nw, y_gL_sI, y_gL_sR, y_gL_cpI, y_gL_cpL, y_gL_nw, y_gR_sI, y_gR_sL, y_gR_cpI, y_gR_cpL, y_gR_nw, y_kd_nw, y_ln_nw, y_sz_nw, y_sl_nw, y_fx_int, y_fx_long, y_fx_ref, y_fx_null, y_fx_U, y_rf_s, y_rf_n, a_inb, a_ix, a_lt, a_eq, a_eq0, a_lt0, a_0lt, a_m1, a_m2, a_mlt, a_sub, a_dec, a_div, a_rem, a_shl, a_shr, a_bit, a_bit0, a_II, a_Ia, a_Ik, a_LL, a_La, a_Lk, a_RR, a_Ra, a_Rk, a_if0, a_if1, y_mul, y_and, y_or, nI_add, y_b1, y_b0, kon_v, kon_0, true_or, or_true, and_self, true_and, and_true, false_or, or_false, and_false, false_and, not_true_eq_false, not_false_eq_true, ite_self, ↓reduceIte, Nat.reduceEqDiff, Nat.reduceLeDiff, Nat.reduceAdd, Nat.reduceMul, Nat.reduceSub, Nat.reduceLT, Nat.reduceShiftLeft, Nat.reduceOr, Nat.reduceAnd, Bool.false_eq_true, b_if, b_z1, b_z0, b_zz, b_a1, b_a0, b_lc, b_zF, b_zT, b_lbit, mo_k j1.mo, r33, va_rf, q_Mo_refuse3 j1.mo]
      try rfl
  | true =>
    obtain ⟨k, hb, hc, hm⟩ := j
    obtain ⟨h1, e1, s, f, b1, c1⟩ := c_back (g := g) k hb hc
    have hm1 := mX_fr k s f hm
    have kK := k.2.2.2 rfl
    have k' : kX (Hb H (zF K) 8) T K K true := ⟨Hb_k kK.1.1 k.2.2.1.1.1 k.1, k.2.1, kK, fun _ => kK⟩
    obtain ⟨m1, m2, m3, m4, m5, m6, m7, m8, m9⟩ := hm1
    obtain ⟨r33, z, w, o1, o2, r42, mK⟩ := m9.2 rfl
    obtain ⟨h2, e2, c⟩ := c_takeFrom (g := g) (o := B + 145 + 180) (m := B + 145) (h := h1) (by omega) m1.1 o1 m1.2.2.1 o2 m1.2.1 r42
    have sm : sam (B + 145) (B + 145 + 179) h1 h2 := (sam.I (by omega)).tr c.1
    have l' := be_mL (Λ := K) kK c (mL_fr kK ⟨fun b k' h1 h2 => a_Ia (by omega), fun b k' _ _ => rfl⟩ mK)
    have km := mo_k m1.1
    have go : call g Mo_back [.ref (B + 145)] h1 = ev g Mo_back 22 [.ref (B + 145), zU] [] h2 := by
      rw [n_Mo_back]
      simp (disch := omega) only [s_Mo_back_0, s_Mo_back_1, s_Mo_back_4, s_Mo_back_4n, s_Mo_back_4r, s_Mo_back_7, s_Mo_back_8, s_Mo_back_10, s_Mo_back_13, s_Mo_back_14, s_Mo_back_15, s_Mo_back_16, s_Mo_back_19, s_Mo_back_23, s_Mo_back_24, s_Mo_back_25, s_Mo_back_27, s_Mo_back_30, s_Mo_back_31, s_Mo_back_34, s_Mo_back_35, s_Mo_back_36, s_Mo_back_37, s_Mo_back_40, s_Mo_back_41, s_Mo_back_44, s_Mo_back_45, s_Mo_back_46, s_Mo_back_47, s_Mo_back_50, s_Mo_back_53, s_Mo_back_54, s_Mo_back_57, s_Mo_back_58, s_Mo_back_59, s_Mo_back_60, s_Mo_back_63, s_Mo_back_66, s_Mo_back_67, y_kd_sI, y_kd_sL, y_kd_sR, y_kd_cpI, y_kd_cpL, y_ln_sI, y_ln_sL, y_ln_sR, y_ln_cpI, y_ln_cpL, y_sz_sI, y_sz_sL, y_sz_sR, y_sz_cpI, y_sz_cpL, y_sl_sI, y_sl_sL, y_sl_sR, y_sl_cpI, y_sl_cpL, y_gI_sL, y_gI_sR, y_gI_cpI, y_gI_cpL, y_gI_nw, y_gL_sI, y_gL_sR, y_gL_cpI, y_gL_cpL, y_gL_nw, y_gR_sI, y_gR_sL, y_gR_cpI, y_gR_cpL, y_gR_nw, y_kd_nw, y_ln_nw, y_sz_nw, y_sl_nw, y_fx_int, y_fx_long, y_fx_ref, y_fx_null, y_fx_U, y_rf_s, y_rf_n, a_inb, a_ix, a_lt, a_eq, a_eq0, a_lt0, a_0lt, a_m1, a_m2, a_mlt, a_sub, a_dec, a_div, a_rem, a_shl, a_shr, a_bit, a_bit0, a_II, a_Ia, a_Ik, a_LL, a_La, a_Lk, a_RR, a_Ra, a_Rk, a_if0, a_if1, y_mul, y_and, y_or, nI_add, y_b1, y_b0, kon_v, kon_0, true_or, or_true, and_self, true_and, and_true, false_or, or_false, and_false, false_and, not_true_eq_false, not_false_eq_true, ite_self, ↓reduceIte, Nat.reduceEqDiff, Nat.reduceLeDiff, Nat.reduceAdd, Nat.reduceMul, Nat.reduceSub, Nat.reduceLT, Nat.reduceShiftLeft, Nat.reduceOr, Nat.reduceAnd, Bool.false_eq_true, b_if, b_z1, b_z0, b_zz, b_a1, b_a0, b_lc, b_zF, b_zT, b_lbit, km, r33, va_rf, e2]
    have un : ∀ k i : Nat, k ≤ 179 → ¬ moD k i → ¬ (k = 0 ∧ i = 53) → gI h2 (B + 145 + k) i = gI h1 (B + 145 + k) i := fun k i hk hd ne => (c.2.2.1 k i hk hd).trans (by rw [y_gI_sI, if_neg (by omega)])
    have unL : ∀ k i : Nat, k ≤ 179 → ¬ k = 21 → gL h2 (B + 145 + k) i = gL h1 (B + 145 + k) i := fun k i hk hd => (c.2.2.2.2 k i hk (fun z => hd z.1)).trans rfl
    have f53 : gI h2 (B + 145) 53 = nI 0 := (c.2.2.1 0 53 (by omega) (not_moD (by omega))).trans a_II
    have w1 : kW h2 (B + 145) := m2.mv (fun i => un 85 i (by omega) (not_moD (by omega)) (by omega)) (un 0 52 (by omega) (not_moD (by omega)) (by omega))
    have w2 : kW h2 (B + 145 + 90) := m3.mv (fun i => un 175 i (by omega) (not_moD (by omega)) (by omega)) (un 90 52 (by omega) (not_moD (by omega)) (by omega))
    have sh2 : mSh h2 (B + 145) H := mSh_fr ⟨fun b i p q => by
      have := un (b - (B + 145)) i (by omega) (not_moD (by omega)) (by omega)
      rw [show B + 145 + (b - (B + 145)) = b by omega] at this
      exact this, fun b i p q => by
      have := unL (b - (B + 145)) i (by omega) (by omega)
      rw [show B + 145 + (b - (B + 145)) = b by omega] at this
      exact this⟩ m5
    have tp2 : mTp h2 (B + 145) T := ⟨(un 0 7 (by omega) (not_moD (by omega)) (by omega)).trans m6.1, fun i hi => (un 15 i (by omega) (not_moD (by omega)) (by omega)).trans (m6.2 i hi)⟩
    have rf2 : mRf h2 (B + 145) ρ := fun i hi => (un 16 (i + 2) (by omega) (not_moD (by omega)) (by omega)).trans (m7 i hi)
    obtain ⟨h3, e3, s3, t3, v3⟩ := m_shelves (g := g) kK.1.1 k.2.2.1.1.1 k.1 (sm.mo m1.1) l'.1.1 sh2
    have ss : sam (B + 145) (B + 145 + 179) h1 h3 := sm.tr (s3.wd (by omega) (by omega))
    have sp := ss.sh
    have ff : smF 0 (B + 144) h1 h3 := ss.out (by omega)
    have f3 : ∀ lo hi : Nat, (hi < B + 146 ∨ B + 146 < lo) → smF lo hi h2 h3 := fun lo hi n1 => s3.out (by omega)
    have f3L : smF (B + 145 + 180) (B + 145 + 359) h1 h3 := ss.out (by omega)
    refine ⟨h1, h3, nI 1, e1, by rw [go, e3], ⟨Hb H (zF K) 8, T, K, K, true, ρ, k', bX_fr sp (ff.wd (by omega) (by omega)) b1, cX_fr k' sp (ff.wd (by omega) (by omega)) c1, mSP_fr sp m1, ?_, ?_, Or.inl (((f3 (B + 145) (B + 145) (by omega)).1 _ _ (by omega) (by omega)).trans f53), fun s hs => ?_, ⟨((f3 (B + 145) (B + 145) (by omega)).1 _ _ (by omega) (by omega)).trans tp2.1, fun i hi => ((f3 (B + 145 + 15) (B + 145 + 15) (by omega)).1 _ _ (by omega) (by omega)).trans (tp2.2 i hi)⟩, fun i hi => ((f3 (B + 145 + 16) (B + 145 + 16) (by omega)).1 _ _ (by omega) (by omega)).trans (rf2 i hi), ?_, mKp_fr (fun _ => kK) sp f3L m9⟩⟩
    · exact w1.mv (fun i => (f3 (B + 145 + 85) (B + 145 + 85) (by omega)).1 _ _ (by omega) (by omega)) ((f3 (B + 145) (B + 145) (by omega)).1 _ _ (by omega) (by omega))
    · exact kW_fr (f3 _ _ (by omega)) w2
    · obtain ⟨c1, c2, c3⟩ := sh2 s hs
      have g13 : gI h3 (B + 145 + 13) s = gI h2 (B + 145 + 13) s := (f3 (B + 145 + 13) (B + 145 + 13) (by omega)).1 _ _ (by omega) (by omega)
      have g2 : gI h3 (B + 145 + 2) s = gI h2 (B + 145 + 2) s := (f3 (B + 145 + 2) (B + 145 + 2) (by omega)).1 _ _ (by omega) (by omega)
      have g3 : gI h3 (B + 145 + 3) s = gI h2 (B + 145 + 3) s := (f3 (B + 145 + 3) (B + 145 + 3) (by omega)).1 _ _ (by omega) (by omega)
      have gl : ∀ i : Nat, gL h3 (B + 145 + 5 + s) i = gL h2 (B + 145 + 5 + s) i := fun i => (f3 (B + 145 + 5) (B + 145 + 13) (by omega)).2 _ _ (by omega) (by omega)
      unfold Hb
      rw [v3 s hs]
      by_cases q : bk (H.2.2.1 s) (zF K)
      · simp only [if_pos q, if_pos (show s < 8 ∧ bk (H.2.2.1 s) (zF K) from ⟨hs, q⟩), not_true_eq_false, if_false, false_implies, implies_true, and_self, true_implies]
      · simp only [if_neg q, if_neg (show ¬ (s < 8 ∧ bk (H.2.2.1 s) (zF K)) from fun c => q c.2), g13, g2, g3, gl]
        exact ⟨c1, c2, c3⟩
    · exact mL_sh (fun b k hb => s3.2.2.2.2.2.1 b k (by omega)) (fun b k hb => by
        by_cases q : b = B + 145 + 1
        · rw [q]; exact t3 k
        · exact s3.2.2.2.2.2.2 b k (by omega)) l'
end ZBK
