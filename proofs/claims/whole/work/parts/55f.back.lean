/-! back -/
abbrev bk (x : Int32) (n : Nat) : Prop := ¬ x = -1 ∧ ¬ x < nI n
/-- shelves below i let go of what is no field now -/
def Hb (H : zH) (n i : Nat) : zH := (fun s => if s < i ∧ bk (H.2.2.1 s) n then -1 else H.1 s, fun s => if s < i ∧ bk (H.2.2.1 s) n then nI 0 else H.2.1 s, fun s => if s < i ∧ bk (H.2.2.1 s) n then -1 else H.2.2.1 s, H.2.2.2)
section ZBK
variable {g : Nat → Nat} {B SL m n i : Nat} {h h' : zMem} {H : zH} {T : zT} {Λ K : zL} {κ : Bool} {ρ : Nat → Int32}
theorem Hb_0 : cSh h B H → cSh h B (Hb H n 0) := fun c s hs => by
  obtain ⟨c1, c2, c3, c4⟩ := c s hs
  unfold Hb
  dsimp only
  refine ⟨?_, ?_, ?_, c4⟩
  · rw [if_neg (fun z => Nat.not_lt_zero _ z.1)]; exact c1
  · rw [if_neg (fun z => Nat.not_lt_zero _ z.1)]; exact c2
  · rw [if_neg (fun z => Nat.not_lt_zero _ z.1)]; exact c3
theorem Hb_n (hb : ¬ bk (H.2.2.1 i) n) : Hb H n (i + 1) = Hb H n i := by
  have e : ∀ s : Nat, (s < i + 1 ∧ bk (H.2.2.1 s) n) = (s < i ∧ bk (H.2.2.1 s) n) := fun s => by
    apply propext
    constructor
    · rintro ⟨z1, z2⟩
      refine ⟨?_, z2⟩
      by_cases q : s = i
      · rw [q] at z2; exact absurd z2 hb
      · omega
    · exact fun z => ⟨by omega, z.2⟩
  unfold Hb
  simp only [e]
theorem Hb_y (hi : i < 8) (hb : bk (H.2.2.1 i) n) (c : cSh h B (Hb H n i)) : cSh (sI (sI (sI h (B + 2 + 2 * i) 0 (-1)) (B + 2 + 2 * i) 1 (nI 0)) (B + 2 + 2 * i) 2 (-1)) B (Hb H n (i + 1)) := fun s hs => by
  obtain ⟨c1, c2, c3, c4⟩ := c s hs
  by_cases q : s = i
  · subst q
    unfold Hb
    dsimp only
    refine ⟨?_, ?_, ?_, c4⟩
    · rw [a_Ik (by decide), a_Ik (by decide), a_II, if_pos ⟨by omega, hb⟩]
    · rw [a_Ik (by decide), a_II, if_pos ⟨by omega, hb⟩]
    · rw [a_II, if_pos ⟨by omega, hb⟩]
  · have e : (s < i + 1 ∧ bk (H.2.2.1 s) n) = (s < i ∧ bk (H.2.2.1 s) n) := propext ⟨fun z => ⟨by omega, z.2⟩, fun z => ⟨by omega, z.2⟩⟩
    unfold Hb at *
    dsimp only at *
    simp only [e]
    refine ⟨?_, ?_, ?_, c4⟩
    · rw [a_Ia (by omega), a_Ia (by omega), a_Ia (by omega)]; exact c1
    · rw [a_Ia (by omega), a_Ia (by omega), a_Ia (by omega)]; exact c2
    · rw [a_Ia (by omega), a_Ia (by omega), a_Ia (by omega)]; exact c3
theorem Hb_k {nf : Nat} (hn : n ≤ 10) (hf : nf ≤ 10) (k : kSh nf H) : kSh n (Hb H n 8) := fun s hs => by
  unfold Hb
  dsimp only
  by_cases z : bk (H.2.2.1 s) n
  · left
    simp only [if_pos (show s < 8 ∧ bk (H.2.2.1 s) n from ⟨hs, z⟩), and_self]
  · simp only [if_neg (show ¬ (s < 8 ∧ bk (H.2.2.1 s) n) from fun c => z c.2)]
    rcases k s hs with c | c | ⟨c1, f, c2, c3⟩
    · exact Or.inl c
    · exact Or.inr (Or.inl c)
    · refine Or.inr (Or.inr ⟨c1, f, c2, ?_⟩)
      by_cases q : f < n
      · exact q
      · refine absurd ⟨?_, ?_⟩ z
        · rw [c2, a_m1 (by omega)]; exact fun c => c
        · rw [c2, a_lt (by omega) (by omega)]; exact q
theorem c_shelves (hn : n ≤ 10) {nf : Nat} (hf : nf ≤ 10) (k : kSh nf H) (o : oDC h B) (ol : oLand h (B + 23)) (h1 : gI h (B + 23) 1 = nI n) (c : cSh h B H) : ∃ h' : zMem, ev g DC_back 25 [.ref B, zU] [] h = some (some (.int (nI 1)), h') ∧ sam (B + 2) (B + 17) h h' ∧ cSh h' B (Hb H n 8) := by
  have i0 : ev g DC_back 25 [.ref B, zU] [] h = ev g DC_back 27 [.ref B, .int (nI 0)] [] h := by
    simp (disch := omega) only [s_DC_back_0, s_DC_back_1, s_DC_back_4, s_DC_back_7, s_DC_back_8, s_DC_back_10, s_DC_back_13, s_DC_back_14, s_DC_back_15, s_DC_back_18, s_DC_back_19, s_DC_back_22, s_DC_back_25, s_DC_back_26, s_DC_back_28, s_DC_back_30, s_DC_back_33, s_DC_back_34, s_DC_back_37, s_DC_back_38, s_DC_back_39, s_DC_back_42, s_DC_back_45, s_DC_back_46, s_DC_back_49, s_DC_back_50, s_DC_back_53, s_DC_back_54, s_DC_back_55, s_DC_back_58, s_DC_back_61, s_DC_back_64, s_DC_back_65, s_DC_back_68, s_DC_back_69, s_DC_back_70, s_DC_back_71, s_DC_back_74, s_DC_back_77, s_DC_back_80, s_DC_back_81, y_kd_sI, y_kd_sL, y_kd_sR, y_kd_cpI, y_kd_cpL, y_ln_sI, y_ln_sL, y_ln_sR, y_ln_cpI, y_ln_cpL, y_sz_sI, y_sz_sL, y_sz_sR, y_sz_cpI, y_sz_cpL, y_sl_sI, y_sl_sL, y_sl_sR, y_sl_cpI, y_sl_cpL, y_gI_sL, y_gI_sR, y_gI_cpI, y_gI_cpL, y_gI_nw, y_gL_sI, y_gL_sR, y_gL_cpI, y_gL_cpL, y_gL_nw, y_gR_sI, y_gR_sL, y_gR_cpI, y_gR_cpL, y_gR_nw, y_kd_nw, y_ln_nw, y_sz_nw, y_sl_nw, y_fx_int, y_fx_long, y_fx_ref, y_fx_null, y_fx_U, y_rf_s, y_rf_n, a_inb, a_ix, a_lt, a_eq, a_eq0, a_lt0, a_0lt, a_m1, a_m2, a_mlt, a_sub, a_dec, a_div, a_rem, a_shl, a_shr, a_bit, a_bit0, a_II, a_Ia, a_Ik, a_LL, a_La, a_Lk, a_RR, a_Ra, a_Rk, a_if0, a_if1, y_mul, y_and, y_or, nI_add, y_b1, y_b0, kon_v, kon_0, true_or, or_true, and_self, true_and, and_true, false_or, or_false, and_false, false_and, not_true_eq_false, not_false_eq_true, ite_self, ↓reduceIte, Nat.reduceEqDiff, Nat.reduceLeDiff, Nat.reduceAdd, Nat.reduceMul, Nat.reduceSub, Nat.reduceLT, Nat.reduceShiftLeft, Nat.reduceOr, Nat.reduceAnd, Bool.false_eq_true, b_if, b_z1, b_z0, b_zz, b_a1, b_a0, b_lc, b_zF, b_zT, b_lbit]
  obtain ⟨_, h2, i1, s, c'⟩ := l_loop (α := Unit) (g := g) (M := DC_back) (pc := 27) (st := []) (n := 8) (fun i _ => [.ref B, .int (nI i)]) (fun i _ h' => sam (B + 2) (B + 17) h h' ∧ cSh h' B (Hb H n i)) (fun i x h' hi ⟨s, c⟩ => by
    have o' := s.dc o
    have ol' := s.la ol
    have v1 : gI h' (B + 23) 1 = nI n := (s.2.2.2.2.2.1 _ _ (by omega)).trans h1
    have w2 : gI h' (B + 2 + 2 * i) 2 = H.2.2.1 i := by
      have := (c i hi).2.2.1
      unfold Hb at this
      dsimp only at this
      rw [if_neg (fun z => Nat.lt_irrefl _ z.1)] at this
      exact this
    have k1 := dc_k o'
    have k2 := dc_r0 o'
    have k3 := dc_k1 o'
    have k4 := dc_l1 o'
    have k5 := dc_s o' hi
    have k6 := dc_sk o' hi
    have k7 := dc_r2 o'
    have k8 := la_k ol'
    have d1 : (24 ≤ 24) = True := eq_true (by decide)
    have d2 : (24 < 30) = True := eq_true (by decide)
    have e5 : (i < 8) = True := eq_true hi
    have q1 := q_hasField (g := g) k6 w2
    have q2 := q_Land_hasField (g := g) (x := H.2.2.1 i) k8
    rw [v1] at q2
    rw [s_DC_back_27]
    by_cases z1 : H.2.2.1 i = -1
    · have z2 : (¬ H.2.2.1 i = -1) = False := eq_false (fun c => c z1)
      refine ⟨(), h', ?_, s, ?_⟩
      · simp (disch := omega) only [s_DC_back_0, s_DC_back_1, s_DC_back_4, s_DC_back_7, s_DC_back_8, s_DC_back_10, s_DC_back_13, s_DC_back_14, s_DC_back_15, s_DC_back_18, s_DC_back_19, s_DC_back_22, s_DC_back_25, s_DC_back_26, s_DC_back_28, s_DC_back_30, s_DC_back_33, s_DC_back_34, s_DC_back_37, s_DC_back_38, s_DC_back_39, s_DC_back_42, s_DC_back_45, s_DC_back_46, s_DC_back_49, s_DC_back_50, s_DC_back_53, s_DC_back_54, s_DC_back_55, s_DC_back_58, s_DC_back_61, s_DC_back_64, s_DC_back_65, s_DC_back_68, s_DC_back_69, s_DC_back_70, s_DC_back_71, s_DC_back_74, s_DC_back_77, s_DC_back_80, s_DC_back_81, y_kd_sI, y_kd_sL, y_kd_sR, y_kd_cpI, y_kd_cpL, y_ln_sI, y_ln_sL, y_ln_sR, y_ln_cpI, y_ln_cpL, y_sz_sI, y_sz_sL, y_sz_sR, y_sz_cpI, y_sz_cpL, y_sl_sI, y_sl_sL, y_sl_sR, y_sl_cpI, y_sl_cpL, y_gI_sL, y_gI_sR, y_gI_cpI, y_gI_cpL, y_gI_nw, y_gL_sI, y_gL_sR, y_gL_cpI, y_gL_cpL, y_gL_nw, y_gR_sI, y_gR_sL, y_gR_cpI, y_gR_cpL, y_gR_nw, y_kd_nw, y_ln_nw, y_sz_nw, y_sl_nw, y_fx_int, y_fx_long, y_fx_ref, y_fx_null, y_fx_U, y_rf_s, y_rf_n, a_inb, a_ix, a_lt, a_eq, a_eq0, a_lt0, a_0lt, a_m1, a_m2, a_mlt, a_sub, a_dec, a_div, a_rem, a_shl, a_shr, a_bit, a_bit0, a_II, a_Ia, a_Ik, a_LL, a_La, a_Lk, a_RR, a_Ra, a_Rk, a_if0, a_if1, y_mul, y_and, y_or, nI_add, y_b1, y_b0, kon_v, kon_0, true_or, or_true, and_self, true_and, and_true, false_or, or_false, and_false, false_and, not_true_eq_false, not_false_eq_true, ite_self, ↓reduceIte, Nat.reduceEqDiff, Nat.reduceLeDiff, Nat.reduceAdd, Nat.reduceMul, Nat.reduceSub, Nat.reduceLT, Nat.reduceShiftLeft, Nat.reduceOr, Nat.reduceAnd, Bool.false_eq_true, b_if, b_z1, b_z0, b_zz, b_a1, b_a0, b_lc, b_zF, b_zT, b_lbit, k1, k2, k3, k4, k5, k6, d1, d2, e5, va_rf, q1, z2]
      · rw [Hb_n (fun z => z.1 z1)]; exact c
    have z2 : (¬ H.2.2.1 i = -1) = True := eq_true z1
    rcases k i hi with ⟨-, c3⟩ | ⟨c3, -⟩ | ⟨c1, f, c2, c3⟩
    · exact absurd c3 z1
    · exact absurd c3 z1
    have z3 : (¬ H.2.2.1 i < 0 ∧ H.2.2.1 i < nI n) = (f < n) := by
      rw [c2, a_lt0 (by omega), a_lt (by omega) (by omega)]
      simp only [not_false_eq_true, true_and]
    by_cases z4 : f < n
    · have z5 : (¬ H.2.2.1 i < 0 ∧ H.2.2.1 i < nI n) = True := by rw [z3]; exact eq_true z4
      refine ⟨(), h', ?_, s, ?_⟩
      · simp (disch := omega) only [s_DC_back_0, s_DC_back_1, s_DC_back_4, s_DC_back_7, s_DC_back_8, s_DC_back_10, s_DC_back_13, s_DC_back_14, s_DC_back_15, s_DC_back_18, s_DC_back_19, s_DC_back_22, s_DC_back_25, s_DC_back_26, s_DC_back_28, s_DC_back_30, s_DC_back_33, s_DC_back_34, s_DC_back_37, s_DC_back_38, s_DC_back_39, s_DC_back_42, s_DC_back_45, s_DC_back_46, s_DC_back_49, s_DC_back_50, s_DC_back_53, s_DC_back_54, s_DC_back_55, s_DC_back_58, s_DC_back_61, s_DC_back_64, s_DC_back_65, s_DC_back_68, s_DC_back_69, s_DC_back_70, s_DC_back_71, s_DC_back_74, s_DC_back_77, s_DC_back_80, s_DC_back_81, y_kd_sI, y_kd_sL, y_kd_sR, y_kd_cpI, y_kd_cpL, y_ln_sI, y_ln_sL, y_ln_sR, y_ln_cpI, y_ln_cpL, y_sz_sI, y_sz_sL, y_sz_sR, y_sz_cpI, y_sz_cpL, y_sl_sI, y_sl_sL, y_sl_sR, y_sl_cpI, y_sl_cpL, y_gI_sL, y_gI_sR, y_gI_cpI, y_gI_cpL, y_gI_nw, y_gL_sI, y_gL_sR, y_gL_cpI, y_gL_cpL, y_gL_nw, y_gR_sI, y_gR_sL, y_gR_cpI, y_gR_cpL, y_gR_nw, y_kd_nw, y_ln_nw, y_sz_nw, y_sl_nw, y_fx_int, y_fx_long, y_fx_ref, y_fx_null, y_fx_U, y_rf_s, y_rf_n, a_inb, a_ix, a_lt, a_eq, a_eq0, a_lt0, a_0lt, a_m1, a_m2, a_mlt, a_sub, a_dec, a_div, a_rem, a_shl, a_shr, a_bit, a_bit0, a_II, a_Ia, a_Ik, a_LL, a_La, a_Lk, a_RR, a_Ra, a_Rk, a_if0, a_if1, y_mul, y_and, y_or, nI_add, y_b1, y_b0, kon_v, kon_0, true_or, or_true, and_self, true_and, and_true, false_or, or_false, and_false, false_and, not_true_eq_false, not_false_eq_true, ite_self, ↓reduceIte, Nat.reduceEqDiff, Nat.reduceLeDiff, Nat.reduceAdd, Nat.reduceMul, Nat.reduceSub, Nat.reduceLT, Nat.reduceShiftLeft, Nat.reduceOr, Nat.reduceAnd, Bool.false_eq_true, b_if, b_z1, b_z0, b_zz, b_a1, b_a0, b_lc, b_zF, b_zT, b_lbit, k1, k2, k3, k4, k5, k6, k7, k8, w2, d1, d2, e5, va_rf, q1, q2, z2, z5]
      · rw [Hb_n (fun z => z.2 (by rw [c2, a_lt (by omega) (by omega)]; exact z4))]; exact c
    · have z5 : (¬ H.2.2.1 i < 0 ∧ H.2.2.1 i < nI n) = False := by rw [z3]; exact eq_false z4
      refine ⟨(), sI (sI (sI h' (B + 2 + 2 * i) 0 (-1)) (B + 2 + 2 * i) 1 (nI 0)) (B + 2 + 2 * i) 2 (-1), ?_, ((s.aI (by omega)).aI (by omega)).aI (by omega), ?_⟩
      · simp (disch := omega) only [s_DC_back_0, s_DC_back_1, s_DC_back_4, s_DC_back_7, s_DC_back_8, s_DC_back_10, s_DC_back_13, s_DC_back_14, s_DC_back_15, s_DC_back_18, s_DC_back_19, s_DC_back_22, s_DC_back_25, s_DC_back_26, s_DC_back_28, s_DC_back_30, s_DC_back_33, s_DC_back_34, s_DC_back_37, s_DC_back_38, s_DC_back_39, s_DC_back_42, s_DC_back_45, s_DC_back_46, s_DC_back_49, s_DC_back_50, s_DC_back_53, s_DC_back_54, s_DC_back_55, s_DC_back_58, s_DC_back_61, s_DC_back_64, s_DC_back_65, s_DC_back_68, s_DC_back_69, s_DC_back_70, s_DC_back_71, s_DC_back_74, s_DC_back_77, s_DC_back_80, s_DC_back_81, y_kd_sI, y_kd_sL, y_kd_sR, y_kd_cpI, y_kd_cpL, y_ln_sI, y_ln_sL, y_ln_sR, y_ln_cpI, y_ln_cpL, y_sz_sI, y_sz_sL, y_sz_sR, y_sz_cpI, y_sz_cpL, y_sl_sI, y_sl_sL, y_sl_sR, y_sl_cpI, y_sl_cpL, y_gI_sL, y_gI_sR, y_gI_cpI, y_gI_cpL, y_gI_nw, y_gL_sI, y_gL_sR, y_gL_cpI, y_gL_cpL, y_gL_nw, y_gR_sI, y_gR_sL, y_gR_cpI, y_gR_cpL, y_gR_nw, y_kd_nw, y_ln_nw, y_sz_nw, y_sl_nw, y_fx_int, y_fx_long, y_fx_ref, y_fx_null, y_fx_U, y_rf_s, y_rf_n, a_inb, a_ix, a_lt, a_eq, a_eq0, a_lt0, a_0lt, a_m1, a_m2, a_mlt, a_sub, a_dec, a_div, a_rem, a_shl, a_shr, a_bit, a_bit0, a_II, a_Ia, a_Ik, a_LL, a_La, a_Lk, a_RR, a_Ra, a_Rk, a_if0, a_if1, y_mul, y_and, y_or, nI_add, y_b1, y_b0, kon_v, kon_0, true_or, or_true, and_self, true_and, and_true, false_or, or_false, and_false, false_and, not_true_eq_false, not_false_eq_true, ite_self, ↓reduceIte, Nat.reduceEqDiff, Nat.reduceLeDiff, Nat.reduceAdd, Nat.reduceMul, Nat.reduceSub, Nat.reduceLT, Nat.reduceShiftLeft, Nat.reduceOr, Nat.reduceAnd, Bool.false_eq_true, b_if, b_z1, b_z0, b_zz, b_a1, b_a0, b_lc, b_zF, b_zT, b_lbit, k1, k2, k3, k4, k5, k6, k7, k8, w2, d1, d2, e5, va_rf, q1, q2, z2, z5, n_Shelf_holdField, s_Shelf_holdField_0, s_Shelf_holdField_1, s_Shelf_holdField_2, s_Shelf_holdField_5, s_Shelf_holdField_6, s_Shelf_holdField_7, s_Shelf_holdField_10, s_Shelf_holdField_11, s_Shelf_holdField_12, s_Shelf_holdField_15]
      · exact Hb_y hi ⟨z1, by rw [c2, a_lt (by omega) (by omega)]; exact z4⟩ c) 8 0 () h rfl ⟨sam.rf, Hb_0 c⟩
  refine ⟨h2, ?_, s, c'⟩
  rw [i0, i1, s_DC_back_27]
  have e5 : (8 < 8) = False := eq_false (by decide)
  simp (disch := omega) only [s_DC_back_0, s_DC_back_1, s_DC_back_4, s_DC_back_7, s_DC_back_8, s_DC_back_10, s_DC_back_13, s_DC_back_14, s_DC_back_15, s_DC_back_18, s_DC_back_19, s_DC_back_22, s_DC_back_25, s_DC_back_26, s_DC_back_28, s_DC_back_30, s_DC_back_33, s_DC_back_34, s_DC_back_37, s_DC_back_38, s_DC_back_39, s_DC_back_42, s_DC_back_45, s_DC_back_46, s_DC_back_49, s_DC_back_50, s_DC_back_53, s_DC_back_54, s_DC_back_55, s_DC_back_58, s_DC_back_61, s_DC_back_64, s_DC_back_65, s_DC_back_68, s_DC_back_69, s_DC_back_70, s_DC_back_71, s_DC_back_74, s_DC_back_77, s_DC_back_80, s_DC_back_81, y_kd_sI, y_kd_sL, y_kd_sR, y_kd_cpI, y_kd_cpL, y_ln_sI, y_ln_sL, y_ln_sR, y_ln_cpI, y_ln_cpL, y_sz_sI, y_sz_sL, y_sz_sR, y_sz_cpI, y_sz_cpL, y_sl_sI, y_sl_sL, y_sl_sR, y_sl_cpI, y_sl_cpL, y_gI_sL, y_gI_sR, y_gI_cpI, y_gI_cpL, y_gI_nw, y_gL_sI, y_gL_sR, y_gL_cpI, y_gL_cpL, y_gL_nw, y_gR_sI, y_gR_sL, y_gR_cpI, y_gR_cpL, y_gR_nw, y_kd_nw, y_ln_nw, y_sz_nw, y_sl_nw, y_fx_int, y_fx_long, y_fx_ref, y_fx_null, y_fx_U, y_rf_s, y_rf_n, a_inb, a_ix, a_lt, a_eq, a_eq0, a_lt0, a_0lt, a_m1, a_m2, a_mlt, a_sub, a_dec, a_div, a_rem, a_shl, a_shr, a_bit, a_bit0, a_II, a_Ia, a_Ik, a_LL, a_La, a_Lk, a_RR, a_Ra, a_Rk, a_if0, a_if1, y_mul, y_and, y_or, nI_add, y_b1, y_b0, kon_v, kon_0, true_or, or_true, and_self, true_and, and_true, false_or, or_false, and_false, false_and, not_true_eq_false, not_false_eq_true, ite_self, ↓reduceIte, Nat.reduceEqDiff, Nat.reduceLeDiff, Nat.reduceAdd, Nat.reduceMul, Nat.reduceSub, Nat.reduceLT, Nat.reduceShiftLeft, Nat.reduceOr, Nat.reduceAnd, Bool.false_eq_true, b_if, b_z1, b_z0, b_zz, b_a1, b_a0, b_lc, b_zF, b_zT, b_lbit, e5]
/-- the class takes its land back -/
theorem c_dback (k : kX H T Λ K true) (hb : bX g B h) (hc : cX g B h H T Λ K true ρ) : ∃ h' : zMem, call g DC_back [.ref B] h = some (some (.int (nI 1)), h') ∧ shp h h' ∧ smF (B + 145) (B + 145 + 359) h h' ∧ bX g B h' ∧ cX g B h' (Hb H (zF K) 8) T K K true ρ := by
  have hB : 0 < B := by have := hc.1.2.2.2.2.2.2.2; omega
  have kK := k.2.2.2 rfl
  obtain ⟨c1, c2, c3, c4, c5, c6, c7, c8, c9⟩ := hc
  have c9 := c9 rfl
  obtain ⟨d1, d2, d3, d4, d5, d6, d7, d8⟩ := c1
  obtain ⟨h1, e, sm, cl, qe⟩ := c_become (g := g) (o := B + 77) (m := B + 23) (Λ := K) (by omega) d2 d4 d3 d5 kK c9 c7
  obtain ⟨h2, e2, sm2, cs⟩ := c_shelves (g := g) kK.1.1 k.2.2.1.1.1 k.1 (sm.dc d1) (sm.la d2) cl.1.1 (cSh_fr (sm.out (by omega)) c2)
  have s : shp h h2 := shp_tr sm.sh sm2.sh
  have ff : ∀ lo hi : Nat, (hi < B + 2 ∨ B + 17 < lo) → (hi < B + 23 ∨ B + 23 + 53 < lo) → smF lo hi h h2 := fun lo hi n1 n2 => (sm.out (by omega)).tr (sm2.out (by omega))
  refine ⟨h2, ?_, s, ff _ _ (by omega) (by omega), bX_fr s (ff _ _ (by omega) (by omega)) hb, cSP_fr s (ff _ _ (by omega) (by omega)) (ff _ _ (by omega) (by omega)) ⟨d1, d2, d3, d4, d5, d6, d7, d8⟩, cs, cTp_fr (ff _ _ (by omega) (by omega)) c3, cRf_fr (ff _ _ (by omega) (by omega)) c4, ?_, cL_fr kK (sm2.out (by omega)) cl, qE_fr (sm2.out (by omega)) qe, qE_fr (ff _ _ (by omega) (by omega)) c8, fun _ => cL_fr kK (ff _ _ (by omega) (by omega)) c9⟩
  · have k1 := dc_k d1
    have r3 := dc_r3 d1
    have r2 := dc_r2 d1
    have k4 := la_k d2
    have c5 : gI h B 4 = nI 1 := c5
    have go : call g DC_back [.ref B] h = ev g DC_back 25 [.ref B, zU] [] h1 := by
      rw [n_DC_back]
      simp (disch := omega) only [s_DC_back_0, s_DC_back_1, s_DC_back_4, s_DC_back_7, s_DC_back_8, s_DC_back_10, s_DC_back_13, s_DC_back_14, s_DC_back_15, s_DC_back_18, s_DC_back_19, s_DC_back_22, s_DC_back_26, s_DC_back_27, s_DC_back_28, s_DC_back_30, s_DC_back_33, s_DC_back_34, s_DC_back_37, s_DC_back_38, s_DC_back_39, s_DC_back_42, s_DC_back_45, s_DC_back_46, s_DC_back_49, s_DC_back_50, s_DC_back_53, s_DC_back_54, s_DC_back_55, s_DC_back_58, s_DC_back_61, s_DC_back_64, s_DC_back_65, s_DC_back_68, s_DC_back_69, s_DC_back_70, s_DC_back_71, s_DC_back_74, s_DC_back_77, s_DC_back_80, s_DC_back_81, y_kd_sI, y_kd_sL, y_kd_sR, y_kd_cpI, y_kd_cpL, y_ln_sI, y_ln_sL, y_ln_sR, y_ln_cpI, y_ln_cpL, y_sz_sI, y_sz_sL, y_sz_sR, y_sz_cpI, y_sz_cpL, y_sl_sI, y_sl_sL, y_sl_sR, y_sl_cpI, y_sl_cpL, y_gI_sL, y_gI_sR, y_gI_cpI, y_gI_cpL, y_gI_nw, y_gL_sI, y_gL_sR, y_gL_cpI, y_gL_cpL, y_gL_nw, y_gR_sI, y_gR_sL, y_gR_cpI, y_gR_cpL, y_gR_nw, y_kd_nw, y_ln_nw, y_sz_nw, y_sl_nw, y_fx_int, y_fx_long, y_fx_ref, y_fx_null, y_fx_U, y_rf_s, y_rf_n, a_inb, a_ix, a_lt, a_eq, a_eq0, a_lt0, a_0lt, a_m1, a_m2, a_mlt, a_sub, a_dec, a_div, a_rem, a_shl, a_shr, a_bit, a_bit0, a_II, a_Ia, a_Ik, a_LL, a_La, a_Lk, a_RR, a_Ra, a_Rk, a_if0, a_if1, y_mul, y_and, y_or, nI_add, y_b1, y_b0, kon_v, kon_0, true_or, or_true, and_self, true_and, and_true, false_or, or_false, and_false, false_and, not_true_eq_false, not_false_eq_true, ite_self, ↓reduceIte, Nat.reduceEqDiff, Nat.reduceLeDiff, Nat.reduceAdd, Nat.reduceMul, Nat.reduceSub, Nat.reduceLT, Nat.reduceShiftLeft, Nat.reduceOr, Nat.reduceAnd, Bool.false_eq_true, b_if, b_z1, b_z0, b_zz, b_a1, b_a0, b_lc, b_zF, b_zT, b_lbit, k1, r3, r2, k4, c5, va_rf, e]
    rw [go, e2]
  · exact ((ff B B (by omega) (by omega)).1 B 4 (by omega) (by omega)).trans c5
end ZBK
