/-! Sets.shrinkAll, in numbers -/
/-- the pairs' table lies where nothing is written -/
def cP (g : Nat → Nat) (h : zMem) : Prop := kd h (g 1) = 40 ∧ ln h (g 1) = 45 ∧ ∀ k : Nat, k < 45 → gI h (g 1) k = nI (pP k)
def bq (f : Nat → Nat) : Nat → List Nat
  | 0 => []
  | k + 1 => if f (pP k) = 255 then bq f k else bq f k ++ [pP k]
theorem bq_mem {f : Nat → Nat} {x : Nat} : ∀ k : Nat, x ∈ bq f k ↔ ∃ j : Nat, j < k ∧ pP j = x ∧ ¬ f x = 255
  | 0 => ⟨fun h => absurd h List.not_mem_nil, fun ⟨j, hj, _⟩ => absurd hj (Nat.not_lt_zero j)⟩
  | k + 1 => by
    unfold bq
    split
    · rename_i z
      rw [bq_mem k]
      constructor
      · rintro ⟨j, hj, h⟩; exact ⟨j, by omega, h⟩
      · rintro ⟨j, hj, h1, h2⟩
        by_cases e : j = k
        · subst e; rw [h1] at z; exact absurd z h2
        · exact ⟨j, by omega, h1, h2⟩
    · rename_i z
      rw [List.mem_append, bq_mem k, List.mem_singleton]
      constructor
      · rintro (⟨j, hj, h⟩ | h)
        · exact ⟨j, by omega, h⟩
        · exact ⟨k, by omega, h.symm, by rw [h]; exact z⟩
      · rintro ⟨j, hj, h1, h2⟩
        by_cases e : j = k
        · exact Or.inr (by rw [← h1, e])
        · exact Or.inl ⟨j, by omega, h1, h2⟩
theorem bq_qI {n : Nat} {f : Nat → Nat} (hn : n ≤ 10) : ∀ k : Nat, k ≤ n * (n - 1) / 2 → qI n (bq f k)
  | 0, _ => ⟨List.nodup_nil, fun x h => absurd h List.not_mem_nil⟩
  | k + 1, hk => by
    have h := bq_qI (f := f) hn k (by omega)
    have h45 := pn_le hn
    obtain ⟨p1, p2⟩ := pP_lt (show k < 45 by omega)
    unfold bq
    split
    · exact h
    · rename_i z
      refine ⟨?_, fun x hx => ?_⟩
      · rw [List.nodup_append]
        refine ⟨h.1, List.nodup_cons.2 ⟨List.not_mem_nil, List.nodup_nil⟩, fun a ha b hb => ?_⟩
        rw [List.mem_singleton.1 hb]
        intro e
        obtain ⟨j, hj, h1, -⟩ := (bq_mem k).1 ha
        rw [e] at h1
        have := pP_inj0 ⟨j, by omega⟩ ⟨k, by omega⟩ h1
        dsimp only at this
        omega
      · rcases List.mem_append.1 hx with w | w
        · exact h.2 x w
        · rw [List.mem_singleton.1 w]
          exact ⟨p1, (pP_n hn (by omega)).2 (by omega)⟩
section ZSA
variable {g : Nat → Nat} {o r t u n : Nat}
theorem sh_one {h : zMem} {f : Nat} {σ : zS} (hn : n ≤ 10) (hP : cP g h) (ho : oSets h o r t) (hr : rS h o n f σ) : (∃ j : Nat, j < n * (n - 1) / 2 ∧ σ.1 (pP j) = 0 ∧ ev g Sets_shrinkAll 7 [.ref o, .int (nI (n * (n - 1) / 2)), .int (nI 0)] [] h = some (some (.int (nI 0)), h)) ∨ ((∀ j : Nat, j < n * (n - 1) / 2 → ¬ σ.1 (pP j) = 0) ∧ ev g Sets_shrinkAll 7 [.ref o, .int (nI (n * (n - 1) / 2)), .int (nI 0)] [] h = ev g Sets_shrinkAll 33 [.ref o, .int (nI (n * (n - 1) / 2)), .int (nI (n * (n - 1) / 2))] [] h) := by
  have h45 := pn_le hn
  generalize n * (n - 1) / 2 = P at h45 ⊢
  obtain ⟨c1, c2, c3⟩ := hP
  obtain ⟨a1, a2, a3, a4, a5, a6, a7, b1, b2, -⟩ := ho
  obtain ⟨r1, r2, -⟩ := hr
  rcases l_find (g := g) (M := Sets_shrinkAll) (pc := 7) (st := []) (h := h) (n := P) (fun i => [.ref o, .int (nI P), .int (nI i)]) (fun i => σ.1 (pP i) = 0) (fun _ => some (some (.int (nI 0)), h)) (ev g Sets_shrinkAll 33 [.ref o, .int (nI P), .int (nI P)] [] h) (fun i hi z => by
      have p1 := (pP_lt (show i < 45 by omega)).2
      have p2 := c3 i (by omega)
      have p3 := (r2 (pP i) (by omega)).1
      rw [z] at p3
      simp (disch := omega) only [s_Sets_shrinkAll_0, s_Sets_shrinkAll_1, s_Sets_shrinkAll_4, s_Sets_shrinkAll_5, s_Sets_shrinkAll_6, s_Sets_shrinkAll_7, s_Sets_shrinkAll_8, s_Sets_shrinkAll_9, s_Sets_shrinkAll_12, s_Sets_shrinkAll_13, s_Sets_shrinkAll_16, s_Sets_shrinkAll_19, s_Sets_shrinkAll_20, s_Sets_shrinkAll_21, s_Sets_shrinkAll_22, s_Sets_shrinkAll_25, s_Sets_shrinkAll_26, s_Sets_shrinkAll_27, s_Sets_shrinkAll_30, s_Sets_shrinkAll_34, s_Sets_shrinkAll_35, s_Sets_shrinkAll_38, s_Sets_shrinkAll_39, s_Sets_shrinkAll_40, s_Sets_shrinkAll_43, s_Sets_shrinkAll_44, s_Sets_shrinkAll_45, s_Sets_shrinkAll_46, s_Sets_shrinkAll_47, s_Sets_shrinkAll_50, s_Sets_shrinkAll_51, s_Sets_shrinkAll_54, s_Sets_shrinkAll_57, s_Sets_shrinkAll_58, s_Sets_shrinkAll_59, s_Sets_shrinkAll_60, s_Sets_shrinkAll_63, s_Sets_shrinkAll_66, s_Sets_shrinkAll_67, s_Sets_shrinkAll_70, s_Sets_shrinkAll_71, s_Sets_shrinkAll_74, s_Sets_shrinkAll_77, s_Sets_shrinkAll_78, s_Sets_shrinkAll_79, s_Sets_shrinkAll_80, s_Sets_shrinkAll_81, s_Sets_shrinkAll_84, s_Sets_shrinkAll_87, s_Sets_shrinkAll_88, s_Sets_shrinkAll_89, s_Sets_shrinkAll_90, s_Sets_shrinkAll_91, s_Sets_shrinkAll_92, s_Sets_shrinkAll_93, s_Sets_shrinkAll_96, s_Sets_shrinkAll_97, s_Sets_shrinkAll_98, s_Sets_shrinkAll_101, s_Sets_shrinkAll_104, s_Sets_shrinkAll_107, s_Sets_shrinkAll_108, s_Sets_shrinkAll_111, s_Sets_shrinkAll_112, s_Sets_shrinkAll_113, s_Sets_shrinkAll_114, s_Sets_shrinkAll_117, s_Sets_shrinkAll_118, y_kd_sI, y_kd_sL, y_kd_sR, y_kd_cpI, y_kd_cpL, y_ln_sI, y_ln_sL, y_ln_sR, y_ln_cpI, y_ln_cpL, y_sz_sI, y_sz_sL, y_sz_sR, y_sz_cpI, y_sz_cpL, y_sl_sI, y_sl_sL, y_sl_sR, y_sl_cpI, y_sl_cpL, y_gI_sL, y_gI_sR, y_gI_cpI, y_gI_cpL, y_gI_nw, y_gL_sI, y_gL_sR, y_gL_cpI, y_gL_cpL, y_gL_nw, y_gR_sI, y_gR_sL, y_gR_cpI, y_gR_cpL, y_gR_nw, y_kd_nw, y_ln_nw, y_sz_nw, y_sl_nw, y_fx_int, y_fx_long, y_fx_ref, y_fx_null, y_fx_U, y_rf_s, y_rf_n, a_inb, a_ix, a_lt, a_eq, a_eq0, a_lt0, a_0lt, a_m1, a_m2, a_mlt, a_sub, a_dec, a_div, a_rem, a_shl, a_shr, a_bit, a_bit0, a_II, a_Ia, a_Ik, a_LL, a_La, a_Lk, a_RR, a_Ra, a_Rk, a_if0, a_if1, y_mul, y_and, y_or, nI_add, y_b1, y_b0, kon_v, kon_0, true_or, or_true, and_self, true_and, and_true, false_or, or_false, and_false, false_and, not_true_eq_false, not_false_eq_true, ite_self, ↓reduceIte, Nat.reduceEqDiff, Nat.reduceLeDiff, Nat.reduceAdd, Nat.reduceMul, Nat.reduceSub, Nat.reduceLT, Nat.reduceShiftLeft, Nat.reduceOr, Nat.reduceAnd, a1, a2, b1, b2, c1, c2, p2, p3, hi, show (nI 0 &&& 1 = nI 0) = True from y_b0]) (fun i hi z => by
      have p1 := (pP_lt (show i < 45 by omega)).2
      have p2 := c3 i (by omega)
      obtain ⟨p3, p4⟩ := r2 (pP i) (by omega)
      rw [s_Sets_shrinkAll_7]
      simp (disch := omega) only [s_Sets_shrinkAll_0, s_Sets_shrinkAll_1, s_Sets_shrinkAll_4, s_Sets_shrinkAll_5, s_Sets_shrinkAll_6, s_Sets_shrinkAll_8, s_Sets_shrinkAll_9, s_Sets_shrinkAll_12, s_Sets_shrinkAll_13, s_Sets_shrinkAll_16, s_Sets_shrinkAll_19, s_Sets_shrinkAll_20, s_Sets_shrinkAll_21, s_Sets_shrinkAll_22, s_Sets_shrinkAll_25, s_Sets_shrinkAll_26, s_Sets_shrinkAll_27, s_Sets_shrinkAll_30, s_Sets_shrinkAll_34, s_Sets_shrinkAll_35, s_Sets_shrinkAll_38, s_Sets_shrinkAll_39, s_Sets_shrinkAll_40, s_Sets_shrinkAll_43, s_Sets_shrinkAll_44, s_Sets_shrinkAll_45, s_Sets_shrinkAll_46, s_Sets_shrinkAll_47, s_Sets_shrinkAll_50, s_Sets_shrinkAll_51, s_Sets_shrinkAll_54, s_Sets_shrinkAll_57, s_Sets_shrinkAll_58, s_Sets_shrinkAll_59, s_Sets_shrinkAll_60, s_Sets_shrinkAll_63, s_Sets_shrinkAll_66, s_Sets_shrinkAll_67, s_Sets_shrinkAll_70, s_Sets_shrinkAll_71, s_Sets_shrinkAll_74, s_Sets_shrinkAll_77, s_Sets_shrinkAll_78, s_Sets_shrinkAll_79, s_Sets_shrinkAll_80, s_Sets_shrinkAll_81, s_Sets_shrinkAll_84, s_Sets_shrinkAll_87, s_Sets_shrinkAll_88, s_Sets_shrinkAll_89, s_Sets_shrinkAll_90, s_Sets_shrinkAll_91, s_Sets_shrinkAll_92, s_Sets_shrinkAll_93, s_Sets_shrinkAll_96, s_Sets_shrinkAll_97, s_Sets_shrinkAll_98, s_Sets_shrinkAll_101, s_Sets_shrinkAll_104, s_Sets_shrinkAll_107, s_Sets_shrinkAll_108, s_Sets_shrinkAll_111, s_Sets_shrinkAll_112, s_Sets_shrinkAll_113, s_Sets_shrinkAll_114, s_Sets_shrinkAll_117, s_Sets_shrinkAll_118, y_kd_sI, y_kd_sL, y_kd_sR, y_kd_cpI, y_kd_cpL, y_ln_sI, y_ln_sL, y_ln_sR, y_ln_cpI, y_ln_cpL, y_sz_sI, y_sz_sL, y_sz_sR, y_sz_cpI, y_sz_cpL, y_sl_sI, y_sl_sL, y_sl_sR, y_sl_cpI, y_sl_cpL, y_gI_sL, y_gI_sR, y_gI_cpI, y_gI_cpL, y_gI_nw, y_gL_sI, y_gL_sR, y_gL_cpI, y_gL_cpL, y_gL_nw, y_gR_sI, y_gR_sL, y_gR_cpI, y_gR_cpL, y_gR_nw, y_kd_nw, y_ln_nw, y_sz_nw, y_sl_nw, y_fx_int, y_fx_long, y_fx_ref, y_fx_null, y_fx_U, y_rf_s, y_rf_n, a_inb, a_ix, a_lt, a_eq, a_eq0, a_lt0, a_0lt, a_m1, a_m2, a_mlt, a_sub, a_dec, a_div, a_rem, a_shl, a_shr, a_bit, a_bit0, a_II, a_Ia, a_Ik, a_LL, a_La, a_Lk, a_RR, a_Ra, a_Rk, a_if0, a_if1, y_mul, y_and, y_or, nI_add, y_b1, y_b0, kon_v, kon_0, true_or, or_true, and_self, true_and, and_true, false_or, or_false, and_false, false_and, not_true_eq_false, not_false_eq_true, ite_self, ↓reduceIte, Nat.reduceEqDiff, Nat.reduceLeDiff, Nat.reduceAdd, Nat.reduceMul, Nat.reduceSub, Nat.reduceLT, Nat.reduceShiftLeft, Nat.reduceOr, Nat.reduceAnd, a1, a2, b1, b2, c1, c2, p2, p3, hi, z]) (by
      simp (disch := omega) only [s_Sets_shrinkAll_0, s_Sets_shrinkAll_1, s_Sets_shrinkAll_4, s_Sets_shrinkAll_5, s_Sets_shrinkAll_6, s_Sets_shrinkAll_7, s_Sets_shrinkAll_8, s_Sets_shrinkAll_9, s_Sets_shrinkAll_12, s_Sets_shrinkAll_13, s_Sets_shrinkAll_16, s_Sets_shrinkAll_19, s_Sets_shrinkAll_20, s_Sets_shrinkAll_21, s_Sets_shrinkAll_22, s_Sets_shrinkAll_25, s_Sets_shrinkAll_26, s_Sets_shrinkAll_27, s_Sets_shrinkAll_30, s_Sets_shrinkAll_34, s_Sets_shrinkAll_35, s_Sets_shrinkAll_38, s_Sets_shrinkAll_39, s_Sets_shrinkAll_40, s_Sets_shrinkAll_43, s_Sets_shrinkAll_44, s_Sets_shrinkAll_45, s_Sets_shrinkAll_46, s_Sets_shrinkAll_47, s_Sets_shrinkAll_50, s_Sets_shrinkAll_51, s_Sets_shrinkAll_54, s_Sets_shrinkAll_57, s_Sets_shrinkAll_58, s_Sets_shrinkAll_59, s_Sets_shrinkAll_60, s_Sets_shrinkAll_63, s_Sets_shrinkAll_66, s_Sets_shrinkAll_67, s_Sets_shrinkAll_70, s_Sets_shrinkAll_71, s_Sets_shrinkAll_74, s_Sets_shrinkAll_77, s_Sets_shrinkAll_78, s_Sets_shrinkAll_79, s_Sets_shrinkAll_80, s_Sets_shrinkAll_81, s_Sets_shrinkAll_84, s_Sets_shrinkAll_87, s_Sets_shrinkAll_88, s_Sets_shrinkAll_89, s_Sets_shrinkAll_90, s_Sets_shrinkAll_91, s_Sets_shrinkAll_92, s_Sets_shrinkAll_93, s_Sets_shrinkAll_96, s_Sets_shrinkAll_97, s_Sets_shrinkAll_98, s_Sets_shrinkAll_101, s_Sets_shrinkAll_104, s_Sets_shrinkAll_107, s_Sets_shrinkAll_108, s_Sets_shrinkAll_111, s_Sets_shrinkAll_112, s_Sets_shrinkAll_113, s_Sets_shrinkAll_114, s_Sets_shrinkAll_117, s_Sets_shrinkAll_118, y_kd_sI, y_kd_sL, y_kd_sR, y_kd_cpI, y_kd_cpL, y_ln_sI, y_ln_sL, y_ln_sR, y_ln_cpI, y_ln_cpL, y_sz_sI, y_sz_sL, y_sz_sR, y_sz_cpI, y_sz_cpL, y_sl_sI, y_sl_sL, y_sl_sR, y_sl_cpI, y_sl_cpL, y_gI_sL, y_gI_sR, y_gI_cpI, y_gI_cpL, y_gI_nw, y_gL_sI, y_gL_sR, y_gL_cpI, y_gL_cpL, y_gL_nw, y_gR_sI, y_gR_sL, y_gR_cpI, y_gR_cpL, y_gR_nw, y_kd_nw, y_ln_nw, y_sz_nw, y_sl_nw, y_fx_int, y_fx_long, y_fx_ref, y_fx_null, y_fx_U, y_rf_s, y_rf_n, a_inb, a_ix, a_lt, a_eq, a_eq0, a_lt0, a_0lt, a_m1, a_m2, a_mlt, a_sub, a_dec, a_div, a_rem, a_shl, a_shr, a_bit, a_bit0, a_II, a_Ia, a_Ik, a_LL, a_La, a_Lk, a_RR, a_Ra, a_Rk, a_if0, a_if1, y_mul, y_and, y_or, nI_add, y_b1, y_b0, kon_v, kon_0, true_or, or_true, and_self, true_and, and_true, false_or, or_false, and_false, false_and, not_true_eq_false, not_false_eq_true, ite_self, ↓reduceIte, Nat.reduceEqDiff, Nat.reduceLeDiff, Nat.reduceAdd, Nat.reduceMul, Nat.reduceSub, Nat.reduceLT, Nat.reduceShiftLeft, Nat.reduceOr, Nat.reduceAnd, Nat.lt_irrefl]) P 0 (by omega) with ⟨j, -, j2, j3, -, j5⟩ | ⟨j1, j2⟩
  · exact Or.inl ⟨j, j2, j3, j5⟩
  · exact Or.inr ⟨fun j hj => j1 j (Nat.zero_le _) hj, j2⟩
theorem sh_two {h0 : zMem} {ats : Nat → Nat} {tr : List (Nat × Nat)} (hn : n ≤ 10) (hg : g 1 < o) (hP : cP g h0) (ho : oSets h0 o r t) (hr : rS h0 o n 0 (ats, tr, [])) : ∃ h' : zMem, ev g Sets_shrinkAll 45 [.ref o, .int (nI (n * (n - 1) / 2)), .int (nI 0)] [] h0 = ev g Sets_shrinkAll 107 [.ref o, .int (nI (n * (n - 1) / 2)), .int (nI (n * (n - 1) / 2))] [] h' ∧ rS h' o n 0 (ats, tr, bq ats (n * (n - 1) / 2)) ∧ sameO o h0 h' := by
  have h45 := pn_le hn
  have hqI := fun k hk => bq_qI (n := n) (f := ats) hn k hk
  generalize n * (n - 1) / 2 = P at h45 hqI ⊢
  obtain ⟨x', h', e1, e2, e3⟩ := l_loop (g := g) (M := Sets_shrinkAll) (pc := 45) (st := []) (n := P) (fun i (_ : Unit) => [.ref o, .int (nI P), .int (nI i)]) (fun i _ h => rS h o n 0 (ats, tr, bq ats i) ∧ sameO o h0 h) (fun i x h hi hh => by
    obtain ⟨q1, q2⟩ := hh
    have hlen := qI_len hn (hqI i (by omega))
    obtain ⟨a1, a2, a3, a4, a5, a6, a7, b1, b2, b3, b4, b5, b6, b7, b8, b9, b10, -⟩ := q2.st ho
    obtain ⟨c1, c2, c3⟩ := hP
    have c1' := (q2.1 (g 1)).trans c1
    have c2' := (q2.2.1 (g 1)).trans c2
    have c3' := (q2.2.2.2.2.2.2 (g 1) i (by omega)).trans (c3 i (by omega))
    have p1 := (pP_lt (show i < 45 by omega)).2
    have q1' := q1
    obtain ⟨r1, r2, r3, r4, r5, r6, r7, r8, r9, r10, r11⟩ := q1'
    obtain ⟨p3, p4⟩ := r2 (pP i) (by omega)
    dsimp only at p3 p4 r8
    by_cases z : ats (pP i) = 255
    · refine ⟨(), h, ?_, ?_, q2⟩
      · show ev g Sets_shrinkAll 45 [.ref o, .int (nI P), .int (nI i)] [] h = ev g Sets_shrinkAll 45 [.ref o, .int (nI P), .int (nI (i + 1))] [] h
        rw [s_Sets_shrinkAll_45]
        simp (disch := omega) only [s_Sets_shrinkAll_0, s_Sets_shrinkAll_1, s_Sets_shrinkAll_4, s_Sets_shrinkAll_5, s_Sets_shrinkAll_6, s_Sets_shrinkAll_7, s_Sets_shrinkAll_8, s_Sets_shrinkAll_9, s_Sets_shrinkAll_12, s_Sets_shrinkAll_13, s_Sets_shrinkAll_16, s_Sets_shrinkAll_19, s_Sets_shrinkAll_20, s_Sets_shrinkAll_21, s_Sets_shrinkAll_22, s_Sets_shrinkAll_25, s_Sets_shrinkAll_26, s_Sets_shrinkAll_27, s_Sets_shrinkAll_30, s_Sets_shrinkAll_33, s_Sets_shrinkAll_34, s_Sets_shrinkAll_35, s_Sets_shrinkAll_38, s_Sets_shrinkAll_39, s_Sets_shrinkAll_40, s_Sets_shrinkAll_43, s_Sets_shrinkAll_44, s_Sets_shrinkAll_46, s_Sets_shrinkAll_47, s_Sets_shrinkAll_50, s_Sets_shrinkAll_51, s_Sets_shrinkAll_54, s_Sets_shrinkAll_57, s_Sets_shrinkAll_58, s_Sets_shrinkAll_59, s_Sets_shrinkAll_60, s_Sets_shrinkAll_63, s_Sets_shrinkAll_66, s_Sets_shrinkAll_67, s_Sets_shrinkAll_70, s_Sets_shrinkAll_71, s_Sets_shrinkAll_74, s_Sets_shrinkAll_77, s_Sets_shrinkAll_78, s_Sets_shrinkAll_79, s_Sets_shrinkAll_80, s_Sets_shrinkAll_81, s_Sets_shrinkAll_84, s_Sets_shrinkAll_87, s_Sets_shrinkAll_88, s_Sets_shrinkAll_89, s_Sets_shrinkAll_90, s_Sets_shrinkAll_91, s_Sets_shrinkAll_92, s_Sets_shrinkAll_93, s_Sets_shrinkAll_96, s_Sets_shrinkAll_97, s_Sets_shrinkAll_98, s_Sets_shrinkAll_101, s_Sets_shrinkAll_104, s_Sets_shrinkAll_108, s_Sets_shrinkAll_111, s_Sets_shrinkAll_112, s_Sets_shrinkAll_113, s_Sets_shrinkAll_114, s_Sets_shrinkAll_117, s_Sets_shrinkAll_118, y_kd_sI, y_kd_sL, y_kd_sR, y_kd_cpI, y_kd_cpL, y_ln_sI, y_ln_sL, y_ln_sR, y_ln_cpI, y_ln_cpL, y_sz_sI, y_sz_sL, y_sz_sR, y_sz_cpI, y_sz_cpL, y_sl_sI, y_sl_sL, y_sl_sR, y_sl_cpI, y_sl_cpL, y_gI_sL, y_gI_sR, y_gI_cpI, y_gI_cpL, y_gI_nw, y_gL_sI, y_gL_sR, y_gL_cpI, y_gL_cpL, y_gL_nw, y_gR_sI, y_gR_sL, y_gR_cpI, y_gR_cpL, y_gR_nw, y_kd_nw, y_ln_nw, y_sz_nw, y_sl_nw, y_fx_int, y_fx_long, y_fx_ref, y_fx_null, y_fx_U, y_rf_s, y_rf_n, a_inb, a_ix, a_lt, a_eq, a_eq0, a_lt0, a_0lt, a_m1, a_m2, a_mlt, a_sub, a_dec, a_div, a_rem, a_shl, a_shr, a_bit, a_bit0, a_II, a_Ia, a_Ik, a_LL, a_La, a_Lk, a_RR, a_Ra, a_Rk, a_if0, a_if1, y_mul, y_and, y_or, nI_add, y_b1, y_b0, kon_v, kon_0, true_or, or_true, and_self, true_and, and_true, false_or, or_false, and_false, false_and, not_true_eq_false, not_false_eq_true, ite_self, ↓reduceIte, Nat.reduceEqDiff, Nat.reduceLeDiff, Nat.reduceAdd, Nat.reduceMul, Nat.reduceSub, Nat.reduceLT, Nat.reduceShiftLeft, Nat.reduceOr, Nat.reduceAnd, a1, a2, b1, b2, c1', c2', c3', p3, z, hi]
      · show rS h o n 0 (ats, tr, bq ats (i + 1))
        unfold bq
        rw [if_pos z]
        exact q1
    · have nin : ¬ pP i ∈ bq ats i := fun e => by
        obtain ⟨j, hj, h1, -⟩ := (bq_mem i).1 e
        have := pP_inj0 ⟨j, by omega⟩ ⟨i, by omega⟩ h1
        dsimp only at this
        omega
      have hl : (bq ats i).length < 45 := by
        refine qI_len2 hn (hqI i (by omega)) (pP_lt (show i < 45 by omega)).1 ?_ nin
        have := (hqI (i + 1) (by omega)).2 (pP i) ?_
        · exact this.2
        · unfold bq
          rw [if_neg z]
          exact List.mem_append_right _ (List.mem_singleton.2 rfl)
      have w0 : gI h (o + 5) (pP i) = nI 0 := by
        rw [r11 (pP i) (by omega), bZ_f nin]
      have k1 := rS_C (m := pP i) (v := 1) (show pP i < 100 by omega) q1
      have k2 : pQue (pP i) 1 (bq ats i) = bq ats (i + 1) := by
        unfold pQue
        rw [if_pos ⟨by decide, nin, hl⟩]
        show bq ats i ++ [pP i] = if ats (pP i) = 255 then bq ats i else bq ats i ++ [pP i]
        rw [if_neg z]
      rw [k2] at k1
      have k3 : kC o (pP i) 1 0 (bq ats i).length h = sI (sI (sI h (o + 4) (bq ats i).length (nI (pP i))) (o + 5) (pP i) (nI 1)) o 9 (nI ((bq ats i).length + 1)) := by
        unfold kC
        rw [if_pos ⟨by decide, by rw [w0]; decide, hl⟩, show (0 + (bq ats i).length) % 45 = (bq ats i).length by omega]
      rw [k3] at k1
      generalize (bq ats i).length = w at hl r8 k1
      refine ⟨(), _, ?_, k1, q2.trn (((sameO.I (by omega)).trn (sameO.I (by omega))).trn (sameO.I (by omega)))⟩
      show ev g Sets_shrinkAll 45 [.ref o, .int (nI P), .int (nI i)] [] h = ev g Sets_shrinkAll 45 [.ref o, .int (nI P), .int (nI (i + 1))] [] _
      have d1 : nI 1 &&& 1 = nI 1 := by decide
      rw [s_Sets_shrinkAll_45]
      simp (disch := omega) only [s_Sets_shrinkAll_0, s_Sets_shrinkAll_1, s_Sets_shrinkAll_4, s_Sets_shrinkAll_5, s_Sets_shrinkAll_6, s_Sets_shrinkAll_7, s_Sets_shrinkAll_8, s_Sets_shrinkAll_9, s_Sets_shrinkAll_12, s_Sets_shrinkAll_13, s_Sets_shrinkAll_16, s_Sets_shrinkAll_19, s_Sets_shrinkAll_20, s_Sets_shrinkAll_21, s_Sets_shrinkAll_22, s_Sets_shrinkAll_25, s_Sets_shrinkAll_26, s_Sets_shrinkAll_27, s_Sets_shrinkAll_30, s_Sets_shrinkAll_33, s_Sets_shrinkAll_34, s_Sets_shrinkAll_35, s_Sets_shrinkAll_38, s_Sets_shrinkAll_39, s_Sets_shrinkAll_40, s_Sets_shrinkAll_43, s_Sets_shrinkAll_44, s_Sets_shrinkAll_46, s_Sets_shrinkAll_47, s_Sets_shrinkAll_50, s_Sets_shrinkAll_51, s_Sets_shrinkAll_54, s_Sets_shrinkAll_57, s_Sets_shrinkAll_58, s_Sets_shrinkAll_59, s_Sets_shrinkAll_60, s_Sets_shrinkAll_63, s_Sets_shrinkAll_66, s_Sets_shrinkAll_67, s_Sets_shrinkAll_70, s_Sets_shrinkAll_71, s_Sets_shrinkAll_74, s_Sets_shrinkAll_77, s_Sets_shrinkAll_78, s_Sets_shrinkAll_79, s_Sets_shrinkAll_80, s_Sets_shrinkAll_81, s_Sets_shrinkAll_84, s_Sets_shrinkAll_87, s_Sets_shrinkAll_88, s_Sets_shrinkAll_89, s_Sets_shrinkAll_90, s_Sets_shrinkAll_91, s_Sets_shrinkAll_92, s_Sets_shrinkAll_93, s_Sets_shrinkAll_96, s_Sets_shrinkAll_97, s_Sets_shrinkAll_98, s_Sets_shrinkAll_101, s_Sets_shrinkAll_104, s_Sets_shrinkAll_108, s_Sets_shrinkAll_111, s_Sets_shrinkAll_112, s_Sets_shrinkAll_113, s_Sets_shrinkAll_114, s_Sets_shrinkAll_117, s_Sets_shrinkAll_118, y_kd_sI, y_kd_sL, y_kd_sR, y_kd_cpI, y_kd_cpL, y_ln_sI, y_ln_sL, y_ln_sR, y_ln_cpI, y_ln_cpL, y_sz_sI, y_sz_sL, y_sz_sR, y_sz_cpI, y_sz_cpL, y_sl_sI, y_sl_sL, y_sl_sR, y_sl_cpI, y_sl_cpL, y_gI_sL, y_gI_sR, y_gI_cpI, y_gI_cpL, y_gI_nw, y_gL_sI, y_gL_sR, y_gL_cpI, y_gL_cpL, y_gL_nw, y_gR_sI, y_gR_sL, y_gR_cpI, y_gR_cpL, y_gR_nw, y_kd_nw, y_ln_nw, y_sz_nw, y_sl_nw, y_fx_int, y_fx_long, y_fx_ref, y_fx_null, y_fx_U, y_rf_s, y_rf_n, a_inb, a_ix, a_lt, a_eq, a_eq0, a_lt0, a_0lt, a_m1, a_m2, a_mlt, a_sub, a_dec, a_div, a_rem, a_shl, a_shr, a_bit, a_bit0, a_II, a_Ia, a_Ik, a_LL, a_La, a_Lk, a_RR, a_Ra, a_Rk, a_if0, a_if1, y_mul, y_and, y_or, nI_add, y_b1, y_b0, kon_v, kon_0, true_or, or_true, and_self, true_and, and_true, false_or, or_false, and_false, false_and, not_true_eq_false, not_false_eq_true, ite_self, ↓reduceIte, Nat.reduceEqDiff, Nat.reduceLeDiff, Nat.reduceAdd, Nat.reduceMul, Nat.reduceSub, Nat.reduceLT, Nat.reduceShiftLeft, Nat.reduceOr, Nat.reduceAnd, a1, a2, a6, a7, b1, b2, b7, b8, b9, b10, r8, c1', c2', c3', p3, z, hi, d1]) P 0 () h0 (by omega) ⟨hr, sameO.rf⟩
  refine ⟨h', e1.trans ?_, e2, e3⟩
  simp (disch := omega) only [s_Sets_shrinkAll_0, s_Sets_shrinkAll_1, s_Sets_shrinkAll_4, s_Sets_shrinkAll_5, s_Sets_shrinkAll_6, s_Sets_shrinkAll_7, s_Sets_shrinkAll_8, s_Sets_shrinkAll_9, s_Sets_shrinkAll_12, s_Sets_shrinkAll_13, s_Sets_shrinkAll_16, s_Sets_shrinkAll_19, s_Sets_shrinkAll_20, s_Sets_shrinkAll_21, s_Sets_shrinkAll_22, s_Sets_shrinkAll_25, s_Sets_shrinkAll_26, s_Sets_shrinkAll_27, s_Sets_shrinkAll_30, s_Sets_shrinkAll_33, s_Sets_shrinkAll_34, s_Sets_shrinkAll_35, s_Sets_shrinkAll_38, s_Sets_shrinkAll_39, s_Sets_shrinkAll_40, s_Sets_shrinkAll_43, s_Sets_shrinkAll_44, s_Sets_shrinkAll_45, s_Sets_shrinkAll_46, s_Sets_shrinkAll_47, s_Sets_shrinkAll_50, s_Sets_shrinkAll_51, s_Sets_shrinkAll_54, s_Sets_shrinkAll_57, s_Sets_shrinkAll_58, s_Sets_shrinkAll_59, s_Sets_shrinkAll_60, s_Sets_shrinkAll_63, s_Sets_shrinkAll_66, s_Sets_shrinkAll_67, s_Sets_shrinkAll_70, s_Sets_shrinkAll_71, s_Sets_shrinkAll_74, s_Sets_shrinkAll_77, s_Sets_shrinkAll_78, s_Sets_shrinkAll_79, s_Sets_shrinkAll_80, s_Sets_shrinkAll_81, s_Sets_shrinkAll_84, s_Sets_shrinkAll_87, s_Sets_shrinkAll_88, s_Sets_shrinkAll_89, s_Sets_shrinkAll_90, s_Sets_shrinkAll_91, s_Sets_shrinkAll_92, s_Sets_shrinkAll_93, s_Sets_shrinkAll_96, s_Sets_shrinkAll_97, s_Sets_shrinkAll_98, s_Sets_shrinkAll_101, s_Sets_shrinkAll_104, s_Sets_shrinkAll_108, s_Sets_shrinkAll_111, s_Sets_shrinkAll_112, s_Sets_shrinkAll_113, s_Sets_shrinkAll_114, s_Sets_shrinkAll_117, s_Sets_shrinkAll_118, y_kd_sI, y_kd_sL, y_kd_sR, y_kd_cpI, y_kd_cpL, y_ln_sI, y_ln_sL, y_ln_sR, y_ln_cpI, y_ln_cpL, y_sz_sI, y_sz_sL, y_sz_sR, y_sz_cpI, y_sz_cpL, y_sl_sI, y_sl_sL, y_sl_sR, y_sl_cpI, y_sl_cpL, y_gI_sL, y_gI_sR, y_gI_cpI, y_gI_cpL, y_gI_nw, y_gL_sI, y_gL_sR, y_gL_cpI, y_gL_cpL, y_gL_nw, y_gR_sI, y_gR_sL, y_gR_cpI, y_gR_cpL, y_gR_nw, y_kd_nw, y_ln_nw, y_sz_nw, y_sl_nw, y_fx_int, y_fx_long, y_fx_ref, y_fx_null, y_fx_U, y_rf_s, y_rf_n, a_inb, a_ix, a_lt, a_eq, a_eq0, a_lt0, a_0lt, a_m1, a_m2, a_mlt, a_sub, a_dec, a_div, a_rem, a_shl, a_shr, a_bit, a_bit0, a_II, a_Ia, a_Ik, a_LL, a_La, a_Lk, a_RR, a_Ra, a_Rk, a_if0, a_if1, y_mul, y_and, y_or, nI_add, y_b1, y_b0, kon_v, kon_0, true_or, or_true, and_self, true_and, and_true, false_or, or_false, and_false, false_and, not_true_eq_false, not_false_eq_true, ite_self, ↓reduceIte, Nat.reduceEqDiff, Nat.reduceLeDiff, Nat.reduceAdd, Nat.reduceMul, Nat.reduceSub, Nat.reduceLT, Nat.reduceShiftLeft, Nat.reduceOr, Nat.reduceAnd, Nat.lt_irrefl]
theorem rS_0 {h : zMem} {f : Nat} {ats : Nat → Nat} {tr : List (Nat × Nat)} (hr : rS h o n f (ats, tr, [])) : rS (sI (sI h o 8 (nI 0)) o 9 (nI 0)) o n 0 (ats, tr, []) := by
  obtain ⟨r1, r2, r3, r4, r5, r6, r7, r8, r9, r10, r11⟩ := hr
  dsimp only at r1 r2 r3 r4 r5 r6 r7 r8 r9 r10 r11
  refine ⟨?_, fun y hy => ?_, ?_, r4, fun i x hx => ?_, ?_, by decide, ?_, r9, fun i x hx => ?_, fun y hy => ?_⟩ <;> (try dsimp only at *)
  · rw [a_Ik (by omega), a_Ik (by omega)]; exact r1
  · rw [a_Ia (by omega), a_Ia (by omega)]; exact r2 y hy
  · rw [a_Ik (by omega), a_Ik (by omega)]; exact r3
  · rw [a_Ia (by omega), a_Ia (by omega), a_Ia (by omega), a_Ia (by omega)]; exact r5 i x hx
  · rw [a_Ik (by omega), a_II]
  · rw [a_II]; rfl
  · cases hx
  · rw [a_Ia (by omega), a_Ia (by omega)]; exact r11 y hy
theorem rS_2 {h : zMem} {f : Nat} {ats : Nat → Nat} {tr : List (Nat × Nat)} {q : List Nat} (hr : rS h o n f (ats, tr, q)) : rS (sI h o 2 (nI 0)) o n f (ats, [], q) := by
  have := rS_T (s := 0) hr
  rw [Nat.min_zero, List.take_zero] at this
  exact this
theorem tA_bq {f : Nat → Nat} {tr : List (Nat × Nat)} (hn : n ≤ 10) (hf : sy tur f) : tA n (f, tr, bq f (n * (n - 1) / 2)) := by
  have key : ∀ a b : Nat, a < n → b < n → ¬ a = b → f (a * 10 + b) = 255 ∨ mn a b ∈ bq f (n * (n - 1) / 2) := by
    intro a b ha hb hd
    obtain ⟨f1, f2⟩ := sy_live (σ := (f, tr, [])) hf (show a < 10 by omega) (show b < 10 by omega)
    dsimp only at f1 f2
    by_cases z : f (a * 10 + b) = 255
    · exact Or.inl z
    · refine Or.inr ((bq_mem _).2 ?_)
      rcases Nat.lt_or_ge a b with c | c
      · obtain ⟨k, hk, e⟩ := pP_ex hn c hb
        have em : mn a b = a * 10 + b := by unfold mn; omega
        exact ⟨k, hk, by rw [e, em], by rw [em]; exact z⟩
      · obtain ⟨k, hk, e⟩ := pP_ex hn (show b < a by omega) ha
        have em : mn a b = b * 10 + a := by unfold mn; omega
        refine ⟨k, hk, by rw [e, em], ?_⟩
        rw [em, f2]
        intro e2
        refine z ?_
        rw [← (tur_OK _ f1).2.1, e2]
        decide
  intro x y z hx hy hz hxy hyz hxz
  rcases key x y hx hy hxy with e1 | e1
  · rcases key y z hy hz hyz with e2 | e2
    · refine Or.inl ?_
      unfold tri
      dsimp only
      rw [e1, e2, fo_all]
      have f1 := (sy_live (σ := (f, tr, [])) hf (show x < 10 by omega) (show z < 10 by omega)).1
      dsimp only at f1
      intro i hi
      have h8 := bit8 f1 hi
      exact (show ∀ j : Fin 8, (255 : Nat).testBit j.val = true by decide) ⟨i, h8⟩
    · exact Or.inr (Or.inr e2)
  · exact Or.inr (Or.inl e1)
theorem c_shrinkAll {h : zMem} {f : Nat} {ats : Nat → Nat} (hn : n ≤ 10) (hg : g 1 < o) (hu : u < o ∨ o + 5 < u) (hP : cP g h) (ho : oSets h o r t) (hw : oWays hvT h r u) (ht : ∀ v : Nat, v < 256 → gI h t v = nI (tur v) ∧ tur v < 256) (hr : rS h o n f (ats, [], [])) (hf : sy tur ats) :
    ∃ (h' : zMem) (f' : Nat) (ats' : Nat → Nat) (p : Prop) (_ : Decidable p), call g Sets_shrinkAll [.ref o] h = some (some (.int (bZ p)), h') ∧ (p ↔ whl n (gc n ats)) ∧ rS h' o n f' (ats', [], []) ∧ sy tur ats' ∧ (p → eqv n ats' (gc n ats)) ∧ sameO o h h' := by
  have a1 := ho.1
  have r1 := hr.1
  have h45 := pn_le hn
  have go : call g Sets_shrinkAll [.ref o] h = ev g Sets_shrinkAll 7 [.ref o, .int (nI (n * (n - 1) / 2)), .int (nI 0)] [] h := by
    rw [n_Sets_shrinkAll]
    simp (disch := omega) only [s_Sets_shrinkAll_0, s_Sets_shrinkAll_1, s_Sets_shrinkAll_4, s_Sets_shrinkAll_5, s_Sets_shrinkAll_6, s_Sets_shrinkAll_8, s_Sets_shrinkAll_9, s_Sets_shrinkAll_12, s_Sets_shrinkAll_13, s_Sets_shrinkAll_16, s_Sets_shrinkAll_19, s_Sets_shrinkAll_20, s_Sets_shrinkAll_21, s_Sets_shrinkAll_22, s_Sets_shrinkAll_25, s_Sets_shrinkAll_26, s_Sets_shrinkAll_27, s_Sets_shrinkAll_30, s_Sets_shrinkAll_34, s_Sets_shrinkAll_35, s_Sets_shrinkAll_38, s_Sets_shrinkAll_39, s_Sets_shrinkAll_40, s_Sets_shrinkAll_43, s_Sets_shrinkAll_44, s_Sets_shrinkAll_46, s_Sets_shrinkAll_47, s_Sets_shrinkAll_50, s_Sets_shrinkAll_51, s_Sets_shrinkAll_54, s_Sets_shrinkAll_57, s_Sets_shrinkAll_58, s_Sets_shrinkAll_59, s_Sets_shrinkAll_60, s_Sets_shrinkAll_63, s_Sets_shrinkAll_66, s_Sets_shrinkAll_67, s_Sets_shrinkAll_70, s_Sets_shrinkAll_71, s_Sets_shrinkAll_74, s_Sets_shrinkAll_77, s_Sets_shrinkAll_78, s_Sets_shrinkAll_79, s_Sets_shrinkAll_80, s_Sets_shrinkAll_81, s_Sets_shrinkAll_84, s_Sets_shrinkAll_87, s_Sets_shrinkAll_88, s_Sets_shrinkAll_89, s_Sets_shrinkAll_90, s_Sets_shrinkAll_91, s_Sets_shrinkAll_92, s_Sets_shrinkAll_93, s_Sets_shrinkAll_96, s_Sets_shrinkAll_97, s_Sets_shrinkAll_98, s_Sets_shrinkAll_101, s_Sets_shrinkAll_104, s_Sets_shrinkAll_108, s_Sets_shrinkAll_111, s_Sets_shrinkAll_112, s_Sets_shrinkAll_113, s_Sets_shrinkAll_114, s_Sets_shrinkAll_117, s_Sets_shrinkAll_118, y_kd_sI, y_kd_sL, y_kd_sR, y_kd_cpI, y_kd_cpL, y_ln_sI, y_ln_sL, y_ln_sR, y_ln_cpI, y_ln_cpL, y_sz_sI, y_sz_sL, y_sz_sR, y_sz_cpI, y_sz_cpL, y_sl_sI, y_sl_sL, y_sl_sR, y_sl_cpI, y_sl_cpL, y_gI_sL, y_gI_sR, y_gI_cpI, y_gI_cpL, y_gI_nw, y_gL_sI, y_gL_sR, y_gL_cpI, y_gL_cpL, y_gL_nw, y_gR_sI, y_gR_sL, y_gR_cpI, y_gR_cpL, y_gR_nw, y_kd_nw, y_ln_nw, y_sz_nw, y_sl_nw, y_fx_int, y_fx_long, y_fx_ref, y_fx_null, y_fx_U, y_rf_s, y_rf_n, a_inb, a_ix, a_lt, a_eq, a_eq0, a_lt0, a_0lt, a_m1, a_m2, a_mlt, a_sub, a_dec, a_div, a_rem, a_shl, a_shr, a_bit, a_bit0, a_II, a_Ia, a_Ik, a_LL, a_La, a_Lk, a_RR, a_Ra, a_Rk, a_if0, a_if1, y_mul, y_and, y_or, nI_add, y_b1, y_b0, kon_v, kon_0, true_or, or_true, and_self, true_and, and_true, false_or, or_false, and_false, false_and, not_true_eq_false, not_false_eq_true, ite_self, ↓reduceIte, Nat.reduceEqDiff, Nat.reduceLeDiff, Nat.reduceAdd, Nat.reduceMul, Nat.reduceSub, Nat.reduceLT, Nat.reduceShiftLeft, Nat.reduceOr, Nat.reduceAnd, a1, q_Sets_pairs a1 r1 hn]
  rw [go]
  rcases sh_one hn hP ho hr with ⟨j, j1, j2, j3⟩ | ⟨j1, j2⟩
  · refine ⟨h, f, ats, False, inferInstance, j3.trans rfl, ⟨fun z => z.elim, fun z => ?_⟩, hr, hf, fun z => z.elim, sameO.rf⟩
    obtain ⟨p1, p2⟩ := pP_lt (show j < 45 by omega)
    have p3 := (pP_n hn (show j < 45 by omega)).2 j1
    have ep : pP j = pP j / 10 * 10 + pP j % 10 := by omega
    obtain ⟨i, hi⟩ := ne0_bit.1 (z (pP j / 10) (pP j % 10) (by omega) p3 (by omega))
    have := gc_sub hn (pP j / 10) (pP j % 10) (by omega) p3 (by omega) i hi
    rw [← ep] at this
    dsimp only at j2
    rw [j2, Nat.zero_testBit] at this
    exact absurd this (by decide)
  · rw [j2]
    have go2 : ev g Sets_shrinkAll 33 [.ref o, .int (nI (n * (n - 1) / 2)), .int (nI (n * (n - 1) / 2))] [] h = ev g Sets_shrinkAll 45 [.ref o, .int (nI (n * (n - 1) / 2)), .int (nI 0)] [] (sI (sI h o 8 (nI 0)) o 9 (nI 0)) := by
      simp (disch := omega) only [s_Sets_shrinkAll_0, s_Sets_shrinkAll_1, s_Sets_shrinkAll_4, s_Sets_shrinkAll_5, s_Sets_shrinkAll_6, s_Sets_shrinkAll_7, s_Sets_shrinkAll_8, s_Sets_shrinkAll_9, s_Sets_shrinkAll_12, s_Sets_shrinkAll_13, s_Sets_shrinkAll_16, s_Sets_shrinkAll_19, s_Sets_shrinkAll_20, s_Sets_shrinkAll_21, s_Sets_shrinkAll_22, s_Sets_shrinkAll_25, s_Sets_shrinkAll_26, s_Sets_shrinkAll_27, s_Sets_shrinkAll_30, s_Sets_shrinkAll_33, s_Sets_shrinkAll_34, s_Sets_shrinkAll_35, s_Sets_shrinkAll_38, s_Sets_shrinkAll_39, s_Sets_shrinkAll_40, s_Sets_shrinkAll_43, s_Sets_shrinkAll_44, s_Sets_shrinkAll_46, s_Sets_shrinkAll_47, s_Sets_shrinkAll_50, s_Sets_shrinkAll_51, s_Sets_shrinkAll_54, s_Sets_shrinkAll_57, s_Sets_shrinkAll_58, s_Sets_shrinkAll_59, s_Sets_shrinkAll_60, s_Sets_shrinkAll_63, s_Sets_shrinkAll_66, s_Sets_shrinkAll_67, s_Sets_shrinkAll_70, s_Sets_shrinkAll_71, s_Sets_shrinkAll_74, s_Sets_shrinkAll_77, s_Sets_shrinkAll_78, s_Sets_shrinkAll_79, s_Sets_shrinkAll_80, s_Sets_shrinkAll_81, s_Sets_shrinkAll_84, s_Sets_shrinkAll_87, s_Sets_shrinkAll_88, s_Sets_shrinkAll_89, s_Sets_shrinkAll_90, s_Sets_shrinkAll_91, s_Sets_shrinkAll_92, s_Sets_shrinkAll_93, s_Sets_shrinkAll_96, s_Sets_shrinkAll_97, s_Sets_shrinkAll_98, s_Sets_shrinkAll_101, s_Sets_shrinkAll_104, s_Sets_shrinkAll_108, s_Sets_shrinkAll_111, s_Sets_shrinkAll_112, s_Sets_shrinkAll_113, s_Sets_shrinkAll_114, s_Sets_shrinkAll_117, s_Sets_shrinkAll_118, y_kd_sI, y_kd_sL, y_kd_sR, y_kd_cpI, y_kd_cpL, y_ln_sI, y_ln_sL, y_ln_sR, y_ln_cpI, y_ln_cpL, y_sz_sI, y_sz_sL, y_sz_sR, y_sz_cpI, y_sz_cpL, y_sl_sI, y_sl_sL, y_sl_sR, y_sl_cpI, y_sl_cpL, y_gI_sL, y_gI_sR, y_gI_cpI, y_gI_cpL, y_gI_nw, y_gL_sI, y_gL_sR, y_gL_cpI, y_gL_cpL, y_gL_nw, y_gR_sI, y_gR_sL, y_gR_cpI, y_gR_cpL, y_gR_nw, y_kd_nw, y_ln_nw, y_sz_nw, y_sl_nw, y_fx_int, y_fx_long, y_fx_ref, y_fx_null, y_fx_U, y_rf_s, y_rf_n, a_inb, a_ix, a_lt, a_eq, a_eq0, a_lt0, a_0lt, a_m1, a_m2, a_mlt, a_sub, a_dec, a_div, a_rem, a_shl, a_shr, a_bit, a_bit0, a_II, a_Ia, a_Ik, a_LL, a_La, a_Lk, a_RR, a_Ra, a_Rk, a_if0, a_if1, y_mul, y_and, y_or, nI_add, y_b1, y_b0, kon_v, kon_0, true_or, or_true, and_self, true_and, and_true, false_or, or_false, and_false, false_and, not_true_eq_false, not_false_eq_true, ite_self, ↓reduceIte, Nat.reduceEqDiff, Nat.reduceLeDiff, Nat.reduceAdd, Nat.reduceMul, Nat.reduceSub, Nat.reduceLT, Nat.reduceShiftLeft, Nat.reduceOr, Nat.reduceAnd, a1]
    rw [go2]
    have hr1 := rS_0 hr
    have s1 : sameO o h (sI (sI h o 8 (nI 0)) o 9 (nI 0)) := (sameO.I (by omega)).trn (sameO.I (by omega))
    generalize sI (sI h o 8 (nI 0)) o 9 (nI 0) = h1 at hr1 s1
    have hP1 : cP g h1 := ⟨(s1.1 _).trans hP.1, (s1.2.1 _).trans hP.2.1, fun k hk => (s1.2.2.2.2.2.2 (g 1) k (by omega)).trans (hP.2.2 k hk)⟩
    obtain ⟨h2, e2, hr2, s2⟩ := sh_two (g := g) hn hg hP1 (s1.st ho) hr1
    have s12 := s1.trn s2
    rw [e2]
    have hq := bq_qI (f := ats) hn (n * (n - 1) / 2) (Nat.le_refl _)
    have hwh : whl n ats := by
      intro a b ha hb hd e0
      obtain ⟨f1, f2⟩ := sy_live (σ := (ats, [], [])) hf (show a < 10 by omega) (show b < 10 by omega)
      dsimp only at f1 f2
      rcases Nat.lt_or_ge a b with c | c
      · obtain ⟨k, hk, e⟩ := pP_ex hn c hb
        exact j1 k hk (by rw [e]; exact e0)
      · obtain ⟨k, hk, e⟩ := pP_ex hn (show b < a by omega) ha
        refine j1 k hk ?_
        rw [e]
        dsimp only
        rw [f2, e0]
        decide
    have hwg : wgt (ats, ([] : List (Nat × Nat)), bq ats (n * (n - 1) / 2)) ≤ 360 := by
      unfold wgt
      have := bsum_top (w := fun p => pc8 (ats p)) (fun p => pc8_le _)
      dsimp only [List.length_nil]
      omega
    obtain ⟨k1, k2, k3, k4, k5⟩ := k_spread (n := n) (hv := hvT) hn (fun s k hs hk => f2_fo hs hk) (σ := (ats, [], bq ats (n * (n - 1) / 2))) hf hq hwg hwh (tA_bq hn hf)
    obtain ⟨h3, f', e3, hr3, -, s3⟩ := c_spread (g := g) (hv := hvT) hn hu (s12.st ho) (s12.ws hu hw) hr2 ⟨hq.1, fun x hx => by have := hq.2 x hx; omega⟩ (s12.tn ho ht)
    generalize pSp tur hvT n 405 (ats, [], bq ats (n * (n - 1) / 2)) true = R at k1 k2 k3 k4 k5 e3 hr3
    obtain ⟨⟨ats', tr', q'⟩, b⟩ := R
    dsimp only at k1 k2 k4 k5 e3 hr3
    subst k1
    have s13 := s12.trn s3
    refine ⟨sI h3 o 2 (nI 0), f', ats', b = true, inferInstance, ?_, k4, rS_2 hr3, k2, k5, s13.trn (sameO.I (by omega))⟩
    have b2 := (s12.st ho).1
    have b3 := (s13.st ho).1
    simp (disch := omega) only [s_Sets_shrinkAll_0, s_Sets_shrinkAll_1, s_Sets_shrinkAll_4, s_Sets_shrinkAll_5, s_Sets_shrinkAll_6, s_Sets_shrinkAll_8, s_Sets_shrinkAll_9, s_Sets_shrinkAll_12, s_Sets_shrinkAll_13, s_Sets_shrinkAll_16, s_Sets_shrinkAll_19, s_Sets_shrinkAll_20, s_Sets_shrinkAll_21, s_Sets_shrinkAll_22, s_Sets_shrinkAll_25, s_Sets_shrinkAll_26, s_Sets_shrinkAll_27, s_Sets_shrinkAll_30, s_Sets_shrinkAll_34, s_Sets_shrinkAll_35, s_Sets_shrinkAll_38, s_Sets_shrinkAll_39, s_Sets_shrinkAll_40, s_Sets_shrinkAll_43, s_Sets_shrinkAll_44, s_Sets_shrinkAll_46, s_Sets_shrinkAll_47, s_Sets_shrinkAll_50, s_Sets_shrinkAll_51, s_Sets_shrinkAll_54, s_Sets_shrinkAll_57, s_Sets_shrinkAll_58, s_Sets_shrinkAll_59, s_Sets_shrinkAll_60, s_Sets_shrinkAll_63, s_Sets_shrinkAll_66, s_Sets_shrinkAll_67, s_Sets_shrinkAll_70, s_Sets_shrinkAll_71, s_Sets_shrinkAll_74, s_Sets_shrinkAll_77, s_Sets_shrinkAll_78, s_Sets_shrinkAll_79, s_Sets_shrinkAll_80, s_Sets_shrinkAll_81, s_Sets_shrinkAll_84, s_Sets_shrinkAll_87, s_Sets_shrinkAll_88, s_Sets_shrinkAll_89, s_Sets_shrinkAll_90, s_Sets_shrinkAll_91, s_Sets_shrinkAll_92, s_Sets_shrinkAll_93, s_Sets_shrinkAll_96, s_Sets_shrinkAll_97, s_Sets_shrinkAll_98, s_Sets_shrinkAll_101, s_Sets_shrinkAll_104, s_Sets_shrinkAll_107, s_Sets_shrinkAll_108, s_Sets_shrinkAll_111, s_Sets_shrinkAll_112, s_Sets_shrinkAll_113, s_Sets_shrinkAll_114, s_Sets_shrinkAll_117, s_Sets_shrinkAll_118, y_kd_sI, y_kd_sL, y_kd_sR, y_kd_cpI, y_kd_cpL, y_ln_sI, y_ln_sL, y_ln_sR, y_ln_cpI, y_ln_cpL, y_sz_sI, y_sz_sL, y_sz_sR, y_sz_cpI, y_sz_cpL, y_sl_sI, y_sl_sL, y_sl_sR, y_sl_cpI, y_sl_cpL, y_gI_sL, y_gI_sR, y_gI_cpI, y_gI_cpL, y_gI_nw, y_gL_sI, y_gL_sR, y_gL_cpI, y_gL_cpL, y_gL_nw, y_gR_sI, y_gR_sL, y_gR_cpI, y_gR_cpL, y_gR_nw, y_kd_nw, y_ln_nw, y_sz_nw, y_sl_nw, y_fx_int, y_fx_long, y_fx_ref, y_fx_null, y_fx_U, y_rf_s, y_rf_n, a_inb, a_ix, a_lt, a_eq, a_eq0, a_lt0, a_0lt, a_m1, a_m2, a_mlt, a_sub, a_dec, a_div, a_rem, a_shl, a_shr, a_bit, a_bit0, a_II, a_Ia, a_Ik, a_LL, a_La, a_Lk, a_RR, a_Ra, a_Rk, a_if0, a_if1, y_mul, y_and, y_or, nI_add, y_b1, y_b0, kon_v, kon_0, true_or, or_true, and_self, true_and, and_true, false_or, or_false, and_false, false_and, not_true_eq_false, not_false_eq_true, ite_self, ↓reduceIte, Nat.reduceEqDiff, Nat.reduceLeDiff, Nat.reduceAdd, Nat.reduceMul, Nat.reduceSub, Nat.reduceLT, Nat.reduceShiftLeft, Nat.reduceOr, Nat.reduceAnd, b2, b3, e3, bZ_and]
end ZSA
