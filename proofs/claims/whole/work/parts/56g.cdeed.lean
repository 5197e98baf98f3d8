/-! the class reads a deed: all of it -/
def rA (T : zT) : Bool × Int32 × Nat × Nat × Nat × zK := pSd T (tk T (tk T 0).2.2)
def rF (T : zT) : Nat := nvC T (tk T 0).2.1 (tk T 0).2.2
def rSc (T : zT) (nf : Nat) : Bool × Nat × zK := pSc T nf (rF T) (rA T).2.2.2.2.2
def rY (T : zT) (nf : Nat) : Bool × Nat × zK := pOp T (zWd 15) 0 0 1000 (rSc T nf).2.2
def rW (T : zT) (nf : Nat) : Bool × Nat × zK := pOp T (zWd 16) 1 1 100 (rY T nf).2.2
def rOk (T : zT) (nf : Nat) : Prop := nok T (tk T 0) 0 nf = true ∧ (rA T).1 = true ∧ (rSc T nf).1 = true ∧ (rY T nf).1 = true ∧ (rW T nf).1 = true ∧ (rW T nf).2.2.1 = 0
/-- where it fails -/
def rFt (T : zT) (nf : Nat) : Nat := if ¬ nok T (tk T 0) 0 nf = true then (tk T 0).2.1 else if ¬ (rA T).1 = true then (rA T).2.2.2.2.2.2.1 else if ¬ (rSc T nf).1 = true then (rSc T nf).2.2.2.1 else if ¬ (rY T nf).1 = true then (rY T nf).2.2.2.1 else (rW T nf).2.2.2.1
section ZRG
variable {g : Nat → Nat} {B p s e k i n a b d nf f : Nat} {h h' h'' : zMem} {T : zT} {σ : zK}
theorem df.TI {k : Nat} {v : Int32} (x : df B d h h') (hk : ¬ k = 0) : df B d h (sI h' (B + 18) k v) := ⟨x.1, fun b j h1 h2 => by rw [a_Ia h1]; exact x.2.1 b j h1 h2, fun b j => x.2.2.1 b j, by rw [a_Ik (fun z => hk z.symm)]; exact x.2.2.2⟩
/-- what a deed is at first -/
def d0 (h : zMem) (d : Nat) : Prop := gI h d 2 = nI 0 ∧ gI h d 3 = nI 1 ∧ gI h d 4 = -1 ∧ gI h d 5 = nI 0 ∧ gI h d 6 = nI 0 ∧ gI h d 7 = nI 0 ∧ gI h d 8 = nI 0
theorem c_clear (kd2 : kd h d = 2) (hd : ¬ d = B + 18) : ∃ h' : zMem, call g Deed_clear [.ref d] h = some (none, h') ∧ df B d h h' ∧ d0 h' d := by
  refine ⟨sI (sI (sI (sI (sI (sI (sI (sI (sI h d 0 (-1)) d 1 (-1)) d 2 (nI 0)) d 3 (nI 1)) d 4 (-1)) d 5 (nI 0)) d 6 (nI 0)) d 7 (nI 0)) d 8 (nI 0), ?_, ((((((((df.rf.I hd).I hd).I hd).I hd).I hd).I hd).I hd).I hd).I hd, ?_⟩
  · rw [n_Deed_clear]
    simp (disch := omega) only [s_Deed_clear_0, s_Deed_clear_1, s_Deed_clear_2, s_Deed_clear_5, s_Deed_clear_6, s_Deed_clear_7, s_Deed_clear_10, s_Deed_clear_11, s_Deed_clear_12, s_Deed_clear_15, s_Deed_clear_16, s_Deed_clear_17, s_Deed_clear_20, s_Deed_clear_21, s_Deed_clear_22, s_Deed_clear_25, s_Deed_clear_26, s_Deed_clear_27, s_Deed_clear_30, s_Deed_clear_31, s_Deed_clear_32, s_Deed_clear_35, s_Deed_clear_36, s_Deed_clear_37, s_Deed_clear_40, s_Deed_clear_41, s_Deed_clear_42, s_Deed_clear_45, y_kd_sI, y_kd_sL, y_kd_sR, y_kd_cpI, y_kd_cpL, y_ln_sI, y_ln_sL, y_ln_sR, y_ln_cpI, y_ln_cpL, y_sz_sI, y_sz_sL, y_sz_sR, y_sz_cpI, y_sz_cpL, y_sl_sI, y_sl_sL, y_sl_sR, y_sl_cpI, y_sl_cpL, y_gI_sL, y_gI_sR, y_gI_cpI, y_gI_cpL, y_gI_nw, y_gL_sI, y_gL_sR, y_gL_cpI, y_gL_cpL, y_gL_nw, y_gR_sI, y_gR_sL, y_gR_cpI, y_gR_cpL, y_gR_nw, y_kd_nw, y_ln_nw, y_sz_nw, y_sl_nw, y_fx_int, y_fx_long, y_fx_ref, y_fx_null, y_fx_U, y_rf_s, y_rf_n, a_inb, a_ix, a_lt, a_eq, a_eq0, a_lt0, a_0lt, a_m1, a_m2, a_mlt, a_sub, a_dec, a_div, a_rem, a_shl, a_shr, a_bit, a_bit0, a_II, a_Ia, a_Ik, a_LL, a_La, a_Lk, a_RR, a_Ra, a_Rk, a_if0, a_if1, y_mul, y_and, y_or, nI_add, y_b1, y_b0, kon_v, kon_0, true_or, or_true, and_self, true_and, and_true, false_or, or_false, and_false, false_and, not_true_eq_false, not_false_eq_true, ite_self, ↓reduceIte, Nat.reduceEqDiff, Nat.reduceLeDiff, Nat.reduceAdd, Nat.reduceMul, Nat.reduceSub, Nat.reduceLT, Nat.reduceShiftLeft, Nat.reduceOr, Nat.reduceAnd, Bool.false_eq_true, b_if, b_z1, b_z0, b_zz, b_a1, b_a0, b_lc, b_zF, b_zT, b_lbit, kd2]
  · refine ⟨?_, ?_, ?_, ?_, ?_, ?_, a_II⟩
    all_goals simp (disch := decide) only [a_Ik, a_II]
/-- what a good deed is -/
def dGd (h : zMem) (d : Nat) (T : zT) (nf : Nat) : Prop := gI h d 0 = nI (rF T) ∧ gI h d 1 = nI (rSc T nf).2.1 ∧ gI h d 2 = nI (rY T nf).2.1 ∧ gI h d 3 = nI (rW T nf).2.1 ∧ gI h d 4 = (rA T).2.1 ∧ gI h d 5 = nI (rA T).2.2.2.1 ∧ gI h d 6 = nI (rA T).2.2.2.2.1 ∧ gI h d 7 = nI (rA T).2.2.1 ∧ gI h d 8 = nI 0
theorem rOk_n {nf : Nat} (h1 : ¬ rOk T nf) (n1 : nok T (tk T 0) 0 nf = true) (n2 : (rA T).1 = true) (n3 : (rSc T nf).1 = true) (n4 : (rY T nf).1 = true) (n5 : (rW T nf).1 = true) : ¬ (rW T nf).2.2.1 = 0 := fun z => h1 ⟨n1, n2, n3, n4, n5, z⟩
theorem c_read (c : cC g h B T) (hd : B + 19 < d) (kd2 : kd h d = 2) (hn : nf ≤ 10) : ∃ (h' : zMem) (r : Int32), call g Tape_read [.ref (B + 18), .ref d, .int (nI nf)] h = some (some (.int r), h') ∧ (rOk T nf → r = -1) ∧ (¬ rOk T nf → r = nI (rFt T nf) ∧ rFt T nf ≤ 80) ∧ df B d h h' ∧ (rOk T nf → dGd h' d T nf) := by
  obtain ⟨h1, a1, a2, a3⟩ := c_clear (g := g) (B := B) kd2 (by omega)
  have k1 := (c.fr a2 hd).kk
  have a2' : df B d h (sI h1 (B + 18) 4 (nI 0)) := a2.TI (by decide)
  have c1 := c.fr a2' hd
  obtain ⟨h2, b1, b2, b3, b4, b5⟩ := c_adv (g := g) (p := 0) c1.2.1 c1.2.2.1 c1.2.2.2 a_II (Nat.zero_le _)
  have k2 : kd (sI h1 (B + 18) 4 (nI 0)) (B + 18) = 10 := k1
  have n80 := c.2.2.2.1
  have go : call g Tape_read [.ref (B + 18), .ref d, .int (nI nf)] h = ev g Tape_read 13 [.ref (B + 18), .ref d, .int (nI nf), zU] [] h2 := by
    rw [n_Tape_read]
    simp (disch := omega) only [s_Tape_read_0, s_Tape_read_1, s_Tape_read_4, s_Tape_read_5, s_Tape_read_6, s_Tape_read_9, s_Tape_read_10, s_Tape_read_14, s_Tape_read_15, s_Tape_read_16, s_Tape_read_17, s_Tape_read_18, s_Tape_read_19, s_Tape_read_22, s_Tape_read_25, s_Tape_read_26, s_Tape_read_29, s_Tape_read_30, s_Tape_read_33, s_Tape_read_34, s_Tape_read_35, s_Tape_read_38, s_Tape_read_41, s_Tape_read_42, s_Tape_read_43, s_Tape_read_44, s_Tape_read_47, s_Tape_read_50, s_Tape_read_51, s_Tape_read_52, s_Tape_read_55, s_Tape_read_58, s_Tape_read_59, s_Tape_read_60, s_Tape_read_63, s_Tape_read_66, s_Tape_read_67, s_Tape_read_70, s_Tape_read_71, s_Tape_read_72, s_Tape_read_73, s_Tape_read_76, s_Tape_read_77, s_Tape_read_80, s_Tape_read_83, s_Tape_read_84, s_Tape_read_87, s_Tape_read_88, s_Tape_read_91, y_kd_sI, y_kd_sL, y_kd_sR, y_kd_cpI, y_kd_cpL, y_ln_sI, y_ln_sL, y_ln_sR, y_ln_cpI, y_ln_cpL, y_sz_sI, y_sz_sL, y_sz_sR, y_sz_cpI, y_sz_cpL, y_sl_sI, y_sl_sL, y_sl_sR, y_sl_cpI, y_sl_cpL, y_gI_sL, y_gI_sR, y_gI_cpI, y_gI_cpL, y_gI_nw, y_gL_sI, y_gL_sR, y_gL_cpI, y_gL_cpL, y_gL_nw, y_gR_sI, y_gR_sL, y_gR_cpI, y_gR_cpL, y_gR_nw, y_kd_nw, y_ln_nw, y_sz_nw, y_sl_nw, y_fx_int, y_fx_long, y_fx_ref, y_fx_null, y_fx_U, y_rf_s, y_rf_n, a_inb, a_ix, a_lt, a_eq, a_eq0, a_lt0, a_0lt, a_m1, a_m2, a_mlt, a_sub, a_dec, a_div, a_rem, a_shl, a_shr, a_bit, a_bit0, a_II, a_Ia, a_Ik, a_LL, a_La, a_Lk, a_RR, a_Ra, a_Rk, a_if0, a_if1, y_mul, y_and, y_or, nI_add, y_b1, y_b0, kon_v, kon_0, true_or, or_true, and_self, true_and, and_true, false_or, or_false, and_false, false_and, not_true_eq_false, not_false_eq_true, ite_self, ↓reduceIte, Nat.reduceEqDiff, Nat.reduceLeDiff, Nat.reduceAdd, Nat.reduceMul, Nat.reduceSub, Nat.reduceLT, Nat.reduceShiftLeft, Nat.reduceOr, Nat.reduceAnd, Bool.false_eq_true, b_if, b_z1, b_z0, b_zz, b_a1, b_a0, b_lc, b_zF, b_zT, b_lbit, kd2, a1, k1, k2, b1]
  rw [go]
  clear go
  have f2 : df B d h h2 := a2'.tr (df.of b2 b3 b4)
  have c2 := c.fr f2 hd
  have k3 := c2.kk
  have kd3 : kd h2 d = 2 := (f2.1.1 d).trans kd2
  have e2 : ∀ k : Nat, gI h2 d k = gI h1 d k := fun k => (b2.2.2.2.2.2.1 _ _ (by omega)).trans (a_Ia (by omega))
  have ok0 : okt T (tk T 0) := ⟨0, Nat.zero_le _, rfl⟩
  have en0 := ok0.bd
  obtain ⟨tk1, tk2⟩ := c_take (g := g) (lo := 0) (hi := nf) (m := nI nf - nI 1) c2 b5 ok0 hd (by decide) (takeM hn)
  have m1 : ((-1 : Int32) = -1) = True := eq_true rfl
  by_cases z1 : nok T (tk T 0) 0 nf = true
  · obtain ⟨h3, d1, d2, d3, d4⟩ := tk1 z1
    have vlt := (nok_i.1 z1).2.2
    have vm : (nI (rF T) = (-1 : Int32)) = False := a_m1 (by unfold rF; omega)
    have rlt : rF T < nf := vlt
    have f4 : df B d h (sI h3 d 0 (nI (rF T))) := (f2.tr d2).I (by omega)
    have c4 := c.fr f4 hd
    have kd4 : kd (sI h3 d 0 (nI (rF T))) d = 2 := (f4.1.1 d).trans kd2
    have kd3' : kd h3 d = 2 := kd4
    have g0 : gI (sI h3 d 0 (nI (rF T))) d 0 = nI (rF T) := a_II
    have ek : ∀ k : Nat, ¬ k = 0 → gI (sI h3 d 0 (nI (rF T))) d k = gI h1 d k := fun k hk => (a_Ik hk).trans ((d3 k).trans (e2 k))
    have t4 : tkn (sI h3 d 0 (nI (rF T))) B T (tk T (tk T 0).2.2) := d4.I hd
    have go : ev g Tape_read 13 [.ref (B + 18), .ref d, .int (nI nf), zU] [] h2 = ev g Tape_read 33 [.ref (B + 18), .ref d, .int (nI nf), zU] [] (sI h3 d 0 (nI (rF T))) := by
      have d1' : call g Tape_take [.ref (B + 18), .int (nI 0), .int (nI (nf - 1))] h2 = some (some (.int (nI (rF T))), h3) := by
        have e := a_sub (a := nf) (b := 1) (by omega)
        rw [← e]
        exact d1
      clear tk1 tk2 d1
      simp (disch := omega) only [s_Tape_read_0, s_Tape_read_1, s_Tape_read_4, s_Tape_read_5, s_Tape_read_6, s_Tape_read_9, s_Tape_read_10, s_Tape_read_13, s_Tape_read_14, s_Tape_read_15, s_Tape_read_16, s_Tape_read_17, s_Tape_read_18, s_Tape_read_19, s_Tape_read_22, s_Tape_read_25, s_Tape_read_26, s_Tape_read_29, s_Tape_read_30, s_Tape_read_34, s_Tape_read_35, s_Tape_read_38, s_Tape_read_41, s_Tape_read_42, s_Tape_read_43, s_Tape_read_44, s_Tape_read_47, s_Tape_read_50, s_Tape_read_51, s_Tape_read_52, s_Tape_read_55, s_Tape_read_58, s_Tape_read_59, s_Tape_read_60, s_Tape_read_63, s_Tape_read_66, s_Tape_read_67, s_Tape_read_70, s_Tape_read_71, s_Tape_read_72, s_Tape_read_73, s_Tape_read_76, s_Tape_read_77, s_Tape_read_80, s_Tape_read_83, s_Tape_read_84, s_Tape_read_87, s_Tape_read_88, s_Tape_read_91, y_kd_sI, y_kd_sL, y_kd_sR, y_kd_cpI, y_kd_cpL, y_ln_sI, y_ln_sL, y_ln_sR, y_ln_cpI, y_ln_cpL, y_sz_sI, y_sz_sL, y_sz_sR, y_sz_cpI, y_sz_cpL, y_sl_sI, y_sl_sL, y_sl_sR, y_sl_cpI, y_sl_cpL, y_gI_sL, y_gI_sR, y_gI_cpI, y_gI_cpL, y_gI_nw, y_gL_sI, y_gL_sR, y_gL_cpI, y_gL_cpL, y_gL_nw, y_gR_sI, y_gR_sL, y_gR_cpI, y_gR_cpL, y_gR_nw, y_kd_nw, y_ln_nw, y_sz_nw, y_sl_nw, y_fx_int, y_fx_long, y_fx_ref, y_fx_null, y_fx_U, y_rf_s, y_rf_n, a_inb, a_ix, a_lt, a_eq, a_eq0, a_lt0, a_0lt, a_m1, a_m2, a_mlt, a_sub, a_dec, a_div, a_rem, a_shl, a_shr, a_bit, a_bit0, a_II, a_Ia, a_Ik, a_LL, a_La, a_Lk, a_RR, a_Ra, a_Rk, a_if0, a_if1, y_mul, y_and, y_or, nI_add, y_b1, y_b0, kon_v, kon_0, true_or, or_true, and_self, true_and, and_true, false_or, or_false, and_false, false_and, not_true_eq_false, not_false_eq_true, ite_self, ↓reduceIte, Nat.reduceEqDiff, Nat.reduceLeDiff, Nat.reduceAdd, Nat.reduceMul, Nat.reduceSub, Nat.reduceLT, Nat.reduceShiftLeft, Nat.reduceOr, Nat.reduceAnd, Bool.false_eq_true, b_if, b_z1, b_z0, b_zz, b_a1, b_a0, b_lc, b_zF, b_zT, b_lbit, k3, d1', kd3', vm]
    rw [go]
    clear go d1 tk1 tk2
    generalize sI h3 d 0 (nI (rF T)) = h4 at *
    have k4 := c4.kk
    obtain ⟨i2, i3, i4, i5, i6, i7, i8⟩ := a3
    obtain ⟨h5, q1, q2, q3, ⟨q4, q5, q6, q7⟩, q8, q9⟩ := c_readSaid (g := g) c4 t4 ok0.nx hd kd4 ((ek 5 (by decide)).trans i5) ((ek 6 (by decide)).trans i6) ((ek 7 (by decide)).trans i7)
    have f5 := f4.tr q2
    have c5 := c.fr f5 hd
    have k5 := c5.kk
    have kd5 : kd h5 d = 2 := (f5.1.1 d).trans kd2
    have rAe : pSd T (tk T (tk T 0).2.2) = rA T := rfl
    rw [rAe] at q1 q4 q5 q6 q7 q8 q9
    have en5 := q9.bd
    by_cases z2 : (rA T).1 = true
    · rw [bZ_t z2] at q1
      obtain ⟨h6, u1, u2, u3, u4, u5, u6⟩ := c_readSecond (g := g) (f := rF T) c5 q8 q9 hd kd5 hn ((q3 0 (by decide) (by decide) (by decide) (by decide)).trans g0) (by omega)
      have rSe : pSc T nf (rF T) (rA T).2.2.2.2.2 = rSc T nf := rfl
      rw [rSe] at u1 u4 u5 u6
      have f6 := f5.tr u2
      have c6 := c.fr f6 hd
      have k6 := c6.kk
      have kd6 : kd h6 d = 2 := (f6.1.1 d).trans kd2
      have en6 := u6.bd
      by_cases z3 : (rSc T nf).1 = true
      · rw [bZ_t z3] at u1
        have s2 : gI h6 d 2 = nI 0 := (u3 2 (by decide)).trans ((q3 2 (by decide) (by decide) (by decide) (by decide)).trans ((ek 2 (by decide)).trans i2))
        obtain ⟨h7, w1, w2, w3, w4, w5, w6⟩ := c_readYear (g := g) c6 u5 u6 hd kd6 s2
        have rYe : pOp T (zWd 15) 0 0 1000 (rSc T nf).2.2 = rY T nf := rfl
        rw [rYe] at w1 w4 w5 w6
        have f7 := f6.tr w2
        have c7 := c.fr f7 hd
        have k7 := c7.kk
        have kd7 : kd h7 d = 2 := (f7.1.1 d).trans kd2
        have en7 := w6.bd
        by_cases z4 : (rY T nf).1 = true
        · rw [bZ_t z4] at w1
          have s3 : gI h7 d 3 = nI 1 := (w3 3 (by decide)).trans ((u3 3 (by decide)).trans ((q3 3 (by decide) (by decide) (by decide) (by decide)).trans ((ek 3 (by decide)).trans i3)))
          obtain ⟨h8, x1, x2, x3, x4, x5, x6⟩ := c_readWeight (g := g) c7 w5 w6 hd kd7 s3
          have rWe : pOp T (zWd 16) 1 1 100 (rY T nf).2.2 = rW T nf := rfl
          rw [rWe] at x1 x4 x5 x6
          have f8 := f7.tr x2
          have k8 := (c.fr f8 hd).kk
          have en8 := x6.bd
          have xt2 := x5.1
          have xt3 := x5.2.1
          by_cases z5 : (rW T nf).1 = true
          · rw [bZ_t z5] at x1
            by_cases z6 : (rW T nf).2.2.1 = 0
            · have ok : rOk T nf := ⟨z1, z2, z3, z4, z5, z6⟩
              rw [z6] at xt2
              refine ⟨h8, -1, ?_, fun _ => rfl, fun w => absurd ok w, f8, fun _ => ⟨?_, ?_, ?_, x4 z5, ?_, ?_, ?_, ?_, ?_⟩⟩
              · simp (disch := omega) only [s_Tape_read_0, s_Tape_read_1, s_Tape_read_4, s_Tape_read_5, s_Tape_read_6, s_Tape_read_9, s_Tape_read_10, s_Tape_read_13, s_Tape_read_14, s_Tape_read_15, s_Tape_read_16, s_Tape_read_17, s_Tape_read_18, s_Tape_read_19, s_Tape_read_22, s_Tape_read_25, s_Tape_read_26, s_Tape_read_29, s_Tape_read_30, s_Tape_read_33, s_Tape_read_34, s_Tape_read_35, s_Tape_read_38, s_Tape_read_41, s_Tape_read_42, s_Tape_read_43, s_Tape_read_44, s_Tape_read_47, s_Tape_read_50, s_Tape_read_51, s_Tape_read_52, s_Tape_read_55, s_Tape_read_58, s_Tape_read_59, s_Tape_read_60, s_Tape_read_63, s_Tape_read_66, s_Tape_read_67, s_Tape_read_70, s_Tape_read_71, s_Tape_read_72, s_Tape_read_73, s_Tape_read_76, s_Tape_read_77, s_Tape_read_80, s_Tape_read_83, s_Tape_read_84, s_Tape_read_87, s_Tape_read_88, s_Tape_read_91, y_kd_sI, y_kd_sL, y_kd_sR, y_kd_cpI, y_kd_cpL, y_ln_sI, y_ln_sL, y_ln_sR, y_ln_cpI, y_ln_cpL, y_sz_sI, y_sz_sL, y_sz_sR, y_sz_cpI, y_sz_cpL, y_sl_sI, y_sl_sL, y_sl_sR, y_sl_cpI, y_sl_cpL, y_gI_sL, y_gI_sR, y_gI_cpI, y_gI_cpL, y_gI_nw, y_gL_sI, y_gL_sR, y_gL_cpI, y_gL_cpL, y_gL_nw, y_gR_sI, y_gR_sL, y_gR_cpI, y_gR_cpL, y_gR_nw, y_kd_nw, y_ln_nw, y_sz_nw, y_sl_nw, y_fx_int, y_fx_long, y_fx_ref, y_fx_null, y_fx_U, y_rf_s, y_rf_n, a_inb, a_ix, a_lt, a_eq, a_eq0, a_lt0, a_0lt, a_m1, a_m2, a_mlt, a_sub, a_dec, a_div, a_rem, a_shl, a_shr, a_bit, a_bit0, a_II, a_Ia, a_Ik, a_LL, a_La, a_Lk, a_RR, a_Ra, a_Rk, a_if0, a_if1, y_mul, y_and, y_or, nI_add, y_b1, y_b0, kon_v, kon_0, true_or, or_true, and_self, true_and, and_true, false_or, or_false, and_false, false_and, not_true_eq_false, not_false_eq_true, ite_self, ↓reduceIte, Nat.reduceEqDiff, Nat.reduceLeDiff, Nat.reduceAdd, Nat.reduceMul, Nat.reduceSub, Nat.reduceLT, Nat.reduceShiftLeft, Nat.reduceOr, Nat.reduceAnd, Bool.false_eq_true, b_if, b_z1, b_z0, b_zz, b_a1, b_a0, b_lc, b_zF, b_zT, b_lbit, k4, q1, k5, u1, k6, w1, k7, x1, k8, xt2]
              · rw [x3 0 (by decide), w3 0 (by decide), u3 0 (by decide), q3 0 (by decide) (by decide) (by decide) (by decide)]; exact g0
              · rw [x3 1 (by decide), w3 1 (by decide)]; exact u4 z3
              · rw [x3 2 (by decide)]; exact w4 z4
              · rw [x3 4 (by decide), w3 4 (by decide), u3 4 (by decide)]; exact q4
              · rw [x3 5 (by decide), w3 5 (by decide), u3 5 (by decide)]; exact q6
              · rw [x3 6 (by decide), w3 6 (by decide), u3 6 (by decide)]; exact q7
              · rw [x3 7 (by decide), w3 7 (by decide), u3 7 (by decide)]; exact q5
              · rw [x3 8 (by decide), w3 8 (by decide), u3 8 (by decide), q3 8 (by decide) (by decide) (by decide) (by decide), ek 8 (by decide)]; exact i8
            · have no : ¬ rOk T nf := fun w => z6 w.2.2.2.2.2
              have z7 : ((rW T nf).2.2.1 = 0) = False := eq_false z6
              have ft : rFt T nf = (rW T nf).2.2.2.1 := by
                unfold rFt
                rw [if_neg (fun w => w z1), if_neg (fun w => w z2), if_neg (fun w => w z3), if_neg (fun w => w z4)]
              refine ⟨h8, nI (rFt T nf), ?_, fun w => absurd w no, fun _ => ⟨rfl, by rw [ft]; omega⟩, f8, fun w => absurd w no⟩
              rw [ft]
              simp (disch := omega) only [s_Tape_read_0, s_Tape_read_1, s_Tape_read_4, s_Tape_read_5, s_Tape_read_6, s_Tape_read_9, s_Tape_read_10, s_Tape_read_13, s_Tape_read_14, s_Tape_read_15, s_Tape_read_16, s_Tape_read_17, s_Tape_read_18, s_Tape_read_19, s_Tape_read_22, s_Tape_read_25, s_Tape_read_26, s_Tape_read_29, s_Tape_read_30, s_Tape_read_33, s_Tape_read_34, s_Tape_read_35, s_Tape_read_38, s_Tape_read_41, s_Tape_read_42, s_Tape_read_43, s_Tape_read_44, s_Tape_read_47, s_Tape_read_50, s_Tape_read_51, s_Tape_read_52, s_Tape_read_55, s_Tape_read_58, s_Tape_read_59, s_Tape_read_60, s_Tape_read_63, s_Tape_read_66, s_Tape_read_67, s_Tape_read_70, s_Tape_read_71, s_Tape_read_72, s_Tape_read_73, s_Tape_read_76, s_Tape_read_77, s_Tape_read_80, s_Tape_read_83, s_Tape_read_84, s_Tape_read_87, s_Tape_read_88, s_Tape_read_91, y_kd_sI, y_kd_sL, y_kd_sR, y_kd_cpI, y_kd_cpL, y_ln_sI, y_ln_sL, y_ln_sR, y_ln_cpI, y_ln_cpL, y_sz_sI, y_sz_sL, y_sz_sR, y_sz_cpI, y_sz_cpL, y_sl_sI, y_sl_sL, y_sl_sR, y_sl_cpI, y_sl_cpL, y_gI_sL, y_gI_sR, y_gI_cpI, y_gI_cpL, y_gI_nw, y_gL_sI, y_gL_sR, y_gL_cpI, y_gL_cpL, y_gL_nw, y_gR_sI, y_gR_sL, y_gR_cpI, y_gR_cpL, y_gR_nw, y_kd_nw, y_ln_nw, y_sz_nw, y_sl_nw, y_fx_int, y_fx_long, y_fx_ref, y_fx_null, y_fx_U, y_rf_s, y_rf_n, a_inb, a_ix, a_lt, a_eq, a_eq0, a_lt0, a_0lt, a_m1, a_m2, a_mlt, a_sub, a_dec, a_div, a_rem, a_shl, a_shr, a_bit, a_bit0, a_II, a_Ia, a_Ik, a_LL, a_La, a_Lk, a_RR, a_Ra, a_Rk, a_if0, a_if1, y_mul, y_and, y_or, nI_add, y_b1, y_b0, kon_v, kon_0, true_or, or_true, and_self, true_and, and_true, false_or, or_false, and_false, false_and, not_true_eq_false, not_false_eq_true, ite_self, ↓reduceIte, Nat.reduceEqDiff, Nat.reduceLeDiff, Nat.reduceAdd, Nat.reduceMul, Nat.reduceSub, Nat.reduceLT, Nat.reduceShiftLeft, Nat.reduceOr, Nat.reduceAnd, Bool.false_eq_true, b_if, b_z1, b_z0, b_zz, b_a1, b_a0, b_lc, b_zF, b_zT, b_lbit, k4, q1, k5, u1, k6, w1, k7, x1, k8, xt2, xt3, z7]
          · rw [bZ_f z5] at x1
            have no : ¬ rOk T nf := fun w => z5 w.2.2.2.2.1
            have ft : rFt T nf = (rW T nf).2.2.2.1 := by
              unfold rFt
              rw [if_neg (fun w => w z1), if_neg (fun w => w z2), if_neg (fun w => w z3), if_neg (fun w => w z4)]
            refine ⟨h8, nI (rFt T nf), ?_, fun w => absurd w no, fun _ => ⟨rfl, by rw [ft]; omega⟩, f8, fun w => absurd w no⟩
            rw [ft]
            simp (disch := omega) only [s_Tape_read_0, s_Tape_read_1, s_Tape_read_4, s_Tape_read_5, s_Tape_read_6, s_Tape_read_9, s_Tape_read_10, s_Tape_read_13, s_Tape_read_14, s_Tape_read_15, s_Tape_read_16, s_Tape_read_17, s_Tape_read_18, s_Tape_read_19, s_Tape_read_22, s_Tape_read_25, s_Tape_read_26, s_Tape_read_29, s_Tape_read_30, s_Tape_read_33, s_Tape_read_34, s_Tape_read_35, s_Tape_read_38, s_Tape_read_41, s_Tape_read_42, s_Tape_read_43, s_Tape_read_44, s_Tape_read_47, s_Tape_read_50, s_Tape_read_51, s_Tape_read_52, s_Tape_read_55, s_Tape_read_58, s_Tape_read_59, s_Tape_read_60, s_Tape_read_63, s_Tape_read_66, s_Tape_read_67, s_Tape_read_70, s_Tape_read_71, s_Tape_read_72, s_Tape_read_73, s_Tape_read_76, s_Tape_read_77, s_Tape_read_80, s_Tape_read_83, s_Tape_read_84, s_Tape_read_87, s_Tape_read_88, s_Tape_read_91, y_kd_sI, y_kd_sL, y_kd_sR, y_kd_cpI, y_kd_cpL, y_ln_sI, y_ln_sL, y_ln_sR, y_ln_cpI, y_ln_cpL, y_sz_sI, y_sz_sL, y_sz_sR, y_sz_cpI, y_sz_cpL, y_sl_sI, y_sl_sL, y_sl_sR, y_sl_cpI, y_sl_cpL, y_gI_sL, y_gI_sR, y_gI_cpI, y_gI_cpL, y_gI_nw, y_gL_sI, y_gL_sR, y_gL_cpI, y_gL_cpL, y_gL_nw, y_gR_sI, y_gR_sL, y_gR_cpI, y_gR_cpL, y_gR_nw, y_kd_nw, y_ln_nw, y_sz_nw, y_sl_nw, y_fx_int, y_fx_long, y_fx_ref, y_fx_null, y_fx_U, y_rf_s, y_rf_n, a_inb, a_ix, a_lt, a_eq, a_eq0, a_lt0, a_0lt, a_m1, a_m2, a_mlt, a_sub, a_dec, a_div, a_rem, a_shl, a_shr, a_bit, a_bit0, a_II, a_Ia, a_Ik, a_LL, a_La, a_Lk, a_RR, a_Ra, a_Rk, a_if0, a_if1, y_mul, y_and, y_or, nI_add, y_b1, y_b0, kon_v, kon_0, true_or, or_true, and_self, true_and, and_true, false_or, or_false, and_false, false_and, not_true_eq_false, not_false_eq_true, ite_self, ↓reduceIte, Nat.reduceEqDiff, Nat.reduceLeDiff, Nat.reduceAdd, Nat.reduceMul, Nat.reduceSub, Nat.reduceLT, Nat.reduceShiftLeft, Nat.reduceOr, Nat.reduceAnd, Bool.false_eq_true, b_if, b_z1, b_z0, b_zz, b_a1, b_a0, b_lc, b_zF, b_zT, b_lbit, k4, q1, k5, u1, k6, w1, k7, x1, k8, xt3]
        · rw [bZ_f z4] at w1
          have no : ¬ rOk T nf := fun w => z4 w.2.2.2.1
          have xt3 := w5.2.1
          have ft : rFt T nf = (rY T nf).2.2.2.1 := by
            unfold rFt
            rw [if_neg (fun w => w z1), if_neg (fun w => w z2), if_neg (fun w => w z3), if_pos z4]
          refine ⟨h7, nI (rFt T nf), ?_, fun w => absurd w no, fun _ => ⟨rfl, by rw [ft]; omega⟩, f7, fun w => absurd w no⟩
          rw [ft]
          simp (disch := omega) only [s_Tape_read_0, s_Tape_read_1, s_Tape_read_4, s_Tape_read_5, s_Tape_read_6, s_Tape_read_9, s_Tape_read_10, s_Tape_read_13, s_Tape_read_14, s_Tape_read_15, s_Tape_read_16, s_Tape_read_17, s_Tape_read_18, s_Tape_read_19, s_Tape_read_22, s_Tape_read_25, s_Tape_read_26, s_Tape_read_29, s_Tape_read_30, s_Tape_read_33, s_Tape_read_34, s_Tape_read_35, s_Tape_read_38, s_Tape_read_41, s_Tape_read_42, s_Tape_read_43, s_Tape_read_44, s_Tape_read_47, s_Tape_read_50, s_Tape_read_51, s_Tape_read_52, s_Tape_read_55, s_Tape_read_58, s_Tape_read_59, s_Tape_read_60, s_Tape_read_63, s_Tape_read_66, s_Tape_read_67, s_Tape_read_70, s_Tape_read_71, s_Tape_read_72, s_Tape_read_73, s_Tape_read_76, s_Tape_read_77, s_Tape_read_80, s_Tape_read_83, s_Tape_read_84, s_Tape_read_87, s_Tape_read_88, s_Tape_read_91, y_kd_sI, y_kd_sL, y_kd_sR, y_kd_cpI, y_kd_cpL, y_ln_sI, y_ln_sL, y_ln_sR, y_ln_cpI, y_ln_cpL, y_sz_sI, y_sz_sL, y_sz_sR, y_sz_cpI, y_sz_cpL, y_sl_sI, y_sl_sL, y_sl_sR, y_sl_cpI, y_sl_cpL, y_gI_sL, y_gI_sR, y_gI_cpI, y_gI_cpL, y_gI_nw, y_gL_sI, y_gL_sR, y_gL_cpI, y_gL_cpL, y_gL_nw, y_gR_sI, y_gR_sL, y_gR_cpI, y_gR_cpL, y_gR_nw, y_kd_nw, y_ln_nw, y_sz_nw, y_sl_nw, y_fx_int, y_fx_long, y_fx_ref, y_fx_null, y_fx_U, y_rf_s, y_rf_n, a_inb, a_ix, a_lt, a_eq, a_eq0, a_lt0, a_0lt, a_m1, a_m2, a_mlt, a_sub, a_dec, a_div, a_rem, a_shl, a_shr, a_bit, a_bit0, a_II, a_Ia, a_Ik, a_LL, a_La, a_Lk, a_RR, a_Ra, a_Rk, a_if0, a_if1, y_mul, y_and, y_or, nI_add, y_b1, y_b0, kon_v, kon_0, true_or, or_true, and_self, true_and, and_true, false_or, or_false, and_false, false_and, not_true_eq_false, not_false_eq_true, ite_self, ↓reduceIte, Nat.reduceEqDiff, Nat.reduceLeDiff, Nat.reduceAdd, Nat.reduceMul, Nat.reduceSub, Nat.reduceLT, Nat.reduceShiftLeft, Nat.reduceOr, Nat.reduceAnd, Bool.false_eq_true, b_if, b_z1, b_z0, b_zz, b_a1, b_a0, b_lc, b_zF, b_zT, b_lbit, k4, q1, k5, u1, k6, w1, k7, xt3]
      · rw [bZ_f z3] at u1
        have no : ¬ rOk T nf := fun w => z3 w.2.2.1
        have xt3 := u5.2.1
        have ft : rFt T nf = (rSc T nf).2.2.2.1 := by
          unfold rFt
          rw [if_neg (fun w => w z1), if_neg (fun w => w z2), if_pos z3]
        refine ⟨h6, nI (rFt T nf), ?_, fun w => absurd w no, fun _ => ⟨rfl, by rw [ft]; omega⟩, f6, fun w => absurd w no⟩
        rw [ft]
        simp (disch := omega) only [s_Tape_read_0, s_Tape_read_1, s_Tape_read_4, s_Tape_read_5, s_Tape_read_6, s_Tape_read_9, s_Tape_read_10, s_Tape_read_13, s_Tape_read_14, s_Tape_read_15, s_Tape_read_16, s_Tape_read_17, s_Tape_read_18, s_Tape_read_19, s_Tape_read_22, s_Tape_read_25, s_Tape_read_26, s_Tape_read_29, s_Tape_read_30, s_Tape_read_33, s_Tape_read_34, s_Tape_read_35, s_Tape_read_38, s_Tape_read_41, s_Tape_read_42, s_Tape_read_43, s_Tape_read_44, s_Tape_read_47, s_Tape_read_50, s_Tape_read_51, s_Tape_read_52, s_Tape_read_55, s_Tape_read_58, s_Tape_read_59, s_Tape_read_60, s_Tape_read_63, s_Tape_read_66, s_Tape_read_67, s_Tape_read_70, s_Tape_read_71, s_Tape_read_72, s_Tape_read_73, s_Tape_read_76, s_Tape_read_77, s_Tape_read_80, s_Tape_read_83, s_Tape_read_84, s_Tape_read_87, s_Tape_read_88, s_Tape_read_91, y_kd_sI, y_kd_sL, y_kd_sR, y_kd_cpI, y_kd_cpL, y_ln_sI, y_ln_sL, y_ln_sR, y_ln_cpI, y_ln_cpL, y_sz_sI, y_sz_sL, y_sz_sR, y_sz_cpI, y_sz_cpL, y_sl_sI, y_sl_sL, y_sl_sR, y_sl_cpI, y_sl_cpL, y_gI_sL, y_gI_sR, y_gI_cpI, y_gI_cpL, y_gI_nw, y_gL_sI, y_gL_sR, y_gL_cpI, y_gL_cpL, y_gL_nw, y_gR_sI, y_gR_sL, y_gR_cpI, y_gR_cpL, y_gR_nw, y_kd_nw, y_ln_nw, y_sz_nw, y_sl_nw, y_fx_int, y_fx_long, y_fx_ref, y_fx_null, y_fx_U, y_rf_s, y_rf_n, a_inb, a_ix, a_lt, a_eq, a_eq0, a_lt0, a_0lt, a_m1, a_m2, a_mlt, a_sub, a_dec, a_div, a_rem, a_shl, a_shr, a_bit, a_bit0, a_II, a_Ia, a_Ik, a_LL, a_La, a_Lk, a_RR, a_Ra, a_Rk, a_if0, a_if1, y_mul, y_and, y_or, nI_add, y_b1, y_b0, kon_v, kon_0, true_or, or_true, and_self, true_and, and_true, false_or, or_false, and_false, false_and, not_true_eq_false, not_false_eq_true, ite_self, ↓reduceIte, Nat.reduceEqDiff, Nat.reduceLeDiff, Nat.reduceAdd, Nat.reduceMul, Nat.reduceSub, Nat.reduceLT, Nat.reduceShiftLeft, Nat.reduceOr, Nat.reduceAnd, Bool.false_eq_true, b_if, b_z1, b_z0, b_zz, b_a1, b_a0, b_lc, b_zF, b_zT, b_lbit, k4, q1, k5, u1, k6, xt3]
    · rw [bZ_f z2] at q1
      have no : ¬ rOk T nf := fun w => z2 w.2.1
      have xt3 := q8.2.1
      have ft : rFt T nf = (rA T).2.2.2.2.2.2.1 := by
        unfold rFt
        rw [if_neg (fun w => w z1), if_pos z2]
      refine ⟨h5, nI (rFt T nf), ?_, fun w => absurd w no, fun _ => ⟨rfl, by rw [ft]; omega⟩, f5, fun w => absurd w no⟩
      rw [ft]
      simp (disch := omega) only [s_Tape_read_0, s_Tape_read_1, s_Tape_read_4, s_Tape_read_5, s_Tape_read_6, s_Tape_read_9, s_Tape_read_10, s_Tape_read_13, s_Tape_read_14, s_Tape_read_15, s_Tape_read_16, s_Tape_read_17, s_Tape_read_18, s_Tape_read_19, s_Tape_read_22, s_Tape_read_25, s_Tape_read_26, s_Tape_read_29, s_Tape_read_30, s_Tape_read_33, s_Tape_read_34, s_Tape_read_35, s_Tape_read_38, s_Tape_read_41, s_Tape_read_42, s_Tape_read_43, s_Tape_read_44, s_Tape_read_47, s_Tape_read_50, s_Tape_read_51, s_Tape_read_52, s_Tape_read_55, s_Tape_read_58, s_Tape_read_59, s_Tape_read_60, s_Tape_read_63, s_Tape_read_66, s_Tape_read_67, s_Tape_read_70, s_Tape_read_71, s_Tape_read_72, s_Tape_read_73, s_Tape_read_76, s_Tape_read_77, s_Tape_read_80, s_Tape_read_83, s_Tape_read_84, s_Tape_read_87, s_Tape_read_88, s_Tape_read_91, y_kd_sI, y_kd_sL, y_kd_sR, y_kd_cpI, y_kd_cpL, y_ln_sI, y_ln_sL, y_ln_sR, y_ln_cpI, y_ln_cpL, y_sz_sI, y_sz_sL, y_sz_sR, y_sz_cpI, y_sz_cpL, y_sl_sI, y_sl_sL, y_sl_sR, y_sl_cpI, y_sl_cpL, y_gI_sL, y_gI_sR, y_gI_cpI, y_gI_cpL, y_gI_nw, y_gL_sI, y_gL_sR, y_gL_cpI, y_gL_cpL, y_gL_nw, y_gR_sI, y_gR_sL, y_gR_cpI, y_gR_cpL, y_gR_nw, y_kd_nw, y_ln_nw, y_sz_nw, y_sl_nw, y_fx_int, y_fx_long, y_fx_ref, y_fx_null, y_fx_U, y_rf_s, y_rf_n, a_inb, a_ix, a_lt, a_eq, a_eq0, a_lt0, a_0lt, a_m1, a_m2, a_mlt, a_sub, a_dec, a_div, a_rem, a_shl, a_shr, a_bit, a_bit0, a_II, a_Ia, a_Ik, a_LL, a_La, a_Lk, a_RR, a_Ra, a_Rk, a_if0, a_if1, y_mul, y_and, y_or, nI_add, y_b1, y_b0, kon_v, kon_0, true_or, or_true, and_self, true_and, and_true, false_or, or_false, and_false, false_and, not_true_eq_false, not_false_eq_true, ite_self, ↓reduceIte, Nat.reduceEqDiff, Nat.reduceLeDiff, Nat.reduceAdd, Nat.reduceMul, Nat.reduceSub, Nat.reduceLT, Nat.reduceShiftLeft, Nat.reduceOr, Nat.reduceAnd, Bool.false_eq_true, b_if, b_z1, b_z0, b_zz, b_a1, b_a0, b_lc, b_zF, b_zT, b_lbit, k4, q1, k5, xt3]
  · have d1 := tk2 z1
    have no : ¬ rOk T nf := fun w => z1 w.1
    have xt3 := b5.2.1
    have ft : rFt T nf = (tk T 0).2.1 := by
      unfold rFt
      rw [if_pos z1]
    have xt4 : gI (sI h2 d 0 (-1)) (B + 18) 3 = nI (tk T 0).2.1 := by rw [a_Ia (by omega)]; exact xt3
    have k5 : kd (sI h2 d 0 (-1)) (B + 18) = 10 := k3
    refine ⟨sI h2 d 0 (-1), nI (rFt T nf), ?_, fun w => absurd w no, fun _ => ⟨rfl, by rw [ft]; omega⟩, f2.I (by omega), fun w => absurd w no⟩
    rw [ft]
    clear tk1 tk2
    by_cases y : nf = 0
    · subst y
      have e : nI 0 - nI 1 = (-1 : Int32) := by decide
      rw [e] at d1
      simp (disch := omega) only [s_Tape_read_0, s_Tape_read_1, s_Tape_read_4, s_Tape_read_5, s_Tape_read_6, s_Tape_read_9, s_Tape_read_10, s_Tape_read_13, s_Tape_read_14, s_Tape_read_15, s_Tape_read_16, s_Tape_read_17, s_Tape_read_18, s_Tape_read_19, s_Tape_read_22, s_Tape_read_25, s_Tape_read_26, s_Tape_read_29, s_Tape_read_30, s_Tape_read_33, s_Tape_read_34, s_Tape_read_35, s_Tape_read_38, s_Tape_read_41, s_Tape_read_42, s_Tape_read_43, s_Tape_read_44, s_Tape_read_47, s_Tape_read_50, s_Tape_read_51, s_Tape_read_52, s_Tape_read_55, s_Tape_read_58, s_Tape_read_59, s_Tape_read_60, s_Tape_read_63, s_Tape_read_66, s_Tape_read_67, s_Tape_read_70, s_Tape_read_71, s_Tape_read_72, s_Tape_read_73, s_Tape_read_76, s_Tape_read_77, s_Tape_read_80, s_Tape_read_83, s_Tape_read_84, s_Tape_read_87, s_Tape_read_88, s_Tape_read_91, y_kd_sI, y_kd_sL, y_kd_sR, y_kd_cpI, y_kd_cpL, y_ln_sI, y_ln_sL, y_ln_sR, y_ln_cpI, y_ln_cpL, y_sz_sI, y_sz_sL, y_sz_sR, y_sz_cpI, y_sz_cpL, y_sl_sI, y_sl_sL, y_sl_sR, y_sl_cpI, y_sl_cpL, y_gI_sL, y_gI_sR, y_gI_cpI, y_gI_cpL, y_gI_nw, y_gL_sI, y_gL_sR, y_gL_cpI, y_gL_cpL, y_gL_nw, y_gR_sI, y_gR_sL, y_gR_cpI, y_gR_cpL, y_gR_nw, y_kd_nw, y_ln_nw, y_sz_nw, y_sl_nw, y_fx_int, y_fx_long, y_fx_ref, y_fx_null, y_fx_U, y_rf_s, y_rf_n, a_inb, a_ix, a_lt, a_eq, a_eq0, a_lt0, a_0lt, a_m1, a_m2, a_mlt, a_sub, a_dec, a_div, a_rem, a_shl, a_shr, a_bit, a_bit0, a_II, a_Ia, a_Ik, a_LL, a_La, a_Lk, a_RR, a_Ra, a_Rk, a_if0, a_if1, y_mul, y_and, y_or, nI_add, y_b1, y_b0, kon_v, kon_0, true_or, or_true, and_self, true_and, and_true, false_or, or_false, and_false, false_and, not_true_eq_false, not_false_eq_true, ite_self, ↓reduceIte, Nat.reduceEqDiff, Nat.reduceLeDiff, Nat.reduceAdd, Nat.reduceMul, Nat.reduceSub, Nat.reduceLT, Nat.reduceShiftLeft, Nat.reduceOr, Nat.reduceAnd, Bool.false_eq_true, b_if, b_z1, b_z0, b_zz, b_a1, b_a0, b_lc, b_zF, b_zT, b_lbit, k3, e, d1, kd3, m1, xt4, k5]
    · rw [a_sub (by omega)] at d1
      simp (disch := omega) only [s_Tape_read_0, s_Tape_read_1, s_Tape_read_4, s_Tape_read_5, s_Tape_read_6, s_Tape_read_9, s_Tape_read_10, s_Tape_read_13, s_Tape_read_14, s_Tape_read_15, s_Tape_read_16, s_Tape_read_17, s_Tape_read_18, s_Tape_read_19, s_Tape_read_22, s_Tape_read_25, s_Tape_read_26, s_Tape_read_29, s_Tape_read_30, s_Tape_read_33, s_Tape_read_34, s_Tape_read_35, s_Tape_read_38, s_Tape_read_41, s_Tape_read_42, s_Tape_read_43, s_Tape_read_44, s_Tape_read_47, s_Tape_read_50, s_Tape_read_51, s_Tape_read_52, s_Tape_read_55, s_Tape_read_58, s_Tape_read_59, s_Tape_read_60, s_Tape_read_63, s_Tape_read_66, s_Tape_read_67, s_Tape_read_70, s_Tape_read_71, s_Tape_read_72, s_Tape_read_73, s_Tape_read_76, s_Tape_read_77, s_Tape_read_80, s_Tape_read_83, s_Tape_read_84, s_Tape_read_87, s_Tape_read_88, s_Tape_read_91, y_kd_sI, y_kd_sL, y_kd_sR, y_kd_cpI, y_kd_cpL, y_ln_sI, y_ln_sL, y_ln_sR, y_ln_cpI, y_ln_cpL, y_sz_sI, y_sz_sL, y_sz_sR, y_sz_cpI, y_sz_cpL, y_sl_sI, y_sl_sL, y_sl_sR, y_sl_cpI, y_sl_cpL, y_gI_sL, y_gI_sR, y_gI_cpI, y_gI_cpL, y_gI_nw, y_gL_sI, y_gL_sR, y_gL_cpI, y_gL_cpL, y_gL_nw, y_gR_sI, y_gR_sL, y_gR_cpI, y_gR_cpL, y_gR_nw, y_kd_nw, y_ln_nw, y_sz_nw, y_sl_nw, y_fx_int, y_fx_long, y_fx_ref, y_fx_null, y_fx_U, y_rf_s, y_rf_n, a_inb, a_ix, a_lt, a_eq, a_eq0, a_lt0, a_0lt, a_m1, a_m2, a_mlt, a_sub, a_dec, a_div, a_rem, a_shl, a_shr, a_bit, a_bit0, a_II, a_Ia, a_Ik, a_LL, a_La, a_Lk, a_RR, a_Ra, a_Rk, a_if0, a_if1, y_mul, y_and, y_or, nI_add, y_b1, y_b0, kon_v, kon_0, true_or, or_true, and_self, true_and, and_true, false_or, or_false, and_false, false_and, not_true_eq_false, not_false_eq_true, ite_self, ↓reduceIte, Nat.reduceEqDiff, Nat.reduceLeDiff, Nat.reduceAdd, Nat.reduceMul, Nat.reduceSub, Nat.reduceLT, Nat.reduceShiftLeft, Nat.reduceOr, Nat.reduceAnd, Bool.false_eq_true, b_if, b_z1, b_z0, b_zz, b_a1, b_a0, b_lc, b_zF, b_zT, b_lbit, k3, d1, kd3, m1, xt4, k5]
end ZRG
