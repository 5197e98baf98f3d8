/-! may, must -/
/-- the ways of S with which there is a telling, from way w on; none: a search is spent -/
noncomputable def mR (n : Nat) (F : Nat → Nat) (a b S : Nat) : Nat → Nat → Nat → Option Nat
  | 0, _, acc => some acc
  | k + 1, w, acc => if S.testBit w = true then (if aS (aRun n 20000 (aOpen n (lsn F a b (2 ^ w)))) = 3 then none else mR n F a b S k (w + 1) (if aS (aRun n 20000 (aOpen n (lsn F a b (2 ^ w)))) = 1 then acc ||| 1 <<< w else acc)) else mR n F a b S k (w + 1) acc
theorem lsn_sub {n a b s : Nat} {F : Nat → Nat} (hf : sy tur F) (ha : a < n) (hb : b < n) (hn : n ≤ 10) : sub n (lsn F a b s) F := by
  intro x y hx hy hxy
  obtain ⟨f1, f2⟩ := hf (a * 10 + b) (by omega)
  unfold lsn pAt
  split
  · rename_i e
    rw [e, f2]
    exact sb_tur (Nat.lt_of_le_of_lt Nat.and_le_left f1) f1 (sb_l _ _)
  · split
    · rename_i e
      rw [e]; exact sb_l _ _
    · exact sb.rf _
theorem gc_mono {n : Nat} {F G : Nat → Nat} (hn : n ≤ 10) (hF : low n F) (hG : low n G) (h : sub n F G) : sub n (gc n F) (gc n G) := gc_max hn hG ((gc_sub hn).tr h) (gc_clo hn hF)
/-- a way that isn't left when all is shrunk leaves no telling -/
theorem no_way {n a b w : Nat} {F : Nat → Nat} (hn : n ≤ 10) (hf : sy tur F) (ha : a < n) (hb : b < n) (hab : ¬ a = b) (h : ¬ ((gc n F (a * 10 + b)).testBit w = true ∧ whl n (gc n F))) : aS (aRun n 20000 (aOpen n (lsn F a b (2 ^ w)))) = 2 := by
  have hF := low_sy hn hf
  have hl := sy_lsn (s := 2 ^ w) hf (show a < 10 by omega) (show b < 10 by omega) hab
  have hG := low_sy hn hl
  have hm := gc_mono hn hG hF (lsn_sub (s := 2 ^ w) hf ha hb hn)
  have nw : ¬ whl n (gc n (lsn F a b (2 ^ w))) := by
    intro hw
    refine h ⟨?_, fun x y hx hy hxy e => ?_⟩
    · obtain ⟨i, hi⟩ := ne0_bit.1 (hw a b ha hb hab)
      have h1 := gc_sub hn a b ha hb hab i hi
      have h2 := hm a b ha hb hab i hi
      have : (lsn F a b (2 ^ w)) (a * 10 + b) = F (a * 10 + b) &&& 2 ^ w := by
        unfold lsn pAt
        rw [if_neg (by omega), if_pos rfl]
      rw [this, Nat.testBit_and, Bool.and_eq_true, Nat.testBit_two_pow, decide_eq_true_eq] at h1
      rw [h1.2]
      exact h2
    · obtain ⟨i, hi⟩ := ne0_bit.1 (hw x y hx hy hxy)
      have h2 := hm x y hx hy hxy i hi
      rw [e, Nat.zero_testBit] at h2
      cases h2
  have hP : ¬ n * (n - 1) / 2 = 0 := by
    have e : 2 * 1 ≤ n * (n - 1) := Nat.mul_le_mul (show 2 ≤ n by omega) (show 1 ≤ n - 1 by omega)
    omega
  have e2 : aS (aOpen n (lsn F a b (2 ^ w))) = 2 := by
    unfold aOpen
    rw [if_neg hP, tst_f nw]
    rfl
  rw [aRun_st (by rw [e2]; decide), e2]
theorem mR_gc {n a b : Nat} {F : Nat → Nat} (hn : n ≤ 10) (hf : sy tur F) (ha : a < n) (hb : b < n) (hab : ¬ a = b) (hw : whl n (gc n F)) : ∀ (k w acc : Nat), mR n F a b (F (a * 10 + b)) k w acc = mR n F a b (gc n F (a * 10 + b)) k w acc
  | 0, _, _ => rfl
  | k + 1, w, acc => by
    unfold mR
    by_cases z1 : (gc n F (a * 10 + b)).testBit w = true
    · have z2 := gc_sub hn a b ha hb hab w z1
      rw [if_pos z1, if_pos z2]
      split
      · rfl
      · exact mR_gc hn hf ha hb hab hw k (w + 1) _
    · rw [if_neg z1]
      have e := no_way (w := w) hn hf ha hb hab (fun c => z1 c.1)
      rw [e]
      split
      · rw [if_neg (by decide), if_neg (by decide)]
        exact mR_gc hn hf ha hb hab hw k (w + 1) _
      · exact mR_gc hn hf ha hb hab hw k (w + 1) _
theorem mR_no {n a b S : Nat} {F : Nat → Nat} (hn : n ≤ 10) (hf : sy tur F) (ha : a < n) (hb : b < n) (hab : ¬ a = b) (hw : ¬ whl n (gc n F)) : ∀ (k w acc : Nat), mR n F a b S k w acc = some acc
  | 0, _, _ => rfl
  | k + 1, w, acc => by
    unfold mR
    have e := no_way (w := w) hn hf ha hb hab (fun c => hw c.2)
    rw [e]
    split
    · rw [if_neg (by decide), if_neg (by decide)]
      exact mR_no hn hf ha hb hab hw k (w + 1) _
    · exact mR_no hn hf ha hb hab hw k (w + 1) _
theorem mR_lt {n a b S : Nat} {F : Nat → Nat} : ∀ (k w acc r : Nat), w + k = 8 → acc < 256 → mR n F a b S k w acc = some r → r < 256
  | 0, _, acc, r, _, h, e => by cases e; exact h
  | k + 1, w, acc, r, hk, h, e => by
    have h1 : (1 : Nat) <<< w < 256 := by
      rw [Nat.one_shiftLeft]
      exact Nat.lt_of_le_of_lt (Nat.pow_le_pow_right (by decide) (show w ≤ 7 by omega)) (by decide)
    unfold mR at e
    split at e
    · split at e
      · cases e
      · refine mR_lt k (w + 1) _ r (by omega) ?_ e
        split
        · exact Nat.or_lt_two_pow (n := 8) h h1
        · exact h
    · exact mR_lt k (w + 1) _ r (by omega) h e
section ZMY
variable {g : Nat → Nat} {B SL : Nat} {h h' : zMem} {H : zH} {T : zT} {Λ K : zL} {κ : Bool} {ρ ρ' : Nat → Int32}
/-- what possible answers -/
def pAns (o : Option Nat) : Int32 := match o with | none => -5 | some r => nI r
theorem l_poss {a b : Nat} {y : Int32} (ha : a < zF Λ) (hb : b < zF Λ) (hab : ¬ a = b) (s : Nat) (hs8 : s < 256) : ∀ (k w acc : Nat) (h : zMem) (v8 : Value), w + k = 8 → JP g B SL h H T Λ K κ ρ ρ' →
    ∃ h' : zMem, ev g DC_possible 52 [.ref B, .int (nI a), .int (nI b), .int y, .int (nI (asO (zV Λ) y (zD Λ))), .int (nI s), .int (nI acc), .int (nI w), v8] [] h = some (some (.int (pAns (mR (zF Λ) (fam (zV Λ) (zF Λ) (zD Λ) y (fun d => selV (zV Λ) y d ∧ bitI (-1) d)) a b s k w acc))), h') ∧ JP g B SL h' H T Λ K κ ρ ρ' := by
  intro k
  induction k with
  | zero =>
    intro w acc h v8 hk j
    refine ⟨h, ?_, j⟩
    have e : w = 8 := by omega
    subst e
    unfold mR pAns
    simp (disch := omega) only [s_DC_possible_0, s_DC_possible_1, s_DC_possible_4, s_DC_possible_5, s_DC_possible_8, s_DC_possible_10, s_DC_possible_11, s_DC_possible_14, s_DC_possible_15, s_DC_possible_18, s_DC_possible_21, s_DC_possible_22, s_DC_possible_24, s_DC_possible_27, s_DC_possible_28, s_DC_possible_31, s_DC_possible_34, s_DC_possible_37, s_DC_possible_38, s_DC_possible_40, s_DC_possible_41, s_DC_possible_42, s_DC_possible_43, s_DC_possible_44, s_DC_possible_46, s_DC_possible_47, s_DC_possible_49, s_DC_possible_50, s_DC_possible_52, s_DC_possible_54, s_DC_possible_56, s_DC_possible_59, s_DC_possible_61, s_DC_possible_63, s_DC_possible_64, s_DC_possible_65, s_DC_possible_66, s_DC_possible_69, s_DC_possible_70, s_DC_possible_73, s_DC_possible_74, s_DC_possible_77, s_DC_possible_80, s_DC_possible_81, s_DC_possible_83, s_DC_possible_86, s_DC_possible_87, s_DC_possible_90, s_DC_possible_93, s_DC_possible_94, s_DC_possible_95, s_DC_possible_96, s_DC_possible_98, s_DC_possible_99, s_DC_possible_102, s_DC_possible_103, s_DC_possible_106, s_DC_possible_107, s_DC_possible_110, s_DC_possible_111, s_DC_possible_114, s_DC_possible_117, s_DC_possible_120, s_DC_possible_122, s_DC_possible_124, s_DC_possible_125, s_DC_possible_128, s_DC_possible_130, s_DC_possible_131, s_DC_possible_133, s_DC_possible_135, s_DC_possible_136, s_DC_possible_139, s_DC_possible_140, s_DC_possible_142, s_DC_possible_143, s_DC_possible_146, s_DC_possible_147, s_DC_possible_148, s_DC_possible_150, s_DC_possible_153, s_DC_possible_156, s_DC_possible_158, y_kd_sI, y_kd_sL, y_kd_sR, y_kd_cpI, y_kd_cpL, y_ln_sI, y_ln_sL, y_ln_sR, y_ln_cpI, y_ln_cpL, y_sz_sI, y_sz_sL, y_sz_sR, y_sz_cpI, y_sz_cpL, y_sl_sI, y_sl_sL, y_sl_sR, y_sl_cpI, y_sl_cpL, y_gI_sL, y_gI_sR, y_gI_cpI, y_gI_cpL, y_gI_nw, y_gL_sI, y_gL_sR, y_gL_cpI, y_gL_cpL, y_gL_nw, y_gR_sI, y_gR_sL, y_gR_cpI, y_gR_cpL, y_gR_nw, y_kd_nw, y_ln_nw, y_sz_nw, y_sl_nw, y_fx_int, y_fx_long, y_fx_ref, y_fx_null, y_fx_U, y_rf_s, y_rf_n, a_inb, a_ix, a_lt, a_eq, a_eq0, a_lt0, a_0lt, a_m1, a_m2, a_mlt, a_sub, a_dec, a_div, a_rem, a_shl, a_shr, a_bit, a_bit0, a_II, a_Ia, a_Ik, a_LL, a_La, a_Lk, a_RR, a_Ra, a_Rk, a_if0, a_if1, y_mul, y_and, y_or, nI_add, y_b1, y_b0, kon_v, kon_0, true_or, or_true, and_self, true_and, and_true, false_or, or_false, and_false, false_and, not_true_eq_false, not_false_eq_true, ite_self, ↓reduceIte, Nat.reduceEqDiff, Nat.reduceLeDiff, Nat.reduceAdd, Nat.reduceMul, Nat.reduceSub, Nat.reduceLT, Nat.reduceShiftLeft, Nat.reduceOr, Nat.reduceAnd, Bool.false_eq_true, b_if, b_z1, b_z0, b_zz, b_a1, b_a0, Nat.lt_irrefl]
  | succ k ih =>
    intro w acc h v8 hk j
    have n24 := j.1.2.2.1.2.1.1
    have n10 := j.1.2.2.1.1.1
    have hlt : (w < 8) = True := eq_true (by omega)
    have e0 : (1 : Nat) <<< w = 2 ^ w := Nat.one_shiftLeft w
    have w8 : (2 : Nat) ^ w < 256 := Nat.lt_of_le_of_lt (Nat.pow_le_pow_right (by decide) (show w ≤ 7 by omega)) (by decide)
    unfold mR
    by_cases z : s.testBit w = true
    · rw [if_pos z]
      have ha2 : asO (zV Λ) y (zD Λ) < 2147483648 := by have := asO_lt (V := zV Λ) (y := y) n24; omega
      obtain ⟨h1, f, e1, r1, s1⟩ := j.fill (y := y) (am := asO (zV Λ) y (zD Λ)) ha2
      rw [fam_all n24] at r1
      have j1 := j.cs s1 (by omega) (by omega)
      have hsy := sy_fam (y := y) (sel := fun d => selV (zV Λ) y d ∧ bitI (-1) d) j.1.2.2.1.1 j.1.2.2.1.2.1
      obtain ⟨c1, c2, c3, c4, c5, c6, c7, c8⟩ := j1.2.2.1.1
      obtain ⟨h2, e2, r2, s2⟩ := c_lessen (g := g) (tn := tur) (a := a) (b := b) (s := 2 ^ w) c6.2.2.2.2.2.2.2.2 r1 (by omega) (by omega) c7.2.2.1
      have r2' : rS h2 (B + 132 + 1) (zF Λ) f (lsn (fam (zV Λ) (zF Λ) (zD Λ) y (fun d => selV (zV Λ) y d ∧ bitI (-1) d)) a b (2 ^ w), [], []) := r2
      have j2 := j1.cs s2.sam (by omega) (by omega)
      obtain ⟨d1, d2, d3, d4, d5, d6, d7, d8⟩ := j2.2.2.1.1
      have hl := sy_lsn (s := 2 ^ w) hsy (show a < 10 by omega) (show b < 10 by omega) hab
      obtain ⟨h3, e3, r3, s3, -⟩ := c_open (g := g) (y := y) n10 d6 (d7.up (show B + 23 ≤ B + 132 by omega)) r2' hl
      have j3 := j2.cs s3 (by omega) (by omega)
      obtain ⟨b1, b2, b3, b4, b5, b6, b7, b8⟩ := j3.2.2.1.1
      obtain ⟨h4, e4, r4, A4, s4, -⟩ := c_run (g := g) (most := 20000) n10 (by decide) b6 (b7.up (show B + 23 ≤ B + 132 by omega)) r3 (aOK_open n10 (low_sy n10 hl))
      have j4 := j3.cs s4 (by omega) (by omega)
      have q1 := j.2.2.1.1.2.2.2.2.2.1.1
      have q2 := j.2.2.1.1.2.2.2.2.2.1.2.1
      have q3 := c6.1
      have q4 := c6.2.1
      have q5 := c6.2.2.2.2.2.2.2.2.1
      have q6 := d6.1
      have q7 := b6.1
      have st3 := A4.2.2.1
      generalize aRun (zF Λ) 20000 (aOpen (zF Λ) (lsn (fam (zV Λ) (zF Λ) (zD Λ) y (fun d => selV (zV Λ) y d ∧ bitI (-1) d)) a b (2 ^ w))) = A at e4 st3 ⊢
      have e4' : call g Search_run [.ref (B + 132), .int (nI 20000)] h3 = some (some (.int (nI (aS A))), h4) := e4
      by_cases z3 : aS A = 3
      · rw [if_pos z3]
        refine ⟨h4, ?_, j4⟩
        unfold pAns
        rw [z3] at e4'
        simp (disch := omega) only [s_DC_possible_0, s_DC_possible_1, s_DC_possible_4, s_DC_possible_5, s_DC_possible_8, s_DC_possible_10, s_DC_possible_11, s_DC_possible_14, s_DC_possible_15, s_DC_possible_18, s_DC_possible_21, s_DC_possible_22, s_DC_possible_24, s_DC_possible_27, s_DC_possible_28, s_DC_possible_31, s_DC_possible_34, s_DC_possible_37, s_DC_possible_38, s_DC_possible_40, s_DC_possible_41, s_DC_possible_42, s_DC_possible_43, s_DC_possible_44, s_DC_possible_46, s_DC_possible_47, s_DC_possible_49, s_DC_possible_50, s_DC_possible_52, s_DC_possible_54, s_DC_possible_56, s_DC_possible_59, s_DC_possible_61, s_DC_possible_63, s_DC_possible_64, s_DC_possible_65, s_DC_possible_66, s_DC_possible_69, s_DC_possible_70, s_DC_possible_73, s_DC_possible_74, s_DC_possible_77, s_DC_possible_80, s_DC_possible_81, s_DC_possible_83, s_DC_possible_86, s_DC_possible_87, s_DC_possible_90, s_DC_possible_93, s_DC_possible_94, s_DC_possible_95, s_DC_possible_96, s_DC_possible_98, s_DC_possible_99, s_DC_possible_102, s_DC_possible_103, s_DC_possible_106, s_DC_possible_107, s_DC_possible_110, s_DC_possible_111, s_DC_possible_114, s_DC_possible_117, s_DC_possible_120, s_DC_possible_122, s_DC_possible_124, s_DC_possible_125, s_DC_possible_128, s_DC_possible_130, s_DC_possible_131, s_DC_possible_133, s_DC_possible_135, s_DC_possible_136, s_DC_possible_139, s_DC_possible_140, s_DC_possible_142, s_DC_possible_143, s_DC_possible_146, s_DC_possible_147, s_DC_possible_148, s_DC_possible_150, s_DC_possible_153, s_DC_possible_156, s_DC_possible_158, y_kd_sI, y_kd_sL, y_kd_sR, y_kd_cpI, y_kd_cpL, y_ln_sI, y_ln_sL, y_ln_sR, y_ln_cpI, y_ln_cpL, y_sz_sI, y_sz_sL, y_sz_sR, y_sz_cpI, y_sz_cpL, y_sl_sI, y_sl_sL, y_sl_sR, y_sl_cpI, y_sl_cpL, y_gI_sL, y_gI_sR, y_gI_cpI, y_gI_cpL, y_gI_nw, y_gL_sI, y_gL_sR, y_gL_cpI, y_gL_cpL, y_gL_nw, y_gR_sI, y_gR_sL, y_gR_cpI, y_gR_cpL, y_gR_nw, y_kd_nw, y_ln_nw, y_sz_nw, y_sl_nw, y_fx_int, y_fx_long, y_fx_ref, y_fx_null, y_fx_U, y_rf_s, y_rf_n, a_inb, a_ix, a_lt, a_eq, a_eq0, a_lt0, a_0lt, a_m1, a_m2, a_mlt, a_sub, a_dec, a_div, a_rem, a_shl, a_shr, a_bit, a_bit0, a_II, a_Ia, a_Ik, a_LL, a_La, a_Lk, a_RR, a_Ra, a_Rk, a_if0, a_if1, y_mul, y_and, y_or, nI_add, y_b1, y_b0, kon_v, kon_0, true_or, or_true, and_self, true_and, and_true, false_or, or_false, and_false, false_and, not_true_eq_false, not_false_eq_true, ite_self, ↓reduceIte, Nat.reduceEqDiff, Nat.reduceLeDiff, Nat.reduceAdd, Nat.reduceMul, Nat.reduceSub, Nat.reduceLT, Nat.reduceShiftLeft, Nat.reduceOr, Nat.reduceAnd, Bool.false_eq_true, b_if, b_z1, b_z0, b_zz, b_a1, b_a0, dc_k j.dc, dc_r0 j.dc, dc_r1 j.dc, dc_r2 j.dc, dc_r3 j.dc, dc_r5 j.dc, dc_r6 j.dc, dc_r7 j.dc, dc_r8 j.dc, dc_r9 j.dc, dc_k1 j.dc, dc_l1 j.dc, dc_k19 j.dc, dc_l19 j.dc, dc_k21 j.dc, dc_l21 j.dc, dc_k22 j.dc, dc_l22 j.dc, dc_k131 j.dc, dc_l131 j.dc, dc_k142 j.dc, dc_l142 j.dc, dc_k143 j.dc, dc_l143 j.dc, dc_k144 j.dc, dc_l144 j.dc, dc_k18 j.dc, dc_r18 j.dc, dc_k20 j.dc, dc_r20_0 j.dc, dc_r20_1 j.dc, dc_k141 j.dc, dc_r141_5 j.dc, dc_r141_6 j.dc, dc_s j.dc, dc_sk j.dc, dc_sr j.dc, dc_ek j.dc, dc_el j.dc, hlt, z, la_k j.la, e1, q1, q2, dc_k j1.dc, dc_r7 j1.dc, q3, q4, q5, e0, e2, dc_k j2.dc, dc_r7 j2.dc, q6, e3, dc_k j3.dc, dc_r7 j3.dc, q7, e4']
      · rw [if_neg z3]
        have zf3 := eq_false z3
        by_cases z1 : aS A = 1
        · rw [if_pos z1]
          obtain ⟨h5, f5, j5⟩ := ih (w + 1) (acc ||| 1 <<< w) h4 (.int (nI 1)) (by omega) j4
          refine ⟨h5, ?_, j5⟩
          rw [← f5, s_DC_possible_52]
          rw [z1] at e4'
          simp (disch := omega) only [s_DC_possible_0, s_DC_possible_1, s_DC_possible_4, s_DC_possible_5, s_DC_possible_8, s_DC_possible_10, s_DC_possible_11, s_DC_possible_14, s_DC_possible_15, s_DC_possible_18, s_DC_possible_21, s_DC_possible_22, s_DC_possible_24, s_DC_possible_27, s_DC_possible_28, s_DC_possible_31, s_DC_possible_34, s_DC_possible_37, s_DC_possible_38, s_DC_possible_40, s_DC_possible_41, s_DC_possible_42, s_DC_possible_43, s_DC_possible_44, s_DC_possible_46, s_DC_possible_47, s_DC_possible_49, s_DC_possible_50, s_DC_possible_54, s_DC_possible_56, s_DC_possible_59, s_DC_possible_61, s_DC_possible_63, s_DC_possible_64, s_DC_possible_65, s_DC_possible_66, s_DC_possible_69, s_DC_possible_70, s_DC_possible_73, s_DC_possible_74, s_DC_possible_77, s_DC_possible_80, s_DC_possible_81, s_DC_possible_83, s_DC_possible_86, s_DC_possible_87, s_DC_possible_90, s_DC_possible_93, s_DC_possible_94, s_DC_possible_95, s_DC_possible_96, s_DC_possible_98, s_DC_possible_99, s_DC_possible_102, s_DC_possible_103, s_DC_possible_106, s_DC_possible_107, s_DC_possible_110, s_DC_possible_111, s_DC_possible_114, s_DC_possible_117, s_DC_possible_120, s_DC_possible_122, s_DC_possible_124, s_DC_possible_125, s_DC_possible_128, s_DC_possible_130, s_DC_possible_131, s_DC_possible_133, s_DC_possible_135, s_DC_possible_136, s_DC_possible_139, s_DC_possible_140, s_DC_possible_142, s_DC_possible_143, s_DC_possible_146, s_DC_possible_147, s_DC_possible_148, s_DC_possible_150, s_DC_possible_153, s_DC_possible_156, s_DC_possible_158, y_kd_sI, y_kd_sL, y_kd_sR, y_kd_cpI, y_kd_cpL, y_ln_sI, y_ln_sL, y_ln_sR, y_ln_cpI, y_ln_cpL, y_sz_sI, y_sz_sL, y_sz_sR, y_sz_cpI, y_sz_cpL, y_sl_sI, y_sl_sL, y_sl_sR, y_sl_cpI, y_sl_cpL, y_gI_sL, y_gI_sR, y_gI_cpI, y_gI_cpL, y_gI_nw, y_gL_sI, y_gL_sR, y_gL_cpI, y_gL_cpL, y_gL_nw, y_gR_sI, y_gR_sL, y_gR_cpI, y_gR_cpL, y_gR_nw, y_kd_nw, y_ln_nw, y_sz_nw, y_sl_nw, y_fx_int, y_fx_long, y_fx_ref, y_fx_null, y_fx_U, y_rf_s, y_rf_n, a_inb, a_ix, a_lt, a_eq, a_eq0, a_lt0, a_0lt, a_m1, a_m2, a_mlt, a_sub, a_dec, a_div, a_rem, a_shl, a_shr, a_bit, a_bit0, a_II, a_Ia, a_Ik, a_LL, a_La, a_Lk, a_RR, a_Ra, a_Rk, a_if0, a_if1, y_mul, y_and, y_or, nI_add, y_b1, y_b0, kon_v, kon_0, true_or, or_true, and_self, true_and, and_true, false_or, or_false, and_false, false_and, not_true_eq_false, not_false_eq_true, ite_self, ↓reduceIte, Nat.reduceEqDiff, Nat.reduceLeDiff, Nat.reduceAdd, Nat.reduceMul, Nat.reduceSub, Nat.reduceLT, Nat.reduceShiftLeft, Nat.reduceOr, Nat.reduceAnd, Bool.false_eq_true, b_if, b_z1, b_z0, b_zz, b_a1, b_a0, dc_k j.dc, dc_r0 j.dc, dc_r1 j.dc, dc_r2 j.dc, dc_r3 j.dc, dc_r5 j.dc, dc_r6 j.dc, dc_r7 j.dc, dc_r8 j.dc, dc_r9 j.dc, dc_k1 j.dc, dc_l1 j.dc, dc_k19 j.dc, dc_l19 j.dc, dc_k21 j.dc, dc_l21 j.dc, dc_k22 j.dc, dc_l22 j.dc, dc_k131 j.dc, dc_l131 j.dc, dc_k142 j.dc, dc_l142 j.dc, dc_k143 j.dc, dc_l143 j.dc, dc_k144 j.dc, dc_l144 j.dc, dc_k18 j.dc, dc_r18 j.dc, dc_k20 j.dc, dc_r20_0 j.dc, dc_r20_1 j.dc, dc_k141 j.dc, dc_r141_5 j.dc, dc_r141_6 j.dc, dc_s j.dc, dc_sk j.dc, dc_sr j.dc, dc_ek j.dc, dc_el j.dc, hlt, z, la_k j.la, e1, q1, q2, dc_k j1.dc, dc_r7 j1.dc, q3, q4, q5, e0, e2, dc_k j2.dc, dc_r7 j2.dc, q6, e3, dc_k j3.dc, dc_r7 j3.dc, q7, e4']
        · rw [if_neg z1]
          have zf1 := eq_false z1
          obtain ⟨h5, f5, j5⟩ := ih (w + 1) acc h4 (.int (nI (aS A))) (by omega) j4
          refine ⟨h5, ?_, j5⟩
          rw [← f5, s_DC_possible_52]
          simp (disch := omega) only [s_DC_possible_0, s_DC_possible_1, s_DC_possible_4, s_DC_possible_5, s_DC_possible_8, s_DC_possible_10, s_DC_possible_11, s_DC_possible_14, s_DC_possible_15, s_DC_possible_18, s_DC_possible_21, s_DC_possible_22, s_DC_possible_24, s_DC_possible_27, s_DC_possible_28, s_DC_possible_31, s_DC_possible_34, s_DC_possible_37, s_DC_possible_38, s_DC_possible_40, s_DC_possible_41, s_DC_possible_42, s_DC_possible_43, s_DC_possible_44, s_DC_possible_46, s_DC_possible_47, s_DC_possible_49, s_DC_possible_50, s_DC_possible_54, s_DC_possible_56, s_DC_possible_59, s_DC_possible_61, s_DC_possible_63, s_DC_possible_64, s_DC_possible_65, s_DC_possible_66, s_DC_possible_69, s_DC_possible_70, s_DC_possible_73, s_DC_possible_74, s_DC_possible_77, s_DC_possible_80, s_DC_possible_81, s_DC_possible_83, s_DC_possible_86, s_DC_possible_87, s_DC_possible_90, s_DC_possible_93, s_DC_possible_94, s_DC_possible_95, s_DC_possible_96, s_DC_possible_98, s_DC_possible_99, s_DC_possible_102, s_DC_possible_103, s_DC_possible_106, s_DC_possible_107, s_DC_possible_110, s_DC_possible_111, s_DC_possible_114, s_DC_possible_117, s_DC_possible_120, s_DC_possible_122, s_DC_possible_124, s_DC_possible_125, s_DC_possible_128, s_DC_possible_130, s_DC_possible_131, s_DC_possible_133, s_DC_possible_135, s_DC_possible_136, s_DC_possible_139, s_DC_possible_140, s_DC_possible_142, s_DC_possible_143, s_DC_possible_146, s_DC_possible_147, s_DC_possible_148, s_DC_possible_150, s_DC_possible_153, s_DC_possible_156, s_DC_possible_158, y_kd_sI, y_kd_sL, y_kd_sR, y_kd_cpI, y_kd_cpL, y_ln_sI, y_ln_sL, y_ln_sR, y_ln_cpI, y_ln_cpL, y_sz_sI, y_sz_sL, y_sz_sR, y_sz_cpI, y_sz_cpL, y_sl_sI, y_sl_sL, y_sl_sR, y_sl_cpI, y_sl_cpL, y_gI_sL, y_gI_sR, y_gI_cpI, y_gI_cpL, y_gI_nw, y_gL_sI, y_gL_sR, y_gL_cpI, y_gL_cpL, y_gL_nw, y_gR_sI, y_gR_sL, y_gR_cpI, y_gR_cpL, y_gR_nw, y_kd_nw, y_ln_nw, y_sz_nw, y_sl_nw, y_fx_int, y_fx_long, y_fx_ref, y_fx_null, y_fx_U, y_rf_s, y_rf_n, a_inb, a_ix, a_lt, a_eq, a_eq0, a_lt0, a_0lt, a_m1, a_m2, a_mlt, a_sub, a_dec, a_div, a_rem, a_shl, a_shr, a_bit, a_bit0, a_II, a_Ia, a_Ik, a_LL, a_La, a_Lk, a_RR, a_Ra, a_Rk, a_if0, a_if1, y_mul, y_and, y_or, nI_add, y_b1, y_b0, kon_v, kon_0, true_or, or_true, and_self, true_and, and_true, false_or, or_false, and_false, false_and, not_true_eq_false, not_false_eq_true, ite_self, ↓reduceIte, Nat.reduceEqDiff, Nat.reduceLeDiff, Nat.reduceAdd, Nat.reduceMul, Nat.reduceSub, Nat.reduceLT, Nat.reduceShiftLeft, Nat.reduceOr, Nat.reduceAnd, Bool.false_eq_true, b_if, b_z1, b_z0, b_zz, b_a1, b_a0, dc_k j.dc, dc_r0 j.dc, dc_r1 j.dc, dc_r2 j.dc, dc_r3 j.dc, dc_r5 j.dc, dc_r6 j.dc, dc_r7 j.dc, dc_r8 j.dc, dc_r9 j.dc, dc_k1 j.dc, dc_l1 j.dc, dc_k19 j.dc, dc_l19 j.dc, dc_k21 j.dc, dc_l21 j.dc, dc_k22 j.dc, dc_l22 j.dc, dc_k131 j.dc, dc_l131 j.dc, dc_k142 j.dc, dc_l142 j.dc, dc_k143 j.dc, dc_l143 j.dc, dc_k144 j.dc, dc_l144 j.dc, dc_k18 j.dc, dc_r18 j.dc, dc_k20 j.dc, dc_r20_0 j.dc, dc_r20_1 j.dc, dc_k141 j.dc, dc_r141_5 j.dc, dc_r141_6 j.dc, dc_s j.dc, dc_sk j.dc, dc_sr j.dc, dc_ek j.dc, dc_el j.dc, hlt, z, la_k j.la, e1, q1, q2, dc_k j1.dc, dc_r7 j1.dc, q3, q4, q5, e0, e2, dc_k j2.dc, dc_r7 j2.dc, q6, e3, dc_k j3.dc, dc_r7 j3.dc, q7, e4', zf3, zf1, Nat.or_zero]
    · rw [if_neg z]
      obtain ⟨h5, f5, j5⟩ := ih (w + 1) acc h v8 (by omega) j
      refine ⟨h5, ?_, j5⟩
      rw [← f5, s_DC_possible_52]
      simp (disch := omega) only [s_DC_possible_0, s_DC_possible_1, s_DC_possible_4, s_DC_possible_5, s_DC_possible_8, s_DC_possible_10, s_DC_possible_11, s_DC_possible_14, s_DC_possible_15, s_DC_possible_18, s_DC_possible_21, s_DC_possible_22, s_DC_possible_24, s_DC_possible_27, s_DC_possible_28, s_DC_possible_31, s_DC_possible_34, s_DC_possible_37, s_DC_possible_38, s_DC_possible_40, s_DC_possible_41, s_DC_possible_42, s_DC_possible_43, s_DC_possible_44, s_DC_possible_46, s_DC_possible_47, s_DC_possible_49, s_DC_possible_50, s_DC_possible_54, s_DC_possible_56, s_DC_possible_59, s_DC_possible_61, s_DC_possible_63, s_DC_possible_64, s_DC_possible_65, s_DC_possible_66, s_DC_possible_69, s_DC_possible_70, s_DC_possible_73, s_DC_possible_74, s_DC_possible_77, s_DC_possible_80, s_DC_possible_81, s_DC_possible_83, s_DC_possible_86, s_DC_possible_87, s_DC_possible_90, s_DC_possible_93, s_DC_possible_94, s_DC_possible_95, s_DC_possible_96, s_DC_possible_98, s_DC_possible_99, s_DC_possible_102, s_DC_possible_103, s_DC_possible_106, s_DC_possible_107, s_DC_possible_110, s_DC_possible_111, s_DC_possible_114, s_DC_possible_117, s_DC_possible_120, s_DC_possible_122, s_DC_possible_124, s_DC_possible_125, s_DC_possible_128, s_DC_possible_130, s_DC_possible_131, s_DC_possible_133, s_DC_possible_135, s_DC_possible_136, s_DC_possible_139, s_DC_possible_140, s_DC_possible_142, s_DC_possible_143, s_DC_possible_146, s_DC_possible_147, s_DC_possible_148, s_DC_possible_150, s_DC_possible_153, s_DC_possible_156, s_DC_possible_158, y_kd_sI, y_kd_sL, y_kd_sR, y_kd_cpI, y_kd_cpL, y_ln_sI, y_ln_sL, y_ln_sR, y_ln_cpI, y_ln_cpL, y_sz_sI, y_sz_sL, y_sz_sR, y_sz_cpI, y_sz_cpL, y_sl_sI, y_sl_sL, y_sl_sR, y_sl_cpI, y_sl_cpL, y_gI_sL, y_gI_sR, y_gI_cpI, y_gI_cpL, y_gI_nw, y_gL_sI, y_gL_sR, y_gL_cpI, y_gL_cpL, y_gL_nw, y_gR_sI, y_gR_sL, y_gR_cpI, y_gR_cpL, y_gR_nw, y_kd_nw, y_ln_nw, y_sz_nw, y_sl_nw, y_fx_int, y_fx_long, y_fx_ref, y_fx_null, y_fx_U, y_rf_s, y_rf_n, a_inb, a_ix, a_lt, a_eq, a_eq0, a_lt0, a_0lt, a_m1, a_m2, a_mlt, a_sub, a_dec, a_div, a_rem, a_shl, a_shr, a_bit, a_bit0, a_II, a_Ia, a_Ik, a_LL, a_La, a_Lk, a_RR, a_Ra, a_Rk, a_if0, a_if1, y_mul, y_and, y_or, nI_add, y_b1, y_b0, kon_v, kon_0, true_or, or_true, and_self, true_and, and_true, false_or, or_false, and_false, false_and, not_true_eq_false, not_false_eq_true, ite_self, ↓reduceIte, Nat.reduceEqDiff, Nat.reduceLeDiff, Nat.reduceAdd, Nat.reduceMul, Nat.reduceSub, Nat.reduceLT, Nat.reduceShiftLeft, Nat.reduceOr, Nat.reduceAnd, Bool.false_eq_true, b_if, b_z1, b_z0, b_zz, b_a1, b_a0, hlt, z]
theorem c_poss {a b : Nat} {y : Int32} (ha : a < zF Λ) (hb : b < zF Λ) (hab : ¬ a = b) (j : JP g B SL h H T Λ K κ ρ ρ') : ∃ h' : zMem, call g DC_possible [.ref B, .int (nI a), .int (nI b), .int y] h = some (some (.int (pAns (mR (zF Λ) (fam (zV Λ) (zF Λ) (zD Λ) y (fun d => selV (zV Λ) y d ∧ bitI (-1) d)) a b (fam (zV Λ) (zF Λ) (zD Λ) y (fun d => selV (zV Λ) y d ∧ bitI (-1) d) (a * 10 + b)) 8 0 0))), h') ∧ JP g B SL h' H T Λ K κ ρ ρ' := by
  have n24 := j.1.2.2.1.2.1.1
  have n10 := j.1.2.2.1.1.1
  have hsy := sy_fam (y := y) (sel := fun d => selV (zV Λ) y d ∧ bitI (-1) d) j.1.2.2.1.1 j.1.2.2.1.2.1
  have ha2 : asO (zV Λ) y (zD Λ) < 2147483648 := by have := asO_lt (V := zV Λ) (y := y) n24; omega
  obtain ⟨h1, f, e1, r1, s1⟩ := j.fill (y := y) (am := asO (zV Λ) y (zD Λ)) ha2
  rw [fam_all n24] at r1
  have j1 := j.cs s1 (by omega) (by omega)
  have s8 := (hsy (a * 10 + b) (by omega)).1
  have vv := (r1.2.1 (a * 10 + b) (by omega)).1
  dsimp only at vv
  obtain ⟨h2, e2, j2⟩ := l_poss (g := g) (y := y) ha hb hab _ s8 8 0 0 h1 zU (by omega) j1
  refine ⟨h2, ?_, j2⟩
  have c6 := j.2.2.1.1.2.2.2.2.2.1
  have d6 := j1.2.2.1.1.2.2.2.2.2.1
  have q1 := c6.1
  have q2 := c6.2.1
  have u1 := d6.1
  have u2 := d6.2.1
  have u3 := d6.2.2.2.2.2.2.2.2.1
  have u4 := d6.2.2.2.2.2.2.2.2.2.1
  have u5 := d6.2.2.2.2.2.2.2.2.2.2.2.2.2.2.2.1
  have u6 := d6.2.2.2.2.2.2.2.2.2.2.2.2.2.2.2.2.1
  have ea := j.asOf (y := y)
  rw [n_DC_possible, ← e2]
  simp (disch := omega) only [s_DC_possible_0, s_DC_possible_1, s_DC_possible_4, s_DC_possible_5, s_DC_possible_8, s_DC_possible_10, s_DC_possible_11, s_DC_possible_14, s_DC_possible_15, s_DC_possible_18, s_DC_possible_21, s_DC_possible_22, s_DC_possible_24, s_DC_possible_27, s_DC_possible_28, s_DC_possible_31, s_DC_possible_34, s_DC_possible_37, s_DC_possible_38, s_DC_possible_40, s_DC_possible_41, s_DC_possible_42, s_DC_possible_43, s_DC_possible_44, s_DC_possible_46, s_DC_possible_47, s_DC_possible_49, s_DC_possible_50, s_DC_possible_54, s_DC_possible_56, s_DC_possible_59, s_DC_possible_61, s_DC_possible_63, s_DC_possible_64, s_DC_possible_65, s_DC_possible_66, s_DC_possible_69, s_DC_possible_70, s_DC_possible_73, s_DC_possible_74, s_DC_possible_77, s_DC_possible_80, s_DC_possible_81, s_DC_possible_83, s_DC_possible_86, s_DC_possible_87, s_DC_possible_90, s_DC_possible_93, s_DC_possible_94, s_DC_possible_95, s_DC_possible_96, s_DC_possible_98, s_DC_possible_99, s_DC_possible_102, s_DC_possible_103, s_DC_possible_106, s_DC_possible_107, s_DC_possible_110, s_DC_possible_111, s_DC_possible_114, s_DC_possible_117, s_DC_possible_120, s_DC_possible_122, s_DC_possible_124, s_DC_possible_125, s_DC_possible_128, s_DC_possible_130, s_DC_possible_131, s_DC_possible_133, s_DC_possible_135, s_DC_possible_136, s_DC_possible_139, s_DC_possible_140, s_DC_possible_142, s_DC_possible_143, s_DC_possible_146, s_DC_possible_147, s_DC_possible_148, s_DC_possible_150, s_DC_possible_153, s_DC_possible_156, s_DC_possible_158, y_kd_sI, y_kd_sL, y_kd_sR, y_kd_cpI, y_kd_cpL, y_ln_sI, y_ln_sL, y_ln_sR, y_ln_cpI, y_ln_cpL, y_sz_sI, y_sz_sL, y_sz_sR, y_sz_cpI, y_sz_cpL, y_sl_sI, y_sl_sL, y_sl_sR, y_sl_cpI, y_sl_cpL, y_gI_sL, y_gI_sR, y_gI_cpI, y_gI_cpL, y_gI_nw, y_gL_sI, y_gL_sR, y_gL_cpI, y_gL_cpL, y_gL_nw, y_gR_sI, y_gR_sL, y_gR_cpI, y_gR_cpL, y_gR_nw, y_kd_nw, y_ln_nw, y_sz_nw, y_sl_nw, y_fx_int, y_fx_long, y_fx_ref, y_fx_null, y_fx_U, y_rf_s, y_rf_n, a_inb, a_ix, a_lt, a_eq, a_eq0, a_lt0, a_0lt, a_m1, a_m2, a_mlt, a_sub, a_dec, a_div, a_rem, a_shl, a_shr, a_bit, a_bit0, a_II, a_Ia, a_Ik, a_LL, a_La, a_Lk, a_RR, a_Ra, a_Rk, a_if0, a_if1, y_mul, y_and, y_or, nI_add, y_b1, y_b0, kon_v, kon_0, true_or, or_true, and_self, true_and, and_true, false_or, or_false, and_false, false_and, not_true_eq_false, not_false_eq_true, ite_self, ↓reduceIte, Nat.reduceEqDiff, Nat.reduceLeDiff, Nat.reduceAdd, Nat.reduceMul, Nat.reduceSub, Nat.reduceLT, Nat.reduceShiftLeft, Nat.reduceOr, Nat.reduceAnd, Bool.false_eq_true, b_if, b_z1, b_z0, b_zz, b_a1, b_a0, dc_k j.dc, dc_r0 j.dc, dc_r1 j.dc, dc_r2 j.dc, dc_r3 j.dc, dc_r5 j.dc, dc_r6 j.dc, dc_r7 j.dc, dc_r8 j.dc, dc_r9 j.dc, dc_k1 j.dc, dc_l1 j.dc, dc_k19 j.dc, dc_l19 j.dc, dc_k21 j.dc, dc_l21 j.dc, dc_k22 j.dc, dc_l22 j.dc, dc_k131 j.dc, dc_l131 j.dc, dc_k142 j.dc, dc_l142 j.dc, dc_k143 j.dc, dc_l143 j.dc, dc_k144 j.dc, dc_l144 j.dc, dc_k18 j.dc, dc_r18 j.dc, dc_k20 j.dc, dc_r20_0 j.dc, dc_r20_1 j.dc, dc_k141 j.dc, dc_r141_5 j.dc, dc_r141_6 j.dc, dc_s j.dc, dc_sk j.dc, dc_sr j.dc, dc_ek j.dc, dc_el j.dc, la_k j.la, ea, e1, q1, q2, dc_k j1.dc, dc_r7 j1.dc, u1, u2, u3, u4, u5, u6, vv]
/-- the reference's loop -/
theorem l_mayOf {a b : Nat} {y : Int32} (ha : a < zF Λ) (hb : b < zF Λ) (hab : ¬ a = b) (s : Nat) (hs8 : s < 256) : ∀ (k w acc : Nat) (h : zMem), w + k = 8 → JP g B SL h H T Λ K κ ρ ρ' →
    ∃ h' : zMem, ev g Mo_mayOf 52 [.ref (B + 145), .int (nI a), .int (nI b), .int y, .int (nI s), .int (nI acc), .int (nI w)] [] h = some (some (.int (match mR (zF Λ) (fam (zV Λ) (zF Λ) (zD Λ) y (fun d => selV (zV Λ) y d ∧ bitI (-1) d)) a b s k w acc with | none => -1 | some r => nI r)), h') ∧ JP g B SL h' H T Λ K κ ρ ρ' := by
  intro k
  induction k with
  | zero =>
    intro w acc h hk j
    refine ⟨h, ?_, j⟩
    have e : w = 8 := by omega
    subst e
    unfold mR
    simp (disch := omega) only [s_Mo_mayOf_0, s_Mo_mayOf_1, s_Mo_mayOf_2, s_Mo_mayOf_5, s_Mo_mayOf_6, s_Mo_mayOf_7, s_Mo_mayOf_8, s_Mo_mayOf_9, s_Mo_mayOf_12, s_Mo_mayOf_13, s_Mo_mayOf_14, s_Mo_mayOf_17, s_Mo_mayOf_18, s_Mo_mayOf_19, s_Mo_mayOf_20, s_Mo_mayOf_23, s_Mo_mayOf_26, s_Mo_mayOf_29, s_Mo_mayOf_30, s_Mo_mayOf_31, s_Mo_mayOf_32, s_Mo_mayOf_35, s_Mo_mayOf_36, s_Mo_mayOf_37, s_Mo_mayOf_38, s_Mo_mayOf_40, s_Mo_mayOf_41, s_Mo_mayOf_42, s_Mo_mayOf_43, s_Mo_mayOf_44, s_Mo_mayOf_46, s_Mo_mayOf_47, s_Mo_mayOf_49, s_Mo_mayOf_50, s_Mo_mayOf_52, s_Mo_mayOf_54, s_Mo_mayOf_56, s_Mo_mayOf_59, s_Mo_mayOf_61, s_Mo_mayOf_63, s_Mo_mayOf_64, s_Mo_mayOf_65, s_Mo_mayOf_66, s_Mo_mayOf_69, s_Mo_mayOf_70, s_Mo_mayOf_71, s_Mo_mayOf_74, s_Mo_mayOf_75, s_Mo_mayOf_76, s_Mo_mayOf_77, s_Mo_mayOf_78, s_Mo_mayOf_81, s_Mo_mayOf_82, s_Mo_mayOf_85, s_Mo_mayOf_86, s_Mo_mayOf_87, s_Mo_mayOf_88, s_Mo_mayOf_89, s_Mo_mayOf_90, s_Mo_mayOf_92, s_Mo_mayOf_93, s_Mo_mayOf_96, s_Mo_mayOf_97, s_Mo_mayOf_98, s_Mo_mayOf_101, s_Mo_mayOf_104, s_Mo_mayOf_105, s_Mo_mayOf_108, s_Mo_mayOf_109, s_Mo_mayOf_112, s_Mo_mayOf_113, s_Mo_mayOf_116, s_Mo_mayOf_117, s_Mo_mayOf_118, s_Mo_mayOf_120, s_Mo_mayOf_121, s_Mo_mayOf_124, s_Mo_mayOf_125, s_Mo_mayOf_128, s_Mo_mayOf_129, s_Mo_mayOf_131, s_Mo_mayOf_132, s_Mo_mayOf_135, s_Mo_mayOf_136, s_Mo_mayOf_137, s_Mo_mayOf_139, s_Mo_mayOf_142, s_Mo_mayOf_145, s_Mo_mayOf_147, y_kd_sI, y_kd_sL, y_kd_sR, y_kd_cpI, y_kd_cpL, y_ln_sI, y_ln_sL, y_ln_sR, y_ln_cpI, y_ln_cpL, y_sz_sI, y_sz_sL, y_sz_sR, y_sz_cpI, y_sz_cpL, y_sl_sI, y_sl_sL, y_sl_sR, y_sl_cpI, y_sl_cpL, y_gI_sL, y_gI_sR, y_gI_cpI, y_gI_cpL, y_gI_nw, y_gL_sI, y_gL_sR, y_gL_cpI, y_gL_cpL, y_gL_nw, y_gR_sI, y_gR_sL, y_gR_cpI, y_gR_cpL, y_gR_nw, y_kd_nw, y_ln_nw, y_sz_nw, y_sl_nw, y_fx_int, y_fx_long, y_fx_ref, y_fx_null, y_fx_U, y_rf_s, y_rf_n, a_inb, a_ix, a_lt, a_eq, a_eq0, a_lt0, a_0lt, a_m1, a_m2, a_mlt, a_sub, a_dec, a_div, a_rem, a_shl, a_shr, a_bit, a_bit0, a_II, a_Ia, a_Ik, a_LL, a_La, a_Lk, a_RR, a_Ra, a_Rk, a_if0, a_if1, y_mul, y_and, y_or, nI_add, y_b1, y_b0, kon_v, kon_0, true_or, or_true, and_self, true_and, and_true, false_or, or_false, and_false, false_and, not_true_eq_false, not_false_eq_true, ite_self, ↓reduceIte, Nat.reduceEqDiff, Nat.reduceLeDiff, Nat.reduceAdd, Nat.reduceMul, Nat.reduceSub, Nat.reduceLT, Nat.reduceShiftLeft, Nat.reduceOr, Nat.reduceAnd, Bool.false_eq_true, b_if, b_z1, b_z0, b_zz, b_a1, b_a0, Nat.lt_irrefl]
  | succ k ih =>
    intro w acc h hk j
    have n24 := j.1.2.2.1.2.1.1
    have n10 := j.1.2.2.1.1.1
    have hlt : (w < 8) = True := eq_true (by omega)
    have e0 : (1 : Nat) <<< w = 2 ^ w := Nat.one_shiftLeft w
    have w8 : (2 : Nat) ^ w < 256 := Nat.lt_of_le_of_lt (Nat.pow_le_pow_right (by decide) (show w ≤ 7 by omega)) (by decide)
    unfold mR
    by_cases z : s.testBit w = true
    · rw [if_pos z]
      have hsy := sy_fam (y := y) (sel := fun d => selV (zV Λ) y d ∧ bitI (-1) d) j.1.2.2.1.1 j.1.2.2.1.2.1
      obtain ⟨h1, e1, r1, s1, j1⟩ := j.mk (y := y) (of := -1)
      have o36 := mo_set j.mo (show 0 < 46 by decide)
      have o36' := mo_set j1.mo (show 0 < 46 by decide)
      have k36 := mo_setk j1.mo (show 0 < 46 by decide)
      have l36 := mo_setl j1.mo (show 0 < 46 by decide)
      rw [Nat.add_zero] at o36 o36' k36 l36
      obtain ⟨h2, e2, r2, s2⟩ := c_less (g := g) (s := 2 ^ w) n10 ha hb hab k36 l36 r1 hsy w8
      have eL := gL_less n10 ha hb hab k36 l36 r1 w8 e2
      have f53 : gI h1 (B + 145) 53 = nI 0 := by
        obtain ⟨hh, ee, -, -, ff⟩ := c_makeSets (g := g) (y := y) (of := -1) (ra := B + 145 + 36) j.mo (by omega) (mo_setk j.mo (show 0 < 46 by decide)) (mo_setl j.mo (show 0 < 46 by decide)) j.2.2.2.2.2.2.2.2.2.2.1.1 j.2.2.2.2.2.2.2.2.2.2.1.2.1 j.2.2.2.2.2.2.2.2.2.2.1.2.2.1 j.1.2.2.1.1 j.1.2.2.1.2.1 j.1.2.2.1.2.2.1
        rw [e1] at ee
        cases ee
        exact ff
      have m2 : mcs (B + 145) h1 h2 := ⟨s2.1, s2.2.1, s2.2.2.1, s2.2.2.2.1, s2.2.2.2.2.1, eL, fun b k c1 c2 c3 => s2.2.2.2.2.2.1 b k (by omega), fun k c1 c2 => s2.2.2.2.2.2.1 _ k (by omega)⟩
      have j2 := j1.ms m2 (j1.2.2.2.2.1.mv (fun k => s2.2.2.2.2.2.1 _ k (by omega)) (s2.2.2.2.2.2.1 _ _ (by omega))) (Or.inl ((s2.2.2.2.2.2.1 _ _ (by omega)).trans f53))
      have hl := sy_lsn (s := 2 ^ w) hsy (show a < 10 by omega) (show b < 10 by omega) hab
      obtain ⟨G, g1, g2, g3⟩ := r2
      have hlG := g2.sy.lo (low_sy n10 hl)
      have hg2 : g 2 < B + 145 := by have := j2.2.1.2.2.1; omega
      obtain ⟨h3, e3, r3, k3, s3, f3⟩ := c_Mo_begin (g := g) (S := G) n10 hg2 j2.mo j2.2.1.2.2.2.2.1 j2.2.2.2.2.1 g1 hlG g3
      rw [aOpen_c n10 hlG g2] at r3
      have j3 := j2.ms s3.cs k3 (Or.inl f3)
      have h0 := aOK_open n10 (low_sy n10 hl)
      obtain ⟨h4, e4, r4, k4, s4, f4⟩ := c_Mo_goOn (g := g) n10 hg2 j3.mo j3.2.1.2.2.2.2.1 k3 r3 h0 (aSy_open n10 (low_sy n10 hl) (symF_sy n10 hl))
      have j4 := j3.ms s4.cs k4 (Or.inl (f4.trans f3))
      have A4 := aOK_run (A := aOpen (zF Λ) (lsn (fam (zV Λ) (zF Λ) (zD Λ) y (fun d => selV (zV Λ) y d ∧ bitI (-1) d)) a b (2 ^ w))) n10 20000 _ h0
      have st3 := A4.2.2.1
      have r6 := r4.2.2.2.2.2.1
      have n9 := j2.2.2.2.2.2.2.2.2.2.2.1.1.1
      generalize aRun (zF Λ) 20000 (aOpen (zF Λ) (lsn (fam (zV Λ) (zF Λ) (zD Λ) y (fun d => selV (zV Λ) y d ∧ bitI (-1) d)) a b (2 ^ w))) = A at r6 st3 ⊢
      by_cases z3 : aS A = 3
      · rw [if_pos z3]
        refine ⟨h4, ?_, j4⟩
        rw [z3] at r6
        simp (disch := omega) only [s_Mo_mayOf_0, s_Mo_mayOf_1, s_Mo_mayOf_2, s_Mo_mayOf_5, s_Mo_mayOf_6, s_Mo_mayOf_7, s_Mo_mayOf_8, s_Mo_mayOf_9, s_Mo_mayOf_12, s_Mo_mayOf_13, s_Mo_mayOf_14, s_Mo_mayOf_17, s_Mo_mayOf_18, s_Mo_mayOf_19, s_Mo_mayOf_20, s_Mo_mayOf_23, s_Mo_mayOf_26, s_Mo_mayOf_29, s_Mo_mayOf_30, s_Mo_mayOf_31, s_Mo_mayOf_32, s_Mo_mayOf_35, s_Mo_mayOf_36, s_Mo_mayOf_37, s_Mo_mayOf_38, s_Mo_mayOf_40, s_Mo_mayOf_41, s_Mo_mayOf_42, s_Mo_mayOf_43, s_Mo_mayOf_44, s_Mo_mayOf_46, s_Mo_mayOf_47, s_Mo_mayOf_49, s_Mo_mayOf_50, s_Mo_mayOf_52, s_Mo_mayOf_54, s_Mo_mayOf_56, s_Mo_mayOf_59, s_Mo_mayOf_61, s_Mo_mayOf_63, s_Mo_mayOf_64, s_Mo_mayOf_65, s_Mo_mayOf_66, s_Mo_mayOf_69, s_Mo_mayOf_70, s_Mo_mayOf_71, s_Mo_mayOf_74, s_Mo_mayOf_75, s_Mo_mayOf_76, s_Mo_mayOf_77, s_Mo_mayOf_78, s_Mo_mayOf_81, s_Mo_mayOf_82, s_Mo_mayOf_85, s_Mo_mayOf_86, s_Mo_mayOf_87, s_Mo_mayOf_88, s_Mo_mayOf_89, s_Mo_mayOf_90, s_Mo_mayOf_92, s_Mo_mayOf_93, s_Mo_mayOf_96, s_Mo_mayOf_97, s_Mo_mayOf_98, s_Mo_mayOf_101, s_Mo_mayOf_104, s_Mo_mayOf_105, s_Mo_mayOf_108, s_Mo_mayOf_109, s_Mo_mayOf_112, s_Mo_mayOf_113, s_Mo_mayOf_116, s_Mo_mayOf_117, s_Mo_mayOf_118, s_Mo_mayOf_120, s_Mo_mayOf_121, s_Mo_mayOf_124, s_Mo_mayOf_125, s_Mo_mayOf_128, s_Mo_mayOf_129, s_Mo_mayOf_131, s_Mo_mayOf_132, s_Mo_mayOf_135, s_Mo_mayOf_136, s_Mo_mayOf_137, s_Mo_mayOf_139, s_Mo_mayOf_142, s_Mo_mayOf_145, s_Mo_mayOf_147, y_kd_sI, y_kd_sL, y_kd_sR, y_kd_cpI, y_kd_cpL, y_ln_sI, y_ln_sL, y_ln_sR, y_ln_cpI, y_ln_cpL, y_sz_sI, y_sz_sL, y_sz_sR, y_sz_cpI, y_sz_cpL, y_sl_sI, y_sl_sL, y_sl_sR, y_sl_cpI, y_sl_cpL, y_gI_sL, y_gI_sR, y_gI_cpI, y_gI_cpL, y_gI_nw, y_gL_sI, y_gL_sR, y_gL_cpI, y_gL_cpL, y_gL_nw, y_gR_sI, y_gR_sL, y_gR_cpI, y_gR_cpL, y_gR_nw, y_kd_nw, y_ln_nw, y_sz_nw, y_sl_nw, y_fx_int, y_fx_long, y_fx_ref, y_fx_null, y_fx_U, y_rf_s, y_rf_n, a_inb, a_ix, a_lt, a_eq, a_eq0, a_lt0, a_0lt, a_m1, a_m2, a_mlt, a_sub, a_dec, a_div, a_rem, a_shl, a_shr, a_bit, a_bit0, a_II, a_Ia, a_Ik, a_LL, a_La, a_Lk, a_RR, a_Ra, a_Rk, a_if0, a_if1, y_mul, y_and, y_or, nI_add, y_b1, y_b0, kon_v, kon_0, true_or, or_true, and_self, true_and, and_true, false_or, or_false, and_false, false_and, not_true_eq_false, not_false_eq_true, ite_self, ↓reduceIte, Nat.reduceEqDiff, Nat.reduceLeDiff, Nat.reduceAdd, Nat.reduceMul, Nat.reduceSub, Nat.reduceLT, Nat.reduceShiftLeft, Nat.reduceOr, Nat.reduceAnd, Bool.false_eq_true, b_if, b_z1, b_z0, b_zz, b_a1, b_a0, mo_k j.mo, mo_r0 j.mo, mo_k0 j.mo, mo_l0 j.mo, mo_r1 j.mo, mo_k1 j.mo, mo_l1 j.mo, mo_r2 j.mo, mo_k2 j.mo, mo_l2 j.mo, mo_r3 j.mo, mo_k3 j.mo, mo_l3 j.mo, mo_r4 j.mo, mo_k4 j.mo, mo_l4 j.mo, mo_r5 j.mo, mo_k5 j.mo, mo_l5 j.mo, mo_r6 j.mo, mo_k6 j.mo, mo_l6 j.mo, mo_r8 j.mo, mo_k8 j.mo, mo_l8 j.mo, mo_r10 j.mo, mo_k10 j.mo, mo_l10 j.mo, mo_r11 j.mo, mo_k11 j.mo, mo_l11 j.mo, mo_r12 j.mo, mo_k12 j.mo, mo_l12 j.mo, mo_r13 j.mo, mo_k13 j.mo, mo_l13 j.mo, mo_r14 j.mo, mo_k14 j.mo, mo_l14 j.mo, mo_r16 j.mo, mo_k16 j.mo, mo_l16 j.mo, mo_r17 j.mo, mo_k17 j.mo, mo_l17 j.mo, mo_r18 j.mo, mo_k18 j.mo, mo_l18 j.mo, mo_r19 j.mo, mo_k19 j.mo, mo_l19 j.mo, mo_r20 j.mo, mo_k20 j.mo, mo_l20 j.mo, mo_r21 j.mo, mo_k21 j.mo, mo_l21 j.mo, mo_r22 j.mo, mo_k22 j.mo, mo_l22 j.mo, mo_r23 j.mo, mo_k23 j.mo, mo_l23 j.mo, mo_r24 j.mo, mo_k24 j.mo, mo_l24 j.mo, mo_r25 j.mo, mo_k25 j.mo, mo_l25 j.mo, mo_r26 j.mo, mo_k26 j.mo, mo_l26 j.mo, mo_r29 j.mo, mo_k29 j.mo, mo_l29 j.mo, mo_r30 j.mo, mo_k30 j.mo, mo_l30 j.mo, mo_r36 j.mo, mo_k36 j.mo, mo_l36 j.mo, mo_r37 j.mo, mo_k37 j.mo, mo_l37 j.mo, mo_r49 j.mo, mo_k49 j.mo, mo_l49 j.mo, mo_r50 j.mo, mo_k50 j.mo, mo_l50 j.mo, mo_r51 j.mo, mo_k51 j.mo, mo_l51 j.mo, mo_r56 j.mo, mo_k56 j.mo, mo_l56 j.mo, mo_r62 j.mo, mo_k62 j.mo, mo_l62 j.mo, mo_r63 j.mo, mo_k63 j.mo, mo_l63 j.mo, mo_r66 j.mo, mo_k66 j.mo, mo_l66 j.mo, mo_row j.mo, mo_rowk j.mo, mo_rowl j.mo, mo_set j.mo, mo_setk j.mo, mo_setl j.mo, o36, hlt, z, e1, mo_k j1.mo, mo_r36 j1.mo, mo_k36 j1.mo, mo_l36 j1.mo, o36', e0, e2, mo_k j2.mo, n9, e3, mo_k j3.mo, e4, mo_k j4.mo, r6]
      · rw [if_neg z3]
        have zf3 := eq_false z3
        by_cases z1 : aS A = 1
        · rw [if_pos z1]
          obtain ⟨h5, f5, j5⟩ := ih (w + 1) (acc ||| 1 <<< w) h4 (by omega) j4
          refine ⟨h5, ?_, j5⟩
          rw [← f5, s_Mo_mayOf_52]
          rw [z1] at r6
          simp (disch := omega) only [s_Mo_mayOf_0, s_Mo_mayOf_1, s_Mo_mayOf_2, s_Mo_mayOf_5, s_Mo_mayOf_6, s_Mo_mayOf_7, s_Mo_mayOf_8, s_Mo_mayOf_9, s_Mo_mayOf_12, s_Mo_mayOf_13, s_Mo_mayOf_14, s_Mo_mayOf_17, s_Mo_mayOf_18, s_Mo_mayOf_19, s_Mo_mayOf_20, s_Mo_mayOf_23, s_Mo_mayOf_26, s_Mo_mayOf_29, s_Mo_mayOf_30, s_Mo_mayOf_31, s_Mo_mayOf_32, s_Mo_mayOf_35, s_Mo_mayOf_36, s_Mo_mayOf_37, s_Mo_mayOf_38, s_Mo_mayOf_40, s_Mo_mayOf_41, s_Mo_mayOf_42, s_Mo_mayOf_43, s_Mo_mayOf_44, s_Mo_mayOf_46, s_Mo_mayOf_47, s_Mo_mayOf_49, s_Mo_mayOf_50, s_Mo_mayOf_54, s_Mo_mayOf_56, s_Mo_mayOf_59, s_Mo_mayOf_61, s_Mo_mayOf_63, s_Mo_mayOf_64, s_Mo_mayOf_65, s_Mo_mayOf_66, s_Mo_mayOf_69, s_Mo_mayOf_70, s_Mo_mayOf_71, s_Mo_mayOf_74, s_Mo_mayOf_75, s_Mo_mayOf_76, s_Mo_mayOf_77, s_Mo_mayOf_78, s_Mo_mayOf_81, s_Mo_mayOf_82, s_Mo_mayOf_85, s_Mo_mayOf_86, s_Mo_mayOf_87, s_Mo_mayOf_88, s_Mo_mayOf_89, s_Mo_mayOf_90, s_Mo_mayOf_92, s_Mo_mayOf_93, s_Mo_mayOf_96, s_Mo_mayOf_97, s_Mo_mayOf_98, s_Mo_mayOf_101, s_Mo_mayOf_104, s_Mo_mayOf_105, s_Mo_mayOf_108, s_Mo_mayOf_109, s_Mo_mayOf_112, s_Mo_mayOf_113, s_Mo_mayOf_116, s_Mo_mayOf_117, s_Mo_mayOf_118, s_Mo_mayOf_120, s_Mo_mayOf_121, s_Mo_mayOf_124, s_Mo_mayOf_125, s_Mo_mayOf_128, s_Mo_mayOf_129, s_Mo_mayOf_131, s_Mo_mayOf_132, s_Mo_mayOf_135, s_Mo_mayOf_136, s_Mo_mayOf_137, s_Mo_mayOf_139, s_Mo_mayOf_142, s_Mo_mayOf_145, s_Mo_mayOf_147, y_kd_sI, y_kd_sL, y_kd_sR, y_kd_cpI, y_kd_cpL, y_ln_sI, y_ln_sL, y_ln_sR, y_ln_cpI, y_ln_cpL, y_sz_sI, y_sz_sL, y_sz_sR, y_sz_cpI, y_sz_cpL, y_sl_sI, y_sl_sL, y_sl_sR, y_sl_cpI, y_sl_cpL, y_gI_sL, y_gI_sR, y_gI_cpI, y_gI_cpL, y_gI_nw, y_gL_sI, y_gL_sR, y_gL_cpI, y_gL_cpL, y_gL_nw, y_gR_sI, y_gR_sL, y_gR_cpI, y_gR_cpL, y_gR_nw, y_kd_nw, y_ln_nw, y_sz_nw, y_sl_nw, y_fx_int, y_fx_long, y_fx_ref, y_fx_null, y_fx_U, y_rf_s, y_rf_n, a_inb, a_ix, a_lt, a_eq, a_eq0, a_lt0, a_0lt, a_m1, a_m2, a_mlt, a_sub, a_dec, a_div, a_rem, a_shl, a_shr, a_bit, a_bit0, a_II, a_Ia, a_Ik, a_LL, a_La, a_Lk, a_RR, a_Ra, a_Rk, a_if0, a_if1, y_mul, y_and, y_or, nI_add, y_b1, y_b0, kon_v, kon_0, true_or, or_true, and_self, true_and, and_true, false_or, or_false, and_false, false_and, not_true_eq_false, not_false_eq_true, ite_self, ↓reduceIte, Nat.reduceEqDiff, Nat.reduceLeDiff, Nat.reduceAdd, Nat.reduceMul, Nat.reduceSub, Nat.reduceLT, Nat.reduceShiftLeft, Nat.reduceOr, Nat.reduceAnd, Bool.false_eq_true, b_if, b_z1, b_z0, b_zz, b_a1, b_a0, mo_k j.mo, mo_r0 j.mo, mo_k0 j.mo, mo_l0 j.mo, mo_r1 j.mo, mo_k1 j.mo, mo_l1 j.mo, mo_r2 j.mo, mo_k2 j.mo, mo_l2 j.mo, mo_r3 j.mo, mo_k3 j.mo, mo_l3 j.mo, mo_r4 j.mo, mo_k4 j.mo, mo_l4 j.mo, mo_r5 j.mo, mo_k5 j.mo, mo_l5 j.mo, mo_r6 j.mo, mo_k6 j.mo, mo_l6 j.mo, mo_r8 j.mo, mo_k8 j.mo, mo_l8 j.mo, mo_r10 j.mo, mo_k10 j.mo, mo_l10 j.mo, mo_r11 j.mo, mo_k11 j.mo, mo_l11 j.mo, mo_r12 j.mo, mo_k12 j.mo, mo_l12 j.mo, mo_r13 j.mo, mo_k13 j.mo, mo_l13 j.mo, mo_r14 j.mo, mo_k14 j.mo, mo_l14 j.mo, mo_r16 j.mo, mo_k16 j.mo, mo_l16 j.mo, mo_r17 j.mo, mo_k17 j.mo, mo_l17 j.mo, mo_r18 j.mo, mo_k18 j.mo, mo_l18 j.mo, mo_r19 j.mo, mo_k19 j.mo, mo_l19 j.mo, mo_r20 j.mo, mo_k20 j.mo, mo_l20 j.mo, mo_r21 j.mo, mo_k21 j.mo, mo_l21 j.mo, mo_r22 j.mo, mo_k22 j.mo, mo_l22 j.mo, mo_r23 j.mo, mo_k23 j.mo, mo_l23 j.mo, mo_r24 j.mo, mo_k24 j.mo, mo_l24 j.mo, mo_r25 j.mo, mo_k25 j.mo, mo_l25 j.mo, mo_r26 j.mo, mo_k26 j.mo, mo_l26 j.mo, mo_r29 j.mo, mo_k29 j.mo, mo_l29 j.mo, mo_r30 j.mo, mo_k30 j.mo, mo_l30 j.mo, mo_r36 j.mo, mo_k36 j.mo, mo_l36 j.mo, mo_r37 j.mo, mo_k37 j.mo, mo_l37 j.mo, mo_r49 j.mo, mo_k49 j.mo, mo_l49 j.mo, mo_r50 j.mo, mo_k50 j.mo, mo_l50 j.mo, mo_r51 j.mo, mo_k51 j.mo, mo_l51 j.mo, mo_r56 j.mo, mo_k56 j.mo, mo_l56 j.mo, mo_r62 j.mo, mo_k62 j.mo, mo_l62 j.mo, mo_r63 j.mo, mo_k63 j.mo, mo_l63 j.mo, mo_r66 j.mo, mo_k66 j.mo, mo_l66 j.mo, mo_row j.mo, mo_rowk j.mo, mo_rowl j.mo, mo_set j.mo, mo_setk j.mo, mo_setl j.mo, o36, hlt, z, e1, mo_k j1.mo, mo_r36 j1.mo, mo_k36 j1.mo, mo_l36 j1.mo, o36', e0, e2, mo_k j2.mo, n9, e3, mo_k j3.mo, e4, mo_k j4.mo, r6]
        · rw [if_neg z1]
          have zf1 := eq_false z1
          obtain ⟨h5, f5, j5⟩ := ih (w + 1) acc h4 (by omega) j4
          refine ⟨h5, ?_, j5⟩
          rw [← f5, s_Mo_mayOf_52]
          simp (disch := omega) only [s_Mo_mayOf_0, s_Mo_mayOf_1, s_Mo_mayOf_2, s_Mo_mayOf_5, s_Mo_mayOf_6, s_Mo_mayOf_7, s_Mo_mayOf_8, s_Mo_mayOf_9, s_Mo_mayOf_12, s_Mo_mayOf_13, s_Mo_mayOf_14, s_Mo_mayOf_17, s_Mo_mayOf_18, s_Mo_mayOf_19, s_Mo_mayOf_20, s_Mo_mayOf_23, s_Mo_mayOf_26, s_Mo_mayOf_29, s_Mo_mayOf_30, s_Mo_mayOf_31, s_Mo_mayOf_32, s_Mo_mayOf_35, s_Mo_mayOf_36, s_Mo_mayOf_37, s_Mo_mayOf_38, s_Mo_mayOf_40, s_Mo_mayOf_41, s_Mo_mayOf_42, s_Mo_mayOf_43, s_Mo_mayOf_44, s_Mo_mayOf_46, s_Mo_mayOf_47, s_Mo_mayOf_49, s_Mo_mayOf_50, s_Mo_mayOf_54, s_Mo_mayOf_56, s_Mo_mayOf_59, s_Mo_mayOf_61, s_Mo_mayOf_63, s_Mo_mayOf_64, s_Mo_mayOf_65, s_Mo_mayOf_66, s_Mo_mayOf_69, s_Mo_mayOf_70, s_Mo_mayOf_71, s_Mo_mayOf_74, s_Mo_mayOf_75, s_Mo_mayOf_76, s_Mo_mayOf_77, s_Mo_mayOf_78, s_Mo_mayOf_81, s_Mo_mayOf_82, s_Mo_mayOf_85, s_Mo_mayOf_86, s_Mo_mayOf_87, s_Mo_mayOf_88, s_Mo_mayOf_89, s_Mo_mayOf_90, s_Mo_mayOf_92, s_Mo_mayOf_93, s_Mo_mayOf_96, s_Mo_mayOf_97, s_Mo_mayOf_98, s_Mo_mayOf_101, s_Mo_mayOf_104, s_Mo_mayOf_105, s_Mo_mayOf_108, s_Mo_mayOf_109, s_Mo_mayOf_112, s_Mo_mayOf_113, s_Mo_mayOf_116, s_Mo_mayOf_117, s_Mo_mayOf_118, s_Mo_mayOf_120, s_Mo_mayOf_121, s_Mo_mayOf_124, s_Mo_mayOf_125, s_Mo_mayOf_128, s_Mo_mayOf_129, s_Mo_mayOf_131, s_Mo_mayOf_132, s_Mo_mayOf_135, s_Mo_mayOf_136, s_Mo_mayOf_137, s_Mo_mayOf_139, s_Mo_mayOf_142, s_Mo_mayOf_145, s_Mo_mayOf_147, y_kd_sI, y_kd_sL, y_kd_sR, y_kd_cpI, y_kd_cpL, y_ln_sI, y_ln_sL, y_ln_sR, y_ln_cpI, y_ln_cpL, y_sz_sI, y_sz_sL, y_sz_sR, y_sz_cpI, y_sz_cpL, y_sl_sI, y_sl_sL, y_sl_sR, y_sl_cpI, y_sl_cpL, y_gI_sL, y_gI_sR, y_gI_cpI, y_gI_cpL, y_gI_nw, y_gL_sI, y_gL_sR, y_gL_cpI, y_gL_cpL, y_gL_nw, y_gR_sI, y_gR_sL, y_gR_cpI, y_gR_cpL, y_gR_nw, y_kd_nw, y_ln_nw, y_sz_nw, y_sl_nw, y_fx_int, y_fx_long, y_fx_ref, y_fx_null, y_fx_U, y_rf_s, y_rf_n, a_inb, a_ix, a_lt, a_eq, a_eq0, a_lt0, a_0lt, a_m1, a_m2, a_mlt, a_sub, a_dec, a_div, a_rem, a_shl, a_shr, a_bit, a_bit0, a_II, a_Ia, a_Ik, a_LL, a_La, a_Lk, a_RR, a_Ra, a_Rk, a_if0, a_if1, y_mul, y_and, y_or, nI_add, y_b1, y_b0, kon_v, kon_0, true_or, or_true, and_self, true_and, and_true, false_or, or_false, and_false, false_and, not_true_eq_false, not_false_eq_true, ite_self, ↓reduceIte, Nat.reduceEqDiff, Nat.reduceLeDiff, Nat.reduceAdd, Nat.reduceMul, Nat.reduceSub, Nat.reduceLT, Nat.reduceShiftLeft, Nat.reduceOr, Nat.reduceAnd, Bool.false_eq_true, b_if, b_z1, b_z0, b_zz, b_a1, b_a0, mo_k j.mo, mo_r0 j.mo, mo_k0 j.mo, mo_l0 j.mo, mo_r1 j.mo, mo_k1 j.mo, mo_l1 j.mo, mo_r2 j.mo, mo_k2 j.mo, mo_l2 j.mo, mo_r3 j.mo, mo_k3 j.mo, mo_l3 j.mo, mo_r4 j.mo, mo_k4 j.mo, mo_l4 j.mo, mo_r5 j.mo, mo_k5 j.mo, mo_l5 j.mo, mo_r6 j.mo, mo_k6 j.mo, mo_l6 j.mo, mo_r8 j.mo, mo_k8 j.mo, mo_l8 j.mo, mo_r10 j.mo, mo_k10 j.mo, mo_l10 j.mo, mo_r11 j.mo, mo_k11 j.mo, mo_l11 j.mo, mo_r12 j.mo, mo_k12 j.mo, mo_l12 j.mo, mo_r13 j.mo, mo_k13 j.mo, mo_l13 j.mo, mo_r14 j.mo, mo_k14 j.mo, mo_l14 j.mo, mo_r16 j.mo, mo_k16 j.mo, mo_l16 j.mo, mo_r17 j.mo, mo_k17 j.mo, mo_l17 j.mo, mo_r18 j.mo, mo_k18 j.mo, mo_l18 j.mo, mo_r19 j.mo, mo_k19 j.mo, mo_l19 j.mo, mo_r20 j.mo, mo_k20 j.mo, mo_l20 j.mo, mo_r21 j.mo, mo_k21 j.mo, mo_l21 j.mo, mo_r22 j.mo, mo_k22 j.mo, mo_l22 j.mo, mo_r23 j.mo, mo_k23 j.mo, mo_l23 j.mo, mo_r24 j.mo, mo_k24 j.mo, mo_l24 j.mo, mo_r25 j.mo, mo_k25 j.mo, mo_l25 j.mo, mo_r26 j.mo, mo_k26 j.mo, mo_l26 j.mo, mo_r29 j.mo, mo_k29 j.mo, mo_l29 j.mo, mo_r30 j.mo, mo_k30 j.mo, mo_l30 j.mo, mo_r36 j.mo, mo_k36 j.mo, mo_l36 j.mo, mo_r37 j.mo, mo_k37 j.mo, mo_l37 j.mo, mo_r49 j.mo, mo_k49 j.mo, mo_l49 j.mo, mo_r50 j.mo, mo_k50 j.mo, mo_l50 j.mo, mo_r51 j.mo, mo_k51 j.mo, mo_l51 j.mo, mo_r56 j.mo, mo_k56 j.mo, mo_l56 j.mo, mo_r62 j.mo, mo_k62 j.mo, mo_l62 j.mo, mo_r63 j.mo, mo_k63 j.mo, mo_l63 j.mo, mo_r66 j.mo, mo_k66 j.mo, mo_l66 j.mo, mo_row j.mo, mo_rowk j.mo, mo_rowl j.mo, mo_set j.mo, mo_setk j.mo, mo_setl j.mo, o36, hlt, z, e1, mo_k j1.mo, mo_r36 j1.mo, mo_k36 j1.mo, mo_l36 j1.mo, o36', e0, e2, mo_k j2.mo, n9, e3, mo_k j3.mo, e4, mo_k j4.mo, r6, zf3, zf1, Nat.or_zero]
    · rw [if_neg z]
      obtain ⟨h5, f5, j5⟩ := ih (w + 1) acc h (by omega) j
      refine ⟨h5, ?_, j5⟩
      rw [← f5, s_Mo_mayOf_52]
      simp (disch := omega) only [s_Mo_mayOf_0, s_Mo_mayOf_1, s_Mo_mayOf_2, s_Mo_mayOf_5, s_Mo_mayOf_6, s_Mo_mayOf_7, s_Mo_mayOf_8, s_Mo_mayOf_9, s_Mo_mayOf_12, s_Mo_mayOf_13, s_Mo_mayOf_14, s_Mo_mayOf_17, s_Mo_mayOf_18, s_Mo_mayOf_19, s_Mo_mayOf_20, s_Mo_mayOf_23, s_Mo_mayOf_26, s_Mo_mayOf_29, s_Mo_mayOf_30, s_Mo_mayOf_31, s_Mo_mayOf_32, s_Mo_mayOf_35, s_Mo_mayOf_36, s_Mo_mayOf_37, s_Mo_mayOf_38, s_Mo_mayOf_40, s_Mo_mayOf_41, s_Mo_mayOf_42, s_Mo_mayOf_43, s_Mo_mayOf_44, s_Mo_mayOf_46, s_Mo_mayOf_47, s_Mo_mayOf_49, s_Mo_mayOf_50, s_Mo_mayOf_54, s_Mo_mayOf_56, s_Mo_mayOf_59, s_Mo_mayOf_61, s_Mo_mayOf_63, s_Mo_mayOf_64, s_Mo_mayOf_65, s_Mo_mayOf_66, s_Mo_mayOf_69, s_Mo_mayOf_70, s_Mo_mayOf_71, s_Mo_mayOf_74, s_Mo_mayOf_75, s_Mo_mayOf_76, s_Mo_mayOf_77, s_Mo_mayOf_78, s_Mo_mayOf_81, s_Mo_mayOf_82, s_Mo_mayOf_85, s_Mo_mayOf_86, s_Mo_mayOf_87, s_Mo_mayOf_88, s_Mo_mayOf_89, s_Mo_mayOf_90, s_Mo_mayOf_92, s_Mo_mayOf_93, s_Mo_mayOf_96, s_Mo_mayOf_97, s_Mo_mayOf_98, s_Mo_mayOf_101, s_Mo_mayOf_104, s_Mo_mayOf_105, s_Mo_mayOf_108, s_Mo_mayOf_109, s_Mo_mayOf_112, s_Mo_mayOf_113, s_Mo_mayOf_116, s_Mo_mayOf_117, s_Mo_mayOf_118, s_Mo_mayOf_120, s_Mo_mayOf_121, s_Mo_mayOf_124, s_Mo_mayOf_125, s_Mo_mayOf_128, s_Mo_mayOf_129, s_Mo_mayOf_131, s_Mo_mayOf_132, s_Mo_mayOf_135, s_Mo_mayOf_136, s_Mo_mayOf_137, s_Mo_mayOf_139, s_Mo_mayOf_142, s_Mo_mayOf_145, s_Mo_mayOf_147, y_kd_sI, y_kd_sL, y_kd_sR, y_kd_cpI, y_kd_cpL, y_ln_sI, y_ln_sL, y_ln_sR, y_ln_cpI, y_ln_cpL, y_sz_sI, y_sz_sL, y_sz_sR, y_sz_cpI, y_sz_cpL, y_sl_sI, y_sl_sL, y_sl_sR, y_sl_cpI, y_sl_cpL, y_gI_sL, y_gI_sR, y_gI_cpI, y_gI_cpL, y_gI_nw, y_gL_sI, y_gL_sR, y_gL_cpI, y_gL_cpL, y_gL_nw, y_gR_sI, y_gR_sL, y_gR_cpI, y_gR_cpL, y_gR_nw, y_kd_nw, y_ln_nw, y_sz_nw, y_sl_nw, y_fx_int, y_fx_long, y_fx_ref, y_fx_null, y_fx_U, y_rf_s, y_rf_n, a_inb, a_ix, a_lt, a_eq, a_eq0, a_lt0, a_0lt, a_m1, a_m2, a_mlt, a_sub, a_dec, a_div, a_rem, a_shl, a_shr, a_bit, a_bit0, a_II, a_Ia, a_Ik, a_LL, a_La, a_Lk, a_RR, a_Ra, a_Rk, a_if0, a_if1, y_mul, y_and, y_or, nI_add, y_b1, y_b0, kon_v, kon_0, true_or, or_true, and_self, true_and, and_true, false_or, or_false, and_false, false_and, not_true_eq_false, not_false_eq_true, ite_self, ↓reduceIte, Nat.reduceEqDiff, Nat.reduceLeDiff, Nat.reduceAdd, Nat.reduceMul, Nat.reduceSub, Nat.reduceLT, Nat.reduceShiftLeft, Nat.reduceOr, Nat.reduceAnd, Bool.false_eq_true, b_if, b_z1, b_z0, b_zz, b_a1, b_a0, hlt, z]
end ZMY
