/-! what is laid out: cells and their mates -/
abbrev zLayC : Type := Nat × (Nat → Nat) × (Nat → Int32)
def acC (z : zLayC) (f : Nat) : zLayC := (z.1 + 1, up z.2.1 z.1 f, up z.2.2 z.1 (-1))
def amC (z : zLayC) (f f' : Nat) : zLayC := (z.1 + 2, up (up z.2.1 z.1 f) (z.1 + 1) f', up (up z.2.2 z.1 (nI (z.1 + 1))) (z.1 + 1) (nI z.1))
def rcN (F : Nat → Nat) (x s : Nat) (n : Nat) : Nat := orN (fun y => if ¬ y = x ∧ ¬ F (x * 10 + y) &&& s = 0 then 1 <<< y else 0) n
def upN (F : Nat → Nat) (n x : Nat) : Nat := 1 <<< x ||| rcN F x 152 n
def byN (F : Nat → Nat) (n s : Nat) (k : Nat) : Nat := orN (fun x => if s.testBit x = true then rcN F x 16 n else 0) k
def lpC (F : Nat → Nat) (n x y : Nat) (z : zLayC) : zLayC := if F (x * 10 + y) = 2 then amC z (upN F n x ||| byN F n (upN F n y) n) (upN F n y ||| byN F n (upN F n x) n) else if F (x * 10 + y) = 4 then acC z (upN F n x ||| upN F n y) else if F (x * 10 + y) = 8 then amC z (upN F n x) (byN F n (upN F n x) n) else if F (x * 10 + y) = 32 then amC z (upN F n y) (byN F n (upN F n y) n) else z
def ly0 (F : Nat → Nat) (n : Nat) (z : zLayC) : Nat → zLayC
  | 0 => (0, z.2.1, z.2.2)
  | x + 1 => acC (ly0 F n z x) (upN F n x)
def ly1 (F : Nat → Nat) (n : Nat) (z : zLayC) : Nat → zLayC
  | 0 => z
  | k + 1 => lpC F n (pP k / 10) (pP k % 10) (ly1 F n z k)
theorem rcN_lt {F : Nat → Nat} {x s n : Nat} (hn : n ≤ 10) : rcN F x s n < 1024 := orN_lt (b := 10) n (fun y hy => by
  split
  · rw [Nat.one_shiftLeft]
    exact Nat.pow_lt_pow_right (by decide) (by omega)
  · decide)
theorem rcN_le {F : Nat → Nat} {x s n k : Nat} (hn : n ≤ 10) (hk : k ≤ n) : rcN F x s k < 1024 := rcN_lt (by omega)
theorem one_lt {x : Nat} (hx : x < 10) : 1 <<< x < 1024 := by
  rw [Nat.one_shiftLeft]
  exact Nat.pow_lt_pow_right (by decide) (show x < 10 from hx)
theorem upN_lt {F : Nat → Nat} {n x : Nat} (hn : n ≤ 10) (hx : x < n) : upN F n x < 1024 := Nat.or_lt_two_pow (n := 10) (one_lt (by omega)) (rcN_lt hn)
theorem byN_lt {F : Nat → Nat} {n s k : Nat} (hn : n ≤ 10) : byN F n s k < 1024 := orN_lt (b := 10) k (fun x _ => by
  split
  · exact rcN_lt hn
  · decide)
theorem or_lt10 {a b : Nat} (h1 : a < 1024) (h2 : b < 1024) : a ||| b < 1024 := Nat.or_lt_two_pow (n := 10) h1 h2
/-- cells are sound -/
def okC (z : zLayC) : Prop := ∀ c : Nat, c < z.1 → z.2.1 c < 1024 ∧ nOr (z.2.2 c) z.1
theorem nOr_mono {x : Int32} {n m : Nat} (h : n ≤ m) (c : nOr x n) : nOr x m := by
  rcases c with c | ⟨k, c, d⟩
  · exact Or.inl c
  · exact Or.inr ⟨k, c, by omega⟩
theorem ok_ac {z : zLayC} {f : Nat} (h : okC z) (hf : f < 1024) : okC (acC z f) := by
  intro c hc
  have hc : c < z.1 + 1 := hc
  show up z.2.1 z.1 f c < 1024 ∧ nOr (up z.2.2 z.1 (-1) c) (z.1 + 1)
  by_cases e : c = z.1
  · rw [e, up_s, up_s]
    exact ⟨hf, Or.inl rfl⟩
  · rw [up_n e, up_n e]
    exact ⟨(h c (by omega)).1, nOr_mono (by omega) (h c (by omega)).2⟩
theorem ok_am {z : zLayC} {f f' : Nat} (h : okC z) (hf : f < 1024) (hf' : f' < 1024) : okC (amC z f f') := by
  intro c hc
  have hc : c < z.1 + 2 := hc
  show up (up z.2.1 z.1 f) (z.1 + 1) f' c < 1024 ∧ nOr (up (up z.2.2 z.1 (nI (z.1 + 1))) (z.1 + 1) (nI z.1) c) (z.1 + 2)
  by_cases e1 : c = z.1 + 1
  · rw [e1, up_s, up_s]
    exact ⟨hf', Or.inr ⟨z.1, rfl, by omega⟩⟩
  · rw [up_n e1, up_n e1]
    by_cases e : c = z.1
    · rw [e, up_s, up_s]
      exact ⟨hf, Or.inr ⟨z.1 + 1, rfl, by omega⟩⟩
    · rw [up_n e, up_n e]
      exact ⟨(h c (by omega)).1, nOr_mono (by omega) (h c (by omega)).2⟩
theorem ok_lp {F : Nat → Nat} {n x y : Nat} {z : zLayC} (hn : n ≤ 10) (hx : x < n) (hy : y < n) (h : okC z) : okC (lpC F n x y z) ∧ (lpC F n x y z).1 ≤ z.1 + 2 := by
  have u1 := upN_lt (F := F) hn hx
  have u2 := upN_lt (F := F) hn hy
  unfold lpC
  split
  · exact ⟨ok_am h (or_lt10 u1 (byN_lt hn)) (or_lt10 u2 (byN_lt hn)), Nat.le_refl _⟩
  · split
    · exact ⟨ok_ac h (or_lt10 u1 u2), by show z.1 + 1 ≤ z.1 + 2; omega⟩
    · split
      · exact ⟨ok_am h u1 (byN_lt hn), Nat.le_refl _⟩
      · split
        · exact ⟨ok_am h u2 (byN_lt hn), Nat.le_refl _⟩
        · exact ⟨h, by omega⟩
theorem ok_ly0 {F : Nat → Nat} {n : Nat} {z : zLayC} (hn : n ≤ 10) : ∀ x : Nat, x ≤ n → okC (ly0 F n z x) ∧ (ly0 F n z x).1 = x
  | 0, _ => ⟨fun c hc => absurd hc (Nat.not_lt_zero _), rfl⟩
  | x + 1, hx => by
    obtain ⟨h1, h2⟩ := ok_ly0 (F := F) (z := z) hn x (by omega)
    exact ⟨ok_ac h1 (upN_lt hn (by omega)), by show (ly0 F n z x).1 + 1 = x + 1; rw [h2]⟩
theorem ok_ly1 {F : Nat → Nat} {n : Nat} {z : zLayC} (hn : n ≤ 10) (h : okC z) (hz : z.1 ≤ n) : ∀ k : Nat, k ≤ n * (n - 1) / 2 → okC (ly1 F n z k) ∧ (ly1 F n z k).1 ≤ n + 2 * k
  | 0, _ => ⟨h, hz⟩
  | k + 1, hk => by
    obtain ⟨h1, h2⟩ := ok_ly1 (F := F) hn h hz k (by omega)
    have h45 := pn_le hn
    have k45 : k < 45 := by omega
    obtain ⟨q1, q2⟩ := pP_lt k45
    have q3 := (pP_n hn k45).2 (by omega)
    obtain ⟨h3, h4⟩ := ok_lp (F := F) (x := pP k / 10) (y := pP k % 10) hn (by omega) q3 h1
    exact ⟨h3, by show (lpC F n (pP k / 10) (pP k % 10) (ly1 F n z k)).1 ≤ _; omega⟩
/-- the class's sets, the telling found -/
def sgK (n : Nat) (F : Nat → Nat) : Prop := ∀ x y : Nat, x < n → y < n → ¬ x = y → ∃ w : Nat, w < 8 ∧ F (x * 10 + y) = 2 ^ w
def csK (h : zMem) (q n : Nat) (F : Nat → Nat) : Prop := kd h q = 8 ∧ gR h q 0 = some (q + 1) ∧ kd h (q + 1) = 20 ∧ ln h (q + 1) = 100 ∧ gI h q 1 = nI n ∧ ∀ x y : Nat, x < n → y < n → ¬ x = y → gI h (q + 1) (x * 10 + y) = nI (F (x * 10 + y))
def cpO (h : zMem) (p : Nat) : Prop := kd h p = 5 ∧ gR h p 1 = some (p + 1) ∧ gR h p 2 = some (p + 2) ∧ kd h (p + 1) = 20 ∧ ln h (p + 1) = 100 ∧ kd h (p + 2) = 20 ∧ ln h (p + 2) = 100
def cpC (h : zMem) (p : Nat) (z : zLayC) : Prop := gI h p 0 = nI z.1 ∧ ∀ c : Nat, c < z.1 → gI h (p + 1) c = nI (z.2.1 c) ∧ gI h (p + 2) c = z.2.2 c
section ZLY
variable {g : Nat → Nat} {n q p x s : Nat} {h h' : zMem} {F : Nat → Nat} {z : zLayC}
theorem csK.fr (c : csK h q n F) (s : sam p (p + 2) h h') (hd : p + 2 < q) : csK h' q n F := by
  obtain ⟨c1, c2, c3, c4, c5, c6⟩ := c
  exact ⟨(s.1 _).trans c1, (s.2.2.1 _ _).trans c2, (s.1 _).trans c3, (s.2.1 _).trans c4, (s.2.2.2.2.2.1 _ _ (by omega)).trans c5, fun x y hx hy e => (s.2.2.2.2.2.1 _ _ (by omega)).trans (c6 x y hx hy e)⟩
theorem cpO.fr {lo hi : Nat} (c : cpO h p) (s : sam lo hi h h') : cpO h' p := by
  obtain ⟨c1, c2, c3, c4, c5, c6, c7⟩ := c
  exact ⟨(s.1 _).trans c1, (s.2.2.1 _ _).trans c2, (s.2.2.1 _ _).trans c3, (s.1 _).trans c4, (s.2.1 _).trans c5, (s.1 _).trans c6, (s.2.1 _).trans c7⟩
theorem q_pReach (hc : csK h q n F) (hF : sgK n F) (hn : n ≤ 10) (hx : x < n) (hs : s < 256) : call g Plan_reached [.ref q, .int (nI x), .int (nI s)] h = some (some (.int (nI (rcN F x s n))), h) := by
  obtain ⟨c1, c2, c3, c4, c5, c6⟩ := hc
  obtain ⟨u, h', e1, -, rfl⟩ := l_loop (g := g) (M := Plan_reached) (pc := 5) (st := []) (n := n) (fun y (_ : Unit) => [.ref q, .int (nI x), .int (nI s), .int (nI (rcN F x s y)), .int (nI y)]) (fun y _ h' => True ∧ h' = h) (fun y u h' hy hh => by
    obtain ⟨-, rfl⟩ := hh
    refine ⟨(), h', ?_, trivial, rfl⟩
    have lt : (y < n) = True := eq_true hy
    have rl := rcN_le (F := F) (x := x) (s := s) hn (Nat.le_of_lt hy)
    have es : rcN F x s (y + 1) = rcN F x s y ||| (if ¬ y = x ∧ ¬ F (x * 10 + y) &&& s = 0 then 1 <<< y else 0) := rfl
    show ev g Plan_reached 5 [.ref q, .int (nI x), .int (nI s), .int (nI (rcN F x s y)), .int (nI y)] [] h' = ev g Plan_reached 5 [.ref q, .int (nI x), .int (nI s), .int (nI (rcN F x s (y + 1))), .int (nI (y + 1))] [] h'
    rw [es, s_Plan_reached_5]
    by_cases e : y = x
    · rw [if_neg (fun c => c.1 e), Nat.or_zero]
      have et := eq_true e
      simp (disch := omega) only [s_Plan_reached_0, s_Plan_reached_1, s_Plan_reached_2, s_Plan_reached_3, s_Plan_reached_7, s_Plan_reached_8, s_Plan_reached_11, s_Plan_reached_14, s_Plan_reached_16, s_Plan_reached_17, s_Plan_reached_20, s_Plan_reached_21, s_Plan_reached_24, s_Plan_reached_25, s_Plan_reached_27, s_Plan_reached_28, s_Plan_reached_30, s_Plan_reached_31, s_Plan_reached_32, s_Plan_reached_33, s_Plan_reached_34, s_Plan_reached_37, s_Plan_reached_38, s_Plan_reached_39, s_Plan_reached_41, s_Plan_reached_42, s_Plan_reached_43, s_Plan_reached_44, s_Plan_reached_47, s_Plan_reached_50, s_Plan_reached_51, y_kd_sI, y_kd_sL, y_kd_sR, y_kd_cpI, y_kd_cpL, y_ln_sI, y_ln_sL, y_ln_sR, y_ln_cpI, y_ln_cpL, y_sz_sI, y_sz_sL, y_sz_sR, y_sz_cpI, y_sz_cpL, y_sl_sI, y_sl_sL, y_sl_sR, y_sl_cpI, y_sl_cpL, y_gI_sL, y_gI_sR, y_gI_cpI, y_gI_cpL, y_gI_nw, y_gL_sI, y_gL_sR, y_gL_cpI, y_gL_cpL, y_gL_nw, y_gR_sI, y_gR_sL, y_gR_cpI, y_gR_cpL, y_gR_nw, y_kd_nw, y_ln_nw, y_sz_nw, y_sl_nw, y_fx_int, y_fx_long, y_fx_ref, y_fx_null, y_fx_U, y_rf_s, y_rf_n, a_inb, a_ix, a_lt, a_eq, a_eq0, a_lt0, a_0lt, a_m1, a_m2, a_mlt, a_sub, a_dec, a_div, a_rem, a_shl, a_shr, a_bit, a_bit0, a_II, a_Ia, a_Ik, a_LL, a_La, a_Lk, a_RR, a_Ra, a_Rk, a_if0, a_if1, y_mul, y_and, y_or, nI_add, y_b1, y_b0, kon_v, kon_0, true_or, or_true, and_self, true_and, and_true, false_or, or_false, and_false, false_and, not_true_eq_false, not_false_eq_true, ite_self, ↓reduceIte, Nat.reduceEqDiff, Nat.reduceLeDiff, Nat.reduceAdd, Nat.reduceMul, Nat.reduceSub, Nat.reduceLT, Nat.reduceShiftLeft, Nat.reduceOr, Nat.reduceAnd, Bool.false_eq_true, b_if, b_z1, b_z0, b_zz, b_a1, b_a0, b_lc, b_zF, b_zT, b_lbit, c1, c5, lt, et]
    · have ef := eq_false e
      have v := c6 x y hx hy (fun d => e d.symm)
      obtain ⟨w, hw, ew⟩ := hF x y hx hy (fun d => e d.symm)
      have Fl : F (x * 10 + y) < 256 := by
        rw [ew]; exact Nat.lt_of_le_of_lt (Nat.pow_le_pow_right (by decide) (show w ≤ 7 by omega)) (by decide)
      by_cases d : F (x * 10 + y) &&& s = 0
      · rw [if_neg (fun c => c.2 d), Nat.or_zero]
        simp (disch := omega) only [s_Plan_reached_0, s_Plan_reached_1, s_Plan_reached_2, s_Plan_reached_3, s_Plan_reached_7, s_Plan_reached_8, s_Plan_reached_11, s_Plan_reached_14, s_Plan_reached_16, s_Plan_reached_17, s_Plan_reached_20, s_Plan_reached_21, s_Plan_reached_24, s_Plan_reached_25, s_Plan_reached_27, s_Plan_reached_28, s_Plan_reached_30, s_Plan_reached_31, s_Plan_reached_32, s_Plan_reached_33, s_Plan_reached_34, s_Plan_reached_37, s_Plan_reached_38, s_Plan_reached_39, s_Plan_reached_41, s_Plan_reached_42, s_Plan_reached_43, s_Plan_reached_44, s_Plan_reached_47, s_Plan_reached_50, s_Plan_reached_51, y_kd_sI, y_kd_sL, y_kd_sR, y_kd_cpI, y_kd_cpL, y_ln_sI, y_ln_sL, y_ln_sR, y_ln_cpI, y_ln_cpL, y_sz_sI, y_sz_sL, y_sz_sR, y_sz_cpI, y_sz_cpL, y_sl_sI, y_sl_sL, y_sl_sR, y_sl_cpI, y_sl_cpL, y_gI_sL, y_gI_sR, y_gI_cpI, y_gI_cpL, y_gI_nw, y_gL_sI, y_gL_sR, y_gL_cpI, y_gL_cpL, y_gL_nw, y_gR_sI, y_gR_sL, y_gR_cpI, y_gR_cpL, y_gR_nw, y_kd_nw, y_ln_nw, y_sz_nw, y_sl_nw, y_fx_int, y_fx_long, y_fx_ref, y_fx_null, y_fx_U, y_rf_s, y_rf_n, a_inb, a_ix, a_lt, a_eq, a_eq0, a_lt0, a_0lt, a_m1, a_m2, a_mlt, a_sub, a_dec, a_div, a_rem, a_shl, a_shr, a_bit, a_bit0, a_II, a_Ia, a_Ik, a_LL, a_La, a_Lk, a_RR, a_Ra, a_Rk, a_if0, a_if1, y_mul, y_and, y_or, nI_add, y_b1, y_b0, kon_v, kon_0, true_or, or_true, and_self, true_and, and_true, false_or, or_false, and_false, false_and, not_true_eq_false, not_false_eq_true, ite_self, ↓reduceIte, Nat.reduceEqDiff, Nat.reduceLeDiff, Nat.reduceAdd, Nat.reduceMul, Nat.reduceSub, Nat.reduceLT, Nat.reduceShiftLeft, Nat.reduceOr, Nat.reduceAnd, Bool.false_eq_true, b_if, b_z1, b_z0, b_zz, b_a1, b_a0, b_lc, b_zF, b_zT, b_lbit, c1, c2, c3, c4, c5, lt, ef, v, d]
      · rw [if_pos ⟨e, d⟩]
        have df := eq_false d
        have al : F (x * 10 + y) &&& s < 256 := Nat.lt_of_le_of_lt Nat.and_le_right hs
        have ol := one_lt (show y < 10 by omega)
        simp (disch := omega) only [s_Plan_reached_0, s_Plan_reached_1, s_Plan_reached_2, s_Plan_reached_3, s_Plan_reached_7, s_Plan_reached_8, s_Plan_reached_11, s_Plan_reached_14, s_Plan_reached_16, s_Plan_reached_17, s_Plan_reached_20, s_Plan_reached_21, s_Plan_reached_24, s_Plan_reached_25, s_Plan_reached_27, s_Plan_reached_28, s_Plan_reached_30, s_Plan_reached_31, s_Plan_reached_32, s_Plan_reached_33, s_Plan_reached_34, s_Plan_reached_37, s_Plan_reached_38, s_Plan_reached_39, s_Plan_reached_41, s_Plan_reached_42, s_Plan_reached_43, s_Plan_reached_44, s_Plan_reached_47, s_Plan_reached_50, s_Plan_reached_51, y_kd_sI, y_kd_sL, y_kd_sR, y_kd_cpI, y_kd_cpL, y_ln_sI, y_ln_sL, y_ln_sR, y_ln_cpI, y_ln_cpL, y_sz_sI, y_sz_sL, y_sz_sR, y_sz_cpI, y_sz_cpL, y_sl_sI, y_sl_sL, y_sl_sR, y_sl_cpI, y_sl_cpL, y_gI_sL, y_gI_sR, y_gI_cpI, y_gI_cpL, y_gI_nw, y_gL_sI, y_gL_sR, y_gL_cpI, y_gL_cpL, y_gL_nw, y_gR_sI, y_gR_sL, y_gR_cpI, y_gR_cpL, y_gR_nw, y_kd_nw, y_ln_nw, y_sz_nw, y_sl_nw, y_fx_int, y_fx_long, y_fx_ref, y_fx_null, y_fx_U, y_rf_s, y_rf_n, a_inb, a_ix, a_lt, a_eq, a_eq0, a_lt0, a_0lt, a_m1, a_m2, a_mlt, a_sub, a_dec, a_div, a_rem, a_shl, a_shr, a_bit, a_bit0, a_II, a_Ia, a_Ik, a_LL, a_La, a_Lk, a_RR, a_Ra, a_Rk, a_if0, a_if1, y_mul, y_and, y_or, nI_add, y_b1, y_b0, kon_v, kon_0, true_or, or_true, and_self, true_and, and_true, false_or, or_false, and_false, false_and, not_true_eq_false, not_false_eq_true, ite_self, ↓reduceIte, Nat.reduceEqDiff, Nat.reduceLeDiff, Nat.reduceAdd, Nat.reduceMul, Nat.reduceSub, Nat.reduceLT, Nat.reduceShiftLeft, Nat.reduceOr, Nat.reduceAnd, Bool.false_eq_true, b_if, b_z1, b_z0, b_zz, b_a1, b_a0, b_lc, b_zF, b_zT, b_lbit, c1, c2, c3, c4, c5, lt, ef, v, df]) n 0 () h (by omega) ⟨trivial, rfl⟩
  have go : call g Plan_reached [.ref q, .int (nI x), .int (nI s)] h' = ev g Plan_reached 5 [.ref q, .int (nI x), .int (nI s), .int (nI 0), .int (nI 0)] [] h' := by
    rw [n_Plan_reached]
    simp (disch := omega) only [s_Plan_reached_0, s_Plan_reached_1, s_Plan_reached_2, s_Plan_reached_3, s_Plan_reached_7, s_Plan_reached_8, s_Plan_reached_11, s_Plan_reached_14, s_Plan_reached_16, s_Plan_reached_17, s_Plan_reached_20, s_Plan_reached_21, s_Plan_reached_24, s_Plan_reached_25, s_Plan_reached_27, s_Plan_reached_28, s_Plan_reached_30, s_Plan_reached_31, s_Plan_reached_32, s_Plan_reached_33, s_Plan_reached_34, s_Plan_reached_37, s_Plan_reached_38, s_Plan_reached_39, s_Plan_reached_41, s_Plan_reached_42, s_Plan_reached_43, s_Plan_reached_44, s_Plan_reached_47, s_Plan_reached_50, s_Plan_reached_51, y_kd_sI, y_kd_sL, y_kd_sR, y_kd_cpI, y_kd_cpL, y_ln_sI, y_ln_sL, y_ln_sR, y_ln_cpI, y_ln_cpL, y_sz_sI, y_sz_sL, y_sz_sR, y_sz_cpI, y_sz_cpL, y_sl_sI, y_sl_sL, y_sl_sR, y_sl_cpI, y_sl_cpL, y_gI_sL, y_gI_sR, y_gI_cpI, y_gI_cpL, y_gI_nw, y_gL_sI, y_gL_sR, y_gL_cpI, y_gL_cpL, y_gL_nw, y_gR_sI, y_gR_sL, y_gR_cpI, y_gR_cpL, y_gR_nw, y_kd_nw, y_ln_nw, y_sz_nw, y_sl_nw, y_fx_int, y_fx_long, y_fx_ref, y_fx_null, y_fx_U, y_rf_s, y_rf_n, a_inb, a_ix, a_lt, a_eq, a_eq0, a_lt0, a_0lt, a_m1, a_m2, a_mlt, a_sub, a_dec, a_div, a_rem, a_shl, a_shr, a_bit, a_bit0, a_II, a_Ia, a_Ik, a_LL, a_La, a_Lk, a_RR, a_Ra, a_Rk, a_if0, a_if1, y_mul, y_and, y_or, nI_add, y_b1, y_b0, kon_v, kon_0, true_or, or_true, and_self, true_and, and_true, false_or, or_false, and_false, false_and, not_true_eq_false, not_false_eq_true, ite_self, ↓reduceIte, Nat.reduceEqDiff, Nat.reduceLeDiff, Nat.reduceAdd, Nat.reduceMul, Nat.reduceSub, Nat.reduceLT, Nat.reduceShiftLeft, Nat.reduceOr, Nat.reduceAnd, Bool.false_eq_true, b_if, b_z1, b_z0, b_zz, b_a1, b_a0, b_lc, b_zF, b_zT, b_lbit]
  rw [go]
  refine Eq.trans e1 ?_
  simp (disch := omega) only [s_Plan_reached_0, s_Plan_reached_1, s_Plan_reached_2, s_Plan_reached_3, s_Plan_reached_5, s_Plan_reached_7, s_Plan_reached_8, s_Plan_reached_11, s_Plan_reached_14, s_Plan_reached_16, s_Plan_reached_17, s_Plan_reached_20, s_Plan_reached_21, s_Plan_reached_24, s_Plan_reached_25, s_Plan_reached_27, s_Plan_reached_28, s_Plan_reached_30, s_Plan_reached_31, s_Plan_reached_32, s_Plan_reached_33, s_Plan_reached_34, s_Plan_reached_37, s_Plan_reached_38, s_Plan_reached_39, s_Plan_reached_41, s_Plan_reached_42, s_Plan_reached_43, s_Plan_reached_44, s_Plan_reached_47, s_Plan_reached_50, s_Plan_reached_51, y_kd_sI, y_kd_sL, y_kd_sR, y_kd_cpI, y_kd_cpL, y_ln_sI, y_ln_sL, y_ln_sR, y_ln_cpI, y_ln_cpL, y_sz_sI, y_sz_sL, y_sz_sR, y_sz_cpI, y_sz_cpL, y_sl_sI, y_sl_sL, y_sl_sR, y_sl_cpI, y_sl_cpL, y_gI_sL, y_gI_sR, y_gI_cpI, y_gI_cpL, y_gI_nw, y_gL_sI, y_gL_sR, y_gL_cpI, y_gL_cpL, y_gL_nw, y_gR_sI, y_gR_sL, y_gR_cpI, y_gR_cpL, y_gR_nw, y_kd_nw, y_ln_nw, y_sz_nw, y_sl_nw, y_fx_int, y_fx_long, y_fx_ref, y_fx_null, y_fx_U, y_rf_s, y_rf_n, a_inb, a_ix, a_lt, a_eq, a_eq0, a_lt0, a_0lt, a_m1, a_m2, a_mlt, a_sub, a_dec, a_div, a_rem, a_shl, a_shr, a_bit, a_bit0, a_II, a_Ia, a_Ik, a_LL, a_La, a_Lk, a_RR, a_Ra, a_Rk, a_if0, a_if1, y_mul, y_and, y_or, nI_add, y_b1, y_b0, kon_v, kon_0, true_or, or_true, and_self, true_and, and_true, false_or, or_false, and_false, false_and, not_true_eq_false, not_false_eq_true, ite_self, ↓reduceIte, Nat.reduceEqDiff, Nat.reduceLeDiff, Nat.reduceAdd, Nat.reduceMul, Nat.reduceSub, Nat.reduceLT, Nat.reduceShiftLeft, Nat.reduceOr, Nat.reduceAnd, Bool.false_eq_true, b_if, b_z1, b_z0, b_zz, b_a1, b_a0, b_lc, b_zF, b_zT, b_lbit, c1, c5, Nat.lt_irrefl]
theorem q_upOf (hc : csK h q n F) (hF : sgK n F) (hn : n ≤ 10) (hx : x < n) : call g Plan_upOf [.ref q, .int (nI x)] h = some (some (.int (nI (upN F n x))), h) := by
  have r := q_pReach (g := g) (s := 152) hc hF hn hx (by decide)
  have rl := rcN_lt (F := F) (x := x) (s := 152) hn
  have ol := one_lt (show x < 10 by omega)
  rw [n_Plan_upOf]
  unfold upN
  simp (disch := omega) only [s_Plan_upOf_0, s_Plan_upOf_1, s_Plan_upOf_2, s_Plan_upOf_3, s_Plan_upOf_4, s_Plan_upOf_5, s_Plan_upOf_8, s_Plan_upOf_11, s_Plan_upOf_12, y_kd_sI, y_kd_sL, y_kd_sR, y_kd_cpI, y_kd_cpL, y_ln_sI, y_ln_sL, y_ln_sR, y_ln_cpI, y_ln_cpL, y_sz_sI, y_sz_sL, y_sz_sR, y_sz_cpI, y_sz_cpL, y_sl_sI, y_sl_sL, y_sl_sR, y_sl_cpI, y_sl_cpL, y_gI_sL, y_gI_sR, y_gI_cpI, y_gI_cpL, y_gI_nw, y_gL_sI, y_gL_sR, y_gL_cpI, y_gL_cpL, y_gL_nw, y_gR_sI, y_gR_sL, y_gR_cpI, y_gR_cpL, y_gR_nw, y_kd_nw, y_ln_nw, y_sz_nw, y_sl_nw, y_fx_int, y_fx_long, y_fx_ref, y_fx_null, y_fx_U, y_rf_s, y_rf_n, a_inb, a_ix, a_lt, a_eq, a_eq0, a_lt0, a_0lt, a_m1, a_m2, a_mlt, a_sub, a_dec, a_div, a_rem, a_shl, a_shr, a_bit, a_bit0, a_II, a_Ia, a_Ik, a_LL, a_La, a_Lk, a_RR, a_Ra, a_Rk, a_if0, a_if1, y_mul, y_and, y_or, nI_add, y_b1, y_b0, kon_v, kon_0, true_or, or_true, and_self, true_and, and_true, false_or, or_false, and_false, false_and, not_true_eq_false, not_false_eq_true, ite_self, ↓reduceIte, Nat.reduceEqDiff, Nat.reduceLeDiff, Nat.reduceAdd, Nat.reduceMul, Nat.reduceSub, Nat.reduceLT, Nat.reduceShiftLeft, Nat.reduceOr, Nat.reduceAnd, Bool.false_eq_true, b_if, b_z1, b_z0, b_zz, b_a1, b_a0, b_lc, b_zF, b_zT, b_lbit, r]
theorem q_pBeyond (hc : csK h q n F) (hF : sgK n F) (hn : n ≤ 10) (hs : s < 1024) : call g Plan_beyond [.ref q, .int (nI s)] h = some (some (.int (nI (byN F n s n))), h) := by
  obtain ⟨c1, c2, c3, c4, c5, c6⟩ := hc
  obtain ⟨u, h', e1, -, rfl⟩ := l_loop (g := g) (M := Plan_beyond) (pc := 4) (st := []) (n := n) (fun y (_ : Unit) => [.ref q, .int (nI s), .int (nI (byN F n s y)), .int (nI y)]) (fun y _ h' => True ∧ h' = h) (fun y u h' hy hh => by
    obtain ⟨-, rfl⟩ := hh
    refine ⟨(), h', ?_, trivial, rfl⟩
    have lt : (y < n) = True := eq_true hy
    have r := q_pReach (g := g) (h := h') (x := y) (s := 16) (q := q) (F := F) ⟨c1, c2, c3, c4, c5, c6⟩ hF hn hy (by decide)
    have rl := rcN_lt (F := F) (x := y) (s := 16) hn
    have bl := byN_lt (F := F) (n := n) (s := s) (k := y) hn
    have es : byN F n s (y + 1) = byN F n s y ||| (if s.testBit y = true then rcN F y 16 n else 0) := rfl
    show ev g Plan_beyond 4 [.ref q, .int (nI s), .int (nI (byN F n s y)), .int (nI y)] [] h' = ev g Plan_beyond 4 [.ref q, .int (nI s), .int (nI (byN F n s (y + 1))), .int (nI (y + 1))] [] h'
    rw [es, s_Plan_beyond_4]
    by_cases e : s.testBit y = true
    · rw [if_pos e]
      simp (disch := omega) only [s_Plan_beyond_0, s_Plan_beyond_1, s_Plan_beyond_2, s_Plan_beyond_3, s_Plan_beyond_5, s_Plan_beyond_6, s_Plan_beyond_9, s_Plan_beyond_12, s_Plan_beyond_13, s_Plan_beyond_14, s_Plan_beyond_15, s_Plan_beyond_16, s_Plan_beyond_17, s_Plan_beyond_20, s_Plan_beyond_21, s_Plan_beyond_22, s_Plan_beyond_23, s_Plan_beyond_25, s_Plan_beyond_28, s_Plan_beyond_29, s_Plan_beyond_30, s_Plan_beyond_33, s_Plan_beyond_36, s_Plan_beyond_37, y_kd_sI, y_kd_sL, y_kd_sR, y_kd_cpI, y_kd_cpL, y_ln_sI, y_ln_sL, y_ln_sR, y_ln_cpI, y_ln_cpL, y_sz_sI, y_sz_sL, y_sz_sR, y_sz_cpI, y_sz_cpL, y_sl_sI, y_sl_sL, y_sl_sR, y_sl_cpI, y_sl_cpL, y_gI_sL, y_gI_sR, y_gI_cpI, y_gI_cpL, y_gI_nw, y_gL_sI, y_gL_sR, y_gL_cpI, y_gL_cpL, y_gL_nw, y_gR_sI, y_gR_sL, y_gR_cpI, y_gR_cpL, y_gR_nw, y_kd_nw, y_ln_nw, y_sz_nw, y_sl_nw, y_fx_int, y_fx_long, y_fx_ref, y_fx_null, y_fx_U, y_rf_s, y_rf_n, a_inb, a_ix, a_lt, a_eq, a_eq0, a_lt0, a_0lt, a_m1, a_m2, a_mlt, a_sub, a_dec, a_div, a_rem, a_shl, a_shr, a_bit, a_bit0, a_II, a_Ia, a_Ik, a_LL, a_La, a_Lk, a_RR, a_Ra, a_Rk, a_if0, a_if1, y_mul, y_and, y_or, nI_add, y_b1, y_b0, kon_v, kon_0, true_or, or_true, and_self, true_and, and_true, false_or, or_false, and_false, false_and, not_true_eq_false, not_false_eq_true, ite_self, ↓reduceIte, Nat.reduceEqDiff, Nat.reduceLeDiff, Nat.reduceAdd, Nat.reduceMul, Nat.reduceSub, Nat.reduceLT, Nat.reduceShiftLeft, Nat.reduceOr, Nat.reduceAnd, Bool.false_eq_true, b_if, b_z1, b_z0, b_zz, b_a1, b_a0, b_lc, b_zF, b_zT, b_lbit, c1, c5, lt, e, r]
    · rw [if_neg e, Nat.or_zero]
      have ef : s.testBit y = false := by
        cases q : s.testBit y
        · rfl
        · exact absurd q e
      simp (disch := omega) only [s_Plan_beyond_0, s_Plan_beyond_1, s_Plan_beyond_2, s_Plan_beyond_3, s_Plan_beyond_5, s_Plan_beyond_6, s_Plan_beyond_9, s_Plan_beyond_12, s_Plan_beyond_13, s_Plan_beyond_14, s_Plan_beyond_15, s_Plan_beyond_16, s_Plan_beyond_17, s_Plan_beyond_20, s_Plan_beyond_21, s_Plan_beyond_22, s_Plan_beyond_23, s_Plan_beyond_25, s_Plan_beyond_28, s_Plan_beyond_29, s_Plan_beyond_30, s_Plan_beyond_33, s_Plan_beyond_36, s_Plan_beyond_37, y_kd_sI, y_kd_sL, y_kd_sR, y_kd_cpI, y_kd_cpL, y_ln_sI, y_ln_sL, y_ln_sR, y_ln_cpI, y_ln_cpL, y_sz_sI, y_sz_sL, y_sz_sR, y_sz_cpI, y_sz_cpL, y_sl_sI, y_sl_sL, y_sl_sR, y_sl_cpI, y_sl_cpL, y_gI_sL, y_gI_sR, y_gI_cpI, y_gI_cpL, y_gI_nw, y_gL_sI, y_gL_sR, y_gL_cpI, y_gL_cpL, y_gL_nw, y_gR_sI, y_gR_sL, y_gR_cpI, y_gR_cpL, y_gR_nw, y_kd_nw, y_ln_nw, y_sz_nw, y_sl_nw, y_fx_int, y_fx_long, y_fx_ref, y_fx_null, y_fx_U, y_rf_s, y_rf_n, a_inb, a_ix, a_lt, a_eq, a_eq0, a_lt0, a_0lt, a_m1, a_m2, a_mlt, a_sub, a_dec, a_div, a_rem, a_shl, a_shr, a_bit, a_bit0, a_II, a_Ia, a_Ik, a_LL, a_La, a_Lk, a_RR, a_Ra, a_Rk, a_if0, a_if1, y_mul, y_and, y_or, nI_add, y_b1, y_b0, kon_v, kon_0, true_or, or_true, and_self, true_and, and_true, false_or, or_false, and_false, false_and, not_true_eq_false, not_false_eq_true, ite_self, ↓reduceIte, Nat.reduceEqDiff, Nat.reduceLeDiff, Nat.reduceAdd, Nat.reduceMul, Nat.reduceSub, Nat.reduceLT, Nat.reduceShiftLeft, Nat.reduceOr, Nat.reduceAnd, Bool.false_eq_true, b_if, b_z1, b_z0, b_zz, b_a1, b_a0, b_lc, b_zF, b_zT, b_lbit, c1, c5, lt, ef]) n 0 () h (by omega) ⟨trivial, rfl⟩
  have go : call g Plan_beyond [.ref q, .int (nI s)] h' = ev g Plan_beyond 4 [.ref q, .int (nI s), .int (nI 0), .int (nI 0)] [] h' := by
    rw [n_Plan_beyond]
    simp (disch := omega) only [s_Plan_beyond_0, s_Plan_beyond_1, s_Plan_beyond_2, s_Plan_beyond_3, s_Plan_beyond_5, s_Plan_beyond_6, s_Plan_beyond_9, s_Plan_beyond_12, s_Plan_beyond_13, s_Plan_beyond_14, s_Plan_beyond_15, s_Plan_beyond_16, s_Plan_beyond_17, s_Plan_beyond_20, s_Plan_beyond_21, s_Plan_beyond_22, s_Plan_beyond_23, s_Plan_beyond_25, s_Plan_beyond_28, s_Plan_beyond_29, s_Plan_beyond_30, s_Plan_beyond_33, s_Plan_beyond_36, s_Plan_beyond_37, y_kd_sI, y_kd_sL, y_kd_sR, y_kd_cpI, y_kd_cpL, y_ln_sI, y_ln_sL, y_ln_sR, y_ln_cpI, y_ln_cpL, y_sz_sI, y_sz_sL, y_sz_sR, y_sz_cpI, y_sz_cpL, y_sl_sI, y_sl_sL, y_sl_sR, y_sl_cpI, y_sl_cpL, y_gI_sL, y_gI_sR, y_gI_cpI, y_gI_cpL, y_gI_nw, y_gL_sI, y_gL_sR, y_gL_cpI, y_gL_cpL, y_gL_nw, y_gR_sI, y_gR_sL, y_gR_cpI, y_gR_cpL, y_gR_nw, y_kd_nw, y_ln_nw, y_sz_nw, y_sl_nw, y_fx_int, y_fx_long, y_fx_ref, y_fx_null, y_fx_U, y_rf_s, y_rf_n, a_inb, a_ix, a_lt, a_eq, a_eq0, a_lt0, a_0lt, a_m1, a_m2, a_mlt, a_sub, a_dec, a_div, a_rem, a_shl, a_shr, a_bit, a_bit0, a_II, a_Ia, a_Ik, a_LL, a_La, a_Lk, a_RR, a_Ra, a_Rk, a_if0, a_if1, y_mul, y_and, y_or, nI_add, y_b1, y_b0, kon_v, kon_0, true_or, or_true, and_self, true_and, and_true, false_or, or_false, and_false, false_and, not_true_eq_false, not_false_eq_true, ite_self, ↓reduceIte, Nat.reduceEqDiff, Nat.reduceLeDiff, Nat.reduceAdd, Nat.reduceMul, Nat.reduceSub, Nat.reduceLT, Nat.reduceShiftLeft, Nat.reduceOr, Nat.reduceAnd, Bool.false_eq_true, b_if, b_z1, b_z0, b_zz, b_a1, b_a0, b_lc, b_zF, b_zT, b_lbit]
  rw [go]
  refine Eq.trans e1 ?_
  simp (disch := omega) only [s_Plan_beyond_0, s_Plan_beyond_1, s_Plan_beyond_2, s_Plan_beyond_3, s_Plan_beyond_4, s_Plan_beyond_5, s_Plan_beyond_6, s_Plan_beyond_9, s_Plan_beyond_12, s_Plan_beyond_13, s_Plan_beyond_14, s_Plan_beyond_15, s_Plan_beyond_16, s_Plan_beyond_17, s_Plan_beyond_20, s_Plan_beyond_21, s_Plan_beyond_22, s_Plan_beyond_23, s_Plan_beyond_25, s_Plan_beyond_28, s_Plan_beyond_29, s_Plan_beyond_30, s_Plan_beyond_33, s_Plan_beyond_36, s_Plan_beyond_37, y_kd_sI, y_kd_sL, y_kd_sR, y_kd_cpI, y_kd_cpL, y_ln_sI, y_ln_sL, y_ln_sR, y_ln_cpI, y_ln_cpL, y_sz_sI, y_sz_sL, y_sz_sR, y_sz_cpI, y_sz_cpL, y_sl_sI, y_sl_sL, y_sl_sR, y_sl_cpI, y_sl_cpL, y_gI_sL, y_gI_sR, y_gI_cpI, y_gI_cpL, y_gI_nw, y_gL_sI, y_gL_sR, y_gL_cpI, y_gL_cpL, y_gL_nw, y_gR_sI, y_gR_sL, y_gR_cpI, y_gR_cpL, y_gR_nw, y_kd_nw, y_ln_nw, y_sz_nw, y_sl_nw, y_fx_int, y_fx_long, y_fx_ref, y_fx_null, y_fx_U, y_rf_s, y_rf_n, a_inb, a_ix, a_lt, a_eq, a_eq0, a_lt0, a_0lt, a_m1, a_m2, a_mlt, a_sub, a_dec, a_div, a_rem, a_shl, a_shr, a_bit, a_bit0, a_II, a_Ia, a_Ik, a_LL, a_La, a_Lk, a_RR, a_Ra, a_Rk, a_if0, a_if1, y_mul, y_and, y_or, nI_add, y_b1, y_b0, kon_v, kon_0, true_or, or_true, and_self, true_and, and_true, false_or, or_false, and_false, false_and, not_true_eq_false, not_false_eq_true, ite_self, ↓reduceIte, Nat.reduceEqDiff, Nat.reduceLeDiff, Nat.reduceAdd, Nat.reduceMul, Nat.reduceSub, Nat.reduceLT, Nat.reduceShiftLeft, Nat.reduceOr, Nat.reduceAnd, Bool.false_eq_true, b_if, b_z1, b_z0, b_zz, b_a1, b_a0, b_lc, b_zF, b_zT, b_lbit, c1, c5, Nat.lt_irrefl]
theorem q_addCell {f : Nat} (po : cpO h p) (pc : cpC h p z) (hz : z.1 < 100) : ∃ h' : zMem, call g Plan_addCell [.ref p, .int (nI f)] h = some (none, h') ∧ sam p (p + 2) h h' ∧ cpC h' p (acC z f) := by
  obtain ⟨o1, o2, o3, o4, o5, o6, o7⟩ := po
  obtain ⟨p1, p2⟩ := pc
  have lt : (z.1 < 100) = True := eq_true hz
  refine ⟨sI (sI (sI h (p + 1) z.1 (nI f)) (p + 2) z.1 (-1)) p 0 (nI (z.1 + 1)), ?_, ((sam.I (by omega)).aI (by omega)).aI (by omega), a_II, fun c hc => ?_⟩
  · rw [n_Plan_addCell]
    simp (disch := omega) only [s_Plan_addCell_0, s_Plan_addCell_1, s_Plan_addCell_4, s_Plan_addCell_6, s_Plan_addCell_9, s_Plan_addCell_10, s_Plan_addCell_13, s_Plan_addCell_14, s_Plan_addCell_17, s_Plan_addCell_18, s_Plan_addCell_19, s_Plan_addCell_20, s_Plan_addCell_23, s_Plan_addCell_24, s_Plan_addCell_27, s_Plan_addCell_28, s_Plan_addCell_29, s_Plan_addCell_30, s_Plan_addCell_31, s_Plan_addCell_34, s_Plan_addCell_35, s_Plan_addCell_36, s_Plan_addCell_39, y_kd_sI, y_kd_sL, y_kd_sR, y_kd_cpI, y_kd_cpL, y_ln_sI, y_ln_sL, y_ln_sR, y_ln_cpI, y_ln_cpL, y_sz_sI, y_sz_sL, y_sz_sR, y_sz_cpI, y_sz_cpL, y_sl_sI, y_sl_sL, y_sl_sR, y_sl_cpI, y_sl_cpL, y_gI_sL, y_gI_sR, y_gI_cpI, y_gI_cpL, y_gI_nw, y_gL_sI, y_gL_sR, y_gL_cpI, y_gL_cpL, y_gL_nw, y_gR_sI, y_gR_sL, y_gR_cpI, y_gR_cpL, y_gR_nw, y_kd_nw, y_ln_nw, y_sz_nw, y_sl_nw, y_fx_int, y_fx_long, y_fx_ref, y_fx_null, y_fx_U, y_rf_s, y_rf_n, a_inb, a_ix, a_lt, a_eq, a_eq0, a_lt0, a_0lt, a_m1, a_m2, a_mlt, a_sub, a_dec, a_div, a_rem, a_shl, a_shr, a_bit, a_bit0, a_II, a_Ia, a_Ik, a_LL, a_La, a_Lk, a_RR, a_Ra, a_Rk, a_if0, a_if1, y_mul, y_and, y_or, nI_add, y_b1, y_b0, kon_v, kon_0, true_or, or_true, and_self, true_and, and_true, false_or, or_false, and_false, false_and, not_true_eq_false, not_false_eq_true, ite_self, ↓reduceIte, Nat.reduceEqDiff, Nat.reduceLeDiff, Nat.reduceAdd, Nat.reduceMul, Nat.reduceSub, Nat.reduceLT, Nat.reduceShiftLeft, Nat.reduceOr, Nat.reduceAnd, Bool.false_eq_true, b_if, b_z1, b_z0, b_zz, b_a1, b_a0, b_lc, b_zF, b_zT, b_lbit, o1, o2, o3, o4, o5, o6, o7, p1, lt]
  · have hc : c < z.1 + 1 := hc
    show _ = nI (up z.2.1 z.1 f c) ∧ _ = up z.2.2 z.1 (-1) c
    have w1 : gI (sI (sI (sI h (p + 1) z.1 (nI f)) (p + 2) z.1 (-1)) p 0 (nI (z.1 + 1))) (p + 1) c = gI (sI h (p + 1) z.1 (nI f)) (p + 1) c := (a_Ia (by omega)).trans (a_Ia (by omega))
    have w2 : gI (sI (sI (sI h (p + 1) z.1 (nI f)) (p + 2) z.1 (-1)) p 0 (nI (z.1 + 1))) (p + 2) c = gI (sI (sI h (p + 1) z.1 (nI f)) (p + 2) z.1 (-1)) (p + 2) c := a_Ia (by omega)
    rw [w1, w2]
    by_cases e : c = z.1
    · rw [e, up_s, up_s]
      exact ⟨a_II, a_II⟩
    · rw [up_n e, up_n e, a_Ik e, a_Ik e]
      exact ⟨(p2 c (by omega)).1, (a_Ia (by omega)).trans (p2 c (by omega)).2⟩
theorem q_addMates {f f' : Nat} (po : cpO h p) (pc : cpC h p z) (hz : z.1 + 2 ≤ 100) : ∃ h' : zMem, call g Plan_addMates [.ref p, .int (nI f), .int (nI f')] h = some (none, h') ∧ sam p (p + 2) h h' ∧ cpC h' p (amC z f f') := by
  obtain ⟨h1, e1, s1, c1⟩ := q_addCell (g := g) (f := f) po pc (by omega)
  obtain ⟨h2, e2, s2, c2⟩ := q_addCell (g := g) (f := f') (po.fr s1) c1 (by show z.1 + 1 < 100; omega)
  obtain ⟨o1, o2, o3, o4, o5, o6, o7⟩ := po.fr (s1.tr s2)
  have p1 := pc.1
  have k1 := po.1
  have k2 := (po.fr s1).1
  obtain ⟨q1, q2⟩ := c2
  have q1 : gI h2 p 0 = nI (z.1 + 2) := q1
  have gt : (100 < z.1 + 2) = False := eq_false (by omega)
  have a1 : z.1 + 2 - 2 = z.1 := by omega
  have a2 : z.1 + 2 - 1 = z.1 + 1 := by omega
  refine ⟨sI (sI h2 (p + 2) z.1 (nI (z.1 + 1))) (p + 2) (z.1 + 1) (nI z.1), ?_, ((s1.tr s2).aI (by omega)).aI (by omega), (a_Ia (by omega)).trans ((a_Ia (by omega)).trans q1), fun c hc => ?_⟩
  · rw [n_Plan_addMates]
    simp (disch := omega) only [s_Plan_addMates_0, s_Plan_addMates_1, s_Plan_addMates_4, s_Plan_addMates_5, s_Plan_addMates_6, s_Plan_addMates_8, s_Plan_addMates_11, s_Plan_addMates_12, s_Plan_addMates_13, s_Plan_addMates_16, s_Plan_addMates_17, s_Plan_addMates_18, s_Plan_addMates_21, s_Plan_addMates_22, s_Plan_addMates_25, s_Plan_addMates_26, s_Plan_addMates_29, s_Plan_addMates_30, s_Plan_addMates_31, s_Plan_addMates_32, s_Plan_addMates_35, s_Plan_addMates_36, s_Plan_addMates_37, s_Plan_addMates_38, s_Plan_addMates_39, s_Plan_addMates_42, s_Plan_addMates_43, s_Plan_addMates_46, s_Plan_addMates_47, s_Plan_addMates_48, s_Plan_addMates_49, s_Plan_addMates_52, s_Plan_addMates_53, s_Plan_addMates_54, s_Plan_addMates_55, y_kd_sI, y_kd_sL, y_kd_sR, y_kd_cpI, y_kd_cpL, y_ln_sI, y_ln_sL, y_ln_sR, y_ln_cpI, y_ln_cpL, y_sz_sI, y_sz_sL, y_sz_sR, y_sz_cpI, y_sz_cpL, y_sl_sI, y_sl_sL, y_sl_sR, y_sl_cpI, y_sl_cpL, y_gI_sL, y_gI_sR, y_gI_cpI, y_gI_cpL, y_gI_nw, y_gL_sI, y_gL_sR, y_gL_cpI, y_gL_cpL, y_gL_nw, y_gR_sI, y_gR_sL, y_gR_cpI, y_gR_cpL, y_gR_nw, y_kd_nw, y_ln_nw, y_sz_nw, y_sl_nw, y_fx_int, y_fx_long, y_fx_ref, y_fx_null, y_fx_U, y_rf_s, y_rf_n, a_inb, a_ix, a_lt, a_eq, a_eq0, a_lt0, a_0lt, a_m1, a_m2, a_mlt, a_sub, a_dec, a_div, a_rem, a_shl, a_shr, a_bit, a_bit0, a_II, a_Ia, a_Ik, a_LL, a_La, a_Lk, a_RR, a_Ra, a_Rk, a_if0, a_if1, y_mul, y_and, y_or, nI_add, y_b1, y_b0, kon_v, kon_0, true_or, or_true, and_self, true_and, and_true, false_or, or_false, and_false, false_and, not_true_eq_false, not_false_eq_true, ite_self, ↓reduceIte, Nat.reduceEqDiff, Nat.reduceLeDiff, Nat.reduceAdd, Nat.reduceMul, Nat.reduceSub, Nat.reduceLT, Nat.reduceShiftLeft, Nat.reduceOr, Nat.reduceAnd, Bool.false_eq_true, b_if, b_z1, b_z0, b_zz, b_a1, b_a0, b_lc, b_zF, b_zT, b_lbit, k1, k2, p1, gt, e1, e2, o1, o3, o6, o7, q1, a1, a2]
  · have hc : c < z.1 + 2 := hc
    have q3 : gI h2 (p + 1) c = nI (up (up z.2.1 z.1 f) (z.1 + 1) f' c) ∧ gI h2 (p + 2) c = up (up z.2.2 z.1 (-1)) (z.1 + 1) (-1) c := q2 c hc
    show _ = nI (up (up z.2.1 z.1 f) (z.1 + 1) f' c) ∧ _ = up (up z.2.2 z.1 (nI (z.1 + 1))) (z.1 + 1) (nI z.1) c
    rw [a_Ia (by omega), a_Ia (by omega)]
    refine ⟨q3.1, ?_⟩
    by_cases e : c = z.1 + 1
    · rw [e, a_II, up_s]
    · rw [a_Ik e, up_n e]
      by_cases d : c = z.1
      · rw [d, a_II, up_s]
      · rw [a_Ik d, up_n d, q3.2, up_n e, up_n d]
end ZLY
