/-! the sets and their shrinking, in the machine -/
theorem y_inb {n N : Nat} (h : n < N) (hN : N < 2 ^ 31) : inb (nI n) N = true := by
  unfold inb
  have h1 : n < 2 ^ 31 := by omega
  rw [nI_clamp h1, decide_eq_true h, decide_eq_true (nI_pos' h1)]
  rfl
theorem y_ix {n : Nat} (h : n < 2 ^ 31) : ix (nI n) = n := nI_clamp h
/-- a Sets object at o, its arrays behind it, its Ways at r with the turned sets at t -/
def oSets (h : zMem) (o r t : Nat) : Prop := kd h o = 8 ∧ gR h o 0 = some (o + 1) ∧ gR h o 3 = some r ∧ gR h o 4 = some (o + 2) ∧ gR h o 5 = some (o + 3) ∧ gR h o 6 = some (o + 4) ∧ gR h o 7 = some (o + 5) ∧ kd h (o + 1) = 20 ∧ ln h (o + 1) = 100 ∧ kd h (o + 2) = 20 ∧ ln h (o + 2) = 360 ∧ kd h (o + 3) = 20 ∧ ln h (o + 3) = 360 ∧ kd h (o + 4) = 20 ∧ ln h (o + 4) = 45 ∧ kd h (o + 5) = 23 ∧ ln h (o + 5) = 100 ∧ kd h r = 11 ∧ gR h r 0 = some t ∧ kd h t = 20 ∧ ln h t = 256 ∧ (t < o ∨ o + 5 < t)
section ZST
variable {g : Nat → Nat} {h : zMem} {o r t : Nat}
theorem oSets.I {a k : Nat} {v : Int32} (ho : oSets h o r t) : oSets (sI h a k v) o r t := ho
def mOpen (o : Nat) : Nat → Nat → zMem → zMem
  | 0, _, h => h
  | k + 1, i, h => mOpen o k (i + 1) (sI (sI h (o + 1) i (nI 255)) (o + 5) i (nI 0))
theorem l_Sets_open {c : Int32} : ∀ (k i : Nat) (h : zMem), i + k = 100 → oSets h o r t → ev g Sets_open 22 [.ref o, .int c, .int (nI i)] [] h = some (none, mOpen o k i h)
  | 0, i, h, hi, ⟨a1, a2, a3, a4, a5, a6, a7, b1, b2, b3, b4, b5, b6, b7, b8, b9, b10, c1, c2, c3, c4, c5⟩ => by
    have e : i = 100 := by omega
    subst e
    rw [s_Sets_open_22]
    simp only [s_Sets_open_0, s_Sets_open_1, s_Sets_open_2, s_Sets_open_5, s_Sets_open_6, s_Sets_open_7, s_Sets_open_10, s_Sets_open_11, s_Sets_open_12, s_Sets_open_15, s_Sets_open_16, s_Sets_open_17, s_Sets_open_20, s_Sets_open_21, s_Sets_open_23, s_Sets_open_24, s_Sets_open_27, s_Sets_open_28, s_Sets_open_31, s_Sets_open_32, s_Sets_open_35, s_Sets_open_36, s_Sets_open_39, s_Sets_open_40, s_Sets_open_41, s_Sets_open_44, s_Sets_open_45, s_Sets_open_46, s_Sets_open_47, s_Sets_open_50, s_Sets_open_53, y_kd_sI, y_kd_sL, y_kd_sR, y_kd_cpI, y_kd_cpL, y_ln_sI, y_ln_sL, y_ln_sR, y_ln_cpI, y_ln_cpL, y_sz_sI, y_sz_sL, y_sz_sR, y_sz_cpI, y_sz_cpL, y_sl_sI, y_sl_sL, y_sl_sR, y_sl_cpI, y_sl_cpL, y_gI_sI, y_gI_sL, y_gI_sR, y_gI_cpI, y_gI_cpL, y_gI_nw, y_gL_sI, y_gL_sL, y_gL_sR, y_gL_cpI, y_gL_cpL, y_gL_nw, y_gR_sI, y_gR_sL, y_gR_sR, y_gR_cpI, y_gR_cpL, y_gR_nw, y_kd_nw, y_ln_nw, y_sz_nw, y_sl_nw, y_fx_int, y_fx_long, y_fx_ref, y_fx_null, y_fx_U, y_rf_s, y_rf_n, a1, a2, b1, b2, ↓reduceIte]
    rw [if_pos (by decide), if_neg (by decide)]
    rfl
  | k + 1, i, h, hi, ho => by
    have ho' := ho
    obtain ⟨a1, a2, a3, a4, a5, a6, a7, b1, b2, b3, b4, b5, b6, b7, b8, b9, b10, c1, c2, c3, c4, c5⟩ := ho'
    have e1 : inb (nI i) 100 = true := y_inb (by omega) (by decide)
    have e2 : ix (nI i) = i := y_ix (by omega)
    have e3 : nI i < nI 100 := nI_lt (by omega) (by decide)
    have e4 : nI i + nI 1 = nI (i + 1) := nI_add i 1
    rw [s_Sets_open_22]
    simp only [s_Sets_open_0, s_Sets_open_1, s_Sets_open_2, s_Sets_open_5, s_Sets_open_6, s_Sets_open_7, s_Sets_open_10, s_Sets_open_11, s_Sets_open_12, s_Sets_open_15, s_Sets_open_16, s_Sets_open_17, s_Sets_open_20, s_Sets_open_21, s_Sets_open_23, s_Sets_open_24, s_Sets_open_27, s_Sets_open_28, s_Sets_open_31, s_Sets_open_32, s_Sets_open_35, s_Sets_open_36, s_Sets_open_39, s_Sets_open_40, s_Sets_open_41, s_Sets_open_44, s_Sets_open_45, s_Sets_open_46, s_Sets_open_47, s_Sets_open_50, s_Sets_open_53, y_kd_sI, y_kd_sL, y_kd_sR, y_kd_cpI, y_kd_cpL, y_ln_sI, y_ln_sL, y_ln_sR, y_ln_cpI, y_ln_cpL, y_sz_sI, y_sz_sL, y_sz_sR, y_sz_cpI, y_sz_cpL, y_sl_sI, y_sl_sL, y_sl_sR, y_sl_cpI, y_sl_cpL, y_gI_sI, y_gI_sL, y_gI_sR, y_gI_cpI, y_gI_cpL, y_gI_nw, y_gL_sI, y_gL_sL, y_gL_sR, y_gL_cpI, y_gL_cpL, y_gL_nw, y_gR_sI, y_gR_sL, y_gR_sR, y_gR_cpI, y_gR_cpL, y_gR_nw, y_kd_nw, y_ln_nw, y_sz_nw, y_sl_nw, y_fx_int, y_fx_long, y_fx_ref, y_fx_null, y_fx_U, y_rf_s, y_rf_n, a1, a2, a7, b1, b2, b9, b10, e1, e2, e3, e4, y_b0, ↓reduceIte]
    rw [if_pos (by decide)]
    simp only [show ((23 : Nat) = 22) = False from eq_false (by decide), show (nI 0 &&& 1) = nI 0 by decide, ↓reduceIte, or_true, and_self]
    exact l_Sets_open k (i + 1) _ (by omega) (ho.I.I)
theorem q_Sets_open {c : Int32} (ho : oSets h o r t) : call g Sets_open [.ref o, .int c] h = some (none, mOpen o 100 0 (sI (sI (sI (sI h o 1 c) o 2 (nI 0)) o 8 (nI 0)) o 9 (nI 0))) := by
  rw [n_Sets_open]
  have a1 := ho.1
  simp only [s_Sets_open_0, s_Sets_open_1, s_Sets_open_2, s_Sets_open_5, s_Sets_open_6, s_Sets_open_7, s_Sets_open_10, s_Sets_open_11, s_Sets_open_12, s_Sets_open_15, s_Sets_open_16, s_Sets_open_17, s_Sets_open_20, s_Sets_open_21, s_Sets_open_23, s_Sets_open_24, s_Sets_open_27, s_Sets_open_28, s_Sets_open_31, s_Sets_open_32, s_Sets_open_35, s_Sets_open_36, s_Sets_open_39, s_Sets_open_40, s_Sets_open_41, s_Sets_open_44, s_Sets_open_45, s_Sets_open_46, s_Sets_open_47, s_Sets_open_50, s_Sets_open_53, y_kd_sI, y_kd_sL, y_kd_sR, y_kd_cpI, y_kd_cpL, y_ln_sI, y_ln_sL, y_ln_sR, y_ln_cpI, y_ln_cpL, y_sz_sI, y_sz_sL, y_sz_sR, y_sz_cpI, y_sz_cpL, y_sl_sI, y_sl_sL, y_sl_sR, y_sl_cpI, y_sl_cpL, y_gI_sI, y_gI_sL, y_gI_sR, y_gI_cpI, y_gI_cpL, y_gI_nw, y_gL_sI, y_gL_sL, y_gL_sR, y_gL_cpI, y_gL_cpL, y_gL_nw, y_gR_sI, y_gR_sL, y_gR_sR, y_gR_cpI, y_gR_cpL, y_gR_nw, y_kd_nw, y_ln_nw, y_sz_nw, y_sl_nw, y_fx_int, y_fx_long, y_fx_ref, y_fx_null, y_fx_U, y_rf_s, y_rf_n, a1, ↓reduceIte]
  exact l_Sets_open 100 0 _ rfl ho.I.I.I.I
def kA (o p a c : Nat) (h : zMem) : zMem := if c < 360 then sI (sI (sI h (o + 2) c (nI p)) (o + 3) c (nI a)) o 2 (nI (c + 1)) else h
def kB (o t p v : Nat) (h : zMem) : zMem := sI (sI h (o + 1) p (nI v)) (o + 1) (p % 10 * 10 + p / 10) (gI h t v)
def kC (o m v f w : Nat) (h : zMem) : zMem := if ¬ v = 0 ∧ gI h (o + 5) m = 0 ∧ w < 45 then sI (sI (sI h (o + 4) ((f + w) % 45) (nI m)) (o + 5) m (nI 1)) o 9 (nI (w + 1)) else h
def fKeep (o t p a s c f w : Nat) (h : zMem) : zMem := if a &&& s = a then h else kC o (min p (p % 10 * 10 + p / 10)) (a &&& s) f w (kB o t p (a &&& s) (kA o p a c h))
theorem q_Sets_keep {p a s c f w : Nat} (ho : oSets h o r t) (hp : p < 100) (ha : gI h (o + 1) p = nI a) (h2 : a < 256) (hc : gI h o 2 = nI c) (hc2 : c ≤ 360) (hf : gI h o 8 = nI f) (hf2 : f < 45) (hw : gI h o 9 = nI w) (hw2 : w ≤ 45) : call g Sets_keep [.ref o, .int (nI p), .int (nI s)] h = some (some (.int (bZ (a &&& s = a ∨ ¬ a &&& s = 0))), fKeep o t p a s c f w h) := by
  obtain ⟨a1, a2, a3, a4, a5, a6, a7, b1, b2, b3, b4, b5, b6, b7, b8, b9, b10, c1, c2, c3, c4, c5⟩ := ho
  have hv : a &&& s < 256 := Nat.lt_of_le_of_lt Nat.and_le_left h2
  generalize ev0 : a &&& s = v at hv ⊢
  have hq : p % 10 * 10 + p / 10 < 100 := by omega
  have e1 : inb (nI p) 100 = true := y_inb hp (by decide)
  have e2 : ix (nI p) = p := y_ix (by omega)
  have e3 : (nI v = nI a) = (v = a) := propext (nI_eq (by omega) (by omega))
  have e4 : (nI c < nI 360) = (c < 360) := propext (nI_ltI (by omega) (by decide))
  have e5 : (nI w < nI 45) = (w < 45) := propext (nI_ltI (by omega) (by decide))
  have e6 : (nI v = 0) = (v = 0) := propext (nI_eq (b := 0) (by omega) (by decide))
  have e7 : iRem (nI p) (nI 10) = nI (p % 10) := y_rem (by omega) (by decide)
  have e8 : nI p / nI 10 = nI (p / 10) := y_div (by omega) (by decide)
  have e9 : (nI 10 = (0 : Int32)) = False := eq_false (by decide)
  have e10 : (nI 45 = (0 : Int32)) = False := eq_false (by decide)
  generalize eq0 : p % 10 * 10 + p / 10 = q at hq ⊢
  have e11 : inb (nI q) 100 = true := y_inb hq (by decide)
  have e12 : ix (nI q) = q := y_ix (by omega)
  have e13 : inb (nI v) 256 = true := y_inb hv (by decide)
  have e14 : ix (nI v) = v := y_ix (by omega)
  have e15 : (if nI q < nI p then nI q else nI p) = nI (min p q) := by
    by_cases z : q < p
    · rw [if_pos (nI_lt z (by omega)), Nat.min_eq_right (by omega)]
    · rw [if_neg (nI_nlt (by omega) (by omega)), Nat.min_eq_left (by omega)]
  have hm : min p q < 100 := by omega
  generalize em0 : min p q = m at e15 hm ⊢
  have e16 : inb (nI m) 100 = true := y_inb hm (by decide)
  have e17 : ix (nI m) = m := y_ix (by omega)
  have e18 : iRem (nI (f + w)) (nI 45) = nI ((f + w) % 45) := y_rem (by omega) (by decide)
  have hx : (f + w) % 45 < 45 := Nat.mod_lt _ (by decide)
  have e19 : inb (nI ((f + w) % 45)) 45 = true := y_inb hx (by decide)
  have e20 : ix (nI ((f + w) % 45)) = (f + w) % 45 := y_ix (by omega)
  have e21 : ix (nI c) = c := y_ix (by omega)
  have d1 : (o = o + 2) = False := eq_false (by omega)
  have d2 : (o = o + 3) = False := eq_false (by omega)
  have d3 : (o = o + 1) = False := eq_false (by omega)
  have d4 : (o + 5 = o) = False := eq_false (by omega)
  have d5 : (t = o) = False := eq_false (by omega)
  have d6 : (t = o + 1) = False := eq_false (by omega)
  have d7 : (t = o + 2) = False := eq_false (by omega)
  have d8 : (t = o + 3) = False := eq_false (by omega)
  have d9 : (o = o + 4) = False := eq_false (by omega)
  have d10 : (o = o + 5) = False := eq_false (by omega)
  have d11 : (o + 1 = o) = False := eq_false (by omega)
  have d12 : (o + 2 = o) = False := eq_false (by omega)
  have d13 : (o + 3 = o) = False := eq_false (by omega)
  have d14 : (o + 4 = o) = False := eq_false (by omega)
  have x1 : (23 = 22) = False := eq_false (by decide)
  have x2 : nI 1 &&& 1 = nI 1 := by decide
  have x3 : (nI 1 &&& 1 = nI 1) = True := y_b1
  rw [n_Sets_keep]
  unfold fKeep kC kB kA bZ
  rw [ev0, eq0, em0]
  by_cases z1 : v = a
  · simp only [s_Sets_keep_0, s_Sets_keep_1, s_Sets_keep_4, s_Sets_keep_5, s_Sets_keep_6, s_Sets_keep_7, s_Sets_keep_8, s_Sets_keep_9, s_Sets_keep_10, s_Sets_keep_12, s_Sets_keep_14, s_Sets_keep_15, s_Sets_keep_18, s_Sets_keep_19, s_Sets_keep_20, s_Sets_keep_21, s_Sets_keep_24, s_Sets_keep_27, s_Sets_keep_30, s_Sets_keep_31, s_Sets_keep_34, s_Sets_keep_35, s_Sets_keep_38, s_Sets_keep_39, s_Sets_keep_40, s_Sets_keep_41, s_Sets_keep_44, s_Sets_keep_45, s_Sets_keep_48, s_Sets_keep_49, s_Sets_keep_50, s_Sets_keep_51, s_Sets_keep_52, s_Sets_keep_55, s_Sets_keep_56, s_Sets_keep_57, s_Sets_keep_60, s_Sets_keep_61, s_Sets_keep_63, s_Sets_keep_64, s_Sets_keep_66, s_Sets_keep_67, s_Sets_keep_68, s_Sets_keep_70, s_Sets_keep_71, s_Sets_keep_72, s_Sets_keep_74, s_Sets_keep_75, s_Sets_keep_78, s_Sets_keep_79, s_Sets_keep_81, s_Sets_keep_82, s_Sets_keep_83, s_Sets_keep_86, s_Sets_keep_88, s_Sets_keep_89, s_Sets_keep_92, s_Sets_keep_95, s_Sets_keep_97, s_Sets_keep_98, s_Sets_keep_99, s_Sets_keep_100, s_Sets_keep_102, s_Sets_keep_105, s_Sets_keep_107, s_Sets_keep_109, s_Sets_keep_112, s_Sets_keep_113, s_Sets_keep_116, s_Sets_keep_118, s_Sets_keep_119, s_Sets_keep_122, s_Sets_keep_123, s_Sets_keep_126, s_Sets_keep_128, s_Sets_keep_131, s_Sets_keep_132, s_Sets_keep_135, s_Sets_keep_136, s_Sets_keep_139, s_Sets_keep_140, s_Sets_keep_143, s_Sets_keep_144, s_Sets_keep_146, s_Sets_keep_147, s_Sets_keep_149, s_Sets_keep_150, s_Sets_keep_151, s_Sets_keep_154, s_Sets_keep_156, s_Sets_keep_157, s_Sets_keep_158, s_Sets_keep_159, s_Sets_keep_160, s_Sets_keep_163, s_Sets_keep_164, s_Sets_keep_165, s_Sets_keep_168, s_Sets_keep_170, s_Sets_keep_173, s_Sets_keep_174, s_Sets_keep_177, s_Sets_keep_178, y_kd_sI, y_kd_sL, y_kd_sR, y_kd_cpI, y_kd_cpL, y_ln_sI, y_ln_sL, y_ln_sR, y_ln_cpI, y_ln_cpL, y_sz_sI, y_sz_sL, y_sz_sR, y_sz_cpI, y_sz_cpL, y_sl_sI, y_sl_sL, y_sl_sR, y_sl_cpI, y_sl_cpL, y_gI_sI, y_gI_sL, y_gI_sR, y_gI_cpI, y_gI_cpL, y_gI_nw, y_gL_sI, y_gL_sL, y_gL_sR, y_gL_cpI, y_gL_cpL, y_gL_nw, y_gR_sI, y_gR_sL, y_gR_sR, y_gR_cpI, y_gR_cpL, y_gR_nw, y_kd_nw, y_ln_nw, y_sz_nw, y_sl_nw, y_fx_int, y_fx_long, y_fx_ref, y_fx_null, y_fx_U, y_rf_s, y_rf_n, a1, a2, b1, b2, e1, e2, ha, y_and, ev0, z1, y_b1, ↓reduceIte, true_or, and_self, or_true]
  · have z3 : (gI h (o + 5) m = 0) = True ∨ (gI h (o + 5) m = 0) = False := by
      by_cases z : gI h (o + 5) m = 0
      · exact Or.inl (eq_true z)
      · exact Or.inr (eq_false z)
    have z4 : (v = 0) = True ∨ (v = 0) = False := by
      by_cases z : v = 0
      · exact Or.inl (eq_true z)
      · exact Or.inr (eq_false z)
    have z5 : (w < 45) = True ∨ (w < 45) = False := by
      by_cases z : w < 45
      · exact Or.inl (eq_true z)
      · exact Or.inr (eq_false z)
    by_cases z2 : c < 360
    · have e22 : inb (nI c) 360 = true := y_inb z2 (by decide)
      rcases z3 with z3 | z3 <;> rcases z4 with z4 | z4 <;> rcases z5 with z5 | z5 <;> simp only [s_Sets_keep_0, s_Sets_keep_1, s_Sets_keep_4, s_Sets_keep_5, s_Sets_keep_6, s_Sets_keep_7, s_Sets_keep_8, s_Sets_keep_9, s_Sets_keep_10, s_Sets_keep_12, s_Sets_keep_14, s_Sets_keep_15, s_Sets_keep_18, s_Sets_keep_19, s_Sets_keep_20, s_Sets_keep_21, s_Sets_keep_24, s_Sets_keep_27, s_Sets_keep_30, s_Sets_keep_31, s_Sets_keep_34, s_Sets_keep_35, s_Sets_keep_38, s_Sets_keep_39, s_Sets_keep_40, s_Sets_keep_41, s_Sets_keep_44, s_Sets_keep_45, s_Sets_keep_48, s_Sets_keep_49, s_Sets_keep_50, s_Sets_keep_51, s_Sets_keep_52, s_Sets_keep_55, s_Sets_keep_56, s_Sets_keep_57, s_Sets_keep_60, s_Sets_keep_61, s_Sets_keep_63, s_Sets_keep_64, s_Sets_keep_66, s_Sets_keep_67, s_Sets_keep_68, s_Sets_keep_70, s_Sets_keep_71, s_Sets_keep_72, s_Sets_keep_74, s_Sets_keep_75, s_Sets_keep_78, s_Sets_keep_79, s_Sets_keep_81, s_Sets_keep_82, s_Sets_keep_83, s_Sets_keep_86, s_Sets_keep_88, s_Sets_keep_89, s_Sets_keep_92, s_Sets_keep_95, s_Sets_keep_97, s_Sets_keep_98, s_Sets_keep_99, s_Sets_keep_100, s_Sets_keep_102, s_Sets_keep_105, s_Sets_keep_107, s_Sets_keep_109, s_Sets_keep_112, s_Sets_keep_113, s_Sets_keep_116, s_Sets_keep_118, s_Sets_keep_119, s_Sets_keep_122, s_Sets_keep_123, s_Sets_keep_126, s_Sets_keep_128, s_Sets_keep_131, s_Sets_keep_132, s_Sets_keep_135, s_Sets_keep_136, s_Sets_keep_139, s_Sets_keep_140, s_Sets_keep_143, s_Sets_keep_144, s_Sets_keep_146, s_Sets_keep_147, s_Sets_keep_149, s_Sets_keep_150, s_Sets_keep_151, s_Sets_keep_154, s_Sets_keep_156, s_Sets_keep_157, s_Sets_keep_158, s_Sets_keep_159, s_Sets_keep_160, s_Sets_keep_163, s_Sets_keep_164, s_Sets_keep_165, s_Sets_keep_168, s_Sets_keep_170, s_Sets_keep_173, s_Sets_keep_174, s_Sets_keep_177, s_Sets_keep_178, y_kd_sI, y_kd_sL, y_kd_sR, y_kd_cpI, y_kd_cpL, y_ln_sI, y_ln_sL, y_ln_sR, y_ln_cpI, y_ln_cpL, y_sz_sI, y_sz_sL, y_sz_sR, y_sz_cpI, y_sz_cpL, y_sl_sI, y_sl_sL, y_sl_sR, y_sl_cpI, y_sl_cpL, y_gI_sI, y_gI_sL, y_gI_sR, y_gI_cpI, y_gI_cpL, y_gI_nw, y_gL_sI, y_gL_sL, y_gL_sR, y_gL_cpI, y_gL_cpL, y_gL_nw, y_gR_sI, y_gR_sL, y_gR_sR, y_gR_cpI, y_gR_cpL, y_gR_nw, y_kd_nw, y_ln_nw, y_sz_nw, y_sl_nw, y_fx_int, y_fx_long, y_fx_ref, y_fx_null, y_fx_U, y_rf_s, y_rf_n, q_Math_min, kon_v, kon_0, a1, a2, a3, a4, a5, a6, a7, b1, b2, b3, b4, b5, b6, b7, b8, b9, b10, c1, c2, c3, c4, e1, e2, ha, hc, hf, hw, y_and, y_mul, nI_add, ev0, e3, e4, e5, e6, e7, e8, e9, e10, eq0, e11, e12, e13, e14, e15, e16, e17, e18, e19, e20, e21, e22, z2, z1, z3, z4, z5, d1, d2, d3, d4, d5, d6, d7, d8, d9, d10, d11, d12, d13, d14, x1, x2, x3, y_b1, y_b0, Nat.reduceEqDiff, Nat.reduceAdd, ↓reduceIte, true_or, or_true, false_or, or_false, and_self, and_true, true_and, and_false, false_and, not_true_eq_false, not_false_eq_true]
    · rcases z3 with z3 | z3 <;> rcases z4 with z4 | z4 <;> rcases z5 with z5 | z5 <;> simp only [s_Sets_keep_0, s_Sets_keep_1, s_Sets_keep_4, s_Sets_keep_5, s_Sets_keep_6, s_Sets_keep_7, s_Sets_keep_8, s_Sets_keep_9, s_Sets_keep_10, s_Sets_keep_12, s_Sets_keep_14, s_Sets_keep_15, s_Sets_keep_18, s_Sets_keep_19, s_Sets_keep_20, s_Sets_keep_21, s_Sets_keep_24, s_Sets_keep_27, s_Sets_keep_30, s_Sets_keep_31, s_Sets_keep_34, s_Sets_keep_35, s_Sets_keep_38, s_Sets_keep_39, s_Sets_keep_40, s_Sets_keep_41, s_Sets_keep_44, s_Sets_keep_45, s_Sets_keep_48, s_Sets_keep_49, s_Sets_keep_50, s_Sets_keep_51, s_Sets_keep_52, s_Sets_keep_55, s_Sets_keep_56, s_Sets_keep_57, s_Sets_keep_60, s_Sets_keep_61, s_Sets_keep_63, s_Sets_keep_64, s_Sets_keep_66, s_Sets_keep_67, s_Sets_keep_68, s_Sets_keep_70, s_Sets_keep_71, s_Sets_keep_72, s_Sets_keep_74, s_Sets_keep_75, s_Sets_keep_78, s_Sets_keep_79, s_Sets_keep_81, s_Sets_keep_82, s_Sets_keep_83, s_Sets_keep_86, s_Sets_keep_88, s_Sets_keep_89, s_Sets_keep_92, s_Sets_keep_95, s_Sets_keep_97, s_Sets_keep_98, s_Sets_keep_99, s_Sets_keep_100, s_Sets_keep_102, s_Sets_keep_105, s_Sets_keep_107, s_Sets_keep_109, s_Sets_keep_112, s_Sets_keep_113, s_Sets_keep_116, s_Sets_keep_118, s_Sets_keep_119, s_Sets_keep_122, s_Sets_keep_123, s_Sets_keep_126, s_Sets_keep_128, s_Sets_keep_131, s_Sets_keep_132, s_Sets_keep_135, s_Sets_keep_136, s_Sets_keep_139, s_Sets_keep_140, s_Sets_keep_143, s_Sets_keep_144, s_Sets_keep_146, s_Sets_keep_147, s_Sets_keep_149, s_Sets_keep_150, s_Sets_keep_151, s_Sets_keep_154, s_Sets_keep_156, s_Sets_keep_157, s_Sets_keep_158, s_Sets_keep_159, s_Sets_keep_160, s_Sets_keep_163, s_Sets_keep_164, s_Sets_keep_165, s_Sets_keep_168, s_Sets_keep_170, s_Sets_keep_173, s_Sets_keep_174, s_Sets_keep_177, s_Sets_keep_178, y_kd_sI, y_kd_sL, y_kd_sR, y_kd_cpI, y_kd_cpL, y_ln_sI, y_ln_sL, y_ln_sR, y_ln_cpI, y_ln_cpL, y_sz_sI, y_sz_sL, y_sz_sR, y_sz_cpI, y_sz_cpL, y_sl_sI, y_sl_sL, y_sl_sR, y_sl_cpI, y_sl_cpL, y_gI_sI, y_gI_sL, y_gI_sR, y_gI_cpI, y_gI_cpL, y_gI_nw, y_gL_sI, y_gL_sL, y_gL_sR, y_gL_cpI, y_gL_cpL, y_gL_nw, y_gR_sI, y_gR_sL, y_gR_sR, y_gR_cpI, y_gR_cpL, y_gR_nw, y_kd_nw, y_ln_nw, y_sz_nw, y_sl_nw, y_fx_int, y_fx_long, y_fx_ref, y_fx_null, y_fx_U, y_rf_s, y_rf_n, q_Math_min, kon_v, kon_0, a1, a2, a3, a4, a5, a6, a7, b1, b2, b3, b4, b5, b6, b7, b8, b9, b10, c1, c2, c3, c4, e1, e2, ha, hc, hf, hw, y_and, y_mul, nI_add, ev0, e3, e4, e5, e6, e7, e8, e9, e10, eq0, e11, e12, e13, e14, e15, e16, e17, e18, e19, e20, e21, z2, z1, z3, z4, z5, d1, d2, d3, d4, d5, d6, d7, d8, d9, d10, d11, d12, d13, d14, x1, x2, x3, y_b1, y_b0, Nat.reduceEqDiff, Nat.reduceAdd, ↓reduceIte, true_or, or_true, false_or, or_false, and_self, and_true, true_and, and_false, false_and, not_true_eq_false, not_false_eq_true]
end ZST
