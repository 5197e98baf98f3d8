/-! the sets and their shrinking, in the machine -/
theorem y_inb {n N : Nat} (h : n < N) (hN : N < 2 ^ 31) : inb (nI n) N = true := by
  unfold inb
  have h1 : n < 2 ^ 31 := by omega
  rw [nI_clamp h1, decide_eq_true h, decide_eq_true (nI_pos' h1)]
  rfl
theorem y_ix {n : Nat} (h : n < 2 ^ 31) : ix (nI n) = n := nI_clamp h
/-- a Sets object at o, its arrays behind it, its Ways at r with the turned sets at t -/
def oSets (h : zMem) (o r t : Nat) : Prop := kd h o = 8 ∧ gR h o 0 = some (o + 1) ∧ gR h o 3 = some r ∧ gR h o 4 = some (o + 2) ∧ gR h o 5 = some (o + 3) ∧ gR h o 6 = some (o + 4) ∧ gR h o 7 = some (o + 5) ∧ kd h (o + 1) = 20 ∧ ln h (o + 1) = 100 ∧ kd h (o + 2) = 20 ∧ ln h (o + 2) = 360 ∧ kd h (o + 3) = 20 ∧ ln h (o + 3) = 360 ∧ kd h (o + 4) = 20 ∧ ln h (o + 4) = 45 ∧ kd h (o + 5) = 23 ∧ ln h (o + 5) = 100 ∧ kd h r = 11 ∧ gR h r 0 = some t ∧ kd h t = 20 ∧ ln h t = 256
section ZST
variable {g : Nat → Nat} {h : zMem} {o r t : Nat}
theorem oSets.I {a k : Nat} {v : Int32} (ho : oSets h o r t) : oSets (sI h a k v) o r t := ho
def mOpen (o : Nat) : Nat → Nat → zMem → zMem
  | 0, _, h => h
  | k + 1, i, h => mOpen o k (i + 1) (sI (sI h (o + 1) i (nI 255)) (o + 5) i (nI 0))
theorem l_Sets_open {c : Int32} : ∀ (k i : Nat) (h : zMem), i + k = 100 → oSets h o r t → ev g Sets_open 22 [.ref o, .int c, .int (nI i)] [] h = some (none, mOpen o k i h)
  | 0, i, h, hi, ⟨a1, a2, a3, a4, a5, a6, a7, b1, b2, b3, b4, b5, b6, b7, b8, b9, b10, c1, c2, c3, c4⟩ => by
    have e : i = 100 := by omega
    subst e
    rw [s_Sets_open_22]
    simp only [s_Sets_open_0, s_Sets_open_1, s_Sets_open_2, s_Sets_open_5, s_Sets_open_6, s_Sets_open_7, s_Sets_open_10, s_Sets_open_11, s_Sets_open_12, s_Sets_open_15, s_Sets_open_16, s_Sets_open_17, s_Sets_open_20, s_Sets_open_21, s_Sets_open_23, s_Sets_open_24, s_Sets_open_27, s_Sets_open_28, s_Sets_open_31, s_Sets_open_32, s_Sets_open_35, s_Sets_open_36, s_Sets_open_39, s_Sets_open_40, s_Sets_open_41, s_Sets_open_44, s_Sets_open_45, s_Sets_open_46, s_Sets_open_47, s_Sets_open_50, s_Sets_open_53, y_kd_sI, y_kd_sL, y_kd_sR, y_kd_cpI, y_kd_cpL, y_ln_sI, y_ln_sL, y_ln_sR, y_ln_cpI, y_ln_cpL, y_sz_sI, y_sz_sL, y_sz_sR, y_sz_cpI, y_sz_cpL, y_sl_sI, y_sl_sL, y_sl_sR, y_sl_cpI, y_sl_cpL, y_gI_sI, y_gI_sL, y_gI_sR, y_gI_cpI, y_gI_cpL, y_gI_nw, y_gL_sI, y_gL_sL, y_gL_sR, y_gL_cpI, y_gL_cpL, y_gL_nw, y_gR_sI, y_gR_sL, y_gR_sR, y_gR_cpI, y_gR_cpL, y_gR_nw, y_kd_nw, y_ln_nw, y_sz_nw, y_sl_nw, y_fx_int, y_fx_long, y_fx_ref, y_fx_null, y_fx_U, y_rf_s, y_rf_n, a1, a2, b1, b2, ↓reduceIte]
    rw [if_pos (by decide), if_neg (by decide)]
    rfl
  | k + 1, i, h, hi, ho => by
    have ho' := ho
    obtain ⟨a1, a2, a3, a4, a5, a6, a7, b1, b2, b3, b4, b5, b6, b7, b8, b9, b10, c1, c2, c3, c4⟩ := ho'
    have e1 : inb (nI i) 100 = true := y_inb (by omega) (by decide)
    have e2 : ix (nI i) = i := y_ix (by omega)
    have e3 : nI i < nI 100 := nI_lt (by omega) (by decide)
    have e4 : nI i + nI 1 = nI (i + 1) := nI_add i 1
    rw [s_Sets_open_22]
    simp only [s_Sets_open_0, s_Sets_open_1, s_Sets_open_2, s_Sets_open_5, s_Sets_open_6, s_Sets_open_7, s_Sets_open_10, s_Sets_open_11, s_Sets_open_12, s_Sets_open_15, s_Sets_open_16, s_Sets_open_17, s_Sets_open_20, s_Sets_open_21, s_Sets_open_23, s_Sets_open_24, s_Sets_open_27, s_Sets_open_28, s_Sets_open_31, s_Sets_open_32, s_Sets_open_35, s_Sets_open_36, s_Sets_open_39, s_Sets_open_40, s_Sets_open_41, s_Sets_open_44, s_Sets_open_45, s_Sets_open_46, s_Sets_open_47, s_Sets_open_50, s_Sets_open_53, y_kd_sI, y_kd_sL, y_kd_sR, y_kd_cpI, y_kd_cpL, y_ln_sI, y_ln_sL, y_ln_sR, y_ln_cpI, y_ln_cpL, y_sz_sI, y_sz_sL, y_sz_sR, y_sz_cpI, y_sz_cpL, y_sl_sI, y_sl_sL, y_sl_sR, y_sl_cpI, y_sl_cpL, y_gI_sI, y_gI_sL, y_gI_sR, y_gI_cpI, y_gI_cpL, y_gI_nw, y_gL_sI, y_gL_sL, y_gL_sR, y_gL_cpI, y_gL_cpL, y_gL_nw, y_gR_sI, y_gR_sL, y_gR_sR, y_gR_cpI, y_gR_cpL, y_gR_nw, y_kd_nw, y_ln_nw, y_sz_nw, y_sl_nw, y_fx_int, y_fx_long, y_fx_ref, y_fx_null, y_fx_U, y_rf_s, y_rf_n, a1, a2, a7, b1, b2, b9, b10, e1, e2, e3, e4, y_b0, ↓reduceIte]
    rw [if_pos (by decide)]
    simp only [show ((23 : Nat) = 22) = False from eq_false (by decide), show (nI 0 &&& 1) = nI 0 by decide, ↓reduceIte, or_true, and_self]
    exact l_Sets_open k (i + 1) _ (by omega) (ho.I.I)
theorem q_Sets_open {c : Int32} (ho : oSets h o r t) : call g Sets_open [.ref o, .int c] h = some (none, mOpen o 100 0 (sI (sI (sI (sI h o 1 c) o 2 (nI 0)) o 8 (nI 0)) o 9 (nI 0))) := by
  rw [n_Sets_open]
  have a1 := ho.1
  simp only [s_Sets_open_0, s_Sets_open_1, s_Sets_open_2, s_Sets_open_5, s_Sets_open_6, s_Sets_open_7, s_Sets_open_10, s_Sets_open_11, s_Sets_open_12, s_Sets_open_15, s_Sets_open_16, s_Sets_open_17, s_Sets_open_20, s_Sets_open_21, s_Sets_open_23, s_Sets_open_24, s_Sets_open_27, s_Sets_open_28, s_Sets_open_31, s_Sets_open_32, s_Sets_open_35, s_Sets_open_36, s_Sets_open_39, s_Sets_open_40, s_Sets_open_41, s_Sets_open_44, s_Sets_open_45, s_Sets_open_46, s_Sets_open_47, s_Sets_open_50, s_Sets_open_53, y_kd_sI, y_kd_sL, y_kd_sR, y_kd_cpI, y_kd_cpL, y_ln_sI, y_ln_sL, y_ln_sR, y_ln_cpI, y_ln_cpL, y_sz_sI, y_sz_sL, y_sz_sR, y_sz_cpI, y_sz_cpL, y_sl_sI, y_sl_sL, y_sl_sR, y_sl_cpI, y_sl_cpL, y_gI_sI, y_gI_sL, y_gI_sR, y_gI_cpI, y_gI_cpL, y_gI_nw, y_gL_sI, y_gL_sL, y_gL_sR, y_gL_cpI, y_gL_cpL, y_gL_nw, y_gR_sI, y_gR_sL, y_gR_sR, y_gR_cpI, y_gR_cpL, y_gR_nw, y_kd_nw, y_ln_nw, y_sz_nw, y_sl_nw, y_fx_int, y_fx_long, y_fx_ref, y_fx_null, y_fx_U, y_rf_s, y_rf_n, a1, ↓reduceIte]
  exact l_Sets_open 100 0 _ rfl ho.I.I.I.I
end ZST
