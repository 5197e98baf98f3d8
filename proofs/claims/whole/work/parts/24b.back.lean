/-! changes taken back, in numbers -/
def tOK (tr : List (Nat × Nat)) : Prop := ∀ x : Nat × Nat, x ∈ tr → x.1 < 100 ∧ x.2 < 256
def pBk (tn : Nat → Nat) (tr : List (Nat × Nat)) (s : Nat) : Nat → (Nat → Nat) → (Nat → Nat)
  | 0, f => f
  | m + 1, f => if m < s then f else pBk tn tr s m (pAt tn (tr.getD m (0, 0)).1 (tr.getD m (0, 0)).2 f)
section ZBK
variable {g : Nat → Nat} {o r t n f : Nat} {tn : Nat → Nat} {tr : List (Nat × Nat)} {q : List Nat}
theorem l_back {s : Nat} (hs : s ≤ 360) (htr : tOK tr) : ∀ (m : Nat) (h : zMem) (ats : Nat → Nat) (v3 : Value), m ≤ tr.length → oSets h o r t → rS h o n f (ats, tr, q) → (∀ v : Nat, v < 256 → gI h t v = nI (tn v) ∧ tn v < 256) →
    ∃ (h' : zMem) (i' : Int32) (v' : Value), ev g Sets_takeBack 7 [.ref o, .int (nI s), .int (nI m - nI 1), v3] [] h = ev g Sets_takeBack 68 [.ref o, .int (nI s), .int i', v'] [] h' ∧ rS h' o n f (pBk tn tr s m ats, tr, q) ∧ sameO o h h'
  | 0, h, ats, v3, hm, ho, hr, ht => by
    refine ⟨h, nI 0 - nI 1, v3, ?_, hr, sameO.rf⟩
    have e1 : (nI 0 - nI 1 < nI s) = True := eq_true (by
      rw [Int32.lt_iff_toInt_lt, nI_toInt (by omega), show (nI 0 - nI 1).toInt = -1 by decide]
      omega)
    rw [s_Sets_takeBack_7]
    simp only [s_Sets_takeBack_0, s_Sets_takeBack_1, s_Sets_takeBack_4, s_Sets_takeBack_5, s_Sets_takeBack_6, s_Sets_takeBack_8, s_Sets_takeBack_9, s_Sets_takeBack_12, s_Sets_takeBack_13, s_Sets_takeBack_16, s_Sets_takeBack_17, s_Sets_takeBack_18, s_Sets_takeBack_19, s_Sets_takeBack_20, s_Sets_takeBack_23, s_Sets_takeBack_24, s_Sets_takeBack_25, s_Sets_takeBack_28, s_Sets_takeBack_29, s_Sets_takeBack_30, s_Sets_takeBack_31, s_Sets_takeBack_32, s_Sets_takeBack_35, s_Sets_takeBack_36, s_Sets_takeBack_38, s_Sets_takeBack_39, s_Sets_takeBack_41, s_Sets_takeBack_42, s_Sets_takeBack_43, s_Sets_takeBack_45, s_Sets_takeBack_46, s_Sets_takeBack_47, s_Sets_takeBack_48, s_Sets_takeBack_51, s_Sets_takeBack_54, s_Sets_takeBack_55, s_Sets_takeBack_58, s_Sets_takeBack_59, s_Sets_takeBack_60, s_Sets_takeBack_61, s_Sets_takeBack_62, s_Sets_takeBack_65, s_Sets_takeBack_69, s_Sets_takeBack_70, s_Sets_takeBack_73, s_Sets_takeBack_74, s_Sets_takeBack_77, s_Sets_takeBack_80, e1, ↓reduceIte]
  | m + 1, h, ats, v3, hm, ho, hr, ht => by
    have hr4 := hr.2.2.2.1
    dsimp only at hr4
    have e0 : nI (m + 1) - nI 1 = nI m := y_sub (Nat.le_add_left 1 m)
    have e1 : (nI m < nI s) = (m < s) := propext (nI_ltI (by omega) (by omega))
    unfold pBk
    split
    · rename_i z
      refine ⟨h, nI m, v3, ?_, hr, sameO.rf⟩
      rw [s_Sets_takeBack_7, e0]
      simp only [s_Sets_takeBack_0, s_Sets_takeBack_1, s_Sets_takeBack_4, s_Sets_takeBack_5, s_Sets_takeBack_6, s_Sets_takeBack_8, s_Sets_takeBack_9, s_Sets_takeBack_12, s_Sets_takeBack_13, s_Sets_takeBack_16, s_Sets_takeBack_17, s_Sets_takeBack_18, s_Sets_takeBack_19, s_Sets_takeBack_20, s_Sets_takeBack_23, s_Sets_takeBack_24, s_Sets_takeBack_25, s_Sets_takeBack_28, s_Sets_takeBack_29, s_Sets_takeBack_30, s_Sets_takeBack_31, s_Sets_takeBack_32, s_Sets_takeBack_35, s_Sets_takeBack_36, s_Sets_takeBack_38, s_Sets_takeBack_39, s_Sets_takeBack_41, s_Sets_takeBack_42, s_Sets_takeBack_43, s_Sets_takeBack_45, s_Sets_takeBack_46, s_Sets_takeBack_47, s_Sets_takeBack_48, s_Sets_takeBack_51, s_Sets_takeBack_54, s_Sets_takeBack_55, s_Sets_takeBack_58, s_Sets_takeBack_59, s_Sets_takeBack_60, s_Sets_takeBack_61, s_Sets_takeBack_62, s_Sets_takeBack_65, s_Sets_takeBack_69, s_Sets_takeBack_70, s_Sets_takeBack_73, s_Sets_takeBack_74, s_Sets_takeBack_77, s_Sets_takeBack_80, e1, eq_true z, ↓reduceIte]
    · rename_i z
      have hx : tr[m]? = some (tr.getD m (0, 0)) := by
        rw [List.getD_eq_getElem?_getD, List.getElem?_eq_getElem (by omega)]
        rfl
      obtain ⟨x1, x2⟩ := hr.2.2.2.2.1 m _ hx
      obtain ⟨y1, y2⟩ := htr _ (List.mem_of_getElem? hx)
      generalize tr.getD m (0, 0) = w at hx x1 x2 y1 y2 ⊢
      obtain ⟨p, v⟩ := w
      dsimp only at x1 x2 y1 y2 ⊢
      obtain ⟨t1, t2⟩ := ht v y2
      have hb := rS_B (t := t) (tn := tn) y1 y2 t1 t2 hr
      have sb : sameO o h (kB o t p v h) := by
        unfold kB
        exact (sameO.I (by omega)).trn (sameO.I (by omega))
      obtain ⟨h', i', v', j1, j2, j3⟩ := l_back hs htr m (kB o t p v h) _ (.int (nI p)) (by omega) (sb.st ho) hb (sb.tn ho ht)
      refine ⟨h', i', v', ?_, j2, sb.trn j3⟩
      rw [← j1, s_Sets_takeBack_7, e0]
      obtain ⟨a1, a2, a3, a4, a5, a6, a7, b1, b2, b3, b4, b5, b6, b7, b8, b9, b10, c1, c2, c3, c4, c5⟩ := ho
      have k1 : inb (nI m) 360 = true := y_inb (by omega) (by decide)
      have k2 : ix (nI m) = m := y_ix (by omega)
      have k3 : inb (nI p) 100 = true := y_inb y1 (by decide)
      have k4 : ix (nI p) = p := y_ix (by omega)
      have k5 : iRem (nI p) (nI 10) = nI (p % 10) := y_rem (by omega) (by decide)
      have k6 : nI p / nI 10 = nI (p / 10) := y_div (by omega) (by decide)
      have k7 : inb (nI (p % 10 * 10 + p / 10)) 100 = true := y_inb (by omega) (by decide)
      have k8 : ix (nI (p % 10 * 10 + p / 10)) = p % 10 * 10 + p / 10 := y_ix (by omega)
      have k9 : inb (nI v) 256 = true := y_inb y2 (by decide)
      have k10 : ix (nI v) = v := y_ix (by omega)
      have k11 : (nI 10 = (0 : Int32)) = False := eq_false (by decide)
      have k12 : nI m + (-1) = nI m - nI 1 := by rw [Int32.sub_eq_add_neg]; rfl
      have d6 : (t = o + 1) = False := eq_false (by omega)
      have d7 : (o + 3 = o + 1) = False := eq_false (by omega)
      unfold kB
      simp only [s_Sets_takeBack_0, s_Sets_takeBack_1, s_Sets_takeBack_4, s_Sets_takeBack_5, s_Sets_takeBack_6, s_Sets_takeBack_8, s_Sets_takeBack_9, s_Sets_takeBack_12, s_Sets_takeBack_13, s_Sets_takeBack_16, s_Sets_takeBack_17, s_Sets_takeBack_18, s_Sets_takeBack_19, s_Sets_takeBack_20, s_Sets_takeBack_23, s_Sets_takeBack_24, s_Sets_takeBack_25, s_Sets_takeBack_28, s_Sets_takeBack_29, s_Sets_takeBack_30, s_Sets_takeBack_31, s_Sets_takeBack_32, s_Sets_takeBack_35, s_Sets_takeBack_36, s_Sets_takeBack_38, s_Sets_takeBack_39, s_Sets_takeBack_41, s_Sets_takeBack_42, s_Sets_takeBack_43, s_Sets_takeBack_45, s_Sets_takeBack_46, s_Sets_takeBack_47, s_Sets_takeBack_48, s_Sets_takeBack_51, s_Sets_takeBack_54, s_Sets_takeBack_55, s_Sets_takeBack_58, s_Sets_takeBack_59, s_Sets_takeBack_60, s_Sets_takeBack_61, s_Sets_takeBack_62, s_Sets_takeBack_65, s_Sets_takeBack_69, s_Sets_takeBack_70, s_Sets_takeBack_73, s_Sets_takeBack_74, s_Sets_takeBack_77, s_Sets_takeBack_80, y_kd_sI, y_kd_sL, y_kd_sR, y_kd_cpI, y_kd_cpL, y_ln_sI, y_ln_sL, y_ln_sR, y_ln_cpI, y_ln_cpL, y_sz_sI, y_sz_sL, y_sz_sR, y_sz_cpI, y_sz_cpL, y_sl_sI, y_sl_sL, y_sl_sR, y_sl_cpI, y_sl_cpL, y_gI_sI, y_gI_sL, y_gI_sR, y_gI_cpI, y_gI_cpL, y_gI_nw, y_gL_sI, y_gL_sL, y_gL_sR, y_gL_cpI, y_gL_cpL, y_gL_nw, y_gR_sI, y_gR_sL, y_gR_sR, y_gR_cpI, y_gR_cpL, y_gR_nw, y_kd_nw, y_ln_nw, y_sz_nw, y_sl_nw, y_fx_int, y_fx_long, y_fx_ref, y_fx_null, y_fx_U, y_rf_s, y_rf_n, e1, eq_false z, a1, a2, a3, a4, a5, b1, b2, b3, b4, b5, b6, c1, c2, c3, c4, x1, x2, k1, k2, k3, k4, k5, k6, k7, k8, k9, k10, k11, k12, d6, d7, y_mul, nI_add, false_and, true_or, and_self, ↓reduceIte]
theorem rS_T {h : zMem} {ats : Nat → Nat} {s : Nat} (hr : rS h o n f (ats, tr, q)) : rS (sI h o 2 (nI (min tr.length s))) o n f (ats, tr.take s, q) := by
  obtain ⟨r1, r2, r3, r4, r5, r6, r7, r8, r9, r10, r11⟩ := hr
  dsimp only at r1 r2 r3 r4 r5 r6 r7 r8 r9 r10 r11
  refine ⟨?_, fun y hy => ?_, ?_, ?_, fun i z hz => ?_, ?_, r7, ?_, r9, fun i z hz => ?_, fun y hy => ?_⟩ <;> (try dsimp only at *) <;> (try simp only [y_kd_sI, y_kd_sL, y_kd_sR, y_kd_cpI, y_kd_cpL, y_ln_sI, y_ln_sL, y_ln_sR, y_ln_cpI, y_ln_cpL, y_sz_sI, y_sz_sL, y_sz_sR, y_sz_cpI, y_sz_cpL, y_sl_sI, y_sl_sL, y_sl_sR, y_sl_cpI, y_sl_cpL, y_gI_sI, y_gI_sL, y_gI_sR, y_gI_cpI, y_gI_cpL, y_gI_nw, y_gL_sI, y_gL_sL, y_gL_sR, y_gL_cpI, y_gL_cpL, y_gL_nw, y_gR_sI, y_gR_sL, y_gR_sR, y_gR_cpI, y_gR_cpL, y_gR_nw, y_kd_nw, y_ln_nw, y_sz_nw, y_sl_nw, y_fx_int, y_fx_long, y_fx_ref, y_fx_null, y_fx_U, y_rf_s, y_rf_n])
  · rw [if_neg (by omega)]; exact r1
  · rw [if_neg (by omega)]; exact r2 y hy
  · rw [if_pos ⟨trivial, trivial⟩, List.length_take, Nat.min_comm]
  · rw [List.length_take]; omega
  · rw [if_neg (by omega), if_neg (by omega)]
    rw [List.getElem?_take] at hz
    split at hz
    · exact r5 i z hz
    · cases hz
  · rw [if_neg (by omega)]; exact r6
  · rw [if_neg (by omega)]; exact r8
  · rw [if_neg (by omega)]; exact r10 i z hz
  · rw [if_neg (by omega)]; exact r11 y hy
/-- takeBack, in numbers -/
theorem c_back {h : zMem} {ats : Nat → Nat} {s : Nat} (hs : s ≤ 360) (htr : tOK tr) (ho : oSets h o r t) (hr : rS h o n f (ats, tr, q)) (ht : ∀ v : Nat, v < 256 → gI h t v = nI (tn v) ∧ tn v < 256) :
    ∃ h' : zMem, call g Sets_takeBack [.ref o, .int (nI s)] h = some (none, h') ∧ rS h' o n f (pBk tn tr s tr.length ats, tr.take s, q) ∧ sameO o h h' := by
  obtain ⟨h1, i', v', j1, j2, j3⟩ := l_back (g := g) hs htr tr.length h ats zU (Nat.le_refl _) ho hr ht
  have a1 := ho.1
  have r3 := hr.2.2.1
  have r4 := hr.2.2.2.1
  dsimp only at r3 r4
  have b1 := (j3.st ho).1
  have s3 := j2.2.2.1
  dsimp only at s3
  refine ⟨_, ?_, rS_T j2, j3.trn (sameO.I (by omega))⟩
  rw [n_Sets_takeBack]
  have e : (if nI s < nI tr.length then nI s else nI tr.length) = nI (min tr.length s) := by
    by_cases z : s < tr.length
    · rw [if_pos (nI_lt z (by omega)), Nat.min_eq_right (by omega)]
    · rw [if_neg (nI_nlt (by omega) (by omega)), Nat.min_eq_left (by omega)]
  simp only [s_Sets_takeBack_0, s_Sets_takeBack_1, s_Sets_takeBack_4, s_Sets_takeBack_5, s_Sets_takeBack_6, y_kd_sI, y_kd_sL, y_kd_sR, y_kd_cpI, y_kd_cpL, y_ln_sI, y_ln_sL, y_ln_sR, y_ln_cpI, y_ln_cpL, y_sz_sI, y_sz_sL, y_sz_sR, y_sz_cpI, y_sz_cpL, y_sl_sI, y_sl_sL, y_sl_sR, y_sl_cpI, y_sl_cpL, y_gI_sI, y_gI_sL, y_gI_sR, y_gI_cpI, y_gI_cpL, y_gI_nw, y_gL_sI, y_gL_sL, y_gL_sR, y_gL_cpI, y_gL_cpL, y_gL_nw, y_gR_sI, y_gR_sL, y_gR_sR, y_gR_cpI, y_gR_cpL, y_gR_nw, y_kd_nw, y_ln_nw, y_sz_nw, y_sl_nw, y_fx_int, y_fx_long, y_fx_ref, y_fx_null, y_fx_U, y_rf_s, y_rf_n, a1, r3, ↓reduceIte]
  rw [j1]
  simp only [s_Sets_takeBack_68, s_Sets_takeBack_69, s_Sets_takeBack_70, s_Sets_takeBack_73, s_Sets_takeBack_74, s_Sets_takeBack_77, s_Sets_takeBack_80, q_Math_min, kon_v, y_kd_sI, y_kd_sL, y_kd_sR, y_kd_cpI, y_kd_cpL, y_ln_sI, y_ln_sL, y_ln_sR, y_ln_cpI, y_ln_cpL, y_sz_sI, y_sz_sL, y_sz_sR, y_sz_cpI, y_sz_cpL, y_sl_sI, y_sl_sL, y_sl_sR, y_sl_cpI, y_sl_cpL, y_gI_sI, y_gI_sL, y_gI_sR, y_gI_cpI, y_gI_cpL, y_gI_nw, y_gL_sI, y_gL_sL, y_gL_sR, y_gL_cpI, y_gL_cpL, y_gL_nw, y_gR_sI, y_gR_sL, y_gR_sR, y_gR_cpI, y_gR_cpL, y_gR_nw, y_kd_nw, y_ln_nw, y_sz_nw, y_sl_nw, y_fx_int, y_fx_long, y_fx_ref, y_fx_null, y_fx_U, y_rf_s, y_rf_n, b1, s3, e, ↓reduceIte]
end ZBK
