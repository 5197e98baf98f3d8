/-! lessen, in numbers -/
section ZLS
variable {g : Nat → Nat} {h : zMem} {o r t n f : Nat} {tn : Nat → Nat}
theorem c_lessen {σ : zS} {a b s : Nat} (ho : oSets h o r t) (hr : rS h o n f σ) (ha : a < 10) (hb : b < 10) (ht : ∀ v : Nat, v < 256 → gI h t v = nI (tn v) ∧ tn v < 256) :
    ∃ h' : zMem, call g Sets_lessen [.ref o, .int (nI a), .int (nI b), .int (nI s)] h = some (none, h') ∧ rS h' o n f (pAt tn (a * 10 + b) (σ.1 (a * 10 + b) &&& s) σ.1, σ.2.1, σ.2.2) ∧ sameO o h h' := by
  obtain ⟨ats, tr, q⟩ := σ
  obtain ⟨v1, v2⟩ := hr.2.1 (a * 10 + b) (by omega)
  dsimp only at v1 v2 ⊢
  have hv : ats (a * 10 + b) &&& s < 256 := Nat.lt_of_le_of_lt Nat.and_le_left v2
  generalize e0 : ats (a * 10 + b) &&& s = v at hv ⊢
  obtain ⟨t1, t2⟩ := ht v hv
  refine ⟨kB o t (a * 10 + b) v h, ?_, rS_B (by omega) hv t1 t2 hr, ?_⟩
  · obtain ⟨a1, a2, a3, a4, a5, a6, a7, b1, b2, b3, b4, b5, b6, b7, b8, b9, b10, c1, c2, c3, c4, c5⟩ := ho
    have e1 : inb (nI (a * 10 + b)) 100 = true := y_inb (by omega) (by decide)
    have e2 : ix (nI (a * 10 + b)) = a * 10 + b := y_ix (by omega)
    have e3 : inb (nI (b * 10 + a)) 100 = true := y_inb (by omega) (by decide)
    have e4 : ix (nI (b * 10 + a)) = b * 10 + a := y_ix (by omega)
    have e5 : inb (nI v) 256 = true := y_inb hv (by decide)
    have e6 : ix (nI v) = v := y_ix (by omega)
    have e7 : (a * 10 + b) % 10 * 10 + (a * 10 + b) / 10 = b * 10 + a := by omega
    have d6 : (t = o + 1) = False := eq_false (by omega)
    unfold kB
    rw [n_Sets_lessen, e7]
    simp only [s_Sets_lessen_0, s_Sets_lessen_1, s_Sets_lessen_4, s_Sets_lessen_5, s_Sets_lessen_7, s_Sets_lessen_8, s_Sets_lessen_9, s_Sets_lessen_10, s_Sets_lessen_11, s_Sets_lessen_12, s_Sets_lessen_13, s_Sets_lessen_15, s_Sets_lessen_16, s_Sets_lessen_19, s_Sets_lessen_20, s_Sets_lessen_22, s_Sets_lessen_23, s_Sets_lessen_24, s_Sets_lessen_25, s_Sets_lessen_27, s_Sets_lessen_28, s_Sets_lessen_29, s_Sets_lessen_32, s_Sets_lessen_33, s_Sets_lessen_35, s_Sets_lessen_36, s_Sets_lessen_37, s_Sets_lessen_38, s_Sets_lessen_39, s_Sets_lessen_42, s_Sets_lessen_45, s_Sets_lessen_47, s_Sets_lessen_48, s_Sets_lessen_49, y_kd_sI, y_kd_sL, y_kd_sR, y_kd_cpI, y_kd_cpL, y_ln_sI, y_ln_sL, y_ln_sR, y_ln_cpI, y_ln_cpL, y_sz_sI, y_sz_sL, y_sz_sR, y_sz_cpI, y_sz_cpL, y_sl_sI, y_sl_sL, y_sl_sR, y_sl_cpI, y_sl_cpL, y_gI_sI, y_gI_sL, y_gI_sR, y_gI_cpI, y_gI_cpL, y_gI_nw, y_gL_sI, y_gL_sL, y_gL_sR, y_gL_cpI, y_gL_cpL, y_gL_nw, y_gR_sI, y_gR_sL, y_gR_sR, y_gR_cpI, y_gR_cpL, y_gR_nw, y_kd_nw, y_ln_nw, y_sz_nw, y_sl_nw, y_fx_int, y_fx_long, y_fx_ref, y_fx_null, y_fx_U, y_rf_s, y_rf_n, a1, a2, a3, b1, b2, c1, c2, c3, c4, e1, e2, e3, e4, e5, e6, v1, e0, d6, y_mul, nI_add, y_and, false_and, true_or, and_self, ↓reduceIte]
  · unfold kB
    exact (sameO.I (by omega)).trn (sameO.I (by omega))
end ZLS
