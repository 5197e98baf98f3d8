/-! the first of the queue taken -/
section ZPO
variable {h : zMem} {o n f : Nat} {ats : Nat → Nat} {tr : List (Nat × Nat)} {r : List Nat} {x : Nat}
theorem rS_P (hq : (x :: r).Nodup) (hr : rS h o n f (ats, tr, x :: r)) : rS (sI (sI (sI h o 8 (nI ((f + 1) % 45))) o 9 (nI r.length)) (o + 5) x (nI 0)) o n ((f + 1) % 45) (ats, tr, r) := by
  obtain ⟨r1, r2, r3, r4, r5, r6, r7, r8, r9, r10, r11⟩ := hr
  dsimp only at r1 r2 r3 r4 r5 r6 r7 r8 r9 r10 r11
  have hl : (x :: r).length = r.length + 1 := rfl
  refine ⟨?_, fun y hy => ?_, ?_, r4, fun i z hz => ?_, ?_, Nat.mod_lt _ (by decide), ?_, ?_, fun i z hz => ?_, fun y hy => ?_⟩ <;> (try dsimp only at *) <;> (try simp only [y_kd_sI, y_kd_sL, y_kd_sR, y_kd_cpI, y_kd_cpL, y_ln_sI, y_ln_sL, y_ln_sR, y_ln_cpI, y_ln_cpL, y_sz_sI, y_sz_sL, y_sz_sR, y_sz_cpI, y_sz_cpL, y_sl_sI, y_sl_sL, y_sl_sR, y_sl_cpI, y_sl_cpL, y_gI_sI, y_gI_sL, y_gI_sR, y_gI_cpI, y_gI_cpL, y_gI_nw, y_gL_sI, y_gL_sL, y_gL_sR, y_gL_cpI, y_gL_cpL, y_gL_nw, y_gR_sI, y_gR_sL, y_gR_sR, y_gR_cpI, y_gR_cpL, y_gR_nw, y_kd_nw, y_ln_nw, y_sz_nw, y_sl_nw, y_fx_int, y_fx_long, y_fx_ref, y_fx_null, y_fx_U, y_rf_s, y_rf_n])
  · rw [if_neg (by omega), if_neg (by omega), if_neg (by omega)]; exact r1
  · rw [if_neg (by omega), if_neg (by omega), if_neg (by omega)]; exact r2 y hy
  · rw [if_neg (by omega), if_neg (by omega), if_neg (by omega)]; exact r3
  · have d1 : (o + 2 = o) = False := eq_false (by omega)
    have d2 : (o + 2 = o + 5) = False := eq_false (by omega)
    have d4 : (o + 3 = o) = False := eq_false (by omega)
    have d5 : (o + 3 = o + 5) = False := eq_false (by omega)
    simp only [d1, d2, d4, d5, false_and, ↓reduceIte]
    exact r5 i z hz
  · rw [if_neg (by omega), if_neg (by omega), if_pos ⟨trivial, trivial⟩]
  · rw [if_neg (by omega), if_pos ⟨trivial, trivial⟩]
  · omega
  · rw [if_neg (by omega), if_neg (by omega), if_neg (by omega)]
    have := r10 (i + 1) z (by rw [List.getElem?_cons_succ]; exact hz)
    rw [show ((f + 1) % 45 + i) % 45 = (f + (i + 1)) % 45 by omega]
    exact this
  · by_cases w : y = x
    · rw [if_pos ⟨trivial, w⟩, bZ_f]
      rw [w]
      exact (List.nodup_cons.1 hq).1
    · rw [if_neg (fun v => w v.2), if_neg (by omega), if_neg (by omega), r11 y hy]
      by_cases v : y ∈ r
      · rw [bZ_t v, bZ_t (List.mem_cons_of_mem x v)]
      · rw [bZ_f v, bZ_f]
        intro e
        rcases List.mem_cons.1 e with e | e
        · exact w e
        · exact v e
end ZPO
