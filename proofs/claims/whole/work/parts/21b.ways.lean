/-! the ways, in the machine -/
def f2 (hv : Nat → Nat) (s k : Nat) : Nat := hv (s <<< 4 &&& 240 ||| k &&& 15) ||| hv (256 ||| (s <<< 4 &&& 240) ||| (k >>> 4 &&& 15)) ||| hv (512 ||| (s &&& 240) ||| (k &&& 15)) ||| hv (768 ||| (s &&& 240) ||| (k >>> 4 &&& 15))
/-- a Ways object at r: the turned sets at u + 0, the halves at u -/
def oWays (hv : Nat → Nat) (h : zMem) (r u : Nat) : Prop := kd h r = 11 ∧ gR h r 1 = some u ∧ kd h u = 20 ∧ ln h u = 1024 ∧ ∀ i : Nat, i < 1024 → gI h u i = nI (hv i)
theorem or10 {a b : Nat} (ha : a < 1024) (hb : b < 1024) : a ||| b < 1024 := Nat.or_lt_two_pow (n := 10) ha hb
theorem and10 {a b : Nat} (hb : b < 1024) : a &&& b < 1024 := Nat.lt_of_le_of_lt Nat.and_le_right hb
section ZWY
variable {g : Nat → Nat} {h : zMem} {r u : Nat} {hv : Nat → Nat}
theorem q_Ways_ofTwo {s k : Nat} (hs : s < 256) (hk : k < 256) (hr : oWays hv h r u) : call g Ways_ofTwo [.ref r, .int (nI s), .int (nI k)] h = some (some (.int (nI (f2 hv s k))), h) := by
  obtain ⟨a1, a2, a3, a4, a5⟩ := hr
  have m1 : iShl (nI s) (nI 4) = nI (s <<< 4) := y_shl (by decide)
  have m2 : iShr (nI k) (nI 4) = nI (k >>> 4) := y_shr (by omega) (by decide)
  have n1 : (s <<< 4 &&& 240 ||| k &&& 15) < 1024 := or10 (and10 (by decide)) (and10 (by decide))
  have n2 : (256 ||| (s <<< 4 &&& 240) ||| (k >>> 4 &&& 15)) < 1024 := or10 (or10 (by decide) (and10 (by decide))) (and10 (by decide))
  have n3 : (512 ||| (s &&& 240) ||| (k &&& 15)) < 1024 := or10 (or10 (by decide) (and10 (by decide))) (and10 (by decide))
  have n4 : (768 ||| (s &&& 240) ||| (k >>> 4 &&& 15)) < 1024 := or10 (or10 (by decide) (and10 (by decide))) (and10 (by decide))
  have x1 := y_ix (Nat.lt_trans n1 (by decide))
  have x2 := y_ix (Nat.lt_trans n2 (by decide))
  have x3 := y_ix (Nat.lt_trans n3 (by decide))
  have x4 := y_ix (Nat.lt_trans n4 (by decide))
  have w1 := y_inb n1 (by decide)
  have w2 := y_inb n2 (by decide)
  have w3 := y_inb n3 (by decide)
  have w4 := y_inb n4 (by decide)
  have v1 := a5 _ n1
  have v2 := a5 _ n2
  have v3 := a5 _ n3
  have v4 := a5 _ n4
  rw [n_Ways_ofTwo]
  simp only [s_Ways_ofTwo_0, s_Ways_ofTwo_1, s_Ways_ofTwo_2, s_Ways_ofTwo_3, s_Ways_ofTwo_6, s_Ways_ofTwo_7, s_Ways_ofTwo_8, s_Ways_ofTwo_9, s_Ways_ofTwo_12, s_Ways_ofTwo_13, s_Ways_ofTwo_15, s_Ways_ofTwo_16, s_Ways_ofTwo_18, s_Ways_ofTwo_19, s_Ways_ofTwo_21, s_Ways_ofTwo_22, s_Ways_ofTwo_23, s_Ways_ofTwo_24, s_Ways_ofTwo_26, s_Ways_ofTwo_27, s_Ways_ofTwo_29, s_Ways_ofTwo_30, s_Ways_ofTwo_33, s_Ways_ofTwo_34, s_Ways_ofTwo_36, s_Ways_ofTwo_37, s_Ways_ofTwo_38, s_Ways_ofTwo_39, s_Ways_ofTwo_42, s_Ways_ofTwo_45, s_Ways_ofTwo_46, s_Ways_ofTwo_47, s_Ways_ofTwo_49, s_Ways_ofTwo_50, s_Ways_ofTwo_51, s_Ways_ofTwo_52, s_Ways_ofTwo_53, s_Ways_ofTwo_56, s_Ways_ofTwo_59, s_Ways_ofTwo_61, s_Ways_ofTwo_62, s_Ways_ofTwo_64, s_Ways_ofTwo_65, s_Ways_ofTwo_66, s_Ways_ofTwo_67, s_Ways_ofTwo_68, s_Ways_ofTwo_71, s_Ways_ofTwo_74, s_Ways_ofTwo_76, s_Ways_ofTwo_77, s_Ways_ofTwo_79, s_Ways_ofTwo_80, s_Ways_ofTwo_81, s_Ways_ofTwo_82, y_kd_sI, y_kd_sL, y_kd_sR, y_kd_cpI, y_kd_cpL, y_ln_sI, y_ln_sL, y_ln_sR, y_ln_cpI, y_ln_cpL, y_sz_sI, y_sz_sL, y_sz_sR, y_sz_cpI, y_sz_cpL, y_sl_sI, y_sl_sL, y_sl_sR, y_sl_cpI, y_sl_cpL, y_gI_sI, y_gI_sL, y_gI_sR, y_gI_cpI, y_gI_cpL, y_gI_nw, y_gL_sI, y_gL_sL, y_gL_sR, y_gL_cpI, y_gL_cpL, y_gL_nw, y_gR_sI, y_gR_sL, y_gR_sR, y_gR_cpI, y_gR_cpL, y_gR_nw, y_kd_nw, y_ln_nw, y_sz_nw, y_sl_nw, y_fx_int, y_fx_long, y_fx_ref, y_fx_null, y_fx_U, y_rf_s, y_rf_n, a1, a2, a3, a4, m1, m2, y_and, y_or, x1, x2, x3, x4, w1, w2, w3, w4, v1, v2, v3, v4, true_or, and_self, ↓reduceIte]
  rfl
end ZWY
