/-! drop, weigh, mean, seed, wipe -/
theorem lW_V {V V' : Nat → Nat → Int32} {o : Nat} (h : V 25 = V' 25) : ∀ (k w s : Nat), lW V o k w s = lW V' o k w s
  | 0, _, _ => rfl
  | k + 1, w, s => by
    unfold lW
    rw [h, lW_V h k (w + 1) _, lW_V h k (w + 1) _]
theorem fam_w {V : Nat → Nat → Int32} {nf nd d : Nat} {y of v : Int32} : aSrch (uV V 19 d v) nf nd y of = aSrch V nf nd y of := by
  have e : ∀ x : Nat, ¬ x = 19 → uV V 19 d v x = V x := fun x hx => uV_c hx
  have l : ∀ d' : Nat, lts (uV V 19 d v) d' = lts V d' := fun d' => by
    unfold lts
    rw [e 20 (by decide), e 21 (by decide), e 22 (by decide), e 23 (by decide), lW_V (e 25 (by decide))]
  have s : ∀ d' : Nat, selV (uV V 19 d v) y d' = selV V y d' := fun d' => by
    unfold selV
    rw [e 24 (by decide), e 18 (by decide)]
  have f : ∀ n : Nat, fD (uV V 19 d v) (fun d => selV V y d ∧ bitI of d) n = fD V (fun d => selV V y d ∧ bitI of d) n := by
    intro n
    induction n with
    | zero => rfl
    | succ n ih =>
      unfold fD
      rw [ih, l, e 16 (by decide), e 17 (by decide)]
  have p : ∀ (F : Nat → Nat) (n : Nat), fP (uV V 19 d v) y F n = fP V y F n := by
    intro F n
    induction n with
    | zero => rfl
    | succ n ih =>
      unfold fP
      rw [ih, e 10 (by decide), e 12 (by decide), e 13 (by decide)]
  unfold aSrch fam
  simp only [s, f, p]
section ZDR
variable {g : Nat → Nat} {B SL : Nat} {h h' : zMem} {H : zH} {T : zT} {Λ K : zL} {κ : Bool} {ρ ρ' : Nat → Int32}
theorem JP.kc (j : JP g B SL h H T Λ K κ ρ ρ') : kL Λ := j.1.2.2.1
theorem JP.cL0 (j : JP g B SL h H T Λ K κ ρ ρ') : cL h (B + 23) Λ := j.2.2.1.2.2.2.2.2.1
theorem JP.mL0 (j : JP g B SL h H T Λ K κ ρ ρ') : mL h (B + 145) Λ := j.2.2.2.2.2.2.2.2.2.2.1
theorem JP.qE0 (j : JP g B SL h H T Λ K κ ρ ρ') : qE h (B + 23 + 43 + 1) := j.2.2.1.2.2.2.2.2.2.1
theorem kX_V (hk : kX H T Λ K κ) {V' : Nat → Nat → Int32} (h1 : kF (zF Λ) V') (h2 : kDd (zF Λ) (zD Λ) V') (h3 : kMn V') (h4 : kPl (zC Λ) V') (h5 : kBd V') : kX H T (setV Λ V') K κ := ⟨hk.1, hk.2.1, ⟨h1, h2, h3, h4, h5, hk.2.2.1.2.2.2.2.2⟩, hk.2.2.2⟩
theorem kF_u {n c i : Nat} {v : Int32} {V : Nat → Nat → Int32} (h1 : ¬ c = 10) (h2 : ¬ c = 13) (hk : kF n V) : kF n (uV V c i v) := by
  unfold kF
  rw [uV_c (fun e => h1 e.symm), uV_c (fun e => h2 e.symm)]
  exact hk
theorem kMn_u {c i : Nat} {v : Int32} {V : Nat → Nat → Int32} (h1 : ¬ c = 25) (hk : kMn V) : kMn (uV V c i v) := by
  unfold kMn
  rw [uV_c (fun e => h1 e.symm)]
  exact hk
theorem kPl_u {n c i : Nat} {v : Int32} {V : Nat → Nat → Int32} (h1 : ¬ c = 29) (h2 : ¬ c = 30) (hk : kPl n V) : kPl n (uV V c i v) := by
  unfold kPl
  rw [uV_c (fun e => h1 e.symm), uV_c (fun e => h2 e.symm)]
  exact hk
theorem kBd_u {c i : Nat} {v : Int32} {V : Nat → Nat → Int32} (h1 : ¬ c = 26) (hk : kBd V) : kBd (uV V c i v) := by
  unfold kBd
  rw [uV_c (fun e => h1 e.symm)]
  exact hk
theorem kDd_19 {nf n d : Nat} {v : Int32} {V : Nat → Nat → Int32} (hv : ∃ w : Nat, v = nI w ∧ 1 ≤ w ∧ w < 100) (hk : kDd nf n V) : kDd nf n (uV V 19 d v) := by
  refine ⟨hk.1, fun e he => ?_⟩
  obtain ⟨k1, k2, k3, k4, k5, k6, k7⟩ := hk.2 e he
  have q : ∀ x : Nat, ¬ x = 19 → uV V 19 d v x e = V x e := fun x hx => uV_n hx
  rw [q 16 (by decide), q 17 (by decide), q 20 (by decide), q 21 (by decide), q 22 (by decide), q 23 (by decide), q 24 (by decide)]
  refine ⟨k1, ?_, k3, k4, k5, k6, k7⟩
  by_cases c : e = d
  · rw [c, uV_s]; exact hv
  · rw [uV_o c]; exact k2
theorem kDd_24 {nf n d : Nat} {v : Int32} {V : Nat → Nat → Int32} (hv : nLt v 2) (hk : kDd nf n V) : kDd nf n (uV V 24 d v) := by
  refine ⟨hk.1, fun e he => ?_⟩
  obtain ⟨k1, k2, k3, k4, k5, k6, k7⟩ := hk.2 e he
  have q : ∀ x : Nat, ¬ x = 24 → uV V 24 d v x e = V x e := fun x hx => uV_n hx
  rw [q 16 (by decide), q 17 (by decide), q 19 (by decide), q 20 (by decide), q 21 (by decide), q 22 (by decide), q 23 (by decide)]
  refine ⟨k1, k2, k3, k4, k5, k6, ?_⟩
  by_cases c : e = d
  · rw [c, uV_s]; exact hv
  · rw [uV_o c]; exact k7
/-- a land's other parts, one value of a deed changed -/
theorem cL_dd {l c d s : Nat} {v : Int32} (hk : kL Λ) (hd : d < zD Λ) (h10 : ¬ c = 10) (h11 : ¬ c = 11) (h12 : ¬ c = 12) (h13 : ¬ c = 13) (h25 : ¬ c = 25) (h26 : ¬ c = 26) (h27 : ¬ c = 27) (h29 : ¬ c = 29) (h30 : ¬ c = 30) (hc : cL h l Λ) (hdd : cDd (sI h (l + 13 + d) s v) l (zD Λ) (uV (zV Λ) c d v)) : cL (sI h (l + 13 + d) s v) l (setV Λ (uV (zV Λ) c d v)) := by
  obtain ⟨c1, c2, c3, c4, c5, c6, c7, c8⟩ := hc
  have n24 := hk.2.1.1
  have n10 := hk.1.1
  refine ⟨⟨by rw [a_Ia (by omega)]; exact c1.1, fun f hf => ?_⟩, hdd, fun w hw => ?_, ⟨by rw [a_Ia (by omega)]; exact c4.1, fun w hw => ?_⟩, ⟨?_, fun w hw => ?_⟩, by rw [a_Ia (by omega)]; exact c6, fun y => by rw [a_Ia (by omega)]; exact c7 y, fun y => rCS_fr ⟨fun b k _ _ => a_Ia (by omega), fun _ _ _ _ => rfl⟩ (c8 y)⟩
  · show gI (sI h (l + 13 + d) s v) (l + 2 + f) 0 = uV (zV Λ) c d v 10 f ∧ gI (sI h (l + 13 + d) s v) (l + 2 + f) 1 = uV (zV Λ) c d v 11 f ∧ gI (sI h (l + 13 + d) s v) (l + 2 + f) 2 = uV (zV Λ) c d v 12 f ∧ gI (sI h (l + 13 + d) s v) (l + 2 + f) 3 = uV (zV Λ) c d v 13 f ∧ gL (sI h (l + 13 + d) s v) (l + 2 + f) 4 = zW Λ f
    have hf' : f < zF Λ := hf
    rw [a_Ia (by omega), a_Ia (by omega), a_Ia (by omega), a_Ia (by omega), uV_n (fun e => h10 e.symm), uV_n (fun e => h11 e.symm), uV_n (fun e => h12 e.symm), uV_n (fun e => h13 e.symm)]
    exact c1.2 f hf
  · show gI _ (l + 37) w = uV (zV Λ) c d v 25 w
    rw [a_Ia (by omega), uV_n (fun e => h25 e.symm)]; exact c3 w hw
  · show gI _ (l + 39) w = uV (zV Λ) c d v 29 w ∧ gI _ (l + 40) w = uV (zV Λ) c d v 30 w
    rw [a_Ia (by omega), a_Ia (by omega), uV_n (fun e => h29 e.symm), uV_n (fun e => h30 e.symm)]; exact c4.2 w hw
  · show gI _ (l + 41) 0 = uV (zV Λ) c d v 27 0
    rw [a_Ia (by omega), uV_n (fun e => h27 e.symm)]; exact c5.1
  · show gI _ (l + 42) w = uV (zV Λ) c d v 26 w
    rw [a_Ia (by omega), uV_n (fun e => h26 e.symm)]; exact c5.2 w hw
theorem mL_dd {m c d a : Nat} {v : Int32} (hk : kL Λ) (h10 : ¬ c = 10) (h11 : ¬ c = 11) (h12 : ¬ c = 12) (h13 : ¬ c = 13) (h25 : ¬ c = 25) (h26 : ¬ c = 26) (h27 : ¬ c = 27) (h29 : ¬ c = 29) (h30 : ¬ c = 30) (ha : m + 22 ≤ a ∧ a ≤ m + 30) (hc : mL h m Λ) (e : ∀ b k : Nat, ¬ b = a → (b = m → ¬ k = 53) → gI h' b k = gI h b k) (eL : ∀ b k : Nat, gL h' b k = gL h b k) (hdd : mDd h' m (zD Λ) (uV (zV Λ) c d v)) : mL h' m (setV Λ (uV (zV Λ) c d v)) := by
  obtain ⟨c1, c2, c3, c4, c5, c6, c7⟩ := hc
  have x : ∀ b k : Nat, ¬ b = a → ¬ b = m → gI h' b k = gI h b k := fun b k h1 h2 => e b k h1 (fun z => absurd z h2)
  have y : ∀ k : Nat, ¬ k = 53 → gI h' m k = gI h m k := fun k h1 => e m k (by omega) (fun _ => h1)
  refine ⟨⟨(y 9 (by decide)).trans c1.1, fun f hf => ?_⟩, hdd, fun w hw => ?_, ⟨(y 28 (by decide)).trans c4.1, fun w hw => ?_⟩, ⟨?_, fun w hw => ?_⟩, fun z => (y 31 (by decide)).trans (c6 z), fun z => ⟨(y 31 (by decide)).trans (c7 z).1, (y 32 (by decide)).trans (c7 z).2.1, rMS_fr (hk.2.2.2.2.2 z).1 (hk.aL45 z) ⟨fun b k _ _ => x _ _ (by omega) (by omega), fun b k _ _ => eL _ _⟩ (c7 z).2.2⟩⟩
  · show gI h' (m + 17) f = uV (zV Λ) c d v 10 f ∧ gI h' (m + 18) f = uV (zV Λ) c d v 11 f ∧ gI h' (m + 19) f = uV (zV Λ) c d v 12 f ∧ gI h' (m + 20) f = uV (zV Λ) c d v 13 f ∧ gL h' (m + 21) f = zW Λ f
    rw [x _ _ (by omega) (by omega), x _ _ (by omega) (by omega), x _ _ (by omega) (by omega), x _ _ (by omega) (by omega), eL, uV_n (fun e => h10 e.symm), uV_n (fun e => h11 e.symm), uV_n (fun e => h12 e.symm), uV_n (fun e => h13 e.symm)]
    exact c1.2 f hf
  · show gI h' (m + 31) w = uV (zV Λ) c d v 25 w
    rw [x _ _ (by omega) (by omega), uV_n (fun e => h25 e.symm)]; exact c3 w hw
  · show gI h' (m + 33) w = uV (zV Λ) c d v 29 w ∧ gI h' (m + 34) w = uV (zV Λ) c d v 30 w
    rw [x _ _ (by omega) (by omega), x _ _ (by omega) (by omega), uV_n (fun e => h29 e.symm), uV_n (fun e => h30 e.symm)]; exact c4.2 w hw
  · show gI h' m 27 = uV (zV Λ) c d v 27 0
    rw [y 27 (by decide), uV_n (fun e => h27 e.symm)]; exact c5.1
  · show gI h' (m + 32) w = uV (zV Λ) c d v 26 w
    rw [x _ _ (by omega) (by omega), uV_n (fun e => h26 e.symm)]; exact c5.2 w hw
theorem j_weigh {f w : Int32} (J : JX g B SL h) : JJ g B SL DC_weigh Mo_weigh [.int f, .int w] h := by
  obtain ⟨H, T, Λ, K, κ, ρ, j⟩ := J.p
  have n24 := j.1.2.2.1.2.1.1
  have e99 : (99 : Int64) = lN 99 := by decide
  rcases i_fld f (zD Λ) (by omega) with ⟨d, hd, rfl⟩ | z
  · have dt : (d < zD Λ) = True := eq_true hd
    have bad : (w < nI 1) = True ∨ ((w < nI 1) = False ∧ (nI 99 < w) = True ∧ (w < nI 100) = False) ∨ ∃ k : Nat, w = nI k ∧ 1 ≤ k ∧ k < 100 := by
      by_cases c1 : w < nI 1
      · exact Or.inl (eq_true c1)
      · by_cases c2 : w < nI 100
        · have c3 : ¬ w < 0 := by
            rw [i_lt] at c1 ⊢
            rw [nI_toInt (by decide)] at c1
            have h2 : (0 : Int32).toInt = 0 := rfl
            rw [h2]
            omega
          obtain ⟨k, rfl, hk⟩ := i_nat c3 c2 (by decide)
          refine Or.inr (Or.inr ⟨k, rfl, ?_, hk⟩)
          by_cases k0 : k = 0
          · rw [k0] at c1
            exact absurd (show nI 0 < nI 1 by decide) c1
          · omega
        · refine Or.inr (Or.inl ⟨eq_false c1, eq_true ?_, eq_false c2⟩)
          rw [i_lt, nI_toInt (by decide)] at c2 ⊢
          omega
    rcases bad with z | ⟨z1, z2, z3⟩ | ⟨k, rfl, hk1, hk2⟩
    · exact ⟨sI h (B + 131) 0 (gI h (B + 131) 0 + nI 1), _, -2, by (rw [n_DC_weigh]; simp (disch := omega) only [s_DC_weigh_0, s_DC_weigh_1, s_DC_weigh_4, s_DC_weigh_5, s_DC_weigh_8, s_DC_weigh_11, s_DC_weigh_12, s_DC_weigh_13, s_DC_weigh_16, s_DC_weigh_17, s_DC_weigh_19, s_DC_weigh_22, s_DC_weigh_23, s_DC_weigh_25, s_DC_weigh_28, s_DC_weigh_29, s_DC_weigh_30, s_DC_weigh_33, s_DC_weigh_36, s_DC_weigh_37, s_DC_weigh_38, s_DC_weigh_39, s_DC_weigh_40, s_DC_weigh_43, s_DC_weigh_45, s_DC_weigh_46, s_DC_weigh_47, s_DC_weigh_50, s_DC_weigh_52, j.cd, dt, z, la_k j.la, y_kd_sI, y_kd_sL, y_kd_sR, y_kd_cpI, y_kd_cpL, y_ln_sI, y_ln_sL, y_ln_sR, y_ln_cpI, y_ln_cpL, y_sz_sI, y_sz_sL, y_sz_sR, y_sz_cpI, y_sz_cpL, y_sl_sI, y_sl_sL, y_sl_sR, y_sl_cpI, y_sl_cpL, y_gI_sL, y_gI_sR, y_gI_cpI, y_gI_cpL, y_gI_nw, y_gL_sI, y_gL_sR, y_gL_cpI, y_gL_cpL, y_gL_nw, y_gR_sI, y_gR_sL, y_gR_cpI, y_gR_cpL, y_gR_nw, y_kd_nw, y_ln_nw, y_sz_nw, y_sl_nw, y_fx_int, y_fx_long, y_fx_ref, y_fx_null, y_fx_U, y_rf_s, y_rf_n, a_inb, a_ix, a_lt, a_eq, a_eq0, a_lt0, a_0lt, a_m1, a_m2, a_mlt, a_sub, a_dec, a_div, a_rem, a_shl, a_shr, a_bit, a_bit0, a_II, a_Ia, a_Ik, a_LL, a_La, a_Lk, a_RR, a_Ra, a_Rk, a_if0, a_if1, y_mul, y_and, y_or, nI_add, y_b1, y_b0, kon_v, kon_0, true_or, or_true, and_self, true_and, and_true, false_or, or_false, and_false, false_and, not_true_eq_false, not_false_eq_true, ite_self, ↓reduceIte, Nat.reduceEqDiff, Nat.reduceLeDiff, Nat.reduceAdd, Nat.reduceMul, Nat.reduceSub, Nat.reduceLT, Nat.reduceShiftLeft, Nat.reduceOr, Nat.reduceAnd, Bool.false_eq_true, b_if, b_z1, b_z0, b_zz, b_a1, b_a0, dc_k j.dc, dc_r2 j.dc, q_DC_refuse0 j.dc]), by (rw [n_Mo_weigh]; simp (disch := omega) only [s_Mo_weigh_0, s_Mo_weigh_1, s_Mo_weigh_2, s_Mo_weigh_5, s_Mo_weigh_8, s_Mo_weigh_9, s_Mo_weigh_10, s_Mo_weigh_11, s_Mo_weigh_14, s_Mo_weigh_17, s_Mo_weigh_20, s_Mo_weigh_21, s_Mo_weigh_23, s_Mo_weigh_26, s_Mo_weigh_27, s_Mo_weigh_28, s_Mo_weigh_31, s_Mo_weigh_32, s_Mo_weigh_33, s_Mo_weigh_34, s_Mo_weigh_35, s_Mo_weigh_38, s_Mo_weigh_39, s_Mo_weigh_40, s_Mo_weigh_41, s_Mo_weigh_42, (j.rc (i := 0) (by decide)).md, e99, q_in1, dt, z, y_kd_sI, y_kd_sL, y_kd_sR, y_kd_cpI, y_kd_cpL, y_ln_sI, y_ln_sL, y_ln_sR, y_ln_cpI, y_ln_cpL, y_sz_sI, y_sz_sL, y_sz_sR, y_sz_cpI, y_sz_cpL, y_sl_sI, y_sl_sL, y_sl_sR, y_sl_cpI, y_sl_cpL, y_gI_sL, y_gI_sR, y_gI_cpI, y_gI_cpL, y_gI_nw, y_gL_sI, y_gL_sR, y_gL_cpI, y_gL_cpL, y_gL_nw, y_gR_sI, y_gR_sL, y_gR_cpI, y_gR_cpL, y_gR_nw, y_kd_nw, y_ln_nw, y_sz_nw, y_sl_nw, y_fx_int, y_fx_long, y_fx_ref, y_fx_null, y_fx_U, y_rf_s, y_rf_n, a_inb, a_ix, a_lt, a_eq, a_eq0, a_lt0, a_0lt, a_m1, a_m2, a_mlt, a_sub, a_dec, a_div, a_rem, a_shl, a_shr, a_bit, a_bit0, a_II, a_Ia, a_Ik, a_LL, a_La, a_Lk, a_RR, a_Ra, a_Rk, a_if0, a_if1, y_mul, y_and, y_or, nI_add, y_b1, y_b0, kon_v, kon_0, true_or, or_true, and_self, true_and, and_true, false_or, or_false, and_false, false_and, not_true_eq_false, not_false_eq_true, ite_self, ↓reduceIte, Nat.reduceEqDiff, Nat.reduceLeDiff, Nat.reduceAdd, Nat.reduceMul, Nat.reduceSub, Nat.reduceLT, Nat.reduceShiftLeft, Nat.reduceOr, Nat.reduceAnd, Bool.false_eq_true, b_if, b_z1, b_z0, b_zz, b_a1, b_a0, mo_k (j.rc (i := 0) (by decide)).mo, q_Mo_refuse0 (j.rc (i := 0) (by decide)).mo]; try rfl), ((j.rc (i := 0) (by decide)).rm (i := 0) (by decide)).x⟩
    · exact ⟨sI h (B + 131) 0 (gI h (B + 131) 0 + nI 1), _, -2, by (rw [n_DC_weigh]; simp (disch := omega) only [s_DC_weigh_0, s_DC_weigh_1, s_DC_weigh_4, s_DC_weigh_5, s_DC_weigh_8, s_DC_weigh_11, s_DC_weigh_12, s_DC_weigh_13, s_DC_weigh_16, s_DC_weigh_17, s_DC_weigh_19, s_DC_weigh_22, s_DC_weigh_23, s_DC_weigh_25, s_DC_weigh_28, s_DC_weigh_29, s_DC_weigh_30, s_DC_weigh_33, s_DC_weigh_36, s_DC_weigh_37, s_DC_weigh_38, s_DC_weigh_39, s_DC_weigh_40, s_DC_weigh_43, s_DC_weigh_45, s_DC_weigh_46, s_DC_weigh_47, s_DC_weigh_50, s_DC_weigh_52, j.cd, dt, z1, z2, la_k j.la, y_kd_sI, y_kd_sL, y_kd_sR, y_kd_cpI, y_kd_cpL, y_ln_sI, y_ln_sL, y_ln_sR, y_ln_cpI, y_ln_cpL, y_sz_sI, y_sz_sL, y_sz_sR, y_sz_cpI, y_sz_cpL, y_sl_sI, y_sl_sL, y_sl_sR, y_sl_cpI, y_sl_cpL, y_gI_sL, y_gI_sR, y_gI_cpI, y_gI_cpL, y_gI_nw, y_gL_sI, y_gL_sR, y_gL_cpI, y_gL_cpL, y_gL_nw, y_gR_sI, y_gR_sL, y_gR_cpI, y_gR_cpL, y_gR_nw, y_kd_nw, y_ln_nw, y_sz_nw, y_sl_nw, y_fx_int, y_fx_long, y_fx_ref, y_fx_null, y_fx_U, y_rf_s, y_rf_n, a_inb, a_ix, a_lt, a_eq, a_eq0, a_lt0, a_0lt, a_m1, a_m2, a_mlt, a_sub, a_dec, a_div, a_rem, a_shl, a_shr, a_bit, a_bit0, a_II, a_Ia, a_Ik, a_LL, a_La, a_Lk, a_RR, a_Ra, a_Rk, a_if0, a_if1, y_mul, y_and, y_or, nI_add, y_b1, y_b0, kon_v, kon_0, true_or, or_true, and_self, true_and, and_true, false_or, or_false, and_false, false_and, not_true_eq_false, not_false_eq_true, ite_self, ↓reduceIte, Nat.reduceEqDiff, Nat.reduceLeDiff, Nat.reduceAdd, Nat.reduceMul, Nat.reduceSub, Nat.reduceLT, Nat.reduceShiftLeft, Nat.reduceOr, Nat.reduceAnd, Bool.false_eq_true, b_if, b_z1, b_z0, b_zz, b_a1, b_a0, dc_k j.dc, dc_r2 j.dc, q_DC_refuse0 j.dc]), by (rw [n_Mo_weigh]; simp (disch := omega) only [s_Mo_weigh_0, s_Mo_weigh_1, s_Mo_weigh_2, s_Mo_weigh_5, s_Mo_weigh_8, s_Mo_weigh_9, s_Mo_weigh_10, s_Mo_weigh_11, s_Mo_weigh_14, s_Mo_weigh_17, s_Mo_weigh_20, s_Mo_weigh_21, s_Mo_weigh_23, s_Mo_weigh_26, s_Mo_weigh_27, s_Mo_weigh_28, s_Mo_weigh_31, s_Mo_weigh_32, s_Mo_weigh_33, s_Mo_weigh_34, s_Mo_weigh_35, s_Mo_weigh_38, s_Mo_weigh_39, s_Mo_weigh_40, s_Mo_weigh_41, s_Mo_weigh_42, (j.rc (i := 0) (by decide)).md, e99, q_in1, dt, z1, z3, y_kd_sI, y_kd_sL, y_kd_sR, y_kd_cpI, y_kd_cpL, y_ln_sI, y_ln_sL, y_ln_sR, y_ln_cpI, y_ln_cpL, y_sz_sI, y_sz_sL, y_sz_sR, y_sz_cpI, y_sz_cpL, y_sl_sI, y_sl_sL, y_sl_sR, y_sl_cpI, y_sl_cpL, y_gI_sL, y_gI_sR, y_gI_cpI, y_gI_cpL, y_gI_nw, y_gL_sI, y_gL_sR, y_gL_cpI, y_gL_cpL, y_gL_nw, y_gR_sI, y_gR_sL, y_gR_cpI, y_gR_cpL, y_gR_nw, y_kd_nw, y_ln_nw, y_sz_nw, y_sl_nw, y_fx_int, y_fx_long, y_fx_ref, y_fx_null, y_fx_U, y_rf_s, y_rf_n, a_inb, a_ix, a_lt, a_eq, a_eq0, a_lt0, a_0lt, a_m1, a_m2, a_mlt, a_sub, a_dec, a_div, a_rem, a_shl, a_shr, a_bit, a_bit0, a_II, a_Ia, a_Ik, a_LL, a_La, a_Lk, a_RR, a_Ra, a_Rk, a_if0, a_if1, y_mul, y_and, y_or, nI_add, y_b1, y_b0, kon_v, kon_0, true_or, or_true, and_self, true_and, and_true, false_or, or_false, and_false, false_and, not_true_eq_false, not_false_eq_true, ite_self, ↓reduceIte, Nat.reduceEqDiff, Nat.reduceLeDiff, Nat.reduceAdd, Nat.reduceMul, Nat.reduceSub, Nat.reduceLT, Nat.reduceShiftLeft, Nat.reduceOr, Nat.reduceAnd, Bool.false_eq_true, b_if, b_z1, b_z0, b_zz, b_a1, b_a0, mo_k (j.rc (i := 0) (by decide)).mo, q_Mo_refuse0 (j.rc (i := 0) (by decide)).mo]; try rfl), ((j.rc (i := 0) (by decide)).rm (i := 0) (by decide)).x⟩
    · have t1 : (k < 1) = False := eq_false (by omega)
      have t2 : (99 < k) = False := eq_false (by omega)
      have t3 : (k < 100) = True := eq_true hk2
      have c4 := (j.cL0.2.1.2 d hd).2.2.2.1
      have hk := j.1
      have s : sam (B + 23) (B + 23 + 53) h (sI h (B + 23 + 13 + d) 3 (nI k)) := sam.I (by omega)
      obtain ⟨b1, b2, b3⟩ := j.cl s (cL_dd hk.2.2.1 hd (by decide) (by decide) (by decide) (by decide) (by decide) (by decide) (by decide) (by decide) (by decide) j.cL0 (cDd_u19 j.cL0.2.1)) (qE_fr ⟨fun b k' _ _ => a_Ia (by omega), fun _ _ _ _ => rfl⟩ j.qE0)
      have hk' : kX H T (setV Λ (uV (zV Λ) 19 d (nI k))) K κ := kX_V hk (kF_u (by decide) (by decide) hk.2.2.1.1) (kDd_19 ⟨k, rfl, hk1, hk2⟩ hk.2.2.1.2.1) (kMn_u (by decide) hk.2.2.1.2.2.1) (kPl_u (by decide) (by decide) hk.2.2.1.2.2.2.1) (kBd_u (by decide) hk.2.2.1.2.2.2.2.1)
      have m4 := (b3.2.2.2.2.2.2.2.1.2.1.2 d hd).2.2.2.1
      have oM := b3.1.1
      have mfr := b3.2.2.2.1
      refine ⟨sI h (B + 23 + 13 + d) 3 (nI k), sI (sI h (B + 23 + 13 + d) 3 (nI k)) (B + 145 + 25) d (nI k), zV Λ 19 d, ?_, ?_, JX_up hk hk' b1 b2 b3 ⟨fun _ => rfl, fun _ => rfl, fun _ _ => rfl, rfl, rfl⟩ (fun b k' h1 h2 => a_Ia (by omega)) (fun _ _ _ => rfl) (fun k' _ _ _ _ _ => a_Ia (by omega)) (mL_dd hk.2.2.1 (by decide) (by decide) (by decide) (by decide) (by decide) (by decide) (by decide) (by decide) (by decide) (a := B + 145 + 25) (by omega) b3.2.2.2.2.2.2.2.1 (fun b k' h1 h2 => a_Ia h1) (fun _ _ => rfl) (mDd_u19 b3.2.2.2.2.2.2.2.1.2.1)) ?_⟩
      · rw [n_DC_weigh]
        simp (disch := omega) only [s_DC_weigh_0, s_DC_weigh_1, s_DC_weigh_4, s_DC_weigh_5, s_DC_weigh_8, s_DC_weigh_11, s_DC_weigh_12, s_DC_weigh_13, s_DC_weigh_16, s_DC_weigh_17, s_DC_weigh_19, s_DC_weigh_22, s_DC_weigh_23, s_DC_weigh_25, s_DC_weigh_28, s_DC_weigh_29, s_DC_weigh_30, s_DC_weigh_33, s_DC_weigh_36, s_DC_weigh_37, s_DC_weigh_38, s_DC_weigh_39, s_DC_weigh_40, s_DC_weigh_43, s_DC_weigh_45, s_DC_weigh_46, s_DC_weigh_47, s_DC_weigh_50, s_DC_weigh_52, j.cd, y_kd_sI, y_kd_sL, y_kd_sR, y_kd_cpI, y_kd_cpL, y_ln_sI, y_ln_sL, y_ln_sR, y_ln_cpI, y_ln_cpL, y_sz_sI, y_sz_sL, y_sz_sR, y_sz_cpI, y_sz_cpL, y_sl_sI, y_sl_sL, y_sl_sR, y_sl_cpI, y_sl_cpL, y_gI_sL, y_gI_sR, y_gI_cpI, y_gI_cpL, y_gI_nw, y_gL_sI, y_gL_sR, y_gL_cpI, y_gL_cpL, y_gL_nw, y_gR_sI, y_gR_sL, y_gR_cpI, y_gR_cpL, y_gR_nw, y_kd_nw, y_ln_nw, y_sz_nw, y_sl_nw, y_fx_int, y_fx_long, y_fx_ref, y_fx_null, y_fx_U, y_rf_s, y_rf_n, a_inb, a_ix, a_lt, a_eq, a_eq0, a_lt0, a_0lt, a_m1, a_m2, a_mlt, a_sub, a_dec, a_div, a_rem, a_shl, a_shr, a_bit, a_bit0, a_II, a_Ia, a_Ik, a_LL, a_La, a_Lk, a_RR, a_Ra, a_Rk, a_if0, a_if1, y_mul, y_and, y_or, nI_add, y_b1, y_b0, kon_v, kon_0, true_or, or_true, and_self, true_and, and_true, false_or, or_false, and_false, false_and, not_true_eq_false, not_false_eq_true, ite_self, ↓reduceIte, Nat.reduceEqDiff, Nat.reduceLeDiff, Nat.reduceAdd, Nat.reduceMul, Nat.reduceSub, Nat.reduceLT, Nat.reduceShiftLeft, Nat.reduceOr, Nat.reduceAnd, Bool.false_eq_true, b_if, b_z1, b_z0, b_zz, b_a1, b_a0, dt, t1, t2, dc_k j.dc, dc_r0 j.dc, dc_r1 j.dc, dc_r2 j.dc, dc_r3 j.dc, dc_r5 j.dc, dc_r6 j.dc, dc_r7 j.dc, dc_r8 j.dc, dc_r9 j.dc, dc_k1 j.dc, dc_l1 j.dc, dc_k19 j.dc, dc_l19 j.dc, dc_k21 j.dc, dc_l21 j.dc, dc_k22 j.dc, dc_l22 j.dc, dc_k131 j.dc, dc_l131 j.dc, dc_k142 j.dc, dc_l142 j.dc, dc_k143 j.dc, dc_l143 j.dc, dc_k144 j.dc, dc_l144 j.dc, dc_k18 j.dc, dc_r18 j.dc, dc_k20 j.dc, dc_r20_0 j.dc, dc_r20_1 j.dc, dc_k141 j.dc, dc_r141_5 j.dc, dc_r141_6 j.dc, dc_s j.dc, dc_sk j.dc, dc_sr j.dc, dc_ek j.dc, dc_el j.dc, la_k j.la, la_r_0 j.la, la_r_2 j.la, la_r_4 j.la, la_r_5 j.la, la_r_6 j.la, la_r_7 j.la, la_r_8 j.la, la_r_9 j.la, la_k1 j.la, la_l1 j.la, la_k12 j.la, la_l12 j.la, la_k37 j.la, la_l37 j.la, la_k39 j.la, la_l39 j.la, la_k40 j.la, la_l40 j.la, la_k42 j.la, la_l42 j.la, la_k52 j.la, la_l52 j.la, la_k53 j.la, la_l53 j.la, la_k38 j.la, la_r38_1 j.la, la_r38_2 j.la, la_k41 j.la, la_r41_1 j.la, la_f j.la, la_fk j.la, la_d j.la, la_dk j.la, c4]
      · rw [n_Mo_weigh]
        have qd := q_Mo_isDeed (g := g) (x := nI d) (mo_k oM) b3.2.2.2.2.2.2.2.1.2.1.1 (by omega)
        simp (disch := omega) only [s_Mo_weigh_0, s_Mo_weigh_1, s_Mo_weigh_2, s_Mo_weigh_5, s_Mo_weigh_8, s_Mo_weigh_9, s_Mo_weigh_10, s_Mo_weigh_11, s_Mo_weigh_14, s_Mo_weigh_17, s_Mo_weigh_20, s_Mo_weigh_21, s_Mo_weigh_23, s_Mo_weigh_26, s_Mo_weigh_27, s_Mo_weigh_28, s_Mo_weigh_31, s_Mo_weigh_32, s_Mo_weigh_33, s_Mo_weigh_34, s_Mo_weigh_35, s_Mo_weigh_38, s_Mo_weigh_39, s_Mo_weigh_40, s_Mo_weigh_41, s_Mo_weigh_42, qd, e99, q_in1, y_kd_sI, y_kd_sL, y_kd_sR, y_kd_cpI, y_kd_cpL, y_ln_sI, y_ln_sL, y_ln_sR, y_ln_cpI, y_ln_cpL, y_sz_sI, y_sz_sL, y_sz_sR, y_sz_cpI, y_sz_cpL, y_sl_sI, y_sl_sL, y_sl_sR, y_sl_cpI, y_sl_cpL, y_gI_sL, y_gI_sR, y_gI_cpI, y_gI_cpL, y_gI_nw, y_gL_sI, y_gL_sR, y_gL_cpI, y_gL_cpL, y_gL_nw, y_gR_sI, y_gR_sL, y_gR_cpI, y_gR_cpL, y_gR_nw, y_kd_nw, y_ln_nw, y_sz_nw, y_sl_nw, y_fx_int, y_fx_long, y_fx_ref, y_fx_null, y_fx_U, y_rf_s, y_rf_n, a_inb, a_ix, a_lt, a_eq, a_eq0, a_lt0, a_0lt, a_m1, a_m2, a_mlt, a_sub, a_dec, a_div, a_rem, a_shl, a_shr, a_bit, a_bit0, a_II, a_Ia, a_Ik, a_LL, a_La, a_Lk, a_RR, a_Ra, a_Rk, a_if0, a_if1, y_mul, y_and, y_or, nI_add, y_b1, y_b0, kon_v, kon_0, true_or, or_true, and_self, true_and, and_true, false_or, or_false, and_false, false_and, not_true_eq_false, not_false_eq_true, ite_self, ↓reduceIte, Nat.reduceEqDiff, Nat.reduceLeDiff, Nat.reduceAdd, Nat.reduceMul, Nat.reduceSub, Nat.reduceLT, Nat.reduceShiftLeft, Nat.reduceOr, Nat.reduceAnd, Bool.false_eq_true, b_if, b_z1, b_z0, b_zz, b_a1, b_a0, dt, t1, t3, mo_k oM, mo_r0 oM, mo_k0 oM, mo_l0 oM, mo_r1 oM, mo_k1 oM, mo_l1 oM, mo_r2 oM, mo_k2 oM, mo_l2 oM, mo_r3 oM, mo_k3 oM, mo_l3 oM, mo_r4 oM, mo_k4 oM, mo_l4 oM, mo_r5 oM, mo_k5 oM, mo_l5 oM, mo_r6 oM, mo_k6 oM, mo_l6 oM, mo_r8 oM, mo_k8 oM, mo_l8 oM, mo_r10 oM, mo_k10 oM, mo_l10 oM, mo_r11 oM, mo_k11 oM, mo_l11 oM, mo_r12 oM, mo_k12 oM, mo_l12 oM, mo_r13 oM, mo_k13 oM, mo_l13 oM, mo_r14 oM, mo_k14 oM, mo_l14 oM, mo_r16 oM, mo_k16 oM, mo_l16 oM, mo_r17 oM, mo_k17 oM, mo_l17 oM, mo_r18 oM, mo_k18 oM, mo_l18 oM, mo_r19 oM, mo_k19 oM, mo_l19 oM, mo_r20 oM, mo_k20 oM, mo_l20 oM, mo_r21 oM, mo_k21 oM, mo_l21 oM, mo_r22 oM, mo_k22 oM, mo_l22 oM, mo_r23 oM, mo_k23 oM, mo_l23 oM, mo_r24 oM, mo_k24 oM, mo_l24 oM, mo_r25 oM, mo_k25 oM, mo_l25 oM, mo_r26 oM, mo_k26 oM, mo_l26 oM, mo_r29 oM, mo_k29 oM, mo_l29 oM, mo_r30 oM, mo_k30 oM, mo_l30 oM, mo_r36 oM, mo_k36 oM, mo_l36 oM, mo_r37 oM, mo_k37 oM, mo_l37 oM, mo_r49 oM, mo_k49 oM, mo_l49 oM, mo_r50 oM, mo_k50 oM, mo_l50 oM, mo_r51 oM, mo_k51 oM, mo_l51 oM, mo_r56 oM, mo_k56 oM, mo_l56 oM, mo_r62 oM, mo_k62 oM, mo_l62 oM, mo_r63 oM, mo_k63 oM, mo_l63 oM, mo_r66 oM, mo_k66 oM, mo_l66 oM, mo_row oM, mo_rowk oM, mo_rowl oM, mo_set oM, mo_setk oM, mo_setl oM, m4]
      · show mFr _ _ (zF Λ) (zD Λ) (uV (zV Λ) 19 d (nI k))
        have e : ∀ b k' : Nat, ¬ b = B + 145 + 25 → gI (sI (sI h (B + 23 + 13 + d) 3 (nI k)) (B + 145 + 25) d (nI k)) b k' = gI (sI h (B + 23 + 13 + d) 3 (nI k)) b k' := fun b k' hb => a_Ia hb
        unfold mFr
        rw [e _ _ (by omega), e _ _ (by omega), e _ _ (by omega)]
        rcases mfr with q | ⟨q1, q2⟩
        · exact Or.inl q
        · refine Or.inr ⟨q1, ?_⟩
          rw [fam_w]
          exact rMS_fr' (fun b k' hb => e b k' (by omega)) q2
  · exact ⟨sI h (B + 131) 0 (gI h (B + 131) 0 + nI 1), _, -2, by (rw [n_DC_weigh]; simp (disch := omega) only [s_DC_weigh_0, s_DC_weigh_1, s_DC_weigh_4, s_DC_weigh_5, s_DC_weigh_8, s_DC_weigh_11, s_DC_weigh_12, s_DC_weigh_13, s_DC_weigh_16, s_DC_weigh_17, s_DC_weigh_19, s_DC_weigh_22, s_DC_weigh_23, s_DC_weigh_25, s_DC_weigh_28, s_DC_weigh_29, s_DC_weigh_30, s_DC_weigh_33, s_DC_weigh_36, s_DC_weigh_37, s_DC_weigh_38, s_DC_weigh_39, s_DC_weigh_40, s_DC_weigh_43, s_DC_weigh_45, s_DC_weigh_46, s_DC_weigh_47, s_DC_weigh_50, s_DC_weigh_52, j.cd, z, la_k j.la, y_kd_sI, y_kd_sL, y_kd_sR, y_kd_cpI, y_kd_cpL, y_ln_sI, y_ln_sL, y_ln_sR, y_ln_cpI, y_ln_cpL, y_sz_sI, y_sz_sL, y_sz_sR, y_sz_cpI, y_sz_cpL, y_sl_sI, y_sl_sL, y_sl_sR, y_sl_cpI, y_sl_cpL, y_gI_sL, y_gI_sR, y_gI_cpI, y_gI_cpL, y_gI_nw, y_gL_sI, y_gL_sR, y_gL_cpI, y_gL_cpL, y_gL_nw, y_gR_sI, y_gR_sL, y_gR_cpI, y_gR_cpL, y_gR_nw, y_kd_nw, y_ln_nw, y_sz_nw, y_sl_nw, y_fx_int, y_fx_long, y_fx_ref, y_fx_null, y_fx_U, y_rf_s, y_rf_n, a_inb, a_ix, a_lt, a_eq, a_eq0, a_lt0, a_0lt, a_m1, a_m2, a_mlt, a_sub, a_dec, a_div, a_rem, a_shl, a_shr, a_bit, a_bit0, a_II, a_Ia, a_Ik, a_LL, a_La, a_Lk, a_RR, a_Ra, a_Rk, a_if0, a_if1, y_mul, y_and, y_or, nI_add, y_b1, y_b0, kon_v, kon_0, true_or, or_true, and_self, true_and, and_true, false_or, or_false, and_false, false_and, not_true_eq_false, not_false_eq_true, ite_self, ↓reduceIte, Nat.reduceEqDiff, Nat.reduceLeDiff, Nat.reduceAdd, Nat.reduceMul, Nat.reduceSub, Nat.reduceLT, Nat.reduceShiftLeft, Nat.reduceOr, Nat.reduceAnd, Bool.false_eq_true, b_if, b_z1, b_z0, b_zz, b_a1, b_a0, dc_k j.dc, dc_r2 j.dc, q_DC_refuse0 j.dc]), by (rw [n_Mo_weigh]; simp (disch := omega) only [s_Mo_weigh_0, s_Mo_weigh_1, s_Mo_weigh_2, s_Mo_weigh_5, s_Mo_weigh_8, s_Mo_weigh_9, s_Mo_weigh_10, s_Mo_weigh_11, s_Mo_weigh_14, s_Mo_weigh_17, s_Mo_weigh_20, s_Mo_weigh_21, s_Mo_weigh_23, s_Mo_weigh_26, s_Mo_weigh_27, s_Mo_weigh_28, s_Mo_weigh_31, s_Mo_weigh_32, s_Mo_weigh_33, s_Mo_weigh_34, s_Mo_weigh_35, s_Mo_weigh_38, s_Mo_weigh_39, s_Mo_weigh_40, s_Mo_weigh_41, s_Mo_weigh_42, (j.rc (i := 0) (by decide)).md, z, y_kd_sI, y_kd_sL, y_kd_sR, y_kd_cpI, y_kd_cpL, y_ln_sI, y_ln_sL, y_ln_sR, y_ln_cpI, y_ln_cpL, y_sz_sI, y_sz_sL, y_sz_sR, y_sz_cpI, y_sz_cpL, y_sl_sI, y_sl_sL, y_sl_sR, y_sl_cpI, y_sl_cpL, y_gI_sL, y_gI_sR, y_gI_cpI, y_gI_cpL, y_gI_nw, y_gL_sI, y_gL_sR, y_gL_cpI, y_gL_cpL, y_gL_nw, y_gR_sI, y_gR_sL, y_gR_cpI, y_gR_cpL, y_gR_nw, y_kd_nw, y_ln_nw, y_sz_nw, y_sl_nw, y_fx_int, y_fx_long, y_fx_ref, y_fx_null, y_fx_U, y_rf_s, y_rf_n, a_inb, a_ix, a_lt, a_eq, a_eq0, a_lt0, a_0lt, a_m1, a_m2, a_mlt, a_sub, a_dec, a_div, a_rem, a_shl, a_shr, a_bit, a_bit0, a_II, a_Ia, a_Ik, a_LL, a_La, a_Lk, a_RR, a_Ra, a_Rk, a_if0, a_if1, y_mul, y_and, y_or, nI_add, y_b1, y_b0, kon_v, kon_0, true_or, or_true, and_self, true_and, and_true, false_or, or_false, and_false, false_and, not_true_eq_false, not_false_eq_true, ite_self, ↓reduceIte, Nat.reduceEqDiff, Nat.reduceLeDiff, Nat.reduceAdd, Nat.reduceMul, Nat.reduceSub, Nat.reduceLT, Nat.reduceShiftLeft, Nat.reduceOr, Nat.reduceAnd, Bool.false_eq_true, b_if, b_z1, b_z0, b_zz, b_a1, b_a0, mo_k (j.rc (i := 0) (by decide)).mo, q_Mo_refuse0 (j.rc (i := 0) (by decide)).mo]; try rfl), ((j.rc (i := 0) (by decide)).rm (i := 0) (by decide)).x⟩
end ZDR
