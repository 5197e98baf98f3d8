/-! begin, step, search -/
section ZQ4
variable {g : Nat → Nat} {B SL : Nat} {h h' : zMem} {H : zH} {T : zT} {Λ K : zL} {κ : Bool} {ρ ρ' : Nat → Int32}
theorem qE_rS {o n f : Nat} {ats : Nat → Nat} {tr : List (Nat × Nat)} (r : rS h o n f (ats, tr, [])) : qE h o := by
  obtain ⟨r1, r2, r3, r4, r5, r6, r7, r8, r9, r10, r11⟩ := r
  exact ⟨f, r6, r7, r8, fun p hp => by rw [r11 p hp, bZ_f List.not_mem_nil]⟩
theorem qE_rCS {q n : Nat} {A : aA} (r : rCS h q n A) : qE h (q + 1) := by
  obtain ⟨f, ats, tr, r1, -⟩ := r
  exact qE_rS r1
/-- the land with another search -/
def setS (Λ : zL) (n : Nat) (A : aA) (y : Int32) : zL := (zF Λ, zD Λ, zC Λ, zV Λ, zW Λ, n, A, y)
theorem kX_S (hk : kX H T Λ K κ) {n : Nat} {A : aA} {y : Int32} (h1 : kSe n A y) : kX H T (setS Λ n A y) K κ := ⟨hk.1, hk.2.1, ⟨hk.2.2.1.1, hk.2.2.1.2.1, hk.2.2.1.2.2.1, hk.2.2.1.2.2.2.1, hk.2.2.1.2.2.2.2.1, h1⟩, hk.2.2.2⟩
/-- the class: only the search of its land changes -/
theorem JP.cse (j : JP g B SL h H T Λ K κ ρ ρ') {n : Nat} {A : aA} {y : Int32} (s : sam (B + 23 + 43) (B + 23 + 43 + 8) h h') (hr : rCS h' (B + 23 + 43) n A) (hy : gI h' (B + 23 + 43) 1 = y) (h1 : ¬ y = -1) (h2 : kSe n A y) : kX H T (setS Λ n A y) K κ ∧ bX g B h' ∧ cX g B h' H T (setS Λ n A y) K κ ρ ∧ mX g (B + 145) SL h' H T Λ K κ ρ' := by
  have hB := j.B0
  obtain ⟨hk, hb, hc, hm⟩ := j
  have hl := hc.2.2.2.2.2.1
  obtain ⟨l1, l2, l3, l4, l5, l6⟩ := hl
  refine ⟨kX_S hk h2, bX_fr s.sh (s.out0 hB (by omega)) hb, cX_land hk (s.wd (by omega) (by omega)) hc ⟨cF_fr hk.2.2.1.1.1 (s.out (by omega)) l1, cDd_fr hk.2.2.1.2.1.1 (s.out (by omega)) l2, fun w hw => ?_, ⟨?_, fun c hc => ?_⟩, ⟨?_, fun c hc => ?_⟩, hy, fun z => absurd z h1, fun _ => hr⟩ (qE_rCS hr), mX_fr hk s.sh (s.out (by omega)) hm⟩
  · exact (s.2.2.2.2.2.1 _ _ (by omega)).trans (l3 w hw)
  · exact (s.2.2.2.2.2.1 _ _ (by omega)).trans l4.1
  · exact ⟨(s.2.2.2.2.2.1 _ _ (by omega)).trans (l4.2 c hc).1, (s.2.2.2.2.2.1 _ _ (by omega)).trans (l4.2 c hc).2⟩
  · exact (s.2.2.2.2.2.1 _ _ (by omega)).trans l5.1
  · exact (s.2.2.2.2.2.1 _ _ (by omega)).trans (l5.2 c hc)
/-- the reference: its own search changes -/
theorem mX_own {m : Nat} {n : Nat} {A : aA} {y : Int32} (hk : kX H T Λ K κ) (s : shp h h') (hL : ∀ b k : Nat, gL h' b k = gL h b k) (e1 : ∀ b k : Nat, ¬ b = m → (b < m + 90 ∨ m + 179 < b) → gI h' b k = gI h b k) (e2 : ∀ k : Nat, ¬ k = 31 → ¬ k = 32 → ¬ k = 53 → gI h' m k = gI h m k) (e3 : gI h' m 53 = gI h m 53 ∨ gI h' m 53 = nI 0) (k1 : kW h' (m + 90)) (hy : ¬ y = -1) (a1 : gI h' m 31 = nI 1) (a2 : gI h' m 32 = y) (a3 : rMS h' (m + 90) n A) (c : mX g m SL h H T Λ K κ ρ) : mX g m SL h' H T (setS Λ n A y) K κ ρ := by
  obtain ⟨c1, c2, c3, c4, c5, c6, c7, c8, c9⟩ := c
  refine ⟨mSP_fr s c1, c2.mv (fun k => e1 _ _ (by omega) (by omega)) (e2 _ (by decide) (by decide) (by decide)), k1, ?_, mSh_fr ⟨fun b k _ _ => e1 _ _ (by omega) (by omega), fun b k _ _ => hL _ _⟩ c5, ⟨(e2 _ (by decide) (by decide) (by decide)).trans c6.1, fun i hi => (e1 _ _ (by omega) (by omega)).trans (c6.2 i hi)⟩, fun i hi => (e1 _ _ (by omega) (by omega)).trans (c7 i hi), ?_, mKp_fr hk.2.2.2 s ⟨fun b k _ _ => e1 _ _ (by omega) (by omega), fun b k _ _ => hL _ _⟩ c9⟩
  · show mFr h' m (zF Λ) (zD Λ) (zV Λ)
    unfold mFr
    rw [e2 54 (by decide) (by decide) (by decide), e2 55 (by decide) (by decide) (by decide)]
    rcases e3 with e3 | e3
    · rw [e3]
      rcases c4 with d | ⟨d1, d2⟩
      · exact Or.inl d
      · refine Or.inr ⟨d1, ?_⟩
        obtain ⟨r1, r2, r3, r4, r5, r6, r7⟩ := d2
        refine ⟨(e2 _ (by decide) (by decide) (by decide)).trans r1, (e2 _ (by decide) (by decide) (by decide)).trans r2, (e2 _ (by decide) (by decide) (by decide)).trans r3, (e2 _ (by decide) (by decide) (by decide)).trans r4, (e2 _ (by decide) (by decide) (by decide)).trans r5, (e2 _ (by decide) (by decide) (by decide)).trans r6, fun a b => ?_⟩
        have hL45 := Nat.le_trans (aOK_srch (y := gI h m 54) (of := gI h m 55) hk.2.2.1.1 hk.2.2.1.2.1).1.2.2.2.1 (pn_le hk.2.2.1.1.1)
        obtain ⟨w1, w2⟩ := r7 a b
        exact ⟨fun j hj => by
          obtain ⟨Q, Q1, Q2, Q3⟩ := w1 j hj
          exact ⟨Q, fun a b ha hb => by rw [e1 _ _ (by omega) (by omega)]; exact Q1 a b ha hb, Q2, Q3⟩, fun j hj => (e1 _ _ (by omega) (by omega)).trans (w2 j hj)⟩
    · exact Or.inl e3
  · obtain ⟨l1, l2, l3, l4, l5, l6, l7⟩ := c8
    refine ⟨⟨(e2 _ (by decide) (by decide) (by decide)).trans l1.1, fun f hf => ?_⟩, ⟨(e2 _ (by decide) (by decide) (by decide)).trans l2.1, fun f hf => ?_⟩, fun w hw => (e1 _ _ (by omega) (by omega)).trans (l3 w hw), ⟨(e2 _ (by decide) (by decide) (by decide)).trans l4.1, fun w hw => ?_⟩, ⟨(e2 _ (by decide) (by decide) (by decide)).trans l5.1, fun w hw => (e1 _ _ (by omega) (by omega)).trans (l5.2 w hw)⟩, fun z => absurd z hy, fun _ => ⟨a1, a2, a3⟩⟩
    · rw [e1 _ _ (by omega) (by omega), e1 _ _ (by omega) (by omega), e1 _ _ (by omega) (by omega), e1 _ _ (by omega) (by omega), hL]; exact l1.2 f hf
    · rw [e1 _ _ (by omega) (by omega), e1 _ _ (by omega) (by omega), e1 _ _ (by omega) (by omega), e1 _ _ (by omega) (by omega), e1 _ _ (by omega) (by omega), e1 _ _ (by omega) (by omega), e1 _ _ (by omega) (by omega), e1 _ _ (by omega) (by omega), e1 _ _ (by omega) (by omega)]; exact l2.2 f hf
    · rw [e1 _ _ (by omega) (by omega), e1 _ _ (by omega) (by omega)]; exact l4.2 w hw
theorem j_begin {y : Int32} (J : JX g B SL h) : JJ g B SL DC_begin Mo_begin [.int y] h := by
  obtain ⟨H, T, Λ, K, κ, ρ, j⟩ := J.p
  have n24 := j.1.2.2.1.2.1.1
  have n10 := j.1.2.2.1.1.1
  rcases i_tri y 1000 (by decide) (by decide) with ⟨k, hk, rfl⟩ | z | ⟨z1, z2, z3⟩
  · have hs := sy_fam (y := nI k) (sel := fun d => selV (zV Λ) (nI k) d ∧ bitI (-1) d) j.1.2.2.1.1 j.1.2.2.1.2.1
    have hlF := low_sy n10 hs
    have k0 := aOK_open n10 hlF
    have ks : kSe (zF Λ) (aOpen (zF Λ) (fam (zV Λ) (zF Λ) (zD Λ) (nI k) (fun d => selV (zV Λ) (nI k) d ∧ bitI (-1) d))) (nI k) := fun _ => ⟨n10, k0, aSy_open n10 hlF (symF_sy n10 hs)⟩
    have yn : ¬ nI k = -1 := by
      intro e
      have := a_m1 (a := k) (by omega)
      rw [e] at this
      simp at this
    -- the class
    have j0 := j
    obtain ⟨hk0, hb, hc, hm⟩ := j0
    obtain ⟨c1, c2, c3, c4, c5, c6, c7, c8⟩ := hc.1
    obtain ⟨l1, l2, l3, -⟩ := hc.2.2.2.2.2.1
    obtain ⟨h1, f, e1, r1, s1⟩ := c_fill (g := g) (y := nI k) (am := asO (zV Λ) (nI k) (zD Λ)) (o := B + 23 + 43 + 1) c2 c3.2.2.2.2.2.2.2.2 (by omega) c7.2.2.1 l1 l2 l3 hk0.2.2.1.1 hk0.2.2.1.2.1 hk0.2.2.1.2.2.1 (by have := asO_lt (V := zV Λ) (y := nI k) n24; omega)
    rw [fam_all n24] at r1
    have s1' : sam (B + 23 + 43) (B + 23 + 43 + 8) h h1 := s1.sam.wd (by omega) (by omega)
    have w1 := s1'.cw (l2 := B + 23) (by omega) c7
    obtain ⟨h2, e2, r2, s2, y2⟩ := c_open (g := g) (y := nI k) n10 (s1'.sr c3) (w1.up (by omega)) r1 hs
    have s12 := s1'.tr s2
    obtain ⟨hk2, hb2, hc2, hm2⟩ := j.cse s12 r2 y2 yn ks
    have ea := j.asOf (y := nI k)
    have r5 : gI h2 (B + 23 + 43) 5 = nI (zF Λ * (zF Λ - 1) / 2) := by
      obtain ⟨f2, ats2, tr2, p1, p2, p3, p4, p5, p6, p7, -⟩ := r2
      exact p7
    have kt : (k < 1000) = True := eq_true hk
    have kt2 : (999 < k) = False := eq_false (by omega)
    have q1 := c3.1
    have q2 := c3.2.1
    have q3 := (s1'.sr c3).1
    have q4 := (s12.sr c3).1
    -- the reference
    have M := hm2
    obtain ⟨d1, d2, d3, d4, d5, d6, d7, ⟨m1, m2, m3, -⟩, d9⟩ := M
    obtain ⟨oM, oR, oW, -⟩ := d1
    obtain ⟨h3, f1, ⟨G, g1, g2, g3⟩, f3, f4⟩ := c_makeSets (g := g) (y := nI k) (of := -1) (ra := B + 145 + 90 + 36) oM (by omega) (mo_setk oW (show 0 < 46 by decide)) (mo_setl oW (show 0 < 46 by decide)) m1 m2 m3 hk0.2.2.1.1 hk0.2.2.1.2.1 hk0.2.2.1.2.2.1
    have hlG := g2.sy.lo hlF
    have oM3 := f3.mo oM
    have oW3 := f3.mo oW
    have T3 : cT g h3 2 := ⟨(f3.1 _).trans hb2.2.2.2.2.1.1, (f3.2.1 _).trans hb2.2.2.2.2.1.2.1, fun j hj => (f3.2.2.2.2.2.2 _ _ (by have := hb2.2.2.1; omega) (by have := hb2.2.2.1; omega)).trans (hb2.2.2.2.2.1.2.2 j hj)⟩
    obtain ⟨h4, b1, b2, b3, b4, b5⟩ := c_Mo_begin (g := g) (S := G) n10 (show g 2 < B + 145 + 90 by have := hb2.2.2.1; omega) oW3 T3 (d3.mv (fun k => f3.2.2.2.2.2.2 _ _ (by omega) (by omega)) (f3.2.2.2.2.2.2 _ _ (by omega) (by omega))) g1 hlG g3
    rw [aOpen_c n10 hlG g2] at b2
    have oM4 := b4.mo oM3
    have oW4 := b4.mo oW3
    have n9 : gI h3 (B + 145) 9 = nI (zF Λ) := (f3.2.2.2.2.2.2 _ _ (by omega) (fun _ => by decide)).trans m1.1
    have o36 := mo_set oW (show 0 < 46 by decide)
    rw [Nat.add_zero] at o36
    have oR3 : gR h3 (B + 145) 42 = some (B + 145 + 90) := (f3.2.2.1 _ _).trans oR
    have oR4 : gR h4 (B + 145) 42 = some (B + 145 + 90) := (b4.2.2.1 _ _).trans oR3
    have p35 : gI h4 (B + 145 + 90) 35 = nI (zF Λ * (zF Λ - 1) / 2) := b2.2.1
    have sh4 : shp h2 (sI (sI h4 (B + 145) 31 (nI 1)) (B + 145) 32 (nI k)) := ⟨fun b => (b4.1 b).trans (f3.1 b), fun b => (b4.2.1 b).trans (f3.2.1 b), fun b k => (b4.2.2.1 b k).trans (f3.2.2.1 b k), b4.2.2.2.1.trans f3.2.2.2.1, b4.2.2.2.2.1.trans f3.2.2.2.2.1⟩
    have E1 : ∀ b k' : Nat, ¬ b = B + 145 → (b < B + 145 + 90 ∨ B + 145 + 179 < b) → gI (sI (sI h4 (B + 145) 31 (nI 1)) (B + 145) 32 (nI k)) b k' = gI h2 b k' := fun b k' c1 c2 => by
      rw [a_Ia c1, a_Ia c1, b4.2.2.2.2.2.2.1 _ _ (by omega) (by omega) (by omega)]
      exact f3.2.2.2.2.2.2 _ _ (by omega) (fun e => absurd e c1)
    have E2 : ∀ k' : Nat, ¬ k' = 31 → ¬ k' = 32 → gI (sI (sI h4 (B + 145) 31 (nI 1)) (B + 145) 32 (nI k)) (B + 145) k' = gI h3 (B + 145) k' := fun k' c1 c2 => by
      rw [a_Ik c2, a_Ik c1]
      exact b4.2.2.2.2.2.2.1 _ _ (by omega) (by omega) (by omega)
    have hm5 : mX g (B + 145) SL (sI (sI h4 (B + 145) 31 (nI 1)) (B + 145) 32 (nI k)) H T (setS Λ (zF Λ) (aOpen (zF Λ) (fam (zV Λ) (zF Λ) (zD Λ) (nI k) (fun d => selV (zV Λ) (nI k) d ∧ bitI (-1) d))) (nI k)) K κ ρ :=
      mX_own hk0 sh4 (fun b k' => (b4.2.2.2.2.2.1 b k').trans (f3.2.2.2.2.2.1 b k')) E1 (fun k' c1 c2 c3 => (E2 k' c1 c2).trans (f3.2.2.2.2.2.2 _ _ (by omega) (fun _ => c3))) (Or.inr ((E2 53 (by decide) (by decide)).trans f4)) (b3.mv (fun k' => by rw [a_Ia (by omega), a_Ia (by omega)]) (by rw [a_Ia (by omega), a_Ia (by omega)])) yn (by rw [a_Ik (by decide), a_II]) a_II (rMS_fr (h := h4) (m := B + 145 + 90) n10 (show 0 ≤ 45 by decide) ⟨fun b k' c1 c2 => by rw [a_Ia (by omega), a_Ia (by omega)], fun b k' _ _ => rfl⟩ b2) hm2
    have fr5 : smF 0 (B + 144) h2 (sI (sI h4 (B + 145) 31 (nI 1)) (B + 145) 32 (nI k)) := ⟨fun b k' _ c => E1 b k' (by omega) (by omega), fun b k' _ _ => (b4.2.2.2.2.2.1 b k').trans (f3.2.2.2.2.2.1 b k')⟩
    refine ⟨h2, _, nI (zF Λ * (zF Λ - 1) / 2), ?_, ?_, JP.x (g := g) (B := B) (SL := SL) (ρ := ρ) ⟨hk2, bX_fr sh4 (fr5.wd (by omega) (by omega)) hb2, cX_fr hk2 sh4 (fr5.wd (by omega) (by omega)) hc2, hm5⟩⟩
    · rw [n_DC_begin]
      simp (disch := omega) only [s_DC_begin_0, s_DC_begin_1, s_DC_begin_4, s_DC_begin_7, s_DC_begin_8, s_DC_begin_10, s_DC_begin_13, s_DC_begin_14, s_DC_begin_15, s_DC_begin_18, s_DC_begin_21, s_DC_begin_22, s_DC_begin_23, s_DC_begin_26, s_DC_begin_27, s_DC_begin_30, s_DC_begin_31, s_DC_begin_32, s_DC_begin_35, s_DC_begin_36, s_DC_begin_39, s_DC_begin_42, s_DC_begin_43, s_DC_begin_44, s_DC_begin_47, s_DC_begin_48, s_DC_begin_51, y_kd_sI, y_kd_sL, y_kd_sR, y_kd_cpI, y_kd_cpL, y_ln_sI, y_ln_sL, y_ln_sR, y_ln_cpI, y_ln_cpL, y_sz_sI, y_sz_sL, y_sz_sR, y_sz_cpI, y_sz_cpL, y_sl_sI, y_sl_sL, y_sl_sR, y_sl_cpI, y_sl_cpL, y_gI_sL, y_gI_sR, y_gI_cpI, y_gI_cpL, y_gI_nw, y_gL_sI, y_gL_sR, y_gL_cpI, y_gL_cpL, y_gL_nw, y_gR_sI, y_gR_sL, y_gR_cpI, y_gR_cpL, y_gR_nw, y_kd_nw, y_ln_nw, y_sz_nw, y_sl_nw, y_fx_int, y_fx_long, y_fx_ref, y_fx_null, y_fx_U, y_rf_s, y_rf_n, a_inb, a_ix, a_lt, a_eq, a_eq0, a_lt0, a_0lt, a_m1, a_m2, a_mlt, a_sub, a_dec, a_div, a_rem, a_shl, a_shr, a_bit, a_bit0, a_II, a_Ia, a_Ik, a_LL, a_La, a_Lk, a_RR, a_Ra, a_Rk, a_if0, a_if1, y_mul, y_and, y_or, nI_add, y_b1, y_b0, kon_v, kon_0, true_or, or_true, and_self, true_and, and_true, false_or, or_false, and_false, false_and, not_true_eq_false, not_false_eq_true, ite_self, ↓reduceIte, Nat.reduceEqDiff, Nat.reduceLeDiff, Nat.reduceAdd, Nat.reduceMul, Nat.reduceSub, Nat.reduceLT, Nat.reduceShiftLeft, Nat.reduceOr, Nat.reduceAnd, Bool.false_eq_true, b_if, b_z1, b_z0, b_zz, b_a1, b_a0, dc_k c1, dc_r0 c1, dc_r1 c1, dc_r2 c1, dc_r3 c1, dc_r5 c1, dc_r6 c1, dc_r7 c1, dc_r8 c1, dc_r9 c1, dc_k1 c1, dc_l1 c1, dc_k19 c1, dc_l19 c1, dc_k21 c1, dc_l21 c1, dc_k22 c1, dc_l22 c1, dc_k131 c1, dc_l131 c1, dc_k142 c1, dc_l142 c1, dc_k143 c1, dc_l143 c1, dc_k144 c1, dc_l144 c1, dc_k18 c1, dc_r18 c1, dc_k20 c1, dc_r20_0 c1, dc_r20_1 c1, dc_k141 c1, dc_r141_5 c1, dc_r141_6 c1, dc_s c1, dc_sk c1, dc_sr c1, dc_ek c1, dc_el c1, la_k c2, la_r_0 c2, la_r_2 c2, la_r_4 c2, la_r_5 c2, la_r_6 c2, la_r_7 c2, la_r_8 c2, la_r_9 c2, la_k1 c2, la_l1 c2, la_k12 c2, la_l12 c2, la_k37 c2, la_l37 c2, la_k39 c2, la_l39 c2, la_k40 c2, la_l40 c2, la_k42 c2, la_l42 c2, la_k52 c2, la_l52 c2, la_k53 c2, la_l53 c2, la_k38 c2, la_r38_1 c2, la_r38_2 c2, la_k41 c2, la_r41_1 c2, la_f c2, la_fk c2, la_d c2, la_dk c2, q_DC_isYear, kt, kt2, ea, e1, q1, q2, q3, q4, e2, r5]
    · rw [n_Mo_begin]
      simp (disch := omega) only [s_Mo_begin_0, s_Mo_begin_1, s_Mo_begin_4, s_Mo_begin_7, s_Mo_begin_8, s_Mo_begin_10, s_Mo_begin_13, s_Mo_begin_14, s_Mo_begin_15, s_Mo_begin_16, s_Mo_begin_19, s_Mo_begin_22, s_Mo_begin_23, s_Mo_begin_24, s_Mo_begin_25, s_Mo_begin_26, s_Mo_begin_29, s_Mo_begin_30, s_Mo_begin_33, s_Mo_begin_34, s_Mo_begin_37, s_Mo_begin_40, s_Mo_begin_41, s_Mo_begin_42, s_Mo_begin_45, s_Mo_begin_46, s_Mo_begin_47, s_Mo_begin_50, s_Mo_begin_51, s_Mo_begin_54, s_Mo_begin_57, y_kd_sI, y_kd_sL, y_kd_sR, y_kd_cpI, y_kd_cpL, y_ln_sI, y_ln_sL, y_ln_sR, y_ln_cpI, y_ln_cpL, y_sz_sI, y_sz_sL, y_sz_sR, y_sz_cpI, y_sz_cpL, y_sl_sI, y_sl_sL, y_sl_sR, y_sl_cpI, y_sl_cpL, y_gI_sL, y_gI_sR, y_gI_cpI, y_gI_cpL, y_gI_nw, y_gL_sI, y_gL_sR, y_gL_cpI, y_gL_cpL, y_gL_nw, y_gR_sI, y_gR_sL, y_gR_cpI, y_gR_cpL, y_gR_nw, y_kd_nw, y_ln_nw, y_sz_nw, y_sl_nw, y_fx_int, y_fx_long, y_fx_ref, y_fx_null, y_fx_U, y_rf_s, y_rf_n, a_inb, a_ix, a_lt, a_eq, a_eq0, a_lt0, a_0lt, a_m1, a_m2, a_mlt, a_sub, a_dec, a_div, a_rem, a_shl, a_shr, a_bit, a_bit0, a_II, a_Ia, a_Ik, a_LL, a_La, a_Lk, a_RR, a_Ra, a_Rk, a_if0, a_if1, y_mul, y_and, y_or, nI_add, y_b1, y_b0, kon_v, kon_0, true_or, or_true, and_self, true_and, and_true, false_or, or_false, and_false, false_and, not_true_eq_false, not_false_eq_true, ite_self, ↓reduceIte, Nat.reduceEqDiff, Nat.reduceLeDiff, Nat.reduceAdd, Nat.reduceMul, Nat.reduceSub, Nat.reduceLT, Nat.reduceShiftLeft, Nat.reduceOr, Nat.reduceAnd, Bool.false_eq_true, b_if, b_z1, b_z0, b_zz, b_a1, b_a0, q_Mo_isYear, kt, mo_k oM, mo_r0 oM, mo_k0 oM, mo_l0 oM, mo_r1 oM, mo_k1 oM, mo_l1 oM, mo_r2 oM, mo_k2 oM, mo_l2 oM, mo_r3 oM, mo_k3 oM, mo_l3 oM, mo_r4 oM, mo_k4 oM, mo_l4 oM, mo_r5 oM, mo_k5 oM, mo_l5 oM, mo_r6 oM, mo_k6 oM, mo_l6 oM, mo_r8 oM, mo_k8 oM, mo_l8 oM, mo_r10 oM, mo_k10 oM, mo_l10 oM, mo_r11 oM, mo_k11 oM, mo_l11 oM, mo_r12 oM, mo_k12 oM, mo_l12 oM, mo_r13 oM, mo_k13 oM, mo_l13 oM, mo_r14 oM, mo_k14 oM, mo_l14 oM, mo_r16 oM, mo_k16 oM, mo_l16 oM, mo_r17 oM, mo_k17 oM, mo_l17 oM, mo_r18 oM, mo_k18 oM, mo_l18 oM, mo_r19 oM, mo_k19 oM, mo_l19 oM, mo_r20 oM, mo_k20 oM, mo_l20 oM, mo_r21 oM, mo_k21 oM, mo_l21 oM, mo_r22 oM, mo_k22 oM, mo_l22 oM, mo_r23 oM, mo_k23 oM, mo_l23 oM, mo_r24 oM, mo_k24 oM, mo_l24 oM, mo_r25 oM, mo_k25 oM, mo_l25 oM, mo_r26 oM, mo_k26 oM, mo_l26 oM, mo_r29 oM, mo_k29 oM, mo_l29 oM, mo_r30 oM, mo_k30 oM, mo_l30 oM, mo_r36 oM, mo_k36 oM, mo_l36 oM, mo_r37 oM, mo_k37 oM, mo_l37 oM, mo_r49 oM, mo_k49 oM, mo_l49 oM, mo_r50 oM, mo_k50 oM, mo_l50 oM, mo_r51 oM, mo_k51 oM, mo_l51 oM, mo_r56 oM, mo_k56 oM, mo_l56 oM, mo_r62 oM, mo_k62 oM, mo_l62 oM, mo_r63 oM, mo_k63 oM, mo_l63 oM, mo_r66 oM, mo_k66 oM, mo_l66 oM, mo_row oM, mo_rowk oM, mo_rowl oM, mo_set oM, mo_setk oM, mo_setl oM, oR, oR3, oR4, mo_k oW, mo_r36 oW, mo_k36 oW, mo_l36 oW, o36, f1, mo_k oM3, n9, mo_k oW3, b1, mo_k oM4, mo_k oW4, p35]
  · refine ⟨sI h (B + 131) 0 (gI h (B + 131) 0 + nI 1), _, -2, ?_, ?_, ((j.rc (i := 0) (by decide)).rm (i := 0) (by decide)).x⟩
    · rw [n_DC_begin]
      simp (disch := omega) only [s_DC_begin_0, s_DC_begin_1, s_DC_begin_4, s_DC_begin_7, s_DC_begin_8, s_DC_begin_10, s_DC_begin_13, s_DC_begin_14, s_DC_begin_15, s_DC_begin_18, s_DC_begin_21, s_DC_begin_22, s_DC_begin_23, s_DC_begin_26, s_DC_begin_27, s_DC_begin_30, s_DC_begin_31, s_DC_begin_32, s_DC_begin_35, s_DC_begin_36, s_DC_begin_39, s_DC_begin_42, s_DC_begin_43, s_DC_begin_44, s_DC_begin_47, s_DC_begin_48, s_DC_begin_51, y_kd_sI, y_kd_sL, y_kd_sR, y_kd_cpI, y_kd_cpL, y_ln_sI, y_ln_sL, y_ln_sR, y_ln_cpI, y_ln_cpL, y_sz_sI, y_sz_sL, y_sz_sR, y_sz_cpI, y_sz_cpL, y_sl_sI, y_sl_sL, y_sl_sR, y_sl_cpI, y_sl_cpL, y_gI_sL, y_gI_sR, y_gI_cpI, y_gI_cpL, y_gI_nw, y_gL_sI, y_gL_sR, y_gL_cpI, y_gL_cpL, y_gL_nw, y_gR_sI, y_gR_sL, y_gR_cpI, y_gR_cpL, y_gR_nw, y_kd_nw, y_ln_nw, y_sz_nw, y_sl_nw, y_fx_int, y_fx_long, y_fx_ref, y_fx_null, y_fx_U, y_rf_s, y_rf_n, a_inb, a_ix, a_lt, a_eq, a_eq0, a_lt0, a_0lt, a_m1, a_m2, a_mlt, a_sub, a_dec, a_div, a_rem, a_shl, a_shr, a_bit, a_bit0, a_II, a_Ia, a_Ik, a_LL, a_La, a_Lk, a_RR, a_Ra, a_Rk, a_if0, a_if1, y_mul, y_and, y_or, nI_add, y_b1, y_b0, kon_v, kon_0, true_or, or_true, and_self, true_and, and_true, false_or, or_false, and_false, false_and, not_true_eq_false, not_false_eq_true, ite_self, ↓reduceIte, Nat.reduceEqDiff, Nat.reduceLeDiff, Nat.reduceAdd, Nat.reduceMul, Nat.reduceSub, Nat.reduceLT, Nat.reduceShiftLeft, Nat.reduceOr, Nat.reduceAnd, Bool.false_eq_true, b_if, b_z1, b_z0, b_zz, b_a1, b_a0, dc_k j.dc, dc_r0 j.dc, dc_r1 j.dc, dc_r2 j.dc, dc_r3 j.dc, dc_r5 j.dc, dc_r6 j.dc, dc_r7 j.dc, dc_r8 j.dc, dc_r9 j.dc, dc_k1 j.dc, dc_l1 j.dc, dc_k19 j.dc, dc_l19 j.dc, dc_k21 j.dc, dc_l21 j.dc, dc_k22 j.dc, dc_l22 j.dc, dc_k131 j.dc, dc_l131 j.dc, dc_k142 j.dc, dc_l142 j.dc, dc_k143 j.dc, dc_l143 j.dc, dc_k144 j.dc, dc_l144 j.dc, dc_k18 j.dc, dc_r18 j.dc, dc_k20 j.dc, dc_r20_0 j.dc, dc_r20_1 j.dc, dc_k141 j.dc, dc_r141_5 j.dc, dc_r141_6 j.dc, dc_s j.dc, dc_sk j.dc, dc_sr j.dc, dc_ek j.dc, dc_el j.dc, q_DC_isYear, z, q_DC_refuse0 j.dc]
    · have j1 := j.rc (i := 0) (by decide)
      rw [n_Mo_begin]
      simp (disch := omega) only [s_Mo_begin_0, s_Mo_begin_1, s_Mo_begin_4, s_Mo_begin_7, s_Mo_begin_8, s_Mo_begin_10, s_Mo_begin_13, s_Mo_begin_14, s_Mo_begin_15, s_Mo_begin_16, s_Mo_begin_19, s_Mo_begin_22, s_Mo_begin_23, s_Mo_begin_24, s_Mo_begin_25, s_Mo_begin_26, s_Mo_begin_29, s_Mo_begin_30, s_Mo_begin_33, s_Mo_begin_34, s_Mo_begin_37, s_Mo_begin_40, s_Mo_begin_41, s_Mo_begin_42, s_Mo_begin_45, s_Mo_begin_46, s_Mo_begin_47, s_Mo_begin_50, s_Mo_begin_51, s_Mo_begin_54, s_Mo_begin_57, y_kd_sI, y_kd_sL, y_kd_sR, y_kd_cpI, y_kd_cpL, y_ln_sI, y_ln_sL, y_ln_sR, y_ln_cpI, y_ln_cpL, y_sz_sI, y_sz_sL, y_sz_sR, y_sz_cpI, y_sz_cpL, y_sl_sI, y_sl_sL, y_sl_sR, y_sl_cpI, y_sl_cpL, y_gI_sL, y_gI_sR, y_gI_cpI, y_gI_cpL, y_gI_nw, y_gL_sI, y_gL_sR, y_gL_cpI, y_gL_cpL, y_gL_nw, y_gR_sI, y_gR_sL, y_gR_cpI, y_gR_cpL, y_gR_nw, y_kd_nw, y_ln_nw, y_sz_nw, y_sl_nw, y_fx_int, y_fx_long, y_fx_ref, y_fx_null, y_fx_U, y_rf_s, y_rf_n, a_inb, a_ix, a_lt, a_eq, a_eq0, a_lt0, a_0lt, a_m1, a_m2, a_mlt, a_sub, a_dec, a_div, a_rem, a_shl, a_shr, a_bit, a_bit0, a_II, a_Ia, a_Ik, a_LL, a_La, a_Lk, a_RR, a_Ra, a_Rk, a_if0, a_if1, y_mul, y_and, y_or, nI_add, y_b1, y_b0, kon_v, kon_0, true_or, or_true, and_self, true_and, and_true, false_or, or_false, and_false, false_and, not_true_eq_false, not_false_eq_true, ite_self, ↓reduceIte, Nat.reduceEqDiff, Nat.reduceLeDiff, Nat.reduceAdd, Nat.reduceMul, Nat.reduceSub, Nat.reduceLT, Nat.reduceShiftLeft, Nat.reduceOr, Nat.reduceAnd, Bool.false_eq_true, b_if, b_z1, b_z0, b_zz, b_a1, b_a0, q_Mo_isYear, z, mo_k j1.mo, q_Mo_refuse0 j1.mo]
      try rfl
  · refine ⟨sI h (B + 131) 0 (gI h (B + 131) 0 + nI 1), _, -2, ?_, ?_, ((j.rc (i := 0) (by decide)).rm (i := 0) (by decide)).x⟩
    · rw [n_DC_begin]
      simp (disch := omega) only [s_DC_begin_0, s_DC_begin_1, s_DC_begin_4, s_DC_begin_7, s_DC_begin_8, s_DC_begin_10, s_DC_begin_13, s_DC_begin_14, s_DC_begin_15, s_DC_begin_18, s_DC_begin_21, s_DC_begin_22, s_DC_begin_23, s_DC_begin_26, s_DC_begin_27, s_DC_begin_30, s_DC_begin_31, s_DC_begin_32, s_DC_begin_35, s_DC_begin_36, s_DC_begin_39, s_DC_begin_42, s_DC_begin_43, s_DC_begin_44, s_DC_begin_47, s_DC_begin_48, s_DC_begin_51, y_kd_sI, y_kd_sL, y_kd_sR, y_kd_cpI, y_kd_cpL, y_ln_sI, y_ln_sL, y_ln_sR, y_ln_cpI, y_ln_cpL, y_sz_sI, y_sz_sL, y_sz_sR, y_sz_cpI, y_sz_cpL, y_sl_sI, y_sl_sL, y_sl_sR, y_sl_cpI, y_sl_cpL, y_gI_sL, y_gI_sR, y_gI_cpI, y_gI_cpL, y_gI_nw, y_gL_sI, y_gL_sR, y_gL_cpI, y_gL_cpL, y_gL_nw, y_gR_sI, y_gR_sL, y_gR_cpI, y_gR_cpL, y_gR_nw, y_kd_nw, y_ln_nw, y_sz_nw, y_sl_nw, y_fx_int, y_fx_long, y_fx_ref, y_fx_null, y_fx_U, y_rf_s, y_rf_n, a_inb, a_ix, a_lt, a_eq, a_eq0, a_lt0, a_0lt, a_m1, a_m2, a_mlt, a_sub, a_dec, a_div, a_rem, a_shl, a_shr, a_bit, a_bit0, a_II, a_Ia, a_Ik, a_LL, a_La, a_Lk, a_RR, a_Ra, a_Rk, a_if0, a_if1, y_mul, y_and, y_or, nI_add, y_b1, y_b0, kon_v, kon_0, true_or, or_true, and_self, true_and, and_true, false_or, or_false, and_false, false_and, not_true_eq_false, not_false_eq_true, ite_self, ↓reduceIte, Nat.reduceEqDiff, Nat.reduceLeDiff, Nat.reduceAdd, Nat.reduceMul, Nat.reduceSub, Nat.reduceLT, Nat.reduceShiftLeft, Nat.reduceOr, Nat.reduceAnd, Bool.false_eq_true, b_if, b_z1, b_z0, b_zz, b_a1, b_a0, dc_k j.dc, dc_r0 j.dc, dc_r1 j.dc, dc_r2 j.dc, dc_r3 j.dc, dc_r5 j.dc, dc_r6 j.dc, dc_r7 j.dc, dc_r8 j.dc, dc_r9 j.dc, dc_k1 j.dc, dc_l1 j.dc, dc_k19 j.dc, dc_l19 j.dc, dc_k21 j.dc, dc_l21 j.dc, dc_k22 j.dc, dc_l22 j.dc, dc_k131 j.dc, dc_l131 j.dc, dc_k142 j.dc, dc_l142 j.dc, dc_k143 j.dc, dc_l143 j.dc, dc_k144 j.dc, dc_l144 j.dc, dc_k18 j.dc, dc_r18 j.dc, dc_k20 j.dc, dc_r20_0 j.dc, dc_r20_1 j.dc, dc_k141 j.dc, dc_r141_5 j.dc, dc_r141_6 j.dc, dc_s j.dc, dc_sk j.dc, dc_sr j.dc, dc_ek j.dc, dc_el j.dc, q_DC_isYear, z1, z2, z3, q_DC_refuse0 j.dc]
    · have j1 := j.rc (i := 0) (by decide)
      rw [n_Mo_begin]
      simp (disch := omega) only [s_Mo_begin_0, s_Mo_begin_1, s_Mo_begin_4, s_Mo_begin_7, s_Mo_begin_8, s_Mo_begin_10, s_Mo_begin_13, s_Mo_begin_14, s_Mo_begin_15, s_Mo_begin_16, s_Mo_begin_19, s_Mo_begin_22, s_Mo_begin_23, s_Mo_begin_24, s_Mo_begin_25, s_Mo_begin_26, s_Mo_begin_29, s_Mo_begin_30, s_Mo_begin_33, s_Mo_begin_34, s_Mo_begin_37, s_Mo_begin_40, s_Mo_begin_41, s_Mo_begin_42, s_Mo_begin_45, s_Mo_begin_46, s_Mo_begin_47, s_Mo_begin_50, s_Mo_begin_51, s_Mo_begin_54, s_Mo_begin_57, y_kd_sI, y_kd_sL, y_kd_sR, y_kd_cpI, y_kd_cpL, y_ln_sI, y_ln_sL, y_ln_sR, y_ln_cpI, y_ln_cpL, y_sz_sI, y_sz_sL, y_sz_sR, y_sz_cpI, y_sz_cpL, y_sl_sI, y_sl_sL, y_sl_sR, y_sl_cpI, y_sl_cpL, y_gI_sL, y_gI_sR, y_gI_cpI, y_gI_cpL, y_gI_nw, y_gL_sI, y_gL_sR, y_gL_cpI, y_gL_cpL, y_gL_nw, y_gR_sI, y_gR_sL, y_gR_cpI, y_gR_cpL, y_gR_nw, y_kd_nw, y_ln_nw, y_sz_nw, y_sl_nw, y_fx_int, y_fx_long, y_fx_ref, y_fx_null, y_fx_U, y_rf_s, y_rf_n, a_inb, a_ix, a_lt, a_eq, a_eq0, a_lt0, a_0lt, a_m1, a_m2, a_mlt, a_sub, a_dec, a_div, a_rem, a_shl, a_shr, a_bit, a_bit0, a_II, a_Ia, a_Ik, a_LL, a_La, a_Lk, a_RR, a_Ra, a_Rk, a_if0, a_if1, y_mul, y_and, y_or, nI_add, y_b1, y_b0, kon_v, kon_0, true_or, or_true, and_self, true_and, and_true, false_or, or_false, and_false, false_and, not_true_eq_false, not_false_eq_true, ite_self, ↓reduceIte, Nat.reduceEqDiff, Nat.reduceLeDiff, Nat.reduceAdd, Nat.reduceMul, Nat.reduceSub, Nat.reduceLT, Nat.reduceShiftLeft, Nat.reduceOr, Nat.reduceAnd, Bool.false_eq_true, b_if, b_z1, b_z0, b_zz, b_a1, b_a0, q_Mo_isYear, z1, z2, mo_k j1.mo, q_Mo_refuse0 j1.mo]
      try rfl
end ZQ4
