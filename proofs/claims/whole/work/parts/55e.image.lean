/-! image -/
/-- the class has kept its land; the reference has a second one, which isn't filled yet -/
def imP (g : Nat → Nat) (B m SL : Nat) (h : zMem) (H : zH) (T : zT) (Λ : zL) (ρ : Nat → Int32) : Prop := bX g B h ∧ cX g B h H T Λ Λ true ρ ∧ (mSP g m h ∧ kW h m ∧ kW h (m + 90) ∧ mFr h m (zF Λ) (zD Λ) (zV Λ) ∧ mSh h m H ∧ mTp h m T ∧ mRf h m ρ ∧ mL h m Λ) ∧ gR h m 33 = some (m + 180) ∧ sz h = m + 360 ∧ sl h ≤ SL + 120000 ∧ oMo h (m + 180) ∧ oMo h (m + 270) ∧ gR h (m + 180) 42 = some (m + 270)
section ZIM
variable {g : Nat → Nat} {B SL m : Nat} {h h' : zMem} {H : zH} {T : zT} {Λ K : zL} {κ : Bool} {ρ : Nat → Int32}
theorem im_take (k : kX H T Λ Λ true) (p : imP g B (B + 145) SL h H T Λ ρ) : ∃ h' : zMem, call g Mo_takeFrom [.ref (B + 145 + 180), .ref (B + 145)] h = some (none, h') ∧ JX g B SL h' ∧ kd h' (B + 145) = 13 := by
  obtain ⟨hb, hc, ⟨m1, m2, m3, m4, m5, m6, m7, m8⟩, r33, z, w, o1, o2, r42⟩ := p
  have hB : 0 < B := by have := hc.1.2.2.2.2.2.2.2; omega
  obtain ⟨h', e, c⟩ := c_takeFrom (g := g) (o := B + 145) (m := B + 145 + 180) (h := h) (by omega) o1 m1.1 o2 m1.2.2.1 r42 m1.2.1
  have l' := be_mL (Λ := Λ) k.2.2.1 c (mL_fr k.2.2.1 ⟨fun b k' h1 h2 => a_Ia (by omega), fun b k' _ _ => rfl⟩ m8)
  have sm : sam (B + 145 + 180) (B + 145 + 180 + 179) h h' := (sam.I (by omega)).tr c.1
  have s := sm.sh
  have f : smF 0 (B + 145 + 179) h h' := sm.out (by omega)
  refine ⟨h', e, ⟨H, T, Λ, Λ, true, ρ, k, bX_fr s (f.wd (by omega) (by omega)) hb, cX_fr k s (f.wd (by omega) (by omega)) hc, mSP_fr s m1, kW_fr (f.wd (by omega) (by omega)) m2, kW_fr (f.wd (by omega) (by omega)) m3, mFr_fr k.2.2.1.1 k.2.2.1.2.1 (f.wd (by omega) (by omega)) m4, mSh_fr (f.wd (by omega) (by omega)) m5, ⟨(f.1 _ _ (by omega) (by omega)).trans m6.1, fun i hi => (f.1 _ _ (by omega) (by omega)).trans (m6.2 i hi)⟩, fun i hi => (f.1 _ _ (by omega) (by omega)).trans (m7 i hi), mL_fr k.2.2.1 (f.wd (by omega) (by omega)) m8, (fun c => nomatch c), fun _ => ⟨(s.2.2.1 _ _).trans r33, s.2.2.2.1.trans z, by rw [s.2.2.2.2]; exact w, s.mo o1, s.mo o2, (s.2.2.1 _ _).trans r42, l'⟩⟩, (s.1 _).trans (mo_k m1.1)⟩
theorem cSP_kp {X : Nat} (F : kp h h' (B + 145) X) (hX : B + 145 ≤ X) (c : cSP g B h) : cSP g B h' := by
  obtain ⟨d1, d2, d3, d4, d5, d6, ⟨⟨p2, p3, p4⟩, ⟨w1, w2, w3, w4, w5⟩, w6, w7, w8, w9⟩, p1⟩ := c
  have f1 : ∀ b : Nat, b < B + 145 → kd h' b = kd h b := fun b hb => (F.1 b hb).1
  have f2 : ∀ b : Nat, b < B + 145 → ln h' b = ln h b := fun b hb => (F.1 b hb).2
  have f3 : ∀ b k : Nat, b < B + 145 → gR h' b k = gR h b k := fun b k hb => (F.2 b k hb (by omega)).1
  have f4 : ∀ b k : Nat, b < B + 145 → gI h' b k = gI h b k := fun b k hb => (F.2 b k hb (by omega)).2.1
  have o' : oDC h' B := by
    obtain ⟨a1, a2, a3, a4⟩ := d1
    refine ⟨?_, ?_, ?_, fun j hj => ?_⟩
    · unfold oDC0 at *
      simp (disch := omega) only [f1, f2, f3]
      exact a1
    · unfold oDC1 at *
      simp (disch := omega) only [f1, f2, f3]
      exact a2
    · unfold oDC2 at *
      simp (disch := omega) only [f1, f2, f3]
      exact a3
    · rw [f3 _ _ (by omega), f1 _ (by omega), f3 _ _ (by omega), f1 _ (by omega), f2 _ (by omega)]
      exact a4 j hj
  exact ⟨o', la_fr F (by omega) (by omega) d2, sr_fr F (by omega) (by omega) (by omega) (by omega) (by omega) d3, la_fr F (by omega) (by omega) d4, sr_fr F (by omega) (by omega) (by omega) (by omega) (by omega) d5, sr_fr F (by omega) (by omega) (by omega) (by omega) (by omega) d6, ⟨⟨(f1 _ (by omega)).trans p2, (f2 _ (by omega)).trans p3, fun k hk => (f4 _ _ (by omega)).trans (p4 k hk)⟩, ⟨(f1 _ (by omega)).trans w1, (f3 _ _ (by omega)).trans w2, (f1 _ (by omega)).trans w3, (f2 _ (by omega)).trans w4, fun i hi => (f4 _ _ (by omega)).trans (w5 i hi)⟩, fun v hv => ⟨(f4 _ _ (by omega)).trans (w6 v hv).1, (w6 v hv).2⟩, w7, w8, w9⟩, p1⟩
theorem bX_kp {X N : Nat} (F : kp h h' N X) (hN : B ≤ N) (hX : B ≤ X) (b : bX g B h) : bX g B h' := by
  obtain ⟨b1, b2, b3, ⟨t1, t2, t3⟩, ⟨u1, u2, u3⟩, b6⟩ := b
  refine ⟨b1, b2, b3, ⟨((F.1 _ (by omega)).1).trans t1, ((F.1 _ (by omega)).2).trans t2, fun k hk => ((F.2 _ _ (by omega) (by omega)).2.1).trans (t3 k hk)⟩, ⟨((F.1 _ (by omega)).1).trans u1, ((F.1 _ (by omega)).2).trans u2, fun k hk => ((F.2 _ _ (by omega) (by omega)).2.1).trans (u3 k hk)⟩, fun k hk => ?_⟩
  obtain ⟨w1, w2, v, w3, w4, w5, w6, w7⟩ := b6 k hk
  exact ⟨((F.1 _ (by omega)).1).trans w1, w2, v, ((F.2 _ _ (by omega) (by omega)).1).trans w3, w4, ((F.1 _ (by omega)).1).trans w5, ((F.1 _ (by omega)).2).trans w6, fun i hi => ((F.2 _ _ (by omega) (by omega)).2.1).trans (w7 i hi)⟩
theorem cX_kp {X : Nat} (hk : kX H T Λ K κ) (F : kp h h' (B + 145) X) (hX : B + 145 ≤ X) (c : cX g B h H T Λ K κ ρ) : cX g B h' H T Λ K κ ρ := by
  have f : smF 0 (B + 144) h h' := ⟨fun b k _ hb => (F.2 b k (by omega) (by omega)).2.1, fun b k _ hb => (F.2 b k (by omega) (by omega)).2.2⟩
  obtain ⟨c1, c2, c3, c4, c5, c6, c7, c8, c9⟩ := c
  exact ⟨cSP_kp F hX c1, cSh_fr (f.wd (by omega) (by omega)) c2, cTp_fr (f.wd (by omega) (by omega)) c3, cRf_fr (f.wd (by omega) (by omega)) c4, (f.1 _ _ (by omega) (by omega)).trans c5, cL_fr hk.2.2.1 (f.wd (by omega) (by omega)) c6, qE_fr (f.wd (by omega) (by omega)) c7, qE_fr (f.wd (by omega) (by omega)) c8, fun z => cL_fr (hk.2.2.2 z) (f.wd (by omega) (by omega)) (c9 z)⟩
/-- the class keeps its land -/
theorem c_image (k : kX H T Λ K κ) (hb : bX g B h) (hc : cX g B h H T Λ K κ ρ) : ∃ h' : zMem, call g DC_image [.ref B] h = some (some (.int (nI 1)), h') ∧ shp h h' ∧ smF (B + 145) (B + 145 + 359) h h' ∧ bX g B h' ∧ cX g B h' H T Λ Λ true ρ := by
  have hB : 0 < B := by have := hc.1.2.2.2.2.2.2.2; omega
  obtain ⟨c1, c2, c3, c4, c5, c6, c7, c8, c9⟩ := hc
  obtain ⟨d1, d2, d3, d4, d5, d6, d7, d8⟩ := c1
  obtain ⟨h1, e, sm, cl, qe⟩ := c_become (g := g) (o := B + 23) (m := B + 77) (Λ := Λ) (by omega) d4 d2 d5 d3 k.2.2.1 c6 c8
  have s : shp h (sI h1 B 4 (nI 1)) := ⟨sm.1, sm.2.1, sm.2.2.1, sm.2.2.2.1, sm.2.2.2.2.1⟩
  have f : ∀ b k' : Nat, ¬ b = B → (b < B + 77 ∨ B + 77 + 53 < b) → gI (sI h1 B 4 (nI 1)) b k' = gI h b k' ∧ gL (sI h1 B 4 (nI 1)) b k' = gL h b k' := fun b k' n1 n2 => ⟨by rw [a_Ia n1]; exact sm.2.2.2.2.2.1 b k' n2, sm.2.2.2.2.2.2 b k' n2⟩
  have ff : ∀ lo hi : Nat, (hi < B ∨ B < lo) → (hi < B + 77 ∨ B + 77 + 53 < lo) → smF lo hi h (sI h1 B 4 (nI 1)) := fun lo hi n1 n2 => ⟨fun b k' h1 h2 => (f b k' (by omega) (by omega)).1, fun b k' h1 h2 => (f b k' (by omega) (by omega)).2⟩
  have f1 : smF (B + 77) (B + 77 + 53) h1 (sI h1 B 4 (nI 1)) := ⟨fun b k' h1 h2 => a_Ia (by omega), fun _ _ _ _ => rfl⟩
  refine ⟨sI h1 B 4 (nI 1), ?_, s, ff _ _ (by omega) (by omega), bX_fr s (ff _ _ (by omega) (by omega)) hb, cSP_fr s (ff _ _ (by omega) (by omega)) (ff _ _ (by omega) (by omega)) ⟨d1, d2, d3, d4, d5, d6, d7, d8⟩, cSh_fr (ff _ _ (by omega) (by omega)) c2, cTp_fr (ff _ _ (by omega) (by omega)) c3, cRf_fr (ff _ _ (by omega) (by omega)) c4, ?_, cL_fr k.2.2.1 (ff _ _ (by omega) (by omega)) c6, qE_fr (ff _ _ (by omega) (by omega)) c7, qE_fr (f1.wd (by omega) (by omega)) qe, fun _ => cL_fr k.2.2.1 f1 cl⟩
  · have k1 := dc_k d1
    have r3 := dc_r3 d1
    have r2 := dc_r2 d1
    have k4 := la_k d4
    have k5 : kd h1 B = 12 := (sm.1 B).trans k1
    rw [n_DC_image]
    simp (disch := omega) only [s_DC_image_0, s_DC_image_1, s_DC_image_4, s_DC_image_5, s_DC_image_8, s_DC_image_11, s_DC_image_12, s_DC_image_13, s_DC_image_16, s_DC_image_17, y_kd_sI, y_kd_sL, y_kd_sR, y_kd_cpI, y_kd_cpL, y_ln_sI, y_ln_sL, y_ln_sR, y_ln_cpI, y_ln_cpL, y_sz_sI, y_sz_sL, y_sz_sR, y_sz_cpI, y_sz_cpL, y_sl_sI, y_sl_sL, y_sl_sR, y_sl_cpI, y_sl_cpL, y_gI_sL, y_gI_sR, y_gI_cpI, y_gI_cpL, y_gI_nw, y_gL_sI, y_gL_sR, y_gL_cpI, y_gL_cpL, y_gL_nw, y_gR_sI, y_gR_sL, y_gR_cpI, y_gR_cpL, y_gR_nw, y_kd_nw, y_ln_nw, y_sz_nw, y_sl_nw, y_fx_int, y_fx_long, y_fx_ref, y_fx_null, y_fx_U, y_rf_s, y_rf_n, a_inb, a_ix, a_lt, a_eq, a_eq0, a_lt0, a_0lt, a_m1, a_m2, a_mlt, a_sub, a_dec, a_div, a_rem, a_shl, a_shr, a_bit, a_bit0, a_II, a_Ia, a_Ik, a_LL, a_La, a_Lk, a_RR, a_Ra, a_Rk, a_if0, a_if1, y_mul, y_and, y_or, nI_add, y_b1, y_b0, kon_v, kon_0, true_or, or_true, and_self, true_and, and_true, false_or, or_false, and_false, false_and, not_true_eq_false, not_false_eq_true, ite_self, ↓reduceIte, Nat.reduceEqDiff, Nat.reduceLeDiff, Nat.reduceAdd, Nat.reduceMul, Nat.reduceSub, Nat.reduceLT, Nat.reduceShiftLeft, Nat.reduceOr, Nat.reduceAnd, Bool.false_eq_true, b_if, b_z1, b_z0, b_zz, b_a1, b_a0, b_lc, b_zF, b_zT, b_lbit, k1, r3, r2, k4, k5, va_rf, e]
  · rw [a_II, if_pos rfl]
theorem j_image (j : JX g B SL h) : JJ g B SL DC_image Mo_image [] h := by
  obtain ⟨H, T, Λ, K, κ, ρ, k, hb, hc, hm⟩ := j
  obtain ⟨h1, e1, s, f, b1, c1⟩ := c_image (g := g) k hb hc
  have hm1 := mX_fr k s f hm
  have k' : kX H T Λ Λ true := ⟨k.1, k.2.1, k.2.2.1, fun _ => k.2.2.1⟩
  obtain ⟨m1, m2, m3, m4, m5, m6, m7, m8, m9⟩ := hm1
  have km := mo_k m1.1
  cases κ with
  | true =>
    obtain ⟨r33, z, w, o1, o2, r42, -⟩ := m9.2 rfl
    obtain ⟨h2, e2, jx, -⟩ := im_take (SL := SL) k' ⟨b1, c1, ⟨m1, m2, m3, m4, m5, m6, m7, m8⟩, r33, z, w, o1, o2, r42⟩
    refine ⟨h1, h2, nI 1, e1, ?_, jx⟩
    have ko := mo_k o1
    rw [n_Mo_image]
    simp (disch := omega) only [s_Mo_image_0, s_Mo_image_1, s_Mo_image_4, s_Mo_image_4n, s_Mo_image_4r, s_Mo_image_7, s_Mo_image_8, s_Mo_image_11, s_Mo_image_12, s_Mo_image_15, s_Mo_image_18, s_Mo_image_19, s_Mo_image_22, s_Mo_image_23, s_Mo_image_26, s_Mo_image_27, y_kd_sI, y_kd_sL, y_kd_sR, y_kd_cpI, y_kd_cpL, y_ln_sI, y_ln_sL, y_ln_sR, y_ln_cpI, y_ln_cpL, y_sz_sI, y_sz_sL, y_sz_sR, y_sz_cpI, y_sz_cpL, y_sl_sI, y_sl_sL, y_sl_sR, y_sl_cpI, y_sl_cpL, y_gI_sL, y_gI_sR, y_gI_cpI, y_gI_cpL, y_gI_nw, y_gL_sI, y_gL_sR, y_gL_cpI, y_gL_cpL, y_gL_nw, y_gR_sI, y_gR_sL, y_gR_cpI, y_gR_cpL, y_gR_nw, y_kd_nw, y_ln_nw, y_sz_nw, y_sl_nw, y_fx_int, y_fx_long, y_fx_ref, y_fx_null, y_fx_U, y_rf_s, y_rf_n, a_inb, a_ix, a_lt, a_eq, a_eq0, a_lt0, a_0lt, a_m1, a_m2, a_mlt, a_sub, a_dec, a_div, a_rem, a_shl, a_shr, a_bit, a_bit0, a_II, a_Ia, a_Ik, a_LL, a_La, a_Lk, a_RR, a_Ra, a_Rk, a_if0, a_if1, y_mul, y_and, y_or, nI_add, y_b1, y_b0, kon_v, kon_0, true_or, or_true, and_self, true_and, and_true, false_or, or_false, and_false, false_and, not_true_eq_false, not_false_eq_true, ite_self, ↓reduceIte, Nat.reduceEqDiff, Nat.reduceLeDiff, Nat.reduceAdd, Nat.reduceMul, Nat.reduceSub, Nat.reduceLT, Nat.reduceShiftLeft, Nat.reduceOr, Nat.reduceAnd, Bool.false_eq_true, b_if, b_z1, b_z0, b_zz, b_a1, b_a0, b_lc, b_zF, b_zT, b_lbit, km, r33, ko, va_rf, e2]
  | false =>
    obtain ⟨r33, z, w⟩ := m9.1 rfl
    have om : okm (B + 145 + 180) (nw h1 13 0 67) := ⟨by rw [y_kd_nw, if_pos z.symm], by rw [y_sz_nw, z]; omega⟩
    have zm : sz (nw h1 13 0 67) = B + 145 + 180 + 1 := by rw [y_sz_nw, z]
    have F0 : kp h1 (nw h1 13 0 67) (B + 145 + 180) (B + 145) := kp_nw (by omega)
    have hs : ∀ i : Nat, i < 17 → kd (nw h1 13 0 67) (g (100 + i)) = 41 ∧ g (100 + i) < B + 145 + 180 := fun i hi => by
      obtain ⟨s1, s2, -⟩ := b1.2.2.2.2.2 i hi
      exact ⟨((F0.1 _ (by omega)).1).trans s1, by omega⟩
    have q2 := q_Mo_init om zm hs
    obtain ⟨⟨a1, a2, a3, a4, a5⟩, a6, a7, a8, a9, a10, a11, a12, a13, a14⟩ := moH_all (g := g) om zm hs
    have wn : sl (nw h1 13 0 67) = sl h1 + 67 := y_sl_nw
    have g33 : gR (nw h1 13 0 67) (B + 145) 33 = none := by rw [y_gR_nw, if_neg (by omega)]; exact r33
    have kn : kd (nw h1 13 0 67) (B + 145) = 13 := by rw [y_kd_nw, if_neg (by omega)]; exact km
    generalize hX : moH g (B + 145 + 180) (nw h1 13 0 67) = h2 at *
    have F1 : kp h1 (sR h2 (B + 145) 33 (some (B + 145 + 180))) (B + 145 + 180) (B + 145) := (F0.tr ⟨fun b hb => ⟨(a8 b hb).1, (a8 b hb).2.1⟩, fun b k hb _ => (a8 b hb).2.2 k⟩).tr kp_R
    have k2 : kd h2 (B + 145) = 13 := ((a8 _ (by omega)).1).trans kn
    have rr : ∀ k : Nat, ¬ k = 33 → gR (sR h2 (B + 145) 33 (some (B + 145 + 180))) (B + 145) k = gR h1 (B + 145) k := fun k hk => by
      rw [a_Rk hk, ((a8 _ (by omega)).2.2 k).1, y_gR_nw, if_neg (by omega)]
    have ii : ∀ k : Nat, gI (sR h2 (B + 145) 33 (some (B + 145 + 180))) (B + 145) k = gI h1 (B + 145) k ∧ gL (sR h2 (B + 145) 33 (some (B + 145 + 180))) (B + 145) k = gL h1 (B + 145) k := fun k => by
      refine ⟨?_, ?_⟩
      · show gI h2 (B + 145) k = _
        rw [((a8 _ (by omega)).2.2 k).2.1, y_gI_nw, if_neg (by omega)]
      · show gL h2 (B + 145) k = _
        rw [((a8 _ (by omega)).2.2 k).2.2, y_gL_nw, if_neg (by omega)]
    have r5 : gR (sR h2 (B + 145) 33 (some (B + 145 + 180))) (B + 145) 33 = some (B + 145 + 180) := a_RR
    have o5 : oMo (sR h2 (B + 145) 33 (some (B + 145 + 180))) (B + 145 + 180) := oMo_fr (h := h2) (fun _ _ _ => rfl) (fun _ _ _ => rfl) (fun b k h1 _ _ => a_Ra (by omega)) a1
    have o6 : oMo (sR h2 (B + 145) 33 (some (B + 145 + 180))) (B + 145 + 180 + 90) := oMo_fr (h := h2) (fun _ _ _ => rfl) (fun _ _ _ => rfl) (fun b k h1 _ _ => a_Ra (by omega)) a2
    have r6 : gR (sR h2 (B + 145) 33 (some (B + 145 + 180))) (B + 145 + 180) 42 = some (B + 145 + 180 + 90) := by rw [a_Ra (by omega)]; exact a3
    have z5 : sz (sR h2 (B + 145) 33 (some (B + 145 + 180))) = B + 145 + 180 + 180 := a6
    have w5 : sl (sR h2 (B + 145) 33 (some (B + 145 + 180))) = sl (nw h1 13 0 67) + 16687 := a7
    have k5 : kd (sR h2 (B + 145) 33 (some (B + 145 + 180))) (B + 145) = 13 := k2
    have go : call g Mo_image [.ref (B + 145)] h1 = ev g Mo_image 18 [.ref (B + 145)] [] (sR h2 (B + 145) 33 (some (B + 145 + 180))) := by
      rw [n_Mo_image]
      simp (disch := omega) only [s_Mo_image_0, s_Mo_image_1, s_Mo_image_4, s_Mo_image_4n, s_Mo_image_4r, s_Mo_image_7, s_Mo_image_8, s_Mo_image_11, s_Mo_image_12, s_Mo_image_15, s_Mo_image_19, s_Mo_image_22, s_Mo_image_23, s_Mo_image_26, s_Mo_image_27, y_kd_sI, y_kd_sL, y_kd_sR, y_kd_cpI, y_kd_cpL, y_ln_sI, y_ln_sL, y_ln_sR, y_ln_cpI, y_ln_cpL, y_sz_sI, y_sz_sL, y_sz_sR, y_sz_cpI, y_sz_cpL, y_sl_sI, y_sl_sL, y_sl_sR, y_sl_cpI, y_sl_cpL, y_gI_sL, y_gI_sR, y_gI_cpI, y_gI_cpL, y_gI_nw, y_gL_sI, y_gL_sR, y_gL_cpI, y_gL_cpL, y_gL_nw, y_gR_sI, y_gR_sL, y_gR_cpI, y_gR_cpL, y_gR_nw, y_kd_nw, y_ln_nw, y_sz_nw, y_sl_nw, y_fx_int, y_fx_long, y_fx_ref, y_fx_null, y_fx_U, y_rf_s, y_rf_n, a_inb, a_ix, a_lt, a_eq, a_eq0, a_lt0, a_0lt, a_m1, a_m2, a_mlt, a_sub, a_dec, a_div, a_rem, a_shl, a_shr, a_bit, a_bit0, a_II, a_Ia, a_Ik, a_LL, a_La, a_Lk, a_RR, a_Ra, a_Rk, a_if0, a_if1, y_mul, y_and, y_or, nI_add, y_b1, y_b0, kon_v, kon_0, true_or, or_true, and_self, true_and, and_true, false_or, or_false, and_false, false_and, not_true_eq_false, not_false_eq_true, ite_self, ↓reduceIte, Nat.reduceEqDiff, Nat.reduceLeDiff, Nat.reduceAdd, Nat.reduceMul, Nat.reduceSub, Nat.reduceLT, Nat.reduceShiftLeft, Nat.reduceOr, Nat.reduceAnd, Bool.false_eq_true, b_if, b_z1, b_z0, b_zz, b_a1, b_a0, b_lc, b_zF, b_zT, b_lbit, km, r33, z, va_rf, q2, k2]
    generalize sR h2 (B + 145) 33 (some (B + 145 + 180)) = h3 at *
    have ff : smF 0 (B + 145 + 179) h1 h3 := ⟨fun b k _ h2 => by
      by_cases e : b = B + 145
      · rw [e]; exact (ii k).1
      · exact (F1.2 b k (by omega) e).2.1, fun b k _ h2 => by
      by_cases e : b = B + 145
      · rw [e]; exact (ii k).2
      · exact (F1.2 b k (by omega) e).2.2⟩
    have F2 : kp h1 h3 (B + 145) (B + 145) := F1.wd (by omega) (Or.inl rfl)
    have ff2 : ∀ b k : Nat, b < B + 145 + 180 → ¬ (b = B + 145 ∧ k = 33) → gR h3 b k = gR h1 b k := fun b k h1 h2 => by
      by_cases e : b = B + 145
      · rw [e]; exact rr k (fun z => h2 ⟨e, z⟩)
      · exact (F1.2 b k (by omega) e).1
    have ms : mSP g (B + 145) h3 := by
      obtain ⟨s1, s2, s3, s4, s5⟩ := m1
      exact ⟨oMo_fr (fun b _ h2 => (F1.1 b (by omega)).1) (fun b _ h2 => (F1.1 b (by omega)).2) (fun b k _ h2 h3 => ff2 b k (by omega) (by omega)) s1, (rr 42 (by decide)).trans s2, oMo_fr (fun b _ h2 => (F1.1 b (by omega)).1) (fun b _ h2 => (F1.1 b (by omega)).2) (fun b k _ h2 h3 => ff2 b k (by omega) (by omega)) s3, fun i hi => (ff2 _ _ (by omega) (by omega)).trans (s4 i hi), fun i hi => (ff2 _ _ (by omega) (by omega)).trans (s5 i hi)⟩
    obtain ⟨h4, e4, jx, -⟩ := im_take (SL := SL) k' ⟨bX_kp F2 (by omega) (by omega) b1, cX_kp k' F2 (Nat.le_refl _) c1, ⟨ms, kW_fr (ff.wd (by omega) (by omega)) m2, kW_fr (ff.wd (by omega) (by omega)) m3, mFr_fr k.2.2.1.1 k.2.2.1.2.1 (ff.wd (by omega) (by omega)) m4, mSh_fr (ff.wd (by omega) (by omega)) m5, ⟨(ff.1 _ _ (by omega) (by omega)).trans m6.1, fun i hi => (ff.1 _ _ (by omega) (by omega)).trans (m6.2 i hi)⟩, fun i hi => (ff.1 _ _ (by omega) (by omega)).trans (m7 i hi), mL_fr k.2.2.1 (ff.wd (by omega) (by omega)) m8⟩, r5, by omega, by omega, o5, o6, r6⟩
    refine ⟨h1, h4, nI 1, e1, ?_, jx⟩
    rw [go]
    have ko := mo_k o5
    simp (disch := omega) only [s_Mo_image_0, s_Mo_image_1, s_Mo_image_4, s_Mo_image_4n, s_Mo_image_4r, s_Mo_image_7, s_Mo_image_8, s_Mo_image_11, s_Mo_image_12, s_Mo_image_15, s_Mo_image_18, s_Mo_image_19, s_Mo_image_22, s_Mo_image_23, s_Mo_image_26, s_Mo_image_27, y_kd_sI, y_kd_sL, y_kd_sR, y_kd_cpI, y_kd_cpL, y_ln_sI, y_ln_sL, y_ln_sR, y_ln_cpI, y_ln_cpL, y_sz_sI, y_sz_sL, y_sz_sR, y_sz_cpI, y_sz_cpL, y_sl_sI, y_sl_sL, y_sl_sR, y_sl_cpI, y_sl_cpL, y_gI_sL, y_gI_sR, y_gI_cpI, y_gI_cpL, y_gI_nw, y_gL_sI, y_gL_sR, y_gL_cpI, y_gL_cpL, y_gL_nw, y_gR_sI, y_gR_sL, y_gR_cpI, y_gR_cpL, y_gR_nw, y_kd_nw, y_ln_nw, y_sz_nw, y_sl_nw, y_fx_int, y_fx_long, y_fx_ref, y_fx_null, y_fx_U, y_rf_s, y_rf_n, a_inb, a_ix, a_lt, a_eq, a_eq0, a_lt0, a_0lt, a_m1, a_m2, a_mlt, a_sub, a_dec, a_div, a_rem, a_shl, a_shr, a_bit, a_bit0, a_II, a_Ia, a_Ik, a_LL, a_La, a_Lk, a_RR, a_Ra, a_Rk, a_if0, a_if1, y_mul, y_and, y_or, nI_add, y_b1, y_b0, kon_v, kon_0, true_or, or_true, and_self, true_and, and_true, false_or, or_false, and_false, false_and, not_true_eq_false, not_false_eq_true, ite_self, ↓reduceIte, Nat.reduceEqDiff, Nat.reduceLeDiff, Nat.reduceAdd, Nat.reduceMul, Nat.reduceSub, Nat.reduceLT, Nat.reduceShiftLeft, Nat.reduceOr, Nat.reduceAnd, Bool.false_eq_true, b_if, b_z1, b_z0, b_zz, b_a1, b_a0, b_lc, b_zF, b_zT, b_lbit, k5, r5, ko, va_rf, e4]
end ZIM
