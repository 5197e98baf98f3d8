/-! both sides' searches as of a year -/
/-- class and reference hold one state, but for how many refusals -/
def JP (g : Nat → Nat) (B SL : Nat) (h : zMem) (H : zH) (T : zT) (Λ K : zL) (κ : Bool) (ρ ρ' : Nat → Int32) : Prop := kX H T Λ K κ ∧ bX g B h ∧ cX g B h H T Λ K κ ρ ∧ mX g (B + 145) SL h H T Λ K κ ρ'
theorem bit_m1 : ∀ d : Fin 32, ¬ iShr (-1) (nI d.val) &&& nI 1 = 0 := by decide +kernel
theorem fam_c {V : Nat → Nat → Int32} {nf nd : Nat} {y : Int32} {sel sel' : Nat → Prop} (h : ∀ d : Nat, d < nd → (sel d ↔ sel' d)) : fam V nf nd y sel = fam V nf nd y sel' := by
  unfold fam
  rw [fD_c nd h]
theorem fam_all {V : Nat → Nat → Int32} {nf nd : Nat} {y : Int32} (hn : nd ≤ 24) : fam V nf nd y (fun d => (asO V y nd).testBit d = true) = fam V nf nd y (fun d => selV V y d ∧ bitI (-1) d) :=
  fam_c (fun d hd => (asO_bit hd).trans ⟨fun z => ⟨z, bit_m1 ⟨d, by omega⟩⟩, fun z => z.1⟩)
section ZSX
variable {g : Nat → Nat} {B SL : Nat} {h h' h'' : zMem} {H : zH} {T : zT} {Λ K : zL} {κ : Bool} {ρ ρ' : Nat → Int32}
theorem JX.p (j : JX g B SL h) : ∃ (H : zH) (T : zT) (Λ K : zL) (κ : Bool) (ρ : Nat → Int32), JP g B SL h H T Λ K κ ρ ρ := j
theorem JP.x (j : JP g B SL h H T Λ K κ ρ ρ) : JX g B SL h := ⟨H, T, Λ, K, κ, ρ, j⟩
theorem JP.B0 (j : JP g B SL h H T Λ K κ ρ ρ') : 0 < B := by have := j.2.2.1.1.2.2.2.2.2.2.2; omega
theorem JP.dc (j : JP g B SL h H T Λ K κ ρ ρ') : oDC h B := j.2.2.1.1.1
theorem JP.la (j : JP g B SL h H T Λ K κ ρ ρ') : oLand h (B + 23) := j.2.2.1.1.2.1
theorem JP.mo (j : JP g B SL h H T Λ K κ ρ ρ') : oMo h (B + 145) := j.2.2.2.1.1
theorem JP.rc (j : JP g B SL h H T Λ K κ ρ ρ') {i : Nat} (hi : i < 5) : JP g B SL (sI h (B + 131) i (gI h (B + 131) i + nI 1)) H T Λ K κ (up ρ i (ρ i + nI 1)) ρ' := by
  have hB := j.B0
  obtain ⟨hk, hb, hc, hm⟩ := j
  have e1 : gI h (B + 131) i = ρ i := hc.2.2.2.1 i hi
  have s1 : sam (B + 131) (B + 131) h (sI h (B + 131) i (ρ i + nI 1)) := sam.I (by omega)
  rw [e1]
  exact ⟨hk, bX_fr s1.sh (s1.out0 hB (by omega)) hb, cX_ref hk hc, mX_fr hk s1.sh (s1.out (by omega)) hm⟩
theorem JP.rm (j : JP g B SL h H T Λ K κ ρ ρ') {i : Nat} (hi : i < 5) : JP g B SL (sI h (B + 145 + 16) (i + 2) (gI h (B + 145 + 16) (i + 2) + nI 1)) H T Λ K κ ρ (up ρ' i (ρ' i + nI 1)) := by
  have hB := j.B0
  obtain ⟨hk, hb, hc, hm⟩ := j
  have e1 : gI h (B + 145 + 16) (i + 2) = ρ' i := hm.2.2.2.2.2.2.1 i hi
  have s1 : sam (B + 145 + 16) (B + 145 + 16) h (sI h (B + 145 + 16) (i + 2) (ρ' i + nI 1)) := sam.I (by omega)
  rw [e1]
  exact ⟨hk, bX_fr s1.sh (s1.out0 hB (by omega)) hb, cX_fr hk s1.sh (s1.out (by omega)) hc, mX_ref hk hm⟩
theorem JP.cs (j : JP g B SL h H T Λ K κ ρ ρ') {lo hi : Nat} (s : sam lo hi h h') (h1 : B + 132 ≤ lo) (h2 : hi ≤ B + 144) : JP g B SL h' H T Λ K κ ρ ρ' := by
  have hB := j.B0
  obtain ⟨hk, hb, hc, hm⟩ := j
  exact ⟨hk, bX_fr s.sh (s.out0 hB (by omega)) hb, cX_fr hk s.sh (s.out (by omega)) hc, mX_fr hk s.sh (s.out (by omega)) hm⟩
theorem mcs.out {m a b : Nat} (s : mcs m h h') (hd : b < m) : smF a b h h' := ⟨fun c k _ h2 => s.2.2.2.2.2.2.1 c k (by omega) (by omega) (by omega), fun c k _ _ => s.2.2.2.2.2.1 c k⟩
theorem mX_cs {m : Nat} (hk : kX H T Λ K κ) (s : mcs m h h') (k1 : kW h' m) (k2 : mFr h' m (zF Λ) (zD Λ) (zV Λ)) (c : mX g m SL h H T Λ K κ ρ) : mX g m SL h' H T Λ K κ ρ := by
  obtain ⟨c1, c2, c3, c4, c5, c6, c7, c8, c9⟩ := c
  have ss := s
  obtain ⟨-, -, -, -, -, s6, s7, s8⟩ := ss
  refine ⟨mSP_fr s.sh c1, k1, c3.mv (fun k => s7 _ _ (by omega) (by omega) (by omega)) (s7 _ _ (by omega) (by omega) (by omega)), k2, mSh_fr ⟨fun b k _ _ => s7 _ _ (by omega) (by omega) (by omega), fun b k _ _ => s6 _ _⟩ c5, ⟨(s8 _ (by omega) (by omega)).trans c6.1, fun i hi => (s7 _ _ (by omega) (by omega) (by omega)).trans (c6.2 i hi)⟩, fun i hi => (s7 _ _ (by omega) (by omega) (by omega)).trans (c7 i hi), ?_, mKp_fr hk.2.2.2 s.sh ⟨fun b k _ _ => s7 _ _ (by omega) (by omega) (by omega), fun b k _ _ => s6 _ _⟩ c9⟩
  obtain ⟨l1, l2, l3, l4, l5, l6, l7⟩ := c8
  refine ⟨s.mF l1, s.mDd l2, s.mMn l3, ⟨(s8 _ (by omega) (by omega)).trans l4.1, fun c hc => ?_⟩, ⟨(s8 _ (by omega) (by omega)).trans l5.1, fun c hc => (s7 _ _ (by omega) (by omega) (by omega)).trans (l5.2 c hc)⟩, fun y => (s8 _ (by omega) (by omega)).trans (l6 y), fun y => ⟨(s8 _ (by omega) (by omega)).trans (l7 y).1, (s8 _ (by omega) (by omega)).trans (l7 y).2.1, rMS_fr (hk.2.2.1.2.2.2.2.2 y).1 (hk.2.2.1.aL45 y) ⟨fun b k _ _ => s7 _ _ (by omega) (by omega) (by omega), fun b k _ _ => s6 _ _⟩ (l7 y).2.2⟩⟩
  rw [s7 _ _ (by omega) (by omega) (by omega), s7 _ _ (by omega) (by omega) (by omega)]
  exact l4.2 c hc
theorem JP.ms (j : JP g B SL h H T Λ K κ ρ ρ') (s : mcs (B + 145) h h') (k1 : kW h' (B + 145)) (k2 : mFr h' (B + 145) (zF Λ) (zD Λ) (zV Λ)) : JP g B SL h' H T Λ K κ ρ ρ' := by
  have hB := j.B0
  obtain ⟨hk, hb, hc, hm⟩ := j
  exact ⟨hk, bX_fr s.sh (s.out (by omega)) hb, cX_fr hk s.sh (s.out (by omega)) hc, mX_cs hk s k1 k2 hm⟩
/-- the class's fill of its probe -/
theorem JP.fill (j : JP g B SL h H T Λ K κ ρ ρ') {y : Int32} {am : Nat} (ha : am < 2147483648) : ∃ (h' : zMem) (f : Nat), call g Land_fill [.ref (B + 23), .ref (B + 132 + 1), .int y, .int (nI am)] h = some (none, h') ∧ rS h' (B + 132 + 1) (zF Λ) f (fam (zV Λ) (zF Λ) (zD Λ) y (fun d => am.testBit d = true), [], []) ∧ sam (B + 132 + 1) (B + 132 + 6) h h' := by
  obtain ⟨hk, hb, hc, hm⟩ := j
  obtain ⟨c1, c2, c3, c4, c5, c6, c7, c8⟩ := hc.1
  obtain ⟨l1, l2, l3, -⟩ := hc.2.2.2.2.2.1
  obtain ⟨k1, k2, k3, -⟩ := hk.2.2.1
  obtain ⟨h', f, e1, e2, e3⟩ := c_fill (g := g) (y := y) (am := am) c2 c6.2.2.2.2.2.2.2.2 (by omega) c7.2.2.1 l1 l2 l3 k1 k2 k3 ha
  exact ⟨h', f, e1, e2, e3.sam⟩
theorem JP.asOf (j : JP g B SL h H T Λ K κ ρ ρ') {y : Int32} : call g Land_asOf [.ref (B + 23), .int y] h = some (some (.int (nI (asO (zV Λ) y (zD Λ)))), h) :=
  q_Land_asOf j.la j.1.2.2.1.2.1.1 j.2.2.1.2.2.2.2.2.1.2.1
/-- a search by some deeds, the sets filled -/
theorem JP.srch (j : JP g B SL h H T Λ K κ ρ ρ') {y : Int32} {am : Nat} (ha : am < 2147483648) : ∃ (h1 h2 h3 : zMem), call g Land_fill [.ref (B + 23), .ref (B + 132 + 1), .int y, .int (nI am)] h = some (none, h1) ∧ call g Search_open [.ref (B + 132), .int y] h1 = some (none, h2) ∧ call g Search_run [.ref (B + 132), .int (nI 20000)] h2 = some (some (.int (nI (aS (aRun (zF Λ) 20000 (aOpen (zF Λ) (fam (zV Λ) (zF Λ) (zD Λ) y (fun d => am.testBit d = true))))))), h3) ∧ rCS h3 (B + 132) (zF Λ) (aRun (zF Λ) 20000 (aOpen (zF Λ) (fam (zV Λ) (zF Λ) (zD Λ) y (fun d => am.testBit d = true)))) ∧ sam (B + 132) (B + 140) h h1 ∧ sam (B + 132) (B + 140) h h2 ∧ sam (B + 132) (B + 140) h h3 ∧ JP g B SL h3 H T Λ K κ ρ ρ' := by
  obtain ⟨h1, f, e1, r1, s1⟩ := j.fill (y := y) ha
  have j' := j
  obtain ⟨hk, hb, hc, hm⟩ := j'
  obtain ⟨k1, k2, k3, -⟩ := hk.2.2.1
  obtain ⟨c1, c2, c3, c4, c5, c6, c7, c8⟩ := hc.1
  have hs := sy_fam (y := y) (sel := fun d => am.testBit d = true) k1 k2
  have w1 := s1.cw (l2 := B + 23) (by omega) c7
  obtain ⟨h2, e2, r2, s2, -⟩ := c_open (g := g) (y := y) k1.1 (s1.sr c6) (w1.up (show B + 23 ≤ B + 132 by omega)) r1 hs
  have s12 : sam (B + 132) (B + 132 + 8) h h2 := (s1.wd (by omega) (by omega)).tr s2
  have w2 := s12.cw (l2 := B + 23) (by omega) c7
  have h0 := aOK_open k1.1 (low_sy k1.1 hs)
  obtain ⟨h3, e3, r3, -, s3, -⟩ := c_run (g := g) (most := 20000) k1.1 (by decide) (s12.sr c6) (w2.up (show B + 23 ≤ B + 132 by omega)) r2 h0
  have s123 := s12.tr s3
  exact ⟨h1, h2, h3, e1, e2, e3, r3, s1.wd (by omega) (by omega), s12, s123, j.cs s123 (by omega) (by omega)⟩
/-- searched -/
theorem JP.csr (j : JP g B SL h H T Λ K κ ρ ρ') {y : Int32} : ∃ h' : zMem, call g DC_searched [.ref B, .int y] h = some (some (.int (nI (aS (aSrch (zV Λ) (zF Λ) (zD Λ) y (-1))))), h') ∧ rCS h' (B + 132) (zF Λ) (aSrch (zV Λ) (zF Λ) (zD Λ) y (-1)) ∧ sam (B + 132) (B + 140) h h' ∧ JP g B SL h' H T Λ K κ ρ ρ' := by
  have n24 := j.1.2.2.1.2.1.1
  obtain ⟨h1, h2, h3, e1, e2, e3, r3, s1, s2, s3, j3⟩ := j.srch (y := y) (am := asO (zV Λ) y (zD Λ)) (by have := asO_lt (V := zV Λ) (y := y) n24; omega)
  rw [fam_all n24] at e3 r3
  refine ⟨h3, ?_, r3, s3, j3⟩
  have o1 := s1.sh.dc j.dc
  have o2 := s2.sh.dc j.dc
  have l0 := j.la
  have ea := j.asOf (y := y)
  have c6 := j.2.2.1.1.2.2.2.2.2.1
  have a1 := c6.1
  have a2 := c6.2.1
  have a3 := (s1.sr c6).1
  have a4 := (s2.sr c6).1
  have l1 := la_k l0
  rw [n_DC_searched]
  simp (disch := omega) only [s_DC_searched_0, s_DC_searched_1, s_DC_searched_4, s_DC_searched_5, s_DC_searched_8, s_DC_searched_11, s_DC_searched_12, s_DC_searched_13, s_DC_searched_16, s_DC_searched_17, s_DC_searched_20, s_DC_searched_23, s_DC_searched_24, s_DC_searched_27, s_DC_searched_28, s_DC_searched_31, s_DC_searched_32, s_DC_searched_35, s_DC_searched_38, s_DC_searched_41, y_kd_sI, y_kd_sL, y_kd_sR, y_kd_cpI, y_kd_cpL, y_ln_sI, y_ln_sL, y_ln_sR, y_ln_cpI, y_ln_cpL, y_sz_sI, y_sz_sL, y_sz_sR, y_sz_cpI, y_sz_cpL, y_sl_sI, y_sl_sL, y_sl_sR, y_sl_cpI, y_sl_cpL, y_gI_sL, y_gI_sR, y_gI_cpI, y_gI_cpL, y_gI_nw, y_gL_sI, y_gL_sR, y_gL_cpI, y_gL_cpL, y_gL_nw, y_gR_sI, y_gR_sL, y_gR_cpI, y_gR_cpL, y_gR_nw, y_kd_nw, y_ln_nw, y_sz_nw, y_sl_nw, y_fx_int, y_fx_long, y_fx_ref, y_fx_null, y_fx_U, y_rf_s, y_rf_n, a_inb, a_ix, a_lt, a_eq, a_eq0, a_lt0, a_0lt, a_m1, a_m2, a_mlt, a_sub, a_dec, a_div, a_rem, a_shl, a_shr, a_bit, a_bit0, a_II, a_Ia, a_Ik, a_LL, a_La, a_Lk, a_RR, a_Ra, a_Rk, a_if0, a_if1, y_mul, y_and, y_or, nI_add, y_b1, y_b0, kon_v, kon_0, true_or, or_true, and_self, true_and, and_true, false_or, or_false, and_false, false_and, not_true_eq_false, not_false_eq_true, ite_self, ↓reduceIte, Nat.reduceEqDiff, Nat.reduceLeDiff, Nat.reduceAdd, Nat.reduceMul, Nat.reduceSub, Nat.reduceLT, Nat.reduceShiftLeft, Nat.reduceOr, Nat.reduceAnd, Bool.false_eq_true, dc_k j.dc, dc_r0 j.dc, dc_r1 j.dc, dc_r2 j.dc, dc_r3 j.dc, dc_r5 j.dc, dc_r6 j.dc, dc_r7 j.dc, dc_r8 j.dc, dc_r9 j.dc, dc_k1 j.dc, dc_l1 j.dc, dc_k19 j.dc, dc_l19 j.dc, dc_k21 j.dc, dc_l21 j.dc, dc_k22 j.dc, dc_l22 j.dc, dc_k131 j.dc, dc_l131 j.dc, dc_k142 j.dc, dc_l142 j.dc, dc_k143 j.dc, dc_l143 j.dc, dc_k144 j.dc, dc_l144 j.dc, dc_k18 j.dc, dc_r18 j.dc, dc_k20 j.dc, dc_r20_0 j.dc, dc_r20_1 j.dc, dc_k141 j.dc, dc_r141_5 j.dc, dc_r141_6 j.dc, dc_s j.dc, dc_sk j.dc, dc_sr j.dc, dc_ek j.dc, dc_el j.dc, dc_k o1, dc_r7 o1, dc_k o2, dc_r7 o2, l1, ea, a1, a2, a3, a4, e1, e2, e3]
  rfl
/-- the reference's -/
theorem JP.msr (j : JP g B SL h H T Λ K κ ρ ρ') {y of : Int32} : ∃ h' : zMem, call g Mo_search [.ref (B + 145), .int y, .int of] h = some (none, h') ∧ rMS h' (B + 145) (zF Λ) (aSrch (zV Λ) (zF Λ) (zD Λ) y of) ∧ mcs (B + 145) h h' ∧ JP g B SL h' H T Λ K κ ρ ρ' := by
  have j' := j
  obtain ⟨hk, hb, hc, hm⟩ := j'
  obtain ⟨k1, k2, k3, -⟩ := hk.2.2.1
  obtain ⟨c1, c2, c3, c4, c5, c6, c7, ⟨l1, l2, l3, -⟩, c9⟩ := hm
  obtain ⟨h', e1, e2, e3, e4, e5⟩ := c_Mo_search (g := g) (y := y) (of := of) c1.1 hb.2.2.2.2.1 (by have := hb.2.2.1; omega) c2 l1 l2 l3 k1 k2 k3 c4
  exact ⟨h', e1, e2, e5, j.ms e5 e4 e3⟩
end ZSX
