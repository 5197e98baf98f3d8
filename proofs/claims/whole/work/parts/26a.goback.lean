/-! the class's search in the machine: going back -/
def oSearch (h : zMem) (q r t : Nat) : Prop := kd h q = 7 ∧ gR h q 0 = some (q + 1) ∧ gR h q 7 = some (q + 7) ∧ gR h q 8 = some (q + 8) ∧ kd h (q + 7) = 20 ∧ ln h (q + 7) = 45 ∧ kd h (q + 8) = 20 ∧ ln h (q + 8) = 45 ∧ oSets h (q + 1) r t
/-- what is never written: the pairs, the turned sets, the halves; all below lo -/
def cW (g : Nat → Nat) (h : zMem) (r t u lo : Nat) : Prop := cP g h ∧ oWays hvT h r u ∧ (∀ v : Nat, v < 256 → gI h t v = nI (tur v) ∧ tur v < 256) ∧ g 1 < lo ∧ u < lo ∧ t < lo
section ZGB
variable {g : Nat → Nat} {h h' : zMem} {q r t u n lo hi : Nat}
theorem sam.se (s : sam lo hi h h') (ho : oSets h q r t) : oSets h' q r t := by
  obtain ⟨s1, s2, s3, -⟩ := s
  unfold oSets
  simp only [s1, s2, s3]
  exact ho
theorem sam.sr (s : sam lo hi h h') (ho : oSearch h q r t) : oSearch h' q r t := by
  obtain ⟨h1, h2, h3, h4, h5, h6, h7, h8, h9⟩ := ho
  have h9' := s.se h9
  obtain ⟨s1, s2, s3, -⟩ := s
  unfold oSearch
  simp only [s1, s2, s3]
  exact ⟨h1, h2, h3, h4, h5, h6, h7, h8, h9'⟩
theorem sam.cp (s : sam lo hi h h') (hg : g 1 < lo) (hc : cP g h) : cP g h' := ⟨(s.1 _).trans hc.1, (s.2.1 _).trans hc.2.1, fun k hk => (s.2.2.2.2.2.1 (g 1) k (Or.inl hg)).trans (hc.2.2 k hk)⟩
theorem sam.cw {l2 : Nat} (s : sam lo hi h h') (hl : l2 ≤ lo) (hc : cW g h r t u l2) : cW g h' r t u l2 := by
  obtain ⟨h1, ⟨a1, a2, a3, a4, a5⟩, h3, h4, h5, h6⟩ := hc
  refine ⟨s.cp (by omega) h1, ⟨(s.1 r).trans a1, (s.2.2.1 r 1).trans a2, (s.1 u).trans a3, (s.2.1 u).trans a4, fun i hi => (s.2.2.2.2.2.1 u i (by omega)).trans (a5 i hi)⟩, fun v hv => ⟨(s.2.2.2.2.2.1 t v (by omega)).trans (h3 v hv).1, (h3 v hv).2⟩, h4, h5, h6⟩
theorem cW.up {l2 : Nat} (hc : cW g h r t u lo) (hl : lo ≤ l2) : cW g h r t u l2 := by
  obtain ⟨h1, h2, h3, h4, h5, h6⟩ := hc
  exact ⟨h1, h2, h3, by omega, by omega, by omega⟩
theorem sameO.sam {o : Nat} (s : sameO o h h') : sam o (o + 5) h h' := ⟨s.1, s.2.1, s.2.2.1, s.2.2.2.2.1, s.2.2.2.2.2.1, s.2.2.2.2.2.2, fun b k _ => s.2.2.2.1 b k⟩
theorem rS_fr {o f : Nat} {σ : zS} (hr : rS h o n f σ) (he : ∀ b k : Nat, o ≤ b → b ≤ o + 5 → gI h' b k = gI h b k) : rS h' o n f σ := by
  obtain ⟨r1, r2, r3, r4, r5, r6, r7, r8, r9, r10, r11⟩ := hr
  refine ⟨?_, fun p hp => ?_, ?_, r4, fun i x hx => ?_, ?_, r7, ?_, r9, fun i x hx => ?_, fun p hp => ?_⟩
  · rw [he o 1 (by omega) (by omega)]; exact r1
  · rw [he (o + 1) p (by omega) (by omega)]; exact r2 p hp
  · rw [he o 2 (by omega) (by omega)]; exact r3
  · rw [he (o + 2) i (by omega) (by omega), he (o + 3) i (by omega) (by omega)]; exact r5 i x hx
  · rw [he o 8 (by omega) (by omega)]; exact r6
  · rw [he o 9 (by omega) (by omega)]; exact r8
  · rw [he (o + 4) _ (by omega) (by omega)]; exact r10 i x hx
  · rw [he (o + 5) p (by omega) (by omega)]; exact r11 p hp
theorem rS.I {o f a k : Nat} {v : Int32} {σ : zS} (hr : rS h o n f σ) (ha : a < o ∨ o + 5 < a) : rS (sI h a k v) o n f σ := rS_fr hr (fun b j h1 h2 => a_Ia (by omega))
/-- the marks: the levels' families out of the trail -/
def rMk (h : zMem) (q n : Nat) (ats : Nat → Nat) (tr : List (Nat × Nat)) (F : Nat → Nat → Nat) (m : Nat) (mk : Nat → Nat) : Prop := ∀ j : Nat, j < m → gI h (q + 8) j = nI (mk j) ∧ mk j ≤ tr.length ∧ mk j + bsum (fun p => pc8 (pBk tur tr (mk j) tr.length ats p)) 100 ≤ 360 ∧ eqv n (pBk tur tr (mk j) tr.length ats) (F j) ∧ ∀ i : Nat, i < j → mk i ≤ mk j
/-- the ways not yet taken -/
def rUn (h : zMem) (q : Nat) (F : Nat → Nat → Nat) (T : Nat → Nat) (m : Nat) : Prop := ∀ j : Nat, j < m → gI h (q + 7) j = nI (un (F j (pP j)) (T j)) ∧ F j (pP j) < 256 ∧ T j ≤ 8
theorem rMk.fr {ats : Nat → Nat} {tr : List (Nat × Nat)} {F : Nat → Nat → Nat} {m m' : Nat} {mk : Nat → Nat} (k : rMk h q n ats tr F m mk) (hm : m' ≤ m) (he : ∀ j : Nat, j < m' → gI h' (q + 8) j = gI h (q + 8) j) : rMk h' q n ats tr F m' mk := fun j hj => by
  obtain ⟨k1, k2⟩ := k j (by omega)
  exact ⟨(he j hj).trans k1, k2⟩
theorem rUn.fr {F : Nat → Nat → Nat} {T : Nat → Nat} {m m' : Nat} (k : rUn h q F T m) (hm : m' ≤ m) (he : ∀ j : Nat, j < m' → gI h' (q + 7) j = gI h (q + 7) j) : rUn h' q F T m' := fun j hj => by
  obtain ⟨k1, k2⟩ := k j (by omega)
  exact ⟨(he j hj).trans k1, k2⟩
theorem rMk.bk {ats : Nat → Nat} {tr : List (Nat × Nat)} {F : Nat → Nat → Nat} {L m : Nat} {mk : Nat → Nat} (hL : L < m) (k : rMk h q n ats tr F m mk) : rMk h q n (pBk tur tr (mk L) tr.length ats) (tr.take (mk L)) F L mk := fun j hj => by
  obtain ⟨k1, k2, k3, k4, k5⟩ := k j (by omega)
  obtain ⟨l1, l2, l3, l4, l5⟩ := k L hL
  have e1 : (tr.take (mk L)).length = mk L := by rw [List.length_take]; omega
  have e2 : pBk tur (tr.take (mk L)) (mk j) (tr.take (mk L)).length (pBk tur tr (mk L) tr.length ats) = pBk tur tr (mk j) tr.length ats := by
    rw [e1, pBk_take (mk L) _ (Nat.le_refl _), ← pBk_split (l5 j hj) tr.length ats l2]
  refine ⟨k1, by rw [e1]; exact l5 j hj, ?_, ?_, k5⟩
  · rw [e2]; exact k3
  · rw [e2]; exact k4
/-- what stands behind goBack -/
def gPost (h h' : zMem) (q n : Nat) (F : Nat → Nat → Nat) (T : Nat → Nat) (o : Option Nat) : Prop := ∃ (f' : Nat) (ats' : Nat → Nat) (tr' : List (Nat × Nat)), rS h' (q + 1) n f' (ats', tr', []) ∧ sy tur ats' ∧ tOL tr' ∧ sam q (q + 8) h h' ∧ (∀ k : Nat, ¬ k = 4 → ¬ k = 6 → gI h' q k = gI h q k) ∧ ((o = none ∧ gI h' q 4 = nI 2 ∧ gI h' q 6 = nI 0) ∨ ∃ (L : Nat) (mk : Nat → Nat), o = some L ∧ gI h' q 4 = gI h q 4 ∧ gI h' q 6 = nI L ∧ wgt (ats', tr', []) ≤ 360 ∧ eqv n ats' (F L) ∧ rMk h' q n ats' tr' F L mk ∧ rUn h' q F T (L + 1))
theorem gPost.tr {h'' : zMem} {F : Nat → Nat → Nat} {T : Nat → Nat} {o : Option Nat} (s : sam q (q + 8) h h') (e : ∀ k : Nat, ¬ k = 6 → gI h' q k = gI h q k) (p : gPost h' h'' q n F T o) : gPost h h'' q n F T o := by
  obtain ⟨f', ats', tr', p1, p2, p3, p4, p5, p6⟩ := p
  refine ⟨f', ats', tr', p1, p2, p3, s.tr p4, fun k k1 k2 => (p5 k k1 k2).trans (e k k2), ?_⟩
  rcases p6 with ⟨c1, c2, c3⟩ | ⟨L, mk, c1, c2, c3⟩
  · exact Or.inl ⟨c1, c2, c3⟩
  · exact Or.inr ⟨L, mk, c1, c2.trans (e 4 (by decide)), c3⟩
theorem l_goBack {F : Nat → Nat → Nat} {T : Nat → Nat} {mk : Nat → Nat} : ∀ (L : Nat) (h : zMem) (f : Nat) (ats : Nat → Nat) (tr : List (Nat × Nat)), L < 45 → oSearch h q r t → cW g h r t u q → rS h (q + 1) n f (ats, tr, []) → sy tur ats → tOL tr → gI h q 6 = nI L → wgt (ats, tr, []) ≤ 360 → eqv n ats (F L) → rMk h q n ats tr F L mk → rUn h q F T (L + 1) →
    ∃ h' : zMem, ev g Search_goBack 23 [.ref q] [] h = some (none, h') ∧ gPost h h' q n F T (aK F T L)
  | 0, h, f, ats, tr, hL, ho, hc, hr, hs, ht, h6, hw, he, hm, hu => by
    obtain ⟨a1, a2, a3, a4, a5, a6, a7, a8, a9⟩ := ho
    obtain ⟨u1, u2, u3⟩ := hu 0 (by omega)
    obtain ⟨n1, n2, n3⟩ := un_0 u2 u3
    by_cases z : nx (F 0 (pP 0)) (T 0) = 8
    · have z0 := n1.2 z
      rw [z0] at u1
      refine ⟨sI (sI (sI h q 6 (nI 0 - nI 1)) q 6 (nI 0)) q 4 (nI 2), ?_, f, ats, tr, ((hr.I (by omega)).I (by omega)).I (by omega), hs, ht, (((sam.I (by omega)).aI (by omega)).aI (by omega)), fun k k1 k2 => ?_, Or.inl ⟨?_, ?_, ?_⟩⟩
      · have e1 : (nI 0 - nI 1 < (0 : Int32)) = True := eq_true (by decide)
        simp (disch := omega) only [s_Search_goBack_0, s_Search_goBack_1, s_Search_goBack_4, s_Search_goBack_7, s_Search_goBack_8, s_Search_goBack_11, s_Search_goBack_12, s_Search_goBack_15, s_Search_goBack_16, s_Search_goBack_19, s_Search_goBack_20, s_Search_goBack_23, s_Search_goBack_24, s_Search_goBack_27, s_Search_goBack_30, s_Search_goBack_31, s_Search_goBack_34, s_Search_goBack_35, s_Search_goBack_38, s_Search_goBack_39, s_Search_goBack_42, s_Search_goBack_43, s_Search_goBack_44, s_Search_goBack_47, s_Search_goBack_48, s_Search_goBack_49, s_Search_goBack_52, s_Search_goBack_53, s_Search_goBack_56, s_Search_goBack_59, s_Search_goBack_60, s_Search_goBack_63, s_Search_goBack_64, s_Search_goBack_67, s_Search_goBack_68, s_Search_goBack_71, s_Search_goBack_72, s_Search_goBack_75, s_Search_goBack_78, s_Search_goBack_79, s_Search_goBack_82, s_Search_goBack_85, s_Search_goBack_86, s_Search_goBack_87, s_Search_goBack_90, s_Search_goBack_91, s_Search_goBack_92, s_Search_goBack_95, y_kd_sI, y_kd_sL, y_kd_sR, y_kd_cpI, y_kd_cpL, y_ln_sI, y_ln_sL, y_ln_sR, y_ln_cpI, y_ln_cpL, y_sz_sI, y_sz_sL, y_sz_sR, y_sz_cpI, y_sz_cpL, y_sl_sI, y_sl_sL, y_sl_sR, y_sl_cpI, y_sl_cpL, y_gI_sL, y_gI_sR, y_gI_cpI, y_gI_cpL, y_gI_nw, y_gL_sI, y_gL_sR, y_gL_cpI, y_gL_cpL, y_gL_nw, y_gR_sI, y_gR_sL, y_gR_cpI, y_gR_cpL, y_gR_nw, y_kd_nw, y_ln_nw, y_sz_nw, y_sl_nw, y_fx_int, y_fx_long, y_fx_ref, y_fx_null, y_fx_U, y_rf_s, y_rf_n, a_inb, a_ix, a_lt, a_eq, a_eq0, a_lt0, a_0lt, a_m1, a_m2, a_mlt, a_sub, a_dec, a_div, a_rem, a_shl, a_shr, a_bit, a_bit0, a_II, a_Ia, a_Ik, a_LL, a_La, a_Lk, a_RR, a_Ra, a_Rk, a_if0, a_if1, y_mul, y_and, y_or, nI_add, y_b1, y_b0, kon_v, kon_0, true_or, or_true, and_self, true_and, and_true, false_or, or_false, and_false, false_and, not_true_eq_false, not_false_eq_true, ite_self, ↓reduceIte, Nat.reduceEqDiff, Nat.reduceLeDiff, Nat.reduceAdd, Nat.reduceMul, Nat.reduceSub, Nat.reduceLT, Nat.reduceShiftLeft, Nat.reduceOr, Nat.reduceAnd, a1, a2, a3, a4, a5, a6, a7, a8, h6, u1, e1]
      · rw [a_Ik k1, a_Ik k2, a_Ik k2]
      · unfold aK; rw [if_pos z]
      · rw [a_II]
      · rw [a_Ik (by decide), a_II]
    · refine ⟨h, ?_, f, ats, tr, hr, hs, ht, sam.rf, fun k _ _ => rfl, Or.inr ⟨0, mk, ?_, rfl, h6, hw, he, hm, hu⟩⟩
      · have z0 : ¬ un (F 0 (pP 0)) (T 0) = 0 := fun e => z (n1.1 e)
        simp (disch := omega) only [s_Search_goBack_0, s_Search_goBack_1, s_Search_goBack_4, s_Search_goBack_7, s_Search_goBack_8, s_Search_goBack_11, s_Search_goBack_12, s_Search_goBack_15, s_Search_goBack_16, s_Search_goBack_19, s_Search_goBack_20, s_Search_goBack_23, s_Search_goBack_24, s_Search_goBack_27, s_Search_goBack_30, s_Search_goBack_31, s_Search_goBack_34, s_Search_goBack_35, s_Search_goBack_38, s_Search_goBack_39, s_Search_goBack_42, s_Search_goBack_43, s_Search_goBack_44, s_Search_goBack_47, s_Search_goBack_48, s_Search_goBack_49, s_Search_goBack_52, s_Search_goBack_53, s_Search_goBack_56, s_Search_goBack_59, s_Search_goBack_60, s_Search_goBack_63, s_Search_goBack_64, s_Search_goBack_67, s_Search_goBack_68, s_Search_goBack_71, s_Search_goBack_72, s_Search_goBack_75, s_Search_goBack_78, s_Search_goBack_79, s_Search_goBack_82, s_Search_goBack_85, s_Search_goBack_86, s_Search_goBack_87, s_Search_goBack_90, s_Search_goBack_91, s_Search_goBack_92, s_Search_goBack_95, y_kd_sI, y_kd_sL, y_kd_sR, y_kd_cpI, y_kd_cpL, y_ln_sI, y_ln_sL, y_ln_sR, y_ln_cpI, y_ln_cpL, y_sz_sI, y_sz_sL, y_sz_sR, y_sz_cpI, y_sz_cpL, y_sl_sI, y_sl_sL, y_sl_sR, y_sl_cpI, y_sl_cpL, y_gI_sL, y_gI_sR, y_gI_cpI, y_gI_cpL, y_gI_nw, y_gL_sI, y_gL_sR, y_gL_cpI, y_gL_cpL, y_gL_nw, y_gR_sI, y_gR_sL, y_gR_cpI, y_gR_cpL, y_gR_nw, y_kd_nw, y_ln_nw, y_sz_nw, y_sl_nw, y_fx_int, y_fx_long, y_fx_ref, y_fx_null, y_fx_U, y_rf_s, y_rf_n, a_inb, a_ix, a_lt, a_eq, a_eq0, a_lt0, a_0lt, a_m1, a_m2, a_mlt, a_sub, a_dec, a_div, a_rem, a_shl, a_shr, a_bit, a_bit0, a_II, a_Ia, a_Ik, a_LL, a_La, a_Lk, a_RR, a_Ra, a_Rk, a_if0, a_if1, y_mul, y_and, y_or, nI_add, y_b1, y_b0, kon_v, kon_0, true_or, or_true, and_self, true_and, and_true, false_or, or_false, and_false, false_and, not_true_eq_false, not_false_eq_true, ite_self, ↓reduceIte, Nat.reduceEqDiff, Nat.reduceLeDiff, Nat.reduceAdd, Nat.reduceMul, Nat.reduceSub, Nat.reduceLT, Nat.reduceShiftLeft, Nat.reduceOr, Nat.reduceAnd, a1, a2, a3, a4, a5, a6, a7, a8, h6, u1, z0]
      · unfold aK; rw [if_neg z]
  | L + 1, h, f, ats, tr, hL, ho, hc, hr, hs, ht, h6, hw, he, hm, hu => by
    have ho' := ho
    obtain ⟨a1, a2, a3, a4, a5, a6, a7, a8, a9⟩ := ho'
    obtain ⟨u1, u2, u3⟩ := hu (L + 1) (by omega)
    obtain ⟨n1, n2, n3⟩ := un_0 u2 u3
    by_cases z : nx (F (L + 1) (pP (L + 1))) (T (L + 1)) = 8
    · have z0 := n1.2 z
      rw [z0] at u1
      obtain ⟨m1, m2, m3, m4, m5⟩ := hm L (by omega)
      have r4 := hr.2.2.2.1
      dsimp only at r4
      have s1 : sam q (q + 8) h (sI h q 6 (nI L)) := sam.I (by omega)
      have hr1 : rS (sI h q 6 (nI L)) (q + 1) n f (ats, tr, []) := hr.I (by omega)
      have ho1 := s1.sr ho
      have hc1 := s1.cw (Nat.le_refl _) hc
      obtain ⟨h2, e2, hr2, s2⟩ := c_back (g := g) (s := mk L) (by omega) ht.ok ho1.2.2.2.2.2.2.2.2 hr1 hc1.2.2.1
      have s2' := s2.sam
      have s3 : sam q (q + 8) (sI h q 6 (nI L)) h2 := s2'.wd (by omega) (by omega)
      have x1 : gI h2 q 6 = nI L := by rw [s2'.2.2.2.2.2.1 q 6 (by omega), a_II]
      have x2 : ∀ j : Nat, gI h2 (q + 8) j = gI h (q + 8) j := fun j => by rw [s2'.2.2.2.2.2.1 (q + 8) j (by omega), a_Ia (by omega)]
      have x3 : ∀ j : Nat, gI h2 (q + 7) j = gI h (q + 7) j := fun j => by rw [s2'.2.2.2.2.2.1 (q + 7) j (by omega), a_Ia (by omega)]
      have el : (tr.take (mk L)).length = mk L := by rw [List.length_take]; omega
      obtain ⟨h', e', p'⟩ := l_goBack L h2 f (pBk tur tr (mk L) tr.length ats) (tr.take (mk L)) (by omega) (s3.sr ho1) (s3.cw (Nat.le_refl _) hc1) hr2 (pBk_sy ht _ _ (Nat.le_refl _) hs) ht.tk x1 (by unfold wgt; dsimp only; rw [el]; exact m3) m4 ((hm.bk (by omega)).fr (Nat.le_refl _) (fun j _ => x2 j)) (hu.fr (by omega) (fun j _ => x3 j))
      refine ⟨h', ?_, ?_⟩
      · rw [← e']
        have e0 : nI (L + 1) - nI 1 = nI L := y_sub (Nat.le_add_left 1 L)
        rw [s_Search_goBack_23]
        simp (disch := omega) only [s_Search_goBack_0, s_Search_goBack_1, s_Search_goBack_4, s_Search_goBack_7, s_Search_goBack_8, s_Search_goBack_11, s_Search_goBack_12, s_Search_goBack_15, s_Search_goBack_16, s_Search_goBack_19, s_Search_goBack_20, s_Search_goBack_24, s_Search_goBack_27, s_Search_goBack_30, s_Search_goBack_31, s_Search_goBack_34, s_Search_goBack_35, s_Search_goBack_38, s_Search_goBack_39, s_Search_goBack_42, s_Search_goBack_43, s_Search_goBack_44, s_Search_goBack_47, s_Search_goBack_48, s_Search_goBack_49, s_Search_goBack_52, s_Search_goBack_53, s_Search_goBack_56, s_Search_goBack_59, s_Search_goBack_60, s_Search_goBack_63, s_Search_goBack_64, s_Search_goBack_67, s_Search_goBack_68, s_Search_goBack_71, s_Search_goBack_72, s_Search_goBack_75, s_Search_goBack_78, s_Search_goBack_79, s_Search_goBack_82, s_Search_goBack_85, s_Search_goBack_86, s_Search_goBack_87, s_Search_goBack_90, s_Search_goBack_91, s_Search_goBack_92, s_Search_goBack_95, y_kd_sI, y_kd_sL, y_kd_sR, y_kd_cpI, y_kd_cpL, y_ln_sI, y_ln_sL, y_ln_sR, y_ln_cpI, y_ln_cpL, y_sz_sI, y_sz_sL, y_sz_sR, y_sz_cpI, y_sz_cpL, y_sl_sI, y_sl_sL, y_sl_sR, y_sl_cpI, y_sl_cpL, y_gI_sL, y_gI_sR, y_gI_cpI, y_gI_cpL, y_gI_nw, y_gL_sI, y_gL_sR, y_gL_cpI, y_gL_cpL, y_gL_nw, y_gR_sI, y_gR_sL, y_gR_cpI, y_gR_cpL, y_gR_nw, y_kd_nw, y_ln_nw, y_sz_nw, y_sl_nw, y_fx_int, y_fx_long, y_fx_ref, y_fx_null, y_fx_U, y_rf_s, y_rf_n, a_inb, a_ix, a_lt, a_eq, a_eq0, a_lt0, a_0lt, a_m1, a_m2, a_mlt, a_sub, a_dec, a_div, a_rem, a_shl, a_shr, a_bit, a_bit0, a_II, a_Ia, a_Ik, a_LL, a_La, a_Lk, a_RR, a_Ra, a_Rk, a_if0, a_if1, y_mul, y_and, y_or, nI_add, y_b1, y_b0, kon_v, kon_0, true_or, or_true, and_self, true_and, and_true, false_or, or_false, and_false, false_and, not_true_eq_false, not_false_eq_true, ite_self, ↓reduceIte, Nat.reduceEqDiff, Nat.reduceLeDiff, Nat.reduceAdd, Nat.reduceMul, Nat.reduceSub, Nat.reduceLT, Nat.reduceShiftLeft, Nat.reduceOr, Nat.reduceAnd, a1, a2, a3, a4, a5, a6, a7, a8, a9.1, h6, u1, e0, m1, e2]
      · have : aK F T (L + 1) = aK F T L := by
          show (if _ then _ else _) = _
          rw [if_pos z]
        rw [this]
        exact gPost.tr (s1.tr s3) (fun k k1 => by rw [s2'.2.2.2.2.2.1 q k (by omega), a_Ik k1]) p'
    · refine ⟨h, ?_, f, ats, tr, hr, hs, ht, sam.rf, fun k _ _ => rfl, Or.inr ⟨L + 1, mk, ?_, rfl, h6, hw, he, hm, hu⟩⟩
      · have z0 : ¬ un (F (L + 1) (pP (L + 1))) (T (L + 1)) = 0 := fun e => z (n1.1 e)
        simp (disch := omega) only [s_Search_goBack_0, s_Search_goBack_1, s_Search_goBack_4, s_Search_goBack_7, s_Search_goBack_8, s_Search_goBack_11, s_Search_goBack_12, s_Search_goBack_15, s_Search_goBack_16, s_Search_goBack_19, s_Search_goBack_20, s_Search_goBack_23, s_Search_goBack_24, s_Search_goBack_27, s_Search_goBack_30, s_Search_goBack_31, s_Search_goBack_34, s_Search_goBack_35, s_Search_goBack_38, s_Search_goBack_39, s_Search_goBack_42, s_Search_goBack_43, s_Search_goBack_44, s_Search_goBack_47, s_Search_goBack_48, s_Search_goBack_49, s_Search_goBack_52, s_Search_goBack_53, s_Search_goBack_56, s_Search_goBack_59, s_Search_goBack_60, s_Search_goBack_63, s_Search_goBack_64, s_Search_goBack_67, s_Search_goBack_68, s_Search_goBack_71, s_Search_goBack_72, s_Search_goBack_75, s_Search_goBack_78, s_Search_goBack_79, s_Search_goBack_82, s_Search_goBack_85, s_Search_goBack_86, s_Search_goBack_87, s_Search_goBack_90, s_Search_goBack_91, s_Search_goBack_92, s_Search_goBack_95, y_kd_sI, y_kd_sL, y_kd_sR, y_kd_cpI, y_kd_cpL, y_ln_sI, y_ln_sL, y_ln_sR, y_ln_cpI, y_ln_cpL, y_sz_sI, y_sz_sL, y_sz_sR, y_sz_cpI, y_sz_cpL, y_sl_sI, y_sl_sL, y_sl_sR, y_sl_cpI, y_sl_cpL, y_gI_sL, y_gI_sR, y_gI_cpI, y_gI_cpL, y_gI_nw, y_gL_sI, y_gL_sR, y_gL_cpI, y_gL_cpL, y_gL_nw, y_gR_sI, y_gR_sL, y_gR_cpI, y_gR_cpL, y_gR_nw, y_kd_nw, y_ln_nw, y_sz_nw, y_sl_nw, y_fx_int, y_fx_long, y_fx_ref, y_fx_null, y_fx_U, y_rf_s, y_rf_n, a_inb, a_ix, a_lt, a_eq, a_eq0, a_lt0, a_0lt, a_m1, a_m2, a_mlt, a_sub, a_dec, a_div, a_rem, a_shl, a_shr, a_bit, a_bit0, a_II, a_Ia, a_Ik, a_LL, a_La, a_Lk, a_RR, a_Ra, a_Rk, a_if0, a_if1, y_mul, y_and, y_or, nI_add, y_b1, y_b0, kon_v, kon_0, true_or, or_true, and_self, true_and, and_true, false_or, or_false, and_false, false_and, not_true_eq_false, not_false_eq_true, ite_self, ↓reduceIte, Nat.reduceEqDiff, Nat.reduceLeDiff, Nat.reduceAdd, Nat.reduceMul, Nat.reduceSub, Nat.reduceLT, Nat.reduceShiftLeft, Nat.reduceOr, Nat.reduceAnd, a1, a2, a3, a4, a5, a6, a7, a8, h6, u1, z0]
      · show (if _ then _ else _) = _
        rw [if_neg z]
/-- goBack, from level L, whatever has been changed since its mark -/
theorem c_goBack {F : Nat → Nat → Nat} {T : Nat → Nat} {mk : Nat → Nat} {L f : Nat} {ats : Nat → Nat} {tr : List (Nat × Nat)} (hL : L < 45) (ho : oSearch h q r t) (hc : cW g h r t u q) (hr : rS h (q + 1) n f (ats, tr, [])) (hs : sy tur ats) (ht : tOL tr) (h6 : gI h q 6 = nI L) (hm : rMk h q n ats tr F (L + 1) mk) (hu : rUn h q F T (L + 1)) :
    ∃ h' : zMem, call g Search_goBack [.ref q] h = some (none, h') ∧ gPost h h' q n F T (aK F T L) := by
  have ho' := ho
  obtain ⟨a1, a2, a3, a4, a5, a6, a7, a8, a9⟩ := ho'
  obtain ⟨m1, m2, m3, m4, m5⟩ := hm L (by omega)
  have r4 := hr.2.2.2.1
  dsimp only at r4
  obtain ⟨h2, e2, hr2, s2⟩ := c_back (g := g) (s := mk L) (by omega) ht.ok a9 hr hc.2.2.1
  have s2' := s2.sam
  have s3 : sam q (q + 8) h h2 := s2'.wd (by omega) (by omega)
  have x1 : gI h2 q 6 = nI L := by rw [s2'.2.2.2.2.2.1 q 6 (by omega), h6]
  have x2 : ∀ j : Nat, gI h2 (q + 8) j = gI h (q + 8) j := fun j => by rw [s2'.2.2.2.2.2.1 (q + 8) j (by omega)]
  have x3 : ∀ j : Nat, gI h2 (q + 7) j = gI h (q + 7) j := fun j => by rw [s2'.2.2.2.2.2.1 (q + 7) j (by omega)]
  have el : (tr.take (mk L)).length = mk L := by rw [List.length_take]; omega
  obtain ⟨h', e', p'⟩ := l_goBack L h2 f (pBk tur tr (mk L) tr.length ats) (tr.take (mk L)) hL (s3.sr ho) (s3.cw (Nat.le_refl _) hc) hr2 (pBk_sy ht _ _ (Nat.le_refl _) hs) ht.tk x1 (by unfold wgt; dsimp only; rw [el]; exact m3) m4 ((hm.bk (by omega)).fr (Nat.le_refl _) (fun j _ => x2 j)) (hu.fr (by omega) (fun j _ => x3 j))
  refine ⟨h', ?_, gPost.tr s3 (fun k k1 => by rw [s2'.2.2.2.2.2.1 q k (by omega)]) p'⟩
  rw [← e', n_Search_goBack]
  simp (disch := omega) only [s_Search_goBack_0, s_Search_goBack_1, s_Search_goBack_4, s_Search_goBack_7, s_Search_goBack_8, s_Search_goBack_11, s_Search_goBack_12, s_Search_goBack_15, s_Search_goBack_16, s_Search_goBack_19, s_Search_goBack_20, s_Search_goBack_24, s_Search_goBack_27, s_Search_goBack_30, s_Search_goBack_31, s_Search_goBack_34, s_Search_goBack_35, s_Search_goBack_38, s_Search_goBack_39, s_Search_goBack_42, s_Search_goBack_43, s_Search_goBack_44, s_Search_goBack_47, s_Search_goBack_48, s_Search_goBack_49, s_Search_goBack_52, s_Search_goBack_53, s_Search_goBack_56, s_Search_goBack_59, s_Search_goBack_60, s_Search_goBack_63, s_Search_goBack_64, s_Search_goBack_67, s_Search_goBack_68, s_Search_goBack_71, s_Search_goBack_72, s_Search_goBack_75, s_Search_goBack_78, s_Search_goBack_79, s_Search_goBack_82, s_Search_goBack_85, s_Search_goBack_86, s_Search_goBack_87, s_Search_goBack_90, s_Search_goBack_91, s_Search_goBack_92, s_Search_goBack_95, y_kd_sI, y_kd_sL, y_kd_sR, y_kd_cpI, y_kd_cpL, y_ln_sI, y_ln_sL, y_ln_sR, y_ln_cpI, y_ln_cpL, y_sz_sI, y_sz_sL, y_sz_sR, y_sz_cpI, y_sz_cpL, y_sl_sI, y_sl_sL, y_sl_sR, y_sl_cpI, y_sl_cpL, y_gI_sL, y_gI_sR, y_gI_cpI, y_gI_cpL, y_gI_nw, y_gL_sI, y_gL_sR, y_gL_cpI, y_gL_cpL, y_gL_nw, y_gR_sI, y_gR_sL, y_gR_cpI, y_gR_cpL, y_gR_nw, y_kd_nw, y_ln_nw, y_sz_nw, y_sl_nw, y_fx_int, y_fx_long, y_fx_ref, y_fx_null, y_fx_U, y_rf_s, y_rf_n, a_inb, a_ix, a_lt, a_eq, a_eq0, a_lt0, a_0lt, a_m1, a_m2, a_mlt, a_sub, a_dec, a_div, a_rem, a_shl, a_shr, a_bit, a_bit0, a_II, a_Ia, a_Ik, a_LL, a_La, a_Lk, a_RR, a_Ra, a_Rk, a_if0, a_if1, y_mul, y_and, y_or, nI_add, y_b1, y_b0, kon_v, kon_0, true_or, or_true, and_self, true_and, and_true, false_or, or_false, and_false, false_and, not_true_eq_false, not_false_eq_true, ite_self, ↓reduceIte, Nat.reduceEqDiff, Nat.reduceLeDiff, Nat.reduceAdd, Nat.reduceMul, Nat.reduceSub, Nat.reduceLT, Nat.reduceShiftLeft, Nat.reduceOr, Nat.reduceAnd, a1, a2, a3, a4, a5, a6, a7, a8, a9.1, h6, m1, e2]
end ZGB
