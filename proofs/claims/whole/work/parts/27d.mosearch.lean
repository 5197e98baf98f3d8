/-! symmetric families -/
def symF (n : Nat) (F : Nat → Nat) : Prop := ∀ a b : Nat, a < n → b < n → ¬ a = b → F (b * 10 + a) = tur (F (a * 10 + b))
theorem gc_sym {n : Nat} {F : Nat → Nat} (hn : n ≤ 10) (hF : low n F) (hs : symF n F) : symF n (gc n F) := by
  have key : sub n (fun p => tur (gc n F (p % 10 * 10 + p / 10))) (gc n F) := by
    refine gc_max hn hF (fun a b ha hb hd => ?_) (fun a b c ha hb hc h1 h2 h3 => ?_)
    · (try dsimp only)
      rw [show (a * 10 + b) % 10 * 10 + (a * 10 + b) / 10 = b * 10 + a by omega]
      have h1 := gc_low hn (F := F) b a hb ha (fun e => hd e.symm)
      have h2 := sb_tur h1 (hF b a hb ha (fun e => hd e.symm)) (gc_sub hn b a hb ha (fun e => hd e.symm))
      rw [hs b a hb ha (fun e => hd e.symm)]
      exact h2
    · (try dsimp only)
      rw [show (a * 10 + c) % 10 * 10 + (a * 10 + c) / 10 = c * 10 + a by omega, show (a * 10 + b) % 10 * 10 + (a * 10 + b) / 10 = b * 10 + a by omega, show (b * 10 + c) % 10 * 10 + (b * 10 + c) / 10 = c * 10 + b by omega]
      have l1 := gc_low hn (F := F) b a hb ha (fun e => h1 e.symm)
      have l2 := gc_low hn (F := F) c b hc hb (fun e => h2 e.symm)
      have l3 := gc_low hn (F := F) c a hc ha (fun e => h3 e.symm)
      rw [fo_tur l2 l1]
      exact sb_tur l3 (fo_lt _ _) (gc_clo hn hF c b a hc hb ha (fun e => h2 e.symm) (fun e => h1 e.symm) (fun e => h3 e.symm))
  intro a b ha hb hd
  have k1 := key b a hb ha (fun e => hd e.symm)
  have k2 := key a b ha hb hd
  dsimp only at k1 k2
  rw [show (b * 10 + a) % 10 * 10 + (b * 10 + a) / 10 = a * 10 + b by omega] at k1
  rw [show (a * 10 + b) % 10 * 10 + (a * 10 + b) / 10 = b * 10 + a by omega] at k2
  have l1 := gc_low hn (F := F) b a hb ha (fun e => hd e.symm)
  have l2 := gc_low hn (F := F) a b ha hb hd
  refine sb_eq ?_ k1
  have := sb_tur (tur_lt l1) l2 k2
  rw [(tur_OK _ l1).2.1] at this
  exact this
theorem lsF_sym {n : Nat} {F : Nat → Nat} {p w : Nat} (hn : n ≤ 10) (h1 : p / 10 < p % 10) (h2 : p % 10 < n) (h8 : F p < 256) (h : symF n F) : symF n (lsF F p w) := by
  intro a b ha hb hd
  have hv : F p &&& 2 ^ w < 256 := Nat.lt_of_le_of_lt Nat.and_le_left h8
  unfold lsF pAt
  by_cases c1 : a * 10 + b = p
  · rw [if_pos (show b * 10 + a = p % 10 * 10 + p / 10 by omega), if_neg (show ¬ a * 10 + b = p % 10 * 10 + p / 10 by omega), if_pos c1]
  · by_cases c2 : b * 10 + a = p
    · rw [if_neg (show ¬ b * 10 + a = p % 10 * 10 + p / 10 by omega), if_pos c2, if_pos (show a * 10 + b = p % 10 * 10 + p / 10 by omega), (tur_OK _ hv).2.1]
    · rw [if_neg (show ¬ b * 10 + a = p % 10 * 10 + p / 10 by omega), if_neg c2, if_neg (show ¬ a * 10 + b = p % 10 * 10 + p / 10 by omega), if_neg c1]
      exact h a b ha hb hd
def aSy (n : Nat) (A : aA) : Prop := ∀ j : Nat, j ≤ aL A → symF n (aF A j)
theorem aSy_back {n c b L : Nat} {F : Nat → Nat → Nat} {T : Nat → Nat} (h : ∀ j : Nat, j ≤ L → symF n (F j)) : aSy n (aBack c b F T (aK F T L)) := by
  cases e : aK F T L with
  | none => exact fun j hj => h j (Nat.le_trans hj (Nat.zero_le _))
  | some r => exact fun j hj => h j (Nat.le_trans hj (aK_le L r e).1)
theorem aSy_step {n : Nat} {A : aA} (hn : n ≤ 10) (hA : aOK n A) (h0 : aS A = 0) (h : aSy n A) : aSy n (aStep n A) := by
  obtain ⟨A1, A2, A3, A4, A5, A6, A7, A8, A9, A10⟩ := hA
  obtain ⟨g1, g2⟩ := A7 (Or.inl h0)
  have h45 := pn_le hn
  have F0 := A6 (by omega) (by omega) (aL A) (Nat.le_refl _)
  obtain ⟨p1, p2⟩ := pP_lt (show aL A < 45 by omega)
  have p3 := (pP_n hn (show aL A < 45 by omega)).2 g1
  have f8 := (fOK_at hn g1 F0).1
  have hG := gc_sym hn (lsF_low (w := nx (aF A (aL A) (pP (aL A))) (aT A (aL A))) F0.2.2 f8) (lsF_sym hn p1 p3 f8 (h _ (Nat.le_refl _)))
  have hU : ∀ j : Nat, j ≤ aL A + 1 → symF n (up (aF A) (aL A + 1) (gc n (lsF (aF A (aL A)) (pP (aL A)) (nx (aF A (aL A) (pP (aL A))) (aT A (aL A))))) j) := fun j hj => by
    unfold up
    split
    · exact hG
    · exact h j (by omega)
  unfold aStep
  by_cases hw : whl n (gc n (lsF (aF A (aL A)) (pP (aL A)) (nx (aF A (aL A) (pP (aL A))) (aT A (aL A)))))
  · rw [tst_t hw]
    split
    · exact hU
    · exact hU
  · rw [tst_f hw]
    exact aSy_back h
theorem aSy_run {n : Nat} (hn : n ≤ 10) : ∀ (k : Nat) (A : aA), aOK n A → aSy n A → aSy n (aRun n k A)
  | 0, A, _, h => h
  | k + 1, A, hA, h => by
    unfold aRun
    split
    · exact aSy_run hn k _ (aOK_step hn hA ‹_›) (aSy_step hn hA ‹_› h)
    · exact h
theorem aSy_open {n : Nat} {S : Nat → Nat} (hn : n ≤ 10) (hS : low n S) (hy : symF n S) : aSy n (aOpen n S) := fun _ _ => gc_sym hn hS hy
theorem aSy_behind {n : Nat} {A : aA} (hA : aOK n A) (h1 : aS A = 1) (h : aSy n A) : aSy n (aBehind n A) := by
  have e := hA.2.2.2.2.2.2.2.1 h1
  unfold aBehind
  split
  · exact fun j hj => h j (Nat.le_trans hj (Nat.zero_le _))
  · exact aSy_back (fun j hj => h j (by omega))
/-! the reference's search in the machine -/
/-- only some slots of m change -/
def chg (m : Nat) (ks : Nat → Prop) (h h' : zMem) : Prop := (∀ b : Nat, kd h' b = kd h b) ∧ (∀ b : Nat, ln h' b = ln h b) ∧ (∀ b k : Nat, gR h' b k = gR h b k) ∧ sz h' = sz h ∧ sl h' = sl h ∧ (∀ b k : Nat, gL h' b k = gL h b k) ∧ (∀ b k : Nat, ¬ b = m → gI h' b k = gI h b k) ∧ (∀ k : Nat, ¬ ks k → gI h' m k = gI h m k)
/-- what a search changes -/
def mch (m : Nat) (h h' : zMem) : Prop := (∀ b : Nat, kd h' b = kd h b) ∧ (∀ b : Nat, ln h' b = ln h b) ∧ (∀ b k : Nat, gR h' b k = gR h b k) ∧ sz h' = sz h ∧ sl h' = sl h ∧ (∀ b k : Nat, gL h' b k = gL h b k) ∧ (∀ b k : Nat, ¬ b = m → ¬ (m + 36 ≤ b ∧ b ≤ m + 82) → ¬ b = m + 85 → gI h' b k = gI h b k) ∧ (∀ k : Nat, (k < 34 ∨ 41 < k) → ¬ k = 52 → ¬ k = 53 → gI h' m k = gI h m k)
/-- rows of levels -/
def rLv (h : zMem) (m n : Nat) (F : Nat → Nat → Nat) (k : Nat) : Prop := ∀ j : Nat, j < k → ∃ G : Nat → Nat, rRow h (m + 36 + j) n G ∧ eqv n G (F j) ∧ dia n G
def rTr (h : zMem) (m : Nat) (T : Nat → Nat) (k : Nat) : Prop := ∀ j : Nat, j < k → gI h (m + 82) j = nI (T j) - nI 1
def rMS (h : zMem) (m n : Nat) (A : aA) : Prop := gI h m 34 = nI n ∧ gI h m 35 = nI (n * (n - 1) / 2) ∧ gI h m 38 = nI (aL A) ∧ gI h m 39 = nI (aC A) ∧ gI h m 40 = nI (aB A) ∧ gI h m 41 = nI (aS A) ∧ (¬ aS A = 2 → 0 < n * (n - 1) / 2 → rLv h m n (aF A) (aL A + 1) ∧ rTr h m (aT A) (if aS A = 1 then aL A else aL A + 1))
section ZMR
variable {g : Nat → Nat} {h h' h'' : zMem} {m n : Nat}
theorem chg.rf {ks : Nat → Prop} : chg m ks h h := ⟨fun _ => rfl, fun _ => rfl, fun _ _ => rfl, rfl, rfl, fun _ _ => rfl, fun _ _ _ => rfl, fun _ _ => rfl⟩
theorem chg.tr {ks : Nat → Prop} (a : chg m ks h h') (b : chg m ks h' h'') : chg m ks h h'' := ⟨fun x => (b.1 x).trans (a.1 x), fun x => (b.2.1 x).trans (a.2.1 x), fun x k => (b.2.2.1 x k).trans (a.2.2.1 x k), b.2.2.2.1.trans a.2.2.2.1, b.2.2.2.2.1.trans a.2.2.2.2.1, fun x k => (b.2.2.2.2.2.1 x k).trans (a.2.2.2.2.2.1 x k), fun x k c => (b.2.2.2.2.2.2.1 x k c).trans (a.2.2.2.2.2.2.1 x k c), fun k c => (b.2.2.2.2.2.2.2 k c).trans (a.2.2.2.2.2.2.2 k c)⟩
theorem chg.I {ks : Nat → Prop} {k : Nat} {v : Int32} (hk : ks k) : chg m ks h (sI h m k v) := ⟨fun _ => rfl, fun _ => rfl, fun _ _ => rfl, rfl, rfl, fun _ _ => rfl, fun b j hb => a_Ia hb, fun j hj => a_Ik (fun e => hj (e ▸ hk))⟩
theorem chg.mo {ks : Nat → Prop} {m' : Nat} (s : chg m ks h h') (o : oMo h m') : oMo h' m' := sam.mo (lo := 0) (hi := 0) (h := (h.1, h.2.1, h.2.2.1, h.2.2.2.1, h.2.2.2.2.1, h'.2.2.2.2.2.1, h'.2.2.2.2.2.2)) ⟨s.1, s.2.1, s.2.2.1, s.2.2.2.1, s.2.2.2.2.1, fun _ _ _ => rfl, fun _ _ _ => rfl⟩ o
theorem mch.rf : mch m h h := ⟨fun _ => rfl, fun _ => rfl, fun _ _ => rfl, rfl, rfl, fun _ _ => rfl, fun _ _ _ _ _ => rfl, fun _ _ _ _ => rfl⟩
theorem mch.tr (a : mch m h h') (b : mch m h' h'') : mch m h h'' := ⟨fun x => (b.1 x).trans (a.1 x), fun x => (b.2.1 x).trans (a.2.1 x), fun x k => (b.2.2.1 x k).trans (a.2.2.1 x k), b.2.2.2.1.trans a.2.2.2.1, b.2.2.2.2.1.trans a.2.2.2.2.1, fun x k => (b.2.2.2.2.2.1 x k).trans (a.2.2.2.2.2.1 x k), fun x k c d e => (b.2.2.2.2.2.2.1 x k c d e).trans (a.2.2.2.2.2.2.1 x k c d e), fun k c d e => (b.2.2.2.2.2.2.2 k c d e).trans (a.2.2.2.2.2.2.2 k c d e)⟩
theorem mch.I {k : Nat} {v : Int32} (hk : (34 ≤ k ∧ k ≤ 41) ∨ k = 52 ∨ k = 53) : mch m h (sI h m k v) := ⟨fun _ => rfl, fun _ => rfl, fun _ _ => rfl, rfl, rfl, fun _ _ => rfl, fun b j hb _ _ => a_Ia hb, fun j hj h1 h2 => a_Ik (by omega)⟩
theorem mch.J {b k : Nat} {v : Int32} (hb : (m + 36 ≤ b ∧ b ≤ m + 82) ∨ b = m + 85) : mch m h (sI h b k v) := ⟨fun _ => rfl, fun _ => rfl, fun _ _ => rfl, rfl, rfl, fun _ _ => rfl, fun c j h1 h2 h3 => a_Ia (by omega), fun j _ _ _ => a_Ia (by omega)⟩
theorem mch.mo {m' : Nat} (s : mch m h h') (o : oMo h m') : oMo h' m' := sam.mo (lo := 0) (hi := 0) (h := (h.1, h.2.1, h.2.2.1, h.2.2.2.1, h.2.2.2.2.1, h'.2.2.2.2.2.1, h'.2.2.2.2.2.2)) ⟨s.1, s.2.1, s.2.2.1, s.2.2.2.1, s.2.2.2.2.1, fun _ _ _ => rfl, fun _ _ _ => rfl⟩ o
theorem mch.ct {i : Nat} (s : mch m h h') (hg : g i < m) (T : cT g h i) : cT g h' i := ⟨(s.1 _).trans T.1, (s.2.1 _).trans T.2.1, fun j hj => (s.2.2.2.2.2.2.1 _ _ (by omega) (by omega) (by omega)).trans (T.2.2 j hj)⟩
theorem chg.mc {ks : Nat → Prop} (s : chg m ks h h') (hk : ∀ k : Nat, ks k → (34 ≤ k ∧ k ≤ 41) ∨ k = 52 ∨ k = 53) : mch m h h' := ⟨s.1, s.2.1, s.2.2.1, s.2.2.2.1, s.2.2.2.2.1, s.2.2.2.2.2.1, fun b k h1 _ _ => s.2.2.2.2.2.2.1 b k h1, fun k h1 h2 h3 => s.2.2.2.2.2.2.2 k (fun c => by have := hk k c; omega)⟩
theorem shr.mc {ra : Nat} (s : shr m ra h h') (hr : m + 36 ≤ ra ∧ ra ≤ m + 81) : mch m h h' := ⟨s.1, s.2.1, s.2.2.1, s.2.2.2.1, s.2.2.2.2.1, s.2.2.2.2.2.1, fun b k h1 h2 h3 => s.2.2.2.2.2.2.1 b k h1 h3 (by omega), fun k _ h2 _ => s.2.2.2.2.2.2.2 k h2⟩
/-- nextWay -/
theorem q_Mo_nextWay {L s T : Nat} (ho : oMo h m) (hL : L < 45) (h1 : gI h m 38 = nI L) (h2 : gI h (m + 82) L = nI T - nI 1) (h3 : gI h (m + 36 + L) (pP L) = nI s) (hs : s < 256) (hT : T ≤ 8) : call g Mo_nextWay [.ref m] h = some (some (.int (nI (nx s T))), h) := by
  obtain ⟨p1, p2⟩ := pP_lt hL
  have ep : pP L / 10 * 10 + pP L % 10 = pP L := by omega
  have e1 : nI T - nI 1 + nI 1 = nI T := Int32.sub_add_cancel _ _
  have loop : ∀ (k w : Nat), w + k = 8 → ev g Mo_nextWay 31 [.ref m, .int (nI (pP L)), .int (nI w)] [] h = some (some (.int (nI (nxt s k w))), h) := by
    intro k
    induction k with
    | zero =>
      intro w hw
      have e : w = 8 := by omega
      subst e
      simp (disch := omega) only [s_Mo_nextWay_0, s_Mo_nextWay_1, s_Mo_nextWay_4, s_Mo_nextWay_7, s_Mo_nextWay_9, s_Mo_nextWay_10, s_Mo_nextWay_11, s_Mo_nextWay_14, s_Mo_nextWay_17, s_Mo_nextWay_18, s_Mo_nextWay_19, s_Mo_nextWay_20, s_Mo_nextWay_23, s_Mo_nextWay_24, s_Mo_nextWay_27, s_Mo_nextWay_28, s_Mo_nextWay_29, s_Mo_nextWay_30, s_Mo_nextWay_31, s_Mo_nextWay_32, s_Mo_nextWay_34, s_Mo_nextWay_37, s_Mo_nextWay_38, s_Mo_nextWay_41, s_Mo_nextWay_42, s_Mo_nextWay_45, s_Mo_nextWay_46, s_Mo_nextWay_47, s_Mo_nextWay_48, s_Mo_nextWay_49, s_Mo_nextWay_50, s_Mo_nextWay_51, s_Mo_nextWay_52, s_Mo_nextWay_55, s_Mo_nextWay_58, s_Mo_nextWay_61, s_Mo_nextWay_62, y_kd_sI, y_kd_sL, y_kd_sR, y_kd_cpI, y_kd_cpL, y_ln_sI, y_ln_sL, y_ln_sR, y_ln_cpI, y_ln_cpL, y_sz_sI, y_sz_sL, y_sz_sR, y_sz_cpI, y_sz_cpL, y_sl_sI, y_sl_sL, y_sl_sR, y_sl_cpI, y_sl_cpL, y_gI_sL, y_gI_sR, y_gI_cpI, y_gI_cpL, y_gI_nw, y_gL_sI, y_gL_sR, y_gL_cpI, y_gL_cpL, y_gL_nw, y_gR_sI, y_gR_sL, y_gR_cpI, y_gR_cpL, y_gR_nw, y_kd_nw, y_ln_nw, y_sz_nw, y_sl_nw, y_fx_int, y_fx_long, y_fx_ref, y_fx_null, y_fx_U, y_rf_s, y_rf_n, a_inb, a_ix, a_lt, a_eq, a_eq0, a_lt0, a_0lt, a_m1, a_m2, a_mlt, a_sub, a_dec, a_div, a_rem, a_shl, a_shr, a_bit, a_bit0, a_II, a_Ia, a_Ik, a_LL, a_La, a_Lk, a_RR, a_Ra, a_Rk, a_if0, a_if1, y_mul, y_and, y_or, nI_add, y_b1, y_b0, kon_v, kon_0, true_or, or_true, and_self, true_and, and_true, false_or, or_false, and_false, false_and, not_true_eq_false, not_false_eq_true, ite_self, ↓reduceIte, Nat.reduceEqDiff, Nat.reduceLeDiff, Nat.reduceAdd, Nat.reduceMul, Nat.reduceSub, Nat.reduceLT, Nat.reduceShiftLeft, Nat.reduceOr, Nat.reduceAnd, Bool.false_eq_true, Nat.lt_irrefl, nxt]
    | succ k ih =>
      intro w hw
      have hlt : (w < 8) = True := eq_true (by omega)
      unfold nxt
      by_cases z : s.testBit w = true
      · rw [if_pos z]
        simp (disch := omega) only [s_Mo_nextWay_0, s_Mo_nextWay_1, s_Mo_nextWay_4, s_Mo_nextWay_7, s_Mo_nextWay_9, s_Mo_nextWay_10, s_Mo_nextWay_11, s_Mo_nextWay_14, s_Mo_nextWay_17, s_Mo_nextWay_18, s_Mo_nextWay_19, s_Mo_nextWay_20, s_Mo_nextWay_23, s_Mo_nextWay_24, s_Mo_nextWay_27, s_Mo_nextWay_28, s_Mo_nextWay_29, s_Mo_nextWay_30, s_Mo_nextWay_31, s_Mo_nextWay_32, s_Mo_nextWay_34, s_Mo_nextWay_37, s_Mo_nextWay_38, s_Mo_nextWay_41, s_Mo_nextWay_42, s_Mo_nextWay_45, s_Mo_nextWay_46, s_Mo_nextWay_47, s_Mo_nextWay_48, s_Mo_nextWay_49, s_Mo_nextWay_50, s_Mo_nextWay_51, s_Mo_nextWay_52, s_Mo_nextWay_55, s_Mo_nextWay_58, s_Mo_nextWay_61, s_Mo_nextWay_62, y_kd_sI, y_kd_sL, y_kd_sR, y_kd_cpI, y_kd_cpL, y_ln_sI, y_ln_sL, y_ln_sR, y_ln_cpI, y_ln_cpL, y_sz_sI, y_sz_sL, y_sz_sR, y_sz_cpI, y_sz_cpL, y_sl_sI, y_sl_sL, y_sl_sR, y_sl_cpI, y_sl_cpL, y_gI_sL, y_gI_sR, y_gI_cpI, y_gI_cpL, y_gI_nw, y_gL_sI, y_gL_sR, y_gL_cpI, y_gL_cpL, y_gL_nw, y_gR_sI, y_gR_sL, y_gR_cpI, y_gR_cpL, y_gR_nw, y_kd_nw, y_ln_nw, y_sz_nw, y_sl_nw, y_fx_int, y_fx_long, y_fx_ref, y_fx_null, y_fx_U, y_rf_s, y_rf_n, a_inb, a_ix, a_lt, a_eq, a_eq0, a_lt0, a_0lt, a_m1, a_m2, a_mlt, a_sub, a_dec, a_div, a_rem, a_shl, a_shr, a_bit, a_bit0, a_II, a_Ia, a_Ik, a_LL, a_La, a_Lk, a_RR, a_Ra, a_Rk, a_if0, a_if1, y_mul, y_and, y_or, nI_add, y_b1, y_b0, kon_v, kon_0, true_or, or_true, and_self, true_and, and_true, false_or, or_false, and_false, false_and, not_true_eq_false, not_false_eq_true, ite_self, ↓reduceIte, Nat.reduceEqDiff, Nat.reduceLeDiff, Nat.reduceAdd, Nat.reduceMul, Nat.reduceSub, Nat.reduceLT, Nat.reduceShiftLeft, Nat.reduceOr, Nat.reduceAnd, Bool.false_eq_true, mo_k ho, mo_r0 ho, mo_k0 ho, mo_l0 ho, mo_r1 ho, mo_k1 ho, mo_l1 ho, mo_r2 ho, mo_k2 ho, mo_l2 ho, mo_r3 ho, mo_k3 ho, mo_l3 ho, mo_r4 ho, mo_k4 ho, mo_l4 ho, mo_r5 ho, mo_k5 ho, mo_l5 ho, mo_r6 ho, mo_k6 ho, mo_l6 ho, mo_r8 ho, mo_k8 ho, mo_l8 ho, mo_r10 ho, mo_k10 ho, mo_l10 ho, mo_r11 ho, mo_k11 ho, mo_l11 ho, mo_r12 ho, mo_k12 ho, mo_l12 ho, mo_r13 ho, mo_k13 ho, mo_l13 ho, mo_r14 ho, mo_k14 ho, mo_l14 ho, mo_r16 ho, mo_k16 ho, mo_l16 ho, mo_r17 ho, mo_k17 ho, mo_l17 ho, mo_r18 ho, mo_k18 ho, mo_l18 ho, mo_r19 ho, mo_k19 ho, mo_l19 ho, mo_r20 ho, mo_k20 ho, mo_l20 ho, mo_r21 ho, mo_k21 ho, mo_l21 ho, mo_r22 ho, mo_k22 ho, mo_l22 ho, mo_r23 ho, mo_k23 ho, mo_l23 ho, mo_r24 ho, mo_k24 ho, mo_l24 ho, mo_r25 ho, mo_k25 ho, mo_l25 ho, mo_r26 ho, mo_k26 ho, mo_l26 ho, mo_r29 ho, mo_k29 ho, mo_l29 ho, mo_r30 ho, mo_k30 ho, mo_l30 ho, mo_r36 ho, mo_k36 ho, mo_l36 ho, mo_r37 ho, mo_k37 ho, mo_l37 ho, mo_r49 ho, mo_k49 ho, mo_l49 ho, mo_r50 ho, mo_k50 ho, mo_l50 ho, mo_r51 ho, mo_k51 ho, mo_l51 ho, mo_r56 ho, mo_k56 ho, mo_l56 ho, mo_r62 ho, mo_k62 ho, mo_l62 ho, mo_r63 ho, mo_k63 ho, mo_l63 ho, mo_r66 ho, mo_k66 ho, mo_l66 ho, mo_row ho, mo_rowk ho, mo_rowl ho, mo_set ho, mo_setk ho, mo_setl ho, h1, h3, hlt, z]
      · rw [if_neg z, ← ih (w + 1) (by omega), s_Mo_nextWay_31]
        simp (disch := omega) only [s_Mo_nextWay_0, s_Mo_nextWay_1, s_Mo_nextWay_4, s_Mo_nextWay_7, s_Mo_nextWay_9, s_Mo_nextWay_10, s_Mo_nextWay_11, s_Mo_nextWay_14, s_Mo_nextWay_17, s_Mo_nextWay_18, s_Mo_nextWay_19, s_Mo_nextWay_20, s_Mo_nextWay_23, s_Mo_nextWay_24, s_Mo_nextWay_27, s_Mo_nextWay_28, s_Mo_nextWay_29, s_Mo_nextWay_30, s_Mo_nextWay_32, s_Mo_nextWay_34, s_Mo_nextWay_37, s_Mo_nextWay_38, s_Mo_nextWay_41, s_Mo_nextWay_42, s_Mo_nextWay_45, s_Mo_nextWay_46, s_Mo_nextWay_47, s_Mo_nextWay_48, s_Mo_nextWay_49, s_Mo_nextWay_50, s_Mo_nextWay_51, s_Mo_nextWay_52, s_Mo_nextWay_55, s_Mo_nextWay_58, s_Mo_nextWay_61, s_Mo_nextWay_62, y_kd_sI, y_kd_sL, y_kd_sR, y_kd_cpI, y_kd_cpL, y_ln_sI, y_ln_sL, y_ln_sR, y_ln_cpI, y_ln_cpL, y_sz_sI, y_sz_sL, y_sz_sR, y_sz_cpI, y_sz_cpL, y_sl_sI, y_sl_sL, y_sl_sR, y_sl_cpI, y_sl_cpL, y_gI_sL, y_gI_sR, y_gI_cpI, y_gI_cpL, y_gI_nw, y_gL_sI, y_gL_sR, y_gL_cpI, y_gL_cpL, y_gL_nw, y_gR_sI, y_gR_sL, y_gR_cpI, y_gR_cpL, y_gR_nw, y_kd_nw, y_ln_nw, y_sz_nw, y_sl_nw, y_fx_int, y_fx_long, y_fx_ref, y_fx_null, y_fx_U, y_rf_s, y_rf_n, a_inb, a_ix, a_lt, a_eq, a_eq0, a_lt0, a_0lt, a_m1, a_m2, a_mlt, a_sub, a_dec, a_div, a_rem, a_shl, a_shr, a_bit, a_bit0, a_II, a_Ia, a_Ik, a_LL, a_La, a_Lk, a_RR, a_Ra, a_Rk, a_if0, a_if1, y_mul, y_and, y_or, nI_add, y_b1, y_b0, kon_v, kon_0, true_or, or_true, and_self, true_and, and_true, false_or, or_false, and_false, false_and, not_true_eq_false, not_false_eq_true, ite_self, ↓reduceIte, Nat.reduceEqDiff, Nat.reduceLeDiff, Nat.reduceAdd, Nat.reduceMul, Nat.reduceSub, Nat.reduceLT, Nat.reduceShiftLeft, Nat.reduceOr, Nat.reduceAnd, Bool.false_eq_true, mo_k ho, mo_r0 ho, mo_k0 ho, mo_l0 ho, mo_r1 ho, mo_k1 ho, mo_l1 ho, mo_r2 ho, mo_k2 ho, mo_l2 ho, mo_r3 ho, mo_k3 ho, mo_l3 ho, mo_r4 ho, mo_k4 ho, mo_l4 ho, mo_r5 ho, mo_k5 ho, mo_l5 ho, mo_r6 ho, mo_k6 ho, mo_l6 ho, mo_r8 ho, mo_k8 ho, mo_l8 ho, mo_r10 ho, mo_k10 ho, mo_l10 ho, mo_r11 ho, mo_k11 ho, mo_l11 ho, mo_r12 ho, mo_k12 ho, mo_l12 ho, mo_r13 ho, mo_k13 ho, mo_l13 ho, mo_r14 ho, mo_k14 ho, mo_l14 ho, mo_r16 ho, mo_k16 ho, mo_l16 ho, mo_r17 ho, mo_k17 ho, mo_l17 ho, mo_r18 ho, mo_k18 ho, mo_l18 ho, mo_r19 ho, mo_k19 ho, mo_l19 ho, mo_r20 ho, mo_k20 ho, mo_l20 ho, mo_r21 ho, mo_k21 ho, mo_l21 ho, mo_r22 ho, mo_k22 ho, mo_l22 ho, mo_r23 ho, mo_k23 ho, mo_l23 ho, mo_r24 ho, mo_k24 ho, mo_l24 ho, mo_r25 ho, mo_k25 ho, mo_l25 ho, mo_r26 ho, mo_k26 ho, mo_l26 ho, mo_r29 ho, mo_k29 ho, mo_l29 ho, mo_r30 ho, mo_k30 ho, mo_l30 ho, mo_r36 ho, mo_k36 ho, mo_l36 ho, mo_r37 ho, mo_k37 ho, mo_l37 ho, mo_r49 ho, mo_k49 ho, mo_l49 ho, mo_r50 ho, mo_k50 ho, mo_l50 ho, mo_r51 ho, mo_k51 ho, mo_l51 ho, mo_r56 ho, mo_k56 ho, mo_l56 ho, mo_r62 ho, mo_k62 ho, mo_l62 ho, mo_r63 ho, mo_k63 ho, mo_l63 ho, mo_r66 ho, mo_k66 ho, mo_l66 ho, mo_row ho, mo_rowk ho, mo_rowl ho, mo_set ho, mo_setk ho, mo_setl ho, h1, h3, hlt, z]
  rw [n_Mo_nextWay]
  simp (disch := omega) only [s_Mo_nextWay_0, s_Mo_nextWay_1, s_Mo_nextWay_4, s_Mo_nextWay_7, s_Mo_nextWay_9, s_Mo_nextWay_10, s_Mo_nextWay_11, s_Mo_nextWay_14, s_Mo_nextWay_17, s_Mo_nextWay_18, s_Mo_nextWay_19, s_Mo_nextWay_20, s_Mo_nextWay_23, s_Mo_nextWay_24, s_Mo_nextWay_27, s_Mo_nextWay_28, s_Mo_nextWay_29, s_Mo_nextWay_30, s_Mo_nextWay_32, s_Mo_nextWay_34, s_Mo_nextWay_37, s_Mo_nextWay_38, s_Mo_nextWay_41, s_Mo_nextWay_42, s_Mo_nextWay_45, s_Mo_nextWay_46, s_Mo_nextWay_47, s_Mo_nextWay_48, s_Mo_nextWay_49, s_Mo_nextWay_50, s_Mo_nextWay_51, s_Mo_nextWay_52, s_Mo_nextWay_55, s_Mo_nextWay_58, s_Mo_nextWay_61, s_Mo_nextWay_62, y_kd_sI, y_kd_sL, y_kd_sR, y_kd_cpI, y_kd_cpL, y_ln_sI, y_ln_sL, y_ln_sR, y_ln_cpI, y_ln_cpL, y_sz_sI, y_sz_sL, y_sz_sR, y_sz_cpI, y_sz_cpL, y_sl_sI, y_sl_sL, y_sl_sR, y_sl_cpI, y_sl_cpL, y_gI_sL, y_gI_sR, y_gI_cpI, y_gI_cpL, y_gI_nw, y_gL_sI, y_gL_sR, y_gL_cpI, y_gL_cpL, y_gL_nw, y_gR_sI, y_gR_sL, y_gR_cpI, y_gR_cpL, y_gR_nw, y_kd_nw, y_ln_nw, y_sz_nw, y_sl_nw, y_fx_int, y_fx_long, y_fx_ref, y_fx_null, y_fx_U, y_rf_s, y_rf_n, a_inb, a_ix, a_lt, a_eq, a_eq0, a_lt0, a_0lt, a_m1, a_m2, a_mlt, a_sub, a_dec, a_div, a_rem, a_shl, a_shr, a_bit, a_bit0, a_II, a_Ia, a_Ik, a_LL, a_La, a_Lk, a_RR, a_Ra, a_Rk, a_if0, a_if1, y_mul, y_and, y_or, nI_add, y_b1, y_b0, kon_v, kon_0, true_or, or_true, and_self, true_and, and_true, false_or, or_false, and_false, false_and, not_true_eq_false, not_false_eq_true, ite_self, ↓reduceIte, Nat.reduceEqDiff, Nat.reduceLeDiff, Nat.reduceAdd, Nat.reduceMul, Nat.reduceSub, Nat.reduceLT, Nat.reduceShiftLeft, Nat.reduceOr, Nat.reduceAnd, Bool.false_eq_true, mo_k ho, mo_r0 ho, mo_k0 ho, mo_l0 ho, mo_r1 ho, mo_k1 ho, mo_l1 ho, mo_r2 ho, mo_k2 ho, mo_l2 ho, mo_r3 ho, mo_k3 ho, mo_l3 ho, mo_r4 ho, mo_k4 ho, mo_l4 ho, mo_r5 ho, mo_k5 ho, mo_l5 ho, mo_r6 ho, mo_k6 ho, mo_l6 ho, mo_r8 ho, mo_k8 ho, mo_l8 ho, mo_r10 ho, mo_k10 ho, mo_l10 ho, mo_r11 ho, mo_k11 ho, mo_l11 ho, mo_r12 ho, mo_k12 ho, mo_l12 ho, mo_r13 ho, mo_k13 ho, mo_l13 ho, mo_r14 ho, mo_k14 ho, mo_l14 ho, mo_r16 ho, mo_k16 ho, mo_l16 ho, mo_r17 ho, mo_k17 ho, mo_l17 ho, mo_r18 ho, mo_k18 ho, mo_l18 ho, mo_r19 ho, mo_k19 ho, mo_l19 ho, mo_r20 ho, mo_k20 ho, mo_l20 ho, mo_r21 ho, mo_k21 ho, mo_l21 ho, mo_r22 ho, mo_k22 ho, mo_l22 ho, mo_r23 ho, mo_k23 ho, mo_l23 ho, mo_r24 ho, mo_k24 ho, mo_l24 ho, mo_r25 ho, mo_k25 ho, mo_l25 ho, mo_r26 ho, mo_k26 ho, mo_l26 ho, mo_r29 ho, mo_k29 ho, mo_l29 ho, mo_r30 ho, mo_k30 ho, mo_l30 ho, mo_r36 ho, mo_k36 ho, mo_l36 ho, mo_r37 ho, mo_k37 ho, mo_l37 ho, mo_r49 ho, mo_k49 ho, mo_l49 ho, mo_r50 ho, mo_k50 ho, mo_l50 ho, mo_r51 ho, mo_k51 ho, mo_l51 ho, mo_r56 ho, mo_k56 ho, mo_l56 ho, mo_r62 ho, mo_k62 ho, mo_l62 ho, mo_r63 ho, mo_k63 ho, mo_l63 ho, mo_r66 ho, mo_k66 ho, mo_l66 ho, mo_row ho, mo_rowk ho, mo_rowl ho, mo_set ho, mo_setk ho, mo_setl ho, h1, h2, q_Mo_lesserOf hL, q_Mo_greaterOf hL, ep, e1]
  unfold nx
  exact loop (8 - T) T (by omega)
theorem rLv.at {F : Nat → Nat → Nat} {k L : Nat} (hn : n ≤ 10) (hr : rLv h m n F k) (hk : L < k) (hL : L < n * (n - 1) / 2) : gI h (m + 36 + L) (pP L) = nI (F L (pP L)) ∧ F L (pP L) < 256 := by
  obtain ⟨G, g1, g2, g3⟩ := hr L hk
  have h45 := pn_le hn
  obtain ⟨p1, p2⟩ := pP_lt (show L < 45 by omega)
  have p3 := (pP_n hn (show L < 45 by omega)).2 hL
  have e : pP L = pP L / 10 * 10 + pP L % 10 := by omega
  have k1 := g1 (pP L / 10) (pP L % 10) (by omega) p3
  have k2 := g2 (pP L / 10) (pP L % 10) (by omega) p3 (by omega)
  rw [← e] at k1 k2
  rw [← k2]
  exact k1
theorem c_comeBack {F : Nat → Nat → Nat} {T : Nat → Nat} (hn : n ≤ 10) (hT : ∀ j : Nat, T j ≤ 8) : ∀ (L : Nat) (h : zMem), L < n * (n - 1) / 2 → oMo h m → gI h m 38 = nI L → rLv h m n F (L + 1) → rTr h m T (L + 1) →
    ∃ h' : zMem, chg m (fun k => k = 38) h h' ∧ ((aK F T L = none ∧ call g Mo_comeBack [.ref m] h = some (some (.int (nI 0)), h') ∧ gI h' m 38 = nI 0) ∨ ∃ r : Nat, aK F T L = some r ∧ call g Mo_comeBack [.ref m] h = some (some (.int (nI 1)), h') ∧ gI h' m 38 = nI r) := by
  have h45 := pn_le hn
  intro L
  induction L with
  | zero =>
    intro h hL ho h1 hv ht
    obtain ⟨r1, r2⟩ := hv.at hn (show 0 < 0 + 1 by omega) hL
    have nw := q_Mo_nextWay (g := g) ho (by omega) h1 (ht 0 (by omega)) r1 r2 (hT 0)
    have n8 := (un_0 r2 (hT 0)).2.2
    have a1 := mo_k ho
    unfold aK
    by_cases z : nx (F 0 (pP 0)) (T 0) = 8
    · rw [if_pos z]
      refine ⟨h, chg.rf, Or.inl ⟨rfl, ?_, h1⟩⟩
      have z0 : (nI 0 &&& 1 = nI 0) = True := y_b0
      rw [n_Mo_comeBack]
      simp (disch := omega) only [s_Mo_comeBack_0, s_Mo_comeBack_1, s_Mo_comeBack_4, s_Mo_comeBack_6, s_Mo_comeBack_9, s_Mo_comeBack_10, s_Mo_comeBack_13, s_Mo_comeBack_16, s_Mo_comeBack_17, s_Mo_comeBack_18, s_Mo_comeBack_19, s_Mo_comeBack_20, s_Mo_comeBack_23, s_Mo_comeBack_24, s_Mo_comeBack_25, s_Mo_comeBack_28, s_Mo_comeBack_31, s_Mo_comeBack_32, y_kd_sI, y_kd_sL, y_kd_sR, y_kd_cpI, y_kd_cpL, y_ln_sI, y_ln_sL, y_ln_sR, y_ln_cpI, y_ln_cpL, y_sz_sI, y_sz_sL, y_sz_sR, y_sz_cpI, y_sz_cpL, y_sl_sI, y_sl_sL, y_sl_sR, y_sl_cpI, y_sl_cpL, y_gI_sL, y_gI_sR, y_gI_cpI, y_gI_cpL, y_gI_nw, y_gL_sI, y_gL_sR, y_gL_cpI, y_gL_cpL, y_gL_nw, y_gR_sI, y_gR_sL, y_gR_cpI, y_gR_cpL, y_gR_nw, y_kd_nw, y_ln_nw, y_sz_nw, y_sl_nw, y_fx_int, y_fx_long, y_fx_ref, y_fx_null, y_fx_U, y_rf_s, y_rf_n, a_inb, a_ix, a_lt, a_eq, a_eq0, a_lt0, a_0lt, a_m1, a_m2, a_mlt, a_sub, a_dec, a_div, a_rem, a_shl, a_shr, a_bit, a_bit0, a_II, a_Ia, a_Ik, a_LL, a_La, a_Lk, a_RR, a_Ra, a_Rk, a_if0, a_if1, y_mul, y_and, y_or, nI_add, y_b1, y_b0, kon_v, kon_0, true_or, or_true, and_self, true_and, and_true, false_or, or_false, and_false, false_and, not_true_eq_false, not_false_eq_true, ite_self, ↓reduceIte, Nat.reduceEqDiff, Nat.reduceLeDiff, Nat.reduceAdd, Nat.reduceMul, Nat.reduceSub, Nat.reduceLT, Nat.reduceShiftLeft, Nat.reduceOr, Nat.reduceAnd, Bool.false_eq_true, a1, nw, z, h1, z0]
    · rw [if_neg z]
      refine ⟨h, chg.rf, Or.inr ⟨0, rfl, ?_, h1⟩⟩
      have z0 : (nI 1 &&& 1 = nI 1) = True := y_b1
      have zf := eq_false z
      rw [n_Mo_comeBack]
      simp (disch := omega) only [s_Mo_comeBack_0, s_Mo_comeBack_1, s_Mo_comeBack_4, s_Mo_comeBack_6, s_Mo_comeBack_9, s_Mo_comeBack_10, s_Mo_comeBack_13, s_Mo_comeBack_16, s_Mo_comeBack_17, s_Mo_comeBack_18, s_Mo_comeBack_19, s_Mo_comeBack_20, s_Mo_comeBack_23, s_Mo_comeBack_24, s_Mo_comeBack_25, s_Mo_comeBack_28, s_Mo_comeBack_31, s_Mo_comeBack_32, y_kd_sI, y_kd_sL, y_kd_sR, y_kd_cpI, y_kd_cpL, y_ln_sI, y_ln_sL, y_ln_sR, y_ln_cpI, y_ln_cpL, y_sz_sI, y_sz_sL, y_sz_sR, y_sz_cpI, y_sz_cpL, y_sl_sI, y_sl_sL, y_sl_sR, y_sl_cpI, y_sl_cpL, y_gI_sL, y_gI_sR, y_gI_cpI, y_gI_cpL, y_gI_nw, y_gL_sI, y_gL_sR, y_gL_cpI, y_gL_cpL, y_gL_nw, y_gR_sI, y_gR_sL, y_gR_cpI, y_gR_cpL, y_gR_nw, y_kd_nw, y_ln_nw, y_sz_nw, y_sl_nw, y_fx_int, y_fx_long, y_fx_ref, y_fx_null, y_fx_U, y_rf_s, y_rf_n, a_inb, a_ix, a_lt, a_eq, a_eq0, a_lt0, a_0lt, a_m1, a_m2, a_mlt, a_sub, a_dec, a_div, a_rem, a_shl, a_shr, a_bit, a_bit0, a_II, a_Ia, a_Ik, a_LL, a_La, a_Lk, a_RR, a_Ra, a_Rk, a_if0, a_if1, y_mul, y_and, y_or, nI_add, y_b1, y_b0, kon_v, kon_0, true_or, or_true, and_self, true_and, and_true, false_or, or_false, and_false, false_and, not_true_eq_false, not_false_eq_true, ite_self, ↓reduceIte, Nat.reduceEqDiff, Nat.reduceLeDiff, Nat.reduceAdd, Nat.reduceMul, Nat.reduceSub, Nat.reduceLT, Nat.reduceShiftLeft, Nat.reduceOr, Nat.reduceAnd, Bool.false_eq_true, a1, nw, zf, z0]
  | succ L ih =>
    intro h hL ho h1 hv ht
    obtain ⟨r1, r2⟩ := hv.at hn (show L + 1 < L + 1 + 1 by omega) hL
    have nw := q_Mo_nextWay (g := g) ho (by omega) h1 (ht (L + 1) (by omega)) r1 r2 (hT (L + 1))
    have n8 := (un_0 r2 (hT (L + 1))).2.2
    have a1 := mo_k ho
    unfold aK
    by_cases z : nx (F (L + 1) (pP (L + 1))) (T (L + 1)) = 8
    · rw [if_pos z]
      have s1 : chg m (fun k => k = 38) h (sI h m 38 (nI L)) := chg.I rfl
      have e0 : nI (L + 1) - nI 1 = nI L := y_sub (Nat.le_add_left 1 L)
      obtain ⟨h', s2, k⟩ := ih (sI h m 38 (nI L)) (by omega) (s1.mo ho) a_II (fun j hj => by
        obtain ⟨G, g1, g2, g3⟩ := hv j (by omega)
        exact ⟨G, fun a b ha hb => by rw [a_Ia (by omega)]; exact g1 a b ha hb, g2, g3⟩) (fun j hj => by rw [a_Ia (by omega)]; exact ht j (by omega))
      have go : call g Mo_comeBack [.ref m] h = call g Mo_comeBack [.ref m] (sI h m 38 (nI L)) := by
        rw [n_Mo_comeBack, n_Mo_comeBack, s_Mo_comeBack_0]
        simp (disch := omega) only [s_Mo_comeBack_1, s_Mo_comeBack_4, s_Mo_comeBack_6, s_Mo_comeBack_9, s_Mo_comeBack_10, s_Mo_comeBack_13, s_Mo_comeBack_16, s_Mo_comeBack_17, s_Mo_comeBack_18, s_Mo_comeBack_19, s_Mo_comeBack_20, s_Mo_comeBack_23, s_Mo_comeBack_24, s_Mo_comeBack_25, s_Mo_comeBack_28, s_Mo_comeBack_31, s_Mo_comeBack_32, y_kd_sI, y_kd_sL, y_kd_sR, y_kd_cpI, y_kd_cpL, y_ln_sI, y_ln_sL, y_ln_sR, y_ln_cpI, y_ln_cpL, y_sz_sI, y_sz_sL, y_sz_sR, y_sz_cpI, y_sz_cpL, y_sl_sI, y_sl_sL, y_sl_sR, y_sl_cpI, y_sl_cpL, y_gI_sL, y_gI_sR, y_gI_cpI, y_gI_cpL, y_gI_nw, y_gL_sI, y_gL_sR, y_gL_cpI, y_gL_cpL, y_gL_nw, y_gR_sI, y_gR_sL, y_gR_cpI, y_gR_cpL, y_gR_nw, y_kd_nw, y_ln_nw, y_sz_nw, y_sl_nw, y_fx_int, y_fx_long, y_fx_ref, y_fx_null, y_fx_U, y_rf_s, y_rf_n, a_inb, a_ix, a_lt, a_eq, a_eq0, a_lt0, a_0lt, a_m1, a_m2, a_mlt, a_sub, a_dec, a_div, a_rem, a_shl, a_shr, a_bit, a_bit0, a_II, a_Ia, a_Ik, a_LL, a_La, a_Lk, a_RR, a_Ra, a_Rk, a_if0, a_if1, y_mul, y_and, y_or, nI_add, y_b1, y_b0, kon_v, kon_0, true_or, or_true, and_self, true_and, and_true, false_or, or_false, and_false, false_and, not_true_eq_false, not_false_eq_true, ite_self, ↓reduceIte, Nat.reduceEqDiff, Nat.reduceLeDiff, Nat.reduceAdd, Nat.reduceMul, Nat.reduceSub, Nat.reduceLT, Nat.reduceShiftLeft, Nat.reduceOr, Nat.reduceAnd, Bool.false_eq_true, a1, nw, z, h1, e0]
      refine ⟨h', s1.tr s2, ?_⟩
      rw [go]
      exact k
    · rw [if_neg z]
      refine ⟨h, chg.rf, Or.inr ⟨L + 1, rfl, ?_, h1⟩⟩
      have z0 : (nI 1 &&& 1 = nI 1) = True := y_b1
      have zf := eq_false z
      rw [n_Mo_comeBack]
      simp (disch := omega) only [s_Mo_comeBack_0, s_Mo_comeBack_1, s_Mo_comeBack_4, s_Mo_comeBack_6, s_Mo_comeBack_9, s_Mo_comeBack_10, s_Mo_comeBack_13, s_Mo_comeBack_16, s_Mo_comeBack_17, s_Mo_comeBack_18, s_Mo_comeBack_19, s_Mo_comeBack_20, s_Mo_comeBack_23, s_Mo_comeBack_24, s_Mo_comeBack_25, s_Mo_comeBack_28, s_Mo_comeBack_31, s_Mo_comeBack_32, y_kd_sI, y_kd_sL, y_kd_sR, y_kd_cpI, y_kd_cpL, y_ln_sI, y_ln_sL, y_ln_sR, y_ln_cpI, y_ln_cpL, y_sz_sI, y_sz_sL, y_sz_sR, y_sz_cpI, y_sz_cpL, y_sl_sI, y_sl_sL, y_sl_sR, y_sl_cpI, y_sl_cpL, y_gI_sL, y_gI_sR, y_gI_cpI, y_gI_cpL, y_gI_nw, y_gL_sI, y_gL_sR, y_gL_cpI, y_gL_cpL, y_gL_nw, y_gR_sI, y_gR_sL, y_gR_cpI, y_gR_cpL, y_gR_nw, y_kd_nw, y_ln_nw, y_sz_nw, y_sl_nw, y_fx_int, y_fx_long, y_fx_ref, y_fx_null, y_fx_U, y_rf_s, y_rf_n, a_inb, a_ix, a_lt, a_eq, a_eq0, a_lt0, a_0lt, a_m1, a_m2, a_mlt, a_sub, a_dec, a_div, a_rem, a_shl, a_shr, a_bit, a_bit0, a_II, a_Ia, a_Ik, a_LL, a_La, a_Lk, a_RR, a_Ra, a_Rk, a_if0, a_if1, y_mul, y_and, y_or, nI_add, y_b1, y_b0, kon_v, kon_0, true_or, or_true, and_self, true_and, and_true, false_or, or_false, and_false, false_and, not_true_eq_false, not_false_eq_true, ite_self, ↓reduceIte, Nat.reduceEqDiff, Nat.reduceLeDiff, Nat.reduceAdd, Nat.reduceMul, Nat.reduceSub, Nat.reduceLT, Nat.reduceShiftLeft, Nat.reduceOr, Nat.reduceAnd, Bool.false_eq_true, a1, nw, zf, z0]
end ZMR
