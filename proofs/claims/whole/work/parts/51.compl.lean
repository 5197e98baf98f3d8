/-! a search ends only where there is no telling -/
theorem nxt_le {s w : Nat} (h : s.testBit w = true) : ∀ k w0 : Nat, w0 ≤ w → w < w0 + k → nxt s k w0 ≤ w
  | 0, w0, h1, h2 => by omega
  | k + 1, w0, h1, h2 => by
    unfold nxt
    split
    · exact h1
    · rename_i c
      by_cases e : w = w0
      · exact absurd (e ▸ h) c
      · exact nxt_le h k (w0 + 1) (by omega) (by omega)
theorem nx_le {s T w : Nat} (h : s.testBit w = true) (hw : w < 8) (hT : T ≤ w) : nx s T ≤ w := nxt_le h (8 - T) T hT (by omega)
theorem aK_ex {F : Nat → Nat → Nat} {T : Nat → Nat} {j : Nat} (h : ¬ nx (F j (pP j)) (T j) = 8) : ∀ L : Nat, j ≤ L → ∃ r : Nat, aK F T L = some r ∧ j ≤ r
  | 0, hj => by
    have e : j = 0 := by omega
    subst e
    exact ⟨0, by unfold aK; rw [if_neg h], Nat.le_refl _⟩
  | L + 1, hj => by
    unfold aK
    by_cases c : nx (F (L + 1) (pP (L + 1))) (T (L + 1)) = 8
    · rw [if_pos c]
      have : j ≤ L := by
        rcases Nat.lt_or_ge L j with d | d
        · have e : j = L + 1 := by omega
          subst e
          exact absurd c h
        · exact d
      exact aK_ex h L this
    · rw [if_neg c]
      exact ⟨L + 1, rfl, hj⟩
/-- a telling: closed, one way for each two -/
def tlg (n : Nat) (H : Nat → Nat) : Prop := clo n H ∧ whl n H ∧ symF n H ∧ ∀ k : Nat, k < n * (n - 1) / 2 → ∃ w : Nat, w < 8 ∧ H (pP k) = 2 ^ w
def tIn (n : Nat) (H : Nat → Nat) (A : aA) : Prop := ∃ j : Nat, j ≤ aL A ∧ sub n H (aF A j) ∧ (j < n * (n - 1) / 2 → ∀ w : Nat, H (pP j) = 2 ^ w → aT A j ≤ w)
theorem whl_up {n : Nat} {H G : Nat → Nat} (h : sub n H G) (hw : whl n H) : whl n G := fun a b ha hb hab e => by
  obtain ⟨i, hi⟩ := ne0_bit.1 (hw a b ha hb hab)
  have := h a b ha hb hab i hi
  rw [e, Nat.zero_testBit] at this
  exact absurd this (by decide)
theorem sub_ls {n p w : Nat} {H F : Nat → Nat} (hn : n ≤ 10) (hs : sub n H F) (hy : symF n H) (h1 : p / 10 < p % 10) (h2 : p % 10 < n) (e : H p = 2 ^ w) (h8 : F p < 256) : sub n H (lsF F p w) := by
  have ep : p / 10 * 10 + p % 10 = p := by omega
  have hp : (F p).testBit w = true := by
    have := hs (p / 10) (p % 10) (by omega) h2 (by omega) w
    rw [ep, e] at this
    exact this Nat.testBit_two_pow_self
  have ea : F p &&& 2 ^ w = 2 ^ w := by
    apply Nat.eq_of_testBit_eq
    intro i
    rw [Nat.testBit_and, Nat.testBit_two_pow]
    by_cases c : w = i
    · subst c
      rw [hp]; rfl
    · rw [decide_eq_false c, Bool.and_false]
  intro a b ha hb hab
  unfold lsF pAt
  rw [ea]
  by_cases c1 : a * 10 + b = p % 10 * 10 + p / 10
  · rw [if_pos c1]
    have q1 : a = p % 10 := by omega
    have q2 : b = p / 10 := by omega
    have := hy b a hb ha (fun d => hab d.symm)
    rw [this, show b * 10 + a = p by omega, e]
    exact sb.rf _
  · rw [if_neg c1]
    by_cases c2 : a * 10 + b = p
    · rw [if_pos c2, c2, e]
      exact sb.rf _
    · rw [if_neg c2]
      exact hs a b ha hb hab
theorem tIn_step {n : Nat} {H : Nat → Nat} {A : aA} (hn : n ≤ 10) (ht : tlg n H) (hA : aOK n A) (h0 : aS A = 0) (h : tIn n H A) : tIn n H (aStep n A) ∧ ¬ aS (aStep n A) = 2 := by
  obtain ⟨t1, t2, t3, t4⟩ := ht
  obtain ⟨A1, A2, A3, A4, A5, A6, A7, A8, A9, A10⟩ := hA
  obtain ⟨g1, g2⟩ := A7 (Or.inl h0)
  have h45 := pn_le hn
  have F0 := A6 (by omega) (by omega) (aL A) (Nat.le_refl _)
  obtain ⟨p1, p2⟩ := pP_lt (show aL A < 45 by omega)
  have p3 := (pP_n hn (show aL A < 45 by omega)).2 g1
  have f8 := (fOK_at hn g1 F0).1
  obtain ⟨j, hj, s, tj⟩ := h
  obtain ⟨wj, hwj, ewj⟩ := t4 j (by omega)
  have tj := tj (by omega) wj ewj
  -- the way is still left at level j
  have bj : (aF A j (pP j)).testBit wj = true := by
    obtain ⟨q1, q2⟩ := pP_lt (show j < 45 by omega)
    have q3 := (pP_n hn (show j < 45 by omega)).2 (by omega)
    have ep : pP j / 10 * 10 + pP j % 10 = pP j := by omega
    have := s (pP j / 10) (pP j % 10) (by omega) q3 (by omega) wj
    rw [ep, ewj] at this
    exact this Nat.testBit_two_pow_self
  have lj : low n (lsF (aF A (aL A)) (pP (aL A)) (nx (aF A (aL A) (pP (aL A))) (aT A (aL A)))) := lsF_low F0.2.2 f8
  unfold aStep
  generalize hwq : nx (aF A (aL A) (pP (aL A))) (aT A (aL A)) = w at g2 lj ⊢
  have keep : (¬ (j = aL A ∧ wj = w)) → ∀ T' : Nat → Nat, (∀ i : Nat, i ≤ aL A → T' i = up (aT A) (aL A) (w + 1) i) → T' j ≤ wj := fun c T' hT => by
    rw [hT j hj]
    by_cases e : j = aL A
    · have wl : w ≤ wj := by
        rw [← hwq, ← e]
        exact nx_le bj hwj tj
      rw [e, up_s]
      have : ¬ wj = w := fun d => c ⟨e, d⟩
      omega
    · rw [up_n e]
      exact tj
  by_cases hw : whl n (gc n (lsF (aF A (aL A)) (pP (aL A)) w))
  · rw [tst_t hw]
    by_cases c : j = aL A ∧ wj = w
    · obtain ⟨e, ew⟩ := c
      subst ew
      rw [e] at ewj s
      have sg := gc_max hn lj (sub_ls hn s t3 p1 p3 ewj f8) t1
      split
      · rename_i z
        refine ⟨⟨aL A + 1, Nat.le_refl _, ?_, fun d => by omega⟩, by show ¬ (1 : Nat) = 2; decide⟩
        show sub n H (up (aF A) (aL A + 1) _ (aL A + 1))
        rw [up_s]; exact sg
      · refine ⟨⟨aL A + 1, Nat.le_refl _, ?_, fun _ w _ => ?_⟩, by show ¬ (if aC A + 1 = 20000 then 3 else 0) = 2; split <;> decide⟩
        · show sub n H (up (aF A) (aL A + 1) _ (aL A + 1))
          rw [up_s]; exact sg
        · show up (up (aT A) (aL A) _) (aL A + 1) 0 (aL A + 1) ≤ w
          rw [up_s]; exact Nat.zero_le _
    · have un : ∀ w' : Nat, H (pP j) = 2 ^ w' → w' = wj := fun w' e => (Nat.pow_right_inj (a := 2) (by decide)).1 (by rw [← e, ewj])
      have ej : ¬ j = aL A + 1 := by omega
      split
      · refine ⟨⟨j, by show j ≤ aL A + 1; omega, ?_, fun _ w' e => ?_⟩, by show ¬ (1 : Nat) = 2; decide⟩
        · show sub n H (up (aF A) (aL A + 1) _ j)
          rw [up_n ej]; exact s
        · rw [un w' e]
          exact keep c _ (fun i _ => rfl)
      · refine ⟨⟨j, by show j ≤ aL A + 1; omega, ?_, fun _ w' e => ?_⟩, by show ¬ (if aC A + 1 = 20000 then 3 else 0) = 2; split <;> decide⟩
        · show sub n H (up (aF A) (aL A + 1) _ j)
          rw [up_n ej]; exact s
        · rw [un w' e]
          exact keep c (up (up (aT A) (aL A) (w + 1)) (aL A + 1) 0) (fun i hi => up_n (by omega))
  · rw [tst_f hw]
    have c : ¬ (j = aL A ∧ wj = w) := fun c => by
      obtain ⟨e, ew⟩ := c
      subst ew
      rw [e] at ewj s
      exact hw (whl_up (gc_max hn lj (sub_ls hn s t3 p1 p3 ewj f8) t1) t2)
    have k := keep c (up (aT A) (aL A) (w + 1)) (fun i _ => rfl)
    have nk : ¬ nx (aF A j (pP j)) (up (aT A) (aL A) (w + 1) j) = 8 := by
      have := nx_le bj hwj k
      omega
    have un : ∀ w' : Nat, H (pP j) = 2 ^ w' → w' = wj := fun w' e => (Nat.pow_right_inj (a := 2) (by decide)).1 (by rw [← e, ewj])
    obtain ⟨r, er, hr⟩ := aK_ex nk (aL A) hj
    rw [er]
    refine ⟨⟨j, hr, s, fun _ w' e => ?_⟩, by show ¬ (if aC A + 1 = 20000 then 3 else 0) = 2; split <;> decide⟩
    rw [un w' e]
    exact k
theorem tIn_run {n : Nat} {H : Nat → Nat} (hn : n ≤ 10) (ht : tlg n H) : ∀ (k : Nat) (A : aA), aOK n A → ¬ aS A = 2 → tIn n H A → ¬ aS (aRun n k A) = 2
  | 0, A, _, h2, _ => h2
  | k + 1, A, hA, h2, h => by
    unfold aRun
    by_cases z : aS A = 0
    · rw [if_pos z]
      obtain ⟨a, b⟩ := tIn_step hn ht hA z h
      exact tIn_run hn ht k _ (aOK_step hn hA z) b a
    · rw [if_neg z]
      exact h2
theorem open_tl {n : Nat} {H S : Nat → Nat} (hn : n ≤ 10) (hS : low n S) (ht : tlg n H) (h : sub n H S) (k : Nat) : ¬ aS (aRun n k (aOpen n S)) = 2 := by
  have sg := gc_max hn hS h ht.1
  refine tIn_run hn ht k _ (aOK_open hn hS) ?_ ⟨0, Nat.le_refl _, sg, fun _ w _ => Nat.zero_le _⟩
  show ¬ (if n * (n - 1) / 2 = 0 then 1 else tst (whl n (gc n S)) 0 2) = 2
  split
  · decide
  · rw [tst_t (whl_up sg ht.2.1)]
    decide
/-- every level lies within what was begun with -/
def aIS (n : Nat) (S : Nat → Nat) (A : aA) : Prop := ∀ i : Nat, i ≤ aL A → sub n (aF A i) S
theorem ls_sub {n p w : Nat} {F : Nat → Nat} (hn : n ≤ 10) (h1 : p / 10 < p % 10) (h2 : p % 10 < n) (h8 : F p < 256) (hy : symF n F) : sub n (lsF F p w) F := by
  intro a b ha hb hab
  unfold lsF pAt
  by_cases c1 : a * 10 + b = p % 10 * 10 + p / 10
  · rw [if_pos c1]
    have := hy b a hb ha (fun d => hab d.symm)
    rw [show b * 10 + a = p by omega] at this
    rw [this]
    exact sb_tur (Nat.lt_of_le_of_lt Nat.and_le_left h8) h8 (sb_l _ _)
  · rw [if_neg c1]
    by_cases c2 : a * 10 + b = p
    · rw [if_pos c2, c2]
      exact sb_l _ _
    · rw [if_neg c2]
      exact sb.rf _
theorem aIS_step {n : Nat} {S : Nat → Nat} {A : aA} (hn : n ≤ 10) (hA : aOK n A) (hy : aSy n A) (h0 : aS A = 0) (h : aIS n S A) : aIS n S (aStep n A) := by
  obtain ⟨A1, A2, A3, A4, A5, A6, A7, A8, A9, A10⟩ := hA
  obtain ⟨g1, g2⟩ := A7 (Or.inl h0)
  have h45 := pn_le hn
  have F0 := A6 (by omega) (by omega) (aL A) (Nat.le_refl _)
  obtain ⟨p1, p2⟩ := pP_lt (show aL A < 45 by omega)
  have p3 := (pP_n hn (show aL A < 45 by omega)).2 g1
  have f8 := (fOK_at hn g1 F0).1
  have sg := ((gc_sub hn).tr (ls_sub (w := nx (aF A (aL A) (pP (aL A))) (aT A (aL A))) hn p1 p3 f8 (hy _ (Nat.le_refl _)))).tr (h _ (Nat.le_refl _))
  have hU : ∀ j : Nat, j ≤ aL A + 1 → sub n (up (aF A) (aL A + 1) (gc n (lsF (aF A (aL A)) (pP (aL A)) (nx (aF A (aL A) (pP (aL A))) (aT A (aL A))))) j) S := fun j hj => by
    unfold up
    split
    · exact sg
    · exact h j (by omega)
  unfold aStep
  by_cases hw : whl n (gc n (lsF (aF A (aL A)) (pP (aL A)) (nx (aF A (aL A) (pP (aL A))) (aT A (aL A)))))
  · rw [tst_t hw]
    split
    · exact hU
    · exact hU
  · rw [tst_f hw]
    cases e : aK (aF A) (up (aT A) (aL A) (nx (aF A (aL A) (pP (aL A))) (aT A (aL A)) + 1)) (aL A) with
    | none => exact fun i hi => h i (Nat.le_trans hi (Nat.zero_le _))
    | some r => exact fun i hi => h i (Nat.le_trans hi (aK_le _ r e).1)
theorem aIS_run {n : Nat} {S : Nat → Nat} (hn : n ≤ 10) : ∀ (k : Nat) (A : aA), aOK n A → aSy n A → aIS n S A → aIS n S (aRun n k A)
  | 0, A, _, _, h => h
  | k + 1, A, hA, hy, h => by
    unfold aRun
    split
    · exact aIS_run hn k _ (aOK_step hn hA ‹_›) (aSy_step hn hA ‹_› hy) (aIS_step hn hA hy ‹_› h)
    · exact h
/-- a telling found is one -/
theorem found_tlg {n : Nat} {S : Nat → Nat} (hn : n ≤ 10) (hS : low n S) (hy : symF n S) (k : Nat) (h1 : aS (aRun n k (aOpen n S)) = 1) (hP : 0 < n * (n - 1) / 2) : ∃ H : Nat → Nat, tlg n H ∧ sub n H S := by
  have a0 := aOK_open hn hS
  have A1 := aOK_run (A := aOpen n S) hn k _ a0
  have A2 := aSy_run hn k _ a0 (aSy_open hn hS hy)
  have A3 := aSn_run hn k _ a0 aSn_open
  have A4 := aIS_run (S := S) hn k _ a0 (aSy_open hn hS hy) (fun _ _ => gc_sub hn)
  have hL := A1.2.2.2.2.2.2.2.1 h1
  obtain ⟨f1, f2, f3⟩ := A1.2.2.2.2.2.1 (by rw [h1]; decide) hP _ (Nat.le_refl _)
  exact ⟨_, ⟨f1, f2, A2 _ (Nat.le_refl _), fun k hk => A3 _ (Nat.le_refl _) k (by rw [hL]; exact hk)⟩, A4 _ (Nat.le_refl _)⟩
