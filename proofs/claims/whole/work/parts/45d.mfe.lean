/-! the reference's scratch: its arrays among, cans, tellings, rank, and the numbers that go with them -/
def mfe (m : Nat) (h h' : zMem) : Prop := shp h h' ∧ (∀ b k : Nat, ¬ b = m → (b < m + 86 ∨ m + 89 < b) → gI h' b k = gI h b k) ∧ (∀ k : Nat, (k < 43 ∨ (48 < k ∧ k < 57) ∨ 65 < k) → gI h' m k = gI h m k) ∧ (∀ b k : Nat, ¬ b = m → gL h' b k = gL h b k)
section ZFX
variable {g : Nat → Nat} {B SL m : Nat} {h h' h'' : zMem} {H : zH} {T : zT} {Λ K : zL} {κ : Bool} {ρ ρ' : Nat → Int32}
theorem shp.rf : shp h h := ⟨fun _ => rfl, fun _ => rfl, fun _ _ => rfl, rfl, rfl⟩
theorem mfe.rf : mfe m h h := ⟨shp.rf, fun _ _ _ _ => rfl, fun _ _ => rfl, fun _ _ _ => rfl⟩
theorem mfe.tr (a : mfe m h h') (b : mfe m h' h'') : mfe m h h'' := ⟨shp_tr a.1 b.1, fun x k p q => (b.2.1 x k p q).trans (a.2.1 x k p q), fun k p => (b.2.2.1 k p).trans (a.2.2.1 k p), fun x k p => (b.2.2.2 x k p).trans (a.2.2.2 x k p)⟩
theorem mfe.I {a k : Nat} {v : Int32} (ha : m + 86 ≤ a ∧ a ≤ m + 89) : mfe m h (sI h a k v) := ⟨⟨fun _ => rfl, fun _ => rfl, fun _ _ => rfl, rfl, rfl⟩, fun x j p q => a_Ia (by omega), fun j p => a_Ia (by omega), fun _ _ _ => rfl⟩
theorem mfe.S {k : Nat} {v : Int32} (hk : (43 ≤ k ∧ k ≤ 48) ∨ (57 ≤ k ∧ k ≤ 65)) : mfe m h (sI h m k v) := ⟨⟨fun _ => rfl, fun _ => rfl, fun _ _ => rfl, rfl, rfl⟩, fun x j p q => a_Ia p, fun j p => a_Ik (by omega), fun _ _ _ => rfl⟩
theorem mfe.L {k : Nat} {v : Int64} : mfe m h (sL h m k v) := ⟨⟨fun _ => rfl, fun _ => rfl, fun _ _ => rfl, rfl, rfl⟩, fun x j p q => rfl, fun j p => rfl, fun x j p => a_La p⟩
theorem rMS_fr3 {n : Nat} {A : aA} (hn : n ≤ 10) (hL : aL A ≤ 45) (e0 : ∀ k : Nat, k < 43 → gI h' m k = gI h m k) (e : ∀ b k : Nat, m + 36 ≤ b → b ≤ m + 85 → gI h' b k = gI h b k) (r : rMS h m n A) : rMS h' m n A := by
  obtain ⟨r1, r2, r3, r4, r5, r6, r7⟩ := r
  refine ⟨(e0 _ (by decide)).trans r1, (e0 _ (by decide)).trans r2, (e0 _ (by decide)).trans r3, (e0 _ (by decide)).trans r4, (e0 _ (by decide)).trans r5, (e0 _ (by decide)).trans r6, fun a b => ?_⟩
  obtain ⟨w1, w2⟩ := r7 a b
  exact ⟨fun j hj => by
    obtain ⟨Q, Q1, Q2, Q3⟩ := w1 j hj
    exact ⟨Q, fun a b ha hb => by rw [e _ _ (by omega) (by omega)]; exact Q1 a b ha hb, Q2, Q3⟩, fun j hj => (e _ _ (by omega) (by omega)).trans (w2 j hj)⟩
theorem mX_fe (hk : kX H T Λ K κ) (s : mfe m h h') (c : mX g m SL h H T Λ K κ ρ) : mX g m SL h' H T Λ K κ ρ := by
  obtain ⟨s0, e1, e0, eL⟩ := s
  obtain ⟨c1, c2, c3, c4, c5, c6, c7, c8, c9⟩ := c
  refine ⟨mSP_fr s0 c1, c2.mv (fun k => e1 _ _ (by omega) (by omega)) (e0 _ (by omega)), c3.mv (fun k => e1 _ _ (by omega) (by omega)) (e1 _ _ (by omega) (by omega)), ?_, mSh_fr ⟨fun b k _ _ => e1 _ _ (by omega) (by omega), fun b k _ _ => eL _ _ (by omega)⟩ c5, ⟨(e0 _ (by omega)).trans c6.1, fun i hi => (e1 _ _ (by omega) (by omega)).trans (c6.2 i hi)⟩, fun i hi => (e1 _ _ (by omega) (by omega)).trans (c7 i hi), ?_, mKp_fr hk.2.2.2 s0 ⟨fun b k _ _ => e1 _ _ (by omega) (by omega), fun b k _ _ => eL _ _ (by omega)⟩ c9⟩
  · unfold mFr
    rw [e0 _ (by omega), e0 _ (by omega), e0 _ (by omega)]
    rcases c4 with d | ⟨d1, d2⟩
    · exact Or.inl d
    · exact Or.inr ⟨d1, rMS_fr3 hk.2.2.1.1.1 (Nat.le_trans (aOK_srch hk.2.2.1.1 hk.2.2.1.2.1).1.2.2.2.1 (pn_le hk.2.2.1.1.1)) (fun k q => e0 k (by omega)) (fun b k p q => e1 b k (by omega) (by omega)) d2⟩
  · obtain ⟨l1, l2, l3, l4, l5, l6, l7⟩ := c8
    refine ⟨⟨(e0 _ (by omega)).trans l1.1, fun f hf => ?_⟩, ⟨(e0 _ (by omega)).trans l2.1, fun f hf => ?_⟩, fun w hw => (e1 _ _ (by omega) (by omega)).trans (l3 w hw), ⟨(e0 _ (by omega)).trans l4.1, fun w hw => ?_⟩, ⟨(e0 _ (by omega)).trans l5.1, fun w hw => (e1 _ _ (by omega) (by omega)).trans (l5.2 w hw)⟩, fun y => (e0 _ (by omega)).trans (l6 y), fun y => ⟨(e0 _ (by omega)).trans (l7 y).1, (e0 _ (by omega)).trans (l7 y).2.1, rMS_fr2 (fun k _ => e1 _ _ (by omega) (by omega)) (fun b k hb => e1 b k (by omega) (by omega)) (l7 y).2.2⟩⟩
    · rw [e1 _ _ (by omega) (by omega), e1 _ _ (by omega) (by omega), e1 _ _ (by omega) (by omega), e1 _ _ (by omega) (by omega), eL _ _ (by omega)]; exact l1.2 f hf
    · rw [e1 _ _ (by omega) (by omega), e1 _ _ (by omega) (by omega), e1 _ _ (by omega) (by omega), e1 _ _ (by omega) (by omega), e1 _ _ (by omega) (by omega), e1 _ _ (by omega) (by omega), e1 _ _ (by omega) (by omega), e1 _ _ (by omega) (by omega), e1 _ _ (by omega) (by omega)]; exact l2.2 f hf
    · rw [e1 _ _ (by omega) (by omega), e1 _ _ (by omega) (by omega)]; exact l4.2 w hw
theorem JP.me (j : JP g B SL h H T Λ K κ ρ ρ') (s : mfe (B + 145) h h') : JP g B SL h' H T Λ K κ ρ ρ' := by
  have hB := j.B0
  obtain ⟨hk, hb, hc, hm⟩ := j
  have f : smF 0 (B + 144) h h' := ⟨fun b k _ _ => s.2.1 _ _ (by omega) (by omega), fun b k _ _ => s.2.2.2 _ _ (by omega)⟩
  exact ⟨hk, bX_fr s.1 (f.wd (by omega) (by omega)) hb, cX_fr hk s.1 (f.wd (by omega) (by omega)) hc, mX_fe hk s hm⟩
end ZFX
/-! ranks -/
/-- among n + 1 numbers below n two are the same -/
theorem pigeon : ∀ (n : Nat) (p : Nat → Nat), (∀ i : Nat, i ≤ n → p i < n) → ∃ i j : Nat, i < j ∧ j ≤ n ∧ p i = p j
  | 0, p, h => absurd (h 0 (Nat.le_refl 0)) (Nat.not_lt_zero _)
  | n + 1, p, h => by
    by_cases c : ∃ i : Nat, i ≤ n ∧ p i = p (n + 1)
    · obtain ⟨i, h1, h2⟩ := c
      exact ⟨i, n + 1, by omega, Nat.le_refl _, h2⟩
    · have hn : ∀ i : Nat, i ≤ n → ¬ p i = p (n + 1) := fun i hi e => c ⟨i, hi, e⟩
      obtain ⟨i, j, h1, h2, h3⟩ := pigeon n (fun i => if p (n + 1) < p i then p i - 1 else p i) (fun i hi => by
        have a := h i (by omega)
        have b := h (n + 1) (Nat.le_refl _)
        have d := hn i hi
        split <;> omega)
      refine ⟨i, j, h1, by omega, ?_⟩
      have a := hn i (by omega)
      have b := hn j h2
      split at h3 <;> split at h3 <;> omega
section ZRK
variable {A : Nat → Nat} {n : Nat}
theorem fk_wlk {f : Nat} (hin : aIn A n) (hf : f < n) : ∀ (k s : Nat), (fk A n f k).testBit s = true → ∃ p : Nat → Nat, p 0 = f ∧ p k = s ∧ (∀ i : Nat, i ≤ k → p i < n) ∧ ∀ i : Nat, i < k → (A (p i)).testBit (p (i + 1)) = true
  | 0, s, h => by
    have h' : ((1 : Nat) <<< f).testBit s = true := h
    rw [one_b] at h'
    subst h'
    exact ⟨fun _ => s, rfl, rfl, fun _ _ => hf, fun i hi => absurd hi (Nat.not_lt_zero i)⟩
  | k + 1, s, h => by
    obtain ⟨m, hm, h1, h2⟩ := stpA_bit.1 (show (stpA A n (fk A n f k)).testBit s = true from h)
    obtain ⟨p, p0, pk, p1, p2⟩ := fk_wlk hin hf k m h1
    refine ⟨fun i => if i ≤ k then p i else s, ?_, ?_, fun i hi => ?_, fun i hi => ?_⟩
    · dsimp only; rw [if_pos (Nat.zero_le _)]; exact p0
    · dsimp only; rw [if_neg (by omega)]
    · dsimp only
      split
      · exact p1 i ‹_›
      · exact hin m s hm h2
    · dsimp only
      rw [if_pos (by omega)]
      by_cases c : i + 1 ≤ k
      · rw [if_pos c]; exact p2 i (by omega)
      · rw [if_neg c, show i = k by omega, pk]; exact h2
theorem fk_seg {p : Nat → Nat} {k : Nat} (h1 : ∀ i : Nat, i ≤ k → p i < n) (h2 : ∀ i : Nat, i < k → (A (p i)).testBit (p (i + 1)) = true) {i : Nat} : ∀ L : Nat, i + L ≤ k → (fk A n (p i) L).testBit (p (i + L)) = true
  | 0, _ => one_b.2 rfl
  | L + 1, h => stpA_bit.2 ⟨p (i + L), h1 _ (by omega), fk_seg h1 h2 L (by omega), h2 (i + L) (by omega)⟩
/-- without a ring no walk is long -/
def noR (A : Nat → Nat) (n : Nat) : Prop := ∀ f L : Nat, f < n → 1 ≤ L → L ≤ n → ¬ (fk A n f L).testBit f = true
theorem fk_end {f : Nat} (hin : aIn A n) (hr : noR A n) (hf : f < n) : fk A n f n = 0 := by
  apply Classical.byContradiction
  intro c
  obtain ⟨s, hs⟩ := ne0_bit.1 c
  obtain ⟨p, p0, pk, p1, p2⟩ := fk_wlk hin hf n s hs
  obtain ⟨i, j, h1, h2, h3⟩ := pigeon n p p1
  have := fk_seg p1 p2 (i := i) (j - i) (by omega)
  rw [show i + (j - i) = j by omega, ← h3] at this
  exact hr (p i) (j - i) (p1 i (by omega)) (by omega) (by omega) this
def rkN (A : Nat → Nat) (n f : Nat) : Nat → Nat
  | 0 => 0
  | k + 1 => if fk A n f (k + 1) = 0 then rkN A n f k else k + 1
def rk (A : Nat → Nat) (n f : Nat) : Nat := rkN A n f n
theorem rkN_1 {f : Nat} : ∀ k : Nat, ¬ fk A n f (rkN A n f k) = 0 ∧ rkN A n f k ≤ k ∧ ∀ j : Nat, rkN A n f k < j → j ≤ k → fk A n f j = 0
  | 0 => ⟨ne0_bit.2 ⟨f, one_b.2 rfl⟩, Nat.le_refl _, fun j h1 h2 => by
    have e : rkN A n f 0 = 0 := rfl
    omega⟩
  | k + 1 => by
    obtain ⟨i1, i2, i3⟩ := rkN_1 (f := f) k
    unfold rkN
    split
    · rename_i z
      refine ⟨i1, by omega, fun j h1 h2 => ?_⟩
      by_cases q : j = k + 1
      · rw [q]; exact z
      · exact i3 j h1 (by omega)
    · exact ⟨‹_›, Nat.le_refl _, fun j h1 h2 => by omega⟩
theorem rk_lt {f : Nat} (hin : aIn A n) (hr : noR A n) (hf : f < n) : rk A n f < n := by
  obtain ⟨h1, h2, h3⟩ := rkN_1 (A := A) (n := n) (f := f) n
  unfold rk
  by_cases c : rkN A n f n = n
  · rw [c] at h1
    exact absurd (fk_end hin hr hf) h1
  · omega
theorem rk_a {f e : Nat} (hin : aIn A n) (hr : noR A n) (hf : f < n) (h : (A f).testBit e = true) : 1 + rk A n e ≤ rk A n f := by
  have he := hin f e hf h
  obtain ⟨a1, a2, a3⟩ := rkN_1 (A := A) (n := n) (f := e) n
  obtain ⟨b1, b2, b3⟩ := rkN_1 (A := A) (n := n) (f := f) n
  have l := rk_lt hin hr he
  unfold rk at l ⊢
  obtain ⟨s, hs⟩ := ne0_bit.1 a1
  have w : (fk A n f (rkN A n e n + 1)).testBit s = true := (fk_pre hf _).2 ⟨e, Or.inl ⟨h, he, hs⟩⟩
  rcases Nat.lt_or_ge (rkN A n f n) (rkN A n e n + 1) with c | c
  · have := b3 _ c (by omega)
    rw [this, Nat.zero_testBit] at w
    exact absurd w (by decide)
  · omega
theorem rk_b {f k : Nat} (hin : aIn A n) (hf : f < n) (h : rk A n f = k + 1) : ∃ e : Nat, (A f).testBit e = true ∧ e < n ∧ k ≤ rk A n e := by
  obtain ⟨b1, b2, b3⟩ := rkN_1 (A := A) (n := n) (f := f) n
  unfold rk at h ⊢
  rw [h] at b1 b2
  obtain ⟨s, hs⟩ := ne0_bit.1 b1
  obtain ⟨e, ⟨h1, h2, h3⟩ | ⟨h1, h2, h3⟩⟩ := (fk_pre hf k).1 hs
  · refine ⟨e, h1, h2, ?_⟩
    obtain ⟨a1, a2, a3⟩ := rkN_1 (A := A) (n := n) (f := e) n
    rcases Nat.lt_or_ge (rkN A n e n) k with c | c
    · have := a3 k c (by omega)
      rw [this, Nat.zero_testBit] at h3
      exact absurd h3 (by decide)
    · exact c
  · exact ⟨e, h1, hin f e hf h1, by omega⟩
/-- between t rounds and the next -/
def rkI (A : Nat → Nat) (n t : Nat) (R : Nat → Nat) : Prop := ∀ f : Nat, f < n → R f ≤ rk A n f ∧ (rk A n f ≤ t → rk A n f ≤ R f) ∧ (t ≤ rk A n f → t ≤ R f)
theorem rkI_0 {R : Nat → Nat} (h : ∀ f : Nat, f < n → R f = 0) : rkI A n 0 R := fun f hf => by
  rw [h f hf]
  exact ⟨Nat.zero_le _, fun c => c, fun _ => Nat.le_refl _⟩
theorem rkI_up {t f e : Nat} {R : Nat → Nat} (hin : aIn A n) (hr : noR A n) (h : rkI A n t R) (hf : f < n) (ha : (A f).testBit e = true) (c : R f < 1 + R e) : rkI A n t (up R f (1 + R e)) := fun x hx => by
  by_cases q : x = f
  · subst q
    rw [up_s]
    obtain ⟨a1, a2, a3⟩ := h x hx
    have := rk_a hin hr hf ha
    obtain ⟨b1, -, -⟩ := h e (hin x e hf ha)
    exact ⟨by omega, fun z => by have := a2 z; omega, fun z => by have := a3 z; omega⟩
  · rw [up_n q]; exact h x hx
/-- a field whose arrows are all looked at -/
theorem rkI_dn {t f : Nat} {R : Nat → Nat} (hin : aIn A n) (hf : f < n) (h : rkI A n t R) (hd : ∀ e : Nat, e < n → (A f).testBit e = true → (rk A n e ≤ t → 1 + rk A n e ≤ R f) ∧ (t ≤ rk A n e → 1 + t ≤ R f)) : (rk A n f ≤ t + 1 → rk A n f ≤ R f) ∧ (t + 1 ≤ rk A n f → t + 1 ≤ R f) := by
  cases e : rk A n f with
  | zero => exact ⟨fun _ => Nat.zero_le _, fun c => by omega⟩
  | succ k =>
    obtain ⟨x, x1, x2, x3⟩ := rk_b hin hf e
    obtain ⟨y1, y2⟩ := hd x x2 x1
    refine ⟨fun c => ?_, fun c => ?_⟩
    · rcases Nat.lt_or_ge t (rk A n x) with z | z
      · have := y2 (by omega); omega
      · have := y1 z; omega
    · have := y2 (by omega)
      omega
end ZRK
