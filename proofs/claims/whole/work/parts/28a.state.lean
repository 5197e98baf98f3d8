/-! one state for the class and the reference: values by the reference's slots; fields, deeds, cells; grounds; the search that is under way (its fields, its numbers, its year) -/
abbrev zL : Type := Nat × Nat × Nat × (Nat → Nat → Int32) × (Nat → Int64) × Nat × aA × Int32
def zF (Λ : zL) : Nat := Λ.1
def zD (Λ : zL) : Nat := Λ.2.1
def zC (Λ : zL) : Nat := Λ.2.2.1
def zV (Λ : zL) : Nat → Nat → Int32 := Λ.2.2.2.1
def zW (Λ : zL) : Nat → Int64 := Λ.2.2.2.2.1
def zN (Λ : zL) : Nat := Λ.2.2.2.2.2.1
def zS_ (Λ : zL) : aA := Λ.2.2.2.2.2.2.1
def zYr (Λ : zL) : Int32 := Λ.2.2.2.2.2.2.2
/-- the class's Land holds it -/
def cF (h : zMem) (l : Nat) (n : Nat) (V : Nat → Nat → Int32) (W : Nat → Int64) : Prop := gI h l 1 = nI n ∧ ∀ f : Nat, f < n → gI h (l + 2 + f) 0 = V 10 f ∧ gI h (l + 2 + f) 1 = V 11 f ∧ gI h (l + 2 + f) 2 = V 12 f ∧ gI h (l + 2 + f) 3 = V 13 f ∧ gL h (l + 2 + f) 4 = W f
def cDd (h : zMem) (l : Nat) (n : Nat) (V : Nat → Nat → Int32) : Prop := gI h l 3 = nI n ∧ ∀ d : Nat, d < n → gI h (l + 13 + d) 0 = V 16 d ∧ gI h (l + 13 + d) 1 = V 17 d ∧ gI h (l + 13 + d) 2 = V 18 d ∧ gI h (l + 13 + d) 3 = V 19 d ∧ gI h (l + 13 + d) 4 = V 20 d ∧ gI h (l + 13 + d) 5 = V 21 d ∧ gI h (l + 13 + d) 6 = V 22 d ∧ gI h (l + 13 + d) 7 = V 23 d ∧ gI h (l + 13 + d) 8 = V 24 d
def cMn (h : zMem) (l : Nat) (V : Nat → Nat → Int32) : Prop := ∀ w : Nat, w < 4 → gI h (l + 37) w = V 25 w
def cPl (h : zMem) (l : Nat) (n : Nat) (V : Nat → Nat → Int32) : Prop := gI h (l + 38) 0 = nI n ∧ ∀ c : Nat, c < n → gI h (l + 39) c = V 29 c ∧ gI h (l + 40) c = V 30 c
def cBd (h : zMem) (l : Nat) (V : Nat → Nat → Int32) : Prop := gI h (l + 41) 0 = V 27 0 ∧ ∀ i : Nat, i < 64 → gI h (l + 42) i = V 26 i
def cSe (h : zMem) (l : Nat) (n : Nat) (A : aA) (y : Int32) : Prop := gI h (l + 43) 1 = y ∧ (y = -1 → gI h (l + 43 + 1) 2 = nI 0) ∧ (¬ y = -1 → rCS h (l + 43) n A)
def cL (h : zMem) (l : Nat) (Λ : zL) : Prop := cF h l (zF Λ) (zV Λ) (zW Λ) ∧ cDd h l (zD Λ) (zV Λ) ∧ cMn h l (zV Λ) ∧ cPl h l (zC Λ) (zV Λ) ∧ cBd h l (zV Λ) ∧ cSe h l (zN Λ) (zS_ Λ) (zYr Λ)
/-- the reference holds it -/
def mF (h : zMem) (m : Nat) (n : Nat) (V : Nat → Nat → Int32) (W : Nat → Int64) : Prop := gI h m 9 = nI n ∧ ∀ f : Nat, f < n → gI h (m + 17) f = V 10 f ∧ gI h (m + 18) f = V 11 f ∧ gI h (m + 19) f = V 12 f ∧ gI h (m + 20) f = V 13 f ∧ gL h (m + 21) f = W f
def mDd (h : zMem) (m : Nat) (n : Nat) (V : Nat → Nat → Int32) : Prop := gI h m 15 = nI n ∧ ∀ d : Nat, d < n → gI h (m + 22) d = V 16 d ∧ gI h (m + 23) d = V 17 d ∧ gI h (m + 24) d = V 18 d ∧ gI h (m + 25) d = V 19 d ∧ gI h (m + 26) d = V 20 d ∧ gI h (m + 27) d = V 21 d ∧ gI h (m + 28) d = V 22 d ∧ gI h (m + 29) d = V 23 d ∧ gI h (m + 30) d = V 24 d
def mMn (h : zMem) (m : Nat) (V : Nat → Nat → Int32) : Prop := ∀ w : Nat, w < 4 → gI h (m + 31) w = V 25 w
def mPl (h : zMem) (m : Nat) (n : Nat) (V : Nat → Nat → Int32) : Prop := gI h m 28 = nI n ∧ ∀ c : Nat, c < n → gI h (m + 33) c = V 29 c ∧ gI h (m + 34) c = V 30 c
def mBd (h : zMem) (m : Nat) (V : Nat → Nat → Int32) : Prop := gI h m 27 = V 27 0 ∧ ∀ i : Nat, i < 64 → gI h (m + 32) i = V 26 i
def mSe (h : zMem) (m : Nat) (n : Nat) (A : aA) (y : Int32) : Prop := (y = -1 → gI h m 31 = nI 0) ∧ (¬ y = -1 → gI h m 31 = nI 1 ∧ gI h m 32 = y ∧ rMS h (m + 90) n A)
def mL (h : zMem) (m : Nat) (Λ : zL) : Prop := mF h m (zF Λ) (zV Λ) (zW Λ) ∧ mDd h m (zD Λ) (zV Λ) ∧ mMn h m (zV Λ) ∧ mPl h m (zC Λ) (zV Λ) ∧ mBd h m (zV Λ) ∧ mSe h m (zN Λ) (zS_ Λ) (zYr Λ)
/-- NONE, or a number below n -/
def nOr (x : Int32) (n : Nat) : Prop := x = -1 ∨ ∃ k : Nat, x = nI k ∧ k < n
def nLt (x : Int32) (n : Nat) : Prop := ∃ k : Nat, x = nI k ∧ k < n
/-- what always holds of fields, deeds, old words, cells, what was drawn, the search -/
def kF (n : Nat) (V : Nat → Nat → Int32) : Prop := n ≤ 10 ∧ ∀ f : Nat, f < n → nLt (V 10 f) 5 ∧ (V 10 f = nI 4 → ∃ p : Nat, V 13 f = nI p ∧ f < p ∧ p + 1 < n)
def kDd (nf n : Nat) (V : Nat → Nat → Int32) : Prop := n ≤ 24 ∧ ∀ d : Nat, d < n → (∃ a b : Nat, V 16 d = nI a ∧ V 17 d = nI b ∧ a < nf ∧ b < nf ∧ ¬ a = b) ∧ (∃ w : Nat, V 19 d = nI w ∧ 1 ≤ w ∧ w < 100) ∧ nOr (V 20 d) 3 ∧ nLt (V 21 d) 256 ∧ nLt (V 22 d) 16 ∧ nLt (V 23 d) 2 ∧ nLt (V 24 d) 2
def kMn (V : Nat → Nat → Int32) : Prop := ∀ w : Nat, w < 4 → nOr (V 25 w) 8
def kPl (n : Nat) (V : Nat → Nat → Int32) : Prop := n ≤ 100 ∧ ∀ c : Nat, c < n → nLt (V 29 c) 1024 ∧ nOr (V 30 c) n
def kBd (V : Nat → Nat → Int32) : Prop := ∀ i : Nat, i < 64 → nLt (V 26 i) 256
def kSe (n : Nat) (A : aA) (y : Int32) : Prop := ¬ y = -1 → n ≤ 10 ∧ aOK n A ∧ aSy n A
def kL (Λ : zL) : Prop := kF (zF Λ) (zV Λ) ∧ kDd (zF Λ) (zD Λ) (zV Λ) ∧ kMn (zV Λ) ∧ kPl (zC Λ) (zV Λ) ∧ kBd (zV Λ) ∧ kSe (zN Λ) (zS_ Λ) (zYr Λ)
/-- from a place on the memory is the same -/
def smF (lo hi : Nat) (h h' : zMem) : Prop := (∀ b k : Nat, lo ≤ b → b ≤ hi → gI h' b k = gI h b k) ∧ (∀ b k : Nat, lo ≤ b → b ≤ hi → gL h' b k = gL h b k)
section ZST2
variable {h h' : zMem} {l m q n : Nat}
theorem sam.out {lo hi a b : Nat} (s : sam lo hi h h') (hd : b < lo ∨ hi < a) : smF a b h h' := ⟨fun c k h1 h2 => s.2.2.2.2.2.1 c k (by omega), fun c k h1 h2 => s.2.2.2.2.2.2 c k (by omega)⟩
theorem smF.wd {lo hi a b : Nat} (s : smF lo hi h h') (h1 : lo ≤ a) (h2 : b ≤ hi) : smF a b h h' := ⟨fun c k c1 c2 => s.1 c k (by omega) (by omega), fun c k c1 c2 => s.2 c k (by omega) (by omega)⟩
theorem rCS_fr {A : aA} (s : smF q (q + 8) h h') (r : rCS h q n A) : rCS h' q n A := by
  obtain ⟨f, ats, tr, r1, r2, r3, r4, r5, r6, r7, r8, r9⟩ := r
  obtain ⟨s1, -⟩ := s
  refine ⟨f, ats, tr, rS_fr r1 (fun b k h1 h2 => s1 b k (by omega) (by omega)), r2, r3, ?_, ?_, ?_, ?_, ?_, fun c1 c2 => ?_⟩
  · rw [s1 q 2 (by omega) (by omega)]; exact r4
  · rw [s1 q 3 (by omega) (by omega)]; exact r5
  · rw [s1 q 4 (by omega) (by omega)]; exact r6
  · rw [s1 q 5 (by omega) (by omega)]; exact r7
  · rw [s1 q 6 (by omega) (by omega)]; exact r8
  · obtain ⟨mk, w1, w2, w3, w4⟩ := r9 c1 c2
    exact ⟨mk, w1, w2, w3.fr (Nat.le_refl _) (fun j _ => s1 _ _ (by omega) (by omega)), w4.fr (Nat.le_refl _) (fun j _ => s1 _ _ (by omega) (by omega))⟩
theorem rMS_fr {A : aA} (hn : n ≤ 10) (hL : aL A ≤ 45) (s : smF m (m + 85) h h') (r : rMS h m n A) : rMS h' m n A := by
  obtain ⟨r1, r2, r3, r4, r5, r6, r7⟩ := r
  obtain ⟨s1, -⟩ := s
  have e : ∀ k : Nat, gI h' m k = gI h m k := fun k => s1 m k (by omega) (by omega)
  unfold rMS
  rw [e, e, e, e, e, e]
  refine ⟨r1, r2, r3, r4, r5, r6, fun c1 c2 => ?_⟩
  obtain ⟨w1, w2⟩ := r7 c1 c2
  refine ⟨fun j hj => ?_, fun j hj => by rw [s1 _ _ (by omega) (by omega)]; exact w2 j hj⟩
  obtain ⟨G, g1, g2, g3⟩ := w1 j hj
  exact ⟨G, fun a b ha hb => by rw [s1 _ _ (by omega) (by omega)]; exact g1 a b ha hb, g2, g3⟩
theorem cF_fr {V : Nat → Nat → Int32} {W : Nat → Int64} (hn : n ≤ 10) (s : smF l (l + 11) h h') (c : cF h l n V W) : cF h' l n V W := by
  obtain ⟨s1, s2⟩ := s
  refine ⟨by rw [s1 _ _ (by omega) (by omega)]; exact c.1, fun f hf => ?_⟩
  rw [s1 _ _ (by omega) (by omega), s1 _ _ (by omega) (by omega), s1 _ _ (by omega) (by omega), s1 _ _ (by omega) (by omega), s2 _ _ (by omega) (by omega)]
  exact c.2 f hf
theorem cDd_fr {V : Nat → Nat → Int32} (hn : n ≤ 24) (s : smF l (l + 36) h h') (c : cDd h l n V) : cDd h' l n V := by
  obtain ⟨s1, s2⟩ := s
  refine ⟨by rw [s1 _ _ (by omega) (by omega)]; exact c.1, fun f hf => ?_⟩
  rw [s1 _ _ (by omega) (by omega), s1 _ _ (by omega) (by omega), s1 _ _ (by omega) (by omega), s1 _ _ (by omega) (by omega), s1 _ _ (by omega) (by omega), s1 _ _ (by omega) (by omega), s1 _ _ (by omega) (by omega), s1 _ _ (by omega) (by omega), s1 _ _ (by omega) (by omega)]
  exact c.2 f hf
theorem cL_fr {Λ : zL} (k : kL Λ) (s : smF l (l + 53) h h') (c : cL h l Λ) : cL h' l Λ := by
  obtain ⟨c1, c2, c3, c4, c5, c6, c7, c8⟩ := c
  have ss : smF l (l + 53) h h' := s
  obtain ⟨s1, s2⟩ := s
  refine ⟨cF_fr k.1.1 (ss.wd (by omega) (by omega)) c1, cDd_fr k.2.1.1 (ss.wd (by omega) (by omega)) c2, fun w hw => ?_, ⟨?_, fun w hw => ?_⟩, ⟨?_, fun w hw => ?_⟩, ?_, fun y => ?_, fun y => rCS_fr (ss.wd (by omega) (by omega)) (c8 y)⟩
  · rw [s1 _ _ (by omega) (by omega)]; exact c3 w hw
  · rw [s1 _ _ (by omega) (by omega)]; exact c4.1
  · rw [s1 _ _ (by omega) (by omega), s1 _ _ (by omega) (by omega)]; exact c4.2 w hw
  · rw [s1 _ _ (by omega) (by omega)]; exact c5.1
  · rw [s1 _ _ (by omega) (by omega)]; exact c5.2 w hw
  · rw [s1 _ _ (by omega) (by omega)]; exact c6
  · rw [s1 _ _ (by omega) (by omega)]; exact c7 y
theorem kL.aL45 {Λ : zL} (k : kL Λ) (y : ¬ zYr Λ = -1) : aL (zS_ Λ) ≤ 45 := by
  obtain ⟨k1, k2, -⟩ := k.2.2.2.2.2 y
  exact Nat.le_trans k2.2.2.2.1 (pn_le k1)
theorem mL_fr {Λ : zL} (k : kL Λ) (s : smF m (m + 179) h h') (c : mL h m Λ) : mL h' m Λ := by
  obtain ⟨c1, c2, c3, c4, c5, c6, c7⟩ := c
  have ss : smF m (m + 179) h h' := s
  obtain ⟨s1, s2⟩ := s
  refine ⟨⟨?_, fun f hf => ?_⟩, ⟨?_, fun f hf => ?_⟩, fun w hw => ?_, ⟨?_, fun w hw => ?_⟩, ⟨?_, fun w hw => ?_⟩, fun y => ?_, fun y => ⟨?_, ?_, rMS_fr (k.2.2.2.2.2 y).1 (k.aL45 y) (ss.wd (by omega) (by omega)) (c7 y).2.2⟩⟩
  · rw [s1 _ _ (by omega) (by omega)]; exact c1.1
  · rw [s1 _ _ (by omega) (by omega), s1 _ _ (by omega) (by omega), s1 _ _ (by omega) (by omega), s1 _ _ (by omega) (by omega), s2 _ _ (by omega) (by omega)]; exact c1.2 f hf
  · rw [s1 _ _ (by omega) (by omega)]; exact c2.1
  · rw [s1 _ _ (by omega) (by omega), s1 _ _ (by omega) (by omega), s1 _ _ (by omega) (by omega), s1 _ _ (by omega) (by omega), s1 _ _ (by omega) (by omega), s1 _ _ (by omega) (by omega), s1 _ _ (by omega) (by omega), s1 _ _ (by omega) (by omega), s1 _ _ (by omega) (by omega)]; exact c2.2 f hf
  · rw [s1 _ _ (by omega) (by omega)]; exact c3 w hw
  · rw [s1 _ _ (by omega) (by omega)]; exact c4.1
  · rw [s1 _ _ (by omega) (by omega), s1 _ _ (by omega) (by omega)]; exact c4.2 w hw
  · rw [s1 _ _ (by omega) (by omega)]; exact c5.1
  · rw [s1 _ _ (by omega) (by omega)]; exact c5.2 w hw
  · rw [s1 _ _ (by omega) (by omega)]; exact c6 y
  · rw [s1 _ _ (by omega) (by omega)]; exact (c7 y).1
  · rw [s1 _ _ (by omega) (by omega)]; exact (c7 y).2.1
end ZST2
