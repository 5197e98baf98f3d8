/-! a new deed in both worlds -/
def nV (V : Nat → Nat → Int32) (n : Nat) (dv : Nat → Int32) : Nat → Nat → Int32 := fun k i => if i = n ∧ 16 ≤ k ∧ k ≤ 24 then dv k else V k i
def nD (Λ : zL) (dv : Nat → Int32) : zL := (zF Λ, zD Λ + 1, zC Λ, nV (zV Λ) (zD Λ) dv, zW Λ, zN Λ, zS_ Λ, zYr Λ)
def kdv (nf : Nat) (dv : Nat → Int32) : Prop := (∃ a b : Nat, dv 16 = nI a ∧ dv 17 = nI b ∧ a < nf ∧ b < nf ∧ ¬ a = b) ∧ (∃ w : Nat, dv 19 = nI w ∧ 1 ≤ w ∧ w < 100) ∧ nOr (dv 20) 3 ∧ nLt (dv 21) 256 ∧ nLt (dv 22) 16 ∧ nLt (dv 23) 2 ∧ nLt (dv 24) 2
section ZND
variable {g : Nat → Nat} {B m p s e k i n a b q u x y nf f l : Nat} {h h' h'' : zMem} {T : zT} {σ : zK} {Λ : zL} {V : Nat → Nat → Int32} {dv : Nat → Int32}
theorem nV_k (hk : ¬ (16 ≤ k ∧ k ≤ 24)) : nV V n dv k i = V k i := if_neg (fun z => hk z.2)
theorem nV_i (hi : ¬ i = n) : nV V n dv k i = V k i := if_neg (fun z => hi z.1)
theorem nV_n (hk : 16 ≤ k ∧ k ≤ 24) : nV V n dv k n = dv k := if_pos ⟨rfl, hk⟩
theorem kL_nd (k : kL Λ) (hn : zD Λ < 24) (d : kdv (zF Λ) dv) : kL (nD Λ dv) := by
  obtain ⟨⟨k1, k2⟩, ⟨k3, k4⟩, k5, ⟨k6, k7⟩, k8, k9⟩ := k
  refine ⟨⟨k1, fun f hf => ?_⟩, ⟨hn, fun e he => ?_⟩, fun w hw => ?_, ⟨k6, fun c hc => ?_⟩, fun i hi => ?_, k9⟩
  · show nLt (nV (zV Λ) (zD Λ) dv 10 f) 5 ∧ (nV (zV Λ) (zD Λ) dv 10 f = nI 4 → ∃ p : Nat, nV (zV Λ) (zD Λ) dv 13 f = nI p ∧ f < p ∧ p + 1 < zF Λ)
    rw [nV_k (by omega), nV_k (by omega)]
    exact k2 f hf
  · have he : e < zD Λ + 1 := he
    by_cases q : e = zD Λ
    · subst q
      show (∃ a b : Nat, nV (zV Λ) (zD Λ) dv 16 (zD Λ) = nI a ∧ nV (zV Λ) (zD Λ) dv 17 (zD Λ) = nI b ∧ a < zF Λ ∧ b < zF Λ ∧ ¬ a = b) ∧ (∃ w : Nat, nV (zV Λ) (zD Λ) dv 19 (zD Λ) = nI w ∧ 1 ≤ w ∧ w < 100) ∧ nOr (nV (zV Λ) (zD Λ) dv 20 (zD Λ)) 3 ∧ nLt (nV (zV Λ) (zD Λ) dv 21 (zD Λ)) 256 ∧ nLt (nV (zV Λ) (zD Λ) dv 22 (zD Λ)) 16 ∧ nLt (nV (zV Λ) (zD Λ) dv 23 (zD Λ)) 2 ∧ nLt (nV (zV Λ) (zD Λ) dv 24 (zD Λ)) 2
      rw [nV_n (by omega), nV_n (by omega), nV_n (by omega), nV_n (by omega), nV_n (by omega), nV_n (by omega), nV_n (by omega), nV_n (by omega)]
      exact d
    · show (∃ a b : Nat, nV (zV Λ) (zD Λ) dv 16 e = nI a ∧ nV (zV Λ) (zD Λ) dv 17 e = nI b ∧ a < zF Λ ∧ b < zF Λ ∧ ¬ a = b) ∧ (∃ w : Nat, nV (zV Λ) (zD Λ) dv 19 e = nI w ∧ 1 ≤ w ∧ w < 100) ∧ nOr (nV (zV Λ) (zD Λ) dv 20 e) 3 ∧ nLt (nV (zV Λ) (zD Λ) dv 21 e) 256 ∧ nLt (nV (zV Λ) (zD Λ) dv 22 e) 16 ∧ nLt (nV (zV Λ) (zD Λ) dv 23 e) 2 ∧ nLt (nV (zV Λ) (zD Λ) dv 24 e) 2
      rw [nV_i q, nV_i q, nV_i q, nV_i q, nV_i q, nV_i q, nV_i q, nV_i q]
      exact k4 e (by omega)
  · show nOr (nV (zV Λ) (zD Λ) dv 25 w) 8
    rw [nV_k (by omega)]
    exact k5 w hw
  · show nLt (nV (zV Λ) (zD Λ) dv 29 c) 1024 ∧ nOr (nV (zV Λ) (zD Λ) dv 30 c) (zC Λ)
    rw [nV_k (by omega), nV_k (by omega)]
    exact k7 c hc
  · show nLt (nV (zV Λ) (zD Λ) dv 26 i) 256
    rw [nV_k (by omega)]
    exact k8 i hi
/-- the class's land, but for the deed behind the last -/
theorem cL_nd (k : kL Λ) (hn : zD Λ < 24) (e : ∀ b k : Nat, l ≤ b → b ≤ l + 53 → ¬ b = l + 13 + zD Λ → ¬ (b = l ∧ k = 3) → gI h' b k = gI h b k) (eL : ∀ b k : Nat, gL h' b k = gL h b k) (c : cL h l Λ) : (gI h' l 3 = nI (zD Λ) → cL h' l Λ) ∧ (gI h' l 3 = nI (zD Λ + 1) → (∀ j : Nat, j < 9 → gI h' (l + 13 + zD Λ) j = dv (16 + j)) → cL h' l (nD Λ dv)) := by
  obtain ⟨⟨c1, c2⟩, ⟨c3, c4⟩, c5, ⟨c6, c7⟩, ⟨c8, c9⟩, c10, c11, c12⟩ := c
  have kF1 := k.1.1
  have kC1 := k.2.2.2.1.1
  have cf : ∀ f : Nat, f < zF Λ → gI h' (l + 2 + f) 0 = zV Λ 10 f ∧ gI h' (l + 2 + f) 1 = zV Λ 11 f ∧ gI h' (l + 2 + f) 2 = zV Λ 12 f ∧ gI h' (l + 2 + f) 3 = zV Λ 13 f ∧ gL h' (l + 2 + f) 4 = zW Λ f := fun f hf => by
    rw [e _ _ (by omega) (by omega) (by omega) (by omega), e _ _ (by omega) (by omega) (by omega) (by omega), e _ _ (by omega) (by omega) (by omega) (by omega), e _ _ (by omega) (by omega) (by omega) (by omega), eL]
    exact c2 f hf
  have cd : ∀ d : Nat, d < zD Λ → gI h' (l + 13 + d) 0 = zV Λ 16 d ∧ gI h' (l + 13 + d) 1 = zV Λ 17 d ∧ gI h' (l + 13 + d) 2 = zV Λ 18 d ∧ gI h' (l + 13 + d) 3 = zV Λ 19 d ∧ gI h' (l + 13 + d) 4 = zV Λ 20 d ∧ gI h' (l + 13 + d) 5 = zV Λ 21 d ∧ gI h' (l + 13 + d) 6 = zV Λ 22 d ∧ gI h' (l + 13 + d) 7 = zV Λ 23 d ∧ gI h' (l + 13 + d) 8 = zV Λ 24 d := fun d hd => by
    have ee : ∀ k : Nat, gI h' (l + 13 + d) k = gI h (l + 13 + d) k := fun k => e _ _ (by omega) (by omega) (by omega) (by omega)
    rw [ee, ee, ee, ee, ee, ee, ee, ee, ee]
    exact c4 d hd
  have g1 : gI h' l 1 = nI (zF Λ) := (e _ _ (by omega) (by omega) (by omega) (by omega)).trans c1
  have g5 : ∀ w : Nat, w < 4 → gI h' (l + 37) w = zV Λ 25 w := fun w hw => (e _ _ (by omega) (by omega) (by omega) (by omega)).trans (c5 w hw)
  have g6 : gI h' (l + 38) 0 = nI (zC Λ) := (e _ _ (by omega) (by omega) (by omega) (by omega)).trans c6
  have g7 : ∀ i : Nat, i < zC Λ → gI h' (l + 39) i = zV Λ 29 i ∧ gI h' (l + 40) i = zV Λ 30 i := fun i hi => ⟨(e _ _ (by omega) (by omega) (by omega) (by omega)).trans (c7 i hi).1, (e _ _ (by omega) (by omega) (by omega) (by omega)).trans (c7 i hi).2⟩
  have g8 : gI h' (l + 41) 0 = zV Λ 27 0 := (e _ _ (by omega) (by omega) (by omega) (by omega)).trans c8
  have g9 : ∀ i : Nat, i < 64 → gI h' (l + 42) i = zV Λ 26 i := fun i hi => (e _ _ (by omega) (by omega) (by omega) (by omega)).trans (c9 i hi)
  have gs : cSe h' l (zN Λ) (zS_ Λ) (zYr Λ) := ⟨(e _ _ (by omega) (by omega) (by omega) (by omega)).trans c10, fun y => (e _ _ (by omega) (by omega) (by omega) (by omega)).trans (c11 y), fun y => rCS_fr ⟨fun b k h1 h2 => e _ _ (by omega) (by omega) (by omega) (by omega), fun b k _ _ => eL _ _⟩ (c12 y)⟩
  refine ⟨fun g3 => ⟨⟨g1, cf⟩, ⟨g3, cd⟩, g5, ⟨g6, g7⟩, ⟨g8, g9⟩, gs⟩, fun g3 g4 => ⟨⟨g1, fun f hf => ?_⟩, ⟨g3, fun d hd => ?_⟩, fun w hw => ?_, ⟨g6, fun i hi => ?_⟩, ⟨?_, fun i hi => ?_⟩, gs⟩⟩
  · show gI h' (l + 2 + f) 0 = nV (zV Λ) (zD Λ) dv 10 f ∧ gI h' (l + 2 + f) 1 = nV (zV Λ) (zD Λ) dv 11 f ∧ gI h' (l + 2 + f) 2 = nV (zV Λ) (zD Λ) dv 12 f ∧ gI h' (l + 2 + f) 3 = nV (zV Λ) (zD Λ) dv 13 f ∧ gL h' (l + 2 + f) 4 = zW Λ f
    rw [nV_k (by omega), nV_k (by omega), nV_k (by omega), nV_k (by omega)]
    exact cf f hf
  · have hd : d < zD Λ + 1 := hd
    show gI h' (l + 13 + d) 0 = nV (zV Λ) (zD Λ) dv 16 d ∧ gI h' (l + 13 + d) 1 = nV (zV Λ) (zD Λ) dv 17 d ∧ gI h' (l + 13 + d) 2 = nV (zV Λ) (zD Λ) dv 18 d ∧ gI h' (l + 13 + d) 3 = nV (zV Λ) (zD Λ) dv 19 d ∧ gI h' (l + 13 + d) 4 = nV (zV Λ) (zD Λ) dv 20 d ∧ gI h' (l + 13 + d) 5 = nV (zV Λ) (zD Λ) dv 21 d ∧ gI h' (l + 13 + d) 6 = nV (zV Λ) (zD Λ) dv 22 d ∧ gI h' (l + 13 + d) 7 = nV (zV Λ) (zD Λ) dv 23 d ∧ gI h' (l + 13 + d) 8 = nV (zV Λ) (zD Λ) dv 24 d
    by_cases q : d = zD Λ
    · subst q
      rw [nV_n (by omega), nV_n (by omega), nV_n (by omega), nV_n (by omega), nV_n (by omega), nV_n (by omega), nV_n (by omega), nV_n (by omega), nV_n (by omega)]
      exact ⟨g4 0 (by omega), g4 1 (by omega), g4 2 (by omega), g4 3 (by omega), g4 4 (by omega), g4 5 (by omega), g4 6 (by omega), g4 7 (by omega), g4 8 (by omega)⟩
    · rw [nV_i q, nV_i q, nV_i q, nV_i q, nV_i q, nV_i q, nV_i q, nV_i q, nV_i q]
      exact cd d (by omega)
  · show gI h' (l + 37) w = nV (zV Λ) (zD Λ) dv 25 w
    rw [nV_k (by omega)]
    exact g5 w hw
  · show gI h' (l + 39) i = nV (zV Λ) (zD Λ) dv 29 i ∧ gI h' (l + 40) i = nV (zV Λ) (zD Λ) dv 30 i
    rw [nV_k (by omega), nV_k (by omega)]
    exact g7 i hi
  · show gI h' (l + 41) 0 = nV (zV Λ) (zD Λ) dv 27 0
    rw [nV_k (by omega)]
    exact g8
  · show gI h' (l + 42) i = nV (zV Λ) (zD Λ) dv 26 i
    rw [nV_k (by omega)]
    exact g9 i hi
/-- the reference, but for the deed behind the last -/
theorem mL_nd (k : kL Λ) (hn : zD Λ < 24) (e : ∀ b k : Nat, m ≤ b → b ≤ m + 179 → ¬ (b = m ∧ (k = 15 ∨ k = 7 ∨ k = 53 ∨ (43 ≤ k ∧ k ≤ 48))) → ¬ (m + 22 ≤ b ∧ b ≤ m + 30 ∧ k = zD Λ) → ¬ b = m + 16 → gI h' b k = gI h b k) (eL : ∀ b k : Nat, ¬ (b = m ∧ k = 46) → gL h' b k = gL h b k) (c : mL h m Λ) : (gI h' m 15 = nI (zD Λ) → mL h' m Λ) ∧ (gI h' m 15 = nI (zD Λ + 1) → (∀ j : Nat, j < 9 → gI h' (m + 22 + j) (zD Λ) = dv (16 + j)) → mL h' m (nD Λ dv)) := by
  obtain ⟨⟨c1, c2⟩, ⟨c3, c4⟩, c5, ⟨c6, c7⟩, ⟨c8, c9⟩, c10, c11⟩ := c
  have kF1 := k.1.1
  have kC1 := k.2.2.2.1.1
  have ky := k.2.2.2.2.2
  have k45 := fun y => k.aL45 y
  have cf : ∀ f : Nat, f < zF Λ → gI h' (m + 17) f = zV Λ 10 f ∧ gI h' (m + 18) f = zV Λ 11 f ∧ gI h' (m + 19) f = zV Λ 12 f ∧ gI h' (m + 20) f = zV Λ 13 f ∧ gL h' (m + 21) f = zW Λ f := fun f hf => by
    rw [e _ _ (by omega) (by omega) (by omega) (by omega) (by omega), e _ _ (by omega) (by omega) (by omega) (by omega) (by omega), e _ _ (by omega) (by omega) (by omega) (by omega) (by omega), e _ _ (by omega) (by omega) (by omega) (by omega) (by omega), eL _ _ (by omega)]
    exact c2 f hf
  have cd : ∀ d : Nat, d < zD Λ → gI h' (m + 22) d = zV Λ 16 d ∧ gI h' (m + 23) d = zV Λ 17 d ∧ gI h' (m + 24) d = zV Λ 18 d ∧ gI h' (m + 25) d = zV Λ 19 d ∧ gI h' (m + 26) d = zV Λ 20 d ∧ gI h' (m + 27) d = zV Λ 21 d ∧ gI h' (m + 28) d = zV Λ 22 d ∧ gI h' (m + 29) d = zV Λ 23 d ∧ gI h' (m + 30) d = zV Λ 24 d := fun d hd => by
    have ee : ∀ b : Nat, m + 22 ≤ b → b ≤ m + 30 → gI h' b d = gI h b d := fun b h1 h2 => e _ _ (by omega) (by omega) (by omega) (by omega) (by omega)
    rw [ee _ (by omega) (by omega), ee _ (by omega) (by omega), ee _ (by omega) (by omega), ee _ (by omega) (by omega), ee _ (by omega) (by omega), ee _ (by omega) (by omega), ee _ (by omega) (by omega), ee _ (by omega) (by omega), ee _ (by omega) (by omega)]
    exact c4 d hd
  have g1 : gI h' m 9 = nI (zF Λ) := (e _ _ (by omega) (by omega) (by omega) (by omega) (by omega)).trans c1
  have g5 : ∀ w : Nat, w < 4 → gI h' (m + 31) w = zV Λ 25 w := fun w hw => (e _ _ (by omega) (by omega) (by omega) (by omega) (by omega)).trans (c5 w hw)
  have g6 : gI h' m 28 = nI (zC Λ) := (e _ _ (by omega) (by omega) (by omega) (by omega) (by omega)).trans c6
  have g7 : ∀ i : Nat, i < zC Λ → gI h' (m + 33) i = zV Λ 29 i ∧ gI h' (m + 34) i = zV Λ 30 i := fun i hi => ⟨(e _ _ (by omega) (by omega) (by omega) (by omega) (by omega)).trans (c7 i hi).1, (e _ _ (by omega) (by omega) (by omega) (by omega) (by omega)).trans (c7 i hi).2⟩
  have g8 : gI h' m 27 = zV Λ 27 0 := (e _ _ (by omega) (by omega) (by omega) (by omega) (by omega)).trans c8
  have g9 : ∀ i : Nat, i < 64 → gI h' (m + 32) i = zV Λ 26 i := fun i hi => (e _ _ (by omega) (by omega) (by omega) (by omega) (by omega)).trans (c9 i hi)
  have gs : mSe h' m (zN Λ) (zS_ Λ) (zYr Λ) := ⟨fun y => (e _ _ (by omega) (by omega) (by omega) (by omega) (by omega)).trans (c10 y), fun y => ⟨(e _ _ (by omega) (by omega) (by omega) (by omega) (by omega)).trans (c11 y).1, (e _ _ (by omega) (by omega) (by omega) (by omega) (by omega)).trans (c11 y).2.1, rMS_fr (ky y).1 (k45 y) ⟨fun b k h1 h2 => e _ _ (by omega) (by omega) (by omega) (by omega) (by omega), fun b k h1 h2 => eL _ _ (by omega)⟩ (c11 y).2.2⟩⟩
  refine ⟨fun g3 => ⟨⟨g1, cf⟩, ⟨g3, cd⟩, g5, ⟨g6, g7⟩, ⟨g8, g9⟩, gs⟩, fun g3 g4 => ⟨⟨g1, fun f hf => ?_⟩, ⟨g3, fun d hd => ?_⟩, fun w hw => ?_, ⟨g6, fun i hi => ?_⟩, ⟨?_, fun i hi => ?_⟩, gs⟩⟩
  · show gI h' (m + 17) f = nV (zV Λ) (zD Λ) dv 10 f ∧ gI h' (m + 18) f = nV (zV Λ) (zD Λ) dv 11 f ∧ gI h' (m + 19) f = nV (zV Λ) (zD Λ) dv 12 f ∧ gI h' (m + 20) f = nV (zV Λ) (zD Λ) dv 13 f ∧ gL h' (m + 21) f = zW Λ f
    rw [nV_k (by omega), nV_k (by omega), nV_k (by omega), nV_k (by omega)]
    exact cf f hf
  · have hd : d < zD Λ + 1 := hd
    show gI h' (m + 22) d = nV (zV Λ) (zD Λ) dv 16 d ∧ gI h' (m + 23) d = nV (zV Λ) (zD Λ) dv 17 d ∧ gI h' (m + 24) d = nV (zV Λ) (zD Λ) dv 18 d ∧ gI h' (m + 25) d = nV (zV Λ) (zD Λ) dv 19 d ∧ gI h' (m + 26) d = nV (zV Λ) (zD Λ) dv 20 d ∧ gI h' (m + 27) d = nV (zV Λ) (zD Λ) dv 21 d ∧ gI h' (m + 28) d = nV (zV Λ) (zD Λ) dv 22 d ∧ gI h' (m + 29) d = nV (zV Λ) (zD Λ) dv 23 d ∧ gI h' (m + 30) d = nV (zV Λ) (zD Λ) dv 24 d
    by_cases q : d = zD Λ
    · subst q
      rw [nV_n (by omega), nV_n (by omega), nV_n (by omega), nV_n (by omega), nV_n (by omega), nV_n (by omega), nV_n (by omega), nV_n (by omega), nV_n (by omega)]
      exact ⟨g4 0 (by omega), g4 1 (by omega), g4 2 (by omega), g4 3 (by omega), g4 4 (by omega), g4 5 (by omega), g4 6 (by omega), g4 7 (by omega), g4 8 (by omega)⟩
    · rw [nV_i q, nV_i q, nV_i q, nV_i q, nV_i q, nV_i q, nV_i q, nV_i q, nV_i q]
      exact cd d (by omega)
  · show gI h' (m + 31) w = nV (zV Λ) (zD Λ) dv 25 w
    rw [nV_k (by omega)]
    exact g5 w hw
  · show gI h' (m + 33) i = nV (zV Λ) (zD Λ) dv 29 i ∧ gI h' (m + 34) i = nV (zV Λ) (zD Λ) dv 30 i
    rw [nV_k (by omega), nV_k (by omega)]
    exact g7 i hi
  · show gI h' m 27 = nV (zV Λ) (zD Λ) dv 27 0
    rw [nV_k (by omega)]
    exact g8
  · show gI h' (m + 32) i = nV (zV Λ) (zD Λ) dv 26 i
    rw [nV_k (by omega)]
    exact g9 i hi
theorem pOne_lt (ha : a < 256) (hb : b < 16) : (pOne T a b σ).2.1 < 256 ∧ (pOne T a b σ).2.2.1 < 16 := by
  unfold pOne
  split
  · exact ⟨Nat.or_lt_two_pow (n := 8) ha wsy_lt, hb⟩
  · split
    · split
      · rename_i z
        have v4 := (nok_i.1 z).2.2
        refine ⟨ha, Nat.or_lt_two_pow (n := 4) hb ?_⟩
        have : ∀ v : Fin 4, 1 <<< v.val < 16 := by decide
        exact this ⟨_, v4⟩
      · exact ⟨ha, hb⟩
    · exact ⟨ha, hb⟩
theorem pOrs_lt : ∀ (k : Nat) (x : Bool × Nat × Nat × zK), x.2.1 < 256 → x.2.2.1 < 16 → (pOrs T k x).2.1 < 256 ∧ (pOrs T k x).2.2.1 < 16
  | 0, x, h1, h2 => ⟨h1, h2⟩
  | k + 1, x, h1, h2 => by
    show (if x.1 = true ∧ isWb T x.2.2.2 (zWd 14) = true then pOrs T k (pOne T x.2.1 x.2.2.1 (tk T x.2.2.2.2.2)) else x).2.1 < 256 ∧ (if x.1 = true ∧ isWb T x.2.2.2 (zWd 14) = true then pOrs T k (pOne T x.2.1 x.2.2.1 (tk T x.2.2.2.2.2)) else x).2.2.1 < 16
    split
    · obtain ⟨a, b⟩ := pOne_lt (T := T) (σ := tk T x.2.2.2.2.2) h1 h2
      exact pOrs_lt k _ a b
    · exact ⟨h1, h2⟩
/-- the new deed's values -/
def dvl (T : zT) (nf : Nat) (k : Nat) : Int32 := if k = 16 then nI (rF T) else if k = 17 then nI (rSc T nf).2.1 else if k = 18 then nI (rY T nf).2.1 else if k = 19 then nI (rW T nf).2.1 else if k = 20 then (rA T).2.1 else if k = 21 then nI (rA T).2.2.2.1 else if k = 22 then nI (rA T).2.2.2.2.1 else if k = 23 then nI (rA T).2.2.1 else nI 0
theorem dvl_k (ok : rOk T nf) : kdv nf (dvl T nf) := by
  obtain ⟨z1, z2, z3, z4, z5, z6⟩ := ok
  have r1 : rF T < nf := (nok_i.1 z1).2.2
  have r2 : (rSc T nf).2.1 < nf ∧ ¬ rF T = (rSc T nf).2.1 := by
    unfold rSc pSc at z3 ⊢
    split at z3
    · exact absurd (show false = true from z3) (by decide)
    · rename_i y1
      rw [if_neg y1]
      split at z3
      · rename_i y2
        rw [if_pos y2]
        have y3 := nok_i.1 y2
        exact ⟨y3.2.2, fun w => y1 ⟨y3.1, w.symm⟩⟩
      · exact absurd (show false = true from z3) (by decide)
  have r3 : 1 ≤ (rW T nf).2.1 ∧ (rW T nf).2.1 < 100 := by
    unfold rW pOp at z5 ⊢
    split at z5
    · rename_i y1
      rw [if_pos y1]
      split at z5
      · rename_i y2
        rw [if_pos y2]
        exact (nok_i.1 y2).2
      · exact absurd (show false = true from z5) (by decide)
    · rename_i y1
      rw [if_neg y1]
      exact ⟨Nat.le_refl 1, (show 1 < 100 by decide)⟩
  have r4 : nOr (rA T).2.1 3 ∧ (rA T).2.2.2.1 < 256 ∧ (rA T).2.2.2.2.1 < 16 ∧ (rA T).2.2.1 < 2 := by
    unfold rA pSd
    split
    · refine ⟨?_, (show 0 < 256 by decide), (show 0 < 16 by decide), (show 0 < 2 by decide)⟩
      show nOr (odr T _) 3
      unfold odr
      split
      · exact Or.inr ⟨0, rfl, by decide⟩
      · split
        · exact Or.inr ⟨1, rfl, by decide⟩
        · split
          · exact Or.inr ⟨2, rfl, by decide⟩
          · exact Or.inl rfl
    · obtain ⟨a, b⟩ := pOne_lt (T := T) (a := 0) (b := 0) (σ := if isWb T (tk T (tk T 0).2.2) (zWd 3) = true then tk T (tk T (tk T 0).2.2).2.2 else tk T (tk T 0).2.2) (by decide) (by decide)
      obtain ⟨c, d⟩ := pOrs_lt (T := T) 80 _ a b
      refine ⟨Or.inl rfl, c, d, ?_⟩
      show (if isWb T (tk T (tk T 0).2.2) (zWd 3) = true then 1 else 0) < 2
      split <;> decide
  exact ⟨⟨rF T, (rSc T nf).2.1, rfl, rfl, r1, r2.1, r2.2⟩, ⟨(rW T nf).2.1, rfl, r3⟩, r4.1, ⟨_, rfl, r4.2.1⟩, ⟨_, rfl, r4.2.2.1⟩, ⟨_, rfl, r4.2.2.2⟩, ⟨0, rfl, by decide⟩⟩
end ZND
