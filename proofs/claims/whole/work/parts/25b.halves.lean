/-! the halves' table gives what follows; the pairs' table -/
def hvT (i : Nat) : Nat := fo (if i / 512 = 0 then i / 16 % 16 else i / 16 % 16 * 16) (if i / 256 % 2 = 0 then i % 16 else i % 16 * 16)
theorem fo_orl (a b k : Nat) : fo (a ||| b) k = fo a k ||| fo b k := by
  apply Nat.eq_of_testBit_eq
  intro i
  apply Bool.eq_iff_iff.2
  rw [Nat.testBit_or, Bool.or_eq_true, fo_bit, fo_bit, fo_bit]
  constructor
  · rintro ⟨w, hw, v, hv, h1, h2, h3⟩
    rw [Nat.testBit_or, Bool.or_eq_true] at h1
    rcases h1 with h1 | h1
    · exact Or.inl ⟨w, hw, v, hv, h1, h2, h3⟩
    · exact Or.inr ⟨w, hw, v, hv, h1, h2, h3⟩
  · rintro (⟨w, hw, v, hv, h1, h2, h3⟩ | ⟨w, hw, v, hv, h1, h2, h3⟩)
    · exact ⟨w, hw, v, hv, by rw [Nat.testBit_or, h1]; rfl, h2, h3⟩
    · exact ⟨w, hw, v, hv, by rw [Nat.testBit_or, h1, Bool.or_true], h2, h3⟩
theorem fo_orr (a b k : Nat) : fo k (a ||| b) = fo k a ||| fo k b := by
  apply Nat.eq_of_testBit_eq
  intro i
  apply Bool.eq_iff_iff.2
  rw [Nat.testBit_or, Bool.or_eq_true, fo_bit, fo_bit, fo_bit]
  constructor
  · rintro ⟨w, hw, v, hv, h1, h2, h3⟩
    rw [Nat.testBit_or, Bool.or_eq_true] at h2
    rcases h2 with h2 | h2
    · exact Or.inl ⟨w, hw, v, hv, h1, h2, h3⟩
    · exact Or.inr ⟨w, hw, v, hv, h1, h2, h3⟩
  · rintro (⟨w, hw, v, hv, h1, h2, h3⟩ | ⟨w, hw, v, hv, h1, h2, h3⟩)
    · exact ⟨w, hw, v, hv, h1, by rw [Nat.testBit_or, h2]; rfl, h3⟩
    · exact ⟨w, hw, v, hv, h1, by rw [Nat.testBit_or, h2, Bool.or_true], h3⟩
theorem f2a : ∀ s : Fin 256, s.val <<< 4 &&& 240 = s.val % 16 * 16 ∧ s.val &&& 240 = s.val / 16 * 16 ∧ s.val &&& 15 = s.val % 16 ∧ s.val >>> 4 &&& 15 = s.val / 16 ∧ s.val = s.val % 16 ||| s.val / 16 * 16 := by decide +kernel
theorem f2b : ∀ x y : Fin 16, x.val * 16 ||| y.val = x.val * 16 + y.val ∧ 256 ||| x.val * 16 ||| y.val = 256 + x.val * 16 + y.val ∧ 512 ||| x.val * 16 ||| y.val = 512 + x.val * 16 + y.val ∧ 768 ||| x.val * 16 ||| y.val = 768 + x.val * 16 + y.val := by decide +kernel
theorem hvT3 {x y : Nat} (hx : x < 16) (hy : y < 16) : hvT (512 + x * 16 + y) = fo (x * 16) y := by
  unfold hvT
  have d1 : (512 + x * 16 + y) / 512 = 1 := by omega
  have d2 : (512 + x * 16 + y) / 256 = 2 := by omega
  have d3 : (512 + x * 16 + y) / 16 = 32 + x := by omega
  have d4 : (512 + x * 16 + y) % 16 = y := by omega
  rw [d1, d2, d3, d4, if_neg (by decide), if_pos (by decide), show (32 + x) % 16 = x by omega]
theorem hvT4 {x y : Nat} (hx : x < 16) (hy : y < 16) : hvT (768 + x * 16 + y) = fo (x * 16) (y * 16) := by
  unfold hvT
  have d1 : (768 + x * 16 + y) / 512 = 1 := by omega
  have d2 : (768 + x * 16 + y) / 256 = 3 := by omega
  have d3 : (768 + x * 16 + y) / 16 = 48 + x := by omega
  have d4 : (768 + x * 16 + y) % 16 = y := by omega
  rw [d1, d2, d3, d4, if_neg (by decide), if_neg (by decide), show (48 + x) % 16 = x by omega]
theorem f2_fo {s k : Nat} (hs : s < 256) (hk : k < 256) : f2 hvT s k = fo s k := by
  obtain ⟨a1, a2, a3, a4, a5⟩ := f2a ⟨s, hs⟩
  obtain ⟨b1, b2, b3, b4, b5⟩ := f2a ⟨k, hk⟩
  dsimp only at a1 a2 a3 a4 a5 b1 b2 b3 b4 b5
  have x1 : s % 16 < 16 := by omega
  have x2 : s / 16 < 16 := by omega
  have y1 : k % 16 < 16 := by omega
  have y2 : k / 16 < 16 := by omega
  have c1 := (f2b ⟨s % 16, x1⟩ ⟨k % 16, y1⟩).1
  have c2 := (f2b ⟨s % 16, x1⟩ ⟨k / 16, y2⟩).2.1
  have c3 := (f2b ⟨s / 16, x2⟩ ⟨k % 16, y1⟩).2.2.1
  have c4 := (f2b ⟨s / 16, x2⟩ ⟨k / 16, y2⟩).2.2.2
  dsimp only at c1 c2 c3 c4
  unfold f2
  rw [a1, a2, b3, b4, c1, c2, c3, c4]
  have e1 : hvT (s % 16 * 16 + k % 16) = fo (s % 16) (k % 16) := by
    unfold hvT
    rw [if_pos (by omega), if_pos (by omega)]
    congr 1 <;> omega
  have e2 : hvT (256 + s % 16 * 16 + k / 16) = fo (s % 16) (k / 16 * 16) := by
    unfold hvT
    rw [if_pos (by omega), if_neg (by omega)]
    congr 1 <;> omega
  have e3 := hvT3 x2 y1
  have e4 := hvT4 x2 y2
  rw [e1, e2, e3, e4]
  conv => rhs; rw [a5, b5]
  rw [fo_orl, fo_orr, fo_orr, Nat.or_assoc, Nat.or_assoc]
/-- the k-th pair -/
def pP (k : Nat) : Nat := pPs.getD k 0
theorem pP_lt0 : ∀ k : Fin 45, pP k.val / 10 < pP k.val % 10 ∧ pP k.val < 90 := by decide +kernel
theorem pP_n0 : ∀ n : Fin 11, ∀ k : Fin 45, pP k.val % 10 < n.val ↔ k.val < n.val * (n.val - 1) / 2 := by decide +kernel
theorem pP_inj0 : ∀ j k : Fin 45, pP j.val = pP k.val → j.val = k.val := by decide +kernel
theorem pP_ex0 : ∀ x : Fin 100, x.val / 10 < x.val % 10 → ∃ k : Fin 45, pP k.val = x.val := by decide +kernel
theorem pn_le0 : ∀ n : Fin 11, n.val * (n.val - 1) / 2 ≤ 45 := by decide +kernel
theorem pn_le {n : Nat} (hn : n ≤ 10) : n * (n - 1) / 2 ≤ 45 := pn_le0 ⟨n, by omega⟩
theorem pP_lt {k : Nat} (hk : k < 45) : pP k / 10 < pP k % 10 ∧ pP k < 90 := pP_lt0 ⟨k, hk⟩
theorem pP_n {n k : Nat} (hn : n ≤ 10) (hk : k < 45) : pP k % 10 < n ↔ k < n * (n - 1) / 2 := pP_n0 ⟨n, by omega⟩ ⟨k, hk⟩
theorem pP_ex {n a b : Nat} (hn : n ≤ 10) (ha : a < b) (hb : b < n) : ∃ k : Nat, k < n * (n - 1) / 2 ∧ pP k = a * 10 + b := by
  obtain ⟨k, hk⟩ := pP_ex0 ⟨a * 10 + b, by omega⟩ (by dsimp only; omega)
  dsimp only at hk
  refine ⟨k.val, (pP_n hn k.isLt).1 ?_, hk⟩
  rw [hk]
  omega
