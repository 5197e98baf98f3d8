/-! rings: sets reached in so many steps -/
def stpA (A : Nat → Nat) (n x : Nat) : Nat := orN (fun f => if x.testBit f = true then A f else 0) n
def fk (A : Nat → Nat) (n f : Nat) : Nat → Nat
  | 0 => 1 <<< f
  | k + 1 => stpA A n (fk A n f k)
/-- arrows within n -/
def aIn (A : Nat → Nat) (n : Nat) : Prop := ∀ f s : Nat, f < n → (A f).testBit s = true → s < n
section ZWK
variable {A : Nat → Nat} {n : Nat}
theorem stpA_bit {x s : Nat} : (stpA A n x).testBit s = true ↔ ∃ f : Nat, f < n ∧ x.testBit f = true ∧ (A f).testBit s = true := by
  unfold stpA
  rw [orN_bit]
  constructor
  · rintro ⟨f, hf, h⟩
    rw [if_bit] at h
    exact ⟨f, hf, h.1, h.2⟩
  · rintro ⟨f, hf, h1, h2⟩
    exact ⟨f, hf, if_bit.2 ⟨h1, h2⟩⟩
theorem one_b {f s : Nat} : ((1 : Nat) <<< f).testBit s = true ↔ s = f := by
  rw [Nat.one_shiftLeft, Nat.testBit_two_pow, decide_eq_true_eq]
  exact eq_comm
theorem stp_z : stpA A n 0 = 0 := by
  apply Nat.eq_of_testBit_eq
  intro i
  rw [Nat.zero_testBit, Bool.eq_false_iff]
  intro c
  obtain ⟨f, -, h, -⟩ := stpA_bit.1 c
  rw [Nat.zero_testBit] at h
  exact absurd h (by decide)
theorem fk_1 {f : Nat} (hf : f < n) : fk A n f 1 = A f := by
  apply Nat.eq_of_testBit_eq
  intro i
  apply Bool.eq_iff_iff.2
  show (stpA A n (1 <<< f)).testBit i = true ↔ _
  rw [stpA_bit]
  constructor
  · rintro ⟨e, -, h1, h2⟩
    rw [one_b] at h1
    rw [← h1]; exact h2
  · intro h
    exact ⟨f, hf, one_b.2 rfl, h⟩
theorem fk_z {f k : Nat} (h : fk A n f k = 0) : ∀ j : Nat, fk A n f (k + j) = 0
  | 0 => h
  | j + 1 => by
    show stpA A n (fk A n f (k + j)) = 0
    rw [fk_z h j, stp_z]
theorem stp_lt {x : Nat} (hA : aIn A n) : stpA A n x < 2 ^ n := by
  apply Nat.lt_pow_two_of_testBit
  intro i hi
  rw [Bool.eq_false_iff]
  intro c
  obtain ⟨f, hf, -, h⟩ := stpA_bit.1 c
  exact absurd (hA f i hf h) (by omega)
theorem fk_lt {f : Nat} (hA : aIn A n) (hf : f < n) : ∀ k : Nat, fk A n f k < 2 ^ n
  | 0 => by
    show 1 <<< f < 2 ^ n
    rw [Nat.one_shiftLeft]
    exact Nat.pow_lt_pow_right (by decide) hf
  | k + 1 => stp_lt hA
/-- an arrow ahead of a walk -/
theorem fk_pre {f s : Nat} (hf : f < n) : ∀ k : Nat, (fk A n f (k + 1)).testBit s = true ↔ ∃ g : Nat, (A f).testBit g = true ∧ g < n ∧ (fk A n g k).testBit s = true ∨ ((A f).testBit g = true ∧ k = 0 ∧ g = s)
  | 0 => by
    rw [fk_1 hf]
    constructor
    · intro h; exact ⟨s, Or.inr ⟨h, rfl, rfl⟩⟩
    · rintro ⟨g, ⟨h1, h2, h3⟩ | ⟨h1, -, h3⟩⟩
      · have h3' : ((1 : Nat) <<< g).testBit s = true := h3
        rw [one_b] at h3'
        rw [h3']; exact h1
      · rw [← h3]; exact h1
  | k + 1 => by
    show (stpA A n (fk A n f (k + 1))).testBit s = true ↔ _
    rw [stpA_bit]
    constructor
    · rintro ⟨m, hm, h1, h2⟩
      rcases (fk_pre hf k).1 h1 with ⟨g, ⟨g1, g2, g3⟩ | ⟨g1, g2, g3⟩⟩
      · exact ⟨g, Or.inl ⟨g1, g2, stpA_bit.2 ⟨m, hm, g3, h2⟩⟩⟩
      · subst g2
        subst g3
        refine ⟨g, Or.inl ⟨g1, hm, ?_⟩⟩
        rw [fk_1 hm]; exact h2
    · rintro ⟨g, ⟨g1, g2, g3⟩ | ⟨g1, g2, g3⟩⟩
      · obtain ⟨m, hm, h1, h2⟩ := stpA_bit.1 (show (stpA A n (fk A n g k)).testBit s = true from g3)
        exact ⟨m, hm, (fk_pre hf k).2 ⟨g, Or.inl ⟨g1, g2, h1⟩⟩, h2⟩
      · omega
/-- the fewest in a ring, or none -/
def rgQ (A : Nat → Nat) (n N : Nat) (r : Int32) : Prop := (r = -1 ∧ ∀ f L : Nat, f < N → 1 ≤ L → L ≤ n → ¬ (fk A n f L).testBit f = true) ∨ ∃ L : Nat, r = nI L ∧ 1 ≤ L ∧ L ≤ n ∧ (∃ f : Nat, f < N ∧ (fk A n f L).testBit f = true) ∧ ∀ f M : Nat, f < N → 1 ≤ M → M < L → ¬ (fk A n f M).testBit f = true
theorem rgQ_un {r r' : Int32} {N : Nat} (h : rgQ A n N r) (h' : rgQ A n N r') : r = r' := by
  rcases h with ⟨a1, a2⟩ | ⟨L, a1, a2, a3, ⟨f, a4, a5⟩, a6⟩
  · rcases h' with ⟨b1, b2⟩ | ⟨L', b1, b2, b3, ⟨f', b4, b5⟩, b6⟩
    · rw [a1, b1]
    · exact absurd b5 (a2 f' L' b4 b2 b3)
  · rcases h' with ⟨b1, b2⟩ | ⟨L', b1, b2, b3, ⟨f', b4, b5⟩, b6⟩
    · exact absurd a5 (b2 f L a4 a2 a3)
    · have h1 : ¬ L < L' := fun c => b6 f L a4 a2 c a5
      have h2 : ¬ L' < L := fun c => a6 f' L' b4 b2 c b5
      rw [a1, b1, show L = L' by omega]
/-- from one field -/
def rfQ (A : Nat → Nat) (n f : Nat) (r : Int32) : Prop := (r = -1 ∧ ∀ L : Nat, 1 ≤ L → L ≤ n → ¬ (fk A n f L).testBit f = true) ∨ ∃ L : Nat, r = nI L ∧ 1 ≤ L ∧ L ≤ n ∧ (fk A n f L).testBit f = true ∧ ∀ M : Nat, 1 ≤ M → M < L → ¬ (fk A n f M).testBit f = true
def rgM (r x : Int32) : Int32 := if x = -1 then r else if r = -1 then x else if x < r then x else r
theorem rgQ_s {r x : Int32} {N : Nat} (hn : n ≤ 10) (h : rgQ A n N r) (k : rfQ A n N x) : rgQ A n (N + 1) (rgM r x) := by
  unfold rgM
  rcases k with ⟨k1, k2⟩ | ⟨M, k1, k2, k3, k4, k5⟩
  · rw [if_pos k1]
    rcases h with ⟨a1, a2⟩ | ⟨L, a1, a2, a3, ⟨f, a4, a5⟩, a6⟩
    · refine Or.inl ⟨a1, fun f L hf => ?_⟩
      by_cases q : f = N
      · rw [q]; exact k2 L
      · exact a2 f L (by omega)
    · refine Or.inr ⟨L, a1, a2, a3, ⟨f, by omega, a5⟩, fun f M hf h1 h2 => ?_⟩
      by_cases q : f = N
      · rw [q]; exact k2 M h1 (by omega)
      · exact a6 f M (by omega) h1 h2
  · have nx : ¬ x = -1 := by rw [k1]; exact of_eq_false (a_m1 (by omega))
    rw [if_neg nx]
    rcases h with ⟨a1, a2⟩ | ⟨L, a1, a2, a3, ⟨f, a4, a5⟩, a6⟩
    · rw [if_pos a1]
      refine Or.inr ⟨M, k1, k2, k3, ⟨N, by omega, k4⟩, fun f L hf h1 h2 => ?_⟩
      by_cases q : f = N
      · rw [q]; exact k5 L h1 h2
      · exact a2 f L (by omega) h1 (by omega)
    · have nr : ¬ r = -1 := by rw [a1]; exact of_eq_false (a_m1 (by omega))
      rw [if_neg nr]
      have e : (x < r) = (M < L) := by rw [a1, k1]; exact a_lt (by omega) (by omega)
      by_cases c : M < L
      · rw [if_pos (by rw [e]; exact c)]
        refine Or.inr ⟨M, k1, k2, k3, ⟨N, by omega, k4⟩, fun f L' hf h1 h2 => ?_⟩
        by_cases q : f = N
        · rw [q]; exact k5 L' h1 h2
        · exact a6 f L' (by omega) h1 (by omega)
      · rw [if_neg (by rw [e]; exact c)]
        refine Or.inr ⟨L, a1, a2, a3, ⟨f, by omega, a5⟩, fun f L' hf h1 h2 => ?_⟩
        by_cases q : f = N
        · rw [q]; exact k5 L' h1 (by omega)
        · exact a6 f L' (by omega) h1 h2
/-- by fields and steps -/
def rsQ (A : Nat → Nat) (n N S : Nat) (r : Int32) : Prop := (r = -1 ∧ (∀ f L : Nat, f < N → 1 ≤ L → L ≤ n → ¬ (fk A n f L).testBit f = true) ∧ ∀ L : Nat, 1 ≤ L → L < S → ¬ (fk A n N L).testBit N = true) ∨ ∃ L : Nat, r = nI L ∧ 1 ≤ L ∧ L ≤ n ∧ ((∃ f : Nat, f < N ∧ (fk A n f L).testBit f = true) ∨ (L < S ∧ (fk A n N L).testBit N = true)) ∧ (∀ f M : Nat, f < N → 1 ≤ M → M < L → ¬ (fk A n f M).testBit f = true) ∧ ∀ M : Nat, 1 ≤ M → M < L → M < S → ¬ (fk A n N M).testBit N = true
theorem rsQ_0 {r : Int32} {N : Nat} (h : rgQ A n N r) : rsQ A n N 1 r := by
  rcases h with ⟨a1, a2⟩ | ⟨L, a1, a2, a3, a4, a6⟩
  · exact Or.inl ⟨a1, a2, fun L h1 h2 => by omega⟩
  · exact Or.inr ⟨L, a1, a2, a3, Or.inl a4, a6, fun M h1 h2 h3 => by omega⟩
theorem rsQ_e {r : Int32} {N : Nat} (h : rsQ A n N (n + 1) r) : rgQ A n (N + 1) r := by
  rcases h with ⟨a1, a2, a3⟩ | ⟨L, a1, a2, a3, a4, a5, a6⟩
  · refine Or.inl ⟨a1, fun f L hf h1 h2 => ?_⟩
    by_cases q : f = N
    · rw [q]; exact a3 L h1 (by omega)
    · exact a2 f L (by omega) h1 h2
  · refine Or.inr ⟨L, a1, a2, a3, ?_, fun f M hf h1 h2 => ?_⟩
    · rcases a4 with ⟨f, h1, h2⟩ | ⟨-, h2⟩
      · exact ⟨f, by omega, h2⟩
      · exact ⟨N, by omega, h2⟩
    · by_cases q : f = N
      · rw [q]; exact a6 M h1 h2 (by omega)
      · exact a5 f M (by omega) h1 h2
noncomputable def rsM (A : Nat → Nat) (n N S : Nat) (r : Int32) : Int32 := tst ((fk A n N S).testBit N = true ∧ (r = -1 ∨ nI S < r)) (nI S) r
theorem rsQ_s {r : Int32} {N S : Nat} (hn : n ≤ 10) (h1S : 1 ≤ S) (hS : S ≤ n) (h : rsQ A n N S r) : rsQ A n N (S + 1) (rsM A n N S r) := by
  unfold rsM
  by_cases c : (fk A n N S).testBit N = true ∧ (r = -1 ∨ nI S < r)
  · rw [tst_t c]
    obtain ⟨c1, c2⟩ := c
    rcases h with ⟨a1, a2, a3⟩ | ⟨L, a1, a2, a3, a4, a5, a6⟩
    · exact Or.inr ⟨S, rfl, h1S, hS, Or.inr ⟨by omega, c1⟩, fun f M hf h1 h2 => a2 f M hf h1 (by omega), fun M h1 h2 _ => a3 M h1 h2⟩
    · have lt : S < L := by
        rcases c2 with c2 | c2
        · rw [a1] at c2
          exact absurd c2 (of_eq_false (a_m1 (by omega)))
        · rw [a1, a_lt (by omega) (by omega)] at c2
          exact c2
      exact Or.inr ⟨S, rfl, h1S, hS, Or.inr ⟨by omega, c1⟩, fun f M hf h1 h2 => a5 f M hf h1 (by omega), fun M h1 h2 _ => a6 M h1 (by omega) h2⟩
  · rw [tst_f c]
    rcases h with ⟨a1, a2, a3⟩ | ⟨L, a1, a2, a3, a4, a5, a6⟩
    · refine Or.inl ⟨a1, a2, fun L h1 h2 => ?_⟩
      by_cases q : L = S
      · rw [q]; exact fun d => c ⟨d, Or.inl a1⟩
      · exact a3 L h1 (by omega)
    · refine Or.inr ⟨L, a1, a2, a3, ?_, a5, fun M h1 h2 h3 => ?_⟩
      · rcases a4 with d | ⟨d1, d2⟩
        · exact Or.inl d
        · exact Or.inr ⟨by omega, d2⟩
      · by_cases q : M = S
        · rw [q]
          intro d
          refine c ⟨d, Or.inr ?_⟩
          rw [a1, a_lt (by omega) (by omega)]
          omega
        · exact a6 M h1 h2 (by omega)
end ZWK
/-- the arrows of an order by some deeds -/
noncomputable def arB (V : Nat → Nat → Int32) (o : Int32) (sel : Nat → Prop) (f : Nat) (m : Nat) : Nat := orN (fun d => tst (sel d ∧ V 20 d = o ∧ V 16 d = nI f) (1 <<< ix (V 17 d)) 0) m
theorem tst_bit {p : Prop} {x i : Nat} : (tst p x 0).testBit i = true ↔ p ∧ x.testBit i = true := by
  by_cases c : p
  · rw [tst_t c]
    exact ⟨fun h => ⟨c, h⟩, fun h => h.2⟩
  · rw [tst_f c, Nat.zero_testBit]
    exact ⟨fun h => absurd h (by decide), fun h => absurd h.1 c⟩
theorem arB_bit {V : Nat → Nat → Int32} {o : Int32} {sel : Nat → Prop} {f s m : Nat} : (arB V o sel f m).testBit s = true ↔ ∃ d : Nat, d < m ∧ (sel d ∧ V 20 d = o ∧ V 16 d = nI f) ∧ s = ix (V 17 d) := by
  unfold arB
  rw [orN_bit]
  constructor
  · rintro ⟨d, hd, h⟩
    rw [tst_bit, one_b] at h
    exact ⟨d, hd, h.1, h.2⟩
  · rintro ⟨d, hd, h1, h2⟩
    exact ⟨d, hd, tst_bit.2 ⟨h1, one_b.2 h2⟩⟩
theorem arB_in {V : Nat → Nat → Int32} {o : Int32} {sel : Nat → Prop} {nf nd m : Nat} (k1 : nf ≤ 10) (k : kDd nf nd V) (hm : m ≤ nd) : aIn (fun f => arB V o sel f m) nf := by
  intro f s hf h
  obtain ⟨d, hd, h1, h2⟩ := arB_bit.1 h
  obtain ⟨⟨a, b, e1, e2, e3, e4, -⟩, -⟩ := k.2 d (by omega)
  rw [h2, e2, a_ix (by omega)]
  exact e4
theorem arB_c {V : Nat → Nat → Int32} {o : Int32} {sel sel' : Nat → Prop} {m : Nat} (h : ∀ d : Nat, d < m → (sel d ↔ sel' d)) : (fun f => arB V o sel f m) = fun f => arB V o sel' f m := by
  funext f
  apply Nat.eq_of_testBit_eq
  intro i
  apply Bool.eq_iff_iff.2
  rw [arB_bit, arB_bit]
  constructor
  · rintro ⟨d, hd, ⟨h1, h2⟩, h3⟩
    exact ⟨d, hd, ⟨(h d hd).1 h1, h2⟩, h3⟩
  · rintro ⟨d, hd, ⟨h1, h2⟩, h3⟩
    exact ⟨d, hd, ⟨(h d hd).2 h1, h2⟩, h3⟩
/-- what the reference goes on to, by the deeds -/
noncomputable def thB (V : Nat → Nat → Int32) (o : Int32) (sel : Nat → Prop) (x : Nat) (m : Nat) : Nat := orN (fun d => tst ((sel d ∧ V 20 d = o) ∧ x.testBit (ix (V 16 d)) = true) (1 <<< ix (V 17 d)) 0) m
theorem thB_s {V : Nat → Nat → Int32} {o : Int32} {sel : Nat → Prop} {x m : Nat} : thB V o sel x (m + 1) = thB V o sel x m ||| tst ((sel m ∧ V 20 m = o) ∧ x.testBit (ix (V 16 m)) = true) (1 <<< ix (V 17 m)) 0 := rfl
theorem thB_stp {V : Nat → Nat → Int32} {o : Int32} {sel : Nat → Prop} {nf nd x : Nat} (k1 : nf ≤ 10) (k : kDd nf nd V) : thB V o sel x nd = stpA (fun f => arB V o sel f nd) nf x := by
  apply Nat.eq_of_testBit_eq
  intro i
  apply Bool.eq_iff_iff.2
  rw [stpA_bit]
  unfold thB
  rw [orN_bit]
  constructor
  · rintro ⟨d, hd, h⟩
    rw [tst_bit, one_b] at h
    obtain ⟨⟨⟨h1, h2⟩, h3⟩, h4⟩ := h
    obtain ⟨⟨a, b, e1, e2, e3, e4, -⟩, -⟩ := k.2 d hd
    rw [e1, a_ix (by omega)] at h3
    exact ⟨a, e3, h3, arB_bit.2 ⟨d, hd, ⟨h1, h2, e1⟩, h4⟩⟩
  · rintro ⟨f, hf, h1, h2⟩
    obtain ⟨d, hd, ⟨g1, g2, g3⟩, g4⟩ := arB_bit.1 h2
    refine ⟨d, hd, ?_⟩
    rw [tst_bit, one_b]
    refine ⟨⟨⟨g1, g2⟩, ?_⟩, g4⟩
    rw [g3, a_ix (by omega)]
    exact h1
