/-! the tape's tokens: kind (0 end, 1 word, 2 number, 3 strange), start, end -/
abbrev zK : Type := Nat × Nat × Nat
def isL (b : Nat) : Bool := decide (97 ≤ b ∧ b ≤ 122)
def isD (b : Nat) : Bool := decide (48 ≤ b ∧ b ≤ 57)
def isB (b : Nat) : Bool := decide (b = 32)
def rn (T : zT) (P : Nat → Bool) : Nat → Nat → Nat
  | 0, p => p
  | k + 1, p => if p < T.1 ∧ P (T.2 p) = true then rn T P k (p + 1) else p
/-- the first place from p on that isn't of P -/
def rnn (T : zT) (P : Nat → Bool) (p : Nat) : Nat := rn T P (T.1 - p) p
def skp (T : zT) (p : Nat) : Nat := rnn T isB p
def tkA (T : zT) (s : Nat) : zK := if s < T.1 then (if isL (T.2 s) = true then (1, s, rnn T isL s) else if isD (T.2 s) = true then (2, s, rnn T isD s) else (3, s, s)) else (0, s, s)
/-- the token from p on -/
def tk (T : zT) (p : Nat) : zK := tkA T (skp T p)
def wvl (F : Nat → Nat) : Nat → Nat
  | 0 => 0
  | k + 1 => wvl F k * 32 + (F k - 96)
def nvl (F : Nat → Nat) : Nat → Nat
  | 0 => 0
  | k + 1 => nvl F k * 10 + (F k - 48)
/-- a number's value in the class -/
def nvC (T : zT) (s e : Nat) : Nat := if e - s > 3 then 1000 else nvl (fun i => T.2 (s + i)) (e - s)
/-- what the reference is told -/
def tlW (T : zT) (s e : Nat) : Int64 := if e - s ≤ 8 then lN (wvl (fun i => T.2 (s + i)) (e - s)) else -1
def tlN (T : zT) (s e : Nat) : Int64 := if e - s ≤ 3 then lN (nvl (fun i => T.2 (s + i)) (e - s)) else 100000
/-- the token is the word w -/
def isW (T : zT) (σ : zK) (w : List Nat) : Prop := σ.1 = 1 ∧ σ.2.2 - σ.2.1 = w.length ∧ ∀ i : Nat, i < w.length → T.2 (σ.2.1 + i) = w.getD i 0
section ZTK
variable {T : zT} {P : Nat → Bool} {p k s : Nat}
theorem rn_b : ∀ (k p : Nat), T.1 - p ≤ k → rn T P k p = rn T P (T.1 - p) p
  | 0, p, h => by rw [show T.1 - p = 0 by omega]
  | k + 1, p, h => by
    by_cases c : p < T.1
    · rw [show T.1 - p = (T.1 - (p + 1)) + 1 by omega]
      show (if p < T.1 ∧ P (T.2 p) = true then rn T P k (p + 1) else p) = (if p < T.1 ∧ P (T.2 p) = true then rn T P (T.1 - (p + 1)) (p + 1) else p)
      rw [rn_b k (p + 1) (by omega)]
    · rw [show T.1 - p = 0 by omega]
      show (if p < T.1 ∧ P (T.2 p) = true then rn T P k (p + 1) else p) = p
      rw [if_neg (fun z => c z.1)]
theorem rnn_y (c : p < T.1 ∧ P (T.2 p) = true) : rnn T P p = rnn T P (p + 1) := by
  unfold rnn
  rw [show T.1 - p = (T.1 - (p + 1)) + 1 by omega]
  show (if p < T.1 ∧ P (T.2 p) = true then rn T P (T.1 - (p + 1)) (p + 1) else p) = _
  rw [if_pos c]
theorem rnn_n (c : ¬ (p < T.1 ∧ P (T.2 p) = true)) : rnn T P p = p := by
  unfold rnn
  cases h : T.1 - p with
  | zero => rfl
  | succ k =>
    show (if p < T.1 ∧ P (T.2 p) = true then rn T P k (p + 1) else p) = p
    rw [if_neg c]
/-- a loop that runs so -/
theorem rnn_run {α : Type} (F E : Nat → α) (yes : ∀ p : Nat, p < T.1 → P (T.2 p) = true → F p = F (p + 1)) (no : ∀ p : Nat, p ≤ T.1 → ¬ (p < T.1 ∧ P (T.2 p) = true) → F p = E p) : ∀ (k p : Nat), p + k = T.1 → F p = E (rnn T P p)
  | 0, p, h => by
    have c : ¬ (p < T.1 ∧ P (T.2 p) = true) := fun z => by omega
    rw [rnn_n c]
    exact no p (by omega) c
  | k + 1, p, h => by
    by_cases c : p < T.1 ∧ P (T.2 p) = true
    · rw [rnn_y c, yes p c.1 c.2]
      exact rnn_run F E yes no k (p + 1) (by omega)
    · rw [rnn_n c]
      exact no p (by omega) c
theorem rnn_b : ∀ (k p : Nat), p + k = T.1 → p ≤ rnn T P p ∧ rnn T P p ≤ T.1 ∧ (∀ i : Nat, p ≤ i → i < rnn T P p → P (T.2 i) = true) ∧ ¬ (rnn T P p < T.1 ∧ P (T.2 (rnn T P p)) = true)
  | 0, p, h => by
    have c : ¬ (p < T.1 ∧ P (T.2 p) = true) := fun z => by omega
    rw [rnn_n c]
    exact ⟨Nat.le_refl _, by omega, fun i h1 h2 => absurd h2 (by omega), c⟩
  | k + 1, p, h => by
    by_cases c : p < T.1 ∧ P (T.2 p) = true
    · rw [rnn_y c]
      obtain ⟨a1, a2, a3, a4⟩ := rnn_b k (p + 1) (by omega)
      refine ⟨by omega, a2, fun i h1 h2 => ?_, a4⟩
      by_cases q : i = p
      · rw [q]; exact c.2
      · exact a3 i (by omega) h2
    · rw [rnn_n c]
      exact ⟨Nat.le_refl _, by omega, fun i h1 h2 => absurd h2 (by omega), c⟩
theorem skp_b (h : p ≤ T.1) : p ≤ skp T p ∧ skp T p ≤ T.1 := by
  obtain ⟨a, b, -⟩ := rnn_b (T := T) (P := isB) (T.1 - p) p (by omega)
  exact ⟨a, b⟩
/-- what a token is -/
theorem tkA_b (h : s ≤ T.1) : (tkA T s).2.1 = s ∧ s ≤ (tkA T s).2.2 ∧ (tkA T s).2.2 ≤ T.1 ∧ (((tkA T s).1 = 0 ∧ s = T.1 ∧ (tkA T s).2.2 = s) ∨ ((tkA T s).1 = 1 ∧ s < (tkA T s).2.2 ∧ ∀ i : Nat, s ≤ i → i < (tkA T s).2.2 → isL (T.2 i) = true) ∨ ((tkA T s).1 = 2 ∧ s < (tkA T s).2.2 ∧ ∀ i : Nat, s ≤ i → i < (tkA T s).2.2 → isD (T.2 i) = true) ∨ ((tkA T s).1 = 3 ∧ s < T.1 ∧ (tkA T s).2.2 = s)) := by
  unfold tkA
  by_cases c : s < T.1
  · rw [if_pos c]
    by_cases c1 : isL (T.2 s) = true
    · rw [if_pos c1]
      obtain ⟨a1, a2, a3, -⟩ := rnn_b (T := T) (P := isL) (T.1 - s) s (by omega)
      obtain ⟨b1, -, -, -⟩ := rnn_b (T := T) (P := isL) (T.1 - (s + 1)) (s + 1) (by omega)
      rw [← rnn_y ⟨c, c1⟩] at b1
      exact ⟨rfl, a1, a2, Or.inr (Or.inl ⟨rfl, by show s < rnn T isL s; omega, a3⟩)⟩
    · rw [if_neg c1]
      by_cases c2 : isD (T.2 s) = true
      · rw [if_pos c2]
        obtain ⟨a1, a2, a3, -⟩ := rnn_b (T := T) (P := isD) (T.1 - s) s (by omega)
        obtain ⟨b1, -, -, -⟩ := rnn_b (T := T) (P := isD) (T.1 - (s + 1)) (s + 1) (by omega)
        rw [← rnn_y ⟨c, c2⟩] at b1
        exact ⟨rfl, a1, a2, Or.inr (Or.inr (Or.inl ⟨rfl, by show s < rnn T isD s; omega, a3⟩))⟩
      · rw [if_neg c2]
        exact ⟨rfl, Nat.le_refl _, h, Or.inr (Or.inr (Or.inr ⟨rfl, c, rfl⟩))⟩
  · rw [if_neg c]
    exact ⟨rfl, Nat.le_refl _, h, Or.inl ⟨rfl, by omega, rfl⟩⟩
theorem wvl_inj (F G : Nat → Nat) : ∀ (k l : Nat), (∀ i : Nat, i < k → 97 ≤ F i ∧ F i ≤ 122) → (∀ i : Nat, i < l → 97 ≤ G i ∧ G i ≤ 122) → wvl F k = wvl G l → k = l ∧ ∀ i : Nat, i < k → F i = G i
  | 0, 0, _, _, _ => ⟨rfl, fun i h => absurd h (Nat.not_lt_zero _)⟩
  | 0, l + 1, _, hG, e => by
    have e : 0 = wvl G l * 32 + (G l - 96) := e
    have := hG l (by omega)
    omega
  | k + 1, 0, hF, _, e => by
    have e : wvl F k * 32 + (F k - 96) = 0 := e
    have := hF k (by omega)
    omega
  | k + 1, l + 1, hF, hG, e => by
    have e : wvl F k * 32 + (F k - 96) = wvl G l * 32 + (G l - 96) := e
    have h1 := hF k (by omega)
    have h2 := hG l (by omega)
    obtain ⟨a, b⟩ := wvl_inj F G k l (fun i hi => hF i (by omega)) (fun i hi => hG i (by omega)) (by omega)
    subst a
    refine ⟨rfl, fun i hi => ?_⟩
    by_cases q : i = k
    · rw [q]; omega
    · exact b i (by omega)
theorem wvl_c {F G : Nat → Nat} : ∀ k : Nat, (∀ i : Nat, i < k → F i = G i) → wvl F k = wvl G k
  | 0, _ => rfl
  | k + 1, h => by
    show wvl F k * 32 + (F k - 96) = wvl G k * 32 + (G k - 96)
    rw [wvl_c k (fun i hi => h i (by omega)), h k (by omega)]
theorem wvl_lt {F : Nat → Nat} : ∀ k : Nat, (∀ i : Nat, i < k → F i ≤ 122) → wvl F k < 32 ^ k
  | 0, _ => Nat.one_pos
  | k + 1, h => by
    have a := wvl_lt k (fun i hi => h i (by omega))
    have b := h k (by omega)
    show wvl F k * 32 + (F k - 96) < 32 ^ k * 32
    omega
theorem nvl_lt {F : Nat → Nat} : ∀ k : Nat, (∀ i : Nat, i < k → F i ≤ 57) → nvl F k < 10 ^ k
  | 0, _ => Nat.one_pos
  | k + 1, h => by
    have a := nvl_lt k (fun i hi => h i (by omega))
    have b := h k (by omega)
    show nvl F k * 10 + (F k - 48) < 10 ^ k * 10
    omega
end ZTK
