/-! the queue always drains -/
def pc8 (v : Nat) : Nat := v % 2 + v / 2 % 2 + v / 4 % 2 + v / 8 % 2 + v / 16 % 2 + v / 32 % 2 + v / 64 % 2 + v / 128 % 2
theorem pc8_lt0 : ∀ a : Fin 256, ∀ v : Fin 256, v.val &&& a.val = v.val → v.val = a.val ∨ pc8 v.val < pc8 a.val := by decide +kernel
theorem pc8_lt {a s : Nat} (ha : a < 256) (h : ¬ a &&& s = a) : pc8 (a &&& s) < pc8 a := by
  have h1 : a &&& s < 256 := Nat.lt_of_le_of_lt Nat.and_le_left ha
  rcases pc8_lt0 ⟨a, ha⟩ ⟨a &&& s, h1⟩ (by show a &&& s &&& a = a &&& s; rw [Nat.and_assoc, Nat.and_comm s a, ← Nat.and_assoc, Nat.and_self]) with e | e
  · exact absurd e h
  · exact e
theorem pc8_le (v : Nat) : pc8 v ≤ 8 := by unfold pc8; omega
def bsum (w : Nat → Nat) : Nat → Nat
  | 0 => 0
  | m + 1 => bsum w m + (if m / 10 < m % 10 then w m else 0)
theorem bsum_le {w w' : Nat → Nat} (h : ∀ p : Nat, p / 10 < p % 10 → w' p ≤ w p) : ∀ m : Nat, bsum w' m ≤ bsum w m
  | 0 => Nat.le_refl _
  | m + 1 => by
    unfold bsum
    have := bsum_le h m
    split
    · have := h m ‹_›
      omega
    · omega
theorem bsum_lt {w w' : Nat → Nat} {j : Nat} (h : ∀ p : Nat, p / 10 < p % 10 → w' p ≤ w p) (hj : j / 10 < j % 10) (hl : w' j < w j) : ∀ m : Nat, j < m → bsum w' m < bsum w m
  | 0, hm => absurd hm (Nat.not_lt_zero j)
  | m + 1, hm => by
    unfold bsum
    by_cases e : j = m
    · subst e
      rw [if_pos hj, if_pos hj]
      have := bsum_le h j
      omega
    · have := bsum_lt h hj hl m (by omega)
      split
      · have := h m ‹_›
        omega
      · omega
/-- a set and its turned one -/
def sy (tn : Nat → Nat) (f : Nat → Nat) : Prop := ∀ p : Nat, p < 100 → f p < 256 ∧ f (p % 10 * 10 + p / 10) = tn (f p)
def tnOK (tn : Nat → Nat) : Prop := ∀ v : Nat, v < 256 → tn v < 256 ∧ tn (tn v) = v ∧ pc8 (tn v) = pc8 v
def phi (σ : zS) : Nat := σ.2.2.length + bsum (fun p => pc8 (σ.1 p)) 100
theorem sy_at {tn f : Nat → Nat} {p v : Nat} (ht : tnOK tn) (hf : sy tn f) (hp : p < 100) (hd : ¬ p / 10 = p % 10) (hv : v < 256) : sy tn (pAt tn p v f) := by
  intro x hx
  unfold pAt
  obtain ⟨f1, f2⟩ := hf x hx
  obtain ⟨t1, t2, -⟩ := ht v hv
  by_cases e1 : x = p % 10 * 10 + p / 10
  · rw [if_pos e1, if_neg (by omega), if_pos (by omega)]
    exact ⟨t1, t2.symm⟩
  · rw [if_neg e1]
    by_cases e2 : x = p
    · rw [if_pos e2, e2, if_pos rfl]
      exact ⟨hv, rfl⟩
    · rw [if_neg e2, if_neg (by omega), if_neg (by omega)]
      exact ⟨f1, f2⟩
theorem que_len {m v : Nat} {q : List Nat} : (pQue m v q).length ≤ q.length + 1 := by
  unfold pQue
  split
  · rw [List.length_append]; exact Nat.le_refl _
  · omega
theorem phi_keep {tn : Nat → Nat} {p s : Nat} {σ : zS} (ht : tnOK tn) (hf : sy tn σ.1) (hp : p < 100) (hd : ¬ p / 10 = p % 10) : sy tn (pKeep tn p s σ).1 ∧ phi (pKeep tn p s σ) ≤ phi σ := by
  obtain ⟨f1, f2⟩ := hf p hp
  unfold pKeep
  split
  · exact ⟨hf, Nat.le_refl _⟩
  · rename_i hz
    have hv : σ.1 p &&& s < 256 := Nat.lt_of_le_of_lt Nat.and_le_left f1
    refine ⟨sy_at ht hf hp hd hv, ?_⟩
    have hl := pc8_lt f1 hz
    unfold phi
    dsimp only
    have hq := que_len (m := min p (p % 10 * 10 + p / 10)) (v := σ.1 p &&& s) (q := σ.2.2)
    generalize σ.1 p &&& s = v at hv hl hq ⊢
    have hle : ∀ x : Nat, x / 10 < x % 10 → pc8 (pAt tn p v σ.1 x) ≤ pc8 (σ.1 x) := by
      intro x hx
      unfold pAt
      by_cases e1 : x = p % 10 * 10 + p / 10
      · rw [if_pos e1, (ht v hv).2.2, e1, f2, (ht _ f1).2.2]
        omega
      · rw [if_neg e1]
        by_cases e2 : x = p
        · rw [if_pos e2, e2]; omega
        · rw [if_neg e2]; exact Nat.le_refl _
    have hlt : bsum (fun x => pc8 (pAt tn p v σ.1 x)) 100 < bsum (fun x => pc8 (σ.1 x)) 100 := by
      by_cases c : p / 10 < p % 10
      · refine bsum_lt (j := p) hle c ?_ 100 hp
        unfold pAt
        rw [if_neg (by omega), if_pos rfl]
        exact hl
      · have j1 : (p % 10 * 10 + p / 10) / 10 = p % 10 := by omega
        have j2 : (p % 10 * 10 + p / 10) % 10 = p / 10 := by omega
        refine bsum_lt (j := p % 10 * 10 + p / 10) hle (by rw [j1, j2]; omega) ?_ 100 (by omega)
        unfold pAt
        rw [if_pos rfl, (ht v hv).2.2, f2, (ht _ f1).2.2]
        exact hl
    omega
