/-! what is copied from o on to m on: ints (k, i) with D, longs with E; all else stays -/
def dn (W o m : Nat) (h h' : zMem) (D E : Nat → Nat → Prop) : Prop := sam m (m + W) h h' ∧ (∀ k i : Nat, k ≤ W → D k i → gI h' (m + k) i = gI h (o + k) i) ∧ (∀ k i : Nat, k ≤ W → ¬ D k i → gI h' (m + k) i = gI h (m + k) i) ∧ (∀ k i : Nat, k ≤ W → E k i → gL h' (m + k) i = gL h (o + k) i) ∧ ∀ k i : Nat, k ≤ W → ¬ E k i → gL h' (m + k) i = gL h (m + k) i
section ZCP
variable {W o m a b n : Nat} {h h1 h2 h' : zMem} {D E D' E' : Nat → Nat → Prop}
theorem dn.rf : dn W o m h h (fun _ _ => False) (fun _ _ => False) := ⟨sam.rf, fun _ _ _ c => c.elim, fun _ _ _ _ => rfl, fun _ _ _ c => c.elim, fun _ _ _ _ => rfl⟩
theorem dn.cg (c : dn W o m h h' D E) (e : ∀ k i : Nat, D k i ↔ D' k i) (e' : ∀ k i : Nat, E k i ↔ E' k i) : dn W o m h h' D' E' := ⟨c.1, fun k i hk d => c.2.1 k i hk ((e k i).2 d), fun k i hk d => c.2.2.1 k i hk (fun z => d ((e k i).1 z)), fun k i hk d => c.2.2.2.1 k i hk ((e' k i).2 d), fun k i hk d => c.2.2.2.2 k i hk (fun z => d ((e' k i).1 z))⟩
/-- what lies at o has not changed -/
theorem dn.src (c : dn W o m h h' D E) (hd : o + W < m ∨ m + W < o) {k i : Nat} (hk : k ≤ W) : gI h' (o + k) i = gI h (o + k) i := c.1.2.2.2.2.2.1 _ _ (by omega)
theorem dn.srcL (c : dn W o m h h' D E) (hd : o + W < m ∨ m + W < o) {k i : Nat} (hk : k ≤ W) : gL h' (o + k) i = gL h (o + k) i := c.1.2.2.2.2.2.2 _ _ (by omega)
theorem dn.I (c : dn W o m h h' D E) (hd : o + W < m ∨ m + W < o) {k s : Nat} {v : Int32} (hk : k ≤ W) (hv : v = gI h' (o + k) s) : dn W o m h (sI h' (m + k) s v) (fun k' i => D k' i ∨ (k' = k ∧ i = s)) E := by
  rw [c.src hd hk] at hv
  refine ⟨c.1.aI (by omega), fun k' i hk' d => ?_, fun k' i hk' d => ?_, c.2.2.2.1, c.2.2.2.2⟩
  · by_cases e : k' = k ∧ i = s
    · rw [e.1, e.2, a_II]; exact hv
    · rw [y_gI_sI, if_neg (by omega)]
      rcases d with d | d
      · exact c.2.1 k' i hk' d
      · exact absurd d e
  · rw [y_gI_sI, if_neg (fun e => d (Or.inr ⟨by omega, e.2⟩))]
    exact c.2.2.1 k' i hk' (fun z => d (Or.inl z))
theorem dn.L (c : dn W o m h h' D E) (hd : o + W < m ∨ m + W < o) {k s : Nat} {v : Int64} (hk : k ≤ W) (hv : v = gL h' (o + k) s) : dn W o m h (sL h' (m + k) s v) D (fun k' i => E k' i ∨ (k' = k ∧ i = s)) := by
  rw [c.srcL hd hk] at hv
  refine ⟨c.1.aL (by omega), c.2.1, c.2.2.1, fun k' i hk' d => ?_, fun k' i hk' d => ?_⟩
  · by_cases e : k' = k ∧ i = s
    · rw [e.1, e.2, a_LL]; exact hv
    · rw [y_gL_sL, if_neg (by omega)]
      rcases d with d | d
      · exact c.2.2.2.1 k' i hk' d
      · exact absurd d e
  · rw [y_gL_sL, if_neg (fun e => d (Or.inr ⟨by omega, e.2⟩))]
    exact c.2.2.2.2 k' i hk' (fun z => d (Or.inl z))
/-- an array over another -/
def ov (a b n : Nat) (h h' : zMem) : Prop := sam a a h h' ∧ (∀ i : Nat, gI h' a i = if i < n then gI h b i else gI h a i) ∧ ∀ i : Nat, gL h' a i = gL h a i
theorem ov_cp : ov a b n h (cpI h b 0 a 0 n) := by
  refine ⟨⟨fun _ => rfl, fun _ => rfl, fun _ _ => rfl, rfl, rfl, fun x k hx => ?_, fun _ _ _ => rfl⟩, fun i => ?_, fun _ => rfl⟩
  · rw [y_gI_cpI, if_neg (by omega)]
  · rw [y_gI_cpI]
    by_cases e : i < n
    · rw [if_pos ⟨rfl, by omega, by omega⟩, if_pos e, show 0 + (i - 0) = i by omega]
    · rw [if_neg (by omega), if_neg e]
theorem dn.O (c : dn W o m h h1 D E) (hd : o + W < m ∨ m + W < o) {k : Nat} (hk : k ≤ W) (v : ov (m + k) (o + k) n h1 h2) : dn W o m h h2 (fun k' i => D k' i ∨ (k' = k ∧ i < n)) E := by
  obtain ⟨v1, v2, v3⟩ := v
  have o1 : ∀ k' i : Nat, ¬ k' = k → gI h2 (m + k') i = gI h1 (m + k') i := fun k' i e => v1.2.2.2.2.2.1 _ _ (by omega)
  have o2 : ∀ k' i : Nat, gL h2 (m + k') i = gL h1 (m + k') i := fun k' i => by
    by_cases e : k' = k
    · rw [e]; exact v3 i
    · exact v1.2.2.2.2.2.2 _ _ (by omega)
  refine ⟨c.1.tr (v1.wd (by omega) (by omega)), fun k' i hk' d => ?_, fun k' i hk' d => ?_, fun k' i hk' d => (o2 _ _).trans (c.2.2.2.1 k' i hk' d), fun k' i hk' d => (o2 _ _).trans (c.2.2.2.2 k' i hk' d)⟩
  · by_cases e : k' = k
    · subst e
      rw [v2]
      by_cases e2 : i < n
      · rw [if_pos e2]; exact c.src hd hk
      · rw [if_neg e2]
        rcases d with d | d
        · exact c.2.1 _ i hk' d
        · exact absurd d.2 e2
    · rw [o1 _ _ e]
      rcases d with d | d
      · exact c.2.1 k' i hk' d
      · exact absurd d.1 e
  · by_cases e : k' = k
    · subst e
      rw [v2, if_neg (fun z => d (Or.inr ⟨rfl, z⟩))]
      exact c.2.2.1 _ i hk' (fun z => d (Or.inl z))
    · rw [o1 _ _ e]
      exact c.2.2.1 k' i hk' (fun z => d (Or.inl z))
end ZCP
