/-! the class: a land becomes another -/
theorem bit1 {v : Int32} (h : nLt v 2) : v &&& 1 = v := by
  obtain ⟨k, e, hk⟩ := h
  have : k = 0 ∨ k = 1 := by omega
  rcases this with z | z <;> subst z <;> subst e <;> decide
theorem kSe_b {n : Nat} {A : aA} {y : Int32} (k : kSe n A y) (hy : ¬ y = -1) (s2 : ¬ aS A = 2) : aL A ≤ 45 ∧ (if aS A = 1 then aL A else aL A + 1) ≤ 45 := by
  obtain ⟨k1, ⟨-, -, c3, c4, -, -, c7, c8, -⟩, -⟩ := k hy
  have n45 := pn_le k1
  by_cases z : aS A = 1
  · rw [if_pos z]; exact ⟨by omega, by omega⟩
  · have := (c7 (by omega)).1
    rw [if_neg z]; exact ⟨by omega, by omega⟩
section ZBL
variable {g : Nat → Nat} {o m r t : Nat} {h h' : zMem} {Λ : zL}
theorem be_cL {ch : Nat} (k : kL Λ) (c : dn 53 o m h h' (lnD (zF Λ) (zD Λ) (zC Λ) ch) (lnE (zF Λ))) (l : cL h o Λ) (q : qE h (m + 44)) (h4 : gI h (o + 44) 2 = nI ch) (b4 : ch ≤ 360) : cL h' m Λ ∧ qE h' (m + 44) := by
  obtain ⟨c1, c2, c3, c4, c5⟩ := c
  obtain ⟨⟨l1, l2⟩, ⟨l3, l4⟩, l5, ⟨l6, l7⟩, ⟨l8, l9⟩, l10, l11, l12⟩ := l
  obtain ⟨k1, k2, k3, k4, k5, k6⟩ := k
  have F := k1.1
  have G := k2.1
  have C := k4.1
  have qq : qE h' (m + 44) := by
    obtain ⟨f, q1, q2, q3, q4⟩ := q
    exact ⟨f, (c3 44 8 (by omega) (by unfold lnD; omega)).trans q1, q2, (c3 44 9 (by omega) (by unfold lnD; omega)).trans q3, fun p hp => (c3 49 p (by omega) (by unfold lnD; omega)).trans (q4 p hp)⟩
  have cc := fun (k i : Nat) (h1 : k ≤ 53) (h2 : lnD (zF Λ) (zD Λ) (zC Λ) ch k i) => c2 k i h1 h2
  refine ⟨⟨⟨(cc 0 1 (by omega) (by unfold lnD; omega)).trans l1, fun f hf => ?_⟩, ⟨(cc 0 3 (by omega) (by unfold lnD; omega)).trans l3, fun d hd => ?_⟩, fun w hw => (cc 37 w (by omega) (by unfold lnD; omega)).trans (l5 w hw), ⟨(cc 38 0 (by omega) (by unfold lnD; omega)).trans l6, fun i hi => ⟨(cc 39 i (by omega) (by unfold lnD; omega)).trans (l7 i hi).1, (cc 40 i (by omega) (by unfold lnD; omega)).trans (l7 i hi).2⟩⟩, ⟨(cc 41 0 (by omega) (by unfold lnD; omega)).trans l8, fun i hi => (cc 42 i (by omega) (by unfold lnD; omega)).trans (l9 i hi)⟩, (cc 43 1 (by omega) (by unfold lnD; omega)).trans l10, fun y => (cc 44 2 (by omega) (by unfold lnD; omega)).trans (l11 y), fun y => ?_⟩, qq⟩
  · have e : ∀ i : Nat, i < 4 → gI h' (m + 2 + f) i = gI h (o + 2 + f) i := fun i hi => by
      have := cc (2 + f) i (by omega) (by unfold lnD; omega)
      rw [← Nat.add_assoc, ← Nat.add_assoc] at this
      exact this
    have e' : gL h' (m + 2 + f) 4 = gL h (o + 2 + f) 4 := by
      have := c4 (2 + f) 4 (by omega) (by unfold lnE; omega)
      rw [← Nat.add_assoc, ← Nat.add_assoc] at this
      exact this
    rw [e 0 (by omega), e 1 (by omega), e 2 (by omega), e 3 (by omega), e']
    exact l2 f hf
  · have e : ∀ i : Nat, i < 9 → gI h' (m + 13 + d) i = gI h (o + 13 + d) i := fun i hi => by
      have := cc (13 + d) i (by omega) (by unfold lnD; omega)
      rw [← Nat.add_assoc, ← Nat.add_assoc] at this
      exact this
    rw [e 0 (by omega), e 1 (by omega), e 2 (by omega), e 3 (by omega), e 4 (by omega), e 5 (by omega), e 6 (by omega), e 7 (by omega), e 8 (by omega)]
    exact l4 d hd
  · obtain ⟨f, ats, tr, r1, r2, r3, r4, r5, r6, r7, r8, r9⟩ := l12 y
    obtain ⟨s1, s2, s3, s4, s5, s6, s7, s8, s9, s10, s11⟩ := r1
    obtain ⟨f', q1, q2, q3, q4⟩ := qq
    have ce : tr.length = ch := by
      have e : nI tr.length = nI ch := s3.symm.trans h4
      have s4 : tr.length ≤ 360 := s4
      exact (nI_eq (by omega) (by omega)).1 e
    refine ⟨f', ats, tr, ⟨(cc 44 1 (by omega) (by unfold lnD; omega)).trans s1, fun p hp => ⟨(cc 45 p (by omega) (by unfold lnD; omega)).trans (s2 p hp).1, (s2 p hp).2⟩, (cc 44 2 (by omega) (by unfold lnD; omega)).trans s3, s4, fun i x hx => ?_, q1, q2, q3, Nat.zero_le _, fun i x hx => (by cases hx), fun p hp => ?_⟩, r2, r3, (cc 43 2 (by omega) (by unfold lnD; omega)).trans r4, (cc 43 3 (by omega) (by unfold lnD; omega)).trans r5, (cc 43 4 (by omega) (by unfold lnD; omega)).trans r6, (cc 43 5 (by omega) (by unfold lnD; omega)).trans r7, (cc 43 6 (by omega) (by unfold lnD; omega)).trans r8, fun y1 y2 => ?_⟩
    · have hi : i < tr.length := by
        rcases Nat.lt_or_ge i tr.length with z | z
        · exact z
        · have hx' : tr[i]? = some x := hx
          rw [List.getElem?_eq_none z] at hx'
          cases hx'
      exact ⟨(cc 46 i (by omega) (by unfold lnD; omega)).trans (s5 i x hx).1, (cc 47 i (by omega) (by unfold lnD; omega)).trans (s5 i x hx).2⟩
    · refine (q4 p hp).trans ?_
      unfold bZ
      rw [if_neg (fun z => by cases z)]
      try rfl
    · obtain ⟨mk, w1, w2, w3, w4⟩ := r9 y1 y2
      obtain ⟨hb1, hb2⟩ := kSe_b k6 y y1
      exact ⟨mk, w1, w2, fun j hj => ⟨(cc 51 j (by omega) (by unfold lnD; have := Nat.lt_of_lt_of_le hj hb1; omega)).trans (w3 j hj).1, (w3 j hj).2⟩, fun j hj => ⟨(cc 50 j (by omega) (by unfold lnD; have := Nat.lt_of_lt_of_le hj hb2; omega)).trans (w4 j hj).1, (w4 j hj).2⟩⟩
theorem c_become (hd : o + 53 < m ∨ m + 53 < o) (q1 : oLand h m) (q2 : oLand h o) (s1 : oSearch h (m + 43) r t) (s2 : oSearch h (o + 43) r t) (k : kL Λ) (l : cL h o Λ) (q : qE h (m + 44)) : ∃ h' : zMem, call g Land_become [.ref m, .ref o] h = some (none, h') ∧ sam m (m + 53) h h' ∧ cL h' m Λ ∧ qE h' (m + 44) := by
  have ch : ∃ ch : Nat, gI h (o + 44) 2 = nI ch ∧ ch ≤ 360 := by
    obtain ⟨-, -, -, -, -, l10, l11, l12⟩ := l
    by_cases y : zYr Λ = -1
    · exact ⟨0, l11 y, by decide⟩
    · obtain ⟨f, ats, tr, ⟨_, _, s3, s4, _⟩, _⟩ := l12 y
      exact ⟨tr.length, s3, s4⟩
  obtain ⟨ch, h4, b4⟩ := ch
  obtain ⟨h', e, c⟩ := be_land (g := g) hd q1 q2 s1 s2 l.1.1 k.1.1 l.2.1.1 k.2.1.1 l.2.2.2.1.1 k.2.2.2.1.1 h4 b4 (fun d hd => by
    obtain ⟨-, -, -, -, -, t7, t8⟩ := k.2.1.2 d hd
    obtain ⟨-, -, -, -, -, -, -, u7, u8⟩ := l.2.1.2 d hd
    rw [u7, u8]
    exact ⟨bit1 t7, bit1 t8⟩)
  obtain ⟨a, b⟩ := be_cL k c l q h4 b4
  exact ⟨h', e, c.1, a, b⟩
end ZBL
