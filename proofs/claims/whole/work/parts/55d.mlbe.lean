/-! the reference: what it holds once it has become another's -/
section ZMB
variable {g : Nat → Nat} {o m : Nat} {h h' : zMem} {Λ : zL}
theorem be_mL (k : kL Λ) (c : dn 179 o m h h' moD (fun k i => k = 21 ∧ i < 10)) (l : mL h o Λ) : mL h' m Λ := by
  obtain ⟨c1, c2, c3, c4, c5⟩ := c
  obtain ⟨⟨l1, l2⟩, ⟨l3, l4⟩, l5, ⟨l6, l7⟩, ⟨l8, l9⟩, l10, l11⟩ := l
  have ky := k.2.2.2.2.2
  have k45 := fun y => k.aL45 y
  obtain ⟨k1, k2, k3, k4, k5, -⟩ := k
  have F := k1.1
  have G := k2.1
  have C := k4.1
  have i0 : ∀ s : Nat, moD 0 s → gI h' m s = gI h o s := fun s d => c2 0 s (by omega) d
  refine ⟨⟨(i0 9 ?_).trans l1, fun f hf => ?_⟩, ⟨(i0 15 ?_).trans l3, fun d hd => ?_⟩, fun w hw => (c2 31 w (by omega) ?_).trans (l5 w hw), ⟨(i0 28 ?_).trans l6, fun i hi => ⟨(c2 33 i (by omega) ?_).trans (l7 i hi).1, (c2 34 i (by omega) ?_).trans (l7 i hi).2⟩⟩, ⟨(i0 27 ?_).trans l8, fun i hi => (c2 32 i (by omega) ?_).trans (l9 i hi)⟩, fun y => (i0 31 ?_).trans (l10 y), fun y => ⟨(i0 31 ?_).trans (l11 y).1, (i0 32 ?_).trans (l11 y).2.1, ?_⟩⟩
  case refine_2 =>
    rw [c2 17 f (by omega) (by unfold moD; repeat (first | exact Or.inr ⟨rfl, by omega⟩ | exact Or.inr ⟨by omega, by omega, by omega⟩ | apply Or.inl)), c2 18 f (by omega) (by unfold moD; repeat (first | exact Or.inr ⟨rfl, by omega⟩ | exact Or.inr ⟨by omega, by omega, by omega⟩ | apply Or.inl)), c2 19 f (by omega) (by unfold moD; repeat (first | exact Or.inr ⟨rfl, by omega⟩ | exact Or.inr ⟨by omega, by omega, by omega⟩ | apply Or.inl)), c2 20 f (by omega) (by unfold moD; repeat (first | exact Or.inr ⟨rfl, by omega⟩ | exact Or.inr ⟨by omega, by omega, by omega⟩ | apply Or.inl)), c4 21 f (by omega) ⟨rfl, by omega⟩]
    exact l2 f hf
  case refine_4 =>
    rw [c2 22 d (by omega) (by unfold moD; repeat (first | exact Or.inr ⟨rfl, by omega⟩ | exact Or.inr ⟨by omega, by omega, by omega⟩ | apply Or.inl)), c2 23 d (by omega) (by unfold moD; repeat (first | exact Or.inr ⟨rfl, by omega⟩ | exact Or.inr ⟨by omega, by omega, by omega⟩ | apply Or.inl)), c2 24 d (by omega) (by unfold moD; repeat (first | exact Or.inr ⟨rfl, by omega⟩ | exact Or.inr ⟨by omega, by omega, by omega⟩ | apply Or.inl)), c2 25 d (by omega) (by unfold moD; repeat (first | exact Or.inr ⟨rfl, by omega⟩ | exact Or.inr ⟨by omega, by omega, by omega⟩ | apply Or.inl)), c2 26 d (by omega) (by unfold moD; repeat (first | exact Or.inr ⟨rfl, by omega⟩ | exact Or.inr ⟨by omega, by omega, by omega⟩ | apply Or.inl)), c2 27 d (by omega) (by unfold moD; repeat (first | exact Or.inr ⟨rfl, by omega⟩ | exact Or.inr ⟨by omega, by omega, by omega⟩ | apply Or.inl)), c2 28 d (by omega) (by unfold moD; repeat (first | exact Or.inr ⟨rfl, by omega⟩ | exact Or.inr ⟨by omega, by omega, by omega⟩ | apply Or.inl)), c2 29 d (by omega) (by unfold moD; repeat (first | exact Or.inr ⟨rfl, by omega⟩ | exact Or.inr ⟨by omega, by omega, by omega⟩ | apply Or.inl)), c2 30 d (by omega) (by unfold moD; repeat (first | exact Or.inr ⟨rfl, by omega⟩ | exact Or.inr ⟨by omega, by omega, by omega⟩ | apply Or.inl))]
    exact l4 d hd
  case refine_14 =>
    obtain ⟨r1, r2, r3, r4, r5, r6, r7⟩ := (l11 y).2.2
    have e : ∀ s : Nat, moD 90 s → gI h' (m + 90) s = gI h (o + 90) s := fun s d => c2 90 s (by omega) d
    refine ⟨(e 34 (by unfold moD; repeat (first | exact Or.inr ⟨rfl, by omega⟩ | exact Or.inr ⟨by omega, by omega, by omega⟩ | apply Or.inl))).trans r1, (e 35 (by unfold moD; repeat (first | exact Or.inr ⟨rfl, by omega⟩ | exact Or.inr ⟨by omega, by omega, by omega⟩ | apply Or.inl))).trans r2, (e 38 (by unfold moD; repeat (first | exact Or.inr ⟨rfl, by omega⟩ | exact Or.inr ⟨by omega, by omega, by omega⟩ | apply Or.inl))).trans r3, (e 39 (by unfold moD; repeat (first | exact Or.inr ⟨rfl, by omega⟩ | exact Or.inr ⟨by omega, by omega, by omega⟩ | apply Or.inl))).trans r4, (e 40 (by unfold moD; repeat (first | exact Or.inr ⟨rfl, by omega⟩ | exact Or.inr ⟨by omega, by omega, by omega⟩ | apply Or.inl))).trans r5, (e 41 (by unfold moD; repeat (first | exact Or.inr ⟨rfl, by omega⟩ | exact Or.inr ⟨by omega, by omega, by omega⟩ | apply Or.inl))).trans r6, fun y1 y2 => ?_⟩
    obtain ⟨w1, w2⟩ := r7 y1 y2
    have hL := k45 y
    have hn := (ky y).1
    have hb := (kSe_b ky y y1).1
    refine ⟨fun j hj => ?_, fun j hj => ?_⟩
    · obtain ⟨G, g1, g2, g3⟩ := w1 j hj
      refine ⟨G, fun a b ha hb => ?_, g2, g3⟩
      have := c2 (126 + j) (a * 10 + b) (by omega) (by unfold moD; repeat (first | exact Or.inr ⟨rfl, by omega⟩ | exact Or.inr ⟨by omega, by omega, by omega⟩ | apply Or.inl))
      rw [← Nat.add_assoc, ← Nat.add_assoc] at this
      exact ⟨this.trans (g1 a b ha hb).1, (g1 a b ha hb).2⟩
    · have hj' : j < 45 := Nat.lt_of_lt_of_le hj (kSe_b ky y y1).2
      have := c2 172 j (by omega) (by unfold moD; repeat (first | exact Or.inr ⟨rfl, by omega⟩ | exact Or.inr ⟨by omega, by omega, by omega⟩ | apply Or.inl))
      exact this.trans (w2 j hj)
  all_goals (unfold moD; repeat (first | exact Or.inr ⟨rfl, by omega⟩ | exact Or.inr ⟨by omega, by omega, by omega⟩ | apply Or.inl))
end ZMB
