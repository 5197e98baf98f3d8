/-! one value of the land becomes another, on both sides -/
def uV (V : Nat → Nat → Int32) (c i : Nat) (v : Int32) : Nat → Nat → Int32 := up V c (up (V c) i v)
theorem uV_n {V : Nat → Nat → Int32} {c i x y : Nat} {v : Int32} (h : ¬ x = c) : uV V c i v x y = V x y := by
  unfold uV
  rw [up_n h]
theorem uV_s {V : Nat → Nat → Int32} {c i : Nat} {v : Int32} : uV V c i v c i = v := by
  unfold uV
  rw [up_s, up_s]
theorem uV_o {V : Nat → Nat → Int32} {c i y : Nat} {v : Int32} (h : ¬ y = i) : uV V c i v c y = V c y := by
  unfold uV
  rw [up_s, up_n h]
theorem uV_c {V : Nat → Nat → Int32} {c i x : Nat} {v : Int32} (h : ¬ x = c) : uV V c i v x = V x := by
  unfold uV
  rw [up_n h]
def setV (Λ : zL) (V : Nat → Nat → Int32) : zL := (zF Λ, zD Λ, zC Λ, V, zW Λ, zN Λ, zS_ Λ, zYr Λ)
section ZUV
variable {g : Nat → Nat} {B SL m l n d : Nat} {v : Int32} {V : Nat → Nat → Int32} {h h' : zMem} {H : zH} {T : zT} {Λ Λ' K : zL} {κ : Bool} {ρ ρ' : Nat → Int32}
theorem cDd_u19 (hc : cDd h l n V) : cDd (sI h (l + 13 + d) 3 v) l n (uV V 19 d v) := by
  refine ⟨by rw [a_Ia (by omega)]; exact hc.1, fun e he => ?_⟩
  obtain ⟨d0, d1, d2, d3, d4, d5, d6, d7, d8⟩ := hc.2 e he
  by_cases q : e = d
  · subst q
    exact ⟨by rw [a_Ik (by decide), uV_n (by decide)]; exact d0, by rw [a_Ik (by decide), uV_n (by decide)]; exact d1, by rw [a_Ik (by decide), uV_n (by decide)]; exact d2, by rw [a_II, uV_s], by rw [a_Ik (by decide), uV_n (by decide)]; exact d4, by rw [a_Ik (by decide), uV_n (by decide)]; exact d5, by rw [a_Ik (by decide), uV_n (by decide)]; exact d6, by rw [a_Ik (by decide), uV_n (by decide)]; exact d7, by rw [a_Ik (by decide), uV_n (by decide)]; exact d8⟩
  · exact ⟨by rw [a_Ia (by omega), uV_n (by decide)]; exact d0, by rw [a_Ia (by omega), uV_n (by decide)]; exact d1, by rw [a_Ia (by omega), uV_n (by decide)]; exact d2, by rw [a_Ia (by omega), uV_o q]; exact d3, by rw [a_Ia (by omega), uV_n (by decide)]; exact d4, by rw [a_Ia (by omega), uV_n (by decide)]; exact d5, by rw [a_Ia (by omega), uV_n (by decide)]; exact d6, by rw [a_Ia (by omega), uV_n (by decide)]; exact d7, by rw [a_Ia (by omega), uV_n (by decide)]; exact d8⟩
theorem mDd_u19 (hc : mDd h m n V) : mDd (sI h (m + 25) d v) m n (uV V 19 d v) := by
  refine ⟨by rw [a_Ia (by omega)]; exact hc.1, fun e he => ?_⟩
  obtain ⟨d0, d1, d2, d3, d4, d5, d6, d7, d8⟩ := hc.2 e he
  by_cases q : e = d
  · subst q
    exact ⟨by rw [a_Ia (by omega), uV_n (by decide)]; exact d0, by rw [a_Ia (by omega), uV_n (by decide)]; exact d1, by rw [a_Ia (by omega), uV_n (by decide)]; exact d2, by rw [a_II, uV_s], by rw [a_Ia (by omega), uV_n (by decide)]; exact d4, by rw [a_Ia (by omega), uV_n (by decide)]; exact d5, by rw [a_Ia (by omega), uV_n (by decide)]; exact d6, by rw [a_Ia (by omega), uV_n (by decide)]; exact d7, by rw [a_Ia (by omega), uV_n (by decide)]; exact d8⟩
  · exact ⟨by rw [a_Ia (by omega), uV_n (by decide)]; exact d0, by rw [a_Ia (by omega), uV_n (by decide)]; exact d1, by rw [a_Ia (by omega), uV_n (by decide)]; exact d2, by rw [a_Ik q, uV_o q]; exact d3, by rw [a_Ia (by omega), uV_n (by decide)]; exact d4, by rw [a_Ia (by omega), uV_n (by decide)]; exact d5, by rw [a_Ia (by omega), uV_n (by decide)]; exact d6, by rw [a_Ia (by omega), uV_n (by decide)]; exact d7, by rw [a_Ia (by omega), uV_n (by decide)]; exact d8⟩
theorem cDd_u24 (hc : cDd h l n V) : cDd (sI h (l + 13 + d) 8 v) l n (uV V 24 d v) := by
  refine ⟨by rw [a_Ia (by omega)]; exact hc.1, fun e he => ?_⟩
  obtain ⟨d0, d1, d2, d3, d4, d5, d6, d7, d8⟩ := hc.2 e he
  by_cases q : e = d
  · subst q
    exact ⟨by rw [a_Ik (by decide), uV_n (by decide)]; exact d0, by rw [a_Ik (by decide), uV_n (by decide)]; exact d1, by rw [a_Ik (by decide), uV_n (by decide)]; exact d2, by rw [a_Ik (by decide), uV_n (by decide)]; exact d3, by rw [a_Ik (by decide), uV_n (by decide)]; exact d4, by rw [a_Ik (by decide), uV_n (by decide)]; exact d5, by rw [a_Ik (by decide), uV_n (by decide)]; exact d6, by rw [a_Ik (by decide), uV_n (by decide)]; exact d7, by rw [a_II, uV_s]⟩
  · exact ⟨by rw [a_Ia (by omega), uV_n (by decide)]; exact d0, by rw [a_Ia (by omega), uV_n (by decide)]; exact d1, by rw [a_Ia (by omega), uV_n (by decide)]; exact d2, by rw [a_Ia (by omega), uV_n (by decide)]; exact d3, by rw [a_Ia (by omega), uV_n (by decide)]; exact d4, by rw [a_Ia (by omega), uV_n (by decide)]; exact d5, by rw [a_Ia (by omega), uV_n (by decide)]; exact d6, by rw [a_Ia (by omega), uV_n (by decide)]; exact d7, by rw [a_Ia (by omega), uV_o q]; exact d8⟩
theorem mDd_u24 (hc : mDd h m n V) : mDd (sI h (m + 30) d v) m n (uV V 24 d v) := by
  refine ⟨by rw [a_Ia (by omega)]; exact hc.1, fun e he => ?_⟩
  obtain ⟨d0, d1, d2, d3, d4, d5, d6, d7, d8⟩ := hc.2 e he
  by_cases q : e = d
  · subst q
    exact ⟨by rw [a_Ia (by omega), uV_n (by decide)]; exact d0, by rw [a_Ia (by omega), uV_n (by decide)]; exact d1, by rw [a_Ia (by omega), uV_n (by decide)]; exact d2, by rw [a_Ia (by omega), uV_n (by decide)]; exact d3, by rw [a_Ia (by omega), uV_n (by decide)]; exact d4, by rw [a_Ia (by omega), uV_n (by decide)]; exact d5, by rw [a_Ia (by omega), uV_n (by decide)]; exact d6, by rw [a_Ia (by omega), uV_n (by decide)]; exact d7, by rw [a_II, uV_s]⟩
  · exact ⟨by rw [a_Ia (by omega), uV_n (by decide)]; exact d0, by rw [a_Ia (by omega), uV_n (by decide)]; exact d1, by rw [a_Ia (by omega), uV_n (by decide)]; exact d2, by rw [a_Ia (by omega), uV_n (by decide)]; exact d3, by rw [a_Ia (by omega), uV_n (by decide)]; exact d4, by rw [a_Ia (by omega), uV_n (by decide)]; exact d5, by rw [a_Ia (by omega), uV_n (by decide)]; exact d6, by rw [a_Ia (by omega), uV_n (by decide)]; exact d7, by rw [a_Ik q, uV_o q]; exact d8⟩
/-- the class's land changed -/
theorem JP.cl (j : JP g B SL h H T Λ K κ ρ ρ') (s : sam (B + 23) (B + 23 + 53) h h') (hl : cL h' (B + 23) Λ') (hq : qE h' (B + 23 + 43 + 1)) : bX g B h' ∧ cX g B h' H T Λ' K κ ρ ∧ mX g (B + 145) SL h' H T Λ K κ ρ' := by
  have hB := j.B0
  obtain ⟨hk, hb, hc, hm⟩ := j
  exact ⟨bX_fr s.sh (s.out0 hB (by omega)) hb, cX_land hk s hc hl hq, mX_fr hk s.sh (s.out (by omega)) hm⟩
/-- the reference's land changed -/
theorem mX_up (hk : kX H T Λ K κ) (s : shp h h') (e1 : ∀ b k : Nat, ¬ b = m → (b < m + 17 ∨ m + 34 < b) → gI h' b k = gI h b k) (eL : ∀ b k : Nat, ¬ b = m + 21 → gL h' b k = gL h b k) (e2 : ∀ k : Nat, ¬ k = 9 → ¬ k = 15 → ¬ k = 27 → ¬ k = 28 → ¬ k = 53 → gI h' m k = gI h m k) (l1 : mL h' m Λ') (f1 : mFr h' m (zF Λ') (zD Λ') (zV Λ')) (c : mX g m SL h H T Λ K κ ρ) : mX g m SL h' H T Λ' K κ ρ := by
  obtain ⟨c1, c2, c3, c4, c5, c6, c7, c8, c9⟩ := c
  exact ⟨mSP_fr s c1, c2.mv (fun k => e1 _ _ (by omega) (by omega)) (e2 _ (by decide) (by decide) (by decide) (by decide) (by decide)), c3.mv (fun k => e1 _ _ (by omega) (by omega)) (e1 _ _ (by omega) (by omega)), f1, mSh_fr ⟨fun b k _ _ => e1 _ _ (by omega) (by omega), fun b k _ _ => eL _ _ (by omega)⟩ c5, ⟨(e2 _ (by decide) (by decide) (by decide) (by decide) (by decide)).trans c6.1, fun i hi => (e1 _ _ (by omega) (by omega)).trans (c6.2 i hi)⟩, fun i hi => (e1 _ _ (by omega) (by omega)).trans (c7 i hi), l1, mKp_fr hk.2.2.2 s ⟨fun b k _ _ => e1 _ _ (by omega) (by omega), fun b k _ _ => eL _ _ (by omega)⟩ c9⟩
/-- both changed: one state again -/
theorem JX_up (hk : kX H T Λ K κ) (hk' : kX H T Λ' K κ) (hb : bX g B h) (hc : cX g B h H T Λ' K κ ρ) (hm : mX g (B + 145) SL h H T Λ K κ ρ) (s : shp h h') (e1 : ∀ b k : Nat, ¬ b = B + 145 → (b < B + 145 + 17 ∨ B + 145 + 34 < b) → gI h' b k = gI h b k) (eL : ∀ b k : Nat, ¬ b = B + 145 + 21 → gL h' b k = gL h b k) (e2 : ∀ k : Nat, ¬ k = 9 → ¬ k = 15 → ¬ k = 27 → ¬ k = 28 → ¬ k = 53 → gI h' (B + 145) k = gI h (B + 145) k) (l1 : mL h' (B + 145) Λ') (f1 : mFr h' (B + 145) (zF Λ') (zD Λ') (zV Λ')) : JX g B SL h' := by
  have f : smF 0 (B + 144) h h' := ⟨fun b k _ c => e1 _ _ (by omega) (by omega), fun b k _ c => eL _ _ (by omega)⟩
  exact JP.x (g := g) (B := B) (SL := SL) (ρ := ρ) ⟨hk', bX_fr s (f.wd (by omega) (by omega)) hb, cX_fr hk' s (f.wd (by omega) (by omega)) hc, mX_up hk s e1 eL e2 l1 f1 hm⟩
/-- the rest of a land where one value changes -/
theorem cL_of (hk : kL Λ) (f : smF l (l + 53) h h') (hc : cL h l Λ) : cL h' l Λ := cL_fr hk f hc
end ZUV
/-- a search's cells alone -/
theorem rMS_fr' {m n : Nat} {A : aA} {h h' : zMem} (e : ∀ b k : Nat, (b = m ∨ m + 36 ≤ b) → gI h' b k = gI h b k) (r : rMS h m n A) : rMS h' m n A := by
  obtain ⟨r1, r2, r3, r4, r5, r6, r7⟩ := r
  refine ⟨(e _ _ (by omega)).trans r1, (e _ _ (by omega)).trans r2, (e _ _ (by omega)).trans r3, (e _ _ (by omega)).trans r4, (e _ _ (by omega)).trans r5, (e _ _ (by omega)).trans r6, fun a b => ?_⟩
  obtain ⟨w1, w2⟩ := r7 a b
  exact ⟨fun j hj => by
    obtain ⟨Q, Q1, Q2, Q3⟩ := w1 j hj
    exact ⟨Q, fun a b ha hb => by rw [e _ _ (by omega)]; exact Q1 a b ha hb, Q2, Q3⟩, fun j hj => (e _ _ (by omega)).trans (w2 j hj)⟩
