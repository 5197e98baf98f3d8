/-! the sets as numbers, a trail of changes and a queue -/
abbrev zS : Type := (Nat → Nat) × List (Nat × Nat) × List Nat
def rS (h : zMem) (o n f : Nat) (σ : zS) : Prop := gI h o 1 = nI n ∧ (∀ p : Nat, p < 100 → gI h (o + 1) p = nI (σ.1 p) ∧ σ.1 p < 256) ∧ gI h o 2 = nI σ.2.1.length ∧ σ.2.1.length ≤ 360 ∧ (∀ (i : Nat) (x : Nat × Nat), σ.2.1[i]? = some x → gI h (o + 2) i = nI x.1 ∧ gI h (o + 3) i = nI x.2) ∧ gI h o 8 = nI f ∧ f < 45 ∧ gI h o 9 = nI σ.2.2.length ∧ σ.2.2.length ≤ 45 ∧ (∀ i x : Nat, σ.2.2[i]? = some x → gI h (o + 4) ((f + i) % 45) = nI x) ∧ ∀ p : Nat, p < 100 → gI h (o + 5) p = bZ (p ∈ σ.2.2)
def pTrail (p a : Nat) (tr : List (Nat × Nat)) : List (Nat × Nat) := if tr.length < 360 then tr ++ [(p, a)] else tr
def pAt (tn : Nat → Nat) (p v : Nat) (f : Nat → Nat) : Nat → Nat := fun x => if x = p % 10 * 10 + p / 10 then tn v else if x = p then v else f x
def pQue (m v : Nat) (q : List Nat) : List Nat := if ¬ v = 0 ∧ ¬ m ∈ q ∧ q.length < 45 then q ++ [m] else q
def pKeep (tn : Nat → Nat) (p s : Nat) (σ : zS) : zS := if σ.1 p &&& s = σ.1 p then σ else (pAt tn p (σ.1 p &&& s) σ.1, pTrail p (σ.1 p) σ.2.1, pQue (min p (p % 10 * 10 + p / 10)) (σ.1 p &&& s) σ.2.2)
section ZSR
variable {g : Nat → Nat} {h : zMem} {o r t n f : Nat} {ats : Nat → Nat} {tr : List (Nat × Nat)} {q : List Nat}
theorem rS_A {p a : Nat} (hr : rS h o n f (ats, tr, q)) : rS (kA o p a tr.length h) o n f (ats, pTrail p a tr, q) := by
  unfold kA pTrail
  split
  · rename_i hz
    obtain ⟨r1, r2, r3, r4, r5, r6, r7, r8, r9, r10, r11⟩ := hr
    dsimp only at r1 r2 r3 r4 r5 r6 r7 r8 r9 r10 r11
    refine ⟨?_, fun y hy => ?_, ?_, ?_, fun i x hx => ?_, ?_, r7, ?_, r9, fun i x hx => ?_, fun y hy => ?_⟩ <;> (try dsimp only at *) <;> (try simp only [y_kd_sI, y_kd_sL, y_kd_sR, y_kd_cpI, y_kd_cpL, y_ln_sI, y_ln_sL, y_ln_sR, y_ln_cpI, y_ln_cpL, y_sz_sI, y_sz_sL, y_sz_sR, y_sz_cpI, y_sz_cpL, y_sl_sI, y_sl_sL, y_sl_sR, y_sl_cpI, y_sl_cpL, y_gI_sI, y_gI_sL, y_gI_sR, y_gI_cpI, y_gI_cpL, y_gI_nw, y_gL_sI, y_gL_sL, y_gL_sR, y_gL_cpI, y_gL_cpL, y_gL_nw, y_gR_sI, y_gR_sL, y_gR_sR, y_gR_cpI, y_gR_cpL, y_gR_nw, y_kd_nw, y_ln_nw, y_sz_nw, y_sl_nw, y_fx_int, y_fx_long, y_fx_ref, y_fx_null, y_fx_U, y_rf_s, y_rf_n])
    · rw [if_neg (by omega), if_neg (by omega), if_neg (by omega)]; exact r1
    · rw [if_neg (by omega), if_neg (by omega), if_neg (by omega)]; exact r2 y hy
    · rw [if_pos ⟨trivial, trivial⟩, List.length_append]; rfl
    · rw [List.length_append]; exact hz
    · have d1 : (o + 2 = o) = False := eq_false (by omega)
      have d2 : (o + 2 = o + 3) = False := eq_false (by omega)
      have d3 : (o + 3 = o) = False := eq_false (by omega)
      have d4 : (o + 3 = o + 2) = False := eq_false (by omega)
      rcases Nat.lt_or_ge i tr.length with hi | hi
      · rw [List.getElem?_append_left hi] at hx
        have d5 : (i = tr.length) = False := eq_false (by omega)
        simp only [d1, d2, d3, d4, d5, and_false, false_and, ↓reduceIte]
        exact r5 i x hx
      · rw [List.getElem?_append_right hi] at hx
        have e : i = tr.length := by
          have := (List.getElem?_eq_some_iff.1 hx).1
          rw [List.length_singleton] at this
          omega
        subst e
        rw [Nat.sub_self] at hx
        cases hx
        simp only [d1, d2, d3, d4, and_self, false_and, ↓reduceIte]
    · rw [if_neg (by omega), if_neg (by omega), if_neg (by omega)]; exact r6
    · rw [if_neg (by omega), if_neg (by omega), if_neg (by omega)]; exact r8
    · rw [if_neg (by omega), if_neg (by omega), if_neg (by omega)]; exact r10 i x hx
    · rw [if_neg (by omega), if_neg (by omega), if_neg (by omega)]; exact r11 y hy
  · exact hr
theorem rS_B {p v : Nat} {tn : Nat → Nat} (hp : p < 100) (hv : v < 256) (ht : gI h t v = nI (tn v)) (ht2 : tn v < 256) (hr : rS h o n f (ats, tr, q)) : rS (kB o t p v h) o n f (pAt tn p v ats, tr, q) := by
  unfold kB
  obtain ⟨r1, r2, r3, r4, r5, r6, r7, r8, r9, r10, r11⟩ := hr
  dsimp only at r1 r2 r3 r4 r5 r6 r7 r8 r9 r10 r11
  refine ⟨?_, fun y hy => ?_, ?_, r4, fun i x hx => ?_, ?_, r7, ?_, r9, fun i x hx => ?_, fun y hy => ?_⟩ <;> (try dsimp only at *) <;> (try simp only [y_kd_sI, y_kd_sL, y_kd_sR, y_kd_cpI, y_kd_cpL, y_ln_sI, y_ln_sL, y_ln_sR, y_ln_cpI, y_ln_cpL, y_sz_sI, y_sz_sL, y_sz_sR, y_sz_cpI, y_sz_cpL, y_sl_sI, y_sl_sL, y_sl_sR, y_sl_cpI, y_sl_cpL, y_gI_sI, y_gI_sL, y_gI_sR, y_gI_cpI, y_gI_cpL, y_gI_nw, y_gL_sI, y_gL_sL, y_gL_sR, y_gL_cpI, y_gL_cpL, y_gL_nw, y_gR_sI, y_gR_sL, y_gR_sR, y_gR_cpI, y_gR_cpL, y_gR_nw, y_kd_nw, y_ln_nw, y_sz_nw, y_sl_nw, y_fx_int, y_fx_long, y_fx_ref, y_fx_null, y_fx_U, y_rf_s, y_rf_n])
  · rw [if_neg (by omega), if_neg (by omega)]; exact r1
  · unfold pAt
    by_cases z1 : y = p % 10 * 10 + p / 10
    · rw [if_pos ⟨trivial, z1⟩, if_pos z1]; exact ⟨ht, ht2⟩
    · rw [if_neg (fun z => z1 z.2), if_neg z1]
      by_cases z2 : y = p
      · rw [if_pos ⟨trivial, z2⟩, if_pos z2]; exact ⟨rfl, hv⟩
      · rw [if_neg (fun z => z2 z.2), if_neg z2]; exact r2 y hy
  · rw [if_neg (by omega), if_neg (by omega)]; exact r3
  · rw [if_neg (by omega), if_neg (by omega), if_neg (by omega), if_neg (by omega)]; exact r5 i x hx
  · rw [if_neg (by omega), if_neg (by omega)]; exact r6
  · rw [if_neg (by omega), if_neg (by omega)]; exact r8
  · rw [if_neg (by omega), if_neg (by omega)]; exact r10 i x hx
  · rw [if_neg (by omega), if_neg (by omega)]; exact r11 y hy
theorem rS_C {m v : Nat} (hm : m < 100) (hr : rS h o n f (ats, tr, q)) : rS (kC o m v f q.length h) o n f (ats, tr, pQue m v q) := by
  obtain ⟨r1, r2, r3, r4, r5, r6, r7, r8, r9, r10, r11⟩ := hr
  dsimp only at r1 r2 r3 r4 r5 r6 r7 r8 r9 r10 r11
  have hw : (gI h (o + 5) m = 0) = ¬ m ∈ q := by rw [r11 m hm, bZ_0]
  unfold kC pQue
  simp only [hw]
  split
  · rename_i hz
    refine ⟨?_, fun y hy => ?_, ?_, r4, fun i x hx => ?_, ?_, r7, ?_, ?_, fun i x hx => ?_, fun y hy => ?_⟩ <;> (try dsimp only at *) <;> (try simp only [y_kd_sI, y_kd_sL, y_kd_sR, y_kd_cpI, y_kd_cpL, y_ln_sI, y_ln_sL, y_ln_sR, y_ln_cpI, y_ln_cpL, y_sz_sI, y_sz_sL, y_sz_sR, y_sz_cpI, y_sz_cpL, y_sl_sI, y_sl_sL, y_sl_sR, y_sl_cpI, y_sl_cpL, y_gI_sI, y_gI_sL, y_gI_sR, y_gI_cpI, y_gI_cpL, y_gI_nw, y_gL_sI, y_gL_sL, y_gL_sR, y_gL_cpI, y_gL_cpL, y_gL_nw, y_gR_sI, y_gR_sL, y_gR_sR, y_gR_cpI, y_gR_cpL, y_gR_nw, y_kd_nw, y_ln_nw, y_sz_nw, y_sl_nw, y_fx_int, y_fx_long, y_fx_ref, y_fx_null, y_fx_U, y_rf_s, y_rf_n])
    · rw [if_neg (by omega), if_neg (by omega), if_neg (by omega)]; exact r1
    · rw [if_neg (by omega), if_neg (by omega), if_neg (by omega)]; exact r2 y hy
    · rw [if_neg (by omega), if_neg (by omega), if_neg (by omega)]; exact r3
    · have d1 : (o + 2 = o) = False := eq_false (by omega)
      have d2 : (o + 2 = o + 5) = False := eq_false (by omega)
      have d3 : (o + 2 = o + 4) = False := eq_false (by omega)
      have d4 : (o + 3 = o) = False := eq_false (by omega)
      have d5 : (o + 3 = o + 5) = False := eq_false (by omega)
      have d6 : (o + 3 = o + 4) = False := eq_false (by omega)
      simp only [d1, d2, d3, d4, d5, d6, false_and, ↓reduceIte]
      exact r5 i x hx
    · rw [if_neg (by omega), if_neg (by omega), if_neg (by omega)]; exact r6
    · rw [if_pos ⟨trivial, trivial⟩, List.length_append]; rfl
    · rw [List.length_append]; exact hz.2.2
    · have d1 : (o + 4 = o) = False := eq_false (by omega)
      have d2 : (o + 4 = o + 5) = False := eq_false (by omega)
      have h45 := hz.2.2
      rcases Nat.lt_or_ge i q.length with hi | hi
      · rw [List.getElem?_append_left hi] at hx
        have d3 : ((f + i) % 45 = (f + q.length) % 45) = False := eq_false (by omega)
        simp only [d1, d2, d3, and_false, false_and, ↓reduceIte]
        exact r10 i x hx
      · rw [List.getElem?_append_right hi] at hx
        have e : i = q.length := by
          have := (List.getElem?_eq_some_iff.1 hx).1
          rw [List.length_singleton] at this
          omega
        subst e
        rw [Nat.sub_self] at hx
        cases hx
        simp only [d1, d2, and_self, false_and, ↓reduceIte]
    · rw [if_neg (by omega)]
      by_cases z : y = m
      · rw [if_pos ⟨trivial, z⟩, bZ_t]
        rw [z]
        exact List.mem_append_right q (List.mem_singleton.2 rfl)
      · rw [if_neg (fun w => z w.2), if_neg (by omega), r11 y hy]
        by_cases z2 : y ∈ q
        · rw [bZ_t z2, bZ_t (List.mem_append_left [m] z2)]
        · rw [bZ_f z2, bZ_f]
          intro w
          rcases List.mem_append.1 w with w | w
          · exact z2 w
          · exact z (List.mem_singleton.1 w)
  · exact ⟨r1, r2, r3, r4, r5, r6, r7, r8, r9, r10, r11⟩
/-- only the sets' own cells change -/
def sameO (o : Nat) (h h' : zMem) : Prop := (∀ b : Nat, kd h' b = kd h b) ∧ (∀ b : Nat, ln h' b = ln h b) ∧ (∀ b k : Nat, gR h' b k = gR h b k) ∧ (∀ b k : Nat, gL h' b k = gL h b k) ∧ sz h' = sz h ∧ sl h' = sl h ∧ ∀ b k : Nat, (b < o ∨ o + 5 < b) → gI h' b k = gI h b k
theorem sameO.rf : sameO o h h := ⟨fun _ => rfl, fun _ => rfl, fun _ _ => rfl, fun _ _ => rfl, rfl, rfl, fun _ _ _ => rfl⟩
theorem sameO.trn {h1 h2 : zMem} (a : sameO o h h1) (b : sameO o h1 h2) : sameO o h h2 :=
  ⟨fun x => (b.1 x).trans (a.1 x), fun x => (b.2.1 x).trans (a.2.1 x), fun x y => (b.2.2.1 x y).trans (a.2.2.1 x y), fun x y => (b.2.2.2.1 x y).trans (a.2.2.2.1 x y), b.2.2.2.2.1.trans a.2.2.2.2.1, b.2.2.2.2.2.1.trans a.2.2.2.2.2.1, fun x y z => (b.2.2.2.2.2.2 x y z).trans (a.2.2.2.2.2.2 x y z)⟩
theorem sameO.I {a k : Nat} {v : Int32} (ha : o ≤ a ∧ a ≤ o + 5) : sameO o h (sI h a k v) :=
  ⟨fun _ => rfl, fun _ => rfl, fun _ _ => rfl, fun _ _ => rfl, rfl, rfl, fun b j hb => by rw [y_gI_sI, if_neg (by omega)]⟩
theorem sameO.st {h' : zMem} (a : sameO o h h') (ho : oSets h o r t) : oSets h' o r t := by
  obtain ⟨s1, s2, s3, -⟩ := a
  unfold oSets
  simp only [s1, s2, s3]
  exact ho
theorem sameO_keep {p a s c w : Nat} : sameO o h (fKeep o t p a s c f w h) := by
  unfold fKeep
  split
  · exact sameO.rf
  · refine sameO.trn (h1 := kA o p a c h) ?_ (sameO.trn (h1 := kB o t p (a &&& s) (kA o p a c h)) ?_ ?_)
    · unfold kA
      split
      · exact ((sameO.I (by omega)).trn (sameO.I (by omega))).trn (sameO.I (by omega))
      · exact sameO.rf
    · unfold kB
      exact (sameO.I (by omega)).trn (sameO.I (by omega))
    · unfold kC
      split
      · exact ((sameO.I (by omega)).trn (sameO.I (by omega))).trn (sameO.I (by omega))
      · exact sameO.rf
/-- keep, in numbers -/
theorem c_keep {tn : Nat → Nat} {p s : Nat} {σ : zS} (ho : oSets h o r t) (hr : rS h o n f σ) (hp : p < 100) (ht : ∀ v : Nat, v < 256 → gI h t v = nI (tn v) ∧ tn v < 256) : ∃ h' : zMem, call g Sets_keep [.ref o, .int (nI p), .int (nI s)] h = some (some (.int (bZ (σ.1 p &&& s = σ.1 p ∨ ¬ σ.1 p &&& s = 0))), h') ∧ rS h' o n f (pKeep tn p s σ) ∧ sameO o h h' := by
  obtain ⟨ats, tr, q⟩ := σ
  have hr' := hr
  obtain ⟨r1, r2, r3, r4, r5, r6, r7, r8, r9, r10, r11⟩ := hr'
  dsimp only at r1 r2 r3 r4 r5 r6 r7 r8 r9 r10 r11 ⊢
  refine ⟨_, q_Sets_keep ho hp (r2 p hp).1 (r2 p hp).2 r3 r4 r6 r7 r8 r9, ?_, sameO_keep⟩
  unfold fKeep pKeep
  dsimp only
  split
  · exact hr
  · have hv : ats p &&& s < 256 := Nat.lt_of_le_of_lt Nat.and_le_left (r2 p hp).2
    obtain ⟨t1, t2⟩ := ht _ hv
    have ha := rS_A (p := p) (a := ats p) hr
    have hs : sameO o h (kA o p (ats p) tr.length h) := by
      unfold kA
      split
      · exact ((sameO.I (by omega)).trn (sameO.I (by omega))).trn (sameO.I (by omega))
      · exact sameO.rf
    obtain ⟨-, -, -, -, -, -, -, -, -, -, -, -, -, -, -, -, -, -, -, -, -, c5⟩ := ho
    have hb := rS_B (t := t) (tn := tn) hp hv ((hs.2.2.2.2.2.2 t _ c5).trans t1) t2 ha
    exact rS_C (by omega) hb
end ZSR
