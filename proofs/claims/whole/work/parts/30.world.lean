/-! the two worlds: the class at B, the reference at B + 145 -/
abbrev zH : Type := (Nat → Int32) × (Nat → Int32) × (Nat → Int32) × (Nat → Nat → Int64)
abbrev zT : Type := Nat × (Nat → Nat)
/-- the words: north 0, east, larger, not, apart 4, touch, over, edge, inside, round, holds, same, within 12, old, or, year, weight 16 -/
def zWd (k : Nat) : List Nat := [[110, 111, 114, 116, 104], [101, 97, 115, 116], [108, 97, 114, 103, 101, 114], [110, 111, 116], [97, 112, 97, 114, 116], [116, 111, 117, 99, 104], [111, 118, 101, 114], [101, 100, 103, 101], [105, 110, 115, 105, 100, 101], [114, 111, 117, 110, 100], [104, 111, 108, 100, 115], [115, 97, 109, 101], [119, 105, 116, 104, 105, 110], [111, 108, 100], [111, 114], [121, 101, 97, 114], [119, 101, 105, 103, 104, 116]].getD k []
def zStr (g : Nat → Nat) (h : zMem) (B : Nat) : Prop := ∀ k : Nat, k < 17 → kd h (g (100 + k)) = 41 ∧ g (100 + k) < B ∧ ∃ v : Nat, gR h (g (100 + k)) 0 = some v ∧ v < B ∧ kd h v = 42 ∧ ln h v = (zWd k).length ∧ ∀ i : Nat, i < (zWd k).length → gI h v i = nI ((zWd k).getD i 0)
/-- what lies below B and is never written -/
def bX (g : Nat → Nat) (B : Nat) (h : zMem) : Prop := g 0 < B ∧ g 1 < B ∧ g 2 < B ∧ cT g h 0 ∧ cT g h 2 ∧ zStr g h B
def qE (h : zMem) (o : Nat) : Prop := ∃ f : Nat, gI h o 8 = nI f ∧ f < 45 ∧ gI h o 9 = nI 0 ∧ ∀ p : Nat, p < 100 → gI h (o + 5) p = nI 0
/-- shelves: sort, size, field, elements -/
def cSh (h : zMem) (B : Nat) (H : zH) : Prop := ∀ s : Nat, s < 8 → gI h (B + 2 + 2 * s) 0 = H.1 s ∧ gI h (B + 2 + 2 * s) 1 = H.2.1 s ∧ gI h (B + 2 + 2 * s) 2 = H.2.2.1 s ∧ ∀ i : Nat, i < 64 → gL h (B + 3 + 2 * s) i = H.2.2.2 s i
def mSh (h : zMem) (m : Nat) (H : zH) : Prop := ∀ s : Nat, s < 8 → gI h (m + 1) s = (if ¬ H.2.2.1 s = -1 then nI 2 else if ¬ H.1 s = -1 then nI 1 else nI 0) ∧ (H.2.2.1 s = -1 → ¬ H.1 s = -1 → gI h (m + 2) s = H.1 s ∧ gI h (m + 3) s = H.2.1 s ∧ ∀ i : Nat, i < 64 → gL h (m + 5 + s) i = H.2.2.2 s i) ∧ (¬ H.2.2.1 s = -1 → gI h (m + 13) s = H.2.2.1 s)
def kSh (nf : Nat) (H : zH) : Prop := ∀ s : Nat, s < 8 → (H.1 s = -1 ∧ H.2.2.1 s = -1) ∨ (H.2.2.1 s = -1 ∧ ∃ k z : Nat, H.1 s = nI k ∧ k < 5 ∧ H.2.1 s = nI z ∧ z ≤ 64) ∨ (H.1 s = -1 ∧ ∃ f : Nat, H.2.2.1 s = nI f ∧ f < nf)
/-- the tape -/
def cTp (h : zMem) (B : Nat) (T : zT) : Prop := gI h (B + 18) 0 = nI T.1 ∧ ∀ i : Nat, i < T.1 → gI h (B + 19) i = (nI (T.2 i)).toInt8.toInt32
def mTp (h : zMem) (m : Nat) (T : zT) : Prop := gI h m 7 = nI T.1 ∧ ∀ i : Nat, i < T.1 → gI h (m + 15) i = nI (T.2 i)
def kTp (T : zT) : Prop := T.1 ≤ 80 ∧ ∀ i : Nat, i < T.1 → T.2 i < 256
def cRf (h : zMem) (B : Nat) (ρ : Nat → Int32) : Prop := ∀ i : Nat, i < 5 → gI h (B + 131) i = ρ i
def mRf (h : zMem) (m : Nat) (ρ : Nat → Int32) : Prop := ∀ i : Nat, i < 5 → gI h (m + 16) (i + 2) = ρ i
def cSP (g : Nat → Nat) (B : Nat) (h : zMem) : Prop := oDC h B ∧ oLand h (B + 23) ∧ oSearch h (B + 23 + 43) (B + 20) (B + 21) ∧ oLand h (B + 77) ∧ oSearch h (B + 77 + 43) (B + 20) (B + 21) ∧ oSearch h (B + 132) (B + 20) (B + 21) ∧ cW g h (B + 20) (B + 21) (B + 22) (B + 23) ∧ g 1 < B
def cX (g : Nat → Nat) (B : Nat) (h : zMem) (H : zH) (T : zT) (Λ K : zL) (κ : Bool) (ρ : Nat → Int32) : Prop := cSP g B h ∧ cSh h B H ∧ cTp h B T ∧ cRf h B ρ ∧ gI h B 4 = (if κ = true then nI 1 else nI 0) ∧ cL h (B + 23) Λ ∧ qE h (B + 23 + 43 + 1) ∧ qE h (B + 77 + 43 + 1) ∧ (κ = true → cL h (B + 77) K)
def mKp (m SL : Nat) (h : zMem) (K : zL) (κ : Bool) : Prop := (κ = false → gR h m 33 = none ∧ sz h = m + 180 ∧ sl h ≤ SL + 60000) ∧ (κ = true → gR h m 33 = some (m + 180) ∧ sz h = m + 360 ∧ sl h ≤ SL + 120000 ∧ oMo h (m + 180) ∧ oMo h (m + 270) ∧ gR h (m + 180) 42 = some (m + 270) ∧ mL h (m + 180) K)
def mSP (g : Nat → Nat) (m : Nat) (h : zMem) : Prop := oMo h m ∧ gR h m 42 = some (m + 90) ∧ oMo h (m + 90) ∧ (∀ i : Nat, i < 8 → gR h (m + 83) i = some (g (104 + i))) ∧ (∀ i : Nat, i < 3 → gR h (m + 84) i = some (g (100 + i)))
def mX (g : Nat → Nat) (m SL : Nat) (h : zMem) (H : zH) (T : zT) (Λ K : zL) (κ : Bool) (ρ : Nat → Int32) : Prop := mSP g m h ∧ kW h m ∧ kW h (m + 90) ∧ mFr h m (zF Λ) (zD Λ) (zV Λ) ∧ mSh h m H ∧ mTp h m T ∧ mRf h m ρ ∧ mL h m Λ ∧ mKp m SL h K κ
def kX (H : zH) (T : zT) (Λ K : zL) (κ : Bool) : Prop := kSh (zF Λ) H ∧ kTp T ∧ kL Λ ∧ (κ = true → kL K)
/-- class and reference hold one state -/
def JX (g : Nat → Nat) (B SL : Nat) (h : zMem) : Prop := ∃ (H : zH) (T : zT) (Λ K : zL) (κ : Bool) (ρ : Nat → Int32), kX H T Λ K κ ∧ bX g B h ∧ cX g B h H T Λ K κ ρ ∧ mX g (B + 145) SL h H T Λ K κ ρ
/-- kinds, lengths, references, sizes are the same -/
def shp (h h' : zMem) : Prop := (∀ b : Nat, kd h' b = kd h b) ∧ (∀ b : Nat, ln h' b = ln h b) ∧ (∀ b k : Nat, gR h' b k = gR h b k) ∧ sz h' = sz h ∧ sl h' = sl h
section ZWD
variable {g : Nat → Nat} {B m SL : Nat} {h h' h'' : zMem} {H : zH} {T : zT} {Λ K : zL} {κ : Bool} {ρ : Nat → Int32}
theorem sam.sh {lo hi : Nat} (s : sam lo hi h h') : shp h h' := ⟨s.1, s.2.1, s.2.2.1, s.2.2.2.1, s.2.2.2.2.1⟩
theorem mcs.sh (s : mcs m h h') : shp h h' := ⟨s.1, s.2.1, s.2.2.1, s.2.2.2.1, s.2.2.2.2.1⟩
theorem shp.sm (s : shp h h') : sam 0 0 (h.1, h.2.1, h.2.2.1, h.2.2.2.1, h.2.2.2.2.1, h'.2.2.2.2.2.1, h'.2.2.2.2.2.2) h' := ⟨s.1, s.2.1, s.2.2.1, s.2.2.2.1, s.2.2.2.2, fun _ _ _ => rfl, fun _ _ _ => rfl⟩
theorem shp.mo (s : shp h h') (o : oMo h m) : oMo h' m := s.sm.mo o
theorem shp.la {l : Nat} (s : shp h h') (o : oLand h l) : oLand h' l := s.sm.la o
theorem shp.dc (s : shp h h') (o : oDC h B) : oDC h' B := s.sm.dc o
theorem shp.sr {q r t : Nat} (s : shp h h') (o : oSearch h q r t) : oSearch h' q r t := s.sm.sr o
theorem smF.rf {a b : Nat} : smF a b h h := ⟨fun _ _ _ _ => rfl, fun _ _ _ _ => rfl⟩
theorem smF.tr {a b : Nat} (x : smF a b h h') (y : smF a b h' h'') : smF a b h h'' := ⟨fun c k h1 h2 => (y.1 c k h1 h2).trans (x.1 c k h1 h2), fun c k h1 h2 => (y.2 c k h1 h2).trans (x.2 c k h1 h2)⟩
theorem bX_fr (s : shp h h') (f : smF 0 (B - 1) h h') (b : bX g B h) : bX g B h' := by
  obtain ⟨b1, b2, b3, ⟨t1, t2, t3⟩, ⟨u1, u2, u3⟩, b6⟩ := b
  obtain ⟨s1, s2, s3, -⟩ := s
  refine ⟨b1, b2, b3, ⟨(s1 _).trans t1, (s2 _).trans t2, fun k hk => (f.1 _ _ (by omega) (by omega)).trans (t3 k hk)⟩, ⟨(s1 _).trans u1, (s2 _).trans u2, fun k hk => (f.1 _ _ (by omega) (by omega)).trans (u3 k hk)⟩, fun k hk => ?_⟩
  obtain ⟨w1, w2, v, w3, w4, w5, w6, w7⟩ := b6 k hk
  exact ⟨(s1 _).trans w1, w2, v, (s3 _ _).trans w3, w4, (s1 _).trans w5, (s2 _).trans w6, fun i hi => (f.1 _ _ (by omega) (by omega)).trans (w7 i hi)⟩
theorem cSP_fr (s : shp h h') (f0 : smF 0 (B - 1) h h') (f1 : smF (B + 20) (B + 22) h h') (c : cSP g B h) : cSP g B h' := by
  obtain ⟨c1, c2, c3, c4, c5, c6, ⟨⟨p1, p2, p3⟩, ⟨w1, w2, w3, w4, w5⟩, c8, c9, c10, c11⟩, c12⟩ := c
  have ss := s
  obtain ⟨s1, s2, s3, -⟩ := ss
  exact ⟨s.dc c1, s.la c2, s.sr c3, s.la c4, s.sr c5, s.sr c6, ⟨⟨(s1 _).trans p1, (s2 _).trans p2, fun k hk => (f0.1 _ _ (by omega) (by omega)).trans (p3 k hk)⟩, ⟨(s1 _).trans w1, (s3 _ _).trans w2, (s1 _).trans w3, (s2 _).trans w4, fun i hi => (f1.1 _ _ (by omega) (by omega)).trans (w5 i hi)⟩, fun v hv => ⟨(f1.1 _ _ (by omega) (by omega)).trans (c8 v hv).1, (c8 v hv).2⟩, c9, c10, c11⟩, c12⟩
theorem qE_fr {o : Nat} (f : smF o (o + 5) h h') (c : qE h o) : qE h' o := by
  obtain ⟨x, c1, c2, c3, c4⟩ := c
  exact ⟨x, (f.1 _ _ (by omega) (by omega)).trans c1, c2, (f.1 _ _ (by omega) (by omega)).trans c3, fun p hp => (f.1 _ _ (by omega) (by omega)).trans (c4 p hp)⟩
theorem cSh_fr (f : smF (B + 2) (B + 17) h h') (c : cSh h B H) : cSh h' B H := fun s hs => by
  obtain ⟨c1, c2, c3, c4⟩ := c s hs
  exact ⟨(f.1 _ _ (by omega) (by omega)).trans c1, (f.1 _ _ (by omega) (by omega)).trans c2, (f.1 _ _ (by omega) (by omega)).trans c3, fun i hi => (f.2 _ _ (by omega) (by omega)).trans (c4 i hi)⟩
theorem cTp_fr (f : smF (B + 18) (B + 19) h h') (c : cTp h B T) : cTp h' B T := ⟨(f.1 _ _ (by omega) (by omega)).trans c.1, fun i hi => (f.1 _ _ (by omega) (by omega)).trans (c.2 i hi)⟩
theorem cRf_fr (f : smF (B + 131) (B + 131) h h') (c : cRf h B ρ) : cRf h' B ρ := fun i hi => (f.1 _ _ (by omega) (by omega)).trans (c i hi)
/-- the class's world, where nothing of it changes -/
theorem cX_fr (hk : kX H T Λ K κ) (s : shp h h') (f : smF 0 (B + 131) h h') (c : cX g B h H T Λ K κ ρ) : cX g B h' H T Λ K κ ρ := by
  obtain ⟨c1, c2, c3, c4, c5, c6, c7, c8, c9⟩ := c
  exact ⟨cSP_fr s (f.wd (by omega) (by omega)) (f.wd (by omega) (by omega)) c1, cSh_fr (f.wd (by omega) (by omega)) c2, cTp_fr (f.wd (by omega) (by omega)) c3, cRf_fr (f.wd (by omega) (by omega)) c4, (f.1 _ _ (by omega) (by omega)).trans c5, cL_fr hk.2.2.1 (f.wd (by omega) (by omega)) c6, qE_fr (f.wd (by omega) (by omega)) c7, qE_fr (f.wd (by omega) (by omega)) c8, fun z => cL_fr (hk.2.2.2 z) (f.wd (by omega) (by omega)) (c9 z)⟩
/-- where only its land changes -/
theorem cX_land {Λ' : zL} (hk : kX H T Λ K κ) (s : sam (B + 23) (B + 23 + 53) h h') (c : cX g B h H T Λ K κ ρ) (hl : cL h' (B + 23) Λ') (hq : qE h' (B + 23 + 43 + 1)) : cX g B h' H T Λ' K κ ρ := by
  obtain ⟨c1, c2, c3, c4, c5, c6, c7, c8, c9⟩ := c
  exact ⟨cSP_fr s.sh (s.out (by omega)) (s.out (by omega)) c1, cSh_fr (s.out (by omega)) c2, cTp_fr (s.out (by omega)) c3, cRf_fr (s.out (by omega)) c4, (s.2.2.2.2.2.1 _ _ (by omega)).trans c5, hl, hq, qE_fr (s.out (by omega)) c8, fun z => cL_fr (hk.2.2.2 z) (s.out (by omega)) (c9 z)⟩
theorem sam.out0 {lo hi : Nat} (s : sam lo hi h h') (hB : 0 < B) (hd : B ≤ lo) : smF 0 (B - 1) h h' := s.out (by omega)
theorem cX_shelf {H' : zH} (hk : kX H T Λ K κ) (s : sam (B + 2) (B + 17) h h') (c : cX g B h H T Λ K κ ρ) (hl : cSh h' B H') : cX g B h' H' T Λ K κ ρ := by
  obtain ⟨c1, c2, c3, c4, c5, c6, c7, c8, c9⟩ := c
  have hB : 0 < B := by have := c1.2.2.2.2.2.2.2; omega
  exact ⟨cSP_fr s.sh (s.out0 hB (by omega)) (s.out (by omega)) c1, hl, cTp_fr (s.out (by omega)) c3, cRf_fr (s.out (by omega)) c4, (s.2.2.2.2.2.1 _ _ (by omega)).trans c5, cL_fr hk.2.2.1 (s.out (by omega)) c6, qE_fr (s.out (by omega)) c7, qE_fr (s.out (by omega)) c8, fun z => cL_fr (hk.2.2.2 z) (s.out (by omega)) (c9 z)⟩
theorem cX_tape {T' : zT} (hk : kX H T Λ K κ) (s : sam (B + 18) (B + 19) h h') (c : cX g B h H T Λ K κ ρ) (hl : cTp h' B T') : cX g B h' H T' Λ K κ ρ := by
  obtain ⟨c1, c2, c3, c4, c5, c6, c7, c8, c9⟩ := c
  have hB : 0 < B := by have := c1.2.2.2.2.2.2.2; omega
  exact ⟨cSP_fr s.sh (s.out0 hB (by omega)) (s.out (by omega)) c1, cSh_fr (s.out (by omega)) c2, hl, cRf_fr (s.out (by omega)) c4, (s.2.2.2.2.2.1 _ _ (by omega)).trans c5, cL_fr hk.2.2.1 (s.out (by omega)) c6, qE_fr (s.out (by omega)) c7, qE_fr (s.out (by omega)) c8, fun z => cL_fr (hk.2.2.2 z) (s.out (by omega)) (c9 z)⟩
theorem cX_ref {i : Nat} {v : Int32} (hk : kX H T Λ K κ) (c : cX g B h H T Λ K κ ρ) : cX g B (sI h (B + 131) i v) H T Λ K κ (up ρ i v) := by
  have s : sam (B + 131) (B + 131) h (sI h (B + 131) i v) := sam.I (by omega)
  obtain ⟨c1, c2, c3, c4, c5, c6, c7, c8, c9⟩ := c
  have hB : 0 < B := by have := c1.2.2.2.2.2.2.2; omega
  exact ⟨cSP_fr s.sh (s.out0 hB (by omega)) (s.out (by omega)) c1, cSh_fr (s.out (by omega)) c2, cTp_fr (s.out (by omega)) c3, fun j hj => by
    by_cases e : j = i
    · rw [e, a_II, up_s]
    · rw [a_Ik e, up_n e]; exact c4 j hj, (s.2.2.2.2.2.1 _ _ (by omega)).trans c5, cL_fr hk.2.2.1 (s.out (by omega)) c6, qE_fr (s.out (by omega)) c7, qE_fr (s.out (by omega)) c8, fun z => cL_fr (hk.2.2.2 z) (s.out (by omega)) (c9 z)⟩
/-- the reference's world: parts -/
theorem mSP_fr (s : shp h h') (c : mSP g m h) : mSP g m h' := by
  obtain ⟨c1, c2, c3, c4, c5⟩ := c
  have ss := s
  obtain ⟨s1, s2, s3, -⟩ := ss
  exact ⟨s.mo c1, (s3 _ _).trans c2, s.mo c3, fun i hi => (s3 _ _).trans (c4 i hi), fun i hi => (s3 _ _).trans (c5 i hi)⟩
theorem mKp_fr (hk : κ = true → kL K) (s : shp h h') (f : smF (m + 180) (m + 359) h h') (c : mKp m SL h K κ) : mKp m SL h' K κ := by
  obtain ⟨c1, c2⟩ := c
  have ss := s
  obtain ⟨s1, s2, s3, s4, s5⟩ := ss
  refine ⟨fun z => ?_, fun z => ?_⟩
  · obtain ⟨d1, d2, d3⟩ := c1 z
    exact ⟨(s3 _ _).trans d1, s4.trans d2, by rw [s5]; exact d3⟩
  · obtain ⟨d1, d2, d3, d4, d5, d6, d7⟩ := c2 z
    exact ⟨(s3 _ _).trans d1, s4.trans d2, by rw [s5]; exact d3, s.mo d4, s.mo d5, (s3 _ _).trans d6, mL_fr (hk z) (f.wd (by omega) (by omega)) d7⟩
theorem kW_fr (f : smF m (m + 85) h h') (c : kW h m) : kW h' m := c.mv (fun k => f.1 _ _ (by omega) (by omega)) (f.1 _ _ (by omega) (by omega))
theorem mSh_fr (f : smF (m + 1) (m + 14) h h') (c : mSh h m H) : mSh h' m H := fun s hs => by
  obtain ⟨c1, c2, c3⟩ := c s hs
  refine ⟨(f.1 _ _ (by omega) (by omega)).trans c1, fun z1 z2 => ?_, fun z => (f.1 _ _ (by omega) (by omega)).trans (c3 z)⟩
  obtain ⟨d1, d2, d3⟩ := c2 z1 z2
  exact ⟨(f.1 _ _ (by omega) (by omega)).trans d1, (f.1 _ _ (by omega) (by omega)).trans d2, fun i hi => (f.2 _ _ (by omega) (by omega)).trans (d3 i hi)⟩
theorem mFr_fr {nf nd : Nat} {V : Nat → Nat → Int32} (k1 : kF nf V) (k2 : kDd nf nd V) (f : smF m (m + 85) h h') (c : mFr h m nf nd V) : mFr h' m nf nd V := by
  have e : ∀ k : Nat, gI h' m k = gI h m k := fun k => f.1 _ _ (by omega) (by omega)
  unfold mFr
  rw [e, e, e]
  rcases c with c | ⟨c1, c2⟩
  · exact Or.inl c
  · exact Or.inr ⟨c1, rMS_fr k1.1 (Nat.le_trans (aOK_srch k1 k2).1.2.2.2.1 (pn_le k1.1)) f c2⟩
/-- the reference's world, where nothing of it changes -/
theorem mX_fr (hk : kX H T Λ K κ) (s : shp h h') (f : smF m (m + 359) h h') (c : mX g m SL h H T Λ K κ ρ) : mX g m SL h' H T Λ K κ ρ := by
  obtain ⟨c1, c2, c3, c4, c5, c6, c7, c8, c9⟩ := c
  exact ⟨mSP_fr s c1, kW_fr (f.wd (by omega) (by omega)) c2, kW_fr (f.wd (by omega) (by omega)) c3, mFr_fr hk.2.2.1.1 hk.2.2.1.2.1 (f.wd (by omega) (by omega)) c4, mSh_fr (f.wd (by omega) (by omega)) c5, ⟨(f.1 _ _ (by omega) (by omega)).trans c6.1, fun i hi => (f.1 _ _ (by omega) (by omega)).trans (c6.2 i hi)⟩, fun i hi => (f.1 _ _ (by omega) (by omega)).trans (c7 i hi), mL_fr hk.2.2.1 (f.wd (by omega) (by omega)) c8, mKp_fr hk.2.2.2 s (f.wd (by omega) (by omega)) c9⟩
end ZWD
