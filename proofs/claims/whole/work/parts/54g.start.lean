/-! a new object and a new reference hold one state -/
def H0 : zH := (fun _ => -1, fun _ => nI 0, fun _ => -1, fun _ _ => 0)
def V0 : Nat → Nat → Int32 := fun k _ => if k = 25 then -1 else if k = 27 then nI 1 else nI 0
def L0 : zL := (0, 0, 0, V0, fun _ => 0, 0, (0, 0, 0, 0, fun _ _ => 0, fun _ => 0), -1)
section ZST0
variable {g : Nat → Nat} {B : Nat} {h : zMem}
theorem kX0 : kX H0 (0, fun _ => 0) L0 L0 false := by
  refine ⟨fun s _ => Or.inl ⟨rfl, rfl⟩, ⟨by decide, fun i hi => absurd hi (Nat.not_lt_zero _)⟩, ⟨⟨by decide, fun f hf => absurd hf (Nat.not_lt_zero _)⟩, ⟨by decide, fun f hf => absurd hf (Nat.not_lt_zero _)⟩, fun w _ => Or.inl rfl, ⟨by decide, fun f hf => absurd hf (Nat.not_lt_zero _)⟩, fun i _ => ⟨0, rfl, by decide⟩, fun c => absurd rfl c⟩, fun c => nomatch c⟩
/-- the class's world below the reference -/
theorem lo_cX {h' : zMem} (hB : 0 < B) (lo : ∀ b : Nat, b < B + 145 → kd h' b = kd h b ∧ ln h' b = ln h b ∧ ∀ k : Nat, gR h' b k = gR h b k ∧ gI h' b k = gI h b k ∧ gL h' b k = gL h b k) (b : bX g B h) (p : cP g h) (p1 : g 1 < B) (d : dcE g h B) : bX g B h' ∧ cX g B h' H0 (0, fun _ => 0) L0 L0 false (fun _ => 0) := by
  have F : kp h h' (B + 145) (B + 145) := ⟨fun b hb => ⟨(lo b hb).1, (lo b hb).2.1⟩, fun b k hb _ => (lo b hb).2.2 k⟩
  have f1 : ∀ b : Nat, b < B + 145 → kd h' b = kd h b := fun b hb => (lo b hb).1
  have f2 : ∀ b : Nat, b < B + 145 → ln h' b = ln h b := fun b hb => (lo b hb).2.1
  have f3 : ∀ b k : Nat, b < B + 145 → gR h' b k = gR h b k := fun b k hb => ((lo b hb).2.2 k).1
  have f4 : ∀ b k : Nat, b < B + 145 → gI h' b k = gI h b k := fun b k hb => ((lo b hb).2.2 k).2.1
  have f5 : ∀ b k : Nat, b < B + 145 → gL h' b k = gL h b k := fun b k hb => ((lo b hb).2.2 k).2.2
  obtain ⟨b1, b2, b3, ⟨t1, t2, t3⟩, ⟨u1, u2, u3⟩, b6⟩ := b
  obtain ⟨p2, p3, p4⟩ := p
  obtain ⟨d1, d2, d3, d4, d5, d6, d7, d8, d9, d10, d11, d12, d13, d14, d15⟩ := d
  obtain ⟨m1, m2, m3, m4, m5, m6, m7, m8⟩ := d13.fr F (by omega) (by omega)
  have o' : oDC h' B := by
    obtain ⟨a1, a2, a3, a4⟩ := d1
    refine ⟨?_, ?_, ?_, fun j hj => ?_⟩
    · unfold oDC0 at *
      simp (disch := omega) only [f1, f2, f3]
      exact a1
    · unfold oDC1 at *
      simp (disch := omega) only [f1, f2, f3]
      exact a2
    · unfold oDC2 at *
      simp (disch := omega) only [f1, f2, f3]
      exact a3
    · rw [f3 _ _ (by omega), f1 _ (by omega), f3 _ _ (by omega), f1 _ (by omega), f2 _ (by omega)]
      exact a4 j hj
  refine ⟨⟨b1, b2, b3, ⟨(f1 _ (by omega)).trans t1, (f2 _ (by omega)).trans t2, fun k hk => (f4 _ _ (by omega)).trans (t3 k hk)⟩, ⟨(f1 _ (by omega)).trans u1, (f2 _ (by omega)).trans u2, fun k hk => (f4 _ _ (by omega)).trans (u3 k hk)⟩, fun k hk => ?_⟩, ⟨o', la_fr F (by omega) (by omega) d2, sr_fr F (by omega) (by omega) (by omega) (by omega) (by omega) d3, la_fr F (by omega) (by omega) d4, sr_fr F (by omega) (by omega) (by omega) (by omega) (by omega) d5, sr_fr F (by omega) (by omega) (by omega) (by omega) (by omega) d6, ⟨⟨(f1 _ (by omega)).trans p2, (f2 _ (by omega)).trans p3, fun k hk => (f4 _ _ (by omega)).trans (p4 k hk)⟩, ⟨dc_k20 o', dc_r20_1 o', dc_k22 o', dc_l22 o', fun i hi => (f4 _ _ (by omega)).trans (d8 i hi)⟩, fun v hv => ⟨(f4 _ _ (by omega)).trans (d7 v hv), tur_lt hv⟩, by omega, by omega, by omega⟩, p1⟩, fun s hs => ?_, ⟨(f4 _ _ (by omega)).trans d10, fun i hi => absurd hi (Nat.not_lt_zero _)⟩, fun i _ => (f4 _ _ (by omega)).trans (d11 i), (f4 _ _ (by omega)).trans d12, ⟨⟨m1, fun f hf => absurd hf (Nat.not_lt_zero _)⟩, ⟨m2, fun f hf => absurd hf (Nat.not_lt_zero _)⟩, m3, ⟨m4, fun f hf => absurd hf (Nat.not_lt_zero _)⟩, ⟨m5, m6⟩, m7, fun _ => m8, fun c => absurd rfl c⟩, d14.fr F (by omega) (by omega), d15.fr F (by omega) (by omega), fun c => nomatch c⟩
  · obtain ⟨w1, w2, v, w3, w4, w5, w6, w7⟩ := b6 k hk
    exact ⟨(f1 _ (by omega)).trans w1, w2, v, (f3 _ _ (by omega)).trans w3, w4, (f1 _ (by omega)).trans w5, (f2 _ (by omega)).trans w6, fun i hi => (f4 _ _ (by omega)).trans (w7 i hi)⟩
  · obtain ⟨-, -, -, -, e1, e2, e3, e4⟩ := (d9 s hs).fr F (by omega) (by omega)
    rw [show B + 2 + 2 * s + 1 = B + 3 + 2 * s by omega] at e4
    exact ⟨e1, e2, e3, fun i _ => e4 i⟩
theorem JX_start (hz : sz h = B) (hB : 0 < B) (b : bX g B h) (p : cP g h) (p1 : g 1 < B) : ∃ h1 h2 : zMem, call g DC_init [.ref B] (nw h 12 0 10) = some (none, h1) ∧ kd h1 B = 12 ∧ sz h1 = B + 145 ∧ call g Mo_init [.ref (B + 145)] (nw h1 13 0 67) = some (none, h2) ∧ JX g B (sl h) h2 ∧ ∀ x : Nat, x < B → kd h2 x = kd h x ∧ ln h2 x = ln h x ∧ ∀ k : Nat, gI h2 x k = gI h x k := by
  have F0 : kp h (nw h 12 0 10) B B := kp_nw (by omega)
  obtain ⟨b1, b2, b3, ⟨t1, t2, t3⟩, ⟨u1, u2, u3⟩, b6⟩ := b
  obtain ⟨h1, q1, F1, z1, w1, d⟩ := k_DC (g := g) (B := B) (h := nw h 12 0 10) (by rw [y_kd_nw, if_pos hz.symm]) (by rw [y_sz_nw, hz]) ⟨((F0.1 _ b1).1).trans t1, ((F0.1 _ b1).2).trans t2, fun k hk => ((F0.2 _ _ b1 (by omega)).2.1).trans (t3 k hk)⟩ b1
  have F2 := F0.tr F1
  have G : kp h1 (nw h1 13 0 67) (B + 145) (B + 145) := kp_nw (by omega)
  have F3 : kp h (nw h1 13 0 67) B B := F2.tr (G.wd (by omega) (Or.inr (by omega)))
  have om : okm (B + 145) (nw h1 13 0 67) := ⟨by rw [y_kd_nw, if_pos z1.symm], by rw [y_sz_nw, z1]; omega⟩
  have zm : sz (nw h1 13 0 67) = B + 145 + 1 := by rw [y_sz_nw, z1]
  have hs : ∀ i : Nat, i < 17 → kd (nw h1 13 0 67) (g (100 + i)) = 41 ∧ g (100 + i) < B + 145 := fun i hi => by
    obtain ⟨s1, s2, -⟩ := b6 i hi
    exact ⟨((F3.1 _ s2).1).trans s1, by omega⟩
  have q2 := q_Mo_init om zm hs
  obtain ⟨⟨a1, a2, a3, a4, a5⟩, a6, a7, a8, a9, a10, a11, a12, a13, a14⟩ := moH_all (g := g) om zm hs
  generalize moH g (B + 145) (nw h1 13 0 67) = h2 at *
  have F4 : kp h1 h2 (B + 145) (B + 145) := G.tr ⟨fun b hb => ⟨(a8 b hb).1, (a8 b hb).2.1⟩, fun b k hb _ => (a8 b hb).2.2 k⟩
  have F5 : kp h h2 B B := F2.tr (F4.wd (by omega) (Or.inr (by omega)))
  have bh1 : bX g B h1 := by
    refine ⟨b1, b2, b3, ⟨((F2.1 _ b1).1).trans t1, ((F2.1 _ b1).2).trans t2, fun k hk => ((F2.2 _ _ b1 (by omega)).2.1).trans (t3 k hk)⟩, ⟨((F2.1 _ b3).1).trans u1, ((F2.1 _ b3).2).trans u2, fun k hk => ((F2.2 _ _ b3 (by omega)).2.1).trans (u3 k hk)⟩, fun k hk => ?_⟩
    obtain ⟨w1, w2, v, w3, w4, w5, w6, w7⟩ := b6 k hk
    exact ⟨((F2.1 _ w2).1).trans w1, w2, v, ((F2.2 _ _ w2 (by omega)).1).trans w3, w4, ((F2.1 _ w4).1).trans w5, ((F2.1 _ w4).2).trans w6, fun i hi => ((F2.2 _ _ w4 (by omega)).2.1).trans (w7 i hi)⟩
  have ph1 : cP g h1 := by
    obtain ⟨p2, p3, p4⟩ := p
    exact ⟨((F2.1 _ p1).1).trans p2, ((F2.1 _ p1).2).trans p3, fun k hk => ((F2.2 _ _ p1 (by omega)).2.1).trans (p4 k hk)⟩
  obtain ⟨bb, cc⟩ := lo_cX hB (fun b hb => ⟨(F4.1 b hb).1, (F4.1 b hb).2, fun k => F4.2 b k hb (by omega)⟩) bh1 ph1 p1 d
  refine ⟨h1, h2, q1, (d.1.1.1), z1, q2, ⟨H0, (0, fun _ => 0), L0, L0, false, fun _ => 0, kX0, bb, cc, ⟨a1, a3, a2, a4, a5⟩, ?_, ?_, ?_, fun s hs => ⟨?_, fun _ c => absurd rfl c, fun c => absurd rfl c⟩, ⟨?_, fun i hi => absurd hi (Nat.not_lt_zero _)⟩, fun i _ => ?_, ⟨⟨?_, fun f hf => absurd hf (Nat.not_lt_zero _)⟩, ⟨?_, fun f hf => absurd hf (Nat.not_lt_zero _)⟩, a13, ⟨?_, fun f hf => absurd hf (Nat.not_lt_zero _)⟩, ⟨a10, fun i _ => (a12 i).2.2⟩, fun _ => ?_, fun c => absurd rfl c⟩, fun _ => ⟨?_, a6, ?_⟩, fun c => nomatch c⟩, fun x hx => ⟨(F5.1 x hx).1, (F5.1 x hx).2, fun k => (F5.2 x k hx (by omega)).2.1⟩⟩
  · exact Or.inl ((a9 52 (by decide)).trans (by rw [y_gI_nw, if_pos z1.symm]; rfl))
  · exact Or.inl (a11 52 (by decide))
  · exact Or.inl ((a9 53 (by decide)).trans (by rw [y_gI_nw, if_pos z1.symm]; rfl))
  · exact (a12 s).1
  · exact (a9 7 (by decide)).trans (by rw [y_gI_nw, if_pos z1.symm]; rfl)
  · exact (a12 (i + 2)).2.1
  · exact (a9 9 (by decide)).trans (by rw [y_gI_nw, if_pos z1.symm]; rfl)
  · exact (a9 15 (by decide)).trans (by rw [y_gI_nw, if_pos z1.symm]; rfl)
  · exact (a9 28 (by decide)).trans (by rw [y_gI_nw, if_pos z1.symm]; rfl)
  · exact (a9 31 (by decide)).trans (by rw [y_gI_nw, if_pos z1.symm]; rfl)
  · exact a14.trans (by rw [y_gR_nw, if_pos z1.symm])
  · rw [a7, y_sl_nw, w1, y_sl_nw]
    omega
end ZST0
