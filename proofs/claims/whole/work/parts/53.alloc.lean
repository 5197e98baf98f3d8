/-! what a constructor makes: one array after the other, each held by a field of m -/
def alS (m : Nat) (h : zMem) (e : Nat × Nat × Nat) : zMem := sR (nw h e.2.1 e.2.2 e.2.2) m e.1 (some (sz h))
def alL (m : Nat) : zMem → List (Nat × Nat × Nat) → zMem
  | h, [] => h
  | h, e :: L => alL m (alS m h e) L
def alW : List (Nat × Nat × Nat) → Nat
  | [] => 0
  | e :: L => e.2.2 + alW L
/-- what is new, what stays -/
def alO (m : Nat) (h h' : zMem) (ks : Nat → Prop) : Prop := (∀ b : Nat, b < sz h → kd h' b = kd h b ∧ ln h' b = ln h b) ∧ (∀ b k : Nat, b < sz h → ¬ b = m → gR h' b k = gR h b k) ∧ (∀ k : Nat, ¬ ks k → gR h' m k = gR h m k) ∧ ∀ b k : Nat, b < sz h → ¬ (b = m ∧ k = 27) → gI h' b k = gI h b k ∧ gL h' b k = gL h b k
/-- a new cell, untouched -/
def alN (h : zMem) (a k n : Nat) : Prop := kd h a = k ∧ ln h a = n ∧ ∀ j : Nat, gR h a j = none ∧ gI h a j = 0 ∧ gL h a j = 0
section ZAL
variable {m k n w r : Nat} {h h' h'' : zMem} {ks ks' : Nat → Prop}
theorem alO.rf : alO m h h ks := ⟨fun _ _ => ⟨rfl, rfl⟩, fun _ _ _ _ => rfl, fun _ _ => rfl, fun _ _ _ _ => ⟨rfl, rfl⟩⟩
theorem alO.tr (a : alO m h h' ks) (b : alO m h' h'' ks') (s : sz h ≤ sz h') : alO m h h'' (fun k => ks k ∨ ks' k) := ⟨fun x hx => ⟨((b.1 x (by omega)).1).trans (a.1 x hx).1, ((b.1 x (by omega)).2).trans (a.1 x hx).2⟩, fun x k hx e => (b.2.1 x k (by omega) e).trans (a.2.1 x k hx e), fun k hk => (b.2.2.1 k (fun c => hk (Or.inr c))).trans (a.2.2.1 k (fun c => hk (Or.inl c))), fun x k hx e => ⟨((b.2.2.2 x k (by omega) e).1).trans (a.2.2.2 x k hx e).1, ((b.2.2.2 x k (by omega) e).2).trans (a.2.2.2 x k hx e).2⟩⟩
theorem alN.fr {a : Nat} (c : alN h a k n) (o : alO m h h' ks) (ha : a < sz h) (hm : ¬ a = m) : alN h' a k n := ⟨((o.1 a ha).1).trans c.1, ((o.1 a ha).2).trans c.2.1, fun j => ⟨(o.2.1 a j ha hm).trans (c.2.2 j).1, ((o.2.2.2 a j ha (fun e => hm e.1)).1).trans (c.2.2 j).2.1, ((o.2.2.2 a j ha (fun e => hm e.1)).2).trans (c.2.2 j).2.2⟩⟩
theorem alS_o {e : Nat × Nat × Nat} (hm : m < sz h) : sz (alS m h e) = sz h + 1 ∧ sl (alS m h e) = sl h + e.2.2 ∧ alO m h (alS m h e) (fun k => k = e.1) ∧ alN (alS m h e) (sz h) e.2.1 e.2.2 ∧ gR (alS m h e) m e.1 = some (sz h) := by
  refine ⟨rfl, rfl, ⟨fun b hb => ⟨?_, ?_⟩, fun b k hb hbm => ?_, fun k hk => ?_, fun b k hb _ => ⟨?_, ?_⟩⟩, ⟨?_, ?_, fun j => ⟨?_, ?_, ?_⟩⟩, a_RR⟩
  · show kd (nw h e.2.1 e.2.2 e.2.2) b = kd h b
    rw [y_kd_nw, if_neg (by omega)]
  · show ln (nw h e.2.1 e.2.2 e.2.2) b = ln h b
    rw [y_ln_nw, if_neg (by omega)]
  · show gR (sR _ m e.1 _) b k = gR h b k
    rw [a_Ra hbm, y_gR_nw, if_neg (by omega)]
  · show gR (sR _ m e.1 _) m k = gR h m k
    rw [a_Rk hk, y_gR_nw, if_neg (by omega)]
  · show gI (nw h e.2.1 e.2.2 e.2.2) b k = gI h b k
    rw [y_gI_nw, if_neg (by omega)]
  · show gL (nw h e.2.1 e.2.2 e.2.2) b k = gL h b k
    rw [y_gL_nw, if_neg (by omega)]
  · show kd (nw h e.2.1 e.2.2 e.2.2) (sz h) = _
    rw [y_kd_nw, if_pos rfl]
  · show ln (nw h e.2.1 e.2.2 e.2.2) (sz h) = _
    rw [y_ln_nw, if_pos rfl]
  · show gR (sR _ m e.1 _) (sz h) j = none
    rw [a_Ra (by omega), y_gR_nw, if_pos rfl]
  · show gI (nw h e.2.1 e.2.2 e.2.2) (sz h) j = 0
    rw [y_gI_nw, if_pos rfl]
  · show gL (nw h e.2.1 e.2.2 e.2.2) (sz h) j = 0
    rw [y_gL_nw, if_pos rfl]
theorem al_all : ∀ (L : List (Nat × Nat × Nat)) (h : zMem), m < sz h → (L.map (·.1)).Nodup → sz (alL m h L) = sz h + L.length ∧ sl (alL m h L) = sl h + alW L ∧ alO m h (alL m h L) (fun k => ∃ e : Nat × Nat × Nat, e ∈ L ∧ e.1 = k) ∧ ∀ (i : Nat) (e : Nat × Nat × Nat), L[i]? = some e → alN (alL m h L) (sz h + i) e.2.1 e.2.2 ∧ gR (alL m h L) m e.1 = some (sz h + i)
  | [], h, hm, _ => ⟨rfl, rfl, alO.rf, fun i e q => by cases q⟩
  | e0 :: L, h, hm, nd => by
    obtain ⟨a1, a2, a3, a4, a5⟩ := alS_o (e := e0) hm
    rw [List.map_cons, List.nodup_cons] at nd
    obtain ⟨b1, b2, b3, b4⟩ := al_all L (alS m h e0) (by omega) nd.2
    have e1 : alL m h (e0 :: L) = alL m (alS m h e0) L := rfl
    rw [e1]
    have o := a3.tr b3 (by omega)
    refine ⟨by rw [b1, a1, List.length_cons]; omega, by rw [b2, a2]; show _ = sl h + (e0.2.2 + alW L); omega, ⟨o.1, o.2.1, fun k hk => o.2.2.1 k (fun c => ?_), o.2.2.2⟩, fun i e q => ?_⟩
    · rcases c with c | ⟨e, h1, h2⟩
      · exact hk ⟨e0, List.mem_cons_self, c.symm⟩
      · exact hk ⟨e, List.mem_cons_of_mem _ h1, h2⟩
    · cases i with
      | zero =>
        have q : some e0 = some e := q
        cases q
        refine ⟨a4.fr b3 (by omega) (by omega), ?_⟩
        rw [b3.2.2.1 e0.1 (fun c => nd.1 (by
          obtain ⟨e, h1, h2⟩ := c
          rw [← h2]
          exact List.mem_map_of_mem h1))]
        exact a5
      | succ i =>
        have q : L[i]? = some e := q
        obtain ⟨c1, c2⟩ := b4 i e q
        rw [a1, show sz h + 1 + i = sz h + (i + 1) by omega] at c1 c2
        exact ⟨c1, c2⟩
/-- an array of rows -/
def alM (m : Nat) (h : zMem) (s K k n w : Nat) : zMem := sR (nwM h K k n w) m s (some (sz h))
theorem alM_o {s K : Nat} (hm : m < sz h) : sz (alM m h s K k n w) = sz h + 1 + n ∧ sl (alM m h s K k n w) = sl h + n + n * w ∧ alO m h (alM m h s K k n w) (fun k => k = s) ∧ (kd (alM m h s K k n w) (sz h) = K ∧ ln (alM m h s K k n w) (sz h) = n ∧ ∀ j : Nat, j < n → gR (alM m h s K k n w) (sz h) j = some (sz h + 1 + j)) ∧ (∀ j : Nat, j < n → alN (alM m h s K k n w) (sz h + 1 + j) k w) ∧ gR (alM m h s K k n w) m s = some (sz h) := by
  refine ⟨rfl, rfl, ⟨fun b hb => ⟨?_, ?_⟩, fun b k hb hbm => ?_, fun k hk => ?_, fun b k hb _ => ⟨?_, ?_⟩⟩, ⟨?_, ?_, fun j hj => ?_⟩, fun j hj => ⟨?_, ?_, fun i => ⟨?_, ?_, ?_⟩⟩, a_RR⟩
  · show (if b = sz h then K else if sz h < b ∧ b ≤ sz h + n then k else kd h b) = kd h b
    rw [if_neg (by omega), if_neg (by omega)]
  · show (if b = sz h then n else if sz h < b ∧ b ≤ sz h + n then w else ln h b) = ln h b
    rw [if_neg (by omega), if_neg (by omega)]
  · show gR (sR _ m s _) b k = gR h b k
    rw [a_Ra hbm]
    show (if b = sz h then _ else if sz h < b ∧ b ≤ sz h + n then none else gR h b k) = gR h b k
    rw [if_neg (by omega), if_neg (by omega)]
  · show gR (sR _ m s _) m k = gR h m k
    rw [a_Rk hk]
    show (if m = sz h then _ else if sz h < m ∧ m ≤ sz h + n then none else gR h m k) = gR h m k
    rw [if_neg (by omega), if_neg (by omega)]
  · show (if sz h ≤ b ∧ b ≤ sz h + n then 0 else gI h b k) = gI h b k
    rw [if_neg (by omega)]
  · show (if sz h ≤ b ∧ b ≤ sz h + n then 0 else gL h b k) = gL h b k
    rw [if_neg (by omega)]
  · show (if sz h = sz h then K else _) = K
    rw [if_pos rfl]
  · show (if sz h = sz h then n else _) = n
    rw [if_pos rfl]
  · show gR (sR _ m s _) (sz h) j = _
    rw [a_Ra (by omega)]
    show (if sz h = sz h then (if j < n then some (sz h + 1 + j) else none) else _) = _
    rw [if_pos rfl, if_pos hj]
  · show (if sz h + 1 + j = sz h then K else if sz h < sz h + 1 + j ∧ sz h + 1 + j ≤ sz h + n then k else kd h _) = k
    rw [if_neg (by omega), if_pos (by omega)]
  · show (if sz h + 1 + j = sz h then n else if sz h < sz h + 1 + j ∧ sz h + 1 + j ≤ sz h + n then w else ln h _) = w
    rw [if_neg (by omega), if_pos (by omega)]
  · show gR (sR _ m s _) (sz h + 1 + j) i = none
    rw [a_Ra (by omega)]
    show (if sz h + 1 + j = sz h then _ else if sz h < sz h + 1 + j ∧ sz h + 1 + j ≤ sz h + n then none else gR h _ i) = none
    rw [if_neg (by omega), if_pos (by omega)]
  · show (if sz h ≤ sz h + 1 + j ∧ sz h + 1 + j ≤ sz h + n then 0 else gI h _ i) = 0
    rw [if_pos (by omega)]
  · show (if sz h ≤ sz h + 1 + j ∧ sz h + 1 + j ≤ sz h + n then 0 else gL h _ i) = 0
    rw [if_pos (by omega)]
theorem alO.mono (a : alO m h h' ks) (c : ∀ k : Nat, ks k → ks' k) : alO m h h' ks' := ⟨a.1, a.2.1, fun k hk => a.2.2.1 k (fun d => hk (c k d)), a.2.2.2⟩
def okm (m : Nat) (h : zMem) : Prop := kd h m = 13 ∧ m < sz h
theorem okm.fr (o : okm m h) (a : alO m h h' ks) (s : sz h ≤ sz h') : okm m h' := ⟨((a.1 m o.2).1).trans o.1, Nat.lt_of_lt_of_le o.2 s⟩
theorem okS {e : Nat × Nat × Nat} (o : okm m h) : okm m (alS m h e) := o.fr (alS_o o.2).2.2.1 (by rw [(alS_o o.2).1]; omega)
theorem okM {s K : Nat} (o : okm m h) : okm m (alM m h s K k n w) := o.fr (alM_o o.2).2.2.1 (by rw [(alM_o (s := s) (K := K) (k := k) (n := n) (w := w) o.2).1]; omega)
end ZAL
