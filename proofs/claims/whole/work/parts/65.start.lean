/-! the small machine's memory at the start, read off the JVM's -/
def hLn (s : State) (a : Nat) : Nat := match s.heap[a]? with
  | some c => c.slots.size
  | none => 0
def hIn (s : State) (a j : Nat) : Int32 := match s.heap[a]? with
  | some c => (match c.slots[j]? with | some (.int x) => x | _ => 0)
  | none => 0
def gN (g0 g1 g2 g11 : Nat) (ad : Nat → Nat × Nat) (i : Nat) : Nat := if i = 0 then g0 else if i = 1 then g1 else if i = 2 then g2 else if i = 11 then g11 else (ad (i - 100)).1
theorem gN_s (g0 g1 g2 g11 : Nat) (ad : Nat → Nat × Nat) (i : Nat) : gN g0 g1 g2 g11 ad (100 + i) = (ad i).1 := by
  unfold gN
  rw [if_neg (by omega), if_neg (by omega), if_neg (by omega), if_neg (by omega), Nat.add_sub_cancel_left]
theorem xT.rd {ty : FieldType} {t N : Nat} {y : Nat → Int32} {s : State} (h : xT ty t N (fun j => .int (y j)) s) : t < s.heap.size ∧ hLn s t = N ∧ (∀ j : Nat, j < N → hIn s t j = y j) ∧ va_T ty t (hLn s t) (fun j => .int (hIn s t j)) (fun q => s.heap.size ≤ q) s s.heap := by
  obtain ⟨cell, h1, h2, h3, h4, h5⟩ := h
  have hl : hLn s t = N := by
    unfold hLn
    rw [h1]
    exact h4
  have hi : ∀ j : Nat, j < N → hIn s t j = y j := by
    intro j hj
    have h6 : cell.slots[j]? = some (.int (y j)) := h5 j hj
    unfold hIn
    simp only [h1, h6]
  have ht := (Array.getElem?_eq_some_iff.mp h1).1
  refine ⟨ht, hl, hi, ?_⟩
  rw [hl]
  exact ⟨cell, h1, h2, h3, Nat.le_of_eq h4.symm, congrArg Int32.ofNat h4, fun j hj => (h5 j hj).trans (congrArg (fun x => some (Value.int x)) (hi j hj).symm), Nat.not_le.2 ht⟩
theorem xT.ty {ty ty' : FieldType} {t N N' : Nat} {f f' : Nat → Value} {s : State} (h : xT ty t N f s) (h' : xT ty' t N' f' s) : ty = ty' := by
  obtain ⟨cell, h1, h2, -⟩ := h
  obtain ⟨cell', h1', h2', -⟩ := h'
  cases h1.symm.trans h1'
  obtain ⟨-, k, q1, c, q2⟩ := h2
  obtain ⟨-, k', q1', c', q2'⟩ := h2'
  cases q1.symm.trans q1'
  cases q2.symm.trans q2'
  rfl
theorem xT.noref {ty : FieldType} {t N v : Nat} {y : Nat → Int32} {s : State} {o n d : String} {A : Nat → Prop} (h : xT ty t N (fun j => .int (y j)) s) (h' : va_OF o n d (.ref v) t A s s.heap) : False := by
  obtain ⟨cell, h1, -, -, h4, h5⟩ := h
  obtain ⟨cf, k, i, f, cell', -, -, q3, -, q5, -⟩ := h'
  cases h1.symm.trans q3
  have hlt : f.slot < N := by
    rw [← h4]
    exact (Array.getElem?_eq_some_iff.mp q5).1
  have z : some (Value.int (y f.slot)) = some (Value.ref v) := (h5 _ hlt).symm.trans q5
  cases z
theorem OF_uq {o n d : String} {v v' : Value} {t : Nat} {A : Nat → Prop} {s : State} {H : Heap} (h : va_OF o n d v t A s H) (h' : va_OF o n d v' t A s H) : v = v' := by
  obtain ⟨cf, k, i, f, cell, q1, -, q3, -, q5, -⟩ := h
  obtain ⟨cf', k', i', f', cell', p1, -, p3, -, p5, -⟩ := h'
  cases q1.symm.trans p1
  cases q3.symm.trans p3
  cases q5.symm.trans p5
  rfl
theorem h0_ex (s : State) (I : Nat → Prop) (ad : Nat → Nat × Nat) : ∃ h0 : zMem, sz h0 = s.heap.size ∧ ln h0 = hLn s ∧ gI h0 = hIn s ∧
    (∀ a : Nat, (∃ i : Nat, i < 17 ∧ a = (ad i).1) → kd h0 a = 41 ∧ ∃ i : Nat, i < 17 ∧ a = (ad i).1 ∧ gR h0 a 0 = some (ad i).2) ∧
    (∀ a : Nat, ¬ (∃ i : Nat, i < 17 ∧ a = (ad i).1) → (∃ i : Nat, i < 17 ∧ a = (ad i).2) → kd h0 a = 42) ∧
    (∀ a : Nat, ¬ (∃ i : Nat, i < 17 ∧ a = (ad i).1) → ¬ (∃ i : Nat, i < 17 ∧ a = (ad i).2) → I a → kd h0 a = 40) ∧
    (∀ a : Nat, ¬ (∃ i : Nat, i < 17 ∧ a = (ad i).1) → ¬ (∃ i : Nat, i < 17 ∧ a = (ad i).2) → ¬ I a → kd h0 a = 0) := by
  classical
  refine ⟨(fun a => if (∃ i : Nat, i < 17 ∧ a = (ad i).1) then 41 else if (∃ i : Nat, i < 17 ∧ a = (ad i).2) then 42 else if I a then 40 else 0, hLn s, s.heap.size, 0, fun a _ => if h : (∃ i : Nat, i < 17 ∧ a = (ad i).1) then some (ad h.choose).2 else none, hIn s, fun _ _ => 0), rfl, rfl, rfl, fun a h => ⟨?_, h.choose, h.choose_spec.1, h.choose_spec.2, ?_⟩, fun a h1 h2 => ?_, fun a h1 h2 h3 => ?_, fun a h1 h2 h3 => ?_⟩
  · show ite _ _ _ = _
    rw [if_pos h]
  · show dite _ _ _ = _
    rw [dif_pos h]
  · show ite _ _ _ = _
    rw [if_neg h1, if_pos h2]
  · show ite _ _ _ = _
    rw [if_neg h1, if_neg h2, if_pos h3]
  · show ite _ _ _ = _
    rw [if_neg h1, if_neg h2, if_neg h3]
theorem start_of {p : Program} {s : State} {m : MethodId} {meth : Method} {c : Code} {b L : Nat} {xs : Nat → Int32} (C0 : lw_At p s m meth c b L xs) : ∃ (G : va_G) (cls : Nat → ClassId) (g : Nat → Nat) (h0 : zMem), sz h0 = s.heap.size ∧ (∀ a : Nat, sz h0 ≤ a → kd h0 a = 0) ∧ va_K G vwCl (zTys (G, s.heap.size, cls, h0)) s ∧ CR (G, s.heap.size, cls, h0) g s s.heap ∧ bX g s.heap.size h0 ∧ cP g h0 ∧ g 1 < s.heap.size ∧ kd h0 b = 40 ∧ ln h0 b = L := by
  obtain ⟨-, -, -, -, -, hts, hx, hbs, -, hg⟩ := C0
  have hw : ∀ {p : Nat} {w : Cond}, zTab p = some w → w.before #[Value.ref b] s = true := fun h => hts _ (zTab_mem h)
  obtain ⟨G, cls, hK⟩ := s_K hts
  obtain ⟨ad, had⟩ := s_str hg
  obtain ⟨g0, g1, g2, g11, T0, T1, T2, Z0, Z1, Z2, Z3, Z4⟩ := s_Z hg hts
  have TB : xT .int b L (fun j => .int (xs j)) s := hx
  obtain ⟨h0, e1, e2, e3, e4, e5, e6, e7⟩ := h0_ex s (fun a => a = g0 ∨ a = g1 ∨ a = g2 ∨ a = b) ad
  have hI : ∀ a : Nat, (a = g0 ∨ a = g1 ∨ a = g2 ∨ a = b) → ∃ (N : Nat) (y : Nat → Int32), xT .int a N (fun j => .int (y j)) s := by
    intro a h
    rcases h with h | h | h | h
    · rw [h]; exact ⟨64, fun j => nI (zT3.getD j 0), T0⟩
    · rw [h]; exact ⟨45, fun j => nI (pP j), T1⟩
    · rw [h]; exact ⟨64, fun j => nI (zT3.getD j 0), T2⟩
    · rw [h]; exact ⟨L, xs, TB⟩
  have hB : ∀ i : Nat, i < 17 → xT .byte (ad i).2 (zWd i).length (fun j => .int (nI ((zWd i).getD j 0))) s := fun i hi => (had i hi).2.2.2.2.2
  have nS : ∀ {ty : FieldType} {a N : Nat} {y : Nat → Int32}, xT ty a N (fun j => .int (y j)) s → ¬ ∃ i : Nat, i < 17 ∧ a = (ad i).1 := by
    rintro ty a N y hT ⟨i, hi, ha⟩
    rw [ha] at hT
    exact hT.noref (had i hi).2.2.2.2.1
  have nB : ∀ {a N : Nat} {y : Nat → Int32}, xT .int a N (fun j => .int (y j)) s → ¬ ∃ i : Nat, i < 17 ∧ a = (ad i).2 := by
    rintro a N y hT ⟨i, hi, ha⟩
    rw [ha] at hT
    cases hT.ty (hB i hi)
  have kI : ∀ a : Nat, (a = g0 ∨ a = g1 ∨ a = g2 ∨ a = b) → kd h0 a = 40 := by
    intro a h
    obtain ⟨N, y, hT⟩ := hI a h
    exact e6 a (nS hT) (nB hT) h
  have kB : ∀ i : Nat, i < 17 → kd h0 (ad i).2 = 42 := fun i hi => e5 _ (nS (hB i hi)) ⟨i, hi, rfl⟩
  have all4 : ∀ a : Nat, (kd h0 a = 41 ∧ ∃ i : Nat, i < 17 ∧ a = (ad i).1) ∨ (kd h0 a = 42 ∧ ∃ i : Nat, i < 17 ∧ a = (ad i).2) ∨ (kd h0 a = 40 ∧ (a = g0 ∨ a = g1 ∨ a = g2 ∨ a = b)) ∨ kd h0 a = 0 := by
    intro a
    by_cases h1 : ∃ i : Nat, i < 17 ∧ a = (ad i).1
    · exact Or.inl ⟨(e4 a h1).1, h1⟩
    · by_cases h2 : ∃ i : Nat, i < 17 ∧ a = (ad i).2
      · exact Or.inr (Or.inl ⟨e5 a h1 h2, h2⟩)
      · by_cases h3 : a = g0 ∨ a = g1 ∨ a = g2 ∨ a = b
        · exact Or.inr (Or.inr (Or.inl ⟨e6 a h1 h2 h3, h3⟩))
        · exact Or.inr (Or.inr (Or.inr (e7 a h1 h2 h3)))
  have lS : ∀ i : Nat, i < 17 → (ad i).1 < s.heap.size := by
    intro i hi
    obtain ⟨cell, q1, -⟩ := (had i hi).2.2.1
    exact (Array.getElem?_eq_some_iff.mp q1).1
  have k0 : ∀ a : Nat, sz h0 ≤ a → kd h0 a = 0 := by
    intro a ha
    rw [e1] at ha
    rcases all4 a with ⟨-, i, hi, h⟩ | ⟨-, i, hi, h⟩ | ⟨-, h⟩ | h
    · exact absurd (lS i hi) (by rw [← h]; exact Nat.not_lt.2 ha)
    · exact absurd (hB i hi).rd.1 (by rw [← h]; exact Nat.not_lt.2 ha)
    · obtain ⟨N, y, hT⟩ := hI a h
      exact absurd hT.rd.1 (Nat.not_lt.2 ha)
    · exact h
  have cR : ∀ e, e ∈ zTkT → vk_R (zOwn (e.1 / 10000)) (e.1 % 10000) (zTx.getD e.2.1 "") (gN g0 g1 g2 g11 ad (100 + e.2.1)) s := by
    intro e he
    rw [gN_s]
    exact s_R (ad := fun i => (ad i).1) hts (fun i hi => ⟨(had i hi).1, (had i hi).2.1⟩) e he
  have c40 : ∀ a : Nat, a < s.heap.size → kd h0 a = 40 → va_T .int a (ln h0 a) (fun j => .int (gI h0 a j)) (fun q => s.heap.size ≤ q) s s.heap := by
    intro a _ h
    rw [e2, e3]
    rcases all4 a with ⟨q, -⟩ | ⟨q, -⟩ | ⟨-, q⟩ | q
    · omega
    · omega
    · obtain ⟨N, y, hT⟩ := hI a q
      exact hT.rd.2.2.2
    · omega
  have c42 : ∀ a : Nat, a < s.heap.size → kd h0 a = 42 → va_T .byte a (ln h0 a) (fun j => .int (gI h0 a j)) (fun q => s.heap.size ≤ q) s s.heap := by
    intro a _ h
    rw [e2, e3]
    rcases all4 a with ⟨q, -⟩ | ⟨-, i, hi, q⟩ | ⟨q, -⟩ | q
    · omega
    · rw [q]
      exact (hB i hi).rd.2.2.2
    · omega
    · omega
  have c41 : ∀ a : Nat, a < s.heap.size → kd h0 a = 41 → va_O "java/lang/String" a (fun q => s.heap.size ≤ q) s s.heap ∧ va_OF "java/lang/String" "coder" "B" (.int 0) a (fun q => s.heap.size ≤ q) s s.heap ∧ va_OF "java/lang/String" "value" "[B" (va_rf (gR h0 a 0)) a (fun q => s.heap.size ≤ q) s s.heap := by
    intro a _ h
    rcases all4 a with ⟨-, q⟩ | ⟨q, -⟩ | ⟨q, -⟩ | q
    · obtain ⟨-, i, hi, f2, f3⟩ := e4 a q
      rw [f3, f2]
      exact ⟨(had i hi).2.2.1, (had i hi).2.2.2.1, (had i hi).2.2.2.2.1⟩
    · omega
    · omega
    · omega
  have hstr : zStr (gN g0 g1 g2 g11 ad) h0 s.heap.size := by
    intro k hk
    rw [gN_s]
    obtain ⟨f1, i, hi, f2, f3⟩ := e4 (ad k).1 ⟨k, hk, rfl⟩
    have u : Value.ref (ad k).2 = Value.ref (ad i).2 := OF_uq (had k hk).2.2.2.2.1 (by rw [f2]; exact (had i hi).2.2.2.2.1)
    have u2 : (ad k).2 = (ad i).2 := Value.ref.inj u
    obtain ⟨r1, r2, r3, -⟩ := (hB k hk).rd
    refine ⟨f1, lS k hk, (ad k).2, by rw [f3, u2], r1, kB k hk, ?_, ?_⟩
    · rw [e2]; exact r2
    · rw [e3]; exact r3
  have cti : ∀ (t N : Nat) (y : Nat → Int32), (t = g0 ∨ t = g1 ∨ t = g2 ∨ t = b) → xT .int t N (fun j => .int (y j)) s → kd h0 t = 40 ∧ ln h0 t = N ∧ ∀ k : Nat, k < N → gI h0 t k = y k := by
    intro t N y h hT
    refine ⟨kI t h, ?_, ?_⟩
    · rw [e2]; exact hT.rd.2.1
    · rw [e3]; exact hT.rd.2.2.1
  refine ⟨G, cls, gN g0 g1 g2 g11 ad, h0, e1, k0, hK s.heap.size h0, ⟨fun a _ => ?_, c40, c41, c42, Z0, Z1, Z2, Z3, Z4, cR, va_AO.of (hw tb_o_Shelf), va_AO.of (hw tb_o_Field), va_AO.of (hw tb_o_Deed), va_AO.of (hw tb_o_String), hw tb_aa_long, hw tb_aa_int⟩, ⟨T0.rd.1, T1.rd.1, T2.rd.1, cti g0 64 _ (Or.inl rfl) T0, cti g2 64 _ (Or.inr (Or.inr (Or.inl rfl))) T2, hstr⟩, cti g1 45 _ (Or.inr (Or.inl rfl)) T1, T1.rd.1, kI b (Or.inr (Or.inr (Or.inr rfl))), ?_⟩
  · rcases all4 a with ⟨q, -⟩ | ⟨q, -⟩ | ⟨q, -⟩ | q
    · exact Or.inr (Or.inr (Or.inl q))
    · exact Or.inr (Or.inr (Or.inr q))
    · exact Or.inr (Or.inl q)
    · exact Or.inl q
  · rw [e2]; exact TB.rd.2.1
/-- the law comes to its end with true, for every script of at most 384 ints -/
theorem whole_start {p : Program} {e : Env} {s : State} {m : MethodId} {below : List Frame} {meth : Method} {c : Code} (l : Launch) (hflags : l.flags = flags0) {b L : Nat} {xs : Nat → Int32} (hL : L ≤ 384) (C0 : lw_At p s m meth c b L xs) : W p l e room_1 s m #[Value.ref b] below meth c s.heap [] 0 0 (lw_Z below #[Value.ref b] s) (entryFrame m ([Value.ref b] : List Value).toArray 4) := by
  obtain ⟨G, cls, g, h0, q1, q2, q3, q4, q5, q6, q7, q8, q9⟩ := start_of C0
  exact whole_of l hL C0 q1 q2 q3 q4 q5 q6 q7 q8 q9
