/-! one instruction: the JVM does what stp says -/
def zX (E : zE) (g : Nat → Nat) (M : zM) (p : Program) (s : State) (m : MethodId) (args : Array Value) (meth : Method) (c : Code) : Prop :=
  p.tables.exec = Jvm.exec ∧ c.code = zCode M ∧ c.maxLocals = zMx M ∧ s.vm.findClass (zOwn M.2.2.1) = some m.cls ∧ (∀ w ∈ zTb, w.before args s = true) ∧ va_K E.1 vwCl (zTys E) s ∧ CR E g s s.heap ∧ (zKd M = 2 → meth.name = "<init>") ∧ E.2.1 ≤ s.heap.size
def zGo (p : Program) (l : Launch) (e : Env) (R : Room) (s : State) (m : MethodId) (args : Array Value) (below : List Frame) (meth : Method) (c : Code) (Q : State → Prop) (E : zE) (M : zM) (hin h : zMem) (pc : Nat) (ls st : List Value) : Prop :=
  ∀ (H : Heap) (locs : List Loc) (la : Array Slot), HR E h H → LR la (zMx M) ls → va_S (zA E) s.heap H locs → W p l e R s m args below meth c H locs (sz h - s.heap.size) (sl h - sl hin) Q (F0 m pc la st)
theorem zF_ok : ∀ q ∈ zFkT, q.1 < 1000000 ∧ q.2.1 < 13 ∧ q.2.2.1 < zSl q.2.1 ∧ zTab (q.2.2.2.2.2) = some (.fieldLink (zOwn (q.1 / 10000)) (q.1 % 10000) (zCn q.2.1) (zTc q.2.1 q.2.2.1).2.1 (zTc q.2.1 q.2.2.1).2.2.1) ∧ (zTc q.2.1 q.2.2.1).1 = zCn q.2.1 ∧ q.2.2.2.1 = zFt q.2.1 q.2.2.1 ∧ (if q.2.2.2.2.1 = 0 then (zTc q.2.1 q.2.2.1).2.2.2 = false else (zTc q.2.1 q.2.2.1).2.2.2 = true) := by decide +kernel
theorem zC_cl : ∀ c, c < 13 → vwCl[c]? = some (zCn c, zTc c, zSl c) := by
  intro c hc
  match c, hc with
  | 0, _ => rfl
  | 1, _ => rfl
  | 2, _ => rfl
  | 3, _ => rfl
  | 4, _ => rfl
  | 5, _ => rfl
  | 6, _ => rfl
  | 7, _ => rfl
  | 8, _ => rfl
  | 9, _ => rfl
  | 10, _ => rfl
  | 11, _ => rfl
  | 12, _ => rfl
  | c + 13, h => exact absurd h (by omega)
theorem zC_in : ∀ c, c < 13 → ∀ w ∈ u_ws (zCn c) (zTc c) (zSl c), w ∈ zTb := by
  intro c hc
  match c, hc with
  | 0, _ => exact fun w hw => List.mem_filter.mpr ⟨(show ∀ w ∈ u_ws (zCn 0) (zTc 0) (zSl 0), w ∈ lw_tbl by decide +kernel) w hw, (show ∀ w ∈ u_ws (zCn 0) (zTc 0) (zSl 0), goodWord w = true by decide +kernel) w hw⟩
  | 1, _ => exact fun w hw => List.mem_filter.mpr ⟨(show ∀ w ∈ u_ws (zCn 1) (zTc 1) (zSl 1), w ∈ lw_tbl by decide +kernel) w hw, (show ∀ w ∈ u_ws (zCn 1) (zTc 1) (zSl 1), goodWord w = true by decide +kernel) w hw⟩
  | 2, _ => exact fun w hw => List.mem_filter.mpr ⟨(show ∀ w ∈ u_ws (zCn 2) (zTc 2) (zSl 2), w ∈ lw_tbl by decide +kernel) w hw, (show ∀ w ∈ u_ws (zCn 2) (zTc 2) (zSl 2), goodWord w = true by decide +kernel) w hw⟩
  | 3, _ => exact fun w hw => List.mem_filter.mpr ⟨(show ∀ w ∈ u_ws (zCn 3) (zTc 3) (zSl 3), w ∈ lw_tbl by decide +kernel) w hw, (show ∀ w ∈ u_ws (zCn 3) (zTc 3) (zSl 3), goodWord w = true by decide +kernel) w hw⟩
  | 4, _ => exact fun w hw => List.mem_filter.mpr ⟨(show ∀ w ∈ u_ws (zCn 4) (zTc 4) (zSl 4), w ∈ lw_tbl by decide +kernel) w hw, (show ∀ w ∈ u_ws (zCn 4) (zTc 4) (zSl 4), goodWord w = true by decide +kernel) w hw⟩
  | 5, _ => exact fun w hw => List.mem_filter.mpr ⟨(show ∀ w ∈ u_ws (zCn 5) (zTc 5) (zSl 5), w ∈ lw_tbl by decide +kernel) w hw, (show ∀ w ∈ u_ws (zCn 5) (zTc 5) (zSl 5), goodWord w = true by decide +kernel) w hw⟩
  | 6, _ => exact fun w hw => List.mem_filter.mpr ⟨(show ∀ w ∈ u_ws (zCn 6) (zTc 6) (zSl 6), w ∈ lw_tbl by decide +kernel) w hw, (show ∀ w ∈ u_ws (zCn 6) (zTc 6) (zSl 6), goodWord w = true by decide +kernel) w hw⟩
  | 7, _ => exact fun w hw => List.mem_filter.mpr ⟨(show ∀ w ∈ u_ws (zCn 7) (zTc 7) (zSl 7), w ∈ lw_tbl by decide +kernel) w hw, (show ∀ w ∈ u_ws (zCn 7) (zTc 7) (zSl 7), goodWord w = true by decide +kernel) w hw⟩
  | 8, _ => exact fun w hw => List.mem_filter.mpr ⟨(show ∀ w ∈ u_ws (zCn 8) (zTc 8) (zSl 8), w ∈ lw_tbl by decide +kernel) w hw, (show ∀ w ∈ u_ws (zCn 8) (zTc 8) (zSl 8), goodWord w = true by decide +kernel) w hw⟩
  | 9, _ => exact fun w hw => List.mem_filter.mpr ⟨(show ∀ w ∈ u_ws (zCn 9) (zTc 9) (zSl 9), w ∈ lw_tbl by decide +kernel) w hw, (show ∀ w ∈ u_ws (zCn 9) (zTc 9) (zSl 9), goodWord w = true by decide +kernel) w hw⟩
  | 10, _ => exact fun w hw => List.mem_filter.mpr ⟨(show ∀ w ∈ u_ws (zCn 10) (zTc 10) (zSl 10), w ∈ lw_tbl by decide +kernel) w hw, (show ∀ w ∈ u_ws (zCn 10) (zTc 10) (zSl 10), goodWord w = true by decide +kernel) w hw⟩
  | 11, _ => exact fun w hw => List.mem_filter.mpr ⟨(show ∀ w ∈ u_ws (zCn 11) (zTc 11) (zSl 11), w ∈ lw_tbl by decide +kernel) w hw, (show ∀ w ∈ u_ws (zCn 11) (zTc 11) (zSl 11), goodWord w = true by decide +kernel) w hw⟩
  | 12, _ => exact fun w hw => List.mem_filter.mpr ⟨(show ∀ w ∈ u_ws (zCn 12) (zTc 12) (zSl 12), w ∈ lw_tbl by decide +kernel) w hw, (show ∀ w ∈ u_ws (zCn 12) (zTc 12) (zSl 12), goodWord w = true by decide +kernel) w hw⟩
  | c + 13, h => exact absurd h (by omega)
/-- a field's type by its code -/
def zFc (t : FieldType) : Nat := match t with
  | .int => 0 | .long => 1 | .boolean => 3 | .object _ => 2 | .array _ => 2 | _ => 9
theorem zFt_ty : ∀ c, c < 13 → ∀ k, k < zSl c → zFt c k = zFc (zTyc c k) ∧ zFt c k < 4 := by
  intro c hc
  match c, hc with
  | 0, _ => decide +kernel
  | 1, _ => decide +kernel
  | 2, _ => decide +kernel
  | 3, _ => decide +kernel
  | 4, _ => decide +kernel
  | 5, _ => decide +kernel
  | 6, _ => decide +kernel
  | 7, _ => decide +kernel
  | 8, _ => decide +kernel
  | 9, _ => decide +kernel
  | 10, _ => decide +kernel
  | 11, _ => decide +kernel
  | 12, _ => decide +kernel
  | c + 13, h => exact absurd h (by omega)
theorem zKey_o {M : zM} {i : Nat} (h : zKey M i < 1000000) : zKey M i / 10000 = M.2.2.1 ∧ zKey M i % 10000 = i := by
  unfold zKey at h ⊢
  by_cases hi : i < 10000
  · rw [if_pos hi] at h ⊢
    omega
  · rw [if_neg hi] at h
    omega
section ZST
variable {p : Program} {l : Launch} {e : Env} {R : Room} {s : State} {m : MethodId} {args : Array Value} {below : List Frame} {meth : Method} {c : Code} {Q : State → Prop} {E : zE} {g : Nat → Nat} {M : zM} {hin h h' : zMem} {pc pc' : Nat} {ls st ls' st' : List Value}
theorem zg_p (k : zGo p l e R s m args below meth c Q E M hin h pc' ls st') (hw : ∀ (H : Heap) (locs : List Loc) (la : Array Slot) (n k : Nat), LR la (zMx M) ls → W p l e R s m args below meth c H locs n k Q (F0 m pc' la st') → W p l e R s m args below meth c H locs n k Q (F0 m pc la st)) : zGo p l e R s m args below meth c Q E M hin h pc ls st :=
  fun H locs la hR hl hS => hw H locs la _ _ hl (k H locs la hR hl hS)
/-- a write to one cell of ours -/
theorem HR.set {H H' : Heap} {a : Nat} (hR : HR E h H) (ha : E.2.1 ≤ a) (e1 : sz h' = sz h) (e2 : ∀ b, kd h' b = kd h b) (e3 : ∀ b, ln h' b = ln h b) (e4 : ∀ b, b ≠ a → gI h' b = gI h b ∧ gL h' b = gL h b ∧ gR h' b = gR h b) (z : H'.size = H.size) (o : ∀ q : Nat, q ≠ a → H'[q]? = H[q]?) (hat : va_at E.1 vwCl (a, cellE E h' a) H') : HR E h' H' := by
  obtain ⟨r1, r2, r3, r4, r5⟩ := hR
  refine ⟨by rw [z, e1]; exact r1, by rw [e1]; exact r2, fun b hb hbs => ?_, fun b hb => ?_, fun b hb => by rw [e2]; exact r5 b (by rw [← e1]; exact hb)⟩
  · rw [e1] at hbs
    refine ⟨?_, by rw [e2]; exact (r3 b hb hbs).2⟩
    by_cases q : b = a
    · subst q; exact hat
    · have h1 := (r3 b hb hbs).1
      have h2 : cellE E h' b = cellE E h b := by
        obtain ⟨q1, q2, q3⟩ := e4 b q
        unfold cellE fsO fvl
        rw [e2, e3, q1, q2, q3]
      rw [h2]
      exact h1.kept (o b q)
  · obtain ⟨q1, q2, q3⟩ := e4 b (by omega)
    rw [e2, e3, q1, q3]
    exact r4 b hb
/-- the written cell is ours -/
theorem HR.own {H : Heap} {a : Nat} (hR : HR E h H) (hC : CR E g s s.heap) (h1 : kd h a ≠ 0) (h2 : kd h a < 40) : E.2.1 ≤ a ∧ a < sz h ∧ va_at E.1 vwCl (a, cellE E h a) H := by
  obtain ⟨r1, r2, r3, r4, r5⟩ := hR
  have q1 : E.2.1 ≤ a := by
    rcases Nat.lt_or_ge a E.2.1 with q | q
    · have := (r4 a q).1
      rcases hC.1 a q with z | z | z | z <;> omega
    · exact q
  have q2 : a < sz h := by
    rcases Nat.lt_or_ge a (sz h) with q | q
    · exact q
    · exact absurd (r5 a q) h1
  exact ⟨q1, q2, (r3 a q1 q2).1⟩
theorem HR.cst {H : Heap} {a : Nat} (hR : HR E h H) (h2 : 40 ≤ kd h a) : a < E.2.1 ∧ kd E.2.2.2 a = kd h a ∧ ln E.2.2.2 a = ln h a ∧ gI E.2.2.2 a = gI h a ∧ gR E.2.2.2 a = gR h a := by
  obtain ⟨r1, r2, r3, r4, r5⟩ := hR
  have q1 : a < E.2.1 := by
    rcases Nat.lt_or_ge a E.2.1 with q | q
    · exact q
    · rcases Nat.lt_or_ge a (sz h) with z | z
      · have := (r3 a q z).2; omega
      · have := r5 a z; omega
  obtain ⟨z1, z2, z3, z4⟩ := r4 a q1
  exact ⟨q1, z1.symm, z2.symm, z3.symm, z4.symm⟩
theorem zP1 {H : Heap} {q : Nat × va_E} (h : va_at E.1 vwCl q H) : va_P E.1 vwCl [q] H := fun k x hx => by
  cases k with
  | zero => cases hx; exact h
  | succ k => simp at hx
theorem inb_in {i : Int32} {n : Nat} (h : inb i n = true) : vp_in i n := by
  unfold inb at h
  simp only [Bool.and_eq_true, decide_eq_true_eq] at h
  rintro (q | q)
  · exact absurd h.1 (Int32.not_le.mpr q)
  · omega
theorem inb_ns {i : Int32} {n : Nat} (h : inb i n = true) (cA : ClassId) (f : Nat → Value) : ¬ (i < 0 ∨ (arrV cA n f).slots.size ≤ i.toNatClampNeg) := by
  rw [arrV_size]
  exact inb_in h
theorem jmp_ok {off : Int} (h : 0 ≤ (pc : Int) + off) : (pc : Int) + off = ((jmp pc off : Nat) : Int) := by
  unfold jmp
  exact (Int.toNat_of_nonneg h).symm
/-- an int array is read -/
theorem zs_ial (hX : zX E g M p s m args meth c) {i : Int32} {a : Nat} (hd : decode (zCode M) pc = .ok (.iaload, 1)) (hk : kd h a = 20 ∨ kd h a = 40) (hi : inb i (ln h a) = true) (k : zGo p l e R s m args below meth c Q E M hin h (pc + 1) ls (.int (gI h a (ix i)) :: st)) : zGo p l e R s m args below meth c Q E M hin h pc ls (.int i :: .ref a :: st) := by
  obtain ⟨hx, hb, hml, hown, hts, hK, hC, hin1, hbs⟩ := hX
  intro H locs la hR hl hS
  rcases hk with hk | hk
  · obtain ⟨q1, q2, q3⟩ := hR.own (a := a) hC (by omega) (by omega)
    have eC : cellE E h a = .inl (E.2.2.1 20, ln h a, .inl (gI h a)) := by simp [cellE, hk]
    rw [eC] at q3
    exact va_iald hx hb hK (zP1 q3) 0 0 rfl rfl (inb_in hi) hd (k H locs la hR hl hS)
  · obtain ⟨q1, q2, q3, q4, q5⟩ := hR.cst (a := a) (by omega)
    have hT := hC.2.1 a q1 (by omega)
    rw [q3, q4] at hT
    exact va_ti hx hb hT hS (inb_in hi) rfl hd (k H locs la hR hl hS)
theorem zs_lal (hX : zX E g M p s m args meth c) {i : Int32} {a : Nat} (hd : decode (zCode M) pc = .ok (.laload, 1)) (hk : kd h a = 21) (hi : inb i (ln h a) = true) (k : zGo p l e R s m args below meth c Q E M hin h (pc + 1) ls (.long (gL h a (ix i)) :: st)) : zGo p l e R s m args below meth c Q E M hin h pc ls (.int i :: .ref a :: st) := by
  obtain ⟨hx, hb, hml, hown, hts, hK, hC, hin1, hbs⟩ := hX
  intro H locs la hR hl hS
  obtain ⟨q1, q2, q3⟩ := hR.own (a := a) hC (by omega) (by omega)
  have eC : cellE E h a = .inl (E.2.2.1 21, ln h a, .inr (.inl (gL h a))) := by simp [cellE, hk]
  rw [eC] at q3
  exact va_lald hx hb hK (zP1 q3) 0 1 rfl rfl (inb_in hi) hd (k H locs la hR hl hS)
theorem zs_bal (hX : zX E g M p s m args meth c) {i : Int32} {a : Nat} (hd : decode (zCode M) pc = .ok (.baload, 1)) (hk : kd h a = 22 ∨ kd h a = 23 ∨ kd h a = 42) (hi : inb i (ln h a) = true) (k : zGo p l e R s m args below meth c Q E M hin h (pc + 1) ls (.int (gI h a (ix i)) :: st)) : zGo p l e R s m args below meth c Q E M hin h pc ls (.int i :: .ref a :: st) := by
  obtain ⟨hx, hb, hml, hown, hts, hK, hC, hin1, hbs⟩ := hX
  intro H locs la hR hl hS
  rcases hk with hk | hk | hk
  · obtain ⟨q1, q2, q3⟩ := hR.own (a := a) hC (by omega) (by omega)
    have eC : cellE E h a = .inl (E.2.2.1 22, ln h a, .inl (gI h a)) := by simp [cellE, hk]
    rw [eC] at q3
    exact va_bald hx hb hK (zP1 q3) 0 2 rfl rfl (inb_in hi) hd (k H locs la hR hl hS)
  · obtain ⟨q1, q2, q3⟩ := hR.own (a := a) hC (by omega) (by omega)
    have eC : cellE E h a = .inl (E.2.2.1 23, ln h a, .inl (gI h a)) := by simp [cellE, hk]
    rw [eC] at q3
    exact va_zald hx hb hK (zP1 q3) 0 3 rfl rfl (inb_in hi) hd (k H locs la hR hl hS)
  · obtain ⟨q1, q2, q3, q4, q5⟩ := hR.cst (a := a) (by omega)
    have hT := hC.2.2.2.1 a q1 (by omega)
    rw [q3, q4] at hT
    exact va_tb hx hb hT hS (inb_in hi) rfl hd (k H locs la hR hl hS)
/-- the type of an array of references by its kind -/
def zTq (k : Nat) : FieldType := match k with
  | 24 => .object "DeedCourt$Shelf" | 25 => .object "DeedCourt$Field" | 26 => .object "DeedCourt$Deed" | 27 => .object "java/lang/String" | 28 => .array .long | _ => .array .int
theorem zTq_at {k : Nat} (h1 : 24 ≤ k) (h2 : k < 30) : (zTys E)[k - 20]? = some (E.2.2.1 k, zTq k) := by
  rcases (show k = 24 ∨ k = 25 ∨ k = 26 ∨ k = 27 ∨ k = 28 ∨ k = 29 by omega) with rfl | rfl | rfl | rfl | rfl | rfl <;> rfl
theorem zs_aal (hX : zX E g M p s m args meth c) {i : Int32} {a : Nat} (hd : decode (zCode M) pc = .ok (.aaload, 1)) (hk : 24 ≤ kd h a ∧ kd h a < 30) (hi : inb i (ln h a) = true) (k : zGo p l e R s m args below meth c Q E M hin h (pc + 1) ls (va_rf (gR h a (ix i)) :: st)) : zGo p l e R s m args below meth c Q E M hin h pc ls (.int i :: .ref a :: st) := by
  obtain ⟨hx, hb, hml, hown, hts, hK, hC, hin1, hbs⟩ := hX
  intro H locs la hR hl hS
  obtain ⟨q1, q2, q3⟩ := hR.own (a := a) hC (by omega) (by omega)
  have eC : cellE E h a = .inl (E.2.2.1 (kd h a), ln h a, .inr (.inr (.inr (.inr (gR h a))))) := by
    unfold cellE
    rw [if_neg (by omega), if_neg (by omega), if_pos (by omega)]
  rw [eC] at q3
  have hn := inb_in hi
  have hlt : i.toNatClampNeg < ln h a := Nat.not_le.mp fun q => hn (Or.inr q)
  have ht := hK.2 _ _ (zTq_at hk.1 hk.2)
  exact W.aald (v := va_rf (gR h a (ix i))) (ty := zTq (kd h a)) hx hb q3 (ht.1 _ (fun j => va_rf (gR h a j))) (by
    obtain ⟨k1, k2⟩ := hk
    rcases (show kd h a = 24 ∨ kd h a = 25 ∨ kd h a = 26 ∨ kd h a = 27 ∨ kd h a = 28 ∨ kd h a = 29 by omega) with q | q | q | q | q | q <;> rw [q] <;> rfl) (fun q => by cases q) (inb_ns hi _ _) (by show (arrV _ _ _).slots[_]? = _; rw [arrV_read _ _ hlt]; rfl) rfl rfl hd (k H locs la hR hl hS)
theorem zs_aln (hX : zX E g M p s m args meth c) {a : Nat} (hd : decode (zCode M) pc = .ok (.arraylength, 1)) (hk : 20 ≤ kd h a ∧ kd h a ≤ 42 ∧ ¬ kd h a = 41 ∧ ¬ (30 ≤ kd h a ∧ kd h a < 40)) (k : zGo p l e R s m args below meth c Q E M hin h (pc + 1) ls (.int (nI (ln h a)) :: st)) : zGo p l e R s m args below meth c Q E M hin h pc ls (.ref a :: st) := by
  obtain ⟨hx, hb, hml, hown, hts, hK, hC, hin1, hbs⟩ := hX
  intro H locs la hR hl hS
  have k2 := k H locs la hR hl hS
  obtain ⟨z1, z2, z3, z4⟩ := hk
  by_cases q : kd h a < 30
  · obtain ⟨q1, q2, q3⟩ := hR.own (a := a) hC (by omega) (by omega)
    unfold cellE at q3
    split at q3
    · rename_i r
      rcases r with r | r | r
      · rw [r] at q3; exact va_alen hx hb hK (zP1 q3) 0 0 rfl rfl rfl hd k2
      · rw [r] at q3; exact va_alen hx hb hK (zP1 q3) 0 2 rfl rfl rfl hd k2
      · rw [r] at q3; exact va_alen hx hb hK (zP1 q3) 0 3 rfl rfl rfl hd k2
    · split at q3
      · exact va_alen hx hb hK (zP1 q3) 0 1 rfl rfl rfl hd k2
      · split at q3
        · rename_i r
          exact va_alen hx hb hK (zP1 q3) 0 (kd h a - 20) rfl (zTq_at r q) rfl hd k2
        · omega
  · obtain ⟨q1, q2, q3, q4, q5⟩ := hR.cst (a := a) (by omega)
    rcases (show kd h a = 40 ∨ kd h a = 42 by omega) with r | r
    · obtain ⟨cell, h1, h2, h3, h4, h5, h6, h7⟩ := hC.2.1 a q1 (by omega)
      rw [q3] at h5
      exact W.alen hx hb (by rw [hS.2.1 a (Array.getElem?_eq_some_iff.mp h1).1 h7]; exact h1) h2 h5 rfl rfl hd k2
    · obtain ⟨cell, h1, h2, h3, h4, h5, h6, h7⟩ := hC.2.2.2.1 a q1 (by omega)
      rw [q3] at h5
      exact W.alen hx hb (by rw [hS.2.1 a (Array.getElem?_eq_some_iff.mp h1).1 h7]; exact h1) h2 h5 rfl rfl hd k2
/-- the words of a read or write -/
theorem sI_f {h : zMem} {a k : Nat} {v : Int32} : sz (sI h a k v) = sz h ∧ sl (sI h a k v) = sl h ∧ (∀ b, kd (sI h a k v) b = kd h b) ∧ (∀ b, ln (sI h a k v) b = ln h b) ∧ (∀ b, b ≠ a → gI (sI h a k v) b = gI h b ∧ gL (sI h a k v) b = gL h b ∧ gR (sI h a k v) b = gR h b) ∧ gI (sI h a k v) a = upd (gI h a) k v ∧ gL (sI h a k v) = gL h ∧ gR (sI h a k v) = gR h := by
  refine ⟨rfl, rfl, fun _ => rfl, fun _ => rfl, fun b hb => ⟨?_, rfl, rfl⟩, ?_, rfl, rfl⟩
  · funext j; simp [gI, sI, u2, hb]
  · funext j; simp [gI, sI, u2, upd]
theorem sL_f {h : zMem} {a k : Nat} {v : Int64} : sz (sL h a k v) = sz h ∧ sl (sL h a k v) = sl h ∧ (∀ b, kd (sL h a k v) b = kd h b) ∧ (∀ b, ln (sL h a k v) b = ln h b) ∧ (∀ b, b ≠ a → gI (sL h a k v) b = gI h b ∧ gL (sL h a k v) b = gL h b ∧ gR (sL h a k v) b = gR h b) ∧ gL (sL h a k v) a = vp_updL (gL h a) k v ∧ gI (sL h a k v) = gI h ∧ gR (sL h a k v) = gR h := by
  refine ⟨rfl, rfl, fun _ => rfl, fun _ => rfl, fun b hb => ⟨rfl, ?_, rfl⟩, ?_, rfl, rfl⟩
  · funext j; simp [gL, sL, u2, hb]
  · funext j; simp [gL, sL, u2, vp_updL]
theorem sR_f {h : zMem} {a k : Nat} {v : Option Nat} : sz (sR h a k v) = sz h ∧ sl (sR h a k v) = sl h ∧ (∀ b, kd (sR h a k v) b = kd h b) ∧ (∀ b, ln (sR h a k v) b = ln h b) ∧ (∀ b, b ≠ a → gI (sR h a k v) b = gI h b ∧ gL (sR h a k v) b = gL h b ∧ gR (sR h a k v) b = gR h b) ∧ gR (sR h a k v) a = va_up (gR h a) k v ∧ gI (sR h a k v) = gI h ∧ gL (sR h a k v) = gL h := by
  refine ⟨rfl, rfl, fun _ => rfl, fun _ => rfl, fun b hb => ⟨rfl, rfl, ?_⟩, ?_, rfl, rfl⟩
  · funext j; simp [gR, sR, u2, hb]
  · funext j; simp [gR, sR, u2, va_up]
theorem zs_ias (hX : zX E g M p s m args meth c) {i v : Int32} {a : Nat} (hd : decode (zCode M) pc = .ok (.iastore, 1)) (hk : kd h a = 20) (hi : inb i (ln h a) = true) (k : zGo p l e R s m args below meth c Q E M hin (sI h a (ix i) v) (pc + 1) ls st) : zGo p l e R s m args below meth c Q E M hin h pc ls (.int v :: .int i :: .ref a :: st) := by
  obtain ⟨hx, hb, hml, hown, hts, hK, hC, hin1, hbs⟩ := hX
  intro H locs la hR hl hS
  obtain ⟨q1, q2, q3⟩ := hR.own (a := a) hC (by omega) (by omega)
  obtain ⟨f1, f2, f3, f4, f5, f6, f7, f8⟩ := sI_f (h := h) (a := a) (k := ix i) (v := v)
  have eC : cellE E h a = .inl (E.2.2.1 20, ln h a, .inl (gI h a)) := by simp [cellE, hk]
  have e' : cellE E (sI h a (ix i) v) a = .inl (E.2.2.1 20, ln h a, .inl (upd (gI h a) (ix i) v)) := by simp only [cellE, f3, f4, f6, hk]; rfl
  rw [eC] at q3
  refine W.iast hx hb q3 ((hK.2 0 _ rfl).1 _ (fun j => .int (gI h a j))) (fun q => by cases q) (inb_ns hi _ _) rfl rfl hd fun H1 e1 z oq => ?_
  have hR' := hR.set q1 f1 f3 f4 f5 z oq (by
    rw [e']
    show H1[a]? = some (vp_cell _ _)
    rw [e1, vp_cell_i, vp_cell_i, arrV_store]
    congr 2
    funext q
    by_cases hq : q = ix i
    · subst hq; simp [updV, upd, ix]
    · simp only [updV, upd]; rw [if_neg (by exact hq), if_neg hq])
  have k2 := k H1 (locs ++ [⟨a, ix i⟩]) la hR' hl (hS.put z oq q1)
  rw [f1, f2] at k2; exact k2
theorem zs_las (hX : zX E g M p s m args meth c) {i : Int32} {v : Int64} {a : Nat} (hd : decode (zCode M) pc = .ok (.lastore, 1)) (hk : kd h a = 21) (hi : inb i (ln h a) = true) (k : zGo p l e R s m args below meth c Q E M hin (sL h a (ix i) v) (pc + 1) ls st) : zGo p l e R s m args below meth c Q E M hin h pc ls (.long v :: .int i :: .ref a :: st) := by
  obtain ⟨hx, hb, hml, hown, hts, hK, hC, hin1, hbs⟩ := hX
  intro H locs la hR hl hS
  obtain ⟨q1, q2, q3⟩ := hR.own (a := a) hC (by omega) (by omega)
  obtain ⟨f1, f2, f3, f4, f5, f6, f7, f8⟩ := sL_f (h := h) (a := a) (k := ix i) (v := v)
  have eC : cellE E h a = .inl (E.2.2.1 21, ln h a, .inr (.inl (gL h a))) := by simp [cellE, hk]
  have e' : cellE E (sL h a (ix i) v) a = .inl (E.2.2.1 21, ln h a, .inr (.inl (vp_updL (gL h a) (ix i) v))) := by simp only [cellE, f3, f4, f6, hk]; rfl
  rw [eC] at q3
  refine W.last hx hb q3 ((hK.2 1 _ rfl).1 _ (fun j => .long (gL h a j))) (fun q => by cases q) (inb_ns hi _ _) rfl rfl hd fun H1 e1 z oq => ?_
  have hR' := hR.set q1 f1 f3 f4 f5 z oq (by
    rw [e']
    show H1[a]? = some (vp_cell _ _)
    rw [e1, vp_cell_l, vp_cell_l, arrV_store]
    congr 2
    funext q
    by_cases hq : q = ix i
    · subst hq; simp [updV, vp_updL, ix]
    · simp only [updV, vp_updL]; rw [if_neg (by exact hq), if_neg hq])
  have k2 := k H1 (locs ++ [⟨a, ix i⟩]) la hR' hl (hS.put z oq q1)
  rw [f1, f2] at k2; exact k2
theorem zs_bas (hX : zX E g M p s m args meth c) {i v : Int32} {a : Nat} (hd : decode (zCode M) pc = .ok (.bastore, 1)) (hk : kd h a = 22 ∨ kd h a = 23) (hi : inb i (ln h a) = true) (k : zGo p l e R s m args below meth c Q E M hin (sI h a (ix i) (if kd h a = 22 then v.toInt8.toInt32 else v &&& 1)) (pc + 1) ls st) : zGo p l e R s m args below meth c Q E M hin h pc ls (.int v :: .int i :: .ref a :: st) := by
  obtain ⟨hx, hb, hml, hown, hts, hK, hC, hin1, hbs⟩ := hX
  intro H locs la hR hl hS
  obtain ⟨q1, q2, q3⟩ := hR.own (a := a) hC (by omega) (by omega)
  generalize hv : (if kd h a = 22 then v.toInt8.toInt32 else v &&& 1) = v' at k
  obtain ⟨f1, f2, f3, f4, f5, f6, f7, f8⟩ := sI_f (h := h) (a := a) (k := ix i) (v := v')
  have eC : cellE E h a = .inl (E.2.2.1 (kd h a), ln h a, .inl (gI h a)) := by rcases hk with hk | hk <;> simp [cellE, hk]
  have e' : cellE E (sI h a (ix i) v') a = .inl (E.2.2.1 (kd h a), ln h a, .inl (upd (gI h a) (ix i) v')) := by
    rcases hk with hk | hk
    · simp only [cellE, f3, f4, f6, hk]; rfl
    · simp only [cellE, f3, f4, f6, hk]; rfl
  rw [eC] at q3
  have fin : ∀ (H1 : Heap), H1[a]? = some ((vp_cell (E.2.2.1 (kd h a)) (ln h a, .inl (gI h a))).setSlot i.toNatClampNeg (.int v')) → H1.size = H.size → (∀ q : Nat, q ≠ a → H1[q]? = H[q]?) → W p l e R s m args below meth c H1 (locs ++ [⟨a, i.toNatClampNeg⟩]) (sz h - s.heap.size) (sl h - sl hin) Q (F0 m (pc + 1) la st) := by
    intro H1 e1 z oq
    have hR' := hR.set q1 f1 f3 f4 f5 z oq (by
      rw [e']
      show H1[a]? = some (vp_cell _ _)
      rw [e1, vp_cell_i, vp_cell_i, arrV_store]
      congr 2
      funext q
      by_cases hq : q = ix i
      · subst hq; simp [updV, upd, ix]
      · simp only [updV, upd]; rw [if_neg (by exact hq), if_neg hq])
    have k2 := k H1 (locs ++ [⟨a, ix i⟩]) la hR' hl (hS.put z oq q1)
    rw [f1, f2] at k2; exact k2
  rcases hk with hk | hk
  · rw [if_pos hk] at hv
    rw [hk] at q3 fin
    refine W.bast hx hb q3 ((hK.2 2 _ rfl).1 _ (fun j => .int (gI h a j))) (fun q => by cases q) (inb_ns hi _ _) rfl rfl hd fun H1 e1 z oq => fin H1 ?_ z oq
    rw [← hv]; exact e1
  · rw [if_neg (by omega)] at hv
    rw [hk] at q3 fin
    refine W.zast hx hb q3 ((hK.2 3 _ rfl).1 _ (fun j => .int (gI h a j))) (fun q => by cases q) (inb_ns hi _ _) rfl rfl hd fun H1 e1 z oq => fin H1 ?_ z oq
    rw [← hv]; exact e1
end ZST
