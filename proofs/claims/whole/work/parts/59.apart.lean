/-! what a run cannot touch: an object to which nothing leads -/
def nf (A : Nat) (l : List Value) : Prop := ∀ v : Value, v ∈ l → ¬ v = .ref A
def NI (A : Nat) (h : zMem) : Prop := A < sz h ∧ ∀ b k : Nat, ¬ gR h b k = some A
def NS (A : Nat) (h h' : zMem) : Prop := (∀ b : Nat, b < sz h → kd h' b = kd h b ∧ ln h' b = ln h b) ∧ sz h ≤ sz h' ∧ ∀ k : Nat, gI h' A k = gI h A k ∧ gL h' A k = gL h A k
def gok (g : Nat → Nat) (A : Nat) : Prop := (∀ i : Nat, ¬ i = 11 → ¬ g i = A) ∧ ¬ g 11 = A + 1
section ZNI
variable {g : Nat → Nat} {A a k n : Nat} {h h' h'' : zMem} {l : List Value} {v : Value}
theorem nf_c : nf A (v :: l) ↔ ¬ v = .ref A ∧ nf A l := ⟨fun x => ⟨x v List.mem_cons_self, fun w hw => x w (List.mem_cons_of_mem _ hw)⟩, fun x w hw => by
  rcases List.mem_cons.1 hw with e | e
  · rw [e]; exact x.1
  · exact x.2 w e⟩
theorem nf_fx (hv : ¬ v = .ref A) : ¬ fx v = .ref A := by
  cases v <;> first | exact hv | (intro z; cases z)
theorem nf_U : ¬ zU = .ref A := fun z => by cases z
theorem nf_s1 : ∀ (l : List Value) (j : Nat), nf A l → ¬ v = .ref A → nf A (sto1 l j v)
  | [], _, _, _ => fun w hw => by cases hw
  | _ :: r, 0, hl, hv => nf_c.2 ⟨hv, (nf_c.1 hl).2⟩
  | [a], 1, hl, hv => nf_c.2 ⟨nf_fx (nf_c.1 hl).1, fun w hw => by cases hw⟩
  | a :: b :: r, 1, hl, hv => nf_c.2 ⟨nf_fx (nf_c.1 hl).1, nf_c.2 ⟨hv, (nf_c.1 (nf_c.1 hl).2).2⟩⟩
  | a :: r, i + 2, hl, hv => nf_c.2 ⟨(nf_c.1 hl).1, nf_s1 r (i + 1) (nf_c.1 hl).2 hv⟩
theorem nf_s2 : ∀ (l : List Value) (j : Nat), nf A l → ¬ v = .ref A → nf A (sto2 l j v)
  | [], _, _, _ => fun w hw => by cases hw
  | [a], 0, hl, hv => nf_c.2 ⟨hv, fun w hw => by cases hw⟩
  | a :: b :: r, 0, hl, hv => nf_c.2 ⟨hv, nf_c.2 ⟨nf_U, (nf_c.1 (nf_c.1 hl).2).2⟩⟩
  | [a], 1, hl, hv => nf_c.2 ⟨nf_fx (nf_c.1 hl).1, fun w hw => by cases hw⟩
  | [a, b], 1, hl, hv => nf_c.2 ⟨nf_fx (nf_c.1 hl).1, (nf_c.1 hl).2⟩
  | a :: b :: c :: r, 1, hl, hv => nf_c.2 ⟨nf_fx (nf_c.1 hl).1, nf_c.2 ⟨hv, nf_c.2 ⟨nf_U, (nf_c.1 (nf_c.1 (nf_c.1 hl).2).2).2⟩⟩⟩
  | a :: r, i + 2, hl, hv => nf_c.2 ⟨(nf_c.1 hl).1, nf_s2 r (i + 1) (nf_c.1 hl).2 hv⟩
theorem nf_get {i : Nat} (hl : nf A l) (e : l[i]? = some v) : ¬ v = .ref A := hl v (List.mem_of_getElem? e)
theorem nf_va {o : Option Nat} (ho : ¬ o = some A) : ¬ va_rf o = .ref A := by
  cases o with
  | none => intro z; cases z
  | some b =>
    intro z
    have z : Value.ref b = .ref A := z
    cases z
    exact ho rfl
theorem nf_i {x : Int32} : ¬ Value.int x = .ref A := fun z => by cases z
theorem nf_l {x : Int64} : ¬ Value.long x = .ref A := fun z => by cases z
theorem nf_nu : ¬ Value.null = .ref A := fun z => by cases z
theorem nf_r (e : ¬ a = A) : ¬ Value.ref a = .ref A := fun z => by cases z; exact e rfl
theorem nf_r' (e : ¬ Value.ref a = .ref A) : ¬ a = A := fun z => e (by rw [z])
theorem NS.rf : NS A h h := ⟨fun _ _ => ⟨rfl, rfl⟩, Nat.le_refl _, fun _ => ⟨rfl, rfl⟩⟩
theorem NS.tr (x : NS A h h') (y : NS A h' h'') : NS A h h'' := ⟨fun b hb => ⟨((y.1 b (Nat.lt_of_lt_of_le hb x.2.1)).1).trans (x.1 b hb).1, ((y.1 b (Nat.lt_of_lt_of_le hb x.2.1)).2).trans (x.1 b hb).2⟩, Nat.le_trans x.2.1 y.2.1, fun k => ⟨(y.2.2 k).1.trans (x.2.2 k).1, (y.2.2 k).2.trans (x.2.2 k).2⟩⟩
theorem NS.I {x : Int32} (e : ¬ a = A) : NS A h (sI h a k x) := ⟨fun _ _ => ⟨rfl, rfl⟩, Nat.le_refl _, fun j => ⟨a_Ia (fun z => e z.symm), rfl⟩⟩
theorem NS.L {x : Int64} (e : ¬ a = A) : NS A h (sL h a k x) := ⟨fun _ _ => ⟨rfl, rfl⟩, Nat.le_refl _, fun j => ⟨rfl, a_La (fun z => e z.symm)⟩⟩
theorem NS.R {x : Option Nat} : NS A h (sR h a k x) := ⟨fun _ _ => ⟨rfl, rfl⟩, Nat.le_refl _, fun j => ⟨rfl, rfl⟩⟩
theorem NI.I {x : Int32} (i : NI A h) : NI A (sI h a k x) := i
theorem NI.L {x : Int64} (i : NI A h) : NI A (sL h a k x) := i
theorem NI.R {x : Option Nat} (i : NI A h) (e : ¬ x = some A) : NI A (sR h a k x) := ⟨i.1, fun b j => by
  rw [y_gR_sR]
  split
  · exact e
  · exact i.2 b j⟩
theorem NI.N {K m w : Nat} (i : NI A h) : NI A (nw h K m w) ∧ NS A h (nw h K m w) := by
  obtain ⟨i1, i2⟩ := i
  refine ⟨⟨by rw [y_sz_nw]; omega, fun b j => ?_⟩, fun b hb => ⟨?_, ?_⟩, by rw [y_sz_nw]; omega, fun j => ⟨?_, ?_⟩⟩
  · rw [y_gR_nw]
    split
    · intro z; cases z
    · exact i2 b j
  · rw [y_kd_nw, if_neg (by omega)]
  · rw [y_ln_nw, if_neg (by omega)]
  · rw [y_gI_nw, if_neg (by omega)]
  · rw [y_gL_nw, if_neg (by omega)]
theorem NI.M {K m q w : Nat} (i : NI A h) : NI A (nwM h K q m w) ∧ NS A h (nwM h K q m w) := by
  obtain ⟨i1, i2⟩ := i
  refine ⟨⟨?_, fun b j => ?_⟩, fun b hb => ⟨?_, ?_⟩, ?_, fun j => ⟨?_, ?_⟩⟩
  · show A < sz h + 1 + m
    omega
  · show ¬ (if b = sz h then (if j < m then some (sz h + 1 + j) else none) else if sz h < b ∧ b ≤ sz h + m then none else gR h b j) = some A
    split
    · split
      · intro z
        have := Option.some.inj z
        omega
      · intro z; cases z
    · split
      · intro z; cases z
      · exact i2 b j
  · show (if b = sz h then K else if sz h < b ∧ b ≤ sz h + m then q else kd h b) = kd h b
    rw [if_neg (by omega), if_neg (by omega)]
  · show (if b = sz h then m else if sz h < b ∧ b ≤ sz h + m then w else ln h b) = ln h b
    rw [if_neg (by omega), if_neg (by omega)]
  · show sz h ≤ sz h + 1 + m
    omega
  · show (if sz h ≤ A ∧ A ≤ sz h + m then 0 else gI h A j) = gI h A j
    rw [if_neg (by omega)]
  · show (if sz h ≤ A ∧ A ≤ sz h + m then 0 else gL h A j) = gL h A j
    rw [if_neg (by omega)]
theorem stp_ni {M : zM} {i : Instr} {n pc pc' : Nat} {ls st ls' st' : List Value} {h h' : zMem} (gk : gok g A) (hs : stp g M i n pc ls st h = some (pc', ls', st', h')) (hh : NI A h) (hl : nf A ls) (h0 : nf A st) : NI A h' ∧ nf A ls' ∧ nf A st' ∧ NS A h h' := by
  cases i with
  | iconst v =>
    simp only [stp, goT] at hs
    split at hs
    · cases hs; exact ⟨hh, hl, nf_c.2 ⟨nf_i, h0⟩, NS.rf⟩
    · cases hs
  | bipush v =>
    simp only [stp, goT] at hs
    split at hs
    · cases hs; exact ⟨hh, hl, nf_c.2 ⟨nf_i, h0⟩, NS.rf⟩
    · cases hs
  | sipush v =>
    simp only [stp, goT] at hs
    split at hs
    · cases hs; exact ⟨hh, hl, nf_c.2 ⟨nf_i, h0⟩, NS.rf⟩
    · cases hs
  | lconst v =>
    simp only [stp, goT] at hs
    split at hs
    · cases hs; exact ⟨hh, hl, nf_c.2 ⟨nf_l, h0⟩, NS.rf⟩
    · cases hs
  | aconst_null  =>
    simp only [stp, goT] at hs
    split at hs
    · cases hs; exact ⟨hh, hl, nf_c.2 ⟨nf_nu, h0⟩, NS.rf⟩
    · cases hs
  | iadd =>
    obtain ⟨x, y, r, rfl, rfl, rfl, rfl, rfl, rfl⟩ := iv_II hs
    all_goals exact ⟨hh, hl, nf_c.2 ⟨nf_i, (nf_c.1 (nf_c.1 h0).2).2⟩, NS.rf⟩
  | isub =>
    obtain ⟨x, y, r, rfl, rfl, rfl, rfl, rfl, rfl⟩ := iv_II hs
    all_goals exact ⟨hh, hl, nf_c.2 ⟨nf_i, (nf_c.1 (nf_c.1 h0).2).2⟩, NS.rf⟩
  | imul =>
    obtain ⟨x, y, r, rfl, rfl, rfl, rfl, rfl, rfl⟩ := iv_II hs
    all_goals exact ⟨hh, hl, nf_c.2 ⟨nf_i, (nf_c.1 (nf_c.1 h0).2).2⟩, NS.rf⟩
  | iand =>
    obtain ⟨x, y, r, rfl, rfl, rfl, rfl, rfl, rfl⟩ := iv_II hs
    all_goals exact ⟨hh, hl, nf_c.2 ⟨nf_i, (nf_c.1 (nf_c.1 h0).2).2⟩, NS.rf⟩
  | ior =>
    obtain ⟨x, y, r, rfl, rfl, rfl, rfl, rfl, rfl⟩ := iv_II hs
    all_goals exact ⟨hh, hl, nf_c.2 ⟨nf_i, (nf_c.1 (nf_c.1 h0).2).2⟩, NS.rf⟩
  | ixor =>
    obtain ⟨x, y, r, rfl, rfl, rfl, rfl, rfl, rfl⟩ := iv_II hs
    all_goals exact ⟨hh, hl, nf_c.2 ⟨nf_i, (nf_c.1 (nf_c.1 h0).2).2⟩, NS.rf⟩
  | ishl =>
    obtain ⟨x, y, r, rfl, rfl, rfl, rfl, rfl, rfl⟩ := iv_II hs
    all_goals exact ⟨hh, hl, nf_c.2 ⟨nf_i, (nf_c.1 (nf_c.1 h0).2).2⟩, NS.rf⟩
  | ishr =>
    obtain ⟨x, y, r, rfl, rfl, rfl, rfl, rfl, rfl⟩ := iv_II hs
    all_goals exact ⟨hh, hl, nf_c.2 ⟨nf_i, (nf_c.1 (nf_c.1 h0).2).2⟩, NS.rf⟩
  | iushr =>
    obtain ⟨x, y, r, rfl, rfl, rfl, rfl, rfl, rfl⟩ := iv_II hs
    all_goals exact ⟨hh, hl, nf_c.2 ⟨nf_i, (nf_c.1 (nf_c.1 h0).2).2⟩, NS.rf⟩
  | idiv =>
    obtain ⟨x, y, r, rfl, rfl, hy, rfl, rfl, rfl, rfl⟩ := iv_Div hs
    all_goals exact ⟨hh, hl, nf_c.2 ⟨nf_i, (nf_c.1 (nf_c.1 h0).2).2⟩, NS.rf⟩
  | irem =>
    obtain ⟨x, y, r, rfl, rfl, hy, rfl, rfl, rfl, rfl⟩ := iv_Div hs
    all_goals exact ⟨hh, hl, nf_c.2 ⟨nf_i, (nf_c.1 (nf_c.1 h0).2).2⟩, NS.rf⟩
  | ladd =>
    obtain ⟨x, y, r, rfl, rfl, rfl, rfl, rfl, rfl⟩ := iv_LL hs
    all_goals exact ⟨hh, hl, nf_c.2 ⟨nf_l, (nf_c.1 (nf_c.1 h0).2).2⟩, NS.rf⟩
  | lsub =>
    obtain ⟨x, y, r, rfl, rfl, rfl, rfl, rfl, rfl⟩ := iv_LL hs
    all_goals exact ⟨hh, hl, nf_c.2 ⟨nf_l, (nf_c.1 (nf_c.1 h0).2).2⟩, NS.rf⟩
  | lmul =>
    obtain ⟨x, y, r, rfl, rfl, rfl, rfl, rfl, rfl⟩ := iv_LL hs
    all_goals exact ⟨hh, hl, nf_c.2 ⟨nf_l, (nf_c.1 (nf_c.1 h0).2).2⟩, NS.rf⟩
  | land =>
    obtain ⟨x, y, r, rfl, rfl, rfl, rfl, rfl, rfl⟩ := iv_LL hs
    all_goals exact ⟨hh, hl, nf_c.2 ⟨nf_l, (nf_c.1 (nf_c.1 h0).2).2⟩, NS.rf⟩
  | lor =>
    obtain ⟨x, y, r, rfl, rfl, rfl, rfl, rfl, rfl⟩ := iv_LL hs
    all_goals exact ⟨hh, hl, nf_c.2 ⟨nf_l, (nf_c.1 (nf_c.1 h0).2).2⟩, NS.rf⟩
  | lxor =>
    obtain ⟨x, y, r, rfl, rfl, rfl, rfl, rfl, rfl⟩ := iv_LL hs
    all_goals exact ⟨hh, hl, nf_c.2 ⟨nf_l, (nf_c.1 (nf_c.1 h0).2).2⟩, NS.rf⟩
  | lshl =>
    obtain ⟨x, y, r, rfl, rfl, rfl, rfl, rfl, rfl⟩ := iv_LI hs
    all_goals exact ⟨hh, hl, nf_c.2 ⟨nf_l, (nf_c.1 (nf_c.1 h0).2).2⟩, NS.rf⟩
  | lshr =>
    obtain ⟨x, y, r, rfl, rfl, rfl, rfl, rfl, rfl⟩ := iv_LI hs
    all_goals exact ⟨hh, hl, nf_c.2 ⟨nf_l, (nf_c.1 (nf_c.1 h0).2).2⟩, NS.rf⟩
  | lushr =>
    obtain ⟨x, y, r, rfl, rfl, rfl, rfl, rfl, rfl⟩ := iv_LI hs
    all_goals exact ⟨hh, hl, nf_c.2 ⟨nf_l, (nf_c.1 (nf_c.1 h0).2).2⟩, NS.rf⟩
  | ineg =>
    obtain ⟨x, r, rfl, rfl, rfl, rfl, rfl, rfl⟩ := iv_I hs
    all_goals exact ⟨hh, hl, nf_c.2 ⟨nf_i, (nf_c.1 h0).2⟩, NS.rf⟩
  | i2b =>
    obtain ⟨x, r, rfl, rfl, rfl, rfl, rfl, rfl⟩ := iv_I hs
    all_goals exact ⟨hh, hl, nf_c.2 ⟨nf_i, (nf_c.1 h0).2⟩, NS.rf⟩
  | i2s =>
    obtain ⟨x, r, rfl, rfl, rfl, rfl, rfl, rfl⟩ := iv_I hs
    all_goals exact ⟨hh, hl, nf_c.2 ⟨nf_i, (nf_c.1 h0).2⟩, NS.rf⟩
  | i2c =>
    obtain ⟨x, r, rfl, rfl, rfl, rfl, rfl, rfl⟩ := iv_I hs
    all_goals exact ⟨hh, hl, nf_c.2 ⟨nf_i, (nf_c.1 h0).2⟩, NS.rf⟩
  | i2l =>
    obtain ⟨x, r, rfl, rfl, rfl, rfl, rfl, rfl⟩ := iv_I hs
    all_goals exact ⟨hh, hl, nf_c.2 ⟨nf_l, (nf_c.1 h0).2⟩, NS.rf⟩
  | lneg =>
    obtain ⟨x, r, rfl, rfl, rfl, rfl, rfl, rfl⟩ := iv_L hs
    all_goals exact ⟨hh, hl, nf_c.2 ⟨nf_l, (nf_c.1 h0).2⟩, NS.rf⟩
  | l2i =>
    obtain ⟨x, r, rfl, rfl, rfl, rfl, rfl, rfl⟩ := iv_L hs
    all_goals exact ⟨hh, hl, nf_c.2 ⟨nf_i, (nf_c.1 h0).2⟩, NS.rf⟩
  | lcmp =>
    simp only [stp, goT] at hs
    split at hs
    · split at hs
      · cases hs; exact ⟨hh, hl, nf_c.2 ⟨nf_i, (nf_c.1 (nf_c.1 h0).2).2⟩, NS.rf⟩
      · cases hs
    · cases hs
  | ifCond cd off =>
    obtain ⟨x, r, rfl, rfl, h1, rfl, rfl, rfl, rfl⟩ := iv_If hs
    all_goals exact ⟨hh, hl, (nf_c.1 h0).2, NS.rf⟩
  | if_icmp cd off =>
    obtain ⟨x, y, r, rfl, rfl, h1, rfl, rfl, rfl, rfl⟩ := iv_Icmp hs
    all_goals exact ⟨hh, hl, (nf_c.1 (nf_c.1 h0).2).2, NS.rf⟩
  | ifnull off =>
    obtain ⟨r, rfl, h1, rfl, rfl, rfl, ⟨rfl, rfl⟩ | ⟨a, rfl, rfl⟩⟩ := iv_Nul hs
    all_goals exact ⟨hh, hl, (nf_c.1 h0).2, NS.rf⟩
  | ifnonnull off =>
    obtain ⟨r, rfl, h1, rfl, rfl, rfl, ⟨rfl, rfl⟩ | ⟨a, rfl, rfl⟩⟩ := iv_Nul hs
    all_goals exact ⟨hh, hl, (nf_c.1 h0).2, NS.rf⟩
  | goto off =>
    simp only [stp, goT] at hs
    split at hs
    · cases hs; exact ⟨hh, hl, h0, NS.rf⟩
    · cases hs
  | iload j =>
    obtain ⟨x, hj, rfl, rfl, rfl, rfl, rfl⟩ := iv_ldI hs
    all_goals exact ⟨hh, hl, nf_c.2 ⟨nf_i, h0⟩, NS.rf⟩
  | iload_n j =>
    obtain ⟨x, hj, rfl, rfl, rfl, rfl, rfl⟩ := iv_ldI hs
    all_goals exact ⟨hh, hl, nf_c.2 ⟨nf_i, h0⟩, NS.rf⟩
  | lload j =>
    obtain ⟨x, hj, rfl, rfl, rfl, rfl, rfl⟩ := iv_ldL hs
    all_goals exact ⟨hh, hl, nf_c.2 ⟨nf_l, h0⟩, NS.rf⟩
  | lload_n j =>
    obtain ⟨x, hj, rfl, rfl, rfl, rfl, rfl⟩ := iv_ldL hs
    all_goals exact ⟨hh, hl, nf_c.2 ⟨nf_l, h0⟩, NS.rf⟩
  | aload j =>
    obtain ⟨v, hj, hv, rfl, rfl, rfl, rfl, rfl⟩ := iv_ldA hs
    all_goals exact ⟨hh, hl, nf_c.2 ⟨nf_get hl hj, h0⟩, NS.rf⟩
  | aload_n j =>
    obtain ⟨v, hj, hv, rfl, rfl, rfl, rfl, rfl⟩ := iv_ldA hs
    all_goals exact ⟨hh, hl, nf_c.2 ⟨nf_get hl hj, h0⟩, NS.rf⟩
  | istore j =>
    obtain ⟨x, r, rfl, rfl, hj, rfl, rfl, rfl, rfl⟩ := iv_stI hs
    all_goals exact ⟨hh, nf_s1 _ _ hl nf_i, (nf_c.1 h0).2, NS.rf⟩
  | istore_n j =>
    obtain ⟨x, r, rfl, rfl, hj, rfl, rfl, rfl, rfl⟩ := iv_stI hs
    all_goals exact ⟨hh, nf_s1 _ _ hl nf_i, (nf_c.1 h0).2, NS.rf⟩
  | lstore j =>
    obtain ⟨x, r, rfl, rfl, hj, rfl, rfl, rfl, rfl⟩ := iv_stL hs
    all_goals exact ⟨hh, nf_s2 _ _ hl nf_l, (nf_c.1 h0).2, NS.rf⟩
  | lstore_n j =>
    obtain ⟨x, r, rfl, rfl, hj, rfl, rfl, rfl, rfl⟩ := iv_stL hs
    all_goals exact ⟨hh, nf_s2 _ _ hl nf_l, (nf_c.1 h0).2, NS.rf⟩
  | astore j =>
    obtain ⟨v, r, rfl, hv, rfl, hj, rfl, rfl, rfl, rfl⟩ := iv_stA hs
    all_goals exact ⟨hh, nf_s1 _ _ hl (nf_c.1 h0).1, (nf_c.1 h0).2, NS.rf⟩
  | astore_n j =>
    obtain ⟨v, r, rfl, hv, rfl, hj, rfl, rfl, rfl, rfl⟩ := iv_stA hs
    all_goals exact ⟨hh, nf_s1 _ _ hl (nf_c.1 h0).1, (nf_c.1 h0).2, NS.rf⟩
  | iinc j cst =>
    obtain ⟨x, hj, rfl, rfl, rfl, rfl, rfl⟩ := iv_Inc hs
    all_goals exact ⟨hh, nf_s1 _ _ hl nf_i, h0, NS.rf⟩
  | iaload =>
    obtain ⟨i, a, r, rfl, rfl, hk, hi, rfl, rfl, rfl, rfl⟩ := iv_Ial hs
    all_goals exact ⟨hh, hl, nf_c.2 ⟨nf_i, (nf_c.1 (nf_c.1 h0).2).2⟩, NS.rf⟩
  | laload =>
    obtain ⟨i, a, r, rfl, rfl, hk, hi, rfl, rfl, rfl, rfl⟩ := iv_Lal hs
    all_goals exact ⟨hh, hl, nf_c.2 ⟨nf_l, (nf_c.1 (nf_c.1 h0).2).2⟩, NS.rf⟩
  | baload =>
    obtain ⟨i, a, r, rfl, rfl, hk, hi, rfl, rfl, rfl, rfl⟩ := iv_Bal hs
    all_goals exact ⟨hh, hl, nf_c.2 ⟨nf_i, (nf_c.1 (nf_c.1 h0).2).2⟩, NS.rf⟩
  | aaload =>
    obtain ⟨i, a, r, rfl, rfl, hk, hi, rfl, rfl, rfl, rfl⟩ := iv_Aal hs
    all_goals exact ⟨hh, hl, nf_c.2 ⟨nf_va (hh.2 _ _), (nf_c.1 (nf_c.1 h0).2).2⟩, NS.rf⟩
  | iastore =>
    obtain ⟨v, i, a, rfl, rfl, hk, hi, rfl, rfl, rfl⟩ := iv_Ias hs
    have q := (nf_c.1 (nf_c.1 h0).2).2
    all_goals exact ⟨hh.I, hl, (nf_c.1 q).2, NS.I (nf_r' (nf_c.1 q).1)⟩
  | lastore =>
    obtain ⟨v, i, a, rfl, rfl, hk, hi, rfl, rfl, rfl⟩ := iv_Las hs
    have q := (nf_c.1 (nf_c.1 h0).2).2
    all_goals exact ⟨hh.L, hl, (nf_c.1 q).2, NS.L (nf_r' (nf_c.1 q).1)⟩
  | bastore =>
    obtain ⟨v, i, a, rfl, rfl, hk, hi, rfl, rfl, rfl⟩ := iv_Bas hs
    have q := (nf_c.1 (nf_c.1 h0).2).2
    all_goals exact ⟨hh.I, hl, (nf_c.1 q).2, NS.I (nf_r' (nf_c.1 q).1)⟩
  | aastore =>
    obtain ⟨v, i, a, rfl, rfl, hk, hv, hi, rfl, rfl, rfl⟩ := iv_Aas hs
    have q := (nf_c.1 (nf_c.1 h0).2).2
    all_goals exact ⟨hh.R (fun z => nf_r' (nf_c.1 h0).1 (Option.some.inj z)), hl, (nf_c.1 q).2, NS.R⟩
  | arraylength =>
    obtain ⟨a, r, rfl, rfl, hk, rfl, rfl, rfl, rfl⟩ := iv_Aln hs
    all_goals exact ⟨hh, hl, nf_c.2 ⟨nf_i, (nf_c.1 h0).2⟩, NS.rf⟩
  | pop =>
    obtain ⟨v, rfl, rfl, hv, rfl, rfl, rfl⟩ := iv_Pop hs
    all_goals exact ⟨hh, hl, (nf_c.1 h0).2, NS.rf⟩
  | dup =>
    obtain ⟨v, r, rfl, rfl, hv, rfl, rfl, rfl, rfl⟩ := iv_Dup hs
    all_goals exact ⟨hh, hl, nf_c.2 ⟨(nf_c.1 h0).1, h0⟩, NS.rf⟩
  | dup_x1 =>
    obtain ⟨v, w2, r, rfl, rfl, hv, hw, rfl, rfl, rfl, rfl⟩ := iv_Dx1 hs
    have q := nf_c.1 (nf_c.1 h0).2
    all_goals exact ⟨hh, hl, nf_c.2 ⟨(nf_c.1 h0).1, nf_c.2 ⟨q.1, nf_c.2 ⟨(nf_c.1 h0).1, q.2⟩⟩⟩, NS.rf⟩
  | dup2 =>
    obtain ⟨v, w2, r, rfl, rfl, hv, hw, rfl, rfl, rfl, rfl⟩ := iv_Du2 hs
    have q := nf_c.1 (nf_c.1 h0).2
    all_goals exact ⟨hh, hl, nf_c.2 ⟨(nf_c.1 h0).1, nf_c.2 ⟨q.1, h0⟩⟩, NS.rf⟩
  | tableswitch d lo hi offs =>
    obtain ⟨x, rfl, rfl, rfl, ⟨h1, h2, rfl⟩ | ⟨h1, h2, o, ho, h3, rfl⟩⟩ := iv_Tsw hs
    all_goals exact ⟨hh, hl, (nf_c.1 h0).2, NS.rf⟩
  | getfield idx =>
    obtain ⟨a, r, rfl, rfl, rfl, rfl, rfl, ⟨c2, k2, t, f, hl2, hk, rfl⟩ | ⟨q, hl2, hk, rfl⟩ | ⟨j, q, hl2, hk, rfl⟩⟩ := iv_Get hs
    · refine ⟨hh, hl, nf_c.2 ⟨?_, (nf_c.1 h0).2⟩, NS.rf⟩
      unfold fvl
      split
      · exact nf_l
      · exact nf_va (hh.2 _ _)
      · exact nf_i
    · exact ⟨hh, hl, nf_c.2 ⟨nf_va (hh.2 _ _), (nf_c.1 h0).2⟩, NS.rf⟩
    · exact ⟨hh, hl, nf_c.2 ⟨nf_i, (nf_c.1 h0).2⟩, NS.rf⟩
  | putfield idx =>
    obtain ⟨v, a, c2, k2, t, f, q, rfl, hl2, rfl, hk, hf, hv, rfl, rfl⟩ := iv_Put hs
    have q1 := (nf_c.1 h0).1
    have q2 := nf_c.1 (nf_c.1 h0).2
    have q3 := nf_r' q2.1
    unfold putV at hv
    repeat' split at hv
    all_goals first | (cases hv; exact ⟨hh, hl, q2.2, NS.I q3⟩) | (cases hv; exact ⟨hh, hl, q2.2, NS.L q3⟩) | (cases hv; exact ⟨hh.R (fun z => nf_r' q1 (Option.some.inj z)), hl, q2.2, NS.R⟩) | (cases hv; exact ⟨hh.R (fun z => by cases z), hl, q2.2, NS.R⟩) | cases hv
  | getstatic idx =>
    obtain ⟨j, q, v, hl2, rfl, rfl, rfl, rfl, rfl, hv⟩ := iv_Sta hs
    refine ⟨hh, hl, nf_c.2 ⟨?_, h0⟩, NS.rf⟩
    rcases hv with ⟨-, rfl⟩ | ⟨-, rfl⟩ | ⟨hj, rfl⟩
    · exact nf_i
    · refine nf_va ?_
      split
      · intro z; cases z
      · intro z
        have := Option.some.inj z
        have := gk.2
        omega
    · exact nf_r (gk.1 j (by omega))
  | ldc idx =>
    obtain ⟨rfl, rfl, rfl, rfl, ⟨j, q, hl2, rfl⟩ | ⟨v, q, hl2, rfl⟩⟩ := iv_Ldc hs
    · exact ⟨hh, hl, nf_c.2 ⟨nf_r (gk.1 _ (by omega)), h0⟩, NS.rf⟩
    · exact ⟨hh, hl, nf_c.2 ⟨nf_i, h0⟩, NS.rf⟩
  | ldc_w idx =>
    obtain ⟨rfl, rfl, rfl, rfl, ⟨j, q, hl2, rfl⟩ | ⟨v, q, hl2, rfl⟩⟩ := iv_Ldw hs
    · exact ⟨hh, hl, nf_c.2 ⟨nf_r (gk.1 _ (by omega)), h0⟩, NS.rf⟩
    · exact ⟨hh, hl, nf_c.2 ⟨nf_i, h0⟩, NS.rf⟩
  | ldc2_w idx =>
    obtain ⟨v, q, hl2, rfl, rfl, rfl, rfl, rfl⟩ := iv_Ld2 hs
    all_goals exact ⟨hh, hl, nf_c.2 ⟨nf_l, h0⟩, NS.rf⟩
  | new idx =>
    obtain ⟨c2, w, q, hl2, rfl, hw, rfl, rfl, rfl, rfl⟩ := iv_New hs
    exact ⟨hh.N.1, hl, nf_c.2 ⟨nf_r (by have := hh.1; omega), h0⟩, hh.N.2⟩
  | newarray t =>
    obtain ⟨x, r, rfl, rfl, ht, h1, h2, rfl, rfl, rfl, rfl⟩ := iv_Nwa hs
    exact ⟨hh.N.1, hl, nf_c.2 ⟨nf_r (by have := hh.1; omega), (nf_c.1 h0).2⟩, hh.N.2⟩
  | anewarray idx =>
    obtain ⟨x, r, q, w, rfl, hl2, rfl, h1, h2, rfl, rfl, rfl, rfl⟩ := iv_Anw hs
    exact ⟨hh.N.1, hl, nf_c.2 ⟨nf_r (by have := hh.1; omega), (nf_c.1 h0).2⟩, hh.N.2⟩
  | multianewarray idx d =>
    obtain ⟨w, x, r, q, q2, w2, rfl, hl2, rfl, rfl, h1, h2, h3, h4, rfl, rfl, rfl, rfl⟩ := iv_Mna hs
    exact ⟨hh.M.1, hl, nf_c.2 ⟨nf_r (by have := hh.1; omega), (nf_c.1 (nf_c.1 h0).2).2⟩, hh.M.2⟩
  | invokestatic idx =>
    obtain ⟨q, hl2, rfl, hs2⟩ := iv_Sts hs
    obtain ⟨x, dp, b, sp, a, rfl, u1, u2, u3, u4, rfl, rfl, hk⟩ := iv_Cpy hs2
    have q1 := nf_c.1 (nf_c.1 (nf_c.1 h0).2).2
    have q2 := (nf_c.1 (nf_c.1 q1.2).2).2
    have q3 := nf_r' q1.1
    rcases hk with ⟨-, -, rfl⟩ | ⟨-, -, rfl⟩
    · refine ⟨hh, hl, q2, fun _ _ => ⟨rfl, rfl⟩, Nat.le_refl _, fun j => ⟨?_, rfl⟩⟩
      rw [y_gI_cpI, if_neg (fun z => q3 z.1.symm)]
    · refine ⟨hh, hl, q2, fun _ _ => ⟨rfl, rfl⟩, Nat.le_refl _, fun j => ⟨rfl, ?_⟩⟩
      rw [y_gL_cpL, if_neg (fun z => q3 z.1.symm)]
  | invokespecial idx =>
    obtain ⟨q, a, hl2, rfl, rfl, u1, u2, rfl, rfl, rfl⟩ := iv_Spc hs
    all_goals exact ⟨hh, hl, (nf_c.1 h0).2, NS.rf⟩
  | _ => exact absurd hs (by intro z; cases z)
theorem nf_lcl : ∀ l : List Value, nf A l → nf A (lcl l)
  | [], h => h
  | v :: r, h => by
    have q := nf_c.1 h
    have ih := nf_lcl r q.2
    cases v <;> first | exact nf_c.2 ⟨q.1, nf_c.2 ⟨nf_U, ih⟩⟩ | exact nf_c.2 ⟨q.1, ih⟩
theorem nf_ap {l' : List Value} (h1 : nf A l) (h2 : nf A l') : nf A (l ++ l') := fun v hv => by
  rcases List.mem_append.1 hv with e | e
  · exact h1 v e
  · exact h2 v e
theorem nf_ent {N : zM} {as : List Value} (h : nf A as) : nf A (ent N as) := nf_ap (nf_lcl as h) (fun v hv => by
  rw [List.eq_of_mem_replicate hv]
  exact nf_U)
theorem rtn_nf {M : zM} {i : Instr} {n : Nat} {st : List Value} {r : Option Value} (hr : rtn M i n st = some r) (h0 : nf A st) : nf A r.toList := by
  rw [← rtn_iv hr]
  exact h0
theorem exec_ni (gk : gok g A) : ∀ {k : Nat} {M : zM} {pc : Nat} {ls st : List Value} {h h' : zMem} {r : Option Value}, exec g k M pc ls st h = some (r, h') → NI A h → nf A ls → nf A st → NI A h' ∧ nf A r.toList ∧ NS A h h' := by
  intro k
  induction k with
  | zero => intro M pc ls st h h' r hx; cases hx
  | succ k ih =>
    intro M pc ls st h h' r hx hh hl h0
    obtain ⟨i, n, hd, ⟨r, hr, e⟩ | ⟨hr, N, as, rest, r, h1, hc, h2, h3⟩ | ⟨hr, hc, pc', ls', st', h1, hs, h2⟩⟩ := exec_iv hx
    · cases e; exact ⟨hh, rtn_nf hr h0, NS.rf⟩
    · have sp : st = as.reverse ++ rest := by
        have : ∃ kk idx, opCal M kk idx n st = some (N, as, rest) := by
          cases i with
          | invokestatic idx =>
            simp only [cal, clSts] at hc
            split at hc
            · cases hc
            · exact ⟨_, _, hc⟩
          | invokevirtual idx =>
            simp only [cal, clVir] at hc
            split at hc
            · split at hc
              · split at hc
                · exact ⟨_, _, hc⟩
                · cases hc
              · cases hc
            · cases hc
          | invokespecial idx =>
            simp only [cal, clSpc] at hc
            split at hc
            · cases hc
            · split at hc
              · split at hc
                · exact ⟨_, _, hc⟩
                · cases hc
              · cases hc
          | _ => exact absurd hc (by intro z; cases z)
        obtain ⟨kk, idx, ho⟩ := this
        obtain ⟨_, _, _, _, _, _, _, _, _, q5, _⟩ := iv_Cal ho
        exact q5
      have ha : nf A as := fun v hv => h0 v (by rw [sp]; exact List.mem_append_left _ (List.mem_reverse.2 hv))
      have hb : nf A rest := fun v hv => h0 v (by rw [sp]; exact List.mem_append_right _ hv)
      obtain ⟨a1, a2, a3⟩ := ih h2 hh (nf_ent ha) (fun v hv => by cases hv)
      obtain ⟨b1, b2, b3⟩ := ih h3 a1 hl (nf_ap a2 hb)
      exact ⟨b1, b2, a3.tr b3⟩
    · obtain ⟨a1, a2, a3, a4⟩ := stp_ni gk hs hh hl h0
      obtain ⟨b1, b2, b3⟩ := ih h2 a1 a2 a3
      exact ⟨b1, b2, a4.tr b3⟩
theorem call_ni {N : zM} {as : List Value} {r : Option Value} (gk : gok g A) (hx : call g N as h = some (r, h')) (hh : NI A h) (ha : nf A as) : NI A h' ∧ NS A h h' := by
  obtain ⟨k, hk⟩ := ev_ex hx
  obtain ⟨a, b, c⟩ := exec_ni gk hk hh (nf_ent ha) (fun v hv => by cases hv)
  exact ⟨a, c⟩
end ZNI
