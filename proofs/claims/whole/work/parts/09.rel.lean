/-! how a typed memory stands for the JVM's heap -/
theorem zlk_mem {α β : Type} [BEq α] [LawfulBEq α] {l : List (α × β)} {k : α} {v : β} (h : l.lookup k = some v) : (k, v) ∈ l := by
  induction l with
  | nil => cases h
  | cons q l ih =>
    obtain ⟨a, b⟩ := q
    rw [List.lookup] at h
    split at h
    · rename_i e
      cases h
      rw [eq_of_beq e]
      exact List.mem_cons_self
    · exact List.mem_cons_of_mem _ (ih h)
/-- class numbers and places, the first cell that is ours, the arrays' classes by kind, the constants -/
abbrev zE : Type := va_G × Nat × (Nat → ClassId) × zMem
def zA (E : zE) : Nat → Prop := fun q => E.2.1 ≤ q
def zTys (E : zE) : List (ClassId × FieldType) := [(E.2.2.1 20, .int), (E.2.2.1 21, .long), (E.2.2.1 22, .byte), (E.2.2.1 23, .boolean), (E.2.2.1 24, .object "DeedCourt$Shelf"), (E.2.2.1 25, .object "DeedCourt$Field"), (E.2.2.1 26, .object "DeedCourt$Deed"), (E.2.2.1 27, .object "java/lang/String"), (E.2.2.1 28, .array .long), (E.2.2.1 29, .array .int)]
def zTb : List Jvm.Cond := lw_tbl.filter goodWord
theorem zTab_mem {p : Nat} {w : Jvm.Cond} (h : zTab p = some w) : w ∈ lw_tbl := by
  have h2 := List.mem_of_getElem? h
  unfold lw_tbl tables_1
  simp only [List.mem_append]
  split at h2
  · exact Or.inl h2
  · exact Or.inr (Or.inl h2)
  · exact Or.inr (Or.inr (Or.inl h2))
  · exact Or.inr (Or.inr (Or.inr (Or.inl h2)))
  · exact Or.inr (Or.inr (Or.inr (Or.inr (Or.inl h2))))
  · exact Or.inr (Or.inr (Or.inr (Or.inr (Or.inr (Or.inl h2)))))
  · exact Or.inr (Or.inr (Or.inr (Or.inr (Or.inr (Or.inr (Or.inl h2))))))
  · exact Or.inr (Or.inr (Or.inr (Or.inr (Or.inr (Or.inr (Or.inr (Or.inl h2)))))))
  · exact Or.inr (Or.inr (Or.inr (Or.inr (Or.inr (Or.inr (Or.inr (Or.inr (Or.inl h2))))))))
  · exact Or.inr (Or.inr (Or.inr (Or.inr (Or.inr (Or.inr (Or.inr (Or.inr (Or.inr h2))))))))
theorem zTb_of {p : Nat} {w : Jvm.Cond} (h : zTab p = some w) (hg : goodWord w = true) : w ∈ zTb := List.mem_filter.mpr ⟨zTab_mem h, hg⟩
def fsO (c : Nat) (h : zMem) (a : Nat) : List Value := (List.range (zSl c)).map (fun k => fvl (zFt c k) h a k)
def cellE (E : zE) (h : zMem) (a : Nat) : va_E :=
  if kd h a = 20 ∨ kd h a = 22 ∨ kd h a = 23 then .inl (E.2.2.1 (kd h a), ln h a, .inl (gI h a))
  else if kd h a = 21 then .inl (E.2.2.1 21, ln h a, .inr (.inl (gL h a)))
  else if 24 ≤ kd h a then .inl (E.2.2.1 (kd h a), ln h a, .inr (.inr (.inr (.inr (gR h a)))))
  else .inr (kd h a - 1, fsO (kd h a - 1) h a)
def HR (E : zE) (h : zMem) (H : Heap) : Prop :=
  H.size = sz h ∧ E.2.1 ≤ sz h ∧ (∀ a, E.2.1 ≤ a → a < sz h → va_at E.1 vwCl (a, cellE E h a) H ∧ kd h a < 40) ∧ (∀ a, a < E.2.1 → kd h a = kd E.2.2.2 a ∧ ln h a = ln E.2.2.2 a ∧ gI h a = gI E.2.2.2 a ∧ gR h a = gR E.2.2.2 a) ∧ ∀ a, sz h ≤ a → kd h a = 0
/-- two JVM classes' arrays of arrays -/
def zAOA (ty : FieldType) (U : State) : Prop := (Cond.arrayOver (.array ty)).before #[] U = true
theorem zAOA.spec {t : FieldType} {u : State} (h : zAOA t u) : ∃ comp c k, u.vm.findClass (FieldType.array t).toString = some comp ∧ (u.vm.classes.findIdx? fun (x : Class) => match x.kind with | .array component _ => component == comp | _ => false) = some c ∧ u.vm.classes[c]? = some k ∧ (∃ q, k.kind = .array q (.array t)) ∧ u.vm.findClass ("[" ++ (FieldType.array t).toString) = some c := by
  unfold zAOA Cond.before Cond.holds at h
  simp only [Cond.value] at h
  cases hc : u.vm.findClass (FieldType.array t).toString with
  | none => simp [hc] at h
  | some comp =>
    rw [hc, Option.bind_some] at h
    cases hi : (u.vm.classes.findIdx? fun (x : Class) => match x.kind with | .array component _ => component == comp | _ => false) with
    | none =>
      have h2 := (congrArg (fun o : Option Nat => (o.bind (fun c => (u.vm.classes[c]?).map fun (k : Class) => match k.kind with | .array _ ty => decide (ty = FieldType.array t) && decide (u.vm.findClass ("[" ++ (FieldType.array t).toString) = some c) | _ => false) == some true)) hi).symm.trans h
      simp at h2
    | some c =>
      have h2 := (congrArg (fun o : Option Nat => (o.bind (fun c => (u.vm.classes[c]?).map fun (k : Class) => match k.kind with | .array _ ty => decide (ty = FieldType.array t) && decide (u.vm.findClass ("[" ++ (FieldType.array t).toString) = some c) | _ => false) == some true)) hi).symm.trans h
      rw [Option.bind_some] at h2
      cases hk : u.vm.classes[c]? with
      | none => simp [hk] at h2
      | some k =>
        rw [hk] at h2
        cases hkk : k.kind with
        | array q ty =>
          simp [hkk] at h2
          exact ⟨comp, c, k, rfl, hi, hk, ⟨q, by rw [hkk, h2.1]⟩, h2.2⟩
        | _ => simp [hkk] at h2
theorem zAOA.moved {t : FieldType} {u U : State} (hvm : u.vm.Alike U.vm) (h : zAOA t u) : zAOA t U := by
  obtain ⟨comp, c, k, h1, h2, h3, ⟨q, h4⟩, h5⟩ := zAOA.spec h
  obtain ⟨k', hk', he⟩ := hvm.2.2 _ _ h3
  have hi : (U.vm.classes.findIdx? fun (x : Class) => match x.kind with | .array component _ => component == comp | _ => false) = some c := by
    have e1 := va_idx_bare U.vm comp
    have e2 := va_idx_bare u.vm comp
    have hb : U.vm.bare = u.vm.bare := by first | exact hvm.bare_eq | exact hvm.bare_eq.symm
    rw [hb] at e1
    exact e1.symm.trans (e2.trans h2)
  have hkind : k'.kind = .array q (.array t) := by rw [he]; exact h4
  have f1 : U.vm.findClass (FieldType.array t).toString = some comp := by rw [hvm.findClass]; exact h1
  have f2 : U.vm.findClass ("[" ++ (FieldType.array t).toString) = some c := by rw [hvm.findClass]; exact h5
  unfold zAOA Cond.before Cond.holds
  simp only [Cond.value]
  rw [f1, Option.bind_some]
  refine (congrArg (fun o : Option Nat => (o.bind (fun c => (U.vm.classes[c]?).map fun (k : Class) => match k.kind with | .array _ ty => decide (ty = FieldType.array t) && decide (U.vm.findClass ("[" ++ (FieldType.array t).toString) = some c) | _ => false) == some true)) hi).trans ?_
  simp [hk', hkind, f2]
/-- what is given of the constants, the statics and the texts -/
def CR (E : zE) (g : Nat → Nat) (U : State) (H : Heap) : Prop :=
  (∀ a, a < E.2.1 → kd E.2.2.2 a = 0 ∨ kd E.2.2.2 a = 40 ∨ kd E.2.2.2 a = 41 ∨ kd E.2.2.2 a = 42) ∧
  (∀ a, a < E.2.1 → kd E.2.2.2 a = 40 → va_T .int a (ln E.2.2.2 a) (fun j => .int (gI E.2.2.2 a j)) (zA E) U H) ∧
  (∀ a, a < E.2.1 → kd E.2.2.2 a = 41 → va_O "java/lang/String" a (zA E) U H ∧ va_OF "java/lang/String" "coder" "B" (.int 0) a (zA E) U H ∧ va_OF "java/lang/String" "value" "[B" (va_rf (gR E.2.2.2 a 0)) a (zA E) U H) ∧
  (∀ a, a < E.2.1 → kd E.2.2.2 a = 42 → va_T .byte a (ln E.2.2.2 a) (fun j => .int (gI E.2.2.2 a j)) (zA E) U H) ∧
  va_Z "DeedCourt$Ways" "THREE" "[I" (.ref (g 0)) (zA E) U H ∧ va_Z "DeedCourt$Sets" "PAIRS" "[I" (.ref (g 1)) (zA E) U H ∧ va_Z "DeedCourtModel" "THREE" "[I" (.ref (g 2)) (zA E) U H ∧
  va_Z "java/lang/String" "COMPACT_STRINGS" "Z" (.int 1) (zA E) U H ∧ va_Z "jdk/internal/util/Preconditions" "SIOOBE_FORMATTER" "Ljava/util/function/BiFunction;" (va_rf (if g 11 = 0 then none else some (g 11 - 1))) (zA E) U H ∧
  (∀ e, e ∈ zTkT → vk_R (zOwn (e.1 / 10000)) (e.1 % 10000) (zTx.getD e.2.1 "") (g (100 + e.2.1)) U) ∧
  va_AO "DeedCourt$Shelf" U ∧ va_AO "DeedCourt$Field" U ∧ va_AO "DeedCourt$Deed" U ∧ va_AO "java/lang/String" U ∧ zAOA .long U ∧ zAOA .int U
theorem CR.go {E : zE} {g : Nat → Nat} {s U : State} {H0 H : Heap} (hW : s.WarmedH U.vm) (hS : ∀ q : Nat, q < H0.size → ¬ zA E q → H[q]? = H0[q]?) (h : CR E g s H0) : CR E g U H := by
  obtain ⟨a0, a1, a2, a3, b0, b1, b2, b3, b4, c1, d1, d2, d3, d4, e1, e2⟩ := h
  have hv := hW.alike
  exact ⟨a0, fun a q r => (va_T.moved hv (a1 a q r)).kept hS, fun a q r => ⟨(va_O.moved hv (a2 a q r).1).kept hS, (va_OF.moved hv (a2 a q r).2.1).kept hS, (va_OF.moved hv (a2 a q r).2.2).kept hS⟩, fun a q r => (va_T.moved hv (a3 a q r)).kept hS,
    (va_Z.moved hv b0).kept hS, (va_Z.moved hv b1).kept hS, (va_Z.moved hv b2).kept hS, (va_Z.moved hv b3).kept hS, (va_Z.moved hv b4).kept hS, fun e he => (c1 e he).warm hW, d1.moved hv, d2.moved hv, d3.moved hv, d4.moved hv, e1.moved hv, e2.moved hv⟩
theorem CR.same {E : zE} {g : Nat → Nat} {s U : State} {H : Heap} (hv : U.vm = s.vm) (h : CR E g s H) : CR E g U H := by
  obtain ⟨a0, a1, a2, a3, b0, b1, b2, b3, b4, c1, d1, d2, d3, d4, e1, e2⟩ := h
  have hv2 : s.vm.Alike U.vm := by rw [hv]; exact Vm.Alike.refl _
  have hS : ∀ q : Nat, q < H.size → ¬ zA E q → H[q]? = H[q]? := fun _ _ _ => rfl
  exact ⟨a0, fun a q r => va_T.moved hv2 (a1 a q r), fun a q r => ⟨va_O.moved hv2 (a2 a q r).1, va_OF.moved hv2 (a2 a q r).2.1, va_OF.moved hv2 (a2 a q r).2.2⟩, fun a q r => va_T.moved hv2 (a3 a q r),
    va_Z.moved hv2 b0, va_Z.moved hv2 b1, va_Z.moved hv2 b2, va_Z.moved hv2 b3, va_Z.moved hv2 b4, fun e he => (c1 e he).same hv, d1.moved hv2, d2.moved hv2, d3.moved hv2, d4.moved hv2, e1.moved hv2, e2.moved hv2⟩
/-! locals -/
def isV : Value → Bool
  | .retAddr _ => false
  | _ => true
def LR (la : Array Slot) (n : Nat) (ls : List Value) : Prop := la.size = n ∧ lv_wf la ∧ ls.length = n ∧ ∀ (i : Nat) (v : Value), ls[i]? = some v → isV v = true → la[i]? = some (Slot.val v)
def zAs (ls : List Value) : List (Nat × Value) := (List.range ls.length).filterMap (fun i => match ls[i]? with | some v => if isV v then some (i, v) else none | none => none)
theorem zAs_mem {ls : List Value} {i : Nat} {v : Value} (h : ls[i]? = some v) (hv : isV v = true) : (i, v) ∈ zAs ls := by
  refine List.mem_filterMap.mpr ⟨i, List.mem_range.mpr (List.getElem?_eq_some_iff.mp h).1, ?_⟩
  rw [h]
  simp [hv]
theorem LR.has {la : Array Slot} {n : Nat} {ls : List Value} (h : LR la n ls) : lv_has la n (zAs ls) := by
  refine ⟨h.1, h.2.1, fun q hq => ?_⟩
  obtain ⟨i, -, hi⟩ := List.mem_filterMap.mp hq
  cases hl : ls[i]? with
  | none => rw [hl] at hi; cases hi
  | some v =>
    rw [hl] at hi
    by_cases hv : isV v = true
    · simp [hv] at hi
      subst hi
      exact h.2.2.2 i v hl hv
    · simp [hv] at hi
theorem fx_V {v w : Value} (h : fx v = w) (hw : isV w = true) : v = w ∧ ¬ v.category = 2 := by
  subst h
  cases v <;> simp_all [fx, zU, isV, Value.category]
theorem sto1_len (ls : List Value) (i : Nat) (v : Value) : (sto1 ls i v).length = ls.length := by
  induction i generalizing ls with
  | zero => cases ls <;> simp [sto1]
  | succ i ih =>
    cases i with
    | zero =>
      cases ls with
      | nil => rfl
      | cons a r => cases r <;> simp [sto1]
    | succ i =>
      cases ls with
      | nil => rfl
      | cons a r => simp [sto1, ih]
theorem sto1_get (ls : List Value) (i : Nat) (v : Value) (j : Nat) (w : Value) (h : (sto1 ls i v)[j]? = some w) (hw : isV w = true) : (j = i ∧ w = v) ∨ (j ≠ i ∧ ls[j]? = some w ∧ ¬ (j + 1 = i ∧ w.category = 2)) := by
  induction i generalizing ls j with
  | zero =>
    cases ls with
    | nil => simp [sto1] at h
    | cons a r =>
      cases j with
      | zero => simp [sto1] at h; exact Or.inl ⟨rfl, h.symm⟩
      | succ j => simp [sto1] at h; exact Or.inr ⟨by omega, by simpa using h, by omega⟩
  | succ i ih =>
    cases i with
    | zero =>
      cases ls with
      | nil => simp [sto1] at h
      | cons a r =>
        cases j with
        | zero =>
          simp [sto1] at h
          obtain ⟨e1, e2⟩ := fx_V h hw
          subst e1
          exact Or.inr ⟨by omega, by simp, fun q => e2 q.2⟩
        | succ j =>
          cases r with
          | nil => simp [sto1] at h
          | cons b r =>
            cases j with
            | zero => simp [sto1] at h; exact Or.inl ⟨rfl, h.symm⟩
            | succ j => simp [sto1] at h; exact Or.inr ⟨by omega, by simpa using h, by omega⟩
    | succ i =>
      cases ls with
      | nil => simp [sto1] at h
      | cons a r =>
        cases j with
        | zero => simp [sto1] at h; exact Or.inr ⟨by omega, by simp [h], by omega⟩
        | succ j =>
          simp only [sto1, List.getElem?_cons_succ] at h
          rcases ih r j h with ⟨q1, q2⟩ | ⟨q1, q2, q3⟩
          · exact Or.inl ⟨by omega, q2⟩
          · exact Or.inr ⟨by omega, by simpa using q2, by omega⟩
theorem sto2_len (ls : List Value) (i : Nat) (v : Value) : (sto2 ls i v).length = ls.length := by
  induction i generalizing ls with
  | zero =>
    cases ls with
    | nil => rfl
    | cons a r => cases r <;> simp [sto2]
  | succ i ih =>
    cases i with
    | zero =>
      cases ls with
      | nil => rfl
      | cons a r =>
        cases r with
        | nil => simp [sto2]
        | cons b r => cases r <;> simp [sto2]
    | succ i =>
      cases ls with
      | nil => rfl
      | cons a r => simp [sto2, ih]
theorem sto2_get (ls : List Value) (i : Nat) (v : Value) (hi : i + 1 < ls.length) (j : Nat) (w : Value) (h : (sto2 ls i v)[j]? = some w) (hw : isV w = true) : (j = i ∧ w = v) ∨ (j ≠ i ∧ j ≠ i + 1 ∧ ls[j]? = some w ∧ ¬ (j + 1 = i ∧ w.category = 2)) := by
  induction i generalizing ls j with
  | zero =>
    cases ls with
    | nil => simp [sto2] at h
    | cons a r =>
      cases r with
      | nil => simp at hi
      | cons b r =>
        cases j with
        | zero => simp [sto2] at h; exact Or.inl ⟨rfl, h.symm⟩
        | succ j =>
          cases j with
          | zero => simp [sto2] at h; subst h; cases hw
          | succ j => simp [sto2] at h; exact Or.inr ⟨by omega, by omega, by simpa using h, by omega⟩
  | succ i ih =>
    cases i with
    | zero =>
      cases ls with
      | nil => simp [sto2] at h
      | cons a r =>
        cases r with
        | nil => simp at hi
        | cons b r =>
          cases r with
          | nil => simp at hi
          | cons c r =>
            cases j with
            | zero =>
              simp [sto2] at h
              obtain ⟨e1, e2⟩ := fx_V h hw
              subst e1
              exact Or.inr ⟨by omega, by omega, by simp, fun q => e2 q.2⟩
            | succ j =>
              cases j with
              | zero => simp [sto2] at h; exact Or.inl ⟨rfl, h.symm⟩
              | succ j =>
                cases j with
                | zero => simp [sto2] at h; subst h; cases hw
                | succ j => simp [sto2] at h; exact Or.inr ⟨by omega, by omega, by simpa using h, by omega⟩
    | succ i =>
      cases ls with
      | nil => simp [sto2] at h
      | cons a r =>
        cases j with
        | zero => simp [sto2] at h; exact Or.inr ⟨by omega, by omega, by simp [h], by omega⟩
        | succ j =>
          simp only [sto2, List.getElem?_cons_succ] at h
          rcases ih r (by simpa using hi) j h with ⟨q1, q2⟩ | ⟨q1, q1', q2, q3⟩
          · exact Or.inl ⟨by omega, q2⟩
          · exact Or.inr ⟨by omega, by omega, by simpa using q2, by omega⟩
theorem LR.st1 {la : Array Slot} {n : Nat} {ls : List Value} {i : Nat} {v : Value} (h : LR la n ls) {la' : Array Slot} (h' : lv_has la' n ((i, v) :: (zAs ls).filter (fun q => !(q.1 == i) && !(q.1 + 1 == i && q.2.category == 2)))) : LR la' n (sto1 ls i v) := by
  refine ⟨h'.1, h'.2.1, (sto1_len _ _ _).trans h.2.2.1, fun j w hj hw => ?_⟩
  rcases sto1_get ls i v j w hj hw with ⟨rfl, rfl⟩ | ⟨q1, q2, q3⟩
  · exact h'.2.2 (j, w) List.mem_cons_self
  · refine h'.2.2 (j, w) (List.mem_cons_of_mem _ (List.mem_filter.mpr ⟨zAs_mem q2 hw, ?_⟩))
    simp only [Bool.and_eq_true, Bool.not_eq_true', beq_eq_false_iff_ne, ne_eq, Bool.and_eq_false_iff]
    refine ⟨q1, ?_⟩
    by_cases e : j + 1 = i
    · exact Or.inr (fun z => q3 ⟨e, z⟩)
    · exact Or.inl e
theorem LR.st2 {la : Array Slot} {n : Nat} {ls : List Value} {i : Nat} {v : Value} (h : LR la n ls) (hi : i + 1 < ls.length) {la' : Array Slot} (h' : lv_has la' n ((i, v) :: (zAs ls).filter (fun q => !(q.1 == i) && (!(q.1 == i + 1) && !(q.1 + 1 == i && q.2.category == 2))))) : LR la' n (sto2 ls i v) := by
  refine ⟨h'.1, h'.2.1, (sto2_len _ _ _).trans h.2.2.1, fun j w hj hw => ?_⟩
  rcases sto2_get ls i v hi j w hj hw with ⟨rfl, rfl⟩ | ⟨q1, q1', q2, q3⟩
  · exact h'.2.2 (j, w) List.mem_cons_self
  · refine h'.2.2 (j, w) (List.mem_cons_of_mem _ (List.mem_filter.mpr ⟨zAs_mem q2 hw, ?_⟩))
    simp only [Bool.and_eq_true, Bool.not_eq_true', beq_eq_false_iff_ne, ne_eq, Bool.and_eq_false_iff]
    refine ⟨q1, q1', ?_⟩
    by_cases e : j + 1 = i
    · exact Or.inr (fun z => q3 ⟨e, z⟩)
    · exact Or.inl e
theorem lcl_len (vs : List Value) : (lg_sl vs).length = (lcl vs).length := by
  induction vs with
  | nil => rfl
  | cons v vs ih =>
    simp only [lg_sl, List.flatMap_cons, List.length_append] at ih ⊢
    cases v <;> simp_all [lcl, Value.category] <;> omega
theorem lcl_get (vs : List Value) (i j : Nat) (w : Value) (h : (lcl vs)[j]? = some w) (hw : isV w = true) : (i + j, w) ∈ lv_args i vs := by
  induction vs generalizing i j with
  | nil => simp [lcl] at h
  | cons v vs ih =>
    have one : v.category = 1 → lcl (v :: vs) = v :: lcl vs → (i + j, w) ∈ lv_args i (v :: vs) := by
      intro hc e
      rw [e] at h
      rw [lv_args, if_neg (by omega)]
      cases j with
      | zero => simp at h; subst h; exact List.mem_cons_self
      | succ j =>
        refine List.mem_cons_of_mem _ ?_
        have := ih (i + 1) j (by simpa using h)
        rwa [show i + 1 + j = i + (j + 1) by omega] at this
    cases v with
    | long x =>
      rw [lv_args, if_pos (show (Value.long x).category = 2 from rfl)]
      cases j with
      | zero => simp [lcl] at h; subst h; exact List.mem_cons_self
      | succ j =>
        cases j with
        | zero => simp [lcl] at h; subst h; cases hw
        | succ j =>
          refine List.mem_cons_of_mem _ ?_
          have := ih (i + 2) j (by simpa [lcl] using h)
          rwa [show i + 2 + j = i + (j + 1 + 1) by omega] at this
    | double x =>
      rw [lv_args, if_pos (show (Value.double x).category = 2 from rfl)]
      cases j with
      | zero => simp [lcl] at h; subst h; exact List.mem_cons_self
      | succ j =>
        cases j with
        | zero => simp [lcl] at h; subst h; cases hw
        | succ j =>
          refine List.mem_cons_of_mem _ ?_
          have := ih (i + 2) j (by simpa [lcl] using h)
          rwa [show i + 2 + j = i + (j + 1 + 1) by omega] at this
    | int x => exact one rfl rfl
    | float x => exact one rfl rfl
    | null => exact one rfl rfl
    | ref x => exact one rfl rfl
    | retAddr x => exact one rfl rfl
theorem LR.entry {vs : List Value} {n : Nat} (h : (lcl vs).length ≤ n) : LR ((lg_sl vs ++ List.replicate (n - (lg_sl vs).length) Slot.unset).toArray) n (lcl vs ++ List.replicate (n - (lcl vs).length) zU) := by
  have e := lcl_len vs
  obtain ⟨h1, h2, h3⟩ := lv_entry vs (n := n) (by omega)
  refine ⟨h1, h2, by simp; omega, fun i v hi hV => ?_⟩
  by_cases q : i < (lcl vs).length
  · rw [List.getElem?_append_left q] at hi
    have := h3 _ (lcl_get vs 0 i v hi hV)
    simpa using this
  · rw [List.getElem?_append_right (by omega), List.getElem?_replicate] at hi
    split at hi
    · cases hi; cases hV
    · cases hi
