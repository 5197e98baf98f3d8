/-! equations of runs, an opcode each -/
def iShl (x y : Int32) : Int32 := x <<< (y &&& 31)
def iShr (x y : Int32) : Int32 := x >>> (y &&& 31)
def iUshr (x y : Int32) : Int32 := (x.toUInt32 >>> (y.toUInt32 &&& Int32.toUInt32 31)).toInt32
def iRem (x y : Int32) : Int32 := x - x / y * y
def lShl (x : Int64) (y : Int32) : Int64 := x <<< (y.toInt64 &&& 63)
def lShr (x : Int64) (y : Int32) : Int64 := x >>> (y.toInt64 &&& 63)
def lUshr (x : Int64) (y : Int32) : Int64 := (x.toUInt64 >>> (y.toInt64.toUInt64 &&& Int64.toUInt64 63)).toInt64
section ZEV
variable {g : Nat → Nat} {M : zM} {pc : Nat} {ls st : List Value} {h : zMem}
theorem e_if {c : ClassFile.Cond} {off : Int} {x : Int32} (t q : Nat) (hd : decode (zCode M) pc = .ok (.ifCond c off, 3)) (ht : (pc : Int) + off = (t : Int)) (hq : pc + 3 = q) : ev g M pc ls (.int x :: st) h = if cndI c x 0 = true then ev g M t ls st h else ev g M q ls st h := by
  have e : stp g M (.ifCond c off) 3 pc ls (.int x :: st) h = some (if cndI c x 0 then jmp pc off else pc + 3, ls, st, h) := if_pos ⟨rfl, by omega⟩
  rw [ev_go hd rfl rfl e, hq, show jmp pc off = t by unfold jmp; omega]
  split <;> rfl
theorem e_icmp {c : ClassFile.Cond} {off : Int} {x y : Int32} (t q : Nat) (hd : decode (zCode M) pc = .ok (.if_icmp c off, 3)) (ht : (pc : Int) + off = (t : Int)) (hq : pc + 3 = q) : ev g M pc ls (.int y :: .int x :: st) h = if cndI c x y = true then ev g M t ls st h else ev g M q ls st h := by
  have e : stp g M (.if_icmp c off) 3 pc ls (.int y :: .int x :: st) h = some (if cndI c x y then jmp pc off else pc + 3, ls, st, h) := if_pos ⟨rfl, by omega⟩
  rw [ev_go hd rfl rfl e, hq, show jmp pc off = t by unfold jmp; omega]
  split <;> rfl
theorem c_eq {x y : Int32} {α : Type} {a b : α} : (if cndI .eq x y = true then a else b) = if x = y then a else b := by simp [cndI]
theorem c_ne {x y : Int32} {α : Type} {a b : α} : (if cndI .ne x y = true then a else b) = if x = y then b else a := by by_cases q : x = y <;> simp [cndI, q]
theorem c_lt {x y : Int32} {α : Type} {a b : α} : (if cndI .lt x y = true then a else b) = if x < y then a else b := by simp [cndI]
theorem c_ge {x y : Int32} {α : Type} {a b : α} : (if cndI .ge x y = true then a else b) = if x < y then b else a := by
  by_cases q : x < y
  · rw [if_pos q, if_neg]; simp [cndI]; exact q
  · rw [if_neg q, if_pos]; simp [cndI]; exact Int32.not_lt.mp q
theorem c_gt {x y : Int32} {α : Type} {a b : α} : (if cndI .gt x y = true then a else b) = if y < x then a else b := by simp [cndI]
theorem c_le {x y : Int32} {α : Type} {a b : α} : (if cndI .le x y = true then a else b) = if y < x then b else a := by
  by_cases q : y < x
  · rw [if_pos q, if_neg]; simp [cndI]; exact q
  · rw [if_neg q, if_pos]; simp [cndI]; exact Int32.not_lt.mp q
theorem e_goto {off : Int} (t : Nat) (hd : decode (zCode M) pc = .ok (.goto off, 3)) (ht : (pc : Int) + off = (t : Int)) : ev g M pc ls st h = ev g M t ls st h := by
  have e : stp g M (.goto off) 3 pc ls st h = some (jmp pc off, ls, st, h) := if_pos ⟨rfl, by omega⟩
  rw [ev_go hd rfl rfl e, show jmp pc off = t by unfold jmp; omega]
theorem e_nul {off : Int} (t q : Nat) (hd : decode (zCode M) pc = .ok (.ifnull off, 3)) (ht : (pc : Int) + off = (t : Int)) (hq : pc + 3 = q) {o : Option Nat} : ev g M pc ls (va_rf o :: st) h = if o = none then ev g M t ls st h else ev g M q ls st h := by
  cases o with
  | none =>
    have e : stp g M (.ifnull off) 3 pc ls (va_rf none :: st) h = some (jmp pc off, ls, st, h) := if_pos ⟨rfl, by omega⟩
    rw [ev_go hd rfl rfl e, show jmp pc off = t by unfold jmp; omega]; rfl
  | some a =>
    have e : stp g M (.ifnull off) 3 pc ls (va_rf (some a) :: st) h = some (pc + 3, ls, st, h) := if_pos ⟨rfl, by omega⟩
    rw [ev_go hd rfl rfl e, hq]; rfl
theorem e_nnul {off : Int} (t q : Nat) (hd : decode (zCode M) pc = .ok (.ifnonnull off, 3)) (ht : (pc : Int) + off = (t : Int)) (hq : pc + 3 = q) {o : Option Nat} : ev g M pc ls (va_rf o :: st) h = if o = none then ev g M q ls st h else ev g M t ls st h := by
  cases o with
  | none =>
    have e : stp g M (.ifnonnull off) 3 pc ls (va_rf none :: st) h = some (pc + 3, ls, st, h) := if_pos ⟨rfl, by omega⟩
    rw [ev_go hd rfl rfl e, hq]; rfl
  | some a =>
    have e : stp g M (.ifnonnull off) 3 pc ls (va_rf (some a) :: st) h = some (jmp pc off, ls, st, h) := if_pos ⟨rfl, by omega⟩
    rw [ev_go hd rfl rfl e, show jmp pc off = t by unfold jmp; omega]; rfl
/-- a step that asks for something -/
theorem e_c {i : Instr} {n : Nat} {c : Prop} [Decidable c] {x : Nat × List Value × List Value × zMem} (hd : decode (zCode M) pc = .ok (i, n)) (hr : rtn M i n st = none) (hc : cal M i n st h = none) (hs : stp g M i n pc ls st h = if c then some x else none) : ev g M pc ls st h = if c then ev g M x.1 x.2.1 x.2.2.1 x.2.2.2 else none := by
  by_cases q : c
  · rw [if_pos q] at hs ⊢; exact ev_go hd hr hc hs
  · rw [if_neg q] at hs ⊢; exact ev_no hd hr hc hs
theorem ite_w {α : Type} {c d : Prop} [Decidable c] [Decidable d] {a b : α} (h : c ↔ d) : (if c then a else b) = if d then a else b := by
  by_cases q : d
  · rw [if_pos q, if_pos (h.mpr q)]
  · rw [if_neg q, if_neg (fun z => q (h.mp z))]
theorem e_ial {i : Int32} {a : Nat} (q : Nat) (hd : decode (zCode M) pc = .ok (.iaload, 1)) (hq : pc + 1 = q) : ev g M pc ls (.int i :: .ref a :: st) h = if (kd h a = 20 ∨ kd h a = 40) ∧ inb i (ln h a) = true then ev g M q ls (.int (gI h a (ix i)) :: st) h else none := by
  subst hq; exact (e_c hd rfl rfl rfl).trans (ite_w (by simp))
theorem e_lal {i : Int32} {a : Nat} (q : Nat) (hd : decode (zCode M) pc = .ok (.laload, 1)) (hq : pc + 1 = q) : ev g M pc ls (.int i :: .ref a :: st) h = if kd h a = 21 ∧ inb i (ln h a) = true then ev g M q ls (.long (gL h a (ix i)) :: st) h else none := by
  subst hq; exact (e_c hd rfl rfl rfl).trans (ite_w (by simp))
theorem e_bal {i : Int32} {a : Nat} (q : Nat) (hd : decode (zCode M) pc = .ok (.baload, 1)) (hq : pc + 1 = q) : ev g M pc ls (.int i :: .ref a :: st) h = if (kd h a = 22 ∨ kd h a = 23 ∨ kd h a = 42) ∧ inb i (ln h a) = true then ev g M q ls (.int (gI h a (ix i)) :: st) h else none := by
  subst hq; exact (e_c hd rfl rfl rfl).trans (ite_w (by simp))
theorem e_aal {i : Int32} {a : Nat} (q : Nat) (hd : decode (zCode M) pc = .ok (.aaload, 1)) (hq : pc + 1 = q) : ev g M pc ls (.int i :: .ref a :: st) h = if (24 ≤ kd h a ∧ kd h a < 30) ∧ inb i (ln h a) = true then ev g M q ls (va_rf (gR h a (ix i)) :: st) h else none := by
  subst hq; exact (e_c hd rfl rfl rfl).trans (ite_w (by simp))
theorem e_ias {v i : Int32} {a : Nat} (q : Nat) (hd : decode (zCode M) pc = .ok (.iastore, 1)) (hq : pc + 1 = q) : ev g M pc ls (.int v :: .int i :: .ref a :: st) h = if kd h a = 20 ∧ inb i (ln h a) = true then ev g M q ls st (sI h a (ix i) v) else none := by
  subst hq; exact (e_c hd rfl rfl rfl).trans (ite_w (by simp))
theorem e_las {v : Int64} {i : Int32} {a : Nat} (q : Nat) (hd : decode (zCode M) pc = .ok (.lastore, 1)) (hq : pc + 1 = q) : ev g M pc ls (.long v :: .int i :: .ref a :: st) h = if kd h a = 21 ∧ inb i (ln h a) = true then ev g M q ls st (sL h a (ix i) v) else none := by
  subst hq; exact (e_c hd rfl rfl rfl).trans (ite_w (by simp))
theorem e_bas {v i : Int32} {a : Nat} (q : Nat) (hd : decode (zCode M) pc = .ok (.bastore, 1)) (hq : pc + 1 = q) : ev g M pc ls (.int v :: .int i :: .ref a :: st) h = if (kd h a = 22 ∨ kd h a = 23) ∧ inb i (ln h a) = true then ev g M q ls st (sI h a (ix i) (if kd h a = 22 then v.toInt8.toInt32 else v &&& 1)) else none := by
  subst hq; exact (e_c hd rfl rfl rfl).trans (ite_w (by simp))
theorem e_aas {i : Int32} {a v : Nat} (q : Nat) (hd : decode (zCode M) pc = .ok (.aastore, 1)) (hq : pc + 1 = q) : ev g M pc ls (.ref v :: .int i :: .ref a :: st) h = if (24 ≤ kd h a ∧ kd h a < 28) ∧ kd h v = elK (kd h a) ∧ inb i (ln h a) = true then ev g M q ls st (sR h a (ix i) (some v)) else none := by
  subst hq; exact (e_c hd rfl rfl rfl).trans (ite_w (by simp))
theorem e_aln {a : Nat} (q : Nat) (hd : decode (zCode M) pc = .ok (.arraylength, 1)) (hq : pc + 1 = q) : ev g M pc ls (.ref a :: st) h = if 20 ≤ kd h a ∧ kd h a ≤ 42 ∧ ¬ kd h a = 41 ∧ ¬ (30 ≤ kd h a ∧ kd h a < 40) then ev g M q ls (.int (nI (ln h a)) :: st) h else none := by
  subst hq; exact (e_c hd rfl rfl rfl).trans (ite_w (by simp))
theorem e_div {x y : Int32} (q : Nat) (hd : decode (zCode M) pc = .ok (.idiv, 1)) (hq : pc + 1 = q) : ev g M pc ls (.int y :: .int x :: st) h = if y = 0 then none else ev g M q ls (.int (x / y) :: st) h := by
  subst hq
  refine (e_c hd rfl rfl rfl).trans ?_
  by_cases z : y = 0 <;> simp [z]
theorem e_rem {x y : Int32} (q : Nat) (hd : decode (zCode M) pc = .ok (.irem, 1)) (hq : pc + 1 = q) : ev g M pc ls (.int y :: .int x :: st) h = if y = 0 then none else ev g M q ls (.int (iRem x y) :: st) h := by
  subst hq
  refine (e_c hd rfl rfl rfl).trans ?_
  by_cases z : y = 0 <;> simp [z, iRem]
theorem e_getI {a idx c k t f : Nat} (q : Nat) {p : Nat} (hl : zFkT.lookup (zKey M idx) = some (c, k, t, f, p)) (ht : t = 0 ∨ t = 3) (hd : decode (zCode M) pc = .ok (.getfield idx, 3)) (hq : pc + 3 = q) (K : Nat) (hK : c + 1 = K) : ev g M pc ls (.ref a :: st) h = if kd h a = K then ev g M q ls (.int (gI h a k) :: st) h else none := by
  subst hq; subst hK
  have e : stp g M (.getfield idx) 3 pc ls (.ref a :: st) h = if kd h a = c + 1 then some (pc + 3, ls, .int (gI h a k) :: st, h) else none := by
    show opGet M idx 3 pc ls (.ref a :: st) h = _
    unfold opGet
    dsimp only
    rw [hl]
    rcases ht with rfl | rfl <;> simp [goT, fvl]
  exact e_c hd rfl rfl e
theorem e_getL {a idx c k f : Nat} (q : Nat) {p : Nat} (hl : zFkT.lookup (zKey M idx) = some (c, k, 1, f, p)) (hd : decode (zCode M) pc = .ok (.getfield idx, 3)) (hq : pc + 3 = q) (K : Nat) (hK : c + 1 = K) : ev g M pc ls (.ref a :: st) h = if kd h a = K then ev g M q ls (.long (gL h a k) :: st) h else none := by
  subst hq; subst hK
  have e : stp g M (.getfield idx) 3 pc ls (.ref a :: st) h = if kd h a = c + 1 then some (pc + 3, ls, .long (gL h a k) :: st, h) else none := by
    show opGet M idx 3 pc ls (.ref a :: st) h = _
    unfold opGet
    dsimp only
    rw [hl]
    simp [goT, fvl]
  exact e_c hd rfl rfl e
theorem e_getR {a idx c k f : Nat} (q : Nat) {p : Nat} (hl : zFkT.lookup (zKey M idx) = some (c, k, 2, f, p)) (hd : decode (zCode M) pc = .ok (.getfield idx, 3)) (hq : pc + 3 = q) (K : Nat) (hK : c + 1 = K) : ev g M pc ls (.ref a :: st) h = if kd h a = K then ev g M q ls (va_rf (gR h a k) :: st) h else none := by
  subst hq; subst hK
  have e : stp g M (.getfield idx) 3 pc ls (.ref a :: st) h = if kd h a = c + 1 then some (pc + 3, ls, va_rf (gR h a k) :: st, h) else none := by
    show opGet M idx 3 pc ls (.ref a :: st) h = _
    unfold opGet
    dsimp only
    rw [hl]
    simp [goT, fvl]
  exact e_c hd rfl rfl e
theorem e_getS0 {a idx : Nat} (q : Nat) {p : Nat} (hn : zFkT.lookup (zKey M idx) = none) (hl : zSkT.lookup (zKey M idx) = some (0, p)) (hd : decode (zCode M) pc = .ok (.getfield idx, 3)) (hq : pc + 3 = q) : ev g M pc ls (.ref a :: st) h = if kd h a = 41 then ev g M q ls (va_rf (gR h a 0) :: st) h else none := by
  subst hq
  have e : stp g M (.getfield idx) 3 pc ls (.ref a :: st) h = if kd h a = 41 then some (pc + 3, ls, va_rf (gR h a 0) :: st, h) else none := by
    show opGet M idx 3 pc ls (.ref a :: st) h = _
    unfold opGet
    dsimp only
    rw [hn]
    dsimp only
    rw [hl]
    simp [goT]
  exact e_c hd rfl rfl e
theorem e_getS1 {a idx : Nat} (q : Nat) {p : Nat} (hn : zFkT.lookup (zKey M idx) = none) (hl : zSkT.lookup (zKey M idx) = some (1, p)) (hd : decode (zCode M) pc = .ok (.getfield idx, 3)) (hq : pc + 3 = q) : ev g M pc ls (.ref a :: st) h = if kd h a = 41 then ev g M q ls (.int 0 :: st) h else none := by
  subst hq
  have e : stp g M (.getfield idx) 3 pc ls (.ref a :: st) h = if kd h a = 41 then some (pc + 3, ls, .int 0 :: st, h) else none := by
    show opGet M idx 3 pc ls (.ref a :: st) h = _
    unfold opGet
    dsimp only
    rw [hn]
    dsimp only
    rw [hl]
    simp [goT]
  exact e_c hd rfl rfl e
theorem e_put {a idx c k t f : Nat} {v : Value} {h' : zMem} (q : Nat) {p : Nat} (hl : zFkT.lookup (zKey M idx) = some (c, k, t, f, p)) (hf : f = 0 ∨ (M.2.2.1 = c ∧ zKd M = 2)) (hv : putV t v h a k = some h') (hd : decode (zCode M) pc = .ok (.putfield idx, 3)) (hq : pc + 3 = q) (K : Nat) (hK : c + 1 = K) : ev g M pc ls (v :: .ref a :: st) h = if kd h a = K then ev g M q ls st h' else none := by
  subst hq; subst hK
  have e : stp g M (.putfield idx) 3 pc ls (v :: .ref a :: st) h = if kd h a = c + 1 then some (pc + 3, ls, st, h') else none := by
    show opPut M idx 3 pc ls (v :: .ref a :: st) h = _
    unfold opPut
    dsimp only
    rw [hl]
    dsimp only
    by_cases z : kd h a = c + 1
    · rw [if_pos z, if_pos ⟨rfl, z, hf⟩, hv]; rfl
    · rw [if_neg z, if_neg (fun w => z w.2.1)]
  exact e_c hd rfl rfl e
theorem e_putZ {a idx c k f : Nat} {v : Int32} (q : Nat) {p : Nat} (hl : zFkT.lookup (zKey M idx) = some (c, k, 3, f, p)) (hf : f = 0 ∨ (M.2.2.1 = c ∧ zKd M = 2)) (hd : decode (zCode M) pc = .ok (.putfield idx, 3)) (hq : pc + 3 = q) (K : Nat) (hK : c + 1 = K) : ev g M pc ls (.int v :: .ref a :: st) h = if kd h a = K ∧ v &&& 1 = v then ev g M q ls st (sI h a k v) else none := by
  subst hq; subst hK
  have e : stp g M (.putfield idx) 3 pc ls (.int v :: .ref a :: st) h = if kd h a = c + 1 ∧ v &&& 1 = v then some (pc + 3, ls, st, sI h a k v) else none := by
    show opPut M idx 3 pc ls (.int v :: .ref a :: st) h = _
    unfold opPut
    dsimp only
    rw [hl]
    dsimp only
    by_cases z : kd h a = c + 1
    · rw [if_pos ⟨rfl, z, hf⟩]
      by_cases w : v &&& 1 = v
      · rw [if_pos ⟨z, w⟩]; simp only [putV]; rw [if_pos w]; rfl
      · rw [if_neg (fun y => w y.2)]; simp only [putV]; rw [if_neg w]
    · rw [if_neg (fun w => z w.2.1), if_neg (fun w => z w.1)]
  exact e_c hd rfl rfl e
theorem e_sta {idx i : Nat} (q : Nat) {p : Nat} (hl : zGkT.lookup (zKey M idx) = some (i, p)) (hi : i < 3) (hd : decode (zCode M) pc = .ok (.getstatic idx, 3)) (hq : pc + 3 = q) : ev g M pc ls st h = ev g M q ls (.ref (g i) :: st) h := by
  subst hq
  refine ev_go hd rfl rfl ?_
  show opSta g M idx 3 pc ls st h = _
  unfold opSta
  rw [hl]
  rcases (show i = 0 ∨ i = 1 ∨ i = 2 by omega) with rfl | rfl | rfl <;> rfl
theorem e_sta10 {idx : Nat} (q : Nat) {p : Nat} (hl : zGkT.lookup (zKey M idx) = some (10, p)) (hd : decode (zCode M) pc = .ok (.getstatic idx, 3)) (hq : pc + 3 = q) : ev g M pc ls st h = ev g M q ls (.int 1 :: st) h := by
  subst hq
  refine ev_go hd rfl rfl ?_
  show opSta g M idx 3 pc ls st h = _
  unfold opSta
  rw [hl]
  rfl
theorem e_sta11 {idx : Nat} (q : Nat) {p : Nat} (hl : zGkT.lookup (zKey M idx) = some (11, p)) (hd : decode (zCode M) pc = .ok (.getstatic idx, 3)) (hq : pc + 3 = q) : ev g M pc ls st h = ev g M q ls (va_rf (if g 11 = 0 then none else some (g 11 - 1)) :: st) h := by
  subst hq
  refine ev_go hd rfl rfl ?_
  show opSta g M idx 3 pc ls st h = _
  unfold opSta
  rw [hl]
  rfl
theorem e_ldcS {idx i : Nat} (q : Nat) {p : Nat} (hl : zTkT.lookup (zKey M idx) = some (i, p)) (hd : decode (zCode M) pc = .ok (.ldc idx, 2)) (hq : pc + 2 = q) : ev g M pc ls st h = ev g M q ls (.ref (g (100 + i)) :: st) h := by
  subst hq
  refine ev_go hd rfl rfl ?_
  show opLdc g M idx 2 pc ls st h = _
  unfold opLdc
  rw [hl]
  rfl
theorem e_ldcI {idx : Nat} (q : Nat) {p : Nat} {v : Int32} (hn : zTkT.lookup (zKey M idx) = none) (hl : zCkT.lookup (zKey M idx) = some (v, p)) (hd : decode (zCode M) pc = .ok (.ldc idx, 2)) (hq : pc + 2 = q) : ev g M pc ls st h = ev g M q ls (.int v :: st) h := by
  subst hq
  refine ev_go hd rfl rfl ?_
  show opLdc g M idx 2 pc ls st h = _
  unfold opLdc
  rw [hn]
  dsimp only
  rw [hl]
  rfl
theorem e_ldwS {idx i : Nat} (q : Nat) {p : Nat} (hl : zTkT.lookup (zKey M idx) = some (i, p)) (hd : decode (zCode M) pc = .ok (.ldc_w idx, 3)) (hq : pc + 3 = q) : ev g M pc ls st h = ev g M q ls (.ref (g (100 + i)) :: st) h := by
  subst hq
  refine ev_go hd rfl rfl ?_
  show opLdw g M idx 3 pc ls st h = _
  unfold opLdw
  rw [hl]
  rfl
theorem e_ldw {idx : Nat} (q : Nat) {p : Nat} {v : Int32} (hn : zTkT.lookup (zKey M idx) = none) (hl : zCkT.lookup (zKey M idx) = some (v, p)) (hd : decode (zCode M) pc = .ok (.ldc_w idx, 3)) (hq : pc + 3 = q) : ev g M pc ls st h = ev g M q ls (.int v :: st) h := by
  subst hq
  refine ev_go hd rfl rfl ?_
  show opLdw g M idx 3 pc ls st h = _
  unfold opLdw
  rw [hn]
  dsimp only
  rw [hl]
  rfl
theorem e_ld2 {idx : Nat} (q : Nat) {p : Nat} {v : Int64} (hl : zDkT.lookup (zKey M idx) = some (v, p)) (hd : decode (zCode M) pc = .ok (.ldc2_w idx, 3)) (hq : pc + 3 = q) : ev g M pc ls st h = ev g M q ls (.long v :: st) h := by
  subst hq
  refine ev_go hd rfl rfl ?_
  show opLd2 M idx 3 pc ls st h = _
  unfold opLd2
  rw [hl]
  rfl
theorem e_new {idx c w : Nat} (q : Nat) {p : Nat × Nat × Nat} (hl : zNkT.lookup (zKey M idx) = some (c, w, p)) (hw : w = zSl c) (hd : decode (zCode M) pc = .ok (.new idx, 3)) (hq : pc + 3 = q) (K : Nat) (hK : c + 1 = K) : ev g M pc ls st h = ev g M q ls (.ref (sz h) :: st) (nw h K 0 w) := by
  subst hq; subst hK
  refine ev_go hd rfl rfl ?_
  show opNew M idx 3 pc ls st h = _
  unfold opNew
  rw [hl]
  exact if_pos ⟨rfl, hw⟩
theorem e_nwa {t : ArrayType} {k : Int32} (q K : Nat) (hK : zAt t = K) (hK2 : ¬ K = 0) (hd : decode (zCode M) pc = .ok (.newarray t, 2)) (hq : pc + 2 = q) : ev g M pc ls (.int k :: st) h = if inb k 65536 = true then ev g M q ls (.ref (sz h) :: st) (nw h K (ix k) (ix k)) else none := by
  subst hq; subst hK
  have e : stp g M (.newarray t) 2 pc ls (.int k :: st) h = if inb k 65536 = true then some (pc + 2, ls, .ref (sz h) :: st, nw h (zAt t) (ix k) (ix k)) else none := by
    show opNwa t 2 pc ls (.int k :: st) h = _
    unfold opNwa inb
    exact ite_w (by simp [hK2])
  exact e_c hd rfl rfl e
theorem e_anw {idx K : Nat} {k : Int32} (q : Nat) {p : Nat × Nat} (hl : zAkT.lookup (zKey M idx) = some (K, p)) (hd : decode (zCode M) pc = .ok (.anewarray idx, 3)) (hq : pc + 3 = q) : ev g M pc ls (.int k :: st) h = if inb k 65536 = true then ev g M q ls (.ref (sz h) :: st) (nw h K (ix k) (ix k)) else none := by
  subst hq
  have e : stp g M (.anewarray idx) 3 pc ls (.int k :: st) h = if inb k 65536 = true then some (pc + 3, ls, .ref (sz h) :: st, nw h K (ix k) (ix k)) else none := by
    show opAnw M idx 3 pc ls (.int k :: st) h = _
    unfold opAnw inb
    dsimp only
    rw [hl]
    exact ite_w (by simp)
  exact e_c hd rfl rfl e
theorem e_mna {idx K J : Nat} {k w : Int32} (q : Nat) {p : Nat × Nat × Nat} (hl : zMkT.lookup (zKey M idx) = some (K, J, p)) (hd : decode (zCode M) pc = .ok (.multianewarray idx 2, 4)) (hq : pc + 4 = q) : ev g M pc ls (.int w :: .int k :: st) h = if inb k 65536 = true ∧ inb w 65536 = true then ev g M q ls (.ref (sz h) :: st) (nwM h K J (ix k) (ix w)) else none := by
  subst hq
  have e : stp g M (.multianewarray idx 2) 4 pc ls (.int w :: .int k :: st) h = if inb k 65536 = true ∧ inb w 65536 = true then some (pc + 4, ls, .ref (sz h) :: st, nwM h K J (ix k) (ix w)) else none := by
    show opMna M idx 2 4 pc ls (.int w :: .int k :: st) h = _
    unfold opMna inb
    dsimp only
    rw [hl]
    exact ite_w (by simp [and_assoc])
  exact e_c hd rfl rfl e
theorem e_cpy {idx a b : Nat} {n dp sp : Int32} (q : Nat) {p : Nat} (hl : zYkT.lookup (zKey M idx) = some p) (hf : 1 ≤ zNf M) (hn : catS st + 18 ≤ zNl M) (hd : decode (zCode M) pc = .ok (.invokestatic idx, 3)) (hq : pc + 3 = q) : ev g M pc ls (.int n :: .int dp :: .ref b :: .int sp :: .ref a :: st) h = if rng sp n (ln h a) = true ∧ rng dp n (ln h b) = true then (if kd h a = 20 ∧ kd h b = 20 then ev g M q ls st (cpI h a (ix sp) b (ix dp) (ix n)) else if kd h a = 21 ∧ kd h b = 21 then ev g M q ls st (cpL h a (ix sp) b (ix dp) (ix n)) else none) else none := by
  subst hq
  have hc : cal M (.invokestatic idx) 3 (.int n :: .int dp :: .ref b :: .int sp :: .ref a :: st) h = none := by
    show clSts M idx 3 _ = none
    unfold clSts
    rw [hl]
  have hs : stp g M (.invokestatic idx) 3 pc ls (.int n :: .int dp :: .ref b :: .int sp :: .ref a :: st) h = if rng sp n (ln h a) = true ∧ rng dp n (ln h b) = true then (if kd h a = 20 ∧ kd h b = 20 then some (pc + 3, ls, st, cpI h a (ix sp) b (ix dp) (ix n)) else if kd h a = 21 ∧ kd h b = 21 then some (pc + 3, ls, st, cpL h a (ix sp) b (ix dp) (ix n)) else none) else none := by
    show opSts M idx 3 pc ls _ h = _
    unfold opSts
    rw [hl]
    dsimp only
    unfold opCpy goT
    rw [if_pos rfl]
    dsimp only
    exact ite_w ⟨fun z => z.2.2, fun z => ⟨hf, hn, z⟩⟩
  by_cases z1 : rng sp n (ln h a) = true ∧ rng dp n (ln h b) = true
  · rw [if_pos z1] at hs ⊢
    by_cases z2 : kd h a = 20 ∧ kd h b = 20
    · rw [if_pos z2] at hs ⊢; exact ev_go hd rfl hc hs
    · rw [if_neg z2] at hs ⊢
      by_cases z3 : kd h a = 21 ∧ kd h b = 21
      · rw [if_pos z3] at hs ⊢; exact ev_go hd rfl hc hs
      · rw [if_neg z3] at hs ⊢; exact ev_no hd rfl hc hs
  · rw [if_neg z1] at hs ⊢; exact ev_no hd rfl hc hs
theorem e_obj {idx a : Nat} (q : Nat) {p : Nat} (hl : zOkT.lookup (zKey M idx) = some p) (hf : 1 ≤ zNf M) (hn : catS st + 12 ≤ zNl M) (hd : decode (zCode M) pc = .ok (.invokespecial idx, 3)) (hq : pc + 3 = q) : ev g M pc ls (.ref a :: st) h = ev g M q ls st h := by
  subst hq
  refine ev_go hd rfl ?_ ?_
  · show clSpc M idx 3 _ = none
    unfold clSpc
    rw [hl]
  · show opSpc M idx 3 pc ls (.ref a :: st) h = _
    unfold opSpc
    rw [hl]
    exact if_pos ⟨rfl, hf, hn⟩
/-- calls: the places of what is asked for decide by evaluation -/
theorem e_cs {idx : Nat} (q : Nat) {N : zM} {w : Nat × Nat × Nat × Nat × Nat} {as rest : List Value} (hy : zYkT.lookup (zKey M idx) = none) (hl : zLkT.lookup (zKey M idx) = some (N, w)) (ho : (zKd N = 0 ∧ zNf N + 1 ≤ zNf M ∧ zNl N + zMx N + 19 ≤ zNl M)) (hs : (lcl as).length ≤ zMx N ∧ as.length = zNp N ∧ catS rest ≤ 8) (hd : decode (zCode M) pc = .ok (.invokestatic idx, 3)) (hq : pc + 3 = q) (hst : st = as.reverse ++ rest) : ev g M pc ls st h = kon g M q ls rest (call g N as h) := by
  subst hq
  subst hst
  refine ev_cl hd rfl ?_
  show clSts M idx 3 _ = _
  unfold clSts
  rw [hy]
  dsimp only
  unfold opCal
  rw [hl]
  dsimp only
  have h1 : zAr 0 N = as.length := by rw [hs.2.1]; rfl
  have e1 : (as.reverse ++ rest).take (zAr 0 N) = as.reverse := by rw [h1, List.take_append_of_le_length (by simp), List.take_of_length_le (by simp)]
  have e2 : (as.reverse ++ rest).drop (zAr 0 N) = rest := by rw [h1]; simp
  rw [e1, e2, List.reverse_reverse, if_pos ⟨rfl, ho.1, ho.2.1, ho.2.2, hs.1, by rw [h1]; simp, hs.2.2⟩]
theorem e_cv {idx a : Nat} (q : Nat) {N : zM} {w : Nat × Nat × Nat × Nat × Nat} {as rest : List Value} (hl : zLkT.lookup (zKey M idx) = some (N, w)) (ho : (zKd N = 1 ∧ zNf N + 1 ≤ zNf M ∧ zNl N + zMx N + 19 ≤ zNl M)) (hs : (lcl (.ref a :: as)).length ≤ zMx N ∧ as.length = zNp N ∧ catS rest ≤ 8) (K : Nat) (hK : (N.2.2.1 < 13 ∧ N.2.2.1 + 1 = K) ∨ (N.2.2.1 = 17 ∧ K = 41)) (hd : decode (zCode M) pc = .ok (.invokevirtual idx, 3)) (hq : pc + 3 = q) (hst : st = as.reverse ++ .ref a :: rest) : ev g M pc ls st h = if kd h a = K then kon g M q ls rest (call g N (.ref a :: as) h) else none := by
  subst hq
  subst hst
  have hlen : as.reverse.length = zNp N := by rw [List.length_reverse]; exact hs.2.1
  have e0 : (as.reverse ++ .ref a :: rest).drop (zNp N) = .ref a :: rest := by rw [← hlen]; simp
  have h1 : zAr 1 N = zNp N + 1 := rfl
  have e1 : (as.reverse ++ .ref a :: rest).take (zAr 1 N) = as.reverse ++ [.ref a] := by
    rw [h1, ← hlen, List.take_append]; simp; exact List.take_of_length_le (by simp)
  have e2 : (as.reverse ++ .ref a :: rest).drop (zAr 1 N) = rest := by
    rw [h1, ← hlen, List.drop_append]; simp
  by_cases z : kd h a = K
  · rw [if_pos z]
    refine ev_cl hd rfl ?_
    show clVir M idx 3 _ h = _
    unfold clVir
    rw [hl]
    dsimp only
    rw [e0]
    dsimp only
    rw [if_pos (by omega)]
    unfold opCal
    rw [hl]
    dsimp only
    rw [e1, e2, if_pos]
    · simp
    · exact ⟨rfl, ho.1, ho.2.1, ho.2.2, by simpa using hs.1, by rw [h1]; simp; omega, hs.2.2⟩
  · rw [if_neg z]
    refine ev_no hd rfl ?_ rfl
    show clVir M idx 3 _ h = _
    unfold clVir
    rw [hl]
    dsimp only
    rw [e0]
    dsimp only
    rw [if_neg (by omega)]
theorem e_ci {idx a : Nat} (q : Nat) {N : zM} {w : Nat × Nat × Nat × Nat × Nat} {as rest : List Value} (hk : zOkT.lookup (zKey M idx) = none) (hl : zLkT.lookup (zKey M idx) = some (N, w)) (ho : (zKd N = 2 ∧ zNf N + 1 ≤ zNf M ∧ zNl N + zMx N + 19 ≤ zNl M)) (hs : (lcl (.ref a :: as)).length ≤ zMx N ∧ as.length = zNp N ∧ catS rest ≤ 8) (hd : decode (zCode M) pc = .ok (.invokespecial idx, 3)) (hq : pc + 3 = q) (hst : st = as.reverse ++ .ref a :: rest) : ev g M pc ls st h = kon g M q ls rest (call g N (.ref a :: as) h) := by
  subst hq
  subst hst
  have hlen : as.reverse.length = zNp N := by rw [List.length_reverse]; exact hs.2.1
  have e0 : (as.reverse ++ .ref a :: rest).drop (zNp N) = .ref a :: rest := by rw [← hlen]; simp
  have h1 : zAr 2 N = zNp N + 1 := rfl
  have e1 : (as.reverse ++ .ref a :: rest).take (zAr 2 N) = as.reverse ++ [.ref a] := by
    rw [h1, ← hlen, List.take_append]; simp; exact List.take_of_length_le (by simp)
  have e2 : (as.reverse ++ .ref a :: rest).drop (zAr 2 N) = rest := by
    rw [h1, ← hlen, List.drop_append]; simp
  refine ev_cl hd rfl ?_
  show clSpc M idx 3 _ = _
  unfold clSpc
  rw [hk]
  dsimp only
  rw [hl]
  dsimp only
  rw [e0]
  dsimp only
  unfold opCal
  rw [hl]
  dsimp only
  rw [e1, e2, if_pos]
  · simp
  · exact ⟨rfl, ho.1, ho.2.1, ho.2.2, by simpa using hs.1, by rw [h1]; simp; omega, hs.2.2⟩
theorem e_retI {v : Int32} (hr : zRt M = some .int) (hd : decode (zCode M) pc = .ok (.ireturn, 1)) : ev g M pc ls [.int v] h = some (some (.int v), h) := by
  refine ev_rt hd ?_
  show opRet M 1 [.int v] = _
  unfold opRet
  rw [hr]; rfl
theorem e_retZ {v : Int32} (hr : zRt M = some .boolean) (hd : decode (zCode M) pc = .ok (.ireturn, 1)) : ev g M pc ls [.int v] h = if v &&& 1 = v then some (some (.int v), h) else none := by
  by_cases z : v &&& 1 = v
  · rw [if_pos z]
    refine ev_rt hd ?_
    show opRet M 1 [.int v] = _
    unfold opRet
    rw [hr]
    exact if_pos z
  · rw [if_neg z]
    refine ev_no hd ?_ rfl rfl
    show opRet M 1 [.int v] = _
    unfold opRet
    rw [hr]
    exact if_neg z
theorem e_retB {v : Int32} (hr : zRt M = some .byte) (hz : v.toInt8.toInt32 = v) (hd : decode (zCode M) pc = .ok (.ireturn, 1)) : ev g M pc ls [.int v] h = some (some (.int v), h) := by
  refine ev_rt hd ?_
  show opRet M 1 [.int v] = _
  unfold opRet
  rw [hr]
  exact if_pos hz
theorem e_retC {v : Int32} (hr : zRt M = some .char) (hz : (v.toUInt32 % 65536).toInt32 = v) (hd : decode (zCode M) pc = .ok (.ireturn, 1)) : ev g M pc ls [.int v] h = some (some (.int v), h) := by
  refine ev_rt hd ?_
  show opRet M 1 [.int v] = _
  unfold opRet
  rw [hr]
  exact if_pos hz
theorem e_retL {v : Int64} (hr : zRt M = some .long) (hd : decode (zCode M) pc = .ok (.lreturn, 1)) : ev g M pc ls [.long v] h = some (some (.long v), h) := by
  refine ev_rt hd ?_
  show opLrt M 1 [.long v] = _
  unfold opLrt
  rw [hr]; rfl
theorem e_retV (hr : zRt M = none) (hd : decode (zCode M) pc = .ok (.return_, 1)) : ev g M pc ls [] h = some (none, h) := by
  refine ev_rt hd ?_
  show opVrt M 1 [] = _
  unfold opVrt
  rw [hr]; rfl
theorem e_tsIn {d lo hi : Int} {offs : Array Int} {n : Nat} {x : Int32} {o : Int} (t : Nat) (hd : decode (zCode M) pc = .ok (.tableswitch d lo hi offs, n)) (h1 : ¬ (x.toInt < lo ∨ hi < x.toInt)) (ho : offs[(x.toInt - lo).toNat]? = some o) (ht : (pc : Int) + o = (t : Int)) : ev g M pc ls (.int x :: st) h = ev g M t ls st h := by
  refine ev_go hd rfl rfl ?_
  show opTsw d lo hi offs pc ls (.int x :: st) h = _
  unfold opTsw
  dsimp only
  rw [if_neg h1, ho]
  dsimp only
  rw [if_pos (by omega), show jmp pc o = t by unfold jmp; omega]
  rfl
theorem e_tsOut {d lo hi : Int} {offs : Array Int} {n : Nat} {x : Int32} (t : Nat) (hd : decode (zCode M) pc = .ok (.tableswitch d lo hi offs, n)) (h1 : x.toInt < lo ∨ hi < x.toInt) (ht : (pc : Int) + d = (t : Int)) : ev g M pc ls (.int x :: st) h = ev g M t ls st h := by
  refine ev_go hd rfl rfl ?_
  show opTsw d lo hi offs pc ls (.int x :: st) h = _
  unfold opTsw
  dsimp only
  rw [if_pos h1, if_pos (by omega), show jmp pc d = t by unfold jmp; omega]
  rfl
end ZEV
section ZEW
variable {g : Nat → Nat} {M : zM} {pc : Nat} {ls st : List Value} {h : zMem}
theorem e_iconst {v : Int} (q : Nat) (x : Int32) (hx : Int32.ofInt v = x) (hd : decode (zCode M) pc = .ok (.iconst v, 1)) (hq : pc + 1 = q) : ev g M pc ls st h = ev g M q ls (.int x :: st) h := by
  subst hq; subst hx; exact ev_go hd rfl rfl rfl
theorem e_bipush {v : Int} (q : Nat) (x : Int32) (hx : (Int8.ofInt v).toInt32 = x) (hd : decode (zCode M) pc = .ok (.bipush v, 2)) (hq : pc + 2 = q) : ev g M pc ls st h = ev g M q ls (.int x :: st) h := by
  subst hq; subst hx; exact ev_go hd rfl rfl rfl
theorem e_sipush {v : Int} (q : Nat) (x : Int32) (hx : (Int16.ofInt v).toInt32 = x) (hd : decode (zCode M) pc = .ok (.sipush v, 3)) (hq : pc + 3 = q) : ev g M pc ls st h = ev g M q ls (.int x :: st) h := by
  subst hq; subst hx; exact ev_go hd rfl rfl rfl
theorem e_lconst {v : Fin 2} (q : Nat) (x : Int64) (hx : Int64.ofNat v.val = x) (hd : decode (zCode M) pc = .ok (.lconst v, 1)) (hq : pc + 1 = q) : ev g M pc ls st h = ev g M q ls (.long x :: st) h := by
  subst hq; subst hx; exact ev_go hd rfl rfl rfl
theorem e_iinc {i : Nat} {c : Int} {x : Int32} {ls' : List Value} (q : Nat) (d : Int32) (hc : Int32.ofInt c = d) (hd : decode (zCode M) pc = .ok (.iinc i c, 3)) (hl : ls[i]? = some (.int x)) (hs : sto1 ls i (.int (x + d)) = ls') (hq : pc + 3 = q) : ev g M pc ls st h = ev g M q ls' st h := by
  subst hq; subst hs; subst hc
  refine ev_go hd rfl rfl ?_
  show opInc i c 3 pc ls st h = _
  unfold opInc
  rw [hl]
  exact if_pos rfl
theorem e_stI2 {i : Nat} {x : Int32} {v0 : Value} {ls' : List Value} (q : Nat) (hd : decode (zCode M) pc = .ok ((.istore i), 2)) (hl : ls[i]? = some v0) (hs : sto1 ls i (.int x) = ls') (hq : pc + 2 = q) : ev g M pc ls (.int x :: st) h = ev g M q ls' st h := by
  subst hq; subst hs
  exact ev_go hd rfl rfl (if_pos ⟨rfl, (List.getElem?_eq_some_iff.1 hl).1⟩ : (if _ ∧ _ then some (pc + 2, sto1 ls i (.int x), st, h) else none) = _)
theorem e_stI1 {f : Fin 4} {i : Nat} {x : Int32} {v0 : Value} {ls' : List Value} (q : Nat) (hf : f.val = i) (hd : decode (zCode M) pc = .ok ((.istore_n f), 1)) (hl : ls[i]? = some v0) (hs : sto1 ls i (.int x) = ls') (hq : pc + 1 = q) : ev g M pc ls (.int x :: st) h = ev g M q ls' st h := by
  subst hq; subst hs; subst hf
  exact ev_go hd rfl rfl (if_pos ⟨rfl, (List.getElem?_eq_some_iff.1 hl).1⟩ : (if _ ∧ _ then some (pc + 1, sto1 ls f.val (.int x), st, h) else none) = _)
theorem e_stL2 {i : Nat} {x : Int64} {v0 : Value} {ls' : List Value} (q : Nat) (hd : decode (zCode M) pc = .ok ((.lstore i), 2)) (hl : ls[i + 1]? = some v0) (hs : sto2 ls i (.long x) = ls') (hq : pc + 2 = q) : ev g M pc ls (.long x :: st) h = ev g M q ls' st h := by
  subst hq; subst hs
  exact ev_go hd rfl rfl (if_pos ⟨rfl, (List.getElem?_eq_some_iff.1 hl).1⟩ : (if _ ∧ _ then some (pc + 2, sto2 ls i (.long x), st, h) else none) = _)
theorem e_stL1 {f : Fin 4} {i : Nat} {x : Int64} {v0 : Value} {ls' : List Value} (q : Nat) (hf : f.val = i) (hd : decode (zCode M) pc = .ok ((.lstore_n f), 1)) (hl : ls[i + 1]? = some v0) (hs : sto2 ls i (.long x) = ls') (hq : pc + 1 = q) : ev g M pc ls (.long x :: st) h = ev g M q ls' st h := by
  subst hq; subst hs; subst hf
  exact ev_go hd rfl rfl (if_pos ⟨rfl, (List.getElem?_eq_some_iff.1 hl).1⟩ : (if _ ∧ _ then some (pc + 1, sto2 ls f.val (.long x), st, h) else none) = _)
theorem e_stA2 {i : Nat} {x : Nat} {v0 : Value} {ls' : List Value} (q : Nat) (hd : decode (zCode M) pc = .ok ((.astore i), 2)) (hl : ls[i]? = some v0) (hs : sto1 ls i (.ref x) = ls') (hq : pc + 2 = q) : ev g M pc ls (.ref x :: st) h = ev g M q ls' st h := by
  subst hq; subst hs
  exact ev_go hd rfl rfl (if_pos ⟨rfl, (List.getElem?_eq_some_iff.1 hl).1⟩ : (if _ ∧ _ then some (pc + 2, sto1 ls i (.ref x), st, h) else none) = _)
theorem e_stA1 {f : Fin 4} {i : Nat} {x : Nat} {v0 : Value} {ls' : List Value} (q : Nat) (hf : f.val = i) (hd : decode (zCode M) pc = .ok ((.astore_n f), 1)) (hl : ls[i]? = some v0) (hs : sto1 ls i (.ref x) = ls') (hq : pc + 1 = q) : ev g M pc ls (.ref x :: st) h = ev g M q ls' st h := by
  subst hq; subst hs; subst hf
  exact ev_go hd rfl rfl (if_pos ⟨rfl, (List.getElem?_eq_some_iff.1 hl).1⟩ : (if _ ∧ _ then some (pc + 1, sto1 ls f.val (.ref x), st, h) else none) = _)
end ZEW
