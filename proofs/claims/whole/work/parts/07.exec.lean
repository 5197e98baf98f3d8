/-! what an instruction does, and runs -/
def zKey (M : zM) (i : Nat) : Nat := if i < 10000 then M.2.2.1 * 10000 + i else 1000000000
def zCode (M : zM) : ByteArray := M.1
def zMx (M : zM) : Nat := M.2.1
def zNf (M : zM) : Nat := M.2.2.2.1
def zNl (M : zM) : Nat := M.2.2.2.2.1
def zY (M : zM) : MethodName := M.2.2.2.2.2.1
def zRt (M : zM) : Option FieldType := M.2.2.2.2.2.2.1
def zNp (M : zM) : Nat := M.2.2.2.2.2.2.2.1
def zKd (M : zM) : Nat := M.2.2.2.2.2.2.2.2
def catS (l : List Value) : Nat := (l.map fun v => v.category).sum
def zAt (t : ArrayType) : Nat := match t with
  | .int => 20 | .long => 21 | .byte => 22 | .boolean => 23 | _ => 0
def opGet (M : zM) (idx n pc : Nat) (ls st : List Value) (h : zMem) : zRes := match st with
  | .ref a :: r => match zFkT.lookup (zKey M idx) with
    | some (c, k, t, _) => if n = 3 ∧ kd h a = c + 1 then goT (pc + 3) ls (fvl t h a k :: r) h else none
    | none => match zSkT.lookup (zKey M idx) with
      | some (0, _) => if n = 3 ∧ kd h a = 41 then goT (pc + 3) ls (va_rf (gR h a 0) :: r) h else none
      | some (_, _) => if n = 3 ∧ kd h a = 41 then goT (pc + 3) ls (.int 0 :: r) h else none
      | none => none
  | _ => none
def putV (t : Nat) (v : Value) (h : zMem) (a k : Nat) : Option zMem := match t, v with
  | 0, .int x => some (sI h a k x)
  | 1, .long x => some (sL h a k x)
  | 2, .ref x => some (sR h a k (some x))
  | 2, .null => some (sR h a k none)
  | 3, .int x => if x &&& 1 = x then some (sI h a k x) else none
  | _, _ => none
def opPut (M : zM) (idx n pc : Nat) (ls st : List Value) (h : zMem) : zRes := match st with
  | v :: .ref a :: r => match zFkT.lookup (zKey M idx) with
    | some (c, k, t, f, _) => if n = 3 ∧ kd h a = c + 1 ∧ (f = 0 ∨ (M.2.2.1 = c ∧ zKd M = 2)) then (match putV t v h a k with | some h' => goT (pc + 3) ls r h' | none => none) else none
    | none => none
  | _ => none
def opSta (g : Nat → Nat) (M : zM) (idx n pc : Nat) (ls st : List Value) (h : zMem) : zRes := match zGkT.lookup (zKey M idx) with
  | some (10, _) => if n = 3 then goT (pc + 3) ls (.int 1 :: st) h else none
  | some (11, _) => if n = 3 then goT (pc + 3) ls (va_rf (if g 11 = 0 then none else some (g 11 - 1)) :: st) h else none
  | some (i, _) => if n = 3 ∧ i < 3 then goT (pc + 3) ls (.ref (g i) :: st) h else none
  | none => none
def opLdc (g : Nat → Nat) (M : zM) (idx n pc : Nat) (ls st : List Value) (h : zMem) : zRes := match zTkT.lookup (zKey M idx) with
  | some (i, _) => if n = 2 then goT (pc + 2) ls (.ref (g (100 + i)) :: st) h else none
  | none => match zCkT.lookup (zKey M idx) with
    | some (v, _) => if n = 2 then goT (pc + 2) ls (.int v :: st) h else none
    | none => none
def opLdw (g : Nat → Nat) (M : zM) (idx n pc : Nat) (ls st : List Value) (h : zMem) : zRes := match zTkT.lookup (zKey M idx) with
  | some (i, _) => if n = 3 then goT (pc + 3) ls (.ref (g (100 + i)) :: st) h else none
  | none => match zCkT.lookup (zKey M idx) with
    | some (v, _) => if n = 3 then goT (pc + 3) ls (.int v :: st) h else none
    | none => none
def opLd2 (M : zM) (idx n pc : Nat) (ls st : List Value) (h : zMem) : zRes := match zDkT.lookup (zKey M idx) with
  | some (v, _) => if n = 3 then goT (pc + 3) ls (.long v :: st) h else none
  | none => none
def opNew (M : zM) (idx n pc : Nat) (ls st : List Value) (h : zMem) : zRes := match zNkT.lookup (zKey M idx) with
  | some (c, w, _) => if n = 3 ∧ w = zSl c then goT (pc + 3) ls (.ref (sz h) :: st) (nw h (c + 1) 0 w) else none
  | none => none
def opNwa (t : ArrayType) (n pc : Nat) (ls st : List Value) (h : zMem) : zRes := match st with
  | .int k :: r => if n = 2 ∧ ¬ zAt t = 0 ∧ 0 ≤ k ∧ k.toNatClampNeg < 65536 then goT (pc + 2) ls (.ref (sz h) :: r) (nw h (zAt t) k.toNatClampNeg k.toNatClampNeg) else none
  | _ => none
def opAnw (M : zM) (idx n pc : Nat) (ls st : List Value) (h : zMem) : zRes := match st with
  | .int k :: r => match zAkT.lookup (zKey M idx) with
    | some (q, _) => if n = 3 ∧ 0 ≤ k ∧ k.toNatClampNeg < 65536 then goT (pc + 3) ls (.ref (sz h) :: r) (nw h q k.toNatClampNeg k.toNatClampNeg) else none
    | none => none
  | _ => none
def opMna (M : zM) (idx d n pc : Nat) (ls st : List Value) (h : zMem) : zRes := match st with
  | .int w :: .int k :: r => match zMkT.lookup (zKey M idx) with
    | some (q, e, _) => if n = 4 ∧ d = 2 ∧ 0 ≤ k ∧ k.toNatClampNeg < 65536 ∧ 0 ≤ w ∧ w.toNatClampNeg < 65536 then goT (pc + 4) ls (.ref (sz h) :: r) (nwM h q e k.toNatClampNeg w.toNatClampNeg) else none
    | none => none
  | _ => none
def zArgs (n : Nat) (st : List Value) : List Value := (st.take n).reverse
/-- how many values a call takes -/
def zAr (kk : Nat) (N : zM) : Nat := zNp N + (if kk = 0 then 0 else 1)
abbrev zCl : Type := Option (zM × List Value × List Value)
def opCal (M : zM) (kk idx n : Nat) (st : List Value) : zCl := match zLkT.lookup (zKey M idx) with
  | some (N, _) => if n = 3 ∧ zKd N = kk ∧ zNf N + 1 ≤ zNf M ∧ zNl N + zMx N + 19 ≤ zNl M ∧ (lcl (st.take (zAr kk N)).reverse).length ≤ zMx N ∧ zAr kk N ≤ st.length ∧ catS (st.drop (zAr kk N)) ≤ 8 then
      some (N, (st.take (zAr kk N)).reverse, st.drop (zAr kk N)) else none
  | none => none
def opCpy (M : zM) (pc : Nat) (ls st : List Value) (h : zMem) : zRes := match st with
  | .int n :: .int dp :: .ref b :: .int sp :: .ref a :: r => if 1 ≤ zNf M ∧ catS r + 18 ≤ zNl M ∧ rng sp n (ln h a) = true ∧ rng dp n (ln h b) = true then
      (if kd h a = 20 ∧ kd h b = 20 then goT (pc + 3) ls r (cpI h a (ix sp) b (ix dp) (ix n)) else if kd h a = 21 ∧ kd h b = 21 then goT (pc + 3) ls r (cpL h a (ix sp) b (ix dp) (ix n)) else none) else none
  | _ => none
def opSts (M : zM) (idx n pc : Nat) (ls st : List Value) (h : zMem) : zRes := match zYkT.lookup (zKey M idx) with
  | some _ => if n = 3 then opCpy M pc ls st h else none
  | none => none
def clSts (M : zM) (idx n : Nat) (st : List Value) : zCl := match zYkT.lookup (zKey M idx) with
  | some _ => none
  | none => opCal M 0 idx n st
/-- the receiver's class is the callee's -/
def clVir (M : zM) (idx n : Nat) (st : List Value) (h : zMem) : zCl := match zLkT.lookup (zKey M idx) with
  | some (N, _) => match st.drop (zNp N) with
    | .ref a :: _ => if (N.2.2.1 < 13 ∧ kd h a = N.2.2.1 + 1) ∨ (N.2.2.1 = 17 ∧ kd h a = 41) then opCal M 1 idx n st else none
    | _ => none
  | none => none
def opSpc (M : zM) (idx n pc : Nat) (ls st : List Value) (h : zMem) : zRes := match zOkT.lookup (zKey M idx) with
  | some _ => match st with
    | .ref _ :: r => if n = 3 ∧ 1 ≤ zNf M ∧ catS r + 12 ≤ zNl M then goT (pc + 3) ls r h else none
    | _ => none
  | none => none
def clSpc (M : zM) (idx n : Nat) (st : List Value) : zCl := match zOkT.lookup (zKey M idx) with
  | some _ => none
  | none => match zLkT.lookup (zKey M idx) with
    | some (N, _) => match st.drop (zNp N) with
      | .ref _ :: _ => opCal M 2 idx n st
      | _ => none
    | none => none
def cal (M : zM) (i : Instr) (n : Nat) (st : List Value) (h : zMem) : zCl := match i with
  | .invokestatic i => clSts M i n st
  | .invokevirtual i => clVir M i n st h
  | .invokespecial i => clSpc M i n st
  | _ => none
def opTsw (d lo hi : Int) (offs : Array Int) (pc : Nat) (ls st : List Value) (h : zMem) : zRes := match st with
  | .int x :: r => if x.toInt < lo ∨ hi < x.toInt then (if 0 ≤ (pc : Int) + d then goT (jmp pc d) ls r h else none)
      else match offs[(x.toInt - lo).toNat]? with
        | some o => if 0 ≤ (pc : Int) + o then goT (jmp pc o) ls r h else none
        | none => none
  | _ => none
def opDup (n pc : Nat) (ls st : List Value) (h : zMem) : zRes := match st with
  | v :: r => if n = 1 ∧ v.category = 1 then goT (pc + 1) ls (v :: v :: r) h else none
  | _ => none
def opPop (n pc : Nat) (ls st : List Value) (h : zMem) : zRes := match st with
  | v :: r => if n = 1 ∧ v.category = 1 then goT (pc + 1) ls r h else none
  | _ => none
def opDx1 (n pc : Nat) (ls st : List Value) (h : zMem) : zRes := match st with
  | v :: w :: r => if n = 1 ∧ v.category = 1 ∧ w.category = 1 then goT (pc + 1) ls (v :: w :: v :: r) h else none
  | _ => none
def opDu2 (n pc : Nat) (ls st : List Value) (h : zMem) : zRes := match st with
  | v :: w :: r => if n = 1 ∧ v.category = 1 ∧ w.category = 1 then goT (pc + 1) ls (v :: w :: v :: w :: r) h else none
  | _ => none
def opRet (M : zM) (n : Nat) (st : List Value) : Option (Option Value) := match st with
  | [.int v] => if n = 1 then (match zRt M with
    | some .int => some (some (.int v))
    | some .boolean => if v &&& 1 = v then some (some (.int v)) else none
    | some .byte => if v.toInt8.toInt32 = v then some (some (.int v)) else none
    | some .char => if (v.toUInt32 % 65536).toInt32 = v then some (some (.int v)) else none
    | _ => none) else none
  | _ => none
def opLrt (M : zM) (n : Nat) (st : List Value) : Option (Option Value) := match st with
  | [.long v] => if n = 1 ∧ zRt M = some .long then some (some (.long v)) else none
  | _ => none
def opVrt (M : zM) (n : Nat) (st : List Value) : Option (Option Value) := match st with
  | [] => if n = 1 ∧ zRt M = none then some none else none
  | _ => none
def rtn (M : zM) (i : Instr) (n : Nat) (st : List Value) : Option (Option Value) := match i with
  | .ireturn => opRet M n st
  | .lreturn => opLrt M n st
  | .return_ => opVrt M n st
  | _ => none
def stp (g : Nat → Nat) (M : zM) (i : Instr) (n pc : Nat) (ls st : List Value) (h : zMem) : zRes := match i with
  | .iconst v => if n = 1 then goT (pc + 1) ls (.int (Int32.ofInt v) :: st) h else none
  | .bipush v => if n = 2 then goT (pc + 2) ls (.int (Int8.ofInt v).toInt32 :: st) h else none
  | .sipush v => if n = 3 then goT (pc + 3) ls (.int (Int16.ofInt v).toInt32 :: st) h else none
  | .lconst v => if n = 1 then goT (pc + 1) ls (.long (Int64.ofNat v.val) :: st) h else none
  | .aconst_null => if n = 1 then goT (pc + 1) ls (.null :: st) h else none
  | .ldc i => opLdc g M i n pc ls st h
  | .ldc_w i => opLdw g M i n pc ls st h
  | .ldc2_w i => opLd2 M i n pc ls st h
  | .iload i => ldI i n 2 pc ls st h
  | .iload_n i => ldI i.val n 1 pc ls st h
  | .lload i => ldL i n 2 pc ls st h
  | .lload_n i => ldL i.val n 1 pc ls st h
  | .aload i => ldA i n 2 pc ls st h
  | .aload_n i => ldA i.val n 1 pc ls st h
  | .istore i => stI i n 2 pc ls st h
  | .istore_n i => stI i.val n 1 pc ls st h
  | .lstore i => stL i n 2 pc ls st h
  | .lstore_n i => stL i.val n 1 pc ls st h
  | .astore i => stA i n 2 pc ls st h
  | .astore_n i => stA i.val n 1 pc ls st h
  | .iinc i c => opInc i c n pc ls st h
  | .iaload => opIal n pc ls st h
  | .laload => opLal n pc ls st h
  | .aaload => opAal n pc ls st h
  | .baload => opBal n pc ls st h
  | .iastore => opIas n pc ls st h
  | .lastore => opLas n pc ls st h
  | .aastore => opAas n pc ls st h
  | .bastore => opBas n pc ls st h
  | .arraylength => opAln n pc ls st h
  | .pop => opPop n pc ls st h
  | .dup => opDup n pc ls st h
  | .dup_x1 => opDx1 n pc ls st h
  | .dup2 => opDu2 n pc ls st h
  | .iadd => opII (· + ·) n pc ls st h
  | .isub => opII (· - ·) n pc ls st h
  | .imul => opII (· * ·) n pc ls st h
  | .iand => opII (· &&& ·) n pc ls st h
  | .ior => opII (· ||| ·) n pc ls st h
  | .ixor => opII (· ^^^ ·) n pc ls st h
  | .idiv => opDiv (· / ·) n pc ls st h
  | .irem => opDiv (fun x y => x - x / y * y) n pc ls st h
  | .ineg => opI (fun x => .int (-x)) n pc ls st h
  | .lneg => opL (fun x => .long (-x)) n pc ls st h
  | .ishl => opII (fun x y => x <<< (y &&& 31)) n pc ls st h
  | .ishr => opII (fun x y => x >>> (y &&& 31)) n pc ls st h
  | .iushr => opII (fun x y => (x.toUInt32 >>> (y.toUInt32 &&& Int32.toUInt32 31)).toInt32) n pc ls st h
  | .ladd => opLL (· + ·) n pc ls st h
  | .lsub => opLL (· - ·) n pc ls st h
  | .lmul => opLL (· * ·) n pc ls st h
  | .land => opLL (· &&& ·) n pc ls st h
  | .lor => opLL (· ||| ·) n pc ls st h
  | .lxor => opLL (· ^^^ ·) n pc ls st h
  | .lshl => opLI (fun x y => x <<< (y.toInt64 &&& 63)) n pc ls st h
  | .lshr => opLI (fun x y => x >>> (y.toInt64 &&& 63)) n pc ls st h
  | .lushr => opLI (fun x y => (x.toUInt64 >>> (y.toInt64.toUInt64 &&& Int64.toUInt64 63)).toInt64) n pc ls st h
  | .i2l => opI (fun x => .long x.toInt64) n pc ls st h
  | .i2b => opI (fun x => .int x.toInt8.toInt32) n pc ls st h
  | .i2s => opI (fun x => .int x.toInt16.toInt32) n pc ls st h
  | .i2c => opI (fun x => .int (x.toUInt32 % 65536).toInt32) n pc ls st h
  | .l2i => opL (fun x => .int x.toInt32) n pc ls st h
  | .lcmp => (match st with
    | .long y :: .long x :: r => if n = 1 then goT (pc + 1) ls (.int (lg_cmp x y) :: r) h else none
    | _ => none)
  | .ifCond c o => opIf c o n pc ls st h
  | .if_icmp c o => opIcmp c o n pc ls st h
  | .ifnull o => opNul true o n pc ls st h
  | .ifnonnull o => opNul false o n pc ls st h
  | .goto o => if n = 3 ∧ 0 ≤ (pc : Int) + o then goT (jmp pc o) ls st h else none
  | .tableswitch d lo hi offs => opTsw d lo hi offs pc ls st h
  | .getfield i => opGet M i n pc ls st h
  | .putfield i => opPut M i n pc ls st h
  | .getstatic i => opSta g M i n pc ls st h
  | .new i => opNew M i n pc ls st h
  | .newarray t => opNwa t n pc ls st h
  | .anewarray i => opAnw M i n pc ls st h
  | .multianewarray i d => opMna M i d n pc ls st h
  | .invokestatic i => opSts M i n pc ls st h
  | .invokespecial i => opSpc M i n pc ls st h
  | _ => none
def exec (g : Nat → Nat) : Nat → zM → Nat → List Value → List Value → zMem → Option (Option Value × zMem)
  | 0, _, _, _, _, _ => none
  | k + 1, M, pc, ls, st, h => match decode (zCode M) pc with
    | .error _ => none
    | .ok (i, n) => match rtn M i n st with
      | some r => some (r, h)
      | none => match cal M i n st h with
        | some (N, as, rest) => (match exec g k N 0 (ent N as) [] h with
          | none => none
          | some (r, h') => exec g k M (pc + 3) ls (r.toList ++ rest) h')
        | none => match stp g M i n pc ls st h with
          | some (pc', ls', st', h') => exec g k M pc' ls' st' h'
          | none => none
theorem exec_go {g : Nat → Nat} {k : Nat} {M : zM} {pc : Nat} {ls st : List Value} {h : zMem} {i : Instr} {n : Nat} (hd : decode (zCode M) pc = .ok (i, n)) (hr : rtn M i n st = none) (hc : cal M i n st h = none) {pc' : Nat} {ls' st' : List Value} {h' : zMem} (hs : stp g M i n pc ls st h = some (pc', ls', st', h')) : exec g (k + 1) M pc ls st h = exec g k M pc' ls' st' h' := by
  rw [exec, hd]; dsimp only; rw [hr]; dsimp only; rw [hc]; dsimp only; rw [hs]
theorem exec_no {g : Nat → Nat} {k : Nat} {M : zM} {pc : Nat} {ls st : List Value} {h : zMem} {i : Instr} {n : Nat} (hd : decode (zCode M) pc = .ok (i, n)) (hr : rtn M i n st = none) (hc : cal M i n st h = none) (hs : stp g M i n pc ls st h = none) : exec g (k + 1) M pc ls st h = none := by
  rw [exec, hd]; dsimp only; rw [hr]; dsimp only; rw [hc]; dsimp only; rw [hs]
theorem exec_rt {g : Nat → Nat} {k : Nat} {M : zM} {pc : Nat} {ls st : List Value} {h : zMem} {i : Instr} {n : Nat} {r : Option Value} (hd : decode (zCode M) pc = .ok (i, n)) (hr : rtn M i n st = some r) : exec g (k + 1) M pc ls st h = some (r, h) := by
  rw [exec, hd]; dsimp only; rw [hr]
theorem exec_cl {g : Nat → Nat} {k : Nat} {M : zM} {pc : Nat} {ls st : List Value} {h : zMem} {i : Instr} {n : Nat} {N : zM} {as rest : List Value} (hd : decode (zCode M) pc = .ok (i, n)) (hr : rtn M i n st = none) (hc : cal M i n st h = some (N, as, rest)) : exec g (k + 1) M pc ls st h = match exec g k N 0 (ent N as) [] h with
          | none => none
          | some (r, h') => exec g k M (pc + 3) ls (r.toList ++ rest) h' := by
  rw [exec, hd]; dsimp only; rw [hr]; dsimp only; rw [hc]
/-- what a run of one instruction more was -/
theorem exec_iv {g : Nat → Nat} {k : Nat} {M : zM} {pc : Nat} {ls st : List Value} {h : zMem} {x : Option Value × zMem} (hx : exec g (k + 1) M pc ls st h = some x) : ∃ i n, decode (zCode M) pc = .ok (i, n) ∧ ((∃ r, rtn M i n st = some r ∧ x = (r, h)) ∨ (rtn M i n st = none ∧ ∃ N as rest r h', cal M i n st h = some (N, as, rest) ∧ exec g k N 0 (ent N as) [] h = some (r, h') ∧ exec g k M (pc + 3) ls (r.toList ++ rest) h' = some x) ∨ (rtn M i n st = none ∧ cal M i n st h = none ∧ ∃ pc' ls' st' h', stp g M i n pc ls st h = some (pc', ls', st', h') ∧ exec g k M pc' ls' st' h' = some x)) := by
  cases hd : decode (zCode M) pc with
  | error e => rw [exec, hd] at hx; cases hx
  | ok q =>
    obtain ⟨i, n⟩ := q
    refine ⟨i, n, rfl, ?_⟩
    cases hr : rtn M i n st with
    | some r =>
      rw [exec_rt hd hr] at hx
      cases hx
      exact Or.inl ⟨r, rfl, rfl⟩
    | none =>
      refine Or.inr ?_
      cases hc : cal M i n st h with
      | some q =>
        obtain ⟨N, as, rest⟩ := q
        rw [exec_cl hd hr hc] at hx
        refine Or.inl ⟨rfl, N, as, rest, ?_⟩
        cases he : exec g k N 0 (ent N as) [] h with
        | none => rw [he] at hx; cases hx
        | some y =>
          obtain ⟨r, h'⟩ := y
          rw [he] at hx
          exact ⟨r, h', rfl, rfl, hx⟩
      | none =>
        refine Or.inr ⟨rfl, rfl, ?_⟩
        cases hs : stp g M i n pc ls st h with
        | none => rw [exec_no hd hr hc hs] at hx; cases hx
        | some q =>
          obtain ⟨pc', ls', st', h'⟩ := q
          rw [exec_go hd hr hc hs] at hx
          exact ⟨pc', ls', st', h', rfl, hx⟩
theorem exec_mono (g : Nat → Nat) : ∀ (k : Nat) (M : zM) (pc : Nat) (ls st : List Value) (h : zMem) (x : Option Value × zMem), exec g k M pc ls st h = some x → exec g (k + 1) M pc ls st h = some x := by
  intro k
  induction k with
  | zero => intro M pc ls st h x hx; cases hx
  | succ k ih =>
    intro M pc ls st h x hx
    obtain ⟨i, n, hd, ⟨r, hr, rfl⟩ | ⟨hr, N, as, rest, r, h', hc, h1, h2⟩ | ⟨hr, hc, pc', ls', st', h', hs, h1⟩⟩ := exec_iv hx
    · exact exec_rt hd hr
    · rw [exec_cl hd hr hc, ih _ _ _ _ _ _ h1]
      exact ih _ _ _ _ _ _ h2
    · rw [exec_go hd hr hc hs]
      exact ih _ _ _ _ _ _ h1
theorem exec_le {g : Nat → Nat} {k : Nat} {M : zM} {pc : Nat} {ls st : List Value} {h : zMem} {x : Option Value × zMem} (j : Nat) (hx : exec g k M pc ls st h = some x) : exec g (k + j) M pc ls st h = some x := by
  induction j with
  | zero => exact hx
  | succ j ih => exact exec_mono g _ _ _ _ _ _ _ ih
theorem exec_one {g : Nat → Nat} {k j : Nat} {M : zM} {pc : Nat} {ls st : List Value} {h : zMem} {x y : Option Value × zMem} (hx : exec g k M pc ls st h = some x) (hy : exec g j M pc ls st h = some y) : x = y := by
  have a := exec_le j hx
  have b := exec_le k hy
  rw [Nat.add_comm] at b
  exact Option.some.inj (a.symm.trans b)
noncomputable def ev (g : Nat → Nat) (M : zM) (pc : Nat) (ls st : List Value) (h : zMem) : Option (Option Value × zMem) :=
  @dite _ (∃ x k, exec g k M pc ls st h = some x) (Classical.propDecidable _) (fun q => some q.choose) (fun _ => none)
theorem ev_of {g : Nat → Nat} {k : Nat} {M : zM} {pc : Nat} {ls st : List Value} {h : zMem} {x : Option Value × zMem} (hx : exec g k M pc ls st h = some x) : ev g M pc ls st h = some x := by
  have q : ∃ x k, exec g k M pc ls st h = some x := ⟨x, k, hx⟩
  unfold ev
  rw [dif_pos q]
  obtain ⟨j, hj⟩ := q.choose_spec
  rw [exec_one hx hj]
theorem ev_ex {g : Nat → Nat} {M : zM} {pc : Nat} {ls st : List Value} {h : zMem} {x : Option Value × zMem} (hx : ev g M pc ls st h = some x) : ∃ k, exec g k M pc ls st h = some x := by
  unfold ev at hx
  by_cases q : ∃ x k, exec g k M pc ls st h = some x
  · rw [dif_pos q] at hx
    obtain ⟨j, hj⟩ := q.choose_spec
    rw [Option.some.inj hx] at hj
    exact ⟨j, hj⟩
  · rw [dif_neg q] at hx
    cases hx
theorem ev_ext {g : Nat → Nat} {M : zM} {pc : Nat} {ls st : List Value} {h : zMem} {y : Option (Option Value × zMem)} (h1 : ∀ x, y = some x → ∃ k, exec g k M pc ls st h = some x) (h2 : ∀ k x, exec g k M pc ls st h = some x → y = some x) : ev g M pc ls st h = y := by
  cases hy : y with
  | some x =>
    obtain ⟨k, hk⟩ := h1 x hy
    exact ev_of hk
  | none =>
    cases he : ev g M pc ls st h with
    | none => rfl
    | some x =>
      obtain ⟨k, hk⟩ := ev_ex he
      have := h2 k x hk
      rw [hy] at this
      cases this
theorem ev_go {g : Nat → Nat} {M : zM} {pc pc' : Nat} {ls st ls' st' : List Value} {h h' : zMem} {i : Instr} {n : Nat} (hd : decode (zCode M) pc = .ok (i, n)) (hr : rtn M i n st = none) (hc : cal M i n st h = none) (hs : stp g M i n pc ls st h = some (pc', ls', st', h')) : ev g M pc ls st h = ev g M pc' ls' st' h' := by
  refine ev_ext (fun x hx => ?_) (fun k x hx => ?_)
  · obtain ⟨k, hk⟩ := ev_ex hx
    exact ⟨k + 1, (exec_go hd hr hc hs).trans hk⟩
  · cases k with
    | zero => cases hx
    | succ k => exact ev_of ((exec_go hd hr hc hs).symm.trans hx)
theorem ev_no {g : Nat → Nat} {M : zM} {pc : Nat} {ls st : List Value} {h : zMem} {i : Instr} {n : Nat} (hd : decode (zCode M) pc = .ok (i, n)) (hr : rtn M i n st = none) (hc : cal M i n st h = none) (hs : stp g M i n pc ls st h = none) : ev g M pc ls st h = none := by
  refine ev_ext (fun x hx => by cases hx) (fun k x hx => ?_)
  cases k with
  | zero => cases hx
  | succ k => rw [exec_no hd hr hc hs] at hx; cases hx
theorem ev_rt {g : Nat → Nat} {M : zM} {pc : Nat} {ls st : List Value} {h : zMem} {i : Instr} {n : Nat} {r : Option Value} (hd : decode (zCode M) pc = .ok (i, n)) (hr : rtn M i n st = some r) : ev g M pc ls st h = some (r, h) :=
  ev_of (k := 1) (exec_rt hd hr)
/-- a call's answer and the memory behind it -/
noncomputable def call (g : Nat → Nat) (N : zM) (as : List Value) (h : zMem) : Option (Option Value × zMem) := ev g N 0 (ent N as) [] h
noncomputable def kon (g : Nat → Nat) (M : zM) (pc : Nat) (ls rest : List Value) (o : Option (Option Value × zMem)) : Option (Option Value × zMem) := match o with
  | some (some v, h) => ev g M pc ls (v :: rest) h
  | some (none, h) => ev g M pc ls rest h
  | none => none
theorem kon_v {g : Nat → Nat} {M : zM} {pc : Nat} {ls rest : List Value} {v : Value} {h : zMem} : kon g M pc ls rest (some (some v, h)) = ev g M pc ls (v :: rest) h := rfl
theorem kon_0 {g : Nat → Nat} {M : zM} {pc : Nat} {ls rest : List Value} {h : zMem} : kon g M pc ls rest (some (none, h)) = ev g M pc ls rest h := rfl
theorem kon_n {g : Nat → Nat} {M : zM} {pc : Nat} {ls rest : List Value} : kon g M pc ls rest none = none := rfl
theorem kon_if {g : Nat → Nat} {M : zM} {pc : Nat} {ls rest : List Value} {c : Prop} [Decidable c] {a b : Option (Option Value × zMem)} : kon g M pc ls rest (if c then a else b) = if c then kon g M pc ls rest a else kon g M pc ls rest b := by
  split <;> rfl
theorem ev_cl {g : Nat → Nat} {M : zM} {pc : Nat} {ls st : List Value} {h : zMem} {i : Instr} {n : Nat} {N : zM} {as rest : List Value} (hd : decode (zCode M) pc = .ok (i, n)) (hr : rtn M i n st = none) (hc : cal M i n st h = some (N, as, rest)) : ev g M pc ls st h = kon g M (pc + 3) ls rest (call g N as h) := by
  refine ev_ext (fun x hx => ?_) (fun k x hx => ?_)
  · cases hcl : call g N as h with
    | none => rw [hcl] at hx; cases hx
    | some y =>
      obtain ⟨r, h'⟩ := y
      obtain ⟨j, hj⟩ := ev_ex hcl
      have hx2 : ev g M (pc + 3) ls (r.toList ++ rest) h' = some x := by
        rw [hcl] at hx
        cases r <;> exact hx
      obtain ⟨k, hk⟩ := ev_ex hx2
      refine ⟨(j + k) + 1, ?_⟩
      rw [exec_cl hd hr hc, exec_le k hj]
      dsimp only
      rw [Nat.add_comm]
      exact exec_le j hk
  · cases k with
    | zero => cases hx
    | succ k =>
      rw [exec_cl hd hr hc] at hx
      cases hcl : exec g k N 0 (ent N as) [] h with
      | none => rw [hcl] at hx; cases hx
      | some y =>
        obtain ⟨r, h'⟩ := y
        rw [hcl] at hx
        have : call g N as h = some (r, h') := ev_of hcl
        rw [this]
        cases r <;> exact ev_of hx
