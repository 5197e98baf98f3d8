/-! what a step was, read off its outcome -/
section ZINV
variable {g : Nat → Nat} {M : zM} {n pc pc' : Nat} {ls st ls' st' : List Value} {h h' : zMem}
theorem iv_II {f : Int32 → Int32 → Int32} (hs : opII f n pc ls st h = some (pc', ls', st', h')) : ∃ x y r, st = .int y :: .int x :: r ∧ n = 1 ∧ pc' = pc + 1 ∧ ls' = ls ∧ st' = .int (f x y) :: r ∧ h' = h := by
  unfold opII goT at hs
  split at hs
  · split at hs
    · cases hs; exact ⟨_, _, _, rfl, by assumption, rfl, rfl, rfl, rfl⟩
    · cases hs
  · cases hs
theorem iv_LL {f : Int64 → Int64 → Int64} (hs : opLL f n pc ls st h = some (pc', ls', st', h')) : ∃ x y r, st = .long y :: .long x :: r ∧ n = 1 ∧ pc' = pc + 1 ∧ ls' = ls ∧ st' = .long (f x y) :: r ∧ h' = h := by
  unfold opLL goT at hs
  split at hs
  · split at hs
    · cases hs; exact ⟨_, _, _, rfl, by assumption, rfl, rfl, rfl, rfl⟩
    · cases hs
  · cases hs
theorem iv_LI {f : Int64 → Int32 → Int64} (hs : opLI f n pc ls st h = some (pc', ls', st', h')) : ∃ x y r, st = .int y :: .long x :: r ∧ n = 1 ∧ pc' = pc + 1 ∧ ls' = ls ∧ st' = .long (f x y) :: r ∧ h' = h := by
  unfold opLI goT at hs
  split at hs
  · split at hs
    · cases hs; exact ⟨_, _, _, rfl, by assumption, rfl, rfl, rfl, rfl⟩
    · cases hs
  · cases hs
theorem iv_Div {f : Int32 → Int32 → Int32} (hs : opDiv f n pc ls st h = some (pc', ls', st', h')) : ∃ x y r, st = .int y :: .int x :: r ∧ n = 1 ∧ ¬ y = 0 ∧ pc' = pc + 1 ∧ ls' = ls ∧ st' = .int (f x y) :: r ∧ h' = h := by
  unfold opDiv goT at hs
  split at hs
  · split at hs
    · rename_i q; cases hs; exact ⟨_, _, _, rfl, q.1, q.2, rfl, rfl, rfl, rfl⟩
    · cases hs
  · cases hs
theorem iv_I {f : Int32 → Value} (hs : opI f n pc ls st h = some (pc', ls', st', h')) : ∃ x r, st = .int x :: r ∧ n = 1 ∧ pc' = pc + 1 ∧ ls' = ls ∧ st' = f x :: r ∧ h' = h := by
  unfold opI goT at hs
  split at hs
  · split at hs
    · cases hs; exact ⟨_, _, rfl, by assumption, rfl, rfl, rfl, rfl⟩
    · cases hs
  · cases hs
theorem iv_L {f : Int64 → Value} (hs : opL f n pc ls st h = some (pc', ls', st', h')) : ∃ x r, st = .long x :: r ∧ n = 1 ∧ pc' = pc + 1 ∧ ls' = ls ∧ st' = f x :: r ∧ h' = h := by
  unfold opL goT at hs
  split at hs
  · split at hs
    · cases hs; exact ⟨_, _, rfl, by assumption, rfl, rfl, rfl, rfl⟩
    · cases hs
  · cases hs
theorem iv_If {c : ClassFile.Cond} {off : Int} (hs : opIf c off n pc ls st h = some (pc', ls', st', h')) : ∃ x r, st = .int x :: r ∧ n = 3 ∧ 0 ≤ (pc : Int) + off ∧ pc' = (if cndI c x 0 then jmp pc off else pc + 3) ∧ ls' = ls ∧ st' = r ∧ h' = h := by
  unfold opIf goT at hs
  split at hs
  · split at hs
    · rename_i q; cases hs; exact ⟨_, _, rfl, q.1, q.2, rfl, rfl, rfl, rfl⟩
    · cases hs
  · cases hs
theorem iv_Icmp {c : ClassFile.Cond} {off : Int} (hs : opIcmp c off n pc ls st h = some (pc', ls', st', h')) : ∃ x y r, st = .int y :: .int x :: r ∧ n = 3 ∧ 0 ≤ (pc : Int) + off ∧ pc' = (if cndI c x y then jmp pc off else pc + 3) ∧ ls' = ls ∧ st' = r ∧ h' = h := by
  unfold opIcmp goT at hs
  split at hs
  · split at hs
    · rename_i q; cases hs; exact ⟨_, _, _, rfl, q.1, q.2, rfl, rfl, rfl, rfl⟩
    · cases hs
  · cases hs
theorem iv_Nul {b : Bool} {off : Int} (hs : opNul b off n pc ls st h = some (pc', ls', st', h')) : ∃ r, n = 3 ∧ 0 ≤ (pc : Int) + off ∧ ls' = ls ∧ st' = r ∧ h' = h ∧ ((st = .null :: r ∧ pc' = if b then jmp pc off else pc + 3) ∨ ∃ a, st = .ref a :: r ∧ pc' = if b then pc + 3 else jmp pc off) := by
  unfold opNul goT at hs
  split at hs
  · split at hs
    · rename_i q; cases hs; exact ⟨_, q.1, q.2, rfl, rfl, rfl, Or.inl ⟨rfl, rfl⟩⟩
    · cases hs
  · split at hs
    · rename_i q; cases hs; exact ⟨_, q.1, q.2, rfl, rfl, rfl, Or.inr ⟨_, rfl, rfl⟩⟩
    · cases hs
  · cases hs
theorem iv_ldI {i w : Nat} (hs : ldI i n w pc ls st h = some (pc', ls', st', h')) : ∃ x, ls[i]? = some (.int x) ∧ n = w ∧ pc' = pc + w ∧ ls' = ls ∧ st' = .int x :: st ∧ h' = h := by
  unfold ldI goT at hs
  split at hs
  · split at hs
    · cases hs; exact ⟨_, by assumption, by assumption, rfl, rfl, rfl, rfl⟩
    · cases hs
  · cases hs
theorem iv_ldL {i w : Nat} (hs : ldL i n w pc ls st h = some (pc', ls', st', h')) : ∃ x, ls[i]? = some (.long x) ∧ n = w ∧ pc' = pc + w ∧ ls' = ls ∧ st' = .long x :: st ∧ h' = h := by
  unfold ldL goT at hs
  split at hs
  · split at hs
    · cases hs; exact ⟨_, by assumption, by assumption, rfl, rfl, rfl, rfl⟩
    · cases hs
  · cases hs
theorem iv_ldA {i w : Nat} (hs : ldA i n w pc ls st h = some (pc', ls', st', h')) : ∃ v, ls[i]? = some v ∧ (v = .null ∨ ∃ a, v = .ref a) ∧ n = w ∧ pc' = pc + w ∧ ls' = ls ∧ st' = v :: st ∧ h' = h := by
  unfold ldA goT at hs
  split at hs
  · split at hs
    · cases hs; exact ⟨_, by assumption, Or.inr ⟨_, rfl⟩, by assumption, rfl, rfl, rfl, rfl⟩
    · cases hs
  · split at hs
    · cases hs; exact ⟨_, by assumption, Or.inl rfl, by assumption, rfl, rfl, rfl, rfl⟩
    · cases hs
  · cases hs
theorem iv_stI {i w : Nat} (hs : stI i n w pc ls st h = some (pc', ls', st', h')) : ∃ x r, st = .int x :: r ∧ n = w ∧ i < ls.length ∧ pc' = pc + w ∧ ls' = sto1 ls i (.int x) ∧ st' = r ∧ h' = h := by
  unfold stI goT at hs
  split at hs
  · split at hs
    · rename_i q; cases hs; exact ⟨_, _, rfl, q.1, q.2, rfl, rfl, rfl, rfl⟩
    · cases hs
  · cases hs
theorem iv_stL {i w : Nat} (hs : stL i n w pc ls st h = some (pc', ls', st', h')) : ∃ x r, st = .long x :: r ∧ n = w ∧ i + 1 < ls.length ∧ pc' = pc + w ∧ ls' = sto2 ls i (.long x) ∧ st' = r ∧ h' = h := by
  unfold stL goT at hs
  split at hs
  · split at hs
    · rename_i q; cases hs; exact ⟨_, _, rfl, q.1, q.2, rfl, rfl, rfl, rfl⟩
    · cases hs
  · cases hs
theorem iv_stA {i w : Nat} (hs : stA i n w pc ls st h = some (pc', ls', st', h')) : ∃ v r, st = v :: r ∧ (v = .null ∨ ∃ a, v = .ref a) ∧ n = w ∧ i < ls.length ∧ pc' = pc + w ∧ ls' = sto1 ls i v ∧ st' = r ∧ h' = h := by
  unfold stA goT at hs
  split at hs
  · split at hs
    · rename_i q; cases hs; exact ⟨_, _, rfl, Or.inr ⟨_, rfl⟩, q.1, q.2, rfl, rfl, rfl, rfl⟩
    · cases hs
  · split at hs
    · rename_i q; cases hs; exact ⟨_, _, rfl, Or.inl rfl, q.1, q.2, rfl, rfl, rfl, rfl⟩
    · cases hs
  · cases hs
theorem iv_Inc {i : Nat} {c : Int} (hs : opInc i c n pc ls st h = some (pc', ls', st', h')) : ∃ x, ls[i]? = some (.int x) ∧ n = 3 ∧ pc' = pc + 3 ∧ ls' = sto1 ls i (.int (x + Int32.ofInt c)) ∧ st' = st ∧ h' = h := by
  unfold opInc goT at hs
  split at hs
  · split at hs
    · cases hs; exact ⟨_, by assumption, by assumption, rfl, rfl, rfl, rfl⟩
    · cases hs
  · cases hs
theorem iv_Ial (hs : opIal n pc ls st h = some (pc', ls', st', h')) : ∃ i a r, st = .int i :: .ref a :: r ∧ n = 1 ∧ (kd h a = 20 ∨ kd h a = 40) ∧ inb i (ln h a) = true ∧ pc' = pc + 1 ∧ ls' = ls ∧ st' = .int (gI h a (ix i)) :: r ∧ h' = h := by
  unfold opIal goT at hs
  split at hs
  · split at hs
    · rename_i q; cases hs; exact ⟨_, _, _, rfl, q.1, q.2.1, q.2.2, rfl, rfl, rfl, rfl⟩
    · cases hs
  · cases hs
theorem iv_Lal (hs : opLal n pc ls st h = some (pc', ls', st', h')) : ∃ i a r, st = .int i :: .ref a :: r ∧ n = 1 ∧ kd h a = 21 ∧ inb i (ln h a) = true ∧ pc' = pc + 1 ∧ ls' = ls ∧ st' = .long (gL h a (ix i)) :: r ∧ h' = h := by
  unfold opLal goT at hs
  split at hs
  · split at hs
    · rename_i q; cases hs; exact ⟨_, _, _, rfl, q.1, q.2.1, q.2.2, rfl, rfl, rfl, rfl⟩
    · cases hs
  · cases hs
theorem iv_Bal (hs : opBal n pc ls st h = some (pc', ls', st', h')) : ∃ i a r, st = .int i :: .ref a :: r ∧ n = 1 ∧ (kd h a = 22 ∨ kd h a = 23 ∨ kd h a = 42) ∧ inb i (ln h a) = true ∧ pc' = pc + 1 ∧ ls' = ls ∧ st' = .int (gI h a (ix i)) :: r ∧ h' = h := by
  unfold opBal goT at hs
  split at hs
  · split at hs
    · rename_i q; cases hs; exact ⟨_, _, _, rfl, q.1, q.2.1, q.2.2, rfl, rfl, rfl, rfl⟩
    · cases hs
  · cases hs
theorem iv_Aal (hs : opAal n pc ls st h = some (pc', ls', st', h')) : ∃ i a r, st = .int i :: .ref a :: r ∧ n = 1 ∧ (24 ≤ kd h a ∧ kd h a < 30) ∧ inb i (ln h a) = true ∧ pc' = pc + 1 ∧ ls' = ls ∧ st' = va_rf (gR h a (ix i)) :: r ∧ h' = h := by
  unfold opAal goT at hs
  split at hs
  · split at hs
    · rename_i q; cases hs; exact ⟨_, _, _, rfl, q.1, q.2.1, q.2.2, rfl, rfl, rfl, rfl⟩
    · cases hs
  · cases hs
theorem iv_Ias (hs : opIas n pc ls st h = some (pc', ls', st', h')) : ∃ v i a, st = .int v :: .int i :: .ref a :: st' ∧ n = 1 ∧ kd h a = 20 ∧ inb i (ln h a) = true ∧ pc' = pc + 1 ∧ ls' = ls ∧ h' = sI h a (ix i) v := by
  unfold opIas goT at hs
  split at hs
  · split at hs
    · rename_i q; cases hs; exact ⟨_, _, _, rfl, q.1, q.2.1, q.2.2, rfl, rfl, rfl⟩
    · cases hs
  · cases hs
theorem iv_Las (hs : opLas n pc ls st h = some (pc', ls', st', h')) : ∃ v i a, st = .long v :: .int i :: .ref a :: st' ∧ n = 1 ∧ kd h a = 21 ∧ inb i (ln h a) = true ∧ pc' = pc + 1 ∧ ls' = ls ∧ h' = sL h a (ix i) v := by
  unfold opLas goT at hs
  split at hs
  · split at hs
    · rename_i q; cases hs; exact ⟨_, _, _, rfl, q.1, q.2.1, q.2.2, rfl, rfl, rfl⟩
    · cases hs
  · cases hs
theorem iv_Bas (hs : opBas n pc ls st h = some (pc', ls', st', h')) : ∃ v i a, st = .int v :: .int i :: .ref a :: st' ∧ n = 1 ∧ (kd h a = 22 ∨ kd h a = 23) ∧ inb i (ln h a) = true ∧ pc' = pc + 1 ∧ ls' = ls ∧ h' = sI h a (ix i) (if kd h a = 22 then v.toInt8.toInt32 else v &&& 1) := by
  unfold opBas goT at hs
  split at hs
  · split at hs
    · rename_i q; cases hs; exact ⟨_, _, _, rfl, q.1, q.2.1, q.2.2, rfl, rfl, rfl⟩
    · cases hs
  · cases hs
theorem iv_Aas (hs : opAas n pc ls st h = some (pc', ls', st', h')) : ∃ v i a, st = .ref v :: .int i :: .ref a :: st' ∧ n = 1 ∧ (24 ≤ kd h a ∧ kd h a < 28) ∧ kd h v = elK (kd h a) ∧ inb i (ln h a) = true ∧ pc' = pc + 1 ∧ ls' = ls ∧ h' = sR h a (ix i) (some v) := by
  unfold opAas goT at hs
  split at hs
  · split at hs
    · rename_i q; cases hs; exact ⟨_, _, _, rfl, q.1, q.2.1, q.2.2.1, q.2.2.2, rfl, rfl, rfl⟩
    · cases hs
  · cases hs
theorem iv_Aln (hs : opAln n pc ls st h = some (pc', ls', st', h')) : ∃ a r, st = .ref a :: r ∧ n = 1 ∧ (20 ≤ kd h a ∧ kd h a ≤ 42 ∧ ¬ kd h a = 41 ∧ ¬ (30 ≤ kd h a ∧ kd h a < 40)) ∧ pc' = pc + 1 ∧ ls' = ls ∧ st' = .int (nI (ln h a)) :: r ∧ h' = h := by
  unfold opAln goT at hs
  split at hs
  · split at hs
    · rename_i q; cases hs; exact ⟨_, _, rfl, q.1, q.2, rfl, rfl, rfl, rfl⟩
    · cases hs
  · cases hs
theorem iv_Get {idx : Nat} (hs : opGet M idx n pc ls st h = some (pc', ls', st', h')) : ∃ a r, st = .ref a :: r ∧ n = 3 ∧ pc' = pc + 3 ∧ ls' = ls ∧ h' = h ∧ ((∃ c k t f, zFkT.lookup (zKey M idx) = some (c, k, t, f) ∧ kd h a = c + 1 ∧ st' = fvl t h a k :: r) ∨ (∃ q, zSkT.lookup (zKey M idx) = some (0, q) ∧ kd h a = 41 ∧ st' = va_rf (gR h a 0) :: r) ∨ ∃ j q, zSkT.lookup (zKey M idx) = some (j + 1, q) ∧ kd h a = 41 ∧ st' = .int 0 :: r) := by
  unfold opGet goT at hs
  split at hs
  · split at hs
    · split at hs
      · rename_i e q; cases hs; exact ⟨_, _, rfl, q.1, rfl, rfl, rfl, Or.inl ⟨_, _, _, _, e, q.2, rfl⟩⟩
      · cases hs
    · split at hs
      · split at hs
        · rename_i e q; cases hs; exact ⟨_, _, rfl, q.1, rfl, rfl, rfl, Or.inr (Or.inl ⟨_, e, q.2, rfl⟩)⟩
        · cases hs
      · rename_i j q e2 e
        split at hs
        · rename_i q; cases hs
          cases j with
          | zero => exact (e2 rfl).elim
          | succ j => exact ⟨_, _, rfl, q.1, rfl, rfl, rfl, Or.inr (Or.inr ⟨j, _, e, q.2, rfl⟩)⟩
        · cases hs
      · cases hs
  · cases hs
theorem iv_Put {idx : Nat} (hs : opPut M idx n pc ls st h = some (pc', ls', st', h')) : ∃ v a c k t f q, st = v :: .ref a :: st' ∧ zFkT.lookup (zKey M idx) = some (c, k, t, f, q) ∧ n = 3 ∧ kd h a = c + 1 ∧ (f = 0 ∨ (M.2.2.1 = c ∧ zKd M = 2)) ∧ putV t v h a k = some h' ∧ pc' = pc + 3 ∧ ls' = ls := by
  unfold opPut goT at hs
  split at hs
  · split at hs
    · split at hs
      · split at hs
        · rename_i e q x2 h2 e2; cases hs; exact ⟨_, _, _, _, _, _, _, rfl, e, q.1, q.2.1, q.2.2, e2, rfl, rfl⟩
        · cases hs
      · cases hs
    · cases hs
  · cases hs
end ZINV
section ZINV2
variable {g : Nat → Nat} {M : zM} {n pc pc' : Nat} {ls st ls' st' : List Value} {h h' : zMem}
theorem iv_Sta {idx : Nat} (hs : opSta g M idx n pc ls st h = some (pc', ls', st', h')) : ∃ i p v, zGkT.lookup (zKey M idx) = some (i, p) ∧ n = 3 ∧ pc' = pc + 3 ∧ ls' = ls ∧ h' = h ∧ st' = v :: st ∧ ((i = 10 ∧ v = .int 1) ∨ (i = 11 ∧ v = va_rf (if g 11 = 0 then none else some (g 11 - 1))) ∨ (i < 3 ∧ v = .ref (g i))) := by
  unfold opSta goT at hs
  split at hs
  · rename_i e; split at hs
    · cases hs; exact ⟨_, _, _, e, by assumption, rfl, rfl, rfl, rfl, Or.inl ⟨rfl, rfl⟩⟩
    · cases hs
  · rename_i e; split at hs
    · cases hs; exact ⟨_, _, _, e, by assumption, rfl, rfl, rfl, rfl, Or.inr (Or.inl ⟨rfl, rfl⟩)⟩
    · cases hs
  · rename_i e; split at hs
    · rename_i q; cases hs; exact ⟨_, _, _, e, q.1, rfl, rfl, rfl, rfl, Or.inr (Or.inr ⟨q.2, rfl⟩)⟩
    · cases hs
  · cases hs
theorem iv_Ldc {idx : Nat} (hs : opLdc g M idx n pc ls st h = some (pc', ls', st', h')) : n = 2 ∧ pc' = pc + 2 ∧ ls' = ls ∧ h' = h ∧ ((∃ i p, zTkT.lookup (zKey M idx) = some (i, p) ∧ st' = .ref (g (100 + i)) :: st) ∨ ∃ v p, zCkT.lookup (zKey M idx) = some (v, p) ∧ st' = .int v :: st) := by
  unfold opLdc goT at hs
  split at hs
  · rename_i e; split at hs
    · cases hs; exact ⟨by assumption, rfl, rfl, rfl, Or.inl ⟨_, _, e, rfl⟩⟩
    · cases hs
  · split at hs
    · rename_i e; split at hs
      · cases hs; exact ⟨by assumption, rfl, rfl, rfl, Or.inr ⟨_, _, e, rfl⟩⟩
      · cases hs
    · cases hs
theorem iv_Ldw {idx : Nat} (hs : opLdw g M idx n pc ls st h = some (pc', ls', st', h')) : n = 3 ∧ pc' = pc + 3 ∧ ls' = ls ∧ h' = h ∧ ((∃ i p, zTkT.lookup (zKey M idx) = some (i, p) ∧ st' = .ref (g (100 + i)) :: st) ∨ ∃ v p, zCkT.lookup (zKey M idx) = some (v, p) ∧ st' = .int v :: st) := by
  unfold opLdw goT at hs
  split at hs
  · rename_i e; split at hs
    · cases hs; exact ⟨by assumption, rfl, rfl, rfl, Or.inl ⟨_, _, e, rfl⟩⟩
    · cases hs
  · split at hs
    · rename_i e; split at hs
      · cases hs; exact ⟨by assumption, rfl, rfl, rfl, Or.inr ⟨_, _, e, rfl⟩⟩
      · cases hs
    · cases hs
theorem iv_Ld2 {idx : Nat} (hs : opLd2 M idx n pc ls st h = some (pc', ls', st', h')) : ∃ v p, zDkT.lookup (zKey M idx) = some (v, p) ∧ n = 3 ∧ pc' = pc + 3 ∧ ls' = ls ∧ h' = h ∧ st' = .long v :: st := by
  unfold opLd2 goT at hs
  split at hs
  · rename_i e; split at hs
    · cases hs; exact ⟨_, _, e, by assumption, rfl, rfl, rfl, rfl⟩
    · cases hs
  · cases hs
theorem iv_New {idx : Nat} (hs : opNew M idx n pc ls st h = some (pc', ls', st', h')) : ∃ c w p, zNkT.lookup (zKey M idx) = some (c, w, p) ∧ n = 3 ∧ w = zSl c ∧ pc' = pc + 3 ∧ ls' = ls ∧ h' = nw h (c + 1) 0 w ∧ st' = .ref (sz h) :: st := by
  unfold opNew goT at hs
  split at hs
  · rename_i e; split at hs
    · rename_i q; cases hs; exact ⟨_, _, _, e, q.1, q.2, rfl, rfl, rfl, rfl⟩
    · cases hs
  · cases hs
theorem iv_Nwa {t : ArrayType} (hs : opNwa t n pc ls st h = some (pc', ls', st', h')) : ∃ k r, st = .int k :: r ∧ n = 2 ∧ ¬ zAt t = 0 ∧ 0 ≤ k ∧ k.toNatClampNeg < 65536 ∧ pc' = pc + 2 ∧ ls' = ls ∧ h' = nw h (zAt t) k.toNatClampNeg k.toNatClampNeg ∧ st' = .ref (sz h) :: r := by
  unfold opNwa goT at hs
  split at hs
  · split at hs
    · rename_i q; cases hs; exact ⟨_, _, rfl, q.1, q.2.1, q.2.2.1, q.2.2.2, rfl, rfl, rfl, rfl⟩
    · cases hs
  · cases hs
theorem iv_Anw {idx : Nat} (hs : opAnw M idx n pc ls st h = some (pc', ls', st', h')) : ∃ k r q p, st = .int k :: r ∧ zAkT.lookup (zKey M idx) = some (q, p) ∧ n = 3 ∧ 0 ≤ k ∧ k.toNatClampNeg < 65536 ∧ pc' = pc + 3 ∧ ls' = ls ∧ h' = nw h q k.toNatClampNeg k.toNatClampNeg ∧ st' = .ref (sz h) :: r := by
  unfold opAnw goT at hs
  split at hs
  · split at hs
    · rename_i e; split at hs
      · rename_i q; cases hs; exact ⟨_, _, _, _, rfl, e, q.1, q.2.1, q.2.2, rfl, rfl, rfl, rfl⟩
      · cases hs
    · cases hs
  · cases hs
theorem iv_Mna {idx d : Nat} (hs : opMna M idx d n pc ls st h = some (pc', ls', st', h')) : ∃ w k r q e p, st = .int w :: .int k :: r ∧ zMkT.lookup (zKey M idx) = some (q, e, p) ∧ n = 4 ∧ d = 2 ∧ 0 ≤ k ∧ k.toNatClampNeg < 65536 ∧ 0 ≤ w ∧ w.toNatClampNeg < 65536 ∧ pc' = pc + 4 ∧ ls' = ls ∧ h' = nwM h q e k.toNatClampNeg w.toNatClampNeg ∧ st' = .ref (sz h) :: r := by
  unfold opMna goT at hs
  split at hs
  · split at hs
    · rename_i e; split at hs
      · rename_i q; cases hs; exact ⟨_, _, _, _, _, _, rfl, e, q.1, q.2.1, q.2.2.1, q.2.2.2.1, q.2.2.2.2.1, q.2.2.2.2.2, rfl, rfl, rfl, rfl⟩
      · cases hs
    · cases hs
  · cases hs
theorem iv_Sts {idx : Nat} (hs : opSts M idx n pc ls st h = some (pc', ls', st', h')) : ∃ p, zYkT.lookup (zKey M idx) = some p ∧ n = 3 ∧ opCpy M pc ls st h = some (pc', ls', st', h') := by
  unfold opSts at hs
  split at hs
  · rename_i e; split at hs
    · exact ⟨_, e, by assumption, hs⟩
    · cases hs
  · cases hs
theorem iv_Cpy (hs : opCpy M pc ls st h = some (pc', ls', st', h')) : ∃ k dp b sp a, st = .int k :: .int dp :: .ref b :: .int sp :: .ref a :: st' ∧ 1 ≤ zNf M ∧ catS st' + 18 ≤ zNl M ∧ rng sp k (ln h a) = true ∧ rng dp k (ln h b) = true ∧ pc' = pc + 3 ∧ ls' = ls ∧ ((kd h a = 20 ∧ kd h b = 20 ∧ h' = cpI h a (ix sp) b (ix dp) (ix k)) ∨ (kd h a = 21 ∧ kd h b = 21 ∧ h' = cpL h a (ix sp) b (ix dp) (ix k))) := by
  unfold opCpy goT at hs
  split at hs
  · split at hs
    · rename_i q; split at hs
      · rename_i q2; cases hs; exact ⟨_, _, _, _, _, rfl, q.1, q.2.1, q.2.2.1, q.2.2.2, rfl, rfl, Or.inl ⟨q2.1, q2.2, rfl⟩⟩
      · split at hs
        · rename_i q2; cases hs; exact ⟨_, _, _, _, _, rfl, q.1, q.2.1, q.2.2.1, q.2.2.2, rfl, rfl, Or.inr ⟨q2.1, q2.2, rfl⟩⟩
        · cases hs
    · cases hs
  · cases hs
theorem iv_Spc {idx : Nat} (hs : opSpc M idx n pc ls st h = some (pc', ls', st', h')) : ∃ p a, zOkT.lookup (zKey M idx) = some p ∧ st = .ref a :: st' ∧ n = 3 ∧ 1 ≤ zNf M ∧ catS st' + 12 ≤ zNl M ∧ pc' = pc + 3 ∧ ls' = ls ∧ h' = h := by
  unfold opSpc goT at hs
  split at hs
  · rename_i e; split at hs
    · split at hs
      · rename_i q; cases hs; exact ⟨_, _, e, rfl, q.1, q.2.1, q.2.2, rfl, rfl, rfl⟩
      · cases hs
    · cases hs
  · cases hs
theorem iv_Tsw {d lo hi : Int} {offs : Array Int} (hs : opTsw d lo hi offs pc ls st h = some (pc', ls', st', h')) : ∃ x, st = .int x :: st' ∧ ls' = ls ∧ h' = h ∧ (((x.toInt < lo ∨ hi < x.toInt) ∧ 0 ≤ (pc : Int) + d ∧ pc' = jmp pc d) ∨ (¬ x.toInt < lo ∧ ¬ hi < x.toInt ∧ ∃ o, offs[(x.toInt - lo).toNat]? = some o ∧ 0 ≤ (pc : Int) + o ∧ pc' = jmp pc o)) := by
  unfold opTsw goT at hs
  split at hs
  · split at hs
    · rename_i q; split at hs
      · cases hs; exact ⟨_, rfl, rfl, rfl, Or.inl ⟨q, by assumption, rfl⟩⟩
      · cases hs
    · rename_i q; split at hs
      · rename_i e; split at hs
        · cases hs; exact ⟨_, rfl, rfl, rfl, Or.inr ⟨fun z => q (Or.inl z), fun z => q (Or.inr z), _, e, by assumption, rfl⟩⟩
        · cases hs
      · cases hs
  · cases hs
theorem iv_Dup (hs : opDup n pc ls st h = some (pc', ls', st', h')) : ∃ v r, st = v :: r ∧ n = 1 ∧ v.category = 1 ∧ pc' = pc + 1 ∧ ls' = ls ∧ st' = v :: v :: r ∧ h' = h := by
  unfold opDup goT at hs
  split at hs
  · split at hs
    · rename_i q; cases hs; exact ⟨_, _, rfl, q.1, q.2, rfl, rfl, rfl, rfl⟩
    · cases hs
  · cases hs
theorem iv_Pop (hs : opPop n pc ls st h = some (pc', ls', st', h')) : ∃ v, st = v :: st' ∧ n = 1 ∧ v.category = 1 ∧ pc' = pc + 1 ∧ ls' = ls ∧ h' = h := by
  unfold opPop goT at hs
  split at hs
  · split at hs
    · rename_i q; cases hs; exact ⟨_, rfl, q.1, q.2, rfl, rfl, rfl⟩
    · cases hs
  · cases hs
theorem iv_Dx1 (hs : opDx1 n pc ls st h = some (pc', ls', st', h')) : ∃ v w r, st = v :: w :: r ∧ n = 1 ∧ v.category = 1 ∧ w.category = 1 ∧ pc' = pc + 1 ∧ ls' = ls ∧ st' = v :: w :: v :: r ∧ h' = h := by
  unfold opDx1 goT at hs
  split at hs
  · split at hs
    · rename_i q; cases hs; exact ⟨_, _, _, rfl, q.1, q.2.1, q.2.2, rfl, rfl, rfl, rfl⟩
    · cases hs
  · cases hs
theorem iv_Du2 (hs : opDu2 n pc ls st h = some (pc', ls', st', h')) : ∃ v w r, st = v :: w :: r ∧ n = 1 ∧ v.category = 1 ∧ w.category = 1 ∧ pc' = pc + 1 ∧ ls' = ls ∧ st' = v :: w :: v :: w :: r ∧ h' = h := by
  unfold opDu2 goT at hs
  split at hs
  · split at hs
    · rename_i q; cases hs; exact ⟨_, _, _, rfl, q.1, q.2.1, q.2.2, rfl, rfl, rfl, rfl⟩
    · cases hs
  · cases hs
theorem iv_Cal {kk idx : Nat} {st : List Value} {N : zM} {as rest : List Value} (hs : opCal M kk idx n st = some (N, as, rest)) : ∃ q, zLkT.lookup (zKey M idx) = some (N, q) ∧ n = 3 ∧ zKd N = kk ∧ zNf N + 1 ≤ zNf M ∧ zNl N + zMx N + 19 ≤ zNl M ∧ (lcl as).length ≤ zMx N ∧ as.length = zAr kk N ∧ catS rest ≤ 8 ∧ st = as.reverse ++ rest ∧ as = (st.take (zAr kk N)).reverse := by
  unfold opCal at hs
  split at hs
  · rename_i e
    split at hs
    · rename_i q
      obtain ⟨q1, q2, q3, q4, q5, q6, q7⟩ := q
      cases hs
      exact ⟨_, e, q1, q2, q3, q4, q5, by simp; omega, q7, by simp, rfl⟩
    · cases hs
  · cases hs
end ZINV2
