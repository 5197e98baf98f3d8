/-! runs: the JVM follows them -/
theorem putV_sz {t : Nat} {v : Value} {h h' : zMem} {a k : Nat} (hv : putV t v h a k = some h') : sz h' = sz h ∧ sl h' = sl h := by
  unfold putV at hv
  split at hv
  · cases hv; exact ⟨rfl, rfl⟩
  · cases hv; exact ⟨rfl, rfl⟩
  · cases hv; exact ⟨rfl, rfl⟩
  · cases hv; exact ⟨rfl, rfl⟩
  · split at hv
    · cases hv; exact ⟨rfl, rfl⟩
    · cases hv
  · cases hv
theorem stp_sz {g : Nat → Nat} {M : zM} {i : Instr} {n pc pc' : Nat} {ls st ls' st' : List Value} {h h' : zMem} (hs : stp g M i n pc ls st h = some (pc', ls', st', h')) : sz h ≤ sz h' ∧ sl h ≤ sl h' := by
  cases i with
  | iconst v =>
    simp only [stp, goT] at hs
    split at hs
    · cases hs; exact ⟨Nat.le_refl _, Nat.le_refl _⟩
    · cases hs
  | bipush v =>
    simp only [stp, goT] at hs
    split at hs
    · cases hs; exact ⟨Nat.le_refl _, Nat.le_refl _⟩
    · cases hs
  | sipush v =>
    simp only [stp, goT] at hs
    split at hs
    · cases hs; exact ⟨Nat.le_refl _, Nat.le_refl _⟩
    · cases hs
  | lconst v =>
    simp only [stp, goT] at hs
    split at hs
    · cases hs; exact ⟨Nat.le_refl _, Nat.le_refl _⟩
    · cases hs
  | aconst_null =>
    simp only [stp, goT] at hs
    split at hs
    · cases hs; exact ⟨Nat.le_refl _, Nat.le_refl _⟩
    · cases hs
  | iadd =>
    obtain ⟨x, y, r, rfl, rfl, rfl, rfl, rfl, rfl⟩ := iv_II hs
    all_goals exact ⟨Nat.le_refl _, Nat.le_refl _⟩
  | isub =>
    obtain ⟨x, y, r, rfl, rfl, rfl, rfl, rfl, rfl⟩ := iv_II hs
    all_goals exact ⟨Nat.le_refl _, Nat.le_refl _⟩
  | imul =>
    obtain ⟨x, y, r, rfl, rfl, rfl, rfl, rfl, rfl⟩ := iv_II hs
    all_goals exact ⟨Nat.le_refl _, Nat.le_refl _⟩
  | iand =>
    obtain ⟨x, y, r, rfl, rfl, rfl, rfl, rfl, rfl⟩ := iv_II hs
    all_goals exact ⟨Nat.le_refl _, Nat.le_refl _⟩
  | ior =>
    obtain ⟨x, y, r, rfl, rfl, rfl, rfl, rfl, rfl⟩ := iv_II hs
    all_goals exact ⟨Nat.le_refl _, Nat.le_refl _⟩
  | ixor =>
    obtain ⟨x, y, r, rfl, rfl, rfl, rfl, rfl, rfl⟩ := iv_II hs
    all_goals exact ⟨Nat.le_refl _, Nat.le_refl _⟩
  | ishl =>
    obtain ⟨x, y, r, rfl, rfl, rfl, rfl, rfl, rfl⟩ := iv_II hs
    all_goals exact ⟨Nat.le_refl _, Nat.le_refl _⟩
  | ishr =>
    obtain ⟨x, y, r, rfl, rfl, rfl, rfl, rfl, rfl⟩ := iv_II hs
    all_goals exact ⟨Nat.le_refl _, Nat.le_refl _⟩
  | iushr =>
    obtain ⟨x, y, r, rfl, rfl, rfl, rfl, rfl, rfl⟩ := iv_II hs
    all_goals exact ⟨Nat.le_refl _, Nat.le_refl _⟩
  | idiv =>
    obtain ⟨x, y, r, rfl, rfl, hy, rfl, rfl, rfl, rfl⟩ := iv_Div hs
    all_goals exact ⟨Nat.le_refl _, Nat.le_refl _⟩
  | irem =>
    obtain ⟨x, y, r, rfl, rfl, hy, rfl, rfl, rfl, rfl⟩ := iv_Div hs
    all_goals exact ⟨Nat.le_refl _, Nat.le_refl _⟩
  | ladd =>
    obtain ⟨x, y, r, rfl, rfl, rfl, rfl, rfl, rfl⟩ := iv_LL hs
    all_goals exact ⟨Nat.le_refl _, Nat.le_refl _⟩
  | lsub =>
    obtain ⟨x, y, r, rfl, rfl, rfl, rfl, rfl, rfl⟩ := iv_LL hs
    all_goals exact ⟨Nat.le_refl _, Nat.le_refl _⟩
  | lmul =>
    obtain ⟨x, y, r, rfl, rfl, rfl, rfl, rfl, rfl⟩ := iv_LL hs
    all_goals exact ⟨Nat.le_refl _, Nat.le_refl _⟩
  | land =>
    obtain ⟨x, y, r, rfl, rfl, rfl, rfl, rfl, rfl⟩ := iv_LL hs
    all_goals exact ⟨Nat.le_refl _, Nat.le_refl _⟩
  | lor =>
    obtain ⟨x, y, r, rfl, rfl, rfl, rfl, rfl, rfl⟩ := iv_LL hs
    all_goals exact ⟨Nat.le_refl _, Nat.le_refl _⟩
  | lxor =>
    obtain ⟨x, y, r, rfl, rfl, rfl, rfl, rfl, rfl⟩ := iv_LL hs
    all_goals exact ⟨Nat.le_refl _, Nat.le_refl _⟩
  | lshl =>
    obtain ⟨x, y, r, rfl, rfl, rfl, rfl, rfl, rfl⟩ := iv_LI hs
    all_goals exact ⟨Nat.le_refl _, Nat.le_refl _⟩
  | lshr =>
    obtain ⟨x, y, r, rfl, rfl, rfl, rfl, rfl, rfl⟩ := iv_LI hs
    all_goals exact ⟨Nat.le_refl _, Nat.le_refl _⟩
  | lushr =>
    obtain ⟨x, y, r, rfl, rfl, rfl, rfl, rfl, rfl⟩ := iv_LI hs
    all_goals exact ⟨Nat.le_refl _, Nat.le_refl _⟩
  | ineg =>
    obtain ⟨x, r, rfl, rfl, rfl, rfl, rfl, rfl⟩ := iv_I hs
    all_goals exact ⟨Nat.le_refl _, Nat.le_refl _⟩
  | lneg =>
    obtain ⟨x, r, rfl, rfl, rfl, rfl, rfl, rfl⟩ := iv_L hs
    all_goals exact ⟨Nat.le_refl _, Nat.le_refl _⟩
  | i2l =>
    obtain ⟨x, r, rfl, rfl, rfl, rfl, rfl, rfl⟩ := iv_I hs
    all_goals exact ⟨Nat.le_refl _, Nat.le_refl _⟩
  | i2b =>
    obtain ⟨x, r, rfl, rfl, rfl, rfl, rfl, rfl⟩ := iv_I hs
    all_goals exact ⟨Nat.le_refl _, Nat.le_refl _⟩
  | i2s =>
    obtain ⟨x, r, rfl, rfl, rfl, rfl, rfl, rfl⟩ := iv_I hs
    all_goals exact ⟨Nat.le_refl _, Nat.le_refl _⟩
  | i2c =>
    obtain ⟨x, r, rfl, rfl, rfl, rfl, rfl, rfl⟩ := iv_I hs
    all_goals exact ⟨Nat.le_refl _, Nat.le_refl _⟩
  | l2i =>
    obtain ⟨x, r, rfl, rfl, rfl, rfl, rfl, rfl⟩ := iv_L hs
    all_goals exact ⟨Nat.le_refl _, Nat.le_refl _⟩
  | lcmp =>
    simp only [stp, goT] at hs
    split at hs
    · split at hs
      · cases hs; exact ⟨Nat.le_refl _, Nat.le_refl _⟩
      · cases hs
    · cases hs
  | ifCond cd off =>
    obtain ⟨x, r, rfl, rfl, h0, rfl, rfl, rfl, rfl⟩ := iv_If hs
    all_goals exact ⟨Nat.le_refl _, Nat.le_refl _⟩
  | if_icmp cd off =>
    obtain ⟨x, y, r, rfl, rfl, h0, rfl, rfl, rfl, rfl⟩ := iv_Icmp hs
    all_goals exact ⟨Nat.le_refl _, Nat.le_refl _⟩
  | ifnull off =>
    obtain ⟨r, rfl, h0, rfl, rfl, rfl, ⟨rfl, rfl⟩ | ⟨a, rfl, rfl⟩⟩ := iv_Nul hs
    all_goals exact ⟨Nat.le_refl _, Nat.le_refl _⟩
  | ifnonnull off =>
    obtain ⟨r, rfl, h0, rfl, rfl, rfl, ⟨rfl, rfl⟩ | ⟨a, rfl, rfl⟩⟩ := iv_Nul hs
    all_goals exact ⟨Nat.le_refl _, Nat.le_refl _⟩
  | goto off =>
    simp only [stp, goT] at hs
    split at hs
    · cases hs; exact ⟨Nat.le_refl _, Nat.le_refl _⟩
    · cases hs
  | iload j =>
    obtain ⟨x, hj, rfl, rfl, rfl, rfl, rfl⟩ := iv_ldI hs
    all_goals exact ⟨Nat.le_refl _, Nat.le_refl _⟩
  | iload_n j =>
    obtain ⟨x, hj, rfl, rfl, rfl, rfl, rfl⟩ := iv_ldI hs
    all_goals exact ⟨Nat.le_refl _, Nat.le_refl _⟩
  | lload j =>
    obtain ⟨x, hj, rfl, rfl, rfl, rfl, rfl⟩ := iv_ldL hs
    all_goals exact ⟨Nat.le_refl _, Nat.le_refl _⟩
  | lload_n j =>
    obtain ⟨x, hj, rfl, rfl, rfl, rfl, rfl⟩ := iv_ldL hs
    all_goals exact ⟨Nat.le_refl _, Nat.le_refl _⟩
  | aload j =>
    obtain ⟨v, hj, hv, rfl, rfl, rfl, rfl, rfl⟩ := iv_ldA hs
    all_goals exact ⟨Nat.le_refl _, Nat.le_refl _⟩
  | aload_n j =>
    obtain ⟨v, hj, hv, rfl, rfl, rfl, rfl, rfl⟩ := iv_ldA hs
    all_goals exact ⟨Nat.le_refl _, Nat.le_refl _⟩
  | istore j =>
    obtain ⟨x, r, rfl, rfl, hj, rfl, rfl, rfl, rfl⟩ := iv_stI hs
    all_goals exact ⟨Nat.le_refl _, Nat.le_refl _⟩
  | istore_n j =>
    obtain ⟨x, r, rfl, rfl, hj, rfl, rfl, rfl, rfl⟩ := iv_stI hs
    all_goals exact ⟨Nat.le_refl _, Nat.le_refl _⟩
  | lstore j =>
    obtain ⟨x, r, rfl, rfl, hj, rfl, rfl, rfl, rfl⟩ := iv_stL hs
    all_goals exact ⟨Nat.le_refl _, Nat.le_refl _⟩
  | lstore_n j =>
    obtain ⟨x, r, rfl, rfl, hj, rfl, rfl, rfl, rfl⟩ := iv_stL hs
    all_goals exact ⟨Nat.le_refl _, Nat.le_refl _⟩
  | astore j =>
    obtain ⟨v, r, rfl, hv, rfl, hj, rfl, rfl, rfl, rfl⟩ := iv_stA hs
    all_goals exact ⟨Nat.le_refl _, Nat.le_refl _⟩
  | astore_n j =>
    obtain ⟨v, r, rfl, hv, rfl, hj, rfl, rfl, rfl, rfl⟩ := iv_stA hs
    all_goals exact ⟨Nat.le_refl _, Nat.le_refl _⟩
  | iinc j cst =>
    obtain ⟨x, hj, rfl, rfl, rfl, rfl, rfl⟩ := iv_Inc hs
    all_goals exact ⟨Nat.le_refl _, Nat.le_refl _⟩
  | iaload =>
    obtain ⟨i, a, r, rfl, rfl, hk, hi, rfl, rfl, rfl, rfl⟩ := iv_Ial hs
    all_goals exact ⟨Nat.le_refl _, Nat.le_refl _⟩
  | laload =>
    obtain ⟨i, a, r, rfl, rfl, hk, hi, rfl, rfl, rfl, rfl⟩ := iv_Lal hs
    all_goals exact ⟨Nat.le_refl _, Nat.le_refl _⟩
  | baload =>
    obtain ⟨i, a, r, rfl, rfl, hk, hi, rfl, rfl, rfl, rfl⟩ := iv_Bal hs
    all_goals exact ⟨Nat.le_refl _, Nat.le_refl _⟩
  | aaload =>
    obtain ⟨i, a, r, rfl, rfl, hk, hi, rfl, rfl, rfl, rfl⟩ := iv_Aal hs
    all_goals exact ⟨Nat.le_refl _, Nat.le_refl _⟩
  | iastore =>
    obtain ⟨v, i, a, rfl, rfl, hk, hi, rfl, rfl, rfl⟩ := iv_Ias hs
    all_goals exact ⟨Nat.le_refl _, Nat.le_refl _⟩
  | lastore =>
    obtain ⟨v, i, a, rfl, rfl, hk, hi, rfl, rfl, rfl⟩ := iv_Las hs
    all_goals exact ⟨Nat.le_refl _, Nat.le_refl _⟩
  | bastore =>
    obtain ⟨v, i, a, rfl, rfl, hk, hi, rfl, rfl, rfl⟩ := iv_Bas hs
    all_goals exact ⟨Nat.le_refl _, Nat.le_refl _⟩
  | aastore =>
    obtain ⟨v, i, a, rfl, rfl, hk, hv, hi, rfl, rfl, rfl⟩ := iv_Aas hs
    all_goals exact ⟨Nat.le_refl _, Nat.le_refl _⟩
  | arraylength =>
    obtain ⟨a, r, rfl, rfl, hk, rfl, rfl, rfl, rfl⟩ := iv_Aln hs
    all_goals exact ⟨Nat.le_refl _, Nat.le_refl _⟩
  | pop =>
    obtain ⟨v, rfl, rfl, hv, rfl, rfl, rfl⟩ := iv_Pop hs
    all_goals exact ⟨Nat.le_refl _, Nat.le_refl _⟩
  | dup =>
    obtain ⟨v, r, rfl, rfl, hv, rfl, rfl, rfl, rfl⟩ := iv_Dup hs
    all_goals exact ⟨Nat.le_refl _, Nat.le_refl _⟩
  | dup_x1 =>
    obtain ⟨v, w2, r, rfl, rfl, hv, hw, rfl, rfl, rfl, rfl⟩ := iv_Dx1 hs
    all_goals exact ⟨Nat.le_refl _, Nat.le_refl _⟩
  | dup2 =>
    obtain ⟨v, w2, r, rfl, rfl, hv, hw, rfl, rfl, rfl, rfl⟩ := iv_Du2 hs
    all_goals exact ⟨Nat.le_refl _, Nat.le_refl _⟩
  | tableswitch d lo hi offs =>
    obtain ⟨x, rfl, rfl, rfl, ⟨h1, h0, rfl⟩ | ⟨h1, h2, o, ho, h0, rfl⟩⟩ := iv_Tsw hs
    all_goals exact ⟨Nat.le_refl _, Nat.le_refl _⟩
  | getfield idx =>
    obtain ⟨a, r, rfl, rfl, rfl, rfl, rfl, ⟨c2, k2, t, f, hl2, hk, rfl⟩ | ⟨q, hl2, hk, rfl⟩ | ⟨j, q, hl2, hk, rfl⟩⟩ := iv_Get hs
    all_goals exact ⟨Nat.le_refl _, Nat.le_refl _⟩
  | putfield idx =>
    obtain ⟨v, a, c2, k2, t, f, q, rfl, hl2, rfl, hk, hf, hv, rfl, rfl⟩ := iv_Put hs
    obtain ⟨z1, z2⟩ := putV_sz hv
    exact ⟨by omega, by omega⟩
  | getstatic idx =>
    obtain ⟨j, q, v, hl2, rfl, rfl, rfl, rfl, rfl, hv⟩ := iv_Sta hs
    all_goals exact ⟨Nat.le_refl _, Nat.le_refl _⟩
  | ldc idx =>
    obtain ⟨rfl, rfl, rfl, rfl, ⟨j, q, hl2, rfl⟩ | ⟨v, q, hl2, rfl⟩⟩ := iv_Ldc hs
    all_goals exact ⟨Nat.le_refl _, Nat.le_refl _⟩
  | ldc_w idx =>
    obtain ⟨rfl, rfl, rfl, rfl, ⟨j, q, hl2, rfl⟩ | ⟨v, q, hl2, rfl⟩⟩ := iv_Ldw hs
    all_goals exact ⟨Nat.le_refl _, Nat.le_refl _⟩
  | ldc2_w idx =>
    obtain ⟨v, q, hl2, rfl, rfl, rfl, rfl, rfl⟩ := iv_Ld2 hs
    all_goals exact ⟨Nat.le_refl _, Nat.le_refl _⟩
  | new idx =>
    obtain ⟨c2, w, q, hl2, rfl, hw, rfl, rfl, rfl, rfl⟩ := iv_New hs
    obtain ⟨f1, f2, -⟩ := nw_f (h := h) (k := c2 + 1) (n := 0) (w := w)
    exact ⟨by omega, by omega⟩
  | newarray t =>
    obtain ⟨x, r, rfl, rfl, ht, h0, h1, rfl, rfl, rfl, rfl⟩ := iv_Nwa hs
    obtain ⟨f1, f2, -⟩ := nw_f (h := h) (k := zAt t) (n := x.toNatClampNeg) (w := x.toNatClampNeg)
    exact ⟨by omega, by omega⟩
  | anewarray idx =>
    obtain ⟨x, r, q, w, rfl, hl2, rfl, h0, h1, rfl, rfl, rfl, rfl⟩ := iv_Anw hs
    obtain ⟨f1, f2, -⟩ := nw_f (h := h) (k := q) (n := x.toNatClampNeg) (w := x.toNatClampNeg)
    exact ⟨by omega, by omega⟩
  | multianewarray idx d =>
    obtain ⟨w, x, r, q, q2, w2, rfl, hl2, rfl, rfl, h0, h1, h2, h3, rfl, rfl, rfl, rfl⟩ := iv_Mna hs
    obtain ⟨f1, f2, -⟩ := nwM_f (h := h) (K := q) (k := q2) (n := x.toNatClampNeg) (w := w.toNatClampNeg)
    exact ⟨by omega, by omega⟩
  | invokestatic idx =>
    obtain ⟨q, hl2, rfl, hs2⟩ := iv_Sts hs
    obtain ⟨x, dp, b, sp, a, rfl, u1, u2, u3, u4, rfl, rfl, hk⟩ := iv_Cpy hs2
    rcases hk with ⟨-, -, rfl⟩ | ⟨-, -, rfl⟩ <;> exact ⟨Nat.le_refl _, Nat.le_refl _⟩
  | invokespecial idx =>
    obtain ⟨q, a, hl2, rfl, rfl, u1, u2, rfl, rfl, rfl⟩ := iv_Spc hs
    all_goals exact ⟨Nat.le_refl _, Nat.le_refl _⟩
  | _ => exact absurd hs (by intro z; cases z)
theorem exec_sz {g : Nat → Nat} : ∀ {k : Nat} {M : zM} {pc : Nat} {ls st : List Value} {h h' : zMem} {r : Option Value}, exec g k M pc ls st h = some (r, h') → sz h ≤ sz h' ∧ sl h ≤ sl h' := by
  intro k
  induction k with
  | zero => intro M pc ls st h h' r hx; cases hx
  | succ k ih =>
    intro M pc ls st h h' r hx
    obtain ⟨i, n, hd, ⟨r, hr, e⟩ | ⟨hr, N, as, rest, r, h1, hc, h2, h3⟩ | ⟨hr, hc, pc', ls', st', h1, hs, h2⟩⟩ := exec_iv hx
    · cases e; exact ⟨Nat.le_refl _, Nat.le_refl _⟩
    · have a := ih h2
      have b := ih h3
      exact ⟨Nat.le_trans a.1 b.1, Nat.le_trans a.2 b.2⟩
    · have a := stp_sz hs
      have b := ih h2
      exact ⟨Nat.le_trans a.1 b.1, Nat.le_trans a.2 b.2⟩
theorem rtn_iv {M : zM} {i : Instr} {n : Nat} {st : List Value} {r : Option Value} (h : rtn M i n st = some r) : st = r.toList := by
  cases i with
  | ireturn =>
    simp only [rtn, opRet] at h
    split at h
    · split at h
      · split at h <;> (try split at h) <;> first | (cases h; rfl) | cases h
      · cases h
    · cases h
  | lreturn =>
    simp only [rtn, opLrt] at h
    split at h
    · split at h
      · cases h; rfl
      · cases h
    · cases h
  | return_ =>
    simp only [rtn, opVrt] at h
    split at h
    · split at h
      · cases h; rfl
      · cases h
    · cases h
  | _ => exact absurd h (by intro z; cases z)
def zWs (N : zM) : List Jvm.Cond := .code (zY N) (zCode N) (zMx N) (zRt N) :: zTb
def zRm (N : zM) (a b : Nat) : Room := { frames := zNf N, cells := a, slots := b, locals := zNl N }
def zPc (E : zE) (g : Nat → Nat) (as : List Value) (h : zMem) : Array Value → State → Prop := va_Pc as (fun U => HR E h U.heap ∧ va_K E.1 vwCl (zTys E) U ∧ CR E g U U.heap)
def zQ (E : zE) (h1 : zMem) (v : Option Value) : Array Value → State → Outcome → State → Prop := fun _ st o t => o = .returned v ∧ HR E h1 t.heap ∧ va_F (zA E) st t
theorem zGood {L : List Jvm.Cond} (h : ∀ w ∈ L, w ∈ zTb) : GoodIn zTb L := fun w hw => ⟨h w hw, good_of_word (List.mem_filter.mp (h w hw)).2⟩
theorem zPc_bl {E : zE} {g : Nat → Nat} {as : List Value} {h : zMem} : FrameBlind (zPc E g as h) := fun a U f mk q => ⟨q.1, q.2.1, va_K.moved (u := U) (U := U.calling f mk a) (Vm.Alike.refl U.vm) q.2.2.1, CR.same (s := U) (U := U.calling f mk a) rfl q.2.2.2⟩
section ZRUN
variable {p : Program} {l : Launch} {e : Env} {R : Room} {s : State} {m : MethodId} {args : Array Value} {below : List Frame} {meth : Method} {c : Code} {Q : State → Prop} {E : zE} {g : Nat → Nat} {M : zM} {hin h h' : zMem} {pc pc' : Nat} {ls st ls' st' : List Value}
theorem zs_after {H : Heap} {locs : List Loc} {la : Array Slot} {h1 : zMem} {v : Option Value} {a : Array Value} {rest : List Value} {g0 : JFrame} (hrun : va_Run p l e R s m args below meth c H locs (sz h - s.heap.size) (sl h - sl hin) (sz h1 - sz h) (sl h1 - sl h) (F0 m pc la st) rest (zQ E h1 v a) (zA E)) (hm1 : s.heap.size ≤ sz h) (hm2 : sl hin ≤ sl h) (hz1 : sz h ≤ sz h1) (hz2 : sl h ≤ sl h1) (hl : LR la (zMx M) ls) (hS : va_S (zA E) s.heap H locs) (k : zGo p l e R s m args below meth c Q E M hin h1 (pc + 3) ls (v.toList ++ rest)) : W p l e R s m args below meth c H locs (sz h - s.heap.size) (sl h - sl hin) Q (F0 m pc la st) := by
  intro T hT X
  obtain ⟨v', st0, t, T', L, e0, X', hL, e1, e2, ⟨hv, hR1, hF1, hF2⟩, stp9⟩ := hrun T hT X
  cases hv
  rw [e0] at hF1 hF2
  have k2 := k T'.heap (locs ++ L) la (by rw [e1]; exact hR1) hl ⟨Nat.le_trans hS.1 (by rw [e1]; exact hF1), fun q w1 w2 => by rw [e1, hF2 q (Nat.lt_of_lt_of_le w1 hS.1) w2]; exact hS.2.1 q w1 w2, fun q hq => by
    rcases List.mem_append.mp hq with w | w
    · exact hS.2.2 q w
    · exact hL q w⟩
  rw [show sz h1 - s.heap.size = sz h - s.heap.size + (sz h1 - sz h) by omega, show sl h1 - sl hin = sl h - sl hin + (sl h1 - sl h) by omega] at k2
  obtain ⟨t2, a1, b1⟩ := k2 T' rfl X'
  exact ⟨t2, stp9 t2 a1, b1⟩
theorem zs_call (hX : zX E g M p s m args meth c) {i : Instr} {n : Nat} (hd : decode (zCode M) pc = .ok (i, n)) {N : zM} {as rest : List Value} (hc : cal M i n st h = some (N, as, rest)) {v : Option Value} {h1 : zMem} (hM : ∀ q, (zKey M q, N) ∈ zLkT.map (fun x => (x.1, x.2.1)) → Met l (zY N) (zWs N) (zRm N (sz h1 - sz h) (sl h1 - sl h)) (zPc E g as h) (zQ E h1 v) (sz h1 - sz h) (sl h1 - sl h) (zA E)) (hm1 : s.heap.size ≤ sz h) (hm2 : sl hin ≤ sl h) (hz1 : sz h ≤ sz h1) (hz2 : sl h ≤ sl h1) (hr1 : sz h1 - s.heap.size ≤ R.cells) (hr2 : sl h1 - sl hin ≤ R.slots) (hR1 : zNf M ≤ R.frames) (hR2 : zNl M ≤ R.locals) (k : zGo p l e R s m args below meth c Q E M hin h1 (pc + 3) ls (v.toList ++ rest)) : zGo p l e R s m args below meth c Q E M hin h pc ls st := by
  obtain ⟨hx, hb, hml, hown, hts, hK, hC, hin1, hbs⟩ := hX
  intro H locs la hR hl hS
  have gen : ∀ {kk idx : Nat}, opCal M kk idx n st = some (N, as, rest) → ∃ q, zLkT.lookup (zKey M idx) = some (N, q) ∧ n = 3 ∧ zKd N = kk ∧ as.length = zAr kk N ∧ catS rest ≤ 8 ∧ st = as.reverse ++ rest ∧ as = (st.take (zAr kk N)).reverse ∧ CallB R s args (zOwn M.2.2.1) idx (zY N) (zCode N) (zMx N) (zRt N) (zWs N) (zRm N (sz h1 - sz h) (sl h1 - sl h)) (sz h1 - sz h) (sl h1 - sl h) (zNp N) ∧ (if zKd N = 0 then (Cond.static (zY N)).before args s = true else (Cond.instanceMethod (zY N)).before args s = true) ∧ (zKd N = 1 → (Cond.selects (zY N).cls (zY N) (zY N)).before args s = true) ∧ (zKd N = 2 → (zY N).name = "<init>" ∧ zRt N = none) ∧ (zY N).cls = zOwn N.2.2.1 ∧ Met l (zY N) (zWs N) (zRm N (sz h1 - sz h) (sl h1 - sl h)) (zPc E g as h) (zQ E h1 v) (sz h1 - sz h) (sl h1 - sl h) (zA E) := by
    intro kk idx hoc
    obtain ⟨q, hlk, w1, w2, w3, w4, w5, w6, w7, w8, w9⟩ := iv_Cal hoc
    have hm := zlk_mem hlk
    obtain ⟨o1, o2, o3, o4, o5⟩ := zL_ok _ hm
    have o6 := zL_ok2 _ hm
    obtain ⟨o7, o8, o9, o10, o11, o12⟩ := zL_ok3 _ hm
    obtain ⟨y1, y2⟩ := zKey_o o1
    dsimp only at o1 o2 o3 o4 o5 o6 o7 o8 o9 o10 o11 o12
    rw [y1, y2] at o2
    refine ⟨q, hlk, w1, w2, w6, w7, w8, w9, ?_, ?_, fun z => hts _ (zTb_of (o4 z) rfl), o12, o8, hM idx (List.mem_map.mpr ⟨_, hm, rfl⟩)⟩
    · refine callB_of (zNp N) hts (zGood (L := zWs N) fun w hw => ?_) rfl rfl rfl (hts _ (zTb_of o5 rfl)) (hts _ (zTb_of o2 rfl)) ⟨o9, o10, o11⟩ ⟨?_, ?_⟩
      · rcases List.mem_cons.mp hw with rfl | hw
        · exact zTb_of o6 rfl
        · exact hw
      · show zNf N + 1 ≤ _; omega
      · show 8 + (zMx N + 11) + zNl N ≤ _; omega
    · split at o3
      · rename_i z; rw [if_pos z]; exact hts _ (zTb_of o3 rfl)
      · rename_i z; rw [if_neg z]; exact hts _ (zTb_of o3 rfl)
  have hpre : ∀ U : State, U.heap = H → s.WarmedH U.vm → zPc E g as h as.toArray U := fun U hU hW => ⟨rfl, by rw [hU]; exact hR, va_K.moved hW.alike hK, by rw [hU]; exact hC.go hW hS.2.1⟩
  have hroom : sz h - s.heap.size + (sz h1 - sz h) ≤ R.cells ∧ sl h - sl hin + (sl h1 - sl h) ≤ R.slots := by omega
  cases i with
  | invokestatic idx =>
    simp only [cal, clSts] at hc
    split at hc
    · cases hc
    · obtain ⟨q, hlk, rfl, w2, w6, w7, w8, w9, cb, c1, c2, c3, c4, hMt⟩ := gen hc
      rw [if_pos w2] at c1
      have hAr : as.length = zNp N := by rw [w6]; rfl
      rw [w8]
      exact zs_after (g0 := F0 m pc la (as.reverse ++ rest)) (va_runS ⟨hx, hb, hml, hown, hts⟩ hMt ⟨cb, c1⟩ ⟨zPc_bl, hpre⟩ rfl hAr hl.1 rfl (lv_room w7) hd hroom) hm1 hm2 hz1 hz2 hl hS k
  | invokevirtual idx =>
    simp only [cal, clVir] at hc
    split at hc
    · rename_i N' q' hl9
      split at hc
      · rename_i a r9 hdr
        split at hc
        · rename_i hcls
          obtain ⟨q, hlk, rfl, w2, w6, w7, w8, w9, cb, c1, c2, c3, c4, hMt⟩ := gen hc
          have e9 := hl9.symm.trans hlk
          cases e9
          rw [if_neg (by omega)] at c1
          -- the receiver stands first among the arguments
          have hst : st = st.take (zNp N) ++ .ref a :: r9 := by rw [← hdr, List.take_append_drop]
          have hlen : (st.take (zNp N)).length = zNp N := by
            rw [List.length_take]
            have : zNp N < st.length := by
              rcases Nat.lt_or_ge (zNp N) st.length with z | z
              · exact z
              · rw [List.drop_eq_nil_iff.mpr z] at hdr; cases hdr
            omega
          have has : as = .ref a :: (st.take (zNp N)).reverse := by
            rw [w9]
            have e2 : st.take (zAr 1 N) = st.take (zNp N) ++ [.ref a] := by
              show st.take (zNp N + 1) = _
              conv => lhs; rw [hst]
              rw [List.take_append, hlen, List.take_of_length_le (by omega)]
              simp
            rw [e2]; simp
          have hstk : st = (st.take (zNp N)).reverse.reverse ++ .ref a :: rest := by
            conv => lhs; rw [w8, has]
            simp
          have hrecv : ∃ cellB : Cell, H[a]? = some cellB ∧ cellB.vm.isStatics = false ∧ s.vm.findClass (zY N).cls = some cellB.cls := by
            rw [c4]
            rcases hcls with ⟨z1, z2⟩ | ⟨z1, z2⟩
            · obtain ⟨q1, q2, q3⟩ := hR.own (a := a) hC (by omega) (by omega)
              rw [cellE_o z2 z1] at q3
              rw [zOwn_cn _ z1]
              exact va_recv (q0 := 0) hK (zP1 q3) (zC_cl _ z1) rfl
            · obtain ⟨q1, -⟩ := hR.cst (a := a) (by omega)
              obtain ⟨q2, q3, q4, q5, q6⟩ := hR.cst (a := a) (by omega)
              obtain ⟨cell, x1, x2, x3, x4⟩ := (hC.2.2.1 a q1 (by omega)).1
              rw [z1]
              exact ⟨cell, by rw [hS.2.1 a (Array.getElem?_eq_some_iff.mp x1).1 x4]; exact x1, x2, x3⟩
          have k9 := zs_after (g0 := F0 m pc la st) (va_runV (C := (zY N).cls) (b := a) (As := (st.take (zNp N)).reverse) (rest := rest) (H := H) (locs := locs) (cells := sz h - s.heap.size) (slots := sl h - sl hin) (g := F0 m pc la st) ⟨hx, hb, hml, hown, hts⟩ hMt ⟨cb, c1, c2 w2⟩ ⟨zPc_bl, hrecv, fun U hU hW => by rw [← has]; exact hpre U hU hW⟩ rfl (by rw [List.length_reverse]; exact hlen) hl.1 hstk (lv_room w7) hd hroom) hm1 hm2 hz1 hz2 hl hS k
          exact k9
        · cases hc
      · cases hc
    · cases hc
  | invokespecial idx =>
    simp only [cal, clSpc] at hc
    split at hc
    · cases hc
    · split at hc
      · rename_i N' q' hl9
        split at hc
        · rename_i a r9 hdr
          obtain ⟨q, hlk, rfl, w2, w6, w7, w8, w9, cb, c1, c2, c3, c4, hMt⟩ := gen hc
          have e9 := hl9.symm.trans hlk
          cases e9
          rw [if_neg (by omega)] at c1
          have hst : st = st.take (zNp N) ++ .ref a :: r9 := by rw [← hdr, List.take_append_drop]
          have hlen : (st.take (zNp N)).length = zNp N := by
            rw [List.length_take]
            have : zNp N < st.length := by
              rcases Nat.lt_or_ge (zNp N) st.length with z | z
              · exact z
              · rw [List.drop_eq_nil_iff.mpr z] at hdr; cases hdr
            omega
          have has : as = .ref a :: (st.take (zNp N)).reverse := by
            rw [w9]
            have e2 : st.take (zAr 2 N) = st.take (zNp N) ++ [.ref a] := by
              show st.take (zNp N + 1) = _
              conv => lhs; rw [hst]
              rw [List.take_append, hlen, List.take_of_length_le (by omega)]
              simp
            rw [e2]; simp
          have hstk : st = (st.take (zNp N)).reverse.reverse ++ .ref a :: rest := by
            conv => lhs; rw [w8, has]
            simp
          obtain ⟨d1, d2⟩ := c3 w2
          have cb2 := cb
          rw [d2] at cb2
          have k9 := zs_after (g0 := F0 m pc la st) (va_runI (b := a) (As := (st.take (zNp N)).reverse) (rest := rest) (H := H) (locs := locs) (cells := sz h - s.heap.size) (slots := sl h - sl hin) (g := F0 m pc la st) ⟨hx, hb, hml, hown, hts⟩ hMt ⟨cb2, d1, c1⟩ ⟨zPc_bl, fun U hU hW => by rw [← has]; exact hpre U hU hW⟩ rfl (by rw [List.length_reverse]; exact hlen) hl.1 hstk (lv_room w7) hd hroom) hm1 hm2 hz1 hz2 hl hS k
          exact k9
        · cases hc
      · cases hc
  | _ => exact absurd hc (by intro z; cases z)
end ZRUN
