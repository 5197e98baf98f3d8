/-! every instruction of the small machine is one of the JVM's -/
theorem LR.at {la : Array Slot} {n : Nat} {ls : List Value} (h : LR la n ls) {i : Nat} {v : Value} (hi : ls[i]? = some v) (hv : isV v = true) : la[i]? = some (Slot.val v) := h.2.2.2 i v hi hv
section ZSX
variable {p : Program} {l : Launch} {e : Env} {R : Room} {s : State} {m : MethodId} {args : Array Value} {below : List Frame} {meth : Method} {c : Code} {Q : State → Prop} {E : zE} {g : Nat → Nat} {M : zM} {hin h h' : zMem} {pc pc' : Nat} {ls st ls' st' : List Value}
theorem zs_if (hX : zX E g M p s m args meth c) {cd : ClassFile.Cond} {off : Int} {x : Int32} (hd : decode (zCode M) pc = .ok (.ifCond cd off, 3)) (h0 : 0 ≤ (pc : Int) + off) (k : zGo p l e R s m args below meth c Q E M hin h (if cndI cd x 0 then jmp pc off else pc + 3) ls st) : zGo p l e R s m args below meth c Q E M hin h pc ls (.int x :: st) := by
  obtain ⟨hx, hb, -⟩ := hX
  intro H locs la hR hl hS
  have k2 := k H locs la hR hl hS
  cases cd
  · exact lv_if_eq hx hb hd (jmp_ok h0) (fun z => by rw [if_pos (show cndI .eq x 0 = true from decide_eq_true z)] at k2; exact k2) (fun z => by rw [if_neg (show ¬ cndI .eq x 0 = true by simp [cndI, z])] at k2; exact k2)
  · exact lv_if_ne hx hb hd (jmp_ok h0) (fun z => by rw [if_pos (show cndI .ne x 0 = true from decide_eq_true z)] at k2; exact k2) (fun z => by rw [if_neg (show ¬ cndI .ne x 0 = true by simp [cndI, z])] at k2; exact k2)
  · exact lv_if_lt hx hb hd (jmp_ok h0) (fun z => by rw [if_pos (show cndI .lt x 0 = true from decide_eq_true z)] at k2; exact k2) (fun z => by rw [if_neg (show ¬ cndI .lt x 0 = true by simp [cndI, z])] at k2; exact k2)
  · exact lv_if_ge hx hb hd (jmp_ok h0) (fun z => by rw [if_pos (show cndI .ge x 0 = true from decide_eq_true z)] at k2; exact k2) (fun z => by rw [if_neg (show ¬ cndI .ge x 0 = true by simp [cndI, z])] at k2; exact k2)
  · exact lv_if_gt hx hb hd (jmp_ok h0) (fun z => by rw [if_pos (show cndI .gt x 0 = true from decide_eq_true z)] at k2; exact k2) (fun z => by rw [if_neg (show ¬ cndI .gt x 0 = true by simp [cndI, z])] at k2; exact k2)
  · exact lv_if_le hx hb hd (jmp_ok h0) (fun z => by rw [if_pos (show cndI .le x 0 = true from decide_eq_true z)] at k2; exact k2) (fun z => by rw [if_neg (show ¬ cndI .le x 0 = true by simp [cndI, z])] at k2; exact k2)
theorem zs_icmp (hX : zX E g M p s m args meth c) {cd : ClassFile.Cond} {off : Int} {x y : Int32} (hd : decode (zCode M) pc = .ok (.if_icmp cd off, 3)) (h0 : 0 ≤ (pc : Int) + off) (k : zGo p l e R s m args below meth c Q E M hin h (if cndI cd x y then jmp pc off else pc + 3) ls st) : zGo p l e R s m args below meth c Q E M hin h pc ls (.int y :: .int x :: st) := by
  obtain ⟨hx, hb, -⟩ := hX
  intro H locs la hR hl hS
  have k2 := k H locs la hR hl hS
  cases cd
  · exact lv_icmp_eq hx hb hd (jmp_ok h0) (fun z => by rw [if_pos (show cndI .eq x y = true from decide_eq_true z)] at k2; exact k2) (fun z => by rw [if_neg (show ¬ cndI .eq x y = true by simp [cndI, z])] at k2; exact k2)
  · exact lv_icmp_ne hx hb hd (jmp_ok h0) (fun z => by rw [if_pos (show cndI .ne x y = true from decide_eq_true z)] at k2; exact k2) (fun z => by rw [if_neg (show ¬ cndI .ne x y = true by simp [cndI, z])] at k2; exact k2)
  · exact lv_icmp_lt hx hb hd (jmp_ok h0) (fun z => by rw [if_pos (show cndI .lt x y = true from decide_eq_true z)] at k2; exact k2) (fun z => by rw [if_neg (show ¬ cndI .lt x y = true by simp [cndI, z])] at k2; exact k2)
  · exact lv_icmp_ge hx hb hd (jmp_ok h0) (fun z => by rw [if_pos (show cndI .ge x y = true from decide_eq_true z)] at k2; exact k2) (fun z => by rw [if_neg (show ¬ cndI .ge x y = true by simp [cndI, z])] at k2; exact k2)
  · exact lv_icmp_gt hx hb hd (jmp_ok h0) (fun z => by rw [if_pos (show cndI .gt x y = true from decide_eq_true z)] at k2; exact k2) (fun z => by rw [if_neg (show ¬ cndI .gt x y = true by simp [cndI, z])] at k2; exact k2)
  · exact lv_icmp_le hx hb hd (jmp_ok h0) (fun z => by rw [if_pos (show cndI .le x y = true from decide_eq_true z)] at k2; exact k2) (fun z => by rw [if_neg (show ¬ cndI .le x y = true by simp [cndI, z])] at k2; exact k2)
set_option maxHeartbeats 4000000 in
theorem zstep (hX : zX E g M p s m args meth c) {i : Instr} {n : Nat} (hd : decode (zCode M) pc = .ok (i, n)) (hs : stp g M i n pc ls st h = some (pc', ls', st', h')) (hm1 : s.heap.size ≤ sz h) (hm2 : sl hin ≤ sl h) (hr1 : sz h' - s.heap.size ≤ R.cells) (hr2 : sl h' - sl hin ≤ R.slots) (hR1 : zNf M ≤ R.frames) (hR2 : zNl M ≤ R.locals) (k : zGo p l e R s m args below meth c Q E M hin h' pc' ls' st') : zGo p l e R s m args below meth c Q E M hin h pc ls st := by
  have hx := hX.1
  have hb := hX.2.1
  cases i with
  | iconst v =>
    simp only [stp, goT] at hs
    split at hs
    · rename_i z; subst z; cases hs; exact zg_p k fun _ _ _ _ _ _ w => lv_iconst hx hb hd rfl w
    · cases hs
  | bipush v =>
    simp only [stp, goT] at hs
    split at hs
    · rename_i z; subst z; cases hs; exact zg_p k fun _ _ _ _ _ _ w => lv_bipush hx hb hd rfl w
    · cases hs
  | sipush v =>
    simp only [stp, goT] at hs
    split at hs
    · rename_i z; subst z; cases hs; exact zg_p k fun _ _ _ _ _ _ w => lv_sipush hx hb hd rfl w
    · cases hs
  | lconst v =>
    simp only [stp, goT] at hs
    split at hs
    · rename_i z; subst z; cases hs; exact zg_p k fun _ _ _ _ _ _ w => lv_lconst hx hb hd rfl w
    · cases hs
  | aconst_null =>
    simp only [stp, goT] at hs
    split at hs
    · rename_i z; subst z; cases hs; exact zg_p k fun _ _ _ _ _ _ w => lv_null hx hb hd w
    · cases hs
  | iadd =>
    obtain ⟨x, y, r, rfl, rfl, rfl, rfl, rfl, rfl⟩ := iv_II hs
    exact zg_p k fun _ _ _ _ _ _ w => lv_iadd hx hb hd w
  | isub =>
    obtain ⟨x, y, r, rfl, rfl, rfl, rfl, rfl, rfl⟩ := iv_II hs
    exact zg_p k fun _ _ _ _ _ _ w => lv_isub hx hb hd w
  | imul =>
    obtain ⟨x, y, r, rfl, rfl, rfl, rfl, rfl, rfl⟩ := iv_II hs
    exact zg_p k fun _ _ _ _ _ _ w => lv_imul hx hb hd w
  | iand =>
    obtain ⟨x, y, r, rfl, rfl, rfl, rfl, rfl, rfl⟩ := iv_II hs
    exact zg_p k fun _ _ _ _ _ _ w => lv_iand hx hb hd w
  | ior =>
    obtain ⟨x, y, r, rfl, rfl, rfl, rfl, rfl, rfl⟩ := iv_II hs
    exact zg_p k fun _ _ _ _ _ _ w => lv_ior hx hb hd w
  | ixor =>
    obtain ⟨x, y, r, rfl, rfl, rfl, rfl, rfl, rfl⟩ := iv_II hs
    exact zg_p k fun _ _ _ _ _ _ w => lv_ixor hx hb hd w
  | ishl =>
    obtain ⟨x, y, r, rfl, rfl, rfl, rfl, rfl, rfl⟩ := iv_II hs
    exact zg_p k fun _ _ _ _ _ _ w => lv_ishl hx hb hd w
  | ishr =>
    obtain ⟨x, y, r, rfl, rfl, rfl, rfl, rfl, rfl⟩ := iv_II hs
    exact zg_p k fun _ _ _ _ _ _ w => lv_ishr hx hb hd w
  | iushr =>
    obtain ⟨x, y, r, rfl, rfl, rfl, rfl, rfl, rfl⟩ := iv_II hs
    exact zg_p k fun _ _ _ _ _ _ w => lv_iushr hx hb hd rfl w
  | idiv =>
    obtain ⟨x, y, r, rfl, rfl, hy, rfl, rfl, rfl, rfl⟩ := iv_Div hs
    exact zg_p k fun _ _ _ _ _ _ w => lv_idiv hx hb hd hy w
  | irem =>
    obtain ⟨x, y, r, rfl, rfl, hy, rfl, rfl, rfl, rfl⟩ := iv_Div hs
    exact zg_p k fun _ _ _ _ _ _ w => lv_irem hx hb hd hy w
  | ladd =>
    obtain ⟨x, y, r, rfl, rfl, rfl, rfl, rfl, rfl⟩ := iv_LL hs
    exact zg_p k fun _ _ _ _ _ _ w => lv_ladd hx hb hd w
  | lsub =>
    obtain ⟨x, y, r, rfl, rfl, rfl, rfl, rfl, rfl⟩ := iv_LL hs
    exact zg_p k fun _ _ _ _ _ _ w => lv_lsub hx hb hd w
  | lmul =>
    obtain ⟨x, y, r, rfl, rfl, rfl, rfl, rfl, rfl⟩ := iv_LL hs
    exact zg_p k fun _ _ _ _ _ _ w => lv_lmul hx hb hd w
  | land =>
    obtain ⟨x, y, r, rfl, rfl, rfl, rfl, rfl, rfl⟩ := iv_LL hs
    exact zg_p k fun _ _ _ _ _ _ w => lv_land hx hb hd w
  | lor =>
    obtain ⟨x, y, r, rfl, rfl, rfl, rfl, rfl, rfl⟩ := iv_LL hs
    exact zg_p k fun _ _ _ _ _ _ w => lv_lor hx hb hd w
  | lxor =>
    obtain ⟨x, y, r, rfl, rfl, rfl, rfl, rfl, rfl⟩ := iv_LL hs
    exact zg_p k fun _ _ _ _ _ _ w => lv_lxor hx hb hd w
  | lshl =>
    obtain ⟨x, y, r, rfl, rfl, rfl, rfl, rfl, rfl⟩ := iv_LI hs
    exact zg_p k fun _ _ _ _ _ _ w => lv_lshl hx hb hd rfl w
  | lshr =>
    obtain ⟨x, y, r, rfl, rfl, rfl, rfl, rfl, rfl⟩ := iv_LI hs
    exact zg_p k fun _ _ _ _ _ _ w => lv_lshr hx hb hd rfl w
  | lushr =>
    obtain ⟨x, y, r, rfl, rfl, rfl, rfl, rfl, rfl⟩ := iv_LI hs
    exact zg_p k fun _ _ _ _ _ _ w => lv_lushr hx hb hd rfl w
  | ineg =>
    obtain ⟨x, r, rfl, rfl, rfl, rfl, rfl, rfl⟩ := iv_I hs
    exact zg_p k fun _ _ _ _ _ _ w => lv_ineg hx hb hd w
  | lneg =>
    obtain ⟨x, r, rfl, rfl, rfl, rfl, rfl, rfl⟩ := iv_L hs
    exact zg_p k fun _ _ _ _ _ _ w => lv_lneg hx hb hd w
  | i2l =>
    obtain ⟨x, r, rfl, rfl, rfl, rfl, rfl, rfl⟩ := iv_I hs
    exact zg_p k fun _ _ _ _ _ _ w => lv_i2l hx hb hd rfl w
  | i2b =>
    obtain ⟨x, r, rfl, rfl, rfl, rfl, rfl, rfl⟩ := iv_I hs
    exact zg_p k fun _ _ _ _ _ _ w => lv_i2b hx hb hd rfl w
  | i2s =>
    obtain ⟨x, r, rfl, rfl, rfl, rfl, rfl, rfl⟩ := iv_I hs
    exact zg_p k fun _ _ _ _ _ _ w => lv_i2s hx hb hd rfl w
  | i2c =>
    obtain ⟨x, r, rfl, rfl, rfl, rfl, rfl, rfl⟩ := iv_I hs
    exact zg_p k fun _ _ _ _ _ _ w => lv_i2c hx hb hd rfl w
  | l2i =>
    obtain ⟨x, r, rfl, rfl, rfl, rfl, rfl, rfl⟩ := iv_L hs
    exact zg_p k fun _ _ _ _ _ _ w => lv_l2i hx hb hd rfl w
  | lcmp =>
    simp only [stp, goT] at hs
    split at hs
    · split at hs
      · rename_i z; subst z; cases hs; exact zg_p k fun _ _ _ _ _ _ w => W.lcmp hx hb hd w
      · cases hs
    · cases hs
  | ifCond cd off =>
    obtain ⟨x, r, rfl, rfl, h0, rfl, rfl, rfl, rfl⟩ := iv_If hs
    exact zs_if hX hd h0 k
  | if_icmp cd off =>
    obtain ⟨x, y, r, rfl, rfl, h0, rfl, rfl, rfl, rfl⟩ := iv_Icmp hs
    exact zs_icmp hX hd h0 k
  | ifnull off =>
    obtain ⟨r, rfl, h0, rfl, rfl, rfl, ⟨rfl, rfl⟩ | ⟨a, rfl, rfl⟩⟩ := iv_Nul hs
    · exact zg_p k fun _ _ _ _ _ _ w => lv_ifnullN hx hb hd (jmp_ok h0) w
    · exact zg_p k fun _ _ _ _ _ _ w => lv_ifnull hx hb hd w
  | ifnonnull off =>
    obtain ⟨r, rfl, h0, rfl, rfl, rfl, ⟨rfl, rfl⟩ | ⟨a, rfl, rfl⟩⟩ := iv_Nul hs
    · exact zg_p k fun _ _ _ _ _ _ w => lv_ifnonnullN hx hb hd w
    · exact zg_p k fun _ _ _ _ _ _ w => lv_ifnonnull hx hb hd (jmp_ok h0) w
  | goto off =>
    simp only [stp, goT] at hs
    split at hs
    · rename_i z; obtain ⟨z, h0⟩ := z; subst z; cases hs; exact zg_p k fun _ _ _ _ _ _ w => lv_goto hx hb hd (jmp_ok h0) w
    · cases hs
  | iload j =>
    obtain ⟨x, hj, rfl, rfl, rfl, rfl, rfl⟩ := iv_ldI hs
    exact zg_p k fun _ _ _ _ _ hl w => lv_iload hx hb hd (hl.at hj rfl) w
  | iload_n j =>
    obtain ⟨x, hj, rfl, rfl, rfl, rfl, rfl⟩ := iv_ldI hs
    exact zg_p k fun _ _ _ _ _ hl w => lv_iload_n hx hb hd rfl (hl.at hj rfl) w
  | lload j =>
    obtain ⟨x, hj, rfl, rfl, rfl, rfl, rfl⟩ := iv_ldL hs
    exact zg_p k fun _ _ _ _ _ hl w => lv_lload hx hb hd (hl.at hj rfl) w
  | lload_n j =>
    obtain ⟨x, hj, rfl, rfl, rfl, rfl, rfl⟩ := iv_ldL hs
    exact zg_p k fun _ _ _ _ _ hl w => lv_lload_n hx hb hd rfl (hl.at hj rfl) w
  | aload j =>
    obtain ⟨v, hj, hv, rfl, rfl, rfl, rfl, rfl⟩ := iv_ldA hs
    rcases hv with rfl | ⟨a, rfl⟩
    · exact zg_p k fun _ _ _ _ _ hl w => lv_aloadN hx hb hd (hl.at hj rfl) w
    · exact zg_p k fun _ _ _ _ _ hl w => lv_aload hx hb hd (hl.at hj rfl) w
  | aload_n j =>
    obtain ⟨v, hj, hv, rfl, rfl, rfl, rfl, rfl⟩ := iv_ldA hs
    rcases hv with rfl | ⟨a, rfl⟩
    · exact zg_p k fun _ _ _ _ _ hl w => lv_aload_nN hx hb hd rfl (hl.at hj rfl) w
    · exact zg_p k fun _ _ _ _ _ hl w => lv_aload_n hx hb hd rfl (hl.at hj rfl) w
  | istore j =>
    obtain ⟨x, r, rfl, rfl, hj, rfl, rfl, rfl, rfl⟩ := iv_stI hs
    exact fun H locs la hR hl hS => lv_istore hx hb hd hl.has (by rw [← hl.2.2.1]; exact hj) rfl (fun la2 hl2 => k H locs la2 hR (hl.st1 hl2) hS)
  | istore_n j =>
    obtain ⟨x, r, rfl, rfl, hj, rfl, rfl, rfl, rfl⟩ := iv_stI hs
    exact fun H locs la hR hl hS => lv_istore_n hx hb hd rfl hl.has (by rw [← hl.2.2.1]; exact hj) rfl (fun la2 hl2 => k H locs la2 hR (hl.st1 hl2) hS)
  | lstore j =>
    obtain ⟨x, r, rfl, rfl, hj, rfl, rfl, rfl, rfl⟩ := iv_stL hs
    exact fun H locs la hR hl hS => lv_lstore hx hb hd hl.has (by rw [← hl.2.2.1]; exact hj) rfl (fun la2 hl2 => k H locs la2 hR (hl.st2 hj hl2) hS)
  | lstore_n j =>
    obtain ⟨x, r, rfl, rfl, hj, rfl, rfl, rfl, rfl⟩ := iv_stL hs
    exact fun H locs la hR hl hS => lv_lstore_n hx hb hd rfl hl.has (by rw [← hl.2.2.1]; exact hj) rfl (fun la2 hl2 => k H locs la2 hR (hl.st2 hj hl2) hS)
  | astore j =>
    obtain ⟨v, r, rfl, hv, rfl, hj, rfl, rfl, rfl, rfl⟩ := iv_stA hs
    rcases hv with rfl | ⟨a, rfl⟩
    · exact fun H locs la hR hl hS => lv_astoreN hx hb hd hl.has (by rw [← hl.2.2.1]; exact hj) rfl (fun la2 hl2 => k H locs la2 hR (hl.st1 hl2) hS)
    · exact fun H locs la hR hl hS => lv_astore hx hb hd hl.has (by rw [← hl.2.2.1]; exact hj) rfl (fun la2 hl2 => k H locs la2 hR (hl.st1 hl2) hS)
  | astore_n j =>
    obtain ⟨v, r, rfl, hv, rfl, hj, rfl, rfl, rfl, rfl⟩ := iv_stA hs
    rcases hv with rfl | ⟨a, rfl⟩
    · exact fun H locs la hR hl hS => lv_astore_nN hx hb hd rfl hl.has (by rw [← hl.2.2.1]; exact hj) rfl (fun la2 hl2 => k H locs la2 hR (hl.st1 hl2) hS)
    · exact fun H locs la hR hl hS => lv_astore_n hx hb hd rfl hl.has (by rw [← hl.2.2.1]; exact hj) rfl (fun la2 hl2 => k H locs la2 hR (hl.st1 hl2) hS)
  | iinc j cst =>
    obtain ⟨x, hj, rfl, rfl, rfl, rfl, rfl⟩ := iv_Inc hs
    refine fun H locs la hR hl hS => ?_
    obtain ⟨q, hq⟩ := List.getElem?_of_mem (zAs_mem hj (v := .int x) rfl)
    exact lv_iinc hx hb hd hl.has hq rfl (by rw [← hl.2.2.1]; exact (List.getElem?_eq_some_iff.mp hj).1) rfl (fun la2 hl2 => k H locs la2 hR (hl.st1 hl2) hS)
  | iaload =>
    obtain ⟨i, a, r, rfl, rfl, hk, hi, rfl, rfl, rfl, rfl⟩ := iv_Ial hs
    exact zs_ial hX hd hk hi k
  | laload =>
    obtain ⟨i, a, r, rfl, rfl, hk, hi, rfl, rfl, rfl, rfl⟩ := iv_Lal hs
    exact zs_lal hX hd hk hi k
  | baload =>
    obtain ⟨i, a, r, rfl, rfl, hk, hi, rfl, rfl, rfl, rfl⟩ := iv_Bal hs
    exact zs_bal hX hd hk hi k
  | aaload =>
    obtain ⟨i, a, r, rfl, rfl, hk, hi, rfl, rfl, rfl, rfl⟩ := iv_Aal hs
    exact zs_aal hX hd hk hi k
  | iastore =>
    obtain ⟨v, i, a, rfl, rfl, hk, hi, rfl, rfl, rfl⟩ := iv_Ias hs
    exact zs_ias hX hd hk hi k
  | lastore =>
    obtain ⟨v, i, a, rfl, rfl, hk, hi, rfl, rfl, rfl⟩ := iv_Las hs
    exact zs_las hX hd hk hi k
  | bastore =>
    obtain ⟨v, i, a, rfl, rfl, hk, hi, rfl, rfl, rfl⟩ := iv_Bas hs
    exact zs_bas hX hd hk hi k
  | aastore =>
    obtain ⟨v, i, a, rfl, rfl, hk, hv, hi, rfl, rfl, rfl⟩ := iv_Aas hs
    exact zs_aas hX hd hk hv hi k
  | arraylength =>
    obtain ⟨a, r, rfl, rfl, hk, rfl, rfl, rfl, rfl⟩ := iv_Aln hs
    exact zs_aln hX hd hk k
  | pop =>
    obtain ⟨v, rfl, rfl, hv, rfl, rfl, rfl⟩ := iv_Pop hs
    exact zg_p k fun _ _ _ _ _ _ w => lv_pop hx hb hd hv w
  | dup =>
    obtain ⟨v, r, rfl, rfl, hv, rfl, rfl, rfl, rfl⟩ := iv_Dup hs
    exact zg_p k fun _ _ _ _ _ _ w => lv_dup hx hb hd hv w
  | dup_x1 =>
    obtain ⟨v, w2, r, rfl, rfl, hv, hw, rfl, rfl, rfl, rfl⟩ := iv_Dx1 hs
    exact zg_p k fun _ _ _ _ _ _ w => lv_dup_x1 hx hb hd hv hw w
  | dup2 =>
    obtain ⟨v, w2, r, rfl, rfl, hv, hw, rfl, rfl, rfl, rfl⟩ := iv_Du2 hs
    exact zg_p k fun _ _ _ _ _ _ w => lv_dup2_11 hx hb hd hv hw w
  | tableswitch d lo hi offs =>
    obtain ⟨x, rfl, rfl, rfl, ⟨h1, h0, rfl⟩ | ⟨h1, h2, o, ho, h0, rfl⟩⟩ := iv_Tsw hs
    · exact zg_p k fun _ _ _ _ _ _ w => lv_tableOut hx hb hd h1 (jmp_ok h0) w
    · exact zg_p k fun _ _ _ _ _ _ w => lv_tableIn hx hb hd h1 h2 ho (jmp_ok h0) w
  | getfield idx =>
    obtain ⟨a, r, rfl, rfl, rfl, rfl, rfl, ⟨c2, k2, t, f, hl2, hk, rfl⟩ | ⟨q, hl2, hk, rfl⟩ | ⟨j, q, hl2, hk, rfl⟩⟩ := iv_Get hs
    · exact zs_get hX hd hl2 hk k
    · exact zs_getS hX hd hl2 hk k
    · exact zs_getS hX hd hl2 hk k
  | putfield idx =>
    obtain ⟨v, a, c2, k2, t, f, q, rfl, hl2, rfl, hk, hf, hv, rfl, rfl⟩ := iv_Put hs
    exact zs_put hX hd hl2 hk hf hv k
  | getstatic idx =>
    obtain ⟨j, q, v, hl2, rfl, rfl, rfl, rfl, rfl, hv⟩ := iv_Sta hs
    exact zs_sta hX hd hl2 hv k
  | ldc idx =>
    obtain ⟨rfl, rfl, rfl, rfl, ⟨j, q, hl2, rfl⟩ | ⟨v, q, hl2, rfl⟩⟩ := iv_Ldc hs
    · exact zs_ldcS hX hd hl2 k
    · exact zs_ldcI hX hl2 hd k
  | ldc_w idx =>
    obtain ⟨rfl, rfl, rfl, rfl, ⟨j, q, hl2, rfl⟩ | ⟨v, q, hl2, rfl⟩⟩ := iv_Ldw hs
    · exact zs_ldwS hX hd hl2 k
    · exact zs_ldw hX hl2 hd k
  | ldc2_w idx =>
    obtain ⟨v, q, hl2, rfl, rfl, rfl, rfl, rfl⟩ := iv_Ld2 hs
    exact zs_ld2 hX hl2 hd k
  | new idx =>
    obtain ⟨c2, w, q, hl2, rfl, hw, rfl, rfl, rfl, rfl⟩ := iv_New hs
    obtain ⟨f1, f2, -⟩ := nw_f (h := h) (k := c2 + 1) (n := 0) (w := w)
    exact zs_new hX hd hl2 hw hm1 hm2 (by omega) (by omega) k
  | newarray t =>
    obtain ⟨x, r, rfl, rfl, ht, h0, h1, rfl, rfl, rfl, rfl⟩ := iv_Nwa hs
    obtain ⟨f1, f2, -⟩ := nw_f (h := h) (k := zAt t) (n := x.toNatClampNeg) (w := x.toNatClampNeg)
    exact zs_nwa hX hd ht h0 h1 hm1 hm2 (by omega) (by omega) k
  | anewarray idx =>
    obtain ⟨x, r, q, w, rfl, hl2, rfl, h0, h1, rfl, rfl, rfl, rfl⟩ := iv_Anw hs
    obtain ⟨f1, f2, -⟩ := nw_f (h := h) (k := q) (n := x.toNatClampNeg) (w := x.toNatClampNeg)
    exact zs_anw hX hd hl2 h0 h1 hm1 hm2 (by omega) (by omega) k
  | multianewarray idx d =>
    obtain ⟨w, x, r, q, q2, w2, rfl, hl2, rfl, rfl, h0, h1, h2, h3, rfl, rfl, rfl, rfl⟩ := iv_Mna hs
    obtain ⟨f1, f2, -⟩ := nwM_f (h := h) (K := q) (k := q2) (n := x.toNatClampNeg) (w := w.toNatClampNeg)
    exact zs_mna hX hd hl2 h0 h1 h2 h3 hm1 hm2 (by omega) (by omega) k
  | invokestatic idx =>
    obtain ⟨q, hl2, rfl, hs2⟩ := iv_Sts hs
    obtain ⟨x, dp, b, sp, a, rfl, u1, u2, u3, u4, rfl, rfl, hk⟩ := iv_Cpy hs2
    exact zs_cpy hX hd hl2 u1 u2 hR1 hR2 u3 u4 hk k
  | invokespecial idx =>
    obtain ⟨q, a, hl2, rfl, rfl, u1, u2, rfl, rfl, rfl⟩ := iv_Spc hs
    exact zs_obj hX hd hl2 u1 u2 hR1 hR2 k
  | _ => exact absurd hs (by intro z; cases z)
end ZSX
