/-! what a run cannot change: kinds, lengths, constant arrays -/
def NS (h h' : zMem) : Prop := (∀ b : Nat, b < sz h → kd h' b = kd h b ∧ ln h' b = ln h b) ∧ sz h ≤ sz h' ∧ ∀ b k : Nat, b < sz h → kd h b = 40 → gI h' b k = gI h b k
theorem zFk_40 : zFkT.all (fun e => decide (e.2.1 < 39)) = true := by decide +kernel
section ZNI
variable {g : Nat → Nat} {a k n : Nat} {h h' h'' : zMem} {l : List Value} {v : Value}
theorem NS.rf : NS h h := ⟨fun _ _ => ⟨rfl, rfl⟩, Nat.le_refl _, fun _ _ _ _ => rfl⟩
theorem NS.tr (x : NS h h') (y : NS h' h'') : NS h h'' := ⟨fun b hb => ⟨((y.1 b (Nat.lt_of_lt_of_le hb x.2.1)).1).trans (x.1 b hb).1, ((y.1 b (Nat.lt_of_lt_of_le hb x.2.1)).2).trans (x.1 b hb).2⟩, Nat.le_trans x.2.1 y.2.1, fun b k hb e => (y.2.2 b k (Nat.lt_of_lt_of_le hb x.2.1) ((x.1 b hb).1.trans e)).trans (x.2.2 b k hb e)⟩
theorem NS.I {x : Int32} (e : ¬ kd h a = 40) : NS h (sI h a k x) := ⟨fun _ _ => ⟨rfl, rfl⟩, Nat.le_refl _, fun b j _ q => a_Ia (fun z => e (by rw [← z]; exact q))⟩
theorem NS.L {x : Int64} : NS h (sL h a k x) := ⟨fun _ _ => ⟨rfl, rfl⟩, Nat.le_refl _, fun b j _ q => rfl⟩
theorem NS.R {x : Option Nat} : NS h (sR h a k x) := ⟨fun _ _ => ⟨rfl, rfl⟩, Nat.le_refl _, fun b j _ q => rfl⟩
theorem NS.N {K m w : Nat} : NS h (nw h K m w) := by
  refine ⟨fun b hb => ⟨?_, ?_⟩, by rw [y_sz_nw]; omega, fun b j hb _ => ?_⟩
  · rw [y_kd_nw, if_neg (by omega)]
  · rw [y_ln_nw, if_neg (by omega)]
  · rw [y_gI_nw, if_neg (by omega)]
theorem NS.M {K m q w : Nat} : NS h (nwM h K q m w) := by
  refine ⟨fun b hb => ⟨?_, ?_⟩, ?_, fun b j hb _ => ?_⟩
  · show (if b = sz h then K else if sz h < b ∧ b ≤ sz h + m then q else kd h b) = kd h b
    rw [if_neg (by omega), if_neg (by omega)]
  · show (if b = sz h then m else if sz h < b ∧ b ≤ sz h + m then w else ln h b) = ln h b
    rw [if_neg (by omega), if_neg (by omega)]
  · show sz h ≤ sz h + 1 + m
    omega
  · show (if sz h ≤ b ∧ b ≤ sz h + m then 0 else gI h b j) = gI h b j
    rw [if_neg (by omega)]
theorem stp_ns {M : zM} {i : Instr} {n pc pc' : Nat} {ls st ls' st' : List Value} {h h' : zMem} (hs : stp g M i n pc ls st h = some (pc', ls', st', h')) : NS h h' := by
  cases i with
  | iconst v =>
    simp only [stp, goT] at hs
    split at hs
    · cases hs; exact NS.rf
    · cases hs
  | bipush v =>
    simp only [stp, goT] at hs
    split at hs
    · cases hs; exact NS.rf
    · cases hs
  | sipush v =>
    simp only [stp, goT] at hs
    split at hs
    · cases hs; exact NS.rf
    · cases hs
  | lconst v =>
    simp only [stp, goT] at hs
    split at hs
    · cases hs; exact NS.rf
    · cases hs
  | aconst_null  =>
    simp only [stp, goT] at hs
    split at hs
    · cases hs; exact NS.rf
    · cases hs
  | iadd =>
    obtain ⟨x, y, r, rfl, rfl, rfl, rfl, rfl, rfl⟩ := iv_II hs
    all_goals exact NS.rf
  | isub =>
    obtain ⟨x, y, r, rfl, rfl, rfl, rfl, rfl, rfl⟩ := iv_II hs
    all_goals exact NS.rf
  | imul =>
    obtain ⟨x, y, r, rfl, rfl, rfl, rfl, rfl, rfl⟩ := iv_II hs
    all_goals exact NS.rf
  | iand =>
    obtain ⟨x, y, r, rfl, rfl, rfl, rfl, rfl, rfl⟩ := iv_II hs
    all_goals exact NS.rf
  | ior =>
    obtain ⟨x, y, r, rfl, rfl, rfl, rfl, rfl, rfl⟩ := iv_II hs
    all_goals exact NS.rf
  | ixor =>
    obtain ⟨x, y, r, rfl, rfl, rfl, rfl, rfl, rfl⟩ := iv_II hs
    all_goals exact NS.rf
  | ishl =>
    obtain ⟨x, y, r, rfl, rfl, rfl, rfl, rfl, rfl⟩ := iv_II hs
    all_goals exact NS.rf
  | ishr =>
    obtain ⟨x, y, r, rfl, rfl, rfl, rfl, rfl, rfl⟩ := iv_II hs
    all_goals exact NS.rf
  | iushr =>
    obtain ⟨x, y, r, rfl, rfl, rfl, rfl, rfl, rfl⟩ := iv_II hs
    all_goals exact NS.rf
  | idiv =>
    obtain ⟨x, y, r, rfl, rfl, hy, rfl, rfl, rfl, rfl⟩ := iv_Div hs
    all_goals exact NS.rf
  | irem =>
    obtain ⟨x, y, r, rfl, rfl, hy, rfl, rfl, rfl, rfl⟩ := iv_Div hs
    all_goals exact NS.rf
  | ladd =>
    obtain ⟨x, y, r, rfl, rfl, rfl, rfl, rfl, rfl⟩ := iv_LL hs
    all_goals exact NS.rf
  | lsub =>
    obtain ⟨x, y, r, rfl, rfl, rfl, rfl, rfl, rfl⟩ := iv_LL hs
    all_goals exact NS.rf
  | lmul =>
    obtain ⟨x, y, r, rfl, rfl, rfl, rfl, rfl, rfl⟩ := iv_LL hs
    all_goals exact NS.rf
  | land =>
    obtain ⟨x, y, r, rfl, rfl, rfl, rfl, rfl, rfl⟩ := iv_LL hs
    all_goals exact NS.rf
  | lor =>
    obtain ⟨x, y, r, rfl, rfl, rfl, rfl, rfl, rfl⟩ := iv_LL hs
    all_goals exact NS.rf
  | lxor =>
    obtain ⟨x, y, r, rfl, rfl, rfl, rfl, rfl, rfl⟩ := iv_LL hs
    all_goals exact NS.rf
  | lshl =>
    obtain ⟨x, y, r, rfl, rfl, rfl, rfl, rfl, rfl⟩ := iv_LI hs
    all_goals exact NS.rf
  | lshr =>
    obtain ⟨x, y, r, rfl, rfl, rfl, rfl, rfl, rfl⟩ := iv_LI hs
    all_goals exact NS.rf
  | lushr =>
    obtain ⟨x, y, r, rfl, rfl, rfl, rfl, rfl, rfl⟩ := iv_LI hs
    all_goals exact NS.rf
  | ineg =>
    obtain ⟨x, r, rfl, rfl, rfl, rfl, rfl, rfl⟩ := iv_I hs
    all_goals exact NS.rf
  | i2b =>
    obtain ⟨x, r, rfl, rfl, rfl, rfl, rfl, rfl⟩ := iv_I hs
    all_goals exact NS.rf
  | i2s =>
    obtain ⟨x, r, rfl, rfl, rfl, rfl, rfl, rfl⟩ := iv_I hs
    all_goals exact NS.rf
  | i2c =>
    obtain ⟨x, r, rfl, rfl, rfl, rfl, rfl, rfl⟩ := iv_I hs
    all_goals exact NS.rf
  | i2l =>
    obtain ⟨x, r, rfl, rfl, rfl, rfl, rfl, rfl⟩ := iv_I hs
    all_goals exact NS.rf
  | lneg =>
    obtain ⟨x, r, rfl, rfl, rfl, rfl, rfl, rfl⟩ := iv_L hs
    all_goals exact NS.rf
  | l2i =>
    obtain ⟨x, r, rfl, rfl, rfl, rfl, rfl, rfl⟩ := iv_L hs
    all_goals exact NS.rf
  | lcmp =>
    simp only [stp, goT] at hs
    split at hs
    · split at hs
      · cases hs; exact NS.rf
      · cases hs
    · cases hs
  | ifCond cd off =>
    obtain ⟨x, r, rfl, rfl, h1, rfl, rfl, rfl, rfl⟩ := iv_If hs
    all_goals exact NS.rf
  | if_icmp cd off =>
    obtain ⟨x, y, r, rfl, rfl, h1, rfl, rfl, rfl, rfl⟩ := iv_Icmp hs
    all_goals exact NS.rf
  | ifnull off =>
    obtain ⟨r, rfl, h1, rfl, rfl, rfl, ⟨rfl, rfl⟩ | ⟨a, rfl, rfl⟩⟩ := iv_Nul hs
    all_goals exact NS.rf
  | ifnonnull off =>
    obtain ⟨r, rfl, h1, rfl, rfl, rfl, ⟨rfl, rfl⟩ | ⟨a, rfl, rfl⟩⟩ := iv_Nul hs
    all_goals exact NS.rf
  | goto off =>
    simp only [stp, goT] at hs
    split at hs
    · cases hs; exact NS.rf
    · cases hs
  | iload j =>
    obtain ⟨x, hj, rfl, rfl, rfl, rfl, rfl⟩ := iv_ldI hs
    all_goals exact NS.rf
  | iload_n j =>
    obtain ⟨x, hj, rfl, rfl, rfl, rfl, rfl⟩ := iv_ldI hs
    all_goals exact NS.rf
  | lload j =>
    obtain ⟨x, hj, rfl, rfl, rfl, rfl, rfl⟩ := iv_ldL hs
    all_goals exact NS.rf
  | lload_n j =>
    obtain ⟨x, hj, rfl, rfl, rfl, rfl, rfl⟩ := iv_ldL hs
    all_goals exact NS.rf
  | aload j =>
    obtain ⟨v, hj, hv, rfl, rfl, rfl, rfl, rfl⟩ := iv_ldA hs
    all_goals exact NS.rf
  | aload_n j =>
    obtain ⟨v, hj, hv, rfl, rfl, rfl, rfl, rfl⟩ := iv_ldA hs
    all_goals exact NS.rf
  | istore j =>
    obtain ⟨x, r, rfl, rfl, hj, rfl, rfl, rfl, rfl⟩ := iv_stI hs
    all_goals exact NS.rf
  | istore_n j =>
    obtain ⟨x, r, rfl, rfl, hj, rfl, rfl, rfl, rfl⟩ := iv_stI hs
    all_goals exact NS.rf
  | lstore j =>
    obtain ⟨x, r, rfl, rfl, hj, rfl, rfl, rfl, rfl⟩ := iv_stL hs
    all_goals exact NS.rf
  | lstore_n j =>
    obtain ⟨x, r, rfl, rfl, hj, rfl, rfl, rfl, rfl⟩ := iv_stL hs
    all_goals exact NS.rf
  | astore j =>
    obtain ⟨v, r, rfl, hv, rfl, hj, rfl, rfl, rfl, rfl⟩ := iv_stA hs
    all_goals exact NS.rf
  | astore_n j =>
    obtain ⟨v, r, rfl, hv, rfl, hj, rfl, rfl, rfl, rfl⟩ := iv_stA hs
    all_goals exact NS.rf
  | iinc j cst =>
    obtain ⟨x, hj, rfl, rfl, rfl, rfl, rfl⟩ := iv_Inc hs
    all_goals exact NS.rf
  | iaload =>
    obtain ⟨i, a, r, rfl, rfl, hk, hi, rfl, rfl, rfl, rfl⟩ := iv_Ial hs
    all_goals exact NS.rf
  | laload =>
    obtain ⟨i, a, r, rfl, rfl, hk, hi, rfl, rfl, rfl, rfl⟩ := iv_Lal hs
    all_goals exact NS.rf
  | baload =>
    obtain ⟨i, a, r, rfl, rfl, hk, hi, rfl, rfl, rfl, rfl⟩ := iv_Bal hs
    all_goals exact NS.rf
  | aaload =>
    obtain ⟨i, a, r, rfl, rfl, hk, hi, rfl, rfl, rfl, rfl⟩ := iv_Aal hs
    all_goals exact NS.rf
  | iastore =>
    obtain ⟨v, i, a, rfl, rfl, hk, hi, rfl, rfl, rfl⟩ := iv_Ias hs
    all_goals exact NS.I (by omega)
  | lastore =>
    obtain ⟨v, i, a, rfl, rfl, hk, hi, rfl, rfl, rfl⟩ := iv_Las hs
    all_goals exact NS.L
  | bastore =>
    obtain ⟨v, i, a, rfl, rfl, hk, hi, rfl, rfl, rfl⟩ := iv_Bas hs
    all_goals exact NS.I (by omega)
  | aastore =>
    obtain ⟨v, i, a, rfl, rfl, hk, hv, hi, rfl, rfl, rfl⟩ := iv_Aas hs
    all_goals exact NS.R
  | arraylength =>
    obtain ⟨a, r, rfl, rfl, hk, rfl, rfl, rfl, rfl⟩ := iv_Aln hs
    all_goals exact NS.rf
  | pop =>
    obtain ⟨v, rfl, rfl, hv, rfl, rfl, rfl⟩ := iv_Pop hs
    all_goals exact NS.rf
  | dup =>
    obtain ⟨v, r, rfl, rfl, hv, rfl, rfl, rfl, rfl⟩ := iv_Dup hs
    all_goals exact NS.rf
  | dup_x1 =>
    obtain ⟨v, w2, r, rfl, rfl, hv, hw, rfl, rfl, rfl, rfl⟩ := iv_Dx1 hs
    all_goals exact NS.rf
  | dup2 =>
    obtain ⟨v, w2, r, rfl, rfl, hv, hw, rfl, rfl, rfl, rfl⟩ := iv_Du2 hs
    all_goals exact NS.rf
  | tableswitch d lo hi offs =>
    obtain ⟨x, rfl, rfl, rfl, ⟨h1, h2, rfl⟩ | ⟨h1, h2, o, ho, h3, rfl⟩⟩ := iv_Tsw hs
    all_goals exact NS.rf
  | getfield idx =>
    obtain ⟨a, r, rfl, rfl, rfl, rfl, rfl, -⟩ := iv_Get hs
    exact NS.rf
  | putfield idx =>
    obtain ⟨v, a, c2, k2, t, f, q, rfl, hl2, rfl, hk, hf, hv, rfl, rfl⟩ := iv_Put hs
    have hc := of_decide_eq_true (List.all_eq_true.1 zFk_40 _ (zlk_mem hl2))
    dsimp only at hc
    have q3 : ¬ kd h a = 40 := by omega
    unfold putV at hv
    repeat' split at hv
    all_goals first | (cases hv; exact NS.I q3) | (cases hv; exact NS.L) | (cases hv; exact NS.R) | cases hv
  | getstatic idx =>
    obtain ⟨j, q, v, hl2, rfl, rfl, rfl, rfl, rfl, hv⟩ := iv_Sta hs
    exact NS.rf
  | ldc idx =>
    obtain ⟨rfl, rfl, rfl, rfl, -⟩ := iv_Ldc hs
    exact NS.rf
  | ldc_w idx =>
    obtain ⟨rfl, rfl, rfl, rfl, -⟩ := iv_Ldw hs
    exact NS.rf
  | ldc2_w idx =>
    obtain ⟨v, q, hl2, rfl, rfl, rfl, rfl, rfl⟩ := iv_Ld2 hs
    all_goals exact NS.rf
  | new idx =>
    obtain ⟨c2, w, q, hl2, rfl, hw, rfl, rfl, rfl, rfl⟩ := iv_New hs
    exact NS.N
  | newarray t =>
    obtain ⟨x, r, rfl, rfl, ht, h1, h2, rfl, rfl, rfl, rfl⟩ := iv_Nwa hs
    exact NS.N
  | anewarray idx =>
    obtain ⟨x, r, q, w, rfl, hl2, rfl, h1, h2, rfl, rfl, rfl, rfl⟩ := iv_Anw hs
    exact NS.N
  | multianewarray idx d =>
    obtain ⟨w, x, r, q, q2, w2, rfl, hl2, rfl, rfl, h1, h2, h3, h4, rfl, rfl, rfl, rfl⟩ := iv_Mna hs
    exact NS.M
  | invokestatic idx =>
    obtain ⟨q, hl2, rfl, hs2⟩ := iv_Sts hs
    obtain ⟨x, dp, b, sp, a, rfl, u1, u2, u3, u4, rfl, rfl, hk⟩ := iv_Cpy hs2
    rcases hk with ⟨-, k2, rfl⟩ | ⟨-, -, rfl⟩
    · refine ⟨fun _ _ => ⟨rfl, rfl⟩, Nat.le_refl _, fun y j _ e => ?_⟩
      rw [y_gI_cpI, if_neg (fun z => by rw [z.1] at e; omega)]
    · exact ⟨fun _ _ => ⟨rfl, rfl⟩, Nat.le_refl _, fun y j _ e => rfl⟩
  | invokespecial idx =>
    obtain ⟨q, a, hl2, rfl, rfl, u1, u2, rfl, rfl, rfl⟩ := iv_Spc hs
    all_goals exact NS.rf
  | _ => exact absurd hs (by intro z; cases z)
theorem exec_ns : ∀ {k : Nat} {M : zM} {pc : Nat} {ls st : List Value} {h h' : zMem} {r : Option Value}, exec g k M pc ls st h = some (r, h') → NS h h' := by
  intro k
  induction k with
  | zero => intro M pc ls st h h' r hx; cases hx
  | succ k ih =>
    intro M pc ls st h h' r hx
    obtain ⟨i, n, hd, ⟨r, hr, e⟩ | ⟨hr, N, as, rest, r, h1, hc, h2, h3⟩ | ⟨hr, hc, pc', ls', st', h1, hs, h2⟩⟩ := exec_iv hx
    · cases e; exact NS.rf
    · exact (ih h2).tr (ih h3)
    · exact (stp_ns hs).tr (ih h2)
theorem call_ns {N : zM} {as : List Value} {r : Option Value} (hx : call g N as h = some (r, h')) : NS h h' := by
  obtain ⟨k, hk⟩ := ev_ex hx
  exact exec_ns hk
end ZNI
