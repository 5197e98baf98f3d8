/-! what the tables give at the start -/
def nIn : List Nat := [2, 9, 5, 10, 3, 7, 9, 10, 4, 6, 2, 10, 67]
def pIn_ : List Nat := [1231, 1154, 1118, 1111, 1212, 2133, 2006, 2012, 1032, 1056, 1083, 1023, 6019]
theorem tb_in : ∀ c : Fin 13, zTab (pIn_.getD c.val 0) = some (.instantiable (zCn c.val) (nIn.getD c.val 0)) := by decide +kernel
theorem tb_a_int : zTab 1109 = some (.arrayClass .int) := by decide +kernel
theorem tb_a_long : zTab 1054 = some (.arrayClass .long) := by decide +kernel
theorem tb_a_byte : zTab 1081 = some (.arrayClass .byte) := by decide +kernel
theorem tb_a_boolean : zTab 2053 = some (.arrayClass .boolean) := by decide +kernel
theorem tb_o_Shelf : zTab 1031 = some (.arrayOver (.object "DeedCourt$Shelf")) := by decide +kernel
theorem tb_o_Field : zTab 1117 = some (.arrayOver (.object "DeedCourt$Field")) := by decide +kernel
theorem tb_o_Deed : zTab 1153 = some (.arrayOver (.object "DeedCourt$Deed")) := by decide +kernel
theorem tb_o_String : zTab 6029 = some (.arrayOver (.object "java/lang/String")) := by decide +kernel
theorem tb_aa_long : zTab 6025 = some (.arrayOver (.array .long)) := by decide +kernel
theorem tb_aa_int : zTab 6027 = some (.arrayOver (.array .int)) := by decide +kernel
theorem tb_l_W : zTab 1099 = some (.laysStatic "DeedCourt$Ways" "THREE" "[I") := by decide +kernel
theorem tb_i_W : zTab 1004 = some (.initialized "DeedCourt$Ways") := by decide +kernel
theorem tb_l_P : zTab 4052 = some (.laysStatic "DeedCourt$Sets" "PAIRS" "[I") := by decide +kernel
theorem tb_i_P : zTab 1012 = some (.initialized "DeedCourt$Sets") := by decide +kernel
theorem tb_l_M : zTab 7199 = some (.laysStatic "DeedCourtModel" "THREE" "[I") := by decide +kernel
theorem tb_i_M : zTab 1014 = some (.initialized "DeedCourtModel") := by decide +kernel
theorem tb_l_C : zTab 3136 = some (.laysStatic "java/lang/String" "COMPACT_STRINGS" "Z") := by decide +kernel
theorem tb_i_C : zTab 1017 = some (.initialized "java/lang/String") := by decide +kernel
theorem tb_l_I : zTab 3152 = some (.laysStatic "jdk/internal/util/Preconditions" "SIOOBE_FORMATTER" "Ljava/util/function/BiFunction;") := by decide +kernel
theorem tb_i_I : zTab 1019 = some (.initialized "jdk/internal/util/Preconditions") := by decide +kernel
theorem tb_str : ∀ e ∈ zTkT, zTab e.2.2 = some (.stringRef (zOwn (e.1 / 10000)) (e.1 % 10000) (zTx.getD e.2.1 "")) ∧ e.2.1 < 17 ∧ (Term.string (zOwn (e.1 / 10000)) (e.1 % 10000) = sTm e.2.1 ∨ Term.string (zOwn (e.1 / 10000)) (e.1 % 10000) = sMm e.2.1) := by decide +kernel
theorem s_arr {s : State} {A : Array Value} {ty : FieldType} (hn : ∀ C, ty ≠ .object C) (h : (Cond.arrayClass ty).before A s = true) : ∃ cA : ClassId, ArrOfT s cA ty ∧ va_RA s cA ty := by
  obtain ⟨c, k, comp, h1, h2, h3⟩ := Cond.arrayClass_spec (args := A) (first := s) (o := none) (s := s) (idx := []) h
  refine ⟨c, fun N z => ⟨(fun k h => by cases h), k, h2, comp, h3⟩, ?_⟩
  cases ty with
  | object C => exact absurd rfl (hn C)
  | _ => exact h1
theorem s_ao {s : State} {C : String} (h : va_AO C s) : ∃ cA : ClassId, ArrOfT s cA (.object C) ∧ va_RA s cA (.object C) := by
  obtain ⟨comp, c, k, h1, h2, h3, h4, h5⟩ := Cond.arrayOver_spec h
  exact ⟨c, fun N z => ⟨(fun k h => by cases h), k, h3, _, h4⟩, k, _, h3, h4, h1, h5⟩
theorem s_aoa {s : State} {t : FieldType} (h : zAOA t s) : ∃ cA : ClassId, ArrOfT s cA (.array t) ∧ va_RA s cA (.array t) := by
  obtain ⟨comp, c, k, h1, h2, h3, ⟨q, h4⟩, h5⟩ := zAOA.spec h
  exact ⟨c, fun N z => ⟨(fun k h => by cases h), k, h3, q, h4⟩, h5⟩
section ZTB
variable {s : State} {A : Array Value}
theorem s_K (hts : ∀ w ∈ lw_tbl, w.before A s = true) : ∃ (G : va_G) (cls : Nat → ClassId), ∀ (n : Nat) (h0 : zMem), va_K G vwCl (zTys (G, n, cls, h0)) s := by
  have hw : ∀ {p : Nat} {w : Cond}, zTab p = some w → w.before A s = true := fun h => hts _ (zTab_mem h)
  have hc : ∀ c : Nat, ∃ q : ClassId × (Nat → Nat), c < 13 → u_Kn s (zCn c) (zTc c) (zSl c) q.1 q.2 := by
    intro c
    by_cases h : c < 13
    · obtain ⟨cC, iS, hk⟩ := u_known (N := zSl c) (T := zTc c) hts (fun w q => (List.mem_filter.mp (zC_in c h w q)).1) (hw (tb_in ⟨c, h⟩))
      exact ⟨(cC, iS), fun _ => hk⟩
    · exact ⟨(0, fun _ => 0), fun q => absurd q h⟩
  obtain ⟨f, hf⟩ := Classical.axiomOfChoice hc
  obtain ⟨c0, a0, r0⟩ := s_arr (ty := .int) (fun C h => by cases h) (hw tb_a_int)
  obtain ⟨c1, a1, r1⟩ := s_arr (ty := .long) (fun C h => by cases h) (hw tb_a_long)
  obtain ⟨c2, a2, r2⟩ := s_arr (ty := .byte) (fun C h => by cases h) (hw tb_a_byte)
  obtain ⟨c3, a3, r3⟩ := s_arr (ty := .boolean) (fun C h => by cases h) (hw tb_a_boolean)
  obtain ⟨c4, a4, r4⟩ := s_ao (va_AO.of (hw tb_o_Shelf))
  obtain ⟨c5, a5, r5⟩ := s_ao (va_AO.of (hw tb_o_Field))
  obtain ⟨c6, a6, r6⟩ := s_ao (va_AO.of (hw tb_o_Deed))
  obtain ⟨c7, a7, r7⟩ := s_ao (va_AO.of (hw tb_o_String))
  obtain ⟨c8, a8, r8⟩ := s_aoa (show zAOA .long s from hw tb_aa_long)
  obtain ⟨c9, a9, r9⟩ := s_aoa (show zAOA .int s from hw tb_aa_int)
  refine ⟨(fun c => (f c).1, fun c => (f c).2), fun k => [c0, c1, c2, c3, c4, c5, c6, c7, c8, c9].getD (k - 20) 0, fun n h0 => ⟨fun c q hq => ?_, fun k q hk => ?_⟩⟩
  · have hl : c < 13 := (List.getElem?_eq_some_iff.mp hq).1
    rw [zC_cl c hl] at hq
    cases hq
    exact hf c hl
  · match k, hk with
    | 0, hk => cases hk; exact ⟨a0, r0⟩
    | 1, hk => cases hk; exact ⟨a1, r1⟩
    | 2, hk => cases hk; exact ⟨a2, r2⟩
    | 3, hk => cases hk; exact ⟨a3, r3⟩
    | 4, hk => cases hk; exact ⟨a4, r4⟩
    | 5, hk => cases hk; exact ⟨a5, r5⟩
    | 6, hk => cases hk; exact ⟨a6, r6⟩
    | 7, hk => cases hk; exact ⟨a7, r7⟩
    | 8, hk => cases hk; exact ⟨a8, r8⟩
    | 9, hk => cases hk; exact ⟨a9, r9⟩
    | k + 10, hk => cases hk
end ZTB
section ZTC
variable {s : State} {b : Nat}
/-- the statics -/
theorem s_Z (hg : (Jvm.Cond.and given_1 narrow_1).before #[Value.ref b] s = true) (hts : ∀ w ∈ lw_tbl, w.before #[Value.ref b] s = true) : ∃ g0 g1 g2 g11 : Nat,
    xT .int g0 64 (fun j => .int (nI (zT3.getD j 0))) s ∧ xT .int g1 45 (fun j => .int (nI (pP j))) s ∧ xT .int g2 64 (fun j => .int (nI (zT3.getD j 0))) s ∧
    va_Z "DeedCourt$Ways" "THREE" "[I" (.ref g0) (fun q => s.heap.size ≤ q) s s.heap ∧ va_Z "DeedCourt$Sets" "PAIRS" "[I" (.ref g1) (fun q => s.heap.size ≤ q) s s.heap ∧ va_Z "DeedCourtModel" "THREE" "[I" (.ref g2) (fun q => s.heap.size ≤ q) s s.heap ∧
    va_Z "java/lang/String" "COMPACT_STRINGS" "Z" (.int 1) (fun q => s.heap.size ≤ q) s s.heap ∧ va_Z "jdk/internal/util/Preconditions" "SIOOBE_FORMATTER" "Ljava/util/function/BiFunction;" (va_rf (if g11 = 0 then none else some (g11 - 1))) (fun q => s.heap.size ≤ q) s s.heap := by
  have hA : ∀ a : Nat, a < s.heap.size → ¬ (fun q => s.heap.size ≤ q) a := fun a ha => Nat.not_le.2 ha
  have hw : ∀ {p : Nat} {w : Cond}, zTab p = some w → w.before #[Value.ref b] s = true := fun h => hts _ (zTab_mem h)
  obtain ⟨t0, e0, T0⟩ := s_W hg
  obtain ⟨t1, e1, T1⟩ := s_P hg
  obtain ⟨t2, e2, T2⟩ := s_M hg
  have hI : ∃ g11 : Nat, va_Z "jdk/internal/util/Preconditions" "SIOOBE_FORMATTER" "Ljava/util/function/BiFunction;" (va_rf (if g11 = 0 then none else some (g11 - 1))) (fun q => s.heap.size ≤ q) s s.heap := by
    rcases va_Zqof (hw tb_l_I) (hw tb_i_I) (FL_of hg sgI) hA with h | ⟨t, h⟩
    · exact ⟨0, h⟩
    · exact ⟨t + 1, h⟩
  obtain ⟨g11, hI⟩ := hI
  exact ⟨t0, t1, t2, g11, T0, T1, T2, va_Zref (hw tb_l_W) (hw tb_i_W) e0 hA, va_Zref (hw tb_l_P) (hw tb_i_P) e1 hA, va_Zref (hw tb_l_M) (hw tb_i_M) e2 hA, va_Zof (hw tb_l_C) (hw tb_i_C) (va_eqt (FL_of hg sgC)) hA, hI⟩
/-- the constants of the pools -/
theorem s_R (hts : ∀ w ∈ lw_tbl, w.before #[Value.ref b] s = true) {ad : Nat → Nat} (h : ∀ i : Nat, i < 17 → (sTm i).eval #[Value.ref b] s none [] s = some (.ref (ad i)) ∧ (sMm i).eval #[Value.ref b] s none [] s = some (.ref (ad i))) :
    ∀ e, e ∈ zTkT → vk_R (zOwn (e.1 / 10000)) (e.1 % 10000) (zTx.getD e.2.1 "") (ad e.2.1) s := by
  intro e he
  obtain ⟨h1, h2, h3⟩ := tb_str e he
  refine vk_R.of (hts _ (zTab_mem h1)) ?_
  rcases h3 with q | q
  · rw [q]; exact (h _ h2).1
  · rw [q]; exact (h _ h2).2
end ZTC
