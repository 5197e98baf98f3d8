/-! what the statement gives: its parts by their places -/
def FL : List Cond := flatC (Jvm.Cond.and given_1 narrow_1)
theorem FL_of {args : Array Value} {s : State} (hg : (Jvm.Cond.and given_1 narrow_1).before args s = true) {k : Nat} {c : Cond} (h : FL[k]? = some c) : c.before args s = true := flat_of_before _ hg c (List.mem_of_getElem? h)
def sTE : List Nat := [104, 106, 108, 70, 110, 112, 114, 116, 118, 120, 122, 124, 126, 91, 83, 96, 100]
def sME : List Nat := [125, 127, 129, 288, 105, 107, 109, 111, 113, 115, 117, 119, 282, 284, 292, 297, 299]
def sTp : List Nat := [230, 239, 247, 257, 264, 273, 282, 290, 298, 308, 317, 326, 334, 344, 351, 357, 365]
def sMp : List Nat := [462, 471, 482, 490, 384, 394, 403, 412, 423, 433, 443, 452, 501, 509, 516, 525, 536]
def sTm (i : Nat) : Term := .string "DeedCourt$Tape" (sTE.getD i 0)
def sMm (i : Nat) : Term := .string "DeedCourtModel" (sME.getD i 0)
theorem sg1 : ∀ i : Fin 17, FL[sTp.getD i.val 0]? = some (Cond.exactly (sTm i.val) "java/lang/String") ∧ FL[sTp.getD i.val 0 + 1]? = some (Cond.eq (.field (sTm i.val) "java/lang/String" "coder" "B") (.int 0)) ∧ FL[sTp.getD i.val 0 + 2]? = some (Cond.arrayOf (.field (sTm i.val) "java/lang/String" "value" "[B") .byte) ∧ FL[sTp.getD i.val 0 + 3]? = some (Cond.eq (.length (.field (sTm i.val) "java/lang/String" "value" "[B")) (.int (Int32.ofNat (zWd i.val).length))) ∧ FL[sMp.getD i.val 0]? = some (Cond.eq (sTm i.val) (sMm i.val)) := by decide +kernel
theorem sg2 : ∀ i : Fin 17, ∀ j : Fin 7, j.val < (zWd i.val).length → FL[sTp.getD i.val 0 + 4 + j.val]? = some (Cond.eq (.elem (.field (sTm i.val) "java/lang/String" "value" "[B") (.int (Int32.ofNat j.val))) (.int (Int32.ofNat ((zWd i.val).getD j.val 0)))) := by decide +kernel
theorem sg3 : ∀ i : Fin 17, (zWd i.val).length < 7 := by decide +kernel
def tW : Term := .static "DeedCourt$Ways" "THREE" "[I"
def tP : Term := .static "DeedCourt$Sets" "PAIRS" "[I"
def tM : Term := .static "DeedCourtModel" "THREE" "[I"
theorem sgW : FL[5]? = some (Cond.arrayOf tW .int) ∧ FL[6]? = some (Cond.eq (.length tW) (.int (Int32.ofNat 64))) ∧ ∀ j : Fin 64, FL[7 + j.val]? = some (Cond.eq (.elem tW (.int (Int32.ofNat j.val))) (.int (Int32.ofNat (zT3.getD j.val 0)))) := by decide +kernel
theorem sgP : FL[77]? = some (Cond.arrayOf tP .int) ∧ FL[78]? = some (Cond.eq (.length tP) (.int (Int32.ofNat 45))) ∧ ∀ j : Fin 45, FL[79 + j.val]? = some (Cond.eq (.elem tP (.int (Int32.ofNat j.val))) (.int (Int32.ofNat (pP j.val)))) := by decide +kernel
theorem sgM : FL[125]? = some (Cond.arrayOf tM .int) ∧ FL[126]? = some (Cond.eq (.length tM) (.int (Int32.ofNat 64))) ∧ ∀ j : Fin 64, FL[127 + j.val]? = some (Cond.eq (.elem tM (.int (Int32.ofNat j.val))) (.int (Int32.ofNat (zT3.getD j.val 0)))) := by decide +kernel
theorem sgC : FL[71]? = some (Cond.eq (.static "java/lang/String" "COMPACT_STRINGS" "Z") (.int 1)) := by decide +kernel
theorem sgI : FL[72]? = some (Cond.isRef (.static "jdk/internal/util/Preconditions" "SIOOBE_FORMATTER" "Ljava/util/function/BiFunction;")) := by decide +kernel
/-- an array of exactly N items -/
def xT (ty : FieldType) (t N : Nat) (f : Nat → Value) (s : State) : Prop := ∃ cell : Cell, s.heap[t]? = some cell ∧ s.isArrayOf cell ty ∧ cell.vm ≠ .unknown ∧ cell.slots.size = N ∧ ∀ j : Nat, j < N → cell.slots[j]? = some (f j)
theorem xTof {args : Array Value} {s : State} {tm : Term} {ty : FieldType} {N : Nat} {f : Nat → Value} (hN : N < 2 ^ 31) (harr : (Cond.arrayOf tm ty).before args s = true) (hlen : (Term.length tm).eval args s none [] s = some (.int (Int32.ofNat N))) (hel : ∀ j : Nat, j < N → (Term.elem tm (.int (Int32.ofNat j))).eval args s none [] s = some (f j)) : ∃ t : Nat, tm.eval args s none [] s = some (.ref t) ∧ xT ty t N f s := by
  obtain ⟨t, ht, cell, h1, h2, h3, -, h5, h6, -⟩ := va_Tof (A := fun q => s.heap.size ≤ q) hN harr hlen hel (fun a ha => Nat.not_le.2 ha)
  refine ⟨t, ht, cell, h1, h2, h3, ?_, h6⟩
  obtain ⟨t', cell', e1, e2, -⟩ := Term.length_spec hlen
  cases ht.symm.trans e1
  obtain ⟨e3, -, -, -⟩ := State.arrayAt?_spec e2
  cases h1.symm.trans e3
  have hsz : cell.slots.size < 2 ^ 31 := by
    simp only [Term.eval, ht, e2, Option.bind_eq_bind, Option.bind_some] at hlen
    by_cases hlt : cell.slots.size < 2147483648
    · exact hlt
    · simp [hlt] at hlen
  have a1 : (Int32.ofNat cell.slots.size).toNatClampNeg = cell.slots.size := Int32.toNatClampNeg_ofNat_of_lt hsz
  have a2 : (Int32.ofNat N).toNatClampNeg = N := Int32.toNatClampNeg_ofNat_of_lt hN
  have a3 : (Int32.ofNat cell.slots.size).toNatClampNeg = (Int32.ofNat N).toNatClampNeg := congrArg Int32.toNatClampNeg h5
  exact a1.symm.trans (a3.trans a2)
section ZSG
variable {s : State} {b : Nat}
theorem s_str (hg : (Jvm.Cond.and given_1 narrow_1).before #[Value.ref b] s = true) : ∃ ad : Nat → Nat × Nat, ∀ i : Nat, i < 17 → (sTm i).eval #[Value.ref b] s none [] s = some (.ref (ad i).1) ∧ (sMm i).eval #[Value.ref b] s none [] s = some (.ref (ad i).1) ∧ va_O "java/lang/String" (ad i).1 (fun q => s.heap.size ≤ q) s s.heap ∧ va_OF "java/lang/String" "coder" "B" (.int 0) (ad i).1 (fun q => s.heap.size ≤ q) s s.heap ∧ va_OF "java/lang/String" "value" "[B" (.ref (ad i).2) (ad i).1 (fun q => s.heap.size ≤ q) s s.heap ∧ xT .byte (ad i).2 (zWd i).length (fun j => .int (nI ((zWd i).getD j 0))) s := by
  have hA : ∀ a : Nat, a < s.heap.size → ¬ (fun q => s.heap.size ≤ q) a := fun a ha => Nat.not_le.2 ha
  have h0 : ∀ i : Nat, ∃ q : Nat × Nat, i < 17 → (sTm i).eval #[Value.ref b] s none [] s = some (.ref q.1) ∧ (sMm i).eval #[Value.ref b] s none [] s = some (.ref q.1) ∧ va_O "java/lang/String" q.1 (fun q => s.heap.size ≤ q) s s.heap ∧ va_OF "java/lang/String" "coder" "B" (.int 0) q.1 (fun q => s.heap.size ≤ q) s s.heap ∧ va_OF "java/lang/String" "value" "[B" (.ref q.2) q.1 (fun q => s.heap.size ≤ q) s s.heap ∧ xT .byte q.2 (zWd i).length (fun j => .int (nI ((zWd i).getD j 0))) s := by
    intro i
    by_cases hi : i < 17
    · obtain ⟨m1, m2, m3, m4, m5⟩ := sg1 ⟨i, hi⟩
      have l7 := sg3 ⟨i, hi⟩
      dsimp only at m1 m2 m3 m4 m5 l7
      have w1 := FL_of hg m1
      obtain ⟨a, c, cA, kA, q1, q2, q3, q4, q5, q6, -⟩ := Cond.exactly_spec (args := #[Value.ref b]) (first := s) (o := none) (s := s) (idx := []) (t := sTm i) (cls := "java/lang/String") w1
      obtain ⟨t, ht, hT⟩ := xTof (f := fun j => .int (nI ((zWd i).getD j 0))) (N := (zWd i).length) (by omega) (FL_of hg m3) (va_eqt (FL_of hg m4)) (fun j hj => va_eqt (FL_of hg (sg2 ⟨i, hi⟩ ⟨j, by omega⟩ hj)))
      exact ⟨(a, t), fun _ => ⟨q1, va_eqR (FL_of hg m5) q1, va_Oof w1 q1 hA, vk_OFof q1 (va_eqt (FL_of hg m2)) hA, vk_OFof q1 ht hA, hT⟩⟩
    · exact ⟨(0, 0), fun h => absurd h hi⟩
  obtain ⟨ad, had⟩ := Classical.axiomOfChoice h0
  exact ⟨ad, had⟩
theorem s_W (hg : (Jvm.Cond.and given_1 narrow_1).before #[Value.ref b] s = true) : ∃ t : Nat, tW.eval #[Value.ref b] s none [] s = some (.ref t) ∧ xT .int t 64 (fun j => .int (nI (zT3.getD j 0))) s :=
  xTof (by decide) (FL_of hg sgW.1) (va_eqt (FL_of hg sgW.2.1)) (fun j hj => va_eqt (FL_of hg (sgW.2.2 ⟨j, hj⟩)))
theorem s_P (hg : (Jvm.Cond.and given_1 narrow_1).before #[Value.ref b] s = true) : ∃ t : Nat, tP.eval #[Value.ref b] s none [] s = some (.ref t) ∧ xT .int t 45 (fun j => .int (nI (pP j))) s :=
  xTof (by decide) (FL_of hg sgP.1) (va_eqt (FL_of hg sgP.2.1)) (fun j hj => va_eqt (FL_of hg (sgP.2.2 ⟨j, hj⟩)))
theorem s_M (hg : (Jvm.Cond.and given_1 narrow_1).before #[Value.ref b] s = true) : ∃ t : Nat, tM.eval #[Value.ref b] s none [] s = some (.ref t) ∧ xT .int t 64 (fun j => .int (nI (zT3.getD j 0))) s :=
  xTof (by decide) (FL_of hg sgM.1) (va_eqt (FL_of hg sgM.2.1)) (fun j hj => va_eqt (FL_of hg (sgM.2.2 ⟨j, hj⟩)))
end ZSG
