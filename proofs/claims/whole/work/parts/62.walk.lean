/-! THE CLAIM OUT OF ONE WALK OF THE LAW'S BODY. Your part is whole_start (and what it stands on); all else here is the same for every law, but numbers. -/
def R_law : String := "DeedCourtLaw"
def lw_P (b : Addr) (xs : List Int32) (args : Array Value) (s : State) : Prop := args = #[.ref b] ∧ s.IntsAt b xs ∧ xs.length ≤ 384 ∧ (Jvm.Cond.and given_1 narrow_1).before args s = true
def lw_Q (_ : Array Value) (s : State) (o : Outcome) (t : State) : Prop := o = .returned (some (.int 1)) ∧ Framed s o t [] 600000 7302250
def lw_Z (below : List Frame) (a : Array Value) (s : State) : State → Prop := fun t => ∃ o, t.status = .running ∧ Ended t below o ∧ lw_Q a s o t
/-- the law's own end, with 1 on the stack, nothing written that was there before, its room as the claim has it -/
theorem lw_ret {p : Program} {l : Launch} {e : Env} {s : State} {m : MethodId} {below : List Frame} {meth : Method} {c : Code} {b : Nat} (hx : p.tables.exec = Jvm.exec) (hb : c.code = code) (hr : meth.sig.returnType = ret) (hlocks : meth.locks = false) {pc : Nat} {H : Heap} {ls : Array Slot} (hdg : decode code pc = .ok (.ireturn, 1)) : W p l e room_1 s m #[Value.ref b] below meth c H [] 600000 7302250 (lw_Z below #[Value.ref b] s) (F0 m pc ls [.int 1]) := by
  intro T hT X
  obtain ⟨fs, hret, hrun, hended, hW, hframe⟩ := X.leave (v := some (.int 1)) (hlocks := hlocks) (fun h => by rw [hr] at h; cases h)
  have hmeth' : T.vm.method? m = some meth := X.method'
  refine ⟨T.setFrames fs, ?_, .returned (some (.int 1)), hrun, hended, rfl, ⟨_, rfl⟩, hW, hframe⟩
  jvm_step X.here [X.here.top, hx, hb, hdg, hmeth', hr, ret, narrow_b1]
  (try refine ⟨rfl, ?_⟩); (try refine ⟨rfl, ?_⟩)
  first | (intro acts; rw [hret _ acts rfl rfl rfl]) | rw [hret _ _ rfl rfl rfl]
  exact Steps.refl _
/-- what holds at the law's entry: the machine, the code, the tables' words (any of lw_tbl by 'hts w (by decide +kernel)'), the script of L ints xs at the cell b, what the Statement gives of the start (any of its parts by flat_of_before) -/
def lw_At (p : Program) (s : State) (m : MethodId) (meth : Method) (c : Code) (b L : Nat) (xs : Nat → Int32) : Prop :=
  p.tables.exec = Jvm.exec ∧ c.code = code ∧ meth.sig.returnType = ret ∧ c.maxLocals = 4 ∧ s.vm.findClass R_law = some m.cls ∧ (∀ w ∈ lw_tbl, w.before #[Value.ref b] s = true) ∧ va_X b L xs s s.heap ∧ b < s.heap.size ∧ meth.locks = false ∧ (Jvm.Cond.and given_1 narrow_1).before #[Value.ref b] s = true
/-! the law's walk, out of a run of the small machine -/
theorem whole_of {p : Program} {e : Env} {s : State} {m : MethodId} {below : List Frame} {meth : Method} {c : Code} (l : Launch) {b L : Nat} {xs : Nat → Int32} (hL : L ≤ 384) (C0 : lw_At p s m meth c b L xs) {G : va_G} {cls : Nat → ClassId} {h0 : zMem} {g : Nat → Nat} (hz : sz h0 = s.heap.size) (k0 : ∀ a : Nat, sz h0 ≤ a → kd h0 a = 0) (hK : va_K G vwCl (zTys (G, s.heap.size, cls, h0)) s) (hC : CR (G, s.heap.size, cls, h0) g s s.heap) (hb : bX g s.heap.size h0) (hp : cP g h0) (p1 : g 1 < s.heap.size) (kA : kd h0 b = 40) (lA : ln h0 b = L) : W p l e room_1 s m #[Value.ref b] below meth c s.heap [] 0 0 (lw_Z below #[Value.ref b] s) (entryFrame m ([Value.ref b] : List Value).toArray 4) := by
  obtain ⟨c1, c2, c3, c4, c5, c6, c7, c8, c9, c10⟩ := C0
  obtain ⟨h', e1, z1, w1⟩ := law_holds (g := g) (A := b) (N := L) hz hb hp p1 c8 kA lA (by omega)
  obtain ⟨k, hk⟩ := ev_ex e1
  have hX : zX (G, s.heap.size, cls, h0) g La_law p s m #[Value.ref b] meth c := ⟨c1, c2, c4, c5, fun w hw => c6 w (List.mem_filter.mp hw).1, hK, hC, fun z => absurd z (by decide), Nat.le_refl _⟩
  have hR0 : HR (G, s.heap.size, cls, h0) h0 s.heap := ⟨hz.symm, by rw [hz]; exact Nat.le_refl _, fun a q1 q2 => absurd q2 (by rw [hz]; exact Nat.not_lt.2 q1), fun a _ => ⟨rfl, rfl, rfl, rfl⟩, k0⟩
  have hs := exec_sz hk
  have hg := zsound (l := l) (E := (G, s.heap.size, cls, h0)) (g := g) k La_law 0 (ent La_law [.ref b]) [] h0 (some (.int (nI 1))) h' hk (p := p) (e := e) (R := room_1) (s := s) (m := m) (args := #[Value.ref b]) (below := below) (meth := meth) (c := c) (Q := lw_Z below #[Value.ref b] s) (hin := h0) hX (by rw [hz]; exact Nat.le_refl _) (Nat.le_refl _) (by show sz h' - s.heap.size ≤ 600000; omega) (by show sl h' - sl h0 ≤ 7302250; omega) (by decide) (by decide) (fun pcR lsR i n hd hv => by
    intro H locs la hR hl hS
    have hi : i = .ireturn ∧ n = 1 := by
      cases i with
      | ireturn =>
        simp only [rtn, opRet, Option.toList] at hv
        split at hv
        · rename_i q
          exact ⟨rfl, q⟩
        · cases hv
      | lreturn =>
        simp only [rtn, opLrt, Option.toList] at hv
        cases hv
      | return_ =>
        simp only [rtn, opVrt, Option.toList] at hv
        cases hv
      | _ => exact absurd hv (by intro z; cases z)
    obtain ⟨rfl, rfl⟩ := hi
    refine va_forget (fun q hq => hS.2.2 q hq) ?_
    refine W.widen (k := 600000) (n := 7302250) (by omega) (by omega) ?_
    exact lw_ret c1 c2 c3 c9 hd)
  have hg2 := hg s.heap [] _ hR0 (LR.entry (n := zMx La_law) (vs := [.ref b]) (show 1 ≤ 4 by decide)) va_S.rf
  rw [show sz h0 - s.heap.size = 0 by omega, Nat.sub_self] at hg2
  rw [lg_entry_eq]
  exact hg2
