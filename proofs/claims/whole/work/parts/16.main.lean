/-! every run of the small machine is one of the JVM -/
theorem zMetOf {l : Launch} {y : MethodName} {ws ws' : List Jvm.Cond} {rm : Room} {Pc : Array Value → State → Prop} {Qc : Array Value → State → Outcome → State → Prop} {mc ms : Nat} {free : Addr → Prop} {cc : ByteArray} {maxL : Nat} {ret : Option FieldType}
    (hy : plainFor y = true) (hw : ws = Cond.code y cc maxL ret :: ws')
    (body : ∀ p e s m args below meth c s₁, BodyLoose p l y (headSpec ws rm) cc maxL ret e s m args below meth c s₁ → c.maxLocals = maxL → Pc args s →
      W p l e (headSpec ws rm).room s m args below meth c s.heap [] 0 0 (MQ below Qc args s mc ms free) (entryFrame m args maxL)) : Met l y ws rm Pc Qc mc ms free := by
  refine MetFree.of_bodySF (code := cc) (maxLocals := maxL) (ret := ret) hy ?_ ?_
  · intro args s m h hn
    obtain ⟨meth, c, h1, h2, h3, h4, h5, h6, -, -⟩ := Cond.code_spec hn (atoms_spec (ws := ws) h _ (by rw [hw]; exact List.mem_cons_self))
    exact ⟨meth, c, h1, h2, h3, h4, h5, h6⟩
  · intro p e s m args below meth c s₁ B hml hP _
    have hh0 : s₁.heap = s.heap := by rw [B.state]; rfl
    obtain ⟨t, a1, o, b1, b2, b3⟩ := body p e s m args below meth c s₁ B hml hP s₁ hh0 (Stand.of_body B)
    exact ⟨t, o, a1, b1, b2, ⟨b3.1, b3.2⟩⟩
theorem zret {p : Program} {l : Launch} {e : Env} {R : Room} {s : State} {m : MethodId} {args : Array Value} {below : List Frame} {meth : Method} {c : Code} {E : zE} {g : Nat → Nat} {N : zM} {hin h1 : zMem} {v : Option Value} {pc n : Nat} {ls : List Value} {i : Instr} (hX : zX E g N p s m args meth c) (hr : meth.sig.returnType = zRt N) (hlocks : meth.locks = false) (hd : decode (zCode N) pc = .ok (i, n)) (hv : rtn N i n v.toList = some v) : zGo p l e R s m args below meth c (MQ below (zQ E h1 v) args s (sz h1 - s.heap.size) (sl h1 - sl hin) (zA E)) E N hin h1 pc ls v.toList := by
  obtain ⟨hx, hb, -⟩ := hX
  intro H locs la hR hl hS
  have hq : ∀ t : State, t.heap = H → s.WarmedH t.vm → zQ E h1 v args s (.returned v) t := fun t ht hW => ⟨rfl, by rw [ht]; exact hR, hS.F ht⟩
  cases i with
  | ireturn =>
    simp only [rtn, opRet] at hv
    split at hv
    · rename_i x hst
      cases v with
      | none => cases hst
      | some w =>
        have hw : w = .int x := by simpa using hst
        subst hw
        split at hv
        · rename_i hn; subst hn
          split at hv
          · rename_i ht; rw [ht] at hr
            exact W.iret hx hb hr hq hS.2.2 hd hlocks
          · rename_i ht; rw [ht] at hr
            split at hv
            · rename_i z
              exact W.zret hx hb hr (bool_ok z).1 hq hS.2.2 hd hlocks
            · cases hv
          · rename_i ht; rw [ht] at hr
            split at hv
            · rename_i z
              refine W.zret hx hb hr ?_ hq hS.2.2 hd hlocks
              have := pk_nb x
              rw [z] at this
              exact this
            · cases hv
          · rename_i ht; rw [ht] at hr
            split at hv
            · rename_i z
              refine W.zret hx hb hr ?_ hq hS.2.2 hd hlocks
              have := pk_nc x
              rw [z] at this
              exact this
            · cases hv
          · cases hv
        · cases hv
    · cases hv
  | lreturn =>
    simp only [rtn, opLrt] at hv
    split at hv
    · rename_i x hst
      cases v with
      | none => cases hst
      | some w =>
        have hw : w = .long x := by simpa using hst
        subst hw
        split at hv
        · rename_i z
          obtain ⟨z1, z2⟩ := z
          subst z1
          rw [z2] at hr
          exact W.lret hx hb hr hq hS.2.2 hd hlocks
        · cases hv
    · cases hv
  | return_ =>
    simp only [rtn, opVrt] at hv
    split at hv
    · rename_i hst
      cases v with
      | some w => cases hst
      | none =>
        split at hv
        · rename_i z
          obtain ⟨z1, z2⟩ := z
          subst z1
          rw [z2] at hr
          exact W.vret hx hb hr hq hS.2.2 hd hlocks
        · cases hv
    · cases hv
  | _ => exact absurd hv (by intro z; cases z)
set_option maxHeartbeats 4000000 in
theorem zsound {l : Launch} {E : zE} {g : Nat → Nat} : ∀ (k : Nat) (M : zM) (pc : Nat) (ls st : List Value) (h : zMem) (r : Option Value) (h' : zMem), exec g k M pc ls st h = some (r, h') → ∀ {p : Program} {e : Env} {R : Room} {s : State} {m : MethodId} {args : Array Value} {below : List Frame} {meth : Method} {c : Code} {Q : State → Prop} {hin : zMem}, zX E g M p s m args meth c → s.heap.size ≤ sz h → sl hin ≤ sl h → sz h' - s.heap.size ≤ R.cells → sl h' - sl hin ≤ R.slots → zNf M ≤ R.frames → zNl M ≤ R.locals → (∀ (pcR : Nat) (lsR : List Value) (i : Instr) (n : Nat), decode (zCode M) pcR = .ok (i, n) → rtn M i n r.toList = some r → zGo p l e R s m args below meth c Q E M hin h' pcR lsR r.toList) → zGo p l e R s m args below meth c Q E M hin h pc ls st := by
  intro k
  induction k with
  | zero => intro M pc ls st h r h' hx; cases hx
  | succ k ih =>
    intro M pc ls st h r h' hx p e R s m args below meth c Q hin hX hm1 hm2 hr1 hr2 hR1 hR2 hret
    obtain ⟨i, n, hd, ⟨r2, hr, e2⟩ | ⟨hr, N, as, rest, v, h1, hc, w1, w2⟩ | ⟨hr, hc, pc', ls', st', h1, hs, w1⟩⟩ := exec_iv hx
    · cases e2
      have hst := rtn_iv hr
      subst hst
      exact hret pc ls i n hd hr
    · have z1 := exec_sz w1
      have z2 := exec_sz w2
      refine zs_call hX hd hc (v := v) (h1 := h1) (fun q hq => ?_) hm1 hm2 z1.1 z1.2 (by omega) (by omega) hR1 hR2 (ih M (pc + 3) ls (v.toList ++ rest) h1 r h' w2 hX (by omega) (by omega) hr1 hr2 hR1 hR2 hret)
      obtain ⟨x, hx1, hx2⟩ := List.mem_map.mp hq
      have hN : x.2.1 = N := congrArg Prod.snd hx2
      obtain ⟨o7, o8, -, -, -, o12⟩ := zL_ok3 _ hx1
      rw [hN] at o7 o8 o12
      have hlcl : (lcl as).length ≤ zMx N := by
        have : ∃ kk idx, opCal M kk idx n st = some (N, as, rest) := by
          cases i with
          | invokestatic idx =>
            simp only [cal, clSts] at hc
            split at hc
            · cases hc
            · exact ⟨_, _, hc⟩
          | invokevirtual idx =>
            simp only [cal, clVir] at hc
            split at hc
            · split at hc
              · split at hc
                · exact ⟨_, _, hc⟩
                · cases hc
              · cases hc
            · cases hc
          | invokespecial idx =>
            simp only [cal, clSpc] at hc
            split at hc
            · cases hc
            · split at hc
              · split at hc
                · exact ⟨_, _, hc⟩
                · cases hc
              · cases hc
          | _ => exact absurd hc (by intro z; cases z)
        obtain ⟨kk, idx, ho⟩ := this
        obtain ⟨_, _, _, _, _, _, q5, _⟩ := iv_Cal ho
        exact q5
      refine zMetOf (cc := zCode N) (maxL := zMx N) (ret := zRt N) (ws' := zTb) o7 rfl ?_
      intro p' e' s' m' args' below' meth' c' s₁ B hml hPc
      obtain ⟨ha, hR0, hK0, hC0⟩ := hPc
      subst ha
      have hX' : zX E g N p' s' m' as.toArray meth' c' := ⟨B.exec, B.bytes, hml, by rw [← o8]; exact findClass_of_methodNamed B.named, fun w hw => atoms_spec (ws := zWs N) B.pre w (List.mem_cons_of_mem _ hw), hK0, hC0, fun z => by rw [← (o12 z).1]; exact (name_of_methodNamed B.named B.method).1, by rw [hR0.1]; exact hR0.2.1⟩
      have hg := ih N 0 (ent N as) [] h v h1 w1 (p := p') (e := e') (R := zRm N (sz h1 - sz h) (sl h1 - sl h)) (s := s') (m := m') (args := as.toArray) (below := below') (meth := meth') (c := c') (Q := MQ below' (zQ E h1 v) as.toArray s' (sz h1 - s'.heap.size) (sl h1 - sl h) (zA E)) (hin := h) hX' (by rw [hR0.1]; exact Nat.le_refl _) (Nat.le_refl _) (by rw [hR0.1]; exact Nat.le_refl _) (Nat.le_refl _) (Nat.le_refl _) (Nat.le_refl _) (fun pcR lsR i n hd hv => zret hX' B.returns B.notSynchronized hd hv)
      have hg2 := hg s'.heap [] _ hR0 (LR.entry (n := zMx N) hlcl) va_S.rf
      rw [lg_entry_eq]
      rw [show sz h - s'.heap.size = 0 by rw [hR0.1]; omega, Nat.sub_self, hR0.1] at hg2
      exact hg2
    · have z1 := stp_sz hs
      have z2 := exec_sz w1
      exact zstep hX hd hs hm1 hm2 (by omega) (by omega) hR1 hR2 (ih M pc' ls' st' h1 r h' w1 hX (by omega) (by omega) hr1 hr2 hR1 hR2 hret)
