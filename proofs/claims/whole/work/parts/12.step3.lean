/-! arrays of references written, statics, texts, new cells, copies -/
theorem zMk_ok : ∀ q ∈ zMkT, q.1 < 1000000 ∧ ((q.2.1 = 28 ∧ q.2.2.1 = 21 ∧ zTab (q.2.2.2.1) = some (.classLink (zOwn (q.1 / 10000)) (q.1 % 10000) "[[J") ∧ zTab (q.2.2.2.2.2) = some (.arrayClass .long)) ∨ (q.2.1 = 29 ∧ q.2.2.1 = 20 ∧ zTab (q.2.2.2.1) = some (.classLink (zOwn (q.1 / 10000)) (q.1 % 10000) "[[I") ∧ zTab (q.2.2.2.2.2) = some (.arrayClass .int))) := by decide +kernel
theorem zArr_w : (Cond.arrayClass .int) ∈ zTb ∧ (Cond.arrayClass .long) ∈ zTb ∧ (Cond.arrayClass .byte) ∈ zTb ∧ (Cond.arrayClass .boolean) ∈ zTb := ⟨zTb_of (p := zpI) (by decide +kernel) rfl, zTb_of (p := zpJ) (by decide +kernel) rfl, zTb_of (p := zpB) (by decide +kernel) rfl, zTb_of (p := zpZ) (by decide +kernel) rfl⟩
theorem zSys_w : (Cond.initialized "java/lang/System") ∈ zTb ∧ (Cond.static arraycopyName) ∈ zTb ∧ (Cond.native arraycopyName) ∈ zTb ∧ (Cond.instanceMethod Lib.objectInit) ∈ zTb ∧ (Cond.code Lib.objectInit ⟨#[0xb1]⟩ 1 none) ∈ zTb := ⟨zTb_of (p := zpSy) (by decide +kernel) rfl, zTb_of (p := zpSt) (by decide +kernel) rfl, zTb_of (p := zpNa) (by decide +kernel) rfl, zTb_of (p := zpOi) (by decide +kernel) rfl, zTb_of (p := zpOc) (by decide +kernel) rfl⟩
section ZSV
variable {p : Program} {l : Launch} {e : Env} {R : Room} {s : State} {m : MethodId} {args : Array Value} {below : List Frame} {meth : Method} {c : Code} {Q : State → Prop} {E : zE} {g : Nat → Nat} {M : zM} {hin h h' : zMem} {pc pc' : Nat} {ls st ls' st' : List Value}
theorem zs_aas (hX : zX E g M p s m args meth c) {i : Int32} {a v : Nat} (hd : decode (zCode M) pc = .ok (.aastore, 1)) (hk : 24 ≤ kd h a ∧ kd h a < 28) (hv : kd h v = elK (kd h a)) (hi : inb i (ln h a) = true) (k : zGo p l e R s m args below meth c Q E M hin (sR h a (ix i) (some v)) (pc + 1) ls st) : zGo p l e R s m args below meth c Q E M hin h pc ls (.ref v :: .int i :: .ref a :: st) := by
  obtain ⟨hx, hb, hml, hown, hts, hK, hC, hin1, hbs⟩ := hX
  intro H locs la hR hl hS
  obtain ⟨q1, q2, q3⟩ := hR.own (a := a) hC (by omega) (by omega)
  rw [cellE_q hk.1 (by omega)] at q3
  obtain ⟨f1, f2, f3, f4, f5, f6, f7, f8⟩ := sR_f (h := h) (a := a) (k := ix i) (v := some v)
  have hin2 := inb_in hi
  have hlt : i.toNatClampNeg < ln h a := Nat.not_le.mp fun q => hin2 (Or.inr q)
  have h0 : ¬ i < 0 := fun q => hin2 (Or.inl q)
  have ht := hK.2 _ _ (zTq_at (E := E) hk.1 (show kd h a < 30 by omega))
  -- what lies at v
  have hel : ∃ (C : String) (cv : Cell), zTq (kd h a) = .object C ∧ H[v]? = some cv ∧ cv.vm.isStatics = false ∧ s.vm.findClass C = some cv.cls ∧ ∃ kv, s.vm.classes[cv.cls]? = some kv := by
    have obj : ∀ cc, cc < 13 → kd h v = cc + 1 → zTq (kd h a) = .object (zCn cc) → ∃ (C : String) (cv : Cell), zTq (kd h a) = .object C ∧ H[v]? = some cv ∧ cv.vm.isStatics = false ∧ s.vm.findClass C = some cv.cls ∧ ∃ kv, s.vm.classes[cv.cls]? = some kv := by
      intro cc hcc hkv hT
      obtain ⟨w1, w2, w3⟩ := hR.own (a := v) hC (by omega) (by omega)
      rw [cellE_o hkv hcc] at w3
      obtain ⟨cell, x1, x2, x3⟩ := va_recv (q0 := 0) hK (zP1 w3) (zC_cl cc hcc) rfl
      obtain ⟨kv, hkv, -⟩ := Vm.findClass_spec x3
      exact ⟨_, cell, hT, x1, x2, x3, kv, hkv⟩
    rcases (show kd h a = 24 ∨ kd h a = 25 ∨ kd h a = 26 ∨ kd h a = 27 by omega) with z | z | z | z
    · exact obj 8 (by decide) (by rw [hv, z]; rfl) (by rw [z]; rfl)
    · exact obj 2 (by decide) (by rw [hv, z]; rfl) (by rw [z]; rfl)
    · exact obj 1 (by decide) (by rw [hv, z]; rfl) (by rw [z]; rfl)
    · have hv41 : kd h v = 41 := by rw [hv, z]; rfl
      obtain ⟨w1, w2, -⟩ := hR.cst (a := v) (by omega)
      obtain ⟨cell, x1, x2, x3, x4⟩ := (hC.2.2.1 v w1 (by omega)).1
      obtain ⟨kv, hkv, -⟩ := Vm.findClass_spec x3
      exact ⟨_, cell, by rw [z]; rfl, by rw [hS.2.1 v (Array.getElem?_eq_some_iff.mp x1).1 x4]; exact x1, x2, x3, kv, hkv⟩
  obtain ⟨C, cv, hT, g1, g2, g3, kv, hkv⟩ := hel
  rw [hT] at ht
  obtain ⟨kA, comp, k1, k2, k3, -⟩ := ht.2
  have hcomp : comp = cv.cls := Option.some.inj (k3.symm.trans g3)
  subst hcomp
  refine W.aast hx hb q3 (fun q h => by cases h) (fun h => by cases h) k1 k2 rfl hkv ⟨h0, by show _ < (arrV _ _ _).slots.size; rw [arrV_size]; exact hlt⟩ g1 (fun q h => by rw [h] at g2; cases g2) hkv (va_asg _ _) rfl rfl hd fun H1 e1 z oq => ?_
  have hR' := hR.set q1 f1 f3 f4 f5 z oq (by
    rw [cellE_q (by rw [f3]; exact hk.1) (by rw [f3]; omega), f3, f4, f6]
    show H1[a]? = some (vp_cell _ _)
    rw [e1, vp_cell_q, vp_cell_q, arrV_store]
    congr 2
    funext q
    by_cases hq : q = ix i
    · subst hq; simp [updV, va_up, va_rf, ix]
    · simp only [updV, va_up]; rw [if_neg (by exact hq), if_neg hq])
  have k9 := k H1 (locs ++ [⟨a, ix i⟩]) la hR' hl (hS.put z oq q1)
  rw [f1, f2] at k9
  exact k9
theorem zs_sta (hX : zX E g M p s m args meth c) {idx i q : Nat} {v : Value} (hd : decode (zCode M) pc = .ok (.getstatic idx, 3)) (hlk : zGkT.lookup (zKey M idx) = some (i, q)) (hv : (i = 10 ∧ v = .int 1) ∨ (i = 11 ∧ v = va_rf (if g 11 = 0 then none else some (g 11 - 1))) ∨ (i < 3 ∧ v = .ref (g i))) (k : zGo p l e R s m args below meth c Q E M hin h (pc + 3) ls (v :: st)) : zGo p l e R s m args below meth c Q E M hin h pc ls st := by
  obtain ⟨hx, hb, hml, hown, hts, hK, hC, hin1, hbs⟩ := hX
  obtain ⟨o1, o2⟩ := zG_ok _ (zlk_mem hlk)
  obtain ⟨y1, y2⟩ := zKey_o o1
  dsimp only at o1 o2
  rw [y1, y2] at o2
  obtain ⟨-, -, -, -, b0, b1, b2, b3, b4, -⟩ := hC
  intro H locs la hR hl hS
  have k2 := k H locs la hR hl hS
  rcases o2 with ⟨z, o⟩ | ⟨z, o⟩ | ⟨z, o⟩ | ⟨z, o⟩ | ⟨z, o⟩ <;> subst z <;> rcases hv with ⟨z, hv⟩ | ⟨z, hv⟩ | ⟨z, hv⟩ <;> (first | omega | skip) <;> subst hv
  · exact va_gets hx hb b0 hS hown (hts _ (zTb_of o rfl)) (fun _ h => h) hd k2
  · exact va_gets hx hb b1 hS hown (hts _ (zTb_of o rfl)) (fun _ h => h) hd k2
  · exact va_gets hx hb b2 hS hown (hts _ (zTb_of o rfl)) (fun _ h => h) hd k2
  · exact va_gets hx hb b3 hS hown (hts _ (zTb_of o rfl)) (fun _ h => h) hd k2
  · exact va_gets hx hb b4 hS hown (hts _ (zTb_of o rfl)) (fun _ h => h) hd k2
theorem zs_ldcS (hX : zX E g M p s m args meth c) {idx i q : Nat} (hd : decode (zCode M) pc = .ok (.ldc idx, 2)) (hlk : zTkT.lookup (zKey M idx) = some (i, q)) (k : zGo p l e R s m args below meth c Q E M hin h (pc + 2) ls (.ref (g (100 + i)) :: st)) : zGo p l e R s m args below meth c Q E M hin h pc ls st := by
  obtain ⟨hx, hb, hml, hown, hts, hK, hC, hin1, hbs⟩ := hX
  have hm := zlk_mem hlk
  obtain ⟨y1, y2⟩ := zKey_o (zT_ok _ hm)
  have hZ := hC.2.2.2.2.2.2.2.2.2.1 _ hm
  dsimp only at hZ
  rw [y1, y2] at hZ
  exact zg_p k fun H locs la _ _ _ w => va_ldcS hx hb hown hZ hd w
theorem zs_ldcI (hX : zX E g M p s m args meth c) {idx q : Nat} {v : Int32} (hlk : zCkT.lookup (zKey M idx) = some (v, q)) (hd : decode (zCode M) pc = .ok (.ldc idx, 2)) (k : zGo p l e R s m args below meth c Q E M hin h (pc + 2) ls (.int v :: st)) : zGo p l e R s m args below meth c Q E M hin h pc ls st := by
  obtain ⟨hx, hb, hml, hown, hts, hK, hC, hin1, hbs⟩ := hX
  obtain ⟨o1, o2⟩ := zCk_ok _ (zlk_mem hlk)
  obtain ⟨y1, y2⟩ := zKey_o o1
  dsimp only at o1 o2
  rw [y1, y2] at o2
  exact zg_p k fun H locs la _ _ _ w => lv_ldc hx hb hown (hts _ (zTb_of o2 rfl)) hd w
theorem zs_ldwA {T : State} {locs : List Loc} {cells slots : Nat} (X : Stand p l e R s m args below meth c T locs cells slots) (hexec : p.tables.exec = Jvm.exec) {own text : String} {index a : Nat} (hown : s.vm.findClass own = some m.cls) (hconst : (Jvm.Cond.stringRef own index text).before args s = true) (hev : (Term.string own index).eval args s none [] s = some (.ref a)) {f : JFrame} (hf : f.method = m) (hdf : decode c.code f.pc = .ok (.ldc_w index, 3)) :
    ∀ target, Steps p.tables e below (T.setTop { f with pc := f.pc + 3, stack := .ref a :: f.stack }) target → Steps p.tables e below (T.setTop f) target := by
  obtain ⟨k, cf, i, a', hk, hcf, hcp, -, hr, hev'⟩ := Jvm.Cond.stringRef_spec hown hconst
  cases hev.symm.trans hev'
  obtain ⟨k', hk', he⟩ := X.warmed.alike.2.2 _ _ hk
  have hr' : k'.resolved[index]? = some (some (.string a)) := by
    rcases X.warmed.entry hk hk' index with h | ⟨h, -⟩
    · rw [h]; exact hr
    · rw [hr] at h; cases h
  intro target hrest
  subst hf
  jvm_step X.here [hexec, hdf, ldc_w.wp_string (e := e) (s := T) (f := f) X.here.top hk' (by rw [he]; exact hcf) hcp hr']
  exact hrest
theorem zs_ldwS (hX : zX E g M p s m args meth c) {idx i q : Nat} (hd : decode (zCode M) pc = .ok (.ldc_w idx, 3)) (hlk : zTkT.lookup (zKey M idx) = some (i, q)) (k : zGo p l e R s m args below meth c Q E M hin h (pc + 3) ls (.ref (g (100 + i)) :: st)) : zGo p l e R s m args below meth c Q E M hin h pc ls st := by
  obtain ⟨hx, hb, hml, hown, hts, hK, hC, hin1, hbs⟩ := hX
  have hm := zlk_mem hlk
  obtain ⟨y1, y2⟩ := zKey_o (zT_ok _ hm)
  have hZ := hC.2.2.2.2.2.2.2.2.2.1 _ hm
  dsimp only at hZ
  rw [y1, y2] at hZ
  refine zg_p k fun H locs la _ _ _ w => ?_
  intro T hT X
  obtain ⟨t, a1, b1⟩ := w T hT X
  exact ⟨t, zs_ldwA X hx hown hZ.1 hZ.2 (f := F0 m pc la st) rfl (by rw [hb]; exact hd) t a1, b1⟩
theorem zs_ldw (hX : zX E g M p s m args meth c) {idx q : Nat} {v : Int32} (hlk : zCkT.lookup (zKey M idx) = some (v, q)) (hd : decode (zCode M) pc = .ok (.ldc_w idx, 3)) (k : zGo p l e R s m args below meth c Q E M hin h (pc + 3) ls (.int v :: st)) : zGo p l e R s m args below meth c Q E M hin h pc ls st := by
  obtain ⟨hx, hb, hml, hown, hts, hK, hC, hin1, hbs⟩ := hX
  obtain ⟨o1, o2⟩ := zCk_ok _ (zlk_mem hlk)
  obtain ⟨y1, y2⟩ := zKey_o o1
  dsimp only at o1 o2
  rw [y1, y2] at o2
  exact zg_p k fun H locs la _ _ _ w => lv_ldcw hx hb hown (hts _ (zTb_of o2 rfl)) hd w
theorem zs_ld2 (hX : zX E g M p s m args meth c) {idx q : Nat} {v : Int64} (hlk : zDkT.lookup (zKey M idx) = some (v, q)) (hd : decode (zCode M) pc = .ok (.ldc2_w idx, 3)) (k : zGo p l e R s m args below meth c Q E M hin h (pc + 3) ls (.long v :: st)) : zGo p l e R s m args below meth c Q E M hin h pc ls st := by
  obtain ⟨hx, hb, hml, hown, hts, hK, hC, hin1, hbs⟩ := hX
  obtain ⟨o1, o2⟩ := zDk_ok _ (zlk_mem hlk)
  obtain ⟨y1, y2⟩ := zKey_o o1
  dsimp only at o1 o2
  rw [y1, y2] at o2
  exact zg_p k fun H locs la _ _ _ w => lv_ldc2 hx hb hown (hts _ (zTb_of o2 rfl)) hd w
/-- a new cell -/
theorem nw_f {h : zMem} {k n w : Nat} : sz (nw h k n w) = sz h + 1 ∧ sl (nw h k n w) = sl h + w ∧ kd (nw h k n w) (sz h) = k ∧ ln (nw h k n w) (sz h) = n ∧ gI (nw h k n w) (sz h) = (fun _ => 0) ∧ gL (nw h k n w) (sz h) = (fun _ => 0) ∧ gR (nw h k n w) (sz h) = (fun _ => none) ∧ ∀ b, b ≠ sz h → kd (nw h k n w) b = kd h b ∧ ln (nw h k n w) b = ln h b ∧ gI (nw h k n w) b = gI h b ∧ gL (nw h k n w) b = gL h b ∧ gR (nw h k n w) b = gR h b := by
  refine ⟨rfl, rfl, ?_, ?_, ?_, ?_, ?_, fun b hb => ?_⟩
  · simp [nw, kd, sz]
  · simp [nw, ln, sz]
  · funext j; simp [nw, gI, sz]
  · funext j; simp [nw, gL, sz]
  · funext j; simp [nw, gR, sz]
  · unfold sz at hb
    refine ⟨by simp [nw, kd, hb], by simp [nw, ln, hb], ?_, ?_, ?_⟩ <;> (funext j; simp [nw, gI, gL, gR, hb])
theorem cellE_cg {E : zE} {h h' : zMem} {b : Nat} (e1 : kd h' b = kd h b) (e2 : ln h' b = ln h b) (e3 : gI h' b = gI h b) (e4 : gL h' b = gL h b) (e5 : gR h' b = gR h b) : cellE E h' b = cellE E h b := by
  unfold cellE fsO fvl
  rw [e1, e2, e3, e4, e5]
theorem HR.new {H H' : Heap} {k n w : Nat} (hR : HR E h H) (z : H'.size = H.size + 1) (o : ∀ q : Nat, q < H.size → H'[q]? = H[q]?) (hk : k < 40) (hat : va_at E.1 vwCl (sz h, cellE E (nw h k n w) (sz h)) H') : HR E (nw h k n w) H' := by
  obtain ⟨r1, r2, r3, r4, r5⟩ := hR
  obtain ⟨f1, f2, f3, f4, f5, f6, f7, f8⟩ := nw_f (h := h) (k := k) (n := n) (w := w)
  refine ⟨by rw [z, r1, f1], by rw [f1]; omega, fun b hb hbs => ?_, fun b hb => ?_, fun b hb => ?_⟩
  · rw [f1] at hbs
    by_cases q : b = sz h
    · subst q; exact ⟨hat, by rw [f3]; exact hk⟩
    · obtain ⟨x1, x2, x3, x4, x5⟩ := f8 b q
      obtain ⟨y1, y2⟩ := r3 b hb (by omega)
      rw [cellE_cg x1 x2 x3 x4 x5, x1]
      exact ⟨y1.kept (o b (by omega)), y2⟩
  · obtain ⟨x1, x2, x3, x4, x5⟩ := f8 b (by omega)
    rw [x1, x2, x3, x5]
    exact r4 b hb
  · rw [f1] at hb
    rw [(f8 b (by omega)).1]
    exact r5 b (by omega)
theorem vaS_new {A : Nat → Prop} {H0 H H1 : Heap} {locs : List Loc} (hS : va_S A H0 H locs) {n : Nat} (z : H1.size = H.size + n) (o : ∀ q : Nat, q < H.size → H1[q]? = H[q]?) : va_S A H0 H1 locs :=
  ⟨Nat.le_trans hS.1 (by omega), fun x h1 h2 => (o x (Nat.lt_of_lt_of_le h1 hS.1)).trans (hS.2.1 x h1 h2), hS.2.2⟩
theorem zs_new (hX : zX E g M p s m args meth c) {idx cc w : Nat} {q : Nat × Nat × Nat} (hd : decode (zCode M) pc = .ok (.new idx, 3)) (hlk : zNkT.lookup (zKey M idx) = some (cc, w, q)) (hw : w = zSl cc) (hm1 : s.heap.size ≤ sz h) (hm2 : sl hin ≤ sl h) (hr1 : sz h + 1 - s.heap.size ≤ R.cells) (hr2 : sl h + w - sl hin ≤ R.slots) (k : zGo p l e R s m args below meth c Q E M hin (nw h (cc + 1) 0 w) (pc + 3) ls (.ref (sz h) :: st)) : zGo p l e R s m args below meth c Q E M hin h pc ls st := by
  obtain ⟨hx, hb, hml, hown, hts, hK, hC, hin1, hbs⟩ := hX
  obtain ⟨o1, o2, o3, o4, o5⟩ := zN_ok _ (zlk_mem hlk)
  obtain ⟨y1, y2⟩ := zKey_o o1
  dsimp only at o1 o2 o3 o4 o5
  rw [y1, y2] at o3
  intro H locs la hR hl hS
  have hc := zC_cl cc o2
  have hKn := hK.1 cc _ hc
  obtain ⟨f1, f2, f3, f4, f5, f6, f7, f8⟩ := nw_f (h := h) (k := cc + 1) (n := 0) (w := w)
  subst hw
  refine W.newcK hx hb hown (hts _ (zTb_of o3 rfl)) (hts _ (zTb_of o4 rfl)) (hts _ (zTb_of o5 rfl)) rfl hd (by omega) (by omega) hKn.2.1 hR.1 fun H1 kC hkC e1 z1 o1 => ?_
  have z2 : H1.size = H.size + 1 := by rw [z1, hR.1]
  have o9 : ∀ q : Nat, q < H.size → H1[q]? = H[q]? := fun q hq => o1 q (by rw [← hR.1]; exact hq)
  have hR' := hR.new (k := cc + 1) (n := 0) (w := zSl cc) z2 o9 (by omega) (by
    rw [cellE_o f3 o2]
    refine ⟨_, hc, (u_born (zTyc cc) hts (zC_in cc o2) hKn hkC e1 (zTy_ok cc o2)).to fun j hj => ?_⟩
    rw [fsO_V hj]
    obtain ⟨t1, t2⟩ := zFt_ty cc o2 j hj
    unfold fvl
    rw [f5, f6, f7]
    rw [t1] at t2 ⊢
    clear t1
    revert t2
    generalize zTyc cc j = ty
    intro t2
    cases ty <;> first | rfl | exact absurd t2 (by simp [zFc]))
  have k2 := k H1 locs la hR' hl (vaS_new hS z2 o9)
  rw [f1, f2, show sz h + 1 - s.heap.size = sz h - s.heap.size + 1 by omega, show sl h + zSl cc - sl hin = sl h - sl hin + zSl cc by omega] at k2
  exact k2
theorem zs_nwa (hX : zX E g M p s m args meth c) {t : ArrayType} {n : Int32} (hd : decode (zCode M) pc = .ok (.newarray t, 2)) (ht : ¬ zAt t = 0) (hn : 0 ≤ n) (hn2 : n.toNatClampNeg < 65536) (hm1 : s.heap.size ≤ sz h) (hm2 : sl hin ≤ sl h) (hr1 : sz h + 1 - s.heap.size ≤ R.cells) (hr2 : sl h + n.toNatClampNeg - sl hin ≤ R.slots) (k : zGo p l e R s m args below meth c Q E M hin (nw h (zAt t) n.toNatClampNeg n.toNatClampNeg) (pc + 2) ls (.ref (sz h) :: st)) : zGo p l e R s m args below meth c Q E M hin h pc ls (.int n :: st) := by
  obtain ⟨hx, hb, hml, hown, hts, hK, hC, hin1, hbs⟩ := hX
  intro H locs la hR hl hS
  obtain ⟨f1, f2, f3, f4, f5, f6, f7, f8⟩ := nw_f (h := h) (k := zAt t) (n := n.toNatClampNeg) (w := n.toNatClampNeg)
  have hn0 : ¬ n < 0 := Int32.not_lt.mpr hn
  have core : ∀ (hw : (Cond.arrayClass (newarray.typeOf t)) ∈ zTb) (hby : n.toNatClampNeg * componentBytes (newarray.typeOf t) ≤ 536870912) (hz : zAt t < 24) (i : Nat) (hi : (zTys E)[i]? = some (E.2.2.1 (zAt t), newarray.typeOf t)) (hnob : ∀ C, newarray.typeOf t ≠ .object C) (hcell : ∃ z, cellE E (nw h (zAt t) n.toNatClampNeg n.toNatClampNeg) (sz h) = .inl (E.2.2.1 (zAt t), n.toNatClampNeg, z) ∧ vp_cell (E.2.2.1 (zAt t)) (n.toNatClampNeg, z) = arrV (E.2.2.1 (zAt t)) n.toNatClampNeg (fun _ => defaultValue (newarray.typeOf t))), W p l e R s m args below meth c H locs (sz h - s.heap.size) (sl h - sl hin) Q (F0 m pc la (.int n :: st)) := by
    intro hw hby hz i hi hnob ⟨z, hc1, hc2⟩
    refine va_newaK hx hb (hts _ hw) rfl hd rfl hn0 rfl hby (by omega) (by omega) hR.1 fun H1 cA e1 z1 o1 hAr hNm => ?_
    have z2 : H1.size = H.size + 1 := by rw [z1, hR.1]
    have o9 : ∀ q : Nat, q < H.size → H1[q]? = H[q]? := fun q hq => o1 q (by rw [← hR.1]; exact hq)
    have hRA := (hK.2 i _ hi).2
    have hcA : cA = E.2.2.1 (zAt t) := by
      have h9 : s.vm.findClass ("[" ++ (newarray.typeOf t).toString) = some (E.2.2.1 (zAt t)) := by
        revert hRA hnob
        generalize newarray.typeOf t = ty
        intro hnob hRA
        cases ty with
        | object C => exact absurd rfl (hnob C)
        | _ => exact hRA
      exact Option.some.inj (hNm.symm.trans h9)
    have hR' := hR.new (k := zAt t) (n := n.toNatClampNeg) (w := n.toNatClampNeg) z2 o9 (by omega) (by
      rw [hc1]
      show H1[sz h]? = some (vp_cell _ _)
      rw [hc2, ← hcA]
      exact e1)
    have k2 := k H1 locs la hR' hl (vaS_new hS z2 o9)
    rw [f1, f2, show sz h + 1 - s.heap.size = sz h - s.heap.size + 1 by omega, show sl h + n.toNatClampNeg - sl hin = sl h - sl hin + n.toNatClampNeg by omega] at k2
    exact k2
  cases t with
  | int => exact core zArr_w.1 (by show _ * 4 ≤ _; omega) (by decide) 0 rfl (fun C h => by cases h) ⟨_, by unfold cellE; rw [f3, f4, f5]; rfl, rfl⟩
  | long => exact core zArr_w.2.1 (by show _ * 8 ≤ _; omega) (by decide) 1 rfl (fun C h => by cases h) ⟨_, by unfold cellE; rw [f3, f4, f6]; rfl, rfl⟩
  | byte => exact core zArr_w.2.2.1 (by show _ * 1 ≤ _; omega) (by decide) 2 rfl (fun C h => by cases h) ⟨_, by unfold cellE; rw [f3, f4, f5]; rfl, rfl⟩
  | boolean => exact core zArr_w.2.2.2 (by show _ * 1 ≤ _; omega) (by decide) 3 rfl (fun C h => by cases h) ⟨_, by unfold cellE; rw [f3, f4, f5]; rfl, rfl⟩
  | _ => exact absurd rfl ht
end ZSV
