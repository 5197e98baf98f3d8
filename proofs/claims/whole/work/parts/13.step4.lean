/-! arrays of references made, copies, Object's constructor -/
theorem zr_outer (c : ClassId) (N h0 : Nat) : ∀ i : Nat, Jvm.Free.Multi.outerC c N h0 i = arrV c N (fun j => va_rf (if j < i then some (h0 + 1 + j) else none))
  | 0 => by
    show ({ cls := c, slots := Array.replicate N .null, vm := .none } : Cell) = _
    rw [arrV_new]
    refine congrArg (arrV c N) (funext fun j => ?_)
    simp [va_rf]
  | i + 1 => by
    show (Jvm.Free.Multi.outerC c N h0 i).setSlot i (.ref (h0 + 1 + i)) = _
    rw [zr_outer c N h0 i, arrV_store]
    refine congrArg (arrV c N) (funext fun j => ?_)
    by_cases e : j = i
    · subst e
      simp [updV, va_rf]
    · by_cases h : j < i
      · simp [updV, e, h, Nat.lt_succ_of_lt h]
      · simp [updV, e, h, show ¬ j < i + 1 by omega]
theorem zr_inner (c : ClassId) (N : Nat) (dv : Value) : Jvm.Free.Multi.innerC c N dv = arrV c N (fun _ => dv) := by
  rw [← arrV_new]
  rfl
theorem vaRA_find {U : State} {cA : ClassId} {ty : FieldType} (h : va_RA U cA ty) (hn : ∀ C, ty ≠ .object C) : U.vm.findClass ("[" ++ ty.toString) = some cA := by
  cases ty with
  | object C => exact absurd rfl (hn C)
  | _ => exact h
section ZSW
variable {p : Program} {l : Launch} {e : Env} {R : Room} {s : State} {m : MethodId} {args : Array Value} {below : List Frame} {meth : Method} {c : Code} {Q : State → Prop} {E : zE} {g : Nat → Nat} {M : zM} {hin h h' : zMem} {pc pc' : Nat} {ls st ls' st' : List Value}
theorem zs_anw (hX : zX E g M p s m args meth c) {n : Int32} {idx q : Nat} {w : Nat × Nat} (hd : decode (zCode M) pc = .ok (.anewarray idx, 3)) (hlk : zAkT.lookup (zKey M idx) = some (q, w)) (hn : 0 ≤ n) (hn2 : n.toNatClampNeg < 65536) (hm1 : s.heap.size ≤ sz h) (hm2 : sl hin ≤ sl h) (hr1 : sz h + 1 - s.heap.size ≤ R.cells) (hr2 : sl h + n.toNatClampNeg - sl hin ≤ R.slots) (k : zGo p l e R s m args below meth c Q E M hin (nw h q n.toNatClampNeg n.toNatClampNeg) (pc + 3) ls (.ref (sz h) :: st)) : zGo p l e R s m args below meth c Q E M hin h pc ls (.int n :: st) := by
  obtain ⟨hx, hb, hml, hown, hts, hK, hC, hin1, hbs⟩ := hX
  obtain ⟨o1, o2, o3, o4⟩ := zAk_ok _ (zlk_mem hlk)
  obtain ⟨y1, y2⟩ := zKey_o o1
  dsimp only at o1 o2 o3 o4
  rw [y1, y2] at o4
  intro H locs la hR hl hS
  obtain ⟨f1, f2, f3, f4, f5, f6, f7, f8⟩ := nw_f (h := h) (k := q) (n := n.toNatClampNeg) (w := n.toNatClampNeg)
  have hn0 : ¬ n < 0 := Int32.not_lt.mpr hn
  obtain ⟨-, -, -, -, -, -, -, -, -, -, d1, d2, d3, d4, -⟩ := hC
  have core : ∀ C : String, zTq q = .object C → va_AO C s → (Cond.classLink (zOwn M.2.2.1) idx C).before args s = true → W p l e R s m args below meth c H locs (sz h - s.heap.size) (sl h - sl hin) Q (F0 m pc la (.int n :: st)) := by
    intro C hT hAO hcl
    have ht := hK.2 _ _ (zTq_at (E := E) o2 (show q < 30 by omega))
    rw [hT] at ht
    refine W.anew hx hb hown hcl (va_AO.use hAO) rfl hd rfl hn0 (by omega) (by omega) (by omega) fun cA kA comp w1 w2 w3 w4 => ?_
    obtain ⟨kA', comp', k1, k2, k3, k4⟩ := ht.2
    have hcA : cA = E.2.2.1 q := Option.some.inj (w1.symm.trans k4)
    subst hcA
    generalize hH1 : H.push ({ cls := E.2.2.1 q, slots := Array.replicate n.toNatClampNeg .null, vm := .none } : Cell) = H1
    have z2 : H1.size = H.size + 1 := by rw [← hH1, Array.size_push]
    have o9 : ∀ x : Nat, x < H.size → H1[x]? = H[x]? := fun x hx => by rw [← hH1, Array.getElem?_push, if_neg (Nat.ne_of_lt hx)]
    have e1 : H1[sz h]? = some (arrV (E.2.2.1 q) n.toNatClampNeg (fun _ => .null)) := by rw [← hR.1, ← hH1, Array.getElem?_push_size, ← arrV_new]
    have hR' := hR.new (k := q) (n := n.toNatClampNeg) (w := n.toNatClampNeg) z2 o9 (by omega) (by
      rw [cellE_q (by rw [f3]; exact o2) (by rw [f3]; omega), f3, f4, f7]
      exact e1)
    have k2 := k H1 locs la hR' hl (vaS_new hS z2 o9)
    rw [f1, f2, show sz h + 1 - s.heap.size = sz h - s.heap.size + 1 by omega, show sl h + n.toNatClampNeg - sl hin = sl h - sl hin + n.toNatClampNeg by omega] at k2
    rw [hR.1]
    exact k2
  rcases (show q = 24 ∨ q = 25 ∨ q = 26 ∨ q = 27 by omega) with z | z | z | z <;> subst z
  · exact core _ rfl d1 (hts _ (zTb_of o4 rfl))
  · exact core _ rfl d2 (hts _ (zTb_of o4 rfl))
  · exact core _ rfl d3 (hts _ (zTb_of o4 rfl))
  · exact core _ rfl d4 (hts _ (zTb_of o4 rfl))
theorem nwM_f {h : zMem} {K k n w : Nat} : sz (nwM h K k n w) = sz h + 1 + n ∧ sl (nwM h K k n w) = sl h + n + n * w ∧ kd (nwM h K k n w) (sz h) = K ∧ ln (nwM h K k n w) (sz h) = n ∧ gR (nwM h K k n w) (sz h) = (fun i => if i < n then some (sz h + 1 + i) else none) ∧ (∀ j, j < n → kd (nwM h K k n w) (sz h + 1 + j) = k ∧ ln (nwM h K k n w) (sz h + 1 + j) = w ∧ gI (nwM h K k n w) (sz h + 1 + j) = (fun _ => 0) ∧ gL (nwM h K k n w) (sz h + 1 + j) = (fun _ => 0)) ∧ ∀ b, (b < sz h ∨ sz h + n < b) → kd (nwM h K k n w) b = kd h b ∧ ln (nwM h K k n w) b = ln h b ∧ gI (nwM h K k n w) b = gI h b ∧ gL (nwM h K k n w) b = gL h b ∧ gR (nwM h K k n w) b = gR h b := by
  refine ⟨rfl, rfl, ?_, ?_, ?_, fun j hj => ⟨?_, ?_, ?_, ?_⟩, fun b hb => ⟨?_, ?_, ?_, ?_, ?_⟩⟩
  · simp [nwM, kd, sz]
  · simp [nwM, ln, sz]
  · funext j; simp [nwM, gR, sz]
  · simp only [nwM, kd, sz]; rw [if_neg (by omega), if_pos (by omega)]
  · simp only [nwM, ln, sz]; rw [if_neg (by omega), if_pos (by omega)]
  · funext i; simp only [nwM, gI, sz]; rw [if_pos (by omega)]
  · funext i; simp only [nwM, gL, sz]; rw [if_pos (by omega)]
  · unfold sz at hb; simp only [nwM, kd]; rw [if_neg (by omega), if_neg (by omega)]
  · unfold sz at hb; simp only [nwM, ln]; rw [if_neg (by omega), if_neg (by omega)]
  · unfold sz at hb; funext i; simp only [nwM, gI]; rw [if_neg (by omega)]
  · unfold sz at hb; funext i; simp only [nwM, gL]; rw [if_neg (by omega)]
  · unfold sz at hb; funext i; simp only [nwM, gR]; rw [if_neg (by omega), if_neg (by omega)]
theorem HR.newM {H H' : Heap} {K k n w : Nat} (hR : HR E h H) (hKk : (K = 28 ∧ k = 21) ∨ (K = 29 ∧ k = 20)) (z : H'.size = H.size + 1 + n) (o : ∀ q : Nat, q < H.size → H'[q]? = H[q]?) (e1 : H'[sz h]? = some (arrV (E.2.2.1 K) n (fun i => va_rf (if i < n then some (sz h + 1 + i) else none)))) (e2 : ∀ j, j < n → H'[sz h + 1 + j]? = some (arrV (E.2.2.1 k) w (fun _ => if k = 21 then .long 0 else .int 0))) : HR E (nwM h K k n w) H' := by
  obtain ⟨r1, r2, r3, r4, r5⟩ := hR
  obtain ⟨f1, f2, f3, f4, f5, f6, f7⟩ := nwM_f (h := h) (K := K) (k := k) (n := n) (w := w)
  refine ⟨by rw [z, r1, f1], by rw [f1]; omega, fun b hb hbs => ?_, fun b hb => ?_, fun b hb => ?_⟩
  · rw [f1] at hbs
    by_cases q : b < sz h
    · obtain ⟨x1, x2, x3, x4, x5⟩ := f7 b (Or.inl q)
      obtain ⟨y1, y2⟩ := r3 b hb q
      rw [cellE_cg x1 x2 x3 x4 x5, x1]
      exact ⟨y1.kept (o b (by omega)), y2⟩
    · by_cases q2 : b = sz h
      · subst q2
        refine ⟨?_, by rw [f3]; omega⟩
        rw [cellE_q (by rw [f3]; omega) (by rw [f3]; omega), f3, f4, f5]
        exact e1
      · obtain ⟨j, hj, rfl⟩ : ∃ j, j < n ∧ b = sz h + 1 + j := ⟨b - sz h - 1, by omega, by omega⟩
        obtain ⟨x1, x2, x3, x4⟩ := f6 j hj
        have h2 := e2 j hj
        rcases hKk with ⟨rfl, rfl⟩ | ⟨rfl, rfl⟩
        · refine ⟨?_, by rw [x1]; decide⟩
          unfold cellE
          rw [x1, x2, x4]
          exact h2
        · refine ⟨?_, by rw [x1]; decide⟩
          unfold cellE
          rw [x1, x2, x3]
          exact h2
  · obtain ⟨x1, x2, x3, x4, x5⟩ := f7 b (Or.inl (by omega))
    rw [x1, x2, x3, x5]
    exact r4 b hb
  · rw [f1] at hb
    rw [(f7 b (Or.inr (by omega))).1]
    exact r5 b (by omega)
theorem zs_mna (hX : zX E g M p s m args meth c) {n k : Int32} {idx K kk : Nat} {w : Nat × Nat × Nat} (hd : decode (zCode M) pc = .ok (.multianewarray idx 2, 4)) (hlk : zMkT.lookup (zKey M idx) = some (K, kk, w)) (hn : 0 ≤ n) (hn2 : n.toNatClampNeg < 65536) (hk : 0 ≤ k) (hk2 : k.toNatClampNeg < 65536) (hm1 : s.heap.size ≤ sz h) (hm2 : sl hin ≤ sl h) (hr1 : sz h + 1 + n.toNatClampNeg - s.heap.size ≤ R.cells) (hr2 : sl h + n.toNatClampNeg + n.toNatClampNeg * k.toNatClampNeg - sl hin ≤ R.slots) (kg : zGo p l e R s m args below meth c Q E M hin (nwM h K kk n.toNatClampNeg k.toNatClampNeg) (pc + 4) ls (.ref (sz h) :: st)) : zGo p l e R s m args below meth c Q E M hin h pc ls (.int k :: .int n :: st) := by
  obtain ⟨hx, hb, hml, hown, hts, hK, hC, hin1, hbs⟩ := hX
  obtain ⟨o1, o2⟩ := zMk_ok _ (zlk_mem hlk)
  obtain ⟨y1, y2⟩ := zKey_o o1
  dsimp only at o1 o2
  rw [y1, y2] at o2
  intro H locs la hR hl hS
  obtain ⟨f1, f2, f3, f4, f5, f6, f7⟩ := nwM_f (h := h) (K := K) (k := kk) (n := n.toNatClampNeg) (w := k.toNatClampNeg)
  have hn0 : ¬ n < 0 := Int32.not_lt.mpr hn
  have hk0 : ¬ k < 0 := Int32.not_lt.mpr hk
  obtain ⟨-, -, -, -, -, -, -, -, -, -, -, -, -, -, a1, a2⟩ := hC
  have core : ∀ (ty : FieldType) (dv : Value), (Cond.classLink (zOwn M.2.2.1) idx ("[" ++ (FieldType.array ty).toString)).before args s = true → zAOA ty s → (Cond.arrayClass ty).before args s = true → k.toNatClampNeg * componentBytes ty ≤ 536870912 → defaultValue ty = dv → fits ty dv = true → dv.isDefault = true → ((K = 28 ∧ kk = 21) ∨ (K = 29 ∧ kk = 20)) → (zTys E)[K - 20]? = some (E.2.2.1 K, .array ty) → (∃ i : Nat, (zTys E)[i]? = some (E.2.2.1 kk, ty)) → (∀ C, ty ≠ .object C) → (FieldType.array ty).toString = "[" ++ ty.toString → dv = (if kk = 21 then .long 0 else .int 0) → W p l e R s m args below meth c H locs (sz h - s.heap.size) (sl h - sl hin) Q (F0 m pc la (.int k :: .int n :: st)) := by
    intro ty dv hcl hAO hac hby hdv hdf hdd hKk hT1 ⟨ii, hT2⟩ hnob hstr hdv2 T hT Xs
    obtain ⟨vm₁, cA, comp, -, fA, fC, hO, -, X', step⟩ := Xs.multianewarray2F hx hown hcl hAO hac (g := F0 m pc la (.int k :: .int n :: st)) rfl (by rw [hb]; exact hd) rfl hn0 hk0 (by omega) hby (by omega) (by rw [hdv]; exact hdf) (by rw [hdv]; exact hdd) (by omega) (by omega)
    have hcA : cA = E.2.2.1 K := Option.some.inj (fA.symm.trans (hK.2 _ _ hT1).2)
    have hco : comp = E.2.2.1 kk := by
      have h9 : s.vm.findClass ("[" ++ ty.toString) = some (E.2.2.1 kk) := vaRA_find (hK.2 _ _ hT2).2 hnob
      rw [hstr] at fC
      exact Option.some.inj (fC.symm.trans h9)
    subst hcA
    subst hco
    rw [hdv] at X' step
    generalize hF : Jvm.Free.Multi.fill (T.setVm vm₁) (E.2.2.1 K) (E.2.2.1 kk) n.toNatClampNeg k.toNatClampNeg dv n.toNatClampNeg = F at X' step
    have hTh : (T.setVm vm₁).heap = H := hT
    obtain ⟨g1, g2, -, -⟩ := Jvm.Free.Multi.fill_facts (T.setVm vm₁) (E.2.2.1 K) (E.2.2.1 kk) n.toNatClampNeg k.toNatClampNeg dv n.toNatClampNeg
    rw [hF, hTh] at g1 g2
    have hold : ∀ x : Nat, x < H.size → F.heap[x]? = H[x]? := fun x hx => by
      have := Jvm.Free.Multi.fill_old (T.setVm vm₁) (E.2.2.1 K) (E.2.2.1 kk) n.toNatClampNeg k.toNatClampNeg dv (a := x) (by rw [hTh]; exact hx) n.toNatClampNeg
      rw [hF, hTh] at this
      exact this
    have hrow : ∀ j : Nat, j < n.toNatClampNeg → F.heap[H.size + 1 + j]? = some (arrV (E.2.2.1 kk) k.toNatClampNeg (fun _ => dv)) := fun j hj => by
      have := Jvm.Free.Multi.fill_inner (T.setVm vm₁) (E.2.2.1 K) (E.2.2.1 kk) n.toNatClampNeg k.toNatClampNeg dv n.toNatClampNeg j hj
      rw [hF, hTh, zr_inner] at this
      exact this
    rw [zr_outer] at g2
    have hR' := hR.newM (K := K) (k := kk) (n := n.toNatClampNeg) (w := k.toNatClampNeg) hKk (H' := F.heap) (by omega) hold (by rw [← hR.1]; exact g2) (fun j hj => by rw [← hR.1, ← hdv2]; exact hrow j hj)
    have k2 := kg F.heap locs la hR' hl (vaS_new (n := 1 + n.toNatClampNeg) hS (by omega) hold)
    rw [f1, f2, show sz h + 1 + n.toNatClampNeg - s.heap.size = sz h - s.heap.size + 1 + n.toNatClampNeg by omega, show sl h + n.toNatClampNeg + n.toNatClampNeg * k.toNatClampNeg - sl hin = sl h - sl hin + n.toNatClampNeg + n.toNatClampNeg * k.toNatClampNeg by omega] at k2
    obtain ⟨t, b1, b2⟩ := k2 F rfl X'
    rw [hT, hR.1] at step
    exact ⟨t, step t b1, b2⟩
  rcases o2 with ⟨z1, z2, z3, z4⟩ | ⟨z1, z2, z3, z4⟩ <;> subst z1 <;> subst z2
  · exact core .long (.long 0) (hts _ (zTb_of z3 rfl)) a1 (hts _ zArr_w.2.1) (by show _ * 8 ≤ _; omega) rfl rfl rfl (Or.inl ⟨rfl, rfl⟩) rfl ⟨1, rfl⟩ (fun C h => by cases h) rfl rfl
  · exact core .int (.int 0) (hts _ (zTb_of z3 rfl)) a2 (hts _ zArr_w.1) (by show _ * 4 ≤ _; omega) rfl rfl rfl (Or.inr ⟨rfl, rfl⟩) rfl ⟨0, rfl⟩ (fun C h => by cases h) rfl rfl
end ZSW
section ZSY
variable {p : Program} {l : Launch} {e : Env} {R : Room} {s : State} {m : MethodId} {args : Array Value} {below : List Frame} {meth : Method} {c : Code} {Q : State → Prop} {E : zE} {g : Nat → Nat} {M : zM} {hin h h' : zMem} {pc pc' : Nat} {ls st ls' st' : List Value}
theorem cpI_f {h : zMem} {a sp b dp n : Nat} : sz (cpI h a sp b dp n) = sz h ∧ sl (cpI h a sp b dp n) = sl h ∧ (∀ q, kd (cpI h a sp b dp n) q = kd h q) ∧ (∀ q, ln (cpI h a sp b dp n) q = ln h q) ∧ (∀ q, q ≠ b → gI (cpI h a sp b dp n) q = gI h q ∧ gL (cpI h a sp b dp n) q = gL h q ∧ gR (cpI h a sp b dp n) q = gR h q) ∧ gI (cpI h a sp b dp n) b = va_cpy (gI h a) (gI h b) sp dp n := by
  refine ⟨rfl, rfl, fun _ => rfl, fun _ => rfl, fun q hq => ⟨?_, rfl, rfl⟩, ?_⟩
  · funext j; simp [gI, cpI, hq]
  · funext j; simp [gI, cpI, va_cpy]
theorem cpL_f {h : zMem} {a sp b dp n : Nat} : sz (cpL h a sp b dp n) = sz h ∧ sl (cpL h a sp b dp n) = sl h ∧ (∀ q, kd (cpL h a sp b dp n) q = kd h q) ∧ (∀ q, ln (cpL h a sp b dp n) q = ln h q) ∧ (∀ q, q ≠ b → gI (cpL h a sp b dp n) q = gI h q ∧ gL (cpL h a sp b dp n) q = gL h q ∧ gR (cpL h a sp b dp n) q = gR h q) ∧ gL (cpL h a sp b dp n) b = va_cpy (gL h a) (gL h b) sp dp n := by
  refine ⟨rfl, rfl, fun _ => rfl, fun _ => rfl, fun q hq => ⟨rfl, ?_, rfl⟩, ?_⟩
  · funext j; simp [gL, cpL, hq]
  · funext j; simp [gL, cpL, va_cpy]
theorem rng_ok {i n : Int32} {w : Nat} (h : rng i n w = true) : ¬ i < 0 ∧ ¬ n < 0 ∧ i.toNatClampNeg + n.toNatClampNeg ≤ w := by
  unfold rng at h
  simp only [Bool.and_eq_true, decide_eq_true_eq] at h
  exact ⟨Int32.not_lt.mpr h.1.1, Int32.not_lt.mpr h.1.2, h.2⟩
theorem i32_nn {z : Int32} (hz : ¬ z < 0) : z.toInt = (z.toNatClampNeg : Int) := by
  have hz0 : (0 : Int) ≤ z.toInt := by
    have := Int32.not_lt.mp hz
    simpa using Int32.le_iff_toInt_le.mp this
  show z.toInt = ((z.toInt.toNat : Nat) : Int)
  omega
theorem zs_cpy (hX : zX E g M p s m args meth c) {idx q a b : Nat} {k dp sp : Int32} (hd : decode (zCode M) pc = .ok (.invokestatic idx, 3)) (hlk : zYkT.lookup (zKey M idx) = some q) (hf : 1 ≤ zNf M) (hl0 : catS st + 18 ≤ zNl M) (hR1 : zNf M ≤ R.frames) (hR2 : zNl M ≤ R.locals) (w1 : rng sp k (ln h a) = true) (w2 : rng dp k (ln h b) = true) (hk : (kd h a = 20 ∧ kd h b = 20 ∧ h' = cpI h a (ix sp) b (ix dp) (ix k)) ∨ (kd h a = 21 ∧ kd h b = 21 ∧ h' = cpL h a (ix sp) b (ix dp) (ix k))) (kg : zGo p l e R s m args below meth c Q E M hin h' (pc + 3) ls st) : zGo p l e R s m args below meth c Q E M hin h pc ls (.int k :: .int dp :: .ref b :: .int sp :: .ref a :: st) := by
  obtain ⟨hx, hb, hml, hown, hts, hK, hC, hin1, hbs⟩ := hX
  obtain ⟨o1, o2⟩ := zYk_ok _ (zlk_mem hlk)
  obtain ⟨y1, y2⟩ := zKey_o o1
  dsimp only at o1 o2
  rw [y1, y2] at o2
  obtain ⟨n1, n2, n3⟩ := rng_ok w1
  obtain ⟨n4, -, n6⟩ := rng_ok w2
  intro H locs la hR hl hS
  have hw : nativeFrameWords "java/lang/System" "arraycopy" 5 = 7 := by decide +kernel
  have core : ∀ {α : Type} (mk : α → Value) (ty : FieldType) (q0 : Nat) (fa fb : Nat → α) (hra : refKind ty = false) (hft : ∀ x, fits ty (mk x) = true) (hk0 : ∀ x, (match mk x with | .ref _ => False | _ => True)) (hc0 : H[a]? = some (arrV (E.2.2.1 q0) (ln h a) (fun j => mk (fa j)))) (hc1 : H[b]? = some (arrV (E.2.2.1 q0) (ln h b) (fun j => mk (fb j)))) (hT : (zTys E)[q0 - 20]? = some (E.2.2.1 q0, ty)) (hqb : E.2.1 ≤ b) (hfin : ∀ (H1 : Heap), H1[b]? = some (arrV (E.2.2.1 q0) (ln h b) (fun j => mk (va_cpy fa fb sp.toNatClampNeg dp.toNatClampNeg k.toNatClampNeg j))) → H1.size = H.size → (∀ x : Nat, x ≠ b → H1[x]? = H[x]?) → HR E h' H1) (hh : sz h' = sz h ∧ sl h' = sl h), W p l e R s m args below meth c H locs (sz h - s.heap.size) (sl h - sl hin) Q (F0 m pc la (.int k :: .int dp :: .ref b :: .int sp :: .ref a :: st)) := by
    intro α mk ty q0 fa fb hra hft hk0 hc0 hc1 hT hqb hfin hh T hT2 X
    obtain ⟨-, k0, hk9, cm0, hkk0⟩ := (hK.2 _ _ hT).1 (ln h a) (fun j => mk (fa j))
    obtain ⟨vm', X', step⟩ := X.arraycopy hx hown (hts _ (zTb_of o2 rfl)) (hts _ zSys_w.2.2.1) (hts _ zSys_w.2.1) (hts _ zSys_w.1) (src := a) (dst := b) (cs := arrV (E.2.2.1 q0) (ln h a) (fun j => mk (fa j))) (cd := arrV (E.2.2.1 q0) (ln h b) (fun j => mk (fb j))) (srcPos := sp) (destPos := dp) (n := k) (by rw [hT2]; exact hc0) (by rw [hT2]; exact hc1)
      (fun _ h => by cases h) (fun _ h => by cases h) (fun h => by cases h) (fun h => by cases h) hk9 hk9 hkk0 hkk0 (by simp [hra]) n1 n4 n2
      (by rw [i32_nn n1, i32_nn n2, arrV_size]; omega)
      (by rw [i32_nn n4, i32_nn n2, arrV_size]; omega)
      (fun vm₁ _ i hi => by
        have ee : (arrV (E.2.2.1 q0) (ln h a) (fun j => mk (fa j))).slots.getD (sp.toNatClampNeg + i) .null = mk (fa (sp.toNatClampNeg + i)) := by
          rw [Array.getD_eq_getD_getElem?, arrV_read _ _ (by omega)]
          rfl
        refine ⟨?_, ?_⟩
        · rw [ee]
          exact hft _
        · rw [ee]
          have := hk0 (fa (sp.toNatClampNeg + i))
          revert this
          cases mk (fa (sp.toNatClampNeg + i)) <;> intro this <;> first | exact trivial | exact this.elim)
      (g := F0 m pc la (.int k :: .int dp :: .ref b :: .int sp :: .ref a :: st)) rfl (by rw [hml]; exact hl.1) (rest := st) rfl (by rw [hb]; exact hd) (by omega) (by unfold catS at hl0; show 2 * 0 + _ + _ ≤ _; omega)
    have e1 : copied (arrV (E.2.2.1 q0) (ln h a) (fun j => mk (fa j))) (arrV (E.2.2.1 q0) (ln h b) (fun j => mk (fb j))) sp dp k = arrV (E.2.2.1 q0) (ln h b) (fun j => mk (va_cpy fa fb sp.toNatClampNeg dp.toNatClampNeg k.toNatClampNeg j)) := va_copied mk (E.2.2.1 q0) (E.2.2.1 q0) fa fb n3
    rw [e1] at X' step
    have hlt : b < H.size := (Array.getElem?_eq_some_iff.mp hc1).1
    have hheap : ((T.setVm vm').setCell b (arrV (E.2.2.1 q0) (ln h b) (fun j => mk (va_cpy fa fb sp.toNatClampNeg dp.toNatClampNeg k.toNatClampNeg j)))).heap = H.setIfInBounds b (arrV (E.2.2.1 q0) (ln h b) (fun j => mk (va_cpy fa fb sp.toNatClampNeg dp.toNatClampNeg k.toNatClampNeg j))) := by rw [← hT2]; rfl
    have oq : ∀ x : Nat, x ≠ b → (H.setIfInBounds b (arrV (E.2.2.1 q0) (ln h b) (fun j => mk (va_cpy fa fb sp.toNatClampNeg dp.toNatClampNeg k.toNatClampNeg j))))[x]? = H[x]? := fun x hx => by simp [Array.getElem?_setIfInBounds, Ne.symm hx]
    have hR' := hfin (H.setIfInBounds b (arrV (E.2.2.1 q0) (ln h b) (fun j => mk (va_cpy fa fb sp.toNatClampNeg dp.toNatClampNeg k.toNatClampNeg j)))) (by simp [Array.getElem?_setIfInBounds, hlt]) (by simp) oq
    have k2 := kg _ (locs ++ ((arrV (E.2.2.1 q0) (ln h a) (fun j => mk (fa j))).stretch sp.toNatClampNeg k.toNatClampNeg).zipIdx.map (fun (q : Value × Nat) => (⟨b, dp.toNatClampNeg + q.2⟩ : Loc))) la hR' hl ⟨by simp; exact hS.1, fun x g1 g2 => by
        rw [oq x (fun ee => g2 (by rw [ee]; exact hqb))]
        exact hS.2.1 x g1 g2, fun x hx => by
        rcases List.mem_append.mp hx with h | h
        · exact hS.2.2 x h
        · obtain ⟨z, -, hz⟩ := List.mem_map.mp h
          rw [← hz]
          exact hqb⟩
    rw [hh.1, hh.2] at k2
    obtain ⟨t, a1, b1⟩ := k2 _ hheap X'
    exact ⟨t, step t a1, b1⟩
  rcases hk with ⟨z1, z2, z3⟩ | ⟨z1, z2, z3⟩
  · obtain ⟨u1, u2, u3⟩ := hR.own (a := a) hC (by omega) (by omega)
    obtain ⟨v1, v2, v3⟩ := hR.own (a := b) hC (by omega) (by omega)
    have eA : cellE E h a = .inl (E.2.2.1 20, ln h a, .inl (gI h a)) := by simp [cellE, z1]
    have eB : cellE E h b = .inl (E.2.2.1 20, ln h b, .inl (gI h b)) := by simp [cellE, z2]
    rw [eA] at u3
    rw [eB] at v3
    obtain ⟨f1, f2, f3, f4, f5, f6⟩ := cpI_f (h := h) (a := a) (sp := ix sp) (b := b) (dp := ix dp) (n := ix k)
    refine core (fun z => .int z) .int 20 (gI h a) (gI h b) rfl (fun _ => rfl) (fun _ => trivial) u3 v3 rfl v1 (fun H1 x1 x2 x3 => ?_) (by rw [z3]; exact ⟨f1, f2⟩)
    rw [z3]
    refine hR.set v1 f1 f3 f4 f5 x2 x3 ?_
    have e3 : cellE E (cpI h a (ix sp) b (ix dp) (ix k)) b = .inl (E.2.2.1 20, ln h b, .inl (va_cpy (gI h a) (gI h b) (ix sp) (ix dp) (ix k))) := by simp only [cellE, f3, f4, f6, z2]; rfl
    rw [e3]
    exact x1
  · obtain ⟨u1, u2, u3⟩ := hR.own (a := a) hC (by omega) (by omega)
    obtain ⟨v1, v2, v3⟩ := hR.own (a := b) hC (by omega) (by omega)
    have eA : cellE E h a = .inl (E.2.2.1 21, ln h a, .inr (.inl (gL h a))) := by simp [cellE, z1]
    have eB : cellE E h b = .inl (E.2.2.1 21, ln h b, .inr (.inl (gL h b))) := by simp [cellE, z2]
    rw [eA] at u3
    rw [eB] at v3
    obtain ⟨f1, f2, f3, f4, f5, f6⟩ := cpL_f (h := h) (a := a) (sp := ix sp) (b := b) (dp := ix dp) (n := ix k)
    refine core (fun z => .long z) .long 21 (gL h a) (gL h b) rfl (fun _ => rfl) (fun _ => trivial) u3 v3 rfl v1 (fun H1 x1 x2 x3 => ?_) (by rw [z3]; exact ⟨f1, f2⟩)
    rw [z3]
    refine hR.set v1 f1 f3 f4 f5 x2 x3 ?_
    have e3 : cellE E (cpL h a (ix sp) b (ix dp) (ix k)) b = .inl (E.2.2.1 21, ln h b, .inr (.inl (va_cpy (gL h a) (gL h b) (ix sp) (ix dp) (ix k)))) := by simp only [cellE, f3, f4, f6, z2]; rfl
    rw [e3]
    exact x1
theorem zs_obj (hX : zX E g M p s m args meth c) {idx q a : Nat} (hd : decode (zCode M) pc = .ok (.invokespecial idx, 3)) (hlk : zOkT.lookup (zKey M idx) = some q) (hf : 1 ≤ zNf M) (hl0 : catS st + 12 ≤ zNl M) (hR1 : zNf M ≤ R.frames) (hR2 : zNl M ≤ R.locals) (k : zGo p l e R s m args below meth c Q E M hin h (pc + 3) ls st) : zGo p l e R s m args below meth c Q E M hin h pc ls (.ref a :: st) := by
  obtain ⟨hx, hb, hml, hown, hts, hK, hC, hin1, hbs⟩ := hX
  obtain ⟨o1, o2⟩ := zOk_ok _ (zlk_mem hlk)
  obtain ⟨y1, y2⟩ := zKey_o o1
  dsimp only at o1 o2
  rw [y1, y2] at o2
  intro H locs la hR hl hS
  exact W.objInit hx hb hown (hts _ (zTb_of o2 rfl)) (hts _ zSys_w.2.2.2.1) (hts _ zSys_w.2.2.2.2) rfl (by rw [hml]; exact hl.1) rfl hd (by omega) (by unfold catS at hl0; show 2 * 0 + _ + 12 ≤ _; omega) (k H locs la hR hl hS)
end ZSY
