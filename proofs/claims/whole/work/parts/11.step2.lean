/-! fields, arrays of references, statics, texts, new cells, copies -/
theorem zS_ok : ∀ q ∈ zSkT, q.1 < 1000000 ∧ zTab (q.2.2) = some (if q.2.1 = 0 then .fieldLink (zOwn (q.1 / 10000)) (q.1 % 10000) "java/lang/String" "value" "[B" else .fieldLink (zOwn (q.1 / 10000)) (q.1 % 10000) "java/lang/String" "coder" "B") := by decide +kernel
theorem zG_ok : ∀ q ∈ zGkT, q.1 < 1000000 ∧ ((q.2.1 = 0 ∧ zTab (q.2.2) = some (.fieldLink (zOwn (q.1 / 10000)) (q.1 % 10000) "DeedCourt$Ways" "THREE" "[I")) ∨ (q.2.1 = 1 ∧ zTab (q.2.2) = some (.fieldLink (zOwn (q.1 / 10000)) (q.1 % 10000) "DeedCourt$Sets" "PAIRS" "[I")) ∨ (q.2.1 = 2 ∧ zTab (q.2.2) = some (.fieldLink (zOwn (q.1 / 10000)) (q.1 % 10000) "DeedCourtModel" "THREE" "[I")) ∨ (q.2.1 = 10 ∧ zTab (q.2.2) = some (.fieldLink (zOwn (q.1 / 10000)) (q.1 % 10000) "java/lang/String" "COMPACT_STRINGS" "Z")) ∨ (q.2.1 = 11 ∧ zTab (q.2.2) = some (.fieldLink (zOwn (q.1 / 10000)) (q.1 % 10000) "jdk/internal/util/Preconditions" "SIOOBE_FORMATTER" "Ljava/util/function/BiFunction;"))) := by decide +kernel
theorem zT_ok : ∀ q ∈ zTkT, q.1 < 1000000 := by decide +kernel
theorem zCk_ok : ∀ q ∈ zCkT, q.1 < 1000000 ∧ zTab (q.2.2) = some (.constant (zOwn (q.1 / 10000)) (q.1 % 10000) q.2.1) := by decide +kernel
theorem zDk_ok : ∀ q ∈ zDkT, q.1 < 1000000 ∧ zTab (q.2.2) = some (.constantLong (zOwn (q.1 / 10000)) (q.1 % 10000) q.2.1) := by decide +kernel
theorem zN_ok : ∀ q ∈ zNkT, q.1 < 1000000 ∧ q.2.1 < 13 ∧ zTab (q.2.2.2.1) = some (.classLink (zOwn (q.1 / 10000)) (q.1 % 10000) (zCn q.2.1)) ∧ zTab (q.2.2.2.2.1) = some (.instantiable (zCn q.2.1) (zSl q.2.1)) ∧ zTab (q.2.2.2.2.2) = some (.initialized (zCn q.2.1)) := by decide +kernel
theorem zAk_ok : ∀ q ∈ zAkT, q.1 < 1000000 ∧ 24 ≤ q.2.1 ∧ q.2.1 < 28 ∧ zTab (q.2.2.1) = some (.classLink (zOwn (q.1 / 10000)) (q.1 % 10000) (match q.2.1 with | 24 => "DeedCourt$Shelf" | 25 => "DeedCourt$Field" | 26 => "DeedCourt$Deed" | _ => "java/lang/String")) := by decide +kernel
theorem zYk_ok : ∀ q ∈ zYkT, q.1 < 1000000 ∧ zTab (q.2) = some (.methodLink (zOwn (q.1 / 10000)) (q.1 % 10000) arraycopyName) := by decide +kernel
theorem zOk_ok : ∀ q ∈ zOkT, q.1 < 1000000 ∧ zTab (q.2) = some (.methodLink (zOwn (q.1 / 10000)) (q.1 % 10000) Lib.objectInit) := by decide +kernel
theorem zOwn_cn : ∀ c, c < 13 → zOwn c = zCn c := by
  intro c hc
  match c, hc with
  | 0, _ => rfl
  | 1, _ => rfl
  | 2, _ => rfl
  | 3, _ => rfl
  | 4, _ => rfl
  | 5, _ => rfl
  | 6, _ => rfl
  | 7, _ => rfl
  | 8, _ => rfl
  | 9, _ => rfl
  | 10, _ => rfl
  | 11, _ => rfl
  | 12, _ => rfl
  | c + 13, h => exact absurd h (by omega)
theorem fsO_get {cc : Nat} {h : zMem} {a k : Nat} (hk : k < zSl cc) : (fsO cc h a)[k]? = some (fvl (zFt cc k) h a k) := by
  unfold fsO
  rw [List.getElem?_map, List.getElem?_range hk]
  rfl
theorem fsO_V {cc : Nat} {h : zMem} {a k : Nat} (hk : k < zSl cc) : vp_V (fsO cc h a) k = fvl (zFt cc k) h a k := by
  unfold vp_V
  rw [List.getD_eq_getElem?_getD, fsO_get hk]
  rfl
theorem cellE_o {E : zE} {h : zMem} {a cc : Nat} (hk : kd h a = cc + 1) (hc : cc < 13) : cellE E h a = .inr (cc, fsO cc h a) := by
  unfold cellE
  rw [if_neg (by omega), if_neg (by omega), if_neg (by omega), show kd h a - 1 = cc by omega]
theorem cellE_q {E : zE} {h : zMem} {a : Nat} (hk : 24 ≤ kd h a) (hk2 : kd h a < 30) : cellE E h a = .inl (E.2.2.1 (kd h a), ln h a, .inr (.inr (.inr (.inr (gR h a))))) := by
  unfold cellE
  rw [if_neg (by omega), if_neg (by omega), if_pos (by omega)]
theorem bool_ok {v : Int32} (h : v &&& 1 = v) : narrow .boolean (.int v) = .int v ∧ fits .boolean (.int v) = true := by
  have e := pk_and v (m := 1) 1 (by decide)
  rw [h] at e
  rcases Nat.mod_two_eq_zero_or_one v.toBitVec.toNat with q | q
  · have e2 : v = nI 0 := by rw [e]; exact congrArg nI (by omega)
    rw [e2]; exact ⟨by decide +kernel, by decide +kernel⟩
  · have e2 : v = nI 1 := by rw [e]; exact congrArg nI (by omega)
    rw [e2]; exact ⟨by decide +kernel, by decide +kernel⟩
section ZSU
variable {p : Program} {l : Launch} {e : Env} {R : Room} {s : State} {m : MethodId} {args : Array Value} {below : List Frame} {meth : Method} {c : Code} {Q : State → Prop} {E : zE} {g : Nat → Nat} {M : zM} {hin h h' : zMem} {pc pc' : Nat} {ls st ls' st' : List Value}
theorem zs_get (hX : zX E g M p s m args meth c) {idx a cc k t f q : Nat} (hd : decode (zCode M) pc = .ok (.getfield idx, 3)) (hlk : zFkT.lookup (zKey M idx) = some (cc, k, t, f, q)) (hk : kd h a = cc + 1) (kk : zGo p l e R s m args below meth c Q E M hin h (pc + 3) ls (fvl t h a k :: st)) : zGo p l e R s m args below meth c Q E M hin h pc ls (.ref a :: st) := by
  obtain ⟨hx, hb, hml, hown, hts, hK, hC, hin1, hbs⟩ := hX
  obtain ⟨o1, o2, o3, o4, o5, o6, o7⟩ := zF_ok _ (zlk_mem hlk)
  obtain ⟨y1, y2⟩ := zKey_o o1
  dsimp only at o1 o2 o3 o4 o5 o6 o7
  intro H locs la hR hl hS
  obtain ⟨q1, q2, q3⟩ := hR.own (a := a) hC (by omega) (by omega)
  rw [cellE_o hk o2] at q3
  have hlink := hts _ (zTb_of o4 rfl)
  rw [y1, y2] at hlink
  subst o6
  exact va_get (C := zCn cc) (T := zTc cc) (N := zSl cc) hx hb hts (zC_in cc o2) hown hK (zP1 q3) 0 rfl (zC_cl cc o2) k o3 hlink (fun x hx => by rw [← o5]; exact hx) (fsO_get o3) hd (kk H locs la hR hl hS)
theorem zs_getS (hX : zX E g M p s m args meth c) {idx a j q : Nat} (hd : decode (zCode M) pc = .ok (.getfield idx, 3)) (hlk : zSkT.lookup (zKey M idx) = some (j, q)) (hk : kd h a = 41) (kk : zGo p l e R s m args below meth c Q E M hin h (pc + 3) ls ((if j = 0 then va_rf (gR h a 0) else .int 0) :: st)) : zGo p l e R s m args below meth c Q E M hin h pc ls (.ref a :: st) := by
  obtain ⟨hx, hb, hml, hown, hts, hK, hC, hin1, hbs⟩ := hX
  obtain ⟨o1, o2⟩ := zS_ok _ (zlk_mem hlk)
  obtain ⟨y1, y2⟩ := zKey_o o1
  dsimp only at o1 o2
  rw [y1, y2] at o2
  intro H locs la hR hl hS
  obtain ⟨q1, q2, q3, q4, q5⟩ := hR.cst (a := a) (by omega)
  obtain ⟨t1, t2, t3⟩ := hC.2.2.1 a q1 (by omega)
  have k2 := kk H locs la hR hl hS
  by_cases z : j = 0
  · rw [if_pos z] at o2 k2
    rw [q5] at t3
    exact vk_getf hx hb t3 hS hown (hts _ (zTb_of o2 rfl)) (fun _ h => h) hd k2
  · rw [if_neg z] at o2 k2
    exact vk_getf hx hb t2 hS hown (hts _ (zTb_of o2 rfl)) (fun _ h => h) hd k2
theorem zs_put (hX : zX E g M p s m args meth c) {idx a cc k t f q : Nat} {v : Value} (hd : decode (zCode M) pc = .ok (.putfield idx, 3)) (hlk : zFkT.lookup (zKey M idx) = some (cc, k, t, f, q)) (hk : kd h a = cc + 1) (hf : f = 0 ∨ (M.2.2.1 = cc ∧ zKd M = 2)) (hv : putV t v h a k = some h') (kk : zGo p l e R s m args below meth c Q E M hin h' (pc + 3) ls st) : zGo p l e R s m args below meth c Q E M hin h pc ls (v :: .ref a :: st) := by
  obtain ⟨hx, hb, hml, hown, hts, hK, hC, hin1, hbs⟩ := hX
  obtain ⟨o1, o2, o3, o4, o5, o6, o7⟩ := zF_ok _ (zlk_mem hlk)
  obtain ⟨y1, y2⟩ := zKey_o o1
  dsimp only at o1 o2 o3 o4 o5 o6 o7
  intro H locs la hR hl hS
  obtain ⟨q1, q2, q3⟩ := hR.own (a := a) hC (by omega) (by omega)
  rw [cellE_o hk o2] at q3
  have hlink := hts _ (zTb_of o4 rfl)
  rw [y1, y2] at hlink
  have hc := zC_cl cc o2
  have hti := zFt_ty cc o2 k o3
  rw [← o6] at hti
  have hT := zTy_ok cc o2 k o3
  -- the written value fits the field's type
  have hfit : narrow (zTyc cc k) v = v ∧ fits (zTyc cc k) v = true := by
    obtain ⟨ht1, ht2⟩ := hti
    revert hv ht1 ht2
    generalize zTyc cc k = ty
    intro hv ht1 ht2
    rw [ht1] at hv ht2
    cases ty <;> simp only [zFc] at hv ht2 <;> first | omega | skip
    all_goals (cases v <;> simp only [putV] at hv <;> first | (cases hv; done) | exact ⟨rfl, rfl⟩ | skip)
    · split at hv
      · rename_i z; exact bool_ok z
      · cases hv
  have hm : sz h' = sz h ∧ sl h' = sl h ∧ (∀ b, kd h' b = kd h b) ∧ (∀ b, ln h' b = ln h b) ∧ (∀ b, b ≠ a → gI h' b = gI h b ∧ gL h' b = gL h b ∧ gR h' b = gR h b) ∧ ∀ j, j < zSl cc → updV (vp_V (fsO cc h a)) k v j = vp_V (fsO cc h' a) j := by
    have key : ∀ j, j < zSl cc → (j = k → v = fvl t h' a k) → (j ≠ k → fvl (zFt cc j) h' a j = fvl (zFt cc j) h a j) → updV (vp_V (fsO cc h a)) k v j = vp_V (fsO cc h' a) j := by
      intro j hj z1 z2
      rw [fsO_V hj]
      by_cases z : j = k
      · subst z; simp [updV, z1 rfl, o6]
      · simp only [updV]; rw [if_neg z, fsO_V hj, z2 z]
    have nI_ : ∀ (x : Int32), (∀ j, j ≠ k → gI (sI h a k x) a j = gI h a j) := fun x j hj => by simp [gI, sI, u2, hj]
    have nL_ : ∀ (x : Int64), (∀ j, j ≠ k → gL (sL h a k x) a j = gL h a j) := fun x j hj => by simp [gL, sL, u2, hj]
    have nR_ : ∀ (x : Option Nat), (∀ j, j ≠ k → gR (sR h a k x) a j = gR h a j) := fun x j hj => by simp [gR, sR, u2, hj]
    have fI : ∀ (x : Int32) (t j : Nat), j ≠ k → fvl t (sI h a k x) a j = fvl t h a j := fun x t j hj => by
      unfold fvl
      split
      · rfl
      · rfl
      · rw [nI_ x j hj]
    have fL : ∀ (x : Int64) (t j : Nat), j ≠ k → fvl t (sL h a k x) a j = fvl t h a j := fun x t j hj => by
      unfold fvl
      split
      · rw [nL_ x j hj]
      · rfl
      · rfl
    have fR : ∀ (x : Option Nat) (t j : Nat), j ≠ k → fvl t (sR h a k x) a j = fvl t h a j := fun x t j hj => by
      unfold fvl
      split
      · rfl
      · rw [nR_ x j hj]
      · rfl
    unfold putV at hv
    split at hv
    · cases hv
      obtain ⟨f1, f2, f3, f4, f5, -⟩ := sI_f (h := h) (a := a) (k := k) (v := ‹Int32›)
      exact ⟨f1, f2, f3, f4, f5, fun j hj => key j hj (fun _ => by simp [fvl, gI, sI, u2]) (fun z => fI _ _ j z)⟩
    · cases hv
      obtain ⟨f1, f2, f3, f4, f5, -⟩ := sL_f (h := h) (a := a) (k := k) (v := ‹Int64›)
      exact ⟨f1, f2, f3, f4, f5, fun j hj => key j hj (fun _ => by simp [fvl, gL, sL, u2]) (fun z => fL _ _ j z)⟩
    · rename_i x
      cases hv
      obtain ⟨f1, f2, f3, f4, f5, -⟩ := sR_f (h := h) (a := a) (k := k) (v := some x)
      exact ⟨f1, f2, f3, f4, f5, fun j hj => key j hj (fun _ => by simp [fvl, gR, sR, u2, va_rf]) (fun z => fR _ _ j z)⟩
    · cases hv
      obtain ⟨f1, f2, f3, f4, f5, -⟩ := sR_f (h := h) (a := a) (k := k) (v := none)
      exact ⟨f1, f2, f3, f4, f5, fun j hj => key j hj (fun _ => by simp [fvl, gR, sR, u2, va_rf]) (fun z => fR _ _ j z)⟩
    · split at hv
      · cases hv
        obtain ⟨f1, f2, f3, f4, f5, -⟩ := sI_f (h := h) (a := a) (k := k) (v := ‹Int32›)
        exact ⟨f1, f2, f3, f4, f5, fun j hj => key j hj (fun _ => by simp [fvl, gI, sI, u2]) (fun z => fI _ _ j z)⟩
      · cases hv
    · cases hv
  obtain ⟨f1, f2, f3, f4, f5, f6⟩ := hm
  have hap := va_apart (own := zCn cc) hts (zC_in cc o2) (zTyc cc) (zTy_ok cc o2) (zNm_ok cc o2) hK hc
  obtain ⟨r, h1, cell, w1, w2, w3, w4⟩ := q3
  have hr : r = (zCn cc, zTc cc, zSl cc) := Option.some.inj (h1.symm.trans hc)
  subst hr
  obtain ⟨hSl, hfc, kC, hkC, hkind⟩ := hK.1 cc _ hc
  obtain ⟨cf, kf, fi, fd, hi, hsl⟩ := hSl k o3
  have hlay := hts _ (zC_in cc o2 _ (u_in_lay o3))
  have hst := (u_facts hfc hkC (u_lays hts (zC_in cc o2) o3) hi).1
  have hsame : s.fieldFound? (zCn cc) (zTc cc k).2.1 (zTc cc k).2.2.1 = some (cf, kf, fi, fd) := by rw [← o5]; exact hi
  have fin : ∀ (H1 : Heap), H1[a]? = some (cell.setSlot fd.slot v) → H1.size = H.size → (∀ q : Nat, q ≠ a → H1[q]? = H[q]?) → W p l e R s m args below meth c H1 (locs ++ [⟨a, fd.slot⟩]) (sz h - s.heap.size) (sl h - sl hin) Q (F0 m (pc + 3) la st) := by
    intro H1 e1 e2 e3
    rw [hsl] at e1
    have hR' := hR.set q1 f1 f3 f4 f5 e2 e3 (by
      rw [cellE_o (by rw [f3]; exact hk) o2]
      exact ⟨_, hc, t_OB.to (V := updV (vp_V (fsO cc h a)) k v) ⟨_, e1, w2, w3, t_set w4 hap o3 v⟩ f6⟩)
    have k2 := kk H1 (locs ++ [⟨a, fd.slot⟩]) la hR' hl (hS.put e2 e3 q1)
    rw [f1, f2] at k2
    exact k2
  by_cases z : f = 0
  · rw [if_pos z] at o7
    unfold u_lay at hlay
    rw [if_neg (by rw [o7]; decide)] at hlay
    have h6 := u_store hfc hkC hkind hlay hi hT hfit.1 hfit.2
    exact W.putK hx hb (f := fd) ⟨hown, hlink, ⟨_, _, _, hsame⟩, hst⟩ (by rw [w2]; exact h6) w1 w3 (by rw [hsl]; exact k2_hasslot (w4 k o3)) rfl rfl hd fin
  · rw [if_neg z] at o7
    obtain ⟨z1, z2⟩ := hf.resolve_left z
    unfold u_lay at hlay
    rw [if_pos o7] at hlay
    have hcf : m.cls = cf := by
      obtain ⟨_, _, c', _, _, _, -, -, hf', -, -, -, hown2, -⟩ := Cond.laysFinal_spec hlay
      have e1 : c' = cf := by have := hi.symm.trans hf'; simp at this; exact this.1.symm
      rw [o5] at hown2
      have e3 : zOwn M.2.2.1 = zCn cc := by
        rw [z1]; exact zOwn_cn cc o2
      rw [e3] at hown
      rw [← e1]; exact Option.some.inj (hown.symm.trans hown2)
    have h6 := u_fits hfc hkC hkind (Or.inr hlay) hi hT hfit.1 hfit.2
    exact W.putFinK hx hb hown hlink hsame hst hcf (hin1 z2) (by rw [w2]; exact h6) w1 w3 (by rw [hsl]; exact k2_hasslot (w4 k o3)) rfl rfl hd fin
end ZSU
