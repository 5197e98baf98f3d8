/-! a choice, in numbers: the first way not yet taken, and what it leaves -/
def nxt (s : Nat) : Nat → Nat → Nat
  | 0, w => w
  | k + 1, w => if s.testBit w = true then w else nxt s k (w + 1)
/-- the first way from T on; 8 if there is none -/
def nx (s T : Nat) : Nat := nxt s (8 - T) T
/-- the ways from T on -/
def un (s T : Nat) : Nat := (s >>> T) <<< T
theorem un0 : ∀ s : Fin 256, ∀ T : Fin 9, (nx s.val T.val = 8 ∨ nx s.val T.val < 8) ∧ (un s.val T.val = 0 ↔ nx s.val T.val = 8) ∧ un s.val T.val < 256 := by decide +kernel
theorem un1 : ∀ s : Fin 256, ∀ T : Fin 9, nx s.val T.val < 8 → nI (un s.val T.val) &&& -(nI (un s.val T.val)) = nI (2 ^ nx s.val T.val) ∧ nI (un s.val T.val) &&& (nI (2 ^ nx s.val T.val) ^^^ (-1)) = nI (un s.val (nx s.val T.val + 1)) ∧ s.val.testBit (nx s.val T.val) = true ∧ s.val &&& 2 ^ nx s.val T.val = 2 ^ nx s.val T.val := by decide +kernel
theorem un_0 {s T : Nat} (hs : s < 256) (hT : T ≤ 8) : (un s T = 0 ↔ nx s T = 8) ∧ un s T < 256 ∧ nx s T ≤ 8 := by
  have h := un0 ⟨s, hs⟩ ⟨T, by omega⟩
  exact ⟨h.2.1, h.2.2, by rcases h.1 with e | e <;> (dsimp only at e; omega)⟩
theorem un_z (s : Nat) : un s 0 = s := rfl
theorem nx_of {s : Nat} (hs : s < 256) (h : ¬ s = 0) : nx s 0 < 8 := by
  have h1 := un_0 hs (Nat.zero_le 8)
  rw [un_z] at h1
  rcases Nat.lt_or_ge (nx s 0) 8 with c | c
  · exact c
  · exact absurd (h1.1.2 (by omega)) h
section ZCH
variable {n : Nat}
/-- a pair's set becomes one way -/
def lsF (F : Nat → Nat) (p w : Nat) : Nat → Nat := pAt tur p (F p &&& 2 ^ w) F
theorem k_choice {ats : Nat → Nat} {tr : List (Nat × Nat)} {p w : Nat} (hn : n ≤ 10) (h1 : p / 10 < p % 10) (h2 : p % 10 < n) (hf : sy tur ats) (hc : clo n ats) (hw : whl n ats) (hg : wgt (ats, tr, []) ≤ 360) (hb : ats p &&& 2 ^ w = 2 ^ w) (τ : zS) (hτ : pKeep tur p (2 ^ w) (ats, tr, []) = τ) :
    sy tur τ.1 ∧ qI n τ.2.2 ∧ wgt τ ≤ 360 ∧ whl n τ.1 ∧ tA n τ ∧ trS (ats, tr, []) τ ∧ τ.1 = lsF ats p w := by
  have hp : p < 100 := by omega
  have hd : ¬ p / 10 = p % 10 := by omega
  have s1 := (phi_keep (s := 2 ^ w) (σ := (ats, tr, [])) tur_OK hf hp hd).1
  have s2 := trS_keep (s := 2 ^ w) (σ := (ats, tr, [])) hf hp hd hg
  have s3 := pKeep_at (s := 2 ^ w) (σ := (ats, tr, [])) hf hp
  have nz : ¬ (2 : Nat) ^ w = 0 := Nat.pos_iff_ne_zero.1 (Nat.two_pow_pos w)
  have hv8 : (2 : Nat) ^ w < 256 := by rw [← hb]; exact Nat.lt_of_le_of_lt Nat.and_le_left (hf p hp).1
  have mm : min p (p % 10 * 10 + p / 10) = p := by omega
  have fc : (τ.2.2 = [] ∧ ats p &&& 2 ^ w = ats p) ∨ τ.2.2 = [p] := by
    rw [← hτ]
    unfold pKeep
    split
    · exact Or.inl ⟨rfl, ‹_›⟩
    · rw [mm]
      refine Or.inr ?_
      unfold pQue
      dsimp only
      rw [hb, if_pos ⟨nz, List.not_mem_nil, by decide⟩]
      rfl
  rw [hτ] at s1 s2 s3
  clear hτ
  dsimp only at s3
  obtain ⟨f1, f2⟩ := hf p hp
  refine ⟨s1, ?_, Nat.le_trans s2.2.2.2 hg, ?_, ?_, s2, s3⟩
  · rcases fc with ⟨c, -⟩ | c
    · rw [c]; exact ⟨List.nodup_nil, fun x h => absurd h List.not_mem_nil⟩
    · rw [c]; exact ⟨List.nodup_cons.2 ⟨List.not_mem_nil, List.nodup_nil⟩, fun x h => by rw [List.mem_singleton.1 h]; exact ⟨h1, h2⟩⟩
  · intro a b ha hb2 hab
    rw [s3]
    unfold pAt
    split
    · rw [hb]
      intro z
      refine nz ?_
      rw [← (tur_OK _ hv8).2.1, z]
      decide
    · split
      · rw [hb]; exact nz
      · exact hw a b ha hb2 hab
  · intro x y z hx hy hz hxy hyz hxz
    rcases fc with ⟨-, ce⟩ | c
    · refine Or.inl ?_
      have e : τ.1 = ats := by
        rw [s3, ce]
        funext x
        unfold pAt
        by_cases e1 : x = p % 10 * 10 + p / 10
        · rw [if_pos e1, e1]; exact f2.symm
        · rw [if_neg e1]
          by_cases e2 : x = p
          · rw [if_pos e2, e2]
          · rw [if_neg e2]
      rw [e]
      exact hc x y z hx hy hz hxy hyz hxz
    · by_cases c1 : mn x y = p
      · exact Or.inr (Or.inl (by rw [c, c1]; exact List.mem_singleton.2 rfl))
      · by_cases c2 : mn y z = p
        · exact Or.inr (Or.inr (by rw [c, c2]; exact List.mem_singleton.2 rfl))
        · refine Or.inl ?_
          obtain ⟨u, v, ep, hu, hv⟩ : ∃ u v : Nat, p = u * 10 + v ∧ u < v ∧ v < n := ⟨p / 10, p % 10, by omega, h1, h2⟩
          have em : mn u v = p := by unfold mn; omega
          have e1 : τ.1 (x * 10 + y) = ats (x * 10 + y) := by
            rw [s3, ep]
            refine at_pair (by omega) (by omega) (by omega) (by omega) (fun e => c1 ?_)
            rw [← em]
            rcases e with ⟨e1, e2⟩ | ⟨e1, e2⟩
            · rw [e1, e2]
            · rw [e1, e2, mn_sy]
          have e2 : τ.1 (y * 10 + z) = ats (y * 10 + z) := by
            rw [s3, ep]
            refine at_pair (by omega) (by omega) (by omega) (by omega) (fun e => c2 ?_)
            rw [← em]
            rcases e with ⟨e1, e2⟩ | ⟨e1, e2⟩
            · rw [e1, e2]
            · rw [e1, e2, mn_sy]
          have e3 : sb (τ.1 (x * 10 + z)) (ats (x * 10 + z)) := by
            rw [s3]; unfold pAt
            split
            · rename_i e
              rw [e, f2]
              exact sb_tur (by rw [hb]; exact hv8) f1 (sb_l _ _)
            · split
              · rename_i e
                rw [e]; exact sb_l _ _
              · exact sb.rf _
          unfold tri
          rw [e1, e2]
          exact e3.tr (hc x y z hx hy hz hxy hyz hxz)
theorem lsF_eqv {F G : Nat → Nat} {p w : Nat} (hn : n ≤ 10) (h1 : p / 10 < p % 10) (h2 : p % 10 < n) (h : eqv n F G) : eqv n (lsF F p w) (lsF G p w) := by
  intro a b ha hb hab
  have e : F p = G p := by
    have := h (p / 10) (p % 10) (by omega) h2 (by omega)
    rw [show p / 10 * 10 + p % 10 = p by omega] at this
    exact this
  unfold lsF pAt
  rw [e, h a b ha hb hab]
end ZCH
/-! the search, in numbers: level, choices, blind ones, stand (0 goes on, 1 found, 2 ended, 3 spent), the families of the levels, the ways tried -/
abbrev aA : Type := Nat × Nat × Nat × Nat × (Nat → Nat → Nat) × (Nat → Nat)
def aL (A : aA) : Nat := A.1
def aC (A : aA) : Nat := A.2.1
def aB (A : aA) : Nat := A.2.2.1
def aS (A : aA) : Nat := A.2.2.2.1
def aF (A : aA) : Nat → Nat → Nat := A.2.2.2.2.1
def aT (A : aA) : Nat → Nat := A.2.2.2.2.2
def up {α : Type} (f : Nat → α) (k : Nat) (v : α) : Nat → α := fun x => if x = k then v else f x
theorem up_s {α : Type} {f : Nat → α} {k : Nat} {v : α} : up f k v k = v := if_pos rfl
theorem up_n {α : Type} {f : Nat → α} {k j : Nat} {v : α} (h : ¬ j = k) : up f k v j = f j := if_neg h
/-- back to the last level that still has a way -/
def aK (F : Nat → Nat → Nat) (T : Nat → Nat) : Nat → Option Nat
  | 0 => if nx (F 0 (pP 0)) (T 0) = 8 then none else some 0
  | L + 1 => if nx (F (L + 1) (pP (L + 1))) (T (L + 1)) = 8 then aK F T L else some (L + 1)
def aBack (c b : Nat) (F : Nat → Nat → Nat) (T : Nat → Nat) (o : Option Nat) : aA := match o with
  | none => (0, c, b, 2, F, T)
  | some L => (L, c, b, if c = 20000 then 3 else 0, F, T)
noncomputable def tst (p : Prop) {α : Type} (a b : α) : α := @ite _ p (Classical.propDecidable p) a b
theorem tst_t {p : Prop} {α : Type} {a b : α} (h : p) : tst p a b = a := by unfold tst; rw [if_pos h]
theorem tst_f {p : Prop} {α : Type} {a b : α} (h : ¬ p) : tst p a b = b := by unfold tst; rw [if_neg h]
noncomputable def aStep (n : Nat) (A : aA) : aA :=
  tst (whl n (gc n (lsF (aF A (aL A)) (pP (aL A)) (nx (aF A (aL A) (pP (aL A))) (aT A (aL A))))))
    (if aL A + 1 = n * (n - 1) / 2 then (aL A + 1, aC A + 1, aB A, 1, up (aF A) (aL A + 1) (gc n (lsF (aF A (aL A)) (pP (aL A)) (nx (aF A (aL A) (pP (aL A))) (aT A (aL A))))), up (aT A) (aL A) (nx (aF A (aL A) (pP (aL A))) (aT A (aL A)) + 1))
      else (aL A + 1, aC A + 1, aB A, if aC A + 1 = 20000 then 3 else 0, up (aF A) (aL A + 1) (gc n (lsF (aF A (aL A)) (pP (aL A)) (nx (aF A (aL A) (pP (aL A))) (aT A (aL A))))), up (up (aT A) (aL A) (nx (aF A (aL A) (pP (aL A))) (aT A (aL A)) + 1)) (aL A + 1) 0))
    (aBack (aC A + 1) (aB A + 1) (aF A) (up (aT A) (aL A) (nx (aF A (aL A) (pP (aL A))) (aT A (aL A)) + 1)) (aK (aF A) (up (aT A) (aL A) (nx (aF A (aL A) (pP (aL A))) (aT A (aL A)) + 1)) (aL A)))
noncomputable def aRun (n : Nat) : Nat → aA → aA
  | 0, A => A
  | k + 1, A => if aS A = 0 then aRun n k (aStep n A) else A
noncomputable def aOpen (n : Nat) (S : Nat → Nat) : aA := (0, 0, 0, if n * (n - 1) / 2 = 0 then 1 else tst (whl n (gc n S)) 0 2, fun _ => gc n S, fun _ => 0)
def aBehind (n : Nat) (A : aA) : aA := if n * (n - 1) / 2 = 0 then (0, aC A, aB A, 2, aF A, aT A) else aBack (aC A) (aB A) (aF A) (aT A) (aK (aF A) (aT A) (n * (n - 1) / 2 - 1))
/-- what a level's family is -/
def fOK (n : Nat) (F : Nat → Nat) : Prop := clo n F ∧ whl n F ∧ low n F
def aOK (n : Nat) (A : aA) : Prop := aC A ≤ 20000 ∧ aB A ≤ aC A ∧ aS A ≤ 3 ∧ aL A ≤ n * (n - 1) / 2 ∧ (∀ j : Nat, aT A j ≤ 8) ∧ (¬ aS A = 2 → 0 < n * (n - 1) / 2 → ∀ j : Nat, j ≤ aL A → fOK n (aF A j)) ∧ (aS A = 0 ∨ aS A = 3 → aL A < n * (n - 1) / 2 ∧ nx (aF A (aL A) (pP (aL A))) (aT A (aL A)) < 8) ∧ (aS A = 1 → aL A = n * (n - 1) / 2) ∧ (aS A = 2 → aL A = 0) ∧ (aS A = 0 → aC A < 20000)
section ZAO
variable {n : Nat}
theorem fOK_at {F : Nat → Nat} {k : Nat} (hn : n ≤ 10) (hk : k < n * (n - 1) / 2) (h : fOK n F) : F (pP k) < 256 ∧ ¬ F (pP k) = 0 := by
  have h45 := pn_le hn
  obtain ⟨p1, p2⟩ := pP_lt (show k < 45 by omega)
  have p3 := (pP_n hn (show k < 45 by omega)).2 hk
  have e : pP k = pP k / 10 * 10 + pP k % 10 := by omega
  rw [e]
  exact ⟨h.2.2 _ _ (by omega) p3 (by omega), h.2.1 _ _ (by omega) p3 (by omega)⟩
theorem aK_le {F : Nat → Nat → Nat} {T : Nat → Nat} : ∀ (L : Nat) (r : Nat), aK F T L = some r → r ≤ L ∧ ¬ nx (F r (pP r)) (T r) = 8
  | 0, r, h => by
    unfold aK at h
    split at h
    · cases h
    · cases h; exact ⟨Nat.le_refl _, ‹_›⟩
  | L + 1, r, h => by
    unfold aK at h
    split at h
    · have := aK_le L r h
      exact ⟨by omega, this.2⟩
    · cases h; exact ⟨Nat.le_refl _, ‹_›⟩
theorem aOK_2 {c b : Nat} {F : Nat → Nat → Nat} {T : Nat → Nat} (hc : c ≤ 20000) (hb : b ≤ c) (hT : ∀ j : Nat, T j ≤ 8) : aOK n (0, c, b, 2, F, T) := by
  unfold aOK aC aB aS aL aT aF
  dsimp only
  exact ⟨hc, hb, by omega, by omega, hT, fun z => absurd rfl z, fun z => by omega, fun z => by omega, fun _ => rfl, fun z => by omega⟩
theorem aOK_1 {L c b : Nat} {F : Nat → Nat → Nat} {T : Nat → Nat} (hc : c ≤ 20000) (hb : b ≤ c) (hT : ∀ j : Nat, T j ≤ 8) (hL : L = n * (n - 1) / 2) (hF : 0 < n * (n - 1) / 2 → ∀ j : Nat, j ≤ L → fOK n (F j)) : aOK n (L, c, b, 1, F, T) := by
  unfold aOK aC aB aS aL aT aF
  dsimp only
  exact ⟨hc, hb, by omega, by omega, hT, fun _ => hF, fun z => by omega, fun _ => hL, fun z => by omega, fun z => by omega⟩
theorem aOK_03 {L c b s : Nat} {F : Nat → Nat → Nat} {T : Nat → Nat} (hc : c ≤ 20000) (hb : b ≤ c) (hT : ∀ j : Nat, T j ≤ 8) (hL : L < n * (n - 1) / 2) (hF : ∀ j : Nat, j ≤ L → fOK n (F j)) (hx : nx (F L (pP L)) (T L) < 8) (hs : s = if c = 20000 then 3 else 0) : aOK n (L, c, b, s, F, T) := by
  unfold aOK aC aB aS aL aT aF
  dsimp only
  by_cases z : c = 20000
  · rw [if_pos z] at hs
    exact ⟨hc, hb, by omega, by omega, hT, fun _ _ => hF, fun _ => ⟨hL, hx⟩, fun z => by omega, fun z => by omega, fun z => by omega⟩
  · rw [if_neg z] at hs
    exact ⟨hc, hb, by omega, by omega, hT, fun _ _ => hF, fun _ => ⟨hL, hx⟩, fun z => by omega, fun z => by omega, fun _ => by omega⟩
theorem aOK_back {c b L : Nat} {F : Nat → Nat → Nat} {T : Nat → Nat} (hn : n ≤ 10) (hc : c ≤ 20000) (hb : b ≤ c) (hL : L < n * (n - 1) / 2) (hT : ∀ j : Nat, T j ≤ 8) (hF : ∀ j : Nat, j ≤ L → fOK n (F j)) : aOK n (aBack c b F T (aK F T L)) := by
  cases e : aK F T L with
  | none => exact aOK_2 hc hb hT
  | some r =>
    obtain ⟨r1, r2⟩ := aK_le L r e
    have r3 : nx (F r (pP r)) (T r) < 8 := by
      have := (un_0 (fOK_at hn (show r < n * (n - 1) / 2 by omega) (hF r r1)).1 (hT r)).2.2
      omega
    exact aOK_03 hc hb hT (by omega) (fun j hj => hF j (by omega)) r3 rfl
theorem fOK_gc {F : Nat → Nat} (hn : n ≤ 10) (hF : low n F) (h : whl n (gc n F)) : fOK n (gc n F) := ⟨gc_clo hn hF, h, gc_low hn⟩
theorem lsF_low {F : Nat → Nat} {p w : Nat} (h : low n F) (hp : F p < 256) : low n (lsF F p w) := by
  intro a b ha hb hab
  have : F p &&& 2 ^ w < 256 := Nat.lt_of_le_of_lt Nat.and_le_left hp
  unfold lsF pAt
  split
  · exact tur_lt this
  · split
    · exact this
    · exact h a b ha hb hab
theorem aOK_step {A : aA} (hn : n ≤ 10) (h : aOK n A) (h0 : aS A = 0) : aOK n (aStep n A) := by
  obtain ⟨h1, h2, h3, h4, h5, h6, h7, h8, h9, h10⟩ := h
  obtain ⟨g1, g2⟩ := h7 (Or.inl h0)
  have g3 := h10 h0
  have hP : 0 < n * (n - 1) / 2 := by omega
  have g4 := h6 (by rw [h0]; decide) hP
  have g5 := fOK_at hn g1 (g4 _ (Nat.le_refl _))
  have hT : ∀ j : Nat, up (aT A) (aL A) (nx (aF A (aL A) (pP (aL A))) (aT A (aL A)) + 1) j ≤ 8 := fun j => by
    unfold up
    split
    · omega
    · exact h5 j
  unfold aStep
  generalize nx (aF A (aL A) (pP (aL A))) (aT A (aL A)) = w at g2 hT ⊢
  have hl := lsF_low (w := w) (g4 _ (Nat.le_refl _)).2.2 g5.1
  by_cases hw : whl n (gc n (lsF (aF A (aL A)) (pP (aL A)) w))
  · rw [tst_t hw]
    have k1 := fOK_gc hn hl hw
    have k2 : ∀ j : Nat, j ≤ aL A + 1 → fOK n (up (aF A) (aL A + 1) (gc n (lsF (aF A (aL A)) (pP (aL A)) w)) j) := fun j hj => by
      unfold up
      split
      · exact k1
      · exact g4 j (by omega)
    split
    · rename_i e
      exact aOK_1 (by omega) (by omega) hT e (fun _ => k2)
    · rename_i e
      have hlt : aL A + 1 < n * (n - 1) / 2 := by omega
      have hT2 : ∀ j : Nat, up (up (aT A) (aL A) (w + 1)) (aL A + 1) 0 j ≤ 8 := fun j => by
        unfold up
        split
        · omega
        · split
          · omega
          · exact h5 j
      have k3 : nx (up (aF A) (aL A + 1) (gc n (lsF (aF A (aL A)) (pP (aL A)) w)) (aL A + 1) (pP (aL A + 1))) (up (up (aT A) (aL A) (w + 1)) (aL A + 1) 0 (aL A + 1)) < 8 := by
        rw [up_s, up_s]
        have := fOK_at hn hlt k1
        exact nx_of this.1 this.2
      exact aOK_03 (by omega) (by omega) hT2 hlt k2 k3 rfl
  · rw [tst_f hw]
    exact aOK_back hn (by omega) (by omega) g1 hT g4
theorem aOK_run {A : aA} (hn : n ≤ 10) : ∀ (k : Nat) (A : aA), aOK n A → aOK n (aRun n k A)
  | 0, A, h => h
  | k + 1, A, h => by
    unfold aRun
    split
    · exact aOK_run (A := A) hn k _ (aOK_step hn h ‹_›)
    · exact h
theorem aOK_open {S : Nat → Nat} (hn : n ≤ 10) (hS : low n S) : aOK n (aOpen n S) := by
  unfold aOpen
  by_cases z : n * (n - 1) / 2 = 0
  · rw [if_pos z]
    exact aOK_1 (by omega) (by omega) (fun _ => by omega) z.symm (fun h => absurd z (by omega))
  · rw [if_neg z]
    by_cases hw : whl n (gc n S)
    · rw [tst_t hw]
      have k1 := fOK_gc hn hS hw
      have k2 := fOK_at hn (show 0 < n * (n - 1) / 2 by omega) k1
      exact aOK_03 (by omega) (by omega) (fun _ => by omega) (by omega) (fun _ _ => k1) (nx_of k2.1 k2.2) rfl
    · rw [tst_f hw]
      exact aOK_2 (by omega) (by omega) (fun _ => by omega)
theorem aOK_behind {A : aA} (hn : n ≤ 10) (h : aOK n A) (h1 : aS A = 1) : aOK n (aBehind n A) := by
  obtain ⟨k1, k2, k3, k4, k5, k6, k7, k8, k9, k10⟩ := h
  unfold aBehind
  split
  · exact aOK_2 k1 k2 k5
  · rename_i z
    have e := k8 h1
    exact aOK_back hn k1 k2 (by omega) k5 (fun j hj => k6 (by rw [h1]; decide) (by omega) j (by omega))
end ZAO
