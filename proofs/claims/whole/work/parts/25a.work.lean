/-! the queue's work: what it keeps, and that it ends with the greatest closed family -/
def mn (a b : Nat) : Nat := min (a * 10 + b) (b * 10 + a)
theorem mn_sy (a b : Nat) : mn a b = mn b a := Nat.min_comm _ _
theorem mn_inj {a b u v : Nat} (ha : a < 10) (hb : b < 10) (hu : u < 10) (hv : v < 10) (h : mn a b = mn u v) : (a = u ∧ b = v) ∨ (a = v ∧ b = u) := by unfold mn at h; omega
def qI (n : Nat) (q : List Nat) : Prop := q.Nodup ∧ ∀ x : Nat, x ∈ q → x / 10 < x % 10 ∧ x % 10 < n
theorem len_sub : ∀ (q S : List Nat), q.Nodup → (∀ x : Nat, x ∈ q → x ∈ S) → q.length ≤ S.length
  | [], S, _, _ => Nat.zero_le _
  | x :: r, S, hq, hs => by
    have h1 := hs x List.mem_cons_self
    have h2 := List.nodup_cons.1 hq
    have := len_sub r (S.erase x) h2.2 (fun y hy => (List.mem_erase_of_ne (fun (e : y = x) => h2.1 (by rw [← e]; exact hy))).2 (hs y (List.mem_cons_of_mem x hy)))
    rw [List.length_erase_of_mem h1] at this
    have h3 : 0 < S.length := List.length_pos_of_mem h1
    rw [List.length_cons]
    omega
def pPs : List Nat := [1, 2, 12, 3, 13, 23, 4, 14, 24, 34, 5, 15, 25, 35, 45, 6, 16, 26, 36, 46, 56, 7, 17, 27, 37, 47, 57, 67, 8, 18, 28, 38, 48, 58, 68, 78, 9, 19, 29, 39, 49, 59, 69, 79, 89]
theorem pPs_mem : ∀ x : Fin 100, x.val / 10 < x.val % 10 → x.val ∈ pPs := by decide +kernel
theorem qI_len {n : Nat} {q : List Nat} (hn : n ≤ 10) (h : qI n q) : q.length ≤ 45 :=
  len_sub q pPs h.1 (fun x hx => pPs_mem ⟨x, by have := h.2 x hx; omega⟩ (h.2 x hx).1)
theorem qI_len2 {n m : Nat} {q : List Nat} (hn : n ≤ 10) (h : qI n q) (h1 : m / 10 < m % 10) (h2 : m % 10 < n) (hm : ¬ m ∈ q) : q.length < 45 := by
  have : qI n (m :: q) := ⟨List.nodup_cons.2 ⟨hm, h.1⟩, fun x hx => by
    rcases List.mem_cons.1 hx with e | e
    · rw [e]; exact ⟨h1, h2⟩
    · exact h.2 x e⟩
  have := qI_len hn this
  rw [List.length_cons] at this
  omega
theorem qI_que {n m v : Nat} {q : List Nat} (h : qI n q) (h1 : m / 10 < m % 10) (h2 : m % 10 < n) : qI n (pQue m v q) := by
  unfold pQue
  split
  · rename_i hz
    refine ⟨?_, fun x hx => ?_⟩
    · rw [List.nodup_append]
      refine ⟨h.1, List.nodup_cons.2 ⟨List.not_mem_nil, List.nodup_nil⟩, fun a ha b hb => ?_⟩
      rw [List.mem_singleton.1 hb]
      intro e
      exact hz.2.1 (e ▸ ha)
    · rcases List.mem_append.1 hx with w | w
      · exact h.2 x w
      · rw [List.mem_singleton.1 w]; exact ⟨h1, h2⟩
  · exact h
theorem que_sub {m v x : Nat} {q : List Nat} (h : x ∈ q) : x ∈ pQue m v q := by
  unfold pQue
  split
  · exact List.mem_append_left _ h
  · exact h
theorem que_in {n m v : Nat} {q : List Nat} (hn : n ≤ 10) (h : qI n q) (h1 : m / 10 < m % 10) (h2 : m % 10 < n) (hv : ¬ v = 0) : m ∈ pQue m v q := by
  unfold pQue
  by_cases c : m ∈ q
  · rw [if_neg (fun z => z.2.1 c)]; exact c
  · rw [if_pos ⟨hv, c, qI_len2 hn h h1 h2 c⟩]
    exact List.mem_append_right _ (List.mem_singleton.2 rfl)
/-- changes taken back: in two goes, from a shorter trail -/
theorem pBk_split {tn : Nat → Nat} {tr : List (Nat × Nat)} {s m' : Nat} (hs : s ≤ m') : ∀ (m : Nat) (f : Nat → Nat), m' ≤ m → pBk tn tr s m f = pBk tn tr s m' (pBk tn tr m' m f)
  | 0, f, h => by
    have e : m' = 0 := by omega
    subst e
    rfl
  | m + 1, f, h => by
    by_cases c : m' = m + 1
    · subst c
      congr 1
      show f = pBk tn tr (m + 1) (m + 1) f
      unfold pBk
      rw [if_pos (by omega)]
    · show (if m < s then f else _) = pBk tn tr s m' (if m < m' then f else _)
      rw [if_neg (by omega), if_neg (by omega)]
      exact pBk_split hs m _ (by omega)
theorem pBk_take {tn : Nat → Nat} {tr : List (Nat × Nat)} {s t : Nat} : ∀ (m : Nat) (f : Nat → Nat), m ≤ t → pBk tn (tr.take t) s m f = pBk tn tr s m f
  | 0, f, h => rfl
  | m + 1, f, h => by
    unfold pBk
    rw [pBk_take m _ (by omega)]
    have e : (tr.take t).getD m (0, 0) = tr.getD m (0, 0) := by
      rw [List.getD_eq_getElem?_getD, List.getD_eq_getElem?_getD, List.getElem?_take, if_pos (by omega)]
    rw [e]
theorem pBk_app {tn : Nat → Nat} {tr : List (Nat × Nat)} {s : Nat} {x : Nat × Nat} {f : Nat → Nat} (hs : s ≤ tr.length) : pBk tn (tr ++ [x]) s (tr ++ [x]).length f = pBk tn tr s tr.length (pAt tn x.1 x.2 f) := by
  rw [List.length_append, List.length_singleton]
  show (if tr.length < s then f else _) = _
  rw [if_neg (by omega)]
  have e : (tr ++ [x]).getD tr.length (0, 0) = x := by
    rw [List.getD_eq_getElem?_getD, List.getElem?_append_right (Nat.le_refl _), Nat.sub_self]; rfl
  rw [e]
  have h2 := pBk_take (tn := tn) (tr := tr ++ [x]) (s := s) (t := tr.length) tr.length (pAt tn x.1 x.2 f) (Nat.le_refl _)
  rw [List.take_left' rfl] at h2
  exact h2.symm
theorem pAt_pAt {tn f : Nat → Nat} {p v : Nat} (h : f (p % 10 * 10 + p / 10) = tn (f p)) : pAt tn p (f p) (pAt tn p v f) = f := by
  funext x
  unfold pAt
  by_cases e1 : x = p % 10 * 10 + p / 10
  · rw [if_pos e1, e1, h]
  · rw [if_neg e1]
    by_cases e2 : x = p
    · rw [if_pos e2, e2]
    · rw [if_neg e2, if_neg e1, if_neg e2]
/-- the trail's places are pairs -/
def tOL (tr : List (Nat × Nat)) : Prop := ∀ x : Nat × Nat, x ∈ tr → x.1 < 100 ∧ x.2 < 256 ∧ ¬ x.1 / 10 = x.1 % 10
theorem tOL.ok {tr : List (Nat × Nat)} (h : tOL tr) : tOK tr := fun x hx => ⟨(h x hx).1, (h x hx).2.1⟩
theorem tOL.tk {tr : List (Nat × Nat)} {s : Nat} (h : tOL tr) : tOL (tr.take s) := fun x hx => h x (List.mem_of_mem_take hx)
theorem pBk_sy {tr : List (Nat × Nat)} {s : Nat} (ht : tOL tr) : ∀ (m : Nat) (f : Nat → Nat), m ≤ tr.length → sy tur f → sy tur (pBk tur tr s m f)
  | 0, f, _, hf => hf
  | m + 1, f, hm, hf => by
    unfold pBk
    split
    · exact hf
    · have hx : tr[m]? = some (tr.getD m (0, 0)) := by
        rw [List.getD_eq_getElem?_getD, List.getElem?_eq_getElem (by omega)]
        rfl
      obtain ⟨y1, y2, y3⟩ := ht _ (List.mem_of_getElem? hx)
      exact pBk_sy ht m _ (by omega) (sy_at tur_OK hf y1 y3 y2)
def wgt (σ : zS) : Nat := σ.2.1.length + bsum (fun p => pc8 (σ.1 p)) 100
/-- what a step does to the trail: all can still be taken back -/
def trS (σ τ : zS) : Prop := σ.2.1.length ≤ τ.2.1.length ∧ (∀ s : Nat, s ≤ σ.2.1.length → pBk tur τ.2.1 s τ.2.1.length τ.1 = pBk tur σ.2.1 s σ.2.1.length σ.1) ∧ (tOL σ.2.1 → tOL τ.2.1) ∧ wgt τ ≤ wgt σ
theorem trS.rf {σ : zS} : trS σ σ := ⟨Nat.le_refl _, fun _ _ => rfl, fun h => h, Nat.le_refl _⟩
theorem trS.tr {σ τ ρ : zS} (h : trS σ τ) (k : trS τ ρ) : trS σ ρ := ⟨Nat.le_trans h.1 k.1, fun s hs => (k.2.1 s (Nat.le_trans hs h.1)).trans (h.2.1 s hs), fun z => k.2.2.1 (h.2.2.1 z), Nat.le_trans k.2.2.2 h.2.2.2⟩
/-- keep writes what is kept, also where nothing changes -/
theorem pKeep_at {p s : Nat} {σ : zS} (hf : sy tur σ.1) (hp : p < 100) : (pKeep tur p s σ).1 = pAt tur p (σ.1 p &&& s) σ.1 := by
  unfold pKeep
  split
  · rename_i h
    rw [h]
    funext x
    unfold pAt
    by_cases e1 : x = p % 10 * 10 + p / 10
    · rw [if_pos e1, e1]; exact (hf p hp).2
    · rw [if_neg e1]
      by_cases e2 : x = p
      · rw [if_pos e2, e2]
      · rw [if_neg e2]
  · rfl
theorem bsum_lt0 {w w' : Nat → Nat} {p : Nat} (hp : p < 100) (hd : ¬ p / 10 = p % 10) (hw : ∀ q : Nat, q / 10 < q % 10 → w' q ≤ w q) (h1 : p / 10 < p % 10 → w' p < w p) (h2 : p % 10 < p / 10 → w' (p % 10 * 10 + p / 10) < w (p % 10 * 10 + p / 10)) : bsum w' 100 < bsum w 100 := by
  by_cases c : p / 10 < p % 10
  · exact bsum_lt hw c (h1 c) 100 hp
  · have j1 : (p % 10 * 10 + p / 10) / 10 = p % 10 := by omega
    have j2 : (p % 10 * 10 + p / 10) % 10 = p / 10 := by omega
    exact bsum_lt (j := p % 10 * 10 + p / 10) hw (by rw [j1, j2]; omega) (h2 (by omega)) 100 (by omega)
theorem wgt_keep {p s : Nat} {σ : zS} (hf : sy tur σ.1) (hp : p < 100) (hd : ¬ p / 10 = p % 10) (hz : ¬ σ.1 p &&& s = σ.1 p) : bsum (fun x => pc8 (pAt tur p (σ.1 p &&& s) σ.1 x)) 100 < bsum (fun x => pc8 (σ.1 x)) 100 := by
  obtain ⟨f1, f2⟩ := hf p hp
  have hv : σ.1 p &&& s < 256 := Nat.lt_of_le_of_lt Nat.and_le_left f1
  have hl := pc8_lt f1 hz
  generalize σ.1 p &&& s = v at hv hl ⊢
  refine bsum_lt0 hp hd ?_ ?_ ?_
  · intro x hx
    unfold pAt
    (try dsimp only)
    by_cases e1 : x = p % 10 * 10 + p / 10
    · rw [if_pos e1, (tur_OK v hv).2.2, e1, f2, (tur_OK _ f1).2.2]
      omega
    · rw [if_neg e1]
      by_cases e2 : x = p
      · rw [if_pos e2, e2]; omega
      · rw [if_neg e2]; exact Nat.le_refl _
  · intro c
    unfold pAt
    (try dsimp only)
    rw [if_neg (by omega), if_pos rfl]
    exact hl
  · intro c
    unfold pAt
    (try dsimp only)
    rw [if_pos rfl, (tur_OK v hv).2.2, f2, (tur_OK _ f1).2.2]
    exact hl
theorem trS_keep {p s : Nat} {σ : zS} (hf : sy tur σ.1) (hp : p < 100) (hd : ¬ p / 10 = p % 10) (hw : wgt σ ≤ 360) : trS σ (pKeep tur p s σ) := by
  obtain ⟨f1, f2⟩ := hf p hp
  unfold pKeep
  split
  · exact trS.rf
  · rename_i hz
    have hl := wgt_keep hf hp hd hz
    have hlen : σ.2.1.length < 360 := by unfold wgt at hw; omega
    unfold pTrail
    rw [if_pos hlen]
    refine ⟨?_, fun t ht => ?_, fun h x hx => ?_, ?_⟩
    · dsimp only
      rw [List.length_append]; omega
    · dsimp only
      rw [pBk_app ht]
      dsimp only
      rw [pAt_pAt f2]
    · rcases List.mem_append.1 hx with z | z
      · exact h x z
      · rw [List.mem_singleton.1 z]; exact ⟨hp, f1, hd⟩
    · unfold wgt
      dsimp only
      rw [List.length_append, List.length_singleton]
      omega
/-- what the work keeps -/
def cI (n : Nat) (F0 : Nat → Nat) (σ : zS) : Prop := sy tur σ.1 ∧ qI n σ.2.2 ∧ sub n σ.1 F0 ∧ sub n (gc n F0) σ.1 ∧ wgt σ ≤ 360
def tri (F : Nat → Nat) (x y z : Nat) : Prop := sb (F (x * 10 + z)) (fo (F (x * 10 + y)) (F (y * 10 + z)))
def tQ (σ : zS) (x y z : Nat) : Prop := tri σ.1 x y z ∨ mn x y ∈ σ.2.2 ∨ mn y z ∈ σ.2.2
section ZWK
variable {n : Nat} {F0 : Nat → Nat} {σ : zS}
theorem at_pair {u v x y w : Nat} {f : Nat → Nat} (hu : u < 10) (hv : v < 10) (hx : x < 10) (hy : y < 10) (h : ¬ ((x = u ∧ y = v) ∨ (x = v ∧ y = u))) : pAt tur (u * 10 + v) w f (x * 10 + y) = f (x * 10 + y) := by
  have e1 : (u * 10 + v) % 10 = v := by omega
  have e2 : (u * 10 + v) / 10 = u := by omega
  unfold pAt
  rw [e1, e2, if_neg (fun e => h (Or.inr ⟨by omega, by omega⟩)), if_neg (fun e => h (Or.inl ⟨by omega, by omega⟩))]
theorem at_self {u v w : Nat} {f : Nat → Nat} (hu : u < 10) (hv : v < 10) (hd : ¬ u = v) : pAt tur (u * 10 + v) w f (u * 10 + v) = w := by
  unfold pAt
  rw [if_neg (by omega), if_pos rfl]
theorem at_turn {u v w : Nat} {f : Nat → Nat} (hu : u < 10) (hv : v < 10) : pAt tur (u * 10 + v) w f (v * 10 + u) = tur w := by
  unfold pAt
  rw [if_pos (by omega)]
theorem sy_live {u v : Nat} (hf : sy tur σ.1) (hu : u < 10) (hv : v < 10) : σ.1 (u * 10 + v) < 256 ∧ σ.1 (v * 10 + u) = tur (σ.1 (u * 10 + v)) := by
  obtain ⟨f1, f2⟩ := hf (u * 10 + v) (by omega)
  rw [show (u * 10 + v) % 10 * 10 + (u * 10 + v) / 10 = v * 10 + u by omega] at f2
  exact ⟨f1, f2⟩
theorem k_step {u v w : Nat} (hn : n ≤ 10) (hF : low n F0) (hu : u < n) (hv : v < n) (hw : w < n) (huv : ¬ u = v) (huw : ¬ u = w) (hwv : ¬ w = v) (h : cI n F0 σ) (τ : zS) (hτ : pKeep tur (u * 10 + v) (fo (σ.1 (u * 10 + w)) (σ.1 (w * 10 + v))) σ = τ) :
    cI n F0 τ ∧ trS σ τ ∧ phi τ ≤ phi σ ∧ (∀ x : Nat, x ∈ σ.2.2 → x ∈ τ.2.2) ∧ τ.1 (u * 10 + v) = σ.1 (u * 10 + v) &&& fo (σ.1 (u * 10 + w)) (σ.1 (w * 10 + v)) ∧ (¬ τ.1 (u * 10 + v) = 0 → (whl n σ.1 → whl n τ.1) ∧ (∀ x y z : Nat, x < n → y < n → z < n → ¬ x = y → ¬ y = z → ¬ x = z → tQ σ x y z → tQ τ x y z) ∧ tri τ.1 u w v ∧ tri τ.1 v w u) := by
  obtain ⟨i1, i2, i3, i4, i5⟩ := h
  have hp : u * 10 + v < 100 := by omega
  have hd : ¬ (u * 10 + v) / 10 = (u * 10 + v) % 10 := by omega
  obtain ⟨p1, p2⟩ := phi_keep (s := fo (σ.1 (u * 10 + w)) (σ.1 (w * 10 + v))) tur_OK i1 hp hd
  have q1 := trS_keep (s := fo (σ.1 (u * 10 + w)) (σ.1 (w * 10 + v))) i1 hp hd i5
  have q2 := pKeep_at (s := fo (σ.1 (u * 10 + w)) (σ.1 (w * 10 + v))) i1 hp
  have mm : min (u * 10 + v) ((u * 10 + v) % 10 * 10 + (u * 10 + v) / 10) = mn u v := by
    unfold mn
    rw [show (u * 10 + v) % 10 * 10 + (u * 10 + v) / 10 = v * 10 + u by omega]
  have m1 : mn u v / 10 < mn u v % 10 := by unfold mn; omega
  have m2 : mn u v % 10 < n := by unfold mn; omega
  have fc : (pKeep tur (u * 10 + v) (fo (σ.1 (u * 10 + w)) (σ.1 (w * 10 + v))) σ).2.2 = σ.2.2 ∧ σ.1 (u * 10 + v) &&& fo (σ.1 (u * 10 + w)) (σ.1 (w * 10 + v)) = σ.1 (u * 10 + v) ∨ (pKeep tur (u * 10 + v) (fo (σ.1 (u * 10 + w)) (σ.1 (w * 10 + v))) σ).2.2 = pQue (mn u v) (σ.1 (u * 10 + v) &&& fo (σ.1 (u * 10 + w)) (σ.1 (w * 10 + v))) σ.2.2 := by
    unfold pKeep
    split
    · exact Or.inl ⟨rfl, ‹_›⟩
    · rw [mm]; exact Or.inr rfl
  rw [hτ] at p1 p2 q1 q2 fc
  clear hτ
  obtain ⟨f1, f2⟩ := sy_live i1 (show u < 10 by omega) (show v < 10 by omega)
  obtain ⟨g1, g2⟩ := sy_live i1 (show u < 10 by omega) (show w < 10 by omega)
  obtain ⟨j1, j2⟩ := sy_live i1 (show w < 10 by omega) (show v < 10 by omega)
  have hs := fo_lt (σ.1 (u * 10 + w)) (σ.1 (w * 10 + v))
  have hfo : fo (σ.1 (v * 10 + w)) (σ.1 (w * 10 + u)) = tur (fo (σ.1 (u * 10 + w)) (σ.1 (w * 10 + v))) := by rw [j2, g2]; exact fo_tur g1 j1
  have hv8 : σ.1 (u * 10 + v) &&& fo (σ.1 (u * 10 + w)) (σ.1 (w * 10 + v)) < 256 := Nat.lt_of_le_of_lt Nat.and_le_left f1
  have e1 : τ.1 (u * 10 + v) = σ.1 (u * 10 + v) &&& fo (σ.1 (u * 10 + w)) (σ.1 (w * 10 + v)) := by rw [q2]; exact at_self (by omega) (by omega) huv
  have e2 : τ.1 (v * 10 + u) = tur (σ.1 (u * 10 + v) &&& fo (σ.1 (u * 10 + w)) (σ.1 (w * 10 + v))) := by rw [q2]; exact at_turn (by omega) (by omega)
  have e3 : ∀ x y : Nat, x < n → y < n → ¬ ((x = u ∧ y = v) ∨ (x = v ∧ y = u)) → τ.1 (x * 10 + y) = σ.1 (x * 10 + y) := fun x y hx hy h => by rw [q2]; exact at_pair (by omega) (by omega) (by omega) (by omega) h
  have sm : sub n τ.1 σ.1 := fun x y hx hy hxy => by
    by_cases c1 : x = u ∧ y = v
    · rw [c1.1, c1.2, e1]; exact sb_l _ _
    · by_cases c2 : x = v ∧ y = u
      · rw [c2.1, c2.2, e2, f2]; exact sb_tur hv8 f1 (sb_l _ _)
      · rw [e3 x y hx hy (by omega)]; exact sb.rf _
  refine ⟨⟨p1, ?_, sm.tr i3, ?_, Nat.le_trans q1.2.2.2 i5⟩, q1, p2, fun x hx => ?_, e1, fun nz => ⟨fun hwh => ?_, ?_, ?_, ?_⟩⟩
  · rcases fc with ⟨c, -⟩ | c
    · rw [c]; exact i2
    · rw [c]; exact qI_que i2 m1 m2
  · intro x y hx hy hxy
    by_cases c1 : x = u ∧ y = v
    · rw [c1.1, c1.2, e1]
      refine sb_and (i4 u v hu hv huv) ?_
      exact (gc_clo hn hF u w v hu hw hv huw hwv huv).tr (fo_sb (i4 u w hu hw huw) (i4 w v hw hv hwv))
    · by_cases c2 : x = v ∧ y = u
      · rw [c2.1, c2.2, e2, tur_and f1 hs, ← f2, ← hfo]
        refine sb_and (i4 v u hv hu (fun e => huv e.symm)) ?_
        exact (gc_clo hn hF v w u hv hw hu (fun e => hwv e.symm) (fun e => huw e.symm) (fun e => huv e.symm)).tr (fo_sb (i4 v w hv hw (fun e => hwv e.symm)) (i4 w u hw hu (fun e => huw e.symm)))
      · rw [e3 x y hx hy (by omega)]; exact i4 x y hx hy hxy
  · rcases fc with ⟨c, -⟩ | c
    · rw [c]; exact hx
    · rw [c]; exact que_sub hx
  · intro x y hx hy hxy
    by_cases c1 : x = u ∧ y = v
    · rw [c1.1, c1.2]; exact nz
    · by_cases c2 : x = v ∧ y = u
      · rw [c2.1, c2.2, e2, ← e1]
        intro z
        refine nz ?_
        have h8 : τ.1 (u * 10 + v) < 256 := by rw [e1]; exact hv8
        rw [← (tur_OK _ h8).2.1, z]
        decide
      · rw [e3 x y hx hy (by omega)]; exact hwh x y hx hy hxy
  · intro x y z hx hy hz hxy hyz hxz ht
    rcases ht with ht | ht | ht
    · rcases fc with ⟨c, ce⟩ | c
      · have e4 : ∀ x y : Nat, x < n → y < n → τ.1 (x * 10 + y) = σ.1 (x * 10 + y) := fun x y hx hy => by
          by_cases c1 : x = u ∧ y = v
          · rw [c1.1, c1.2, e1]; exact ce
          · by_cases c2 : x = v ∧ y = u
            · rw [c2.1, c2.2, e2, ce, f2]
            · exact e3 x y hx hy (by omega)
        refine Or.inl ?_
        unfold tri
        rw [e4 x z hx hz, e4 x y hx hy, e4 y z hy hz]
        exact ht
      · have hin : mn u v ∈ τ.2.2 := by rw [c]; exact que_in hn i2 m1 m2 (by rw [← e1]; exact nz)
        by_cases c1 : (x = u ∧ y = v) ∨ (x = v ∧ y = u)
        · refine Or.inr (Or.inl ?_)
          rcases c1 with c1 | c1
          · rw [c1.1, c1.2]; exact hin
          · rw [c1.1, c1.2, mn_sy]; exact hin
        · by_cases c2 : (y = u ∧ z = v) ∨ (y = v ∧ z = u)
          · refine Or.inr (Or.inr ?_)
            rcases c2 with c2 | c2
            · rw [c2.1, c2.2]; exact hin
            · rw [c2.1, c2.2, mn_sy]; exact hin
          · refine Or.inl ?_
            unfold tri
            rw [e3 x y hx hy c1, e3 y z hy hz c2]
            exact (sm x z hx hz hxz).tr ht
    · refine Or.inr (Or.inl ?_)
      rcases fc with ⟨c, -⟩ | c
      · rw [c]; exact ht
      · rw [c]; exact que_sub ht
    · refine Or.inr (Or.inr ?_)
      rcases fc with ⟨c, -⟩ | c
      · rw [c]; exact ht
      · rw [c]; exact que_sub ht
  · unfold tri
    rw [e1, e3 u w hu hw (by omega), e3 w v hw hv (by omega)]
    exact sb_r _ _
  · unfold tri
    rw [e2, e3 v w hv hw (by omega), e3 w u hw hu (by omega), hfo, tur_and f1 hs]
    exact sb_r _ _
/-- the pair a b is looked at, with the fields from c on still to come -/
def tJ (n a b c : Nat) (σ : zS) : Prop := ∀ x y z : Nat, x < n → y < n → z < n → ¬ x = y → ¬ y = z → ¬ x = z → tQ σ x y z ∨ (((x = a ∧ y = b) ∨ (x = b ∧ y = a)) ∧ c ≤ z) ∨ (((y = a ∧ z = b) ∨ (y = b ∧ z = a)) ∧ c ≤ x)
theorem k_in {hv : Nat → Nat} (hn : n ≤ 10) (hF : low n F0) (hh : ∀ s k : Nat, s < 256 → k < 256 → f2 hv s k = fo s k) {a b : Nat} (ha : a < n) (hb : b < n) (hab : ¬ a = b) : ∀ (k c : Nat) (σ : zS), c + k = n → cI n F0 σ → whl n σ.1 → tJ n a b c σ →
    cI n F0 (pIn tur hv (a * 10 + b) a b k c σ).1 ∧ trS σ (pIn tur hv (a * 10 + b) a b k c σ).1 ∧ phi (pIn tur hv (a * 10 + b) a b k c σ).1 ≤ phi σ ∧ ((pIn tur hv (a * 10 + b) a b k c σ).2 = true → whl n (pIn tur hv (a * 10 + b) a b k c σ).1.1 ∧ tJ n a b n (pIn tur hv (a * 10 + b) a b k c σ).1) ∧ ((pIn tur hv (a * 10 + b) a b k c σ).2 = false → ¬ whl n (gc n F0))
  | 0, c, σ, hk, hI, hW, hJ => by
    have e : c = n := by omega
    subst e
    exact ⟨hI, trS.rf, Nat.le_refl _, fun _ => ⟨hW, hJ⟩, fun z => absurd z (by intro z; cases z)⟩
  | k + 1, c, σ, hk, hI, hW, hJ => by
    unfold pIn
    split
    · rename_i z
      refine k_in hn hF hh ha hb hab k (c + 1) σ (by omega) hI hW (fun x y w hx hy hw h1 h2 h3 => ?_)
      rcases hJ x y w hx hy hw h1 h2 h3 with t | ⟨t1, t2⟩ | ⟨t1, t2⟩
      · exact Or.inl t
      · refine Or.inr (Or.inl ⟨t1, ?_⟩)
        omega
      · refine Or.inr (Or.inr ⟨t1, ?_⟩)
        omega
    · rename_i z
      have hc : c < n := by omega
      have hca : ¬ c = a := fun e => z (Or.inl e)
      have hcb : ¬ c = b := fun e => z (Or.inr e)
      have s1 := (sy_live hI.1 (show a < 10 by omega) (show b < 10 by omega)).1
      have s2 := (sy_live hI.1 (show b < 10 by omega) (show c < 10 by omega)).1
      rw [hh _ _ s1 s2]
      obtain ⟨k1, k2, k3, -, k5, k6⟩ := k_step hn hF ha hc hb (fun e => hca e.symm) hab (fun e => hcb e.symm) hI _ rfl
      split
      · rename_i g1
        have nz1 : ¬ (pKeep tur (a * 10 + c) (fo (σ.1 (a * 10 + b)) (σ.1 (b * 10 + c))) σ).1 (a * 10 + c) = 0 := by
          rw [k5]
          rcases g1 with g1 | g1
          · rw [g1]; exact hW a c ha hc (fun e => hca e.symm)
          · exact g1
        obtain ⟨w1, w2, w3, w4⟩ := k6 nz1
        have hW1 := w1 hW
        generalize pKeep tur (a * 10 + c) (fo (σ.1 (a * 10 + b)) (σ.1 (b * 10 + c))) σ = σ1 at k1 k2 k3 k5 w1 w2 w3 w4 hW1 nz1 ⊢
        have s3 := (sy_live k1.1 (show c < 10 by omega) (show a < 10 by omega)).1
        have s4 := (sy_live k1.1 (show a < 10 by omega) (show b < 10 by omega)).1
        rw [hh _ _ s3 s4]
        obtain ⟨l1, l2, l3, -, l5, l6⟩ := k_step hn hF hc hb ha hcb hca hab k1 _ rfl
        split
        · rename_i g2
          have nz2 : ¬ (pKeep tur (c * 10 + b) (fo (σ1.1 (c * 10 + a)) (σ1.1 (a * 10 + b))) σ1).1 (c * 10 + b) = 0 := by
            rw [l5]
            rcases g2 with g2 | g2
            · rw [g2]; exact hW1 c b hc hb hcb
            · exact g2
          obtain ⟨x1, x2, x3, x4⟩ := l6 nz2
          have hW2 := x1 hW1
          generalize pKeep tur (c * 10 + b) (fo (σ1.1 (c * 10 + a)) (σ1.1 (a * 10 + b))) σ1 = σ2 at l1 l2 l3 l5 x1 x2 x3 x4 hW2 nz2 ⊢
          have hJ2 : tJ n a b (c + 1) σ2 := by
            intro x y w hx hy hw h1 h2 h3
            by_cases c1 : x = a ∧ y = b ∧ w = c
            · rw [c1.1, c1.2.1, c1.2.2]
              exact Or.inl (x2 a b c ha hb hc hab (fun e => hcb e.symm) (fun e => hca e.symm) (Or.inl w3))
            · by_cases c2 : x = c ∧ y = b ∧ w = a
              · rw [c2.1, c2.2.1, c2.2.2]
                exact Or.inl (x2 c b a hc hb ha hcb (fun e => hab e.symm) hca (Or.inl w4))
              · by_cases c3 : x = c ∧ y = a ∧ w = b
                · rw [c3.1, c3.2.1, c3.2.2]
                  exact Or.inl (Or.inl x3)
                · by_cases c4 : x = b ∧ y = a ∧ w = c
                  · rw [c4.1, c4.2.1, c4.2.2]
                    exact Or.inl (Or.inl x4)
                  · rcases hJ x y w hx hy hw h1 h2 h3 with t | ⟨t1, t2⟩ | ⟨t1, t2⟩
                    · exact Or.inl (x2 x y w hx hy hw h1 h2 h3 (w2 x y w hx hy hw h1 h2 h3 t))
                    · refine Or.inr (Or.inl ⟨t1, ?_⟩)
                      omega
                    · refine Or.inr (Or.inr ⟨t1, ?_⟩)
                      omega
          obtain ⟨r1, r2, r3, r4, r5⟩ := k_in hn hF hh ha hb hab k (c + 1) σ2 (by omega) l1 hW2 hJ2
          exact ⟨r1, (k2.tr l2).tr r2, Nat.le_trans r3 (Nat.le_trans l3 k3), r4, r5⟩
        · rename_i g2
          refine ⟨l1, k2.tr l2, Nat.le_trans l3 k3, fun z => absurd z (by intro z; cases z), fun _ hg => ?_⟩
          have e0 : σ1.1 (c * 10 + b) &&& fo (σ1.1 (c * 10 + a)) (σ1.1 (a * 10 + b)) = 0 := by
            by_cases e : σ1.1 (c * 10 + b) &&& fo (σ1.1 (c * 10 + a)) (σ1.1 (a * 10 + b)) = 0
            · exact e
            · exact absurd (Or.inr e) g2
          obtain ⟨i, hi⟩ := ne0_bit.1 (hg c b hc hb hcb)
          have := l1.2.2.2.1 c b hc hb hcb i hi
          rw [l5, e0, Nat.zero_testBit] at this
          exact absurd this (by decide)
      · rename_i g1
        refine ⟨k1, k2, k3, fun z => absurd z (by intro z; cases z), fun _ hg => ?_⟩
        have e0 : σ.1 (a * 10 + c) &&& fo (σ.1 (a * 10 + b)) (σ.1 (b * 10 + c)) = 0 := by
          by_cases e : σ.1 (a * 10 + c) &&& fo (σ.1 (a * 10 + b)) (σ.1 (b * 10 + c)) = 0
          · exact e
          · exact absurd (Or.inr e) g1
        obtain ⟨i, hi⟩ := ne0_bit.1 (hg a c ha hc (fun e => hca e.symm))
        have := k1.2.2.2.1 a c ha hc (fun e => hca e.symm) i hi
        rw [k5, e0, Nat.zero_testBit] at this
        exact absurd this (by decide)
/-- all is looked at but what waits -/
def tA (n : Nat) (σ : zS) : Prop := ∀ x y z : Nat, x < n → y < n → z < n → ¬ x = y → ¬ y = z → ¬ x = z → tQ σ x y z
theorem cI_pop {a : Nat → Nat} {tr : List (Nat × Nat)} {x : Nat} {q : List Nat} (h : cI n F0 (a, tr, x :: q)) : cI n F0 (a, tr, q) :=
  ⟨h.1, ⟨(List.nodup_cons.1 h.2.1.1).2, fun y hy => h.2.1.2 y (List.mem_cons_of_mem x hy)⟩, h.2.2.1, h.2.2.2.1, h.2.2.2.2⟩
theorem k_sp0 {hv : Nat → Nat} : ∀ (k : Nat) (σ : zS), cI n F0 σ → cI n F0 (pSp tur hv n k σ false).1 ∧ trS σ (pSp tur hv n k σ false).1 ∧ (pSp tur hv n k σ false).2 = false
  | 0, σ, h => ⟨h, trS.rf, rfl⟩
  | k + 1, (a, tr, []), h => by
    unfold pSp
    exact ⟨h, trS.rf, rfl⟩
  | k + 1, (a, tr, x :: q), h => by
    unfold pSp
    exact k_sp0 k (a, tr, q) (cI_pop h)
theorem k_sp {hv : Nat → Nat} (hn : n ≤ 10) (hF : low n F0) (hh : ∀ s k : Nat, s < 256 → k < 256 → f2 hv s k = fo s k) : ∀ (k : Nat) (σ : zS), cI n F0 σ → whl n σ.1 → tA n σ →
    cI n F0 (pSp tur hv n k σ true).1 ∧ trS σ (pSp tur hv n k σ true).1 ∧ ((pSp tur hv n k σ true).2 = true → whl n (pSp tur hv n k σ true).1.1 ∧ tA n (pSp tur hv n k σ true).1) ∧ ((pSp tur hv n k σ true).2 = false → ¬ whl n (gc n F0))
  | 0, σ, hI, hW, hA => ⟨hI, trS.rf, fun _ => ⟨hW, hA⟩, fun z => absurd z (by intro z; cases z)⟩
  | k + 1, (a, tr, []), hI, hW, hA => by
    unfold pSp
    exact ⟨hI, trS.rf, fun _ => ⟨hW, hA⟩, fun z => absurd z (by intro z; cases z)⟩
  | k + 1, (a, tr, x :: q), hI, hW, hA => by
    unfold pSp
    obtain ⟨x1, x2⟩ := hI.2.1.2 x List.mem_cons_self
    have hJ : tJ n (x / 10) (x % 10) 0 (a, tr, q) := by
      intro u v w hu hv hw h1 h2 h3
      have ex : mn (x / 10) (x % 10) = x := by unfold mn; omega
      rcases hA u v w hu hv hw h1 h2 h3 with t | t | t
      · exact Or.inl (Or.inl t)
      · rcases List.mem_cons.1 t with e | e
        · rw [← ex] at e
          rcases mn_inj (by omega) (by omega) (by omega) (by omega) e with c | c
          · exact Or.inr (Or.inl ⟨Or.inl c, Nat.zero_le _⟩)
          · exact Or.inr (Or.inl ⟨Or.inr c, Nat.zero_le _⟩)
        · exact Or.inl (Or.inr (Or.inl e))
      · rcases List.mem_cons.1 t with e | e
        · rw [← ex] at e
          rcases mn_inj (by omega) (by omega) (by omega) (by omega) e with c | c
          · exact Or.inr (Or.inr ⟨Or.inl c, Nat.zero_le _⟩)
          · exact Or.inr (Or.inr ⟨Or.inr c, Nat.zero_le _⟩)
        · exact Or.inl (Or.inr (Or.inr e))
    have ep : x / 10 * 10 + x % 10 = x := by omega
    have key := k_in hn hF hh (show x / 10 < n by omega) x2 (by omega) n 0 (a, tr, q) (by omega) (cI_pop hI) hW hJ
    rw [ep] at key
    obtain ⟨r1, r2, r3, r4, r5⟩ := key
    generalize pIn tur hv x (x / 10) (x % 10) n 0 (a, tr, q) = R at r1 r2 r3 r4 r5 ⊢
    obtain ⟨τ, b⟩ := R
    dsimp only at r1 r2 r3 r4 r5 ⊢
    have r2' : trS (a, tr, x :: q) τ := r2
    cases b with
    | true =>
      obtain ⟨w1, w2⟩ := r4 rfl
      have hA2 : tA n τ := fun u v w hu hv hw h1 h2 h3 => by
        rcases w2 u v w hu hv hw h1 h2 h3 with t | ⟨-, t⟩ | ⟨-, t⟩
        · exact t
        · omega
        · omega
      obtain ⟨y1, y2, y3, y4⟩ := k_sp hn hF hh k τ r1 w1 hA2
      exact ⟨y1, r2'.tr y2, y3, y4⟩
    | false =>
      obtain ⟨y1, y2, y3⟩ := k_sp0 (hv := hv) k τ r1
      refine ⟨y1, r2'.tr y2, fun z => ?_, fun _ => r5 rfl⟩
      rw [y3] at z
      cases z
/-- spread: it ends with nothing waiting; the greatest closed family, or one in which a set is empty -/
theorem k_spread {hv : Nat → Nat} (hn : n ≤ 10) (hh : ∀ s k : Nat, s < 256 → k < 256 → f2 hv s k = fo s k) {σ : zS} (hs : sy tur σ.1) (hq : qI n σ.2.2) (hg : wgt σ ≤ 360) (hW : whl n σ.1) (hA : tA n σ) :
    (pSp tur hv n 405 σ true).1.2.2 = [] ∧ sy tur (pSp tur hv n 405 σ true).1.1 ∧ trS σ (pSp tur hv n 405 σ true).1 ∧ ((pSp tur hv n 405 σ true).2 = true ↔ whl n (gc n σ.1)) ∧ ((pSp tur hv n 405 σ true).2 = true → eqv n (pSp tur hv n 405 σ true).1.1 (gc n σ.1)) := by
  have hF : low n σ.1 := fun a b ha hb hd => (sy_live hs (by omega) (by omega)).1
  have hI : cI n σ.1 σ := ⟨hs, hq, sub.rf, gc_sub hn, hg⟩
  have hqO : qOK σ.2.2 := ⟨hq.1, fun x hx => by have := hq.2 x hx; omega⟩
  obtain ⟨d1, d2⟩ := pSp_drain (hv := hv) tur_OK hn 405 σ true hs hqO (phi_top (qI_len hn hq))
  obtain ⟨r1, r2, r3, r4⟩ := k_sp hn hF hh 405 σ hI hW hA
  have ee : (pSp tur hv n 405 σ true).2 = true → eqv n (pSp tur hv n 405 σ true).1.1 (gc n σ.1) := by
    intro z
    obtain ⟨-, w2⟩ := r3 z
    refine gc_un hn hF r1.2.2.1 ?_ (fun H h1 h2 => (gc_max hn hF h1 h2).tr r1.2.2.2.1)
    intro a b c ha hb hc h1 h2 h3
    rcases w2 a b c ha hb hc h1 h2 h3 with t | t | t
    · exact t
    · rw [d1] at t; exact absurd t List.not_mem_nil
    · rw [d1] at t; exact absurd t List.not_mem_nil
  refine ⟨d1, d2, r2, ⟨fun z => (ee z).wh (r3 z).1, fun z => ?_⟩, ee⟩
  cases e : (pSp tur hv n 405 σ true).2 with
  | true => rfl
  | false => exact absurd z (r4 e)
end ZWK
