/-! no deeds at all: the least that can be asked -/
section ZNN
variable {V : Nat → Nat → Int32} {nf nd : Nat} {y : Int32} {sel : Nat → Prop}
theorem hasR_0 {o : Nat} : ¬ hasR V nf nd (fun _ => False) o := by
  rintro ⟨f, L, -, h1, -, h⟩
  have a0 : (fun f => arB V (nI o) (fun _ => False) f nd) = fun _ => 0 := by
    funext f
    unfold arB
    have e : (fun d => tst (False ∧ V 20 d = nI o ∧ V 16 d = nI f) (1 <<< ix (V 17 d)) 0) = fun _ => 0 := by
      funext d
      rw [tst_f (fun c => c.1)]
    rw [e, orN_0]
  rw [a0] at h
  obtain ⟨k, rfl⟩ : ∃ k : Nat, L = k + 1 := ⟨L - 1, by omega⟩
  unfold fk stpA at h
  have e : (fun f_1 => if (fk (fun _ => 0) nf f k).testBit f_1 = true then (fun _ => 0) f_1 else 0) = fun _ => (0 : Nat) := by
    funext d
    split <;> rfl
  rw [e, orN_0, Nat.zero_testBit] at h
  exact absurd h (by decide)
theorem fD_F : ∀ n : Nat, fD V (fun _ => False) n = fun _ => 255
  | 0 => rfl
  | n + 1 => by
    unfold fD
    rw [tst_f (fun c => c), fD_F n]
theorem lsn_lt {F : Nat → Nat} {a b s : Nat} (h : ∀ x : Nat, F x < 256) (x : Nat) : lsn F a b s x < 256 := by
  have : F (a * 10 + b) &&& s < 256 := Nat.lt_of_le_of_lt Nat.and_le_left (h _)
  unfold lsn pAt
  split
  · exact tur_lt this
  · split
    · exact this
    · exact h x
theorem fD_lt : ∀ n x : Nat, fD V sel n x < 256
  | 0, x => by show 255 < 256; decide
  | n + 1, x => by
    unfold fD
    by_cases c : sel n
    · rw [tst_t c]
      exact lsn_lt (fD_lt n) x
    · rw [tst_f c]
      exact fD_lt n x
theorem sb_and2 {a b s : Nat} (h : sb a b) : sb (a &&& s) (b &&& s) := sb_and ((sb_l a s).tr h) (sb_r a s)
theorem lsn_sb {F G : Nat → Nat} {a b s : Nat} (h1 : ∀ x : Nat, F x < 256) (h2 : ∀ x : Nat, G x < 256) (h : ∀ x : Nat, sb (F x) (G x)) (x : Nat) : sb (lsn F a b s x) (lsn G a b s x) := by
  have q1 : F (a * 10 + b) &&& s < 256 := Nat.lt_of_le_of_lt Nat.and_le_left (h1 _)
  have q2 : G (a * 10 + b) &&& s < 256 := Nat.lt_of_le_of_lt Nat.and_le_left (h2 _)
  unfold lsn pAt
  split
  · exact sb_tur q1 q2 (sb_and2 (h _))
  · split
    · exact sb_and2 (h _)
    · exact h x
theorem fP_lt {F : Nat → Nat} (h : ∀ x : Nat, F x < 256) : ∀ n x : Nat, fP V y F n x < 256
  | 0, x => h x
  | n + 1, x => by
    unfold fP
    by_cases c : V 10 n = nI 4 ∧ ¬ y < V 12 n
    · rw [tst_t c]
      exact lsn_lt (lsn_lt (lsn_lt (fP_lt h n))) x
    · rw [tst_f c]
      exact fP_lt h n x
theorem fP_sb {F G : Nat → Nat} (h1 : ∀ x : Nat, F x < 256) (h2 : ∀ x : Nat, G x < 256) (h : ∀ x : Nat, sb (F x) (G x)) : ∀ n x : Nat, sb (fP V y F n x) (fP V y G n x)
  | 0, x => h x
  | n + 1, x => by
    unfold fP
    have a1 := fP_lt (V := V) (y := y) h1 n
    have a2 := fP_lt (V := V) (y := y) h2 n
    have a := fP_sb h1 h2 h n
    by_cases c : V 10 n = nI 4 ∧ ¬ y < V 12 n
    · rw [tst_t c, tst_t c]
      exact lsn_sb (lsn_lt (lsn_lt a1)) (lsn_lt (lsn_lt a2)) (lsn_sb (lsn_lt a1) (lsn_lt a2) (lsn_sb a1 a2 a)) x
    · rw [tst_f c, tst_f c]
      exact a x
theorem fam_sub {n : Nat} : sub n (fam V nf nd y sel) (fam V nf nd y (fun _ => False)) := fun a b _ _ _ => by
  unfold fam
  rw [fD_F]
  exact fP_sb (fD_lt nd) (fun _ => by show 255 < 256; decide) (fun x i hi => by
    show (255 : Nat).testBit i = true
    have h8 := bit8 (fD_lt (V := V) (sel := sel) nd x) hi
    have : ∀ i : Fin 8, (255 : Nat).testBit i.val = true := by decide
    exact this ⟨i, h8⟩) nf _
theorem canV_1 (h : canV V nf nd y sel = nI 1) : aS (aSl V nf nd y sel) = 1 := by
  unfold canV at h
  by_cases z : hasR V nf nd sel 0 ∨ hasR V nf nd sel 1 ∨ hasR V nf nd sel 2
  · rw [tst_t z] at h
    exact absurd h (by decide)
  · rw [tst_f z] at h
    by_cases c : aS (aSl V nf nd y sel) = 3
    · rw [if_pos c] at h
      exact absurd h (by decide)
    · rw [if_neg c] at h
      by_cases d : aS (aSl V nf nd y sel) = 1
      · exact d
      · rw [if_neg d] at h
        exact absurd h (by decide)
/-- what can be with some deeds can be with none, if it is told -/
theorem can_none (k1 : kF nf V) (k2 : kDd nf nd V) (h : canV V nf nd y sel = nI 1) : ¬ canV V nf nd y (fun _ => False) = nI 0 := by
  have n10 := k1.1
  have s1 := canV_1 h
  have low1 := low_sy n10 (sy_fam (y := y) (sel := sel) k1 k2)
  have sym1 := symF_sy n10 (sy_fam (y := y) (sel := sel) k1 k2)
  have low0 := low_sy n10 (sy_fam (y := y) (sel := fun _ => False) k1 k2)
  have n2 : ¬ aS (aSl V nf nd y (fun _ => False)) = 2 := by
    by_cases hP : 0 < nf * (nf - 1) / 2
    · obtain ⟨H, t, s⟩ := found_tlg n10 low1 sym1 20000 s1 hP
      exact open_tl n10 low0 t (s.tr fam_sub) 20000
    · unfold aSl
      have e : aS (aOpen nf (fam V nf nd y (fun _ => False))) = 1 := by
        show (if nf * (nf - 1) / 2 = 0 then 1 else tst _ 0 2) = 1
        rw [if_pos (by omega)]
      rw [aRun_id (by rw [e]; decide), e]
      decide
  have st := sl_st (y := y) (sel := fun _ => False) k1 k2
  unfold canV
  rw [tst_f (fun c => by rcases c with c | c | c <;> exact hasR_0 c)]
  rcases st with st | st | st
  · rw [if_neg (by rw [st]; decide), if_pos st]
    decide
  · exact absurd st n2
  · rw [if_pos st]
    decide
theorem can_25 {i : Nat} {v : Int32} : canV (uV V 25 i v) nf nd y (fun _ => False) = canV V nf nd y (fun _ => False) := by
  have p : ∀ (F : Nat → Nat) (n : Nat), fP (uV V 25 i v) y F n = fP V y F n := by
    intro F n
    induction n with
    | zero => rfl
    | succ n ih =>
      unfold fP
      rw [ih, uV_c (show ¬ 10 = 25 by decide), uV_c (show ¬ 12 = 25 by decide), uV_c (show ¬ 13 = 25 by decide)]
  have f : fam (uV V 25 i v) nf nd y (fun _ => False) = fam V nf nd y (fun _ => False) := by
    unfold fam
    rw [fD_F, fD_F, p]
  unfold canV aSl
  rw [f, tst_f (fun c => by rcases c with c | c | c <;> exact hasR_0 c), tst_f (fun c => by rcases c with c | c | c <;> exact hasR_0 c)]
theorem dbD_no {F : Nat → Nat} {L : List Nat} {W : Nat → Nat} {n : Nat} (hL : lOK L n) (hw : ∀ d : Nat, d < n → W d < 100) : ∀ i : Nat, ((dbD F L W i).1 = -1 ↔ ∀ k : Nat, k < i → ¬ F (2 ^ L.length - 1 - k) = 1)
  | 0 => ⟨fun _ k hk => absurd hk (by omega), fun _ => rfl⟩
  | i + 1 => by
    have ih := dbD_no (F := F) hL hw i
    have s := smO_lt (x := i) hL hw
    have sn : ¬ nI (smO L W i) = -1 := of_eq_false (a_m1 (by omega))
    show ((dbF F L W i (dbD F L W i)).1 = -1 ↔ _)
    unfold dbF
    by_cases c : F (2 ^ L.length - 1 - i) = 1
    · rw [tst_t c]
      refine ⟨fun e => ?_, fun h => absurd c (h i (by omega))⟩
      by_cases d : (dbD F L W i).1 = -1 ∨ nI (smO L W i) < (dbD F L W i).1
      · rw [if_pos d] at e
        exact absurd e sn
      · rw [if_neg d] at e
        have d1 : ¬ (dbD F L W i).1 = -1 := fun q => d (Or.inl q)
        split at e
        · exact absurd e d1
        · exact absurd e d1
    · rw [tst_f c, ih]
      constructor
      · intro h k hk
        by_cases e : k = i
        · rw [e]; exact c
        · exact h k (by omega)
      · exact fun h k hk => h k (by omega)
theorem qs_a {cv : Nat → Int32} {c : Nat} : ∀ (s : Nat) (F : Nat → Nat), qs cv c s = some F → ∀ x : Nat, F x = 1 → ∃ x' : Nat, x' < 2 ^ c ∧ cv x' = nI 1
  | 0, F, h, x, hx => by
    cases h
    have hx : (0 : Nat) = 1 := hx
    omega
  | s + 1, F, h, x, hx => by
    have p1 : 1 ≤ 2 ^ c := Nat.one_le_two_pow
    have h' : qsO cv c (2 ^ c - 1 - s) (qs cv c s) = some F := h
    cases e : qs cv c s with
    | none => rw [e] at h'; cases h'
    | some G =>
      rw [e] at h'
      have ih := qs_a s G e
      unfold qsO at h'
      dsimp only at h'
      by_cases z : pfP G c (2 ^ c - 1 - s)
      · obtain ⟨i, -, -, g1⟩ := z
        exact ih _ g1
      · rw [tst_f z] at h'
        split at h'
        · cases h'
        · cases h'
          by_cases q : x = 2 ^ c - 1 - s
          · rw [q, up_s] at hx
            by_cases w : cv (2 ^ c - 1 - s) = nI 1
            · exact ⟨_, by omega, w⟩
            · rw [if_neg w] at hx
              exact absurd hx (by decide)
          · rw [up_n q] at hx
            exact ih x hx
theorem qs_b {cv : Nat → Int32} {c : Nat} {F : Nat → Nat} (h : qs cv c (2 ^ c) = some F) (h0 : ¬ F 0 = 1) : ¬ cv 0 = -5 ∧ ¬ cv 0 = nI 1 := by
  have p1 : 1 ≤ 2 ^ c := Nat.one_le_two_pow
  obtain ⟨s, hs⟩ : ∃ s : Nat, 2 ^ c = s + 1 := ⟨2 ^ c - 1, by omega⟩
  have x0 : 2 ^ c - 1 - s = 0 := by omega
  rw [hs] at h
  have h' : qsO cv c (2 ^ c - 1 - s) (qs cv c s) = some F := h
  rw [x0] at h'
  cases e : qs cv c s with
  | none => rw [e] at h'; cases h'
  | some G =>
    rw [e] at h'
    unfold qsO at h'
    dsimp only at h'
    by_cases z : pfP G c 0
    · rw [tst_t z] at h'
      cases h'
      exact absurd up_s h0
    · rw [tst_f z] at h'
      by_cases q : cv 0 = -5
      · rw [if_pos q] at h'; cases h'
      · rw [if_neg q] at h'
        cases h'
        refine ⟨q, fun w => h0 ?_⟩
        rw [up_s, if_pos w]
theorem dsO_0 {L : List Nat} {d : Nat} : ¬ (dsO L 0).testBit d = true := fun c => by
  obtain ⟨i, -, e, -⟩ := dsO_bit.1 c
  rw [Nat.zero_testBit] at e
  exact absurd e (by decide)
/-- in doubt by none: the same for all that an old word may mean -/
theorem wd_none {F : Nat → Nat} (k1 : kF nf V) (k2 : kDd nf nd V) (q : qR V nf nd y = some F) : ((dbD F (nmL (selV V y) nd) (wgO V) (2 ^ (nmL (selV V y) nd).length)).1 = -1 ↔ canV V nf nd y (fun _ => False) = nI 0) := by
  unfold qR at q
  split at q
  · cases q
  rename_i l8
  have hL : lOK (nmL (selV V y) nd) nd := ⟨by omega, fun i hi => (nmL_in nd i hi).1⟩
  have hw : ∀ d : Nat, d < nd → wgO V d < 100 := fun d hd => by
    obtain ⟨w, e, -, w2⟩ := (k2.2 d hd).2.1
    unfold wgO
    rw [e, a_ix (by omega)]
    exact w2
  rw [dbD_no hL hw]
  have p1 : 1 ≤ 2 ^ (nmL (selV V y) nd).length := Nat.one_le_two_pow
  have ec : canV V nf nd y (fun d => (dsO (nmL (selV V y) nd) 0).testBit d = true) = canV V nf nd y (fun _ => False) := canV_c (fun d _ => ⟨fun c => dsO_0 c, fun c => c.elim⟩)
  constructor
  · intro h
    have h0 := h (2 ^ (nmL (selV V y) nd).length - 1) (by omega)
    rw [Nat.sub_self] at h0
    obtain ⟨c1, c2⟩ := qs_b q h0
    rw [ec] at c1 c2
    rcases canV_3 (V := V) (nf := nf) (nd := nd) (y := y) (sel := fun _ => False) with e | e | e
    · exact absurd e c1
    · exact e
    · exact absurd e c2
  · intro h k hk e
    obtain ⟨x', -, w⟩ := qs_a _ _ q _ e
    exact can_none k1 k2 w h
end ZNN
