/-! numbers and cells for simp with omega: every condition is one that omega decides -/
section ZAU
variable {g : Nat → Nat} {h : zMem} {a b j k N : Nat} {v : Int32} {x : Int64} {r : Option Nat}
theorem a_inb (h1 : a < N) (h2 : N < 2147483648) : inb (nI a) N = true := by
  unfold inb
  have h3 : a < 2 ^ 31 := by omega
  rw [nI_clamp h3, decide_eq_true h1, decide_eq_true (nI_pos' h3)]
  rfl
theorem a_ix (h1 : a < 2147483648) : ix (nI a) = a := nI_clamp h1
theorem a_lt (h1 : a < 2147483648) (h2 : b < 2147483648) : (nI a < nI b) = (a < b) := propext (nI_ltI (by omega) (by omega))
theorem a_eq (h1 : a < 2147483648) (h2 : b < 2147483648) : (nI a = nI b) = (a = b) := propext (nI_eq (by omega) (by omega))
theorem a_eq0 (h1 : a < 2147483648) : (nI a = (0 : Int32)) = (a = 0) := propext (nI_eq (b := 0) (by omega) (by omega))
theorem a_lt0 (h1 : a < 2147483648) : (nI a < (0 : Int32)) = False := eq_false (nI_pos h1)
theorem a_0lt (h1 : a < 2147483648) : ((0 : Int32) < nI a) = (0 < a) := propext (nI_ltI (a := 0) (by omega) (by omega))
theorem a_m1 (h1 : a < 2147483648) : (nI a = (-1 : Int32)) = False := eq_false (fun e => by
  have := nI_pos (n := a) h1
  rw [e] at this
  exact this (by decide))
theorem a_m2 (h1 : a < 2147483648) : ((-1 : Int32) = nI a) = False := eq_false (fun e => by
  have := nI_pos (n := a) h1
  rw [← e] at this
  exact this (by decide))
theorem a_mlt (h1 : a < 2147483648) : (nI a < (-1 : Int32)) = False := eq_false (fun e => by
  rw [Int32.lt_iff_toInt_lt, nI_toInt (by omega), show ((-1 : Int32)).toInt = -1 by decide] at e
  omega)
theorem a_sub (h1 : b ≤ a) : nI a - nI b = nI (a - b) := y_sub h1
theorem a_dec (h1 : 1 ≤ a) : nI a + (-1) = nI (a - 1) := by
  rw [← y_sub h1, Int32.sub_eq_add_neg]; rfl
theorem a_div (h1 : a < 2147483648) (h2 : b < 2147483648) : nI a / nI b = nI (a / b) := y_div h1 h2
theorem a_rem (h1 : a < 2147483648) (h2 : b < 2147483648) : iRem (nI a) (nI b) = nI (a % b) := y_rem h1 h2
theorem a_shl (h1 : k < 32) : iShl (nI a) (nI k) = nI (a <<< k) := y_shl h1
theorem a_shr (h1 : a < 2147483648) (h2 : k < 32) : iShr (nI a) (nI k) = nI (a >>> k) := y_shr h1 h2
theorem a_bit : (a >>> k &&& 1 = 0) = ¬ (a.testBit k = true) := by
  rw [Nat.testBit_eq_decide_div_mod_eq, decide_eq_true_eq, Nat.and_one_is_mod, Nat.shiftRight_eq_div_pow]
  apply propext
  omega
theorem a_bit0 : (nI (a >>> k &&& 1) = (0 : Int32)) = ¬ (a.testBit k = true) := by
  have h1 : a >>> k &&& 1 ≤ 1 := Nat.and_le_right
  rw [a_eq0 (by omega), a_bit]
theorem a_II : gI (sI h a k v) a k = v := by rw [y_gI_sI, if_pos ⟨rfl, rfl⟩]
theorem a_Ia (h1 : ¬ b = a) : gI (sI h a k v) b j = gI h b j := by rw [y_gI_sI, if_neg (fun z => h1 z.1)]
theorem a_Ik (h1 : ¬ j = k) : gI (sI h a k v) b j = gI h b j := by rw [y_gI_sI, if_neg (fun z => h1 z.2)]
theorem a_LL : gL (sL h a k x) a k = x := by rw [y_gL_sL, if_pos ⟨rfl, rfl⟩]
theorem a_La (h1 : ¬ b = a) : gL (sL h a k x) b j = gL h b j := by rw [y_gL_sL, if_neg (fun z => h1 z.1)]
theorem a_Lk (h1 : ¬ j = k) : gL (sL h a k x) b j = gL h b j := by rw [y_gL_sL, if_neg (fun z => h1 z.2)]
theorem a_RR : gR (sR h a k r) a k = r := by rw [y_gR_sR, if_pos ⟨rfl, rfl⟩]
theorem a_Ra (h1 : ¬ b = a) : gR (sR h a k r) b j = gR h b j := by rw [y_gR_sR, if_neg (fun z => h1 z.1)]
theorem a_Rk (h1 : ¬ j = k) : gR (sR h a k r) b j = gR h b j := by rw [y_gR_sR, if_neg (fun z => h1 z.2)]
theorem a_if0 {α : Type} {p q : α} : (if (nI 1 = (0 : Int32)) then p else q) = q := if_neg (by decide)
theorem a_if1 {α : Type} {p q : α} : (if (nI 0 = (0 : Int32)) then p else q) = p := if_pos (by decide)
end ZAU
/-! loops -/
/-- a loop that carries x and the memory -/
theorem l_loop {α : Type} {g : Nat → Nat} {M : zM} {pc : Nat} {st : List Value} {n : Nat} (ls : Nat → α → List Value) (P : Nat → α → zMem → Prop) (step : ∀ (i : Nat) (x : α) (h : zMem), i < n → P i x h → ∃ (x' : α) (h' : zMem), ev g M pc (ls i x) st h = ev g M pc (ls (i + 1) x') st h' ∧ P (i + 1) x' h') :
    ∀ (k i : Nat) (x : α) (h : zMem), i + k = n → P i x h → ∃ (x' : α) (h' : zMem), ev g M pc (ls i x) st h = ev g M pc (ls n x') st h' ∧ P n x' h'
  | 0, i, x, h, hk, hP => by
    have e : i = n := by omega
    subst e
    exact ⟨x, h, rfl, hP⟩
  | k + 1, i, x, h, hk, hP => by
    obtain ⟨x1, h1, e1, p1⟩ := step i x h (by omega) hP
    obtain ⟨x2, h2, e2, p2⟩ := l_loop ls P step k (i + 1) x1 h1 (by omega) p1
    exact ⟨x2, h2, e1.trans e2, p2⟩
/-- a loop that writes nothing -/
def itr {α : Type} (F : Nat → α → α) : Nat → Nat → α → α
  | 0, _, x => x
  | k + 1, i, x => itr F k (i + 1) (F i x)
theorem l_fold {α : Type} {g : Nat → Nat} {M : zM} {pc : Nat} {st : List Value} {h : zMem} {n : Nat} (ls : Nat → α → List Value) (Q : Nat → α → Prop) (F : Nat → α → α) (step : ∀ (i : Nat) (x : α), i < n → Q i x → ev g M pc (ls i x) st h = ev g M pc (ls (i + 1) (F i x)) st h ∧ Q (i + 1) (F i x)) :
    ∀ (k i : Nat) (x : α), i + k = n → Q i x → ev g M pc (ls i x) st h = ev g M pc (ls n (itr F k i x)) st h ∧ Q n (itr F k i x)
  | 0, i, x, hk, hQ => by
    have e : i = n := by omega
    subst e
    exact ⟨rfl, hQ⟩
  | k + 1, i, x, hk, hQ => by
    obtain ⟨e1, q1⟩ := step i x (by omega) hQ
    obtain ⟨e2, q2⟩ := l_fold ls Q F step k (i + 1) (F i x) (by omega) q1
    exact ⟨e1.trans e2, q2⟩
/-- a loop that looks for the first -/
theorem l_find {g : Nat → Nat} {M : zM} {pc : Nat} {st : List Value} {h : zMem} {n : Nat} (ls : Nat → List Value) (C : Nat → Prop) (R : Nat → Option (Option Value × zMem)) (E : Option (Option Value × zMem)) (yes : ∀ i : Nat, i < n → C i → ev g M pc (ls i) st h = R i) (no : ∀ i : Nat, i < n → ¬ C i → ev g M pc (ls i) st h = ev g M pc (ls (i + 1)) st h) (fin : ev g M pc (ls n) st h = E) :
    ∀ (k i : Nat), i + k = n → (∃ j : Nat, i ≤ j ∧ j < n ∧ C j ∧ (∀ m : Nat, i ≤ m → m < j → ¬ C m) ∧ ev g M pc (ls i) st h = R j) ∨ ((∀ j : Nat, i ≤ j → j < n → ¬ C j) ∧ ev g M pc (ls i) st h = E)
  | 0, i, hk => by
    have e : i = n := by omega
    subst e
    exact Or.inr ⟨fun j h1 h2 => absurd h2 (by omega), fin⟩
  | k + 1, i, hk => by
    by_cases c : C i
    · exact Or.inl ⟨i, Nat.le_refl _, by omega, c, fun m h1 h2 => absurd h2 (by omega), yes i (by omega) c⟩
    · have e := no i (by omega) c
      rcases l_find ls C R E yes no fin k (i + 1) (by omega) with ⟨j, h1, h2, h3, h4, h5⟩ | ⟨h1, h2⟩
      · refine Or.inl ⟨j, by omega, h2, h3, fun m m1 m2 => ?_, e.trans h5⟩
        by_cases q : m = i
        · rw [q]; exact c
        · exact h4 m (by omega) m2
      · refine Or.inr ⟨fun j j1 j2 => ?_, e.trans h2⟩
        by_cases q : j = i
        · rw [q]; exact c
        · exact h1 j (by omega) j2
/-- only cells from lo to hi change, and no reference -/
def sam (lo hi : Nat) (h h' : zMem) : Prop := (∀ b : Nat, kd h' b = kd h b) ∧ (∀ b : Nat, ln h' b = ln h b) ∧ (∀ b k : Nat, gR h' b k = gR h b k) ∧ sz h' = sz h ∧ sl h' = sl h ∧ (∀ b k : Nat, (b < lo ∨ hi < b) → gI h' b k = gI h b k) ∧ (∀ b k : Nat, (b < lo ∨ hi < b) → gL h' b k = gL h b k)
section ZSM
variable {lo hi : Nat} {h h' h'' : zMem}
theorem sam.rf : sam lo hi h h := ⟨fun _ => rfl, fun _ => rfl, fun _ _ => rfl, rfl, rfl, fun _ _ _ => rfl, fun _ _ _ => rfl⟩
theorem sam.tr (a : sam lo hi h h') (b : sam lo hi h' h'') : sam lo hi h h'' := ⟨fun x => (b.1 x).trans (a.1 x), fun x => (b.2.1 x).trans (a.2.1 x), fun x k => (b.2.2.1 x k).trans (a.2.2.1 x k), b.2.2.2.1.trans a.2.2.2.1, b.2.2.2.2.1.trans a.2.2.2.2.1, fun x k z => (b.2.2.2.2.2.1 x k z).trans (a.2.2.2.2.2.1 x k z), fun x k z => (b.2.2.2.2.2.2 x k z).trans (a.2.2.2.2.2.2 x k z)⟩
theorem sam.wd {lo' hi' : Nat} (a : sam lo hi h h') (h1 : lo' ≤ lo) (h2 : hi ≤ hi') : sam lo' hi' h h' := ⟨a.1, a.2.1, a.2.2.1, a.2.2.2.1, a.2.2.2.2.1, fun b k z => a.2.2.2.2.2.1 b k (by omega), fun b k z => a.2.2.2.2.2.2 b k (by omega)⟩
theorem sam.I {a k : Nat} {v : Int32} (ha : lo ≤ a ∧ a ≤ hi) : sam lo hi h (sI h a k v) := ⟨fun _ => rfl, fun _ => rfl, fun _ _ => rfl, rfl, rfl, fun b j hb => by rw [y_gI_sI, if_neg (by omega)], fun _ _ _ => rfl⟩
theorem sam.L {a k : Nat} {v : Int64} (ha : lo ≤ a ∧ a ≤ hi) : sam lo hi h (sL h a k v) := ⟨fun _ => rfl, fun _ => rfl, fun _ _ => rfl, rfl, rfl, fun _ _ _ => rfl, fun b j hb => by rw [y_gL_sL, if_neg (by omega)]⟩
theorem sam.aI {a k : Nat} {v : Int32} (s : sam lo hi h h') (ha : lo ≤ a ∧ a ≤ hi) : sam lo hi h (sI h' a k v) := s.tr (sam.I ha)
theorem sam.aL {a k : Nat} {v : Int64} (s : sam lo hi h h') (ha : lo ≤ a ∧ a ≤ hi) : sam lo hi h (sL h' a k v) := s.tr (sam.L ha)
end ZSM
