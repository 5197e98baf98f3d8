/-! what follows, by bits; families of sets, closed ones, the greatest closed one -/
def orN (f : Nat → Nat) : Nat → Nat
  | 0 => 0
  | n + 1 => orN f n ||| f n
theorem orN_bit (f : Nat → Nat) (i : Nat) : ∀ n : Nat, (orN f n).testBit i = true ↔ ∃ j : Nat, j < n ∧ (f j).testBit i = true
  | 0 => by
    unfold orN
    rw [Nat.zero_testBit]
    exact ⟨fun h => absurd h (by decide), fun ⟨j, hj, _⟩ => absurd hj (Nat.not_lt_zero j)⟩
  | n + 1 => by
    unfold orN
    rw [Nat.testBit_or, Bool.or_eq_true, orN_bit f i n]
    constructor
    · rintro (⟨j, hj, h⟩ | h)
      · exact ⟨j, by omega, h⟩
      · exact ⟨n, by omega, h⟩
    · rintro ⟨j, hj, h⟩
      by_cases e : j = n
      · exact Or.inr (e ▸ h)
      · exact Or.inl ⟨j, by omega, h⟩
theorem if_bit {c : Prop} [Decidable c] {x i : Nat} : ((if c then x else 0).testBit i = true) ↔ (c ∧ x.testBit i = true) := by
  split
  · exact ⟨fun h => ⟨‹c›, h⟩, fun h => h.2⟩
  · rw [Nat.zero_testBit]
    exact ⟨fun h => absurd h (by decide), fun h => absurd h.1 ‹¬ c›⟩
theorem lt256 {x : Nat} (h : ∀ i : Nat, x.testBit i = true → i < 8) : x < 256 :=
  Nat.lt_pow_two_of_testBit (n := 8) x (fun i hi => by
    cases e : x.testBit i with
    | false => rfl
    | true => exact absurd (h i e) (by omega))
theorem bit8 {x i : Nat} (hx : x < 256) (h : x.testBit i = true) : i < 8 := by
  rcases Nat.lt_or_ge i 8 with z | z
  · exact z
  · rw [Nat.testBit_lt_two_pow (Nat.lt_of_lt_of_le hx (Nat.pow_le_pow_right (by decide) z : 2 ^ 8 ≤ 2 ^ i))] at h
    exact absurd h (by decide)
theorem ne0_bit {x : Nat} : ¬ x = 0 ↔ ∃ i : Nat, x.testBit i = true := by
  constructor
  · exact fun h => Nat.exists_testBit_of_ne_zero h
  · rintro ⟨i, hi⟩ e
    rw [e, Nat.zero_testBit] at hi
    exact absurd hi (by decide)
def zT3 : List Nat := [255, 31, 31, 31, 31, 1, 1, 1, 103, 175, 31, 30, 28, 3, 1, 2, 103, 103, 255, 28, 28, 103, 103, 4, 1, 3, 31, 24, 16, 175, 103, 8, 1, 1, 31, 16, 16, 31, 255, 16, 103, 102, 100, 172, 28, 96, 64, 32, 103, 100, 100, 100, 252, 64, 64, 64, 1, 2, 4, 8, 16, 32, 64, 128]
def t3 (u v : Nat) : Nat := zT3.getD (u * 8 + v) 0
def fr (w k : Nat) : Nat := orN (fun v => if k.testBit v = true then t3 w v else 0) 8
def fo (s k : Nat) : Nat := orN (fun w => if s.testBit w = true then fr w k else 0) 8
theorem fo_bit {s k i : Nat} : (fo s k).testBit i = true ↔ ∃ w : Nat, w < 8 ∧ ∃ v : Nat, v < 8 ∧ s.testBit w = true ∧ k.testBit v = true ∧ (t3 w v).testBit i = true := by
  unfold fo
  rw [orN_bit]
  constructor
  · rintro ⟨w, hw, h⟩
    rw [if_bit] at h
    obtain ⟨h1, h2⟩ := h
    unfold fr at h2
    rw [orN_bit] at h2
    obtain ⟨v, hv, h3⟩ := h2
    rw [if_bit] at h3
    exact ⟨w, hw, v, hv, h1, h3⟩
  · rintro ⟨w, hw, v, hv, h1, h2, h3⟩
    refine ⟨w, hw, ?_⟩
    rw [if_bit]
    refine ⟨h1, ?_⟩
    unfold fr
    rw [orN_bit]
    exact ⟨v, hv, if_bit.2 ⟨h2, h3⟩⟩
theorem t3_lt0 : ∀ u v : Fin 8, t3 u.val v.val < 256 := by decide +kernel
theorem t3_lt {u v : Nat} (hu : u < 8) (hv : v < 8) : t3 u v < 256 := t3_lt0 ⟨u, hu⟩ ⟨v, hv⟩
theorem fo_lt (s k : Nat) : fo s k < 256 := lt256 (fun i hi => by
  obtain ⟨w, hw, v, hv, -, -, h⟩ := fo_bit.1 hi
  exact bit8 (t3_lt hw hv) h)
/-- turned -/
def tb (i : Nat) : Nat := if i = 3 then 5 else if i = 5 then 3 else if i = 4 then 6 else if i = 6 then 4 else i
def tur (v : Nat) : Nat := (v &&& 135) ||| ((v &&& 24) <<< 2) ||| ((v >>> 2) &&& 24)
theorem tb_tb (i : Nat) : tb (tb i) = i := by
  unfold tb
  repeat' split
  all_goals omega
theorem tb_lt {i : Nat} (h : i < 8) : tb i < 8 := by
  unfold tb
  repeat' split
  all_goals omega
theorem tur_lt0 : ∀ v : Fin 256, tur v.val < 256 := by decide +kernel
theorem tur_lt {v : Nat} (h : v < 256) : tur v < 256 := tur_lt0 ⟨v, h⟩
theorem tur_bit0 : ∀ v : Fin 256, ∀ i : Fin 8, (tur v.val).testBit i.val = v.val.testBit (tb i.val) := by decide +kernel
theorem tur_bit {v i : Nat} (hv : v < 256) : (tur v).testBit i = v.testBit (tb i) := by
  rcases Nat.lt_or_ge i 8 with z | z
  · exact tur_bit0 ⟨v, hv⟩ ⟨i, z⟩
  · have e : tb i = i := by
      unfold tb
      repeat' split
      all_goals omega
    have h2 : 2 ^ 8 ≤ 2 ^ i := Nat.pow_le_pow_right (by decide) z
    rw [e, Nat.testBit_lt_two_pow (Nat.lt_of_lt_of_le (tur_lt hv) h2), Nat.testBit_lt_two_pow (Nat.lt_of_lt_of_le hv h2)]
theorem tur_OK0 : ∀ v : Fin 256, tur (tur v.val) = v.val ∧ pc8 (tur v.val) = pc8 v.val := by decide +kernel
theorem tur_OK : tnOK tur := fun v hv => ⟨tur_lt hv, (tur_OK0 ⟨v, hv⟩).1, (tur_OK0 ⟨v, hv⟩).2⟩
theorem t3_tur0 : ∀ w v i : Fin 8, (t3 (tb v.val) (tb w.val)).testBit (tb i.val) = (t3 w.val v.val).testBit i.val := by decide +kernel
theorem fo_tur {s k : Nat} (hs : s < 256) (hk : k < 256) : fo (tur k) (tur s) = tur (fo s k) := by
  apply Nat.eq_of_testBit_eq
  intro i
  apply Bool.eq_iff_iff.2
  rw [tur_bit (fo_lt s k), fo_bit, fo_bit]
  constructor
  · rintro ⟨w, hw, v, hv, h1, h2, h3⟩
    rw [tur_bit hk] at h1
    rw [tur_bit hs] at h2
    refine ⟨tb v, tb_lt hv, tb w, tb_lt hw, h2, h1, ?_⟩
    have hi := bit8 (t3_lt hw hv) h3
    rw [t3_tur0 ⟨w, hw⟩ ⟨v, hv⟩ ⟨i, hi⟩]
    exact h3
  · rintro ⟨w, hw, v, hv, h1, h2, h3⟩
    have hi := bit8 (t3_lt hw hv) h3
    refine ⟨tb v, tb_lt hv, tb w, tb_lt hw, ?_, ?_, ?_⟩
    · rw [tur_bit hk, tb_tb]; exact h2
    · rw [tur_bit hs, tb_tb]; exact h1
    · have := t3_tur0 ⟨w, hw⟩ ⟨v, hv⟩ ⟨tb i, hi⟩
      rw [tb_tb] at this
      rw [this]; exact h3
/-- a set within another -/
def sb (s k : Nat) : Prop := ∀ i : Nat, s.testBit i = true → k.testBit i = true
theorem sb.rf (s : Nat) : sb s s := fun _ h => h
theorem sb.tr {a b c : Nat} (h : sb a b) (k : sb b c) : sb a c := fun i z => k i (h i z)
theorem sb_and {a b c : Nat} (h : sb a b) (k : sb a c) : sb a (b &&& c) := fun i z => by rw [Nat.testBit_and, h i z, k i z]; rfl
theorem sb_l (a b : Nat) : sb (a &&& b) a := fun i z => by rw [Nat.testBit_and, Bool.and_eq_true] at z; exact z.1
theorem sb_r (a b : Nat) : sb (a &&& b) b := fun i z => by rw [Nat.testBit_and, Bool.and_eq_true] at z; exact z.2
theorem sb_eq {a b : Nat} (h : sb a b) (k : sb b a) : a = b := Nat.eq_of_testBit_eq (fun i => Bool.eq_iff_iff.2 ⟨h i, k i⟩)
theorem sb_tur {a b : Nat} (ha : a < 256) (hb : b < 256) (h : sb a b) : sb (tur a) (tur b) := fun i z => by
  rw [tur_bit ha] at z
  rw [tur_bit hb]
  exact h _ z
theorem sb_of {a b : Nat} (h : a &&& b = a) : sb a b := h ▸ sb_r a b
theorem tur_and {a b : Nat} (ha : a < 256) (hb : b < 256) : tur (a &&& b) = tur a &&& tur b := by
  apply Nat.eq_of_testBit_eq
  intro i
  rw [Nat.testBit_and, tur_bit (Nat.lt_of_le_of_lt Nat.and_le_left ha), tur_bit ha, tur_bit hb, Nat.testBit_and]
theorem fo_sb {s k s' k' : Nat} (h : sb s s') (h' : sb k k') : sb (fo s k) (fo s' k') := fun i z => by
  obtain ⟨w, hw, v, hv, h1, h2, h3⟩ := fo_bit.1 z
  exact fo_bit.2 ⟨w, hw, v, hv, h w h1, h' v h2, h3⟩
theorem fo_all : fo 255 255 = 255 := by decide +kernel
/-- families: the set of a to b at a * 10 + b, for fields below n -/
def sub (n : Nat) (H F : Nat → Nat) : Prop := ∀ a b : Nat, a < n → b < n → ¬ a = b → sb (H (a * 10 + b)) (F (a * 10 + b))
def eqv (n : Nat) (H F : Nat → Nat) : Prop := ∀ a b : Nat, a < n → b < n → ¬ a = b → H (a * 10 + b) = F (a * 10 + b)
def clo (n : Nat) (F : Nat → Nat) : Prop := ∀ a b c : Nat, a < n → b < n → c < n → ¬ a = b → ¬ b = c → ¬ a = c → sb (F (a * 10 + c)) (fo (F (a * 10 + b)) (F (b * 10 + c)))
def whl (n : Nat) (F : Nat → Nat) : Prop := ∀ a b : Nat, a < n → b < n → ¬ a = b → ¬ F (a * 10 + b) = 0
def low (n : Nat) (F : Nat → Nat) : Prop := ∀ a b : Nat, a < n → b < n → ¬ a = b → F (a * 10 + b) < 256
theorem sub.tr {n : Nat} {A B C : Nat → Nat} (h : sub n A B) (k : sub n B C) : sub n A C := fun a b ha hb hd => (h a b ha hb hd).tr (k a b ha hb hd)
theorem sub.rf {n : Nat} {A : Nat → Nat} : sub n A A := fun a b ha hb hd => sb.rf _
theorem eqv.rf {n : Nat} {A : Nat → Nat} : eqv n A A := fun a b ha hb hd => rfl
theorem eqv.sy {n : Nat} {A B : Nat → Nat} (h : eqv n A B) : eqv n B A := fun a b ha hb hd => (h a b ha hb hd).symm
theorem eqv.tr {n : Nat} {A B C : Nat → Nat} (h : eqv n A B) (k : eqv n B C) : eqv n A C := fun a b ha hb hd => (h a b ha hb hd).trans (k a b ha hb hd)
theorem eqv.su {n : Nat} {A B : Nat → Nat} (h : eqv n A B) : sub n A B := fun a b ha hb hd => by rw [h a b ha hb hd]; exact sb.rf _
theorem eqv.lo {n : Nat} {A B : Nat → Nat} (h : eqv n A B) (k : low n A) : low n B := fun a b ha hb hd => by rw [← h a b ha hb hd]; exact k a b ha hb hd
theorem eqv.wh {n : Nat} {A B : Nat → Nat} (h : eqv n A B) (k : whl n A) : whl n B := fun a b ha hb hd => by rw [← h a b ha hb hd]; exact k a b ha hb hd
theorem eqv.cl {n : Nat} {A B : Nat → Nat} (h : eqv n A B) (k : clo n A) : clo n B := fun a b c ha hb hc h1 h2 h3 => by
  rw [← h a c ha hc h3, ← h a b ha hb h1, ← h b c hb hc h2]
  exact k a b c ha hb hc h1 h2 h3
def gcB (n : Nat) (F : Nat → Nat) (p w : Nat) : Prop := ∃ H : Nat → Nat, sub n H F ∧ clo n H ∧ (H p).testBit w = true
/-- the greatest closed family within F -/
noncomputable def gc (n : Nat) (F : Nat → Nat) (p : Nat) : Nat := orN (fun w => @ite _ (p / 10 < n ∧ p % 10 < n ∧ ¬ p / 10 = p % 10 ∧ gcB n F p w) (Classical.propDecidable _) (2 ^ w) 0) 8
theorem gc_bit {n : Nat} {F : Nat → Nat} {a b w : Nat} (ha : a < n) (hb : b < n) (hd : ¬ a = b) (hn : n ≤ 10) : (gc n F (a * 10 + b)).testBit w = true ↔ w < 8 ∧ gcB n F (a * 10 + b) w := by
  unfold gc
  rw [orN_bit]
  constructor
  · rintro ⟨j, hj, h⟩
    rw [@if_bit _ (Classical.propDecidable _)] at h
    obtain ⟨h1, h2⟩ := h
    rw [Nat.testBit_two_pow, decide_eq_true_eq] at h2
    subst h2
    exact ⟨hj, h1.2.2.2⟩
  · rintro ⟨hw, h⟩
    refine ⟨w, hw, ?_⟩
    rw [@if_bit _ (Classical.propDecidable _)]
    refine ⟨⟨by omega, by omega, by omega, h⟩, ?_⟩
    rw [Nat.testBit_two_pow_self]
theorem gc_out {n : Nat} {F : Nat → Nat} {p : Nat} (h : ¬ (p / 10 < n ∧ p % 10 < n ∧ ¬ p / 10 = p % 10)) : gc n F p = 0 := by
  apply Nat.eq_of_testBit_eq
  intro i
  rw [Nat.zero_testBit]
  cases e : (gc n F p).testBit i with
  | false => rfl
  | true =>
    unfold gc at e
    rw [orN_bit] at e
    obtain ⟨j, hj, e⟩ := e
    rw [@if_bit _ (Classical.propDecidable _)] at e
    exact absurd ⟨e.1.1, e.1.2.1, e.1.2.2.1⟩ h
theorem gc_sub {n : Nat} {F : Nat → Nat} (hn : n ≤ 10) : sub n (gc n F) F := fun a b ha hb hd i h => by
  obtain ⟨-, H, h1, h2, h3⟩ := (gc_bit ha hb hd hn).1 h
  exact h1 a b ha hb hd i h3
theorem gc_max {n : Nat} {F H : Nat → Nat} (hn : n ≤ 10) (hF : low n F) (h1 : sub n H F) (h2 : clo n H) : sub n H (gc n F) := fun a b ha hb hd i h => (gc_bit ha hb hd hn).2 ⟨bit8 (hF a b ha hb hd) (h1 a b ha hb hd i h), H, h1, h2, h⟩
theorem gc_low {n : Nat} {F : Nat → Nat} (hn : n ≤ 10) : low n (gc n F) := fun a b ha hb hd => lt256 (fun i hi => ((gc_bit ha hb hd hn).1 hi).1)
theorem gc_clo {n : Nat} {F : Nat → Nat} (hn : n ≤ 10) (hF : low n F) : clo n (gc n F) := fun a b c ha hb hc h1 h2 h3 i h => by
  obtain ⟨hi, H, k1, k2, k3⟩ := (gc_bit ha hc h3 hn).1 h
  exact fo_sb (gc_max hn hF k1 k2 a b ha hb h1) (gc_max hn hF k1 k2 b c hb hc h2) i (k2 a b c ha hb hc h1 h2 h3 i k3)
theorem gc_un {n : Nat} {F C : Nat → Nat} (hn : n ≤ 10) (hF : low n F) (h1 : sub n C F) (h2 : clo n C) (h3 : ∀ H : Nat → Nat, sub n H F → clo n H → sub n H C) : eqv n C (gc n F) := fun a b ha hb hd => sb_eq (gc_max hn hF h1 h2 a b ha hb hd) (h3 _ (gc_sub hn) (gc_clo hn hF) a b ha hb hd)
theorem gc_eqv {n : Nat} {F F' : Nat → Nat} (hn : n ≤ 10) (hF : low n F) (h : eqv n F F') : gc n F = gc n F' := by
  funext p
  by_cases c : p / 10 < n ∧ p % 10 < n ∧ ¬ p / 10 = p % 10
  · have hF' := h.lo hF
    have e : p = p / 10 * 10 + p % 10 := by omega
    rw [e]
    exact sb_eq (gc_max hn hF' ((gc_sub hn).tr h.su) (gc_clo hn hF) _ _ c.1 c.2.1 c.2.2) (gc_max hn hF ((gc_sub hn).tr h.sy.su) (gc_clo hn hF') _ _ c.1 c.2.1 c.2.2)
  · rw [gc_out c, gc_out c]
/-- what is closed stays as it is -/
theorem gc_id {n : Nat} {F : Nat → Nat} (hn : n ≤ 10) (hF : low n F) (h : clo n F) : eqv n F (gc n F) := gc_un hn hF sub.rf h (fun _ k _ => k)
/-- from a family between: the same -/
theorem gc_mid {n : Nat} {F G : Nat → Nat} (hn : n ≤ 10) (hF : low n F) (h1 : sub n G F) (h2 : sub n (gc n F) G) (hG : low n G) : gc n G = gc n F := by
  funext p
  by_cases c : p / 10 < n ∧ p % 10 < n ∧ ¬ p / 10 = p % 10
  · have e : p = p / 10 * 10 + p % 10 := by omega
    rw [e]
    exact sb_eq (gc_max hn hF ((gc_sub hn).tr h1) (gc_clo hn hG) _ _ c.1 c.2.1 c.2.2) (gc_max hn hG h2 (gc_clo hn hF) _ _ c.1 c.2.1 c.2.2)
  · rw [gc_out c, gc_out c]
