/-! longs as bits, and how many there are -/
theorem b_lc {x y : Int64} : (lg_cmp x y = (0 : Int32)) = (x = y) := by
  apply propext
  constructor
  · intro e
    have h1 := lc_l (x := x) (y := y)
    have h2 := lc_g (x := x) (y := y)
    rw [e] at h1 h2
    have n1 : ¬ x < y := fun c => by rw [← h1] at c; exact absurd c (by decide)
    have n2 : ¬ y < x := fun c => by rw [← h2] at c; exact absurd c (by decide)
    rw [Int64.lt_iff_toInt_lt] at n1 n2
    apply Int64.toInt_inj.1
    omega
  · intro e
    subst e
    unfold lg_cmp
    rw [if_neg (fun c => by rw [gt_iff_lt, Int64.lt_iff_toInt_lt] at c; omega), if_pos rfl]
theorem b_zF {i : Decidable False} : (@bZ False i = (0 : Int32)) = True := by rw [bZ_0]; exact eq_true (fun c => c)
theorem b_zT {i : Decidable True} : (@bZ True i = (0 : Int32)) = False := by rw [bZ_0]; exact eq_false (fun c => c trivial)
def lb (v : Int64) (i : Nat) : Bool := v.toBitVec.getLsbD i
section ZLG
variable {v w : Int64} {i k n : Nat}
theorem lb_and : lb (v &&& w) i = (lb v i && lb w i) := by
  unfold lb
  rw [Int64.toBitVec_and, BitVec.getLsbD_and]
theorem lb_or : lb (v ||| w) i = (lb v i || lb w i) := by
  unfold lb
  rw [Int64.toBitVec_or, BitVec.getLsbD_or]
theorem lb_64 (hi : 64 ≤ i) : lb v i = false := BitVec.getLsbD_of_ge _ _ hi
theorem lb_lt (h : lb v i = true) : i < 64 := by
  rcases Nat.lt_or_ge i 64 with c | c
  · exact c
  · rw [lb_64 c] at h; exact absurd h (by decide)
theorem lb_not (hi : i < 64) : lb (v ^^^ (-1)) i = !lb v i := by
  unfold lb
  rw [Int64.toBitVec_xor, BitVec.getLsbD_xor, show (-1 : Int64).toBitVec = BitVec.allOnes 64 by decide, BitVec.getLsbD_allOnes, decide_eq_true hi, Bool.xor_true]
theorem lb_ext (h : ∀ i : Nat, i < 64 → lb v i = lb w i) : v = w := Int64.toBitVec_inj.1 (BitVec.eq_of_getLsbD_eq (fun i hi => h i hi))
theorem lb_0 : lb (lN 0) i = false := by
  unfold lb
  rw [show (lN 0).toBitVec = 0#64 by decide, BitVec.getLsbD_zero]
theorem lb_N (hn : n < 2 ^ 64) : lb (lN n) i = n.testBit i := by
  unfold lb
  show (BitVec.ofNat 64 n).getLsbD i = _
  rw [BitVec.getLsbD_ofNat]
  rcases Nat.lt_or_ge i 64 with c | c
  · rw [decide_eq_true c, Bool.true_and]
  · rw [decide_eq_false (by omega), Bool.false_and, Nat.testBit_lt_two_pow (Nat.lt_of_lt_of_le hn (Nat.pow_le_pow_right (by decide) c))]
theorem lN_nat (v : Int64) : ∃ n : Nat, n < 2 ^ 64 ∧ v = lN n ∧ ∀ i : Nat, lb v i = n.testBit i := by
  refine ⟨v.toBitVec.toNat, v.toBitVec.isLt, ?_, fun i => rfl⟩
  apply Int64.toBitVec_inj.1
  show v.toBitVec = BitVec.ofNat 64 v.toBitVec.toNat
  rw [BitVec.ofNat_toNat, BitVec.setWidth_eq]
theorem l_k63 : ∀ k : Fin 64, (nI k.val).toInt64 &&& 63 = lN k.val ∧ (lN k.val).toBitVec.smod 64 = BitVec.ofNat 64 k.val ∧ ((nI k.val).toInt64.toUInt64 &&& Int64.toUInt64 63).toBitVec % 64 = BitVec.ofNat 64 k.val := by decide +kernel
theorem lb_shl (hk : k < 64) : lb (lShl v (nI k)) i = (decide (i < 64) && (!decide (i < k) && lb v (i - k))) := by
  obtain ⟨e1, e2, -⟩ := l_k63 ⟨k, hk⟩
  dsimp only at e1 e2
  unfold lb lShl
  rw [e1, Int64.toBitVec_shiftLeft, e2, BitVec.shiftLeft_eq', BitVec.getLsbD_shiftLeft, BitVec.toNat_ofNat, Nat.mod_eq_of_lt (by omega), Bool.and_assoc]
theorem lb_shr0 (hk : k < 64) : lb (lShr v (nI k)) 0 = lb v k := by
  obtain ⟨e1, e2, -⟩ := l_k63 ⟨k, hk⟩
  dsimp only at e1 e2
  unfold lb lShr
  rw [e1]
  show (v.toBitVec.sshiftRight ((lN k).toBitVec.smod 64).toNat).getLsbD 0 = _
  rw [e2, BitVec.getLsbD_sshiftRight, BitVec.toNat_ofNat, Nat.mod_eq_of_lt (by omega), if_pos (by omega)]
  rfl
theorem lb_ushr (hk : k < 64) : lb (lUshr v (nI k)) i = lb v (k + i) := by
  obtain ⟨-, -, e3⟩ := l_k63 ⟨k, hk⟩
  dsimp only at e3
  unfold lb lUshr
  show (v.toUInt64 >>> ((nI k).toInt64.toUInt64 &&& Int64.toUInt64 63)).toBitVec.getLsbD i = _
  rw [UInt64.toBitVec_shiftRight, e3, BitVec.ushiftRight_eq', BitVec.getLsbD_ushiftRight, BitVec.toNat_ofNat, Nat.mod_eq_of_lt (by omega)]
  rfl
theorem lb_1 : lb (lN 1) i = decide (i = 0) := by
  rw [lb_N (by decide), show (1 : Nat) = 2 ^ 0 from rfl, Nat.testBit_two_pow]
  apply decide_eq_decide.2
  omega
theorem lb_bit (hk : k < 64) : lb (lShl (lN 1) (nI k)) i = decide (i = k) := by
  rw [lb_shl hk, lb_1]
  by_cases c : i = k
  · subst c
    rw [decide_eq_true hk, decide_eq_false (Nat.lt_irrefl i), decide_eq_true (Nat.sub_self i), decide_eq_true rfl]
    rfl
  · rw [decide_eq_false c]
    by_cases c2 : i < k
    · rw [decide_eq_true c2]; simp
    · rw [decide_eq_false (show ¬ i - k = 0 by omega)]; simp
theorem b_lbit (hk : k < 64) : (lShr v (nI k) &&& lN 1 = lN 0) = ¬ (lb v k = true) := by
  apply propext
  constructor
  · intro e c
    have h : lb (lShr v (nI k) &&& lN 1) 0 = lb (lN 0) 0 := congrArg (fun x => lb x 0) e
    rw [lb_and, lb_shr0 hk, lb_1, lb_0, c] at h
    exact absurd h (by decide)
  · intro c
    apply lb_ext
    intro i hi
    rw [lb_and, lb_1, lb_0]
    by_cases z : i = 0
    · subst z
      rw [lb_shr0 hk, Bool.eq_false_iff.2 c]; rfl
    · rw [decide_eq_false z, Bool.and_false]
theorem lb_ne : ¬ v = lN 0 ↔ ∃ i : Nat, i < 64 ∧ lb v i = true := by
  constructor
  · intro h
    apply Classical.byContradiction
    intro c
    exact h (lb_ext (fun i hi => by
      rw [lb_0]
      cases e : lb v i with
      | false => rfl
      | true => exact absurd ⟨i, hi, e⟩ c))
  · rintro ⟨i, -, h⟩ e
    rw [e, lb_0] at h
    exact absurd h (by decide)
end ZLG
/-! how many -/
def cn (p : Nat → Bool) : Nat → Nat
  | 0 => 0
  | n + 1 => cn p n + (if p n = true then 1 else 0)
theorem cn_le (p : Nat → Bool) : ∀ n : Nat, cn p n ≤ n
  | 0 => Nat.le_refl 0
  | n + 1 => by
    have := cn_le p n
    unfold cn
    split <;> omega
theorem cn_c {p q : Nat → Bool} : ∀ n : Nat, (∀ i : Nat, i < n → p i = q i) → cn p n = cn q n
  | 0, _ => rfl
  | n + 1, h => by
    unfold cn
    rw [cn_c n (fun i hi => h i (by omega)), h n (by omega)]
theorem cn_z {p : Nat → Bool} : ∀ n : Nat, (∀ i : Nat, i < n → p i = false) → cn p n = 0
  | 0, _ => rfl
  | n + 1, h => by
    unfold cn
    rw [cn_z n (fun i hi => h i (by omega)), h n (by omega)]
    rfl
theorem cn_mono {p q : Nat → Bool} : ∀ n : Nat, (∀ i : Nat, i < n → p i = true → q i = true) → cn p n ≤ cn q n
  | 0, _ => Nat.le_refl 0
  | n + 1, h => by
    have h1 := cn_mono n (fun i hi => h i (by omega))
    have h2 := h n (by omega)
    unfold cn
    by_cases c : p n = true
    · rw [if_pos c, if_pos (h2 c)]; omega
    · rw [if_neg c]; split <;> omega
/-- as many within: the same -/
theorem cn_eq {p q : Nat → Bool} : ∀ n : Nat, (∀ i : Nat, i < n → p i = true → q i = true) → cn p n = cn q n → ∀ i : Nat, i < n → p i = q i
  | 0, _, _, i, hi => absurd hi (Nat.not_lt_zero i)
  | n + 1, h, e, i, hi => by
    have h1 := cn_mono n (fun i hi => h i (by omega))
    have h2 := h n (by omega)
    unfold cn at e
    have e2 : cn p n = cn q n ∧ p n = q n := by
      by_cases c : p n = true
      · rw [if_pos c, if_pos (h2 c)] at e
        exact ⟨by omega, by rw [c, h2 c]⟩
      · rw [if_neg c] at e
        by_cases c2 : q n = true
        · rw [if_pos c2] at e; omega
        · rw [if_neg c2] at e
          exact ⟨by omega, by rw [Bool.eq_false_iff.2 c, Bool.eq_false_iff.2 c2]⟩
    by_cases c : i = n
    · rw [c]; exact e2.2
    · exact cn_eq n (fun i hi => h i (by omega)) e2.1 i (by omega)
/-- more than within -/
theorem cn_lt {p q : Nat → Bool} {n i : Nat} (h : ∀ i : Nat, i < n → p i = true → q i = true) (hi : i < n) (h1 : p i = false) (h2 : q i = true) : cn p n < cn q n := by
  have a := cn_mono n h
  rcases Nat.lt_or_ge (cn p n) (cn q n) with c | c
  · exact c
  · have := cn_eq n h (by omega) i hi
    rw [h1, h2] at this
    exact absurd this (by decide)
theorem cn_pos {p : Nat → Bool} {n i : Nat} (hi : i < n) (h : p i = true) : 0 < cn p n := by
  have a := cn_lt (p := fun _ => false) (q := p) (n := n) (fun _ _ z => absurd z (by decide)) hi rfl h
  omega
theorem cn_add (p : Nat → Bool) (m : Nat) : ∀ n : Nat, cn p (m + n) = cn p m + cn (fun i => p (m + i)) n
  | 0 => rfl
  | n + 1 => by
    show cn p (m + n) + _ = _
    rw [cn_add p m n]
    show _ = cn p m + (cn (fun i => p (m + i)) n + _)
    rw [Nat.add_assoc]
    rfl
def bc (v : Int64) : Nat := cn (lb v) 64
theorem bc_le (v : Int64) : bc v ≤ 64 := cn_le _ _
/-! bytes -/
def bt (b x : Nat) : Nat := b + 256 * x
theorem bt_bit {b x i : Nat} (hb : b < 256) : (bt b x).testBit i = if i < 8 then b.testBit i else x.testBit (i - 8) := by
  unfold bt
  rw [Nat.add_comm, show (256 : Nat) = 2 ^ 8 from rfl, Nat.testBit_two_pow_mul_add _ (show b < 2 ^ 8 from hb)]
theorem bt_and {b x c y : Nat} (hb : b < 256) (hc : c < 256) : bt b x &&& bt c y = bt (b &&& c) (x &&& y) := by
  have h : b &&& c < 256 := Nat.lt_of_le_of_lt Nat.and_le_left hb
  apply Nat.eq_of_testBit_eq
  intro i
  rw [Nat.testBit_and, bt_bit hb, bt_bit hc, bt_bit h]
  by_cases z : i < 8
  · rw [if_pos z, if_pos z, if_pos z, Nat.testBit_and]
  · rw [if_neg z, if_neg z, if_neg z, Nat.testBit_and]
theorem cn_bt {b x : Nat} (hb : b < 256) (n : Nat) : cn (bt b x).testBit (8 + n) = cn b.testBit 8 + cn x.testBit n := by
  rw [cn_add]
  congr 1
  · exact cn_c 8 (fun i hi => by rw [bt_bit hb, if_pos hi])
  · exact cn_c n (fun i hi => by rw [bt_bit hb, if_neg (by omega), Nat.add_sub_cancel_left])
def f1 (m x : Nat) : Nat := x - (x / 2 &&& m)
def f2_ (m x : Nat) : Nat := (x &&& m) + (x / 4 &&& m)
def f3 (m x : Nat) : Nat := (x + x / 16) &&& m
def g1 (b : Nat) : Nat := b - (b / 2 &&& 85)
def g2 (b : Nat) : Nat := (b &&& 51) + (b / 4 &&& 51)
def g3 (b : Nat) : Nat := (b + b / 16) &&& 15
theorem g1_0 : ∀ b : Fin 256, ∀ t : Fin 2, (b.val / 2 + 128 * t.val) &&& 85 = b.val / 2 &&& 85 ∧ b.val / 2 &&& 85 ≤ b.val := by decide +kernel
theorem g2_0 : ∀ b : Fin 256, ∀ t : Fin 4, (b.val / 4 + 64 * t.val) &&& 51 = b.val / 4 &&& 51 := by decide +kernel
theorem g_all : ∀ b : Fin 256, g1 b.val < 256 ∧ g2 (g1 b.val) ≤ 68 ∧ g2 (g1 b.val) % 16 ≤ 4 ∧ g3 (g2 (g1 b.val)) = cn b.val.testBit 8 := by decide +kernel
theorem f1_bt {b x m : Nat} (hb : b < 256) : f1 (bt 85 m) (bt b x) = bt (g1 b) (f1 m x) := by
  unfold f1
  obtain ⟨e1, e2⟩ := g1_0 ⟨b, hb⟩ ⟨x % 2, Nat.mod_lt _ (by decide)⟩
  dsimp only at e1 e2
  have e3 : bt b x / 2 = bt (b / 2 + 128 * (x % 2)) (x / 2) := by unfold bt; omega
  rw [e3, bt_and (by omega) (by decide), e1]
  have e4 : x / 2 &&& m ≤ x := Nat.le_trans Nat.and_le_left (Nat.div_le_self _ _)
  unfold bt g1
  omega
theorem f2_bt {b x m : Nat} (hb : b < 256) : f2_ (bt 51 m) (bt b x) = bt (g2 b) (f2_ m x) := by
  unfold f2_
  have e1 := g2_0 ⟨b, hb⟩ ⟨x % 4, Nat.mod_lt _ (by decide)⟩
  dsimp only at e1
  have e3 : bt b x / 4 = bt (b / 4 + 64 * (x % 4)) (x / 4) := by unfold bt; omega
  rw [e3, bt_and hb (by decide), bt_and (show b / 4 + 64 * (x % 4) < 256 by omega) (by decide), e1]
  unfold bt g2
  omega
theorem f3_bt {b x m : Nat} (hb : b ≤ 68) (hx : x % 16 ≤ 4) : f3 (bt 15 m) (bt b x) = bt (g3 b) (f3 m x) := by
  unfold f3
  have e3 : bt b x + bt b x / 16 = bt (b + b / 16 + 16 * (x % 16)) (x + x / 16) := by unfold bt; omega
  rw [e3, bt_and (by omega) (by decide)]
  unfold g3
  congr 1
  rw [show (15 : Nat) = 2 ^ 4 - 1 from rfl, Nat.and_two_pow_sub_one_eq_mod, Nat.and_two_pow_sub_one_eq_mod]
  omega
theorem bt_split (x : Nat) : x = bt (x % 256) (x / 256) := by unfold bt; omega
