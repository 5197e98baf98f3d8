/-! counting the bits of a long and of an int, as the library does -/
section ZL2
variable {a b k n : Nat}
theorem L_add : lN a + lN b = lN (a + b) := (Int64.ofNat_add a b).symm
theorem L_sub (h : b ≤ a) : lN a - lN b = lN (a - b) := by
  have e : lN a = lN (a - b) + lN b := by rw [L_add]; congr 1; omega
  rw [e, Int64.add_sub_cancel]
theorem lN_bv (a : Nat) : (lN a).toBitVec = BitVec.ofNat 64 a := rfl
theorem L_and : lN a &&& lN b = lN (a &&& b) := by
  apply Int64.toBitVec_inj.mp
  rw [Int64.toBitVec_and, lN_bv, lN_bv, lN_bv]
  apply BitVec.eq_of_toNat_eq
  rw [BitVec.toNat_and, BitVec.toNat_ofNat, BitVec.toNat_ofNat, BitVec.toNat_ofNat, Nat.and_mod_two_pow]
theorem L_ushr (ha : a < 2 ^ 64) (hk : k < 64) : lUshr (lN a) (nI k) = lN (a / 2 ^ k) := by
  have h1 : a / 2 ^ k < 2 ^ 64 := Nat.lt_of_le_of_lt (Nat.div_le_self _ _) ha
  apply lb_ext
  intro i hi
  rw [lb_ushr hk, lb_N ha, lb_N h1, ← Nat.shiftRight_eq_div_pow, Nat.testBit_shiftRight]
theorem I_ushr (ha : a < 2 ^ 31) (hk : k < 32) : iUshr (nI a) (nI k) = nI (a / 2 ^ k) := by
  have key : ∀ k : Fin 32, ((nI k.val).toUInt32 &&& Int32.toUInt32 31).toBitVec % 32 = BitVec.ofNat 32 k.val := by decide +kernel
  have e := key ⟨k, hk⟩
  dsimp only at e
  apply Int32.toBitVec_inj.1
  show ((nI a).toUInt32 >>> ((nI k).toUInt32 &&& Int32.toUInt32 31)).toBitVec = BitVec.ofNat 32 (a / 2 ^ k)
  rw [UInt32.toBitVec_shiftRight, e]
  show BitVec.ofNat 32 a >>> BitVec.ofNat 32 k = _
  apply BitVec.eq_of_toNat_eq
  have h1 : a / 2 ^ k < 2 ^ 31 := Nat.lt_of_le_of_lt (Nat.div_le_self _ _) ha
  rw [BitVec.ushiftRight_eq', BitVec.toNat_ushiftRight, BitVec.toNat_ofNat, BitVec.toNat_ofNat, BitVec.toNat_ofNat, Nat.mod_eq_of_lt (by omega), Nat.mod_eq_of_lt (show k < 2 ^ 32 by omega), Nat.mod_eq_of_lt (by omega), Nat.shiftRight_eq_div_pow]
theorem bt_ex {m : Nat} (h : n < 256 * m) : ∃ b x : Nat, b < 256 ∧ x < m ∧ n = bt b x := ⟨n % 256, n / 256, Nat.mod_lt _ (by decide), by omega, bt_split n⟩
theorem bt_16 {c y : Nat} : bt c y % 16 = c % 16 := by unfold bt; omega
theorem bt_lt {b x m : Nat} (hb : b < 256) (hx : x < m) : bt b x < 256 * m := by unfold bt; omega
end ZL2
def c1_ (v : Int64) : Int64 := v - (lUshr v (nI 1) &&& 6148914691236517205)
def c2_ (v : Int64) : Int64 := (v &&& 3689348814741910323) + (lUshr v (nI 2) &&& 3689348814741910323)
def c3_ (v : Int64) : Int64 := (v + lUshr v (nI 4)) &&& 1085102592571150095
def c4_ (v : Int64) : Int64 := v + lUshr v (nI 8)
def c5_ (v : Int64) : Int64 := v + lUshr v (nI 16)
def c6_ (v : Int64) : Int64 := v + lUshr v (nI 32)
def bcL (v : Int64) : Int32 := (c6_ (c5_ (c4_ (c3_ (c2_ (c1_ v)))))).toInt32 &&& nI 127
section ZL3
variable {g : Nat → Nat} {h : zMem} {n : Nat} {v : Int64}
theorem q_Long_bc0 : call g Long_bitCount [.long v] h = some (some (.int (bcL v)), h) := by
  rw [n_Long_bitCount]
  simp only [s_Long_bitCount_0, s_Long_bitCount_1, s_Long_bitCount_2, s_Long_bitCount_3, s_Long_bitCount_4, s_Long_bitCount_7, s_Long_bitCount_8, s_Long_bitCount_9, s_Long_bitCount_10, s_Long_bitCount_11, s_Long_bitCount_14, s_Long_bitCount_15, s_Long_bitCount_16, s_Long_bitCount_17, s_Long_bitCount_18, s_Long_bitCount_21, s_Long_bitCount_22, s_Long_bitCount_23, s_Long_bitCount_24, s_Long_bitCount_25, s_Long_bitCount_26, s_Long_bitCount_27, s_Long_bitCount_28, s_Long_bitCount_29, s_Long_bitCount_32, s_Long_bitCount_33, s_Long_bitCount_34, s_Long_bitCount_35, s_Long_bitCount_36, s_Long_bitCount_38, s_Long_bitCount_39, s_Long_bitCount_40, s_Long_bitCount_41, s_Long_bitCount_42, s_Long_bitCount_43, s_Long_bitCount_45, s_Long_bitCount_46, s_Long_bitCount_47, s_Long_bitCount_48, s_Long_bitCount_49, s_Long_bitCount_50, s_Long_bitCount_52, s_Long_bitCount_53, s_Long_bitCount_54, s_Long_bitCount_55, s_Long_bitCount_56, s_Long_bitCount_57, s_Long_bitCount_59, s_Long_bitCount_60, y_kd_sI, y_kd_sL, y_kd_sR, y_kd_cpI, y_kd_cpL, y_ln_sI, y_ln_sL, y_ln_sR, y_ln_cpI, y_ln_cpL, y_sz_sI, y_sz_sL, y_sz_sR, y_sz_cpI, y_sz_cpL, y_sl_sI, y_sl_sL, y_sl_sR, y_sl_cpI, y_sl_cpL, y_gI_sI, y_gI_sL, y_gI_sR, y_gI_cpI, y_gI_cpL, y_gI_nw, y_gL_sI, y_gL_sL, y_gL_sR, y_gL_cpI, y_gL_cpL, y_gL_nw, y_gR_sI, y_gR_sL, y_gR_sR, y_gR_cpI, y_gR_cpL, y_gR_nw, y_kd_nw, y_ln_nw, y_sz_nw, y_sl_nw, y_fx_int, y_fx_long, y_fx_ref, y_fx_null, y_fx_U, y_rf_s, y_rf_n]
  rfl
theorem L_c1 (hn : n < 2 ^ 64) : c1_ (lN n) = lN (f1 6148914691236517205 n) := by
  unfold c1_ f1
  rw [L_ushr hn (by decide), show (6148914691236517205 : Int64) = lN 6148914691236517205 by rfl, L_and, L_sub (Nat.le_trans Nat.and_le_left (Nat.div_le_self _ _))]
theorem L_c2 (hn : n < 2 ^ 64) : c2_ (lN n) = lN (f2_ 3689348814741910323 n) := by
  unfold c2_ f2_
  rw [L_ushr hn (by decide), show (3689348814741910323 : Int64) = lN 3689348814741910323 by rfl, L_and, L_and, L_add]
theorem L_c3 (hn : n < 2 ^ 64) : c3_ (lN n) = lN (f3 1085102592571150095 n) := by
  unfold c3_ f3
  rw [L_ushr hn (by decide), show (1085102592571150095 : Int64) = lN 1085102592571150095 by rfl, L_add, L_and]
theorem I_b1 (hn : n < 2 ^ 31) : b1 (nI n) = nI (f1 1431655765 n) := by
  unfold b1 f1
  rw [I_ushr hn (by decide), show (1431655765 : Int32) = nI 1431655765 by rfl, y_and, y_sub (Nat.le_trans Nat.and_le_left (Nat.div_le_self _ _))]
theorem I_b2 (hn : n < 2 ^ 31) : b2 (nI n) = nI (f2_ 858993459 n) := by
  unfold b2 f2_
  rw [I_ushr hn (by decide), show (858993459 : Int32) = nI 858993459 by rfl, y_and, y_and, nI_add]
theorem I_b3 (hn : n < 2 ^ 31) : b3 (nI n) = nI (f3 252645135 n) := by
  unfold b3 f3
  rw [I_ushr hn (by decide), show (252645135 : Int32) = nI 252645135 by rfl, nI_add, y_and]
theorem m55 : 6148914691236517205 = bt 85 (bt 85 (bt 85 (bt 85 (bt 85 (bt 85 (bt 85 (bt 85 0))))))) := by decide +kernel
theorem m33 : 3689348814741910323 = bt 51 (bt 51 (bt 51 (bt 51 (bt 51 (bt 51 (bt 51 (bt 51 0))))))) := by decide +kernel
theorem m0f : 1085102592571150095 = bt 15 (bt 15 (bt 15 (bt 15 (bt 15 (bt 15 (bt 15 (bt 15 0))))))) := by decide +kernel
theorem m55i : 1431655765 = bt 85 (bt 85 (bt 85 (bt 85 0))) := by decide +kernel
theorem m33i : 858993459 = bt 51 (bt 51 (bt 51 (bt 51 0))) := by decide +kernel
theorem m0fi : 252645135 = bt 15 (bt 15 (bt 15 (bt 15 0))) := by decide +kernel
theorem bt8_lt {a b c d e f k l : Nat} (ha : a < 256) (hb : b < 256) (hc : c < 256) (hd : d < 256) (he : e < 256) (hf : f < 256) (hk : k < 256) (hl : l < 256) : bt a (bt b (bt c (bt d (bt e (bt f (bt k (bt l 0))))))) < 2 ^ 64 := by
  unfold bt
  omega
theorem s_sum {a b c d e f k l : Nat} (ha : a ≤ 8) (hb : b ≤ 8) (hc : c ≤ 8) (hd : d ≤ 8) (he : e ≤ 8) (hf : f ≤ 8) (hk : k ≤ 8) (hl : l ≤ 8) : (c6_ (c5_ (c4_ (lN (bt a (bt b (bt c (bt d (bt e (bt f (bt k (bt l 0)))))))))))).toInt32 &&& nI 127 = nI (a + b + c + d + e + f + k + l) := by
  have e4 : c4_ (lN (bt a (bt b (bt c (bt d (bt e (bt f (bt k (bt l 0))))))))) = lN (bt (a + b) (bt (b + c) (bt (c + d) (bt (d + e) (bt (e + f) (bt (f + k) (bt (k + l) (bt l 0)))))))) := by
    unfold c4_
    rw [L_ushr (bt8_lt (by omega) (by omega) (by omega) (by omega) (by omega) (by omega) (by omega) (by omega)) (by decide), L_add]
    congr 1
    unfold bt
    omega
  have e5 : c5_ (lN (bt (a + b) (bt (b + c) (bt (c + d) (bt (d + e) (bt (e + f) (bt (f + k) (bt (k + l) (bt l 0))))))))) = lN (bt (a + b + (c + d)) (bt (b + c + (d + e)) (bt (c + d + (e + f)) (bt (d + e + (f + k)) (bt (e + f + (k + l)) (bt (f + k + l) (bt (k + l) (bt l 0)))))))) := by
    unfold c5_
    rw [L_ushr (bt8_lt (by omega) (by omega) (by omega) (by omega) (by omega) (by omega) (by omega) (by omega)) (by decide), L_add]
    congr 1
    unfold bt
    omega
  have e6 : c6_ (lN (bt (a + b + (c + d)) (bt (b + c + (d + e)) (bt (c + d + (e + f)) (bt (d + e + (f + k)) (bt (e + f + (k + l)) (bt (f + k + l) (bt (k + l) (bt l 0))))))))) = lN (bt (a + b + (c + d) + (e + f + (k + l))) (bt (b + c + (d + e) + (f + k + l)) (bt (c + d + (e + f) + (k + l)) (bt (d + e + (f + k) + l) (bt (e + f + (k + l)) (bt (f + k + l) (bt (k + l) (bt l 0)))))))) := by
    unfold c6_
    rw [L_ushr (bt8_lt (by omega) (by omega) (by omega) (by omega) (by omega) (by omega) (by omega) (by omega)) (by decide), L_add]
    congr 1
    unfold bt
    omega
  rw [e4, e5, e6]
  unfold lN
  rw [Int64.toInt32_ofNat']
  show nI _ &&& nI 127 = _
  rw [y_and, show (127 : Nat) = 2 ^ 7 - 1 from rfl, Nat.and_two_pow_sub_one_eq_mod]
  congr 1
  unfold bt
  omega
theorem bcL_n (hn : n < 2 ^ 64) : bcL (lN n) = nI (cn n.testBit 64) := by
  obtain ⟨b0, n1, h0, k1, rfl⟩ := bt_ex (n := n) (m := 256 * (256 * (256 * (256 * (256 * (256 * 256)))))) (by omega)
  obtain ⟨b1, n2, h1, k2, rfl⟩ := bt_ex (n := n1) (m := 256 * (256 * (256 * (256 * (256 * 256))))) (by omega)
  obtain ⟨b2, n3, h2, k3, rfl⟩ := bt_ex (n := n2) (m := 256 * (256 * (256 * (256 * 256)))) (by omega)
  obtain ⟨b3, n4, h3, k4, rfl⟩ := bt_ex (n := n3) (m := 256 * (256 * (256 * 256))) (by omega)
  obtain ⟨b4, n5, h4, k5, rfl⟩ := bt_ex (n := n4) (m := 256 * (256 * 256)) (by omega)
  obtain ⟨b5, n6, h5, k6, rfl⟩ := bt_ex (n := n5) (m := 256 * 256) (by omega)
  obtain ⟨b6, n7, h6, k7, rfl⟩ := bt_ex (n := n6) (m := 256) (by omega)
  obtain ⟨b7, n8, h7, k8, rfl⟩ := bt_ex (n := n7) (m := 1) (by omega)
  have e8 : n8 = 0 := by omega
  subst e8
  clear k1 k2 k3 k4 k5 k6 k7 k8
  obtain ⟨p0, q0, r0, s0⟩ := g_all ⟨b0, h0⟩
  obtain ⟨p1, q1, r1, s1⟩ := g_all ⟨b1, h1⟩
  obtain ⟨p2, q2, r2, s2⟩ := g_all ⟨b2, h2⟩
  obtain ⟨p3, q3, r3, s3⟩ := g_all ⟨b3, h3⟩
  obtain ⟨p4, q4, r4, s4⟩ := g_all ⟨b4, h4⟩
  obtain ⟨p5, q5, r5, s5⟩ := g_all ⟨b5, h5⟩
  obtain ⟨p6, q6, r6, s6⟩ := g_all ⟨b6, h6⟩
  obtain ⟨p7, q7, r7, s7⟩ := g_all ⟨b7, h7⟩
  dsimp only at p0 q0 r0 s0 p1 q1 r1 s1 p2 q2 r2 s2 p3 q3 r3 s3 p4 q4 r4 s4 p5 q5 r5 s5 p6 q6 r6 s6 p7 q7 r7 s7
  have z1 : f1 0 0 = 0 := rfl
  have z2 : f2_ 0 0 = 0 := rfl
  have z3 : f3 0 0 = 0 := rfl
  unfold bcL
  rw [L_c1 hn, m55, f1_bt h0, f1_bt h1, f1_bt h2, f1_bt h3, f1_bt h4, f1_bt h5, f1_bt h6, f1_bt h7, z1]
  rw [L_c2 (bt8_lt p0 p1 p2 p3 p4 p5 p6 p7), m33, f2_bt p0, f2_bt p1, f2_bt p2, f2_bt p3, f2_bt p4, f2_bt p5, f2_bt p6, f2_bt p7, z2]
  rw [L_c3 (bt8_lt (by omega) (by omega) (by omega) (by omega) (by omega) (by omega) (by omega) (by omega)), m0f, f3_bt q0 (by rw [bt_16]; exact r1), f3_bt q1 (by rw [bt_16]; exact r2), f3_bt q2 (by rw [bt_16]; exact r3), f3_bt q3 (by rw [bt_16]; exact r4), f3_bt q4 (by rw [bt_16]; exact r5), f3_bt q5 (by rw [bt_16]; exact r6), f3_bt q6 (by rw [bt_16]; exact r7), f3_bt q7 (by decide), z3]
  rw [s0, s1, s2, s3, s4, s5, s6, s7, s_sum (cn_le _ _) (cn_le _ _) (cn_le _ _) (cn_le _ _) (cn_le _ _) (cn_le _ _) (cn_le _ _) (cn_le _ _)]
  congr 1
  rw [show (64 : Nat) = 8 + 56 from rfl, cn_bt h0, show (56 : Nat) = 8 + 48 from rfl, cn_bt h1, show (48 : Nat) = 8 + 40 from rfl, cn_bt h2, show (40 : Nat) = 8 + 32 from rfl, cn_bt h3, show (32 : Nat) = 8 + 24 from rfl, cn_bt h4, show (24 : Nat) = 8 + 16 from rfl, cn_bt h5, show (16 : Nat) = 8 + 8 from rfl, cn_bt h6]
  have e7 : cn (bt b7 0).testBit 8 = cn b7.testBit 8 := by
    have := cn_bt (x := 0) h7 0
    exact this
  rw [e7]
  omega
theorem q_Long_bitCount : call g Long_bitCount [.long v] h = some (some (.int (nI (bc v))), h) := by
  obtain ⟨n, hn, rfl, hb⟩ := lN_nat v
  rw [q_Long_bc0, bcL_n hn]
  unfold bc
  rw [cn_c 64 (fun i _ => (hb i).symm)]
theorem s_sum4 {a b c d : Nat} (ha : a ≤ 8) (hb : b ≤ 8) (hc : c ≤ 8) (hd : d ≤ 8) : b5 (b4 (nI (bt a (bt b (bt c (bt d 0)))))) &&& nI 63 = nI (a + b + c + d) := by
  have e4 : b4 (nI (bt a (bt b (bt c (bt d 0))))) = nI (bt (a + b) (bt (b + c) (bt (c + d) (bt d 0)))) := by
    unfold b4
    rw [I_ushr (by unfold bt; omega) (by decide), nI_add]
    congr 1
    unfold bt
    omega
  have e5 : b5 (nI (bt (a + b) (bt (b + c) (bt (c + d) (bt d 0))))) = nI (bt (a + b + (c + d)) (bt (b + c + d) (bt (c + d) (bt d 0)))) := by
    unfold b5
    rw [I_ushr (by unfold bt; omega) (by decide), nI_add]
    congr 1
    unfold bt
    omega
  rw [e4, e5, y_and, show (63 : Nat) = 2 ^ 6 - 1 from rfl, Nat.and_two_pow_sub_one_eq_mod]
  congr 1
  unfold bt
  omega
theorem bcI_n (hn : n < 2 ^ 31) : bcI (nI n) = nI (cn n.testBit 32) := by
  obtain ⟨b0, n1, h0, k1, rfl⟩ := bt_ex (n := n) (m := 256 * (256 * 128)) (by omega)
  obtain ⟨b1, n2, h1, k2, rfl⟩ := bt_ex (n := n1) (m := 256 * 128) (by omega)
  obtain ⟨b2, n3, h2, k3, rfl⟩ := bt_ex (n := n2) (m := 128) (by omega)
  obtain ⟨b3, n4, h3, k4, rfl⟩ := bt_ex (n := n3) (m := 1) (by omega)
  have e8 : n4 = 0 := by omega
  subst e8
  have h3' : b3 < 128 := by unfold bt at k3; omega
  clear k1 k2 k3 k4
  obtain ⟨p0, q0, r0, s0⟩ := g_all ⟨b0, h0⟩
  obtain ⟨p1, q1, r1, s1⟩ := g_all ⟨b1, h1⟩
  obtain ⟨p2, q2, r2, s2⟩ := g_all ⟨b2, h2⟩
  obtain ⟨p3, q3, r3, s3⟩ := g_all ⟨b3, h3⟩
  dsimp only at p0 q0 r0 s0 p1 q1 r1 s1 p2 q2 r2 s2 p3 q3 r3 s3
  have z1 : f1 0 0 = 0 := rfl
  have z2 : f2_ 0 0 = 0 := rfl
  have z3 : f3 0 0 = 0 := rfl
  have p3' : g1 b3 < 128 := by unfold g1; omega
  unfold bcI
  rw [I_b1 hn, m55i, f1_bt h0, f1_bt h1, f1_bt h2, f1_bt h3, z1]
  rw [I_b2 (by unfold bt; omega), m33i, f2_bt p0, f2_bt p1, f2_bt p2, f2_bt p3, z2]
  rw [I_b3 (by unfold bt; omega), m0fi, f3_bt q0 (by rw [bt_16]; exact r1), f3_bt q1 (by rw [bt_16]; exact r2), f3_bt q2 (by rw [bt_16]; exact r3), f3_bt q3 (by decide), z3]
  rw [s0, s1, s2, s3, s_sum4 (cn_le _ _) (cn_le _ _) (cn_le _ _) (cn_le _ _)]
  congr 1
  rw [show (32 : Nat) = 8 + 24 from rfl, cn_bt h0, show (24 : Nat) = 8 + 16 from rfl, cn_bt h1, show (16 : Nat) = 8 + 8 from rfl, cn_bt h2]
  have e7 : cn (bt b3 0).testBit 8 = cn b3.testBit 8 := by
    have := cn_bt (x := 0) h3 0
    exact this
  rw [e7]
  omega
theorem q_Int_bitCount (hn : n < 2 ^ 31) : call g Integer_bitCount [.int (nI n)] h = some (some (.int (nI (cn n.testBit 32))), h) := by
  rw [q_bitCount, bcI_n hn]
/-- the reference counts -/
theorem q_Mo_count : call g Mo_count [.long v] h = some (some (.int (nI (bc v))), h) := by
  obtain ⟨e1, e2⟩ := l_fold (g := g) (M := Mo_count) (pc := 4) (st := []) (h := h) (n := 64) (fun i (x : Nat) => [.long v, zU, .int (nI x), .int (nI i)]) (fun i x => x = cn (lb v) i) (fun i x => x + (if lb v i = true then 1 else 0)) (fun i x hi hx => by
    have hlt : (i < 64) = True := eq_true hi
    refine ⟨?_, by rw [hx]; rfl⟩
    show ev g Mo_count 4 [.long v, zU, .int (nI x), .int (nI i)] [] h = ev g Mo_count 4 [.long v, zU, .int (nI (x + (if lb v i = true then 1 else 0))), .int (nI (i + 1))] [] h
    rw [s_Mo_count_4]
    by_cases z : lb v i = true
    · have zt : (lb v i = true) = True := eq_true z
      simp (disch := omega) only [s_Mo_count_0, s_Mo_count_1, s_Mo_count_2, s_Mo_count_3, s_Mo_count_5, s_Mo_count_7, s_Mo_count_10, s_Mo_count_11, s_Mo_count_12, s_Mo_count_13, s_Mo_count_14, s_Mo_count_15, s_Mo_count_16, s_Mo_count_17, s_Mo_count_18, s_Mo_count_21, s_Mo_count_22, s_Mo_count_25, s_Mo_count_26, s_Mo_count_27, s_Mo_count_28, s_Mo_count_31, s_Mo_count_34, s_Mo_count_35, y_kd_sI, y_kd_sL, y_kd_sR, y_kd_cpI, y_kd_cpL, y_ln_sI, y_ln_sL, y_ln_sR, y_ln_cpI, y_ln_cpL, y_sz_sI, y_sz_sL, y_sz_sR, y_sz_cpI, y_sz_cpL, y_sl_sI, y_sl_sL, y_sl_sR, y_sl_cpI, y_sl_cpL, y_gI_sL, y_gI_sR, y_gI_cpI, y_gI_cpL, y_gI_nw, y_gL_sI, y_gL_sR, y_gL_cpI, y_gL_cpL, y_gL_nw, y_gR_sI, y_gR_sL, y_gR_cpI, y_gR_cpL, y_gR_nw, y_kd_nw, y_ln_nw, y_sz_nw, y_sl_nw, y_fx_int, y_fx_long, y_fx_ref, y_fx_null, y_fx_U, y_rf_s, y_rf_n, a_inb, a_ix, a_lt, a_eq, a_eq0, a_lt0, a_0lt, a_m1, a_m2, a_mlt, a_sub, a_dec, a_div, a_rem, a_shl, a_shr, a_bit, a_bit0, a_II, a_Ia, a_Ik, a_LL, a_La, a_Lk, a_RR, a_Ra, a_Rk, a_if0, a_if1, y_mul, y_and, y_or, nI_add, y_b1, y_b0, kon_v, kon_0, true_or, or_true, and_self, true_and, and_true, false_or, or_false, and_false, false_and, not_true_eq_false, not_false_eq_true, ite_self, ↓reduceIte, Nat.reduceEqDiff, Nat.reduceLeDiff, Nat.reduceAdd, Nat.reduceMul, Nat.reduceSub, Nat.reduceLT, Nat.reduceShiftLeft, Nat.reduceOr, Nat.reduceAnd, Bool.false_eq_true, b_if, b_z1, b_z0, b_zz, b_a1, b_a0, b_lc, b_zF, b_zT, b_lbit, hlt, zt]
    · have zt : (lb v i = true) = False := eq_false z
      simp (disch := omega) only [s_Mo_count_0, s_Mo_count_1, s_Mo_count_2, s_Mo_count_3, s_Mo_count_5, s_Mo_count_7, s_Mo_count_10, s_Mo_count_11, s_Mo_count_12, s_Mo_count_13, s_Mo_count_14, s_Mo_count_15, s_Mo_count_16, s_Mo_count_17, s_Mo_count_18, s_Mo_count_21, s_Mo_count_22, s_Mo_count_25, s_Mo_count_26, s_Mo_count_27, s_Mo_count_28, s_Mo_count_31, s_Mo_count_34, s_Mo_count_35, y_kd_sI, y_kd_sL, y_kd_sR, y_kd_cpI, y_kd_cpL, y_ln_sI, y_ln_sL, y_ln_sR, y_ln_cpI, y_ln_cpL, y_sz_sI, y_sz_sL, y_sz_sR, y_sz_cpI, y_sz_cpL, y_sl_sI, y_sl_sL, y_sl_sR, y_sl_cpI, y_sl_cpL, y_gI_sL, y_gI_sR, y_gI_cpI, y_gI_cpL, y_gI_nw, y_gL_sI, y_gL_sR, y_gL_cpI, y_gL_cpL, y_gL_nw, y_gR_sI, y_gR_sL, y_gR_cpI, y_gR_cpL, y_gR_nw, y_kd_nw, y_ln_nw, y_sz_nw, y_sl_nw, y_fx_int, y_fx_long, y_fx_ref, y_fx_null, y_fx_U, y_rf_s, y_rf_n, a_inb, a_ix, a_lt, a_eq, a_eq0, a_lt0, a_0lt, a_m1, a_m2, a_mlt, a_sub, a_dec, a_div, a_rem, a_shl, a_shr, a_bit, a_bit0, a_II, a_Ia, a_Ik, a_LL, a_La, a_Lk, a_RR, a_Ra, a_Rk, a_if0, a_if1, y_mul, y_and, y_or, nI_add, y_b1, y_b0, kon_v, kon_0, true_or, or_true, and_self, true_and, and_true, false_or, or_false, and_false, false_and, not_true_eq_false, not_false_eq_true, ite_self, ↓reduceIte, Nat.reduceEqDiff, Nat.reduceLeDiff, Nat.reduceAdd, Nat.reduceMul, Nat.reduceSub, Nat.reduceLT, Nat.reduceShiftLeft, Nat.reduceOr, Nat.reduceAnd, Bool.false_eq_true, b_if, b_z1, b_z0, b_zz, b_a1, b_a0, b_lc, b_zF, b_zT, b_lbit, hlt, zt]) 64 0 0 (by omega) rfl
  rw [n_Mo_count, s_Mo_count_0, s_Mo_count_1, s_Mo_count_2, s_Mo_count_3]
  refine Eq.trans (show _ = ev g Mo_count 4 [.long v, zU, .int (nI 0), .int (nI 0)] [] h from rfl) (e1.trans ?_)
  simp (disch := omega) only [s_Mo_count_0, s_Mo_count_1, s_Mo_count_2, s_Mo_count_3, s_Mo_count_4, s_Mo_count_5, s_Mo_count_7, s_Mo_count_10, s_Mo_count_11, s_Mo_count_12, s_Mo_count_13, s_Mo_count_14, s_Mo_count_15, s_Mo_count_16, s_Mo_count_17, s_Mo_count_18, s_Mo_count_21, s_Mo_count_22, s_Mo_count_25, s_Mo_count_26, s_Mo_count_27, s_Mo_count_28, s_Mo_count_31, s_Mo_count_34, s_Mo_count_35, y_kd_sI, y_kd_sL, y_kd_sR, y_kd_cpI, y_kd_cpL, y_ln_sI, y_ln_sL, y_ln_sR, y_ln_cpI, y_ln_cpL, y_sz_sI, y_sz_sL, y_sz_sR, y_sz_cpI, y_sz_cpL, y_sl_sI, y_sl_sL, y_sl_sR, y_sl_cpI, y_sl_cpL, y_gI_sL, y_gI_sR, y_gI_cpI, y_gI_cpL, y_gI_nw, y_gL_sI, y_gL_sR, y_gL_cpI, y_gL_cpL, y_gL_nw, y_gR_sI, y_gR_sL, y_gR_cpI, y_gR_cpL, y_gR_nw, y_kd_nw, y_ln_nw, y_sz_nw, y_sl_nw, y_fx_int, y_fx_long, y_fx_ref, y_fx_null, y_fx_U, y_rf_s, y_rf_n, a_inb, a_ix, a_lt, a_eq, a_eq0, a_lt0, a_0lt, a_m1, a_m2, a_mlt, a_sub, a_dec, a_div, a_rem, a_shl, a_shr, a_bit, a_bit0, a_II, a_Ia, a_Ik, a_LL, a_La, a_Lk, a_RR, a_Ra, a_Rk, a_if0, a_if1, y_mul, y_and, y_or, nI_add, y_b1, y_b0, kon_v, kon_0, true_or, or_true, and_self, true_and, and_true, false_or, or_false, and_false, false_and, not_true_eq_false, not_false_eq_true, ite_self, ↓reduceIte, Nat.reduceEqDiff, Nat.reduceLeDiff, Nat.reduceAdd, Nat.reduceMul, Nat.reduceSub, Nat.reduceLT, Nat.reduceShiftLeft, Nat.reduceOr, Nat.reduceAnd, Bool.false_eq_true, b_if, b_z1, b_z0, b_zz, b_a1, b_a0, b_lc, b_zF, b_zT, b_lbit, Nat.lt_irrefl, e2]
  rfl
end ZL3
