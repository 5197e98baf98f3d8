/-! the constructors of the reference: what there is at the end -/
section ZMK
variable {g : Nat → Nat} {m : Nat} {h : zMem} {y : Int32}
theorem szm0 (o : okm m h) : sz (moM0 g m h) = sz h + 1 ∧ sl (moM0 g m h) = sl h + 8 := ⟨(alS_o (e := (0, 20, 8)) o.2).1, (alS_o (e := (0, 20, 8)) o.2).2.1⟩
theorem szm1 (o : okm m h) : sz (moM1 g m h) = sz h + 2 ∧ sl (moM1 g m h) = sl h + 16 := by
  have a : sz (moM1 g m h) = sz (moM0 g m h) + 1 := (alS_o (e := (1, 20, 8)) (okm0 (g := g) o).2).1
  have b : sl (moM1 g m h) = sl (moM0 g m h) + 8 := (alS_o (e := (1, 20, 8)) (okm0 (g := g) o).2).2.1
  obtain ⟨c, d⟩ := szm0 (g := g) o
  exact ⟨by omega, by omega⟩
theorem szm2 (o : okm m h) : sz (moM2 g m h) = sz h + 3 ∧ sl (moM2 g m h) = sl h + 24 := by
  have a : sz (moM2 g m h) = sz (moM1 g m h) + 1 := (alS_o (e := (2, 20, 8)) (okm1 (g := g) o).2).1
  have b : sl (moM2 g m h) = sl (moM1 g m h) + 8 := (alS_o (e := (2, 20, 8)) (okm1 (g := g) o).2).2.1
  obtain ⟨c, d⟩ := szm1 (g := g) o
  exact ⟨by omega, by omega⟩
theorem szm3 (o : okm m h) : sz (moM3 g m h) = sz h + 12 ∧ sl (moM3 g m h) = sl h + 544 := by
  have a := (alM_o (s := 3) (K := 28) (k := 21) (n := 8) (w := 64) (okm2 (g := g) o).2).1
  have b := (alM_o (s := 3) (K := 28) (k := 21) (n := 8) (w := 64) (okm2 (g := g) o).2).2.1
  obtain ⟨c, d⟩ := szm2 (g := g) o
  rw [c] at a
  rw [d] at b
  exact ⟨a.trans (by omega), b.trans (by omega)⟩
theorem szm4 (o : okm m h) : sz (moM4 g m h) = sz h + 13 ∧ sl (moM4 g m h) = sl h + 552 := by
  have a : sz (moM4 g m h) = sz (moM3 g m h) + 1 := (alS_o (e := (4, 20, 8)) (okm3 (g := g) o).2).1
  have b : sl (moM4 g m h) = sl (moM3 g m h) + 8 := (alS_o (e := (4, 20, 8)) (okm3 (g := g) o).2).2.1
  obtain ⟨c, d⟩ := szm3 (g := g) o
  exact ⟨by omega, by omega⟩
theorem szm5 (o : okm m h) : sz (moM5 g m h) = sz h + 14 ∧ sl (moM5 g m h) = sl h + 616 := by
  have a : sz (moM5 g m h) = sz (moM4 g m h) + 1 := (alS_o (e := (5, 21, 64)) (okm4 (g := g) o).2).1
  have b : sl (moM5 g m h) = sl (moM4 g m h) + 64 := (alS_o (e := (5, 21, 64)) (okm4 (g := g) o).2).2.1
  obtain ⟨c, d⟩ := szm4 (g := g) o
  exact ⟨by omega, by omega⟩
theorem szm6 (o : okm m h) : sz (moM6 g m h) = sz h + 15 ∧ sl (moM6 g m h) = sl h + 696 := by
  have a : sz (moM6 g m h) = sz (moM5 g m h) + 1 := (alS_o (e := (6, 20, 80)) (okm5 (g := g) o).2).1
  have b : sl (moM6 g m h) = sl (moM5 g m h) + 80 := (alS_o (e := (6, 20, 80)) (okm5 (g := g) o).2).2.1
  obtain ⟨c, d⟩ := szm5 (g := g) o
  exact ⟨by omega, by omega⟩
theorem szm7 (o : okm m h) : sz (moM7 g m h) = sz h + 16 ∧ sl (moM7 g m h) = sl h + 704 := by
  have a : sz (moM7 g m h) = sz (moM6 g m h) + 1 := (alS_o (e := (8, 20, 8)) (okm6 (g := g) o).2).1
  have b : sl (moM7 g m h) = sl (moM6 g m h) + 8 := (alS_o (e := (8, 20, 8)) (okm6 (g := g) o).2).2.1
  obtain ⟨c, d⟩ := szm6 (g := g) o
  exact ⟨by omega, by omega⟩
theorem szm8 (o : okm m h) : sz (moM8 g m h) = sz h + 17 ∧ sl (moM8 g m h) = sl h + 714 := by
  have a : sz (moM8 g m h) = sz (moM7 g m h) + 1 := (alS_o (e := (10, 20, 10)) (okm7 (g := g) o).2).1
  have b : sl (moM8 g m h) = sl (moM7 g m h) + 10 := (alS_o (e := (10, 20, 10)) (okm7 (g := g) o).2).2.1
  obtain ⟨c, d⟩ := szm7 (g := g) o
  exact ⟨by omega, by omega⟩
theorem szm9 (o : okm m h) : sz (moM9 g m h) = sz h + 18 ∧ sl (moM9 g m h) = sl h + 724 := by
  have a : sz (moM9 g m h) = sz (moM8 g m h) + 1 := (alS_o (e := (11, 20, 10)) (okm8 (g := g) o).2).1
  have b : sl (moM9 g m h) = sl (moM8 g m h) + 10 := (alS_o (e := (11, 20, 10)) (okm8 (g := g) o).2).2.1
  obtain ⟨c, d⟩ := szm8 (g := g) o
  exact ⟨by omega, by omega⟩
theorem szm10 (o : okm m h) : sz (moM10 g m h) = sz h + 19 ∧ sl (moM10 g m h) = sl h + 734 := by
  have a : sz (moM10 g m h) = sz (moM9 g m h) + 1 := (alS_o (e := (12, 20, 10)) (okm9 (g := g) o).2).1
  have b : sl (moM10 g m h) = sl (moM9 g m h) + 10 := (alS_o (e := (12, 20, 10)) (okm9 (g := g) o).2).2.1
  obtain ⟨c, d⟩ := szm9 (g := g) o
  exact ⟨by omega, by omega⟩
theorem szm11 (o : okm m h) : sz (moM11 g m h) = sz h + 20 ∧ sl (moM11 g m h) = sl h + 744 := by
  have a : sz (moM11 g m h) = sz (moM10 g m h) + 1 := (alS_o (e := (13, 20, 10)) (okm10 (g := g) o).2).1
  have b : sl (moM11 g m h) = sl (moM10 g m h) + 10 := (alS_o (e := (13, 20, 10)) (okm10 (g := g) o).2).2.1
  obtain ⟨c, d⟩ := szm10 (g := g) o
  exact ⟨by omega, by omega⟩
theorem szm12 (o : okm m h) : sz (moM12 g m h) = sz h + 21 ∧ sl (moM12 g m h) = sl h + 754 := by
  have a : sz (moM12 g m h) = sz (moM11 g m h) + 1 := (alS_o (e := (14, 21, 10)) (okm11 (g := g) o).2).1
  have b : sl (moM12 g m h) = sl (moM11 g m h) + 10 := (alS_o (e := (14, 21, 10)) (okm11 (g := g) o).2).2.1
  obtain ⟨c, d⟩ := szm11 (g := g) o
  exact ⟨by omega, by omega⟩
theorem szm13 (o : okm m h) : sz (moM13 g m h) = sz h + 22 ∧ sl (moM13 g m h) = sl h + 778 := by
  have a : sz (moM13 g m h) = sz (moM12 g m h) + 1 := (alS_o (e := (16, 20, 24)) (okm12 (g := g) o).2).1
  have b : sl (moM13 g m h) = sl (moM12 g m h) + 24 := (alS_o (e := (16, 20, 24)) (okm12 (g := g) o).2).2.1
  obtain ⟨c, d⟩ := szm12 (g := g) o
  exact ⟨by omega, by omega⟩
theorem szm14 (o : okm m h) : sz (moM14 g m h) = sz h + 23 ∧ sl (moM14 g m h) = sl h + 802 := by
  have a : sz (moM14 g m h) = sz (moM13 g m h) + 1 := (alS_o (e := (17, 20, 24)) (okm13 (g := g) o).2).1
  have b : sl (moM14 g m h) = sl (moM13 g m h) + 24 := (alS_o (e := (17, 20, 24)) (okm13 (g := g) o).2).2.1
  obtain ⟨c, d⟩ := szm13 (g := g) o
  exact ⟨by omega, by omega⟩
theorem szm15 (o : okm m h) : sz (moM15 g m h) = sz h + 24 ∧ sl (moM15 g m h) = sl h + 826 := by
  have a : sz (moM15 g m h) = sz (moM14 g m h) + 1 := (alS_o (e := (18, 20, 24)) (okm14 (g := g) o).2).1
  have b : sl (moM15 g m h) = sl (moM14 g m h) + 24 := (alS_o (e := (18, 20, 24)) (okm14 (g := g) o).2).2.1
  obtain ⟨c, d⟩ := szm14 (g := g) o
  exact ⟨by omega, by omega⟩
theorem szm16 (o : okm m h) : sz (moM16 g m h) = sz h + 25 ∧ sl (moM16 g m h) = sl h + 850 := by
  have a : sz (moM16 g m h) = sz (moM15 g m h) + 1 := (alS_o (e := (19, 20, 24)) (okm15 (g := g) o).2).1
  have b : sl (moM16 g m h) = sl (moM15 g m h) + 24 := (alS_o (e := (19, 20, 24)) (okm15 (g := g) o).2).2.1
  obtain ⟨c, d⟩ := szm15 (g := g) o
  exact ⟨by omega, by omega⟩
theorem szm17 (o : okm m h) : sz (moM17 g m h) = sz h + 26 ∧ sl (moM17 g m h) = sl h + 874 := by
  have a : sz (moM17 g m h) = sz (moM16 g m h) + 1 := (alS_o (e := (20, 20, 24)) (okm16 (g := g) o).2).1
  have b : sl (moM17 g m h) = sl (moM16 g m h) + 24 := (alS_o (e := (20, 20, 24)) (okm16 (g := g) o).2).2.1
  obtain ⟨c, d⟩ := szm16 (g := g) o
  exact ⟨by omega, by omega⟩
theorem szm18 (o : okm m h) : sz (moM18 g m h) = sz h + 27 ∧ sl (moM18 g m h) = sl h + 898 := by
  have a : sz (moM18 g m h) = sz (moM17 g m h) + 1 := (alS_o (e := (21, 20, 24)) (okm17 (g := g) o).2).1
  have b : sl (moM18 g m h) = sl (moM17 g m h) + 24 := (alS_o (e := (21, 20, 24)) (okm17 (g := g) o).2).2.1
  obtain ⟨c, d⟩ := szm17 (g := g) o
  exact ⟨by omega, by omega⟩
theorem szm19 (o : okm m h) : sz (moM19 g m h) = sz h + 28 ∧ sl (moM19 g m h) = sl h + 922 := by
  have a : sz (moM19 g m h) = sz (moM18 g m h) + 1 := (alS_o (e := (22, 20, 24)) (okm18 (g := g) o).2).1
  have b : sl (moM19 g m h) = sl (moM18 g m h) + 24 := (alS_o (e := (22, 20, 24)) (okm18 (g := g) o).2).2.1
  obtain ⟨c, d⟩ := szm18 (g := g) o
  exact ⟨by omega, by omega⟩
theorem szm20 (o : okm m h) : sz (moM20 g m h) = sz h + 29 ∧ sl (moM20 g m h) = sl h + 946 := by
  have a : sz (moM20 g m h) = sz (moM19 g m h) + 1 := (alS_o (e := (23, 20, 24)) (okm19 (g := g) o).2).1
  have b : sl (moM20 g m h) = sl (moM19 g m h) + 24 := (alS_o (e := (23, 20, 24)) (okm19 (g := g) o).2).2.1
  obtain ⟨c, d⟩ := szm19 (g := g) o
  exact ⟨by omega, by omega⟩
theorem szm21 (o : okm m h) : sz (moM21 g m h) = sz h + 30 ∧ sl (moM21 g m h) = sl h + 970 := by
  have a : sz (moM21 g m h) = sz (moM20 g m h) + 1 := (alS_o (e := (24, 20, 24)) (okm20 (g := g) o).2).1
  have b : sl (moM21 g m h) = sl (moM20 g m h) + 24 := (alS_o (e := (24, 20, 24)) (okm20 (g := g) o).2).2.1
  obtain ⟨c, d⟩ := szm20 (g := g) o
  exact ⟨by omega, by omega⟩
theorem szm22 (o : okm m h) : sz (moM22 g m h) = sz h + 31 ∧ sl (moM22 g m h) = sl h + 974 := by
  have a := (alWd_o (okm21 (g := g) o).2).1
  have b := (alWd_o (okm21 (g := g) o).2).2.1
  obtain ⟨c, d⟩ := szm21 (g := g) o
  rw [c] at a
  rw [d] at b
  exact ⟨a.trans (by omega), b.trans (by omega)⟩
theorem szm23 (o : okm m h) : sz (moM23 g m h) = sz h + 32 ∧ sl (moM23 g m h) = sl h + 1038 := by
  have a : sz (moM23 g m h) = sz (moM22 g m h) + 1 := (alS_o (e := (26, 20, 64)) (okm22 (g := g) o).2).1
  have b : sl (moM23 g m h) = sl (moM22 g m h) + 64 := (alS_o (e := (26, 20, 64)) (okm22 (g := g) o).2).2.1
  obtain ⟨c, d⟩ := szm22 (g := g) o
  exact ⟨by omega, by omega⟩
theorem szm24 (o : okm m h) : sz (moM24 g m h) = sz h + 32 ∧ sl (moM24 g m h) = sl h + 1038 := szm23 o
theorem szm25 (o : okm m h) : sz (moM25 g m h) = sz h + 33 ∧ sl (moM25 g m h) = sl h + 1138 := by
  have a : sz (moM25 g m h) = sz (moM24 g m h) + 1 := (alS_o (e := (29, 20, 100)) (okm24 (g := g) o).2).1
  have b : sl (moM25 g m h) = sl (moM24 g m h) + 100 := (alS_o (e := (29, 20, 100)) (okm24 (g := g) o).2).2.1
  obtain ⟨c, d⟩ := szm24 (g := g) o
  exact ⟨by omega, by omega⟩
theorem szm26 (o : okm m h) : sz (moM26 g m h) = sz h + 34 ∧ sl (moM26 g m h) = sl h + 1238 := by
  have a : sz (moM26 g m h) = sz (moM25 g m h) + 1 := (alS_o (e := (30, 20, 100)) (okm25 (g := g) o).2).1
  have b : sl (moM26 g m h) = sl (moM25 g m h) + 100 := (alS_o (e := (30, 20, 100)) (okm25 (g := g) o).2).2.1
  obtain ⟨c, d⟩ := szm25 (g := g) o
  exact ⟨by omega, by omega⟩
theorem szm27 (o : okm m h) : sz (moM27 g m h) = sz h + 81 ∧ sl (moM27 g m h) = sl h + 5884 := by
  have a := (alM_o (s := 36) (K := 29) (k := 20) (n := 46) (w := 100) (okm26 (g := g) o).2).1
  have b := (alM_o (s := 36) (K := 29) (k := 20) (n := 46) (w := 100) (okm26 (g := g) o).2).2.1
  obtain ⟨c, d⟩ := szm26 (g := g) o
  rw [c] at a
  rw [d] at b
  exact ⟨a.trans (by omega), b.trans (by omega)⟩
theorem szm28 (o : okm m h) : sz (moM28 g m h) = sz h + 82 ∧ sl (moM28 g m h) = sl h + 5929 := by
  have a : sz (moM28 g m h) = sz (moM27 g m h) + 1 := (alS_o (e := (37, 20, 45)) (okm27 (g := g) o).2).1
  have b : sl (moM28 g m h) = sl (moM27 g m h) + 45 := (alS_o (e := (37, 20, 45)) (okm27 (g := g) o).2).2.1
  obtain ⟨c, d⟩ := szm27 (g := g) o
  exact ⟨by omega, by omega⟩
theorem szm29 (o : okm m h) : sz (moM29 g m h) = sz h + 83 ∧ sl (moM29 g m h) = sl h + 5937 := by
  have a := (alS8_o (g := g) (okm28 (g := g) o).2).1
  have b := (alS8_o (g := g) (okm28 (g := g) o).2).2.1
  obtain ⟨c, d⟩ := szm28 (g := g) o
  rw [c] at a
  rw [d] at b
  exact ⟨a.trans (by omega), b.trans (by omega)⟩
theorem szm30 (o : okm m h) : sz (moM30 g m h) = sz h + 84 ∧ sl (moM30 g m h) = sl h + 5940 := by
  have a := (alS3_o (g := g) (okm29 (g := g) o).2).1
  have b := (alS3_o (g := g) (okm29 (g := g) o).2).2.1
  obtain ⟨c, d⟩ := szm29 (g := g) o
  rw [c] at a
  rw [d] at b
  exact ⟨a.trans (by omega), b.trans (by omega)⟩
theorem szm31 (o : okm m h) : sz (moM31 g m h) = sz h + 85 ∧ sl (moM31 g m h) = sl h + 7988 := by
  have a : sz (moM31 g m h) = sz (moM30 g m h) + 1 := (alS_o (e := (51, 20, 2048)) (okm30 (g := g) o).2).1
  have b : sl (moM31 g m h) = sl (moM30 g m h) + 2048 := (alS_o (e := (51, 20, 2048)) (okm30 (g := g) o).2).2.1
  obtain ⟨c, d⟩ := szm30 (g := g) o
  exact ⟨by omega, by omega⟩
theorem szm32 (o : okm m h) : sz (moM32 g m h) = sz h + 86 ∧ sl (moM32 g m h) = sl h + 7996 := by
  have a : sz (moM32 g m h) = sz (moM31 g m h) + 1 := (alS_o (e := (56, 20, 8)) (okm31 (g := g) o).2).1
  have b : sl (moM32 g m h) = sl (moM31 g m h) + 8 := (alS_o (e := (56, 20, 8)) (okm31 (g := g) o).2).2.1
  obtain ⟨c, d⟩ := szm31 (g := g) o
  exact ⟨by omega, by omega⟩
theorem szm33 (o : okm m h) : sz (moM33 g m h) = sz h + 87 ∧ sl (moM33 g m h) = sl h + 8252 := by
  have a : sz (moM33 g m h) = sz (moM32 g m h) + 1 := (alS_o (e := (62, 20, 256)) (okm32 (g := g) o).2).1
  have b : sl (moM33 g m h) = sl (moM32 g m h) + 256 := (alS_o (e := (62, 20, 256)) (okm32 (g := g) o).2).2.1
  obtain ⟨c, d⟩ := szm32 (g := g) o
  exact ⟨by omega, by omega⟩
theorem szm34 (o : okm m h) : sz (moM34 g m h) = sz h + 88 ∧ sl (moM34 g m h) = sl h + 8300 := by
  have a : sz (moM34 g m h) = sz (moM33 g m h) + 1 := (alS_o (e := (63, 20, 48)) (okm33 (g := g) o).2).1
  have b : sl (moM34 g m h) = sl (moM33 g m h) + 48 := (alS_o (e := (63, 20, 48)) (okm33 (g := g) o).2).2.1
  obtain ⟨c, d⟩ := szm33 (g := g) o
  exact ⟨by omega, by omega⟩
theorem szm35 (o : okm m h) : sz (moM35 g m h) = sz h + 89 ∧ sl (moM35 g m h) = sl h + 8310 := by
  have a : sz (moM35 g m h) = sz (moM34 g m h) + 1 := (alS_o (e := (66, 20, 10)) (okm34 (g := g) o).2).1
  have b : sl (moM35 g m h) = sl (moM34 g m h) + 10 := (alS_o (e := (66, 20, 10)) (okm34 (g := g) o).2).2.1
  obtain ⟨c, d⟩ := szm34 (g := g) o
  exact ⟨by omega, by omega⟩
theorem fe35 : alO m (moM35 g m h) (moM35 g m h) (fun k => 67 ≤ k) := alO.rf
theorem fe34 (o : okm m h) : alO m (moM34 g m h) (moM35 g m h) (fun k => 66 ≤ k) := (alO.tr (alS_o (e := (66, 20, 10)) (okm34 (g := g) o).2).2.2.1 fe35 (by have a := (szm34 (g := g) o).1; have b := (szm35 (g := g) o).1; show sz (moM34 g m h) ≤ sz (moM35 g m h); omega)).mono (fun k c => Or.elim c (fun d => by have d : k = 66 := d; show 66 ≤ k; omega) (fun d => by have d : 67 ≤ k := d; show 66 ≤ k; omega))
theorem fe33 (o : okm m h) : alO m (moM33 g m h) (moM35 g m h) (fun k => 63 ≤ k) := (alO.tr (alS_o (e := (63, 20, 48)) (okm33 (g := g) o).2).2.2.1 (fe34 (g := g) o) (by have a := (szm33 (g := g) o).1; have b := (szm34 (g := g) o).1; show sz (moM33 g m h) ≤ sz (moM34 g m h); omega)).mono (fun k c => Or.elim c (fun d => by have d : k = 63 := d; show 63 ≤ k; omega) (fun d => by have d : 66 ≤ k := d; show 63 ≤ k; omega))
theorem fe32 (o : okm m h) : alO m (moM32 g m h) (moM35 g m h) (fun k => 62 ≤ k) := (alO.tr (alS_o (e := (62, 20, 256)) (okm32 (g := g) o).2).2.2.1 (fe33 (g := g) o) (by have a := (szm32 (g := g) o).1; have b := (szm33 (g := g) o).1; show sz (moM32 g m h) ≤ sz (moM33 g m h); omega)).mono (fun k c => Or.elim c (fun d => by have d : k = 62 := d; show 62 ≤ k; omega) (fun d => by have d : 63 ≤ k := d; show 62 ≤ k; omega))
theorem fe31 (o : okm m h) : alO m (moM31 g m h) (moM35 g m h) (fun k => 56 ≤ k) := (alO.tr (alS_o (e := (56, 20, 8)) (okm31 (g := g) o).2).2.2.1 (fe32 (g := g) o) (by have a := (szm31 (g := g) o).1; have b := (szm32 (g := g) o).1; show sz (moM31 g m h) ≤ sz (moM32 g m h); omega)).mono (fun k c => Or.elim c (fun d => by have d : k = 56 := d; show 56 ≤ k; omega) (fun d => by have d : 62 ≤ k := d; show 56 ≤ k; omega))
theorem fe30 (o : okm m h) : alO m (moM30 g m h) (moM35 g m h) (fun k => 51 ≤ k) := (alO.tr (alS_o (e := (51, 20, 2048)) (okm30 (g := g) o).2).2.2.1 (fe31 (g := g) o) (by have a := (szm30 (g := g) o).1; have b := (szm31 (g := g) o).1; show sz (moM30 g m h) ≤ sz (moM31 g m h); omega)).mono (fun k c => Or.elim c (fun d => by have d : k = 51 := d; show 51 ≤ k; omega) (fun d => by have d : 56 ≤ k := d; show 51 ≤ k; omega))
theorem fe29 (o : okm m h) : alO m (moM29 g m h) (moM35 g m h) (fun k => 50 ≤ k) := (alO.tr (alS3_o (g := g) (okm29 (g := g) o).2).2.2.1 (fe30 (g := g) o) (by have a := (szm29 (g := g) o).1; have b := (szm30 (g := g) o).1; show sz (moM29 g m h) ≤ sz (moM30 g m h); omega)).mono (fun k c => Or.elim c (fun d => by have d : k = 50 := d; show 50 ≤ k; omega) (fun d => by have d : 51 ≤ k := d; show 50 ≤ k; omega))
theorem fe28 (o : okm m h) : alO m (moM28 g m h) (moM35 g m h) (fun k => 49 ≤ k) := (alO.tr (alS8_o (g := g) (okm28 (g := g) o).2).2.2.1 (fe29 (g := g) o) (by have a := (szm28 (g := g) o).1; have b := (szm29 (g := g) o).1; show sz (moM28 g m h) ≤ sz (moM29 g m h); omega)).mono (fun k c => Or.elim c (fun d => by have d : k = 49 := d; show 49 ≤ k; omega) (fun d => by have d : 50 ≤ k := d; show 49 ≤ k; omega))
theorem fe27 (o : okm m h) : alO m (moM27 g m h) (moM35 g m h) (fun k => 37 ≤ k) := (alO.tr (alS_o (e := (37, 20, 45)) (okm27 (g := g) o).2).2.2.1 (fe28 (g := g) o) (by have a := (szm27 (g := g) o).1; have b := (szm28 (g := g) o).1; show sz (moM27 g m h) ≤ sz (moM28 g m h); omega)).mono (fun k c => Or.elim c (fun d => by have d : k = 37 := d; show 37 ≤ k; omega) (fun d => by have d : 49 ≤ k := d; show 37 ≤ k; omega))
theorem fe26 (o : okm m h) : alO m (moM26 g m h) (moM35 g m h) (fun k => 36 ≤ k) := (alO.tr (alM_o (s := 36) (K := 29) (k := 20) (n := 46) (w := 100) (okm26 (g := g) o).2).2.2.1 (fe27 (g := g) o) (by have a := (szm26 (g := g) o).1; have b := (szm27 (g := g) o).1; show sz (moM26 g m h) ≤ sz (moM27 g m h); omega)).mono (fun k c => Or.elim c (fun d => by have d : k = 36 := d; show 36 ≤ k; omega) (fun d => by have d : 37 ≤ k := d; show 36 ≤ k; omega))
theorem fe25 (o : okm m h) : alO m (moM25 g m h) (moM35 g m h) (fun k => 30 ≤ k) := (alO.tr (alS_o (e := (30, 20, 100)) (okm25 (g := g) o).2).2.2.1 (fe26 (g := g) o) (by have a := (szm25 (g := g) o).1; have b := (szm26 (g := g) o).1; show sz (moM25 g m h) ≤ sz (moM26 g m h); omega)).mono (fun k c => Or.elim c (fun d => by have d : k = 30 := d; show 30 ≤ k; omega) (fun d => by have d : 36 ≤ k := d; show 30 ≤ k; omega))
theorem fe24 (o : okm m h) : alO m (moM24 g m h) (moM35 g m h) (fun k => 29 ≤ k) := (alO.tr (alS_o (e := (29, 20, 100)) (okm24 (g := g) o).2).2.2.1 (fe25 (g := g) o) (by have a := (szm24 (g := g) o).1; have b := (szm25 (g := g) o).1; show sz (moM24 g m h) ≤ sz (moM25 g m h); omega)).mono (fun k c => Or.elim c (fun d => by have d : k = 29 := d; show 29 ≤ k; omega) (fun d => by have d : 30 ≤ k := d; show 29 ≤ k; omega))
theorem fe23 (o : okm m h) : alO m (moM23 g m h) (moM35 g m h) (fun k => 27 ≤ k) := (alO.tr (alI_o (ks := fun k => k = 27) (v := nI 1)) (fe24 (g := g) o) (Nat.le_refl _)).mono (fun k c => Or.elim c (fun d => by have d : k = 27 := d; show 27 ≤ k; omega) (fun d => by have d : 29 ≤ k := d; show 27 ≤ k; omega))
theorem fe22 (o : okm m h) : alO m (moM22 g m h) (moM35 g m h) (fun k => 26 ≤ k) := (alO.tr (alS_o (e := (26, 20, 64)) (okm22 (g := g) o).2).2.2.1 (fe23 (g := g) o) (by have a := (szm22 (g := g) o).1; have b := (szm23 (g := g) o).1; show sz (moM22 g m h) ≤ sz (moM23 g m h); omega)).mono (fun k c => Or.elim c (fun d => by have d : k = 26 := d; show 26 ≤ k; omega) (fun d => by have d : 27 ≤ k := d; show 26 ≤ k; omega))
theorem fe21 (o : okm m h) : alO m (moM21 g m h) (moM35 g m h) (fun k => 25 ≤ k) := (alO.tr (alWd_o (okm21 (g := g) o).2).2.2.1 (fe22 (g := g) o) (by have a := (szm21 (g := g) o).1; have b := (szm22 (g := g) o).1; show sz (moM21 g m h) ≤ sz (moM22 g m h); omega)).mono (fun k c => Or.elim c (fun d => by have d : k = 25 := d; show 25 ≤ k; omega) (fun d => by have d : 26 ≤ k := d; show 25 ≤ k; omega))
theorem fe20 (o : okm m h) : alO m (moM20 g m h) (moM35 g m h) (fun k => 24 ≤ k) := (alO.tr (alS_o (e := (24, 20, 24)) (okm20 (g := g) o).2).2.2.1 (fe21 (g := g) o) (by have a := (szm20 (g := g) o).1; have b := (szm21 (g := g) o).1; show sz (moM20 g m h) ≤ sz (moM21 g m h); omega)).mono (fun k c => Or.elim c (fun d => by have d : k = 24 := d; show 24 ≤ k; omega) (fun d => by have d : 25 ≤ k := d; show 24 ≤ k; omega))
theorem fe19 (o : okm m h) : alO m (moM19 g m h) (moM35 g m h) (fun k => 23 ≤ k) := (alO.tr (alS_o (e := (23, 20, 24)) (okm19 (g := g) o).2).2.2.1 (fe20 (g := g) o) (by have a := (szm19 (g := g) o).1; have b := (szm20 (g := g) o).1; show sz (moM19 g m h) ≤ sz (moM20 g m h); omega)).mono (fun k c => Or.elim c (fun d => by have d : k = 23 := d; show 23 ≤ k; omega) (fun d => by have d : 24 ≤ k := d; show 23 ≤ k; omega))
theorem fe18 (o : okm m h) : alO m (moM18 g m h) (moM35 g m h) (fun k => 22 ≤ k) := (alO.tr (alS_o (e := (22, 20, 24)) (okm18 (g := g) o).2).2.2.1 (fe19 (g := g) o) (by have a := (szm18 (g := g) o).1; have b := (szm19 (g := g) o).1; show sz (moM18 g m h) ≤ sz (moM19 g m h); omega)).mono (fun k c => Or.elim c (fun d => by have d : k = 22 := d; show 22 ≤ k; omega) (fun d => by have d : 23 ≤ k := d; show 22 ≤ k; omega))
theorem fe17 (o : okm m h) : alO m (moM17 g m h) (moM35 g m h) (fun k => 21 ≤ k) := (alO.tr (alS_o (e := (21, 20, 24)) (okm17 (g := g) o).2).2.2.1 (fe18 (g := g) o) (by have a := (szm17 (g := g) o).1; have b := (szm18 (g := g) o).1; show sz (moM17 g m h) ≤ sz (moM18 g m h); omega)).mono (fun k c => Or.elim c (fun d => by have d : k = 21 := d; show 21 ≤ k; omega) (fun d => by have d : 22 ≤ k := d; show 21 ≤ k; omega))
theorem fe16 (o : okm m h) : alO m (moM16 g m h) (moM35 g m h) (fun k => 20 ≤ k) := (alO.tr (alS_o (e := (20, 20, 24)) (okm16 (g := g) o).2).2.2.1 (fe17 (g := g) o) (by have a := (szm16 (g := g) o).1; have b := (szm17 (g := g) o).1; show sz (moM16 g m h) ≤ sz (moM17 g m h); omega)).mono (fun k c => Or.elim c (fun d => by have d : k = 20 := d; show 20 ≤ k; omega) (fun d => by have d : 21 ≤ k := d; show 20 ≤ k; omega))
theorem fe15 (o : okm m h) : alO m (moM15 g m h) (moM35 g m h) (fun k => 19 ≤ k) := (alO.tr (alS_o (e := (19, 20, 24)) (okm15 (g := g) o).2).2.2.1 (fe16 (g := g) o) (by have a := (szm15 (g := g) o).1; have b := (szm16 (g := g) o).1; show sz (moM15 g m h) ≤ sz (moM16 g m h); omega)).mono (fun k c => Or.elim c (fun d => by have d : k = 19 := d; show 19 ≤ k; omega) (fun d => by have d : 20 ≤ k := d; show 19 ≤ k; omega))
theorem fe14 (o : okm m h) : alO m (moM14 g m h) (moM35 g m h) (fun k => 18 ≤ k) := (alO.tr (alS_o (e := (18, 20, 24)) (okm14 (g := g) o).2).2.2.1 (fe15 (g := g) o) (by have a := (szm14 (g := g) o).1; have b := (szm15 (g := g) o).1; show sz (moM14 g m h) ≤ sz (moM15 g m h); omega)).mono (fun k c => Or.elim c (fun d => by have d : k = 18 := d; show 18 ≤ k; omega) (fun d => by have d : 19 ≤ k := d; show 18 ≤ k; omega))
theorem fe13 (o : okm m h) : alO m (moM13 g m h) (moM35 g m h) (fun k => 17 ≤ k) := (alO.tr (alS_o (e := (17, 20, 24)) (okm13 (g := g) o).2).2.2.1 (fe14 (g := g) o) (by have a := (szm13 (g := g) o).1; have b := (szm14 (g := g) o).1; show sz (moM13 g m h) ≤ sz (moM14 g m h); omega)).mono (fun k c => Or.elim c (fun d => by have d : k = 17 := d; show 17 ≤ k; omega) (fun d => by have d : 18 ≤ k := d; show 17 ≤ k; omega))
theorem fe12 (o : okm m h) : alO m (moM12 g m h) (moM35 g m h) (fun k => 16 ≤ k) := (alO.tr (alS_o (e := (16, 20, 24)) (okm12 (g := g) o).2).2.2.1 (fe13 (g := g) o) (by have a := (szm12 (g := g) o).1; have b := (szm13 (g := g) o).1; show sz (moM12 g m h) ≤ sz (moM13 g m h); omega)).mono (fun k c => Or.elim c (fun d => by have d : k = 16 := d; show 16 ≤ k; omega) (fun d => by have d : 17 ≤ k := d; show 16 ≤ k; omega))
theorem fe11 (o : okm m h) : alO m (moM11 g m h) (moM35 g m h) (fun k => 14 ≤ k) := (alO.tr (alS_o (e := (14, 21, 10)) (okm11 (g := g) o).2).2.2.1 (fe12 (g := g) o) (by have a := (szm11 (g := g) o).1; have b := (szm12 (g := g) o).1; show sz (moM11 g m h) ≤ sz (moM12 g m h); omega)).mono (fun k c => Or.elim c (fun d => by have d : k = 14 := d; show 14 ≤ k; omega) (fun d => by have d : 16 ≤ k := d; show 14 ≤ k; omega))
theorem fe10 (o : okm m h) : alO m (moM10 g m h) (moM35 g m h) (fun k => 13 ≤ k) := (alO.tr (alS_o (e := (13, 20, 10)) (okm10 (g := g) o).2).2.2.1 (fe11 (g := g) o) (by have a := (szm10 (g := g) o).1; have b := (szm11 (g := g) o).1; show sz (moM10 g m h) ≤ sz (moM11 g m h); omega)).mono (fun k c => Or.elim c (fun d => by have d : k = 13 := d; show 13 ≤ k; omega) (fun d => by have d : 14 ≤ k := d; show 13 ≤ k; omega))
theorem fe9 (o : okm m h) : alO m (moM9 g m h) (moM35 g m h) (fun k => 12 ≤ k) := (alO.tr (alS_o (e := (12, 20, 10)) (okm9 (g := g) o).2).2.2.1 (fe10 (g := g) o) (by have a := (szm9 (g := g) o).1; have b := (szm10 (g := g) o).1; show sz (moM9 g m h) ≤ sz (moM10 g m h); omega)).mono (fun k c => Or.elim c (fun d => by have d : k = 12 := d; show 12 ≤ k; omega) (fun d => by have d : 13 ≤ k := d; show 12 ≤ k; omega))
theorem fe8 (o : okm m h) : alO m (moM8 g m h) (moM35 g m h) (fun k => 11 ≤ k) := (alO.tr (alS_o (e := (11, 20, 10)) (okm8 (g := g) o).2).2.2.1 (fe9 (g := g) o) (by have a := (szm8 (g := g) o).1; have b := (szm9 (g := g) o).1; show sz (moM8 g m h) ≤ sz (moM9 g m h); omega)).mono (fun k c => Or.elim c (fun d => by have d : k = 11 := d; show 11 ≤ k; omega) (fun d => by have d : 12 ≤ k := d; show 11 ≤ k; omega))
theorem fe7 (o : okm m h) : alO m (moM7 g m h) (moM35 g m h) (fun k => 10 ≤ k) := (alO.tr (alS_o (e := (10, 20, 10)) (okm7 (g := g) o).2).2.2.1 (fe8 (g := g) o) (by have a := (szm7 (g := g) o).1; have b := (szm8 (g := g) o).1; show sz (moM7 g m h) ≤ sz (moM8 g m h); omega)).mono (fun k c => Or.elim c (fun d => by have d : k = 10 := d; show 10 ≤ k; omega) (fun d => by have d : 11 ≤ k := d; show 10 ≤ k; omega))
theorem fe6 (o : okm m h) : alO m (moM6 g m h) (moM35 g m h) (fun k => 8 ≤ k) := (alO.tr (alS_o (e := (8, 20, 8)) (okm6 (g := g) o).2).2.2.1 (fe7 (g := g) o) (by have a := (szm6 (g := g) o).1; have b := (szm7 (g := g) o).1; show sz (moM6 g m h) ≤ sz (moM7 g m h); omega)).mono (fun k c => Or.elim c (fun d => by have d : k = 8 := d; show 8 ≤ k; omega) (fun d => by have d : 10 ≤ k := d; show 8 ≤ k; omega))
theorem fe5 (o : okm m h) : alO m (moM5 g m h) (moM35 g m h) (fun k => 6 ≤ k) := (alO.tr (alS_o (e := (6, 20, 80)) (okm5 (g := g) o).2).2.2.1 (fe6 (g := g) o) (by have a := (szm5 (g := g) o).1; have b := (szm6 (g := g) o).1; show sz (moM5 g m h) ≤ sz (moM6 g m h); omega)).mono (fun k c => Or.elim c (fun d => by have d : k = 6 := d; show 6 ≤ k; omega) (fun d => by have d : 8 ≤ k := d; show 6 ≤ k; omega))
theorem fe4 (o : okm m h) : alO m (moM4 g m h) (moM35 g m h) (fun k => 5 ≤ k) := (alO.tr (alS_o (e := (5, 21, 64)) (okm4 (g := g) o).2).2.2.1 (fe5 (g := g) o) (by have a := (szm4 (g := g) o).1; have b := (szm5 (g := g) o).1; show sz (moM4 g m h) ≤ sz (moM5 g m h); omega)).mono (fun k c => Or.elim c (fun d => by have d : k = 5 := d; show 5 ≤ k; omega) (fun d => by have d : 6 ≤ k := d; show 5 ≤ k; omega))
theorem fe3 (o : okm m h) : alO m (moM3 g m h) (moM35 g m h) (fun k => 4 ≤ k) := (alO.tr (alS_o (e := (4, 20, 8)) (okm3 (g := g) o).2).2.2.1 (fe4 (g := g) o) (by have a := (szm3 (g := g) o).1; have b := (szm4 (g := g) o).1; show sz (moM3 g m h) ≤ sz (moM4 g m h); omega)).mono (fun k c => Or.elim c (fun d => by have d : k = 4 := d; show 4 ≤ k; omega) (fun d => by have d : 5 ≤ k := d; show 4 ≤ k; omega))
theorem fe2 (o : okm m h) : alO m (moM2 g m h) (moM35 g m h) (fun k => 3 ≤ k) := (alO.tr (alM_o (s := 3) (K := 28) (k := 21) (n := 8) (w := 64) (okm2 (g := g) o).2).2.2.1 (fe3 (g := g) o) (by have a := (szm2 (g := g) o).1; have b := (szm3 (g := g) o).1; show sz (moM2 g m h) ≤ sz (moM3 g m h); omega)).mono (fun k c => Or.elim c (fun d => by have d : k = 3 := d; show 3 ≤ k; omega) (fun d => by have d : 4 ≤ k := d; show 3 ≤ k; omega))
theorem fe1 (o : okm m h) : alO m (moM1 g m h) (moM35 g m h) (fun k => 2 ≤ k) := (alO.tr (alS_o (e := (2, 20, 8)) (okm1 (g := g) o).2).2.2.1 (fe2 (g := g) o) (by have a := (szm1 (g := g) o).1; have b := (szm2 (g := g) o).1; show sz (moM1 g m h) ≤ sz (moM2 g m h); omega)).mono (fun k c => Or.elim c (fun d => by have d : k = 2 := d; show 2 ≤ k; omega) (fun d => by have d : 3 ≤ k := d; show 2 ≤ k; omega))
theorem fe0 (o : okm m h) : alO m (moM0 g m h) (moM35 g m h) (fun k => 1 ≤ k) := (alO.tr (alS_o (e := (1, 20, 8)) (okm0 (g := g) o).2).2.2.1 (fe1 (g := g) o) (by have a := (szm0 (g := g) o).1; have b := (szm1 (g := g) o).1; show sz (moM0 g m h) ≤ sz (moM1 g m h); omega)).mono (fun k c => Or.elim c (fun d => by have d : k = 1 := d; show 1 ≤ k; omega) (fun d => by have d : 2 ≤ k := d; show 1 ≤ k; omega))
theorem feS (o : okm m h) : alO m h (moM35 g m h) (fun k => 0 ≤ k) := (alO.tr (alS_o (e := (0, 20, 8)) o.2).2.2.1 (fe0 (g := g) o) (by have b := (szm0 (g := g) o).1; show sz h ≤ sz (moM0 g m h); omega)).mono (fun k c => Or.elim c (fun d => by have d : k = 0 := d; show 0 ≤ k; omega) (fun d => by have d : 1 ≤ k := d; show 0 ≤ k; omega))
theorem fn0 (o : okm m h) (hz : sz h = m + 1) : alN (moM35 g m h) (m + 1) 20 8 ∧ gR (moM35 g m h) m 0 = some (m + 1) := by
  have e : sz h = m + 1 := hz
  have ez := (szm0 (g := g) o).1
  obtain ⟨-, -, -, a, b⟩ := (alS_o (e := (0, 20, 8)) o.2)
  rw [e] at a b
  exact ⟨a.fr (fe0 (g := g) o) (by show m + 1 < sz (moM0 g m h); omega) (by omega), ((fe0 (g := g) o).2.2.1 0 (by omega)).trans b⟩
theorem fn1 (o : okm m h) (hz : sz h = m + 1) : alN (moM35 g m h) (m + 2) 20 8 ∧ gR (moM35 g m h) m 1 = some (m + 2) := by
  have e : sz (moM0 g m h) = m + 2 := (szm0 (g := g) o).1.trans (by omega)
  have ez := (szm1 (g := g) o).1
  obtain ⟨-, -, -, a, b⟩ := (alS_o (e := (1, 20, 8)) (okm0 (g := g) o).2)
  rw [e] at a b
  exact ⟨a.fr (fe1 (g := g) o) (by show m + 2 < sz (moM1 g m h); omega) (by omega), ((fe1 (g := g) o).2.2.1 1 (by omega)).trans b⟩
theorem fn2 (o : okm m h) (hz : sz h = m + 1) : alN (moM35 g m h) (m + 3) 20 8 ∧ gR (moM35 g m h) m 2 = some (m + 3) := by
  have e : sz (moM1 g m h) = m + 3 := (szm1 (g := g) o).1.trans (by omega)
  have ez := (szm2 (g := g) o).1
  obtain ⟨-, -, -, a, b⟩ := (alS_o (e := (2, 20, 8)) (okm1 (g := g) o).2)
  rw [e] at a b
  exact ⟨a.fr (fe2 (g := g) o) (by show m + 3 < sz (moM2 g m h); omega) (by omega), ((fe2 (g := g) o).2.2.1 2 (by omega)).trans b⟩
theorem fn3 (o : okm m h) (hz : sz h = m + 1) : (kd (moM35 g m h) (m + 4) = 28 ∧ ln (moM35 g m h) (m + 4) = 8 ∧ ∀ j : Nat, j < 8 → gR (moM35 g m h) (m + 4) j = some (m + 5 + j)) ∧ (∀ j : Nat, j < 8 → alN (moM35 g m h) (m + 5 + j) 21 64) ∧ gR (moM35 g m h) m 3 = some (m + 4) := by
  have e : sz (moM2 g m h) = m + 4 := (szm2 (g := g) o).1.trans (by omega)
  have ez := (szm3 (g := g) o).1
  obtain ⟨-, -, -, ⟨a1, a2, a3⟩, b, c⟩ := (alM_o (s := 3) (K := 28) (k := 21) (n := 8) (w := 64) (okm2 (g := g) o).2)
  rw [e] at a1 a2 a3 b c
  have q : m + 4 < sz (moM3 g m h) := by omega
  refine ⟨⟨(((fe3 (g := g) o).1 _ q).1).trans a1, (((fe3 (g := g) o).1 _ q).2).trans a2, fun j hj => ((fe3 (g := g) o).2.1 _ j q (by omega)).trans (a3 j hj)⟩, fun j hj => (b j hj).fr (fe3 (g := g) o) (by show m + 4 + 1 + j < sz (moM3 g m h); omega) (by omega), ((fe3 (g := g) o).2.2.1 3 (by omega)).trans c⟩
theorem fn4 (o : okm m h) (hz : sz h = m + 1) : alN (moM35 g m h) (m + 13) 20 8 ∧ gR (moM35 g m h) m 4 = some (m + 13) := by
  have e : sz (moM3 g m h) = m + 13 := (szm3 (g := g) o).1.trans (by omega)
  have ez := (szm4 (g := g) o).1
  obtain ⟨-, -, -, a, b⟩ := (alS_o (e := (4, 20, 8)) (okm3 (g := g) o).2)
  rw [e] at a b
  exact ⟨a.fr (fe4 (g := g) o) (by show m + 13 < sz (moM4 g m h); omega) (by omega), ((fe4 (g := g) o).2.2.1 4 (by omega)).trans b⟩
theorem fn5 (o : okm m h) (hz : sz h = m + 1) : alN (moM35 g m h) (m + 14) 21 64 ∧ gR (moM35 g m h) m 5 = some (m + 14) := by
  have e : sz (moM4 g m h) = m + 14 := (szm4 (g := g) o).1.trans (by omega)
  have ez := (szm5 (g := g) o).1
  obtain ⟨-, -, -, a, b⟩ := (alS_o (e := (5, 21, 64)) (okm4 (g := g) o).2)
  rw [e] at a b
  exact ⟨a.fr (fe5 (g := g) o) (by show m + 14 < sz (moM5 g m h); omega) (by omega), ((fe5 (g := g) o).2.2.1 5 (by omega)).trans b⟩
theorem fn6 (o : okm m h) (hz : sz h = m + 1) : alN (moM35 g m h) (m + 15) 20 80 ∧ gR (moM35 g m h) m 6 = some (m + 15) := by
  have e : sz (moM5 g m h) = m + 15 := (szm5 (g := g) o).1.trans (by omega)
  have ez := (szm6 (g := g) o).1
  obtain ⟨-, -, -, a, b⟩ := (alS_o (e := (6, 20, 80)) (okm5 (g := g) o).2)
  rw [e] at a b
  exact ⟨a.fr (fe6 (g := g) o) (by show m + 15 < sz (moM6 g m h); omega) (by omega), ((fe6 (g := g) o).2.2.1 6 (by omega)).trans b⟩
theorem fn8 (o : okm m h) (hz : sz h = m + 1) : alN (moM35 g m h) (m + 16) 20 8 ∧ gR (moM35 g m h) m 8 = some (m + 16) := by
  have e : sz (moM6 g m h) = m + 16 := (szm6 (g := g) o).1.trans (by omega)
  have ez := (szm7 (g := g) o).1
  obtain ⟨-, -, -, a, b⟩ := (alS_o (e := (8, 20, 8)) (okm6 (g := g) o).2)
  rw [e] at a b
  exact ⟨a.fr (fe7 (g := g) o) (by show m + 16 < sz (moM7 g m h); omega) (by omega), ((fe7 (g := g) o).2.2.1 8 (by omega)).trans b⟩
theorem fn10 (o : okm m h) (hz : sz h = m + 1) : alN (moM35 g m h) (m + 17) 20 10 ∧ gR (moM35 g m h) m 10 = some (m + 17) := by
  have e : sz (moM7 g m h) = m + 17 := (szm7 (g := g) o).1.trans (by omega)
  have ez := (szm8 (g := g) o).1
  obtain ⟨-, -, -, a, b⟩ := (alS_o (e := (10, 20, 10)) (okm7 (g := g) o).2)
  rw [e] at a b
  exact ⟨a.fr (fe8 (g := g) o) (by show m + 17 < sz (moM8 g m h); omega) (by omega), ((fe8 (g := g) o).2.2.1 10 (by omega)).trans b⟩
theorem fn11 (o : okm m h) (hz : sz h = m + 1) : alN (moM35 g m h) (m + 18) 20 10 ∧ gR (moM35 g m h) m 11 = some (m + 18) := by
  have e : sz (moM8 g m h) = m + 18 := (szm8 (g := g) o).1.trans (by omega)
  have ez := (szm9 (g := g) o).1
  obtain ⟨-, -, -, a, b⟩ := (alS_o (e := (11, 20, 10)) (okm8 (g := g) o).2)
  rw [e] at a b
  exact ⟨a.fr (fe9 (g := g) o) (by show m + 18 < sz (moM9 g m h); omega) (by omega), ((fe9 (g := g) o).2.2.1 11 (by omega)).trans b⟩
theorem fn12 (o : okm m h) (hz : sz h = m + 1) : alN (moM35 g m h) (m + 19) 20 10 ∧ gR (moM35 g m h) m 12 = some (m + 19) := by
  have e : sz (moM9 g m h) = m + 19 := (szm9 (g := g) o).1.trans (by omega)
  have ez := (szm10 (g := g) o).1
  obtain ⟨-, -, -, a, b⟩ := (alS_o (e := (12, 20, 10)) (okm9 (g := g) o).2)
  rw [e] at a b
  exact ⟨a.fr (fe10 (g := g) o) (by show m + 19 < sz (moM10 g m h); omega) (by omega), ((fe10 (g := g) o).2.2.1 12 (by omega)).trans b⟩
theorem fn13 (o : okm m h) (hz : sz h = m + 1) : alN (moM35 g m h) (m + 20) 20 10 ∧ gR (moM35 g m h) m 13 = some (m + 20) := by
  have e : sz (moM10 g m h) = m + 20 := (szm10 (g := g) o).1.trans (by omega)
  have ez := (szm11 (g := g) o).1
  obtain ⟨-, -, -, a, b⟩ := (alS_o (e := (13, 20, 10)) (okm10 (g := g) o).2)
  rw [e] at a b
  exact ⟨a.fr (fe11 (g := g) o) (by show m + 20 < sz (moM11 g m h); omega) (by omega), ((fe11 (g := g) o).2.2.1 13 (by omega)).trans b⟩
theorem fn14 (o : okm m h) (hz : sz h = m + 1) : alN (moM35 g m h) (m + 21) 21 10 ∧ gR (moM35 g m h) m 14 = some (m + 21) := by
  have e : sz (moM11 g m h) = m + 21 := (szm11 (g := g) o).1.trans (by omega)
  have ez := (szm12 (g := g) o).1
  obtain ⟨-, -, -, a, b⟩ := (alS_o (e := (14, 21, 10)) (okm11 (g := g) o).2)
  rw [e] at a b
  exact ⟨a.fr (fe12 (g := g) o) (by show m + 21 < sz (moM12 g m h); omega) (by omega), ((fe12 (g := g) o).2.2.1 14 (by omega)).trans b⟩
theorem fn16 (o : okm m h) (hz : sz h = m + 1) : alN (moM35 g m h) (m + 22) 20 24 ∧ gR (moM35 g m h) m 16 = some (m + 22) := by
  have e : sz (moM12 g m h) = m + 22 := (szm12 (g := g) o).1.trans (by omega)
  have ez := (szm13 (g := g) o).1
  obtain ⟨-, -, -, a, b⟩ := (alS_o (e := (16, 20, 24)) (okm12 (g := g) o).2)
  rw [e] at a b
  exact ⟨a.fr (fe13 (g := g) o) (by show m + 22 < sz (moM13 g m h); omega) (by omega), ((fe13 (g := g) o).2.2.1 16 (by omega)).trans b⟩
theorem fn17 (o : okm m h) (hz : sz h = m + 1) : alN (moM35 g m h) (m + 23) 20 24 ∧ gR (moM35 g m h) m 17 = some (m + 23) := by
  have e : sz (moM13 g m h) = m + 23 := (szm13 (g := g) o).1.trans (by omega)
  have ez := (szm14 (g := g) o).1
  obtain ⟨-, -, -, a, b⟩ := (alS_o (e := (17, 20, 24)) (okm13 (g := g) o).2)
  rw [e] at a b
  exact ⟨a.fr (fe14 (g := g) o) (by show m + 23 < sz (moM14 g m h); omega) (by omega), ((fe14 (g := g) o).2.2.1 17 (by omega)).trans b⟩
theorem fn18 (o : okm m h) (hz : sz h = m + 1) : alN (moM35 g m h) (m + 24) 20 24 ∧ gR (moM35 g m h) m 18 = some (m + 24) := by
  have e : sz (moM14 g m h) = m + 24 := (szm14 (g := g) o).1.trans (by omega)
  have ez := (szm15 (g := g) o).1
  obtain ⟨-, -, -, a, b⟩ := (alS_o (e := (18, 20, 24)) (okm14 (g := g) o).2)
  rw [e] at a b
  exact ⟨a.fr (fe15 (g := g) o) (by show m + 24 < sz (moM15 g m h); omega) (by omega), ((fe15 (g := g) o).2.2.1 18 (by omega)).trans b⟩
theorem fn19 (o : okm m h) (hz : sz h = m + 1) : alN (moM35 g m h) (m + 25) 20 24 ∧ gR (moM35 g m h) m 19 = some (m + 25) := by
  have e : sz (moM15 g m h) = m + 25 := (szm15 (g := g) o).1.trans (by omega)
  have ez := (szm16 (g := g) o).1
  obtain ⟨-, -, -, a, b⟩ := (alS_o (e := (19, 20, 24)) (okm15 (g := g) o).2)
  rw [e] at a b
  exact ⟨a.fr (fe16 (g := g) o) (by show m + 25 < sz (moM16 g m h); omega) (by omega), ((fe16 (g := g) o).2.2.1 19 (by omega)).trans b⟩
theorem fn20 (o : okm m h) (hz : sz h = m + 1) : alN (moM35 g m h) (m + 26) 20 24 ∧ gR (moM35 g m h) m 20 = some (m + 26) := by
  have e : sz (moM16 g m h) = m + 26 := (szm16 (g := g) o).1.trans (by omega)
  have ez := (szm17 (g := g) o).1
  obtain ⟨-, -, -, a, b⟩ := (alS_o (e := (20, 20, 24)) (okm16 (g := g) o).2)
  rw [e] at a b
  exact ⟨a.fr (fe17 (g := g) o) (by show m + 26 < sz (moM17 g m h); omega) (by omega), ((fe17 (g := g) o).2.2.1 20 (by omega)).trans b⟩
theorem fn21 (o : okm m h) (hz : sz h = m + 1) : alN (moM35 g m h) (m + 27) 20 24 ∧ gR (moM35 g m h) m 21 = some (m + 27) := by
  have e : sz (moM17 g m h) = m + 27 := (szm17 (g := g) o).1.trans (by omega)
  have ez := (szm18 (g := g) o).1
  obtain ⟨-, -, -, a, b⟩ := (alS_o (e := (21, 20, 24)) (okm17 (g := g) o).2)
  rw [e] at a b
  exact ⟨a.fr (fe18 (g := g) o) (by show m + 27 < sz (moM18 g m h); omega) (by omega), ((fe18 (g := g) o).2.2.1 21 (by omega)).trans b⟩
theorem fn22 (o : okm m h) (hz : sz h = m + 1) : alN (moM35 g m h) (m + 28) 20 24 ∧ gR (moM35 g m h) m 22 = some (m + 28) := by
  have e : sz (moM18 g m h) = m + 28 := (szm18 (g := g) o).1.trans (by omega)
  have ez := (szm19 (g := g) o).1
  obtain ⟨-, -, -, a, b⟩ := (alS_o (e := (22, 20, 24)) (okm18 (g := g) o).2)
  rw [e] at a b
  exact ⟨a.fr (fe19 (g := g) o) (by show m + 28 < sz (moM19 g m h); omega) (by omega), ((fe19 (g := g) o).2.2.1 22 (by omega)).trans b⟩
theorem fn23 (o : okm m h) (hz : sz h = m + 1) : alN (moM35 g m h) (m + 29) 20 24 ∧ gR (moM35 g m h) m 23 = some (m + 29) := by
  have e : sz (moM19 g m h) = m + 29 := (szm19 (g := g) o).1.trans (by omega)
  have ez := (szm20 (g := g) o).1
  obtain ⟨-, -, -, a, b⟩ := (alS_o (e := (23, 20, 24)) (okm19 (g := g) o).2)
  rw [e] at a b
  exact ⟨a.fr (fe20 (g := g) o) (by show m + 29 < sz (moM20 g m h); omega) (by omega), ((fe20 (g := g) o).2.2.1 23 (by omega)).trans b⟩
theorem fn24 (o : okm m h) (hz : sz h = m + 1) : alN (moM35 g m h) (m + 30) 20 24 ∧ gR (moM35 g m h) m 24 = some (m + 30) := by
  have e : sz (moM20 g m h) = m + 30 := (szm20 (g := g) o).1.trans (by omega)
  have ez := (szm21 (g := g) o).1
  obtain ⟨-, -, -, a, b⟩ := (alS_o (e := (24, 20, 24)) (okm20 (g := g) o).2)
  rw [e] at a b
  exact ⟨a.fr (fe21 (g := g) o) (by show m + 30 < sz (moM21 g m h); omega) (by omega), ((fe21 (g := g) o).2.2.1 24 (by omega)).trans b⟩
theorem fn25 (o : okm m h) (hz : sz h = m + 1) : (kd (moM35 g m h) (m + 31) = 20 ∧ ln (moM35 g m h) (m + 31) = 4 ∧ ∀ j : Nat, gR (moM35 g m h) (m + 31) j = none ∧ gL (moM35 g m h) (m + 31) j = 0 ∧ (j < 4 → gI (moM35 g m h) (m + 31) j = -1)) ∧ gR (moM35 g m h) m 25 = some (m + 31) := by
  have e : sz (moM21 g m h) = m + 31 := (szm21 (g := g) o).1.trans (by omega)
  have ez := (szm22 (g := g) o).1
  obtain ⟨-, -, -, ⟨a1, a2, a3⟩, c⟩ := (alWd_o (okm21 (g := g) o).2)
  rw [e] at a1 a2 a3 c
  have q : m + 31 < sz (moM22 g m h) := by omega
  exact ⟨⟨(((fe22 (g := g) o).1 _ q).1).trans a1, (((fe22 (g := g) o).1 _ q).2).trans a2, fun j => ⟨((fe22 (g := g) o).2.1 _ j q (by omega)).trans (a3 j).1, (((fe22 (g := g) o).2.2.2 _ j q (by omega)).2).trans (a3 j).2.1, fun hj => (((fe22 (g := g) o).2.2.2 _ j q (by omega)).1).trans ((a3 j).2.2 hj)⟩⟩, ((fe22 (g := g) o).2.2.1 25 (by omega)).trans c⟩
theorem fn26 (o : okm m h) (hz : sz h = m + 1) : alN (moM35 g m h) (m + 32) 20 64 ∧ gR (moM35 g m h) m 26 = some (m + 32) := by
  have e : sz (moM22 g m h) = m + 32 := (szm22 (g := g) o).1.trans (by omega)
  have ez := (szm23 (g := g) o).1
  obtain ⟨-, -, -, a, b⟩ := (alS_o (e := (26, 20, 64)) (okm22 (g := g) o).2)
  rw [e] at a b
  exact ⟨a.fr (fe23 (g := g) o) (by show m + 32 < sz (moM23 g m h); omega) (by omega), ((fe23 (g := g) o).2.2.1 26 (by omega)).trans b⟩
theorem fn29 (o : okm m h) (hz : sz h = m + 1) : alN (moM35 g m h) (m + 33) 20 100 ∧ gR (moM35 g m h) m 29 = some (m + 33) := by
  have e : sz (moM24 g m h) = m + 33 := (szm24 (g := g) o).1.trans (by omega)
  have ez := (szm25 (g := g) o).1
  obtain ⟨-, -, -, a, b⟩ := (alS_o (e := (29, 20, 100)) (okm24 (g := g) o).2)
  rw [e] at a b
  exact ⟨a.fr (fe25 (g := g) o) (by show m + 33 < sz (moM25 g m h); omega) (by omega), ((fe25 (g := g) o).2.2.1 29 (by omega)).trans b⟩
theorem fn30 (o : okm m h) (hz : sz h = m + 1) : alN (moM35 g m h) (m + 34) 20 100 ∧ gR (moM35 g m h) m 30 = some (m + 34) := by
  have e : sz (moM25 g m h) = m + 34 := (szm25 (g := g) o).1.trans (by omega)
  have ez := (szm26 (g := g) o).1
  obtain ⟨-, -, -, a, b⟩ := (alS_o (e := (30, 20, 100)) (okm25 (g := g) o).2)
  rw [e] at a b
  exact ⟨a.fr (fe26 (g := g) o) (by show m + 34 < sz (moM26 g m h); omega) (by omega), ((fe26 (g := g) o).2.2.1 30 (by omega)).trans b⟩
theorem fn36 (o : okm m h) (hz : sz h = m + 1) : (kd (moM35 g m h) (m + 35) = 29 ∧ ln (moM35 g m h) (m + 35) = 46 ∧ ∀ j : Nat, j < 46 → gR (moM35 g m h) (m + 35) j = some (m + 36 + j)) ∧ (∀ j : Nat, j < 46 → alN (moM35 g m h) (m + 36 + j) 20 100) ∧ gR (moM35 g m h) m 36 = some (m + 35) := by
  have e : sz (moM26 g m h) = m + 35 := (szm26 (g := g) o).1.trans (by omega)
  have ez := (szm27 (g := g) o).1
  obtain ⟨-, -, -, ⟨a1, a2, a3⟩, b, c⟩ := (alM_o (s := 36) (K := 29) (k := 20) (n := 46) (w := 100) (okm26 (g := g) o).2)
  rw [e] at a1 a2 a3 b c
  have q : m + 35 < sz (moM27 g m h) := by omega
  refine ⟨⟨(((fe27 (g := g) o).1 _ q).1).trans a1, (((fe27 (g := g) o).1 _ q).2).trans a2, fun j hj => ((fe27 (g := g) o).2.1 _ j q (by omega)).trans (a3 j hj)⟩, fun j hj => (b j hj).fr (fe27 (g := g) o) (by show m + 35 + 1 + j < sz (moM27 g m h); omega) (by omega), ((fe27 (g := g) o).2.2.1 36 (by omega)).trans c⟩
theorem fn37 (o : okm m h) (hz : sz h = m + 1) : alN (moM35 g m h) (m + 82) 20 45 ∧ gR (moM35 g m h) m 37 = some (m + 82) := by
  have e : sz (moM27 g m h) = m + 82 := (szm27 (g := g) o).1.trans (by omega)
  have ez := (szm28 (g := g) o).1
  obtain ⟨-, -, -, a, b⟩ := (alS_o (e := (37, 20, 45)) (okm27 (g := g) o).2)
  rw [e] at a b
  exact ⟨a.fr (fe28 (g := g) o) (by show m + 82 < sz (moM28 g m h); omega) (by omega), ((fe28 (g := g) o).2.2.1 37 (by omega)).trans b⟩
theorem fn49 (o : okm m h) (hz : sz h = m + 1) : (kd (moM35 g m h) (m + 83) = 27 ∧ ln (moM35 g m h) (m + 83) = 8 ∧ ∀ j : Nat, gI (moM35 g m h) (m + 83) j = 0 ∧ gL (moM35 g m h) (m + 83) j = 0 ∧ (j < 8 → gR (moM35 g m h) (m + 83) j = some (g (104 + j)))) ∧ gR (moM35 g m h) m 49 = some (m + 83) := by
  have e : sz (moM28 g m h) = m + 83 := (szm28 (g := g) o).1.trans (by omega)
  have ez := (szm29 (g := g) o).1
  obtain ⟨-, -, -, ⟨a1, a2, a3⟩, c⟩ := (alS8_o (g := g) (okm28 (g := g) o).2)
  rw [e] at a1 a2 a3 c
  have q : m + 83 < sz (moM29 g m h) := by omega
  exact ⟨⟨(((fe29 (g := g) o).1 _ q).1).trans a1, (((fe29 (g := g) o).1 _ q).2).trans a2, fun j => ⟨(((fe29 (g := g) o).2.2.2 _ j q (by omega)).1).trans (a3 j).1, (((fe29 (g := g) o).2.2.2 _ j q (by omega)).2).trans (a3 j).2.1, fun hj => ((fe29 (g := g) o).2.1 _ j q (by omega)).trans ((a3 j).2.2 hj)⟩⟩, ((fe29 (g := g) o).2.2.1 49 (by omega)).trans c⟩
theorem fn50 (o : okm m h) (hz : sz h = m + 1) : (kd (moM35 g m h) (m + 84) = 27 ∧ ln (moM35 g m h) (m + 84) = 3 ∧ ∀ j : Nat, gI (moM35 g m h) (m + 84) j = 0 ∧ gL (moM35 g m h) (m + 84) j = 0 ∧ (j < 3 → gR (moM35 g m h) (m + 84) j = some (g (100 + j)))) ∧ gR (moM35 g m h) m 50 = some (m + 84) := by
  have e : sz (moM29 g m h) = m + 84 := (szm29 (g := g) o).1.trans (by omega)
  have ez := (szm30 (g := g) o).1
  obtain ⟨-, -, -, ⟨a1, a2, a3⟩, c⟩ := (alS3_o (g := g) (okm29 (g := g) o).2)
  rw [e] at a1 a2 a3 c
  have q : m + 84 < sz (moM30 g m h) := by omega
  exact ⟨⟨(((fe30 (g := g) o).1 _ q).1).trans a1, (((fe30 (g := g) o).1 _ q).2).trans a2, fun j => ⟨(((fe30 (g := g) o).2.2.2 _ j q (by omega)).1).trans (a3 j).1, (((fe30 (g := g) o).2.2.2 _ j q (by omega)).2).trans (a3 j).2.1, fun hj => ((fe30 (g := g) o).2.1 _ j q (by omega)).trans ((a3 j).2.2 hj)⟩⟩, ((fe30 (g := g) o).2.2.1 50 (by omega)).trans c⟩
theorem fn51 (o : okm m h) (hz : sz h = m + 1) : alN (moM35 g m h) (m + 85) 20 2048 ∧ gR (moM35 g m h) m 51 = some (m + 85) := by
  have e : sz (moM30 g m h) = m + 85 := (szm30 (g := g) o).1.trans (by omega)
  have ez := (szm31 (g := g) o).1
  obtain ⟨-, -, -, a, b⟩ := (alS_o (e := (51, 20, 2048)) (okm30 (g := g) o).2)
  rw [e] at a b
  exact ⟨a.fr (fe31 (g := g) o) (by show m + 85 < sz (moM31 g m h); omega) (by omega), ((fe31 (g := g) o).2.2.1 51 (by omega)).trans b⟩
theorem fn56 (o : okm m h) (hz : sz h = m + 1) : alN (moM35 g m h) (m + 86) 20 8 ∧ gR (moM35 g m h) m 56 = some (m + 86) := by
  have e : sz (moM31 g m h) = m + 86 := (szm31 (g := g) o).1.trans (by omega)
  have ez := (szm32 (g := g) o).1
  obtain ⟨-, -, -, a, b⟩ := (alS_o (e := (56, 20, 8)) (okm31 (g := g) o).2)
  rw [e] at a b
  exact ⟨a.fr (fe32 (g := g) o) (by show m + 86 < sz (moM32 g m h); omega) (by omega), ((fe32 (g := g) o).2.2.1 56 (by omega)).trans b⟩
theorem fn62 (o : okm m h) (hz : sz h = m + 1) : alN (moM35 g m h) (m + 87) 20 256 ∧ gR (moM35 g m h) m 62 = some (m + 87) := by
  have e : sz (moM32 g m h) = m + 87 := (szm32 (g := g) o).1.trans (by omega)
  have ez := (szm33 (g := g) o).1
  obtain ⟨-, -, -, a, b⟩ := (alS_o (e := (62, 20, 256)) (okm32 (g := g) o).2)
  rw [e] at a b
  exact ⟨a.fr (fe33 (g := g) o) (by show m + 87 < sz (moM33 g m h); omega) (by omega), ((fe33 (g := g) o).2.2.1 62 (by omega)).trans b⟩
theorem fn63 (o : okm m h) (hz : sz h = m + 1) : alN (moM35 g m h) (m + 88) 20 48 ∧ gR (moM35 g m h) m 63 = some (m + 88) := by
  have e : sz (moM33 g m h) = m + 88 := (szm33 (g := g) o).1.trans (by omega)
  have ez := (szm34 (g := g) o).1
  obtain ⟨-, -, -, a, b⟩ := (alS_o (e := (63, 20, 48)) (okm33 (g := g) o).2)
  rw [e] at a b
  exact ⟨a.fr (fe34 (g := g) o) (by show m + 88 < sz (moM34 g m h); omega) (by omega), ((fe34 (g := g) o).2.2.1 63 (by omega)).trans b⟩
theorem fn66 (o : okm m h) (hz : sz h = m + 1) : alN (moM35 g m h) (m + 89) 20 10 ∧ gR (moM35 g m h) m 66 = some (m + 89) := by
  have e : sz (moM34 g m h) = m + 89 := (szm34 (g := g) o).1.trans (by omega)
  have ez := (szm35 (g := g) o).1
  obtain ⟨-, -, -, a, b⟩ := (alS_o (e := (66, 20, 10)) (okm34 (g := g) o).2)
  rw [e] at a b
  exact ⟨a.fr fe35 (by show m + 89 < sz (moM35 g m h); omega) (by omega), (fe35.2.2.1 66 (by omega)).trans b⟩
theorem mo_made (o : okm m h) (hz : sz h = m + 1) : oMo (moM35 g m h) m := by
  have okL := okm35 (g := g) o
  exact ⟨⟨okL.1, (fn0 (g := g) o hz).2, (fn0 (g := g) o hz).1.1, (fn0 (g := g) o hz).1.2.1, (fn1 (g := g) o hz).2, (fn1 (g := g) o hz).1.1, (fn1 (g := g) o hz).1.2.1, (fn2 (g := g) o hz).2, (fn2 (g := g) o hz).1.1, (fn2 (g := g) o hz).1.2.1, (fn3 (g := g) o hz).2.2, (fn3 (g := g) o hz).1.1⟩, ⟨(fn3 (g := g) o hz).1.2.1, (fn4 (g := g) o hz).2, (fn4 (g := g) o hz).1.1, (fn4 (g := g) o hz).1.2.1, (fn5 (g := g) o hz).2, (fn5 (g := g) o hz).1.1, (fn5 (g := g) o hz).1.2.1, (fn6 (g := g) o hz).2, (fn6 (g := g) o hz).1.1, (fn6 (g := g) o hz).1.2.1, (fn8 (g := g) o hz).2, (fn8 (g := g) o hz).1.1⟩, ⟨(fn8 (g := g) o hz).1.2.1, (fn10 (g := g) o hz).2, (fn10 (g := g) o hz).1.1, (fn10 (g := g) o hz).1.2.1, (fn11 (g := g) o hz).2, (fn11 (g := g) o hz).1.1, (fn11 (g := g) o hz).1.2.1, (fn12 (g := g) o hz).2, (fn12 (g := g) o hz).1.1, (fn12 (g := g) o hz).1.2.1, (fn13 (g := g) o hz).2, (fn13 (g := g) o hz).1.1⟩, ⟨(fn13 (g := g) o hz).1.2.1, (fn14 (g := g) o hz).2, (fn14 (g := g) o hz).1.1, (fn14 (g := g) o hz).1.2.1, (fn16 (g := g) o hz).2, (fn16 (g := g) o hz).1.1, (fn16 (g := g) o hz).1.2.1, (fn17 (g := g) o hz).2, (fn17 (g := g) o hz).1.1, (fn17 (g := g) o hz).1.2.1, (fn18 (g := g) o hz).2, (fn18 (g := g) o hz).1.1⟩, ⟨(fn18 (g := g) o hz).1.2.1, (fn19 (g := g) o hz).2, (fn19 (g := g) o hz).1.1, (fn19 (g := g) o hz).1.2.1, (fn20 (g := g) o hz).2, (fn20 (g := g) o hz).1.1, (fn20 (g := g) o hz).1.2.1, (fn21 (g := g) o hz).2, (fn21 (g := g) o hz).1.1, (fn21 (g := g) o hz).1.2.1, (fn22 (g := g) o hz).2, (fn22 (g := g) o hz).1.1⟩, ⟨(fn22 (g := g) o hz).1.2.1, (fn23 (g := g) o hz).2, (fn23 (g := g) o hz).1.1, (fn23 (g := g) o hz).1.2.1, (fn24 (g := g) o hz).2, (fn24 (g := g) o hz).1.1, (fn24 (g := g) o hz).1.2.1, (fn25 (g := g) o hz).2, (fn25 (g := g) o hz).1.1, (fn25 (g := g) o hz).1.2.1, (fn26 (g := g) o hz).2, (fn26 (g := g) o hz).1.1⟩, ⟨(fn26 (g := g) o hz).1.2.1, (fn29 (g := g) o hz).2, (fn29 (g := g) o hz).1.1, (fn29 (g := g) o hz).1.2.1, (fn30 (g := g) o hz).2, (fn30 (g := g) o hz).1.1, (fn30 (g := g) o hz).1.2.1, (fn36 (g := g) o hz).2.2, (fn36 (g := g) o hz).1.1, (fn36 (g := g) o hz).1.2.1, (fn37 (g := g) o hz).2, (fn37 (g := g) o hz).1.1⟩, ⟨(fn37 (g := g) o hz).1.2.1, (fn49 (g := g) o hz).2, (fn49 (g := g) o hz).1.1, (fn49 (g := g) o hz).1.2.1, (fn50 (g := g) o hz).2, (fn50 (g := g) o hz).1.1, (fn50 (g := g) o hz).1.2.1, (fn51 (g := g) o hz).2, (fn51 (g := g) o hz).1.1, (fn51 (g := g) o hz).1.2.1, (fn56 (g := g) o hz).2, (fn56 (g := g) o hz).1.1⟩, ⟨(fn56 (g := g) o hz).1.2.1, (fn62 (g := g) o hz).2, (fn62 (g := g) o hz).1.1, (fn62 (g := g) o hz).1.2.1, (fn63 (g := g) o hz).2, (fn63 (g := g) o hz).1.1, (fn63 (g := g) o hz).1.2.1, (fn66 (g := g) o hz).2, (fn66 (g := g) o hz).1.1, (fn66 (g := g) o hz).1.2.1⟩, fun j hj => ⟨(fn3 (g := g) o hz).1.2.2 j hj, ((fn3 (g := g) o hz).2.1 j hj).1, ((fn3 (g := g) o hz).2.1 j hj).2.1⟩, fun j hj => ⟨(fn36 (g := g) o hz).1.2.2 j hj, ((fn36 (g := g) o hz).2.1 j hj).1, ((fn36 (g := g) o hz).2.1 j hj).2.1⟩⟩
end ZMK
