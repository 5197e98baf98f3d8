/-! so 405 turns are enough -/
theorem phi_in {tn hv : Nat → Nat} {pl a b : Nat} (ht : tnOK tn) (ha : a < 10) (hb : b < 10) : ∀ (k c : Nat) (σ : zS), c + k ≤ 10 → sy tn σ.1 → sy tn (pIn tn hv pl a b k c σ).1.1 ∧ phi (pIn tn hv pl a b k c σ).1 ≤ phi σ
  | 0, c, σ, hk, hf => ⟨hf, Nat.le_refl _⟩
  | k + 1, c, σ, hk, hf => by
    unfold pIn
    split
    · exact phi_in ht ha hb k (c + 1) σ (by omega) hf
    · rename_i z
      obtain ⟨s1, l1⟩ := phi_keep (s := f2 hv (σ.1 pl) (σ.1 (b * 10 + c))) ht hf (show a * 10 + c < 100 by omega) (by omega)
      split
      · generalize pKeep tn (a * 10 + c) (f2 hv (σ.1 pl) (σ.1 (b * 10 + c))) σ = σ1 at s1 l1 ⊢
        obtain ⟨s2, l2⟩ := phi_keep (s := f2 hv (σ1.1 (c * 10 + a)) (σ1.1 pl)) ht s1 (show c * 10 + b < 100 by omega) (by omega)
        split
        · obtain ⟨s3, l3⟩ := phi_in (pl := pl) (hv := hv) ht ha hb k (c + 1) (pKeep tn (c * 10 + b) (f2 hv (σ1.1 (c * 10 + a)) (σ1.1 pl)) σ1) (by omega) s2
          exact ⟨s3, Nat.le_trans l3 (Nat.le_trans l2 l1)⟩
        · exact ⟨s2, Nat.le_trans l2 l1⟩
      · exact ⟨s1, l1⟩
theorem pSp_drain {tn hv : Nat → Nat} {n : Nat} (ht : tnOK tn) (hn : n ≤ 10) : ∀ (k : Nat) (σ : zS) (b : Bool), sy tn σ.1 → qOK σ.2.2 → phi σ ≤ k → (pSp tn hv n k σ b).1.2.2 = [] ∧ sy tn (pSp tn hv n k σ b).1.1
  | 0, (a, tr, []), b, hf, hq, hl => ⟨rfl, hf⟩
  | 0, (a, tr, x :: q), b, hf, hq, hl => by
    unfold phi at hl
    dsimp only [List.length_cons] at hl
    omega
  | k + 1, (a, tr, []), b, hf, hq, hl => by
    unfold pSp
    exact ⟨rfl, hf⟩
  | k + 1, (a, tr, x :: q), true, hf, hq, hl => by
    unfold pSp
    have hx : x < 100 := hq.2 x List.mem_cons_self
    have hq2 : qOK q := ⟨(List.nodup_cons.1 hq.1).2, fun y hy => hq.2 y (List.mem_cons_of_mem x hy)⟩
    have hl2 : phi (a, tr, q) ≤ k := by
      unfold phi at hl ⊢
      dsimp only [List.length_cons] at hl ⊢
      omega
    obtain ⟨s1, l1⟩ := phi_in (hv := hv) (pl := x) (a := x / 10) (b := x % 10) ht (by omega) (by omega) n 0 (a, tr, q) (by omega) hf
    exact pSp_drain ht hn k _ _ s1 (qOK_in (by omega) (by omega) n 0 (a, tr, q) (by omega) hq2) (Nat.le_trans l1 hl2)
  | k + 1, (a, tr, x :: q), false, hf, hq, hl => by
    unfold pSp
    have hq2 : qOK q := ⟨(List.nodup_cons.1 hq.1).2, fun y hy => hq.2 y (List.mem_cons_of_mem x hy)⟩
    refine pSp_drain ht hn k (a, tr, q) false hf hq2 ?_
    unfold phi at hl ⊢
    dsimp only [List.length_cons] at hl ⊢
    omega
theorem bsum_top {w : Nat → Nat} (h : ∀ p : Nat, w p ≤ 8) : bsum w 100 ≤ 360 := by
  have : bsum w 100 ≤ bsum (fun _ => 8) 100 := bsum_le (w := fun _ => 8) (fun p _ => h p) 100
  exact Nat.le_trans this (by decide)
theorem phi_top {σ : zS} (h : σ.2.2.length ≤ 45) : phi σ ≤ 405 := by
  unfold phi
  have := bsum_top (w := fun p => pc8 (σ.1 p)) (fun p => pc8_le _)
  omega
