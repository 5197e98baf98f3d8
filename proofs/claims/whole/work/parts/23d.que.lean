/-! the queue holds each pair at most once -/
def qOK (q : List Nat) : Prop := q.Nodup ∧ ∀ x : Nat, x ∈ q → x < 100
theorem qOK_que {m v : Nat} {q : List Nat} (hm : m < 100) (hq : qOK q) : qOK (pQue m v q) := by
  unfold pQue
  split
  · rename_i hz
    refine ⟨?_, fun x hx => ?_⟩
    · rw [List.nodup_append]
      refine ⟨hq.1, List.nodup_cons.2 ⟨List.not_mem_nil, List.nodup_nil⟩, fun a ha b hb => ?_⟩
      rw [List.mem_singleton.1 hb]
      intro e
      exact hz.2.1 (e ▸ ha)
    · rcases List.mem_append.1 hx with w | w
      · exact hq.2 x w
      · rw [List.mem_singleton.1 w]; exact hm
  · exact hq
theorem qOK_keep {tn : Nat → Nat} {p s : Nat} {σ : zS} (hp : p < 100) (hq : qOK σ.2.2) : qOK (pKeep tn p s σ).2.2 := by
  unfold pKeep
  split
  · exact hq
  · exact qOK_que (by omega) hq
theorem qOK_in {tn hv : Nat → Nat} {pl a b : Nat} (ha : a < 10) (hb : b < 10) : ∀ (k c : Nat) (σ : zS), c + k ≤ 10 → qOK σ.2.2 → qOK (pIn tn hv pl a b k c σ).1.2.2
  | 0, c, σ, hk, hq => hq
  | k + 1, c, σ, hk, hq => by
    unfold pIn
    split
    · exact qOK_in ha hb k (c + 1) σ (by omega) hq
    · split
      · split
        · exact qOK_in ha hb k (c + 1) _ (by omega) (qOK_keep (by omega) (qOK_keep (by omega) hq))
        · exact qOK_keep (by omega) (qOK_keep (by omega) hq)
      · exact qOK_keep (by omega) hq
