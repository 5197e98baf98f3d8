/-! the links of calls: their words -/
theorem zL_ok_0 : ∀ q ∈ zLk0, q.1 < 1000000 ∧ zTab (q.2.2.1) = some (.methodLink (zOwn (q.1 / 10000)) (q.1 % 10000) (zY q.2.1)) ∧ (if zKd q.2.1 = 0 then zTab (q.2.2.2.1) = some (.static (zY q.2.1)) else zTab (q.2.2.2.1) = some (.instanceMethod (zY q.2.1))) ∧ (zKd q.2.1 = 1 → zTab (q.2.2.2.2.1) = some (.selects (zY q.2.1).cls (zY q.2.1) (zY q.2.1))) ∧ zTab (q.2.2.2.2.2.1) = some (.initialized (zY q.2.1).cls) := by decide +kernel
theorem zL_ok_1 : ∀ q ∈ zLk1, q.1 < 1000000 ∧ zTab (q.2.2.1) = some (.methodLink (zOwn (q.1 / 10000)) (q.1 % 10000) (zY q.2.1)) ∧ (if zKd q.2.1 = 0 then zTab (q.2.2.2.1) = some (.static (zY q.2.1)) else zTab (q.2.2.2.1) = some (.instanceMethod (zY q.2.1))) ∧ (zKd q.2.1 = 1 → zTab (q.2.2.2.2.1) = some (.selects (zY q.2.1).cls (zY q.2.1) (zY q.2.1))) ∧ zTab (q.2.2.2.2.2.1) = some (.initialized (zY q.2.1).cls) := by decide +kernel
theorem zL_ok_2 : ∀ q ∈ zLk2, q.1 < 1000000 ∧ zTab (q.2.2.1) = some (.methodLink (zOwn (q.1 / 10000)) (q.1 % 10000) (zY q.2.1)) ∧ (if zKd q.2.1 = 0 then zTab (q.2.2.2.1) = some (.static (zY q.2.1)) else zTab (q.2.2.2.1) = some (.instanceMethod (zY q.2.1))) ∧ (zKd q.2.1 = 1 → zTab (q.2.2.2.2.1) = some (.selects (zY q.2.1).cls (zY q.2.1) (zY q.2.1))) ∧ zTab (q.2.2.2.2.2.1) = some (.initialized (zY q.2.1).cls) := by decide +kernel
theorem zL_ok_3 : ∀ q ∈ zLk3, q.1 < 1000000 ∧ zTab (q.2.2.1) = some (.methodLink (zOwn (q.1 / 10000)) (q.1 % 10000) (zY q.2.1)) ∧ (if zKd q.2.1 = 0 then zTab (q.2.2.2.1) = some (.static (zY q.2.1)) else zTab (q.2.2.2.1) = some (.instanceMethod (zY q.2.1))) ∧ (zKd q.2.1 = 1 → zTab (q.2.2.2.2.1) = some (.selects (zY q.2.1).cls (zY q.2.1) (zY q.2.1))) ∧ zTab (q.2.2.2.2.2.1) = some (.initialized (zY q.2.1).cls) := by decide +kernel
theorem zL_ok_4 : ∀ q ∈ zLk4, q.1 < 1000000 ∧ zTab (q.2.2.1) = some (.methodLink (zOwn (q.1 / 10000)) (q.1 % 10000) (zY q.2.1)) ∧ (if zKd q.2.1 = 0 then zTab (q.2.2.2.1) = some (.static (zY q.2.1)) else zTab (q.2.2.2.1) = some (.instanceMethod (zY q.2.1))) ∧ (zKd q.2.1 = 1 → zTab (q.2.2.2.2.1) = some (.selects (zY q.2.1).cls (zY q.2.1) (zY q.2.1))) ∧ zTab (q.2.2.2.2.2.1) = some (.initialized (zY q.2.1).cls) := by decide +kernel
theorem zL_ok_5 : ∀ q ∈ zLk5, q.1 < 1000000 ∧ zTab (q.2.2.1) = some (.methodLink (zOwn (q.1 / 10000)) (q.1 % 10000) (zY q.2.1)) ∧ (if zKd q.2.1 = 0 then zTab (q.2.2.2.1) = some (.static (zY q.2.1)) else zTab (q.2.2.2.1) = some (.instanceMethod (zY q.2.1))) ∧ (zKd q.2.1 = 1 → zTab (q.2.2.2.2.1) = some (.selects (zY q.2.1).cls (zY q.2.1) (zY q.2.1))) ∧ zTab (q.2.2.2.2.2.1) = some (.initialized (zY q.2.1).cls) := by decide +kernel
theorem zL_ok_6 : ∀ q ∈ zLk6, q.1 < 1000000 ∧ zTab (q.2.2.1) = some (.methodLink (zOwn (q.1 / 10000)) (q.1 % 10000) (zY q.2.1)) ∧ (if zKd q.2.1 = 0 then zTab (q.2.2.2.1) = some (.static (zY q.2.1)) else zTab (q.2.2.2.1) = some (.instanceMethod (zY q.2.1))) ∧ (zKd q.2.1 = 1 → zTab (q.2.2.2.2.1) = some (.selects (zY q.2.1).cls (zY q.2.1) (zY q.2.1))) ∧ zTab (q.2.2.2.2.2.1) = some (.initialized (zY q.2.1).cls) := by decide +kernel
theorem zL_ok_7 : ∀ q ∈ zLk7, q.1 < 1000000 ∧ zTab (q.2.2.1) = some (.methodLink (zOwn (q.1 / 10000)) (q.1 % 10000) (zY q.2.1)) ∧ (if zKd q.2.1 = 0 then zTab (q.2.2.2.1) = some (.static (zY q.2.1)) else zTab (q.2.2.2.1) = some (.instanceMethod (zY q.2.1))) ∧ (zKd q.2.1 = 1 → zTab (q.2.2.2.2.1) = some (.selects (zY q.2.1).cls (zY q.2.1) (zY q.2.1))) ∧ zTab (q.2.2.2.2.2.1) = some (.initialized (zY q.2.1).cls) := by decide +kernel
theorem zL_ok_8 : ∀ q ∈ zLk8, q.1 < 1000000 ∧ zTab (q.2.2.1) = some (.methodLink (zOwn (q.1 / 10000)) (q.1 % 10000) (zY q.2.1)) ∧ (if zKd q.2.1 = 0 then zTab (q.2.2.2.1) = some (.static (zY q.2.1)) else zTab (q.2.2.2.1) = some (.instanceMethod (zY q.2.1))) ∧ (zKd q.2.1 = 1 → zTab (q.2.2.2.2.1) = some (.selects (zY q.2.1).cls (zY q.2.1) (zY q.2.1))) ∧ zTab (q.2.2.2.2.2.1) = some (.initialized (zY q.2.1).cls) := by decide +kernel
theorem zL_ok_9 : ∀ q ∈ zLk9, q.1 < 1000000 ∧ zTab (q.2.2.1) = some (.methodLink (zOwn (q.1 / 10000)) (q.1 % 10000) (zY q.2.1)) ∧ (if zKd q.2.1 = 0 then zTab (q.2.2.2.1) = some (.static (zY q.2.1)) else zTab (q.2.2.2.1) = some (.instanceMethod (zY q.2.1))) ∧ (zKd q.2.1 = 1 → zTab (q.2.2.2.2.1) = some (.selects (zY q.2.1).cls (zY q.2.1) (zY q.2.1))) ∧ zTab (q.2.2.2.2.2.1) = some (.initialized (zY q.2.1).cls) := by decide +kernel
theorem zL_ok_10 : ∀ q ∈ zLk10, q.1 < 1000000 ∧ zTab (q.2.2.1) = some (.methodLink (zOwn (q.1 / 10000)) (q.1 % 10000) (zY q.2.1)) ∧ (if zKd q.2.1 = 0 then zTab (q.2.2.2.1) = some (.static (zY q.2.1)) else zTab (q.2.2.2.1) = some (.instanceMethod (zY q.2.1))) ∧ (zKd q.2.1 = 1 → zTab (q.2.2.2.2.1) = some (.selects (zY q.2.1).cls (zY q.2.1) (zY q.2.1))) ∧ zTab (q.2.2.2.2.2.1) = some (.initialized (zY q.2.1).cls) := by decide +kernel
theorem zL_ok_11 : ∀ q ∈ zLk11, q.1 < 1000000 ∧ zTab (q.2.2.1) = some (.methodLink (zOwn (q.1 / 10000)) (q.1 % 10000) (zY q.2.1)) ∧ (if zKd q.2.1 = 0 then zTab (q.2.2.2.1) = some (.static (zY q.2.1)) else zTab (q.2.2.2.1) = some (.instanceMethod (zY q.2.1))) ∧ (zKd q.2.1 = 1 → zTab (q.2.2.2.2.1) = some (.selects (zY q.2.1).cls (zY q.2.1) (zY q.2.1))) ∧ zTab (q.2.2.2.2.2.1) = some (.initialized (zY q.2.1).cls) := by decide +kernel
theorem zL_ok_12 : ∀ q ∈ zLk12, q.1 < 1000000 ∧ zTab (q.2.2.1) = some (.methodLink (zOwn (q.1 / 10000)) (q.1 % 10000) (zY q.2.1)) ∧ (if zKd q.2.1 = 0 then zTab (q.2.2.2.1) = some (.static (zY q.2.1)) else zTab (q.2.2.2.1) = some (.instanceMethod (zY q.2.1))) ∧ (zKd q.2.1 = 1 → zTab (q.2.2.2.2.1) = some (.selects (zY q.2.1).cls (zY q.2.1) (zY q.2.1))) ∧ zTab (q.2.2.2.2.2.1) = some (.initialized (zY q.2.1).cls) := by decide +kernel
theorem zL_ok : ∀ q ∈ zLkT, q.1 < 1000000 ∧ zTab (q.2.2.1) = some (.methodLink (zOwn (q.1 / 10000)) (q.1 % 10000) (zY q.2.1)) ∧ (if zKd q.2.1 = 0 then zTab (q.2.2.2.1) = some (.static (zY q.2.1)) else zTab (q.2.2.2.1) = some (.instanceMethod (zY q.2.1))) ∧ (zKd q.2.1 = 1 → zTab (q.2.2.2.2.1) = some (.selects (zY q.2.1).cls (zY q.2.1) (zY q.2.1))) ∧ zTab (q.2.2.2.2.2.1) = some (.initialized (zY q.2.1).cls) := by
  intro q hq
  unfold zLkT at hq
  simp only [List.mem_append] at hq
  rcases hq with h | h | h | h | h | h | h | h | h | h | h | h | h
  · exact zL_ok_0 q h
  · exact zL_ok_1 q h
  · exact zL_ok_2 q h
  · exact zL_ok_3 q h
  · exact zL_ok_4 q h
  · exact zL_ok_5 q h
  · exact zL_ok_6 q h
  · exact zL_ok_7 q h
  · exact zL_ok_8 q h
  · exact zL_ok_9 q h
  · exact zL_ok_10 q h
  · exact zL_ok_11 q h
  · exact zL_ok_12 q h
theorem zL_ok2_0 : ∀ q ∈ zLk0, zTab (q.2.2.2.2.2.2) = some (.code (zY q.2.1) (zCode q.2.1) (zMx q.2.1) (zRt q.2.1)) := List.forall_mem_cons.mpr ⟨rfl, List.forall_mem_cons.mpr ⟨rfl, List.forall_mem_cons.mpr ⟨rfl, List.forall_mem_cons.mpr ⟨rfl, List.forall_mem_cons.mpr ⟨rfl, List.forall_mem_cons.mpr ⟨rfl, List.forall_mem_cons.mpr ⟨rfl, List.forall_mem_cons.mpr ⟨rfl, List.forall_mem_cons.mpr ⟨rfl, List.forall_mem_cons.mpr ⟨rfl, List.forall_mem_cons.mpr ⟨rfl, List.forall_mem_cons.mpr ⟨rfl, List.forall_mem_cons.mpr ⟨rfl, List.forall_mem_cons.mpr ⟨rfl, List.forall_mem_cons.mpr ⟨rfl, List.forall_mem_cons.mpr ⟨rfl, List.forall_mem_cons.mpr ⟨rfl, List.forall_mem_cons.mpr ⟨rfl, List.forall_mem_cons.mpr ⟨rfl, List.forall_mem_cons.mpr ⟨rfl, List.forall_mem_cons.mpr ⟨rfl, List.forall_mem_cons.mpr ⟨rfl, List.forall_mem_cons.mpr ⟨rfl, List.forall_mem_cons.mpr ⟨rfl, List.forall_mem_cons.mpr ⟨rfl, List.forall_mem_cons.mpr ⟨rfl, List.forall_mem_cons.mpr ⟨rfl, List.forall_mem_cons.mpr ⟨rfl, List.forall_mem_cons.mpr ⟨rfl, List.forall_mem_cons.mpr ⟨rfl, fun _ h => absurd h List.not_mem_nil⟩⟩⟩⟩⟩⟩⟩⟩⟩⟩⟩⟩⟩⟩⟩⟩⟩⟩⟩⟩⟩⟩⟩⟩⟩⟩⟩⟩⟩⟩
theorem zL_ok2_1 : ∀ q ∈ zLk1, zTab (q.2.2.2.2.2.2) = some (.code (zY q.2.1) (zCode q.2.1) (zMx q.2.1) (zRt q.2.1)) := List.forall_mem_cons.mpr ⟨rfl, List.forall_mem_cons.mpr ⟨rfl, List.forall_mem_cons.mpr ⟨rfl, List.forall_mem_cons.mpr ⟨rfl, List.forall_mem_cons.mpr ⟨rfl, List.forall_mem_cons.mpr ⟨rfl, List.forall_mem_cons.mpr ⟨rfl, List.forall_mem_cons.mpr ⟨rfl, List.forall_mem_cons.mpr ⟨rfl, List.forall_mem_cons.mpr ⟨rfl, List.forall_mem_cons.mpr ⟨rfl, List.forall_mem_cons.mpr ⟨rfl, List.forall_mem_cons.mpr ⟨rfl, List.forall_mem_cons.mpr ⟨rfl, List.forall_mem_cons.mpr ⟨rfl, List.forall_mem_cons.mpr ⟨rfl, List.forall_mem_cons.mpr ⟨rfl, List.forall_mem_cons.mpr ⟨rfl, List.forall_mem_cons.mpr ⟨rfl, List.forall_mem_cons.mpr ⟨rfl, List.forall_mem_cons.mpr ⟨rfl, List.forall_mem_cons.mpr ⟨rfl, List.forall_mem_cons.mpr ⟨rfl, List.forall_mem_cons.mpr ⟨rfl, List.forall_mem_cons.mpr ⟨rfl, List.forall_mem_cons.mpr ⟨rfl, List.forall_mem_cons.mpr ⟨rfl, List.forall_mem_cons.mpr ⟨rfl, List.forall_mem_cons.mpr ⟨rfl, List.forall_mem_cons.mpr ⟨rfl, fun _ h => absurd h List.not_mem_nil⟩⟩⟩⟩⟩⟩⟩⟩⟩⟩⟩⟩⟩⟩⟩⟩⟩⟩⟩⟩⟩⟩⟩⟩⟩⟩⟩⟩⟩⟩
theorem zL_ok2_2 : ∀ q ∈ zLk2, zTab (q.2.2.2.2.2.2) = some (.code (zY q.2.1) (zCode q.2.1) (zMx q.2.1) (zRt q.2.1)) := List.forall_mem_cons.mpr ⟨rfl, List.forall_mem_cons.mpr ⟨rfl, List.forall_mem_cons.mpr ⟨rfl, List.forall_mem_cons.mpr ⟨rfl, List.forall_mem_cons.mpr ⟨rfl, List.forall_mem_cons.mpr ⟨rfl, List.forall_mem_cons.mpr ⟨rfl, List.forall_mem_cons.mpr ⟨rfl, List.forall_mem_cons.mpr ⟨rfl, List.forall_mem_cons.mpr ⟨rfl, List.forall_mem_cons.mpr ⟨rfl, List.forall_mem_cons.mpr ⟨rfl, List.forall_mem_cons.mpr ⟨rfl, List.forall_mem_cons.mpr ⟨rfl, List.forall_mem_cons.mpr ⟨rfl, List.forall_mem_cons.mpr ⟨rfl, List.forall_mem_cons.mpr ⟨rfl, List.forall_mem_cons.mpr ⟨rfl, List.forall_mem_cons.mpr ⟨rfl, List.forall_mem_cons.mpr ⟨rfl, List.forall_mem_cons.mpr ⟨rfl, List.forall_mem_cons.mpr ⟨rfl, List.forall_mem_cons.mpr ⟨rfl, List.forall_mem_cons.mpr ⟨rfl, List.forall_mem_cons.mpr ⟨rfl, List.forall_mem_cons.mpr ⟨rfl, List.forall_mem_cons.mpr ⟨rfl, List.forall_mem_cons.mpr ⟨rfl, List.forall_mem_cons.mpr ⟨rfl, List.forall_mem_cons.mpr ⟨rfl, fun _ h => absurd h List.not_mem_nil⟩⟩⟩⟩⟩⟩⟩⟩⟩⟩⟩⟩⟩⟩⟩⟩⟩⟩⟩⟩⟩⟩⟩⟩⟩⟩⟩⟩⟩⟩
theorem zL_ok2_3 : ∀ q ∈ zLk3, zTab (q.2.2.2.2.2.2) = some (.code (zY q.2.1) (zCode q.2.1) (zMx q.2.1) (zRt q.2.1)) := List.forall_mem_cons.mpr ⟨rfl, List.forall_mem_cons.mpr ⟨rfl, List.forall_mem_cons.mpr ⟨rfl, List.forall_mem_cons.mpr ⟨rfl, List.forall_mem_cons.mpr ⟨rfl, List.forall_mem_cons.mpr ⟨rfl, List.forall_mem_cons.mpr ⟨rfl, List.forall_mem_cons.mpr ⟨rfl, List.forall_mem_cons.mpr ⟨rfl, List.forall_mem_cons.mpr ⟨rfl, List.forall_mem_cons.mpr ⟨rfl, List.forall_mem_cons.mpr ⟨rfl, List.forall_mem_cons.mpr ⟨rfl, List.forall_mem_cons.mpr ⟨rfl, List.forall_mem_cons.mpr ⟨rfl, List.forall_mem_cons.mpr ⟨rfl, List.forall_mem_cons.mpr ⟨rfl, List.forall_mem_cons.mpr ⟨rfl, List.forall_mem_cons.mpr ⟨rfl, List.forall_mem_cons.mpr ⟨rfl, List.forall_mem_cons.mpr ⟨rfl, List.forall_mem_cons.mpr ⟨rfl, List.forall_mem_cons.mpr ⟨rfl, List.forall_mem_cons.mpr ⟨rfl, List.forall_mem_cons.mpr ⟨rfl, List.forall_mem_cons.mpr ⟨rfl, List.forall_mem_cons.mpr ⟨rfl, List.forall_mem_cons.mpr ⟨rfl, List.forall_mem_cons.mpr ⟨rfl, List.forall_mem_cons.mpr ⟨rfl, fun _ h => absurd h List.not_mem_nil⟩⟩⟩⟩⟩⟩⟩⟩⟩⟩⟩⟩⟩⟩⟩⟩⟩⟩⟩⟩⟩⟩⟩⟩⟩⟩⟩⟩⟩⟩
theorem zL_ok2_4 : ∀ q ∈ zLk4, zTab (q.2.2.2.2.2.2) = some (.code (zY q.2.1) (zCode q.2.1) (zMx q.2.1) (zRt q.2.1)) := List.forall_mem_cons.mpr ⟨rfl, List.forall_mem_cons.mpr ⟨rfl, List.forall_mem_cons.mpr ⟨rfl, List.forall_mem_cons.mpr ⟨rfl, List.forall_mem_cons.mpr ⟨rfl, List.forall_mem_cons.mpr ⟨rfl, List.forall_mem_cons.mpr ⟨rfl, List.forall_mem_cons.mpr ⟨rfl, List.forall_mem_cons.mpr ⟨rfl, List.forall_mem_cons.mpr ⟨rfl, List.forall_mem_cons.mpr ⟨rfl, List.forall_mem_cons.mpr ⟨rfl, List.forall_mem_cons.mpr ⟨rfl, List.forall_mem_cons.mpr ⟨rfl, List.forall_mem_cons.mpr ⟨rfl, List.forall_mem_cons.mpr ⟨rfl, List.forall_mem_cons.mpr ⟨rfl, List.forall_mem_cons.mpr ⟨rfl, List.forall_mem_cons.mpr ⟨rfl, List.forall_mem_cons.mpr ⟨rfl, List.forall_mem_cons.mpr ⟨rfl, List.forall_mem_cons.mpr ⟨rfl, List.forall_mem_cons.mpr ⟨rfl, List.forall_mem_cons.mpr ⟨rfl, List.forall_mem_cons.mpr ⟨rfl, List.forall_mem_cons.mpr ⟨rfl, List.forall_mem_cons.mpr ⟨rfl, List.forall_mem_cons.mpr ⟨rfl, List.forall_mem_cons.mpr ⟨rfl, List.forall_mem_cons.mpr ⟨rfl, fun _ h => absurd h List.not_mem_nil⟩⟩⟩⟩⟩⟩⟩⟩⟩⟩⟩⟩⟩⟩⟩⟩⟩⟩⟩⟩⟩⟩⟩⟩⟩⟩⟩⟩⟩⟩
theorem zL_ok2_5 : ∀ q ∈ zLk5, zTab (q.2.2.2.2.2.2) = some (.code (zY q.2.1) (zCode q.2.1) (zMx q.2.1) (zRt q.2.1)) := List.forall_mem_cons.mpr ⟨rfl, List.forall_mem_cons.mpr ⟨rfl, List.forall_mem_cons.mpr ⟨rfl, List.forall_mem_cons.mpr ⟨rfl, List.forall_mem_cons.mpr ⟨rfl, List.forall_mem_cons.mpr ⟨rfl, List.forall_mem_cons.mpr ⟨rfl, List.forall_mem_cons.mpr ⟨rfl, List.forall_mem_cons.mpr ⟨rfl, List.forall_mem_cons.mpr ⟨rfl, List.forall_mem_cons.mpr ⟨rfl, List.forall_mem_cons.mpr ⟨rfl, List.forall_mem_cons.mpr ⟨rfl, List.forall_mem_cons.mpr ⟨rfl, List.forall_mem_cons.mpr ⟨rfl, List.forall_mem_cons.mpr ⟨rfl, List.forall_mem_cons.mpr ⟨rfl, List.forall_mem_cons.mpr ⟨rfl, List.forall_mem_cons.mpr ⟨rfl, List.forall_mem_cons.mpr ⟨rfl, List.forall_mem_cons.mpr ⟨rfl, List.forall_mem_cons.mpr ⟨rfl, List.forall_mem_cons.mpr ⟨rfl, List.forall_mem_cons.mpr ⟨rfl, List.forall_mem_cons.mpr ⟨rfl, List.forall_mem_cons.mpr ⟨rfl, List.forall_mem_cons.mpr ⟨rfl, List.forall_mem_cons.mpr ⟨rfl, List.forall_mem_cons.mpr ⟨rfl, List.forall_mem_cons.mpr ⟨rfl, fun _ h => absurd h List.not_mem_nil⟩⟩⟩⟩⟩⟩⟩⟩⟩⟩⟩⟩⟩⟩⟩⟩⟩⟩⟩⟩⟩⟩⟩⟩⟩⟩⟩⟩⟩⟩
theorem zL_ok2_6 : ∀ q ∈ zLk6, zTab (q.2.2.2.2.2.2) = some (.code (zY q.2.1) (zCode q.2.1) (zMx q.2.1) (zRt q.2.1)) := List.forall_mem_cons.mpr ⟨rfl, List.forall_mem_cons.mpr ⟨rfl, List.forall_mem_cons.mpr ⟨rfl, List.forall_mem_cons.mpr ⟨rfl, List.forall_mem_cons.mpr ⟨rfl, List.forall_mem_cons.mpr ⟨rfl, List.forall_mem_cons.mpr ⟨rfl, List.forall_mem_cons.mpr ⟨rfl, List.forall_mem_cons.mpr ⟨rfl, List.forall_mem_cons.mpr ⟨rfl, List.forall_mem_cons.mpr ⟨rfl, List.forall_mem_cons.mpr ⟨rfl, List.forall_mem_cons.mpr ⟨rfl, List.forall_mem_cons.mpr ⟨rfl, List.forall_mem_cons.mpr ⟨rfl, List.forall_mem_cons.mpr ⟨rfl, List.forall_mem_cons.mpr ⟨rfl, List.forall_mem_cons.mpr ⟨rfl, List.forall_mem_cons.mpr ⟨rfl, List.forall_mem_cons.mpr ⟨rfl, List.forall_mem_cons.mpr ⟨rfl, List.forall_mem_cons.mpr ⟨rfl, List.forall_mem_cons.mpr ⟨rfl, List.forall_mem_cons.mpr ⟨rfl, List.forall_mem_cons.mpr ⟨rfl, List.forall_mem_cons.mpr ⟨rfl, List.forall_mem_cons.mpr ⟨rfl, List.forall_mem_cons.mpr ⟨rfl, List.forall_mem_cons.mpr ⟨rfl, List.forall_mem_cons.mpr ⟨rfl, fun _ h => absurd h List.not_mem_nil⟩⟩⟩⟩⟩⟩⟩⟩⟩⟩⟩⟩⟩⟩⟩⟩⟩⟩⟩⟩⟩⟩⟩⟩⟩⟩⟩⟩⟩⟩
theorem zL_ok2_7 : ∀ q ∈ zLk7, zTab (q.2.2.2.2.2.2) = some (.code (zY q.2.1) (zCode q.2.1) (zMx q.2.1) (zRt q.2.1)) := List.forall_mem_cons.mpr ⟨rfl, List.forall_mem_cons.mpr ⟨rfl, List.forall_mem_cons.mpr ⟨rfl, List.forall_mem_cons.mpr ⟨rfl, List.forall_mem_cons.mpr ⟨rfl, List.forall_mem_cons.mpr ⟨rfl, List.forall_mem_cons.mpr ⟨rfl, List.forall_mem_cons.mpr ⟨rfl, List.forall_mem_cons.mpr ⟨rfl, List.forall_mem_cons.mpr ⟨rfl, List.forall_mem_cons.mpr ⟨rfl, List.forall_mem_cons.mpr ⟨rfl, List.forall_mem_cons.mpr ⟨rfl, List.forall_mem_cons.mpr ⟨rfl, List.forall_mem_cons.mpr ⟨rfl, List.forall_mem_cons.mpr ⟨rfl, List.forall_mem_cons.mpr ⟨rfl, List.forall_mem_cons.mpr ⟨rfl, List.forall_mem_cons.mpr ⟨rfl, List.forall_mem_cons.mpr ⟨rfl, List.forall_mem_cons.mpr ⟨rfl, List.forall_mem_cons.mpr ⟨rfl, List.forall_mem_cons.mpr ⟨rfl, List.forall_mem_cons.mpr ⟨rfl, List.forall_mem_cons.mpr ⟨rfl, List.forall_mem_cons.mpr ⟨rfl, List.forall_mem_cons.mpr ⟨rfl, List.forall_mem_cons.mpr ⟨rfl, List.forall_mem_cons.mpr ⟨rfl, List.forall_mem_cons.mpr ⟨rfl, fun _ h => absurd h List.not_mem_nil⟩⟩⟩⟩⟩⟩⟩⟩⟩⟩⟩⟩⟩⟩⟩⟩⟩⟩⟩⟩⟩⟩⟩⟩⟩⟩⟩⟩⟩⟩
theorem zL_ok2_8 : ∀ q ∈ zLk8, zTab (q.2.2.2.2.2.2) = some (.code (zY q.2.1) (zCode q.2.1) (zMx q.2.1) (zRt q.2.1)) := List.forall_mem_cons.mpr ⟨rfl, List.forall_mem_cons.mpr ⟨rfl, List.forall_mem_cons.mpr ⟨rfl, List.forall_mem_cons.mpr ⟨rfl, List.forall_mem_cons.mpr ⟨rfl, List.forall_mem_cons.mpr ⟨rfl, List.forall_mem_cons.mpr ⟨rfl, List.forall_mem_cons.mpr ⟨rfl, List.forall_mem_cons.mpr ⟨rfl, List.forall_mem_cons.mpr ⟨rfl, List.forall_mem_cons.mpr ⟨rfl, List.forall_mem_cons.mpr ⟨rfl, List.forall_mem_cons.mpr ⟨rfl, List.forall_mem_cons.mpr ⟨rfl, List.forall_mem_cons.mpr ⟨rfl, List.forall_mem_cons.mpr ⟨rfl, List.forall_mem_cons.mpr ⟨rfl, List.forall_mem_cons.mpr ⟨rfl, List.forall_mem_cons.mpr ⟨rfl, List.forall_mem_cons.mpr ⟨rfl, List.forall_mem_cons.mpr ⟨rfl, List.forall_mem_cons.mpr ⟨rfl, List.forall_mem_cons.mpr ⟨rfl, List.forall_mem_cons.mpr ⟨rfl, List.forall_mem_cons.mpr ⟨rfl, List.forall_mem_cons.mpr ⟨rfl, List.forall_mem_cons.mpr ⟨rfl, List.forall_mem_cons.mpr ⟨rfl, List.forall_mem_cons.mpr ⟨rfl, List.forall_mem_cons.mpr ⟨rfl, fun _ h => absurd h List.not_mem_nil⟩⟩⟩⟩⟩⟩⟩⟩⟩⟩⟩⟩⟩⟩⟩⟩⟩⟩⟩⟩⟩⟩⟩⟩⟩⟩⟩⟩⟩⟩
theorem zL_ok2_9 : ∀ q ∈ zLk9, zTab (q.2.2.2.2.2.2) = some (.code (zY q.2.1) (zCode q.2.1) (zMx q.2.1) (zRt q.2.1)) := List.forall_mem_cons.mpr ⟨rfl, List.forall_mem_cons.mpr ⟨rfl, List.forall_mem_cons.mpr ⟨rfl, List.forall_mem_cons.mpr ⟨rfl, List.forall_mem_cons.mpr ⟨rfl, List.forall_mem_cons.mpr ⟨rfl, List.forall_mem_cons.mpr ⟨rfl, List.forall_mem_cons.mpr ⟨rfl, List.forall_mem_cons.mpr ⟨rfl, List.forall_mem_cons.mpr ⟨rfl, List.forall_mem_cons.mpr ⟨rfl, List.forall_mem_cons.mpr ⟨rfl, List.forall_mem_cons.mpr ⟨rfl, List.forall_mem_cons.mpr ⟨rfl, List.forall_mem_cons.mpr ⟨rfl, List.forall_mem_cons.mpr ⟨rfl, List.forall_mem_cons.mpr ⟨rfl, List.forall_mem_cons.mpr ⟨rfl, List.forall_mem_cons.mpr ⟨rfl, List.forall_mem_cons.mpr ⟨rfl, List.forall_mem_cons.mpr ⟨rfl, List.forall_mem_cons.mpr ⟨rfl, List.forall_mem_cons.mpr ⟨rfl, List.forall_mem_cons.mpr ⟨rfl, List.forall_mem_cons.mpr ⟨rfl, List.forall_mem_cons.mpr ⟨rfl, List.forall_mem_cons.mpr ⟨rfl, List.forall_mem_cons.mpr ⟨rfl, List.forall_mem_cons.mpr ⟨rfl, List.forall_mem_cons.mpr ⟨rfl, fun _ h => absurd h List.not_mem_nil⟩⟩⟩⟩⟩⟩⟩⟩⟩⟩⟩⟩⟩⟩⟩⟩⟩⟩⟩⟩⟩⟩⟩⟩⟩⟩⟩⟩⟩⟩
theorem zL_ok2_10 : ∀ q ∈ zLk10, zTab (q.2.2.2.2.2.2) = some (.code (zY q.2.1) (zCode q.2.1) (zMx q.2.1) (zRt q.2.1)) := List.forall_mem_cons.mpr ⟨rfl, List.forall_mem_cons.mpr ⟨rfl, List.forall_mem_cons.mpr ⟨rfl, List.forall_mem_cons.mpr ⟨rfl, List.forall_mem_cons.mpr ⟨rfl, List.forall_mem_cons.mpr ⟨rfl, List.forall_mem_cons.mpr ⟨rfl, List.forall_mem_cons.mpr ⟨rfl, List.forall_mem_cons.mpr ⟨rfl, List.forall_mem_cons.mpr ⟨rfl, List.forall_mem_cons.mpr ⟨rfl, List.forall_mem_cons.mpr ⟨rfl, List.forall_mem_cons.mpr ⟨rfl, List.forall_mem_cons.mpr ⟨rfl, List.forall_mem_cons.mpr ⟨rfl, List.forall_mem_cons.mpr ⟨rfl, List.forall_mem_cons.mpr ⟨rfl, List.forall_mem_cons.mpr ⟨rfl, List.forall_mem_cons.mpr ⟨rfl, List.forall_mem_cons.mpr ⟨rfl, List.forall_mem_cons.mpr ⟨rfl, List.forall_mem_cons.mpr ⟨rfl, List.forall_mem_cons.mpr ⟨rfl, List.forall_mem_cons.mpr ⟨rfl, List.forall_mem_cons.mpr ⟨rfl, List.forall_mem_cons.mpr ⟨rfl, List.forall_mem_cons.mpr ⟨rfl, List.forall_mem_cons.mpr ⟨rfl, List.forall_mem_cons.mpr ⟨rfl, List.forall_mem_cons.mpr ⟨rfl, fun _ h => absurd h List.not_mem_nil⟩⟩⟩⟩⟩⟩⟩⟩⟩⟩⟩⟩⟩⟩⟩⟩⟩⟩⟩⟩⟩⟩⟩⟩⟩⟩⟩⟩⟩⟩
theorem zL_ok2_11 : ∀ q ∈ zLk11, zTab (q.2.2.2.2.2.2) = some (.code (zY q.2.1) (zCode q.2.1) (zMx q.2.1) (zRt q.2.1)) := List.forall_mem_cons.mpr ⟨rfl, List.forall_mem_cons.mpr ⟨rfl, List.forall_mem_cons.mpr ⟨rfl, List.forall_mem_cons.mpr ⟨rfl, List.forall_mem_cons.mpr ⟨rfl, List.forall_mem_cons.mpr ⟨rfl, List.forall_mem_cons.mpr ⟨rfl, List.forall_mem_cons.mpr ⟨rfl, List.forall_mem_cons.mpr ⟨rfl, List.forall_mem_cons.mpr ⟨rfl, List.forall_mem_cons.mpr ⟨rfl, List.forall_mem_cons.mpr ⟨rfl, List.forall_mem_cons.mpr ⟨rfl, List.forall_mem_cons.mpr ⟨rfl, List.forall_mem_cons.mpr ⟨rfl, List.forall_mem_cons.mpr ⟨rfl, List.forall_mem_cons.mpr ⟨rfl, List.forall_mem_cons.mpr ⟨rfl, List.forall_mem_cons.mpr ⟨rfl, List.forall_mem_cons.mpr ⟨rfl, List.forall_mem_cons.mpr ⟨rfl, List.forall_mem_cons.mpr ⟨rfl, List.forall_mem_cons.mpr ⟨rfl, List.forall_mem_cons.mpr ⟨rfl, List.forall_mem_cons.mpr ⟨rfl, List.forall_mem_cons.mpr ⟨rfl, List.forall_mem_cons.mpr ⟨rfl, List.forall_mem_cons.mpr ⟨rfl, List.forall_mem_cons.mpr ⟨rfl, List.forall_mem_cons.mpr ⟨rfl, fun _ h => absurd h List.not_mem_nil⟩⟩⟩⟩⟩⟩⟩⟩⟩⟩⟩⟩⟩⟩⟩⟩⟩⟩⟩⟩⟩⟩⟩⟩⟩⟩⟩⟩⟩⟩
theorem zL_ok2_12 : ∀ q ∈ zLk12, zTab (q.2.2.2.2.2.2) = some (.code (zY q.2.1) (zCode q.2.1) (zMx q.2.1) (zRt q.2.1)) := List.forall_mem_cons.mpr ⟨rfl, List.forall_mem_cons.mpr ⟨rfl, List.forall_mem_cons.mpr ⟨rfl, List.forall_mem_cons.mpr ⟨rfl, List.forall_mem_cons.mpr ⟨rfl, List.forall_mem_cons.mpr ⟨rfl, List.forall_mem_cons.mpr ⟨rfl, fun _ h => absurd h List.not_mem_nil⟩⟩⟩⟩⟩⟩⟩
theorem zL_ok2 : ∀ q ∈ zLkT, zTab (q.2.2.2.2.2.2) = some (.code (zY q.2.1) (zCode q.2.1) (zMx q.2.1) (zRt q.2.1)) := by
  intro q hq
  unfold zLkT at hq
  simp only [List.mem_append] at hq
  rcases hq with h | h | h | h | h | h | h | h | h | h | h | h | h
  · exact zL_ok2_0 q h
  · exact zL_ok2_1 q h
  · exact zL_ok2_2 q h
  · exact zL_ok2_3 q h
  · exact zL_ok2_4 q h
  · exact zL_ok2_5 q h
  · exact zL_ok2_6 q h
  · exact zL_ok2_7 q h
  · exact zL_ok2_8 q h
  · exact zL_ok2_9 q h
  · exact zL_ok2_10 q h
  · exact zL_ok2_11 q h
  · exact zL_ok2_12 q h
theorem zL_k0_0 : ∀ q ∈ zLk0, plainFor (zY q.2.1) = true := by decide +kernel
theorem zL_k0_1 : ∀ q ∈ zLk1, plainFor (zY q.2.1) = true := by decide +kernel
theorem zL_k0_2 : ∀ q ∈ zLk2, plainFor (zY q.2.1) = true := by decide +kernel
theorem zL_k0_3 : ∀ q ∈ zLk3, plainFor (zY q.2.1) = true := by decide +kernel
theorem zL_k0_4 : ∀ q ∈ zLk4, plainFor (zY q.2.1) = true := by decide +kernel
theorem zL_k0_5 : ∀ q ∈ zLk5, plainFor (zY q.2.1) = true := by decide +kernel
theorem zL_k0_6 : ∀ q ∈ zLk6, plainFor (zY q.2.1) = true := by decide +kernel
theorem zL_k0_7 : ∀ q ∈ zLk7, plainFor (zY q.2.1) = true := by decide +kernel
theorem zL_k0_8 : ∀ q ∈ zLk8, plainFor (zY q.2.1) = true := by decide +kernel
theorem zL_k0_9 : ∀ q ∈ zLk9, plainFor (zY q.2.1) = true := by decide +kernel
theorem zL_k0_10 : ∀ q ∈ zLk10, plainFor (zY q.2.1) = true := by decide +kernel
theorem zL_k0_11 : ∀ q ∈ zLk11, plainFor (zY q.2.1) = true := by decide +kernel
theorem zL_k0_12 : ∀ q ∈ zLk12, plainFor (zY q.2.1) = true := by decide +kernel
theorem zL_k0 : ∀ q ∈ zLkT, plainFor (zY q.2.1) = true := by
  intro q hq
  unfold zLkT at hq
  simp only [List.mem_append] at hq
  rcases hq with h | h | h | h | h | h | h | h | h | h | h | h | h
  · exact zL_k0_0 q h
  · exact zL_k0_1 q h
  · exact zL_k0_2 q h
  · exact zL_k0_3 q h
  · exact zL_k0_4 q h
  · exact zL_k0_5 q h
  · exact zL_k0_6 q h
  · exact zL_k0_7 q h
  · exact zL_k0_8 q h
  · exact zL_k0_9 q h
  · exact zL_k0_10 q h
  · exact zL_k0_11 q h
  · exact zL_k0_12 q h
theorem zL_k1_0 : ∀ q ∈ zLk0, (zY q.2.1).cls = zOwn q.2.1.2.2.1 := by decide +kernel
theorem zL_k1_1 : ∀ q ∈ zLk1, (zY q.2.1).cls = zOwn q.2.1.2.2.1 := by decide +kernel
theorem zL_k1_2 : ∀ q ∈ zLk2, (zY q.2.1).cls = zOwn q.2.1.2.2.1 := by decide +kernel
theorem zL_k1_3 : ∀ q ∈ zLk3, (zY q.2.1).cls = zOwn q.2.1.2.2.1 := by decide +kernel
theorem zL_k1_4 : ∀ q ∈ zLk4, (zY q.2.1).cls = zOwn q.2.1.2.2.1 := by decide +kernel
theorem zL_k1_5 : ∀ q ∈ zLk5, (zY q.2.1).cls = zOwn q.2.1.2.2.1 := by decide +kernel
theorem zL_k1_6 : ∀ q ∈ zLk6, (zY q.2.1).cls = zOwn q.2.1.2.2.1 := by decide +kernel
theorem zL_k1_7 : ∀ q ∈ zLk7, (zY q.2.1).cls = zOwn q.2.1.2.2.1 := by decide +kernel
theorem zL_k1_8 : ∀ q ∈ zLk8, (zY q.2.1).cls = zOwn q.2.1.2.2.1 := by decide +kernel
theorem zL_k1_9 : ∀ q ∈ zLk9, (zY q.2.1).cls = zOwn q.2.1.2.2.1 := by decide +kernel
theorem zL_k1_10 : ∀ q ∈ zLk10, (zY q.2.1).cls = zOwn q.2.1.2.2.1 := by decide +kernel
theorem zL_k1_11 : ∀ q ∈ zLk11, (zY q.2.1).cls = zOwn q.2.1.2.2.1 := by decide +kernel
theorem zL_k1_12 : ∀ q ∈ zLk12, (zY q.2.1).cls = zOwn q.2.1.2.2.1 := by decide +kernel
theorem zL_k1 : ∀ q ∈ zLkT, (zY q.2.1).cls = zOwn q.2.1.2.2.1 := by
  intro q hq
  unfold zLkT at hq
  simp only [List.mem_append] at hq
  rcases hq with h | h | h | h | h | h | h | h | h | h | h | h | h
  · exact zL_k1_0 q h
  · exact zL_k1_1 q h
  · exact zL_k1_2 q h
  · exact zL_k1_3 q h
  · exact zL_k1_4 q h
  · exact zL_k1_5 q h
  · exact zL_k1_6 q h
  · exact zL_k1_7 q h
  · exact zL_k1_8 q h
  · exact zL_k1_9 q h
  · exact zL_k1_10 q h
  · exact zL_k1_11 q h
  · exact zL_k1_12 q h
theorem zL_k2_0 : ∀ q ∈ zLk0, (zY q.2.1).cls ≠ "java/lang/invoke/MethodHandle" ∧ (zY q.2.1).cls ≠ "java/lang/invoke/VarHandle" := by decide +kernel
theorem zL_k2_1 : ∀ q ∈ zLk1, (zY q.2.1).cls ≠ "java/lang/invoke/MethodHandle" ∧ (zY q.2.1).cls ≠ "java/lang/invoke/VarHandle" := by decide +kernel
theorem zL_k2_2 : ∀ q ∈ zLk2, (zY q.2.1).cls ≠ "java/lang/invoke/MethodHandle" ∧ (zY q.2.1).cls ≠ "java/lang/invoke/VarHandle" := by decide +kernel
theorem zL_k2_3 : ∀ q ∈ zLk3, (zY q.2.1).cls ≠ "java/lang/invoke/MethodHandle" ∧ (zY q.2.1).cls ≠ "java/lang/invoke/VarHandle" := by decide +kernel
theorem zL_k2_4 : ∀ q ∈ zLk4, (zY q.2.1).cls ≠ "java/lang/invoke/MethodHandle" ∧ (zY q.2.1).cls ≠ "java/lang/invoke/VarHandle" := by decide +kernel
theorem zL_k2_5 : ∀ q ∈ zLk5, (zY q.2.1).cls ≠ "java/lang/invoke/MethodHandle" ∧ (zY q.2.1).cls ≠ "java/lang/invoke/VarHandle" := by decide +kernel
theorem zL_k2_6 : ∀ q ∈ zLk6, (zY q.2.1).cls ≠ "java/lang/invoke/MethodHandle" ∧ (zY q.2.1).cls ≠ "java/lang/invoke/VarHandle" := by decide +kernel
theorem zL_k2_7 : ∀ q ∈ zLk7, (zY q.2.1).cls ≠ "java/lang/invoke/MethodHandle" ∧ (zY q.2.1).cls ≠ "java/lang/invoke/VarHandle" := by decide +kernel
theorem zL_k2_8 : ∀ q ∈ zLk8, (zY q.2.1).cls ≠ "java/lang/invoke/MethodHandle" ∧ (zY q.2.1).cls ≠ "java/lang/invoke/VarHandle" := by decide +kernel
theorem zL_k2_9 : ∀ q ∈ zLk9, (zY q.2.1).cls ≠ "java/lang/invoke/MethodHandle" ∧ (zY q.2.1).cls ≠ "java/lang/invoke/VarHandle" := by decide +kernel
theorem zL_k2_10 : ∀ q ∈ zLk10, (zY q.2.1).cls ≠ "java/lang/invoke/MethodHandle" ∧ (zY q.2.1).cls ≠ "java/lang/invoke/VarHandle" := by decide +kernel
theorem zL_k2_11 : ∀ q ∈ zLk11, (zY q.2.1).cls ≠ "java/lang/invoke/MethodHandle" ∧ (zY q.2.1).cls ≠ "java/lang/invoke/VarHandle" := by decide +kernel
theorem zL_k2_12 : ∀ q ∈ zLk12, (zY q.2.1).cls ≠ "java/lang/invoke/MethodHandle" ∧ (zY q.2.1).cls ≠ "java/lang/invoke/VarHandle" := by decide +kernel
theorem zL_k2 : ∀ q ∈ zLkT, (zY q.2.1).cls ≠ "java/lang/invoke/MethodHandle" ∧ (zY q.2.1).cls ≠ "java/lang/invoke/VarHandle" := by
  intro q hq
  unfold zLkT at hq
  simp only [List.mem_append] at hq
  rcases hq with h | h | h | h | h | h | h | h | h | h | h | h | h
  · exact zL_k2_0 q h
  · exact zL_k2_1 q h
  · exact zL_k2_2 q h
  · exact zL_k2_3 q h
  · exact zL_k2_4 q h
  · exact zL_k2_5 q h
  · exact zL_k2_6 q h
  · exact zL_k2_7 q h
  · exact zL_k2_8 q h
  · exact zL_k2_9 q h
  · exact zL_k2_10 q h
  · exact zL_k2_11 q h
  · exact zL_k2_12 q h
theorem zL_k3_0 : ∀ q ∈ zLk0, (parseMethodDescriptor (zY q.2.1).desc).map (fun d => d.parameters.length) = some (zNp q.2.1) := by decide +kernel
theorem zL_k3_1 : ∀ q ∈ zLk1, (parseMethodDescriptor (zY q.2.1).desc).map (fun d => d.parameters.length) = some (zNp q.2.1) := by decide +kernel
theorem zL_k3_2 : ∀ q ∈ zLk2, (parseMethodDescriptor (zY q.2.1).desc).map (fun d => d.parameters.length) = some (zNp q.2.1) := by decide +kernel
theorem zL_k3_3 : ∀ q ∈ zLk3, (parseMethodDescriptor (zY q.2.1).desc).map (fun d => d.parameters.length) = some (zNp q.2.1) := by decide +kernel
theorem zL_k3_4 : ∀ q ∈ zLk4, (parseMethodDescriptor (zY q.2.1).desc).map (fun d => d.parameters.length) = some (zNp q.2.1) := by decide +kernel
theorem zL_k3_5 : ∀ q ∈ zLk5, (parseMethodDescriptor (zY q.2.1).desc).map (fun d => d.parameters.length) = some (zNp q.2.1) := by decide +kernel
theorem zL_k3_6 : ∀ q ∈ zLk6, (parseMethodDescriptor (zY q.2.1).desc).map (fun d => d.parameters.length) = some (zNp q.2.1) := by decide +kernel
theorem zL_k3_7 : ∀ q ∈ zLk7, (parseMethodDescriptor (zY q.2.1).desc).map (fun d => d.parameters.length) = some (zNp q.2.1) := by decide +kernel
theorem zL_k3_8 : ∀ q ∈ zLk8, (parseMethodDescriptor (zY q.2.1).desc).map (fun d => d.parameters.length) = some (zNp q.2.1) := by decide +kernel
theorem zL_k3_9 : ∀ q ∈ zLk9, (parseMethodDescriptor (zY q.2.1).desc).map (fun d => d.parameters.length) = some (zNp q.2.1) := by decide +kernel
theorem zL_k3_10 : ∀ q ∈ zLk10, (parseMethodDescriptor (zY q.2.1).desc).map (fun d => d.parameters.length) = some (zNp q.2.1) := by decide +kernel
theorem zL_k3_11 : ∀ q ∈ zLk11, (parseMethodDescriptor (zY q.2.1).desc).map (fun d => d.parameters.length) = some (zNp q.2.1) := by decide +kernel
theorem zL_k3_12 : ∀ q ∈ zLk12, (parseMethodDescriptor (zY q.2.1).desc).map (fun d => d.parameters.length) = some (zNp q.2.1) := by decide +kernel
theorem zL_k3 : ∀ q ∈ zLkT, (parseMethodDescriptor (zY q.2.1).desc).map (fun d => d.parameters.length) = some (zNp q.2.1) := by
  intro q hq
  unfold zLkT at hq
  simp only [List.mem_append] at hq
  rcases hq with h | h | h | h | h | h | h | h | h | h | h | h | h
  · exact zL_k3_0 q h
  · exact zL_k3_1 q h
  · exact zL_k3_2 q h
  · exact zL_k3_3 q h
  · exact zL_k3_4 q h
  · exact zL_k3_5 q h
  · exact zL_k3_6 q h
  · exact zL_k3_7 q h
  · exact zL_k3_8 q h
  · exact zL_k3_9 q h
  · exact zL_k3_10 q h
  · exact zL_k3_11 q h
  · exact zL_k3_12 q h
theorem zL_k4_0 : ∀ q ∈ zLk0, (zKd q.2.1 = 2 → (zY q.2.1).name = "<init>" ∧ zRt q.2.1 = none) := by decide +kernel
theorem zL_k4_1 : ∀ q ∈ zLk1, (zKd q.2.1 = 2 → (zY q.2.1).name = "<init>" ∧ zRt q.2.1 = none) := by decide +kernel
theorem zL_k4_2 : ∀ q ∈ zLk2, (zKd q.2.1 = 2 → (zY q.2.1).name = "<init>" ∧ zRt q.2.1 = none) := by decide +kernel
theorem zL_k4_3 : ∀ q ∈ zLk3, (zKd q.2.1 = 2 → (zY q.2.1).name = "<init>" ∧ zRt q.2.1 = none) := by decide +kernel
theorem zL_k4_4 : ∀ q ∈ zLk4, (zKd q.2.1 = 2 → (zY q.2.1).name = "<init>" ∧ zRt q.2.1 = none) := by decide +kernel
theorem zL_k4_5 : ∀ q ∈ zLk5, (zKd q.2.1 = 2 → (zY q.2.1).name = "<init>" ∧ zRt q.2.1 = none) := by decide +kernel
theorem zL_k4_6 : ∀ q ∈ zLk6, (zKd q.2.1 = 2 → (zY q.2.1).name = "<init>" ∧ zRt q.2.1 = none) := by decide +kernel
theorem zL_k4_7 : ∀ q ∈ zLk7, (zKd q.2.1 = 2 → (zY q.2.1).name = "<init>" ∧ zRt q.2.1 = none) := by decide +kernel
theorem zL_k4_8 : ∀ q ∈ zLk8, (zKd q.2.1 = 2 → (zY q.2.1).name = "<init>" ∧ zRt q.2.1 = none) := by decide +kernel
theorem zL_k4_9 : ∀ q ∈ zLk9, (zKd q.2.1 = 2 → (zY q.2.1).name = "<init>" ∧ zRt q.2.1 = none) := by decide +kernel
theorem zL_k4_10 : ∀ q ∈ zLk10, (zKd q.2.1 = 2 → (zY q.2.1).name = "<init>" ∧ zRt q.2.1 = none) := by decide +kernel
theorem zL_k4_11 : ∀ q ∈ zLk11, (zKd q.2.1 = 2 → (zY q.2.1).name = "<init>" ∧ zRt q.2.1 = none) := by decide +kernel
theorem zL_k4_12 : ∀ q ∈ zLk12, (zKd q.2.1 = 2 → (zY q.2.1).name = "<init>" ∧ zRt q.2.1 = none) := by decide +kernel
theorem zL_k4 : ∀ q ∈ zLkT, (zKd q.2.1 = 2 → (zY q.2.1).name = "<init>" ∧ zRt q.2.1 = none) := by
  intro q hq
  unfold zLkT at hq
  simp only [List.mem_append] at hq
  rcases hq with h | h | h | h | h | h | h | h | h | h | h | h | h
  · exact zL_k4_0 q h
  · exact zL_k4_1 q h
  · exact zL_k4_2 q h
  · exact zL_k4_3 q h
  · exact zL_k4_4 q h
  · exact zL_k4_5 q h
  · exact zL_k4_6 q h
  · exact zL_k4_7 q h
  · exact zL_k4_8 q h
  · exact zL_k4_9 q h
  · exact zL_k4_10 q h
  · exact zL_k4_11 q h
  · exact zL_k4_12 q h
theorem zL_ok3 : ∀ q ∈ zLkT, plainFor (zY q.2.1) = true ∧ (zY q.2.1).cls = zOwn q.2.1.2.2.1 ∧ (zY q.2.1).cls ≠ "java/lang/invoke/MethodHandle" ∧ (zY q.2.1).cls ≠ "java/lang/invoke/VarHandle" ∧ (parseMethodDescriptor (zY q.2.1).desc).map (fun d => d.parameters.length) = some (zNp q.2.1) ∧ (zKd q.2.1 = 2 → (zY q.2.1).name = "<init>" ∧ zRt q.2.1 = none) := fun q hq => ⟨zL_k0 q hq, zL_k1 q hq, (zL_k2 q hq).1, (zL_k2 q hq).2, zL_k3 q hq, zL_k4 q hq⟩
