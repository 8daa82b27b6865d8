-- turning and mirroring
theorem aj_no3 {a : Nat} {x : Int32} {z : Option Value} (h0 : 22 ≠ a) (hz : z ≠ some (.ref a)) : aj_no a [some (.ref 22), some (.int x), z] [.ref 22] := by
  refine ⟨fun v hv => ?_, fun v hv => ?_⟩
  · rw [List.mem_singleton.mp hv]
    intro e; injection e with e; exact h0 e
  · simp only [List.mem_cons, List.not_mem_nil, or_false] at hv
    rcases hv with rfl | rfl | rfl
    · intro e; injection e with e; injection e with e; exact h0 e
    · intro e; injection e with e; cases e
    · exact hz
