-- turning and mirroring
theorem pIn_m1 {x : Int32} (h : pIn x (-64) 63 = true) : pIn (-1 - x) (-64) 63 = true := by
  unfold pIn at h ⊢
  rw [Bool.and_eq_true, decide_eq_true_eq, decide_eq_true_eq] at h ⊢
  obtain ⟨h1, h2⟩ := h
  have e0 : (-1 : Int32).toInt = -1 := by decide
  have e3 : (-64 : Int32).toInt = -64 := by decide
  have e4 : (63 : Int32).toInt = 63 := by decide
  rw [Int32.le_iff_toInt_le, e3] at h1
  rw [Int32.le_iff_toInt_le, e4] at h2
  rw [Int32.le_iff_toInt_le, Int32.le_iff_toInt_le, e3, e4, Int32.toInt_sub, e0, Int.bmod_eq_of_le (by omega) (by omega)]
  omega
theorem mQ.c8 {I : Nat → Nat → Int32} {J : Nat → Nat → Int64} {x : Int32} (hx : pIn x (-64) 63 = true) (h : mI I) : mQ I J (aj_u I 22 8 x) J (I 168 3, x, I 22 9) := by
  refine ⟨eqO.u (by decide), ?_, by unfold kV; rw [aj_u_o _ _ (by decide), aj_u_s, aj_u_k _ _ _ (by decide)], fun _ _ => rfl⟩
  obtain ⟨h1, h2, h3, h4, h5⟩ := h
  refine ⟨?_, ?_, ?_, ?_, ?_⟩
  · rw [aj_u_o _ _ (by decide), aj_u_o _ _ (by decide)]; exact h1
  · rw [aj_u_k _ _ _ (by decide)]; exact h2
  · rw [aj_u_o _ _ (by decide), aj_u_o _ _ (by decide)]; exact h3
  · rw [aj_u_s]; exact hx
  · rw [aj_u_k _ _ _ (by decide)]; exact h5
theorem aj_no3 {a : Nat} {x : Int32} {z : Option Value} (h0 : 22 ≠ a) (hz : z ≠ some (.ref a)) : aj_no a [some (.ref 22), some (.int x), z] [.ref 22] := by
  refine ⟨fun v hv => ?_, fun v hv => ?_⟩
  · rw [List.mem_singleton.mp hv]
    intro e; injection e with e; exact h0 e
  · simp only [List.mem_cons, List.not_mem_nil, or_false] at hv
    rcases hv with rfl | rfl | rfl
    · intro e; injection e with e; injection e with e; exact h0 e
    · intro e; injection e with e; cases e
    · exact hz
