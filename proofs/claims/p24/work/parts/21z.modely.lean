-- the reference's places
theorem nP {x : Int32} {I : Nat → Nat → Int32} {n : Nat} (hn : n ≤ 12) (he : I 22 7 = nI n) (h : (!pIn x 0 (I 22 7 - 1)) = false) : ∃ j, j < n ∧ x = nI j := by
  rw [he] at h
  have h0 : pIn x 0 (nI n - 1) = true := by
    cases z : pIn x 0 (nI n - 1) with
    | true => rfl
    | false => rw [z] at h; exact absurd h (by decide)
  unfold pIn at h0
  rw [Bool.and_eq_true, decide_eq_true_eq, decide_eq_true_eq] at h0
  obtain ⟨h1, h2⟩ := h0
  have e0 : (0 : Int32).toInt = 0 := by decide
  have e1 : (1 : Int32).toInt = 1 := by decide
  rw [Int32.le_iff_toInt_le, e0] at h1
  rw [Int32.le_iff_toInt_le, Int32.toInt_sub, show (nI n).toInt = (n : Int) from Int32.toInt_ofNat_of_lt (by omega), e1, Int.bmod_eq_of_le (by omega) (by omega)] at h2
  refine ⟨x.toInt.toNat, by omega, ?_⟩
  apply Int32.toInt_inj.mp
  rw [show (nI x.toInt.toNat).toInt = (x.toInt.toNat : Int) from Int32.toInt_ofNat_of_lt (by omega)]
  omega
theorem nI_dm {n : Nat} (h : 0 < n) (hn : n ≤ 12) : nI n - 1 = nI (n - 1) := by
  apply Int32.toInt_inj.mp
  have e1 : (1 : Int32).toInt = 1 := by decide
  rw [Int32.toInt_sub, show (nI n).toInt = (n : Int) from Int32.toInt_ofNat_of_lt (by omega), e1, Int.bmod_eq_of_le (by omega) (by omega), show (nI (n - 1)).toInt = ((n - 1 : Nat) : Int) from Int32.toInt_ofNat_of_lt (by omega)]
  omega
theorem pIn_sub {x y : Int32} (h : pIn x (-64) 63 = true) (g : pIn y (-64) 63 = true) : pIn (x - y) (-127) 127 = true := by
  unfold pIn at h g ⊢
  rw [Bool.and_eq_true, decide_eq_true_eq, decide_eq_true_eq] at h g ⊢
  obtain ⟨h1, h2⟩ := h
  obtain ⟨g1, g2⟩ := g
  have e1 : (-127 : Int32).toInt = -127 := by decide
  have e2 : (127 : Int32).toInt = 127 := by decide
  have e3 : (-64 : Int32).toInt = -64 := by decide
  have e4 : (63 : Int32).toInt = 63 := by decide
  rw [Int32.le_iff_toInt_le, e3] at h1 g1
  rw [Int32.le_iff_toInt_le, e4] at h2 g2
  rw [Int32.le_iff_toInt_le, Int32.le_iff_toInt_le, e1, e2, Int32.toInt_sub, Int.bmod_eq_of_le (by omega) (by omega)]
  omega
theorem nAt {x y : Int32} (h : (!(pIn x (-64) 63 && pIn y (-64) 63)) = false) : pIn x (-64) 63 = true ∧ pIn y (-64) 63 = true := by
  cases z : pIn x (-64) 63 <;> cases z2 : pIn y (-64) 63 <;> simp_all
theorem mR.xy {I : Nat → Nat → Int32} {J : Nat → Nat → Int64} {i k : Nat} {v : Int32} (hi : i = 136 ∨ i = 152) (hv : pIn v (-64) 63 = true) (h : mI I) : mR I J (aj_u I i k v) J :=
  ⟨eqO.u (by rcases hi with rfl | rfl <;> decide), h.xy hi hv, kV.u (by omega) (by omega) (by omega), fun _ _ => rfl⟩
theorem mR.mn {I : Nat → Nat → Int32} {J : Nat → Nat → Int64} {n : Nat} (hn : n ≤ 12) (h : mI I) : mR I J (aj_u I 22 7 (nI n)) J := by
  refine ⟨eqO.u (by decide), ?_, kV.u (by decide) (by decide) (by decide), fun _ _ => rfl⟩
  obtain ⟨h1, h2, h3, h4, h5⟩ := h
  refine ⟨?_, ?_, ?_, ?_, ?_⟩
  · rw [aj_u_o _ _ (by decide), aj_u_o _ _ (by decide)]; exact h1
  · exact ⟨n, hn, aj_u_s _ _ _ _⟩
  · rw [aj_u_o _ _ (by decide), aj_u_o _ _ (by decide)]; exact h3
  · rw [aj_u_k _ _ _ (by decide)]; exact h4
  · rw [aj_u_k _ _ _ (by decide)]; exact h5
theorem mQ.ce {I : Nat → Nat → Int32} {J : Nat → Nat → Int64} {x y : Int32} (hx : pIn x (-64) 63 = true) (hy : pIn y (-64) 63 = true) (h : mI I) : mQ I J (aj_u (aj_u I 22 8 x) 22 9 y) J (I 168 3, x, y) := by
  refine ⟨eqO.tr (eqO.u (by decide)) (eqO.u (by decide)), ?_, by unfold kV; rw [aj_u_o _ _ (by decide), aj_u_o _ _ (by decide), aj_u_k _ _ _ (by decide), aj_u_s, aj_u_s], fun _ _ => rfl⟩
  obtain ⟨h1, h2, h3, h4, h5⟩ := h
  refine ⟨?_, ?_, ?_, ?_, ?_⟩
  · rw [aj_u_o _ _ (by decide), aj_u_o _ _ (by decide), aj_u_o _ _ (by decide), aj_u_o _ _ (by decide)]; exact h1
  · rw [aj_u_k _ _ _ (by decide), aj_u_k _ _ _ (by decide)]; exact h2
  · rw [aj_u_o _ _ (by decide), aj_u_o _ _ (by decide), aj_u_o _ _ (by decide), aj_u_o _ _ (by decide)]; exact h3
  · rw [aj_u_k _ _ _ (by decide), aj_u_s]; exact hx
  · rw [aj_u_s]; exact hy
