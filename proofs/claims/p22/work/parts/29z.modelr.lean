-- the reference's sort
def sT : List Nat := [184, 200, 216, 57, 232]
def sP (I : Nat → Nat → Int32) : Prop := (∀ j, j < 8 → pIn (I 184 j) (-127) 127 = true ∧ pIn (I 200 j) (-127) 127 = true) ∧ ∀ j, j < 8 → ∃ c, c < 8 ∧ I 232 j = nI c
def sI (I I2 : Nat → Nat → Int32) : Prop := eqO (sT ++ mS) I I2 ∧ mI I2 ∧ kV I2 = kV I ∧ sP I2
theorem sI.s {I I2 : Nat → Nat → Int32} {k : Nat} {v : Int32} (h : sI I I2) : sI I (aj_u I2 216 k v) := by
  obtain ⟨h1, h2, h3, h4, h5⟩ := h
  refine ⟨eqO.tr h1 (eqO.u (by decide)), ?_, (kV.uo (by decide) (by decide) (by decide) (by decide)).trans h3, ?_, ?_⟩
  · obtain ⟨m1, m2, m3, m4, m5⟩ := h2
    refine ⟨?_, ?_, ?_, ?_, ?_⟩ <;> (repeat rw [aj_u_o _ _ (by decide)]) <;> assumption
  · rw [aj_u_o _ _ (by decide), aj_u_o _ _ (by decide)]; exact h4
  · rw [aj_u_o _ _ (by decide)]; exact h5
theorem sI.x {I I2 : Nat → Nat → Int32} {i k : Nat} {v : Int32} (hi : i = 184 ∨ i = 200) (hv : pIn v (-127) 127 = true) (h : sI I I2) : sI I (aj_u I2 i k v) := by
  obtain ⟨h1, h2, h3, h4, h5⟩ := h
  have n : ∀ j ∈ mS, j ≠ i := by intro j hj; rcases hi with rfl | rfl <;> (revert j; decide)
  refine ⟨eqO.tr h1 (eqO.u (by rcases hi with rfl | rfl <;> decide)), ?_, (kV.uo (n 168 (by decide)) (n 22 (by decide)) (n 136 (by decide)) (n 152 (by decide))).trans h3, ?_, ?_⟩
  · obtain ⟨m1, m2, m3, m4, m5⟩ := h2
    refine ⟨?_, ?_, ?_, ?_, ?_⟩
    · rw [aj_u_o _ _ (n 88 (by decide)), aj_u_o _ _ (n 104 (by decide))]; exact m1
    · rw [aj_u_o _ _ (n 22 (by decide))]; exact m2
    · rw [aj_u_o _ _ (n 136 (by decide)), aj_u_o _ _ (n 152 (by decide))]; exact m3
    · rw [aj_u_o _ _ (n 22 (by decide))]; exact m4
    · rw [aj_u_o _ _ (n 22 (by decide))]; exact m5
  · intro j hj
    unfold aj_u
    refine ⟨?_, ?_⟩
    · split
      · exact hv
      · exact (h4 j hj).1
    · split
      · exact hv
      · exact (h4 j hj).2
  · have n5 : 232 ≠ i := by omega
    rw [aj_u_o _ _ n5]; exact h5
theorem sI.n {I I2 : Nat → Nat → Int32} {k c : Nat} (hc : c < 8) (h : sI I I2) : sI I (aj_u I2 232 k (nI c)) := by
  obtain ⟨h1, h2, h3, h4, h5⟩ := h
  refine ⟨eqO.tr h1 (eqO.u (by decide)), ?_, (kV.uo (by decide) (by decide) (by decide) (by decide)).trans h3, ?_, ?_⟩
  · obtain ⟨m1, m2, m3, m4, m5⟩ := h2
    refine ⟨?_, ?_, ?_, ?_, ?_⟩ <;> (repeat rw [aj_u_o _ _ (by decide)]) <;> assumption
  · rw [aj_u_o _ _ (by decide), aj_u_o _ _ (by decide)]; exact h4
  · intro j hj
    by_cases e : j = k
    · subst e; exact ⟨c, hc, aj_u_s _ _ _ _⟩
    · rw [aj_u_k _ _ _ e]; exact h5 j hj
theorem sI.m {I I2 : Nat → Nat → Int32} {n : Nat} {x u s : Int32} (hx : pIn x (-127) 127 = true) (hu : pIn u (-127) 127 = true) (h : sI I I2) : sI I (aj_u (aj_u (aj_u I2 88 n x) 104 n u) 120 n s) := by
  obtain ⟨h1, h2, h3, h4, h5⟩ := h
  refine ⟨eqO.tr h1 (eqO.tr (eqO.tr (eqO.u (by decide)) (eqO.u (by decide))) (eqO.u (by decide))), (mI.xu (Or.inr rfl) hu (mI.xu (Or.inl rfl) hx h2)).s, ?_, ?_, ?_⟩
  · exact (kV.uo (by decide) (by decide) (by decide) (by decide)).trans ((kV.uo (by decide) (by decide) (by decide) (by decide)).trans ((kV.uo (by decide) (by decide) (by decide) (by decide)).trans h3))
  · rw [aj_u_o _ _ (by decide), aj_u_o _ _ (by decide), aj_u_o _ _ (by decide), aj_u_o _ _ (by decide), aj_u_o _ _ (by decide), aj_u_o _ _ (by decide)]; exact h4
  · rw [aj_u_o _ _ (by decide), aj_u_o _ _ (by decide), aj_u_o _ _ (by decide)]; exact h5
theorem sI.h {I I2 : Nat → Nat → Int32} {v : Int32} (h : sI I I2) : sI I (aj_u I2 168 0 v) := by
  obtain ⟨h1, h2, h3, h4, h5⟩ := h
  refine ⟨eqO.tr h1 (eqO.u (by decide)), h2.h, (kV.h (by decide)).trans h3, ?_, ?_⟩
  · rw [aj_u_o _ _ (by decide), aj_u_o _ _ (by decide)]; exact h4
  · rw [aj_u_o _ _ (by decide)]; exact h5
theorem cnt_but {k : Nat} : ∀ n, k < n → cnt (fun l => !decide (l = k)) n < n := by
  intro n hk
  have := cnt_lt (f := fun l => !decide (l = k)) (g := fun _ => true) (fun _ _ => rfl) hk (by simp) rfl
  have := cnt_le (fun _ => true) n
  omega
theorem sI.z0 {I0 : Nat → Nat → Int32} (h : mI I0) : sI I0 (aj_z (aj_z (aj_z (aj_z I0 184 0) 200 0) 216 0) 232 0) := by
  have q : ∀ i, i ∉ sT → aj_z (aj_z (aj_z (aj_z I0 184 0) 200 0) 216 0) 232 0 i = I0 i := by
    intro i hi
    unfold sT at hi
    simp only [List.mem_cons, List.not_mem_nil, or_false, not_or] at hi
    rw [aj_z_o _ _ hi.2.2.2.2, aj_z_o _ _ hi.2.2.1, aj_z_o _ _ hi.2.1, aj_z_o _ _ hi.1]
  refine ⟨fun i hi => q i (fun z => hi (List.mem_append_left _ z)), ?_, kV.rw (q 168 (by decide)) (q 22 (by decide)) (q 136 (by decide)) (q 152 (by decide)), ?_, ?_⟩
  · obtain ⟨m1, m2, m3, m4, m5⟩ := h
    refine ⟨?_, ?_, ?_, ?_, ?_⟩ <;> (repeat rw [q _ (by decide)]) <;> assumption
  · intro j _; exact ⟨(show pIn 0 (-127) 127 = true by decide), (show pIn 0 (-127) 127 = true by decide)⟩
  · intro j _; exact ⟨0, by decide, rfl⟩
theorem sI.of {I I0 I1 : Nat → Nat → Int32} {J J0 : Nat → Nat → Int64} (h : mR I J I0 J0) (h1 : sI I0 I1) : sI I I1 := ⟨eqO.tr (h.1.mono (fun i hi => List.mem_append_right _ hi)) h1.1, h1.2.1, h1.2.2.1.trans h.2.2.1, h1.2.2.2⟩
