-- TEXTS OF THE REFERENCE
theorem tX.add {V : Nat → Nat → Option Nat} {L : List Nat} {a : Nat} (h : tX V L) (h2 : ∀ f ∈ tP, ∀ i j, V i j ≠ some f) (ha : a ∉ tP) : tX V (L ++ [a]) := fun f hf => ⟨by simp [(h f hf).1]; exact fun e => ha (e ▸ hf), fun i _ j => h2 f hf i j⟩
theorem mI.cg {I I2 : Nat → Nat → Int32} (h : mI I) (e : ∀ i ∈ mS, I2 i = I i) : mI I2 := by
  unfold mI at h ⊢
  rw [e 88 (by decide), e 104 (by decide), e 22 (by decide), e 136 (by decide), e 152 (by decide)]
  exact h
def mRT (L : List Nat) (I : Nat → Nat → Int32) (J : Nat → Nat → Int64) (V : Nat → Nat → Option Nat) (N : Nat → Nat) (I1 : Nat → Nat → Int32) (J1 : Nat → Nat → Int64) (V1 : Nat → Nat → Option Nat) (N1 : Nat → Nat) : Prop := (∀ i ∈ L, i ∉ mS0 → I1 i = I i) ∧ mI I1 ∧ kV I1 = kV I ∧ ∀ i ∈ L, V1 i = V i ∧ N1 i = N i
theorem mRT.of {L : List Nat} {I I1 I2 : Nat → Nat → Int32} {J J2 : Nat → Nat → Int64} {V V2 : Nat → Nat → Option Nat} {N N2 : Nat → Nat} {a t : Nat} (hB : bV V N L) (haL : a ∉ L) (hRA : mRA a I J I1 J) (hk : tK (L ++ [a]) I1 J V (aj_ur N a t) I2 J2 V2 N2) : mRT L I J V N I2 J2 V2 N2 := by
  have hS : ∀ i ∈ mS, i ∈ L := fun i hi => bL hB i (by revert i hi; decide)
  have hl : ∀ i ∈ L, i ∈ L ++ [a] := fun i hi => List.mem_append_left _ hi
  have hne : ∀ i ∈ L, i ≠ a := fun i hi e => haL (e ▸ hi)
  refine ⟨fun i hi hn => ((hk i (hl i hi)).1).trans (hRA.1 i (fun z => (List.mem_cons.mp z).elim (hne i hi) hn)), hRA.2.1.cg (fun i hi => (hk i (hl i (hS i hi))).1), (kV.rw (hk 168 (hl 168 (hS 168 (by decide)))).1 (hk 22 (hl 22 (hS 22 (by decide)))).1 (hk 136 (hl 136 (hS 136 (by decide)))).1 (hk 152 (hl 152 (hS 152 (by decide)))).1).trans hRA.2.2.1, fun i hi => ⟨(hk i (hl i hi)).2.2.1, ((hk i (hl i hi)).2.2.2).trans (aj_ur_n _ _ (hne i hi))⟩⟩
