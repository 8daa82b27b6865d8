-- rounds
theorem mOut_e {I I2 : Nat → Nat → Int32} {a k : Nat} (h : ∀ i, i ≠ a → I2 i = I i) (h0 : 22 ≠ a) (h1 : 136 ≠ a) (h2 : 152 ≠ a) : mOut I2 k = mOut I k := by unfold mOut; rw [h 136 h1, h 152 h2, h 22 h0]
def mQA (a : Nat) (I : Nat → Nat → Int32) (J : Nat → Nat → Int64) (I1 : Nat → Nat → Int32) (J1 : Nat → Nat → Int64) (q : vw) : Prop := eqO (a :: mS0) I I1 ∧ mI I1 ∧ kV I1 = q ∧ ∀ i, i ≠ 41 → J1 i = J i
def mRA (a : Nat) (I : Nat → Nat → Int32) (J : Nat → Nat → Int64) (I1 : Nat → Nat → Int32) (J1 : Nat → Nat → Int64) : Prop := eqO (a :: mS0) I I1 ∧ mI I1 ∧ kV I1 = kV I ∧ ∀ i, i ≠ 41 → J1 i = J i
theorem mQA.of {V : Nat → Nat → Option Nat} {N : Nat → Nat} {L : List Nat} {I I0 I1 : Nat → Nat → Int32} {J J0 : Nat → Nat → Int64} {a : Nat} {q : vw} (hB : bV V N L) (haL : a ∉ L) (h : mQ I J I0 J0 q) (h1 : ∀ i, i ≠ a → I1 i = I0 i) : mQA a I J I1 J0 q := by
  have q0 : ∀ i ∈ aj_BL, I1 i = I0 i := fun i hi => h1 i (fun e => haL (e ▸ hB.1 i hi))
  refine ⟨fun i hi => (h1 i (fun e => hi (e ▸ List.mem_cons_self))).trans (h.1 i (fun z => hi (List.mem_cons_of_mem _ z))), ?_, (kV.rw (q0 168 (by decide)) (q0 22 (by decide)) (q0 136 (by decide)) (q0 152 (by decide))).trans h.2.2.1, h.2.2.2⟩
  obtain ⟨m1, m2, m3, m4, m5⟩ := h.2.1
  refine ⟨?_, ?_, ?_, ?_, ?_⟩
  · rw [q0 88 (by decide), q0 104 (by decide)]; exact m1
  · rw [q0 22 (by decide)]; exact m2
  · rw [q0 136 (by decide), q0 152 (by decide)]; exact m3
  · rw [q0 22 (by decide)]; exact m4
  · rw [q0 22 (by decide)]; exact m5
theorem mRA.of {V : Nat → Nat → Option Nat} {N : Nat → Nat} {L : List Nat} {I I0 I1 : Nat → Nat → Int32} {J J0 : Nat → Nat → Int64} {a : Nat} (hB : bV V N L) (haL : a ∉ L) (h : mR I J I0 J0) (h1 : ∀ i, i ≠ a → I1 i = I0 i) : mRA a I J I1 J0 := mQA.of (q := kV I) hB haL h h1
