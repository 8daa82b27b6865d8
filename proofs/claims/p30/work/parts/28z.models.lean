-- two rows made
def mRD (a d : Nat) (I I1 : Nat → Nat → Int32) : Prop := eqO (a :: d :: mS0) I I1 ∧ mI I1 ∧ kV I1 = kV I
theorem mRD.of {V : Nat → Nat → Option Nat} {N : Nat → Nat} {L : List Nat} {I I1 I2 : Nat → Nat → Int32} {J J1 : Nat → Nat → Int64} {a d : Nat} (hB : bV V N L) (hdL : d ∉ L) (h : mRA a I J I1 J1) (h1 : ∀ i, i ≠ d → I2 i = I1 i) : mRD a d I I2 := by
  have q : ∀ i ∈ aj_BL, I2 i = I1 i := fun i hi => h1 i (fun e => hdL (e ▸ hB.1 i hi))
  refine ⟨fun i hi => (h1 i (fun e => hi (e ▸ List.mem_cons_of_mem _ List.mem_cons_self))).trans (h.1 i (fun z => hi ?_)), ?_, (kV.rw (q 168 (by decide)) (q 22 (by decide)) (q 136 (by decide)) (q 152 (by decide))).trans h.2.2.1⟩
  · rcases List.mem_cons.mp z with w | w
    · exact w ▸ List.mem_cons_self
    · exact List.mem_cons_of_mem _ (List.mem_cons_of_mem _ w)
  obtain ⟨m1, m2, m3, m4, m5⟩ := h.2.1
  refine ⟨?_, ?_, ?_, ?_, ?_⟩
  · rw [q 88 (by decide), q 104 (by decide)]; exact m1
  · rw [q 22 (by decide)]; exact m2
  · rw [q 136 (by decide), q 152 (by decide)]; exact m3
  · rw [q 22 (by decide)]; exact m4
  · rw [q 22 (by decide)]; exact m5
theorem no_dig1 {a : Nat} {v : Int64} {x : Int32} (h0 : 22 ≠ a) : aj_no a [some (.ref 22), some (.long v), none, some (.int x), none, none, none, none, none] [] := by
  refine aj_no.of ?_
  have h22 : (22 != a) = true := by rw [bne_iff_ne]; exact h0
  simp only [aj_nob, aj_nv, List.all_cons, List.all_nil, Bool.and_true, Bool.true_and, h22]
theorem no_dig2 {a d : Nat} {v : Int64} {x y : Int32} {z : Option Int32} (h0 : 22 ≠ d) (had : a ≠ d) : aj_no d [some (.ref 22), some (.long v), none, some (.ref a), some (.ref a), some (.int x), some (.int y), z.map Value.int, none] [] := by
  refine aj_no.of ?_
  have h22 : (22 != d) = true := by rw [bne_iff_ne]; exact h0
  have h23 : (a != d) = true := by rw [bne_iff_ne]; exact had
  cases z <;> simp only [aj_nob, aj_nv, List.all_cons, List.all_nil, Bool.and_true, Bool.true_and, h22, h23, Option.map_none, Option.map_some]
