-- the reference's acts
theorem tH_f {I : Nat → Nat → Int32} {w : Int32} : tH I false w = I := rfl
theorem mR.t {I : Nat → Nat → Int32} {J : Nat → Nat → Int64} {v : Int32} (h : mI I) : mR I J (aj_u I 22 0 v) J := ⟨eqO.u (by decide), h.t, kV.t, fun _ _ => rfl⟩
theorem mR.tw {I : Nat → Nat → Int32} {J : Nat → Nat → Int64} {b : Bool} {w : Int32} (h : mI I) : mR I J (tH I b w) J := by
  cases b
  · exact mR.rf h
  · exact mR.t h
theorem mR.th {I : Nat → Nat → Int32} {J : Nat → Nat → Int64} {b : Bool} {w v : Int32} (h : mI I) : mR I J (tH (aj_u I 22 0 v) b w) J := mR.tr (mR.t h) (mR.tw h.t)
theorem mR.hs {I : Nat → Nat → Int32} {J : Nat → Nat → Int64} {k : Nat} {v : Int32} (hk : k ≠ 3) (h : mI I) : mR I J (aj_u I 168 k v) J := ⟨eqO.u (by decide), h.h, kV.h hk, fun _ _ => rfl⟩
theorem mR.mv {I : Nat → Nat → Int32} {J : Nat → Nat → Int64} {j : Nat} {x u s v : Int32} {z : Int64} (hx : pIn x (-127) 127 = true) (hu : pIn u (-127) 127 = true) (h : mI I) : mR I J (aj_u (aj_u (aj_u (aj_u I 88 j x) 104 j u) 120 j s) 168 0 v) (aj_u J 41 j z) :=
  ⟨eqO.tr (eqO.tr (eqO.tr (eqO.u (by decide)) (eqO.u (by decide))) (eqO.u (by decide))) (eqO.u (by decide)), ((mI.xu (Or.inr rfl) hu (mI.xu (Or.inl rfl) hx h)).s).h, (kV.h (by decide)).trans ((kV.uo (by decide) (by decide) (by decide) (by decide)).trans ((kV.uo (by decide) (by decide) (by decide) (by decide)).trans (kV.uo (by decide) (by decide) (by decide) (by decide)))), fun i hi => aj_u_o _ _ hi⟩
theorem nC {x : Int32} (h : (!pIn x 0 7) = false) : ∃ j, j < 8 ∧ x = nI j := by
  obtain ⟨j, h1, h2⟩ := pIn_nI (x := x) 7 (by decide) (show pIn x 0 7 = true by simpa using h)
  exact ⟨j, by omega, h2⟩
def pC2 (x y : Int32) : Bool := !pIn x 0 7 || !pIn y 0 7
theorem n2 {x y : Int32} (h : pC2 x y = false) : ∃ j k, j < 8 ∧ k < 8 ∧ x = nI j ∧ y = nI k := by
  unfold pC2 at h
  have a1 : (!pIn x 0 7) = false := by cases z : pIn x 0 7 <;> simp_all
  have a2 : (!pIn y 0 7) = false := by cases z : pIn y 0 7 <;> simp_all
  obtain ⟨j, h1, h2⟩ := nC a1
  obtain ⟨k, h3, h4⟩ := nC a2
  exact ⟨j, k, h1, h3, h2, h4⟩
theorem pIn_neg {x : Int32} (h : pIn x (-127) 127 = true) : pIn (-x) (-127) 127 = true := by
  unfold pIn at h ⊢
  rw [Bool.and_eq_true, decide_eq_true_eq, decide_eq_true_eq] at h ⊢
  obtain ⟨h1, h2⟩ := h
  have e1 : (-127 : Int32).toInt = -127 := by decide
  have e2 : (127 : Int32).toInt = 127 := by decide
  rw [Int32.le_iff_toInt_le, e1] at h1
  rw [Int32.le_iff_toInt_le, e2] at h2
  rw [Int32.le_iff_toInt_le, Int32.le_iff_toInt_le, e1, e2, Int32.toInt_neg, Int.bmod_eq_of_le (by omega) (by omega)]
  omega
