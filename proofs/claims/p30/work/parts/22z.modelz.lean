-- orders
theorem sq_pos {x : Int32} (h : pIn x (-127) 127 = true) : 0 ≤ (x * x).toInt ∧ (x * x).toInt ≤ 16129 ∧ (x ≠ 0 → 0 < (x * x).toInt) := by
  obtain ⟨a, ha, ha0, e⟩ := nI_abs h
  have e2 : x * x = nI (a * a) := by
    have m : nI a * nI a = nI (a * a) := (Int32.ofNat_mul a a).symm
    rw [← m, ← e]
    split
    · rfl
    · rw [Int32.zero_sub, Int32.neg_mul, Int32.mul_neg, Int32.neg_neg]
  have b := sq_up ha ha
  rw [e2, show (nI (a * a)).toInt = ((a * a : Nat) : Int) from Int32.toInt_ofNat_of_lt (by omega)]
  refine ⟨by omega, by omega, fun hn => ?_⟩
  have := Nat.mul_pos (ha0 hn) (ha0 hn)
  omega
theorem mOrd_self {a b c : Int32} (ha : pIn a (-127) 127 = true) (hb : pIn b (-127) 127 = true) (h0 : ¬ (a = 0 ∧ b = 0)) : mOrd a b c a b c = 0 := by
  have z : mCr a b a b = 0 := by unfold mCr; rw [Int32.mul_comm a b, Int32.sub_self]
  have p : 0 < mDt a b a b := by
    unfold mDt
    obtain ⟨a1, a2, a3⟩ := sq_pos ha
    obtain ⟨b1, b2, b3⟩ := sq_pos hb
    have e0 : (0 : Int32).toInt = 0 := by decide
    rw [Int32.lt_iff_toInt_lt, e0, Int32.toInt_add, Int.bmod_eq_of_le (by omega) (by omega)]
    by_cases q : a = 0
    · have := b3 (fun w => h0 ⟨q, w⟩)
      omega
    · have := a3 q
      omega
  unfold mOrd
  rw [if_pos rfl, if_pos z, if_pos p]
theorem mOA_self {I : Nat → Nat → Int32} {j : Nat} (h : mI I) (hj : j < 8) : mOA I j j = 0 := by
  obtain ⟨h1, h2⟩ := h.1 j hj
  unfold mOA mL mLk
  have o : ∀ s : Int32, 1 - 2 * (s &&& 1) = 1 ∨ 1 - 2 * (s &&& 1) = -1 := by
    intro s
    rcases pk_and1 s with w | w
    · rw [w]; exact Or.inl (by decide)
    · rw [w]; exact Or.inr (by decide)
  by_cases z : I 88 j = 0
  · by_cases z2 : I 104 j = 0
    · rw [if_pos z, if_pos z2]
      rcases o (I 120 j) with w | w
      · rw [w]; exact mOrd_self (by decide) h2 (fun q => absurd q.1 (by decide))
      · rw [w]; exact mOrd_self (by decide) h2 (fun q => absurd q.1 (by decide))
    · rw [if_pos z, if_neg z2]
      exact mOrd_self h1 h2 (fun q => z2 q.2)
  · rw [if_neg z]
    exact mOrd_self h1 h2 (fun q => z q.1)
def mTu (I : Nat → Nat → Int32) (i j k : Nat) : Int32 := mCr (I 136 j - I 136 i) (I 152 j - I 152 i) (I 136 k - I 136 i) (I 152 k - I 152 i)
def mOut (I : Nat → Nat → Int32) (j : Nat) : Bool := !(decide (I 136 j = I 22 8) && decide (I 152 j = I 22 9))
theorem cnt_one {f : Nat → Bool} {j : Nat} : nI (cnt f j) + pOne (bI (f j)) = nI (cnt f (j + 1)) := by
  show nI (cnt f j) + pOne (bI (f j)) = nI (cnt f j + if f j = true then 1 else 0)
  cases f j
  · exact Int32.add_zero _
  · exact nI_1 _
theorem cnt_mono {f g : Nat → Bool} (h : ∀ k, f k = true → g k = true) (n : Nat) : cnt f n ≤ cnt g n := by
  induction n with
  | zero => exact Nat.le_refl _
  | succ n ih =>
    unfold cnt
    cases z : f n
    · simp; omega
    · rw [h n z]; simp; omega
/-- one that is left out -/
theorem cnt_lt {f g : Nat → Bool} (h : ∀ k, f k = true → g k = true) {k n : Nat} (hk : k < n) (hf : f k = false) (hg : g k = true) : cnt f n < cnt g n := by
  induction n with
  | zero => exact absurd hk (Nat.not_lt_zero _)
  | succ n ih =>
    by_cases e : k = n
    · subst e
      unfold cnt
      rw [hf, hg]
      have := cnt_mono h k
      simp; omega
    · have := ih (by omega)
      unfold cnt
      cases z : f n
      · simp; omega
      · rw [h n z]; simp; omega
