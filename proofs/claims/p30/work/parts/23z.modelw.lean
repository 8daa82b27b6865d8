-- rows of places
theorem nI_rm {a b : Nat} (ha : a < 2 ^ 31) (hb : b < 2 ^ 31) : nI a - nI a / nI b * nI b = nI (a % b) := by
  have e : a - a / b * b = a % b := by have := Nat.div_add_mod a b; rw [Nat.mul_comm] at this; omega
  rw [show nI a / nI b = nI (a / b) from (Int32.ofNat_div ha hb).symm, show nI (a / b) * nI b = nI (a / b * b) from (Int32.ofNat_mul _ _).symm, show nI a - nI (a / b * b) = nI (a - a / b * b) from (Int32.ofNat_sub _ _ (Nat.div_mul_le_self a b)).symm, e]
theorem nI_nz {t : Nat} (h : 0 < t) (h2 : t < 2 ^ 31) : ¬ nI t = 0 := fun e => by
  have := (nI_eq (a := t) (b := 0) h2 (by decide)).mp e
  omega
def aV (I : Nat → Nat → Int32) (a t : Nat) : Prop := ∀ k, k < t → ∃ m, m < 12 ∧ I a k = nI m
