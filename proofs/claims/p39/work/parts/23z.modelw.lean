-- rows of places
theorem nI_rm {a b : Nat} (ha : a < 2 ^ 31) (hb : b < 2 ^ 31) : nI a - nI a / nI b * nI b = nI (a % b) := by
  have e : a - a / b * b = a % b := by have := Nat.div_add_mod a b; rw [Nat.mul_comm] at this; omega
  rw [show nI a / nI b = nI (a / b) from (Int32.ofNat_div ha hb).symm, show nI (a / b) * nI b = nI (a / b * b) from (Int32.ofNat_mul _ _).symm, show nI a - nI (a / b * b) = nI (a - a / b * b) from (Int32.ofNat_sub _ _ (Nat.div_mul_le_self a b)).symm, e]
theorem nI_nz {t : Nat} (h : 0 < t) (h2 : t < 2 ^ 31) : ¬ nI t = 0 := fun e => by
  have := (nI_eq (a := t) (b := 0) h2 (by decide)).mp e
  omega
def aV (I : Nat → Nat → Int32) (a t : Nat) : Prop := ∀ k, k < t → ∃ m, m < 12 ∧ I a k = nI m
-- the cells' part of the digest
theorem pOne_b {b : Bool} : pOne (bI b) = bI b := by cases b <;> rfl
theorem dvC_m {I : Nat → Nat → Int32} {J : Nat → Nat → Int64} {k : Nat} (hY : jI I J) (hk : k < 8) (d : Int64) : mx (mx (mx (mx (mx (mx (mx (mx d (I 88 k)) (I 104 k)) (I 120 k)) (upR (J 41 k) (mU I k))) (lwA (I 88 k, I 104 k, I 120 k))) (grR (J 41 k) (mU I k) 29)) (egR (I 88 k, I 104 k, I 120 k))) (nI (fdN false (cV I) k)) = dvC (cV I) k d := by
  unfold dvC anUp anGr
  rw [hY k hk, cV_l hk]
  rfl
theorem dvP_m {I : Nat → Nat → Int32} {a b : Nat} (ha : a < 8) (hb : b < 8) (d : Int64) : mx (mx (mx d (mOA I a b)) (pOne (bI (lkA (I 88 a, I 104 a, I 120 a) (I 88 b, I 104 b, I 120 b))))) (sdA (I 88 a, I 104 a, I 120 a) (I 88 b, I 104 b, I 120 b)) = dvP (cV I) a b d := by
  unfold dvP
  rw [cV_l ha, cV_l hb, pOne_b]
  rfl
theorem fO_k {F : Nat → Int64 → Int64} {j k : Nat} {D r r1 : Int64} (h : r = fO (fun n d => F (j + 1 + n) d) (k - (j + 1)) D) (hjk : j < k) (e : r1 = F k r) : r1 = fO (fun n d => F (j + 1 + n) d) (k + 1 - (j + 1)) D := by
  rw [show k + 1 - (j + 1) = k - (j + 1) + 1 by omega]
  show r1 = F (j + 1 + (k - (j + 1))) (fO (fun n d => F (j + 1 + n) d) (k - (j + 1)) D)
  rw [← h, show j + 1 + (k - (j + 1)) = k by omega]
  exact e
