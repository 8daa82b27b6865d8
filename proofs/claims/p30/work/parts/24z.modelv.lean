-- bits
def bt (M k : Nat) : Bool := decide (M / 2 ^ k % 2 = 1)
theorem bt_sm : ∀ k, k < 12 → ((nI k &&& 31).toBitVec.smod 32).toNat = k := by decide +kernel
theorem mk_or (k : Nat) (hk : k < 12) (M : Nat) (hM : M < 2 ^ k) : nI M ||| ((1 : Int32) <<< (nI k &&& 31)) = nI (M + 2 ^ k) := by
  have h2 : 2 ^ k ≤ 2 ^ 11 := Nat.pow_le_pow_right (n := 2) (by decide) (show k ≤ 11 by omega)
  have e : (1 : Int32) <<< (nI k &&& 31) = nI (1 * 2 ^ k) := pk_shlN (n := 1) _ k (bt_sm k hk) (by omega)
  rw [e, Nat.one_mul]
  apply Int32.toBitVec_inj.mp
  apply BitVec.eq_of_toNat_eq
  show ((nI M).toBitVec ||| (nI (2 ^ k)).toBitVec).toNat = (nI (M + 2 ^ k)).toBitVec.toNat
  rw [BitVec.toNat_or, pk_tn (by omega), pk_tn (by omega), pk_tn (by omega), Nat.add_comm, Nat.or_comm]
  have z := Nat.two_pow_add_eq_or_of_lt hM 1
  rw [Nat.mul_one] at z
  exact z.symm
theorem bt_1 (m : Nat) (h : m < 2 ^ 31) : nI m &&& 1 = bI (decide (m % 2 = 1)) := by
  have h1 : (nI m &&& 1).toBitVec.toNat = m % 2 := by
    show ((nI m).toBitVec &&& 1#32).toNat = m % 2
    rw [BitVec.toNat_and, pk_tn (by omega)]
    exact Nat.and_one_is_mod m
  apply Int32.toBitVec_inj.mp
  apply BitVec.eq_of_toNat_eq
  rw [h1]
  rcases Nat.mod_two_eq_zero_or_one m with z | z <;> rw [z] <;> rfl
theorem bt_and (k : Nat) (hk : k < 12) (M : Nat) (hM : M < 4096) : (nI M >>> (nI k &&& 31)) &&& 1 = bI (bt M k) := by
  have h := Nat.div_le_self M (2 ^ k)
  rw [pk_shrN (by omega) _ k (bt_sm k hk)]
  exact bt_1 _ (by omega)
theorem mBC_cnt' : ∀ a, a < 64 → ∀ b, b < 64 → mBC (nI (64 * a + b)) = nI (cnt (bt (64 * a + b)) 12) := by decide +kernel
theorem mBC_cnt (M : Nat) (hM : M < 4096) : mBC (nI M) = nI (cnt (bt M) 12) := by
  have h := mBC_cnt' (M / 64) (by omega) (M % 64) (by omega)
  rwa [Nat.div_add_mod] at h
theorem bt_0 {k : Nat} : bt 0 k = false := by unfold bt; rw [Nat.zero_div]; rfl
theorem bt_new {M k : Nat} (h : M < 2 ^ k) : bt (M + 2 ^ k) k = true := by
  unfold bt
  rw [Nat.add_div_right _ (Nat.two_pow_pos k), Nat.div_eq_of_lt h]; rfl
theorem bt_old (k : Nat) (_ : k < 12) (M : Nat) (_ : M < 2 ^ k) (b : Nat) (hb : b < k) : bt (M + 2 ^ k) b = bt M b := by
  have e1 : 2 ^ k = 2 ^ b * (2 * 2 ^ (k - b - 1)) := by
    rw [← Nat.pow_succ', ← Nat.pow_add]
    congr 1
    omega
  unfold bt
  rw [e1, Nat.add_mul_div_left _ _ (Nat.two_pow_pos b), Nat.add_mul_mod_self_left]
theorem cnt_up {f : Nat → Bool} {l m : Nat} (h : l ≤ m) : cnt f l ≤ cnt f m := by
  induction m with
  | zero => rw [Nat.le_zero.mp h]; exact Nat.le_refl _
  | succ m ih =>
    rcases Nat.lt_or_ge m l with w | w
    · rw [show l = m + 1 by omega]; exact Nat.le_refl _
    · exact Nat.le_trans (ih w) cnt_s
def mB (M k : Nat) (bb : Int32) : Prop := (M = 0 ∧ bb = -9) ∨ ∃ b, b < k ∧ bt M b = true ∧ bb = nI b
theorem mB.up {M k : Nat} {bb : Int32} (h : mB M k bb) : mB M (k + 1) bb := by
  rcases h with h | ⟨b, h1, h2, h3⟩
  · exact Or.inl h
  · exact Or.inr ⟨b, by omega, h2, h3⟩
theorem mB.new {M k : Nat} (h : M < 2 ^ k) : mB (M + 2 ^ k) (k + 1) (nI k) := Or.inr ⟨k, by omega, bt_new h, rfl⟩
theorem mB.old {M k b : Nat} (hk : k < 12) (h : M < 2 ^ k) (hb : b < k) (h2 : bt M b = true) : mB (M + 2 ^ k) (k + 1) (nI b) := Or.inr ⟨b, by omega, (bt_old k hk M h b hb).trans h2, rfl⟩
def gB (M b k l : Nat) : Bool := bt M l && (!decide (l = b) && !decide (l = k))
theorem gB_lt {M b k n : Nat} (hb : b < n) (hk : k < n) (hn : n ≤ 12) (h1 : bt M b = true) (h2 : bt M k = true) (hne : k ≠ b) : 1 + cnt (gB M b k) n < cnt (bt M) 12 := by
  have a1 : cnt (gB M b k) n < cnt (fun l => bt M l && !decide (l = b)) n := cnt_lt (k := k) (fun l h => by unfold gB at h; cases z : bt M l <;> cases z2 : decide (l = b) <;> simp_all) hk (by unfold gB; simp) (by simp [h2, hne])
  have a2 : cnt (fun l => bt M l && !decide (l = b)) n < cnt (bt M) n := cnt_lt (k := b) (fun l h => by cases z : bt M l <;> simp_all) hb (by simp) h1
  have a3 : cnt (bt M) n ≤ cnt (bt M) 12 := cnt_up hn
  omega
theorem cnt_pos {f : Nat → Bool} {b n : Nat} (hb : b < n) (h : f b = true) : 0 < cnt f n := by
  have := cnt_lt (f := fun _ => false) (g := f) (fun _ h => absurd h (by decide)) hb rfl h
  omega
theorem mTu_0 {I : Nat → Nat → Int32} {i k : Nat} : mTu I i k k = 0 := by unfold mTu mCr; rw [Int32.mul_comm (I 136 k - I 136 i), Int32.sub_self]
theorem bV.new {V : Nat → Nat → Option Nat} {N : Nat → Nat} {L : List Nat} {a t : Nat} (h : bV V N L) (ha : a ∉ L) : bV V (aj_ur N a t) (L ++ [a]) := by
  have q : ∀ i ∈ aj_BL, aj_ur N a t i = N i := fun i hi => aj_ur_n N t (fun e => ha (e ▸ h.1 i hi))
  obtain ⟨h1, h2, h3, h4, h5, h6⟩ := h
  refine ⟨fun i hi => List.mem_append_left _ (h1 i hi), h2, h3, h4, ?_, h6⟩
  rw [q 27 (by decide), q 43 (by decide), q 25 (by decide), q 41 (by decide), q 24 (by decide), q 40 (by decide), q 56 (by decide), q 72 (by decide), q 88 (by decide), q 104 (by decide), q 120 (by decide), q 136 (by decide), q 152 (by decide), q 168 (by decide)]
  exact h5
theorem aV.u {I : Nat → Nat → Int32} {a t c k : Nat} (h : aV I a t) (hk : k < 12) : aV (aj_u I a c (nI k)) a t := by
  intro j hj
  by_cases e : j = c
  · subst e; exact ⟨k, hk, aj_u_s _ _ _ _⟩
  · rw [aj_u_k _ _ _ e]; exact h j hj
theorem aV.z {I : Nat → Nat → Int32} {a t : Nat} : aV (aj_z I a 0) a t := fun j _ => ⟨0, by decide, if_pos rfl⟩
