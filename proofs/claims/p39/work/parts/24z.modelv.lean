-- bits
def bt (M k : Nat) : Bool := decide (M / 2 ^ k % 2 = 1)
theorem bt_sm : ∀ k, k < 12 → ((nI k &&& 31).toBitVec.smod 32).toNat = k := by decide +kernel
theorem mk_or (k : Nat) (hk : k < 12) (M : Nat) (hM : M < 2 ^ k) : nI M ||| ((1 : Int32) <<< (nI k &&& 31)) = nI (M + 2 ^ k) := by
  have h2 : 2 ^ k ≤ 2 ^ 11 := Nat.pow_le_pow_right (n := 2) (by decide) (show k ≤ 11 by omega)
  have e : (1 : Int32) <<< (nI k &&& 31) = nI (1 * 2 ^ k) := pk_shlN (n := 1) _ k (bt_sm k hk) (by omega)
  rw [e, Nat.one_mul]
  apply Int32.toBitVec_inj.mp
  apply BitVec.eq_of_toNat_eq
  show ((nI M).toBitVec ||| (nI (2 ^ k)).toBitVec).toNat = (nI (M + 2 ^ k)).toBitVec.toNat
  rw [BitVec.toNat_or, pk_tn (by omega), pk_tn (by omega), pk_tn (by omega), Nat.add_comm, Nat.or_comm]
  have z := Nat.two_pow_add_eq_or_of_lt hM 1
  rw [Nat.mul_one] at z
  exact z.symm
theorem bt_1 (m : Nat) (h : m < 2 ^ 31) : nI m &&& 1 = bI (decide (m % 2 = 1)) := by
  have h1 : (nI m &&& 1).toBitVec.toNat = m % 2 := by
    show ((nI m).toBitVec &&& 1#32).toNat = m % 2
    rw [BitVec.toNat_and, pk_tn (by omega)]
    exact Nat.and_one_is_mod m
  apply Int32.toBitVec_inj.mp
  apply BitVec.eq_of_toNat_eq
  rw [h1]
  rcases Nat.mod_two_eq_zero_or_one m with z | z <;> rw [z] <;> rfl
theorem bt_and (k : Nat) (hk : k < 12) (M : Nat) (hM : M < 4096) : (nI M >>> (nI k &&& 31)) &&& 1 = bI (bt M k) := by
  have h := Nat.div_le_self M (2 ^ k)
  rw [pk_shrN (by omega) _ k (bt_sm k hk)]
  exact bt_1 _ (by omega)
theorem mBC_cnt' : ∀ a, a < 64 → ∀ b, b < 64 → mBC (nI (64 * a + b)) = nI (cnt (bt (64 * a + b)) 12) := by decide +kernel
theorem mBC_cnt (M : Nat) (hM : M < 4096) : mBC (nI M) = nI (cnt (bt M) 12) := by
  have h := mBC_cnt' (M / 64) (by omega) (M % 64) (by omega)
  rwa [Nat.div_add_mod] at h
theorem bt_0 {k : Nat} : bt 0 k = false := by unfold bt; rw [Nat.zero_div]; rfl
theorem bt_new {M k : Nat} (h : M < 2 ^ k) : bt (M + 2 ^ k) k = true := by
  unfold bt
  rw [Nat.add_div_right _ (Nat.two_pow_pos k), Nat.div_eq_of_lt h]; rfl
theorem bt_old (k : Nat) (_ : k < 12) (M : Nat) (_ : M < 2 ^ k) (b : Nat) (hb : b < k) : bt (M + 2 ^ k) b = bt M b := by
  have e1 : 2 ^ k = 2 ^ b * (2 * 2 ^ (k - b - 1)) := by
    rw [← Nat.pow_succ', ← Nat.pow_add]
    congr 1
    omega
  unfold bt
  rw [e1, Nat.add_mul_div_left _ _ (Nat.two_pow_pos b), Nat.add_mul_mod_self_left]
theorem cnt_up {f : Nat → Bool} {l m : Nat} (h : l ≤ m) : cnt f l ≤ cnt f m := by
  induction m with
  | zero => rw [Nat.le_zero.mp h]; exact Nat.le_refl _
  | succ m ih =>
    rcases Nat.lt_or_ge m l with w | w
    · rw [show l = m + 1 by omega]; exact Nat.le_refl _
    · exact Nat.le_trans (ih w) cnt_s
def mB (M k : Nat) (bb : Int32) : Prop := (M = 0 ∧ bb = -9) ∨ ∃ b, b < k ∧ bt M b = true ∧ bb = nI b
theorem mB.up {M k : Nat} {bb : Int32} (h : mB M k bb) : mB M (k + 1) bb := by
  rcases h with h | ⟨b, h1, h2, h3⟩
  · exact Or.inl h
  · exact Or.inr ⟨b, by omega, h2, h3⟩
theorem mB.new {M k : Nat} (h : M < 2 ^ k) : mB (M + 2 ^ k) (k + 1) (nI k) := Or.inr ⟨k, by omega, bt_new h, rfl⟩
theorem mB.old {M k b : Nat} (hk : k < 12) (h : M < 2 ^ k) (hb : b < k) (h2 : bt M b = true) : mB (M + 2 ^ k) (k + 1) (nI b) := Or.inr ⟨b, by omega, (bt_old k hk M h b hb).trans h2, rfl⟩
def gB (M b k l : Nat) : Bool := bt M l && (!decide (l = b) && !decide (l = k))
theorem gB_lt {M b k n : Nat} (hb : b < n) (hk : k < n) (hn : n ≤ 12) (h1 : bt M b = true) (h2 : bt M k = true) (hne : k ≠ b) : 1 + cnt (gB M b k) n < cnt (bt M) 12 := by
  have a1 : cnt (gB M b k) n < cnt (fun l => bt M l && !decide (l = b)) n := cnt_lt (k := k) (fun l h => by unfold gB at h; cases z : bt M l <;> cases z2 : decide (l = b) <;> simp_all) hk (by unfold gB; simp) (by simp [h2, hne])
  have a2 : cnt (fun l => bt M l && !decide (l = b)) n < cnt (bt M) n := cnt_lt (k := b) (fun l h => by cases z : bt M l <;> simp_all) hb (by simp) h1
  have a3 : cnt (bt M) n ≤ cnt (bt M) 12 := cnt_up hn
  omega
theorem cnt_pos {f : Nat → Bool} {b n : Nat} (hb : b < n) (h : f b = true) : 0 < cnt f n := by
  have := cnt_lt (f := fun _ => false) (g := f) (fun _ h => absurd h (by decide)) hb rfl h
  omega
theorem mTu_0 {I : Nat → Nat → Int32} {i k : Nat} : mTu I i k k = 0 := by unfold mTu mCr; rw [Int32.mul_comm (I 136 k - I 136 i), Int32.sub_self]
theorem bV.new {V : Nat → Nat → Option Nat} {N : Nat → Nat} {L : List Nat} {a t : Nat} (h : bV V N L) (ha : a ∉ L) : bV V (aj_ur N a t) (L ++ [a]) := by
  have q : ∀ i ∈ aj_BL, aj_ur N a t i = N i := fun i hi => aj_ur_n N t (fun e => ha (e ▸ h.1 i hi))
  obtain ⟨h1, h2, h3, h4, h5, h6⟩ := h
  refine ⟨fun i hi => List.mem_append_left _ (h1 i hi), h2, h3, h4, ?_, h6⟩
  rw [q 27 (by decide), q 43 (by decide), q 25 (by decide), q 41 (by decide), q 24 (by decide), q 40 (by decide), q 56 (by decide), q 72 (by decide), q 88 (by decide), q 104 (by decide), q 120 (by decide), q 136 (by decide), q 152 (by decide), q 168 (by decide)]
  exact h5
theorem aV.u {I : Nat → Nat → Int32} {a t c k : Nat} (h : aV I a t) (hk : k < 12) : aV (aj_u I a c (nI k)) a t := by
  intro j hj
  by_cases e : j = c
  · subst e; exact ⟨k, hk, aj_u_s _ _ _ _⟩
  · rw [aj_u_k _ _ _ e]; exact h j hj
theorem aV.z {I : Nat → Nat → Int32} {a t : Nat} : aV (aj_z I a 0) a t := fun j _ => ⟨0, by decide, if_pos rfl⟩
-- corners, exactly
theorem mTu_e {I I2 : Nat → Nat → Int32} {a i j k : Nat} (h : ∀ i, i ≠ a → I2 i = I i) (h1 : 136 ≠ a) (h2 : 152 ≠ a) : mTu I2 i j k = mTu I i j k := by unfold mTu; rw [h 136 h1, h 152 h2]
theorem bt_hi {M k : Nat} (h : M < 2 ^ k) : bt M k = false := by
  unfold bt
  rw [Nat.div_eq_of_lt h]; rfl
theorem bt_h2 {M n q : Nat} (h : M < 2 ^ n) (hq : n ≤ q) : bt M q = false := bt_hi (Nat.lt_of_lt_of_le h (Nat.pow_le_pow_right (by decide) hq))
theorem cnt_hi {f : Nat → Bool} {n : Nat} : ∀ m, n ≤ m → (∀ q, n ≤ q → f q = false) → cnt f m = cnt f n := by
  intro m
  induction m with
  | zero => intro h _; rw [Nat.le_zero.mp h]
  | succ m ih =>
    intro h hf
    rcases Nat.lt_or_ge m n with w | w
    · rw [show m + 1 = n by omega]
    · rw [cnt_f (hf m w)]; exact ih w hf
theorem cnt_n0 {f : Nat → Bool} : ∀ n, (∀ q, q < n → f q = false) → cnt f n = 0 := by
  intro n
  induction n with
  | zero => intro _; rfl
  | succ n ih => intro h; rw [cnt_f (h n (by omega))]; exact ih (fun q hq => h q (by omega))
/-- the mask tells the corners, and bb the lowest of them -/
def mC2 (I : Nat → Nat → Int32) (n M k : Nat) (bb : Int32) : Prop := (∀ q, q < k → bt M q = cnB (I 136) (I 152) n q) ∧ ∀ b, b < k → bb = nI b → ∀ q, q < k → cnB (I 136) (I 152) n q = true → lowT (I 136) (I 152) b q
section M2
variable {I : Nat → Nat → Int32} {n M k b : Nat} {bb : Int32}
theorem mC2.st : mC2 I n 0 0 (-9) := ⟨fun q hq => absurd hq (Nat.not_lt_zero q), fun b hb => absurd hb (Nat.not_lt_zero b)⟩
theorem mC2.bits (h : mC2 I n M k bb) (hM : M < 2 ^ k) (hk : k < 12) : (cnB (I 136) (I 152) n k = false → ∀ q, q < k + 1 → bt M q = cnB (I 136) (I 152) n q) ∧ (cnB (I 136) (I 152) n k = true → ∀ q, q < k + 1 → bt (M + 2 ^ k) q = cnB (I 136) (I 152) n q) := by
  constructor
  · intro hc q hq
    rcases Nat.lt_or_ge q k with w | w
    · exact h.1 q w
    · rw [show q = k by omega, hc]; exact bt_hi hM
  · intro hc q hq
    rcases Nat.lt_or_ge q k with w | w
    · rw [bt_old k hk M hM q w]; exact h.1 q w
    · rw [show q = k by omega, hc]; exact bt_new hM
theorem mC2.sk (h : mC2 I n M k bb) (hB : mB M k bb) (hM : M < 2 ^ k) (hk : k < 12) (hc : cnB (I 136) (I 152) n k = false) : mC2 I n M (k + 1) bb := by
  refine ⟨(h.bits hM hk).1 hc, fun b hb e => ?_⟩
  rcases hB with ⟨-, w⟩ | ⟨b2, w1, -, w3⟩
  · rw [w] at e
    exact absurd e.symm (nI_n9 (by omega))
  · have : b = b2 := (nI_eq (by omega) (by omega)).mp (e.symm.trans w3)
    subst this
    exact lowT_s (h.2 b w1 e) hc
theorem mC2.ne (h : mC2 I n M k bb) (hM : M < 2 ^ k) (hk : k < 12) (hc : cnB (I 136) (I 152) n k = true) (hl : ∀ q, q < k + 1 → cnB (I 136) (I 152) n q = true → lowT (I 136) (I 152) k q) : mC2 I n (M + 2 ^ k) (k + 1) (nI k) := by
  refine ⟨(h.bits hM hk).2 hc, fun b hb e => ?_⟩
  have : k = b := (nI_eq (by omega) (by omega)).mp e
  subst this
  exact hl
theorem mC2.ke (h : mC2 I n M k (nI b)) (hM : M < 2 ^ k) (hk : k < 12) (hb : b < k) (hc : cnB (I 136) (I 152) n k = true) (hl : ∀ q, q < k + 1 → cnB (I 136) (I 152) n q = true → lowT (I 136) (I 152) b q) : mC2 I n (M + 2 ^ k) (k + 1) (nI b) := by
  refine ⟨(h.bits hM hk).2 hc, fun b2 hb2 e => ?_⟩
  have : b = b2 := (nI_eq (by omega) (by omega)).mp e
  subst this
  exact hl
theorem mC2.f (h : mC2 I n M k bb) (hB : mB M k bb) (hk : k < 12) (e : bb = -9) : ∀ q, q < k → cnB (I 136) (I 152) n q = false := fun q hq => by
  rcases hB with ⟨w, -⟩ | ⟨b, w1, -, w3⟩
  · rw [← h.1 q hq, w]; exact bt_0
  · rw [w3] at e
    exact absurd e (nI_n9 (by omega))
/-- the row of corners so far -/
def hcP (I : Nat → Nat → Int32) (n M : Nat) (bb : Int32) (R : Nat → Int32) (k : Nat) : Prop := ∀ b, b < n → bb = nI b → bt M b = true → R 0 = nI b ∧ rowQ R (fun q => cnB (I 136) (I 152) n q && !decide (q = b)) (nhB (I 136) (I 152) n b) k
theorem hcP.sk {R : Nat → Int32} (h : hcP I n M bb R k) (hb : ∀ b, b < n → bb = nI b → bt M b = true → (cnB (I 136) (I 152) n k && !decide (k = b)) = false) : hcP I n M bb R (k + 1) := fun b h1 h2 h3 => ⟨(h b h1 h2 h3).1, (h b h1 h2 h3).2.sk (hb b h1 h2 h3)⟩
theorem hcP.up {I2 : Nat → Nat → Int32} {a c : Nat} (h : hcP I n M (nI b) (I2 a) k) (hbn : b < n) (hn : n ≤ 12) (hc : cnB (I 136) (I 152) n k = true) (hk : k ≠ b) (e : c = nhB (I 136) (I 152) n b k) : hcP I n M (nI b) (aj_u I2 a c (nI k) a) (k + 1) := fun b2 h1 h2 h3 => by
  have : b = b2 := (nI_eq (by omega) (by omega)).mp h2
  subst this
  subst e
  have z := h b h1 h2 h3
  refine ⟨(aj_u_k _ _ _ (by unfold nhB; omega)).trans z.1, z.2.up ?_⟩
  show (cnB (I 136) (I 152) n k && !decide (k = b)) = true
  rw [hc, decide_eq_false hk]; rfl
theorem hcP.fin {R : Nat → Int32} (h : hcP I n M bb R n) (hm : mC2 I n M n bb) (hB : mB M n bb) (hM : M < 2 ^ n) (hn : n ≤ 12) : hlR (I 136) (I 152) n R (cnt (bt M) 12) := by
  have e : cnt (bt M) 12 = cnt (cnB (I 136) (I 152) n) n := (cnt_hi 12 hn (fun q hq => bt_h2 hM hq)).trans (cnt_c hm.1)
  refine ⟨e, fun ht => ?_⟩
  rcases hB with ⟨w, -⟩ | ⟨b, w1, w2, w3⟩
  · exact absurd (by rw [w]; exact cnt_n0 12 (fun q _ => bt_0)) ht
  · have z := h b w1 w3 w2
    exact ⟨b, w1, hm.2 b w1 w3, z.1, z.2⟩
end M2

