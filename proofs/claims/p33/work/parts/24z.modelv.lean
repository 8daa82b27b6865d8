-- bits
def bt (M k : Nat) : Bool := decide (M / 2 ^ k % 2 = 1)
theorem mk_or : ∀ k, k < 12 → ∀ M, M < 2 ^ k → nI M ||| ((1 : Int32) <<< (nI k &&& 31)) = nI (M + 2 ^ k) := by decide +kernel
theorem bt_and' : ∀ k, k < 12 → ∀ a, a < 64 → ∀ b, b < 64 → (nI (64 * a + b) >>> (nI k &&& 31)) &&& 1 = bI (bt (64 * a + b) k) := by decide +kernel
theorem bt_and (k : Nat) (hk : k < 12) (M : Nat) (hM : M < 4096) : (nI M >>> (nI k &&& 31)) &&& 1 = bI (bt M k) := by
  have h := bt_and' k hk (M / 64) (by omega) (M % 64) (by omega)
  rwa [Nat.div_add_mod] at h
theorem mBC_cnt' : ∀ a, a < 64 → ∀ b, b < 64 → mBC (nI (64 * a + b)) = nI (cnt (bt (64 * a + b)) 12) := by decide +kernel
theorem mBC_cnt (M : Nat) (hM : M < 4096) : mBC (nI M) = nI (cnt (bt M) 12) := by
  have h := mBC_cnt' (M / 64) (by omega) (M % 64) (by omega)
  rwa [Nat.div_add_mod] at h
theorem bt_0 {k : Nat} : bt 0 k = false := by unfold bt; rw [Nat.zero_div]; rfl
theorem bt_new {M k : Nat} (h : M < 2 ^ k) : bt (M + 2 ^ k) k = true := by
  unfold bt
  rw [Nat.add_div_right _ (Nat.two_pow_pos k), Nat.div_eq_of_lt h]; rfl
theorem bt_old : ∀ k, k < 12 → ∀ M, M < 2 ^ k → ∀ b, b < k → bt (M + 2 ^ k) b = bt M b := by decide +kernel
theorem cnt_up {f : Nat → Bool} {l m : Nat} (h : l ≤ m) : cnt f l ≤ cnt f m := by
  induction m with
  | zero => rw [Nat.le_zero.mp h]; exact Nat.le_refl _
  | succ m ih =>
    rcases Nat.lt_or_ge m l with w | w
    · rw [show l = m + 1 by omega]; exact Nat.le_refl _
    · exact Nat.le_trans (ih w) cnt_s
def mB (M k : Nat) (bb : Int32) : Prop := (M = 0 ∧ bb = -9) ∨ ∃ b, b < k ∧ bt M b = true ∧ bb = nI b
theorem mB.up {M k : Nat} {bb : Int32} (h : mB M k bb) : mB M (k + 1) bb := by
  rcases h with h | ⟨b, h1, h2, h3⟩
  · exact Or.inl h
  · exact Or.inr ⟨b, by omega, h2, h3⟩
theorem mB.new {M k : Nat} (h : M < 2 ^ k) : mB (M + 2 ^ k) (k + 1) (nI k) := Or.inr ⟨k, by omega, bt_new h, rfl⟩
theorem mB.old {M k b : Nat} (hk : k < 12) (h : M < 2 ^ k) (hb : b < k) (h2 : bt M b = true) : mB (M + 2 ^ k) (k + 1) (nI b) := Or.inr ⟨b, by omega, (bt_old k hk M h b hb).trans h2, rfl⟩
def gB (M b k l : Nat) : Bool := bt M l && (!decide (l = b) && !decide (l = k))
theorem gB_lt {M b k n : Nat} (hb : b < n) (hk : k < n) (hn : n ≤ 12) (h1 : bt M b = true) (h2 : bt M k = true) (hne : k ≠ b) : 1 + cnt (gB M b k) n < cnt (bt M) 12 := by
  have a1 : cnt (gB M b k) n < cnt (fun l => bt M l && !decide (l = b)) n := cnt_lt (k := k) (fun l h => by unfold gB at h; cases z : bt M l <;> cases z2 : decide (l = b) <;> simp_all) hk (by unfold gB; simp) (by simp [h2, hne])
  have a2 : cnt (fun l => bt M l && !decide (l = b)) n < cnt (bt M) n := cnt_lt (k := b) (fun l h => by cases z : bt M l <;> simp_all) hb (by simp) h1
  have a3 : cnt (bt M) n ≤ cnt (bt M) 12 := cnt_up hn
  omega
theorem cnt_pos {f : Nat → Bool} {b n : Nat} (hb : b < n) (h : f b = true) : 0 < cnt f n := by
  have := cnt_lt (f := fun _ => false) (g := f) (fun _ h => absurd h (by decide)) hb rfl h
  omega
theorem mTu_0 {I : Nat → Nat → Int32} {i k : Nat} : mTu I i k k = 0 := by unfold mTu mCr; rw [Int32.mul_comm (I 136 k - I 136 i), Int32.sub_self]
theorem bV.new {V : Nat → Nat → Option Nat} {N : Nat → Nat} {L : List Nat} {a t : Nat} (h : bV V N L) (ha : a ∉ L) : bV V (aj_ur N a t) (L ++ [a]) := by
  have q : ∀ i ∈ aj_BL, aj_ur N a t i = N i := fun i hi => aj_ur_n N t (fun e => ha (e ▸ h.1 i hi))
  obtain ⟨h1, h2, h3, h4, h5, h6⟩ := h
  refine ⟨fun i hi => List.mem_append_left _ (h1 i hi), h2, h3, h4, ?_, h6⟩
  rw [q 27 (by decide), q 43 (by decide), q 25 (by decide), q 41 (by decide), q 24 (by decide), q 40 (by decide), q 56 (by decide), q 72 (by decide), q 88 (by decide), q 104 (by decide), q 120 (by decide), q 136 (by decide), q 152 (by decide), q 168 (by decide)]
  exact h5
theorem aV.u {I : Nat → Nat → Int32} {a t c k : Nat} (h : aV I a t) (hk : k < 12) : aV (aj_u I a c (nI k)) a t := by
  intro j hj
  by_cases e : j = c
  · subst e; exact ⟨k, hk, aj_u_s _ _ _ _⟩
  · rw [aj_u_k _ _ _ e]; exact h j hj
theorem aV.z {I : Nat → Nat → Int32} {a t : Nat} : aV (aj_z I a 0) a t := fun j _ => ⟨0, by decide, if_pos rfl⟩
