-- FIRST DIGITS IN ORDER
theorem pw_f {c : Int64} (h : 9007199254740992 ≤ c.toInt) : ∀ m, m < 9 → c.toInt < ((2 ^ (54 + m) : Nat) : Int) → ∃ q, q ≤ m ∧ pPw c m (pwI m) = pwI q ∧ ((2 ^ (53 + q) : Nat) : Int) ≤ c.toInt ∧ c.toInt < ((2 ^ (54 + q) : Nat) : Int) := by
  intro m
  induction m with
  | zero => intro _ hl; exact ⟨0, Nat.le_refl 0, rfl, by rw [show ((2 ^ (53 + 0) : Nat) : Int) = 9007199254740992 by decide]; exact h, hl⟩
  | succ m ih =>
    intro hm hl
    have hs := pw_sm (m + 1) hm
    by_cases z : c >>> (((60 : Int32) + pwI (m + 1)).toInt64 &&& 63) = 0
    · rw [pPw_s z, (pw_ad m (by omega)).2]
      have y := congrArg Int64.toInt z
      rw [shL _ _ _ hs, Int.shiftRight_eq_div_pow, show (0 : Int64).toInt = 0 by decide, show 53 + (m + 1) = 54 + m by omega] at y
      have p : (0 : Int) < ((2 ^ (54 + m) : Nat) : Int) := Int.ofNat_lt.mpr (Nat.two_pow_pos _)
      have lt : c.toInt < ((2 ^ (54 + m) : Nat) : Int) := by
        rcases Int.lt_or_le c.toInt ((2 ^ (54 + m) : Nat) : Int) with w | w
        · exact w
        · exfalso
          have g := Int.ediv_le_ediv p w
          rw [Int.ediv_self (by omega), y] at g
          omega
      obtain ⟨q, q1, q2⟩ := ih (by omega) lt
      exact ⟨q, by omega, q2⟩
    · refine ⟨m + 1, Nat.le_refl _, pPw_e z, ?_, hl⟩
      rcases Int.lt_or_le c.toInt ((2 ^ (53 + (m + 1)) : Nat) : Int) with w | w
      · refine absurd (Int64.toInt_inj.mp ?_) z
        rw [shL _ _ _ hs, Int.shiftRight_eq_div_pow, Int.ediv_eq_zero_of_lt (by omega) w]
        decide
      · exact w
theorem sh20 : ∀ q, q < 9 → (pwI q + 1023) <<< ((20 : Int32) &&& 31) = nI (2 ^ 20 * (q + 1016)) := by decide +kernel
theorem or20 {a h : Nat} (hh : h < 2 ^ 20) (ha : 2 ^ 20 * a + h < 2 ^ 31) : nI (2 ^ 20 * a) ||| nI h = nI (2 ^ 20 * a + h) := by
  apply Int32.toBitVec_inj.mp
  apply BitVec.eq_of_toNat_eq
  show ((nI (2 ^ 20 * a)).toBitVec ||| (nI h).toBitVec).toNat = (nI (2 ^ 20 * a + h)).toBitVec.toNat
  rw [BitVec.toNat_or, pk_tn (by omega), pk_tn (by omega), pk_tn (by omega)]
  exact (Nat.two_pow_add_eq_or_of_lt hh a).symm
theorem eh_e {c : Int64} (h1 : 9007199254740992 ≤ c.toInt) (h2 : c.toInt < 4611686018427387904) : ∃ q H : Nat, q ≤ 8 ∧ c.toInt / ((2 ^ (33 + q) : Nat) : Int) = (H : Int) ∧ 1048576 ≤ H ∧ H < 2097152 ∧ ((2 ^ (53 + q) : Nat) : Int) ≤ c.toInt ∧ c.toInt < ((2 ^ (54 + q) : Nat) : Int) ∧ pEH c = nI (1048576 * (q + 1015) + H) := by
  obtain ⟨q, q1, q2, q3, q4⟩ := pw_f h1 8 (by decide) (by rw [show ((2 ^ (54 + 8) : Nat) : Int) = 4611686018427387904 by decide]; exact h2)
  have q2 : pPw c 8 1 = pwI q := q2
  have hq : q < 9 := by omega
  have hd : (0 : Int) < ((2 ^ (33 + q) : Nat) : Int) := Int.ofNat_lt.mpr (Nat.two_pow_pos _)
  have e1 : ((2 ^ (53 + q) : Nat) : Int) = 1048576 * ((2 ^ (33 + q) : Nat) : Int) := by
    rw [show 53 + q = 20 + (33 + q) by omega, Nat.pow_add, Int.natCast_mul]
    rfl
  have e2 : ((2 ^ (54 + q) : Nat) : Int) = 2097152 * ((2 ^ (33 + q) : Nat) : Int) := by
    rw [show 54 + q = 21 + (33 + q) by omega, Nat.pow_add, Int.natCast_mul]
    rfl
  have hs := shL c _ _ (pw_sm2 q hq)
  rw [Int.shiftRight_eq_div_pow] at hs
  have b1 : 1048576 ≤ c.toInt / ((2 ^ (33 + q) : Nat) : Int) := Int.le_ediv_of_mul_le hd (by rw [← e1]; exact q3)
  have b2 : c.toInt / ((2 ^ (33 + q) : Nat) : Int) < 2097152 := Int.ediv_lt_of_lt_mul hd (by rw [← e2]; exact q4)
  obtain ⟨H, hH⟩ : ∃ H : Nat, c.toInt / ((2 ^ (33 + q) : Nat) : Int) = (H : Int) := ⟨(c.toInt / ((2 ^ (33 + q) : Nat) : Int)).toNat, (Int.toNat_of_nonneg (by omega)).symm⟩
  rw [hH] at hs b1 b2
  refine ⟨q, H, q1, hH, by omega, by omega, q3, q4, ?_⟩
  have n1 : ¬ c = 0 := fun e => by rw [e] at h1; exact absurd h1 (by decide)
  have t32 : (c >>> (((40 : Int32) + pwI q).toInt64 &&& 63)).toInt32 - 1048576 = nI (H - 1048576) := by
    apply Int32.toInt_inj.mp
    rw [Int32.toInt_sub, Int64.toInt_toInt32, hs, nI_toInt (by omega), show (1048576 : Int32).toInt = 1048576 by decide, Int.bmod_eq_of_le (n := (H : Int)) (by omega) (by omega)]
    have : ((H - 1048576 : Nat) : Int) = (H : Int) - 1048576 := by omega
    rw [this]
    exact Int.bmod_eq_of_le (by omega) (by omega)
  unfold pEH pHd
  rw [if_neg n1, q2, (pw_ad q hq).1, t32, sh20 q hq, or20 (by omega) (by omega)]
  have e : 2 ^ 20 * (q + 1016) + (H - 1048576) = 1048576 * (q + 1015) + H := by omega
  rw [e]
/-- what a size has for first digits -/
def dgt (c : Int64) (e : Nat) : Prop := pEH c = nI e ∧ e < 2147483648
theorem dg_ex {c : Int64} (h : c = 0 ∨ 9007199254740992 ≤ c.toInt) (h2 : c.toInt < 4611686018427387904) : ∃ e, dgt c e := by
  rcases h with h | h
  · exact ⟨0, by rw [h]; exact if_pos rfl, by decide⟩
  · obtain ⟨q, H, a1, -, a3, a4, -, -, a7⟩ := eh_e h h2
    exact ⟨_, a7, by omega⟩
theorem dg_e {c : Int64} {e e' : Nat} (h : dgt c e) (h' : dgt c e') : e = e' := by
  have z := h.1.symm.trans h'.1
  have z2 := congrArg Int32.toInt z
  rw [nI_toInt h.2, nI_toInt h'.2] at z2
  omega
theorem dg_lt {c c' : Int64} {e e' : Nat} (hc : c = 0 ∨ 9007199254740992 ≤ c.toInt) (hc' : 9007199254740992 ≤ c'.toInt) (h2 : c'.toInt < 4611686018427387904) (g : c.toInt + 2199023255552 ≤ c'.toInt) (h : dgt c e) (h' : dgt c' e') : e < e' := by
  obtain ⟨q', H', b1, b2, b3, b4, b5, b6, b7⟩ := eh_e hc' h2
  have y' := dg_e h' (show dgt c' (1048576 * (q' + 1015) + H') from ⟨b7, by omega⟩)
  rcases hc with hc | hc
  · have y := dg_e h (show dgt c 0 from ⟨by rw [hc]; exact if_pos rfl, by decide⟩)
    omega
  · obtain ⟨q, H, a1, a2, a3, a4, a5, a6, a7⟩ := eh_e hc (by omega)
    have y := dg_e h (show dgt c (1048576 * (q + 1015) + H) from ⟨a7, by omega⟩)
    rcases Nat.lt_trichotomy q q' with w | w | w
    · omega
    · subst w
      have hd : (0 : Int) < ((2 ^ (33 + q) : Nat) : Int) := Int.ofNat_lt.mpr (Nat.two_pow_pos _)
      have le : ((2 ^ (33 + q) : Nat) : Int) ≤ 2199023255552 := by
        have := Nat.pow_le_pow_right (n := 2) (by decide) (show 33 + q ≤ 41 by omega)
        have e41 : (2 : Nat) ^ 41 = 2199023255552 := by decide
        omega
      have st := Int.ediv_le_ediv hd (show c.toInt + 1 * ((2 ^ (33 + q) : Nat) : Int) ≤ c'.toInt by omega)
      rw [Int.add_mul_ediv_right _ _ (by omega), a2, b2] at st
      omega
    · exfalso
      have := Nat.pow_le_pow_right (n := 2) (by decide) (show 54 + q' ≤ 53 + q by omega)
      omega
-- RANKS OF DIGITS
theorem rk_up {e : Nat} (h : e < 2147483648) : (pRk (nI e)).toInt = e := by
  unfold pRk
  rw [if_neg (by rw [Int32.lt_iff_toInt_lt, nI_toInt h, show (0 : Int32).toInt = 0 by decide]; omega), nI_toInt h]
theorem bv_neg {x : Int32} {n : Nat} (h : x.toBitVec.toNat = n) (h1 : 2147483648 ≤ n) (h2 : n < 4294967296) : x.toInt = (n : Int) - 4294967296 := by
  show x.toBitVec.toInt = _
  rw [BitVec.toInt_eq_toNat_cond, h, if_neg (by omega)]
  rfl
theorem rk_lo {e : Nat} (h : e < 2147483648) : (pRk (nI e ||| -2147483648)).toInt = -1 - (e : Int) := by
  have t1 : (nI e ||| -2147483648 : Int32).toBitVec.toNat = 2147483648 + e := by
    show ((nI e).toBitVec ||| (-2147483648 : Int32).toBitVec).toNat = _
    rw [BitVec.toNat_or, pk_tn (by omega), show (-2147483648 : Int32).toBitVec.toNat = 2147483648 by decide, Nat.or_comm]
    exact (Nat.two_pow_add_eq_or_of_lt (i := 31) h 1).symm
  have t2 := bv_neg t1 (by omega) (by omega)
  have t3 : (nI e ||| -2147483648 : Int32) &&& 2147483647 = nI e := by
    apply Int32.toBitVec_inj.mp
    apply BitVec.eq_of_toNat_eq
    show ((nI e ||| -2147483648 : Int32).toBitVec &&& (2147483647 : Int32).toBitVec).toNat = (nI e).toBitVec.toNat
    rw [BitVec.toNat_and, t1, pk_tn (by omega), show (2147483647 : Int32).toBitVec.toNat = 2 ^ 31 - 1 by decide, Nat.and_two_pow_sub_one_eq_mod]
    omega
  have t4 : (nI e ^^^ -1 : Int32).toBitVec.toNat = 4294967295 - e := by
    show ((nI e).toBitVec ^^^ (-1 : Int32).toBitVec).toNat = _
    rw [show (-1 : Int32).toBitVec = BitVec.allOnes 32 by decide, BitVec.xor_allOnes, BitVec.toNat_not, pk_tn (by omega)]
  unfold pRk
  rw [if_pos (by rw [Int32.lt_iff_toInt_lt, t2, show (0 : Int32).toInt = 0 by decide]; omega), t3, bv_neg t4 (by omega) (by omega)]
  omega
theorem sg_i (a b : Int32) : (a.toInt64 - b.toInt64).toInt = a.toInt - b.toInt := by
  have a1 := Int32.le_toInt a
  have a2 := Int32.toInt_lt a
  have b1 := Int32.le_toInt b
  have b2 := Int32.toInt_lt b
  rw [Int64.toInt_sub, Int32.toInt_toInt64, Int32.toInt_toInt64]
  exact Int.bmod_eq_of_le (by omega) (by omega)
theorem pSgn_i (v : Int64) : pSgn v = if 0 < v.toInt then 1 else if v.toInt < 0 then -1 else 0 := by
  unfold pSgn
  simp only [Int64.lt_iff_toInt_lt, show (0 : Int64).toInt = 0 by decide]
-- SIZES OF STEPS
def szK (t : tp) : Int64 := pSz t.1 t.2.1 (qL t)
def aNg (t : tp) : Int64 := pAng t.1 t.2.1 t.2.2 (qL t)
def kT (t : tp) : Int := (qL t).toInt
def mT (t : tp) : Nat := t.2.1.toInt.natAbs
section TT
variable {t t' : tp}
theorem qv_e {c d : Nat} (hc : 0 < c) (hc2 : c ≤ 127) (hd : 0 < d) (hd2 : d ≤ 127) : (if qN d ≤ qN c then pArc (qN d) (qN c) else 1811004864519280711 - pArc (qN c) (qN d)).toInt = Qi d c := by
  unfold Qi
  by_cases q : d ≤ c
  · rw [if_pos ((qN_le (by omega) (by omega)).mpr q), if_pos q, pArc_e q hc2 hc, qN_i (by have := arA_lt q hc2 hc; omega)]
  · rw [if_neg (fun v => q ((qN_le (by omega) (by omega)).mp v)), if_neg q, pArc_e (show c ≤ d by omega) hd2 hd]
    have := arA_lt (show c ≤ d by omega) hd2 hd
    have z := q_i (a := arA c d) (by omega) 1811004864519280711 (by decide)
    exact z
theorem qL_f (h : tOk t) : (-127 ≤ kT t ∧ kT t ≤ 127) ∧ (mT t = 0 → kT t ≠ 0) ∧ mT t ≤ 127 := by
  have x := pIn_i h.1
  have u := pIn_i h.2.1
  unfold kT mT qL mLk
  by_cases z : t.1 = 0
  · rw [if_pos z]
    by_cases y : t.2.1 = 0
    · rw [if_pos y]
      rcases pk_and1 t.2.2 with w | w
      · rw [w]
        exact ⟨by decide, fun _ => by decide, by omega⟩
      · rw [w]
        exact ⟨by decide, fun _ => by decide, by omega⟩
    · rw [if_neg y]
      exact ⟨x, fun e => absurd (i32_0.mpr (by omega)) y, by omega⟩
  · rw [if_neg z]
    exact ⟨x, fun _ e => z (i32_0.mpr e), by omega⟩
theorem szK_i (h : tOk t) : (szK t).toInt = Sv (kT t) (mT t) := by
  have x := pIn_i h.1
  have u := pIn_i h.2.1
  unfold szK pSz Sv
  by_cases z : t.2.1 = 0
  · rw [if_pos (show mT t = 0 by unfold mT; rw [z]; decide)]
    unfold pNoSize
    rw [decide_eq_true z, Bool.true_and]
    by_cases w : 0 < qL t
    · rw [decide_eq_true w, if_pos rfl, if_pos (show 0 < kT t from i32_p.mp w)]
      decide
    · rw [decide_eq_false w, if_neg (by decide), if_pos z, if_neg (show ¬ 0 < kT t from fun v => w (i32_p.mpr v))]
      decide
  · have nm : ¬ mT t = 0 := fun e => z (i32_0.mpr (by unfold mT at e; omega))
    rw [if_neg nm]
    unfold pNoSize
    rw [decide_eq_false z, Bool.false_and, if_neg (by decide), if_neg z]
    have eq : qL t = t.1 := by
      unfold qL mLk
      by_cases w : t.1 = 0
      · rw [if_pos w, if_neg z]
      · rw [if_neg w]
    by_cases w : t.1 = 0
    · rw [if_pos w, if_pos (show kT t = 0 by unfold kT; rw [eq, w]; decide)]
      decide
    · have nk : ¬ kT t = 0 := fun e => w (i32_0.mpr (by unfold kT at e; rw [eq] at e; exact e))
      rw [if_neg w, if_neg nk]
      obtain ⟨-, ax, bx⟩ := nI_aN h.1
      obtain ⟨-, au, bu⟩ := nI_aN h.2.1
      have bx := bx w
      have bu := bu z
      have v := qv_e bx ax bu au
      have q := Qi_b bu au bx ax
      have ek : (kT t).natAbs = aN t.1 := by
        unfold kT
        rw [eq]
        rfl
      have em : mT t = aN t.2.1 := rfl
      unfold pBtw
      rw [pAbI_e h.1, pAbI_e h.2.1, ek, em]
      by_cases p : 0 < t.1
      · rw [if_pos p, if_pos (show 0 < kT t by unfold kT; rw [eq]; exact i32_p.mp p), v]
      · rw [if_neg p, if_neg (show ¬ 0 < kT t from fun y => p (i32_p.mpr (by unfold kT at y; rw [eq] at y; exact y))), Int64.toInt_sub, v, show (3622009729038561421 : Int64).toInt = 3622009729038561421 by decide]
        exact Int.bmod_eq_of_le (by omega) (by omega)
theorem szK_b (h : tOk t) : szQ (szK t) ∧ (szK t = 0 ∨ 9007199254740992 ≤ (szK t).toInt) := by
  have b := sz_b h.1 h.2.1 (t.2.2 &&& 1) (k := qL t) rfl
  exact ⟨b.1, b.2.2.elim (fun w => Or.inl w.1) (fun w => Or.inr w.1)⟩
theorem up_01 (h : tOk t) : tU t = 0 ∨ tU t = 1 := sOk_U h.2.2.1
theorem mT_0 (h : tOk t) (e : tU t = 0) : (mT t : Int) = t.2.1.toInt := by
  have : ¬ t.2.1 < 0 := fun w => by rw [h.2.2.2.1 w] at e; exact absurd e (by decide)
  rw [i32_n] at this
  unfold mT
  omega
theorem mT_1 (h : tOk t) (e : tU t = 1) : (mT t : Int) = -t.2.1.toInt := by
  have : ¬ 0 < t.2.1 := fun w => by rw [h.2.2.2.2 w] at e; exact absurd e (by decide)
  rw [i32_p] at this
  unfold mT
  omega
theorem aNg_e (h : tOk t) : aNg t = if tU t = 0 then szK t else -szK t := by
  unfold aNg pAng
  rw [sOk_up h.2.2.1]
  show (if decide (tU t = 0) = true then szK t else -szK t) = _
  by_cases z : tU t = 0
  · rw [decide_eq_true z, if_pos rfl, if_pos z]
  · rw [decide_eq_false z, if_neg (by decide), if_neg z]
theorem aNg_i (h : tOk t) : (tU t = 0 → (aNg t).toInt = Sv (kT t) (mT t)) ∧ (tU t = 1 → (aNg t).toInt = -Sv (kT t) (mT t)) := by
  have b := (szK_b h).1
  have e := szK_i h
  constructor
  · intro z
    rw [aNg_e h, if_pos z, e]
  · intro z
    rw [aNg_e h, if_neg (by rw [z]; decide), Int64.toInt_neg, e]
    rw [← e]
    exact Int.bmod_eq_of_le (by have := b.2; omega) (by have := b.1; omega)
/-- the rank of a step's first digits -/
theorem rk_v (h : tOk t) : ∃ e, dgt (szK t) e ∧ (tU t = 0 → (pRk (pFD t.2.2 (aNg t))).toInt = (e : Int)) ∧ (tU t = 1 → (pRk (pFD t.2.2 (aNg t))).toInt = -1 - (e : Int)) := by
  have b := szK_b h
  obtain ⟨e, he⟩ := dg_ex b.2 (by have := b.1.2; omega)
  have ab : pAb (aNg t) = szK t := by
    rw [aNg_e h]
    by_cases z : tU t = 0
    · rw [if_pos z, pAb_p b.1.1]
    · rw [if_neg z, pAb_n b.1]
  refine ⟨e, he, fun z => ?_, fun z => ?_⟩
  · unfold pFD
    rw [sOk_up h.2.2.1, show decide (t.2.2 >>> ((1 : Int32) &&& 31) = 0) = true from decide_eq_true z, if_pos rfl, ab, he.1]
    exact rk_up he.2
  · unfold pFD
    rw [sOk_up h.2.2.1, show decide (t.2.2 >>> ((1 : Int32) &&& 31) = 0) = false from decide_eq_false (fun w => absurd (z.symm.trans w) (by decide)), if_neg (by decide), ab, he.1]
    exact rk_lo he.2
/-- cross and dot of two looks -/
theorem look_c (h : tOk t) (h' : tOk t') : (mCr (qL t) t.2.1 (qL t') t'.2.1).toInt = kT t * t'.2.1.toInt - t.2.1.toInt * kT t' ∧ (mDt (qL t) t.2.1 (qL t') t'.2.1).toInt = kT t * kT t' + t.2.1.toInt * t'.2.1.toInt := by
  have a := (qL_f h).1
  have b := (qL_f h').1
  have u := pIn_i h.2.1
  have u' := pIn_i h'.2.1
  exact mCr_i a.1 a.2 u.1 u.2 b.1 b.2 u'.1 u'.2
theorem i_opp {k k' : Int} {m m' : Nat} (hk : m = 0 → k ≠ 0) (hk' : m' = 0 → k' ≠ 0) (c : k * (m' : Int) - (m : Int) * k' = 0) (d : ¬ 0 < k * k' + (m : Int) * (m' : Int)) : m = 0 ∧ m' = 0 ∧ k * k' < 0 := by
  have c : k * (m' : Int) = (m : Int) * k' := by omega
  have z : m = 0 := by
    rcases Nat.eq_zero_or_pos m with w | w
    · exact w
    · exfalso
      have mp : (0 : Int) < m := by omega
      have e1 : (m : Int) * (k * k' + (m : Int) * (m' : Int)) = (m' : Int) * (k * k + (m : Int) * (m : Int)) := by
        have e : (m : Int) * (k * k' + (m : Int) * (m' : Int)) = k * ((m : Int) * k') + (m : Int) * (m : Int) * (m' : Int) := by grind
        rw [e, ← c]
        grind
      have s : 0 < k * k + (m : Int) * (m : Int) := by
        have := i_sq k
        have := Int.mul_pos mp mp
        omega
      have le : (m : Int) * (k * k' + (m : Int) * (m' : Int)) ≤ 0 := by
        have := Int.mul_nonneg (Int.le_of_lt mp) (show 0 ≤ -(k * k' + (m : Int) * (m' : Int)) by omega)
        rw [Int.mul_neg] at this
        omega
      rw [e1] at le
      have m0 : m' = 0 := by
        rcases Nat.eq_zero_or_pos m' with v | v
        · exact v
        · have := Int.mul_pos (show (0 : Int) < m' by omega) s
          omega
      rw [m0, show ((0 : Nat) : Int) = 0 from rfl, Int.mul_zero] at c
      exact (Int.mul_eq_zero.mp c.symm).elim (fun v => by omega) (hk' m0)
  rw [z, show ((0 : Nat) : Int) = 0 from rfl, Int.zero_mul] at c d
  have nk := hk z
  have z' : m' = 0 := (Int.mul_eq_zero.mp c).elim (fun v => absurd v nk) (fun v => by omega)
  refine ⟨z, z', ?_⟩
  rcases Int.lt_or_eq_of_le (show k * k' ≤ 0 by omega) with w | w
  · exact w
  · exact ((Int.mul_eq_zero.mp w).elim nk (hk' z')).elim
/-- the sizes of two looks of one half -/
theorem sv_two {k k' : Int} {m m' : Nat} (a : -127 ≤ k ∧ k ≤ 127) (a' : -127 ≤ k' ∧ k' ≤ 127) (hm : m ≤ 127) (hm' : m' ≤ 127) (hk : m = 0 → k ≠ 0) (hk' : m' = 0 → k' ≠ 0) : (0 < k * (m' : Int) - (m : Int) * k' → Sv k m + 2199023255552 ≤ Sv k' m') ∧ (k * (m' : Int) - (m : Int) * k' < 0 → Sv k' m' + 2199023255552 ≤ Sv k m) ∧ (k * (m' : Int) - (m : Int) * k' = 0 → Sv k m = Sv k' m' ∨ (m = 0 ∧ m' = 0)) ∧ (m = 0 → Sv k m = 0 ∨ Sv k m = 3622009729038561280) ∧ (m' = 0 → Sv k' m' = 0 ∨ Sv k' m' = 3622009729038561280) ∧ (m ≠ 0 → 9007199254740992 ≤ Sv k m ∧ Sv k m ≤ 3622009729038561421 - 9007199254740992) ∧ (m' ≠ 0 → 9007199254740992 ≤ Sv k' m' ∧ Sv k' m' ≤ 3622009729038561421 - 9007199254740992) ∧ (k * (m' : Int) - (m : Int) * k' ≠ 0 → m ≠ 0 ∨ m' ≠ 0) := by
  have z0 : ∀ (k : Int) (m : Nat), m = 0 → Sv k m = 0 ∨ Sv k m = 3622009729038561280 := fun k m e => by
    unfold Sv
    rw [if_pos e]
    by_cases p : 0 < k
    · rw [if_pos p]; exact Or.inl rfl
    · rw [if_neg p]; exact Or.inr rfl
  have z1 : ∀ (k : Int) (m : Nat), -127 ≤ k ∧ k ≤ 127 → m ≤ 127 → m ≠ 0 → 9007199254740992 ≤ Sv k m ∧ Sv k m ≤ 3622009729038561421 - 9007199254740992 := fun k m a hm e => by
    unfold Sv
    rw [if_neg e]
    by_cases y : k = 0
    · rw [if_pos y]; omega
    · rw [if_neg y]
      have b := Qi_b (m := m) (k := k.natAbs) (by omega) hm (by omega) (by omega)
      by_cases p : 0 < k
      · rw [if_pos p]; omega
      · rw [if_neg p]; omega
  refine ⟨fun c => Sv_gap a.1 a.2 hm a'.1 a'.2 hm' c, fun c => Sv_gap a'.1 a'.2 hm' a.1 a.2 hm ?_, fun c => ?_, z0 k m, z0 k' m', z1 k m a hm, z1 k' m' a' hm', fun c => ?_⟩
  · rw [Int.mul_comm k' (m : Int), Int.mul_comm (m' : Int) k]
    omega
  · by_cases d : 0 < k * k' + (m : Int) * (m' : Int)
    · exact Or.inl (Sv_e c d)
    · have o := i_opp hk hk' c d
      exact Or.inr ⟨o.1, o.2.1⟩
  · rcases Nat.eq_zero_or_pos m with w | w
    · right
      intro v
      apply c
      rw [w, v, show ((0 : Nat) : Int) = 0 from rfl, Int.mul_zero, Int.zero_mul]
      rfl
    · exact Or.inl (by omega)
end TT
section PD
variable {t t' : tp}
theorem e_lt (h : tOk t) (h' : tOk t') {e e' : Nat} (d : dgt (szK t) e) (d' : dgt (szK t') e') (g : Sv (kT t) (mT t) + 2199023255552 ≤ Sv (kT t') (mT t')) : e < e' := by
  have b := szK_b h
  have b' := szK_b h'
  have s := szK_i h
  have s' := szK_i h'
  rw [← s, ← s'] at g
  have p := b.1.1
  have q := b'.1.2
  refine dg_lt b.2 ?_ (by omega) g d d'
  rcases b'.2 with w | w
  · exfalso
    rw [w, show (0 : Int64).toInt = 0 by decide] at g
    omega
  · exact w
theorem e_eq (h : tOk t) (h' : tOk t') {e e' : Nat} (d : dgt (szK t) e) (d' : dgt (szK t') e') (g : Sv (kT t) (mT t) = Sv (kT t') (mT t')) : e = e' := by
  have z : szK t = szK t' := Int64.toInt_inj.mp (by rw [szK_i h, szK_i h', g])
  rw [z] at d
  exact dg_e d d'
theorem rk_ord (h : tOk t) (h' : tOk t') : (tO t t' = -1 → (pRk (pFD t.2.2 (aNg t))).toInt < (pRk (pFD t'.2.2 (aNg t'))).toInt) ∧ (tO t t' = 0 → (pRk (pFD t.2.2 (aNg t))).toInt = (pRk (pFD t'.2.2 (aNg t'))).toInt) := by
  obtain ⟨e, d, r0, r1⟩ := rk_v h
  obtain ⟨e', d', r0', r1'⟩ := rk_v h'
  have f := qL_f h
  have f' := qL_f h'
  have L := look_c h h'
  have T := sv_two f.1 f'.1 f.2.2 f'.2.2 f.2.1 f'.2.1
  -- one half: the cross in sizes
  have up : tU t = 0 → tU t' = 0 → (mCr (qL t) t.2.1 (qL t') t'.2.1).toInt = kT t * (mT t' : Int) - (mT t : Int) * kT t' ∧ (mDt (qL t) t.2.1 (qL t') t'.2.1).toInt = kT t * kT t' + (mT t : Int) * (mT t' : Int) := fun z z' => by
    rw [mT_0 h z, mT_0 h' z']
    exact L
  have lo : tU t = 1 → tU t' = 1 → (mCr (qL t) t.2.1 (qL t') t'.2.1).toInt = -(kT t * (mT t' : Int) - (mT t : Int) * kT t') ∧ (mDt (qL t) t.2.1 (qL t') t'.2.1).toInt = kT t * kT t' + (mT t : Int) * (mT t' : Int) := fun z z' => by
    rw [mT_1 h z, mT_1 h' z', Int.mul_neg, Int.neg_mul, Int.neg_mul_neg, L.1]
    exact ⟨by omega, L.2⟩
  constructor
  · intro o
    unfold tO mOrd at o
    by_cases cf : tU t = tU t'
    · rw [if_pos cf] at o
      by_cases c0 : mCr (qL t) t.2.1 (qL t') t'.2.1 = 0
      · rw [if_pos c0] at o
        by_cases d0 : 0 < mDt (qL t) t.2.1 (qL t') t'.2.1
        · rw [if_pos d0] at o; exact absurd o (by decide)
        · rw [if_neg d0] at o
          rw [i32_0] at c0
          rw [i32_p] at d0
          by_cases g : decide (0 < qL t) = decide (tU t = 0)
          · rcases up_01 h with z | z
            · have z' : tU t' = 0 := cf.symm.trans z
              have u := up z z'
              rw [u.1] at c0
              rw [u.2] at d0
              obtain ⟨m0, m0', kk'⟩ := i_opp f.2.1 f'.2.1 c0 d0
              rw [decide_eq_true z] at g
              have kp : 0 < kT t := i32_p.mp (of_decide_eq_true g)
              have kn : ¬ 0 < kT t' := fun v => by
                have := Int.mul_pos kp v
                omega
              have lt := e_lt h h' d d' (by unfold Sv; rw [if_pos m0, if_pos m0', if_pos kp, if_neg kn]; decide)
              have := r0 z
              have := r0' z'
              omega
            · have z' : tU t' = 1 := cf.symm.trans z
              have u := lo z z'
              rw [u.1] at c0
              rw [u.2] at d0
              obtain ⟨m0, m0', kk'⟩ := i_opp f.2.1 f'.2.1 (by omega) d0
              rw [decide_eq_false (show ¬ tU t = 0 by rw [z]; decide)] at g
              have kn : ¬ 0 < kT t := fun v => of_decide_eq_false g (i32_p.mpr v)
              have kp : 0 < kT t' := by
                rcases Int.lt_or_le 0 (kT t') with v | v
                · exact v
                · exfalso
                  have := Int.mul_nonneg (show 0 ≤ -kT t by omega) (show 0 ≤ -kT t' by omega)
                  rw [Int.neg_mul_neg] at this
                  omega
              have lt := e_lt h' h d' d (by unfold Sv; rw [if_pos m0, if_pos m0', if_pos kp, if_neg kn]; decide)
              have := r1 z
              have := r1' z'
              omega
          · rw [if_neg g] at o; exact absurd o (by decide)
      · rw [if_neg c0] at o
        by_cases p : 0 < mCr (qL t) t.2.1 (qL t') t'.2.1
        · rw [i32_p] at p
          rcases up_01 h with z | z
          · have z' : tU t' = 0 := cf.symm.trans z
            rw [(up z z').1] at p
            have lt := e_lt h h' d d' (T.1 p)
            have := r0 z
            have := r0' z'
            omega
          · have z' : tU t' = 1 := cf.symm.trans z
            rw [(lo z z').1] at p
            have lt := e_lt h' h d' d (T.2.1 (by omega))
            have := r1 z
            have := r1' z'
            omega
        · rw [if_neg p] at o; exact absurd o (by decide)
    · rw [if_neg cf] at o
      rcases up_01 h with z | z <;> rcases up_01 h' with z' | z'
      · exact absurd (z.trans z'.symm) cf
      · rw [z, z'] at o; exact absurd o (by decide)
      · have := r1 z
        have := r0' z'
        omega
      · exact absurd (z.trans z'.symm) cf
  · intro o
    have v := mOrd_0 (up_01 h) (up_01 h') o
    have cf : tU t = tU t' := by
      unfold tO mOrd at o
      by_cases cf : tU t = tU t'
      · exact cf
      · rw [if_neg cf] at o
        rcases up_01 h with z | z <;> rcases up_01 h' with z' | z'
        · exact absurd (z.trans z'.symm) cf
        · rw [z, z'] at o; exact absurd o (by decide)
        · rw [z, z'] at o; exact absurd o (by decide)
        · exact absurd (z.trans z'.symm) cf
    rw [i32_0, i32_p] at v
    rcases up_01 h with z | z
    · have z' : tU t' = 0 := cf.symm.trans z
      have u := up z z'
      rw [u.1, u.2] at v
      have eq := e_eq h h' d d' (Sv_e v.1 v.2)
      have := r0 z
      have := r0' z'
      omega
    · have z' : tU t' = 1 := cf.symm.trans z
      have u := lo z z'
      rw [u.1, u.2] at v
      have eq := e_eq h h' d d' (Sv_e (by omega) v.2)
      have := r1 z
      have := r1' z'
      omega
/-- the class's look at first digits tells the order -/
theorem pair_d (h : tOk t) (h' : tOk t') : pSgn ((pRk (pFD t.2.2 (aNg t))).toInt64 - (pRk (pFD t'.2.2 (aNg t'))).toInt64) = tO t t' := by
  have k := tO_key h h'
  rw [pSgn_i, sg_i]
  rcases Int.lt_trichotomy (qK t) (qK t') with w | w | w
  · have o := k.trans (c3_lt w)
    have l := (rk_ord h h').1 o
    rw [o, if_neg (by omega), if_pos (by omega)]
  · have o := k.trans (c3_eq w)
    have l := (rk_ord h h').2 o
    rw [o, if_neg (by omega), if_neg (by omega)]
  · have o := k.trans (c3_gt w)
    have o' := (tO_key h' h).trans (c3_lt w)
    have l := (rk_ord h' h).1 o'
    rw [o, if_pos (by omega)]
end PD
-- SIDES BY ANGLES
section PS
variable {x y : Int64} {t t' : tp}
theorem sb1_i (hx : -3622009729038561421 ≤ x.toInt ∧ x.toInt ≤ 3622009729038561421) (hy : -3622009729038561421 ≤ y.toInt ∧ y.toInt ≤ 3622009729038561421) : (pSB1 (y - x)).toInt = if 3622009729038561280 < y.toInt - x.toInt then y.toInt - x.toInt - 7244019458077122560 else if y.toInt - x.toInt < -3622009729038561280 then y.toInt - x.toInt + 7244019458077122560 else y.toInt - x.toInt := by
  have e : (y - x).toInt = y.toInt - x.toInt := by
    rw [Int64.toInt_sub]
    exact Int.bmod_eq_of_le (by omega) (by omega)
  have c1 : (3622009729038561280 : Int64) < y - x ↔ 3622009729038561280 < y.toInt - x.toInt := by
    rw [Int64.lt_iff_toInt_lt, e, show (3622009729038561280 : Int64).toInt = 3622009729038561280 by decide]
  have c2 : y - x < (-3622009729038561280 : Int64) ↔ y.toInt - x.toInt < -3622009729038561280 := by
    rw [Int64.lt_iff_toInt_lt, e, show (-3622009729038561280 : Int64).toInt = -3622009729038561280 by decide]
  unfold pSB1
  by_cases a : 3622009729038561280 < y.toInt - x.toInt
  · rw [if_pos (c1.mpr a), if_pos a, Int64.toInt_sub, e, show (7244019458077122560 : Int64).toInt = 7244019458077122560 by decide]
    exact Int.bmod_eq_of_le (by omega) (by omega)
  · rw [if_neg (fun v => a (c1.mp v)), if_neg a]
    by_cases b : y.toInt - x.toInt < -3622009729038561280
    · rw [if_pos (c2.mpr b), if_pos b, Int64.toInt_add, e, show (7244019458077122560 : Int64).toInt = 7244019458077122560 by decide]
      exact Int.bmod_eq_of_le (by omega) (by omega)
    · rw [if_neg (fun v => b (c2.mp v)), if_neg b, e]
theorem ab_i {v : Int64} (h : -3622009729038561421 ≤ v.toInt ∧ v.toInt ≤ 3622009729038561421) : (pAb v).toInt = if v.toInt < 0 then -v.toInt else v.toInt := by
  have c1 : v < 0 ↔ v.toInt < 0 := by
    rw [Int64.lt_iff_toInt_lt, show (0 : Int64).toInt = 0 by decide]
  unfold pAb
  by_cases c : v.toInt < 0
  · rw [if_pos (c1.mpr c), if_pos c, Int64.toInt_neg]
    exact Int.bmod_eq_of_le (by omega) (by omega)
  · rw [if_neg (fun w => c (c1.mp w)), if_neg c]
theorem sb_c {v : Int} (hv : (pSB1 (y - x)).toInt = v) (b : -3622009729038561421 ≤ v ∧ v ≤ 3622009729038561421) : pSB x y = if (if v < 0 then -v else v) < 1099511627776 then 0 else if 3622009729038561280 - (if v < 0 then -v else v) < 1099511627776 then 0 else if 0 < v then 1 else if v < 0 then -1 else 0 := by
  have a := ab_i (v := pSB1 (y - x)) (by rw [hv]; exact b)
  rw [hv] at a
  have e : (3622009729038561280 - pAb (pSB1 (y - x))).toInt = 3622009729038561280 - (if v < 0 then -v else v) := by
    rw [Int64.toInt_sub, a, show (3622009729038561280 : Int64).toInt = 3622009729038561280 by decide]
    by_cases c : v < 0
    · rw [if_pos c]; exact Int.bmod_eq_of_le (by omega) (by omega)
    · rw [if_neg c]; exact Int.bmod_eq_of_le (by omega) (by omega)
  have c1 : pAb (pSB1 (y - x)) < 1099511627776 ↔ (if v < 0 then -v else v) < 1099511627776 := by
    rw [Int64.lt_iff_toInt_lt, a, show (1099511627776 : Int64).toInt = 1099511627776 by decide]
  have c2 : 3622009729038561280 - pAb (pSB1 (y - x)) < 1099511627776 ↔ 3622009729038561280 - (if v < 0 then -v else v) < 1099511627776 := by
    rw [Int64.lt_iff_toInt_lt, e, show (1099511627776 : Int64).toInt = 1099511627776 by decide]
  unfold pSB
  generalize (if v < 0 then -v else v) = u at c1 c2 ⊢
  by_cases p : u < 1099511627776
  · rw [if_pos (c1.mpr p), if_pos p]
  · rw [if_neg (fun w => p (c1.mp w)), if_neg p]
    by_cases q : 3622009729038561280 - u < 1099511627776
    · rw [if_pos (c2.mpr q), if_pos q]
    · rw [if_neg (fun w => q (c2.mp w)), if_neg q, pSgn_i, hv]
theorem sb_0 (hx : -3622009729038561421 ≤ x.toInt ∧ x.toInt ≤ 3622009729038561421) (hy : -3622009729038561421 ≤ y.toInt ∧ y.toInt ≤ 3622009729038561421) {v : Int} (hv : (pSB1 (y - x)).toInt = v) (b : -3622009729038561421 ≤ v ∧ v ≤ 3622009729038561421) (c : (-1099511627776 < v ∧ v < 1099511627776) ∨ 3622009729038561280 - 1099511627776 < v ∨ v < -3622009729038561280 + 1099511627776) : pSB x y = 0 := by
  rw [sb_c hv b]
  by_cases n : v < 0
  · rw [if_pos n]
    by_cases a : -v < 1099511627776
    · rw [if_pos a]
    · rw [if_neg a, if_pos (by omega)]
  · rw [if_neg n]
    by_cases a : v < 1099511627776
    · rw [if_pos a]
    · rw [if_neg a, if_pos (by omega)]
theorem sb_p {v : Int} (hv : (pSB1 (y - x)).toInt = v) (c : 1099511627776 ≤ v ∧ v ≤ 3622009729038561280 - 1099511627776) : pSB x y = 1 := by
  rw [sb_c hv (by omega), if_neg (show ¬ v < 0 by omega), if_neg (by omega), if_neg (by omega), if_pos (by omega)]
theorem sb_n {v : Int} (hv : (pSB1 (y - x)).toInt = v) (c : v ≤ -1099511627776 ∧ -3622009729038561280 + 1099511627776 ≤ v) : pSB x y = -1 := by
  rw [sb_c hv (by omega), if_pos (show v < 0 by omega), if_neg (by omega), if_neg (by omega), if_neg (by omega), if_pos (by omega)]
/-- a tells the way from angle p to angle q, in whole numbers -/
theorem sb_w (hx : -3622009729038561421 ≤ x.toInt ∧ x.toInt ≤ 3622009729038561421) (hy : -3622009729038561421 ≤ y.toInt ∧ y.toInt ≤ 3622009729038561421) {C : Int} (hp : 0 < C → ∃ w, w = y.toInt - x.toInt ∧ ((1099511627776 ≤ w ∧ w ≤ 3622009729038561280 - 1099511627776) ∨ (w < -3622009729038561280 ∧ 1099511627776 ≤ w + 7244019458077122560 ∧ w + 7244019458077122560 ≤ 3622009729038561280 - 1099511627776))) (hn : C < 0 → ∃ w, w = y.toInt - x.toInt ∧ ((w ≤ -1099511627776 ∧ -3622009729038561280 + 1099511627776 ≤ w) ∨ (3622009729038561280 < w ∧ w - 7244019458077122560 ≤ -1099511627776 ∧ -3622009729038561280 + 1099511627776 ≤ w - 7244019458077122560))) (hz : C = 0 → ∃ w, w = y.toInt - x.toInt ∧ (w = 0 ∨ w = 7244019458077122560 ∨ w = -7244019458077122560 ∨ (3622009729038561280 ≤ w ∧ w ≤ 3622009729038561421) ∨ (-3622009729038561421 ≤ w ∧ w ≤ -3622009729038561280))) : pSB x y = if 0 < C then 1 else if C < 0 then -1 else 0 := by
  have e := sb1_i hx hy
  rcases Int.lt_trichotomy C 0 with c | c | c
  · rw [if_neg (by omega), if_pos c]
    obtain ⟨w, hw, hc⟩ := hn c
    rw [← hw] at e
    rcases hc with hc | hc
    · rw [if_neg (by omega), if_neg (by omega)] at e
      exact sb_n e hc
    · rw [if_pos hc.1] at e
      exact sb_n e hc.2
  · rw [if_neg (by omega), if_neg (by omega)]
    obtain ⟨w, hw, hc⟩ := hz c
    rw [← hw] at e
    by_cases a : 3622009729038561280 < w
    · rw [if_pos a] at e
      exact sb_0 hx hy e (by omega) (by omega)
    · rw [if_neg a] at e
      by_cases b : w < -3622009729038561280
      · rw [if_pos b] at e
        exact sb_0 hx hy e (by omega) (by omega)
      · rw [if_neg b] at e
        exact sb_0 hx hy e (by omega) (by omega)
  · rw [if_pos c]
    obtain ⟨w, hw, hc⟩ := hp c
    rw [← hw] at e
    rcases hc with hc | hc
    · rw [if_neg (by omega), if_neg (by omega)] at e
      exact sb_p e hc
    · rw [if_neg (by omega), if_pos hc.1] at e
      exact sb_p e hc.2
/-- the class's look at angles tells the side -/
theorem pair_s (h : tOk t) (h' : tOk t') (n : ¬ (t.1 = 0 ∧ t.2.1 = 0)) (n' : ¬ (t'.1 = 0 ∧ t'.2.1 = 0)) : pSB (aNg t) (aNg t') = pSgn (pCross t.1 t.2.1 t'.1 t'.2.1).toInt64 := by
  have f := qL_f h
  have f' := qL_f h'
  have L := (look_c h h').1
  have T := sv_two f.1 f'.1 f.2.2 f'.2.2 f.2.1 f'.2.1
  have f2 : -127 ≤ -kT t' ∧ -kT t' ≤ 127 := by omega
  have T2 := sv_two f.1 f2 f.2.2 f'.2.2 f.2.1 (fun e v => f'.2.1 e (by omega))
  have O := Sv_o f'.1.1 f'.1.2 f'.2.2 f'.2.1
  have A := aNg_i h
  have A' := aNg_i h'
  have ec : pCross t.1 t.2.1 t'.1 t'.2.1 = mCr (qL t) t.2.1 (qL t') t'.2.1 := by
    rw [show qL t = t.1 from mLk_nz n, show qL t' = t'.1 from mLk_nz n']
    rfl
  have b0 := Sv_b f.1.1 f.1.2 f.2.2
  have b0' := Sv_b f'.1.1 f'.1.2 f'.2.2
  rw [pSgn_i, Int32.toInt_toInt64, ec, L]
  rw [Int.mul_neg] at T2
  generalize Sv (kT t) (mT t) = S at *
  generalize Sv (kT t') (mT t') = S' at *
  generalize Sv (-kT t') (mT t') = S2 at *
  rcases up_01 h with z | z <;> rcases up_01 h' with z' | z'
  · have a := A.1 z
    have a' := A'.1 z'
    clear T2 O A A' f f' f2 L ec
    rw [← mT_0 h z, ← mT_0 h' z']
    generalize kT t * (mT t' : Int) = p at *
    generalize (mT t : Int) * kT t' = q at *
    exact sb_w (by omega) (by omega) (fun c => ⟨_, rfl, by omega⟩) (fun c => ⟨_, rfl, by omega⟩) (fun c => ⟨_, rfl, by omega⟩)
  · have a := A.1 z
    have a' := A'.2 z'
    have u5 := T.2.2.2.2.1
    clear T
    rw [← mT_0 h z, show t'.2.1.toInt = -(mT t' : Int) by have := mT_1 h' z'; omega, Int.mul_neg]
    generalize kT t * (mT t' : Int) = p at *
    generalize (mT t : Int) * kT t' = q at *
    exact sb_w (by omega) (by omega) (fun c => ⟨_, rfl, by omega⟩) (fun c => ⟨_, rfl, by omega⟩) (fun c => ⟨_, rfl, by omega⟩)
  · have a := A.2 z
    have a' := A'.1 z'
    have u5 := T.2.2.2.2.1
    clear T
    rw [← mT_0 h' z', show t.2.1.toInt = -(mT t : Int) by have := mT_1 h z; omega, Int.neg_mul]
    generalize kT t * (mT t' : Int) = p at *
    generalize (mT t : Int) * kT t' = q at *
    exact sb_w (by omega) (by omega) (fun c => ⟨_, rfl, by omega⟩) (fun c => ⟨_, rfl, by omega⟩) (fun c => ⟨_, rfl, by omega⟩)
  · have a := A.2 z
    have a' := A'.2 z'
    clear T2 O
    rw [show t.2.1.toInt = -(mT t : Int) by have := mT_1 h z; omega, show t'.2.1.toInt = -(mT t' : Int) by have := mT_1 h' z'; omega, Int.mul_neg, Int.neg_mul]
    generalize kT t * (mT t' : Int) = p at *
    generalize (mT t : Int) * kT t' = q at *
    exact sb_w (by omega) (by omega) (fun c => ⟨_, rfl, by omega⟩) (fun c => ⟨_, rfl, by omega⟩) (fun c => ⟨_, rfl, by omega⟩)
end PS
