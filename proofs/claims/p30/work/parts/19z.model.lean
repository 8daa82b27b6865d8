-- THE REFERENCE
def qN (n : Nat) : Int64 := Int64.ofNat n
theorem qN_a (a b : Nat) : qN a + qN b = qN (a + b) := (Int64.ofNat_add a b).symm
theorem qN_m (a b : Nat) : qN a * qN b = qN (a * b) := (Int64.ofNat_mul a b).symm
theorem qN_i {n : Nat} (h : n < 2 ^ 63) : (qN n).toInt = n := Int64.toInt_ofNat_of_lt h
theorem qN_lt {a b : Nat} (ha : a < 2 ^ 63) (hb : b < 2 ^ 63) : qN a < qN b ↔ a < b := by
  rw [Int64.lt_iff_toInt_lt, qN_i ha, qN_i hb]; omega
theorem qN_le {a b : Nat} (ha : a < 2 ^ 63) (hb : b < 2 ^ 63) : qN a ≤ qN b ↔ a ≤ b := by
  rw [Int64.le_iff_toInt_le, qN_i ha, qN_i hb]; omega
theorem qN_d {a b : Nat} (ha : a < 2 ^ 63) (hb : b < 2 ^ 63) : qN a / qN b = qN (a / b) := by
  apply Int64.toInt_inj.mp
  have h1 : a / b ≤ a := Nat.div_le_self _ _
  rw [qN_i (by omega), Int64.toInt_div, qN_i ha, qN_i hb]
  rw [show ((a : Int).tdiv (b : Int)) = ((a / b : Nat) : Int) from by rw [Int.tdiv_eq_ediv_of_nonneg (by omega)]; rfl]
  have h2 : a / b < 2 ^ 63 := by omega
  generalize a / b = q at h2
  exact Int.bmod_eq_of_le (by omega) (by omega)
theorem qN_r {a b : Nat} (ha : a < 2 ^ 63) (hb : b < 2 ^ 63) : qN a % qN b = qN (a % b) := by
  apply Int64.toInt_inj.mp
  have h1 : a % b ≤ a := Nat.mod_le _ _
  rw [qN_i (by omega), Int64.toInt_mod, qN_i ha, qN_i hb, Int.tmod_eq_emod_of_nonneg (by omega)]
  rfl
theorem qN_n {n : Nat} (h : n < 2 ^ 31) : (nI n).toInt64 = qN n := by
  apply Int64.toInt_inj.mp
  rw [Int32.toInt_toInt64, qN_i (by omega)]
  exact Int32.toInt_ofNat_of_lt h
def nPt (v n d : Nat) : Nat := v / d * n + v % d * n / d
theorem nPt_half {v n d m : Nat} (hv : v < 2 ^ (m + 1)) (hn : 2 * n ≤ d) (hd : 0 < d) : nPt v n d < 2 ^ m := by
  have h1 : d * (v % d * n / d) ≤ v % d * n := Nat.mul_div_le _ _
  have h2 : d * nPt v n d ≤ v * n := by
    have e : v * n = d * (v / d * n) + v % d * n := by
      have := Nat.div_add_mod v d
      calc v * n = (d * (v / d) + v % d) * n := by rw [this]
        _ = d * (v / d * n) + v % d * n := by rw [Nat.add_mul, Nat.mul_assoc]
    unfold nPt
    rw [Nat.mul_add, e]
    omega
  have h3 : d * (2 * nPt v n d) ≤ d * v := by
    have a1 : d * (2 * nPt v n d) = 2 * (d * nPt v n d) := by rw [Nat.mul_left_comm]
    have a2 : 2 * (v * n) = v * (2 * n) := by rw [Nat.mul_left_comm]
    have a3 : v * (2 * n) ≤ v * d := Nat.mul_le_mul_left v hn
    rw [a1, Nat.mul_comm d v]
    omega
  have h4 := Nat.le_of_mul_le_mul_left h3 hd
  rw [Nat.pow_succ] at hv
  omega
theorem qN_s {a b : Nat} (h : b ≤ a) : qN a - qN b = qN (a - b) := by
  have e : qN a = qN (a - b) + qN b := by rw [qN_a, Nat.sub_add_cancel h]
  rw [e, Int64.add_sub_cancel]
theorem qN_pt {v n d : Nat} (hv : v < 2 ^ 61) (hd : d < 2 ^ 61) (hb : v % d * n < 2 ^ 63) : qN v / qN d * qN n + (qN v - qN v / qN d * qN d) * qN n / qN d = qN (nPt v n d) := by
  have e : v - v / d * d = v % d := by have := Nat.div_add_mod v d; rw [Nat.mul_comm] at this; omega
  rw [qN_d (by omega) (by omega), qN_m, qN_m, qN_s (Nat.div_mul_le_self v d), e, qN_m, qN_d hb (by omega), qN_a]
  rfl
theorem qN_0 {n : Nat} (h : n < 2 ^ 63) (h0 : 0 < n) : ¬ qN n = 0 := fun e => by
  have := congrArg Int64.toInt e
  rw [qN_i h] at this
  have e0 : (0 : Int64).toInt = 0 := by decide
  omega
theorem sq_le {h w : Nat} (hw : h ≤ w) : 2 * (w * h) ≤ w * w + h * h := by
  obtain ⟨e, rfl⟩ := Nat.exists_eq_add_of_le hw
  simp only [Nat.add_mul, Nat.mul_add]
  rw [Nat.mul_comm e h]
  have : 0 ≤ e * e := Nat.zero_le _
  omega
theorem sq_up {a b : Nat} (ha : a ≤ 127) (hb : b ≤ 127) : a * b ≤ 16129 := Nat.le_trans (Nat.mul_le_mul ha hb) (by decide)
/-- the first member of the row -/
theorem arc0 {h w : Nat} (hw : h ≤ w) (hw2 : w ≤ 127) (h0 : 0 < w) : qN (2 ^ 60) / qN (w * w + h * h) * qN (w * h) + (qN (2 ^ 60) - qN (2 ^ 60) / qN (w * w + h * h) * qN (w * w + h * h)) * qN (w * h) / qN (w * w + h * h) = qN (nPt (2 ^ 60) (w * h) (w * w + h * h)) ∧ nPt (2 ^ 60) (w * h) (w * w + h * h) < 2 ^ 60 ∧ ¬ qN (w * w + h * h) = 0 := by
  have a1 := sq_up hw2 hw2
  have a2 := sq_up (show h ≤ 127 by omega) (show h ≤ 127 by omega)
  have a3 := sq_up hw2 (show h ≤ 127 by omega)
  have a4 : 0 < w * w := Nat.mul_pos h0 h0
  have a5 := sq_le hw
  generalize w * w = W at *
  generalize h * h = Z at *
  generalize w * h = Y at *
  have b1 : 2 ^ 60 % (W + Z) < W + Z := Nat.mod_lt _ (by omega)
  refine ⟨qN_pt (by decide) (by omega) ?_, nPt_half (m := 60) (by decide) a5 (by omega), qN_0 (by omega) (by omega)⟩
  refine Nat.lt_of_le_of_lt (Nat.mul_le_mul (Nat.le_of_lt b1) a3) ?_
  omega
/-- the next -/
theorem arcN {h s i t m : Nat} (hh : h ≤ 127) (hs : 2 * (h * h) ≤ s) (hs2 : s ≤ 32258) (hs0 : 0 < s) (hi : i ≤ 60) (hm : m ≤ 59) (ht : t < 2 ^ (m + 1)) : qN t / ((2 * nI i + 1).toInt64 * qN s) * ((2 * nI i).toInt64 * qN h * qN h) + (qN t - qN t / ((2 * nI i + 1).toInt64 * qN s) * ((2 * nI i + 1).toInt64 * qN s)) * ((2 * nI i).toInt64 * qN h * qN h) / ((2 * nI i + 1).toInt64 * qN s) = qN (nPt t (2 * i * (h * h)) ((2 * i + 1) * s)) ∧ nPt t (2 * i * (h * h)) ((2 * i + 1) * s) < 2 ^ m ∧ ¬ (2 * nI i + 1).toInt64 * qN s = 0 := by
  have z1 : (2 : Int32) * nI i = nI (2 * i) := by rw [show (2 : Int32) = nI 2 from rfl]; exact (Int32.ofNat_mul 2 i).symm
  have e1 : (2 * nI i).toInt64 = qN (2 * i) := by rw [z1]; exact qN_n (by omega)
  have e2 : (2 * nI i + 1).toInt64 = qN (2 * i + 1) := by rw [z1, nI_1]; exact qN_n (by omega)
  rw [e1, e2, qN_m, qN_m, qN_m, Nat.mul_assoc (2 * i) h h]
  have a2 := sq_up hh hh
  generalize h * h = Z at *
  have c1 : (2 * i + 1) * s ≤ 121 * 32258 := Nat.mul_le_mul (by omega) hs2
  have c2 : 2 * i * Z ≤ 120 * 16129 := Nat.mul_le_mul (by omega) a2
  have c3 : 0 < (2 * i + 1) * s := Nat.mul_pos (by omega) hs0
  have c4 : 2 * (2 * i * Z) ≤ (2 * i + 1) * s := by
    have q1 : 2 * (2 * i * Z) = 2 * i * (2 * Z) := by rw [Nat.mul_left_comm]
    have q2 : 2 * i * (2 * Z) ≤ 2 * i * s := Nat.mul_le_mul_left _ hs
    rw [Nat.add_mul]
    omega
  have ht2 : t < 2 ^ 61 := Nat.lt_of_lt_of_le ht (Nat.pow_le_pow_right (by decide) (by omega))
  generalize (2 * i + 1) * s = D at *
  generalize 2 * i * Z = Y at *
  have b1 : t % D < D := Nat.mod_lt _ c3
  refine ⟨qN_pt ht2 (by omega) ?_, nPt_half ht c4 c3, qN_0 (by omega) c3⟩
  refine Nat.lt_of_le_of_lt (Nat.mul_le_mul (Nat.le_of_lt b1) c2) ?_
  omega
theorem nI_abs {x : Int32} (h : pIn x (-127) 127 = true) : ∃ a, a ≤ 127 ∧ (x ≠ 0 → 0 < a) ∧ (if 0 ≤ x then x else 0 - x) = nI a := by
  unfold pIn at h
  rw [Bool.and_eq_true, decide_eq_true_eq, decide_eq_true_eq] at h
  obtain ⟨h1, h2⟩ := h
  rw [Int32.le_iff_toInt_le] at h1 h2
  have e1 : (-127 : Int32).toInt = -127 := by decide
  have e2 : (127 : Int32).toInt = 127 := by decide
  rw [e1] at h1
  rw [e2] at h2
  refine ⟨x.toInt.natAbs, by omega, fun hn => ?_, ?_⟩
  · have : x.toInt ≠ 0 := fun z => hn (Int32.toInt_inj.mp (by rw [z]; decide))
    omega
  have e0 : (0 : Int32).toInt = 0 := by decide
  split
  · rename_i hz
    rw [Int32.le_iff_toInt_le, e0] at hz
    apply Int32.toInt_inj.mp
    rw [show (nI x.toInt.natAbs).toInt = (x.toInt.natAbs : Int) from Int32.toInt_ofNat_of_lt (by omega)]
    omega
  · rename_i hz
    rw [Int32.le_iff_toInt_le, e0] at hz
    apply Int32.toInt_inj.mp
    rw [show (nI x.toInt.natAbs).toInt = (x.toInt.natAbs : Int) from Int32.toInt_ofNat_of_lt (by omega), Int32.zero_sub, Int32.toInt_neg, Int.bmod_eq_of_le (by omega) (by omega)]
    omega
-- sizes of angles, in units
def arS (h s : Nat) : Nat → Nat → Nat → Nat
  | 0, _, _ => 0
  | m + 1, i, t => if t = 0 then 0 else t + arS h s m (i + 1) (nPt t (2 * i * (h * h)) ((2 * i + 1) * s))
theorem arS_0 {h s m i : Nat} : arS h s m i 0 = 0 := by
  cases m
  · rfl
  · exact if_pos rfl
theorem arS_s {h s m i t : Nat} (ht : t ≠ 0) : arS h s (m + 1) i t = t + arS h s m (i + 1) (nPt t (2 * i * (h * h)) ((2 * i + 1) * s)) := if_neg ht
def arA (h w : Nat) : Nat := arS h (w * w + h * h) 60 1 (nPt (2 ^ 60) (w * h) (w * w + h * h))
theorem arT {t m : Nat} (ht : t < 2 ^ m) (hm : m ≤ 61) (h : lg_cmp (qN t) 0 ≤ 0) : t = 0 := by
  rw [lg_cmp_le, show (0 : Int64) = qN 0 from rfl] at h
  have h2 : t < 2 ^ 61 := Nat.lt_of_lt_of_le ht (Nat.pow_le_pow_right (by decide) hm)
  rw [qN_le (by omega) (by decide)] at h
  omega
def aN (x : Int32) : Nat := x.toInt.natAbs
theorem nI_aN {x : Int32} (h : pIn x (-127) 127 = true) : (if 0 ≤ x then x else 0 - x) = nI (aN x) ∧ aN x ≤ 127 ∧ (x ≠ 0 → 0 < aN x) := by
  have hx := pIn_i h
  have e : (abI x).toInt = (nI (aN x)).toInt := by
    unfold aN
    rw [abI_i h, nI_toInt (by omega)]
    split <;> omega
  refine ⟨Int32.toInt_inj.mp e, by unfold aN; omega, fun hn => ?_⟩
  unfold aN
  have : x.toInt ≠ 0 := fun z => hn (i32_0.mpr z)
  omega
def slM (a b : Nat) : Int64 := if b ≤ a then qN (arA b a) else 1811004864519280710 - qN (arA a b)
def slR (x : Int32) (b : Nat) : Int64 := if x < 0 then 3622009729038561421 - slM (aN x) b else slM (aN x) b
def szR (x u s : Int32) : Int64 := if u = 0 then (if 0 < mLk x u s then 0 else 3622009729038561280) else if x = 0 then 1811004864519280640 else slR x (aN u)
def grR (v : Int64) (b d : Int32) : Int32 := ((if b = 1 then -v else v) >>> (((60 : Int32) - d).toInt64 &&& 63)).toInt32
def anBe (p q d : Int32) (v : vw) : Int32 := if nn p = nn q then -9 else grR (szR (vP v (nn q) - vP v (nn p)) (vQ v (nn q) - vQ v (nn p)) 0) (bI (decide (vQ v (nn q) - vQ v (nn p) < 0))) d
theorem anBe_n {i : Nat} {d : Int32} {v : vw} : anBe (nI i) (nI i) d v = -9 := if_pos rfl
theorem anBe_t {a b c d : Int32} {n : Nat} {f g : Nat → Int32} {i j : Nat} (hn : n ≤ 12) (hi : i < n) (hj : j < n) (h1 : i ≠ j) : anBe (nI i) (nI j) d (vOf a b c n f g) = grR (szR (f j - f i) (g j - g i) 0) (bI (decide (g j - g i < 0))) d := by
  unfold anBe
  rw [nn_nI (show i ≤ 12 by omega), nn_nI (show j ≤ 12 by omega), if_neg h1]
  show grR (szR (vMk n f j - vMk n f i) (vMk n g j - vMk n g i) 0) (bI (decide (vMk n g j - vMk n g i < 0))) d = _
  rw [vMk_l hi, vMk_l hi, vMk_l hj, vMk_l hj]
theorem pIn_nI {x : Int32} (n : Nat) (hn : n < 1000) (h : pIn x 0 (nI n) = true) : ∃ j, j ≤ n ∧ x = nI j := by
  unfold pIn at h
  rw [Bool.and_eq_true, decide_eq_true_eq, decide_eq_true_eq] at h
  obtain ⟨h1, h2⟩ := h
  rw [Int32.le_iff_toInt_le] at h1 h2
  have e0 : (0 : Int32).toInt = 0 := by decide
  rw [e0] at h1
  rw [show (nI n).toInt = (n : Int) from Int32.toInt_ofNat_of_lt (by omega)] at h2
  refine ⟨x.toInt.toNat, by omega, ?_⟩
  apply Int32.toInt_inj.mp
  rw [show (nI x.toInt.toNat).toInt = (x.toInt.toNat : Int) from Int32.toInt_ofNat_of_lt (by omega)]
  omega
def pOne (x : Int32) : Int32 := if x = 0 then 0 else 1
def mL (I : Nat → Nat → Int32) (j : Nat) : Int32 := mLk (I 88 j) (I 104 j) (I 120 j &&& 1)
def mU (I : Nat → Nat → Int32) (j : Nat) : Int32 := I 120 j >>> ((1 : Int32) &&& 31)
def mOA (I : Nat → Nat → Int32) (j k : Nat) : Int32 := mOrd (mL I j) (I 104 j) (mU I j) (mL I k) (I 104 k) (mU I k)
def tH (I : Nat → Nat → Int32) (b : Bool) (w : Int32) : Nat → Nat → Int32 := if b then aj_u I 22 0 w else I
def mS : List Nat := [22, 88, 104, 120, 136, 152, 168]
def mS0 : List Nat := [22, 136, 152, 168]
theorem mS0_mS : ∀ i ∈ mS0, i ∈ mS := by decide
def mI (I : Nat → Nat → Int32) : Prop := (∀ k, k < 8 → pIn (I 88 k) (-127) 127 = true ∧ pIn (I 104 k) (-127) 127 = true) ∧ (∃ n, n ≤ 12 ∧ I 22 7 = nI n) ∧ (∀ k, k < 12 → pIn (I 136 k) (-64) 63 = true ∧ pIn (I 152 k) (-64) 63 = true) ∧ pIn (I 22 8) (-64) 63 = true ∧ pIn (I 22 9) (-64) 63 = true
def mQ (I : Nat → Nat → Int32) (J : Nat → Nat → Int64) (I1 : Nat → Nat → Int32) (J1 : Nat → Nat → Int64) (q : vw) : Prop := eqO mS0 I I1 ∧ mI I1 ∧ kV I1 = q ∧ ∀ i, i ≠ 41 → J1 i = J i
def mR (I : Nat → Nat → Int32) (J : Nat → Nat → Int64) (I1 : Nat → Nat → Int32) (J1 : Nat → Nat → Int64) : Prop := eqO mS0 I I1 ∧ mI I1 ∧ kV I1 = kV I ∧ ∀ i, i ≠ 41 → J1 i = J i
theorem mQ.tr {I I1 I2 : Nat → Nat → Int32} {J J1 J2 : Nat → Nat → Int64} {q : vw} (h : mR I J I1 J1) (h2 : mQ I1 J1 I2 J2 q) : mQ I J I2 J2 q := ⟨eqO.tr h.1 h2.1, h2.2.1, h2.2.2.1, fun i hi => (h2.2.2.2 i hi).trans (h.2.2.2 i hi)⟩
theorem mQ.rt {I I1 I2 : Nat → Nat → Int32} {J J1 J2 : Nat → Nat → Int64} {q : vw} (h : mQ I J I1 J1 q) (h2 : mR I1 J1 I2 J2) : mQ I J I2 J2 q := ⟨eqO.tr h.1 h2.1, h2.2.1, h2.2.2.1.trans h.2.2.1, fun i hi => (h2.2.2.2 i hi).trans (h.2.2.2 i hi)⟩
theorem mR.rf {I : Nat → Nat → Int32} {J : Nat → Nat → Int64} (h : mI I) : mR I J I J := ⟨eqO.rf, h, rfl, fun _ _ => rfl⟩
theorem mR.tr {I I1 I2 : Nat → Nat → Int32} {J J1 J2 : Nat → Nat → Int64} (h : mR I J I1 J1) (h2 : mR I1 J1 I2 J2) : mR I J I2 J2 := ⟨eqO.tr h.1 h2.1, h2.2.1, h2.2.2.1.trans h.2.2.1, fun i hi => (h2.2.2.2 i hi).trans (h.2.2.2 i hi)⟩
theorem mI.t {I : Nat → Nat → Int32} {v : Int32} (h : mI I) : mI (aj_u I 22 0 v) := by
  obtain ⟨h1, h2, h3, h4, h5⟩ := h
  refine ⟨?_, ?_, ?_, ?_, ?_⟩
  · rw [aj_u_o _ _ (by decide), aj_u_o _ _ (by decide)]; exact h1
  · rw [aj_u_k _ _ _ (by decide)]; exact h2
  · rw [aj_u_o _ _ (by decide), aj_u_o _ _ (by decide)]; exact h3
  · rw [aj_u_k _ _ _ (by decide)]; exact h4
  · rw [aj_u_k _ _ _ (by decide)]; exact h5
theorem mI.tt {I : Nat → Nat → Int32} {b : Bool} {w : Int32} (h : mI I) : mI (tH I b w) := by
  unfold tH; split
  · exact h.t
  · exact h
theorem mI.h {I : Nat → Nat → Int32} {k : Nat} {v : Int32} (h : mI I) : mI (aj_u I 168 k v) := by
  obtain ⟨h1, h2, h3, h4, h5⟩ := h
  refine ⟨?_, ?_, ?_, ?_, ?_⟩ <;> (repeat rw [aj_u_o _ _ (by decide)]) <;> assumption
theorem mI.s {I : Nat → Nat → Int32} {k : Nat} {v : Int32} (h : mI I) : mI (aj_u I 120 k v) := by
  obtain ⟨h1, h2, h3, h4, h5⟩ := h
  refine ⟨?_, ?_, ?_, ?_, ?_⟩ <;> (repeat rw [aj_u_o _ _ (by decide)]) <;> assumption
theorem mI.xu {I : Nat → Nat → Int32} {i k : Nat} {v : Int32} (hi : i = 88 ∨ i = 104) (hv : pIn v (-127) 127 = true) (h : mI I) : mI (aj_u I i k v) := by
  obtain ⟨h1, h2, h3, h4, h5⟩ := h
  have n1 : 22 ≠ i := by omega
  have n2 : 136 ≠ i := by omega
  have n3 : 152 ≠ i := by omega
  refine ⟨?_, ?_, ?_, ?_, ?_⟩
  · intro m hm
    unfold aj_u
    refine ⟨?_, ?_⟩
    · split
      · exact hv
      · exact (h1 m hm).1
    · split
      · exact hv
      · exact (h1 m hm).2
  · rw [aj_u_o _ _ n1]; exact h2
  · rw [aj_u_o _ _ n2, aj_u_o _ _ n3]; exact h3
  · rw [aj_u_o _ _ n1]; exact h4
  · rw [aj_u_o _ _ n1]; exact h5
theorem mI.xy {I : Nat → Nat → Int32} {i k : Nat} {v : Int32} (hi : i = 136 ∨ i = 152) (hv : pIn v (-64) 63 = true) (h : mI I) : mI (aj_u I i k v) := by
  obtain ⟨h1, h2, h3, h4, h5⟩ := h
  have n1 : 22 ≠ i := by omega
  have n2 : 88 ≠ i := by omega
  have n3 : 104 ≠ i := by omega
  refine ⟨?_, ?_, ?_, ?_, ?_⟩
  · rw [aj_u_o _ _ n2, aj_u_o _ _ n3]; exact h1
  · rw [aj_u_o _ _ n1]; exact h2
  · intro m hm
    unfold aj_u
    refine ⟨?_, ?_⟩
    · split
      · exact hv
      · exact (h3 m hm).1
    · split
      · exact hv
      · exact (h3 m hm).2
  · rw [aj_u_o _ _ n1]; exact h4
  · rw [aj_u_o _ _ n1]; exact h5

def ush (x y : Int32) : Int32 := (x.toUInt32 >>> (y.toUInt32 &&& Int32.toUInt32 31)).toInt32
def bc1 (x : Int32) : Int32 := x - (ush x 1 &&& 1431655765)
def bc2 (x : Int32) : Int32 := (x &&& 858993459) + (ush x 2 &&& 858993459)
def bc3 (x : Int32) : Int32 := (x + ush x 4) &&& 252645135
def bc4 (x : Int32) : Int32 := x + ush x 8
def bc5 (x : Int32) : Int32 := x + ush x 16
def mBC (x : Int32) : Int32 := bc5 (bc4 (bc3 (bc2 (bc1 x)))) &&& 63
