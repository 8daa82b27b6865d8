-- ANGLES: the class's sizes and the reference's
theorem shL (a s : Int64) (k : Nat) (hs : (s.toBitVec.smod 64).toNat = k) : (a >>> s).toInt = a.toInt >>> k := by
  show (a.toBitVec.sshiftRight (s.toBitVec.smod 64).toNat).toInt = _
  rw [hs, BitVec.toInt_sshiftRight]
  rfl
theorem sh_60 : ∀ k, k < 30 → ((((60 : Int32) - nI k).toInt64 &&& 63).toBitVec.smod 64).toNat = 60 - k := by decide +kernel
theorem sh_eq {a b : Int64} {k : Nat} (hk : k < 30) (h : a.toInt / 2147483648 = b.toInt / 2147483648) : a >>> (((60 : Int32) - nI k).toInt64 &&& 63) = b >>> (((60 : Int32) - nI k).toInt64 &&& 63) := by
  apply Int64.toInt_inj.mp
  rw [shL _ _ _ (sh_60 k hk), shL _ _ _ (sh_60 k hk), Int.shiftRight_eq_div_pow, Int.shiftRight_eq_div_pow]
  have e : ((2 ^ (60 - k) : Nat) : Int) = 2147483648 * ((2 ^ (29 - k) : Nat) : Int) := by
    rw [show 60 - k = 31 + (29 - k) by omega, Nat.pow_add, Int.natCast_mul]
    rfl
  rw [e, ← Int.ediv_ediv_of_nonneg (by decide), ← Int.ediv_ediv_of_nonneg (by decide), h]
theorem arS_lt {h s : Nat} (hh : 2 * (h * h) ≤ s) (hs0 : 0 < s) : ∀ m i t, t < 2 ^ m → arS h s m i t < 2 ^ (m + 1) := by
  intro m
  induction m with
  | zero => intro i t _; show 0 < 2 ^ 1; decide
  | succ m ih =>
    intro i t ht
    by_cases z : t = 0
    · subst z; rw [arS_0]; exact Nat.two_pow_pos _
    · rw [arS_s z]
      have c4 : 2 * (2 * i * (h * h)) ≤ (2 * i + 1) * s := by
        have q1 : 2 * (2 * i * (h * h)) = 2 * i * (2 * (h * h)) := by rw [Nat.mul_left_comm]
        have q2 : 2 * i * (2 * (h * h)) ≤ 2 * i * s := Nat.mul_le_mul_left _ hh
        rw [Nat.add_mul]
        omega
      have h2 := ih (i + 1) _ (nPt_half (n := 2 * i * (h * h)) (d := (2 * i + 1) * s) ht c4 (Nat.mul_pos (by omega) hs0))
      rw [Nat.pow_succ] at ht ⊢
      rw [Nat.pow_succ] at h2
      rw [Nat.pow_succ]
      omega
theorem arA_lt {h w : Nat} (hw : h ≤ w) (hw2 : w ≤ 127) (h0 : 0 < w) : arA h w < 2 ^ 61 := by
  have a := Nat.mul_le_mul hw hw
  have b := Nat.mul_pos h0 h0
  exact arS_lt (by omega) (by omega) 60 1 _ (arc0 hw hw2 h0).2.1
def okA (a : Nat) : Bool := Nat.ble a 1811004864519280710 && ((1811004864519280711 - a) % 2147483648 != 0 && ((1811004864519280710 - a) % 2147483648 != 0 && ((1811004864519280710 + a) % 2147483648 != 0 && (1811004864519280711 + a) % 2147483648 != 0)))
theorem okA_all : ∀ w, w < 128 → ∀ h, h < w → okA (arA h w) = true := by decide +kernel
theorem pTq_part {v n d : Int64} (h : ¬ d ≤ 0) : pTq v n d = v / d * n + (v - v / d * d) * n / d := if_neg h
theorem pArcL_e {h w s : Nat} (hw : h ≤ w) (hw2 : w ≤ 127) (h0 : 0 < w) (es : s = w * w + h * h) : ∀ m i t σ, m ≤ 60 → i = 61 - m → t < 2 ^ m → pArcL (qN h) (qN s) m (nI i) (qN t) (qN (σ + t)) = qN (σ + arS h s m i t) := by
  have a := Nat.mul_le_mul hw hw
  have b := Nat.mul_pos h0 h0
  have b1 := sq_up hw2 hw2
  have b2 := sq_up (show h ≤ 127 by omega) (show h ≤ 127 by omega)
  intro m
  induction m with
  | zero =>
    intro i t σ _ _ ht
    have e : t = 0 := by omega
    subst e
    rfl
  | succ m ih =>
    intro i t σ hm hi ht
    have ht61 : t < 2 ^ 61 := Nat.lt_of_lt_of_le ht (Nat.pow_le_pow_right (by decide) (by omega))
    show (if qN t ≤ 0 then qN (σ + t) else pArcL (qN h) (qN s) m (nI i + 1) (pTq (qN t) ((2 * nI i).toInt64 * qN h * qN h) ((2 * nI i + 1).toInt64 * qN s)) (qN (σ + t) + pTq (qN t) ((2 * nI i).toInt64 * qN h * qN h) ((2 * nI i + 1).toInt64 * qN s))) = _
    by_cases z : t = 0
    · subst z
      rw [if_pos (by decide), arS_0]
    · have hA := arcN (h := h) (s := s) (i := i) (t := t) (m := m) (by omega) (by omega) (by omega) (by omega) (by omega) (by omega) ht
      have hd : ¬ (2 * nI i + 1).toInt64 * qN s ≤ 0 := by
        have z1 : (2 : Int32) * nI i = nI (2 * i) := by rw [show (2 : Int32) = nI 2 from rfl]; exact (Int32.ofNat_mul 2 i).symm
        rw [z1, nI_1, qN_n (by omega), qN_m, show (0 : Int64) = qN 0 from rfl]
        have c1 : (2 * i + 1) * s ≤ 121 * 32258 := Nat.mul_le_mul (by omega) (by omega)
        have c2 : 0 < (2 * i + 1) * s := Nat.mul_pos (by omega) (by omega)
        rw [qN_le (by omega) (by decide)]
        omega
      have hn : ¬ qN t ≤ 0 := by
        rw [show (0 : Int64) = qN 0 from rfl, qN_le (by omega) (by decide)]
        omega
      rw [if_neg hn, pTq_part hd, hA.1, nI_1, qN_a, arS_s z]
      rw [ih (i + 1) _ (σ + t) (by omega) (by omega) hA.2.1, Nat.add_assoc]
theorem pArc_e {h w : Nat} (hw : h ≤ w) (hw2 : w ≤ 127) (h0 : 0 < w) : pArc (qN h) (qN w) = qN (arA h w) := by
  have a := Nat.mul_le_mul hw hw
  have b := Nat.mul_pos h0 h0
  have b1 := sq_up hw2 hw2
  have b2 := sq_up (show h ≤ 127 by omega) (show h ≤ 127 by omega)
  obtain ⟨e1, e2, e3⟩ := arc0 hw hw2 h0
  have hd : ¬ qN (w * w + h * h) ≤ 0 := by
    rw [show (0 : Int64) = qN 0 from rfl, qN_le (by omega) (by decide)]
    omega
  unfold pArc
  rw [qN_m, qN_m, qN_m, qN_a, Nat.add_comm (h * h) (w * w), Nat.mul_comm h w, pTq_part hd, show (1152921504606846976 : Int64) = qN (2 ^ 60) from rfl, e1]
  have k := pArcL_e hw hw2 h0 rfl 60 1 (nPt (2 ^ 60) (w * h) (w * w + h * h)) 0 (by decide) rfl e2
  rw [Nat.zero_add, Nat.zero_add] at k
  exact k
theorem pAbI_e {x : Int32} (h : pIn x (-127) 127 = true) : pAbI x = qN (aN x) := by
  have hx := pIn_i h
  have e := nI_aN h
  rw [← qN_n (show aN x < 2 ^ 31 by omega), ← e.1]
  unfold pAbI
  by_cases z : x < 0
  · rw [if_pos z, if_neg (Int32.not_le.mpr z), Int32.zero_sub]
  · rw [if_neg z, if_pos (Int32.not_lt.mp z)]
theorem q_i {a : Nat} (h : a < 2 ^ 62) (c : Nat) (hc : c < 2 ^ 62) : (qN c - qN a).toInt = (c : Int) - a := by
  rw [Int64.toInt_sub, qN_i (by omega), qN_i (by omega)]
  exact Int.bmod_eq_of_le (by omega) (by omega)
/-- one unit apart, and none of both divides -/
theorem fl_1 {s s' : Int} (h : s = s' + 1 ∨ s' = s + 1) (h1 : s % 2147483648 ≠ 0) (h2 : s' % 2147483648 ≠ 0) : s / 2147483648 = s' / 2147483648 ∧ (-s) / 2147483648 = (-s') / 2147483648 := by
  rcases h with h | h <;> constructor <;> omega
theorem sz_e {x u k : Int32} (hx : pIn x (-127) 127 = true) (hu : pIn u (-127) 127 = true) (s : Int32) (hk : k = mLk x u s) : (pSz x u k).toInt / 2147483648 = (szR x u s).toInt / 2147483648 ∧ (-(pSz x u k)).toInt / 2147483648 = (-(szR x u s)).toInt / 2147483648 := by
  unfold pSz szR
  by_cases z : u = 0
  · rw [if_pos z, if_pos z, ← hk]
    unfold pNoSize
    rw [decide_eq_true z, Bool.true_and]
    by_cases w : 0 < k
    · rw [decide_eq_true w, if_pos rfl, if_pos w]; exact ⟨rfl, rfl⟩
    · rw [decide_eq_false w, if_neg (by decide), if_neg w]; exact ⟨rfl, rfl⟩
  · rw [if_neg z, if_neg z]
    unfold pNoSize
    rw [decide_eq_false z, Bool.false_and, if_neg (by decide)]
    by_cases w : x = 0
    · rw [if_pos w, if_pos w]; exact ⟨rfl, rfl⟩
    · rw [if_neg w, if_neg w]
      obtain ⟨-, ax, bx⟩ := nI_aN hx
      obtain ⟨-, au, bu⟩ := nI_aN hu
      have bx := bx w
      have bu := bu z
      unfold pBtw slR
      rw [pAbI_e hx, pAbI_e hu]
      have hn : (x < 0) ↔ ¬ (0 < x) := by
        have hne : x.toInt ≠ 0 := fun e => w (i32_0.mpr e)
        rw [i32_p, i32_n]
        omega
      have core : ∀ c, c = aN x → ∀ d, d = aN u → (if 0 < x then (if qN d ≤ qN c then pArc (qN d) (qN c) else 1811004864519280711 - pArc (qN c) (qN d)) else 3622009729038561421 - (if qN d ≤ qN c then pArc (qN d) (qN c) else 1811004864519280711 - pArc (qN c) (qN d))).toInt / 2147483648 = (if x < 0 then 3622009729038561421 - slM c d else slM c d).toInt / 2147483648 ∧ (-(if 0 < x then (if qN d ≤ qN c then pArc (qN d) (qN c) else 1811004864519280711 - pArc (qN c) (qN d)) else 3622009729038561421 - (if qN d ≤ qN c then pArc (qN d) (qN c) else 1811004864519280711 - pArc (qN c) (qN d)))).toInt / 2147483648 = (-(if x < 0 then 3622009729038561421 - slM c d else slM c d)).toInt / 2147483648 := by
        intro c hc d hd
        have hc1 : 0 < c := by omega
        have hd1 : 0 < d := by omega
        unfold slM
        by_cases q : d ≤ c
        · rw [if_pos ((qN_le (by omega) (by omega)).mpr q), if_pos q, pArc_e q (by omega) hc1]
          by_cases p : 0 < x
          · rw [if_pos p, if_neg (fun v => hn.mp v p)]; exact ⟨rfl, rfl⟩
          · rw [if_neg p, if_pos (hn.mpr p)]; exact ⟨rfl, rfl⟩
        · rw [if_neg (fun v => q ((qN_le (by omega) (by omega)).mp v)), if_neg q, pArc_e (show c ≤ d by omega) (by omega) hd1]
          have hl := arA_lt (show c ≤ d by omega) (by omega) hd1
          have ho := okA_all d (by omega) c (by omega)
          generalize arA c d = A at hl ho ⊢
          unfold okA at ho
          simp only [Bool.and_eq_true, bne_iff_ne, ne_eq] at ho
          obtain ⟨o0, o1, o2, o3, o4⟩ := ho
          have o0 := Nat.le_of_ble_eq_true o0
          have t1 : ((1811004864519280711 : Int64) - qN A).toInt = 1811004864519280711 - (A : Int) := by have := q_i (a := A) (by omega) 1811004864519280711 (by decide); exact this
          have t2 : ((1811004864519280710 : Int64) - qN A).toInt = 1811004864519280710 - (A : Int) := by have := q_i (a := A) (by omega) 1811004864519280710 (by decide); exact this
          have r1 : ∀ (v : Int64) (k : Int), v.toInt = k → 0 ≤ k → k < 4611686018427387904 → (-v).toInt = -k := fun v k e h1 h2 => by
            rw [Int64.toInt_neg, e]
            exact Int.bmod_eq_of_le (by omega) (by omega)
          have r2 : ∀ (v : Int64) (k : Int), v.toInt = k → 0 ≤ k → k < 4611686018427387904 → ((3622009729038561421 : Int64) - v).toInt = 3622009729038561421 - k := fun v k e h1 h2 => by
            rw [Int64.toInt_sub, e, show (3622009729038561421 : Int64).toInt = 3622009729038561421 by decide]
            exact Int.bmod_eq_of_le (by omega) (by omega)
          by_cases p : 0 < x
          · rw [if_pos p, if_neg (fun v => hn.mp v p), r1 _ _ t1 (by omega) (by omega), r1 _ _ t2 (by omega) (by omega), t1, t2]
            exact fl_1 (Or.inl (by omega)) (by omega) (by omega)
          · have t3 := r2 _ _ t1 (by omega) (by omega)
            have t4 := r2 _ _ t2 (by omega) (by omega)
            rw [if_neg p, if_pos (hn.mpr p), r1 _ _ t3 (by omega) (by omega), r1 _ _ t4 (by omega) (by omega), t3, t4]
            exact fl_1 (Or.inr (by omega)) (by omega) (by omega)
      exact core _ rfl _ rfl
theorem mLk_nz {x u s : Int32} (h : ¬ (x = 0 ∧ u = 0)) : mLk x u s = x := by
  unfold mLk
  by_cases z : x = 0
  · rw [if_pos z, if_neg (fun w => h ⟨z, w⟩)]
  · rw [if_neg z]
theorem ang_gr {x u : Int32} {k : Nat} (hx : pIn x (-127) 127 = true) (hu : pIn u (-127) 127 = true) (hz : ¬ (x = 0 ∧ u = 0)) (hk : k < 30) : pRD (pAng x u (pSg x u 0) (pLk x u 0)) (nI k) = grR (szR x u 0) (bI (decide (u < 0))) (nI k) := by
  have s := sz_e hx hu 0 (k := pLk x u 0) (by rw [pLk_nz hz, mLk_nz hz])
  unfold pRD grR pAng
  rw [pSg_up]
  by_cases w : u < 0
  · rw [decide_eq_true w, if_neg (by decide), if_pos (by decide), sh_eq hk s.2]
  · rw [decide_eq_false w, if_pos (by decide), if_neg (by decide), sh_eq hk s.1]
