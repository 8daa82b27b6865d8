-- A STEP AS A TRIPLE: across, up, signs
abbrev tp : Type := Int32 × Int32 × Int32
def mLk (x u s : Int32) : Int32 := if x = 0 then (if u = 0 then 1 - 2 * s else x) else x
def qL (t : tp) : Int32 := mLk t.1 t.2.1 (t.2.2 &&& 1)
def tU (t : tp) : Int32 := t.2.2 >>> ((1 : Int32) &&& 31)
def tO (t t' : tp) : Int32 := mOrd (qL t) t.2.1 (tU t) (qL t') t'.2.1 (tU t')
def sOk (s : Int32) : Prop := s = 0 ∨ s = 1 ∨ s = 2 ∨ s = 3
def tOk (t : tp) : Prop := pIn t.1 (-127) 127 = true ∧ pIn t.2.1 (-127) 127 = true ∧ sOk t.2.2 ∧ (t.2.1 < 0 → tU t = 1) ∧ (0 < t.2.1 → tU t = 0)
theorem sOk_U {s : Int32} (h : sOk s) : s >>> ((1 : Int32) &&& 31) = 0 ∨ s >>> ((1 : Int32) &&& 31) = 1 := by
  rcases h with rfl | rfl | rfl | rfl <;> decide
theorem sOk_up {s : Int32} (h : sOk s) : pUp s = decide (s >>> ((1 : Int32) &&& 31) = 0) := by
  rcases h with rfl | rfl | rfl | rfl <;> decide
theorem pk_and1 (s : Int32) : s &&& 1 = 0 ∨ s &&& 1 = 1 := by
  have h : (s.toBitVec &&& 1#32) = 0#32 ∨ (s.toBitVec &&& 1#32) = 1#32 := by
    rw [BitVec.and_one_eq_setWidth_ofBool_getLsbD]
    cases s.toBitVec.getLsbD 0
    · left; rfl
    · right; rfl
  rcases h with h | h
  · left; apply Int32.toBitVec_inj.mp; exact h
  · right; apply Int32.toBitVec_inj.mp; exact h
theorem pk_and2 (s : Int32) : s &&& 2 = 0 ∨ s &&& 2 = 2 := by
  have hb : ∀ i, i < 32 → (2#32).getLsbD i = decide (i = 1) := by decide
  have h : (s.toBitVec &&& 2#32) = 0#32 ∨ (s.toBitVec &&& 2#32) = 2#32 := by
    cases hz : s.toBitVec.getLsbD 1 with
    | false =>
      left
      apply BitVec.eq_of_getLsbD_eq
      intro i hi
      rw [BitVec.getLsbD_and, hb i hi, BitVec.getLsbD_zero]
      by_cases e : i = 1
      · subst e; rw [hz]; rfl
      · rw [decide_eq_false e, Bool.and_false]
    | true =>
      right
      apply BitVec.eq_of_getLsbD_eq
      intro i hi
      rw [BitVec.getLsbD_and, hb i hi]
      by_cases e : i = 1
      · subst e; rw [hz]; rfl
      · rw [decide_eq_false e, Bool.and_false]
  rcases h with h | h
  · left; apply Int32.toBitVec_inj.mp; exact h
  · right; apply Int32.toBitVec_inj.mp; exact h
theorem pSgA_01 (a s : Int32) : pSgA a s = 0 ∨ pSgA a s = 1 := by
  unfold pSgA
  by_cases z : a = 0
  · rw [if_pos z]; exact pk_and1 s
  · rw [if_neg z]
    by_cases w : a < 0
    · rw [if_pos w]; exact Or.inr rfl
    · rw [if_neg w]; exact Or.inl rfl
theorem pSgU_02 (u s : Int32) : pSgU u s = 0 ∨ pSgU u s = 2 := by
  unfold pSgU
  by_cases z : u = 0
  · rw [if_pos z]; exact pk_and2 s
  · rw [if_neg z]
    by_cases w : u < 0
    · rw [if_pos w]; exact Or.inr rfl
    · rw [if_neg w]; exact Or.inl rfl
theorem pSg_ok (a u s : Int32) : sOk (pSg a u s) := by
  unfold pSg sOk
  rcases pSgA_01 a s with h | h <;> rcases pSgU_02 u s with h2 | h2 <;> rw [h, h2] <;> decide
theorem pSg_U {a u s : Int32} : (u < 0 → pSg a u s >>> ((1 : Int32) &&& 31) = 1) ∧ (0 < u → pSg a u s >>> ((1 : Int32) &&& 31) = 0) := by
  have e0 : (0 : Int32).toInt = 0 := by decide
  constructor
  · intro h
    have hz : ¬ u = 0 := fun e => by rw [e] at h; exact absurd h (by decide)
    have e : pSgU u s = 2 := by unfold pSgU; rw [if_neg hz, if_pos h]
    unfold pSg
    rw [e]
    rcases pSgA_01 a s with h | h <;> rw [h] <;> decide
  · intro h
    have hz : ¬ u = 0 := fun e => by rw [e] at h; exact absurd h (by decide)
    have hn : ¬ u < 0 := fun w => by rw [Int32.lt_iff_toInt_lt] at h w; omega
    have e : pSgU u s = 0 := by unfold pSgU; rw [if_neg hz, if_neg hn]
    unfold pSg
    rw [e]
    rcases pSgA_01 a s with h | h <;> rw [h] <;> decide
/-- the step that comes -/
def qB (a u s : Int32) : tp := (a, u, pSg a u s)
theorem tB_ok {a u s : Int32} (ha : pIn a (-127) 127 = true) (hu : pIn u (-127) 127 = true) : tOk (qB a u s) := ⟨ha, hu, pSg_ok a u s, pSg_U.1, pSg_U.2⟩
theorem tB_L {a u s : Int32} : qL (qB a u s) = pLk a u s := by
  unfold qL qB mLk pLk
  show (if a = 0 then (if u = 0 then 1 - 2 * (pSg a u s &&& 1) else a) else a) = _
  by_cases z : a = 0
  · rw [if_pos z, if_pos z]
    by_cases w : u = 0
    · rw [if_pos w, if_pos w]
      rcases pk_and1 (pSg a u s) with h | h <;> rw [h] <;> decide
    · rw [if_neg w, if_neg w]
  · rw [if_neg z, if_neg z]
-- ORDER BY A KEY
theorem fl_lt {l u l' u' : Int} (hu : 0 < u) (hu' : 0 < u') (hb : u ≤ 127) (hb' : u' ≤ 127) (h : u * l' < l * u') : (32768 * l') / u' < (32768 * l) / u := by
  rcases Int.lt_or_le ((32768 * l') / u') ((32768 * l) / u) with g | g
  · exact g
  · exfalso
    have p1 := Int.lt_ediv_add_one_mul_self (32768 * l) hu
    have p2 := Int.ediv_mul_le (32768 * l') (show u' ≠ 0 by omega)
    generalize (32768 * l) / u = q at *
    generalize (32768 * l') / u' = q' at *
    have a1 := Int.mul_lt_mul_of_pos_right p1 hu'
    have a2 := Int.mul_le_mul_of_nonneg_right p2 (Int.le_of_lt hu)
    have w0 : 0 ≤ u * u' := Int.mul_nonneg (Int.le_of_lt hu) (Int.le_of_lt hu')
    have a3 := Int.mul_le_mul_of_nonneg_right g w0
    have w1 : u * u' ≤ 127 * 127 := Int.mul_le_mul hb hb' (Int.le_of_lt hu') (by decide)
    rw [Int.add_mul, Int.one_mul, Int.add_mul, Int.mul_assoc q u u', Int.mul_assoc 32768 l u'] at a1
    rw [Int.mul_assoc q' u' u, Int.mul_comm u' u, Int.mul_assoc 32768 l' u, Int.mul_comm l' u] at a2
    omega
theorem fl_le {l u l' u' : Int} (hu : 0 < u) (hu' : 0 < u') (h : l * u' ≤ u * l') : (32768 * l) / u ≤ (32768 * l') / u' := by
  rw [Int.le_ediv_iff_mul_le hu']
  have p2 := Int.ediv_mul_le (32768 * l) (show u ≠ 0 by omega)
  generalize (32768 * l) / u = q at *
  have a2 := Int.mul_le_mul_of_nonneg_right p2 (Int.le_of_lt hu')
  refine Int.le_of_mul_le_mul_right (a := u) ?_ hu
  rw [Int.mul_assoc q u u', Int.mul_assoc 32768 l u'] at a2
  rw [Int.mul_assoc q u' u, Int.mul_comm u' u, Int.mul_assoc 32768 l' u, Int.mul_comm l' u]
  omega
theorem fl_eq {l u l' u' : Int} (hu : 0 < u) (hu' : 0 < u') (h : l * u' = u * l') : (32768 * l) / u = (32768 * l') / u' := by
  have a := fl_le hu hu' (Int.le_of_eq h)
  have b := fl_le (l := l') (u := u') (l' := l) (u' := u) hu' hu (by rw [Int.mul_comm l' u, Int.mul_comm u' l]; exact Int.le_of_eq h.symm)
  omega
theorem fl_rg {l u : Int} (hu : 0 < u) (h1 : -127 ≤ l) (h2 : l ≤ 127) : -4161536 ≤ (32768 * l) / u ∧ (32768 * l) / u ≤ 4161536 := by
  constructor
  · rw [Int.le_ediv_iff_mul_le hu]; omega
  · have : (32768 * l) / u < 4161537 := by rw [Int.ediv_lt_iff_lt_mul hu]; omega
    omega
def tq (l u : Int) : Int := if u = 0 then (if 0 < l then 0 else 8323074) else 4161537 - (32768 * l) / u
theorem tq_p {l u : Int} (h : 0 < u) : tq l u = 4161537 - (32768 * l) / u := if_neg (by omega)
theorem tq_0 {l : Int} (h : 0 < l) : tq l 0 = 0 := by unfold tq; rw [if_pos rfl, if_pos h]
theorem tq_1 {l : Int} (h : l < 0) : tq l 0 = 8323074 := by unfold tq; rw [if_pos rfl, if_neg (by omega)]
theorem tq_rg {l u : Int} (hu : 0 ≤ u) (h1 : -127 ≤ l) (h2 : l ≤ 127) : 0 ≤ tq l u ∧ tq l u ≤ 8323074 := by
  rcases Int.lt_or_eq_of_le hu with h | h
  · have := fl_rg h h1 h2
    rw [tq_p h]; omega
  · subst h
    unfold tq
    rw [if_pos rfl]
    split <;> omega
def c3w (k k' : Int) : Int32 := if k < k' then -1 else if k' < k then 1 else 0
theorem c3_lt {k k' : Int} (h : k < k') : c3w k k' = -1 := if_pos h
theorem c3_gt {k k' : Int} (h : k' < k) : c3w k k' = 1 := by unfold c3w; rw [if_neg (by omega), if_pos h]
theorem c3_eq {k k' : Int} (h : k = k') : c3w k k' = 0 := by unfold c3w; rw [if_neg (by omega), if_neg (by omega)]
theorem oI_key {a b d e : Int} {w : Int32} (hb : 0 ≤ b) (he : 0 ≤ e) (hb2 : b ≤ 127) (he2 : e ≤ 127) (ha1 : -127 ≤ a) (ha2 : a ≤ 127) (hd1 : -127 ≤ d) (hd2 : d ≤ 127) (hz : b = 0 → a ≠ 0) (hz2 : e = 0 → d ≠ 0) (hw1 : b = 0 → e = 0 → 0 < a → w = -1) (hw2 : b = 0 → e = 0 → a < 0 → w = 1) :
    (if a * e - b * d = 0 then (if 0 < a * d + b * e then 0 else w) else if 0 < a * e - b * d then (-1 : Int32) else 1) = c3w (tq a b) (tq d e) := by
  rcases Int.lt_or_eq_of_le hb with b0 | b0
  · rcases Int.lt_or_eq_of_le he with e0 | e0
    · rw [tq_p b0, tq_p e0]
      rcases Int.lt_trichotomy (a * e) (b * d) with c | c | c
      · have f := fl_lt (l := d) (u := e) (l' := a) (u' := b) e0 b0 he2 hb2 (by rw [Int.mul_comm e a, Int.mul_comm d b]; exact c)
        rw [if_neg (by omega), if_neg (by omega)]
        exact (c3_gt (by omega)).symm
      · have f := fl_eq (l := a) (u := b) (l' := d) (u' := e) b0 e0 c
        have g1 : 0 < b * e := Int.mul_pos b0 e0
        have g2 : 0 ≤ a * d := by
          rcases Int.lt_or_le a 0 with a0 | a0
          · have n1 := Int.mul_neg_of_neg_of_pos a0 e0
            rcases Int.lt_or_le d 0 with d0 | d0
            · exact Int.le_of_lt (Int.mul_pos_of_neg_of_neg a0 d0)
            · have := Int.mul_nonneg (Int.le_of_lt b0) d0
              omega
          · have n1 := Int.mul_nonneg a0 (Int.le_of_lt e0)
            rcases Int.lt_or_le d 0 with d0 | d0
            · have := Int.mul_neg_of_pos_of_neg b0 d0
              omega
            · exact Int.mul_nonneg a0 d0
        rw [if_pos (by omega), if_pos (by omega)]
        exact (c3_eq (by omega)).symm
      · have f := fl_lt (l := a) (u := b) (l' := d) (u' := e) b0 e0 hb2 he2 c
        rw [if_neg (by omega), if_pos (by omega)]
        exact (c3_lt (by omega)).symm
    · subst e0
      have r := fl_rg b0 ha1 ha2
      rw [tq_p b0, Int.mul_zero]
      rcases Int.lt_or_le d 0 with d0 | d0
      · have n := Int.mul_neg_of_pos_of_neg b0 d0
        rw [tq_1 d0, if_neg (by omega), if_pos (by omega)]
        exact (c3_lt (by omega)).symm
      · have d1 : 0 < d := by have := hz2 rfl; omega
        have n := Int.mul_pos b0 d1
        rw [tq_0 d1, if_neg (by omega), if_neg (by omega)]
        exact (c3_gt (by omega)).symm
  · subst b0
    rw [Int.zero_mul]
    rcases Int.lt_or_eq_of_le he with e0 | e0
    · have r := fl_rg e0 hd1 hd2
      rw [tq_p e0]
      rcases Int.lt_or_le a 0 with a0 | a0
      · have n := Int.mul_neg_of_neg_of_pos a0 e0
        rw [tq_1 a0, if_neg (by omega), if_neg (by omega)]
        exact (c3_gt (by omega)).symm
      · have a1 : 0 < a := by have := hz rfl; omega
        have n := Int.mul_pos a1 e0
        rw [tq_0 a1, if_neg (by omega), if_pos (by omega)]
        exact (c3_lt (by omega)).symm
    · subst e0
      rw [Int.mul_zero, Int.zero_mul, if_pos (by omega)]
      have hz := hz rfl
      have hz2 := hz2 rfl
      rcases Int.lt_or_le a 0 with a0 | a0
      · rcases Int.lt_or_le d 0 with d0 | d0
        · have n := Int.mul_pos_of_neg_of_neg a0 d0
          rw [if_pos (by omega), tq_1 a0, tq_1 d0]
          exact (c3_eq rfl).symm
        · have d1 : 0 < d := by omega
          have n := Int.mul_neg_of_neg_of_pos a0 d1
          rw [if_neg (by omega), hw2 rfl rfl a0, tq_1 a0, tq_0 d1]
          exact (c3_gt (by omega)).symm
      · have a1 : 0 < a := by omega
        rcases Int.lt_or_le d 0 with d0 | d0
        · have n := Int.mul_neg_of_pos_of_neg a1 d0
          rw [if_neg (by omega), hw1 rfl rfl a1, tq_0 a1, tq_1 d0]
          exact (c3_lt (by omega)).symm
        · have d1 : 0 < d := by omega
          have n := Int.mul_pos a1 d1
          rw [if_pos (by omega), tq_0 a1, tq_0 d1]
          exact (c3_eq rfl).symm
theorem mul_rg {a e : Int} (h1 : -127 ≤ a) (h2 : a ≤ 127) (h3 : -127 ≤ e) (h4 : e ≤ 127) : -16129 ≤ a * e ∧ a * e ≤ 16129 := by
  have h : (a * e).natAbs = a.natAbs * e.natAbs := Int.natAbs_mul a e
  have h5 : a.natAbs * e.natAbs ≤ 127 * 127 := Nat.mul_le_mul (by omega) (by omega)
  rw [← h] at h5
  generalize a * e = p at h5 ⊢
  omega
theorem toInt_m {a e : Int32} (h1 : -127 ≤ a.toInt) (h2 : a.toInt ≤ 127) (h3 : -127 ≤ e.toInt) (h4 : e.toInt ≤ 127) : (a * e).toInt = a.toInt * e.toInt := by
  have := mul_rg h1 h2 h3 h4
  rw [Int32.toInt_mul]
  exact Int.bmod_eq_of_le (by omega) (by omega)
theorem mCr_i {a b d e : Int32} (a1 : -127 ≤ a.toInt) (a2 : a.toInt ≤ 127) (b1 : -127 ≤ b.toInt) (b2 : b.toInt ≤ 127) (d1 : -127 ≤ d.toInt) (d2 : d.toInt ≤ 127) (e1 : -127 ≤ e.toInt) (e2 : e.toInt ≤ 127) : (mCr a b d e).toInt = a.toInt * e.toInt - b.toInt * d.toInt ∧ (mDt a b d e).toInt = a.toInt * d.toInt + b.toInt * e.toInt := by
  have p := mul_rg a1 a2 e1 e2
  have q := mul_rg b1 b2 d1 d2
  have r := mul_rg a1 a2 d1 d2
  have s := mul_rg b1 b2 e1 e2
  unfold mCr mDt
  rw [Int32.toInt_sub, Int32.toInt_add, toInt_m a1 a2 e1 e2, toInt_m b1 b2 d1 d2, toInt_m a1 a2 d1 d2, toInt_m b1 b2 e1 e2]
  exact ⟨Int.bmod_eq_of_le (by omega) (by omega), Int.bmod_eq_of_le (by omega) (by omega)⟩
theorem i32_0 {x : Int32} : x = 0 ↔ x.toInt = 0 := by
  rw [← Int32.toInt_inj, show (0 : Int32).toInt = 0 by decide]
theorem i32_p {x : Int32} : 0 < x ↔ 0 < x.toInt := by
  rw [Int32.lt_iff_toInt_lt, show (0 : Int32).toInt = 0 by decide]
theorem i32_n {x : Int32} : x < 0 ↔ x.toInt < 0 := by
  rw [Int32.lt_iff_toInt_lt, show (0 : Int32).toInt = 0 by decide]
def tK2 (l u : Int) (c : Int32) : Int := if c = 0 then tq l u else tq (-l) (-u) - 8323075
theorem mOrd_key {a b d e c f : Int32} (a1 : -127 ≤ a.toInt) (a2 : a.toInt ≤ 127) (b1 : -127 ≤ b.toInt) (b2 : b.toInt ≤ 127) (d1 : -127 ≤ d.toInt) (d2 : d.toInt ≤ 127) (e1 : -127 ≤ e.toInt) (e2 : e.toInt ≤ 127) (hz : b = 0 → a ≠ 0) (hz2 : e = 0 → d ≠ 0) (hc : c = 0 ∨ c = 1) (hf : f = 0 ∨ f = 1) (cb : b < 0 → c = 1) (cb2 : 0 < b → c = 0) (ce : e < 0 → f = 1) (ce2 : 0 < e → f = 0) : mOrd a b c d e f = c3w (tK2 a.toInt b.toInt c) (tK2 d.toInt e.toInt f) := by
  have hi := mCr_i a1 a2 b1 b2 d1 d2 e1 e2
  have z1 : b.toInt = 0 → a.toInt ≠ 0 := fun h g => hz (i32_0.mpr h) (i32_0.mpr g)
  have z2 : e.toInt = 0 → d.toInt ≠ 0 := fun h g => hz2 (i32_0.mpr h) (i32_0.mpr g)
  have k1 : mCr a b d e = 0 ↔ a.toInt * e.toInt - b.toInt * d.toInt = 0 := by rw [i32_0, hi.1]
  have k2 : 0 < mCr a b d e ↔ 0 < a.toInt * e.toInt - b.toInt * d.toInt := by rw [i32_p, hi.1]
  have k3 : 0 < mDt a b d e ↔ 0 < a.toInt * d.toInt + b.toInt * e.toInt := by rw [i32_p, hi.2]
  have g1 : c = 0 → 0 ≤ b.toInt := fun h => by
    rcases Int.lt_or_le b.toInt 0 with w | w
    · rw [cb (i32_n.mpr w)] at h; exact absurd h (by decide)
    · exact w
  have g2 : c = 1 → b.toInt ≤ 0 := fun h => by
    rcases Int.lt_or_le 0 b.toInt with w | w
    · rw [cb2 (i32_p.mpr w)] at h; exact absurd h (by decide)
    · exact w
  have g3 : f = 0 → 0 ≤ e.toInt := fun h => by
    rcases Int.lt_or_le e.toInt 0 with w | w
    · rw [ce (i32_n.mpr w)] at h; exact absurd h (by decide)
    · exact w
  have g4 : f = 1 → e.toInt ≤ 0 := fun h => by
    rcases Int.lt_or_le 0 e.toInt with w | w
    · rw [ce2 (i32_p.mpr w)] at h; exact absurd h (by decide)
    · exact w
  unfold mOrd
  rcases hc with hc | hc <;> rcases hf with hf | hf
  · have K := oI_key (a := a.toInt) (b := b.toInt) (d := d.toInt) (e := e.toInt) (w := if decide (0 < a) = decide (c = 0) then -1 else 1) (g1 hc) (g3 hf) b2 e2 a1 a2 d1 d2 z1 z2 (fun _ _ h => if_pos (by rw [decide_eq_true (i32_p.mpr h), decide_eq_true hc])) (fun _ _ h => if_neg (by rw [decide_eq_false (fun w => by have := i32_p.mp w; omega), decide_eq_true hc]; decide))
    rw [if_pos (hc.trans hf.symm)]
    unfold tK2
    rw [if_pos hc, if_pos hf, ← K]
    simp only [k1, k2, k3]
  · rw [if_neg (by rw [hc, hf]; decide)]
    have r1 := tq_rg (g1 hc) a1 a2
    have r2 := tq_rg (l := -d.toInt) (u := -e.toInt) (by have := g4 hf; omega) (by omega) (by omega)
    unfold tK2
    rw [if_pos hc, if_neg (by rw [hf]; decide), c3_gt (by omega), hc, hf]; decide
  · rw [if_neg (by rw [hc, hf]; decide)]
    have r1 := tq_rg (g3 hf) d1 d2
    have r2 := tq_rg (l := -a.toInt) (u := -b.toInt) (by have := g2 hc; omega) (by omega) (by omega)
    unfold tK2
    rw [if_pos hf, if_neg (by rw [hc]; decide), c3_lt (by omega), hc, hf]; decide
  · have K := oI_key (a := -a.toInt) (b := -b.toInt) (d := -d.toInt) (e := -e.toInt) (w := if decide (0 < a) = decide (c = 0) then -1 else 1) (by have := g2 hc; omega) (by have := g4 hf; omega) (by omega) (by omega) (by omega) (by omega) (by omega) (by omega) (fun h => by have := z1 (by omega); omega) (fun h => by have := z2 (by omega); omega) (fun _ _ h => if_pos (by rw [decide_eq_false (fun w => by have := i32_p.mp w; omega), decide_eq_false (by rw [hc]; decide)])) (fun _ _ h => if_neg (by rw [decide_eq_true (i32_p.mpr (show 0 < a.toInt by omega)), decide_eq_false (by rw [hc]; decide)]; decide))
    rw [Int.neg_mul_neg, Int.neg_mul_neg, Int.neg_mul_neg, Int.neg_mul_neg] at K
    rw [if_pos (hc.trans hf.symm)]
    unfold tK2
    rw [if_neg (show ¬ c = 0 by rw [hc]; decide), if_neg (show ¬ f = 0 by rw [hf]; decide)]
    have e3 : c3w (tq (-a.toInt) (-b.toInt) - 8323075) (tq (-d.toInt) (-e.toInt) - 8323075) = c3w (tq (-a.toInt) (-b.toInt)) (tq (-d.toInt) (-e.toInt)) := by
      unfold c3w
      rw [aj_if (show tq (-a.toInt) (-b.toInt) - 8323075 < tq (-d.toInt) (-e.toInt) - 8323075 ↔ tq (-a.toInt) (-b.toInt) < tq (-d.toInt) (-e.toInt) by omega), aj_if (show tq (-d.toInt) (-e.toInt) - 8323075 < tq (-a.toInt) (-b.toInt) - 8323075 ↔ tq (-d.toInt) (-e.toInt) < tq (-a.toInt) (-b.toInt) by omega)]
    rw [e3, ← K]
    simp only [k1, k2, k3]
def qK (t : tp) : Int := tK2 (qL t).toInt t.2.1.toInt (tU t)
theorem pIn_i {x : Int32} (h : pIn x (-127) 127 = true) : -127 ≤ x.toInt ∧ x.toInt ≤ 127 := by
  unfold pIn at h
  rw [Bool.and_eq_true, decide_eq_true_eq, decide_eq_true_eq] at h
  obtain ⟨h1, h2⟩ := h
  rw [Int32.le_iff_toInt_le, show (-127 : Int32).toInt = -127 by decide] at h1
  rw [Int32.le_iff_toInt_le, show (127 : Int32).toInt = 127 by decide] at h2
  exact ⟨h1, h2⟩
theorem tL_i {t : tp} (h : tOk t) : (-127 ≤ (qL t).toInt ∧ (qL t).toInt ≤ 127) ∧ (t.2.1 = 0 → qL t ≠ 0) := by
  have hx := pIn_i h.1
  unfold qL mLk
  by_cases z : t.1 = 0
  · rw [if_pos z]
    by_cases w : t.2.1 = 0
    · rw [if_pos w]
      rcases pk_and1 t.2.2 with q | q
      · rw [q]; exact ⟨by decide, fun _ => by decide⟩
      · rw [q]; exact ⟨by decide, fun _ => by decide⟩
    · rw [if_neg w]; exact ⟨hx, fun e => absurd e w⟩
  · rw [if_neg z]; exact ⟨hx, fun _ => z⟩
theorem tO_key {t t' : tp} (h : tOk t) (h' : tOk t') : tO t t' = c3w (qK t) (qK t') := by
  obtain ⟨l1, l2⟩ := tL_i h
  obtain ⟨l3, l4⟩ := tL_i h'
  have u1 := pIn_i h.2.1
  have u2 := pIn_i h'.2.1
  exact mOrd_key l1.1 l1.2 u1.1 u1.2 l3.1 l3.2 u2.1 u2.2 l2 l4 (sOk_U h.2.2.1) (sOk_U h'.2.2.1) h.2.2.2.1 h.2.2.2.2 h'.2.2.2.1 h'.2.2.2.2
-- THE CLASS'S CELLS
def tc (I : Nat → Nat → Int32) (c : Nat) : tp := (I c 0, I c 1, I c 2)
def cL (I : Nat → Nat → Int32) : Prop := ∀ c ∈ aj_CS, tOk (tc I c) ∧ I c 3 = qL (tc I c)
theorem tc_ord {I : Nat → Nat → Int32} {c d : Nat} (h : cL I) (hc : c ∈ aj_CS) (hd : d ∈ aj_CS) : pOrd (I c 3) (I c 1) (I c 2) (I d 3) (I d 1) (I d 2) = tO (tc I c) (tc I d) := by
  rw [(h c hc).2, (h d hd).2]
  exact pOrd_mOrd (sOk_up (h c hc).1.2.2.1) (sOk_up (h d hd).1.2.2.1) (sOk_U (h c hc).1.2.2.1) (sOk_U (h d hd).1.2.2.1)
-- STABLE SORTING, on numbers
def bfR (κ : Nat → Int) (o k : Nat) : Prop := κ o < κ k ∨ (κ o = κ k ∧ o < k)
theorem ins_sort {κ : Nat → Int} {m a : Nat} {l : List Nat} (hp : l.Perm (List.range m)) (hs : l.Pairwise (bfR κ)) (ha : a ≤ m) (h1 : ∀ p k, a ≤ p → l[p]? = some k → κ m < κ k) (h2 : ∀ k, a ≠ 0 → l[a - 1]? = some k → ¬ κ m < κ k) : (l.take a ++ m :: l.drop a).Perm (List.range (m + 1)) ∧ (l.take a ++ m :: l.drop a).Pairwise (bfR κ) := by
  have hlen : l.length = m := by rw [hp.length_eq, List.length_range]
  have hmem : ∀ k, k ∈ l → k < m := fun k hk => List.mem_range.mp (hp.mem_iff.mp hk)
  constructor
  · refine (List.perm_middle).trans ?_
    rw [List.take_append_drop, List.range_succ]
    exact (List.Perm.cons m hp).trans (List.perm_append_singleton m (List.range m)).symm
  · have hs2 := hs
    rw [← List.take_append_drop a l, List.pairwise_append] at hs2
    obtain ⟨s1, s2, s3⟩ := hs2
    rw [List.pairwise_append]
    have low : ∀ k, k ∈ l.take a → bfR κ k m := by
      intro k hk
      obtain ⟨i, hi⟩ := List.getElem?_of_mem hk
      rw [List.getElem?_take] at hi
      have hia : i < a := by
        rcases Nat.lt_or_ge i a with w | w
        · exact w
        · rw [if_neg (by omega)] at hi; cases hi
      rw [if_pos hia] at hi
      have hkm : k < m := hmem k (List.mem_of_getElem? hi)
      have hj : a - 1 < l.length := by omega
      have hk2 := h2 l[a - 1] (by omega) (List.getElem?_eq_getElem hj)
      have hle : κ k ≤ κ l[a - 1] := by
        rcases Nat.lt_or_ge i (a - 1) with w | w
        · have hi2 : i < l.length := by omega
          have e : l[i] = k := by rw [List.getElem?_eq_getElem hi2] at hi; exact Option.some.inj hi
          have := List.pairwise_iff_getElem.mp hs i (a - 1) hi2 hj w
          rw [e] at this
          rcases this with z | z
          · omega
          · omega
        · have ei : i = a - 1 := by omega
          subst ei
          rw [List.getElem?_eq_getElem hj] at hi
          rw [← Option.some.inj hi]
          exact Int.le_refl _
      rcases Int.lt_or_eq_of_le (show κ k ≤ κ m by omega) with w | w
      · exact Or.inl w
      · exact Or.inr ⟨w, hkm⟩
    refine ⟨s1, List.pairwise_cons.mpr ⟨fun k hk => ?_, s2⟩, fun i hi k hk => ?_⟩
    · obtain ⟨i, hi⟩ := List.getElem?_of_mem hk
      rw [List.getElem?_drop] at hi
      exact Or.inl (h1 (a + i) k (by omega) hi)
    · rcases List.mem_cons.mp hk with w | w
      · rw [w]; exact low i hi
      · exact s3 i hi k w
/-- the row behind an insertion -/
def insV (f : Nat → Option Nat) (c a p : Nat) : Option Nat := if p < a then f p else if p = a then f c else if p ≤ c then f (p - 1) else f p
theorem ins_at {f0 f : Nat → Option Nat} {m a : Nat} {l : List Nat} (hlen : l.length = m) (ha : a ≤ m) (h : ∀ p k, l[p]? = some k → f p = f0 k) (h2 : ∀ p, m ≤ p → f p = f0 p) : (∀ p k, (l.take a ++ m :: l.drop a)[p]? = some k → insV f m a p = f0 k) ∧ ∀ p, m + 1 ≤ p → insV f m a p = f0 p := by
  have ht : (l.take a).length = a := by rw [List.length_take]; omega
  constructor
  · intro p k hk
    unfold insV
    rcases Nat.lt_or_ge p a with w | w
    · rw [List.getElem?_append_left (by omega), List.getElem?_take, if_pos w] at hk
      rw [if_pos w]; exact h p k hk
    · rw [List.getElem?_append_right (by omega), ht] at hk
      rw [if_neg (by omega)]
      rcases Nat.lt_or_ge a p with v | v
      · obtain ⟨q, rfl⟩ : ∃ q, p = a + 1 + q := ⟨p - a - 1, by omega⟩
        rw [show a + 1 + q - a = q + 1 by omega, List.getElem?_cons_succ, List.getElem?_drop] at hk
        have hq : a + q < l.length := by
          rcases Nat.lt_or_ge (a + q) l.length with z | z
          · exact z
          · rw [List.getElem?_eq_none z] at hk; cases hk
        rw [if_neg (by omega), if_pos (by omega), show a + 1 + q - 1 = a + q by omega]
        exact h _ k hk
      · have e : p = a := by omega
        subst e
        rw [Nat.sub_self, List.getElem?_cons_zero] at hk
        rw [if_pos rfl, ← Option.some.inj hk]
        exact h2 m (Nat.le_refl m)
  · intro p hp
    unfold insV
    rw [if_neg (by omega), if_neg (by omega), if_neg (by omega)]
    exact h2 p (by omega)
-- THE CELLS AS ONE WORD OF EITHER SIDE
abbrev cw : Type := Nat → tp
def tM (f : Nat → tp) : cw := fun j => if j < 8 then f j else (0, 0, 0)
theorem tM_l {f : Nat → tp} {j : Nat} (h : j < 8) : tM f j = f j := if_pos h
theorem tM_e {f g : Nat → tp} (h : ∀ j, j < 8 → f j = g j) : tM f = tM g := funext fun j => by
  unfold tM
  by_cases z : j < 8
  · rw [if_pos z, if_pos z]; exact h j z
  · rw [if_neg z, if_neg z]
def cV (I : Nat → Nat → Int32) : cw := tM (fun j => (I 88 j, I 104 j, I 120 j))
def cW (I : Nat → Nat → Int32) (V : Nat → Nat → Option Nat) : cw := tM (fun j => tc I (vc V j))
def cOk (c : cw) : Prop := ∀ j, j < 8 → tOk (c j)
def setC (c : cw) (j : Nat) (t : tp) : cw := fun k => if k = j then t else c k
def tRg (t : tp) : Bool := pIn t.1 (-127) 127 && pIn t.2.1 (-127) 127
def nxJ (j : Nat) (t : tp) (c : cw) : cw := if tRg t = true then setC c j t else c
def anJ (j : Nat) (t : tp) (c : cw) : Int32 := if tRg t = true then tO t (c j) else -9
theorem tRg_t {x u s : Int32} (hx : pIn x (-127) 127 = true) (hu : pIn u (-127) 127 = true) : tRg (qB x u s) = true := by
  show (pIn x (-127) 127 && pIn u (-127) 127) = true
  rw [hx, hu]; rfl
theorem tRg_f {x u s : Int32} (h : pIn x (-127) 127 = false ∨ pIn u (-127) 127 = false) : tRg (qB x u s) = false := by
  show (pIn x (-127) 127 && pIn u (-127) 127) = false
  rcases h with h | h <;> rw [h]
  · rfl
  · exact Bool.and_false _
theorem nxJ_t {j : Nat} {t : tp} {c : cw} (h : tRg t = true) : nxJ j t c = setC c j t := if_pos h
theorem nxJ_f {j : Nat} {t : tp} {c : cw} (h : tRg t = false) : nxJ j t c = c := if_neg (by rw [h]; decide)
theorem anJ_t {j : Nat} {t : tp} {c : cw} (h : tRg t = true) : anJ j t c = tO t (c j) := if_pos h
theorem anJ_f {j : Nat} {t : tp} {c : cw} (h : tRg t = false) : anJ j t c = -9 := if_neg (by rw [h]; decide)
def ckI (x : Int32) : Bool := pIn x 0 7
def nxS (ok : Bool) (x : Int32) (t : tp) (c : cw) : cw := if ok = true then nxJ (nn x) t c else c
def anS (x : Int32) (t : tp) (c : cw) : Int32 := anJ (nn x) t c
theorem nxS_t {ok : Bool} {j : Nat} {t : tp} {c : cw} (h : ok = true) (hj : j < 8) : nxS ok (nI j) t c = nxJ j t c := by
  unfold nxS
  rw [if_pos h, nn_nI (by omega)]
theorem nxS_f {ok : Bool} {x : Int32} {t : tp} {c : cw} (h : ok = false) : nxS ok x t c = c := if_neg (by rw [h]; decide)
theorem anS_t {j : Nat} {t : tp} {c : cw} (hj : j < 8) : anS (nI j) t c = anJ j t c := by
  unfold anS
  rw [nn_nI (by omega)]
theorem ckI_t {j : Nat} (hj : j < 8) : ckI (nI j) = true := by
  refine pIn_t (nI_pos' (by omega)) ?_
  rw [show (7 : Int32) = nI 7 from rfl]
  exact nI_le (by omega) (by decide)
theorem ckI_f {x : Int32} (h : ∀ j, j < 8 → ¬ x = nI j) : ckI x = false := by
  refine pIn_f (fun z => ?_)
  rcases pk_ix x (n := 8) (by decide) with w | w | ⟨j, hj, e⟩
  · exact absurd z.1 (Int32.not_le.mpr w)
  · have z2 := z.2
    rw [Int32.le_iff_toInt_le, show (7 : Int32).toInt = 7 by decide] at z2
    rw [Int32.le_iff_toInt_le, nI_toInt (by decide)] at w
    omega
  · exact h j hj e
-- the five acts on cells
def okP (a u s : Int32) : Bool := pIn a (-127) 127 && (pIn u (-127) 127 && pIn s 0 3)
def mkT (w : Nat) (t : tp) : tp := qB (pRA w t.1 t.2.1) (pRU w t.1 t.2.1) (pRS w t.2.2)
def strT (b : Int32) (t : tp) : tp := qB (t.1 * b) (t.2.1 * b) t.2.2
def addT (t t' : tp) : tp := qB (t.1 + t'.1) (t.2.1 + t'.2.1) (t.2.2 &&& t'.2.2)
def stpT (p q : Int32) (v : vw) : tp := qB (vP v (nn q) - vP v (nn p)) (vQ v (nn q) - vQ v (nn p)) 0
theorem okP_t {a u s : Int32} (h1 : pIn a (-127) 127 = true) (h2 : pIn u (-127) 127 = true) (h3 : pIn s 0 3 = true) : okP a u s = true := by unfold okP; rw [h1, h2, h3]; rfl
theorem okP_f {a u s : Int32} (h : pIn a (-127) 127 = false ∨ pIn u (-127) 127 = false ∨ pIn s 0 3 = false) : okP a u s = false := by
  unfold okP
  cases h1 : pIn a (-127) 127 with
  | false => rfl
  | true =>
    cases h2 : pIn u (-127) 127 with
    | false => rfl
    | true =>
      cases h3 : pIn s 0 3 with
      | false => rfl
      | true =>
        rw [h1, h2, h3] at h
        exact absurd h (by decide)
theorem and_f1 {a b : Bool} (h : a = false) : (a && b) = false := by rw [h]; rfl
theorem and_f2 {a b : Bool} (h : b = false) : (a && b) = false := by rw [h]; exact Bool.and_false _
theorem and_t {a b : Bool} (h : a = true) (h2 : b = true) : (a && b) = true := by rw [h, h2]; rfl
def mSgn (x s : Int32) : Int32 := if x = 0 then s else if x < 0 then 1 else 0
def zOk (z a b : Int32) : Prop := (a = 0 ∨ a = 1) ∧ (b = 0 ∨ b = 1) ∧ z &&& 1 = a ∧ z &&& 2 = 2 * b
theorem mSgn_01 {x a : Int32} (h : a = 0 ∨ a = 1) : mSgn x a = 0 ∨ mSgn x a = 1 := by
  unfold mSgn
  by_cases z : x = 0
  · rw [if_pos z]; exact h
  · rw [if_neg z]
    by_cases w : x < 0
    · rw [if_pos w]; exact Or.inr rfl
    · rw [if_neg w]; exact Or.inl rfl
theorem zOk_s {z a b x u : Int32} (h : zOk z a b) : pSg x u z = mSgn x a + 2 * mSgn u b ∧ pSg x u z &&& 1 = mSgn x a ∧ pSg x u z >>> ((1 : Int32) &&& 31) = mSgn u b := by
  obtain ⟨ha, hb, h1, h2⟩ := h
  have e1 : pSgA x z = mSgn x a := by unfold pSgA mSgn; rw [h1]
  have e2 : pSgU u z = 2 * mSgn u b := by
    unfold pSgU mSgn
    rw [h2]
    by_cases w : u = 0
    · rw [if_pos w, if_pos w]
    · rw [if_neg w, if_neg w]
      by_cases v : u < 0
      · rw [if_pos v, if_pos v]; decide
      · rw [if_neg v, if_neg v]; decide
  have c1 := mSgn_01 (x := x) ha
  have c2 := mSgn_01 (x := u) hb
  unfold pSg
  rw [e1, e2]
  generalize mSgn x a = A at c1 ⊢
  generalize mSgn u b = B at c2 ⊢
  rcases c1 with rfl | rfl <;> rcases c2 with rfl | rfl <;> decide
theorem zOk_0 : zOk 0 0 0 := by unfold zOk; decide
theorem zOk_v {s : Int32} (h : sOk s) : zOk s (s &&& 1) (s >>> ((1 : Int32) &&& 31)) := by
  unfold zOk
  rcases h with rfl | rfl | rfl | rfl <;> decide
theorem sOk_and {s t : Int32} (h : sOk s) (h2 : sOk t) : sOk (s &&& t) := by
  unfold sOk
  rcases h with rfl | rfl | rfl | rfl <;> rcases h2 with rfl | rfl | rfl | rfl <;> decide
theorem zOk_p {s : Int32} (h : sOk s) : zOk s (s - s / 2 * 2) (s / 2) := by
  unfold zOk
  rcases h with rfl | rfl | rfl | rfl <;> decide
theorem zOk_m {s : Int32} (h : sOk s) : zOk (pRS 0 s) (s &&& 1) (1 - s >>> ((1 : Int32) &&& 31)) ∧ zOk (pRS 1 s) (1 - (s &&& 1)) (s >>> ((1 : Int32) &&& 31)) ∧ zOk (pRS 2 s) (1 - s >>> ((1 : Int32) &&& 31)) (s &&& 1) ∧ zOk (pRS 3 s) (s >>> ((1 : Int32) &&& 31)) (1 - (s &&& 1)) ∧ zOk (pRS 4 s) (s >>> ((1 : Int32) &&& 31)) (s &&& 1) ∧ zOk (pRS 5 s) (1 - (s &&& 1)) (1 - s >>> ((1 : Int32) &&& 31)) := by
  unfold zOk
  rcases h with rfl | rfl | rfl | rfl <;> decide
theorem sOk_i {s : Int32} (h : pIn s 0 3 = true) : sOk s := by
  unfold pIn at h
  rw [Bool.and_eq_true, decide_eq_true_eq, decide_eq_true_eq] at h
  obtain ⟨h1, h2⟩ := h
  rw [Int32.le_iff_toInt_le, show (0 : Int32).toInt = 0 by decide] at h1
  rw [Int32.le_iff_toInt_le, show (3 : Int32).toInt = 3 by decide] at h2
  have k : ∀ t : Int32, s.toInt = t.toInt → s = t := fun t e => Int32.toInt_inj.mp e
  rcases (show s.toInt = 0 ∨ s.toInt = 1 ∨ s.toInt = 2 ∨ s.toInt = 3 by omega) with e | e | e | e
  · exact Or.inl (k 0 (e.trans (by decide)))
  · exact Or.inr (Or.inl (k 1 (e.trans (by decide))))
  · exact Or.inr (Or.inr (Or.inl (k 2 (e.trans (by decide)))))
  · exact Or.inr (Or.inr (Or.inr (k 3 (e.trans (by decide)))))
theorem cV_l {I : Nat → Nat → Int32} {j : Nat} (hj : j < 8) : cV I j = (I 88 j, I 104 j, I 120 j) := if_pos hj
theorem cW_l {I : Nat → Nat → Int32} {V : Nat → Nat → Option Nat} {j : Nat} (hj : j < 8) : cW I V j = tc I (vc V j) := if_pos hj
theorem cV_rw {I I1 : Nat → Nat → Int32} (h1 : I1 88 = I 88) (h2 : I1 104 = I 104) (h3 : I1 120 = I 120) : cV I1 = cV I := by
  unfold cV
  rw [h1, h2, h3]
-- the class's cells behind an act
theorem vc_c {V V1 : Nat → Nat → Option Nat} {j k : Nat} (h : V1 27 j = V 27 k) : vc V1 j = vc V k := by unfold vc; rw [h]
def pO (I : Nat → Nat → Int32) (c d : Nat) : Int32 := pOrd (I c 3) (I c 1) (I c 2) (I d 3) (I d 1) (I d 2)
def sgW (b : Bool) : Int32 := if b = true then 1 else -1
def sK (b : Bool) (I : Nat → Nat → Int32) (V : Nat → Nat → Option Nat) (j : Nat) : Int := if b = true then -qK (tc I (vc V j)) else qK (tc I (vc V j))
theorem c3_sg {b : Bool} {x y : Int} : c3w x y = sgW b ↔ (if b = true then -x else x) < (if b = true then -y else y) := by
  unfold c3w sgW
  cases b
  · show (if x < y then (-1 : Int32) else if y < x then 1 else 0) = -1 ↔ x < y
    by_cases h : x < y
    · rw [if_pos h]; exact ⟨fun _ => h, fun _ => rfl⟩
    · rw [if_neg h]
      by_cases h2 : y < x
      · rw [if_pos h2]; exact ⟨fun e => absurd e (by decide), fun e => absurd e h⟩
      · rw [if_neg h2]; exact ⟨fun e => absurd e (by decide), fun e => absurd e h⟩
  · show (if x < y then (-1 : Int32) else if y < x then 1 else 0) = 1 ↔ -x < -y
    by_cases h : x < y
    · rw [if_pos h]; exact ⟨fun e => absurd e (by decide), fun e => by omega⟩
    · rw [if_neg h]
      by_cases h2 : y < x
      · rw [if_pos h2]; exact ⟨fun _ => by omega, fun _ => rfl⟩
      · rw [if_neg h2]; exact ⟨fun e => absurd e (by decide), fun e => by omega⟩
theorem pO_sg {I : Nat → Nat → Int32} {V : Nat → Nat → Option Nat} {N : Nat → Nat} {L : List Nat} {b : Bool} {j k : Nat} (hB : bV V N L) (hL : cL I) (hj : j < 8) (hk : k < 8) : pO I (vc V j) (vc V k) = sgW b ↔ sK b I V j < sK b I V k := by
  unfold pO
  rw [tc_ord hL (vcM hB hj) (vcM hB hk), tO_key (hL _ (vcM hB hj)).1 (hL _ (vcM hB hk)).1, c3_sg]
  exact Iff.rfl
/-- sorted up to j -/
def srtP (b : Bool) (I : Nat → Nat → Int32) (V V1 : Nat → Nat → Option Nat) (j : Nat) : Prop := (∃ l : List Nat, l.Perm (List.range j) ∧ l.Pairwise (bfR (sK b I V)) ∧ ∀ p k, l[p]? = some k → V1 27 p = V 27 k) ∧ ∀ p, j ≤ p → V1 27 p = V 27 p
theorem srtP.st {b : Bool} {I : Nat → Nat → Int32} {V V1 : Nat → Nat → Option Nat} (h : V1 27 = V 27) : srtP b I V V1 1 := by
  refine ⟨⟨[0], List.Perm.refl _, List.pairwise_singleton _ _, fun p k hk => ?_⟩, fun p _ => congrFun h p⟩
  cases p with
  | zero => rw [List.getElem?_cons_zero] at hk; rw [← Option.some.inj hk]; exact congrFun h 0
  | succ p => rw [List.getElem?_cons_succ] at hk; cases hk
theorem srtP.up {b : Bool} {I : Nat → Nat → Int32} {V V1 V2 : Nat → Nat → Option Nat} {N : Nat → Nat} {L : List Nat} {j a : Nat} (hB : bV V N L) (hL : cL I) (hj : j < 8) (h : srtP b I V V1 j) (ha : a ≤ j) (hi : ∀ p, V2 27 p = insV (V1 27) j a p) (hw : ∀ p, a ≤ p → p < j → pO I (vc V1 j) (vc V1 p) = sgW b) (hn : a ≠ 0 → ¬ pO I (vc V1 j) (vc V1 (a - 1)) = sgW b) : srtP b I V V2 (j + 1) := by
  obtain ⟨⟨l, h1, h2, h3⟩, h4⟩ := h
  have hlen : l.length = j := by rw [h1.length_eq, List.length_range]
  have ej : vc V1 j = vc V j := vc_c (h4 j (Nat.le_refl j))
  have hm : ∀ p k, l[p]? = some k → p < j ∧ k < j ∧ vc V1 p = vc V k := fun p k hk => by
    refine ⟨?_, List.mem_range.mp (h1.mem_iff.mp (List.mem_of_getElem? hk)), vc_c (h3 p k hk)⟩
    rcases Nat.lt_or_ge p l.length with z | z
    · omega
    · rw [List.getElem?_eq_none z] at hk; cases hk
  obtain ⟨i1, i2⟩ := ins_sort (κ := sK b I V) h1 h2 ha
    (fun p k hp hk => by
      obtain ⟨m1, m2, m3⟩ := hm p k hk
      have := hw p hp m1
      rw [ej, m3] at this
      exact (pO_sg hB hL hj (by omega)).mp this)
    (fun k hz hk => by
      obtain ⟨m1, m2, m3⟩ := hm (a - 1) k hk
      have := hn hz
      rw [ej, m3] at this
      exact fun z => this ((pO_sg hB hL hj (by omega)).mpr z))
  obtain ⟨k1, k2⟩ := ins_at (f0 := V 27) (f := V1 27) hlen ha h3 h4
  exact ⟨⟨_, i1, i2, fun p k hk => (hi p).trans (k1 p k hk)⟩, fun p hp => (hi p).trans (k2 p hp)⟩
theorem vc_u {V : Nat → Nat → Option Nat} {i k : Nat} {x : Option Nat} {j : Nat} (h : i ≠ 27) : vc (aj_u V i k x) j = vc V j := by
  unfold vc
  rw [aj_u_o _ _ (Ne.symm h)]
-- what is asked of cells
def tNull (t : tp) : Bool := decide (t.1 = 0) && decide (t.2.1 = 0)
def sdA (t t' : tp) : Int32 := if tNull t = true then -9 else if tNull t' = true then -9 else vSg (mCr t.1 t.2.1 t'.1 t'.2.1)
def ruA (w : Int32) (t : tp) : Int32 := if 2 ≤ w then (if w ≤ 5 then (if tNull t = true then -9 else 1) else 1) else 1
def zzA (t : tp) : Bool := decide (t.2.1 = 0) && decide (0 < qL t)
def lkA (t t' : tp) : Bool := (zzA t && zzA t') || decide (tO t t' = 0)
def abI (x : Int32) : Int32 := if 0 ≤ x then x else 0 - x
def lwA (t : tp) : Int32 := if t.1 = 0 ∨ t.2.1 = 0 then (if zzA t = true then 0 else 1413754136) else if abI t.1 = abI t.2.1 then (if t.1 < 0 then (802078686650834 : Int64).toInt32 else (2570638124657944 : Int64).toInt32) else -9
theorem abI_i {x : Int32} (h : pIn x (-127) 127 = true) : (abI x).toInt = if 0 ≤ x.toInt then x.toInt else -x.toInt := by
  have hx := pIn_i h
  have e0 : (0 : Int32).toInt = 0 := by decide
  unfold abI
  by_cases z : 0 ≤ x
  · rw [if_pos z]
    rw [Int32.le_iff_toInt_le, e0] at z
    rw [if_pos z]
  · rw [if_neg z]
    rw [Int32.le_iff_toInt_le, e0] at z
    rw [if_neg z, Int32.zero_sub, Int32.toInt_neg]
    exact Int.bmod_eq_of_le (by omega) (by omega)
theorem abI_e {x u : Int32} (hx : pIn x (-127) 127 = true) (hu : pIn u (-127) 127 = true) : abI x = abI u ↔ (x = u ∨ x = -u) := by
  have a := pIn_i hx
  have b := pIn_i hu
  have en : (-u).toInt = -u.toInt := by rw [Int32.toInt_neg]; exact Int.bmod_eq_of_le (by omega) (by omega)
  rw [← Int32.toInt_inj, ← Int32.toInt_inj, ← Int32.toInt_inj, abI_i hx, abI_i hu, en]
  split <;> split <;> omega
theorem clw_e {t : tp} (h : tOk t) : (if pFixed t.1 t.2.1 = true then pLD t.1 t.2.1 (qL t) else (-9 : Int32)) = lwA t := by
  have e3 : (2570638124657944 : Int64).toInt32 = 1413754136 := by decide
  have ez : pNoSize t.2.1 (qL t) = zzA t := rfl
  have ed : pDiag t.1 t.2.1 = (!decide (t.2.1 = 0) && decide (abI t.1 = abI t.2.1)) := by
    unfold pDiag
    congr 1
    rw [← Bool.decide_or]
    exact decide_eq_decide.mpr (abI_e h.1 h.2.1).symm
  have nz : ¬ t.2.1 = 0 → zzA t = false := fun hu => by unfold zzA; rw [decide_eq_false hu]; rfl
  have na : t.1 = 0 → ¬ t.2.1 = 0 → ¬ abI t.1 = abI t.2.1 := fun hx hu e => by
    rcases (abI_e h.1 h.2.1).mp e with w | w
    · exact hu (w.symm.trans hx)
    · rw [hx] at w
      exact hu (Int32.neg_inj.mp (w.symm.trans Int32.neg_zero.symm))
  unfold pFixed pLD lwA
  rw [ez, ed]
  by_cases hu : t.2.1 = 0
  · by_cases hx : t.1 = 0 <;> cases hz : zzA t <;> simp [hx, hu, e3]
  · rw [nz hu]
    by_cases hx : t.1 = 0
    · have nb := na hx hu
      rw [hx] at nb
      simp [hx, hu, nb, e3]
    · by_cases ha : abI t.1 = abI t.2.1 <;> simp [hx, hu, ha]
def cdN (b : Bool) (i : Nat) : Nat := if b = true then 7 - i else i
def fdN (b : Bool) (c : cw) (j : Nat) : Nat := cdN b (vfi (fun i => decide (tO (c (cdN b i)) (c j) = 0)) 8)
theorem fdN_e {b : Bool} {c : cw} {j i : Nat} (hi : i < 8) (h : tO (c (cdN b i)) (c j) = 0) (hn : ∀ q, q < i → ¬ tO (c (cdN b q)) (c j) = 0) : fdN b c j = cdN b i := by
  unfold fdN
  rw [vfi_some (p := fun i => decide (tO (c (cdN b i)) (c j) = 0)) (decide_eq_true h) (fun k hk => decide_eq_false (hn k hk)) 8 hi]
theorem tO_self {t : tp} (h : tOk t) : tO t t = 0 := by
  rw [tO_key h h]
  unfold c3w
  rw [if_neg (Int.lt_irrefl _), if_neg (Int.lt_irrefl _)]
theorem lb_0 {J : Nat → Nat → Int64} {r : Int32} {b : Bool} (hr : r = bI b) (h : r = 0) : aj_u J 21 0 0 21 0 = (bI b).toInt64 := by
  rw [aj_u_s, ← hr, h]; decide
theorem lb_1 {J : Nat → Nat → Int64} {r : Int32} {b : Bool} (hr : r = bI b) (h : ¬ r = 0) : aj_u J 21 0 1 21 0 = (bI b).toInt64 := by
  rw [aj_u_s, ← hr, (show r = 1 from by rcases bI_01 b with w | w; exact absurd (hr.trans w) h; exact hr.trans w)]; decide
theorem pTw_e {I : Nat → Nat → Int32} {a c : Nat} : pTwin (I a 0) (I a 1) (I a 2) (I c 0) (I c 1) (I c 2) = decide (tc I a = tc I c) := by
  unfold pTwin tc
  rw [← Bool.decide_and, ← Bool.decide_and]
  refine decide_eq_decide.mpr ⟨fun h => by rw [h.1.1, h.1.2, h.2], fun h => ?_⟩
  have h1 := congrArg (fun t : tp => t.1) h
  have h2 := congrArg (fun t : tp => t.2.1) h
  have h3 := congrArg (fun t : tp => t.2.2) h
  exact ⟨⟨h1, h2⟩, h3⟩
def soC (I : Nat → Nat → Int32) (V V1 : Nat → Nat → Option Nat) (p : Nat) : Bool := !decide (tc I (vc V1 p) = tc I (vc V p))
-- eighths
def mkI (j : Nat) : Int32 := ([-1, -1, 0, -1, 1, -1, 1, 0, 1, 1, 0, 1, -1, 1, -1, 0] : List Int32).getD j 0
def eg1 (t : tp) (a b : Int32) : Int32 := if mOrd (qL t) t.2.1 (tU t) a b (bI (decide (b < 0))) < 0 then 0 else 1
def egR (t : tp) : Int32 := (((eg1 t 1 0 + eg1 t (-1) 0) + (eg1 t (-1) (-1) + eg1 t (-1) 1)) + (eg1 t 0 (-1) + eg1 t 0 1)) + (eg1 t 1 (-1) + eg1 t 1 1)
def egC (t : tp) : Nat → Int32
  | 0 => 0
  | i + 1 => egC t i + eg1 t (mkI (2 * i)) (mkI (2 * i + 1))
theorem egC_8 (t : tp) : egC t 8 = egR t := by
  show ((((((((0 + eg1 t (-1) (-1)) + eg1 t 0 (-1)) + eg1 t 1 (-1)) + eg1 t 1 0) + eg1 t 1 1) + eg1 t 0 1) + eg1 t (-1) 1) + eg1 t (-1) 0) = _
  unfold egR
  generalize eg1 t (-1) (-1) = a
  generalize eg1 t 0 (-1) = b
  generalize eg1 t 1 (-1) = c
  generalize eg1 t 1 0 = d
  generalize eg1 t 1 1 = e
  generalize eg1 t 0 1 = f
  generalize eg1 t (-1) 1 = g
  generalize eg1 t (-1) 0 = h
  grind
theorem mk_nz : ∀ i, i < 8 → ¬ (mkI (2 * i) = 0 ∧ mkI (2 * i + 1) = 0) := by decide
theorem tri_if {p : Prop} [Decidable p] {x y : Int32} (hx : x = -1 ∨ x = 0 ∨ x = 1) (hy : y = -1 ∨ y = 0 ∨ y = 1) : (if p then x else y) = -1 ∨ (if p then x else y) = 0 ∨ (if p then x else y) = 1 := by
  by_cases h : p
  · rw [if_pos h]; exact hx
  · rw [if_neg h]; exact hy
theorem mOrd_v (a b c d e f : Int32) (hc : c = 0 ∨ c = 1) (hf : f = 0 ∨ f = 1) : mOrd a b c d e f = -1 ∨ mOrd a b c d e f = 0 ∨ mOrd a b c d e f = 1 := by
  unfold mOrd
  refine tri_if (tri_if (tri_if (Or.inr (Or.inl rfl)) (tri_if (Or.inl rfl) (Or.inr (Or.inr rfl)))) (tri_if (Or.inl rfl) (Or.inr (Or.inr rfl)))) ?_
  rcases hc with rfl | rfl <;> rcases hf with rfl | rfl <;> decide
/-- the class's step of its count -/
theorem eg_s {I I1 : Nat → Nat → Int32} {c : Nat} {x u : Int32} (hE : eqO [163] I I1) (hL : cL I) (hc : c ∈ aj_CS) (hz : ¬ (x = 0 ∧ u = 0)) : pOrd (stB I1 163 x u 0 c 3) (stB I1 163 x u 0 c 1) (stB I1 163 x u 0 c 2) (stB I1 163 x u 0 163 3) (stB I1 163 x u 0 163 1) (stB I1 163 x u 0 163 2) = mOrd (qL (tc I c)) (tc I c).2.1 (tU (tc I c)) x u (bI (decide (u < 0))) := by
  have n : ∀ b ∈ aj_CS, b ≠ 163 := by decide
  have n2 : ∀ b ∈ aj_CS, b ∉ [163] := by decide
  rw [stB_o (n c hc), stB_3, stB_1, stB_2, hE c (n2 c hc), (hL c hc).2, pLk_nz hz]
  exact pOrd_mOrd (sOk_up (hL c hc).1.2.2.1) (pSg_up x u) (sOk_U (hL c hc).1.2.2.1) (bI_01 _)
theorem eg_0 {t : tp} {x u : Int32} (h : mOrd (qL t) t.2.1 (tU t) x u (bI (decide (u < 0))) = -1) : eg1 t x u = 0 := by
  unfold eg1
  rw [h]; decide
theorem eg_1 {t : tp} {x u : Int32} (ht : tOk t) (h : ¬ mOrd (qL t) t.2.1 (tU t) x u (bI (decide (u < 0))) = -1) : eg1 t x u = 1 := by
  unfold eg1
  rcases mOrd_v (qL t) t.2.1 (tU t) x u _ (sOk_U ht.2.2.1) (bI_01 (decide (u < 0))) with w | w | w
  · exact absurd w h
  · rw [w]; decide
  · rw [w]; decide
