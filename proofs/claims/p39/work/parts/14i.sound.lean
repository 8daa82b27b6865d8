-- THE CLASS'S ROWS ARE SOUND
theorem c3_l {x y : Int} (h : c3w x y = -1) : x < y := by
  rcases Int.lt_trichotomy x y with w | w | w
  · exact w
  · rw [c3_eq w] at h; exact absurd h (by decide)
  · rw [c3_gt w] at h; exact absurd h (by decide)
theorem c3_z {x y : Int} (h : c3w x y = 0) : x = y := by
  rcases Int.lt_trichotomy x y with w | w | w
  · rw [c3_lt w] at h; exact absurd h (by decide)
  · exact w
  · rw [c3_gt w] at h; exact absurd h (by decide)
section QK
variable {a b c d : Int32}
theorem qK_v (ha : pIn a (-127) 127 = true) (hb : pIn b (-127) 127 = true) (hc : pIn c (-127) 127 = true) (hd : pIn d (-127) 127 = true) (h1 : ¬ (a = 0 ∧ b = 0)) (h2 : ¬ (c = 0 ∧ d = 0)) : vWO a b c d = c3w (qK (qB a b 0)) (qK (qB c d 0)) := by
  rw [← pOW_vWO h1 h2, pOW_tO, tO_key (tB_ok ha hb) (tB_ok hc hd)]
theorem vWO_l (h : (b < 0 ∧ ¬ d < 0) ∨ ((b < 0 ↔ d < 0) ∧ 0 < mCr a b c d)) : vWO a b c d = -1 := by
  unfold vWO mOrd
  rcases h with ⟨x, y⟩ | ⟨x, y⟩
  · rw [decide_eq_true x, decide_eq_false y, if_neg (show ¬ bI true = bI false by decide)]
    rfl
  · have e : decide (b < 0) = decide (d < 0) := decide_eq_decide.mpr x
    have n : ¬ mCr a b c d = 0 := fun z => by rw [z] at y; exact absurd y (by decide)
    rw [e, if_pos rfl, if_neg n, if_pos y]
theorem vWO_e (e : b < 0 ↔ d < 0) (h : mCr a b c d = 0) (h2 : 0 < mDt a b c d) : vWO a b c d = 0 := by
  unfold vWO mOrd
  rw [decide_eq_decide.mpr e, if_pos rfl, if_pos h, if_pos h2]
theorem vWO_0 (h : vWO a b c d = 0) : mCr a b c d = 0 ∧ 0 < mDt a b c d := mOrd_0 (bI_01 _) (bI_01 _) h
end QK
theorem i_neg2 {a b : Int} (ha : 0 < a) (h : a * b < 0) : b < 0 := by
  rcases Int.lt_or_le b 0 with w | w
  · exact w
  · have := Int.mul_nonneg (Int.le_of_lt ha) w
    omega
/-- ways on one ray are on one side of the line across -/
theorem ray_sg {x y u v : Int} (c : x * v - y * u = 0) (d : 0 < x * u + y * v) : (y < 0 ↔ v < 0) := by
  have k1 : v * (x * u + y * v) = y * (u * u + v * v) := by
    have e : v * (x * u + y * v) = u * (x * v - y * u) + y * (u * u + v * v) := by grind
    rw [e, c, Int.mul_zero, Int.zero_add]
  have n : 0 < u * u + v * v := by
    rcases Int.lt_or_le 0 (u * u + v * v) with w | w
    · exact w
    · exfalso
      have s1 := i_sq u
      have s2 := i_sq v
      obtain ⟨e1, e2⟩ := i_sq0 (a := u) (b := v) (by omega)
      rw [e1, e2, Int.mul_zero, Int.mul_zero] at d
      omega
  constructor
  · intro h
    have m := Int.mul_neg_of_neg_of_pos h n
    rw [← k1, Int.mul_comm] at m
    exact i_neg2 d m
  · intro h
    have m := Int.mul_neg_of_neg_of_pos h d
    rw [k1, Int.mul_comm] at m
    exact i_neg2 n m
/-- the class's ROUND as a row in order -/
def rdS (I : Nat → Nat → Int32) (n rc : Nat) (ρ : Nat → Nat) : Prop := (∀ p, p < rc → ρ p < n ∧ oP I (ρ p) = true ∧ I 56 p = nI (ρ p)) ∧ (∀ p q, p < q → q < rc → zC I (ρ p) < zC I (ρ q)) ∧ ∀ k, k < n → oP I k = true → ∃ p, p < rc ∧ ρ p = k
theorem rdS.of {I : Nat → Nat → Int32} {n rc : Nat} (hR : rgI I n) (hD : dfI I n) (hq : rdQ I I n) (hrc : rc = cnt (oP I) n) : ∃ ρ, rdS I n rc ρ := by
  obtain ⟨l, p1, p2, p3⟩ := hq
  have hl := (rdQ.len p1).trans hrc.symm
  have hm : ∀ k, k ∈ l → k < n ∧ oP I k = true := fun k hk => by
    have z := List.mem_filter.mp (p1.mem_iff.mp hk)
    exact ⟨List.mem_range.mp z.1, z.2⟩
  have el : ∀ p (h : p < rc), (l[p]?).getD 0 = l[p]'(by omega) := fun p h => by
    rw [List.getElem?_eq_getElem (show p < l.length by omega)]
    rfl
  refine ⟨fun p => (l[p]?).getD 0, fun p hp => ?_, fun p q hpq hq => ?_, fun k hk ho => ?_⟩
  · show (l[p]?).getD 0 < n ∧ oP I ((l[p]?).getD 0) = true ∧ I 56 p = nI ((l[p]?).getD 0)
    rw [el p hp]
    have z := hm _ (List.getElem_mem (show p < l.length by omega))
    exact ⟨z.1, z.2, p3 p _ (List.getElem?_eq_getElem (show p < l.length by omega))⟩
  · show zC I ((l[p]?).getD 0) < zC I ((l[q]?).getD 0)
    rw [el p (by omega), el q hq]
    have a := hm _ (List.getElem_mem (show p < l.length by omega))
    have b := hm _ (List.getElem_mem (show q < l.length by omega))
    rcases List.pairwise_iff_getElem.mp p2 p q (by omega) (by omega) hpq with w | ⟨w, v⟩
    · exact w
    · exfalso
      have wa := hR.w a.1
      have wb := hR.w b.1
      have z := zK_inj wa.1 wa.2 wb.1 wb.2 (oP_nz a.2) (oP_nz b.2) w
      exact hD _ _ a.1 b.1 (by omega) ⟨(Int32.sub_left_inj _).mp z.1, (Int32.sub_left_inj _).mp z.2⟩
  · have hk2 : k ∈ l := by
      rw [p1.mem_iff, List.mem_filter, List.mem_range]
      exact ⟨hk, ho⟩
    obtain ⟨p, hp⟩ := List.getElem?_of_mem hk2
    refine ⟨p, ?_, ?_⟩
    · rcases Nat.lt_or_ge p l.length with w | w
      · omega
      · rw [List.getElem?_eq_none w] at hp; cases hp
    · show (l[p]?).getD 0 = k
      rw [hp]
      rfl
theorem rdS.b {I : Nat → Nat → Int32} {n rc : Nat} {ρ : Nat → Nat} (hR : rgI I n) (h : rdS I n rc ρ) {p q : Nat} (hpq : p < q) (hq : q < rc) : pCB (I 24 12) (I 40 12) (I 24 (ρ p)) (I 40 (ρ p)) (I 24 (ρ q)) (I 40 (ρ q)) = true := by
  rw [cb_e hR (h.1 p (by omega)).1 (h.1 q hq).1]
  exact decide_eq_true (h.2.1 p q hpq hq)
-- the ways of the round, in whole numbers
section RS
variable {I : Nat → Nat → Int32} {n rc t p q i z : Nat} {ρ : Nat → Nat}
def wP (I : Nat → Nat → Int32) (ρ : Nat → Nat) : pt := fun p => rX (I 24) (ρ p) - (I 24 12).toInt
def wQ (I : Nat → Nat → Int32) (ρ : Nat → Nat) : pt := fun p => rX (I 40) (ρ p) - (I 40 12).toInt
def kyR (I : Nat → Nat → Int32) (ρ : Nat → Nat) (p : Nat) : Int := qK (qB (I 24 (ρ p) - I 24 12) (I 40 (ρ p) - I 40 12) 0)
theorem w_i (hR : rgI I n) (hp : ρ p < n) : (I 24 (ρ p) - I 24 12).toInt = wP I ρ p ∧ (I 40 (ρ p) - I 40 12).toInt = wQ I ρ p := ⟨(pIn_sub' (hR.1 _ hp).1 hR.2.1).2.1, (pIn_sub' (hR.1 _ hp).2 hR.2.2).2.1⟩
theorem w_b (hR : rgI I n) (hp : ρ p < n) : (-127 ≤ wP I ρ p ∧ wP I ρ p ≤ 127) ∧ (-127 ≤ wQ I ρ p ∧ wQ I ρ p ≤ 127) := by
  have e := w_i hR hp
  have a := hR.w hp
  rw [← e.1, ← e.2]
  exact ⟨pIn_i a.1, pIn_i a.2⟩
theorem w_c (hR : rgI I n) (hp : ρ p < n) (hq : ρ q < n) : (mCr (I 24 (ρ p) - I 24 12) (I 40 (ρ p) - I 40 12) (I 24 (ρ q) - I 24 12) (I 40 (ρ q) - I 40 12)).toInt = wcr (wP I ρ) (wQ I ρ) p q ∧ (mDt (I 24 (ρ p) - I 24 12) (I 40 (ρ p) - I 40 12) (I 24 (ρ q) - I 24 12) (I 40 (ρ q) - I 40 12)).toInt = wdt (wP I ρ) (wQ I ρ) p q := by
  have e1 := w_i hR hp
  have e2 := w_i hR hq
  have a := pIn_i (hR.w hp).1
  have b := pIn_i (hR.w hp).2
  have c := pIn_i (hR.w hq).1
  have d := pIn_i (hR.w hq).2
  have m := mCr_i a.1 a.2 b.1 b.2 c.1 c.2 d.1 d.2
  rw [e1.1, e1.2, e2.1, e2.2] at m
  exact m
theorem k_lt (hR : rgI I n) (h : rdS I n rc ρ) (hp : p < rc) (hq : q < rc) (c : (wQ I ρ p < 0 ∧ 0 ≤ wQ I ρ q) ∨ ((wQ I ρ p < 0 ↔ wQ I ρ q < 0) ∧ 0 < wcr (wP I ρ) (wQ I ρ) p q)) : kyR I ρ p < kyR I ρ q := by
  have hp' := h.1 p hp
  have hq' := h.1 q hq
  have a := hR.w hp'.1
  have b := hR.w hq'.1
  have e := qK_v a.1 a.2 b.1 b.2 (oP_nz hp'.2.1) (oP_nz hq'.2.1)
  have e1 := (w_i hR hp'.1).2
  have e2 := (w_i hR hq'.1).2
  refine c3_l (e.symm.trans (vWO_l ?_))
  rw [i32_n, i32_n, i32_p, e1, e2, (w_c hR hp'.1 hq'.1).1]
  rcases c with c | c
  · exact Or.inl ⟨c.1, by omega⟩
  · exact Or.inr c
theorem k_e (hR : rgI I n) (h : rdS I n rc ρ) (hp : p < rc) (hq : q < rc) (c : wcr (wP I ρ) (wQ I ρ) p q = 0) (d : 0 < wdt (wP I ρ) (wQ I ρ) p q) : kyR I ρ p = kyR I ρ q := by
  have hp' := h.1 p hp
  have hq' := h.1 q hq
  have a := hR.w hp'.1
  have b := hR.w hq'.1
  have e := qK_v a.1 a.2 b.1 b.2 (oP_nz hp'.2.1) (oP_nz hq'.2.1)
  have e1 := (w_i hR hp'.1).2
  have e2 := (w_i hR hq'.1).2
  have w := w_c hR hp'.1 hq'.1
  refine c3_z (e.symm.trans (vWO_e ?_ (i32_0.mpr (w.1.trans c)) (i32_p.mpr (by rw [w.2]; exact d))))
  rw [i32_n, i32_n, e1, e2]
  exact ray_sg c d
theorem k_0 (hR : rgI I n) (h : rdS I n rc ρ) (hp : p < rc) (hq : q < rc) (e0 : kyR I ρ p = kyR I ρ q) : wcr (wP I ρ) (wQ I ρ) p q = 0 ∧ 0 < wdt (wP I ρ) (wQ I ρ) p q := by
  have hp' := h.1 p hp
  have hq' := h.1 q hq
  have a := hR.w hp'.1
  have b := hR.w hq'.1
  have e := qK_v a.1 a.2 b.1 b.2 (oP_nz hp'.2.1) (oP_nz hq'.2.1)
  have w := w_c hR hp'.1 hq'.1
  have v := vWO_0 (e.trans (c3_eq e0))
  rw [i32_0, i32_p, w.1, w.2] at v
  exact v
theorem k_z (hR : rgI I n) (h : rdS I n rc ρ) (hp : p < rc) : zC I (ρ p) = kyR I ρ p * 65536 + wdt (wP I ρ) (wQ I ρ) p p ∧ 0 ≤ wdt (wP I ρ) (wQ I ρ) p p ∧ wdt (wP I ρ) (wQ I ρ) p p ≤ 32258 := by
  have hp' := h.1 p hp
  have a := hR.w hp'.1
  have d := dd_i a.1 a.2
  have w := (w_c hR hp'.1 hp'.1).2
  rw [w] at d
  refine ⟨?_, d.2⟩
  unfold zC zKK
  rw [w]
  rfl
theorem k_le (hR : rgI I n) (h : rdS I n rc ρ) (hpq : p ≤ q) (hq : q < rc) : kyR I ρ p ≤ kyR I ρ q := by
  rcases Nat.lt_or_ge p q with w | w
  · have z := h.2.1 p q w hq
    have a := k_z hR h (show p < rc by omega)
    have b := k_z hR h hq
    rw [a.1, b.1] at z
    omega
  · rw [show p = q by omega]
    exact Int.le_refl _
/-- no way lies strictly between neighbours -/
theorem k_no (hR : rgI I n) (h : rdS I n rc ρ) (hi : i < rc) (hz : z < rc) (c0 : 0 < wcr (wP I ρ) (wQ I ρ) i (vfo rc i)) : ¬ (0 < wcr (wP I ρ) (wQ I ρ) i z ∧ 0 < wcr (wP I ρ) (wQ I ρ) z (vfo rc i)) := fun ⟨c1, c2⟩ => by
  have hj := vfo_l (n := rc) hi
  have key : wcr (wP I ρ) (wQ I ρ) i (vfo rc i) * wQ I ρ z = wcr (wP I ρ) (wQ I ρ) z (vfo rc i) * wQ I ρ i + wcr (wP I ρ) (wQ I ρ) i z * wQ I ρ (vfo rc i) := by
    unfold wcr
    grind
  have L1 := k_lt (p := i) (q := z) hR h hi hz
  have L2 := k_lt (p := z) (q := vfo rc i) hR h hz hj
  have L3 := k_lt (p := i) (q := vfo rc i) hR h hi hj
  have L4 := k_lt (p := vfo rc i) (q := i) hR h hj hi
  have pos : kyR I ρ i ≤ kyR I ρ (vfo rc i) → kyR I ρ i < kyR I ρ z ∧ kyR I ρ z < kyR I ρ (vfo rc i) := fun le => by
    by_cases x : wQ I ρ i < 0
    · by_cases y : wQ I ρ (vfo rc i) < 0
      · have m1 := Int.mul_neg_of_pos_of_neg c2 x
        have m2 := Int.mul_neg_of_pos_of_neg c1 y
        have w := i_neg2 c0 (by rw [key]; omega)
        exact ⟨L1 (Or.inr ⟨⟨fun _ => w, fun _ => x⟩, c1⟩), L2 (Or.inr ⟨⟨fun _ => y, fun _ => w⟩, c2⟩)⟩
      · by_cases w : wQ I ρ z < 0
        · exact ⟨L1 (Or.inr ⟨⟨fun _ => w, fun _ => x⟩, c1⟩), L2 (Or.inl ⟨w, by omega⟩)⟩
        · exact ⟨L1 (Or.inl ⟨x, by omega⟩), L2 (Or.inr ⟨⟨fun v => absurd v w, fun v => absurd v y⟩, c2⟩)⟩
    · by_cases y : wQ I ρ (vfo rc i) < 0
      · have := L4 (Or.inl ⟨y, by omega⟩)
        omega
      · have m1 := Int.mul_nonneg (Int.le_of_lt c2) (show 0 ≤ wQ I ρ i by omega)
        have m2 := Int.mul_nonneg (Int.le_of_lt c1) (show 0 ≤ wQ I ρ (vfo rc i) by omega)
        have w : ¬ wQ I ρ z < 0 := fun v => by
          have := Int.mul_neg_of_pos_of_neg c0 v
          omega
        exact ⟨L1 (Or.inr ⟨⟨fun v => absurd v x, fun v => absurd v w⟩, c1⟩), L2 (Or.inr ⟨⟨fun v => absurd v w, fun v => absurd v y⟩, c2⟩)⟩
  by_cases e : i + 1 < rc
  · have ev : vfo rc i = i + 1 := by unfold vfo; rw [if_pos e]
    rw [ev] at pos
    have l1 := k_le hR h (show i ≤ i + 1 by omega) e
    obtain ⟨a, b⟩ := pos l1
    rcases Nat.lt_or_ge i z with w | w
    · have := k_le hR h (show i + 1 ≤ z by omega) hz
      omega
    · have := k_le hR h w hi
      omega
  · have ev : vfo rc i = 0 := by unfold vfo; rw [if_neg e]
    have a := k_le hR h (show z ≤ i by omega) hi
    have b := k_le hR h (Nat.zero_le z) hz
    have c := k_le hR h (Nat.zero_le i) hi
    rw [← ev] at b c
    by_cases x : wQ I ρ i < 0
    · by_cases y : wQ I ρ (vfo rc i) < 0
      · have := L3 (Or.inr ⟨⟨fun _ => y, fun _ => x⟩, c0⟩)
        omega
      · have := L3 (Or.inl ⟨x, by omega⟩)
        omega
    · by_cases y : wQ I ρ (vfo rc i) < 0
      · by_cases w : wQ I ρ z < 0
        · have := L2 (Or.inr ⟨⟨fun _ => y, fun _ => w⟩, c2⟩)
          omega
        · have := L1 (Or.inr ⟨⟨fun v => absurd v x, fun v => absurd v w⟩, c1⟩)
          omega
      · have := L3 (Or.inr ⟨⟨fun v => absurd v x, fun v => absurd v y⟩, c0⟩)
        omega
theorem k_ray (hR : rgI I n) (h : rdS I n rc ρ) {B : Nat} (hB : B < rc) (far : ∀ z, z < rc → wcr (wP I ρ) (wQ I ρ) z B = 0 → 0 < wdt (wP I ρ) (wQ I ρ) z B → wdt (wP I ρ) (wQ I ρ) z z ≤ wdt (wP I ρ) (wQ I ρ) B B) (hi : i < rc) (hne : i ≠ B) (c : wcr (wP I ρ) (wQ I ρ) i B = 0) (d : 0 < wdt (wP I ρ) (wQ I ρ) i B) : wcr (wP I ρ) (wQ I ρ) i (vfo rc i) = 0 := by
  have e := k_e hR h hi hB c d
  have f := far i hi c d
  have a := k_z hR h hi
  have b := k_z hR h hB
  have iB : i < B := by
    rcases Nat.lt_or_gt_of_ne hne with w | w
    · exact w
    · have z := h.2.1 B i w hi
      rw [a.1, b.1] at z
      omega
  have ev : vfo rc i = i + 1 := by unfold vfo; rw [if_pos (by omega)]
  rw [ev]
  have l1 := k_le hR h (show i ≤ i + 1 by omega) (show i + 1 < rc by omega)
  have l2 := k_le hR h (show i + 1 ≤ B by omega) hB
  exact (k_0 hR h hi (by omega) (by omega)).1
end RS
-- SUMS OF WORDS
theorem vSm_i {w : Nat → Int32} : ∀ n, n ≤ 12 → (∀ k, k < n → -40000 ≤ (w k).toInt ∧ (w k).toInt ≤ 40000) → (vSm w n).toInt = isum (fun k => (w k).toInt) n ∧ -40000 * (n : Int) ≤ isum (fun k => (w k).toInt) n ∧ isum (fun k => (w k).toInt) n ≤ 40000 * (n : Int) := by
  intro n
  induction n with
  | zero =>
    intro _ _
    refine ⟨rfl, ?_, ?_⟩
    · show -40000 * ((0 : Nat) : Int) ≤ 0
      omega
    · show (0 : Int) ≤ 40000 * ((0 : Nat) : Int)
      omega
  | succ n ih =>
    intro hn hw
    obtain ⟨h1, h2, h3⟩ := ih (by omega) (fun k hk => hw k (by omega))
    have b := hw n (by omega)
    show (vSm w n + w n).toInt = isum (fun k => (w k).toInt) n + (w n).toInt ∧ -40000 * ((n + 1 : Nat) : Int) ≤ isum (fun k => (w k).toInt) n + (w n).toInt ∧ isum (fun k => (w k).toInt) n + (w n).toInt ≤ 40000 * ((n + 1 : Nat) : Int)
    refine ⟨?_, by omega, by omega⟩
    rw [Int32.toInt_add, h1]
    exact Int.bmod_eq_of_le (by omega) (by omega)
/-- a star's area is sound -/
theorem star_ok {I : Nat → Nat → Int32} {n rc qc : Nat} (hn : n ≤ 12) (hrn : rc ≤ n) (hqn : qc ≤ n) (hR : rgI I n) (hD : dfI I n) (hq : rdQ I I n) (hrc : rc = cnt (oP I) n) (hh : hlP I n qc) (hs : rwS pOW (I 24) (I 40) (I 24 12) (I 40 12) (fun p => nn (I 56 p)) rc = true) : 0 < rwT (I 24) (I 40) (I 24 12) (I 40 12) (fun p => nn (I 56 p)) rc ∧ rwT (I 24) (I 40) (I 24 12) (I 40 12) (fun p => nn (I 56 p)) rc ≤ hrT (I 24) (I 40) (fun p => nn (I 72 p)) qc := by
  obtain ⟨ρ, hρ⟩ := rdS.of hR hD hq hrc
  have en : ∀ p, p < rc → nn (I 56 p) = ρ p := fun p hp => by
    rw [(hρ.1 p hp).2.2]
    exact nn_nI (by have := (hρ.1 p hp).1; omega)
  have lt : ∀ p, p < rc → ρ p < n := fun p hp => (hρ.1 p hp).1
  have eo : ∀ o : Int32 → Int32 → Int32 → Int32 → Int32, ∀ p, p < rc → rwO o (I 24) (I 40) (I 24 12) (I 40 12) (fun p => nn (I 56 p)) rc p = o (I 24 (ρ p) - I 24 12) (I 40 (ρ p) - I 40 12) (I 24 (ρ (vfo rc p)) - I 24 12) (I 40 (ρ (vfo rc p)) - I 40 12) := fun o p hp => rwO_e (en p hp) (en _ (vfo_l hp))
  have ec : ∀ p, p < rc → (rwO mCr (I 24) (I 40) (I 24 12) (I 40 12) (fun p => nn (I 56 p)) rc p).toInt = wcr (wP I ρ) (wQ I ρ) p (vfo rc p) := fun p hp => by
    rw [eo mCr p hp]
    exact (w_c hR (lt p hp) (lt _ (vfo_l hp))).1
  unfold rwS at hs
  rw [Bool.and_eq_true] at hs
  have hG := alB_i hs.1
  have nz : ∀ p, p < rc → ¬ (I 24 (ρ p) - I 24 12 = 0 ∧ I 40 (ρ p) - I 40 12 = 0) := fun p hp => oP_nz (hρ.1 p hp).2.1
  have hd : ∀ p, p < rc → rwD pOW (I 24) (I 40) (I 24 12) (I 40 12) (fun p => nn (I 56 p)) rc p = true → 0 < wcr (wP I ρ) (wQ I ρ) p (vfo rc p) := fun p hp e => by
    have g := hG p hp
    unfold rwG at g
    rw [e] at g
    have g : (false || decide (0 < rwO mCr (I 24) (I 40) (I 24 12) (I 40 12) (fun p => nn (I 56 p)) rc p)) = true := g
    rw [Bool.false_or, decide_eq_true_eq, i32_p, ec p hp] at g
    exact g
  have hS : ∀ p, p < rc → 0 < wcr (wP I ρ) (wQ I ρ) p (vfo rc p) ∨ (wcr (wP I ρ) (wQ I ρ) p (vfo rc p) = 0 ∧ 0 < wdt (wP I ρ) (wQ I ρ) p (vfo rc p)) := fun p hp => by
    cases e : rwD pOW (I 24) (I 40) (I 24 12) (I 40 12) (fun p => nn (I 56 p)) rc p with
    | true => exact Or.inl (hd p hp e)
    | false =>
      right
      unfold rwD at e
      have e : rwO pOW (I 24) (I 40) (I 24 12) (I 40 12) (fun p => nn (I 56 p)) rc p = 0 := by
        rcases Decidable.em (rwO pOW (I 24) (I 40) (I 24 12) (I 40 12) (fun p => nn (I 56 p)) rc p = 0) with w | w
        · exact w
        · rw [decide_eq_false w] at e
          exact absurd e (by decide)
      rw [eo pOW p hp, pOW_vWO (nz p hp) (nz _ (vfo_l hp))] at e
      have v := vWO_0 e
      have w := w_c hR (lt p hp) (lt _ (vfo_l (n := rc) hp))
      rw [i32_0, i32_p, w.1, w.2] at v
      exact v
  obtain ⟨i0, h0, hp0⟩ := exB_i hs.2
  have hp := hd i0 h0 hp0
  rcases hh with ⟨w, -⟩ | ⟨h, H, hH⟩
  · omega
  · have h1 : 1 < n := by
      rcases Nat.lt_or_ge 1 n with w | w
      · exact w
      · exfalso
        have e : i0 = 0 := by omega
        have e2 : vfo rc i0 = 0 := by unfold vfo; rw [if_neg (by omega)]
        rw [e2, e] at hp
        have : wcr (wP I ρ) (wQ I ρ) 0 0 = 0 := by unfold wcr; grind
        omega
    have hl : ∀ a, a < qc → h a < n := fun a ha => (hch_lt H ha).1
    have en2 : ∀ a, a < qc → nn (I 72 a) = h a := fun a ha => by
      rw [hH a ha]
      exact nn_nI (by have := hl a ha; omega)
    have g := star_hull (P := wP I ρ) (Q := wQ I ρ) (cx := (I 24 12).toInt) (cy := (I 40 12).toInt) (ρ := ρ) H h1 hD.x (fun _ => rfl) (fun _ => rfl) lt (fun k hk ho => (hρ.2.2 k hk (by
      unfold oP
      refine decide_eq_true ?_
      have d := dd_i (hR.w hk).1 (hR.w hk).2
      show 0 < mDt (I 24 k - I 24 12) (I 40 k - I 40 12) (I 24 k - I 24 12) (I 40 k - I 40 12)
      rw [i32_p]
      rcases Int.lt_or_eq_of_le d.2.1 with w | w
      · exact w
      · exfalso
        rw [d.1] at w
        have z := i_sq0 w.symm
        exact ho ⟨congrArg Int32.toInt (i32_sub0 (i32_0.mpr z.1)), congrArg Int32.toInt (i32_sub0 (i32_0.mpr z.2))⟩))) hS h0 hp (fun i z hi hz c0 => k_no hR hρ hi hz c0) (fun B hB far i hi hne c d => k_ray hR hρ hB far hi hne c d)
    have b1 : ∀ p, p < rc → -40000 ≤ (rwO mCr (I 24) (I 40) (I 24 12) (I 40 12) (fun p => nn (I 56 p)) rc p).toInt ∧ (rwO mCr (I 24) (I 40) (I 24 12) (I 40 12) (fun p => nn (I 56 p)) rc p).toInt ≤ 40000 := fun p hp => by
      rw [ec p hp]
      have a := w_b hR (lt p hp)
      have b := w_b hR (lt _ (vfo_l (n := rc) hp))
      have m1 := mul_rg a.1.1 a.1.2 b.2.1 b.2.2
      have m2 := mul_rg a.2.1 a.2.2 b.1.1 b.1.2
      unfold wcr
      omega
    have s1 := vSm_i rc (by omega) b1
    have e1 : isum (fun k => (rwO mCr (I 24) (I 40) (I 24 12) (I 40 12) (fun p => nn (I 56 p)) rc k).toInt) rc = isum (fun p => wcr (wP I ρ) (wQ I ρ) p (vfo rc p)) rc := isum_c rc ec
    have f2 : ∀ a, a < qc → (mCr (I 24 (nn (I 72 a))) (I 40 (nn (I 72 a))) (I 24 (nn (I 72 (vfo qc a)))) (I 40 (nn (I 72 (vfo qc a))))).toInt = rX (I 24) (h a) * rX (I 40) (h (vfo qc a)) - rX (I 40) (h a) * rX (I 24) (h (vfo qc a)) ∧ -40000 ≤ rX (I 24) (h a) * rX (I 40) (h (vfo qc a)) - rX (I 40) (h a) * rX (I 24) (h (vfo qc a)) ∧ rX (I 24) (h a) * rX (I 40) (h (vfo qc a)) - rX (I 40) (h a) * rX (I 24) (h (vfo qc a)) ≤ 40000 := fun a ha => by
      have hv := vfo_l (n := qc) ha
      rw [en2 a ha, en2 _ hv]
      have x1 := hR.x (h a) (hl a ha)
      have x2 := hR.x (h (vfo qc a)) (hl _ hv)
      unfold rX at x1 x2 ⊢
      have m := mCr_i (a := I 24 (h a)) (b := I 40 (h a)) (d := I 24 (h (vfo qc a))) (e := I 40 (h (vfo qc a))) (by omega) (by omega) (by omega) (by omega) (by omega) (by omega) (by omega) (by omega)
      have m1 := mul_rg (a := (I 24 (h a)).toInt) (e := (I 40 (h (vfo qc a))).toInt) (by omega) (by omega) (by omega) (by omega)
      have m2 := mul_rg (a := (I 40 (h a)).toInt) (e := (I 24 (h (vfo qc a))).toInt) (by omega) (by omega) (by omega) (by omega)
      exact ⟨m.1, by omega, by omega⟩
    have s2 := vSm_i (w := fun p => mCr (I 24 (nn (I 72 p))) (I 40 (nn (I 72 p))) (I 24 (nn (I 72 (vfo qc p)))) (I 40 (nn (I 72 (vfo qc p))))) qc (by omega) (fun a ha => by
      have z := f2 a ha
      show -40000 ≤ (mCr _ _ _ _).toInt ∧ (mCr _ _ _ _).toInt ≤ 40000
      rw [z.1]
      exact z.2)
    have e2 := isum_c qc (fun a ha => (f2 a ha).1)
    rw [i32_p, Int32.le_iff_toInt_le]
    unfold rwT hrT
    rw [s1.1, s2.1, e1]
    refine ⟨g.1, Int.le_trans g.2 ?_⟩
    rw [← e2]
    exact Int.le_refl _
section SK
variable {I : Nat → Nat → Int32} {n rc qc j k p1 p2 p3 : Nat}
theorem rs_ok (hn : n ≤ 12) (hR : rgI I n) (hD : dfI I n) (hq : rdQ I I n) (hrc : rc = cnt (oP I) n) (hj : j + 1 < rc) (h1 : I 56 j = nI p1) (h2 : I 56 (j + 1) = nI p2) (b1 : p1 < n) (b2 : p2 < n) : pCB (I 24 12) (I 40 12) (I 24 p1) (I 40 p1) (I 24 p2) (I 40 p2) = true := by
  obtain ⟨ρ, hρ⟩ := rdS.of hR hD hq hrc
  have a := hρ.1 j (by omega)
  have b := hρ.1 (j + 1) hj
  have e1 : ρ j = p1 := (nI_eq (by omega) (by omega)).mp (a.2.2.symm.trans h1)
  have e2 : ρ (j + 1) = p2 := (nI_eq (by omega) (by omega)).mp (b.2.2.symm.trans h2)
  have z := rdS.b hR hρ (show j < j + 1 by omega) hj
  rw [e1, e2] at z
  exact z
theorem hs_e (hn : n ≤ 12) (hR : rgI I n) (hh : hlP I n qc) (hj : j < qc) (h1 : I 72 j = nI p1) (h2 : I 72 (vfo qc j) = nI p2) (b1 : p1 < n) (b2 : p2 < n) (hk : k < n) : ¬ pCr (I 24 p1) (I 40 p1) (I 24 p2) (I 40 p2) (I 24 k) (I 40 k) < 0 := by
  rcases hh with ⟨w, -⟩ | ⟨h, H, hS⟩
  · omega
  · have hv := vfo_l (n := qc) hj
    have l1 := (hch_lt H hj).1
    have l2 := (hch_lt H hv).1
    have e1 : h j = p1 := (nI_eq (by omega) (by omega)).mp ((hS j hj).symm.trans h1)
    have e2 : h (vfo qc j) = p2 := (nI_eq (by omega) (by omega)).mp ((hS _ hv).symm.trans h2)
    have z := hch_e H hj hk
    rw [e1, e2] at z
    rw [i32_n, (pCr_i hR.f b1 b2 hk).1]
    omega
theorem hs_s (hn : n ≤ 12) (hR : rgI I n) (hh : hlP I n qc) (h3 : 3 ≤ qc) (hj : j < qc) (h1 : I 72 j = nI p1) (h2 : I 72 (vfo qc j) = nI p2) (h4 : I 72 (vfo qc (vfo qc j)) = nI p3) (b1 : p1 < n) (b2 : p2 < n) (b3 : p3 < n) : 0 < pCr (I 24 p1) (I 40 p1) (I 24 p2) (I 40 p2) (I 24 p3) (I 40 p3) := by
  rcases hh with ⟨w, -⟩ | ⟨h, H, hS⟩
  · omega
  · have hv := vfo_l (n := qc) hj
    have hw := vfo_l (n := qc) hv
    have l1 := (hch_lt H hj).1
    have l2 := (hch_lt H hv).1
    have l3 := (hch_lt H hw).1
    have e1 : h j = p1 := (nI_eq (by omega) (by omega)).mp ((hS j hj).symm.trans h1)
    have e2 : h (vfo qc j) = p2 := (nI_eq (by omega) (by omega)).mp ((hS _ hv).symm.trans h2)
    have e3 : h (vfo qc (vfo qc j)) = p3 := (nI_eq (by omega) (by omega)).mp ((hS _ hw).symm.trans h4)
    have z := hch_s H h3 hj
    rw [e1, e2, e3] at z
    rw [i32_p, (pCr_i hR.f b1 b2 b3).1]
    exact z
theorem star_k (hn : n ≤ 12) (hf : fW I n) (hR : rgI I n) (hD : dfI I n) (hs : rwS pOW (I 24) (I 40) (I 24 12) (I 40 12) (fun p => nn (I 56 p)) (nn (I 18 4)) = true) : 0 < rwT (I 24) (I 40) (I 24 12) (I 40 12) (fun p => nn (I 56 p)) (nn (I 18 4)) ∧ rwT (I 24) (I 40) (I 24 12) (I 40 12) (fun p => nn (I 56 p)) (nn (I 18 4)) ≤ hrT (I 24) (I 40) (fun p => nn (I 72 p)) (nn (I 18 6)) := by
  obtain ⟨rc, hc, a1, a2, a3, a4, a5, a6, a7, a8, a9⟩ := hf
  rw [a3, nn_nI (by omega)] at hs ⊢
  rw [a4, nn_nI (by omega)]
  exact star_ok hn a1 a2 hR hD (a8 hR) a7 (a9 hR hD) hs
end SK
-- PAIRS OF CELLS
def AGc (I : Nat → Nat → Int32) (c : Nat) : Int64 := pAng (I c 0) (I c 1) (I c 2) (I c 3)
def pairG (I : Nat → Nat → Int32) (c d : Nat) (g g' : Int64) : Prop := pSgn ((pRk (pFD (I c 2) g)).toInt64 - (pRk (pFD (I d 2) g')).toInt64) = pOrd (I c 3) (I c 1) (I c 2) (I d 3) (I d 1) (I d 2) ∧ (pNull (I c 0) (I c 1) = false → pNull (I d 0) (I d 1) = false → pSB g g' = pSgn (pCross (I c 0) (I c 1) (I d 0) (I d 1)).toInt64)
def pairsG (I : Nat → Nat → Int32) (V : Nat → Nat → Option Nat) : Prop := ∀ i j, i < j → j < 8 → pairG I (vc V i) (vc V j) (AGc I (vc V i)) (AGc I (vc V j))
