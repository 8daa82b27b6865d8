-- STAR AND HULL, in whole numbers
theorem i_tri {x1 y1 x2 y2 x3 y3 : Int} (z : (x2 - x1) * (y3 - y1) - (y2 - y1) * (x3 - x1) = 0) (p1 : 0 < (x2 - x1) * (x3 - x1) + (y2 - y1) * (y3 - y1)) (p2 : 0 < (x3 - x2) * (x1 - x2) + (y3 - y2) * (y1 - y2)) (p3 : 0 < (x1 - x3) * (x2 - x3) + (y1 - y3) * (y2 - y3)) : False := by
  obtain ⟨u1, hu1⟩ : ∃ u, u = x2 - x1 := ⟨_, rfl⟩
  obtain ⟨u2, hu2⟩ : ∃ u, u = y2 - y1 := ⟨_, rfl⟩
  obtain ⟨v1, hv1⟩ : ∃ u, u = x3 - x2 := ⟨_, rfl⟩
  obtain ⟨v2, hv2⟩ : ∃ u, u = y3 - y2 := ⟨_, rfl⟩
  rw [← hu1, ← hu2, show x3 - x1 = u1 + v1 by omega, show y3 - y1 = u2 + v2 by omega] at z p1
  rw [← hv1, ← hv2, show x1 - x2 = -u1 by omega, show y1 - y2 = -u2 by omega] at p2
  rw [show x1 - x3 = -(u1 + v1) by omega, show y1 - y3 = -(u2 + v2) by omega, show x2 - x3 = -v1 by omega, show y2 - y3 = -v2 by omega] at p3
  have c : u1 * v2 - u2 * v1 = 0 := by
    have k : u1 * (u2 + v2) - u2 * (u1 + v1) = u1 * v2 - u2 * v1 := by grind
    omega
  have dd := g_dd c
  have q1 : u1 * (u1 + v1) + u2 * (u2 + v2) = (u1 * u1 + u2 * u2) + (u1 * v1 + u2 * v2) := by grind
  have q2 : v1 * -u1 + v2 * -u2 = -(u1 * v1 + u2 * v2) := by grind
  have q3 : -(u1 + v1) * -v1 + -(u2 + v2) * -v2 = (u1 * v1 + u2 * v2) + (v1 * v1 + v2 * v2) := by grind
  rw [q1] at p1
  rw [q2] at p2
  rw [q3] at p3
  generalize u1 * v1 + u2 * v2 = D at *
  generalize u1 * u1 + u2 * u2 = N at *
  generalize v1 * v1 + v2 * v2 = E at *
  have a := Int.mul_lt_mul_of_pos_left (show -D < N by omega) (show 0 < -D by omega)
  have b := Int.mul_lt_mul_of_pos_right (show -D < E by omega) (show 0 < N by omega)
  have e : -D * -D = D * D := Int.neg_mul_neg D D
  have f : -D * N = N * -D := Int.mul_comm _ _
  have g : E * N = N * E := Int.mul_comm _ _
  have k : -D * N = -(D * N) := Int.neg_mul D N
  omega
section ST1
variable {X Y : pt} {n m a b c k : Nat} {h : Nat → Nat}
/-- three corners aren't in one line -/
theorem tri_pos (ha : a < n) (hb : b < n) (hc : c < n) (hab : a ≠ b) (hbc : b ≠ c) (hac : a ≠ c) (ca : isC X Y n a) (cb : isC X Y n b) (cc : isC X Y n c) (h : 0 ≤ crs X Y a b c) : 0 < crs X Y a b c := by
  rcases Int.lt_or_eq_of_le h with w | w
  · exact w
  · exfalso
    obtain ⟨A1, B1, L1⟩ := ca
    obtain ⟨A2, B2, L2⟩ := cb
    obtain ⟨A3, B3, L3⟩ := cc
    have z1 : crs X Y a b c = 0 := w.symm
    have z2 : crs X Y b c a = 0 := (crs_rot X Y a b c).symm.trans z1
    have z3 : crs X Y c a b = 0 := (crs_rot X Y b c a).symm.trans z2
    exact i_tri z1 (g_ray (L1 b hb (Ne.symm hab)) (L1 c hc (Ne.symm hac)) z1) (g_ray (L2 c hc (Ne.symm hbc)) (L2 a ha hab) z2) (g_ray (L3 a ha hac) (L3 b hb hbc) z3)
theorem hch_lt (H : hch X Y n m h) (ha : a < m) : h a < n ∧ isC X Y n (h a) := by
  obtain ⟨j, rfl, Hp, -, -⟩ := H
  exact Hp.1 a (by omega)
theorem hch_ne (H : hch X Y n m h) (ha : a < m) (hb : b < m) (hne : a ≠ b) : h a ≠ h b := by
  obtain ⟨j, rfl, Hp, -, -⟩ := H
  rcases Nat.lt_or_gt_of_ne hne with w | w
  · exact hpn_i Hp a b w hb
  · exact Ne.symm (hpn_i Hp b a w ha)
theorem hch_e (H : hch X Y n m h) (ha : a < m) (hk : k < n) : 0 ≤ crs X Y (h a) (h (vfo m a)) k := by
  obtain ⟨j, rfl, Hp, He, -⟩ := H
  by_cases e : k = h a
  · rw [e, crs_rot, crs_same]
    exact Int.le_refl 0
  · unfold vfo
    by_cases w : a + 1 < j + 1
    · rw [if_pos w]
      exact ((Hp.2.2 a (by omega)).2.2 k hk e).1
    · have ea : a = j := by omega
      rw [if_neg w, ea]
      exact (He k hk (by rw [← ea]; exact e)).1
theorem vfo_3 (h3 : 3 ≤ m) (ha : a < m) : a ≠ vfo m a ∧ vfo m a ≠ vfo m (vfo m a) ∧ a ≠ vfo m (vfo m a) := by
  unfold vfo
  by_cases w : a + 1 < m
  · rw [if_pos w]
    by_cases v : a + 1 + 1 < m
    · rw [if_pos v]
      omega
    · rw [if_neg v]
      omega
  · rw [if_neg w, if_pos (by omega)]
    omega
theorem hch_s (H : hch X Y n m h) (h3 : 3 ≤ m) (ha : a < m) : 0 < crs X Y (h a) (h (vfo m a)) (h (vfo m (vfo m a))) := by
  have h1 := vfo_l (n := m) ha
  have h2 := vfo_l (n := m) h1
  obtain ⟨n1, n2, n3⟩ := vfo_3 h3 ha
  have a1 := hch_lt H ha
  have a2 := hch_lt H h1
  have a3 := hch_lt H h2
  exact tri_pos a1.1 a2.1 a3.1 (hch_ne H ha h1 n1) (hch_ne H h1 h2 n2) (hch_ne H ha h2 n3) a1.2 a2.2 a3.2 (hch_e H ha a3.1)
end ST1
-- WAYS ROUND A CENTRE
def wcr (P Q : pt) (i j : Nat) : Int := P i * Q j - Q i * P j
def wdt (P Q : pt) (i j : Nat) : Int := P i * P j + Q i * Q j
def itv (t a : Nat) : Nat → Nat
  | 0 => a
  | k + 1 => vfo t (itv t a k)
theorem itv_l {t a : Nat} (ha : a < t) : ∀ k, itv t a k < t := by
  intro k
  induction k with
  | zero => exact ha
  | succ k ih => exact vfo_l ih
theorem itv_m {t a : Nat} (ha : a < t) : ∀ k, itv t a k = (a + k) % t := by
  intro k
  induction k with
  | zero => exact (Nat.mod_eq_of_lt ha).symm
  | succ k ih =>
    show vfo t (itv t a k) = _
    rw [← vfo_m (itv_l ha k), ih, Nat.mod_add_mod]
    congr 1
theorem itv_a {t a : Nat} (j : Nat) : ∀ k, itv t (itv t a j) k = itv t a (j + k) := by
  intro k
  induction k with
  | zero => rfl
  | succ k ih =>
    show vfo t (itv t (itv t a j) k) = vfo t (itv t a (j + k))
    rw [ih]
theorem itv_to {t a b : Nat} (ha : a < t) (hb : b < t) : ∃ k, k < t ∧ itv t a k = b := by
  refine ⟨(b + t - a) % t, Nat.mod_lt _ (by omega), ?_⟩
  rw [itv_m ha, Nat.add_mod_mod, show a + (b + t - a) = b + t by omega, Nat.add_mod_right, Nat.mod_eq_of_lt hb]
section ST2
variable {P Q : pt} {t A B i j : Nat}
theorem g_pr (p1 p2 q1 q2 b1 b2 : Int) : (p1 * p1 + p2 * p2) * (q1 * b2 - q2 * b1) = (p1 * q1 + p2 * q2) * (p1 * b2 - p2 * b1) - (p1 * q2 - p2 * q1) * (p1 * b1 + p2 * b2) := by grind
theorem g_pl (p1 p2 q1 q2 a1 a2 : Int) : (p1 * p1 + p2 * p2) * (a1 * q2 - a2 * q1) = (p1 * q1 + p2 * q2) * (a1 * p2 - a2 * p1) + (p1 * q2 - p2 * q1) * (p1 * a1 + p2 * a2) := by grind
theorem g_pl4 (a1 a2 b1 b2 p1 p2 q1 q2 : Int) : (a1 * b2 - a2 * b1) * (p1 * q2 - p2 * q1) = (p1 * b2 - p2 * b1) * (a1 * q2 - a2 * q1) - (a1 * p2 - a2 * p1) * (q1 * b2 - q2 * b1) := by grind
theorem i_le_of {s x y : Int} (hs : 0 < s) (h : s * x ≤ s * y) : x ≤ y := Int.le_of_mul_le_mul_left h hs
/-- one step on one ray -/
theorem stp_ray {S D a b a' b' N d : Int} (hN : 0 < N) (hd : 0 < d) (ea : N * a' = d * a) (eb : N * b' = d * b) (h : S * (a + b) ≤ b * D) (h1 : 0 ≤ a) (h2 : 0 ≤ b) (h3 : 0 < a + b) : 0 ≤ a' ∧ 0 ≤ b' ∧ 0 < a' + b' ∧ S * (a' + b') ≤ b' * D := by
  have na : 0 ≤ a' := i_nn hN (by rw [ea]; exact Int.mul_nonneg (Int.le_of_lt hd) h1)
  have nb : 0 ≤ b' := i_nn hN (by rw [eb]; exact Int.mul_nonneg (Int.le_of_lt hd) h2)
  have np : 0 < a' + b' := i_p hN (by rw [Int.mul_add, ea, eb, ← Int.mul_add]; exact Int.mul_pos hd h3)
  refine ⟨na, nb, np, i_le_of hN ?_⟩
  have e1 : N * (S * (a' + b')) = d * (S * (a + b)) := by
    have k1 : N * (S * (a' + b')) = S * (N * a' + N * b') := by grind
    have k2 : d * (S * (a + b)) = S * (d * a + d * b) := by grind
    rw [k1, k2, ea, eb]
  have e2 : N * (b' * D) = d * (b * D) := by
    rw [← Int.mul_assoc, eb, Int.mul_assoc]
  rw [e1, e2]
  exact Int.mul_le_mul_of_nonneg_left h (Int.le_of_lt hd)
/-- one step forward -/
theorem stp_fwd {S D a b a' b' c : Int} (hc : 0 < c) (hD : 0 < D) (ec : D * c = a * b' - b * a') (h : S * (a + b) ≤ b * D) (h1 : 0 ≤ a) (h2 : 0 ≤ b) (h3 : 0 < a + b) (hs : a + b ≤ D) (h4 : 0 ≤ a') (hs' : a' + b' ≤ D) : 0 ≤ b' ∧ 0 < a' + b' ∧ (S + c) * (a' + b') ≤ b' * D := by
  have m := Int.mul_pos hD hc
  have m2 := Int.mul_nonneg h2 h4
  have m3 : 0 < a * b' := by omega
  have pa : 0 < a := by
    rcases Int.lt_or_eq_of_le h1 with w | w
    · exact w
    · rw [← w, Int.zero_mul] at m3
      omega
  have pb : 0 < b' := i_p pa m3
  refine ⟨by omega, by omega, i_le_of h3 ?_⟩
  have k1 : (a + b) * ((S + c) * (a' + b')) = (S * (a + b)) * (a' + b') + c * ((a + b) * (a' + b')) := by grind
  have k2 : (S * (a + b)) * (a' + b') ≤ (b * D) * (a' + b') := Int.mul_le_mul_of_nonneg_right h (by omega)
  have k3 : (a + b) * (a' + b') ≤ D * D := Int.mul_le_mul hs hs' (by omega) (by omega)
  have k4 : c * ((a + b) * (a' + b')) ≤ c * (D * D) := Int.mul_le_mul_of_nonneg_left k3 (Int.le_of_lt hc)
  have k5 : c * (D * D) = D * (a * b' - b * a') := by
    rw [← ec]
    grind
  have k6 : (b * D) * (a' + b') + D * (a * b' - b * a') = (a + b) * (b' * D) := by grind
  omega
def wSm (P Q : pt) (t a : Nat) : Nat → Int
  | 0 => 0
  | k + 1 => wSm P Q t a k + wcr P Q (itv t a k) (itv t a (k + 1))
/-- what is known of the walk from A on, as long as B isn't met -/
def wIn (P Q : pt) (t A B k : Nat) : Prop := 0 ≤ wcr P Q (itv t A k) B ∧ 0 ≤ wcr P Q A (itv t A k) ∧ 0 < wcr P Q (itv t A k) B + wcr P Q A (itv t A k) ∧ wSm P Q t A k * (wcr P Q (itv t A k) B + wcr P Q A (itv t A k)) ≤ wcr P Q A (itv t A k) * wcr P Q A B
theorem wIn.up {k : Nat} (hA : A < t) (hB : B < t) (hD : 0 < wcr P Q A B) (hL : ∀ z, z < t → wcr P Q z B + wcr P Q A z ≤ wcr P Q A B) (hS : ∀ i, i < t → 0 < wcr P Q i (vfo t i) ∨ (wcr P Q i (vfo t i) = 0 ∧ 0 < wdt P Q i (vfo t i))) (hN : ∀ i z, i < t → z < t → 0 < wcr P Q i (vfo t i) → ¬ (0 < wcr P Q i z ∧ 0 < wcr P Q z (vfo t i))) (hR : ∀ i, i < t → i ≠ B → wcr P Q i B = 0 → 0 < wdt P Q i B → wcr P Q i (vfo t i) = 0) (h : wIn P Q t A B k) (hne : itv t A k ≠ B) : wIn P Q t A B (k + 1) := by
  have hq := itv_l hA k
  obtain ⟨h1, h2, h3, h4⟩ := h
  have ev : itv t A (k + 1) = vfo t (itv t A k) := rfl
  have es : wSm P Q t A (k + 1) = wSm P Q t A k + wcr P Q (itv t A k) (vfo t (itv t A k)) := rfl
  unfold wIn
  rw [es, ev]
  generalize itv t A k = q at *
  have hq' := vfo_l (n := t) hq
  have s0 := hS q hq
  have n0 := hN q B hq hB
  have r0 := hR q hq hne
  have l0 := hL q hq
  have l1 := hL _ hq'
  generalize vfo t q = q' at *
  generalize wSm P Q t A k = S at *
  rcases s0 with w | ⟨w, w2⟩
  · have ec : wcr P Q A B * wcr P Q q q' = wcr P Q q B * wcr P Q A q' - wcr P Q A q * wcr P Q q' B := g_pl4 _ _ _ _ _ _ _ _
    have pa : 0 < wcr P Q q B := by
      rcases Int.lt_or_eq_of_le h1 with v | v
      · exact v
      · exfalso
        have v := v.symm
        -- q lies on B's ray
        have kd : wcr P Q A B * wdt P Q q B = wcr P Q A q * (P B * P B + Q B * Q B) + wcr P Q q B * (P A * P B + Q A * Q B) := by
          unfold wcr wdt
          grind
        rw [v, Int.zero_mul, Int.add_zero] at kd
        have pb : 0 < wcr P Q A q := by omega
        have nB : 0 < P B * P B + Q B * Q B := by
          rcases Int.lt_or_le 0 (P B * P B + Q B * Q B) with y | y
          · exact y
          · exfalso
            have s1 := i_sq (P B)
            have s2 := i_sq (Q B)
            obtain ⟨e1, e2⟩ := i_sq0 (a := P B) (b := Q B) (by omega)
            unfold wcr at hD
            rw [e1, e2, Int.mul_zero, Int.mul_zero] at hD
            omega
        have hd : 0 < wdt P Q q B := i_p hD (by rw [kd]; exact Int.mul_pos pb nB)
        have := r0 v hd
        omega
    have na : 0 ≤ wcr P Q q' B := by
      rcases Int.lt_or_le (wcr P Q q' B) 0 with v | v
      · exfalso
        refine n0 w ⟨pa, ?_⟩
        have e : wcr P Q B q' = -wcr P Q q' B := by
          unfold wcr
          grind
        omega
      · exact v
    have f := stp_fwd w hD ec h4 h1 h2 h3 l0 na l1
    exact ⟨na, f.1, f.2.1, f.2.2⟩
  · have ea : (P q * P q + Q q * Q q) * wcr P Q q' B = wdt P Q q q' * wcr P Q q B := by
      have z := g_pr (P q) (Q q) (P q') (Q q') (P B) (Q B)
      have w' : P q * Q q' - Q q * P q' = 0 := w
      rw [w', Int.zero_mul, Int.sub_zero] at z
      exact z
    have eb : (P q * P q + Q q * Q q) * wcr P Q A q' = wdt P Q q q' * wcr P Q A q := by
      have z := g_pl (P q) (Q q) (P q') (Q q') (P A) (Q A)
      have w' : P q * Q q' - Q q * P q' = 0 := w
      rw [w', Int.zero_mul, Int.add_zero] at z
      exact z
    have nq : 0 < P q * P q + Q q * Q q := by
      rcases Int.lt_or_le 0 (P q * P q + Q q * Q q) with y | y
      · exact y
      · exfalso
        have s1 := i_sq (P q)
        have s2 := i_sq (Q q)
        obtain ⟨e1, e2⟩ := i_sq0 (a := P q) (b := Q q) (by omega)
        unfold wdt at w2
        rw [e1, e2, Int.zero_mul, Int.zero_mul] at w2
        omega
    rw [w, Int.add_zero]
    exact stp_ray nq w2 ea eb h4 h1 h2 h3
/-- from corner to corner -/
theorem wIn.all (hA : A < t) (hB : B < t) (hD : 0 < wcr P Q A B) (hL : ∀ z, z < t → wcr P Q z B + wcr P Q A z ≤ wcr P Q A B) (hS : ∀ i, i < t → 0 < wcr P Q i (vfo t i) ∨ (wcr P Q i (vfo t i) = 0 ∧ 0 < wdt P Q i (vfo t i))) (hN : ∀ i z, i < t → z < t → 0 < wcr P Q i (vfo t i) → ¬ (0 < wcr P Q i z ∧ 0 < wcr P Q z (vfo t i))) (hR : ∀ i, i < t → i ≠ B → wcr P Q i B = 0 → 0 < wdt P Q i B → wcr P Q i (vfo t i) = 0) : ∃ k, 0 < k ∧ itv t A k = B ∧ wSm P Q t A k ≤ wcr P Q A B := by
  have z0 : wIn P Q t A B 0 := by
    have e : wcr P Q A A = 0 := by
      unfold wcr
      grind
    unfold wIn
    show 0 ≤ wcr P Q A B ∧ 0 ≤ wcr P Q A A ∧ 0 < wcr P Q A B + wcr P Q A A ∧ 0 * (wcr P Q A B + wcr P Q A A) ≤ wcr P Q A A * wcr P Q A B
    rw [e, Int.zero_mul, Int.zero_mul]
    omega
  have key : ∀ k, (∀ i, i < k → itv t A i ≠ B) → wIn P Q t A B k := by
    intro k
    induction k with
    | zero => intro _; exact z0
    | succ k ih => intro hk; exact (ih (fun i hi => hk i (by omega))).up hA hB hD hL hS hN hR (hk k (by omega))
  -- the first k at which B is met
  have first : ∀ m, (∃ k, k < m ∧ itv t A k = B) → ∃ k, itv t A k = B ∧ ∀ i, i < k → itv t A i ≠ B := by
    intro m
    induction m with
    | zero => intro h; obtain ⟨k, hk, -⟩ := h; exact absurd hk (Nat.not_lt_zero k)
    | succ m ih =>
      intro h
      by_cases e : ∃ k, k < m ∧ itv t A k = B
      · exact ih e
      · obtain ⟨k, hk, hk2⟩ := h
        have ek : k = m := by
          rcases Nat.lt_or_ge k m with w | w
          · exact absurd ⟨k, w, hk2⟩ e
          · omega
        subst ek
        exact ⟨k, hk2, fun i hi z => e ⟨i, hi, z⟩⟩
  obtain ⟨k, k1, k2⟩ := first t (itv_to hA hB)
  have w := key k k2
  refine ⟨k, ?_, k1, ?_⟩
  · rcases Nat.eq_zero_or_pos k with v | v
    · exfalso
      subst v
      have e : A = B := k1
      rw [e] at hD
      unfold wcr at hD
      have : P B * Q B - Q B * P B = 0 := by grind
      omega
    · exact v
  · obtain ⟨-, -, -, w4⟩ := w
    rw [k1] at w4
    have e : wcr P Q B B = 0 := by
      unfold wcr
      grind
    rw [e, Int.zero_add] at w4
    exact Int.le_of_mul_le_mul_right w4 hD
end ST2
section ST3
variable {P Q : pt} {t : Nat}
theorem g_w1 (w1 w2 p1 p2 q1 q2 : Int) : (w1 * w1 + w2 * w2) * (p1 * q2 - p2 * q1) = (w1 * p1 + w2 * p2) * (w1 * q2 - w2 * q1) - (w1 * p2 - w2 * p1) * (w1 * q1 + w2 * q2) := by grind
theorem g_w2 (w1 w2 p1 p2 q1 q2 : Int) : (w1 * w1 + w2 * w2) * (p1 * q1 + p2 * q2) = (w1 * p1 + w2 * p2) * (w1 * q1 + w2 * q2) + (w1 * p2 - w2 * p1) * (w1 * q2 - w2 * q1) := by grind
theorem i_sqp {a b : Int} (h : ¬ (a = 0 ∧ b = 0)) : 0 < a * a + b * b := by
  rcases Int.lt_or_le 0 (a * a + b * b) with y | y
  · exact y
  · exfalso
    have s1 := i_sq a
    have s2 := i_sq b
    exact h (i_sq0 (by omega))
theorem i_neg {a b : Int} (ha : a < 0) (h : 0 < a * b) : b < 0 := by
  have z : 0 < -a * -b := by rw [Int.neg_mul_neg]; exact h
  have := i_p (show 0 < -a by omega) z
  omega
/-- ways that go on to the left round a cycle don't lie in one closed half plane -/
theorem cyc_no {W1 W2 : Int} (hW : ¬ (W1 = 0 ∧ W2 = 0)) (hS : ∀ i, i < t → 0 < wcr P Q i (vfo t i) ∨ (wcr P Q i (vfo t i) = 0 ∧ 0 < wdt P Q i (vfo t i))) {i0 : Nat} (h0 : i0 < t) (hp : 0 < wcr P Q i0 (vfo t i0)) (hL : ∀ i, i < t → 0 ≤ W1 * Q i - W2 * P i) : False := by
  have nW := i_sqp hW
  have nq : ∀ i, i < t → ¬ (P i = 0 ∧ Q i = 0) := fun i hi z => by
    rcases hS i hi with w | ⟨-, w⟩
    · unfold wcr at w
      rw [z.1, z.2, Int.zero_mul, Int.zero_mul] at w
      omega
    · unfold wdt at w
      rw [z.1, z.2, Int.zero_mul, Int.zero_mul] at w
      omega
  have fw : ∀ i, i < t → W1 * Q i - W2 * P i = 0 → W1 * P i + W2 * Q i < 0 → wcr P Q i (vfo t i) = 0 ∧ W1 * Q (vfo t i) - W2 * P (vfo t i) = 0 ∧ W1 * P (vfo t i) + W2 * Q (vfo t i) < 0 := fun i hi l e => by
    have hj := vfo_l (n := t) hi
    have lj := hL _ hj
    have s := hS i hi
    have k1 := g_w1 W1 W2 (P i) (Q i) (P (vfo t i)) (Q (vfo t i))
    have k2 := g_w2 W1 W2 (P i) (Q i) (P (vfo t i)) (Q (vfo t i))
    unfold wcr wdt at s
    unfold wcr
    generalize vfo t i = j at *
    rw [l, Int.zero_mul, Int.sub_zero] at k1
    rw [l, Int.zero_mul, Int.add_zero] at k2
    generalize P i * Q j - Q i * P j = c at *
    generalize P i * P j + Q i * Q j = d at *
    generalize W1 * Q j - W2 * P j = L at *
    generalize W1 * P j + W2 * Q j = M at *
    generalize W1 * P i + W2 * Q i = K at *
    generalize W1 * W1 + W2 * W2 = R at *
    have m := Int.mul_nonneg (show 0 ≤ -K by omega) lj
    rw [Int.neg_mul] at m
    rcases s with s | ⟨s1, s2⟩
    · have := Int.mul_pos nW s
      omega
    · subst s1
      rw [Int.mul_zero] at k1
      refine ⟨rfl, (Int.mul_eq_zero.mp k1.symm).elim (fun z => by omega) id, i_neg e (by rw [← k2]; exact Int.mul_pos nW s2)⟩
  have bw : ∀ i, i < t → W1 * Q (vfo t i) - W2 * P (vfo t i) = 0 → 0 < W1 * P (vfo t i) + W2 * Q (vfo t i) → wcr P Q i (vfo t i) = 0 ∧ W1 * Q i - W2 * P i = 0 ∧ 0 < W1 * P i + W2 * Q i := fun i hi l e => by
    have li := hL i hi
    have s := hS i hi
    have k1 := g_w1 W1 W2 (P i) (Q i) (P (vfo t i)) (Q (vfo t i))
    have k2 := g_w2 W1 W2 (P i) (Q i) (P (vfo t i)) (Q (vfo t i))
    unfold wcr wdt at s
    unfold wcr
    generalize vfo t i = j at *
    rw [l, Int.mul_zero, Int.zero_sub] at k1
    rw [l, Int.mul_zero, Int.add_zero] at k2
    generalize P i * Q j - Q i * P j = c at *
    generalize P i * P j + Q i * Q j = d at *
    generalize W1 * Q i - W2 * P i = L at *
    generalize W1 * P j + W2 * Q j = M at *
    generalize W1 * P i + W2 * Q i = K at *
    generalize W1 * W1 + W2 * W2 = R at *
    have m := Int.mul_nonneg li (Int.le_of_lt e)
    rcases s with s | ⟨s1, s2⟩
    · have := Int.mul_pos nW s
      omega
    · subst s1
      rw [Int.mul_zero] at k1
      have z : L * M = 0 := by omega
      refine ⟨rfl, (Int.mul_eq_zero.mp z).elim id (fun y => by omega), i_p e (by rw [Int.mul_comm, ← k2]; exact Int.mul_pos nW s2)⟩
  by_cases bd : ∃ i, i < t ∧ W1 * Q i - W2 * P i = 0
  · obtain ⟨i, hi, l⟩ := bd
    rcases Int.lt_trichotomy (W1 * P i + W2 * Q i) 0 with e | e | e
    · have all : ∀ k, W1 * Q (itv t i k) - W2 * P (itv t i k) = 0 ∧ W1 * P (itv t i k) + W2 * Q (itv t i k) < 0 := by
        intro k
        induction k with
        | zero => exact ⟨l, e⟩
        | succ k ih => exact (fw _ (itv_l hi k) ih.1 ih.2).2
      obtain ⟨k, -, hk⟩ := itv_to hi h0
      have z := fw _ (itv_l hi k) (all k).1 (all k).2
      rw [hk] at z
      omega
    · have k2 := g_w2 W1 W2 (P i) (Q i) (P i) (Q i)
      rw [l, e, Int.zero_mul] at k2
      have := Int.mul_pos nW (i_sqp (nq i hi))
      omega
    · have all : ∀ k j, j < t → itv t j k = i → W1 * Q j - W2 * P j = 0 ∧ 0 < W1 * P j + W2 * Q j := by
        intro k
        induction k with
        | zero => intro j _ hj; rw [show j = i from hj]; exact ⟨l, e⟩
        | succ k ih =>
          intro j hj hk
          have hk2 : itv t (vfo t j) k = i := by
            have z := itv_a (t := t) (a := j) 1 k
            rw [Nat.add_comm 1 k] at z
            exact z.trans hk
          have y := ih _ (vfo_l hj) hk2
          exact (bw j hj y.1 y.2).2
      obtain ⟨k, -, hk⟩ := itv_to (vfo_l (n := t) h0) hi
      have y := all k _ (vfo_l h0) hk
      have z := bw i0 h0 y.1 y.2
      omega
  · have Lp : ∀ i, i < t → 0 < -W2 * P i + W1 * Q i := fun i hi => by
      have a := hL i hi
      have b : ¬ W1 * Q i - W2 * P i = 0 := fun z => bd ⟨i, hi, z⟩
      rw [Int.neg_mul]
      omega
    have ch : ∀ k, 0 < wcr P Q i0 (itv t i0 (k + 1)) := by
      intro k
      induction k with
      | zero => exact hp
      | succ k ih =>
        have hq := itv_l h0 (k + 1)
        have hq' := vfo_l (n := t) hq
        have s : 0 ≤ wcr P Q (itv t i0 (k + 1)) (vfo t (itv t i0 (k + 1))) := by
          rcases hS _ hq with w | w
          · exact Int.le_of_lt w
          · rw [w.1]; exact Int.le_refl 0
        show 0 < wcr P Q i0 (vfo t (itv t i0 (k + 1)))
        have g := g_tr (Lp i0 h0) (Lp _ hq) (Lp _ hq') (Int.le_of_lt ih) s
        rcases Int.lt_or_eq_of_le g.1 with w | w
        · exact w
        · have z := (g.2 w.symm).1
          unfold wcr at ih
          omega
    have z := ch (t - 1)
    rw [show t - 1 + 1 = t by omega, itv_m h0, Nat.add_mod_right, Nat.mod_eq_of_lt h0] at z
    unfold wcr at z
    have y : P i0 * Q i0 - Q i0 * P i0 = 0 := by grind
    omega
end ST3
-- SUMS
def isum (f : Nat → Int) : Nat → Int
  | 0 => 0
  | n + 1 => isum f n + f n
theorem isum_3 {f u v : Nat → Int} : ∀ n, isum (fun k => f k + u k - v k) n = isum f n + isum u n - isum v n := by
  intro n
  induction n with
  | zero => rfl
  | succ n ih =>
    show isum (fun k => f k + u k - v k) n + (f n + u n - v n) = isum f n + f n + (isum u n + u n) - (isum v n + v n)
    rw [ih]
    omega
theorem isum_c {f g : Nat → Int} : ∀ n, (∀ k, k < n → f k = g k) → isum f n = isum g n := by
  intro n
  induction n with
  | zero => intro _; rfl
  | succ n ih =>
    intro h
    show isum f n + f n = isum g n + g n
    rw [ih (fun k hk => h k (by omega)), h n (by omega)]
theorem isum_nn {f : Nat → Int} : ∀ n, (∀ k, k < n → 0 ≤ f k) → 0 ≤ isum f n := by
  intro n
  induction n with
  | zero => intro _; exact Int.le_refl 0
  | succ n ih =>
    intro h
    have a := ih (fun k hk => h k (by omega))
    have b := h n (by omega)
    show 0 ≤ isum f n + f n
    omega
theorem isum_p {f : Nat → Int} {i : Nat} : ∀ n, (∀ k, k < n → 0 ≤ f k) → i < n → 0 < f i → 0 < isum f n := by
  intro n
  induction n with
  | zero => intro _ h _; exact absurd h (Nat.not_lt_zero i)
  | succ n ih =>
    intro h hi hp
    have b := h n (by omega)
    show 0 < isum f n + f n
    rcases Nat.lt_or_ge i n with w | w
    · have a := ih (fun k hk => h k (by omega)) w hp
      omega
    · have e : i = n := by omega
      subst e
      have a := isum_nn i (fun k hk => h k (by omega))
      omega
theorem isum_fo {g : Nat → Int} (m : Nat) : isum (fun a => g (vfo m a)) m = isum g m := by
  cases m with
  | zero => rfl
  | succ j =>
    have e : ∀ k, k ≤ j → isum (fun a => g (vfo (j + 1) a)) k + g 0 = isum g (k + 1) := by
      intro k
      induction k with
      | zero => intro _; rfl
      | succ k ih =>
        intro hk
        have z := ih (by omega)
        have v : vfo (j + 1) k = k + 1 := by unfold vfo; rw [if_pos (by omega)]
        show isum (fun a => g (vfo (j + 1) a)) k + g (vfo (j + 1) k) + g 0 = isum g (k + 1) + g (k + 1)
        rw [v]
        omega
    have z := e j (Nat.le_refl j)
    have v : vfo (j + 1) j = 0 := by unfold vfo; rw [if_neg (by omega)]
    show isum (fun a => g (vfo (j + 1) a)) j + g (vfo (j + 1) j) = isum g (j + 1)
    rw [v]
    exact z
-- THE WALK AND ITS SUM
section ST4
variable {P Q : pt} {t a b : Nat}
theorem wSm_s : ∀ k, wSm P Q t a (k + 1) = wcr P Q a (vfo t a) + wSm P Q t (vfo t a) k := by
  have e : ∀ i, itv t (vfo t a) i = itv t a (i + 1) := fun i => by
    have z := itv_a (t := t) (a := a) 1 i
    rw [Nat.add_comm 1 i] at z
    exact z
  intro k
  induction k with
  | zero =>
    show 0 + wcr P Q a (vfo t a) = wcr P Q a (vfo t a) + 0
    omega
  | succ k ih =>
    show wSm P Q t a (k + 1) + wcr P Q (itv t a (k + 1)) (itv t a (k + 1 + 1)) = wcr P Q a (vfo t a) + (wSm P Q t (vfo t a) k + wcr P Q (itv t (vfo t a) k) (itv t (vfo t a) (k + 1)))
    rw [ih, e k, e (k + 1)]
    omega
theorem wSm_cat (j : Nat) : ∀ k, wSm P Q t a (j + k) = wSm P Q t a j + wSm P Q t (itv t a j) k := by
  intro k
  induction k with
  | zero =>
    show wSm P Q t a j = wSm P Q t a j + 0
    omega
  | succ k ih =>
    show wSm P Q t a (j + k) + wcr P Q (itv t a (j + k)) (itv t a (j + k + 1)) = wSm P Q t a j + (wSm P Q t (itv t a j) k + wcr P Q (itv t (itv t a j) k) (itv t (itv t a j) (k + 1)))
    rw [ih, itv_a, itv_a]
    show _ = wSm P Q t a j + (wSm P Q t (itv t a j) k + wcr P Q (itv t a (j + k)) (itv t a (j + k + 1)))
    omega
theorem wSm_rot (ha : a < t) : wSm P Q t (vfo t a) t = wSm P Q t a t := by
  have z := wSm_s (P := P) (Q := Q) (t := t) (a := a) t
  have e : itv t a t = a := by rw [itv_m ha, Nat.add_mod_right, Nat.mod_eq_of_lt ha]
  have y : wSm P Q t a (t + 1) = wSm P Q t a t + wcr P Q (itv t a t) (vfo t (itv t a t)) := rfl
  rw [e] at y
  omega
theorem wSm_any (ha : a < t) : ∀ k, wSm P Q t (itv t a k) t = wSm P Q t a t := by
  intro k
  induction k with
  | zero => rfl
  | succ k ih => exact (wSm_rot (itv_l ha k)).trans ih
theorem wSm_0 (ht : 0 < t) : ∀ k, k ≤ t → wSm P Q t 0 k = isum (fun p => wcr P Q p (vfo t p)) k := by
  intro k
  induction k with
  | zero => intro _; rfl
  | succ k ih =>
    intro hk
    have e : itv t 0 k = k := by rw [itv_m ht, Nat.zero_add, Nat.mod_eq_of_lt hk]
    show wSm P Q t 0 k + wcr P Q (itv t 0 k) (vfo t (itv t 0 k)) = isum (fun p => wcr P Q p (vfo t p)) k + wcr P Q k (vfo t k)
    rw [ih (by omega), e]
theorem wSm_mono (hN : ∀ i, i < t → 0 ≤ wcr P Q i (vfo t i)) (ha : a < t) (k : Nat) : ∀ j, wSm P Q t a k ≤ wSm P Q t a (k + j) := by
  intro j
  induction j with
  | zero => exact Int.le_refl _
  | succ j ih =>
    have z := hN _ (itv_l ha (k + j))
    show wSm P Q t a k ≤ wSm P Q t a (k + j) + wcr P Q (itv t a (k + j)) (vfo t (itv t a (k + j)))
    omega
theorem mod_ne {p k t : Nat} (hp : p < t) (hk : 0 < k) (h : (p + k) % t = p) : t ≤ k := by
  rcases Nat.lt_or_ge k t with w | w
  · exfalso
    rcases Nat.lt_or_ge (p + k) t with v | v
    · rw [Nat.mod_eq_of_lt v] at h
      omega
    · rw [Nat.mod_eq_sub_mod v, Nat.mod_eq_of_lt (by omega)] at h
      omega
  · exact w
theorem star_le {D : Nat → Int} {π : Nat → Nat} {m : Nat} (hm : 0 < m) (hπ : ∀ a, a < m → π a < t) (hw : ∀ a, a < m → ∃ k, 0 < k ∧ itv t (π a) k = π (vfo m a) ∧ wSm P Q t (π a) k ≤ D a) (hN : ∀ i, i < t → 0 ≤ wcr P Q i (vfo t i)) : isum (fun p => wcr P Q p (vfo t p)) t ≤ isum D m := by
  have h0 := hπ 0 hm
  have stp : ∀ a K, a < m → itv t (π 0) K = π a → wSm P Q t (π 0) K ≤ isum D a → ∃ K', 0 < K' ∧ itv t (π 0) K' = π (vfo m a) ∧ wSm P Q t (π 0) K' ≤ isum D (a + 1) := by
    intro a K ha e l
    obtain ⟨k, k0, k1, k2⟩ := hw a ha
    refine ⟨K + k, by omega, ?_, ?_⟩
    · rw [← itv_a, e]
      exact k1
    · rw [wSm_cat, e]
      show _ ≤ isum D a + D a
      omega
  have key : ∀ a, a < m → ∃ K, itv t (π 0) K = π a ∧ wSm P Q t (π 0) K ≤ isum D a := by
    intro a
    induction a with
    | zero => intro _; exact ⟨0, rfl, Int.le_refl _⟩
    | succ a ih =>
      intro ha
      obtain ⟨K, e, l⟩ := ih (by omega)
      obtain ⟨K', -, e', l'⟩ := stp a K (by omega) e l
      rw [show vfo m a = a + 1 from by unfold vfo; rw [if_pos ha]] at e'
      exact ⟨K', e', l'⟩
  obtain ⟨j, rfl⟩ : ∃ j, m = j + 1 := ⟨m - 1, by omega⟩
  obtain ⟨K, e, l⟩ := key j (by omega)
  obtain ⟨K', k0, e', l'⟩ := stp j K (by omega) e l
  rw [show vfo (j + 1) j = 0 from by unfold vfo; rw [if_neg (by omega)]] at e'
  have hk := mod_ne h0 k0 (by rw [← itv_m h0]; exact e')
  have mo := wSm_mono hN h0 t (K' - t)
  rw [show t + (K' - t) = K' by omega] at mo
  obtain ⟨k, -, hk0⟩ := itv_to (show 0 < t by omega) h0
  have r := wSm_any (P := P) (Q := Q) (show 0 < t by omega) k
  rw [hk0] at r
  rw [← wSm_0 (show 0 < t by omega) t (Nat.le_refl t), ← r]
  exact Int.le_trans mo l'
end ST4
/-- a star's area is above 0 and at most its hull's -/
theorem star_hull {X Y P Q : pt} {cx cy : Int} {n m t : Nat} {h ρ : Nat → Nat} (H : hch X Y n m h) (h1 : 1 < n) (hD : dfX X Y n) (hP : ∀ p, P p = X (ρ p) - cx) (hQ : ∀ p, Q p = Y (ρ p) - cy) (hρ : ∀ p, p < t → ρ p < n) (hcov : ∀ k, k < n → ¬ (X k = cx ∧ Y k = cy) → ∃ p, p < t ∧ ρ p = k) (hS : ∀ i, i < t → 0 < wcr P Q i (vfo t i) ∨ (wcr P Q i (vfo t i) = 0 ∧ 0 < wdt P Q i (vfo t i))) {i0 : Nat} (h0 : i0 < t) (hp : 0 < wcr P Q i0 (vfo t i0)) (hN : ∀ i z, i < t → z < t → 0 < wcr P Q i (vfo t i) → ¬ (0 < wcr P Q i z ∧ 0 < wcr P Q z (vfo t i))) (hR : ∀ B, B < t → (∀ z, z < t → wcr P Q z B = 0 → 0 < wdt P Q z B → wdt P Q z z ≤ wdt P Q B B) → ∀ i, i < t → i ≠ B → wcr P Q i B = 0 → 0 < wdt P Q i B → wcr P Q i (vfo t i) = 0) : 0 < isum (fun p => wcr P Q p (vfo t p)) t ∧ isum (fun p => wcr P Q p (vfo t p)) t ≤ isum (fun a => X (h a) * Y (h (vfo m a)) - Y (h a) * X (h (vfo m a))) m := by
  have nn : ∀ i, i < t → 0 ≤ wcr P Q i (vfo t i) := fun i hi => by
    rcases hS i hi with w | w
    · exact Int.le_of_lt w
    · rw [w.1]; exact Int.le_refl 0
  refine ⟨isum_p t nn h0 hp, ?_⟩
  have hm : 2 ≤ m := by
    obtain ⟨j, rfl, -, -, z⟩ := H
    rcases Nat.eq_zero_or_pos j with w | w
    · exact absurd (by rw [w]) (z h1)
    · omega
  have hv : ∀ a, a < m → a ≠ vfo m a := fun a ha => by
    unfold vfo
    by_cases w : a + 1 < m
    · rw [if_pos w]; omega
    · rw [if_neg w]; omega
  have hW : ∀ a, a < m → ¬ (X (h (vfo m a)) - X (h a) = 0 ∧ Y (h (vfo m a)) - Y (h a) = 0) := fun a ha z => by
    have l1 := (hch_lt H ha).1
    have l2 := (hch_lt H (vfo_l ha)).1
    exact hD _ _ l1 l2 (hch_ne H ha (vfo_l ha) (hv a ha)) ⟨by omega, by omega⟩
  have left : ∀ a i, a < m → i < t → 0 ≤ (X (h (vfo m a)) - X (h a)) * (Y (ρ i) - Y (h a)) - (Y (h (vfo m a)) - Y (h a)) * (X (ρ i) - X (h a)) := fun a i ha hi => hch_e H ha (hρ i hi)
  have off : ∀ a, a < m → ¬ (X (h a) = cx ∧ Y (h a) = cy) := fun a ha z => cyc_no (hW a ha) hS h0 hp (fun i hi => by
    rw [hP, hQ, ← z.1, ← z.2]
    exact left a i ha hi)
  have ex : ∀ a, a < m → ∃ p, p < t ∧ ρ p = h a := fun a ha => hcov _ (hch_lt H ha).1 (off a ha)
  obtain ⟨π, hπ⟩ : ∃ π : Nat → Nat, ∀ a, a < m → π a < t ∧ ρ (π a) = h a := ⟨fun a => if ha : a < m then (ex a ha).choose else 0, fun a ha => by
    have z : (if ha : a < m then (ex a ha).choose else 0) = (ex a ha).choose := dif_pos ha
    show (if ha : a < m then (ex a ha).choose else 0) < t ∧ ρ (if ha : a < m then (ex a ha).choose else 0) = h a
    rw [z]
    exact (ex a ha).choose_spec⟩
  have pa : ∀ a, a < m → P (π a) = X (h a) - cx ∧ Q (π a) = Y (h a) - cy := fun a ha => by
    rw [hP, hQ, (hπ a ha).2]
    exact ⟨rfl, rfl⟩
  have pos : ∀ a, a < m → 0 < wcr P Q (π a) (π (vfo m a)) := fun a ha => by
    rcases Int.lt_or_le 0 (wcr P Q (π a) (π (vfo m a))) with w | w
    · exact w
    · exfalso
      refine cyc_no (hW a ha) hS h0 hp (fun i hi => ?_)
      have l := left a i ha hi
      unfold wcr at w
      rw [(pa a ha).1, (pa a ha).2, (pa _ (vfo_l ha)).1, (pa _ (vfo_l ha)).2] at w
      rw [hP, hQ]
      have k : (X (h (vfo m a)) - X (h a)) * (Y (ρ i) - cy) - (Y (h (vfo m a)) - Y (h a)) * (X (ρ i) - cx) = ((X (h (vfo m a)) - X (h a)) * (Y (ρ i) - Y (h a)) - (Y (h (vfo m a)) - Y (h a)) * (X (ρ i) - X (h a))) - ((X (h a) - cx) * (Y (h (vfo m a)) - cy) - (Y (h a) - cy) * (X (h (vfo m a)) - cx)) := by grind
      rw [k]
      omega
  have hL : ∀ a, a < m → ∀ z, z < t → wcr P Q z (π (vfo m a)) + wcr P Q (π a) z ≤ wcr P Q (π a) (π (vfo m a)) := fun a ha z hz => by
    have l := left a z ha hz
    unfold wcr
    rw [(pa a ha).1, (pa a ha).2, (pa _ (vfo_l ha)).1, (pa _ (vfo_l ha)).2, hP, hQ]
    have k : (X (h a) - cx) * (Y (h (vfo m a)) - cy) - (Y (h a) - cy) * (X (h (vfo m a)) - cx) - (((X (ρ z) - cx) * (Y (h (vfo m a)) - cy) - (Y (ρ z) - cy) * (X (h (vfo m a)) - cx)) + ((X (h a) - cx) * (Y (ρ z) - cy) - (Y (h a) - cy) * (X (ρ z) - cx))) = (X (h (vfo m a)) - X (h a)) * (Y (ρ z) - Y (h a)) - (Y (h (vfo m a)) - Y (h a)) * (X (ρ z) - X (h a)) := by grind
    omega
  have far : ∀ a, a < m → ∀ z, z < t → wcr P Q z (π (vfo m a)) = 0 → 0 < wdt P Q z (π (vfo m a)) → wdt P Q z z ≤ wdt P Q (π (vfo m a)) (π (vfo m a)) := fun a ha z hz c d => by
    have l := hL a ha z hz
    have p := pos a ha
    rw [c, Int.zero_add] at l
    generalize π (vfo m a) = B at *
    generalize π a = A at *
    have dd : wdt P Q z B * wdt P Q z B = wdt P Q z z * wdt P Q B B := g_dd c
    have g := g_pl (P B) (Q B) (P z) (Q z) (P A) (Q A)
    have c2 : P B * Q z - Q B * P z = 0 := by
      unfold wcr at c
      grind
    rw [c2, Int.zero_mul, Int.add_zero] at g
    have g : wdt P Q B B * wcr P Q A z = wdt P Q z B * wcr P Q A B := by
      unfold wdt wcr
      rw [g, Int.mul_comm (P B) (P z), Int.mul_comm (Q B) (Q z)]
    have nB : 0 ≤ wdt P Q B B := g_e _ _
    have nz : 0 ≤ wdt P Q z z := g_e _ _
    have le : wdt P Q z B ≤ wdt P Q B B := by
      have m1 := Int.mul_le_mul_of_nonneg_left l nB
      rw [g] at m1
      exact Int.le_of_mul_le_mul_right m1 p
    rcases Int.lt_or_le (wdt P Q B B) (wdt P Q z z) with w | w
    · have im := i_mid dd d nB (Int.le_of_lt w)
      have e : wdt P Q z B = wdt P Q B B := by omega
      rw [e] at dd
      have pb : 0 < wdt P Q B B := by omega
      have := Int.mul_lt_mul_of_pos_right w pb
      omega
    · exact w
  have walk : ∀ a, a < m → ∃ k, 0 < k ∧ itv t (π a) k = π (vfo m a) ∧ wSm P Q t (π a) k ≤ wcr P Q (π a) (π (vfo m a)) := fun a ha => wIn.all (hπ a ha).1 (hπ _ (vfo_l ha)).1 (pos a ha) (hL a ha) hS hN (hR _ (hπ _ (vfo_l ha)).1 (far a ha))
  refine Int.le_trans (star_le (by omega) (fun a ha => (hπ a ha).1) walk nn) ?_
  have e : isum (fun a => wcr P Q (π a) (π (vfo m a))) m = isum (fun a => (X (h a) * Y (h (vfo m a)) - Y (h a) * X (h (vfo m a))) + (fun b => cy * X (h b) - cx * Y (h b)) (vfo m a) - (fun b => cy * X (h b) - cx * Y (h b)) a) m := isum_c m (fun a ha => by
    show wcr P Q (π a) (π (vfo m a)) = (X (h a) * Y (h (vfo m a)) - Y (h a) * X (h (vfo m a))) + (cy * X (h (vfo m a)) - cx * Y (h (vfo m a))) - (cy * X (h a) - cx * Y (h a))
    unfold wcr
    rw [(pa a ha).1, (pa a ha).2, (pa _ (vfo_l ha)).1, (pa _ (vfo_l ha)).2]
    grind)
  rw [e, isum_3 (f := fun a => X (h a) * Y (h (vfo m a)) - Y (h a) * X (h (vfo m a))) (u := fun a => (fun b => cy * X (h b) - cx * Y (h b)) (vfo m a)) (v := fun b => cy * X (h b) - cx * Y (h b)), isum_fo (g := fun b => cy * X (h b) - cx * Y (h b)) m]
  omega
