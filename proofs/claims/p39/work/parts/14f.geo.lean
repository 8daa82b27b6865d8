-- GEOMETRY OF PLACES, in whole numbers
theorem i_sq (a : Int) : 0 ≤ a * a := by
  rcases Int.lt_or_le a 0 with w | w
  · exact Int.le_of_lt (Int.mul_pos_of_neg_of_neg w w)
  · exact Int.mul_nonneg w w
theorem i_sq0 {a b : Int} (h : a * a + b * b = 0) : a = 0 ∧ b = 0 := by
  have h1 := i_sq a
  have h2 := i_sq b
  have e1 : a * a = 0 := by omega
  have e2 : b * b = 0 := by omega
  exact ⟨(Int.mul_eq_zero.mp e1).elim id id, (Int.mul_eq_zero.mp e2).elim id id⟩
theorem i_nn {a b : Int} (ha : 0 < a) (h : 0 ≤ a * b) : 0 ≤ b := by
  rcases Int.lt_or_le b 0 with z | z
  · have := Int.mul_neg_of_pos_of_neg ha z
    omega
  · exact z
theorem i_p {a b : Int} (ha : 0 < a) (h : 0 < a * b) : 0 < b := by
  rcases Int.lt_or_le 0 b with z | z
  · exact z
  · exfalso
    rcases Int.lt_or_eq_of_le z with w | w
    · have := Int.mul_neg_of_pos_of_neg ha w
      omega
    · rw [w, Int.mul_zero] at h
      omega
theorem i_z {a b : Int} (ha : 0 < a) (h : a * b = 0) : b = 0 := (Int.mul_eq_zero.mp h).elim (fun e => by omega) id
theorem i_mid {D N E : Int} (k : D * D = N * E) (hD : 0 < D) (hE : 0 ≤ E) (h : E ≤ N) : E ≤ D ∧ D ≤ N := by
  have hN : 0 ≤ N := by omega
  constructor
  · rcases Int.lt_or_le D E with z | z
    · exfalso
      have a := Int.mul_lt_mul_of_pos_left z hD
      have b := Int.mul_le_mul_of_nonneg_right (show D ≤ N by omega) hE
      omega
    · exact z
  · rcases Int.lt_or_le N D with z | z
    · exfalso
      have a := Int.mul_le_mul_of_nonneg_left h hN
      have b := Int.mul_le_mul_of_nonneg_left (Int.le_of_lt z) hN
      have c := Int.mul_lt_mul_of_pos_right z hD
      omega
    · exact z
section GV
variable {A B d1 d2 e1 e2 f1 f2 u1 u2 : Int}
theorem g_id (A B d1 d2 e1 e2 f1 f2 : Int) : (A * e1 + B * e2) * (d1 * f2 - d2 * f1) = (A * d1 + B * d2) * (e1 * f2 - e2 * f1) + (A * f1 + B * f2) * (d1 * e2 - d2 * e1) := by grind
theorem g_tr (h1 : 0 < A * d1 + B * d2) (h2 : 0 < A * e1 + B * e2) (h3 : 0 < A * f1 + B * f2) (a : 0 ≤ d1 * e2 - d2 * e1) (b : 0 ≤ e1 * f2 - e2 * f1) : 0 ≤ d1 * f2 - d2 * f1 ∧ (d1 * f2 - d2 * f1 = 0 → d1 * e2 - d2 * e1 = 0 ∧ e1 * f2 - e2 * f1 = 0) := by
  have key := g_id A B d1 d2 e1 e2 f1 f2
  have n1 := Int.mul_nonneg (Int.le_of_lt h1) b
  have n2 := Int.mul_nonneg (Int.le_of_lt h3) a
  refine ⟨i_nn h2 (by rw [key]; exact Int.add_nonneg n1 n2), fun hx => ?_⟩
  rw [hx, Int.mul_zero] at key
  exact ⟨i_z h3 (by omega), i_z h1 (by omega)⟩
theorem g_n (h1 : 0 < A * u1 + B * u2) : 0 < u1 * u1 + u2 * u2 := by
  rcases Int.lt_or_le 0 (u1 * u1 + u2 * u2) with z | z
  · exact z
  · exfalso
    have s1 := i_sq u1
    have s2 := i_sq u2
    obtain ⟨q1, q2⟩ := i_sq0 (a := u1) (b := u2) (by omega)
    rw [q1, q2, Int.mul_zero, Int.mul_zero] at h1
    omega
theorem g_ray (h1 : 0 < A * u1 + B * u2) (h2 : 0 < A * e1 + B * e2) (c : u1 * e2 - u2 * e1 = 0) : 0 < u1 * e1 + u2 * e2 := by
  have key : (A * u1 + B * u2) * (u1 * e1 + u2 * e2) = (A * e1 + B * e2) * (u1 * u1 + u2 * u2) + (u1 * e2 - u2 * e1) * (A * u2 - B * u1) := by grind
  rw [c, Int.zero_mul, Int.add_zero] at key
  have m := Int.mul_pos h2 (g_n h1)
  exact i_p h1 (by rw [key]; exact m)
theorem g_dd (c : u1 * e2 - u2 * e1 = 0) : (u1 * e1 + u2 * e2) * (u1 * e1 + u2 * e2) = (u1 * u1 + u2 * u2) * (e1 * e1 + e2 * e2) := by
  have key : (u1 * e1 + u2 * e2) * (u1 * e1 + u2 * e2) + (u1 * e2 - u2 * e1) * (u1 * e2 - u2 * e1) = (u1 * u1 + u2 * u2) * (e1 * e1 + e2 * e2) := by grind
  rw [c, Int.zero_mul, Int.add_zero] at key
  exact key
theorem g_e (e1 e2 : Int) : 0 ≤ e1 * e1 + e2 * e2 := Int.add_nonneg (i_sq e1) (i_sq e2)
theorem g_same (c : u1 * e2 - u2 * e1 = 0) (p : 0 < u1 * e1 + u2 * e2) (q : e1 * e1 + e2 * e2 = u1 * u1 + u2 * u2) : e1 = u1 ∧ e2 = u2 := by
  have m := i_mid (g_dd c) p (g_e e1 e2) (by rw [q]; exact Int.le_refl _)
  have key : (e1 - u1) * (e1 - u1) + (e2 - u2) * (e2 - u2) = (e1 * e1 + e2 * e2) + (u1 * u1 + u2 * u2) - 2 * (u1 * e1 + u2 * e2) := by grind
  have z := i_sq0 (a := e1 - u1) (b := e2 - u2) (by
    rw [key]
    generalize e1 * e1 + e2 * e2 = E at *
    generalize u1 * u1 + u2 * u2 = N at *
    generalize u1 * e1 + u2 * e2 = D at *
    omega)
  omega
theorem g_btw (c : u1 * e2 - u2 * e1 = 0) (p : 0 < u1 * e1 + u2 * e2) (q : e1 * e1 + e2 * e2 ≤ u1 * u1 + u2 * u2) (h1 : 0 < A * (-e1) + B * (-e2)) : A * (u1 - e1) + B * (u2 - e2) ≤ 0 := by
  have m := i_mid (g_dd c) p (g_e e1 e2) q
  have key : (e1 * e1 + e2 * e2) * (A * (u1 - e1) + B * (u2 - e2)) = (u1 * e1 + u2 * e2 - (e1 * e1 + e2 * e2)) * (A * e1 + B * e2) + (u1 * e2 - u2 * e1) * (A * e2 - B * e1) := by grind
  rw [c, Int.zero_mul, Int.add_zero] at key
  have l : A * e1 + B * e2 < 0 := by
    rw [Int.mul_neg, Int.mul_neg] at h1
    omega
  have hn : 0 < e1 * e1 + e2 * e2 := by
    have z := g_n (A := A) (B := B) (u1 := -e1) (u2 := -e2) h1
    rw [Int.neg_mul_neg, Int.neg_mul_neg] at z
    exact z
  generalize e1 * e1 + e2 * e2 = E at *
  generalize u1 * e1 + u2 * e2 = D at *
  generalize A * e1 + B * e2 = M at *
  generalize A * (u1 - e1) + B * (u2 - e2) = S at *
  have w := Int.mul_nonneg (show 0 ≤ D - E by omega) (show 0 ≤ -M by omega)
  rw [Int.mul_neg] at w
  rcases Int.lt_or_le 0 S with z | z
  · have := Int.mul_pos hn z
    omega
  · exact z
theorem g_nxt (h1 : 0 < A * u1 + B * u2) (c0 : 0 ≤ u1 * e2 - u2 * e1) (q : u1 * e2 - u2 * e1 = 0 → e1 * e1 + e2 * e2 ≤ u1 * u1 + u2 * u2) (he : (e1 = 0 ∧ e2 = 0) ∨ 0 < A * e1 + B * e2) (ne : ¬ (e1 = u1 ∧ e2 = u2)) (b1 : -127 ≤ u1) (b2 : u1 ≤ 127) (b3 : -127 ≤ u2) (b4 : u2 ≤ 127) (b5 : -127 ≤ e1 - u1) (b6 : e1 - u1 ≤ 127) (b7 : -127 ≤ e2 - u2) (b8 : e2 - u2 ≤ 127) : 0 < (-65536 * u2 - u1) * (e1 - u1) + (65536 * u1 - u2) * (e2 - u2) := by
  have key : (-65536 * u2 - u1) * (e1 - u1) + (65536 * u1 - u2) * (e2 - u2) = 65536 * (u1 * e2 - u2 * e1) - (u1 * (e1 - u1) + u2 * (e2 - u2)) := by grind
  have m1 := mul_rg b1 b2 b5 b6
  have m2 := mul_rg b3 b4 b7 b8
  rw [key]
  rcases Int.lt_or_eq_of_le c0 with c | c
  · generalize u1 * e2 - u2 * e1 = x at *
    generalize u1 * (e1 - u1) = y at *
    generalize u2 * (e2 - u2) = z at *
    omega
  · have c := c.symm
    have q := q c
    have k2 : u1 * (e1 - u1) + u2 * (e2 - u2) = (u1 * e1 + u2 * e2) - (u1 * u1 + u2 * u2) := by grind
    have hn := g_n h1
    have lt : u1 * e1 + u2 * e2 < u1 * u1 + u2 * u2 := by
      rcases he with he | he
      · rw [he.1, he.2, Int.mul_zero, Int.mul_zero]
        exact hn
      · have p := g_ray h1 he c
        have dd := g_dd c
        have m := i_mid dd p (g_e e1 e2) q
        rcases Int.lt_or_eq_of_le m.2 with w | w
        · exact w
        · exfalso
          rw [w] at dd
          have e : e1 * e1 + e2 * e2 = u1 * u1 + u2 * u2 := by
            have z := i_z hn (b := (u1 * u1 + u2 * u2) - (e1 * e1 + e2 * e2)) (by rw [Int.mul_sub]; omega)
            omega
          exact ne (g_same c p e)
    rw [c, k2]
    omega
end GV
abbrev pt : Type := Nat → Int
def crs (X Y : pt) (i j k : Nat) : Int := (X j - X i) * (Y k - Y i) - (Y j - Y i) * (X k - X i)
def dtp (X Y : pt) (i j k : Nat) : Int := (X j - X i) * (X k - X i) + (Y j - Y i) * (Y k - Y i)
def dsq (X Y : pt) (i j : Nat) : Int := (X j - X i) * (X j - X i) + (Y j - Y i) * (Y j - Y i)
/-- no place right of the way from i to j, none straight on is farther than j -/
def edg (X Y : pt) (i j k : Nat) : Prop := 0 ≤ crs X Y i j k ∧ (crs X Y i j k = 0 → dsq X Y i k ≤ dsq X Y i j)
/-- a line through i has all others strictly on one side -/
def isC (X Y : pt) (n i : Nat) : Prop := ∃ A B : Int, ∀ k, k < n → k ≠ i → 0 < A * (X k - X i) + B * (Y k - Y i)
def rimX (X Y : pt) (n i o : Nat) : Prop := ∀ k, k < n → k ≠ i → 0 ≤ crs X Y i o k ∧ ¬ (crs X Y i o k = 0 ∧ dtp X Y i o k < 0)
def low (X Y : pt) (n f : Nat) : Prop := ∀ k, k < n → Y f < Y k ∨ (Y f = Y k ∧ X f ≤ X k)
def dfX (X Y : pt) (n : Nat) : Prop := ∀ i j, i < n → j < n → i ≠ j → ¬ (X i = X j ∧ Y i = Y j)
def bdX (X Y : pt) (n : Nat) : Prop := ∀ k, k < n → (-64 ≤ X k ∧ X k ≤ 63) ∧ (-64 ≤ Y k ∧ Y k ≤ 63)
theorem crs_rot (X Y : pt) (i j k : Nat) : crs X Y i j k = crs X Y j k i := by unfold crs; grind
theorem crs_neg (X Y : pt) (i j k : Nat) : crs X Y j i k = -crs X Y i j k := by unfold crs; grind
theorem crs_sw (X Y : pt) (i j k : Nat) : crs X Y i k j = -crs X Y i j k := by unfold crs; grind
theorem crs_same (X Y : pt) (i j : Nat) : crs X Y i j j = 0 := by unfold crs; grind
section GH
variable {X Y : pt} {n m j i k f c q : Nat} {h : Nat → Nat}
theorem isC_low (hf : f < n) (hl : low X Y n f) (hD : dfX X Y n) (hB : bdX X Y n) : isC X Y n f := ⟨1, 128, fun k hk hne => by
  have a := hl k hk
  have b := hD f k hf hk (Ne.symm hne)
  have c := hB k hk
  have d := hB f hf
  omega⟩
theorem isC_nxt (hc : isC X Y n c) (hcn : c < n) (hq : q < n) (hqc : q ≠ c) (hed : ∀ k, k < n → k ≠ c → edg X Y c q k) (hD : dfX X Y n) (hB : bdX X Y n) : isC X Y n q := by
  obtain ⟨A, B, hL⟩ := hc
  refine ⟨-65536 * (Y q - Y c) - (X q - X c), 65536 * (X q - X c) - (Y q - Y c), fun k hk hne => ?_⟩
  have a := hB c hcn
  have b := hB q hq
  have d := hB k hk
  have r1 : X k - X q = (X k - X c) - (X q - X c) := by omega
  have r2 : Y k - Y q = (Y k - Y c) - (Y q - Y c) := by omega
  have ne : ¬ (X k - X c = X q - X c ∧ Y k - Y c = Y q - Y c) := fun w => hD k q hk hq hne ⟨by omega, by omega⟩
  rw [r1, r2]
  by_cases e : k = c
  · subst e
    refine g_nxt (hL q hq hqc) ?_ (fun _ => ?_) (Or.inl ⟨by omega, by omega⟩) ne (by omega) (by omega) (by omega) (by omega) (by omega) (by omega) (by omega) (by omega)
    · rw [Int.sub_self, Int.sub_self, Int.mul_zero, Int.mul_zero]
      decide
    · rw [Int.sub_self, Int.sub_self, Int.mul_zero, Int.add_zero]
      exact g_e _ _
  · have ed := hed k hk e
    exact g_nxt (hL q hq hqc) ed.1 ed.2 (Or.inr (hL k hk e)) ne (by omega) (by omega) (by omega) (by omega) (by omega) (by omega) (by omega) (by omega)
/-- the scan for the next corner -/
theorem edg_new {A B : Int} {nx : Nat} (hL : ∀ k, k < n → k ≠ c → 0 < A * (X k - X c) + B * (Y k - Y c)) (hx : nx < n) (hxc : nx ≠ c) (hj : j < n) (hjc : j ≠ c) (hk : k < n) (hkc : k ≠ c) (he : edg X Y c nx k) (ho : crs X Y c nx j < 0 ∨ (crs X Y c nx j = 0 ∧ dsq X Y c nx < dsq X Y c j)) : edg X Y c j k := by
  have a : 0 ≤ crs X Y c j nx := by
    rw [crs_sw]
    omega
  have t := g_tr (hL j hj hjc) (hL nx hx hxc) (hL k hk hkc) a he.1
  refine ⟨t.1, fun z => ?_⟩
  have w := t.2 z
  have w1 : crs X Y c j nx = 0 := w.1
  have w2 : crs X Y c nx k = 0 := w.2
  have g := he.2 w2
  rw [crs_sw] at w1
  omega
theorem edg_self : edg X Y c j j := ⟨by rw [crs_same]; exact Int.le_refl 0, fun _ => Int.le_refl _⟩
/-- corners one behind the other -/
def hpn (X Y : pt) (n j : Nat) (h : Nat → Nat) : Prop := (∀ p, p ≤ j → h p < n ∧ isC X Y n (h p)) ∧ low X Y n (h 0) ∧ ∀ p, p < j → h (p + 1) ≠ h p ∧ h (p + 1) ≠ h 0 ∧ ∀ k, k < n → k ≠ h p → edg X Y (h p) (h (p + 1)) k
theorem hpn_1 (H : hpn X Y n j h) (hi : i + 1 < j) : 0 < crs X Y (h 0) (h (i + 1)) (h (i + 2)) := by
  obtain ⟨H1, -, H3⟩ := H
  have e := H3 (i + 1) hi
  have n0 := (H3 i (by omega)).2.1
  have h0 := (H1 0 (by omega)).1
  have h1 := (H1 (i + 1) (by omega)).1
  have h2 := (H1 (i + 2) (by omega)).1
  have ed := e.2.2 (h 0) h0 (Ne.symm n0)
  rw [crs_rot]
  rcases Int.lt_or_eq_of_le ed.1 with w | w
  · exact w
  · exfalso
    obtain ⟨A, B, L⟩ := (H1 (i + 1) (by omega)).2
    obtain ⟨A0, B0, L0⟩ := (H1 0 (by omega)).2
    have c : (X (h (i + 2)) - X (h (i + 1))) * (Y (h 0) - Y (h (i + 1))) - (Y (h (i + 2)) - Y (h (i + 1))) * (X (h 0) - X (h (i + 1))) = 0 := w.symm
    have p := g_ray (L _ h2 e.1) (L _ h0 (Ne.symm n0)) c
    have q := ed.2 w.symm
    have l1 := L0 _ h1 n0
    have l2 := L0 _ h2 e.2.1
    rw [show X (h (i + 1)) - X (h 0) = -(X (h 0) - X (h (i + 1))) by omega, show Y (h (i + 1)) - Y (h 0) = -(Y (h 0) - Y (h (i + 1))) by omega] at l1
    have g := g_btw c p q l1
    rw [show X (h (i + 2)) - X (h (i + 1)) - (X (h 0) - X (h (i + 1))) = X (h (i + 2)) - X (h 0) by omega, show Y (h (i + 2)) - Y (h (i + 1)) - (Y (h 0) - Y (h (i + 1))) = Y (h (i + 2)) - Y (h 0) by omega] at g
    omega
theorem hpn_2 (H : hpn X Y n j h) : ∀ b a, a < b → b < j → 0 < crs X Y (h 0) (h (a + 1)) (h (b + 1)) := by
  intro b
  induction b with
  | zero => intro a ha _; exact absurd ha (Nat.not_lt_zero a)
  | succ b ih =>
    intro a ha hb
    have s := hpn_1 H hb
    by_cases e : a = b
    · subst e; exact s
    · have r := ih a (by omega) (by omega)
      obtain ⟨A, B, L⟩ := (H.1 0 (by omega)).2
      have l1 := L _ (H.1 (a + 1) (by omega)).1 (H.2.2 a (by omega)).2.1
      have l2 := L _ (H.1 (b + 1) (by omega)).1 (H.2.2 b (by omega)).2.1
      have l3 := L _ (H.1 (b + 2) (by omega)).1 (H.2.2 (b + 1) hb).2.1
      have t := g_tr l1 l2 l3 (Int.le_of_lt r) (Int.le_of_lt s)
      rcases Int.lt_or_eq_of_le t.1 with w | w
      · exact w
      · have z : crs X Y (h 0) (h (a + 1)) (h (b + 1)) = 0 := (t.2 w.symm).1
        omega
theorem hpn_i (H : hpn X Y n j h) : ∀ a b, a < b → b < j + 1 → h a ≠ h b := by
  intro a b ha hb
  obtain ⟨b, rfl⟩ : ∃ q, b = q + 1 := ⟨b - 1, by omega⟩
  rcases Nat.eq_zero_or_pos a with w | w
  · rw [w]; exact Ne.symm (H.2.2 b (by omega)).2.1
  · obtain ⟨a, rfl⟩ : ∃ q, a = q + 1 := ⟨a - 1, by omega⟩
    have s := hpn_2 H b a (by omega) (by omega)
    intro e
    rw [e, crs_same] at s
    omega
/-- counting an image -/
theorem cnt_img {f : Nat → Bool} (hl : ∀ p, p < m → h p < n) (hi : ∀ a b, a < b → b < m → h a ≠ h b) (hf : ∀ k, k < n → (f k = true ↔ ∃ p, p < m ∧ h p = k)) : cnt f n = m := by
  rw [cnt_countP, List.countP_eq_length_filter]
  have hp : ((List.range n).filter f).Perm ((List.range m).map h) := by
    refine (List.perm_ext_iff_of_nodup (List.Pairwise.filter f List.nodup_range) ?_).mpr (fun k => ?_)
    · show List.Pairwise (fun a b => a ≠ b) ((List.range m).map h)
      rw [List.pairwise_map]
      exact List.Pairwise.imp_of_mem (fun {a b} _ hb hab => hi a b hab (List.mem_range.mp hb)) List.pairwise_lt_range
    · rw [List.mem_filter, List.mem_range, List.mem_map]
      constructor
      · intro z
        obtain ⟨p, p1, p2⟩ := (hf k z.1).mp z.2
        exact ⟨p, List.mem_range.mpr p1, p2⟩
      · intro z
        obtain ⟨p, p1, p2⟩ := z
        have p1 := List.mem_range.mp p1
        have z := hl p p1
        rw [p2] at z
        exact ⟨z, (hf k z).mpr ⟨p, p1, p2⟩⟩
  rw [hp.length_eq, List.length_map, List.length_range]
theorem inj_le (hl : ∀ p, p < m → h p < n) (hi : ∀ a b, a < b → b < m → h a ≠ h b) : m ≤ n := by
  have z := cnt_img (f := fun k => (List.range m).any (fun p => decide (h p = k))) hl hi (fun k _ => by
    show (List.range m).any (fun p => decide (h p = k)) = true ↔ _
    rw [List.any_eq_true]
    constructor
    · intro w
      obtain ⟨p, h1, h2⟩ := w
      exact ⟨p, List.mem_range.mp h1, of_decide_eq_true h2⟩
    · intro w
      obtain ⟨p, h1, h2⟩ := w
      exact ⟨p, List.mem_range.mpr h1, decide_eq_true h2⟩)
  rw [← z]
  exact cnt_le _ _
theorem hpn_no (H : hpn X Y n n h) : False := by
  have z := inj_le (m := n + 1) (n := n) (h := h) (fun p hp => (H.1 p (by omega)).1) (hpn_i H)
  omega
/-- the whole hull, closed -/
def hch (X Y : pt) (n m : Nat) (h : Nat → Nat) : Prop := ∃ j, m = j + 1 ∧ hpn X Y n j h ∧ (∀ k, k < n → k ≠ h j → edg X Y (h j) (h 0) k) ∧ (1 < n → h j ≠ h 0)
theorem hch_cov (H : hch X Y n m h) (hk : k < n) (hC : isC X Y n k) : ∃ p, p < m ∧ h p = k := by
  refine Classical.byContradiction (fun hno => ?_)
  obtain ⟨j, rfl, H, hcl, h1n⟩ := H
  have hne : ∀ p, p ≤ j → k ≠ h p := fun p hp e => hno ⟨p, by omega, e.symm⟩
  obtain ⟨A, B, L⟩ := hC
  have h0 := (H.1 0 (by omega)).1
  have hnk := hne 0 (by omega)
  have hj0 := h1n (by omega)
  have hj : 0 < j := by
    rcases Nat.eq_zero_or_pos j with w | w
    · exact absurd (by rw [w]) hj0
    · exact w
  have up : ∀ i, i < j → 0 ≤ crs X Y (h 0) (h (i + 1)) k := by
    intro i
    induction i with
    | zero => intro hi; exact ((H.2.2 0 hi).2.2 k hk hnk).1
    | succ i ih =>
      intro hi
      have a := ih (by omega)
      have b := ((H.2.2 (i + 1) hi).2.2 k hk (hne (i + 1) (by omega))).1
      have l0 := L _ h0 (Ne.symm hnk)
      have l1 := L _ (H.1 (i + 1) (by omega)).1 (Ne.symm (hne (i + 1) (by omega)))
      have l2 := L _ (H.1 (i + 2) (by omega)).1 (Ne.symm (hne (i + 2) (by omega)))
      rcases Int.lt_or_le (crs X Y (h 0) (h (i + 2)) k) 0 with w | w
      · exfalso
        have key : crs X Y (h (i + 1)) (h (i + 2)) k * (A * (X (h 0) - X k) + B * (Y (h 0) - Y k)) + (-crs X Y (h 0) (h (i + 2)) k) * (A * (X (h (i + 1)) - X k) + B * (Y (h (i + 1)) - Y k)) + crs X Y (h 0) (h (i + 1)) k * (A * (X (h (i + 2)) - X k) + B * (Y (h (i + 2)) - Y k)) = 0 := by unfold crs; grind
        have s1 := Int.mul_nonneg b (Int.le_of_lt l0)
        have s2 := Int.mul_pos (show 0 < -crs X Y (h 0) (h (i + 2)) k by omega) l1
        have s3 := Int.mul_nonneg a (Int.le_of_lt l2)
        generalize crs X Y (h (i + 1)) (h (i + 2)) k * (A * (X (h 0) - X k) + B * (Y (h 0) - Y k)) = x at *
        generalize (-crs X Y (h 0) (h (i + 2)) k) * (A * (X (h (i + 1)) - X k) + B * (Y (h (i + 1)) - Y k)) = y at *
        generalize crs X Y (h 0) (h (i + 1)) k * (A * (X (h (i + 2)) - X k) + B * (Y (h (i + 2)) - Y k)) = z at *
        omega
      · exact w
  have a := up (j - 1) (by omega)
  rw [show j - 1 + 1 = j by omega] at a
  have ed := hcl k hk (hne j (Nat.le_refl j))
  have b := ed.1
  rw [crs_neg] at b
  have c0 : crs X Y (h j) (h 0) k = 0 := by
    rw [crs_neg]
    omega
  have q := ed.2 c0
  obtain ⟨A2, B2, L2⟩ := (H.1 j (Nat.le_refl j)).2
  have p := g_ray (L2 _ h0 (Ne.symm hj0)) (L2 k hk (hne j (Nat.le_refl j))) c0
  have l1 := L _ (H.1 j (Nat.le_refl j)).1 (Ne.symm (hne j (Nat.le_refl j)))
  have l2 := L _ h0 (Ne.symm hnk)
  rw [show X (h j) - X k = -(X k - X (h j)) by omega, show Y (h j) - Y k = -(Y k - Y (h j)) by omega] at l1
  have g := g_btw c0 p q l1
  rw [show X (h 0) - X (h j) - (X k - X (h j)) = X (h 0) - X k by omega, show Y (h 0) - Y (h j) - (Y k - Y (h j)) = Y (h 0) - Y k by omega] at g
  omega
theorem edg_rim (hc : isC X Y n c) (hq : q < n) (hqc : q ≠ c) (hed : ∀ k, k < n → k ≠ c → edg X Y c q k) : rimX X Y n c q := by
  obtain ⟨A, B, L⟩ := hc
  intro k hk hkc
  have ed := hed k hk hkc
  refine ⟨ed.1, fun z => ?_⟩
  have p : 0 < dtp X Y c q k := g_ray (L q hq hqc) (L k hk hkc) z.1
  omega
theorem hch_rim (H : hch X Y n m h) (hn : 1 < n) {p : Nat} (hp : p < m) : ∃ o, o < n ∧ o ≠ h p ∧ rimX X Y n (h p) o := by
  obtain ⟨j, rfl, H, hcl, h1n⟩ := H
  by_cases e : p = j
  · subst e
    have w := Ne.symm (h1n hn)
    exact ⟨h 0, (H.1 0 (by omega)).1, w, edg_rim (H.1 p (Nat.le_refl p)).2 (H.1 0 (by omega)).1 w hcl⟩
  · have s := H.2.2 p (by omega)
    exact ⟨h (p + 1), (H.1 (p + 1) (by omega)).1, s.1, edg_rim (H.1 p (by omega)).2 (H.1 (p + 1) (by omega)).1 s.1 s.2.2⟩
theorem rim_isC {o : Nat} (hi : i < n) (ho : o < n) (hoi : o ≠ i) (hr : rimX X Y n i o) (hD : dfX X Y n) (hB : bdX X Y n) : isC X Y n i := by
  refine ⟨(X o - X i) - 65536 * (Y o - Y i), 65536 * (X o - X i) + (Y o - Y i), fun k hk hki => ?_⟩
  have key : ((X o - X i) - 65536 * (Y o - Y i)) * (X k - X i) + (65536 * (X o - X i) + (Y o - Y i)) * (Y k - Y i) = 65536 * crs X Y i o k + dtp X Y i o k := by unfold crs dtp; grind
  rw [key]
  have r := hr k hk hki
  have a := hB i hi
  have b := hB o ho
  have d := hB k hk
  have m1 := mul_rg (a := X o - X i) (e := X k - X i) (by omega) (by omega) (by omega) (by omega)
  have m2 := mul_rg (a := Y o - Y i) (e := Y k - Y i) (by omega) (by omega) (by omega) (by omega)
  have m3 : dtp X Y i o k = (X o - X i) * (X k - X i) + (Y o - Y i) * (Y k - Y i) := rfl
  rcases Int.lt_or_eq_of_le r.1 with w | w
  · omega
  · have c : (X o - X i) * (Y k - Y i) - (Y o - Y i) * (X k - X i) = 0 := w.symm
    have p : 0 ≤ dtp X Y i o k := by
      rcases Int.lt_or_le (dtp X Y i o k) 0 with v | v
      · exact absurd ⟨w.symm, v⟩ r.2
      · exact v
    have dd := g_dd c
    rcases Int.lt_or_eq_of_le p with v | v
    · omega
    · exfalso
      have v2 : (X o - X i) * (X k - X i) + (Y o - Y i) * (Y k - Y i) = 0 := v.symm
      rw [v2, Int.mul_zero] at dd
      rcases Int.mul_eq_zero.mp dd.symm with u | u
      · have z := i_sq0 u
        exact hD o i ho hi hoi ⟨by omega, by omega⟩
      · have z := i_sq0 u
        exact hD k i hk hi hki ⟨by omega, by omega⟩
/-- the other way of laying the hull lays the same row -/
theorem hull_eq {cn : Nat → Bool} (H : hch X Y n m h) (hD : dfX X Y n) (hB : bdX X Y n) (hcn : ∀ k, k < n → (cn k = true ↔ (n = 1 ∨ ∃ o, o < n ∧ o ≠ k ∧ rimX X Y n k o))) : cnt cn n = m ∧ (∀ k, k < n → (cn k = true ↔ ∃ p, p < m ∧ h p = k)) ∧ ∀ fi, fi < n → (∀ k, k < n → cn k = true → Y fi < Y k ∨ (Y fi = Y k ∧ X fi ≤ X k)) → fi = h 0 ∧ ∀ p, p + 1 < m → 1 + cnt (fun o => cn o && (!decide (o = fi) && decide (0 < crs X Y fi o (h (p + 1))))) n = p + 1 := by
  have H0 := H
  obtain ⟨j, rfl, Hp, -, -⟩ := H0
  have hin : ∀ p, p < j + 1 → h p < n := fun p hp => (Hp.1 p (by omega)).1
  have hc : ∀ k, k < n → (cn k = true ↔ ∃ p, p < j + 1 ∧ h p = k) := by
    intro k hk
    rw [hcn k hk]
    constructor
    · intro z
      rcases z with z | ⟨o, h1, h2, h3⟩
      · exact ⟨0, by omega, by have := hin 0 (by omega); omega⟩
      · exact hch_cov H hk (rim_isC hk h1 h2 h3 hD hB)
    · intro z
      obtain ⟨p, h1, h2⟩ := z
      by_cases e : n = 1
      · exact Or.inl e
      · obtain ⟨o, o1, o2, o3⟩ := hch_rim H (by omega) h1
        rw [h2] at o2 o3
        exact Or.inr ⟨o, o1, o2, o3⟩
  refine ⟨cnt_img hin (hpn_i Hp) hc, hc, fun fi hf1 hf3 => ?_⟩
  have e0 : fi = h 0 := by
    have a := hf3 (h 0) (hin 0 (by omega)) ((hc _ (hin 0 (by omega))).mpr ⟨0, by omega, rfl⟩)
    have b := Hp.2.1 fi hf1
    refine Classical.byContradiction (fun w => ?_)
    exact hD fi (h 0) hf1 (hin 0 (by omega)) w ⟨by omega, by omega⟩
  refine ⟨e0, fun p hp => ?_⟩
  have ec : cnt (fun o => cn o && (!decide (o = fi) && decide (0 < crs X Y fi o (h (p + 1))))) n = p := by
    refine cnt_img (h := fun q => h (q + 1)) (fun q hq => hin (q + 1) (by omega)) (fun a b ha hb => hpn_i Hp (a + 1) (b + 1) (by omega) (by omega)) (fun k hk => ?_)
    show (cn k && (!decide (k = fi) && decide (0 < crs X Y fi k (h (p + 1))))) = true ↔ _
    simp only [Bool.and_eq_true, Bool.not_eq_true', decide_eq_false_iff_not, decide_eq_true_eq]
    rw [hc k hk, e0]
    constructor
    · intro y
      obtain ⟨⟨q, q1, q2⟩, q3, q4⟩ := y
      rcases Nat.eq_zero_or_pos q with v | v
      · exact absurd (by rw [← q2, v]) q3
      · obtain ⟨q, rfl⟩ : ∃ r, q = r + 1 := ⟨q - 1, by omega⟩
        refine ⟨q, ?_, q2⟩
        rw [← q2] at q4
        rcases Nat.lt_trichotomy q p with u | u | u
        · exact u
        · rw [u, crs_same] at q4
          omega
        · have s := hpn_2 Hp q p u (by omega)
          rw [crs_sw] at q4
          omega
    · intro y
      obtain ⟨q, q1, q2⟩ := y
      have s := hpn_2 Hp p q q1 (by omega)
      rw [q2] at s
      exact ⟨⟨q + 1, by omega, q2⟩, by rw [← q2]; exact (Hp.2.2 q (by omega)).2.1, s⟩
  rw [ec, Nat.add_comm 1 p]
end GH
