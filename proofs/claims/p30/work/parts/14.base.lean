-- WHAT STANDS ALL ALONG: the numbers of the class's and the reference's objects
def aj_CS : List Nat := [19, 35, 51, 67, 83, 99, 115, 131]
def aj_BL : List Nat := [20, 18, 22, 21, 27, 43, 25, 41, 24, 40, 56, 72, 88, 104, 120, 136, 152, 168, 147, 163, 179, 195, 19, 35, 51, 67, 83, 99, 115, 131]
def bV (V : Nat → Nat → Option Nat) (N : Nat → Nat) (L : List Nat) : Prop :=
  (∀ i ∈ aj_BL, i ∈ L) ∧ (V 20 0 = some 27 ∧ V 20 1 = some 43 ∧ V 20 2 = some 25 ∧ V 20 3 = some 147 ∧ V 20 4 = some 163 ∧ V 20 5 = some 18) ∧ (V 18 0 = some 24 ∧ V 18 1 = some 40 ∧ V 18 3 = some 56 ∧ V 18 5 = some 72 ∧ V 18 7 = some 179 ∧ V 18 8 = some 195) ∧
  (V 22 1 = some 88 ∧ V 22 2 = some 104 ∧ V 22 3 = some 120 ∧ V 22 4 = some 41 ∧ V 22 5 = some 136 ∧ V 22 6 = some 152 ∧ V 22 10 = some 168) ∧
  (N 27 = 8 ∧ N 43 = 8 ∧ N 25 = 8 ∧ N 41 = 8 ∧ N 24 = 13 ∧ N 40 = 13 ∧ N 56 = 12 ∧ N 72 = 12 ∧ N 88 = 8 ∧ N 104 = 8 ∧ N 120 = 8 ∧ N 136 = 12 ∧ N 152 = 12 ∧ N 168 = 4) ∧
  (∀ j, j < 8 → ∃ c, V 27 j = some c ∧ c ∈ aj_CS)
section BB
variable {V : Nat → Nat → Option Nat} {N : Nat → Nat} {L : List Nat}
theorem bL (h : bV V N L) : ∀ i ∈ aj_BL, i ∈ L := h.1
theorem bv_4_0 (h : bV V N L) : V 20 0 = some 27 := h.2.1.1
theorem bv_4_1 (h : bV V N L) : V 20 1 = some 43 := h.2.1.2.1
theorem bv_4_2 (h : bV V N L) : V 20 2 = some 25 := h.2.1.2.2.1
theorem bv_4_3 (h : bV V N L) : V 20 3 = some 147 := h.2.1.2.2.2.1
theorem bv_4_4 (h : bV V N L) : V 20 4 = some 163 := h.2.1.2.2.2.2.1
theorem bv_4_5 (h : bV V N L) : V 20 5 = some 18 := h.2.1.2.2.2.2.2
theorem bv_2_0 (h : bV V N L) : V 18 0 = some 24 := h.2.2.1.1
theorem bv_2_1 (h : bV V N L) : V 18 1 = some 40 := h.2.2.1.2.1
theorem bv_2_3 (h : bV V N L) : V 18 3 = some 56 := h.2.2.1.2.2.1
theorem bv_2_5 (h : bV V N L) : V 18 5 = some 72 := h.2.2.1.2.2.2.1
theorem bv_2_7 (h : bV V N L) : V 18 7 = some 179 := h.2.2.1.2.2.2.2.1
theorem bv_2_8 (h : bV V N L) : V 18 8 = some 195 := h.2.2.1.2.2.2.2.2
theorem bv_6_1 (h : bV V N L) : V 22 1 = some 88 := h.2.2.2.1.1
theorem bv_6_2 (h : bV V N L) : V 22 2 = some 104 := h.2.2.2.1.2.1
theorem bv_6_3 (h : bV V N L) : V 22 3 = some 120 := h.2.2.2.1.2.2.1
theorem bv_6_4 (h : bV V N L) : V 22 4 = some 41 := h.2.2.2.1.2.2.2.1
theorem bv_6_5 (h : bV V N L) : V 22 5 = some 136 := h.2.2.2.1.2.2.2.2.1
theorem bv_6_6 (h : bV V N L) : V 22 6 = some 152 := h.2.2.2.1.2.2.2.2.2.1
theorem bv_6_10 (h : bV V N L) : V 22 10 = some 168 := h.2.2.2.1.2.2.2.2.2.2
theorem bn27 (h : bV V N L) : N 27 = 8 := h.2.2.2.2.1.1
theorem bn43 (h : bV V N L) : N 43 = 8 := h.2.2.2.2.1.2.1
theorem bn25 (h : bV V N L) : N 25 = 8 := h.2.2.2.2.1.2.2.1
theorem bn41 (h : bV V N L) : N 41 = 8 := h.2.2.2.2.1.2.2.2.1
theorem bn24 (h : bV V N L) : N 24 = 13 := h.2.2.2.2.1.2.2.2.2.1
theorem bn40 (h : bV V N L) : N 40 = 13 := h.2.2.2.2.1.2.2.2.2.2.1
theorem bn56 (h : bV V N L) : N 56 = 12 := h.2.2.2.2.1.2.2.2.2.2.2.1
theorem bn72 (h : bV V N L) : N 72 = 12 := h.2.2.2.2.1.2.2.2.2.2.2.2.1
theorem bn88 (h : bV V N L) : N 88 = 8 := h.2.2.2.2.1.2.2.2.2.2.2.2.2.1
theorem bn104 (h : bV V N L) : N 104 = 8 := h.2.2.2.2.1.2.2.2.2.2.2.2.2.2.1
theorem bn120 (h : bV V N L) : N 120 = 8 := h.2.2.2.2.1.2.2.2.2.2.2.2.2.2.2.1
theorem bn136 (h : bV V N L) : N 136 = 12 := h.2.2.2.2.1.2.2.2.2.2.2.2.2.2.2.2.1
theorem bn152 (h : bV V N L) : N 152 = 12 := h.2.2.2.2.1.2.2.2.2.2.2.2.2.2.2.2.2.1
theorem bn168 (h : bV V N L) : N 168 = 4 := h.2.2.2.2.1.2.2.2.2.2.2.2.2.2.2.2.2.2
end BB
def eqO (S : List Nat) (I I' : Nat → Nat → Int32) : Prop := ∀ i, i ∉ S → I' i = I i
theorem eqO.rf {S : List Nat} {I : Nat → Nat → Int32} : eqO S I I := fun _ _ => rfl
theorem eqO.tr {S : List Nat} {I I' I'' : Nat → Nat → Int32} (h : eqO S I I') (h2 : eqO S I' I'') : eqO S I I'' := fun i hi => (h2 i hi).trans (h i hi)
theorem eqO.mono {S S' : List Nat} {I I' : Nat → Nat → Int32} (h : eqO S I I') (hs : ∀ i ∈ S, i ∈ S') : eqO S' I I' := fun i hi => h i (fun z => hi (hs i z))
theorem eqO.u {S : List Nat} {I : Nat → Nat → Int32} {i k : Nat} {v : Int32} (h : i ∈ S) : eqO S I (aj_u I i k v) := fun j hj => aj_u_o I v (fun e => hj (e ▸ h))
theorem stB_o {I : Nat → Nat → Int32} {a b : Nat} {x u s : Int32} (h : b ≠ a) : stB I a x u s b = I b := by
  unfold stB
  rw [aj_u_o _ _ h, aj_u_o _ _ h, aj_u_o _ _ h, aj_u_o _ _ h]
theorem stB_eq {S : List Nat} {I : Nat → Nat → Int32} {a : Nat} {x u s : Int32} (h : a ∈ S) : eqO S I (stB I a x u s) := fun j hj => stB_o (fun e => hj (e ▸ h))
theorem stB_0 {I : Nat → Nat → Int32} {a : Nat} {x u s : Int32} : stB I a x u s a 0 = x := by
  unfold stB; rw [aj_u_k _ _ _ (by decide), aj_u_k _ _ _ (by decide), aj_u_k _ _ _ (by decide), aj_u_s]
theorem stB_1 {I : Nat → Nat → Int32} {a : Nat} {x u s : Int32} : stB I a x u s a 1 = u := by
  unfold stB; rw [aj_u_k _ _ _ (by decide), aj_u_k _ _ _ (by decide), aj_u_s]
theorem stB_2 {I : Nat → Nat → Int32} {a : Nat} {x u s : Int32} : stB I a x u s a 2 = pSg x u s := by
  unfold stB; rw [aj_u_k _ _ _ (by decide), aj_u_s]
theorem stB_3 {I : Nat → Nat → Int32} {a : Nat} {x u s : Int32} : stB I a x u s a 3 = pLk x u s := by
  unfold stB; rw [aj_u_s]
def pCr (xi yi xj yj xk yk : Int32) : Int32 := (xj - xi) * (yk - yi) - (yj - yi) * (xk - xi)
def pDt (xi yi xj yj xk yk : Int32) : Int32 := (xj - xi) * (xk - xi) + (yj - yi) * (yk - yi)
def pDs (xi yi xj yj : Int32) : Int32 := (xj - xi) * (xj - xi) + (yj - yi) * (yj - yi)
def pOW (a b c d : Int32) : Int32 := pOrd (pLk a b 0) b (pSg a b 0) (pLk c d 0) d (pSg c d 0)
def tS (I : Nat → Nat → Int32) (a b c d : Int32) : Nat → Nat → Int32 := stB (stB I 179 a b 0) 195 c d 0
theorem tS_o {I : Nat → Nat → Int32} {a b c d : Int32} {i : Nat} (h : i ≠ 179) (h2 : i ≠ 195) : tS I a b c d i = I i := by
  unfold tS; rw [stB_o h2, stB_o h]
theorem tS_eq {S : List Nat} {I : Nat → Nat → Int32} {a b c d : Int32} (h : 179 ∈ S) (h2 : 195 ∈ S) : eqO S I (tS I a b c d) := fun j hj => tS_o (fun e => hj (e ▸ h)) (fun e => hj (e ▸ h2))
theorem tS_a {I : Nat → Nat → Int32} {a b c d : Int32} : tS I a b c d 179 0 = a ∧ tS I a b c d 179 1 = b ∧ tS I a b c d 179 2 = pSg a b 0 ∧ tS I a b c d 179 3 = pLk a b 0 := by
  unfold tS
  rw [stB_o (by decide)]
  exact ⟨stB_0, stB_1, stB_2, stB_3⟩
theorem tS_b {I : Nat → Nat → Int32} {a b c d : Int32} : tS I a b c d 195 0 = c ∧ tS I a b c d 195 1 = d ∧ tS I a b c d 195 2 = pSg c d 0 ∧ tS I a b c d 195 3 = pLk c d 0 := by
  unfold tS
  exact ⟨stB_0, stB_1, stB_2, stB_3⟩
theorem tS_ord {I : Nat → Nat → Int32} {a b c d : Int32} : pOrd (tS I a b c d 179 3) (tS I a b c d 179 1) (tS I a b c d 179 2) (tS I a b c d 195 3) (tS I a b c d 195 1) (tS I a b c d 195 2) = pOW a b c d := by
  obtain ⟨-, h1, h2, h3⟩ := tS_a (I := I) (a := a) (b := b) (c := c) (d := d)
  obtain ⟨-, h4, h5, h6⟩ := tS_b (I := I) (a := a) (b := b) (c := c) (d := d)
  rw [h1, h2, h3, h4, h5, h6]; rfl
-- COUNTS
def cnt (f : Nat → Bool) : Nat → Nat
  | 0 => 0
  | n + 1 => cnt f n + (if f n then 1 else 0)
theorem cnt_le (f : Nat → Bool) (n : Nat) : cnt f n ≤ n := by
  induction n with
  | zero => exact Nat.le_refl _
  | succ n ih => unfold cnt; split <;> omega
theorem cnt_s {f : Nat → Bool} {l : Nat} : cnt f l ≤ cnt f (l + 1) := Nat.le_add_right _ _
theorem cnt_t {f : Nat → Bool} {l : Nat} (h : f l = true) : cnt f (l + 1) = cnt f l + 1 := by
  show cnt f l + (if f l = true then 1 else 0) = _
  rw [if_pos h]
theorem cnt_f {f : Nat → Bool} {l : Nat} (h : f l = false) : cnt f (l + 1) = cnt f l := by
  show cnt f l + (if f l = true then 1 else 0) = _
  rw [if_neg (by rw [h]; decide)]; rfl
theorem cnt_leb {f g : Nat → Bool} : ∀ n, (∀ k, k < n → f k = true → g k = true) → cnt f n ≤ cnt g n := by
  intro n
  induction n with
  | zero => intro _; exact Nat.le_refl _
  | succ n ih =>
    intro h
    have i := ih (fun k hk => h k (by omega))
    cases z : f n with
    | false => rw [cnt_f z]; exact Nat.le_trans i cnt_s
    | true => rw [cnt_t z, cnt_t (h n (by omega) z)]; omega
theorem cnt_ltb {f g : Nat → Bool} {k : Nat} (hf : f k = false) (hg : g k = true) : ∀ n, (∀ i, i < n → f i = true → g i = true) → k < n → cnt f n < cnt g n := by
  intro n
  induction n with
  | zero => intro _ h; exact absurd h (Nat.not_lt_zero _)
  | succ n ih =>
    intro h hk
    by_cases e : k = n
    · subst e
      have i := cnt_leb k (fun i hi => h i (by omega))
      rw [cnt_f hf, cnt_t hg]; omega
    · have i := ih (fun i hi => h i (by omega)) (by omega)
      cases z : f n with
      | false => rw [cnt_f z]; exact Nat.lt_of_lt_of_le i cnt_s
      | true => rw [cnt_t z, cnt_t (h n (by omega) z)]; omega
theorem cnt_countP {f : Nat → Bool} : ∀ n, cnt f n = (List.range n).countP f := by
  intro n
  induction n with
  | zero => rfl
  | succ n ih =>
    rw [List.range_succ, List.countP_append, ← ih]
    cases z : f n with
    | false => rw [cnt_f z]; simp [z]
    | true => rw [cnt_t z]; simp [z]
/-- off the centre -/
def oP (I : Nat → Nat → Int32) (k : Nat) : Bool := decide (0 < pDs (I 24 12) (I 40 12) (I 24 k) (I 40 k))
theorem oP_c {I I' : Nat → Nat → Int32} (h1 : I' 24 = I 24) (h2 : I' 40 = I 40) : oP I' = oP I := funext fun k => by unfold oP; rw [h1, h2]
/-- ROUND and HULL hold numbers of places -/
def fW (I : Nat → Nat → Int32) (n : Nat) : Prop := ∃ rc hc : Nat, rc ≤ n ∧ hc ≤ n ∧ I 18 4 = nI rc ∧ I 18 6 = nI hc ∧ (∀ j, j < rc → ∃ m, m < n ∧ I 56 j = nI m) ∧ (∀ j, j < hc → ∃ m, m < n ∧ I 72 j = nI m) ∧ rc = cnt (oP I) n
def fS : List Nat := [18, 56, 72, 179, 195]
def pCB (xc yc xj yj xk yk : Int32) : Bool := decide (pOW (xj - xc) (yj - yc) (xk - xc) (yk - yc) < 0) || (decide (pOW (xj - xc) (yj - yc) (xk - xc) (yk - yc) = 0) && decide (pDs xc yc xj yj < pDs xc yc xk yk))
theorem fW.eqS {S : List Nat} {I I' : Nat → Nat → Int32} {n : Nat} (h : fW I n) (e : eqO S I I') (h1 : 18 ∉ S) (h2 : 56 ∉ S) (h3 : 72 ∉ S) (h4 : 24 ∉ S) (h5 : 40 ∉ S) : fW I' n := by
  obtain ⟨rc, hc, a1, a2, a3, a4, a5, a6, a7⟩ := h
  exact ⟨rc, hc, a1, a2, by rw [e 18 h1]; exact a3, by rw [e 18 h1]; exact a4, fun j hj => by rw [e 56 h2]; exact a5 j hj, fun j hj => by rw [e 72 h3]; exact a6 j hj, by rw [oP_c (e 24 h4) (e 40 h5)]; exact a7⟩
def pNA (I : Nat → Nat → Int32) (n : Nat) (x y r : Int32) : Prop := (∃ j, j < n ∧ r = nI j ∧ I 24 j = x ∧ I 40 j = y ∧ ∀ i, i < j → ¬ (I 24 i = x ∧ I 40 i = y)) ∨ (r = -1 ∧ ∀ i, i < n → ¬ (I 24 i = x ∧ I 40 i = y))
theorem lt_snoc {P : Nat → Prop} {j : Nat} (h : ∀ i, i < j → P i) (hj : P j) : ∀ i, i < j + 1 → P i := fun i hi => by
  rcases Nat.lt_or_ge i j with z | z
  · exact h i z
  · rw [show i = j by omega]; exact hj
def sX : List Nat := [179, 195]
theorem pNA_lt {I : Nat → Nat → Int32} {n : Nat} {x y r : Int32} (h : pNA I n x y r) : True := trivial
/-- what laying leaves: only what ROUND and HULL are, and scratch -/
def fL (I I' : Nat → Nat → Int32) (n : Nat) : Prop := eqO fS I I' ∧ (∀ k, k ≠ 4 → k ≠ 6 → I' 18 k = I 18 k) ∧ fW I' n
theorem aj_if {α : Type} {p q : Prop} [Decidable p] [Decidable q] {a b : α} (h : p ↔ q) : (if p then a else b) = (if q then a else b) := by
  by_cases z : p
  · rw [if_pos z, if_pos (h.mp z)]
  · rw [if_neg z, if_neg (fun w => z (h.mpr w))]
theorem aj_u_if {α : Type} (f : Nat → Nat → α) (i n k : Nat) (x : α) : aj_u f i n x i k = if k = n then x else f i k := by
  by_cases z : k = n
  · subst z; rw [aj_u_s, if_pos rfl]
  · rw [aj_u_k _ _ _ z, if_neg z]
theorem aj_same {f : Nat → Int32} {i : Nat} {x : Int32} (h : f i = x) (k : Nat) : f k = if k = i then x else f k := by
  by_cases z : k = i
  · subst z; rw [if_pos rfl]; exact h
  · rw [if_neg z]
