-- WHAT THE LAW COMPARES OF THE PLACES, as one word of either side: knocks, centre, number of places, their x's and y's
def pIn (x a b : Int32) : Bool := decide (a ≤ x) && decide (x ≤ b)
def nn (x : Int32) : Nat := x.toNatClampNeg
theorem nn_nI {n : Nat} (h : n ≤ 12) : nn (nI n) = n := nI_clamp (by omega)
def vMk (n : Nat) (f : Nat → Int32) : Nat → Int32 := fun k => if k < n then f k else 0
abbrev vw : Type := Int32 × Int32 × Int32 × Nat × (Nat → Int32) × (Nat → Int32)
def vK (v : vw) : Int32 := v.1
def vX (v : vw) : Int32 := v.2.1
def vY (v : vw) : Int32 := v.2.2.1
def vN (v : vw) : Nat := v.2.2.2.1
def vP (v : vw) : Nat → Int32 := v.2.2.2.2.1
def vQ (v : vw) : Nat → Int32 := v.2.2.2.2.2
def vOf (k x y : Int32) (n : Nat) (f g : Nat → Int32) : vw := (k, x, y, n, vMk n f, vMk n g)
theorem vMk_e {n : Nat} {f g : Nat → Int32} (h : ∀ k, k < n → f k = g k) : vMk n f = vMk n g := funext fun k => by
  unfold vMk
  by_cases z : k < n
  · rw [if_pos z, if_pos z]; exact h k z
  · rw [if_neg z, if_neg z]
theorem vMk_l {n k : Nat} {f : Nat → Int32} (h : k < n) : vMk n f k = f k := if_pos h
theorem vOf_e {k k' x x' y y' : Int32} {n n' : Nat} {f f' g g' : Nat → Int32} (h1 : k = k') (h2 : x = x') (h3 : y = y') (h4 : n = n') (h5 : ∀ j, j < n → f j = f' j) (h6 : ∀ j, j < n → g j = g' j) : vOf k x y n f g = vOf k' x' y' n' f' g' := by
  subst h1; subst h2; subst h3; subst h4
  unfold vOf
  rw [vMk_e h5, vMk_e h6]
-- first of the places with these numbers
def vfi (p : Nat → Bool) : Nat → Nat
  | 0 => 0
  | n + 1 => if vfi p n < n then vfi p n else if p n = true then n else n + 1
theorem vfi_le (p : Nat → Bool) : ∀ n, vfi p n ≤ n
  | 0 => Nat.le_refl 0
  | n + 1 => by
    have := vfi_le p n
    unfold vfi
    split
    · omega
    · split <;> omega
theorem vfi_some {p : Nat → Bool} {j : Nat} (hj : p j = true) (hl : ∀ k, k < j → p k = false) : ∀ n, j < n → vfi p n = j := by
  have h0 : ∀ n, n ≤ j → vfi p n = n := by
    intro n
    induction n with
    | zero => intro _; rfl
    | succ n ih =>
      intro hn
      unfold vfi
      rw [ih (by omega), if_neg (Nat.lt_irrefl n), hl n (by omega), if_neg (by decide)]
  intro n
  induction n with
  | zero => intro h; omega
  | succ n ih =>
    intro h
    unfold vfi
    rcases Nat.lt_or_ge j n with z | z
    · rw [ih z, if_pos z]
    · have e : j = n := by omega
      subst e
      rw [h0 j (Nat.le_refl j), if_neg (Nat.lt_irrefl j), if_pos hj]
theorem vfi_none {p : Nat → Bool} : ∀ n, (∀ k, k < n → p k = false) → vfi p n = n := by
  intro n
  induction n with
  | zero => intro _; rfl
  | succ n ih =>
    intro h
    unfold vfi
    rw [ih (fun k hk => h k (by omega)), if_neg (Nat.lt_irrefl n), h n (by omega), if_neg (by decide)]
theorem vfi_lt {p : Nat → Bool} {n j : Nat} (hj : j < n) (h : p j = true) : vfi p n < n := by
  obtain ⟨k, h1, h2⟩ := pk_least (fun k => p k = true) ⟨j, h⟩
  have hk : k ≤ j := by
    rcases Nat.lt_or_ge j k with z | z
    · exact absurd h (h2 j z)
    · exact z
  rw [vfi_some h1 (fun i hi => by cases z : p i with | false => rfl | true => exact absurd z (h2 i hi)) n (by omega)]
  omega
def vEq (f g : Nat → Int32) (x y : Int32) (k : Nat) : Bool := decide (f k = x) && decide (g k = y)
theorem vEq_t {f g : Nat → Int32} {x y : Int32} {k : Nat} (h1 : f k = x) (h2 : g k = y) : vEq f g x y k = true := by
  unfold vEq; rw [decide_eq_true h1, decide_eq_true h2]; rfl
theorem vEq_f {f g : Nat → Int32} {x y : Int32} {k : Nat} (h : ¬ (f k = x ∧ g k = y)) : vEq f g x y k = false := by
  cases z : vEq f g x y k with
  | false => rfl
  | true =>
    unfold vEq at z
    simp only [Bool.and_eq_true, decide_eq_true_eq] at z
    exact absurd z h
def vF (x y : Int32) (v : vw) : Nat := vfi (vEq (vP v) (vQ v) x y) (vN v)
section VO
variable {a b c x y : Int32} {n : Nat} {f g : Nat → Int32}
theorem vfi_c {p q : Nat → Bool} : ∀ n, (∀ k, k < n → p k = q k) → vfi p n = vfi q n := by
  intro n
  induction n with
  | zero => intro _; rfl
  | succ n ih =>
    intro h
    unfold vfi
    rw [ih (fun k hk => h k (by omega)), h n (by omega)]
theorem vF_of : vF x y (vOf a b c n f g) = vfi (vEq f g x y) n := vfi_c n (fun k hk => by
  show vEq (vMk n f) (vMk n g) x y k = vEq f g x y k
  unfold vEq
  rw [vMk_l hk, vMk_l hk])
theorem vF_some {j : Nat} (hj : j < n) (h1 : f j = x) (h2 : g j = y) (h3 : ∀ k, k < j → ¬ (f k = x ∧ g k = y)) : vF x y (vOf a b c n f g) = j := by
  rw [vF_of]; exact vfi_some (vEq_t h1 h2) (fun k hk => vEq_f (h3 k hk)) n hj
theorem vF_none (h : ∀ k, k < n → ¬ (f k = x ∧ g k = y)) : vF x y (vOf a b c n f g) = n := by
  rw [vF_of]; exact vfi_none n (fun k hk => vEq_f (h k hk))
theorem vF_lt {j : Nat} (hj : j < n) (h1 : f j = x) (h2 : g j = y) : vF x y (vOf a b c n f g) < n := by
  rw [vF_of]; exact vfi_lt hj (vEq_t h1 h2)
end VO
-- codes of what is thrown
def cd1 (a : Bool) : Int32 := if a = true then 0 else 1
def cd2 (a b : Bool) : Int32 := if a = true then (if b = true then 0 else 2) else 1
theorem cd1_t {a : Bool} (h : a = true) : cd1 a = 0 := if_pos h
theorem cd1_f {a : Bool} (h : a = false) : cd1 a = 1 := by rw [h]; rfl
theorem cd2_t {a b : Bool} (h : a = true) (h2 : b = true) : cd2 a b = 0 := by rw [h, h2]; rfl
theorem cd2_1 {a b : Bool} (h : a = false) : cd2 a b = 1 := by rw [h]; rfl
theorem cd2_2 {a b : Bool} (h : a = true) (h2 : b = false) : cd2 a b = 2 := by rw [h, h2]; rfl
theorem cd1_n {a : Bool} {P : Prop} (h : a = false) : cd1 a = 0 → P := fun z => absurd ((cd1_f h).symm.trans z) (by decide)
theorem cd2_n {a b : Bool} {P : Prop} (h : a = false ∨ b = false) : cd2 a b = 0 → P := fun z => by
  rcases h with h | h
  · rw [cd2_1 h] at z; exact absurd z (by decide)
  · rw [h] at z; cases a <;> exact absurd z (by unfold cd2; decide)
-- what calls may ask
def vAt (x y : Int32) : Bool := pIn x (-64) 63 && pIn y (-64) 63
def vOk (n : Nat) (p : Int32) : Bool := pIn p 0 (nI n - 1)
theorem pIn_t {x a b : Int32} (h1 : a ≤ x) (h2 : x ≤ b) : pIn x a b = true := by unfold pIn; rw [decide_eq_true h1, decide_eq_true h2]; rfl
theorem pIn_f {x a b : Int32} (h : ¬ (a ≤ x ∧ x ≤ b)) : pIn x a b = false := by
  cases z : pIn x a b with
  | false => rfl
  | true =>
    unfold pIn at z
    simp only [Bool.and_eq_true, decide_eq_true_eq] at z
    exact absurd z h
theorem vAt_t {x y : Int32} (h : (-64 ≤ x ∧ x ≤ 63) ∧ (-64 ≤ y ∧ y ≤ 63)) : vAt x y = true := by unfold vAt; rw [pIn_t h.1.1 h.1.2, pIn_t h.2.1 h.2.2]; rfl
theorem vAt_f {x y : Int32} (h : ¬ ((-64 ≤ x ∧ x ≤ 63) ∧ (-64 ≤ y ∧ y ≤ 63))) : vAt x y = false := by
  cases z : vAt x y with
  | false => rfl
  | true =>
    unfold vAt pIn at z
    simp only [Bool.and_eq_true, decide_eq_true_eq] at z
    exact absurd z h
theorem nI_pd {n : Nat} (hn : n ≤ 12) : (nI n - 1).toInt = (n : Int) - 1 := by
  have e1 : (1 : Int32).toInt = 1 := by decide
  rw [Int32.toInt_sub, nI_toInt (by omega), e1, Int.bmod_eq_of_le (by omega) (by omega)]
theorem vOk_t {n i : Nat} (hn : n ≤ 12) (hi : i < n) : vOk n (nI i) = true := by
  refine pIn_t (nI_pos' (by omega)) ?_
  rw [Int32.le_iff_toInt_le, nI_pd hn, nI_toInt (by omega)]
  omega
theorem vOk_f {n : Nat} {p : Int32} (hn : n ≤ 12) (h : ∀ j, j < n → ¬ p = nI j) : vOk n p = false := by
  refine pIn_f (fun z => ?_)
  rcases pk_ix p (n := n) (by omega) with w | w | ⟨j, hj, e⟩
  · exact absurd z.1 (Int32.not_le.mpr w)
  · have z2 := z.2
    rw [Int32.le_iff_toInt_le, nI_pd hn] at z2
    rw [Int32.le_iff_toInt_le, nI_toInt (by omega)] at w
    omega
  · exact h j hj e
-- THE ACTS ON PLACES
def nxKn (v : vw) : vw := (vK v + 1, v.2)
def nxCe (x y : Int32) (v : vw) : vw := if vAt x y = true then (vK v, x, y, v.2.2.2) else v
def bAdd (x y : Int32) (v : vw) : Bool := vAt x y && (!decide (vN v = 12) && decide (vF x y v = vN v))
def nxAdd (x y : Int32) (v : vw) : vw := if bAdd x y v = true then vOf (vK v) (vX v) (vY v) (vN v + 1) (fun k => if k = vN v then x else vP v k) (fun k => if k = vN v then y else vQ v k) else v
def anAdd (x y : Int32) (v : vw) : Int32 := if bAdd x y v = true then nI (vN v) else -9
def nxRem (p : Int32) (v : vw) : vw := if vOk (vN v) p = true then vOf (vK v) (vX v) (vY v) (vN v - 1) (fun k => if nn p ≤ k then vP v (k + 1) else vP v k) (fun k => if nn p ≤ k then vQ v (k + 1) else vQ v k) else v
def anRem (v : vw) : Int32 := nI (vN v - 1)
/-- another place is there -/
def bMov (p x y : Int32) (v : vw) : Bool := vOk (vN v) p && (vAt x y && (decide (vF x y v = vN v) || decide (vF x y v = nn p)))
def nxMov (p x y : Int32) (v : vw) : vw := if bMov p x y v = true then vOf (vK v) (vX v) (vY v) (vN v) (fun k => if k = nn p then x else vP v k) (fun k => if k = nn p then y else vQ v k) else v
def anMov (p x y : Int32) (v : vw) : Int32 := if bMov p x y v = true then (if vF x y v = vN v then 1 else 0) else -9
def nxTu (v : vw) : vw := vOf (vK v) (-1 - vY v) (vX v) (vN v) (fun k => -1 - vQ v k) (vP v)
def nxMi (v : vw) : vw := vOf (vK v) (-1 - vX v) (vY v) (vN v) (fun k => -1 - vP v k) (vQ v)
-- WHAT IS ASKED OF PLACES
def anPl (p : Int32) (b : Bool) (v : vw) : Int32 := if b = true then vQ v (nn p) else vP v (nn p)
def vSg (x : Int32) : Int32 := if 0 < x then 1 else if x < 0 then -1 else 0
def vCr (i j k : Nat) (v : vw) : Int32 := pCr (vP v i) (vQ v i) (vP v j) (vQ v j) (vP v k) (vQ v k)
def bAll3 (p q t : Int32) (v : vw) : Bool := vOk (vN v) p && (vOk (vN v) q && vOk (vN v) t)
def anCe (x y : Int32) (v : vw) : Int32 := bI (!(decide (vX v = x) && decide (vY v = y)))
def anLe (p q t : Int32) (v : vw) : Int32 := if nn q = nn p ∨ nn t = nn p then -9 else vSg (vCr (nn p) (nn q) (nn t) v)
section VA
variable {a b c x y p : Int32} {n i : Nat} {f g : Nat → Int32}
theorem vOf_s : vOf a b c n (vMk n f) (vMk n g) = vOf a b c n f g := vOf_e rfl rfl rfl rfl (fun _ h => vMk_l h) (fun _ h => vMk_l h)
theorem nxCe_t (h : vAt x y = true) : nxCe x y (vOf a b c n f g) = vOf a x y n f g := if_pos h
theorem nxCe_f {v : vw} (h : vAt x y = false) : nxCe x y v = v := if_neg (by rw [h]; decide)
theorem bAdd_t (h : vAt x y = true) (h1 : n < 12) (h2 : ∀ k, k < n → ¬ (f k = x ∧ g k = y)) : bAdd x y (vOf a b c n f g) = true := by
  unfold bAdd
  rw [h, vF_none h2]
  show (true && (!decide (n = 12) && decide (n = n))) = true
  rw [decide_eq_false (by omega : ¬ n = 12), decide_eq_true rfl]; rfl
theorem bAdd_0 {v : vw} (h : vAt x y = false) : bAdd x y v = false := by unfold bAdd; rw [h]; rfl
theorem bAdd_f (h : n = 12 ∨ ∃ j, j < n ∧ f j = x ∧ g j = y) : bAdd x y (vOf a b c n f g) = false := by
  unfold bAdd
  show (vAt x y && (!decide (n = 12) && decide (vF x y (vOf a b c n f g) = n))) = false
  rcases h with h | ⟨j, h1, h2, h3⟩
  · rw [decide_eq_true h]; cases vAt x y <;> rfl
  · have := vF_lt (a := a) (b := b) (c := c) h1 h2 h3
    rw [decide_eq_false (by omega : ¬ vF x y (vOf a b c n f g) = n)]
    cases vAt x y <;> cases decide (n = 12) <;> rfl
theorem nxAdd_t (h : bAdd x y (vOf a b c n f g) = true) : nxAdd x y (vOf a b c n f g) = vOf a b c (n + 1) (fun k => if k = n then x else f k) (fun k => if k = n then y else g k) := by
  unfold nxAdd
  rw [if_pos h]
  refine vOf_e rfl rfl rfl rfl (fun j hj => ?_) (fun j hj => ?_)
  · show (if j = n then x else vMk n f j) = _
    by_cases z : j = n
    · rw [if_pos z, if_pos z]
    · rw [if_neg z, if_neg z]; exact vMk_l (by have : j < n + 1 := hj; omega)
  · show (if j = n then y else vMk n g j) = _
    by_cases z : j = n
    · rw [if_pos z, if_pos z]
    · rw [if_neg z, if_neg z]; exact vMk_l (by have : j < n + 1 := hj; omega)
theorem nxAdd_f {v : vw} (h : bAdd x y v = false) : nxAdd x y v = v := if_neg (by rw [h]; decide)
theorem anAdd_t (h : bAdd x y (vOf a b c n f g) = true) : anAdd x y (vOf a b c n f g) = nI n := if_pos h
theorem anAdd_f {v : vw} (h : bAdd x y v = false) : anAdd x y v = -9 := if_neg (by rw [h]; decide)
theorem nxRem_t (hn : n ≤ 12) (hi : i < n) : nxRem (nI i) (vOf a b c n f g) = vOf a b c (n - 1) (fun k => if i ≤ k then f (k + 1) else f k) (fun k => if i ≤ k then g (k + 1) else g k) := by
  unfold nxRem
  rw [if_pos (show vOk (vN (vOf a b c n f g)) (nI i) = true from vOk_t hn hi), nn_nI (show i ≤ 12 by omega)]
  refine vOf_e rfl rfl rfl rfl (fun j hj => ?_) (fun j hj => ?_)
  · have hj : j < n - 1 := hj
    show (if i ≤ j then vMk n f (j + 1) else vMk n f j) = _
    rw [vMk_l (show j + 1 < n by omega), vMk_l (show j < n by omega)]
  · have hj : j < n - 1 := hj
    show (if i ≤ j then vMk n g (j + 1) else vMk n g j) = _
    rw [vMk_l (show j + 1 < n by omega), vMk_l (show j < n by omega)]
theorem nxRem_f {v : vw} (h : vOk (vN v) p = false) : nxRem p v = v := if_neg (by rw [h]; decide)
theorem bMov_t (hn : n ≤ 12) (hi : i < n) (h : vAt x y = true) (h2 : (f i = x ∧ g i = y ∧ ∀ k, k < i → ¬ (f k = x ∧ g k = y)) ∨ ∀ k, k < n → ¬ (f k = x ∧ g k = y)) : bMov (nI i) x y (vOf a b c n f g) = true := by
  unfold bMov
  rw [show vOk (vN (vOf a b c n f g)) (nI i) = true from vOk_t hn hi, h, nn_nI (show i ≤ 12 by omega)]
  show (true && (true && (decide (vF x y (vOf a b c n f g) = n) || decide (vF x y (vOf a b c n f g) = i)))) = true
  rcases h2 with h2 | h2
  · rw [vF_some hi h2.1 h2.2.1 h2.2.2, decide_eq_true (rfl : i = i)]; cases decide (i = n) <;> rfl
  · rw [vF_none h2, decide_eq_true (rfl : n = n)]; rfl
theorem bMov_0 {v : vw} (h : vOk (vN v) p = false) : bMov p x y v = false := by unfold bMov; rw [h]; rfl
theorem bMov_1 {v : vw} (h : vAt x y = false) : bMov p x y v = false := by unfold bMov; rw [h]; cases vOk (vN v) p <;> rfl
theorem bMov_f (hn : n ≤ 12) (hi : i < n) (h : ∃ j, j < n ∧ j ≠ i ∧ f j = x ∧ g j = y ∧ ∀ k, k < j → ¬ (f k = x ∧ g k = y)) : bMov (nI i) x y (vOf a b c n f g) = false := by
  obtain ⟨j, h1, h2, h3, h4, h5⟩ := h
  unfold bMov
  rw [nn_nI (show i ≤ 12 by omega), vF_some h1 h3 h4 h5]
  show (_ && (_ && (decide (j = n) || decide (j = i)))) = false
  rw [decide_eq_false (by omega : ¬ j = n), decide_eq_false h2]
  cases vOk (vN (vOf a b c n f g)) (nI i) <;> cases vAt x y <;> rfl
theorem nxMov_t (hi : i ≤ 12) (h : bMov (nI i) x y (vOf a b c n f g) = true) : nxMov (nI i) x y (vOf a b c n f g) = vOf a b c n (fun k => if k = i then x else f k) (fun k => if k = i then y else g k) := by
  unfold nxMov
  rw [if_pos h, nn_nI hi]
  refine vOf_e rfl rfl rfl rfl (fun j hj => ?_) (fun j hj => ?_)
  · show (if j = i then x else vMk n f j) = _
    rw [vMk_l (show j < n from hj)]
  · show (if j = i then y else vMk n g j) = _
    rw [vMk_l (show j < n from hj)]
theorem nxMov_f {v : vw} (h : bMov p x y v = false) : nxMov p x y v = v := if_neg (by rw [h]; decide)
theorem anMov_f {v : vw} (h : bMov p x y v = false) : anMov p x y v = -9 := if_neg (by rw [h]; decide)
theorem anMov_1 (h : bMov p x y (vOf a b c n f g) = true) (h2 : ∀ k, k < n → ¬ (f k = x ∧ g k = y)) : anMov p x y (vOf a b c n f g) = 1 := by
  unfold anMov
  rw [if_pos h, if_pos (show vF x y (vOf a b c n f g) = vN (vOf a b c n f g) from vF_none h2)]
theorem anMov_2 {j : Nat} (h : bMov p x y (vOf a b c n f g) = true) (hj : j < n) (h1 : f j = x) (h2 : g j = y) : anMov p x y (vOf a b c n f g) = 0 := by
  have := vF_lt (a := a) (b := b) (c := c) hj h1 h2
  unfold anMov
  rw [if_pos h]
  exact if_neg (fun z => by have z : vF x y (vOf a b c n f g) = n := z; omega)
theorem nxTu_of : nxTu (vOf a b c n f g) = vOf a (-1 - c) b n (fun k => -1 - g k) f := vOf_e rfl rfl rfl rfl (fun j hj => congrArg (fun z => -1 - z) (vMk_l (show j < n from hj))) (fun j hj => vMk_l (show j < n from hj))
theorem nxMi_of : nxMi (vOf a b c n f g) = vOf a (-1 - b) c n (fun k => -1 - f k) g := vOf_e rfl rfl rfl rfl (fun j hj => congrArg (fun z => -1 - z) (vMk_l (show j < n from hj))) (fun j hj => vMk_l (show j < n from hj))
theorem anPl_of {b' : Bool} (hi : i < n) (hn : n ≤ 12) : anPl (nI i) b' (vOf a b c n f g) = if b' = true then g i else f i := by
  unfold anPl
  rw [nn_nI (show i ≤ 12 by omega)]
  show (if b' = true then vMk n g i else vMk n f i) = _
  rw [vMk_l hi, vMk_l hi]
theorem anLe_n {i j k : Nat} (hi : i ≤ 12) (hj : j ≤ 12) (hk : k ≤ 12) {v : vw} (h : j = i ∨ k = i) : anLe (nI i) (nI j) (nI k) v = -9 := by
  unfold anLe
  rw [nn_nI hi, nn_nI hj, nn_nI hk, if_pos h]
theorem anLe_t {i j k : Nat} (hn : n ≤ 12) (hi : i < n) (hj : j < n) (hk : k < n) (h1 : j ≠ i) (h2 : k ≠ i) : anLe (nI i) (nI j) (nI k) (vOf a b c n f g) = vSg (pCr (f i) (g i) (f j) (g j) (f k) (g k)) := by
  unfold anLe
  rw [nn_nI (show i ≤ 12 by omega), nn_nI (show j ≤ 12 by omega), nn_nI (show k ≤ 12 by omega), if_neg (by omega)]
  unfold vCr
  show vSg (pCr (vMk n f i) (vMk n g i) (vMk n f j) (vMk n g j) (vMk n f k) (vMk n g k)) = _
  rw [vMk_l hi, vMk_l hi, vMk_l hj, vMk_l hj, vMk_l hk, vMk_l hk]
end VA
theorem all3_t {p q t : Int32} {v : vw} (h1 : vOk (vN v) p = true) (h2 : vOk (vN v) q = true) (h3 : vOk (vN v) t = true) : bAll3 p q t v = true := by unfold bAll3; rw [h1, h2, h3]; rfl
theorem all3_f {p q t : Int32} {v : vw} (h : vOk (vN v) p = false ∨ vOk (vN v) q = false ∨ vOk (vN v) t = false) : bAll3 p q t v = false := by
  unfold bAll3
  cases h1 : vOk (vN v) p with
  | false => rfl
  | true =>
    cases h2 : vOk (vN v) q with
    | false => rfl
    | true =>
      cases h3 : vOk (vN v) t with
      | false => rfl
      | true =>
        rw [h1, h2, h3] at h
        exact absurd h (by decide)
-- signs
theorem pSgn_vSg (x : Int32) : pSgn x.toInt64 = vSg x := by
  have e0 : (0 : Int32).toInt = 0 := by decide
  have e1 : (0 : Int64).toInt = 0 := by decide
  have a : (0 < x.toInt64) ↔ 0 < x := by rw [Int64.lt_iff_toInt_lt, Int32.lt_iff_toInt_lt, Int32.toInt_toInt64, e0, e1]
  have b : (x.toInt64 < 0) ↔ x < 0 := by rw [Int64.lt_iff_toInt_lt, Int32.lt_iff_toInt_lt, Int32.toInt_toInt64, e0, e1]
  unfold pSgn vSg
  by_cases h : 0 < x
  · rw [if_pos (a.mpr h), if_pos h]
  · rw [if_neg (fun z => h (a.mp z)), if_neg h]
    by_cases h2 : x < 0
    · rw [if_pos (b.mpr h2), if_pos h2]
    · rw [if_neg (fun z => h2 (b.mp z)), if_neg h2]
-- the two sides
def kW (I : Nat → Nat → Int32) : vw := vOf (I 20 9) (I 24 12) (I 40 12) (nn (I 18 2)) (I 24) (I 40)
theorem kW_n {I : Nat → Nat → Int32} {n : Nat} (hn : n ≤ 12) (h : I 18 2 = nI n) : kW I = vOf (I 20 9) (I 24 12) (I 40 12) n (I 24) (I 40) := by unfold kW; rw [h, nn_nI hn]
theorem kW.off {I I1 : Nat → Nat → Int32} (h1 : I1 20 9 = I 20 9) (h2 : I1 24 = I 24) (h3 : I1 40 = I 40) (h4 : I1 18 2 = I 18 2) : kW I1 = kW I := by
  unfold kW
  rw [h1, h2, h3, h4]
def cQ (I I1 : Nat → Nat → Int32) (q : vw) : Prop := eqO cS0 I I1 ∧ (∃ n, cI I1 n) ∧ kW I1 = q
def cR (I I1 : Nat → Nat → Int32) : Prop := eqO cS0 I I1 ∧ (∃ n, cI I1 n) ∧ kW I1 = kW I
def kV (I : Nat → Nat → Int32) : vw := vOf (I 168 3) (I 22 8) (I 22 9) (nn (I 22 7)) (I 136) (I 152)
theorem kV_n {I : Nat → Nat → Int32} {n : Nat} (hn : n ≤ 12) (h : I 22 7 = nI n) : kV I = vOf (I 168 3) (I 22 8) (I 22 9) n (I 136) (I 152) := by unfold kV; rw [h, nn_nI hn]
theorem kV.off {I I1 : Nat → Nat → Int32} (h1 : I1 168 3 = I 168 3) (h2 : I1 22 8 = I 22 8) (h3 : I1 22 9 = I 22 9) (h4 : I1 22 7 = I 22 7) (h5 : I1 136 = I 136) (h6 : I1 152 = I 152) : kV I1 = kV I := by
  unfold kV
  rw [h1, h2, h3, h4, h5, h6]
theorem kV.rw {I I1 : Nat → Nat → Int32} (h1 : I1 168 = I 168) (h2 : I1 22 = I 22) (h5 : I1 136 = I 136) (h6 : I1 152 = I 152) : kV I1 = kV I := kV.off (by rw [h1]) (by rw [h2]) (by rw [h2]) (by rw [h2]) h5 h6
/-- a row that isn't compared -/
theorem kV.uo {I : Nat → Nat → Int32} {i k : Nat} {v : Int32} (h1 : 168 ≠ i) (h2 : 22 ≠ i) (h5 : 136 ≠ i) (h6 : 152 ≠ i) : kV (aj_u I i k v) = kV I := kV.rw (aj_u_o _ _ h1) (aj_u_o _ _ h2) (aj_u_o _ _ h5) (aj_u_o _ _ h6)
theorem kV.t {I : Nat → Nat → Int32} {v : Int32} : kV (aj_u I 22 0 v) = kV I := kV.off (congrFun (aj_u_o _ _ (by decide)) 3) (aj_u_k _ _ _ (by decide)) (aj_u_k _ _ _ (by decide)) (aj_u_k _ _ _ (by decide)) (aj_u_o _ _ (by decide)) (aj_u_o _ _ (by decide))
theorem kV.h {I : Nat → Nat → Int32} {k : Nat} {v : Int32} (hk : k ≠ 3) : kV (aj_u I 168 k v) = kV I := kV.off (aj_u_k _ _ _ (Ne.symm hk)) (congrFun (aj_u_o _ _ (by decide)) 8) (congrFun (aj_u_o _ _ (by decide)) 9) (congrFun (aj_u_o _ _ (by decide)) 7) (aj_u_o _ _ (by decide)) (aj_u_o _ _ (by decide))
/-- sign by shifts -/
def mSn (x : Int32) : Int32 := (x >>> ((31 : Int32) &&& 31)) ||| ((-x).toUInt32 >>> ((31 : Int32).toUInt32 &&& Int32.toUInt32 31)).toInt32
theorem mSn_vSg (x : Int32) : mSn x = vSg x := by
  have s1 : (x >>> ((31 : Int32) &&& 31)).toInt = x.toInt >>> 31 := pk_shr x _ 31 (by decide)
  have s2 : ((-x).toUInt32 >>> ((31 : Int32).toUInt32 &&& Int32.toUInt32 31)).toInt32.toBitVec.toNat = (-x).toBitVec.toNat / 2 ^ 31 := pk_ushr (-x) 31 31 (by decide)
  rw [Int.shiftRight_eq_div_pow] at s1
  rw [Int32.toBitVec_neg, BitVec.toNat_neg] at s2
  have hx : x.toInt = if 2 * x.toBitVec.toNat < 2 ^ 32 then (x.toBitVec.toNat : Int) else (x.toBitVec.toNat : Int) - (2 ^ 32 : Nat) := BitVec.toInt_eq_toNat_cond x.toBitVec
  have hb : x.toBitVec.toNat < 2 ^ 32 := x.toBitVec.isLt
  have e0 : (0 : Int32).toInt = 0 := by decide
  have u01 : ∀ (z : Int32), z.toBitVec.toNat = 0 → z = 0 := fun z h => Int32.toBitVec_inj.mp (BitVec.eq_of_toNat_eq h)
  have u11 : ∀ (z : Int32), z.toBitVec.toNat = 1 → z = 1 := fun z h => Int32.toBitVec_inj.mp (BitVec.eq_of_toNat_eq h)
  unfold mSn vSg
  generalize x >>> ((31 : Int32) &&& 31) = p at s1
  generalize ((-x).toUInt32 >>> ((31 : Int32).toUInt32 &&& Int32.toUInt32 31)).toInt32 = u at s2
  by_cases h : 0 < x
  · rw [if_pos h]
    rw [Int32.lt_iff_toInt_lt, e0] at h
    split at hx
    · rw [show p = 0 from Int32.toInt_inj.mp (by rw [s1, e0]; omega), u11 u (by rw [s2]; omega)]; decide
    · omega
  · rw [if_neg h]
    rw [Int32.lt_iff_toInt_lt, e0] at h
    by_cases h2 : x < 0
    · rw [if_pos h2]
      rw [Int32.lt_iff_toInt_lt, e0] at h2
      have hp : p = -1 := Int32.toInt_inj.mp (by rw [s1, show (-1 : Int32).toInt = -1 by decide]; split at hx <;> omega)
      rw [hp]
      have hu : u.toBitVec.toNat = 0 ∨ u.toBitVec.toNat = 1 := by rw [s2]; omega
      rcases hu with hu | hu
      · rw [u01 u hu]; decide
      · rw [u11 u hu]; decide
    · rw [if_neg h2]
      rw [Int32.lt_iff_toInt_lt, e0] at h2
      have z : x.toInt = 0 := by omega
      have z2 : x.toBitVec.toNat = 0 := by split at hx <;> omega
      rw [show p = 0 from Int32.toInt_inj.mp (by rw [s1, e0, z]; decide), u01 u (by rw [s2, z2])]; decide
