-- PLACES ALL DIFFER
def vD (v : vw) : Prop := ∀ i j, i < j → j < vN v → ¬ (vP v i = vP v j ∧ vQ v i = vQ v j)
theorem vfi_lt' {p : Nat → Bool} {n : Nat} (h : vfi p n = n) : ∀ k, k < n → p k = false := fun k hk => by
  cases z : p k with
  | false => rfl
  | true => exact absurd (vfi_lt hk z) (by omega)
theorem vfi_at {p : Nat → Bool} {m : Nat} : ∀ n, vfi p n = m → m < n → p m = true := by
  intro n
  induction n with
  | zero => intro _ h; omega
  | succ n ih =>
    intro h hm
    unfold vfi at h
    by_cases z : vfi p n < n
    · rw [if_pos z] at h; exact ih h (by omega)
    · rw [if_neg z] at h
      by_cases w : p n = true
      · rw [if_pos w] at h; subst h; exact w
      · rw [if_neg w] at h; omega
theorem vEq_i {f g : Nat → Int32} {x y : Int32} {k : Nat} (h : vEq f g x y k = true) : f k = x ∧ g k = y := by
  unfold vEq at h
  simpa only [Bool.and_eq_true, decide_eq_true_eq] using h
theorem vEq_no {f g : Nat → Int32} {x y : Int32} {k : Nat} (h : vEq f g x y k = false) : ¬ (f k = x ∧ g k = y) := fun z => by
  rw [vEq_t z.1 z.2] at h; exact absurd h (by decide)
theorem vD_of {a b c : Int32} {n : Nat} {f g : Nat → Int32} (h : ∀ i j, i < j → j < n → ¬ (f i = f j ∧ g i = g j)) : vD (vOf a b c n f g) := by
  intro i j hi hj
  have hj : j < n := hj
  show ¬ (vMk n f i = vMk n f j ∧ vMk n g i = vMk n g j)
  rw [vMk_l hj, vMk_l hj, vMk_l (show i < n by omega), vMk_l (show i < n by omega)]
  exact h i j hi hj
theorem vD.kn {v : vw} (h : vD v) : vD (nxKn v) := h
theorem vD.ce {v : vw} {x y : Int32} (h : vD v) : vD (nxCe x y v) := by
  unfold nxCe
  split
  · exact h
  · exact h
theorem vD.tu {v : vw} (h : vD v) : vD (nxTu v) := vD_of (fun i j hi hj z => h i j hi hj ⟨z.2, (Int32.sub_right_inj (-1)).mp z.1⟩)
theorem vD.mi {v : vw} (h : vD v) : vD (nxMi v) := vD_of (fun i j hi hj z => h i j hi hj ⟨(Int32.sub_right_inj (-1)).mp z.1, z.2⟩)
theorem vD.ad {v : vw} {x y : Int32} (h : vD v) : vD (nxAdd x y v) := by
  cases z : bAdd x y v with
  | false => rw [nxAdd_f z]; exact h
  | true =>
    have hF : ∀ k, k < vN v → ¬ (vP v k = x ∧ vQ v k = y) := by
      unfold bAdd vF at z
      simp only [Bool.and_eq_true, decide_eq_true_eq] at z
      exact fun k hk => vEq_no (vfi_lt' z.2.2 k hk)
    unfold nxAdd
    rw [if_pos z]
    refine vD_of (fun i j hi hj => ?_)
    show ¬ ((if i = vN v then x else vP v i) = (if j = vN v then x else vP v j) ∧ (if i = vN v then y else vQ v i) = (if j = vN v then y else vQ v j))
    rw [if_neg (show ¬ i = vN v by omega), if_neg (show ¬ i = vN v by omega)]
    by_cases w : j = vN v
    · rw [if_pos w, if_pos w]; exact hF i (by omega)
    · rw [if_neg w, if_neg w]; exact h i j hi (by omega)
theorem vD.rm {v : vw} {p : Int32} (h : vD v) : vD (nxRem p v) := by
  unfold nxRem
  split
  · refine vD_of (fun i j hi hj => ?_)
    show ¬ ((if nn p ≤ i then vP v (i + 1) else vP v i) = (if nn p ≤ j then vP v (j + 1) else vP v j) ∧ (if nn p ≤ i then vQ v (i + 1) else vQ v i) = (if nn p ≤ j then vQ v (j + 1) else vQ v j))
    by_cases a : nn p ≤ i
    · rw [if_pos a, if_pos a, if_pos (show nn p ≤ j by omega), if_pos (show nn p ≤ j by omega)]
      exact h (i + 1) (j + 1) (by omega) (by omega)
    · rw [if_neg a, if_neg a]
      by_cases b : nn p ≤ j
      · rw [if_pos b, if_pos b]; exact h i (j + 1) (by omega) (by omega)
      · rw [if_neg b, if_neg b]; exact h i j hi (by omega)
  · exact h
theorem vD.mo {v : vw} {p x y : Int32} (h : vD v) : vD (nxMov p x y v) := by
  cases z : bMov p x y v with
  | false => rw [nxMov_f z]; exact h
  | true =>
    unfold nxMov
    rw [if_pos z]
    unfold bMov vF at z
    simp only [Bool.and_eq_true, Bool.or_eq_true, decide_eq_true_eq] at z
    have hF : ∀ k, k < vN v → k ≠ nn p → ¬ (vP v k = x ∧ vQ v k = y) := by
      intro k hk hn
      rcases z.2.2 with w | w
      · exact vEq_no (vfi_lt' w k hk)
      · by_cases w2 : nn p < vN v
        · have e := vEq_i (vfi_at _ w w2)
          rcases Nat.lt_or_ge k (nn p) with q | q
          · exact fun u => h k (nn p) q w2 ⟨u.1.trans e.1.symm, u.2.trans e.2.symm⟩
          · exact fun u => h (nn p) k (by omega) hk ⟨e.1.trans u.1.symm, e.2.trans u.2.symm⟩
        · have := vfi_le (vEq (vP v) (vQ v) x y) (vN v)
          exact vEq_no (vfi_lt' (by omega) k hk)
    refine vD_of (fun i j hi hj => ?_)
    show ¬ ((if i = nn p then x else vP v i) = (if j = nn p then x else vP v j) ∧ (if i = nn p then y else vQ v i) = (if j = nn p then y else vQ v j))
    by_cases a : i = nn p
    · rw [if_pos a, if_pos a, if_neg (show ¬ j = nn p by omega), if_neg (show ¬ j = nn p by omega)]
      exact fun u => hF j hj (by omega) ⟨u.1.symm, u.2.symm⟩
    · rw [if_neg a, if_neg a]
      by_cases b : j = nn p
      · rw [if_pos b, if_pos b]; exact hF i (by omega) a
      · rw [if_neg b, if_neg b]; exact h i j hi hj
-- ORDER OF WAYS
def mCr (a b c d : Int32) : Int32 := a * d - b * c
def mDt (a b c d : Int32) : Int32 := a * c + b * d
def mOrd (a b c d e f : Int32) : Int32 := if c = f then (if mCr a b d e = 0 then (if 0 < mDt a b d e then 0 else if decide (0 < a) = decide (c = 0) then -1 else 1) else if 0 < mCr a b d e then -1 else 1) else f - c
theorem pOrd_mOrd {k u s k' u' s' c f : Int32} (hs : pUp s = decide (c = 0)) (hs' : pUp s' = decide (f = 0)) (hc : c = 0 ∨ c = 1) (hf : f = 0 ∨ f = 1) : pOrd k u s k' u' s' = mOrd k u c k' u' f := by
  unfold pOrd mOrd
  show (if pUp s = pUp s' then (if k * u' - u * k' = 0 then (if 0 < k * k' + u * u' then 0 else if pUp s = decide (0 < k) then -1 else 1) else if 0 < k * u' - u * k' then -1 else 1) else if pUp s = true then 1 else -1) = (if c = f then (if k * u' - u * k' = 0 then (if 0 < k * k' + u * u' then 0 else if decide (0 < k) = decide (c = 0) then -1 else 1) else if 0 < k * u' - u * k' then -1 else 1) else f - c)
  rw [hs, hs']
  have e1 : (decide (c = 0) = decide (f = 0)) ↔ c = f := by rcases hc with rfl | rfl <;> rcases hf with rfl | rfl <;> decide
  have e2 : (decide (c = 0) = decide (0 < k)) ↔ (decide (0 < k) = decide (c = 0)) := ⟨Eq.symm, Eq.symm⟩
  by_cases z : c = f
  · rw [if_pos (e1.mpr z), if_pos z, aj_if e2]
  · rw [if_neg (fun w => z (e1.mp w)), if_neg z]
    rcases hc with rfl | rfl <;> rcases hf with rfl | rfl
    · exact absurd rfl z
    · decide
    · decide
    · exact absurd rfl z
theorem bI_01 (b : Bool) : bI b = 0 ∨ bI b = 1 := by cases b <;> decide
theorem i32_asym {a : Int32} (h : a = 0) : ¬ a < 0 := by rw [h]; decide
theorem pSg_up (a b : Int32) : pUp (pSg a b 0) = decide (bI (decide (b < 0)) = 0) := by
  have hA : pSgA a 0 = 0 ∨ pSgA a 0 = 1 := by
    unfold pSgA
    by_cases z : a = 0
    · rw [if_pos z]; exact Or.inl (by decide)
    · rw [if_neg z]
      by_cases w : a < 0
      · rw [if_pos w]; exact Or.inr rfl
      · rw [if_neg w]; exact Or.inl rfl
  unfold pUp pSg pSgU
  generalize pSgA a 0 = q at hA ⊢
  by_cases z : b = 0
  · rw [if_pos z, decide_eq_false (i32_asym z)]
    rcases hA with rfl | rfl <;> decide
  · rw [if_neg z]
    by_cases w : b < 0
    · rw [if_pos w, decide_eq_true w]
      rcases hA with rfl | rfl <;> decide
    · rw [if_neg w, decide_eq_false w]
      rcases hA with rfl | rfl <;> decide
theorem pLk_nz {a b s : Int32} (h : ¬ (a = 0 ∧ b = 0)) : pLk a b s = a := by
  unfold pLk
  by_cases z : a = 0
  · rw [if_pos z, if_neg (fun w => h ⟨z, w⟩)]
  · rw [if_neg z]
def vWO (a b c d : Int32) : Int32 := mOrd a b (bI (decide (b < 0))) c d (bI (decide (d < 0)))
theorem pOW_vWO {a b c d : Int32} (h : ¬ (a = 0 ∧ b = 0)) (h2 : ¬ (c = 0 ∧ d = 0)) : pOW a b c d = vWO a b c d := by
  unfold pOW vWO
  rw [pLk_nz h, pLk_nz h2]
  exact pOrd_mOrd (pSg_up a b) (pSg_up c d) (bI_01 _) (bI_01 _)
def anBO (p q t : Int32) (v : vw) : Int32 := if nn q = nn p ∨ nn t = nn p then -9 else vWO (vP v (nn q) - vP v (nn p)) (vQ v (nn q) - vQ v (nn p)) (vP v (nn t) - vP v (nn p)) (vQ v (nn t) - vQ v (nn p))
theorem anBO_n {i j k : Nat} (hi : i ≤ 12) (hj : j ≤ 12) (hk : k ≤ 12) {v : vw} (h : j = i ∨ k = i) : anBO (nI i) (nI j) (nI k) v = -9 := by
  unfold anBO
  rw [nn_nI hi, nn_nI hj, nn_nI hk, if_pos h]
theorem anBO_t {a b c : Int32} {n : Nat} {f g : Nat → Int32} {i j k : Nat} (hn : n ≤ 12) (hi : i < n) (hj : j < n) (hk : k < n) (h1 : j ≠ i) (h2 : k ≠ i) : anBO (nI i) (nI j) (nI k) (vOf a b c n f g) = vWO (f j - f i) (g j - g i) (f k - f i) (g k - g i) := by
  unfold anBO
  rw [nn_nI (show i ≤ 12 by omega), nn_nI (show j ≤ 12 by omega), nn_nI (show k ≤ 12 by omega), if_neg (by omega)]
  show vWO (vMk n f j - vMk n f i) (vMk n g j - vMk n g i) (vMk n f k - vMk n f i) (vMk n g k - vMk n g i) = _
  rw [vMk_l hi, vMk_l hi, vMk_l hj, vMk_l hj, vMk_l hk, vMk_l hk]
theorem i32_sub0 {a b : Int32} (h : a - b = 0) : a = b := (Int32.sub_left_inj b).mp (h.trans (Int32.sub_self b).symm)
-- THE WALK
def vfo (n k : Nat) : Nat := if k + 1 < n then k + 1 else 0
theorem vfo_l {n k : Nat} (h : k < n) : vfo n k < n := by unfold vfo; split <;> omega
theorem vfo_m {n k : Nat} (h : k < n) : (k + 1) % n = vfo n k := by
  unfold vfo
  by_cases z : k + 1 < n
  · rw [if_pos z]; exact Nat.mod_eq_of_lt z
  · rw [if_neg z, show k + 1 = n by omega]; exact Nat.mod_self n
theorem pCr_rot (a b c d e f : Int32) : pCr a b c d e f = pCr c d e f a b := by
  unfold pCr
  grind
theorem mCr_pCr (a b c d e f : Int32) : mCr (c - a) (d - b) (e - a) (f - b) = pCr a b c d e f := rfl
def wOn (cx cy : Int32) (f g : Nat → Int32) (n k : Nat) : Bool := decide (pCr cx cy (f k) (g k) (f (vfo n k)) (g (vfo n k)) = 0) && !decide (0 < pDt cx cy (f k) (g k) (f (vfo n k)) (g (vfo n k)))
def wT (cx cy x y u w : Int32) : Int32 := if cy ≤ y then (if w < cy then (if 0 < pCr x y u w cx cy then 1 else 0) else 0) else (if cy ≤ w then (if pCr x y u w cx cy < 0 then -1 else 0) else 0)
def wW (cx cy : Int32) (f g : Nat → Int32) (n k : Nat) : Int32 := wT cx cy (f k) (g k) (f (vfo n k)) (g (vfo n k))
def vSm (w : Nat → Int32) : Nat → Int32
  | 0 => 0
  | n + 1 => vSm w n + w n
theorem vSm_c {w z : Nat → Int32} : ∀ n, (∀ k, k < n → w k = z k) → vSm w n = vSm z n := by
  intro n
  induction n with
  | zero => intro _; rfl
  | succ n ih => intro h; show vSm w n + w n = vSm z n + z n; rw [ih (fun k hk => h k (by omega)), h n (by omega)]
def wRo (cx cy : Int32) (f g : Nat → Int32) (n : Nat) : Int32 := if vfi (wOn cx cy f g n) n < n then -9 else vSm (wW cx cy f g n) n
theorem wRo_t {cx cy : Int32} {f g : Nat → Int32} {n k : Nat} (hk : k < n) (h : wOn cx cy f g n k = true) : wRo cx cy f g n = -9 := if_pos (vfi_lt hk h)
theorem wRo_f {cx cy : Int32} {f g : Nat → Int32} {n : Nat} (h : ∀ k, k < n → wOn cx cy f g n k = false) : wRo cx cy f g n = vSm (wW cx cy f g n) n := by
  unfold wRo
  rw [vfi_none n h, if_neg (Nat.lt_irrefl n)]
theorem wOn_t {cx cy : Int32} {f g : Nat → Int32} {n k : Nat} (h : pCr cx cy (f k) (g k) (f (vfo n k)) (g (vfo n k)) = 0) (h2 : ¬ 0 < pDt cx cy (f k) (g k) (f (vfo n k)) (g (vfo n k))) : wOn cx cy f g n k = true := by
  unfold wOn; rw [decide_eq_true h, decide_eq_false h2]; rfl
theorem wOn_1 {cx cy : Int32} {f g : Nat → Int32} {n k : Nat} (h : ¬ pCr cx cy (f k) (g k) (f (vfo n k)) (g (vfo n k)) = 0) : wOn cx cy f g n k = false := by
  unfold wOn; rw [decide_eq_false h]; rfl
theorem wOn_2 {cx cy : Int32} {f g : Nat → Int32} {n k : Nat} (h2 : 0 < pDt cx cy (f k) (g k) (f (vfo n k)) (g (vfo n k))) : wOn cx cy f g n k = false := by
  unfold wOn; rw [decide_eq_true h2]; exact Bool.and_false _
def anRo (v : vw) : Int32 := wRo (vX v) (vY v) (vP v) (vQ v) (vN v)
theorem anRo_of {a b c : Int32} {n : Nat} {f g : Nat → Int32} : anRo (vOf a b c n f g) = wRo b c f g n := by
  show wRo b c (vMk n f) (vMk n g) n = wRo b c f g n
  have e : ∀ k, k < n → wOn b c (vMk n f) (vMk n g) n k = wOn b c f g n k := fun k hk => by
    have := vfo_l hk
    unfold wOn
    rw [vMk_l hk, vMk_l hk, vMk_l this, vMk_l this]
  have e2 : ∀ k, k < n → wW b c (vMk n f) (vMk n g) n k = wW b c f g n k := fun k hk => by
    have := vfo_l hk
    unfold wW
    rw [vMk_l hk, vMk_l hk, vMk_l this, vMk_l this]
  unfold wRo
  rw [vfi_c n e, vSm_c n e2]
-- OFF THE CENTRE
def ouV (v : vw) (k : Nat) : Bool := !(decide (vP v k = vX v) && decide (vQ v k = vY v))
def anRc (v : vw) : Int32 := nI (cnt (ouV v) (vN v))
theorem anRc_of {a b c : Int32} {n : Nat} {f g : Nat → Int32} : anRc (vOf a b c n f g) = nI (cnt (fun k => !(decide (f k = b) && decide (g k = c))) n) := by
  show nI (cnt (fun k => !(decide (vMk n f k = b) && decide (vMk n g k = c))) n) = _
  congr 1
  refine Nat.le_antisymm (cnt_leb n (fun k hk h => ?_)) (cnt_leb n (fun k hk h => ?_))
  · rw [vMk_l hk, vMk_l hk] at h; exact h
  · rw [vMk_l hk, vMk_l hk]; exact h
