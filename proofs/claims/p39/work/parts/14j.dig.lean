-- THE CLASS'S DIGEST (for part 14j; needs core_sound)
def mx (d : Int64) (v : Int32) : Int64 := d * 31 + v.toInt64
def fO (F : Nat → Int64 → Int64) : Nat → Int64 → Int64
  | 0, d => d
  | j + 1, d => F j (fO F j d)
theorem fO_0 {F : Nat → Int64 → Int64} {d : Int64} : fO F 0 d = d := rfl
theorem fO_s {F : Nat → Int64 → Int64} {n : Nat} {d : Int64} : fO F (n + 1) d = F n (fO F n d) := rfl
theorem fO_c {F G : Nat → Int64 → Int64} : ∀ n d, (∀ j, j < n → ∀ d, F j d = G j d) → fO F n d = fO G n d := by
  intro n
  induction n with
  | zero => intro d _; rfl
  | succ n ih =>
    intro d h
    show F n (fO F n d) = G n (fO G n d)
    rw [ih d (fun j hj => h j (by omega)), h n (by omega)]
def lwC (I : Nat → Nat → Int32) (c : Nat) : Int32 := if pFixed (I c 0) (I c 1) = true then pLD (I c 0) (I c 1) (I c 3) else -9
def sdC (I : Nat → Nat → Int32) (c d : Nat) : Int32 := if pNull (I c 0) (I c 1) = true then -9 else if pNull (I d 0) (I d 1) = true then -9 else pSgn (pCross (I c 0) (I c 1) (I d 0) (I d 1)).toInt64
def lkC (I : Nat → Nat → Int32) (c d : Nat) : Bool := decide (pOrd (I c 3) (I c 1) (I c 2) (I d 3) (I d 1) (I d 2) = 0) || (pNoSize (I c 1) (I c 3) && pNoSize (I d 1) (I d 3))
def fdC (I : Nat → Nat → Int32) (V : Nat → Nat → Option Nat) (j : Nat) : Nat := vfi (fun q => decide (pO I (vc V q) (vc V j) = 0)) 8
def dcC (I : Nat → Nat → Int32) (V : Nat → Nat → Option Nat) (j : Nat) (d : Int64) : Int64 := mx (mx (mx (mx (mx (mx (mx (mx d (I (vc V j) 0)) (I (vc V j) 1)) (I (vc V j) 2)) (pFD (I (vc V j) 2) (AGc I (vc V j)))) (lwC I (vc V j))) (pRD (AGc I (vc V j)) 29)) (egR (tc I (vc V j)))) (nI (fdC I V j))
def dcP (I : Nat → Nat → Int32) (V : Nat → Nat → Option Nat) (a b : Nat) (d : Int64) : Int64 := mx (mx (mx d (pOrd (I (vc V a) 3) (I (vc V a) 1) (I (vc V a) 2) (I (vc V b) 3) (I (vc V b) 1) (I (vc V b) 2))) (bI (lkC I (vc V a) (vc V b)))) (sdC I (vc V a) (vc V b))
def dcO (I : Nat → Nat → Int32) (V : Nat → Nat → Option Nat) (d : Int64) : Int64 := fO (fun a d => fO (fun n d => dcP I V a (a + 1 + n) d) (7 - a) d) 8 (fO (dcC I V) 8 d)
def dRow (R : Nat → Int32) (n : Nat) (d : Int64) : Int64 := fO (fun k d => mx d (R k)) n (mx d (nI n))
def dcF (I : Nat → Nat → Int32) (n : Nat) (d : Int64) : Int64 := mx (mx (dRow (I 72) (nn (I 18 6)) (mx (mx (dRow (I 56) (nn (I 18 4)) (mx (mx (fO (fun k d => mx (mx d (I 24 k)) (I 40 k)) n (mx d (nI n))) (I 24 12)) (I 40 12))) (bI (rwS pOW (I 24) (I 40) (I 24 12) (I 40 12) (fun p => nn (I 56 p)) (nn (I 18 4))))) (rwT (I 24) (I 40) (I 24 12) (I 40 12) (fun p => nn (I 56 p)) (nn (I 18 4))))) (hrT (I 24) (I 40) (fun p => nn (I 72 p)) (nn (I 18 6)))) (anRo (kW I))
def dcH (I : Nat → Nat → Int32) (d : Int64) : Int64 := fO (fun w d => mx d (I 20 (6 + w))) 4 d
theorem dRow_c {R S : Nat → Int32} {n : Nat} {d : Int64} (h : ∀ k, k < n → R k = S k) : dRow R n d = dRow S n d := fO_c n _ (fun k hk d => by rw [h k hk])
theorem cs_nA : ∀ c ∈ aj_CS, c ∉ ([163, 179, 195] : List Nat) := by decide
theorem cs_n {c : Nat} (h : c ∈ aj_CS) : c ∉ ([163, 179, 195] : List Nat) := cs_nA c h
theorem dcC_eq {I I1 : Nat → Nat → Int32} {V : Nat → Nat → Option Nat} {N : Nat → Nat} {L : List Nat} (hB : bV V N L) (h : ∀ c ∈ aj_CS, I1 c = I c) {j : Nat} (hj : j < 8) (d : Int64) : dcC I1 V j d = dcC I V j d := by
  have e := h _ (vcM hB hj)
  have f : fdC I1 V j = fdC I V j := vfi_c 8 (fun q hq => by
    unfold pO
    rw [h _ (vcM hB hq), e])
  unfold dcC lwC AGc tc
  rw [f, e]
theorem dcP_eq {I I1 : Nat → Nat → Int32} {V : Nat → Nat → Option Nat} {N : Nat → Nat} {L : List Nat} (hB : bV V N L) (h : ∀ c ∈ aj_CS, I1 c = I c) {a b : Nat} (ha : a < 8) (hb : b < 8) (d : Int64) : dcP I1 V a b d = dcP I V a b d := by
  unfold dcP lkC sdC
  rw [h _ (vcM hB ha), h _ (vcM hB hb)]
theorem vfi_fst {p : Nat → Bool} : ∀ n q, q < vfi p n → p q = false := by
  intro n
  induction n with
  | zero => intro q h; exact absurd h (Nat.not_lt_zero q)
  | succ n ih =>
    intro q h
    unfold vfi at h
    by_cases a : vfi p n < n
    · rw [if_pos a] at h
      exact ih q h
    · have e : vfi p n = n := by have := vfi_le p n; omega
      rw [if_neg a] at h
      by_cases b : p n = true
      · rw [if_pos b] at h
        exact vfi_lt' e q h
      · rw [if_neg b] at h
        rcases Nat.lt_or_ge q n with w | w
        · exact vfi_lt' e q w
        · rw [show q = n by omega]
          exact Bool.eq_false_iff.mpr b
theorem cL_e {I I1 : Nat → Nat → Int32} (h : ∀ c ∈ aj_CS, I1 c = I c) (hL : cL I) : cL I1 := fun c hc => by
  unfold tc
  rw [h c hc]
  exact hL c hc
/-- what find answers -/
theorem fdC_of {I I1 : Nat → Nat → Int32} {V : Nat → Nat → Option Nat} {N : Nat → Nat} {L : List Nat} {c j : Nat} (hB : bV V N L) (hL : cL I) (h : ∀ c ∈ aj_CS, I1 c = I c) (hc : c < 8) (hf : (∃ i, i < 8 ∧ j = cdN false i ∧ pO I1 (vc V (cdN false i)) (vc V c) = 0 ∧ ∀ q, q < i → ¬ pO I1 (vc V (cdN false q)) (vc V c) = 0) ∨ ∀ q, q < 8 → ¬ pO I1 (vc V (cdN false q)) (vc V c) = 0) : j = fdC I V c := by
  have h0 : ∀ q, cdN false q = q := fun q => if_neg (by decide)
  have e : ∀ q, q < 8 → pO I1 (vc V q) (vc V c) = pO I (vc V q) (vc V c) := fun q hq => by
    unfold pO
    rw [h _ (vcM hB hq), h _ (vcM hB hc)]
  rcases hf with ⟨i, hi, ej, h1, h2⟩ | hf
  · rw [ej, h0]
    rw [h0, e i hi] at h1
    exact (vfi_some (p := fun q => decide (pO I (vc V q) (vc V c) = 0)) (decide_eq_true h1) (fun q hq => by
      have z := h2 q hq
      rw [h0, e q (by omega)] at z
      exact decide_eq_false z) 8 hi).symm
  · exfalso
    have z := hf c hc
    rw [h0, e c hc] at z
    exact z ((tc_ord hL (vcM hB hc) (vcM hB hc)).trans (tO_self (hL _ (vcM hB hc)).1))
/-- the field's part from its pieces -/
theorem dcF_of {I I2 : Nat → Nat → Int32} {n rc qc : Nat} {d r v : Int64} {b : Bool} {r2 hh : Int32} (h4 : nn (I 18 4) = rc) (h6 : nn (I 18 6) = qc) (hr : r = fO (fun k d => mx (mx d (I 24 k)) (I 40 k)) n (mx d (nI n))) (hb : b = rwS pOW (I 24) (I 40) (I 24 12) (I 40 12) (fun p => nn (I 56 p)) (nn (I 18 4))) (hv : v = (bI b).toInt64) (ha : r2 = rwT (I 24) (I 40) (I 24 12) (I 40 12) (fun p => nn (I 56 p)) (nn (I 18 4))) (e72 : I2 72 = I 72) (hH : hh = hrT (I 24) (I 40) (fun p => nn (I 72 p)) (nn (I 18 6))) (hk : kW I2 = kW I) : mx (mx (dRow (I2 72) qc (mx (dRow (I 56) rc (mx (mx r (I 24 12)) (I 40 12)) * 31 + v) r2)) hh) (anRo (kW I2)) = dcF I n d := by
  rw [e72, hk, hH, ha, hv, hb, hr, ← h4, ← h6]
  rfl
theorem dcF_eq {I I1 : Nat → Nat → Int32} {n : Nat} {d : Int64} (h1 : I1 24 = I 24) (h2 : I1 40 = I 40) (h3 : I1 18 = I 18) (h4 : I1 56 = I 56) (h5 : I1 72 = I 72) (hk : kW I1 = kW I) : dcF I1 n d = dcF I n d := by
  unfold dcF
  rw [h1, h2, h3, h4, h5, hk]
theorem pairsG_eq {I I1 : Nat → Nat → Int32} {V : Nat → Nat → Option Nat} {N : Nat → Nat} {L : List Nat} (hB : bV V N L) (h : ∀ c ∈ aj_CS, I1 c = I c) (hp : pairsG I V) : pairsG I1 V := fun i j hij hj => by
  have z := hp i j hij hj
  unfold pairG AGc at z ⊢
  rw [h _ (vcM hB (show i < 8 by omega)), h _ (vcM hB hj)]
  exact z
/-- one more pair -/
theorem dPk {I : Nat → Nat → Int32} {V : Nat → Nat → Option Nat} {j k : Nat} {D r r1 : Int64} (h : r = fO (fun n d => dcP I V j (j + 1 + n) d) (k - (j + 1)) D) (hjk : j < k) (e : r1 = dcP I V j k r) : r1 = fO (fun n d => dcP I V j (j + 1 + n) d) (k + 1 - (j + 1)) D := by
  rw [show k + 1 - (j + 1) = k - (j + 1) + 1 by omega]
  show r1 = dcP I V j (j + 1 + (k - (j + 1))) (fO (fun n d => dcP I V j (j + 1 + n) d) (k - (j + 1)) D)
  rw [← h, show j + 1 + (k - (j + 1)) = k by omega]
  exact e
theorem kW_m {I I1 : Nat → Nat → Int32} {S : List Nat} (e : eqO S I I1) (h1 : 20 ∉ S) (h2 : 24 ∉ S) (h3 : 40 ∉ S) (h4 : 18 ∉ S) : kW I1 = kW I := kW.off (hW_e (e 20 h1)) (e 24 h2) (e 40 h3) (by rw [e 18 h4])
theorem bL0 : (bI false).toInt64 = 0 := by decide
theorem bL1 : (bI true).toInt64 = 1 := by decide
