-- PURE WORDS
def bI (b : Bool) : Int32 := if b then 1 else 0
theorem bI_t : bI true = 1 := rfl
theorem bI_f : bI false = 0 := rfl
theorem bI_0 {b : Bool} : bI b = 0 ↔ b = false := by cases b <;> decide
theorem bI_1 {b : Bool} : bI b = 1 ↔ b = true := by cases b <;> decide
theorem bI_n {b : Bool} : ¬ bI b = 0 ↔ b = true := by cases b <;> decide
theorem bI_e {b c : Bool} : bI b = bI c ↔ b = c := by cases b <;> cases c <;> decide
theorem bI_nar (b : Bool) : narrow .boolean (.int (bI b)) = .int (bI b) := by cases b <;> rfl
section BR
variable {G : aj_G} {cc : ByteArray} {tbl : List (Nat × Instr × Nat)} {own : String} {R0 : Room} {nL : Nat} {pc q : Nat} {lv lv' : List (Option Value)} {st st' : List Value} {I : Nat → Nat → Int32} {J : Nat → Nat → Int64} {V : Nat → Nat → Option Nat} {N : Nat → Nat} {L : List Nat} {bc bs : Nat}
theorem x_if_eqB (C : aj_C G cc tbl own R0 nL) (k : Nat) {x : Bool} {off : Int} {t : Nat} (h : tbl[k]? = some (pc, .ifCond .eq off, 3)) (ht : (pc : Int) + off = (t : Int)) (hq : pc + 3 = q) (kt : x = false → aj_X G t lv st I J V N L bc bs) (kf : x = true → aj_X G q lv st I J V N L bc bs) : aj_X G pc lv (.int (bI x) :: st) I J V N L bc bs := x_if_eq C k h ht hq (fun z => kt (bI_0.mp z)) (fun z => kf (bI_n.mp z))
theorem x_if_neB (C : aj_C G cc tbl own R0 nL) (k : Nat) {x : Bool} {off : Int} {t : Nat} (h : tbl[k]? = some (pc, .ifCond .ne off, 3)) (ht : (pc : Int) + off = (t : Int)) (hq : pc + 3 = q) (kt : x = true → aj_X G t lv st I J V N L bc bs) (kf : x = false → aj_X G q lv st I J V N L bc bs) : aj_X G pc lv (.int (bI x) :: st) I J V N L bc bs := x_if_ne C k h ht hq (fun z => kt (bI_n.mp z)) (fun z => kf (bI_0.mp z))
theorem x_icmp_eqB (C : aj_C G cc tbl own R0 nL) (k : Nat) {x y : Bool} {off : Int} {t : Nat} (h : tbl[k]? = some (pc, .if_icmp .eq off, 3)) (ht : (pc : Int) + off = (t : Int)) (hq : pc + 3 = q) (kt : x = y → aj_X G t lv st I J V N L bc bs) (kf : ¬ x = y → aj_X G q lv st I J V N L bc bs) : aj_X G pc lv (.int (bI y) :: .int (bI x) :: st) I J V N L bc bs := x_icmp_eq C k h ht hq (fun z => kt (bI_e.mp z)) (fun z => kf (fun w => z (bI_e.mpr w)))
end BR
theorem aj_lf {K : aj_K} {I : Nat → Nat → Int32} {J : Nat → Nat → Int64} {V : Nat → Nat → Option Nat} {N : Nat → Nat} {L : List Nat} {x y : Int32} (h : K (.inl (some (.int x))) I J V N L) (e : x = y) : K (.inl (some (.int y))) I J V N L := e ▸ h
theorem aj_lfL {K : aj_K} {I : Nat → Nat → Int32} {J : Nat → Nat → Int64} {V : Nat → Nat → Option Nat} {N : Nat → Nat} {L : List Nat} {x y : Int64} (h : K (.inl (some (.long x))) I J V N L) (e : x = y) : K (.inl (some (.long y))) I J V N L := e ▸ h
theorem aj_lfI {K : aj_K} {o : Option Value ⊕ String} {I I2 : Nat → Nat → Int32} {J : Nat → Nat → Int64} {V : Nat → Nat → Option Nat} {N : Nat → Nat} {L : List Nat} (h : K o I J V N L) (e : I = I2) : K o I2 J V N L := e ▸ h
theorem aj_u_u {α : Type} (f : Nat → Nat → α) (i k : Nat) (v w : α) : aj_u (aj_u f i k v) i k w = aj_u f i k w := by
  funext a b
  unfold aj_u
  by_cases h : a = i ∧ b = k
  · rw [if_pos h, if_pos h]
  · rw [if_neg h, if_neg h, if_neg h]
theorem aj_u_k {α : Type} (f : Nat → Nat → α) (i : Nat) {k a b : Nat} (v : α) (h : b ≠ k) : aj_u f i k v a b = f a b := aj_u_n f v (fun z => h z.2)
theorem aj_u_i {α : Type} (f : Nat → Nat → α) {i : Nat} (k : Nat) {a b : Nat} (v : α) (h : a ≠ i) : aj_u f i k v a b = f a b := aj_u_n f v (fun z => h z.1)
-- a step: across x, up u, signs s, look k
def pUp (s : Int32) : Bool := decide (s &&& 2 = 0)
def pNull (x u : Int32) : Bool := decide (x = 0) && decide (u = 0)
def pNoSize (u k : Int32) : Bool := decide (u = 0) && decide (0 < k)
def pDiag (x u : Int32) : Bool := !decide (u = 0) && (decide (x = u) || decide (x = -u))
def pFixed (x u : Int32) : Bool := decide (u = 0) || decide (x = 0) || pDiag x u
def pTwin (x u s x' u' s' : Int32) : Bool := decide (x = x') && decide (u = u') && decide (s = s')
def pOrd (k u s k' u' s' : Int32) : Int32 := if pUp s = pUp s' then (if k * u' - u * k' = 0 then (if 0 < k * k' + u * u' then 0 else if pUp s = decide (0 < k) then -1 else 1) else if 0 < k * u' - u * k' then -1 else 1) else if pUp s = true then 1 else -1
def pCross (x u x' u' : Int32) : Int32 := x * u' - u * x'
def pSgn (v : Int64) : Int32 := if 0 < v then 1 else if v < 0 then -1 else 0
def pSgA (na zs : Int32) : Int32 := if na = 0 then zs &&& 1 else if na < 0 then 1 else 0
def pSgU (nu zs : Int32) : Int32 := if nu = 0 then zs &&& 2 else if nu < 0 then 2 else 0
def pSg (na nu zs : Int32) : Int32 := pSgA na zs ||| pSgU nu zs
def pLk (na nu zs : Int32) : Int32 := if na = 0 then (if nu = 0 then (if pSg na nu zs &&& 1 = 0 then 1 else -1) else na) else na
def stB (I : Nat → Nat → Int32) (a : Nat) (na nu zs : Int32) : Nat → Nat → Int32 := aj_u (aj_u (aj_u (aj_u I a 0 na) a 1 nu) a 2 (pSg na nu zs)) a 3 (pLk na nu zs)

def pRA (w : Nat) (x u : Int32) : Int32 := match w with | 0 => x | 1 => -x | 2 => -u | 3 => u | 4 => u | _ => -x
def pRU (w : Nat) (x u : Int32) : Int32 := match w with | 0 => -u | 1 => u | 2 => x | 3 => -x | 4 => x | _ => -u
def pSw (s : Int32) : Int32 := (s &&& 1) <<< ((1 : Int32) &&& 31) ||| (s &&& 2) >>> ((1 : Int32) &&& 31)
def pRS (w : Nat) (s : Int32) : Int32 := match w with | 0 => s ^^^ 2 | 1 => s ^^^ 1 | 2 => pSw s ^^^ 1 | 3 => pSw s ^^^ 2 | 4 => pSw s | _ => s ^^^ 3
def pTq (v n d : Int64) : Int64 := if d ≤ 0 then 0 else v / d * n + (v - v / d * d) * n / d
theorem pTq_ne {d : Int64} (h : 0 < d) : ¬ d = 0 := fun e => by rw [e] at h; exact absurd h (by decide)
def pArcL (h s : Int64) : Nat → Int32 → Int64 → Int64 → Int64
  | 0, _, _, sm => sm
  | n + 1, k, t, sm => if t ≤ 0 then sm else pArcL h s n (k + 1) (pTq t ((2 * k).toInt64 * h * h) ((2 * k + 1).toInt64 * s)) (sm + pTq t ((2 * k).toInt64 * h * h) ((2 * k + 1).toInt64 * s))
def pArc (h w : Int64) : Int64 := pArcL h (h * h + w * w) 60 1 (pTq 1152921504606846976 (h * w) (h * h + w * w)) (pTq 1152921504606846976 (h * w) (h * h + w * w))
theorem pk_ngt {a b : Nat} (h : a ≤ b) (hb : b < 2 ^ 31) : ¬ nI b < nI a := nI_nlt h hb
def pAb (v : Int64) : Int64 := if v < 0 then -v else v
def pAbI (x : Int32) : Int64 := if x < 0 then (-x).toInt64 else x.toInt64
def pBtw (x u : Int32) : Int64 := if 0 < x then (if pAbI u ≤ pAbI x then pArc (pAbI u) (pAbI x) else 1811004864519280711 - pArc (pAbI x) (pAbI u)) else 3622009729038561421 - (if pAbI u ≤ pAbI x then pArc (pAbI u) (pAbI x) else 1811004864519280711 - pArc (pAbI x) (pAbI u))
def pRD (v : Int64) (d : Int32) : Int32 := (v >>> (((60 : Int32) - d).toInt64 &&& 63)).toInt32
def pPw (v : Int64) : Nat → Int32 → Int32
  | 0, w => w
  | n + 1, w => if v >>> (((60 : Int32) + w).toInt64 &&& 63) = 0 then pPw v n (w + Int32.ofInt (-1)) else w
theorem pk_pw : ∀ n : Nat, n < 8 → ¬ Int32.ofInt (((n + 1 : Nat) : Int) - 7) ≤ -7 := by decide
def pHd (v : Int64) (w : Int32) : Int32 := (w + 1023) <<< ((20 : Int32) &&& 31) ||| ((v >>> (((60 : Int32) + w - 20).toInt64 &&& 63)).toInt32 - 1048576)
def pEH (v : Int64) : Int32 := if v = 0 then 0 else pHd v (pPw v 8 1)
def pRk (x : Int32) : Int32 := if x < 0 then (x &&& 2147483647) ^^^ -1 else x
def pSB1 (w : Int64) : Int64 := if 3622009729038561280 < w then w - 7244019458077122560 else if w < -3622009729038561280 then w + 7244019458077122560 else w
def pSB (x y : Int64) : Int32 := if pAb (pSB1 (y - x)) < 1099511627776 then 0 else if 3622009729038561280 - pAb (pSB1 (y - x)) < 1099511627776 then 0 else pSgn (pSB1 (y - x))
def pSz (x u k : Int32) : Int64 := if pNoSize u k = true then 0 else if u = 0 then 3622009729038561280 else if x = 0 then 1811004864519280640 else pBtw x u
def pAng (x u s k : Int32) : Int64 := if pUp s = true then pSz x u k else -pSz x u k
def pFD (s : Int32) (g : Int64) : Int32 := if pUp s = true then pEH (pAb g) else pEH (pAb g) ||| -2147483648
def pLD (x u k : Int32) : Int32 := if pNoSize u k = true then 0 else if pDiag x u = true then (if x < 0 then (802078686650834 : Int64).toInt32 else (2570638124657944 : Int64).toInt32) else (2570638124657944 : Int64).toInt32
