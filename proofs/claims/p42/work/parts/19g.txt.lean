-- TEXTS: lemmas
theorem nd_of : ∀ {l : List Nat}, l.Nodup → va_nd l = true := by
  intro l
  induction l with
  | nil => intro _; rfl
  | cons a l ih =>
    intro h
    obtain ⟨h1, h2⟩ := List.nodup_cons.mp h
    simp [va_nd, h1, ih h2]
theorem keep_map (X Y : List Nat) : (List.range X.length).map (fun k => (X ++ Y)[k]?) = X.map some := by
  refine List.ext_getElem? (fun k => ?_)
  rw [List.getElem?_map, List.getElem?_map]
  by_cases h : k < X.length
  · rw [List.getElem?_range h, List.getElem?_eq_getElem h]
    show some ((X ++ Y)[k]?) = _
    rw [List.getElem?_append_left h, List.getElem?_eq_getElem h]; rfl
  · rw [List.getElem?_eq_none (by simpa using h), List.getElem?_eq_none (by simpa using h)]; rfl
theorem keep_pre (X Y : List Nat) : ∃ is : List Nat, va_nd is = true ∧ is.map (fun k => (X ++ Y)[k]?) = X.map some := ⟨List.range X.length, nd_of List.nodup_range, keep_map X Y⟩
theorem keep_mid (X : List Nat) (b c : Nat) : ∃ is : List Nat, va_nd is = true ∧ is.map (fun k => ((X ++ [b]) ++ [c])[k]?) = (X ++ [c]).map some := by
  refine ⟨List.range X.length ++ [X.length + 1], nd_of (List.nodup_append.mpr ⟨List.nodup_range, by simp, ?_⟩), ?_⟩
  · intro a ha b hb
    have := List.mem_range.mp ha
    simp at hb
    omega
  · rw [List.map_append, List.map_append, List.append_assoc, keep_map X ([b] ++ [c])]
    simp
theorem sbl : ∀ a, a < 71 → ∀ b, b < 71 → ((nI a - nI b ≤ 0) ↔ a ≤ b) := by decide +kernel
theorem sb_nI {a b : Nat} (h : b ≤ a) : nI a - nI b = nI (a - b) := by
  unfold nI
  rw [← Int32.ofNat_sub _ _ h]
theorem sr0 (x : Int32) : x >>> ((0 : Int32) &&& 31) = x := by
  have : ((0 : Int32) &&& 31) = 0 := rfl
  rw [this]; exact Int32.shiftRight_zero
theorem sl0 (x : Int32) : x <<< ((0 : Int32) &&& 31) = x := by
  have : ((0 : Int32) &&& 31) = 0 := rfl
  rw [this]; exact Int32.shiftLeft_zero
def sz (i : Nat) : Nat := if i < 10 then 1 else 2
theorem sz_le (i : Nat) : 1 ≤ sz i ∧ sz i ≤ 2 := by unfold sz; split <;> omega
theorem szA : ∀ i, i < 12 → (-nI i ≤ -10 ↔ 10 ≤ i) := by decide +kernel
theorem szB : ∀ i, i < 12 → ¬ (-nI i ≤ (10 * -10 : Int32)) := by decide +kernel
theorem szC : ∀ i, i < 12 → (-100 : Int32) < -nI i := by decide +kernel
theorem szD : ∀ i, i < 12 → ((-9 : Int32) ≤ -nI i ↔ i < 10) := by decide +kernel
theorem szN (i : Nat) : - - nI i = nI i := Int32.neg_neg
theorem mx_nI {a b : Nat} (h : a ≤ b) (hb : b < 2 ^ 31) : (if nI a < nI b then nI b else nI a) = nI b := by
  by_cases e : nI a < nI b
  · rw [if_pos e]
  · rw [if_neg e]
    have : ¬ a < b := fun z => e ((nI_ltI (by omega) hb).mpr z)
    rw [show a = b by omega]
theorem mn_nI {a b : Nat} (h : b ≤ a) (hb : a < 2 ^ 31) : (if nI b < nI a then nI b else nI a) = nI b := by
  by_cases e : nI b < nI a
  · rw [if_pos e]
  · rw [if_neg e]
    have : ¬ b < a := fun z => e ((nI_ltI (by omega) hb).mpr z)
    rw [show a = b by omega]
theorem p1_nI {p : Nat} (h : 1 ≤ p) : nI p + Int32.ofInt (-1) = nI (p - 1) := by
  have : nI p = nI (p - 1 + 1) := by rw [show p - 1 + 1 = p by omega]
  rw [this, nI_succ]
  show nI (p - 1) + 1 + (-1) = nI (p - 1)
  rw [Int32.add_assoc]
  show nI (p - 1) + 0 = _
  exact Int32.add_zero _
-- rows of bytes
def tF (I : Nat → Nat → Int32) (v : Nat) : Prop := ∀ j, fits .byte (.int (I v j)) = true
theorem nar_fits (x : Int32) : fits .byte (.int (vp_nar .byte x)) = true := by
  show fits .byte (.int x.toInt8.toInt32) = true
  have h1 := Int8.toInt_lt x.toInt8
  have h2 := Int8.le_toInt x.toInt8
  have e : x.toInt8.toInt32.toInt = x.toInt8.toInt := Int8.toInt_toInt32 _
  simp only [fits, Bool.and_eq_true, decide_eq_true_eq, Int32.le_iff_toInt_le, e]
  constructor
  · show (-128 : Int) ≤ _
    omega
  · show _ ≤ (127 : Int)
    omega
theorem tF.ur {I : Nat → Nat → Int32} {w : Nat} {g : Nat → Int32} (h : ∀ j, fits .byte (.int (g j)) = true) : tF (aj_ur I w g) w := fun j => by rw [aj_ur_s]; exact h j
theorem tF.u {I : Nat → Nat → Int32} {w k : Nat} {x : Int32} (h : tF I w) : tF (aj_u I w k (vp_nar .byte x)) w := fun j => by
  by_cases e : j = k
  · subst e; rw [aj_u_s]; exact nar_fits x
  · rw [aj_u_k _ _ _ e]; exact h j
theorem tF.o {I I1 : Nat → Nat → Int32} {w : Nat} (h : tF I w) (e : I1 w = I w) : tF I1 w := fun j => by rw [e]; exact h j
theorem tF.z {I : Nat → Nat → Int32} {w : Nat} : tF (aj_z I w 0) w := fun j => by rw [aj_z_s]; rfl
theorem cpy_fits {f g : Nat → Int32} {a b n : Nat} (hf : ∀ j, fits .byte (.int (f j)) = true) (hg : ∀ j, fits .byte (.int (g j)) = true) (j : Nat) : fits .byte (.int (va_cpy f g a b n j)) = true := by
  unfold va_cpy
  by_cases e : b ≤ j ∧ j < b + n
  · rw [if_pos e]; exact hf _
  · rw [if_neg e]; exact hg _
-- a builder B of Latin1 letters: n of them, in the row v
def tB (B v n : Nat) (I : Nat → Nat → Int32) (V : Nat → Nat → Option Nat) (N : Nat → Nat) (L : List Nat) : Prop :=
  (B ∈ L ∧ v ∈ L ∧ v ≠ B) ∧ V B 0 = some v ∧ (∀ j, j ≠ 0 → V B j = none) ∧ I B 1 = 0 ∧ I B 3 = nI n ∧ n ≤ N v ∧ (N v = 16 ∨ N v = 34 ∨ N v = 70) ∧ tF I v
def tA (B v w n m : Nat) (I : Nat → Nat → Int32) (V : Nat → Nat → Option Nat) (N : Nat → Nat) (L : List Nat) (I1 : Nat → Nat → Int32) (V1 : Nat → Nat → Option Nat) (N1 : Nat → Nat) (L1 : List Nat) : Prop :=
  ∃ v1, (v1 = v ∧ L1 = L ∨ v1 = w ∧ L1 = L ++ [w]) ∧ tB B v1 n I1 V1 N1 L1 ∧ m ≤ N1 v1 ∧ (∀ a, a ≠ B → a ≠ v → a ≠ w → I1 a = I a) ∧ (∀ a, a ≠ B → V1 a = V a) ∧ (∀ a, a ≠ w → N1 a = N a)
section TT
variable {B v w n m v1 k : Nat} {I I1 I2 : Nat → Nat → Int32} {V V1 : Nat → Nat → Option Nat} {N N1 : Nat → Nat} {L L1 : List Nat}
theorem tA.rf (h : tB B v n I V N L) (hm : m ≤ N v) : tA B v w n m I V N L I V N L := ⟨v, Or.inl ⟨rfl, rfl⟩, h, hm, fun _ _ _ _ => rfl, fun _ _ => rfl, fun _ _ => rfl⟩
theorem tA.gr (h : tB B v n I V N L) (hBw : B ≠ w) (h34 : N v ≤ 34) (hm : m ≤ N v + (N v + 2)) (e1 : ∀ a, a ≠ w → I1 a = I a) (f1 : tF I1 w) : tA B v w n m I V N L I1 (aj_u V B 0 (some w)) (aj_ur N w (N v + (N v + 2))) (L ++ [w]) := by
  obtain ⟨⟨hBL, hvL, hvB⟩, hV0, hVn, hc, hn, hnN, hN, hF⟩ := h
  refine ⟨w, Or.inr ⟨rfl, rfl⟩, ⟨⟨List.mem_append_left _ hBL, List.mem_append_right _ (List.mem_singleton_self _), Ne.symm hBw⟩, aj_u_s _ _ _ _, fun j hj => (aj_u_k _ _ _ hj).trans (hVn j hj), by rw [e1 B hBw]; exact hc, by rw [e1 B hBw]; exact hn, by rw [aj_ur_s]; omega, by rw [aj_ur_s]; omega, f1⟩, by rw [aj_ur_s]; exact hm, fun a _ _ h3 => e1 a h3, fun a ha => aj_u_o _ _ ha, fun a ha => aj_ur_n _ _ ha⟩
theorem tA.put (hA : tA B v w n m I V N L I1 V1 N1 L1) (hx : ∀ v1, tB B v1 n I1 V1 N1 L1 → m ≤ N1 v1 → (v1 = v ∨ v1 = w) → k ≤ N1 v1 ∧ (∀ a, a ≠ B → a ≠ v1 → I2 a = I1 a) ∧ I2 B 1 = 0 ∧ I2 B 3 = nI k ∧ tF I2 v1) : tA B v w k k I V N L I2 V1 N1 L1 := by
  obtain ⟨v1, hc, hT, hm, hI, hV, hN⟩ := hA
  obtain ⟨x1, x2, x3, x4, x5⟩ := hx v1 hT hm (hc.elim (fun z => Or.inl z.1) (fun z => Or.inr z.1))
  refine ⟨v1, hc, ⟨hT.1, hT.2.1, hT.2.2.1, x3, x4, x1, hT.2.2.2.2.2.2.1, x5⟩, x1, fun a h1 h2 h3 => ?_, hV, hN⟩
  rw [x2 a h1 (by rcases hc with z | z <;> rw [z.1] <;> assumption)]
  exact hI a h1 h2 h3
theorem tA.row (hA : tA B v w n m I V N L I1 V1 N1 L1) (hv : v % 16 = 10) (hw : w % 16 = 10) : ∃ v1, v1 % 16 = 10 ∧ tB B v1 n I1 V1 N1 L1 ∧ m ≤ N1 v1 ∧ (v1 = v ∨ v1 = w) := by
  obtain ⟨v1, hc, hT, hm, -⟩ := hA
  refine ⟨v1, ?_, hT, hm, hc.elim (fun z => Or.inl z.1) (fun z => Or.inr z.1)⟩
  rcases hc with z | z <;> rw [z.1] <;> assumption
theorem tB.u1 (hT : tB B v n I V N L) : V B 0 = some v := hT.2.1
theorem tA.V0 (hT1 : tB B v1 n I1 V1 N1 L1) (hT2 : tB B v n I1 V1 N1 L1) : v = v1 := Option.some.inj (hT2.2.1.symm.trans hT1.2.1)
end TT
