-- TEXTS: lemmas
theorem nd_of : ∀ {l : List Nat}, l.Nodup → va_nd l = true := by
  intro l
  induction l with
  | nil => intro _; rfl
  | cons a l ih =>
    intro h
    obtain ⟨h1, h2⟩ := List.nodup_cons.mp h
    simp [va_nd, h1, ih h2]
theorem keep_map (X Y : List Nat) : (List.range X.length).map (fun k => (X ++ Y)[k]?) = X.map some := by
  refine List.ext_getElem? (fun k => ?_)
  rw [List.getElem?_map, List.getElem?_map]
  by_cases h : k < X.length
  · rw [List.getElem?_range h, List.getElem?_eq_getElem h]
    show some ((X ++ Y)[k]?) = _
    rw [List.getElem?_append_left h, List.getElem?_eq_getElem h]; rfl
  · rw [List.getElem?_eq_none (by simpa using h), List.getElem?_eq_none (by simpa using h)]; rfl
theorem keep_pre (X Y : List Nat) : ∃ is : List Nat, va_nd is = true ∧ is.map (fun k => (X ++ Y)[k]?) = X.map some := ⟨List.range X.length, nd_of List.nodup_range, keep_map X Y⟩
theorem keep_mid (X : List Nat) (b c : Nat) : ∃ is : List Nat, va_nd is = true ∧ is.map (fun k => ((X ++ [b]) ++ [c])[k]?) = (X ++ [c]).map some := by
  refine ⟨List.range X.length ++ [X.length + 1], nd_of (List.nodup_append.mpr ⟨List.nodup_range, by simp, ?_⟩), ?_⟩
  · intro a ha b hb
    have := List.mem_range.mp ha
    simp at hb
    omega
  · rw [List.map_append, List.map_append, List.append_assoc, keep_map X ([b] ++ [c])]
    simp
theorem sbl : ∀ a, a < 71 → ∀ b, b < 71 → ((nI a - nI b ≤ 0) ↔ a ≤ b) := by decide +kernel
theorem sb_nI {a b : Nat} (h : b ≤ a) : nI a - nI b = nI (a - b) := by
  unfold nI
  rw [← Int32.ofNat_sub _ _ h]
theorem sr0 (x : Int32) : x >>> ((0 : Int32) &&& 31) = x := by
  have : ((0 : Int32) &&& 31) = 0 := rfl
  rw [this]; exact Int32.shiftRight_zero
theorem sl0 (x : Int32) : x <<< ((0 : Int32) &&& 31) = x := by
  have : ((0 : Int32) &&& 31) = 0 := rfl
  rw [this]; exact Int32.shiftLeft_zero
def sz (i : Nat) : Nat := if i < 10 then 1 else 2
theorem sz_le (i : Nat) : 1 ≤ sz i ∧ sz i ≤ 2 := by unfold sz; split <;> omega
theorem szA : ∀ i, i < 12 → (-nI i ≤ -10 ↔ 10 ≤ i) := by decide +kernel
theorem szB : ∀ i, i < 12 → ¬ (-nI i ≤ (10 * -10 : Int32)) := by decide +kernel
theorem szC : ∀ i, i < 12 → (-100 : Int32) < -nI i := by decide +kernel
theorem szD : ∀ i, i < 12 → ((-9 : Int32) ≤ -nI i ↔ i < 10) := by decide +kernel
theorem szN (i : Nat) : - - nI i = nI i := Int32.neg_neg
theorem mx_nI {a b : Nat} (h : a ≤ b) (hb : b < 2 ^ 31) : (if nI a < nI b then nI b else nI a) = nI b := by
  by_cases e : nI a < nI b
  · rw [if_pos e]
  · rw [if_neg e]
    have : ¬ a < b := fun z => e ((nI_ltI (by omega) hb).mpr z)
    rw [show a = b by omega]
theorem mn_nI {a b : Nat} (h : b ≤ a) (hb : a < 2 ^ 31) : (if nI b < nI a then nI b else nI a) = nI b := by
  by_cases e : nI b < nI a
  · rw [if_pos e]
  · rw [if_neg e]
    have : ¬ b < a := fun z => e ((nI_ltI (by omega) hb).mpr z)
    rw [show a = b by omega]
theorem p1_nI {p : Nat} (h : 1 ≤ p) : nI p + Int32.ofInt (-1) = nI (p - 1) := by
  have : nI p = nI (p - 1 + 1) := by rw [show p - 1 + 1 = p by omega]
  rw [this, nI_succ]
  show nI (p - 1) + 1 + (-1) = nI (p - 1)
  rw [Int32.add_assoc]
  show nI (p - 1) + 0 = _
  exact Int32.add_zero _
-- rows of bytes
def tF (I : Nat → Nat → Int32) (v : Nat) : Prop := ∀ j, fits .byte (.int (I v j)) = true
theorem nar_fits (x : Int32) : fits .byte (.int (vp_nar .byte x)) = true := by
  show fits .byte (.int x.toInt8.toInt32) = true
  have h1 := Int8.toInt_lt x.toInt8
  have h2 := Int8.le_toInt x.toInt8
  have e : x.toInt8.toInt32.toInt = x.toInt8.toInt := Int8.toInt_toInt32 _
  simp only [fits, Bool.and_eq_true, decide_eq_true_eq, Int32.le_iff_toInt_le, e]
  constructor
  · show (-128 : Int) ≤ _
    omega
  · show _ ≤ (127 : Int)
    omega
theorem tF.ur {I : Nat → Nat → Int32} {w : Nat} {g : Nat → Int32} (h : ∀ j, fits .byte (.int (g j)) = true) : tF (aj_ur I w g) w := fun j => by rw [aj_ur_s]; exact h j
theorem tF.u {I : Nat → Nat → Int32} {w k : Nat} {x : Int32} (h : tF I w) : tF (aj_u I w k (vp_nar .byte x)) w := fun j => by
  by_cases e : j = k
  · subst e; rw [aj_u_s]; exact nar_fits x
  · rw [aj_u_k _ _ _ e]; exact h j
theorem tF.o {I I1 : Nat → Nat → Int32} {w : Nat} (h : tF I w) (e : I1 w = I w) : tF I1 w := fun j => by rw [e]; exact h j
theorem tF.z {I : Nat → Nat → Int32} {w : Nat} : tF (aj_z I w 0) w := fun j => by rw [aj_z_s]; rfl
theorem cpy_fits {f g : Nat → Int32} {a b n : Nat} (hf : ∀ j, fits .byte (.int (f j)) = true) (hg : ∀ j, fits .byte (.int (g j)) = true) (j : Nat) : fits .byte (.int (va_cpy f g a b n j)) = true := by
  unfold va_cpy
  by_cases e : b ≤ j ∧ j < b + n
  · rw [if_pos e]; exact hf _
  · rw [if_neg e]; exact hg _
-- a builder B of Latin1 letters: n of them, in the row v
def tB (B v n : Nat) (I : Nat → Nat → Int32) (V : Nat → Nat → Option Nat) (N : Nat → Nat) (L : List Nat) : Prop :=
  (B ∈ L ∧ v ∈ L ∧ v ≠ B) ∧ V B 0 = some v ∧ (∀ j, j ≠ 0 → V B j = none) ∧ I B 1 = 0 ∧ I B 3 = nI n ∧ n ≤ N v ∧ (N v = 16 ∨ N v = 34 ∨ N v = 70) ∧ tF I v
def tA (B v w n m : Nat) (I : Nat → Nat → Int32) (V : Nat → Nat → Option Nat) (N : Nat → Nat) (L : List Nat) (I1 : Nat → Nat → Int32) (V1 : Nat → Nat → Option Nat) (N1 : Nat → Nat) (L1 : List Nat) : Prop :=
  ∃ v1, (v1 = v ∧ L1 = L ∨ v1 = w ∧ L1 = L ++ [w]) ∧ tB B v1 n I1 V1 N1 L1 ∧ m ≤ N1 v1 ∧ (∀ a, a ≠ B → a ≠ v → a ≠ w → I1 a = I a) ∧ (∀ a, a ≠ B → V1 a = V a) ∧ (∀ a, a ≠ w → N1 a = N a)
section TT
variable {B v w n m v1 k : Nat} {I I1 I2 : Nat → Nat → Int32} {V V1 : Nat → Nat → Option Nat} {N N1 : Nat → Nat} {L L1 : List Nat}
theorem tA.rf (h : tB B v n I V N L) (hm : m ≤ N v) : tA B v w n m I V N L I V N L := ⟨v, Or.inl ⟨rfl, rfl⟩, h, hm, fun _ _ _ _ => rfl, fun _ _ => rfl, fun _ _ => rfl⟩
theorem tA.gr (h : tB B v n I V N L) (hBw : B ≠ w) (h34 : N v ≤ 34) (hm : m ≤ N v + (N v + 2)) (e1 : ∀ a, a ≠ w → I1 a = I a) (f1 : tF I1 w) : tA B v w n m I V N L I1 (aj_u V B 0 (some w)) (aj_ur N w (N v + (N v + 2))) (L ++ [w]) := by
  obtain ⟨⟨hBL, hvL, hvB⟩, hV0, hVn, hc, hn, hnN, hN, hF⟩ := h
  refine ⟨w, Or.inr ⟨rfl, rfl⟩, ⟨⟨List.mem_append_left _ hBL, List.mem_append_right _ (List.mem_singleton_self _), Ne.symm hBw⟩, aj_u_s _ _ _ _, fun j hj => (aj_u_k _ _ _ hj).trans (hVn j hj), by rw [e1 B hBw]; exact hc, by rw [e1 B hBw]; exact hn, by rw [aj_ur_s]; omega, by rw [aj_ur_s]; omega, f1⟩, by rw [aj_ur_s]; exact hm, fun a _ _ h3 => e1 a h3, fun a ha => aj_u_o _ _ ha, fun a ha => aj_ur_n _ _ ha⟩
theorem tA.put (hA : tA B v w n m I V N L I1 V1 N1 L1) (hx : ∀ v1, tB B v1 n I1 V1 N1 L1 → m ≤ N1 v1 → (v1 = v ∨ v1 = w) → k ≤ N1 v1 ∧ (∀ a, a ≠ B → a ≠ v1 → I2 a = I1 a) ∧ I2 B 1 = 0 ∧ I2 B 3 = nI k ∧ tF I2 v1) : tA B v w k k I V N L I2 V1 N1 L1 := by
  obtain ⟨v1, hc, hT, hm, hI, hV, hN⟩ := hA
  obtain ⟨x1, x2, x3, x4, x5⟩ := hx v1 hT hm (hc.elim (fun z => Or.inl z.1) (fun z => Or.inr z.1))
  refine ⟨v1, hc, ⟨hT.1, hT.2.1, hT.2.2.1, x3, x4, x1, hT.2.2.2.2.2.2.1, x5⟩, x1, fun a h1 h2 h3 => ?_, hV, hN⟩
  rw [x2 a h1 (by rcases hc with z | z <;> rw [z.1] <;> assumption)]
  exact hI a h1 h2 h3
theorem tA.row (hA : tA B v w n m I V N L I1 V1 N1 L1) (hv : v % 16 = 10) (hw : w % 16 = 10) : ∃ v1, v1 % 16 = 10 ∧ tB B v1 n I1 V1 N1 L1 ∧ m ≤ N1 v1 ∧ (v1 = v ∨ v1 = w) := by
  obtain ⟨v1, hc, hT, hm, -⟩ := hA
  refine ⟨v1, ?_, hT, hm, hc.elim (fun z => Or.inl z.1) (fun z => Or.inr z.1)⟩
  rcases hc with z | z <;> rw [z.1] <;> assumption
theorem tB.u1 (hT : tB B v n I V N L) : V B 0 = some v := hT.2.1
theorem tA.V0 (hT1 : tB B v1 n I1 V1 N1 L1) (hT2 : tB B v n I1 V1 N1 L1) : v = v1 := Option.some.inj (hT2.2.1.symm.trans hT1.2.1)
end TT
theorem aj_kl_le (c : Nat) : aj_kl c ≤ 1 := by
  unfold aj_kl
  rcases c with _ | _ | c <;> simp
section TU
variable {B v w n m v1 k u S : Nat} {I I1 I2 : Nat → Nat → Int32} {J J1 : Nat → Nat → Int64} {V V1 : Nat → Nat → Option Nat} {N N1 : Nat → Nat} {L L1 : List Nat}
theorem tB.new (h : tB B v n I V N L) (h1 : B ≠ S) (h2 : v ≠ S) : tB B v n (aj_z I S 0) (aj_z V S none) N (L ++ [S]) := by
  obtain ⟨⟨hBL, hvL, hvB⟩, hV0, hVn, hc, hn, hnN, hN, hF⟩ := h
  exact ⟨⟨List.mem_append_left _ hBL, List.mem_append_left _ hvL, hvB⟩, by rw [aj_z_o _ _ h1]; exact hV0, fun j hj => by rw [aj_z_o _ _ h1]; exact hVn j hj, by rw [aj_z_o _ _ h1]; exact hc, by rw [aj_z_o _ _ h1]; exact hn, hnN, hN, tF.o hF (aj_z_o _ _ h2)⟩
theorem nV.new (h : ∀ i ∈ L, ∀ j, V i j ≠ some u) : ∀ i ∈ L ++ [S], ∀ j, aj_z V S none i j ≠ some u := by
  intro i hi j
  by_cases e : i = S
  · subst e; rw [aj_z_s]; exact fun z => nomatch z
  · rw [aj_z_o _ _ e]
    rcases List.mem_append.mp hi with z | z
    · exact h i z j
    · exact absurd (List.mem_singleton.mp z) e
theorem nL.new (h : u ∉ L) (e : u ≠ S) : u ∉ L ++ [S] := by simp [h, e]
/-- the numbers that a text makes: builder 65, rows 26 and 42, String 16, its row 58 -/
def tP : List Nat := [65, 26, 42, 16, 58]
def tX (V : Nat → Nat → Option Nat) (L : List Nat) : Prop := ∀ f ∈ tP, f ∉ L ∧ ∀ i, i ∈ L ∨ i ∈ tP → ∀ j, V i j ≠ some f
def tK (L : List Nat) (I : Nat → Nat → Int32) (J : Nat → Nat → Int64) (V : Nat → Nat → Option Nat) (N : Nat → Nat) (I1 : Nat → Nat → Int32) (J1 : Nat → Nat → Int64) (V1 : Nat → Nat → Option Nat) (N1 : Nat → Nat) : Prop := ∀ i ∈ L, I1 i = I i ∧ J1 i = J i ∧ V1 i = V i ∧ N1 i = N i
def tL (I : Nat → Nat → Int32) (V : Nat → Nat → Option Nat) (N : Nat → Nat) (I2 : Nat → Nat → Int32) (V2 : Nat → Nat → Option Nat) (N2 : Nat → Nat) : Prop := (∀ a, a ≠ 65 → a ≠ 26 → a ≠ 42 → I2 a = I a) ∧ (∀ a, a ≠ 65 → V2 a = V a) ∧ (∀ a, a ≠ 26 → a ≠ 42 → N2 a = N a)
def tW (v w : Nat) : Prop := v = 26 ∧ w = 42 ∨ v = 42 ∧ w = 26
theorem tW.v10 (h : tW v w) : v % 16 = 10 := by rcases h with z | z <;> rw [z.1]
theorem tW.w10 (h : tW v w) : w % 16 = 10 := by rcases h with z | z <;> rw [z.2]
theorem tW.wF (h : tW v w) : w ∈ tP ∧ w ≠ v ∧ w ≠ 65 := by rcases h with z | z <;> rw [z.1, z.2] <;> decide
theorem tX.ne (hX : tX V L) {a f : Nat} (ha : a ∈ L) (hf : f ∈ tP) : a ≠ f := fun e => (hX f hf).1 (e ▸ ha)
theorem tL.tA {V2 V3 : Nat → Nat → Option Nat} {N2 N3 : Nat → Nat} {I3 : Nat → Nat → Int32} {L2 L3 : List Nat} (h : tL I V N I2 V2 N2) (hA : tA 65 v w n m I2 V2 N2 L2 I3 V3 N3 L3) (hw : tW v w) : tL I V N I3 V3 N3 := by
  obtain ⟨v1, -, -, -, hI, hV, hN⟩ := hA
  refine ⟨fun a h1 h2 h3 => ?_, fun a h1 => (hV a h1).trans (h.2.1 a h1), fun a h1 h2 => ?_⟩
  · rw [hI a h1 (by rcases hw with z | z <;> rw [z.1] <;> assumption) (by rcases hw with z | z <;> rw [z.2] <;> assumption)]
    exact h.1 a h1 h2 h3
  · rw [hN a (by rcases hw with z | z <;> rw [z.2] <;> assumption)]
    exact h.2.2 a h1 h2
theorem tX.fr {V2 : Nat → Nat → Option Nat} {N2 : Nat → Nat} (hX : tX V L) (hl : tL I V N I2 V2 N2) (hT : tB 65 v n I2 V2 N2 ((L ++ [65]) ++ [v])) (hw : tW v w) {f : Nat} (hf : f ∈ tP) (h1 : f ≠ v) (h2 : f ≠ 65) : f ∉ (L ++ [65]) ++ [v] ∧ ∀ i ∈ (L ++ [65]) ++ [v], ∀ j, V2 i j ≠ some f := by
  refine ⟨by simp [(hX f hf).1, h1, h2], fun i hi j => ?_⟩
  by_cases e : i = 65
  · subst e
    by_cases ej : j = 0
    · subst ej; rw [hT.2.1]; exact fun z => h1 (Option.some.inj z).symm
    · rw [hT.2.2.1 j ej]; exact fun z => nomatch z
  · rw [hl.2.1 i e]
    refine (hX f hf).2 i ?_ j
    rcases List.mem_append.mp hi with z | z
    · rcases List.mem_append.mp z with z | z
      · exact Or.inl z
      · exact absurd (List.mem_singleton.mp z) e
    · right
      rw [List.mem_singleton.mp z]
      rcases hw with y | y <;> rw [y.1] <;> decide
theorem tK.of {V2 V3 : Nat → Nat → Option Nat} {N2 N3 : Nat → Nat} {I3 : Nat → Nat → Int32} {J3 : Nat → Nat → Int64} (hX : tX V L) (hl : tL I V N I2 V2 N2) (g1 : ∀ a, a ≠ 16 → a ≠ 58 → I3 a = I2 a) (g2 : ∀ a, a ≠ 16 → J3 a = aj_z J 65 0 a) (g3 : ∀ a, a ≠ 16 → V3 a = V2 a) (g4 : ∀ a, a ≠ 58 → N3 a = N2 a) : tK L I J V N I3 J3 V3 N3 := by
  intro i hi
  have n1 := hX.ne hi (show 65 ∈ tP by decide)
  have n2 := hX.ne hi (show 26 ∈ tP by decide)
  have n3 := hX.ne hi (show 42 ∈ tP by decide)
  have n4 := hX.ne hi (show 16 ∈ tP by decide)
  have n5 := hX.ne hi (show 58 ∈ tP by decide)
  exact ⟨(g1 i n4 n5).trans (hl.1 i n1 n2 n3), (g2 i n4).trans (aj_z_o _ _ n1), (g3 i n4).trans (hl.2.1 i n1), (g4 i n5).trans (hl.2.2 i n2 n3)⟩
end TU
section TN
variable {G : aj_G} {pc : Nat} {lv : List (Option Value)} {st : List Value} {J : Nat → Nat → Int64} {bc bs : Nat}
/-- the old row is forgotten -/
theorem tA.norm {v w n m : Nat} {I2 I3 : Nat → Nat → Int32} {V2 V3 : Nat → Nat → Option Nat} {N2 N3 : Nat → Nat} {L L3 : List Nat} (hA : tA 65 v w n m I2 V2 N2 ((L ++ [65]) ++ [v]) I3 V3 N3 L3) (hw : tW v w) (hg : gL G = L) (kk : ∀ v3 w3, tW v3 w3 → tB 65 v3 n I3 V3 N3 ((L ++ [65]) ++ [v3]) → aj_X G pc lv st I3 J V3 N3 ((L ++ [65]) ++ [v3]) bc bs) : aj_X G pc lv st I3 J V3 N3 L3 bc bs := by
  obtain ⟨v1, hc, hT, -⟩ := hA
  rcases hc with ⟨e1, e2⟩ | ⟨e1, e2⟩
  · subst e1; subst e2
    exact kk v1 w hw hT
  · subst e1; subst e2
    refine aj_conv (L' := (L ++ [65]) ++ [v1]) (fun i hi => ?_) (keep_mid (L ++ [65]) v v1) (fun _ _ _ _ => rfl) (kk v1 v (by rcases hw with z | z; exact Or.inr ⟨z.2, z.1⟩; exact Or.inl ⟨z.2, z.1⟩) ⟨⟨?_, ?_, hT.1.2.2⟩, hT.2⟩)
    · rw [hg] at hi; simp [hi]
    · simp
    · simp
end TN
