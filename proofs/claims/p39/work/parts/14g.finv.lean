-- ROWS OF PLACES IN ORDER
/-- a way as a key: its bearing, then its length -/
def zKK (a b : Int32) : Int := qK (qB a b 0) * 65536 + (mDt a b a b).toInt
theorem pOW_tO (a b c d : Int32) : pOW a b c d = tO (qB a b 0) (qB c d 0) := by
  unfold pOW
  rw [← tB_L (a := a) (u := b) (s := 0), ← tB_L (a := c) (u := d) (s := 0)]
  exact pOrd_mOrd (sOk_up (pSg_ok a b 0)) (sOk_up (pSg_ok c d 0)) (sOk_U (pSg_ok a b 0)) (sOk_U (pSg_ok c d 0))
theorem dd_i {a b : Int32} (ha : pIn a (-127) 127 = true) (hb : pIn b (-127) 127 = true) : (mDt a b a b).toInt = a.toInt * a.toInt + b.toInt * b.toInt ∧ 0 ≤ (mDt a b a b).toInt ∧ (mDt a b a b).toInt ≤ 32258 := by
  have x := pIn_i ha
  have y := pIn_i hb
  have e := (mCr_i x.1 x.2 y.1 y.2 x.1 x.2 y.1 y.2).2
  have m1 := mul_rg x.1 x.2 x.1 x.2
  have m2 := mul_rg y.1 y.2 y.1 y.2
  have s1 := i_sq a.toInt
  have s2 := i_sq b.toInt
  rw [e]
  exact ⟨rfl, by omega, by omega⟩
theorem cb_k {a b c d : Int32} (ha : pIn a (-127) 127 = true) (hb : pIn b (-127) 127 = true) (hc : pIn c (-127) 127 = true) (hd : pIn d (-127) 127 = true) : (decide (tO (qB a b 0) (qB c d 0) < 0) || (decide (tO (qB a b 0) (qB c d 0) = 0) && decide (mDt a b a b < mDt c d c d))) = decide (zKK a b < zKK c d) := by
  rw [tO_key (tB_ok ha hb) (tB_ok hc hd), show decide (mDt a b a b < mDt c d c d) = decide ((mDt a b a b).toInt < (mDt c d c d).toInt) from decide_eq_decide.mpr Int32.lt_iff_toInt_lt]
  have d1 := dd_i ha hb
  have d2 := dd_i hc hd
  unfold zKK
  generalize qK (qB a b 0) = x
  generalize qK (qB c d 0) = y
  generalize (mDt a b a b).toInt = p at d1 ⊢
  generalize (mDt c d c d).toInt = q at d2 ⊢
  rcases Int.lt_trichotomy x y with h | h | h
  · rw [c3_lt h, decide_eq_true (show (-1 : Int32) < 0 by decide), decide_eq_true (show x * 65536 + p < y * 65536 + q by omega)]
    rfl
  · rw [c3_eq h, decide_eq_false (show ¬ (0 : Int32) < 0 by decide), decide_eq_true (show (0 : Int32) = 0 from rfl), Bool.false_or, Bool.true_and]
    exact decide_eq_decide.mpr (by omega)
  · rw [c3_gt h, decide_eq_false (show ¬ (1 : Int32) < 0 by decide), decide_eq_false (show ¬ (1 : Int32) = 0 by decide), decide_eq_false (show ¬ x * 65536 + p < y * 65536 + q by omega)]
    rfl
theorem mOrd_0 {a b c d e f : Int32} (hc : c = 0 ∨ c = 1) (hf : f = 0 ∨ f = 1) (h : mOrd a b c d e f = 0) : mCr a b d e = 0 ∧ 0 < mDt a b d e := by
  unfold mOrd at h
  by_cases z : c = f
  · rw [if_pos z] at h
    by_cases w : mCr a b d e = 0
    · rw [if_pos w] at h
      by_cases v : 0 < mDt a b d e
      · exact ⟨w, v⟩
      · rw [if_neg v] at h
        split at h
        · exact absurd h (by decide)
        · exact absurd h (by decide)
    · rw [if_neg w] at h
      split at h
      · exact absurd h (by decide)
      · exact absurd h (by decide)
  · rw [if_neg z] at h
    rcases hc with rfl | rfl <;> rcases hf with rfl | rfl
    · exact absurd rfl z
    · exact absurd h (by decide)
    · exact absurd h (by decide)
    · exact absurd rfl z
/-- ways of one key are one way -/
theorem zK_inj {a b c d : Int32} (ha : pIn a (-127) 127 = true) (hb : pIn b (-127) 127 = true) (hc : pIn c (-127) 127 = true) (hd : pIn d (-127) 127 = true) (h1 : ¬ (a = 0 ∧ b = 0)) (h2 : ¬ (c = 0 ∧ d = 0)) (h : zKK a b = zKK c d) : a = c ∧ b = d := by
  have d1 := dd_i ha hb
  have d2 := dd_i hc hd
  unfold zKK at h
  have k0 : tO (qB a b 0) (qB c d 0) = 0 := by
    rw [tO_key (tB_ok ha hb) (tB_ok hc hd)]
    exact c3_eq (by omega)
  have e : (mDt a b a b).toInt = (mDt c d c d).toInt := by omega
  have m := mOrd_0 (sOk_U (pSg_ok a b 0)) (sOk_U (pSg_ok c d 0)) k0
  have l1 : qL (qB a b 0) = a := tB_L.trans (pLk_nz h1)
  have l2 : qL (qB c d 0) = c := tB_L.trans (pLk_nz h2)
  rw [l1, l2] at m
  have x1 := pIn_i ha
  have x2 := pIn_i hb
  have x3 := pIn_i hc
  have x4 := pIn_i hd
  have mi := mCr_i x1.1 x1.2 x2.1 x2.2 x3.1 x3.2 x4.1 x4.2
  have c0 : a.toInt * d.toInt - b.toInt * c.toInt = 0 := by rw [← mi.1]; exact i32_0.mp m.1
  have p0 : 0 < a.toInt * c.toInt + b.toInt * d.toInt := by rw [← mi.2]; exact i32_p.mp m.2
  have g := g_same c0 p0 (by rw [← d1.1, ← d2.1]; exact e.symm)
  exact ⟨Int32.toInt_inj.mp g.1.symm, Int32.toInt_inj.mp g.2.symm⟩
-- PLACES OF THE CLASS
def rgI (I : Nat → Nat → Int32) (n : Nat) : Prop := (∀ k, k < n → pIn (I 24 k) (-64) 63 = true ∧ pIn (I 40 k) (-64) 63 = true) ∧ pIn (I 24 12) (-64) 63 = true ∧ pIn (I 40 12) (-64) 63 = true
def dfI (I : Nat → Nat → Int32) (n : Nat) : Prop := ∀ i j, i < n → j < n → i ≠ j → ¬ (I 24 i = I 24 j ∧ I 40 i = I 40 j)
def zC (I : Nat → Nat → Int32) (k : Nat) : Int := zKK (I 24 k - I 24 12) (I 40 k - I 40 12)
def rX (f : Nat → Int32) : pt := fun k => (f k).toInt
theorem pIn_sub' {x y : Int32} (h : pIn x (-64) 63 = true) (g : pIn y (-64) 63 = true) : pIn (x - y) (-127) 127 = true ∧ (x - y).toInt = x.toInt - y.toInt ∧ (-64 ≤ x.toInt ∧ x.toInt ≤ 63) := by
  unfold pIn at h g ⊢
  rw [Bool.and_eq_true, decide_eq_true_eq, decide_eq_true_eq] at h g ⊢
  obtain ⟨h1, h2⟩ := h
  obtain ⟨g1, g2⟩ := g
  have e1 : (-127 : Int32).toInt = -127 := by decide
  have e2 : (127 : Int32).toInt = 127 := by decide
  have e3 : (-64 : Int32).toInt = -64 := by decide
  have e4 : (63 : Int32).toInt = 63 := by decide
  rw [Int32.le_iff_toInt_le, e3] at h1 g1
  rw [Int32.le_iff_toInt_le, e4] at h2 g2
  rw [Int32.le_iff_toInt_le, Int32.le_iff_toInt_le, e1, e2, Int32.toInt_sub, Int.bmod_eq_of_le (by omega) (by omega)]
  omega
theorem rgI.w {I : Nat → Nat → Int32} {n k : Nat} (h : rgI I n) (hk : k < n) : pIn (I 24 k - I 24 12) (-127) 127 = true ∧ pIn (I 40 k - I 40 12) (-127) 127 = true := ⟨(pIn_sub' (h.1 k hk).1 h.2.1).1, (pIn_sub' (h.1 k hk).2 h.2.2).1⟩
theorem cb_e {I : Nat → Nat → Int32} {n j k : Nat} (h : rgI I n) (hj : j < n) (hk : k < n) : pCB (I 24 12) (I 40 12) (I 24 j) (I 40 j) (I 24 k) (I 40 k) = decide (zC I j < zC I k) := by
  have a := h.w hj
  have b := h.w hk
  unfold pCB
  rw [pOW_tO]
  exact cb_k a.1 a.2 b.1 b.2
theorem oP_nz {I : Nat → Nat → Int32} {k : Nat} (h : oP I k = true) : ¬ (I 24 k - I 24 12 = 0 ∧ I 40 k - I 40 12 = 0) := fun z => by
  have h := of_decide_eq_true h
  unfold pDs at h
  rw [z.1, z.2] at h
  exact absurd h (by decide)
/-- the places' numbers in a row below j, in order -/
def rdQ (I I1 : Nat → Nat → Int32) (j : Nat) : Prop := ∃ l : List Nat, l.Perm ((List.range j).filter (oP I)) ∧ l.Pairwise (bfR (zC I)) ∧ ∀ p k, l[p]? = some k → I1 56 p = nI k
theorem rdQ.st {I I1 : Nat → Nat → Int32} : rdQ I I1 0 := ⟨[], List.Perm.refl _, List.Pairwise.nil, fun p k h => by simp at h⟩
theorem rdQ.len {I : Nat → Nat → Int32} {j : Nat} {l : List Nat} (h : l.Perm ((List.range j).filter (oP I))) : l.length = cnt (oP I) j := by
  rw [h.length_eq, cnt_countP, List.countP_eq_length_filter]
theorem rdQ.sk {I I1 : Nat → Nat → Int32} {j : Nat} (h : rdQ I I1 j) (ho : oP I j = false) : rdQ I I1 (j + 1) := by
  obtain ⟨l, h1, h2⟩ := h
  refine ⟨l, ?_, h2⟩
  rw [List.range_succ, List.filter_append, List.filter_cons_of_neg (show ¬ oP I j = true by rw [ho]; decide), List.filter_nil, List.append_nil]
  exact h1
theorem rdQ.cg {I I1 I2 : Nat → Nat → Int32} {j : Nat} (h : rdQ I I1 j) (e : ∀ p, p < cnt (oP I) j → I2 56 p = I1 56 p) : rdQ I I2 j := by
  obtain ⟨l, h1, h2, h3⟩ := h
  have hl := rdQ.len h1
  refine ⟨l, h1, h2, fun p k hk => (e p ?_).trans (h3 p k hk)⟩
  rw [← hl]
  rcases Nat.lt_or_ge p l.length with z | z
  · exact z
  · rw [List.getElem?_eq_none z] at hk; cases hk
theorem ins_f {κ : Nat → Int} {g : Nat → Bool} {m a : Nat} {l : List Nat} (hp : l.Perm ((List.range m).filter g)) (hg : g m = true) (hs : l.Pairwise (bfR κ)) (ha : a ≤ l.length) (h1 : ∀ p k, a ≤ p → l[p]? = some k → κ m < κ k) (h2 : ∀ k, a ≠ 0 → l[a - 1]? = some k → ¬ κ m < κ k) : (l.take a ++ m :: l.drop a).Perm ((List.range (m + 1)).filter g) ∧ (l.take a ++ m :: l.drop a).Pairwise (bfR κ) := by
  have hmem : ∀ k, k ∈ l → k < m := fun k hk => List.mem_range.mp (List.mem_filter.mp (hp.mem_iff.mp hk)).1
  constructor
  · refine (List.perm_middle).trans ?_
    rw [List.take_append_drop, List.range_succ, List.filter_append, List.filter_cons_of_pos hg, List.filter_nil]
    exact (List.Perm.cons m hp).trans (List.perm_append_singleton m ((List.range m).filter g)).symm
  · have hs2 := hs
    rw [← List.take_append_drop a l, List.pairwise_append] at hs2
    obtain ⟨s1, s2, s3⟩ := hs2
    rw [List.pairwise_append]
    have low : ∀ k, k ∈ l.take a → bfR κ k m := by
      intro k hk
      obtain ⟨i, hi⟩ := List.getElem?_of_mem hk
      rw [List.getElem?_take] at hi
      have hia : i < a := by
        rcases Nat.lt_or_ge i a with w | w
        · exact w
        · rw [if_neg (by omega)] at hi; cases hi
      rw [if_pos hia] at hi
      have hkm : k < m := hmem k (List.mem_of_getElem? hi)
      have hj : a - 1 < l.length := by omega
      have hk2 := h2 l[a - 1] (by omega) (List.getElem?_eq_getElem hj)
      have hle : κ k ≤ κ l[a - 1] := by
        rcases Nat.lt_or_ge i (a - 1) with w | w
        · have hi2 : i < l.length := by omega
          have e : l[i] = k := by rw [List.getElem?_eq_getElem hi2] at hi; exact Option.some.inj hi
          have := List.pairwise_iff_getElem.mp hs i (a - 1) hi2 hj w
          rw [e] at this
          rcases this with z | z
          · omega
          · omega
        · have ei : i = a - 1 := by omega
          subst ei
          rw [List.getElem?_eq_getElem hj] at hi
          rw [← Option.some.inj hi]
          exact Int.le_refl _
      rcases Int.lt_or_eq_of_le (show κ k ≤ κ m by omega) with w | w
      · exact Or.inl w
      · exact Or.inr ⟨w, hkm⟩
    refine ⟨s1, List.pairwise_cons.mpr ⟨fun k hk => ?_, s2⟩, fun i hi k hk => ?_⟩
    · obtain ⟨i, hi⟩ := List.getElem?_of_mem hk
      rw [List.getElem?_drop] at hi
      exact Or.inl (h1 (a + i) k (by omega) hi)
    · rcases List.mem_cons.mp hk with w | w
      · rw [w]; exact low i hi
      · exact s3 i hi k w
theorem ins_w {g f : Nat → Int32} {m a : Nat} {l : List Nat} (ha : a ≤ l.length) (h : ∀ p k, l[p]? = some k → g p = nI k) (hi : ∀ p, f p = if p < a then g p else if p = a then nI m else if p ≤ l.length then g (p - 1) else g p) : ∀ p k, (l.take a ++ m :: l.drop a)[p]? = some k → f p = nI k := by
  have ht : (l.take a).length = a := by rw [List.length_take]; omega
  intro p k hk
  rw [hi]
  rcases Nat.lt_or_ge p a with w | w
  · rw [List.getElem?_append_left (by omega), List.getElem?_take, if_pos w] at hk
    rw [if_pos w]; exact h p k hk
  · rw [List.getElem?_append_right (by omega), ht] at hk
    rw [if_neg (by omega)]
    rcases Nat.lt_or_ge a p with v | v
    · obtain ⟨q, rfl⟩ : ∃ q, p = a + 1 + q := ⟨p - a - 1, by omega⟩
      rw [show a + 1 + q - a = q + 1 by omega, List.getElem?_cons_succ, List.getElem?_drop] at hk
      have hq : a + q < l.length := by
        rcases Nat.lt_or_ge (a + q) l.length with z | z
        · exact z
        · rw [List.getElem?_eq_none z] at hk; cases hk
      rw [if_neg (by omega), if_pos (by omega), show a + 1 + q - 1 = a + q by omega]
      exact h _ k hk
    · have e : p = a := by omega
      subst e
      rw [Nat.sub_self, List.getElem?_cons_zero] at hk
      rw [if_pos rfl, ← Option.some.inj hk]
/-- one more is put in -/
theorem rdQ.ins {I I1 I2 I3 : Nat → Nat → Int32} {n j rc a : Nat} (hR : rgI I n) (h : rdQ I I1 j) (hrc : rc = cnt (oP I) j) (ho : oP I j = true) (hj : j < n) (ha : a ≤ rc) (hq : ∀ p, I2 56 p = if a < p ∧ p ≤ rc then I1 56 (p - 1) else I1 56 p) (hw : ∀ p k, a ≤ p → p < rc → k < n → I1 56 p = nI k → pCB (I 24 12) (I 40 12) (I 24 j) (I 40 j) (I 24 k) (I 40 k) = true) (hn : ∀ k, a ≠ 0 → k < n → I1 56 (a - 1) = nI k → pCB (I 24 12) (I 40 12) (I 24 j) (I 40 j) (I 24 k) (I 40 k) = false) (h3 : ∀ p, I3 56 p = if p = a then nI j else I2 56 p) : rdQ I I3 (j + 1) := by
  obtain ⟨l, p1, p2, p3⟩ := h
  have hl := (rdQ.len p1).trans hrc.symm
  have hmem : ∀ k, k ∈ l → k < j := fun k hk => List.mem_range.mp (List.mem_filter.mp (p1.mem_iff.mp hk)).1
  have hpl : ∀ p k, l[p]? = some k → p < rc := fun p k hk => by
    rw [← hl]
    rcases Nat.lt_or_ge p l.length with z | z
    · exact z
    · rw [List.getElem?_eq_none z] at hk; cases hk
  obtain ⟨i1, i2⟩ := ins_f (κ := zC I) (a := a) p1 ho p2 (by omega)
    (fun p k hp hk => by
      have hkn : k < n := by have := hmem k (List.mem_of_getElem? hk); omega
      have z := hw p k hp (hpl p k hk) hkn (p3 p k hk)
      rw [cb_e hR hj hkn] at z
      exact of_decide_eq_true z)
    (fun k hz hk => by
      have hkn : k < n := by have := hmem k (List.mem_of_getElem? hk); omega
      have z := hn k hz hkn (p3 (a - 1) k hk)
      rw [cb_e hR hj hkn] at z
      exact of_decide_eq_false z)
  refine ⟨_, i1, i2, ins_w (g := I1 56) (f := I3 56) (by omega) p3 (fun p => ?_)⟩
  rw [h3, hq, hl]
  by_cases z : p = a
  · rw [if_pos z, if_neg (by omega), if_pos z]
  · rw [if_neg z]
    by_cases w : p < a
    · rw [if_neg (by omega), if_pos w]
    · rw [if_neg w, if_neg z]
      exact aj_if (by omega)
-- THE CLASS'S ROWS
def hlP (I : Nat → Nat → Int32) (n hc : Nat) : Prop := (n = 0 ∧ hc = 0) ∨ ∃ h : Nat → Nat, hch (rX (I 24)) (rX (I 40)) n hc h ∧ ∀ p, p < hc → I 72 p = nI (h p)
/-- ROUND and HULL hold numbers of places, in their order -/
def fW (I : Nat → Nat → Int32) (n : Nat) : Prop := ∃ rc hc : Nat, rc ≤ n ∧ hc ≤ n ∧ I 18 4 = nI rc ∧ I 18 6 = nI hc ∧ (∀ j, j < rc → ∃ m, m < n ∧ I 56 j = nI m) ∧ (∀ j, j < hc → ∃ m, m < n ∧ I 72 j = nI m) ∧ rc = cnt (oP I) n ∧ (rgI I n → rdQ I I n) ∧ (rgI I n → dfI I n → hlP I n hc)
theorem rgI.cg {I I' : Nat → Nat → Int32} {n : Nat} (h1 : I' 24 = I 24) (h2 : I' 40 = I 40) (h : rgI I n) : rgI I' n := by
  unfold rgI at h ⊢
  rw [h1, h2]; exact h
theorem dfI.cg {I I' : Nat → Nat → Int32} {n : Nat} (h1 : I' 24 = I 24) (h2 : I' 40 = I 40) (h : dfI I n) : dfI I' n := by
  unfold dfI at h ⊢
  rw [h1, h2]; exact h
theorem rdQ.cn {I I' J J' : Nat → Nat → Int32} {n : Nat} (h1 : I' 24 = I 24) (h2 : I' 40 = I 40) (h3 : J' 56 = J 56) (h : rdQ I J n) : rdQ I' J' n := by
  have e : zC I' = zC I := funext fun k => by unfold zC; rw [h1, h2]
  unfold rdQ at h ⊢
  rw [oP_c h1 h2, e, h3]; exact h
theorem hlP.cg {I I' : Nat → Nat → Int32} {n hc : Nat} (h1 : I' 24 = I 24) (h2 : I' 40 = I 40) (h3 : I' 72 = I 72) (h : hlP I n hc) : hlP I' n hc := by
  unfold hlP at h ⊢
  rw [h1, h2, h3]; exact h
theorem fW.cg {I I' : Nat → Nat → Int32} {n : Nat} (h : fW I n) (e1 : I' 18 = I 18) (e2 : I' 56 = I 56) (e3 : I' 72 = I 72) (e4 : I' 24 = I 24) (e5 : I' 40 = I 40) : fW I' n := by
  obtain ⟨rc, hc, a1, a2, a3, a4, a5, a6, a7, a8, a9⟩ := h
  exact ⟨rc, hc, a1, a2, by rw [e1]; exact a3, by rw [e1]; exact a4, fun j hj => by rw [e2]; exact a5 j hj, fun j hj => by rw [e3]; exact a6 j hj, by rw [oP_c e4 e5]; exact a7, fun r => (a8 (r.cg e4.symm e5.symm)).cn e4 e5 e2, fun r d => (a9 (r.cg e4.symm e5.symm) (d.cg e4.symm e5.symm)).cg e4 e5 e3⟩
theorem fW.eqS {S : List Nat} {I I' : Nat → Nat → Int32} {n : Nat} (h : fW I n) (e : eqO S I I') (h1 : 18 ∉ S) (h2 : 56 ∉ S) (h3 : 72 ∉ S) (h4 : 24 ∉ S) (h5 : 40 ∉ S) : fW I' n := h.cg (e 18 h1) (e 56 h2) (e 72 h3) (e 24 h4) (e 40 h5)
/-- what laying leaves: only what ROUND and HULL are, and scratch -/
def fL (I I' : Nat → Nat → Int32) (n : Nat) : Prop := eqO fS I I' ∧ (∀ k, k ≠ 4 → k ≠ 6 → I' 18 k = I 18 k) ∧ fW I' n
def cI (I : Nat → Nat → Int32) (n : Nat) : Prop := n ≤ 12 ∧ I 18 2 = nI n ∧ fW I n
theorem cI.eqS {S : List Nat} {I I' : Nat → Nat → Int32} {n : Nat} (h : cI I n) (e : eqO S I I') (h1 : 18 ∉ S) (h2 : 56 ∉ S) (h3 : 72 ∉ S) (h4 : 24 ∉ S) (h5 : 40 ∉ S) : cI I' n := ⟨h.1, by rw [e 18 h1]; exact h.2.1, h.2.2.eqS e h1 h2 h3 h4 h5⟩
def fA (I I1 : Nat → Nat → Int32) (m : Nat) (fx fy : Nat → Int32) : Prop := eqO [20, 18, 24, 40, 56, 72, 179, 195] I I1 ∧ (∀ k, k ≠ 7 → I1 20 k = I 20 k) ∧ I1 20 7 = I 20 7 + 1 ∧ I1 18 2 = nI m ∧ fW I1 m ∧ (∀ k, I1 24 k = fx k) ∧ (∀ k, I1 40 k = fy k)
theorem fA.of {I I1 : Nat → Nat → Int32} {m : Nat} {fx fy : Nat → Int32} (h : eqO [18, 24, 40, 56, 72, 179, 195] (aj_u I 20 7 (I 20 7 + 1)) I1) (h2 : I1 18 2 = nI m) (h3 : fW I1 m) (h4 : ∀ k, I1 24 k = fx k) (h5 : ∀ k, I1 40 k = fy k) : fA I I1 m fx fy :=
  ⟨eqO.tr (eqO.u (by decide)) (h.mono (by decide)), fun k hk => by rw [h 20 (by decide), aj_u_k _ _ _ hk], by rw [h 20 (by decide), aj_u_s], h2, h3, h4, h5⟩
theorem fW.u20 {I : Nat → Nat → Int32} {n k : Nat} {v : Int32} (h : fW I n) : fW (aj_u I 20 k v) n := h.eqS (S := [20]) (eqO.u (by decide)) (by decide) (by decide) (by decide) (by decide) (by decide)
def cQ (I I1 : Nat → Nat → Int32) (q : vw) : Prop := eqO cS0 I I1 ∧ (∃ n, cI I1 n) ∧ kW I1 = q
def cR (I I1 : Nat → Nat → Int32) : Prop := eqO cS0 I I1 ∧ (∃ n, cI I1 n) ∧ kW I1 = kW I
-- places of the class, in whole numbers
theorem dfI.x {I : Nat → Nat → Int32} {n : Nat} (h : dfI I n) : dfX (rX (I 24)) (rX (I 40)) n := fun i j hi hj hne z => h i j hi hj hne ⟨Int32.toInt_inj.mp z.1, Int32.toInt_inj.mp z.2⟩
theorem rgI.x {I : Nat → Nat → Int32} {n : Nat} (h : rgI I n) : bdX (rX (I 24)) (rX (I 40)) n := fun k hk => ⟨(pIn_sub' (h.1 k hk).1 h.2.1).2.2, (pIn_sub' (h.1 k hk).2 h.2.2).2.2⟩
section GI
variable {f g : Nat → Int32} {n i j k : Nat}
def rgF (f g : Nat → Int32) (n : Nat) : Prop := ∀ k, k < n → pIn (f k) (-64) 63 = true ∧ pIn (g k) (-64) 63 = true
theorem rgF.x (h : rgF f g n) : bdX (rX f) (rX g) n := fun k hk => ⟨(pIn_sub' (h k hk).1 (h k hk).1).2.2, (pIn_sub' (h k hk).2 (h k hk).2).2.2⟩
theorem pCr_i (h : rgF f g n) (hi : i < n) (hj : j < n) (hk : k < n) : (pCr (f i) (g i) (f j) (g j) (f k) (g k)).toInt = crs (rX f) (rX g) i j k ∧ (pDt (f i) (g i) (f j) (g j) (f k) (g k)).toInt = dtp (rX f) (rX g) i j k := by
  have a1 := pIn_sub' (h j hj).1 (h i hi).1
  have a2 := pIn_sub' (h j hj).2 (h i hi).2
  have a3 := pIn_sub' (h k hk).1 (h i hi).1
  have a4 := pIn_sub' (h k hk).2 (h i hi).2
  have b1 := pIn_i a1.1
  have b2 := pIn_i a2.1
  have b3 := pIn_i a3.1
  have b4 := pIn_i a4.1
  have m := mCr_i b1.1 b1.2 b2.1 b2.2 b3.1 b3.2 b4.1 b4.2
  rw [a1.2.1, a2.2.1, a3.2.1, a4.2.1] at m
  exact m
theorem pDs_i (h : rgF f g n) (hi : i < n) (hj : j < n) : (pDs (f i) (g i) (f j) (g j)).toInt = dsq (rX f) (rX g) i j := (pCr_i h hi hj hj).2
/-- the class's test of the next corner -/
def pOu (f g : Nat → Int32) (i j k : Nat) : Bool := decide (pCr (f i) (g i) (f j) (g j) (f k) (g k) < 0) || (decide (pCr (f i) (g i) (f j) (g j) (f k) (g k) = 0) && decide (pDs (f i) (g i) (f j) (g j) < pDs (f i) (g i) (f k) (g k)))
theorem pOu_t (h : rgF f g n) (hi : i < n) (hj : j < n) (hk : k < n) (ho : pOu f g i j k = true) : crs (rX f) (rX g) i j k < 0 ∨ (crs (rX f) (rX g) i j k = 0 ∧ dsq (rX f) (rX g) i j < dsq (rX f) (rX g) i k) := by
  unfold pOu at ho
  rw [Bool.or_eq_true, Bool.and_eq_true, decide_eq_true_eq, decide_eq_true_eq, decide_eq_true_eq, i32_n, i32_0, Int32.lt_iff_toInt_lt, (pCr_i h hi hj hk).1, pDs_i h hi hj, pDs_i h hi hk] at ho
  exact ho
theorem pOu_f (h : rgF f g n) (hi : i < n) (hj : j < n) (hk : k < n) (ho : pOu f g i j k = false) : edg (rX f) (rX g) i j k := by
  have hn : ¬ pOu f g i j k = true := by rw [ho]; decide
  unfold pOu at hn
  rw [Bool.or_eq_true, Bool.and_eq_true, decide_eq_true_eq, decide_eq_true_eq, decide_eq_true_eq, i32_n, i32_0, Int32.lt_iff_toInt_lt, (pCr_i h hi hj hk).1, pDs_i h hi hj, pDs_i h hi hk] at hn
  unfold edg
  omega
/-- the scan for the next corner, up to j -/
def cnP (f g : Nat → Int32) (n c j nx : Nat) : Prop := (nx = c ∧ ∀ k, k < j → k = c) ∨ (nx ≠ c ∧ ∀ k, k < j → k ≠ c → edg (rX f) (rX g) c nx k)
variable {c nx : Nat}
theorem cnP.st : cnP f g n c 0 c := Or.inl ⟨rfl, fun k hk => absurd hk (Nat.not_lt_zero k)⟩
theorem cnP.ec (h : cnP f g n c j nx) (e : j = c) : cnP f g n c (j + 1) nx := by
  rcases h with ⟨h1, h2⟩ | ⟨h1, h2⟩
  · refine Or.inl ⟨h1, fun k hk => ?_⟩
    rcases Nat.lt_or_ge k j with w | w
    · exact h2 k w
    · omega
  · refine Or.inr ⟨h1, fun k hk hc => ?_⟩
    rcases Nat.lt_or_ge k j with w | w
    · exact h2 k w hc
    · omega
theorem cnP.en (h : cnP f g n c j nx) (e : nx = c) (hj : j ≠ c) : cnP f g n c (j + 1) j := by
  rcases h with ⟨h1, h2⟩ | ⟨h1, h2⟩
  · refine Or.inr ⟨hj, fun k hk hc => ?_⟩
    rcases Nat.lt_or_ge k j with w | w
    · exact absurd (h2 k w) hc
    · rw [show k = j by omega]; exact edg_self
  · exact absurd e h1
theorem cnP.ek (h : cnP f g n c j nx) (hR : rgF f g n) (hcn : c < n) (hx : nx < n) (hj : j < n) (hxc : nx ≠ c) (ho : pOu f g c nx j = false) : cnP f g n c (j + 1) nx := by
  rcases h with ⟨h1, h2⟩ | ⟨h1, h2⟩
  · exact absurd h1 hxc
  · refine Or.inr ⟨h1, fun k hk hc => ?_⟩
    rcases Nat.lt_or_ge k j with w | w
    · exact h2 k w hc
    · rw [show k = j by omega]; exact pOu_f hR hcn hx hj ho
theorem cnP.o (h : cnP f g n c j nx) (hR : rgF f g n) (hC : isC (rX f) (rX g) n c) (hcn : c < n) (hx : nx < n) (hj : j < n) (hxc : nx ≠ c) (hjc : j ≠ c) (ho : pOu f g c nx j = true) : cnP f g n c (j + 1) j := by
  obtain ⟨A, B, hL⟩ := hC
  rcases h with ⟨h1, h2⟩ | ⟨h1, h2⟩
  · exact absurd h1 hxc
  · refine Or.inr ⟨hjc, fun k hk hc => ?_⟩
    rcases Nat.lt_or_ge k j with w | w
    · exact edg_new hL hx hxc hj hjc (by omega) hc (h2 k w hc) (pOu_t hR hcn hx hj ho)
    · rw [show k = j by omega]; exact edg_self
theorem cnP.fin (h : cnP f g n c n nx) : (1 < n → nx ≠ c) ∧ ∀ k, k < n → k ≠ c → edg (rX f) (rX g) c nx k := by
  rcases h with ⟨h1, h2⟩ | ⟨h1, h2⟩
  · refine ⟨fun hn => ?_, fun k hk hc => absurd (h2 k hk) hc⟩
    have a := h2 0 (by omega)
    have b := h2 1 hn
    omega
  · exact ⟨fun _ => h1, h2⟩
theorem low_n {lo : Nat} (h : ∀ k, k < j → rX g lo < rX g k ∨ (rX g lo = rX g k ∧ rX f lo ≤ rX f k)) (hn : g j < g lo ∨ (g j = g lo ∧ f j < f lo)) : ∀ k, k < j + 1 → rX g j < rX g k ∨ (rX g j = rX g k ∧ rX f j ≤ rX f k) := by
  intro k hk
  have hn : (g j).toInt < (g lo).toInt ∨ ((g j).toInt = (g lo).toInt ∧ (f j).toInt < (f lo).toInt) := by
    rcases hn with z | z
    · exact Or.inl (Int32.lt_iff_toInt_lt.mp z)
    · exact Or.inr ⟨congrArg Int32.toInt z.1, Int32.lt_iff_toInt_lt.mp z.2⟩
  rcases Nat.lt_or_ge k j with w | w
  · have a := h k w
    unfold rX at a ⊢
    omega
  · rw [show k = j by omega]
    exact Or.inr ⟨rfl, Int.le_refl _⟩
theorem low_k {lo : Nat} (h : ∀ k, k < j → rX g lo < rX g k ∨ (rX g lo = rX g k ∧ rX f lo ≤ rX f k)) (h1 : ¬ g j < g lo) (h2 : ¬ g j = g lo ∨ f lo ≤ f j) : ∀ k, k < j + 1 → rX g lo < rX g k ∨ (rX g lo = rX g k ∧ rX f lo ≤ rX f k) := by
  intro k hk
  rcases Nat.lt_or_ge k j with w | w
  · exact h k w
  · rw [show k = j by omega]
    rw [Int32.lt_iff_toInt_lt] at h1
    unfold rX
    rcases h2 with z | z
    · have ne : (g j).toInt ≠ (g lo).toInt := fun e => z (Int32.toInt_inj.mp e)
      omega
    · rw [Int32.le_iff_toInt_le] at z
      omega
end GI
/-- the hull so far -/
def hpI (I I1 : Nat → Nat → Int32) (n j cr lo : Nat) : Prop := ∃ h : Nat → Nat, hpn (rX (I 24)) (rX (I 40)) n j h ∧ h j = cr ∧ h 0 = lo ∧ ∀ p, p < j → I1 72 p = nI (h p)
section HI
variable {I I1 I2 : Nat → Nat → Int32} {n j cr lo nx : Nat}
theorem rgI.f (h : rgI I n) : rgF (I 24) (I 40) n := h.1
theorem hpI.st (hl : low (rX (I 24)) (rX (I 40)) n lo) (hlo : lo < n) (r : rgI I n) (d : dfI I n) : hpI I I1 n 0 lo lo := ⟨fun _ => lo, ⟨fun _ _ => ⟨hlo, isC_low hlo hl d.x r.x⟩, hl, fun p hp => absurd hp (Nat.not_lt_zero p)⟩, rfl, rfl, fun p hp => absurd hp (Nat.not_lt_zero p)⟩
theorem hpI.ic (H : hpI I I1 n j cr lo) : cr < n ∧ isC (rX (I 24)) (rX (I 40)) n cr := by
  obtain ⟨h, H1, H2, -⟩ := H
  rw [← H2]
  exact H1.1 j (Nat.le_refl j)
def hxt (h : Nat → Nat) (j nx p : Nat) : Nat := if p < j + 1 then h p else nx
theorem hxt_l {h : Nat → Nat} {p : Nat} (hp : p < j + 1) : hxt h j nx p = h p := if_pos hp
theorem hxt_g {h : Nat → Nat} {p : Nat} (hp : ¬ p < j + 1) : hxt h j nx p = nx := if_neg hp
theorem hpI.up (H : hpI I I1 n j cr lo) (r : rgI I n) (d : dfI I n) (hnx : nx < n) (h2 : nx ≠ lo) (hed : (1 < n → nx ≠ cr) ∧ ∀ k, k < n → k ≠ cr → edg (rX (I 24)) (rX (I 40)) cr nx k) (h72 : ∀ p, p < j + 1 → I2 72 p = if p = j then nI cr else I1 72 p) : hpI I I2 n (j + 1) nx lo := by
  obtain ⟨hcn, hic⟩ := H.ic
  obtain ⟨h, ⟨H1, H2, H3⟩, e1, e2, H4⟩ := H
  have hlo : lo < n := by rw [← e2]; exact (H1 0 (by omega)).1
  have h1 := hed.1 (by omega)
  refine ⟨hxt h j nx, ⟨fun p hp => ?_, ?_, fun p hp => ?_⟩, hxt_g (by omega), (hxt_l (by omega)).trans e2, fun p hp => ?_⟩
  · by_cases w : p < j + 1
    · rw [hxt_l w]; exact H1 p (by omega)
    · rw [hxt_g w]
      exact ⟨hnx, isC_nxt hic hcn hnx h1 hed.2 d.x r.x⟩
  · rw [hxt_l (show 0 < j + 1 by omega)]; exact H2
  · rw [hxt_l (show p < j + 1 by omega), hxt_l (show 0 < j + 1 by omega)]
    by_cases w : p + 1 < j + 1
    · rw [hxt_l w]; exact H3 p (by omega)
    · have e : p = j := by omega
      subst e
      rw [hxt_g w, e1, e2]
      exact ⟨h1, h2, hed.2⟩
  · rw [hxt_l hp, h72 p hp]
    by_cases w : p = j
    · rw [if_pos w, w, e1]
    · rw [if_neg w]; exact H4 p (by omega)
theorem hpI.fin (H : hpI I I1 n j cr lo) (hed : (1 < n → lo ≠ cr) ∧ ∀ k, k < n → k ≠ cr → edg (rX (I 24)) (rX (I 40)) cr lo k) (h72 : ∀ p, p < j + 1 → I2 72 p = if p = j then nI cr else I1 72 p) : ∃ h : Nat → Nat, hch (rX (I 24)) (rX (I 40)) n (j + 1) h ∧ ∀ p, p < j + 1 → I2 72 p = nI (h p) := by
  obtain ⟨h, H1, e1, e2, H4⟩ := H
  refine ⟨h, ⟨j, rfl, H1, by rw [e1, e2]; exact hed.2, by rw [e1, e2]; exact fun hn => Ne.symm (hed.1 hn)⟩, fun p hp => ?_⟩
  rw [h72 p hp]
  by_cases w : p = j
  · rw [if_pos w, w, e1]
  · rw [if_neg w]; exact H4 p (by omega)
theorem hpI.no (H : hpI I I1 n n cr lo) : False := by
  obtain ⟨h, H1, -⟩ := H
  exact hpn_no H1
end HI
-- SUMS AND TESTS OVER A ROW
def alB (p : Nat → Bool) (n : Nat) : Bool := decide (vfi (fun q => !p q) n = n)
def exB (p : Nat → Bool) (n : Nat) : Bool := decide (vfi p n < n)
theorem alB_t {p : Nat → Bool} {n : Nat} (h : ∀ q, q < n → p q = true) : alB p n = true := decide_eq_true (vfi_none n (fun k hk => show (!p k) = false by rw [h k hk]; rfl))
theorem alB_f {p : Nat → Bool} {n q : Nat} (hq : q < n) (h : p q = false) : alB p n = false := decide_eq_false (fun e => by
  have := vfi_lt (p := fun q => !p q) hq (show (!p q) = true by rw [h]; rfl)
  omega)
theorem exB_t {p : Nat → Bool} {n q : Nat} (hq : q < n) (h : p q = true) : exB p n = true := decide_eq_true (vfi_lt hq h)
theorem exB_f {p : Nat → Bool} {n : Nat} (h : ∀ q, q < n → p q = false) : exB p n = false := decide_eq_false (fun e => by
  rw [vfi_none n h] at e
  exact Nat.lt_irrefl n e)
theorem alB_i {p : Nat → Bool} {n : Nat} (h : alB p n = true) : ∀ q, q < n → p q = true := fun q hq => by
  cases z : p q with
  | true => rfl
  | false => rw [alB_f hq z] at h; exact absurd h (by decide)
theorem exB_i {p : Nat → Bool} {n : Nat} (h : exB p n = true) : ∃ q, q < n ∧ p q = true := ⟨_, of_decide_eq_true h, vfi_at n rfl (of_decide_eq_true h)⟩
theorem alB_c {p q : Nat → Bool} {n : Nat} (h : ∀ k, k < n → p k = q k) : alB p n = alB q n := by
  unfold alB
  rw [vfi_c (p := fun k => !p k) (q := fun k => !q k) n (fun k hk => show (!p k) = (!q k) by rw [h k hk])]
theorem exB_c {p q : Nat → Bool} {n : Nat} (h : ∀ k, k < n → p k = q k) : exB p n = exB q n := by
  unfold exB
  rw [vfi_c n h]
/-- a word of two ways that follow each other in a row -/
def rwO (o : Int32 → Int32 → Int32 → Int32 → Int32) (f g : Nat → Int32) (cx cy : Int32) (ρ : Nat → Nat) (t p : Nat) : Int32 := o (f (ρ p) - cx) (g (ρ p) - cy) (f (ρ (vfo t p)) - cx) (g (ρ (vfo t p)) - cy)
def rwD (o : Int32 → Int32 → Int32 → Int32 → Int32) (f g : Nat → Int32) (cx cy : Int32) (ρ : Nat → Nat) (t p : Nat) : Bool := !decide (rwO o f g cx cy ρ t p = 0)
def rwG (o : Int32 → Int32 → Int32 → Int32 → Int32) (f g : Nat → Int32) (cx cy : Int32) (ρ : Nat → Nat) (t p : Nat) : Bool := !rwD o f g cx cy ρ t p || decide (0 < rwO mCr f g cx cy ρ t p)
def rwS (o : Int32 → Int32 → Int32 → Int32 → Int32) (f g : Nat → Int32) (cx cy : Int32) (ρ : Nat → Nat) (t : Nat) : Bool := alB (rwG o f g cx cy ρ t) t && exB (rwD o f g cx cy ρ t) t
def rwT (f g : Nat → Int32) (cx cy : Int32) (ρ : Nat → Nat) (t : Nat) : Int32 := vSm (rwO mCr f g cx cy ρ t) t
def hrT (f g : Nat → Int32) (ρ : Nat → Nat) (t : Nat) : Int32 := vSm (fun p => mCr (f (ρ p)) (g (ρ p)) (f (ρ (vfo t p))) (g (ρ (vfo t p)))) t
theorem vSg_1 {x : Int32} (h : vSg x = 1) : 0 < x := by
  unfold vSg at h
  by_cases z : 0 < x
  · exact z
  · rw [if_neg z] at h
    split at h
    · exact absurd h (by decide)
    · exact absurd h (by decide)
theorem vSg_p {x : Int32} (h : 0 < x) : vSg x = 1 := if_pos h
section RW
variable {o o' : Int32 → Int32 → Int32 → Int32 → Int32} {f g f' g' : Nat → Int32} {cx cy : Int32} {ρ ρ' : Nat → Nat} {t p : Nat}
theorem rwD_t (h : ¬ rwO o f g cx cy ρ t p = 0) : rwD o f g cx cy ρ t p = true := by unfold rwD; rw [decide_eq_false h]; rfl
theorem rwD_f (h : rwO o f g cx cy ρ t p = 0) : rwD o f g cx cy ρ t p = false := by unfold rwD; rw [decide_eq_true h]; rfl
theorem rwG_0 (h : rwO o f g cx cy ρ t p = 0) : rwG o f g cx cy ρ t p = true := by unfold rwG; rw [rwD_f h]; rfl
theorem rwG_t (h : 0 < rwO mCr f g cx cy ρ t p) : rwG o f g cx cy ρ t p = true := by unfold rwG; rw [decide_eq_true h, Bool.or_true]
theorem rwG_f (h : ¬ rwO o f g cx cy ρ t p = 0) (h2 : ¬ 0 < rwO mCr f g cx cy ρ t p) : rwG o f g cx cy ρ t p = false := by unfold rwG; rw [rwD_t h, decide_eq_false h2]; rfl
theorem rwS_b (hp : p < t) (h : rwG o f g cx cy ρ t p = false) : rwS o f g cx cy ρ t = false := by unfold rwS; rw [alB_f hp h]; rfl
theorem rwS_e (h : ∀ q, q < t → rwG o f g cx cy ρ t q = true) : rwS o f g cx cy ρ t = exB (rwD o f g cx cy ρ t) t := by unfold rwS; rw [alB_t h]; rfl
theorem rwO_c (h : ∀ q, q < t → f (ρ q) = f' (ρ' q) ∧ g (ρ q) = g' (ρ' q)) (hp : p < t) : rwO o f g cx cy ρ t p = rwO o f' g' cx cy ρ' t p := by
  have a := h p hp
  have b := h _ (vfo_l hp)
  unfold rwO
  rw [a.1, a.2, b.1, b.2]
theorem rwT_c (h : ∀ q, q < t → f (ρ q) = f' (ρ' q) ∧ g (ρ q) = g' (ρ' q)) : rwT f g cx cy ρ t = rwT f' g' cx cy ρ' t := vSm_c t (fun k hk => rwO_c h hk)
theorem hrT_c (h : ∀ q, q < t → f (ρ q) = f' (ρ' q) ∧ g (ρ q) = g' (ρ' q)) : hrT f g ρ t = hrT f' g' ρ' t := vSm_c t (fun k hk => by
  have a := h k hk
  have b := h _ (vfo_l hk)
  show mCr (f (ρ k)) (g (ρ k)) (f (ρ (vfo t k))) (g (ρ (vfo t k))) = _
  rw [a.1, a.2, b.1, b.2])
theorem rwS_c (h : ∀ q, q < t → f (ρ q) = f' (ρ' q) ∧ g (ρ q) = g' (ρ' q)) (ho : ∀ q, q < t → rwO o f g cx cy ρ t q = rwO o' f g cx cy ρ t q) : rwS o f g cx cy ρ t = rwS o' f' g' cx cy ρ' t := by
  have e : ∀ q, q < t → rwO o f g cx cy ρ t q = rwO o' f' g' cx cy ρ' t q := fun q hq => (ho q hq).trans (rwO_c h hq)
  have e2 : ∀ q, q < t → rwD o f g cx cy ρ t q = rwD o' f' g' cx cy ρ' t q := fun q hq => by unfold rwD; rw [e q hq]
  unfold rwS
  rw [alB_c (fun q hq => show rwG o f g cx cy ρ t q = rwG o' f' g' cx cy ρ' t q by unfold rwG; rw [e2 q hq, rwO_c (o := mCr) h hq]), exB_c e2]
end RW
-- RANKS
/-- each stands at its rank -/
theorem rk_f {κ : Nat → Int} {f : Nat → Bool} {n : Nat} {l : List Nat} (hp : l.Perm ((List.range n).filter f)) (hs : l.Pairwise (bfR κ)) (hd : ∀ x y, x ∈ l → y ∈ l → x ≠ y → κ x ≠ κ y) {p k : Nat} (h : l[p]? = some k) : cnt (fun o => f o && decide (κ o < κ k)) n = p := by
  have hpl : p < l.length := by
    rcases Nat.lt_or_ge p l.length with z | z
    · exact z
    · rw [List.getElem?_eq_none z] at h; cases h
  have ek : l[p] = k := by rw [List.getElem?_eq_getElem hpl] at h; exact Option.some.inj h
  have hkl : k ∈ l := List.mem_of_getElem? h
  have e : l = l.take p ++ k :: l.drop (p + 1) := by
    rw [← ek, List.getElem_cons_drop, List.take_append_drop]
  have e0 : (List.range n).countP (fun o => f o && decide (κ o < κ k)) = ((List.range n).filter f).countP (fun o => decide (κ o < κ k)) := by
    rw [List.countP_filter]
    congr 1
    funext o
    exact Bool.and_comm _ _
  rw [cnt_countP, e0, ← hp.countP_eq, e, List.countP_append, List.countP_cons]
  have e1 : (l.take p).countP (fun o => decide (κ o < κ k)) = p := by
    have : (l.take p).countP (fun o => decide (κ o < κ k)) = (l.take p).length := by
      rw [List.countP_eq_length]
      intro i hi
      obtain ⟨q, hq⟩ := List.getElem?_of_mem hi
      rw [List.getElem?_take] at hq
      have hqp : q < p := by
        rcases Nat.lt_or_ge q p with w | w
        · exact w
        · rw [if_neg (by omega)] at hq; cases hq
      rw [if_pos hqp] at hq
      have hql : q < l.length := by omega
      have eq : l[q] = i := by rw [List.getElem?_eq_getElem hql] at hq; exact Option.some.inj hq
      have z := List.pairwise_iff_getElem.mp hs q p hql hpl hqp
      rw [eq, ek] at z
      unfold bfR at z
      have hne : κ i ≠ κ k ∨ i = k := by
        by_cases w : i = k
        · exact Or.inr w
        · exact Or.inl (hd i k (List.mem_of_getElem? hq) hkl w)
      exact decide_eq_true (by omega)
    rw [this, List.length_take]; omega
  have e2 : (l.drop (p + 1)).countP (fun o => decide (κ o < κ k)) = 0 := by
    rw [List.countP_eq_zero]
    intro i hi hb
    obtain ⟨q, hq⟩ := List.getElem?_of_mem hi
    rw [List.getElem?_drop] at hq
    have hql : p + 1 + q < l.length := by
      rcases Nat.lt_or_ge (p + 1 + q) l.length with w | w
      · exact w
      · rw [List.getElem?_eq_none w] at hq; cases hq
    have eq : l[p + 1 + q] = i := by rw [List.getElem?_eq_getElem hql] at hq; exact Option.some.inj hq
    have z := List.pairwise_iff_getElem.mp hs p (p + 1 + q) hpl hql (by omega)
    rw [eq, ek] at z
    have y := of_decide_eq_true hb
    unfold bfR at z
    omega
  rw [e1, e2, if_neg (by simp)]
  omega
/-- a row laid by ranks: whichever was laid last at a rank stands there -/
def rowQ (R : Nat → Int32) (f : Nat → Bool) (r : Nat → Nat) (k : Nat) : Prop := ∀ q, q < k → f q = true → ∃ z, z < k ∧ f z = true ∧ r z = r q ∧ R (r q) = nI z
theorem rowQ.st {R : Nat → Int32} {f : Nat → Bool} {r : Nat → Nat} : rowQ R f r 0 := fun q hq => absurd hq (Nat.not_lt_zero q)
theorem rowQ.sk {R : Nat → Int32} {f : Nat → Bool} {r : Nat → Nat} {k : Nat} (h : rowQ R f r k) (hf : f k = false) : rowQ R f r (k + 1) := fun q hq hq2 => by
  rcases Nat.lt_or_ge q k with w | w
  · obtain ⟨z, h1, h2⟩ := h q w hq2
    exact ⟨z, by omega, h2⟩
  · rw [show q = k by omega, hf] at hq2
    exact absurd hq2 (by decide)
theorem rowQ.up {I : Nat → Nat → Int32} {a : Nat} {f : Nat → Bool} {r : Nat → Nat} {k : Nat} (h : rowQ (I a) f r k) (hf : f k = true) : rowQ (aj_u I a (r k) (nI k) a) f r (k + 1) := fun q hq hq2 => by
  by_cases e : r q = r k
  · exact ⟨k, by omega, hf, e.symm, by rw [e]; exact aj_u_s _ _ _ _⟩
  · have w : q < k := by
      rcases Nat.lt_or_ge q k with w | w
      · exact w
      · exact absurd (by rw [show q = k by omega]) e
    obtain ⟨z, h1, h2, h3, h4⟩ := h q w hq2
    exact ⟨z, by omega, h2, h3, by rw [aj_u_k _ _ _ e]; exact h4⟩
-- THE ROUND OF A VIEW
def zV (v : vw) (k : Nat) : Int := zKK (vP v k - vX v) (vQ v k - vY v)
def rnV (v : vw) (k : Nat) : Nat := cnt (fun o => ouV v o && decide (zV v o < zV v k)) (vN v)
def rdV (v : vw) (R : Nat → Int32) (t : Nat) : Prop := t = cnt (ouV v) (vN v) ∧ rowQ R (ouV v) (rnV v) (vN v)
theorem ouV_oP {I : Nat → Nat → Int32} {n k : Nat} (h : rgI I n) (hk : k < n) : oP I k = (!(decide (I 24 k = I 24 12) && decide (I 40 k = I 40 12))) := by
  by_cases e : I 24 k = I 24 12 ∧ I 40 k = I 40 12
  · rw [decide_eq_true e.1, decide_eq_true e.2]
    refine decide_eq_false ?_
    unfold pDs
    rw [e.1, e.2, Int32.sub_self, Int32.sub_self]
    decide
  · have hw := h.w hk
    have d := dd_i hw.1 hw.2
    have r : (!(decide (I 24 k = I 24 12) && decide (I 40 k = I 40 12))) = true := by
      by_cases w : I 24 k = I 24 12
      · rw [decide_eq_false (fun z => e ⟨w, z⟩), Bool.and_false]; rfl
      · rw [decide_eq_false w]; rfl
    rw [r]
    refine decide_eq_true ?_
    show 0 < mDt (I 24 k - I 24 12) (I 40 k - I 40 12) (I 24 k - I 24 12) (I 40 k - I 40 12)
    rw [i32_p]
    rcases Int.lt_or_eq_of_le d.2.1 with w | w
    · exact w
    · exfalso
      rw [d.1] at w
      have z := i_sq0 w.symm
      exact e ⟨i32_sub0 (i32_0.mpr z.1), i32_sub0 (i32_0.mpr z.2)⟩
/-- the class's row of the round and a row laid by ranks hold the same -/
theorem rd_row {I : Nat → Nat → Int32} {n t rc : Nat} {R : Nat → Int32} (hn : n ≤ 12) (hR : rgI I n) (hD : dfI I n) (hq : rdQ I I n) (hrc : rc = cnt (oP I) n) (h : rdV (vOf (hW I) (I 24 12) (I 40 12) n (I 24) (I 40)) R t) : t = rc ∧ ∀ p, p < t → ∃ k, k < n ∧ oP I k = true ∧ I 56 p = nI k ∧ R p = nI k := by
  obtain ⟨l, p1, p2, p3⟩ := hq
  obtain ⟨h1, h2⟩ := h
  have eo : ∀ k, k < n → ouV (vOf (hW I) (I 24 12) (I 40 12) n (I 24) (I 40)) k = oP I k := fun k hk => by
    rw [ouV_oP hR hk]
    show (!(decide (vMk n (I 24) k = I 24 12) && decide (vMk n (I 40) k = I 40 12))) = _
    rw [vMk_l hk, vMk_l hk]
  have ez : ∀ k, k < n → zV (vOf (hW I) (I 24 12) (I 40 12) n (I 24) (I 40)) k = zC I k := fun k hk => by
    show zKK (vMk n (I 24) k - I 24 12) (vMk n (I 40) k - I 40 12) = _
    rw [vMk_l hk, vMk_l hk]
    rfl
  have ec : ∀ f g : Nat → Bool, (∀ k, k < n → f k = g k) → cnt f n = cnt g n := fun f g e => Nat.le_antisymm (cnt_leb n (fun k hk z => by rw [← e k hk]; exact z)) (cnt_leb n (fun k hk z => by rw [e k hk]; exact z))
  have ht : t = rc := by
    rw [h1, hrc]
    exact ec _ _ eo
  have hl := (rdQ.len p1).trans hrc.symm
  have hm : ∀ k, k ∈ l → k < n ∧ oP I k = true := fun k hk => by
    have z := List.mem_filter.mp (p1.mem_iff.mp hk)
    exact ⟨List.mem_range.mp z.1, z.2⟩
  have hd : ∀ x y, x ∈ l → y ∈ l → x ≠ y → zC I x ≠ zC I y := fun x y hx hy hne e => by
    have a := hm x hx
    have b := hm y hy
    have wa := hR.w a.1
    have wb := hR.w b.1
    have z := zK_inj wa.1 wa.2 wb.1 wb.2 (oP_nz a.2) (oP_nz b.2) e
    exact hD x y a.1 b.1 hne ⟨(Int32.sub_left_inj _).mp z.1, (Int32.sub_left_inj _).mp z.2⟩
  have hrk : ∀ p k, l[p]? = some k → rnV (vOf (hW I) (I 24 12) (I 40 12) n (I 24) (I 40)) k = p := fun p k hk => by
    have hkn := (hm k (List.mem_of_getElem? hk)).1
    rw [← rk_f p1 p2 hd hk]
    exact ec _ _ (fun o ho => by rw [eo o ho, ez o ho, ez k hkn])
  refine ⟨ht, fun p hp => ?_⟩
  have hpl : p < l.length := by omega
  have el : l[p]? = some l[p] := List.getElem?_eq_getElem hpl
  have hk := hm _ (List.mem_of_getElem? el)
  refine ⟨l[p], hk.1, hk.2, p3 p _ el, ?_⟩
  have hou : ouV (vOf (hW I) (I 24 12) (I 40 12) n (I 24) (I 40)) l[p] = true := (eo _ hk.1).trans hk.2
  obtain ⟨z, z1, z2, z3, z4⟩ := h2 l[p] hk.1 hou
  have z1 : z < n := z1
  rw [hrk p _ el] at z3 z4
  have hz : z ∈ l := by
    rw [p1.mem_iff, List.mem_filter, List.mem_range]
    exact ⟨z1, by rw [← eo z z1]; exact z2⟩
  obtain ⟨q, hq⟩ := List.getElem?_of_mem hz
  have e := hrk q z hq
  rw [z3] at e
  rw [← e, el] at hq
  rw [z4, Option.some.inj hq]
theorem ec_star {I : Nat → Nat → Int32} {n t rc : Nat} {R f g : Nat → Int32} (hn : n ≤ 12) (hR : rgI I n) (hD : dfI I n) (hq : rdQ I I n) (hrc : rc = cnt (oP I) n) (h : rdV (vOf (hW I) (I 24 12) (I 40 12) n (I 24) (I 40)) R t) (hf : ∀ k, k < n → I 24 k = f k ∧ I 40 k = g k) : rwS pOW (I 24) (I 40) (I 24 12) (I 40 12) (fun p => nn (I 56 p)) rc = rwS vWO f g (I 24 12) (I 40 12) (fun p => nn (R p)) t ∧ rwT (I 24) (I 40) (I 24 12) (I 40 12) (fun p => nn (I 56 p)) rc = rwT f g (I 24 12) (I 40 12) (fun p => nn (R p)) t := by
  obtain ⟨ht, hr⟩ := rd_row hn hR hD hq hrc h
  subst ht
  have hc : ∀ q, q < t → I 24 (nn (I 56 q)) = f (nn (R q)) ∧ I 40 (nn (I 56 q)) = g (nn (R q)) := fun q hq => by
    obtain ⟨k, k1, -, k3, k4⟩ := hr q hq
    rw [k3, k4, nn_nI (by omega)]
    exact hf k k1
  have nz : ∀ q, q < t → ¬ (I 24 (nn (I 56 q)) - I 24 12 = 0 ∧ I 40 (nn (I 56 q)) - I 40 12 = 0) := fun q hq => by
    obtain ⟨k, k1, k2, k3, -⟩ := hr q hq
    rw [k3, nn_nI (by omega)]
    exact oP_nz k2
  exact ⟨rwS_c hc (fun q hq => pOW_vWO (nz q hq) (nz _ (vfo_l hq))), rwT_c hc⟩
-- THE HULL OF A VIEW
def rmT (f g : Nat → Int32) (i o q : Nat) : Bool := decide (q = i) || (!decide (pCr (f i) (g i) (f o) (g o) (f q) (g q) < 0) && !(decide (pCr (f i) (g i) (f o) (g o) (f q) (g q) = 0) && decide (pDt (f i) (g i) (f o) (g o) (f q) (g q) < 0)))
def rmB (f g : Nat → Int32) (n i o : Nat) : Bool := alB (rmT f g i o) n
def cnB (f g : Nat → Int32) (n i : Nat) : Bool := exB (fun o => !decide (o = i) && rmB f g n i o) n || decide (n = 1)
def nhF (f g : Nat → Int32) (n fi k o : Nat) : Bool := cnB f g n o && (!decide (o = fi) && decide (0 < pCr (f fi) (g fi) (f o) (g o) (f k) (g k)))
def nhB (f g : Nat → Int32) (n fi k : Nat) : Nat := 1 + cnt (nhF f g n fi k) n
def lowT (f g : Nat → Int32) (b q : Nat) : Prop := (g b).toInt < (g q).toInt ∨ ((g b).toInt = (g q).toInt ∧ (f b).toInt ≤ (f q).toInt)
def hlR (f g : Nat → Int32) (n : Nat) (R : Nat → Int32) (t : Nat) : Prop := t = cnt (cnB f g n) n ∧ (t ≠ 0 → ∃ fi, fi < n ∧ (∀ k, k < n → cnB f g n k = true → lowT f g fi k) ∧ R 0 = nI fi ∧ rowQ R (fun k => cnB f g n k && !decide (k = fi)) (nhB f g n fi) n)
section HV
variable {f g : Nat → Int32} {n m i o q t : Nat} {h : Nat → Nat} {R S : Nat → Int32}
theorem rmT_1 (h : q = i) : rmT f g i o q = true := by unfold rmT; rw [decide_eq_true h]; rfl
theorem rmT_2 (h : ¬ pCr (f i) (g i) (f o) (g o) (f q) (g q) < 0) (h2 : ¬ pCr (f i) (g i) (f o) (g o) (f q) (g q) = 0) : rmT f g i o q = true := by unfold rmT; rw [decide_eq_false h, decide_eq_false h2]; cases decide (q = i) <;> rfl
theorem rmT_3 (h : ¬ pCr (f i) (g i) (f o) (g o) (f q) (g q) < 0) (h2 : ¬ pDt (f i) (g i) (f o) (g o) (f q) (g q) < 0) : rmT f g i o q = true := by unfold rmT; rw [decide_eq_false h, decide_eq_false h2, Bool.and_false]; cases decide (q = i) <;> rfl
theorem rmT_4 (h : ¬ q = i) (h2 : pCr (f i) (g i) (f o) (g o) (f q) (g q) < 0) : rmT f g i o q = false := by unfold rmT; rw [decide_eq_false h, decide_eq_true h2]; rfl
theorem rmT_5 (h : ¬ q = i) (h2 : pCr (f i) (g i) (f o) (g o) (f q) (g q) = 0) (h3 : pDt (f i) (g i) (f o) (g o) (f q) (g q) < 0) : rmT f g i o q = false := by unfold rmT; rw [decide_eq_false h, decide_eq_true h2, decide_eq_true h3, Bool.false_or]; exact Bool.and_false _
theorem cnB_t {k : Nat} (hk : k < n) (h1 : ¬ k = i) (h2 : rmB f g n i k = true) : cnB f g n i = true := by
  unfold cnB
  rw [exB_t (p := fun o => !decide (o = i) && rmB f g n i o) hk (show (!decide (k = i) && rmB f g n i k) = true by rw [decide_eq_false h1, h2]; rfl)]
  rfl
theorem cnB_e (h : ∀ q, q < n → (!decide (q = i) && rmB f g n i q) = false) : cnB f g n i = decide (n = 1) := by
  unfold cnB
  rw [exB_f (p := fun o => !decide (o = i) && rmB f g n i o) h]
  rfl
theorem lowT_n {b : Nat} {C : Nat → Bool} {j : Nat} (h : ∀ q, q < j → C q = true → lowT f g b q) (hn : g j < g b ∨ (g j = g b ∧ f j < f b)) : ∀ q, q < j + 1 → C q = true → lowT f g j q := fun q hq hc => by
  have hn : (g j).toInt < (g b).toInt ∨ ((g j).toInt = (g b).toInt ∧ (f j).toInt < (f b).toInt) := by
    rcases hn with z | z
    · exact Or.inl (Int32.lt_iff_toInt_lt.mp z)
    · exact Or.inr ⟨congrArg Int32.toInt z.1, Int32.lt_iff_toInt_lt.mp z.2⟩
  rcases Nat.lt_or_ge q j with w | w
  · have a := h q w hc
    unfold lowT at a ⊢
    omega
  · rw [show q = j by omega]
    exact Or.inr ⟨rfl, Int.le_refl _⟩
theorem lowT_k {b : Nat} {C : Nat → Bool} {j : Nat} (h : ∀ q, q < j → C q = true → lowT f g b q) (h1 : ¬ g j < g b) (h2 : ¬ g j = g b ∨ f b ≤ f j) : ∀ q, q < j + 1 → C q = true → lowT f g b q := fun q hq hc => by
  rcases Nat.lt_or_ge q j with w | w
  · exact h q w hc
  · rw [show q = j by omega]
    rw [Int32.lt_iff_toInt_lt] at h1
    unfold lowT
    rcases h2 with z | z
    · have ne : (g j).toInt ≠ (g b).toInt := fun e => z (Int32.toInt_inj.mp e)
      omega
    · rw [Int32.le_iff_toInt_le] at z
      omega
theorem lowT_1 {C : Nat → Bool} {j : Nat} (h : ∀ q, q < j → C q = false) : ∀ q, q < j + 1 → C q = true → lowT f g j q := fun q hq hc => by
  rcases Nat.lt_or_ge q j with w | w
  · rw [h q w] at hc
    exact absurd hc (by decide)
  · rw [show q = j by omega]
    exact Or.inr ⟨rfl, Int.le_refl _⟩
theorem lowT_s {b : Nat} {C : Nat → Bool} {j : Nat} (h : ∀ q, q < j → C q = true → lowT f g b q) (h1 : C j = false) : ∀ q, q < j + 1 → C q = true → lowT f g b q := fun q hq hc => by
  rcases Nat.lt_or_ge q j with w | w
  · exact h q w hc
  · rw [show q = j by omega, h1] at hc
    exact absurd hc (by decide)
theorem rmT_i (hR : rgF f g n) (hi : i < n) (ho : o < n) (hq : q < n) : rmT f g i o q = true ↔ (q ≠ i → 0 ≤ crs (rX f) (rX g) i o q ∧ ¬ (crs (rX f) (rX g) i o q = 0 ∧ dtp (rX f) (rX g) i o q < 0)) := by
  have e := pCr_i hR hi ho hq
  unfold rmT
  simp only [Bool.or_eq_true, Bool.and_eq_true, Bool.not_eq_true', decide_eq_true_eq, decide_eq_false_iff_not, Bool.and_eq_false_iff]
  rw [i32_n, i32_0, i32_n, e.1, e.2]
  constructor
  · intro z w
    rcases z with z | z
    · exact absurd z w
    · refine ⟨by omega, fun v => ?_⟩
      rcases z.2 with u | u
      · exact u v.1
      · exact u v.2
  · intro z
    by_cases w : q = i
    · exact Or.inl w
    · have y := z w
      refine Or.inr ⟨by omega, ?_⟩
      by_cases v : crs (rX f) (rX g) i o q = 0
      · exact Or.inr (fun u => y.2 ⟨v, u⟩)
      · exact Or.inl v
theorem rmB_i (hR : rgF f g n) (hi : i < n) (ho : o < n) : rmB f g n i o = true ↔ rimX (rX f) (rX g) n i o := by
  constructor
  · intro z k hk hki
    exact (rmT_i hR hi ho hk).mp (alB_i z k hk) hki
  · intro z
    exact alB_t (fun k hk => (rmT_i hR hi ho hk).mpr (z k hk))
theorem cnB_i (hR : rgF f g n) (hi : i < n) : cnB f g n i = true ↔ (n = 1 ∨ ∃ o, o < n ∧ o ≠ i ∧ rimX (rX f) (rX g) n i o) := by
  unfold cnB
  rw [Bool.or_eq_true, decide_eq_true_eq]
  constructor
  · intro z
    rcases z with z | z
    · obtain ⟨o, h1, h2⟩ := exB_i z
      have h2 : (!decide (o = i) && rmB f g n i o) = true := h2
      rw [Bool.and_eq_true, Bool.not_eq_true', decide_eq_false_iff_not] at h2
      exact Or.inr ⟨o, h1, h2.1, (rmB_i hR hi h1).mp h2.2⟩
    · exact Or.inl z
  · intro z
    rcases z with z | ⟨o, h1, h2, h3⟩
    · exact Or.inr z
    · refine Or.inl (exB_t h1 ?_)
      show (!decide (o = i) && rmB f g n i o) = true
      rw [decide_eq_false h2, (rmB_i hR hi h1).mpr h3]
      rfl
/-- the class's hull and a row laid by ranks hold the same -/
theorem ec_hull (hn : n ≤ 12) (hR : rgF f g n) (hD : dfX (rX f) (rX g) n) (H : hch (rX f) (rX g) n m h) (hS : ∀ p, p < m → S p = nI (h p)) (hq : hlR f g n R t) : t = m ∧ ∀ p, p < m → h p < n ∧ S p = nI (h p) ∧ R p = nI (h p) := by
  obtain ⟨c1, c2, c3⟩ := hull_eq (cn := cnB f g n) H hD hR.x (fun k hk => cnB_i hR hk)
  obtain ⟨q1, q2⟩ := hq
  have ht : t = m := q1.trans c1
  have hm : ∀ p, p < m → h p < n := by
    obtain ⟨j, rfl, Hp, -, -⟩ := H
    exact fun p hp => (Hp.1 p (by omega)).1
  have h0 : 0 < m := by
    obtain ⟨j, rfl, -⟩ := H
    omega
  obtain ⟨fi, f1, f2, f3, f4⟩ := q2 (by omega)
  obtain ⟨e0, ek⟩ := c3 fi f1 f2
  have nh : ∀ p, p + 1 < m → nhB f g n fi (h (p + 1)) = p + 1 := fun p hp => by
    refine Eq.trans ?_ (ek p hp)
    unfold nhB
    congr 1
    have key : ∀ o, o < n → nhF f g n fi (h (p + 1)) o = (cnB f g n o && (!decide (o = fi) && decide (0 < crs (rX f) (rX g) fi o (h (p + 1))))) := fun o ho => by
      unfold nhF
      rw [show decide (0 < pCr (f fi) (g fi) (f o) (g o) (f (h (p + 1))) (g (h (p + 1)))) = decide (0 < crs (rX f) (rX g) fi o (h (p + 1))) from decide_eq_decide.mpr (by rw [i32_p, (pCr_i hR f1 ho (hm _ hp)).1])]
    exact Nat.le_antisymm (cnt_leb n (fun k hk z => by rw [← key k hk]; exact z)) (cnt_leb n (fun k hk z => by rw [key k hk]; exact z))
  have inj : ∀ a, a < m → a ≠ 0 → h a ≠ fi := fun a ha hz => by
    obtain ⟨j, rfl, Hp, -, -⟩ := H
    rw [e0]
    exact Ne.symm (hpn_i Hp 0 a (by omega) ha)
  refine ⟨ht, fun p hp => ⟨hm p hp, hS p hp, ?_⟩⟩
  rcases Nat.eq_zero_or_pos p with w | w
  · rw [w, f3, e0]
  · obtain ⟨p, rfl⟩ : ∃ r, p = r + 1 := ⟨p - 1, by omega⟩
    have hk := hm _ hp
    have hc : cnB f g n (h (p + 1)) = true := (c2 _ hk).mpr ⟨p + 1, hp, rfl⟩
    obtain ⟨z, z1, z2, z3, z4⟩ := f4 (h (p + 1)) hk (by
      show (cnB f g n (h (p + 1)) && !decide (h (p + 1) = fi)) = true
      rw [hc, decide_eq_false (inj _ hp (by omega))]
      rfl)
    rw [nh p hp] at z3 z4
    have z2 : (cnB f g n z && !decide (z = fi)) = true := z2
    rw [Bool.and_eq_true, Bool.not_eq_true', decide_eq_false_iff_not] at z2
    obtain ⟨a, a1, a2⟩ := (c2 z z1).mp z2.1
    rcases Nat.eq_zero_or_pos a with v | v
    · exact absurd (by rw [← a2, v, e0]) z2.2
    · obtain ⟨a, rfl⟩ : ∃ r, a = r + 1 := ⟨a - 1, by omega⟩
      have y := nh a a1
      rw [a2, z3] at y
      rw [z4, ← a2, show a = p by omega]
end HV
def hlV (v : vw) (R : Nat → Int32) (t : Nat) : Prop := hlR (vP v) (vQ v) (vN v) R t
theorem rgF_v {I : Nat → Nat → Int32} {n : Nat} (h : rgF (I 24) (I 40) n) : rgF (vMk n (I 24)) (vMk n (I 40)) n := fun k hk => by
  rw [vMk_l hk, vMk_l hk]; exact h k hk
theorem rmT_c {f g f' g' : Nat → Int32} {n i o q : Nat} (h : ∀ k, k < n → f k = f' k ∧ g k = g' k) (hi : i < n) (ho : o < n) (hq : q < n) : rmT f g i o q = rmT f' g' i o q := by
  unfold rmT
  rw [(h i hi).1, (h i hi).2, (h o ho).1, (h o ho).2, (h q hq).1, (h q hq).2]
theorem cnB_c {f g f' g' : Nat → Int32} {n i : Nat} (h : ∀ k, k < n → f k = f' k ∧ g k = g' k) (hi : i < n) : cnB f g n i = cnB f' g' n i := by
  unfold cnB
  rw [exB_c (fun o ho => show (!decide (o = i) && rmB f g n i o) = (!decide (o = i) && rmB f' g' n i o) by unfold rmB; rw [alB_c (fun q hq => rmT_c h hi ho hq)])]
theorem cnt_c {f g : Nat → Bool} {n : Nat} (e : ∀ k, k < n → f k = g k) : cnt f n = cnt g n := Nat.le_antisymm (cnt_leb n (fun k hk z => by rw [← e k hk]; exact z)) (cnt_leb n (fun k hk z => by rw [e k hk]; exact z))
theorem nhB_c {f g f' g' : Nat → Int32} {n fi k : Nat} (h : ∀ k, k < n → f k = f' k ∧ g k = g' k) (hf : fi < n) (hk : k < n) : nhB f g n fi k = nhB f' g' n fi k := by
  unfold nhB
  rw [cnt_c (fun o ho => show nhF f g n fi k o = nhF f' g' n fi k o by unfold nhF; rw [cnB_c h ho, (h fi hf).1, (h fi hf).2, (h o ho).1, (h o ho).2, (h k hk).1, (h k hk).2])]
theorem rowQ_c {R : Nat → Int32} {p q : Nat → Bool} {r s : Nat → Nat} {n : Nat} (h : rowQ R p r n) (e : ∀ k, k < n → p k = q k) (e2 : ∀ k, k < n → r k = s k) : rowQ R q s n := fun k hk hq => by
  obtain ⟨z, z1, z2, z3, z4⟩ := h k hk ((e k hk).trans hq)
  exact ⟨z, z1, (e z z1).symm.trans z2, (e2 z z1).symm.trans (z3.trans (e2 k hk)), by rw [← e2 k hk]; exact z4⟩
theorem hlR_c {f g f' g' R : Nat → Int32} {n t : Nat} (h : ∀ k, k < n → f k = f' k ∧ g k = g' k) (H : hlR f g n R t) : hlR f' g' n R t := by
  obtain ⟨h1, h2⟩ := H
  refine ⟨h1.trans (cnt_c (fun k hk => cnB_c h hk)), fun ht => ?_⟩
  obtain ⟨fi, f1, f2, f3, f4⟩ := h2 ht
  refine ⟨fi, f1, fun k hk hc => ?_, f3, rowQ_c f4 (fun k hk => show (cnB f g n k && !decide (k = fi)) = (cnB f' g' n k && !decide (k = fi)) by rw [cnB_c h hk]) (fun k hk => nhB_c h f1 hk)⟩
  have z := f2 k hk ((cnB_c h hk).trans hc)
  unfold lowT at z ⊢
  rw [(h fi f1).1, (h fi f1).2, (h k hk).1, (h k hk).2] at z
  exact z
-- ANSWERS OVER A ROW OF THE REFERENCE
def vQP (v : vw) (f g : Nat → Int32) : Prop := ∀ k, k < vN v → f k = vP v k ∧ g k = vQ v k
def aHA (v : vw) (r : Int32) : Prop := ∃ (R : Nat → Int32) (t : Nat) (f g : Nat → Int32), hlV v R t ∧ vQP v f g ∧ r = hrT f g (fun p => nn (R p)) t
def aHC (v : vw) (r : Int32) : Prop := ∃ (R : Nat → Int32) (t : Nat), hlV v R t ∧ r = nI t
def aSB (v : vw) (b : Bool) : Prop := ∃ (R : Nat → Int32) (t : Nat) (f g : Nat → Int32), rdV v R t ∧ vQP v f g ∧ b = rwS vWO f g (vX v) (vY v) (fun p => nn (R p)) t
def aST (v : vw) (r : Int32) : Prop := ∃ (R : Nat → Int32) (t : Nat) (f g : Nat → Int32), rdV v R t ∧ vQP v f g ∧ r = rwT f g (vX v) (vY v) (fun p => nn (R p)) t
theorem vSm_u {w : Nat → Int32} {i : Nat} {s x : Int32} (h : s = vSm w i) (e : w i = x) : s + x = vSm w (i + 1) := by
  rw [h, ← e]
  rfl
theorem rwO_e {o : Int32 → Int32 → Int32 → Int32 → Int32} {f g : Nat → Int32} {cx cy : Int32} {ρ : Nat → Nat} {t p c b : Nat} (h1 : ρ p = c) (h2 : ρ (vfo t p) = b) : rwO o f g cx cy ρ t p = o (f c - cx) (g c - cy) (f b - cx) (g b - cy) := by
  unfold rwO
  rw [h1, h2]
theorem ec_hl {I : Nat → Nat → Int32} {n hc t : Nat} {R : Nat → Int32} (hn : n ≤ 12) (hR : rgI I n) (hD : dfI I n) (h : hlP I n hc) (hq : hlV (vOf (hW I) (I 24 12) (I 40 12) n (I 24) (I 40)) R t) : t = hc ∧ ∀ p, p < t → ∃ k, k < n ∧ I 72 p = nI k ∧ R p = nI k := by
  have hq : hlR (I 24) (I 40) n R t := hlR_c (fun k hk => ⟨vMk_l hk, vMk_l hk⟩) (show hlR (vMk n (I 24)) (vMk n (I 40)) n R t from hq)
  rcases h with ⟨e1, e2⟩ | ⟨h, H, hS⟩
  · subst e1
    subst e2
    have ht : t = 0 := hq.1
    subst ht
    exact ⟨rfl, fun p hp => absurd hp (Nat.not_lt_zero p)⟩
  · have z := ec_hull hn hR.f hD.x H hS hq
    exact ⟨z.1, fun p hp => ⟨h p, (z.2 p (by omega)).1, (z.2 p (by omega)).2.1, (z.2 p (by omega)).2.2⟩⟩
section EC
variable {I : Nat → Nat → Int32} {n : Nat} {r r' : Int32} {b b' : Bool}
theorem ec_HA (hc : cI I n) (hR : rgI I n) (hD : dfI I n) (hr : r = hrT (I 24) (I 40) (fun p => nn (I 72 p)) (nn (I 18 6))) (h : aHA (kW I) r') : r = r' := by
  obtain ⟨hn, h2, rc, hq, a1, a2, a3, a4, a5, a6, a7, a8, a9⟩ := hc
  obtain ⟨R, t, f, g, z1, z2, z3⟩ := h
  rw [kW_n hn h2] at z1 z2
  obtain ⟨e1, e2⟩ := ec_hl hn hR hD (a9 hR hD) z1
  subst e1
  rw [hr, z3, a4, nn_nI (by omega)]
  refine hrT_c (fun q hq => ?_)
  obtain ⟨k, k1, k2, k3⟩ := e2 q hq
  show I 24 (nn (I 72 q)) = f (nn (R q)) ∧ I 40 (nn (I 72 q)) = g (nn (R q))
  rw [k2, k3, nn_nI (by omega)]
  have y := z2 k k1
  exact ⟨((show f k = vMk n (I 24) k from y.1).trans (vMk_l k1)).symm, ((show g k = vMk n (I 40) k from y.2).trans (vMk_l k1)).symm⟩
theorem ec_HC (hc : cI I n) (hR : rgI I n) (hD : dfI I n) (hr : r = I 18 6) (h : aHC (kW I) r') : r = r' := by
  obtain ⟨hn, h2, rc, hq, a1, a2, a3, a4, a5, a6, a7, a8, a9⟩ := hc
  obtain ⟨R, t, z1, z3⟩ := h
  rw [kW_n hn h2] at z1
  rw [hr, z3, a4, (ec_hl hn hR hD (a9 hR hD) z1).1]
theorem ec_s (hc : cI I n) (hR : rgI I n) (hD : dfI I n) {R : Nat → Int32} {t : Nat} {f g : Nat → Int32} (z1 : rdV (kW I) R t) (z2 : vQP (kW I) f g) : rwS pOW (I 24) (I 40) (I 24 12) (I 40 12) (fun p => nn (I 56 p)) (nn (I 18 4)) = rwS vWO f g (vX (kW I)) (vY (kW I)) (fun p => nn (R p)) t ∧ rwT (I 24) (I 40) (I 24 12) (I 40 12) (fun p => nn (I 56 p)) (nn (I 18 4)) = rwT f g (vX (kW I)) (vY (kW I)) (fun p => nn (R p)) t := by
  obtain ⟨hn, h2, rc, hq, a1, a2, a3, a4, a5, a6, a7, a8, a9⟩ := hc
  rw [kW_n hn h2] at z1 z2 ⊢
  rw [a3, nn_nI (by omega)]
  exact ec_star hn hR hD (a8 hR) a7 z1 (fun k hk => ⟨((show f k = vMk n (I 24) k from (z2 k hk).1).trans (vMk_l hk)).symm, ((show g k = vMk n (I 40) k from (z2 k hk).2).trans (vMk_l hk)).symm⟩)
theorem ec_SB (hc : cI I n) (hR : rgI I n) (hD : dfI I n) (hr : b = rwS pOW (I 24) (I 40) (I 24 12) (I 40 12) (fun p => nn (I 56 p)) (nn (I 18 4))) (h : aSB (kW I) b') : b = b' := by
  obtain ⟨R, t, f, g, z1, z2, z3⟩ := h
  rw [hr, z3]
  exact (ec_s hc hR hD z1 z2).1
theorem ec_ST (hc : cI I n) (hR : rgI I n) (hD : dfI I n) (hr : r = rwT (I 24) (I 40) (I 24 12) (I 40 12) (fun p => nn (I 56 p)) (nn (I 18 4))) (h : aST (kW I) r') : r = r' := by
  obtain ⟨R, t, f, g, z1, z2, z3⟩ := h
  rw [hr, z3]
  exact (ec_s hc hR hD z1 z2).2
theorem cn_1 {f g : Nat → Int32} {i q : Nat} (h : q = i) : (!decide (q = i) && rmB f g n i q) = false := by simp [h]
theorem cn_2 {f g : Nat → Int32} {i q : Nat} (h : rmB f g n i q = false) : (!decide (q = i) && rmB f g n i q) = false := by simp [h]
theorem bf_1 {x y : Bool} (h : x = false) : (x && y) = false := by subst h; rfl
theorem bf_2 {x y : Bool} (h : y = true) : (x && !y) = false := by subst h; cases x <;> rfl
theorem nhF_t {f g : Nat → Int32} {fi k o : Nat} (h1 : cnB f g n o = true) (h2 : ¬ o = fi) (h3 : 0 < pCr (f fi) (g fi) (f o) (g o) (f k) (g k)) : nhF f g n fi k o = true := by
  unfold nhF
  rw [h1, decide_eq_false h2, decide_eq_true h3]
  rfl
theorem nhF_1 {f g : Nat → Int32} {fi k o : Nat} (h : cnB f g n o = false) : nhF f g n fi k o = false := by unfold nhF; simp [h]
theorem nhF_2 {f g : Nat → Int32} {fi k o : Nat} (h : o = fi) : nhF f g n fi k o = false := by unfold nhF; simp [h]
theorem nhF_3 {f g : Nat → Int32} {fi k o : Nat} (h : ¬ 0 < pCr (f fi) (g fi) (f o) (g o) (f k) (g k)) : nhF f g n fi k o = false := by
  unfold nhF
  rw [decide_eq_false h]
  cases cnB f g n o <;> cases decide (o = fi) <;> rfl
end EC
