-- the reference's sort
def sT : List Nat := [184, 200, 216, 57, 232]
def sP (I : Nat → Nat → Int32) : Prop := (∀ j, j < 8 → pIn (I 184 j) (-127) 127 = true ∧ pIn (I 200 j) (-127) 127 = true) ∧ ∀ j, j < 8 → ∃ c, c < 8 ∧ I 232 j = nI c
def sI (I I2 : Nat → Nat → Int32) : Prop := eqO (sT ++ mS) I I2 ∧ mI I2 ∧ kV I2 = kV I ∧ sP I2
theorem sI.s {I I2 : Nat → Nat → Int32} {k : Nat} {v : Int32} (h : sI I I2) : sI I (aj_u I2 216 k v) := by
  obtain ⟨h1, h2, h3, h4, h5⟩ := h
  refine ⟨eqO.tr h1 (eqO.u (by decide)), ?_, (kV.uo (by decide) (by decide) (by decide) (by decide)).trans h3, ?_, ?_⟩
  · obtain ⟨m1, m2, m3, m4, m5⟩ := h2
    refine ⟨?_, ?_, ?_, ?_, ?_⟩ <;> (repeat rw [aj_u_o _ _ (by decide)]) <;> assumption
  · rw [aj_u_o _ _ (by decide), aj_u_o _ _ (by decide)]; exact h4
  · rw [aj_u_o _ _ (by decide)]; exact h5
theorem sI.x {I I2 : Nat → Nat → Int32} {i k : Nat} {v : Int32} (hi : i = 184 ∨ i = 200) (hv : pIn v (-127) 127 = true) (h : sI I I2) : sI I (aj_u I2 i k v) := by
  obtain ⟨h1, h2, h3, h4, h5⟩ := h
  have n : ∀ j ∈ mS, j ≠ i := by intro j hj; rcases hi with rfl | rfl <;> (revert j; decide)
  refine ⟨eqO.tr h1 (eqO.u (by rcases hi with rfl | rfl <;> decide)), ?_, (kV.uo (n 168 (by decide)) (n 22 (by decide)) (n 136 (by decide)) (n 152 (by decide))).trans h3, ?_, ?_⟩
  · obtain ⟨m1, m2, m3, m4, m5⟩ := h2
    refine ⟨?_, ?_, ?_, ?_, ?_⟩
    · rw [aj_u_o _ _ (n 88 (by decide)), aj_u_o _ _ (n 104 (by decide))]; exact m1
    · rw [aj_u_o _ _ (n 22 (by decide))]; exact m2
    · rw [aj_u_o _ _ (n 136 (by decide)), aj_u_o _ _ (n 152 (by decide))]; exact m3
    · rw [aj_u_o _ _ (n 22 (by decide))]; exact m4
    · rw [aj_u_o _ _ (n 22 (by decide))]; exact m5
  · intro j hj
    unfold aj_u
    refine ⟨?_, ?_⟩
    · split
      · exact hv
      · exact (h4 j hj).1
    · split
      · exact hv
      · exact (h4 j hj).2
  · have n5 : 232 ≠ i := by omega
    rw [aj_u_o _ _ n5]; exact h5
theorem sI.n {I I2 : Nat → Nat → Int32} {k c : Nat} (hc : c < 8) (h : sI I I2) : sI I (aj_u I2 232 k (nI c)) := by
  obtain ⟨h1, h2, h3, h4, h5⟩ := h
  refine ⟨eqO.tr h1 (eqO.u (by decide)), ?_, (kV.uo (by decide) (by decide) (by decide) (by decide)).trans h3, ?_, ?_⟩
  · obtain ⟨m1, m2, m3, m4, m5⟩ := h2
    refine ⟨?_, ?_, ?_, ?_, ?_⟩ <;> (repeat rw [aj_u_o _ _ (by decide)]) <;> assumption
  · rw [aj_u_o _ _ (by decide), aj_u_o _ _ (by decide)]; exact h4
  · intro j hj
    by_cases e : j = k
    · subst e; exact ⟨c, hc, aj_u_s _ _ _ _⟩
    · rw [aj_u_k _ _ _ e]; exact h5 j hj
theorem sI.m {I I2 : Nat → Nat → Int32} {n : Nat} {x u s : Int32} (hx : pIn x (-127) 127 = true) (hu : pIn u (-127) 127 = true) (h : sI I I2) : sI I (aj_u (aj_u (aj_u I2 88 n x) 104 n u) 120 n s) := by
  obtain ⟨h1, h2, h3, h4, h5⟩ := h
  refine ⟨eqO.tr h1 (eqO.tr (eqO.tr (eqO.u (by decide)) (eqO.u (by decide))) (eqO.u (by decide))), (mI.xu (Or.inr rfl) hu (mI.xu (Or.inl rfl) hx h2)).s, ?_, ?_, ?_⟩
  · exact (kV.uo (by decide) (by decide) (by decide) (by decide)).trans ((kV.uo (by decide) (by decide) (by decide) (by decide)).trans ((kV.uo (by decide) (by decide) (by decide) (by decide)).trans h3))
  · rw [aj_u_o _ _ (by decide), aj_u_o _ _ (by decide), aj_u_o _ _ (by decide), aj_u_o _ _ (by decide), aj_u_o _ _ (by decide), aj_u_o _ _ (by decide)]; exact h4
  · rw [aj_u_o _ _ (by decide), aj_u_o _ _ (by decide), aj_u_o _ _ (by decide)]; exact h5
theorem sI.h {I I2 : Nat → Nat → Int32} {v : Int32} (h : sI I I2) : sI I (aj_u I2 168 0 v) := by
  obtain ⟨h1, h2, h3, h4, h5⟩ := h
  refine ⟨eqO.tr h1 (eqO.u (by decide)), h2.h, (kV.h (by decide)).trans h3, ?_, ?_⟩
  · rw [aj_u_o _ _ (by decide), aj_u_o _ _ (by decide)]; exact h4
  · rw [aj_u_o _ _ (by decide)]; exact h5
theorem cnt_but {k : Nat} : ∀ n, k < n → cnt (fun l => !decide (l = k)) n < n := by
  intro n hk
  have := cnt_lt (f := fun l => !decide (l = k)) (g := fun _ => true) (fun _ _ => rfl) hk (by simp) rfl
  have := cnt_le (fun _ => true) n
  omega
theorem sI.z0 {I0 : Nat → Nat → Int32} (h : mI I0) : sI I0 (aj_z (aj_z (aj_z (aj_z I0 184 0) 200 0) 216 0) 232 0) := by
  have q : ∀ i, i ∉ sT → aj_z (aj_z (aj_z (aj_z I0 184 0) 200 0) 216 0) 232 0 i = I0 i := by
    intro i hi
    unfold sT at hi
    simp only [List.mem_cons, List.not_mem_nil, or_false, not_or] at hi
    rw [aj_z_o _ _ hi.2.2.2.2, aj_z_o _ _ hi.2.2.1, aj_z_o _ _ hi.2.1, aj_z_o _ _ hi.1]
  refine ⟨fun i hi => q i (fun z => hi (List.mem_append_left _ z)), ?_, kV.rw (q 168 (by decide)) (q 22 (by decide)) (q 136 (by decide)) (q 152 (by decide)), ?_, ?_⟩
  · obtain ⟨m1, m2, m3, m4, m5⟩ := h
    refine ⟨?_, ?_, ?_, ?_, ?_⟩ <;> (repeat rw [q _ (by decide)]) <;> assumption
  · intro j _; exact ⟨(show pIn 0 (-127) 127 = true by decide), (show pIn 0 (-127) 127 = true by decide)⟩
  · intro j _; exact ⟨0, by decide, rfl⟩
theorem sI.of {I I0 I1 : Nat → Nat → Int32} {J J0 : Nat → Nat → Int64} (h : mR I J I0 J0) (h1 : sI I0 I1) : sI I I1 := ⟨eqO.tr (h.1.mono (fun i hi => List.mem_append_right _ (mS0_mS i hi))) h1.1, h1.2.1, h1.2.2.1.trans h.2.2.1, h1.2.2.2⟩

-- ranks
def rB (b : Bool) (c : cw) (o k : Nat) : Bool := (decide (tO (c o) (c k) = 0) && decide (o < k)) || decide (tO (c o) (c k) = sgW b)
def rk (b : Bool) (c : cw) (k : Nat) : Nat := cnt (fun o => rB b c o k) 8
def cK (b : Bool) (c : cw) (k : Nat) : Int := if b = true then -qK (c k) else qK (c k)
theorem c3_0 {x y : Int} : c3w x y = 0 ↔ x = y := by
  unfold c3w
  by_cases h : x < y
  · rw [if_pos h]; exact ⟨fun e => absurd e (by decide), fun e => by omega⟩
  · rw [if_neg h]
    by_cases h2 : y < x
    · rw [if_pos h2]; exact ⟨fun e => absurd e (by decide), fun e => by omega⟩
    · rw [if_neg h2]; exact ⟨fun _ => by omega, fun _ => rfl⟩
theorem rB_b {b : Bool} {c : cw} {o k : Nat} (hO : cOk c) (ho : o < 8) (hk : k < 8) : rB b c o k = true ↔ bfR (cK b c) o k := by
  unfold rB bfR
  rw [tO_key (hO o ho) (hO k hk)]
  simp only [Bool.or_eq_true, Bool.and_eq_true, decide_eq_true_eq]
  rw [c3_0, c3_sg]
  show _ ↔ ((if b = true then -qK (c o) else qK (c o)) < (if b = true then -qK (c k) else qK (c k)) ∨ ((if b = true then -qK (c o) else qK (c o)) = (if b = true then -qK (c k) else qK (c k)) ∧ o < k))
  cases b
  · rw [if_neg (by decide), if_neg (by decide)]
    constructor
    · rintro (h | h)
      · exact Or.inr h
      · exact Or.inl h
    · rintro (h | h)
      · exact Or.inr h
      · exact Or.inl h
  · rw [if_pos rfl, if_pos rfl]
    constructor
    · rintro (h | h)
      · exact Or.inr ⟨by omega, h.2⟩
      · exact Or.inl h
    · rintro (h | h)
      · exact Or.inr h
      · exact Or.inl ⟨by omega, h.2⟩
theorem rB_self {b : Bool} {c : cw} {k : Nat} (hO : cOk c) (hk : k < 8) : rB b c k k = false := by
  cases z : rB b c k k with
  | false => rfl
  | true =>
    rcases (rB_b hO hk hk).mp z with h | h
    · exact absurd h (Int.lt_irrefl _)
    · exact absurd h.2 (Nat.lt_irrefl _)
theorem rk_lt {b : Bool} {c : cw} {k : Nat} (hO : cOk c) (hk : k < 8) : rk b c k < 8 := by
  have h := cnt_ltb (f := fun o => rB b c o k) (g := fun _ => true) (k := k) (rB_self hO hk) rfl 8 (fun _ _ _ => rfl) hk
  exact Nat.lt_of_lt_of_le h (cnt_le _ 8)
theorem bfT {κ : Nat → Int} {x y z : Nat} (h : bfR κ x y) (h2 : bfR κ y z) : bfR κ x z := by
  unfold bfR at h h2 ⊢
  omega
theorem rk_mono {b : Bool} {c : cw} {q k : Nat} (hO : cOk c) (hq : q < 8) (hk : k < 8) (h : bfR (cK b c) q k) : rk b c q < rk b c k := by
  have z := cnt_ltb (f := fun o => rB b c o q) (g := fun o => rB b c o k) (k := q) (rB_self hO hq) ((rB_b hO hq hk).mpr h) 8 (fun i hi hi2 => (rB_b hO hi hk).mpr (bfT ((rB_b hO hi hq).mp hi2) h)) hq
  exact z
theorem rk_inj {b : Bool} {c : cw} {q k : Nat} (hO : cOk c) (hq : q < 8) (hk : k < 8) (hne : q ≠ k) : rk b c q ≠ rk b c k := by
  have h : bfR (cK b c) q k ∨ bfR (cK b c) k q := by
    unfold bfR
    omega
  rcases h with h | h
  · have := rk_mono hO hq hk h; omega
  · have := rk_mono hO hk hq h; omega
/-- in a sorted row each stands at its rank -/
theorem rk_l {b : Bool} {c : cw} {l : List Nat} (hO : cOk c) (hp : l.Perm (List.range 8)) (hs : l.Pairwise (bfR (cK b c))) {p k : Nat} (h : l[p]? = some k) : rk b c k = p := by
  have hmem : ∀ i, i ∈ l → i < 8 := fun i hi => List.mem_range.mp (hp.mem_iff.mp hi)
  have hk : k < 8 := hmem k (List.mem_of_getElem? h)
  have hpl : p < l.length := by
    rcases Nat.lt_or_ge p l.length with z | z
    · exact z
    · rw [List.getElem?_eq_none z] at h; cases h
  have ek : l[p] = k := by rw [List.getElem?_eq_getElem hpl] at h; exact Option.some.inj h
  have e : l = l.take p ++ k :: l.drop (p + 1) := by
    rw [← ek, List.getElem_cons_drop, List.take_append_drop]
  unfold rk
  rw [cnt_countP, ← hp.countP_eq, e, List.countP_append, List.countP_cons]
  have e1 : (l.take p).countP (fun o => rB b c o k) = p := by
    have : (l.take p).countP (fun o => rB b c o k) = (l.take p).length := by
      rw [List.countP_eq_length]
      intro i hi
      obtain ⟨q, hq⟩ := List.getElem?_of_mem hi
      rw [List.getElem?_take] at hq
      have hqp : q < p := by
        rcases Nat.lt_or_ge q p with w | w
        · exact w
        · rw [if_neg (by omega)] at hq; cases hq
      rw [if_pos hqp] at hq
      have hql : q < l.length := by omega
      have eq : l[q] = i := by rw [List.getElem?_eq_getElem hql] at hq; exact Option.some.inj hq
      have z := List.pairwise_iff_getElem.mp hs q p hql hpl hqp
      rw [eq, ek] at z
      exact (rB_b hO (hmem i (List.mem_of_getElem? hq)) hk).mpr z
    rw [this, List.length_take]; omega
  have e2 : (l.drop (p + 1)).countP (fun o => rB b c o k) = 0 := by
    rw [List.countP_eq_zero]
    intro i hi hb
    obtain ⟨q, hq⟩ := List.getElem?_of_mem hi
    rw [List.getElem?_drop] at hq
    have hql : p + 1 + q < l.length := by
      rcases Nat.lt_or_ge (p + 1 + q) l.length with w | w
      · exact w
      · rw [List.getElem?_eq_none w] at hq; cases hq
    have eq : l[p + 1 + q] = i := by rw [List.getElem?_eq_getElem hql] at hq; exact Option.some.inj hq
    have z := List.pairwise_iff_getElem.mp hs p (p + 1 + q) hpl hql (by omega)
    rw [eq, ek] at z
    have y := (rB_b hO (hmem i (List.mem_of_getElem? hq)) hk).mp hb
    unfold bfR at z y
    omega
  rw [e1, e2, if_neg (by rw [rB_self hO hk]; decide)]
  omega
-- the reference's sort, exactly
def srC (I0 I2 : Nat → Nat → Int32) (q : Nat) : Prop := I2 184 q = I0 88 q ∧ I2 200 q = I0 104 q ∧ I2 216 q = I0 120 q
def srA (I0 I2 : Nat → Nat → Int32) (b : Bool) (k : Nat) : Prop := eqO sT I0 I2 ∧ ∀ q, q < k → srC I0 I2 q ∧ I2 232 q = nI (rk b (cV I0) q)
def srI (I0 I2 : Nat → Nat → Int32) (b : Bool) (k : Nat) : Prop := srA I0 I2 b k ∧ srC I0 I2 k
def srB (I0 I2 : Nat → Nat → Int32) (b : Bool) (k : Nat) : Prop := (∀ q, q < 8 → srC I0 I2 q ∧ I2 232 q = nI (rk b (cV I0) q)) ∧ ∀ q, q < k → (I2 88 (rk b (cV I0) q), I2 104 (rk b (cV I0) q), I2 120 (rk b (cV I0) q)) = (I0 88 q, I0 104 q, I0 120 q)
section SR
variable {I I0 I2 I4 : Nat → Nat → Int32} {b : Bool} {k l : Nat}
theorem srA.st : srA I0 (aj_z (aj_z (aj_z (aj_z I0 184 0) 200 0) 216 0) 232 0) b 0 := by
  refine ⟨fun i hi => ?_, fun q hq => absurd hq (Nat.not_lt_zero q)⟩
  unfold sT at hi
  simp only [List.mem_cons, List.not_mem_nil, or_false, not_or] at hi
  rw [aj_z_o _ _ hi.2.2.2.2, aj_z_o _ _ hi.2.2.1, aj_z_o _ _ hi.2.1, aj_z_o _ _ hi.1]
theorem srA.inn (h : srA I0 I2 b k) : srI I0 (aj_u (aj_u (aj_u I2 184 k (I2 88 k)) 200 k (I2 104 k)) 216 k (I2 120 k)) b k := by
  obtain ⟨h1, h2⟩ := h
  have e88 := congrFun (h1 88 (by decide)) k
  have e104 := congrFun (h1 104 (by decide)) k
  have e120 := congrFun (h1 120 (by decide)) k
  refine ⟨⟨eqO.tr h1 (eqO.tr (eqO.tr (eqO.u (by decide)) (eqO.u (by decide))) (eqO.u (by decide))), fun q hq => ?_⟩, ?_⟩
  · obtain ⟨⟨a1, a2, a3⟩, a4⟩ := h2 q hq
    have hn : q ≠ k := by omega
    refine ⟨⟨?_, ?_, ?_⟩, ?_⟩
    · rw [aj_u_i _ _ _ (by decide), aj_u_i _ _ _ (by decide), aj_u_k _ _ _ hn]; exact a1
    · rw [aj_u_i _ _ _ (by decide), aj_u_k _ _ _ hn, aj_u_i _ _ _ (by decide)]; exact a2
    · rw [aj_u_k _ _ _ hn, aj_u_i _ _ _ (by decide), aj_u_i _ _ _ (by decide)]; exact a3
    · rw [aj_u_i _ _ _ (by decide), aj_u_i _ _ _ (by decide), aj_u_i _ _ _ (by decide)]; exact a4
  · refine ⟨?_, ?_, ?_⟩
    · rw [aj_u_i _ _ _ (by decide), aj_u_i _ _ _ (by decide), aj_u_s]; exact e88
    · rw [aj_u_i _ _ _ (by decide), aj_u_s]; exact e104
    · rw [aj_u_s]; exact e120
theorem srI.u (h : srI I0 I4 b k) {v : Int32} : srI I0 (aj_u I4 232 k v) b k := by
  obtain ⟨⟨h1, h2⟩, a1, a2, a3⟩ := h
  refine ⟨⟨eqO.tr h1 (eqO.u (by decide)), fun q hq => ?_⟩, ?_, ?_, ?_⟩
  · obtain ⟨⟨c1, c2, c3⟩, c4⟩ := h2 q hq
    refine ⟨⟨?_, ?_, ?_⟩, ?_⟩
    · rw [aj_u_i _ _ _ (by decide)]; exact c1
    · rw [aj_u_i _ _ _ (by decide)]; exact c2
    · rw [aj_u_i _ _ _ (by decide)]; exact c3
    · rw [aj_u_k _ _ _ (by omega)]; exact c4
  · rw [aj_u_i _ _ _ (by decide)]; exact a1
  · rw [aj_u_i _ _ _ (by decide)]; exact a2
  · rw [aj_u_i _ _ _ (by decide)]; exact a3
theorem srI.out {c : Nat} (h : srI I0 I4 b k) (hc : I4 232 k = nI c) (e : c = rk b (cV I0) k) : srA I0 I4 b (k + 1) := by
  refine ⟨h.1.1, fun q hq => ?_⟩
  rcases Nat.lt_or_ge q k with w | w
  · exact h.1.2 q w
  · have z : q = k := by omega
    subst z
    exact ⟨h.2, by rw [hc, e]⟩
theorem srI.o (h : srI I0 I4 b k) (hl : l < 8) (hk : k < 8) : mOA I4 l k = tO (cV I0 l) (cV I0 k) := by
  have e88 := h.1.1 88 (by decide)
  have e104 := h.1.1 104 (by decide)
  have e120 := h.1.1 120 (by decide)
  rw [cV_l hl, cV_l hk]
  show mOrd (mLk (I4 88 l) (I4 104 l) (I4 120 l &&& 1)) (I4 104 l) (I4 120 l >>> ((1 : Int32) &&& 31)) (mLk (I4 88 k) (I4 104 k) (I4 120 k &&& 1)) (I4 104 k) (I4 120 k >>> ((1 : Int32) &&& 31)) = _
  rw [e88, e104, e120]
  rfl
theorem srI.b1 (h : srI I0 I4 b k) (hl : l < 8) (hk : k < 8) (h1 : mOA I4 l k = 0) (h2 : l < k) : rB b (cV I0) l k = true := by
  unfold rB
  rw [← h.o hl hk, decide_eq_true h1, decide_eq_true h2]; rfl
theorem srI.b2 (h : srI I0 I4 b k) (hl : l < 8) (hk : k < 8) (h1 : mOA I4 l k = sgW b) : rB b (cV I0) l k = true := by
  unfold rB
  rw [← h.o hl hk, decide_eq_true h1]; exact Bool.or_true _
theorem srI.b0 (h : srI I0 I4 b k) (hl : l < 8) (hk : k < 8) (h1 : mOA I4 l k = 0 → ¬ l < k) (h2 : ¬ mOA I4 l k = sgW b) : rB b (cV I0) l k = false := by
  unfold rB
  rw [← h.o hl hk, decide_eq_false h2]
  by_cases z : mOA I4 l k = 0
  · rw [decide_eq_false (h1 z), Bool.and_false]; rfl
  · rw [decide_eq_false z]; rfl
theorem srA.bb (h : srA I0 I2 b 8) : srB I0 I2 b 0 := ⟨h.2, fun q hq => absurd hq (Nat.not_lt_zero q)⟩
theorem srB.up (hO : cOk (cV I0)) (hk : k < 8) (h : srB I0 I2 b k) : srB I0 (aj_u (aj_u (aj_u I2 88 (rk b (cV I0) k) (I2 184 k)) 104 (rk b (cV I0) k) (I2 200 k)) 120 (rk b (cV I0) k) (I2 216 k)) b (k + 1) := by
  obtain ⟨h1, h2⟩ := h
  refine ⟨fun q hq => ?_, fun q hq => ?_⟩
  · obtain ⟨⟨c1, c2, c3⟩, c4⟩ := h1 q hq
    refine ⟨⟨?_, ?_, ?_⟩, ?_⟩ <;> (rw [aj_u_i _ _ _ (by decide), aj_u_i _ _ _ (by decide), aj_u_i _ _ _ (by decide)]; assumption)
  · by_cases z : q = k
    · subst z
      obtain ⟨⟨c1, c2, c3⟩, c4⟩ := h1 q hk
      rw [aj_u_i _ _ _ (by decide), aj_u_i _ _ _ (by decide), aj_u_s, aj_u_i _ _ _ (by decide), aj_u_s, aj_u_s, c1, c2, c3]
    · have hn := rk_inj (b := b) hO (show q < 8 by omega) hk z
      rw [aj_u_i _ _ _ (by decide), aj_u_i _ _ _ (by decide), aj_u_k _ _ _ hn, aj_u_i _ _ _ (by decide), aj_u_k _ _ _ hn, aj_u_i _ _ _ (by decide), aj_u_k _ _ _ hn, aj_u_i _ _ _ (by decide), aj_u_i _ _ _ (by decide)]
      exact h2 q (by omega)
def soM (b : Bool) (c : cw) (q : Nat) : Bool := !decide (c q = c (rk b c q))
theorem srB.c (h : srB I0 I2 b k) {q : Nat} (hq : q < 8) : cV I0 q = (I2 184 q, I2 200 q, I2 216 q) := by
  obtain ⟨⟨c1, c2, c3⟩, -⟩ := h.1 q hq
  rw [cV_l hq, c1, c2, c3]
theorem srB.ne (h : srB I0 I2 b k) (hk : k < 8) (hr : rk b (cV I0) k < 8) (hn : ¬ I2 184 k = I2 184 (rk b (cV I0) k) ∨ ¬ I2 200 k = I2 200 (rk b (cV I0) k) ∨ ¬ I2 216 k = I2 216 (rk b (cV I0) k)) : soM b (cV I0) k = true := by
  unfold soM
  rw [h.c hk, h.c hr, decide_eq_false (fun e => ?_)]
  · rfl
  · have h1 := congrArg (fun t : tp => t.1) e
    have h2 := congrArg (fun t : tp => t.2.1) e
    have h3 := congrArg (fun t : tp => t.2.2) e
    exact hn.elim (fun z => z h1) (fun z => z.elim (fun y => y h2) (fun y => y h3))
theorem srB.eq (h : srB I0 I2 b k) (hk : k < 8) (hr : rk b (cV I0) k < 8) (h1 : I2 184 k = I2 184 (rk b (cV I0) k)) (h2 : I2 200 k = I2 200 (rk b (cV I0) k)) (h3 : I2 216 k = I2 216 (rk b (cV I0) k)) : soM b (cV I0) k = false := by
  unfold soM
  rw [h.c hk, h.c hr, ← h1, ← h2, ← h3, decide_eq_true rfl]; rfl
theorem srB.fin {J : Nat → Nat → Int64} (hR : mR I J I0 J) (h : srB I0 I2 b 8) {v : Int32} : ∀ k, k < 8 → (aj_u I2 168 0 v 88 (rk b (cV I) k), aj_u I2 168 0 v 104 (rk b (cV I) k), aj_u I2 168 0 v 120 (rk b (cV I) k)) = cV I k := fun k hk => by
  rw [← mR_cV hR, aj_u_i _ _ _ (by decide), aj_u_i _ _ _ (by decide), aj_u_i _ _ _ (by decide), cV_l hk]
  exact h.2 k hk
end SR
