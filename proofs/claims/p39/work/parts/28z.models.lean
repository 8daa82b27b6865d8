-- two rows made
def mRD (a d : Nat) (I I1 : Nat → Nat → Int32) : Prop := eqO (a :: d :: mS0) I I1 ∧ mI I1 ∧ kV I1 = kV I
theorem mRD.of {V : Nat → Nat → Option Nat} {N : Nat → Nat} {L : List Nat} {I I1 I2 : Nat → Nat → Int32} {J J1 : Nat → Nat → Int64} {a d : Nat} (hB : bV V N L) (hdL : d ∉ L) (h : mRA a I J I1 J1) (h1 : ∀ i, i ≠ d → I2 i = I1 i) : mRD a d I I2 := by
  have q : ∀ i ∈ aj_BL, I2 i = I1 i := fun i hi => h1 i (fun e => hdL (e ▸ hB.1 i hi))
  refine ⟨fun i hi => (h1 i (fun e => hi (e ▸ List.mem_cons_of_mem _ List.mem_cons_self))).trans (h.1 i (fun z => hi ?_)), ?_, (kV.rw (q 168 (by decide)) (q 22 (by decide)) (q 136 (by decide)) (q 152 (by decide))).trans h.2.2.1⟩
  · rcases List.mem_cons.mp z with w | w
    · exact w ▸ List.mem_cons_self
    · exact List.mem_cons_of_mem _ (List.mem_cons_of_mem _ w)
  obtain ⟨m1, m2, m3, m4, m5⟩ := h.2.1
  refine ⟨?_, ?_, ?_, ?_, ?_⟩
  · rw [q 88 (by decide), q 104 (by decide)]; exact m1
  · rw [q 22 (by decide)]; exact m2
  · rw [q 136 (by decide), q 152 (by decide)]; exact m3
  · rw [q 22 (by decide)]; exact m4
  · rw [q 22 (by decide)]; exact m5
theorem no_dig1 {a : Nat} {v : Int64} {x : Int32} (h0 : 22 ≠ a) : aj_no a [some (.ref 22), some (.long v), none, some (.int x), none, none, none, none, none] [] := by
  refine aj_no.of ?_
  have h22 : (22 != a) = true := by rw [bne_iff_ne]; exact h0
  simp only [aj_nob, aj_nv, List.all_cons, List.all_nil, Bool.and_true, Bool.true_and, h22]
theorem no_dig2 {a d : Nat} {v : Int64} {x y : Int32} {z : Option Int32} (h0 : 22 ≠ d) (had : a ≠ d) : aj_no d [some (.ref 22), some (.long v), none, some (.ref a), some (.ref a), some (.int x), some (.int y), z.map Value.int, none] [] := by
  refine aj_no.of ?_
  have h22 : (22 != d) = true := by rw [bne_iff_ne]; exact h0
  have h23 : (a != d) = true := by rw [bne_iff_ne]; exact had
  cases z <;> simp only [aj_nob, aj_nv, List.all_cons, List.all_nil, Bool.and_true, Bool.true_and, h22, h23, Option.map_none, Option.map_some]
/-- the reference's digest from its pieces -/
theorem aDG_m {I0 I1 I2 : Nat → Nat → Int32} {n t t2 a d : Nat} {v v1 v2 v3 : Int64} (hn : n ≤ 12) (he : I0 22 7 = nI n) (e1 : ∀ i, i ∈ ([22, 136, 152, 168] : List Nat) → I1 i = I0 i) (e2 : ∀ i, i ∈ ([22, 136, 152, 168] : List Nat) → I2 i = I0 i) (ht : t = cnt (mOut I0) n) (hq : rowQ (I1 a) (mOut I0) (rnM I0 n) n) (hl : hlR (I1 136) (I1 152) n (I2 d) t2) (w0 : v = fO (fun k x => mx (mx x (I0 136 k)) (I0 152 k)) n (mx (dvO (cV I0) 7682) (nI n))) (w1 : v1 = fO (fun k x => mx x (I1 a k)) t (mx (mx (mx v (I0 22 8)) (I0 22 9)) (nI t))) (w2 : v2 = fO (fun k x => mx x (I2 d k)) t2 (mx (mx (mx v1 (pOne (bI (rwS vWO (I1 136) (I1 152) (I1 22 8) (I1 22 9) (fun p => nn (I1 a p)) t)))) (rwT (I1 136) (I1 152) (I1 22 8) (I1 22 9) (fun p => nn (I1 a p)) t)) (nI t2))) (w3 : v3 = fO (fun k x => mx x (I2 168 k)) 4 (mx (mx v2 (hrT (I2 136) (I2 152) (fun p => nn (I2 d p)) t2)) (wRo (I2 22 8) (I2 22 9) (I2 136) (I2 152) n))) : aDG (cV I0) (kV I0) (v3 * 31 + 1) := by
  rw [e1 136 (by decide), e1 152 (by decide)] at hl w2
  rw [e1 22 (by decide), pOne_b] at w2
  rw [e2 136 (by decide), e2 152 (by decide), e2 22 (by decide), e2 168 (by decide)] at w3
  have z := kV_x hn he
  have hc : hlV (kV I0) (I2 d) t2 := by
    rw [kV_n hn he]
    exact (show hlR (vMk n (I0 136)) (vMk n (I0 152)) n (I2 d) t2 from hlR_c (fun k hk => ⟨(vMk_l hk).symm, (vMk_l hk).symm⟩) hl)
  refine ⟨I1 a, t, I2 d, t2, I0 136, I0 152, rdV_m hn he ht hq, hc, vQP_m hn he, ?_⟩
  have pl : ∀ x, fO (fun k x => mx (mx x (vP (kV I0) k)) (vQ (kV I0) k)) (vN (kV I0)) x = fO (fun k x => mx (mx x (I0 136 k)) (I0 152 k)) n x := fun x => by
    rw [kV_n hn he]
    exact fO_c n x (fun k hk x => by
      show mx (mx x (vMk n (I0 136) k)) (vMk n (I0 152) k) = mx (mx x (I0 136 k)) (I0 152 k)
      rw [vMk_l hk, vMk_l hk])
  have ar : anRo (kV I0) = wRo (I0 22 8) (I0 22 9) (I0 136) (I0 152) n := by rw [kV_n hn he, anRo_of]
  have en : vN (kV I0) = n := by rw [kV_n hn he]; rfl
  have hh : ∀ x, dvH (kV I0) x = fO (fun k x => mx x (I0 168 k)) 4 x := fun x => by
    rw [kV_n hn he]
    rfl
  have o1 : (1 : Int32).toInt64 = 1 := by decide
  rw [hh]
  unfold dvF
  rw [pl, ar, en, z.1, z.2, ← w0]
  show v3 * 31 + 1 = fO (fun k x => mx x (I0 168 k)) 4 (mx (mx (fO (fun k x => mx x (I2 d k)) t2 (mx (mx (mx (fO (fun k x => mx x (I1 a k)) t (mx (mx (mx v (I0 22 8)) (I0 22 9)) (nI t))) (bI (rwS vWO (I0 136) (I0 152) (I0 22 8) (I0 22 9) (fun p => nn (I1 a p)) t))) (rwT (I0 136) (I0 152) (I0 22 8) (I0 22 9) (fun p => nn (I1 a p)) t)) (nI t2))) (hrT (I0 136) (I0 152) (fun p => nn (I2 d p)) t2)) (wRo (I0 22 8) (I0 22 9) (I0 136) (I0 152) n)) * 31 + (1 : Int32).toInt64
  rw [← w1, ← w2, ← w3, o1]
