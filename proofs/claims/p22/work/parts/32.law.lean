-- THE LAW: lemmas
def aj_LL : List Nat := [20] ++ [27, 43, 25, 147, 163, 18, 24, 40, 56, 72, 179, 195, 19, 35, 51, 67, 83, 99, 115, 131] ++ [22] ++ [88, 104, 120, 41, 136, 152, 168] ++ [21]
def lGF : List Nat := aj_LL ++ [15, 184, 200, 216, 232, 57, 65, 26, 42, 16, 58]
theorem lBL : ∀ i ∈ aj_BL, i ∈ aj_LL := by decide
theorem lLB : ∀ i ∈ aj_LL, i ∈ aj_BL := by decide
theorem l11 : ∀ i ∈ aj_LL, i % 16 = 11 → i = 27 ∨ i = 43 := by decide
theorem lcs : ∀ i ∈ aj_CS, i ∈ aj_LL := by decide
theorem lms : ∀ i ∈ mS, i ∉ cS := by decide
theorem bV.cg {V V1 : Nat → Nat → Option Nat} {N N1 : Nat → Nat} {L : List Nat} (h : bV V N L) (hV : ∀ i ∈ aj_BL, V1 i = V i) (hN : ∀ i ∈ aj_BL, N1 i = N i) : bV V1 N1 L := by
  unfold bV at h ⊢
  rw [hV 20 (by decide), hV 18 (by decide), hV 22 (by decide), hV 27 (by decide), hN 27 (by decide), hN 43 (by decide), hN 25 (by decide), hN 41 (by decide), hN 24 (by decide), hN 40 (by decide), hN 56 (by decide), hN 72 (by decide), hN 88 (by decide), hN 104 (by decide), hN 120 (by decide), hN 136 (by decide), hN 152 (by decide), hN 168 (by decide)]
  exact h
-- what the class's calls do, said weakly
section CRR
variable {I I1 : Nat → Nat → Int32} {n : Nat}
theorem kW.nn (h : cI I n) : vN (kW I) = n := by rw [kW_n h.1 h.2.1]; rfl
theorem cR.eq {S : List Nat} (h : cI I n) (e : eqO S I I1) (hs : ∀ i ∈ S, i ∈ cS) (h1 : 18 ∉ S) (h2 : 56 ∉ S) (h3 : 72 ∉ S) (h4 : 20 ∉ S) (h5 : 24 ∉ S) (h6 : 40 ∉ S) : cR I I1 := ⟨e.mono hs, ⟨n, h.eqS e h1 h2 h3⟩, kW.off (by rw [e 20 h4]) (e 24 h5) (e 40 h6) (by rw [e 18 h1])⟩
theorem cR.rf (h : cI I n) : cR I I := ⟨eqO.rf, ⟨n, h⟩, rfl⟩
theorem cR.u20 (h : cI I n) {k : Nat} {x : Int32} (hk : k ≠ 9) : cR I (aj_u I 20 k x) := ⟨eqO.u (by decide), ⟨n, h.eqS (S := [20]) (eqO.u (by decide)) (by decide) (by decide) (by decide)⟩, kW.off (aj_u_k _ _ _ (Ne.symm hk)) (aj_u_o _ _ (by decide)) (aj_u_o _ _ (by decide)) (aj_u_i _ _ _ (by decide))⟩
theorem cQ.kn (h : cI I n) : cQ I (aj_u I 20 9 (I 20 9 + 1)) (nxKn (kW I)) := ⟨eqO.u (by decide), ⟨n, h.eqS (S := [20]) (eqO.u (by decide)) (by decide) (by decide) (by decide)⟩, by
  show vOf _ _ _ _ _ _ = vOf (I 20 9 + 1) (I 24 12) (I 40 12) (nn (I 18 2)) (I 24) (I 40)
  exact vOf_e (aj_u_s _ _ _ _) (by simp [aj_u]) (by simp [aj_u]) (by simp [aj_u]) (fun k _ => by simp [aj_u]) (fun k _ => by simp [aj_u])⟩
theorem cR.stR (h : cI I n) : cR I (stR I) := cR.u20 h (by decide)
theorem cR.oC (h : cI I n) {c : Nat} (hc : c ∈ aj_CS) {a u s : Int32} : cR I (stC (stB I 147 a u s) c) := by
  have hS : eqO [20, 147, 19, 35, 51, 67, 83, 99, 115, 131] I (stC (stB I 147 a u s) c) := by
    unfold stC
    refine eqO.tr (stB_eq (a := 147) (by decide)) (eqO.tr (stB_eq (a := c) ?_) (eqO.u (by decide)))
    revert hc; revert c; decide
  have hc20 : (20 : Nat) ≠ c := by intro e; subst e; revert hc; decide
  refine ⟨hS.mono (by decide), ⟨n, h.eqS hS (by decide) (by decide) (by decide)⟩, kW.off ?_ (hS 24 (by decide)) (hS 40 (by decide)) (congrFun (hS 18 (by decide)) 2)⟩
  unfold stC
  rw [aj_u_k _ _ _ (by decide), stB_o hc20, stB_o (by decide)]
theorem cQ.ofA {m : Nat} {fx fy : Nat → Int32} (h : fA I I1 m fx fy) (hm : m ≤ 12) {q : vw} (hq : q = vOf (I 20 9) (fx 12) (fy 12) m fx fy) : cQ I I1 q := ⟨h.1.mono (by decide), ⟨m, hm, h.2.2.2.1, h.2.2.2.2.1⟩, by
  rw [hq, kW_n hm h.2.2.2.1]
  exact vOf_e (h.2.1 9 (by decide)) (h.2.2.2.2.2.1 12) (h.2.2.2.2.2.2 12) rfl (fun j _ => h.2.2.2.2.2.1 j) (fun j _ => h.2.2.2.2.2.2 j)⟩
theorem cQ.no {q : vw} (h : cR I I1) (e : q = kW I) : cQ I I1 q := ⟨h.1, h.2.1, h.2.2.trans e.symm⟩
section CQQ
variable {x y p w : Int32} {i j k : Nat} {b : Bool}
theorem kW.okt (h : cI I n) (hi : i < n) (e : p = nI i) : vOk (vN (kW I)) p = true := by rw [kW.nn h, e]; exact vOk_t h.1 hi
theorem kW.okf (h : cI I n) (hf : ∀ j, j < n → ¬ p = nI j) : vOk (vN (kW I)) p = false := by rw [kW.nn h]; exact vOk_f h.1 hf
theorem cQ.adf (h : cI I n) (hF : n = 12 ∨ ∃ j, j < n ∧ I 24 j = x ∧ I 40 j = y) : cQ I (stR I) (nxAdd x y (kW I)) ∧ anAdd x y (kW I) = -9 := by
  have hb : bAdd x y (kW I) = false := by rw [kW_n h.1 h.2.1]; exact bAdd_f hF
  exact ⟨cQ.no (cR.stR h) (nxAdd_f hb), anAdd_f hb⟩
theorem cQ.ad (h : cI I n) (hA : vAt x y = true) (hn : n < 12) (hF : ∀ j, j < n → ¬ (I 24 j = x ∧ I 40 j = y)) (e : fA I I1 (n + 1) (fun k => if k = n then x else I 24 k) (fun k => if k = n then y else I 40 k)) : cQ I I1 (nxAdd x y (kW I)) ∧ anAdd x y (kW I) = nI n := by
  have hb : bAdd x y (vOf (I 20 9) (I 24 12) (I 40 12) n (I 24) (I 40)) = true := bAdd_t hA hn hF
  have z := kW_n h.1 h.2.1
  refine ⟨cQ.ofA e (by omega) ?_, by rw [z]; exact anAdd_t hb⟩
  rw [z, nxAdd_t hb]
  exact vOf_e rfl (if_neg (by omega)).symm (if_neg (by omega)).symm rfl (fun _ _ => rfl) (fun _ _ => rfl)
theorem cQ.rm (h : cI I n) (hi : i < n) (ep : p = nI i) (e : fA I I1 (n - 1) (fun k => if i ≤ k ∧ k < n - 1 then I 24 (k + 1) else I 24 k) (fun k => if i ≤ k ∧ k < n - 1 then I 40 (k + 1) else I 40 k)) : cQ I I1 (nxRem p (kW I)) ∧ anRem (kW I) = nI (n - 1) := by
  have hn := h.1
  refine ⟨cQ.ofA e (by omega) ?_, by rw [kW_n h.1 h.2.1]; rfl⟩
  rw [kW_n h.1 h.2.1, ep, nxRem_t hn hi]
  exact vOf_e rfl (if_neg (by omega)).symm (if_neg (by omega)).symm rfl (fun j hj => aj_if (by omega)) (fun j hj => aj_if (by omega))
theorem cQ.mof (h : cI I n) (hi : i < n) (ep : p = nI i) (hF : ∃ j, j < n ∧ j ≠ i ∧ I 24 j = x ∧ I 40 j = y ∧ ∀ k, k < j → ¬ (I 24 k = x ∧ I 40 k = y)) : cQ I (stR I) (nxMov p x y (kW I)) ∧ anMov p x y (kW I) = -9 := by
  have hb : bMov p x y (kW I) = false := by rw [kW_n h.1 h.2.1, ep]; exact bMov_f h.1 hi hF
  exact ⟨cQ.no (cR.stR h) (nxMov_f hb), anMov_f hb⟩
theorem cQ.mo (h : cI I n) (hi : i < n) (ep : p = nI i) (hA : vAt x y = true) (hF : (I 24 i = x ∧ I 40 i = y ∧ ∀ k, k < i → ¬ (I 24 k = x ∧ I 40 k = y)) ∨ ∀ j, j < n → ¬ (I 24 j = x ∧ I 40 j = y)) (e : fA I I1 n (fun k => if k = i then x else I 24 k) (fun k => if k = i then y else I 40 k)) : cQ I I1 (nxMov p x y (kW I)) ∧ anMov p x y (kW I) = bI (!(decide (I 24 i = x) && decide (I 40 i = y))) := by
  have hn := h.1
  have hb : bMov (nI i) x y (vOf (I 20 9) (I 24 12) (I 40 12) n (I 24) (I 40)) = true := bMov_t hn hi hA hF
  have z := kW_n h.1 h.2.1
  refine ⟨cQ.ofA e hn ?_, ?_⟩
  · rw [z, ep, nxMov_t (by omega) hb]
    exact vOf_e rfl (if_neg (by omega)).symm (if_neg (by omega)).symm rfl (fun _ _ => rfl) (fun _ _ => rfl)
  · rw [z, ep]
    rcases hF with hF | hF
    · rw [anMov_2 hb hi hF.1 hF.2.1, decide_eq_true hF.1, decide_eq_true hF.2.1]; rfl
    · rw [anMov_1 hb hF]
      have g := hF i hi
      by_cases g1 : I 24 i = x
      · rw [decide_eq_true g1, decide_eq_false (fun g2 => g ⟨g1, g2⟩)]; rfl
      · rw [decide_eq_false g1]; rfl
theorem cQ.ce (h : cI I n) (hA : vAt x y = true) (e : fA I I1 n (fun k => if k = 12 then x else I 24 k) (fun k => if k = 12 then y else I 40 k)) : cQ I I1 (nxCe x y (kW I)) := by
  have hn := h.1
  refine cQ.ofA e hn ?_
  rw [kW_n h.1 h.2.1, nxCe_t hA]
  exact vOf_e rfl (if_pos rfl).symm (if_pos rfl).symm rfl (fun j hj => (if_neg (by omega)).symm) (fun j hj => (if_neg (by omega)).symm)
theorem cQ.tu (h : cI I n) (e : fA I I1 n (fun k => if k < 13 then -1 - I 40 k else I 24 k) (fun k => if k < 13 then I 24 k else I 40 k)) : cQ I I1 (nxTu (kW I)) := by
  have hn := h.1
  refine cQ.ofA e hn ?_
  rw [kW_n h.1 h.2.1, nxTu_of]
  exact vOf_e rfl (if_pos (by decide)).symm (if_pos (by decide)).symm rfl (fun j hj => (if_pos (by omega)).symm) (fun j hj => (if_pos (by omega)).symm)
theorem cQ.mi (h : cI I n) (e : fA I I1 n (fun k => if k < 13 then -1 - I 24 k else I 24 k) (fun k => I 40 k)) : cQ I I1 (nxMi (kW I)) := by
  have hn := h.1
  refine cQ.ofA e hn ?_
  rw [kW_n h.1 h.2.1, nxMi_of]
  exact vOf_e rfl (if_pos (by decide)).symm rfl rfl (fun j hj => (if_pos (by omega)).symm) (fun _ _ => rfl)
theorem kW.pl (h : cI I n) (hi : i < n) (ep : p = nI i) : anPl p b (kW I) = if b = true then I 40 i else I 24 i := by
  rw [kW_n h.1 h.2.1, ep]; exact anPl_of hi h.1
theorem kW.le9 (h : cI I n) (hi : i < n) (hj : j < n) (hk : k < n) (ep : p = nI i) (ex : x = nI j) (ey : y = nI k) (hz : j = i ∨ k = i) : anLe p x y (kW I) = -9 := by
  have hn := h.1
  rw [ep, ex, ey]; exact anLe_n (by omega) (by omega) (by omega) hz
theorem kW.le (h : cI I n) (hi : i < n) (hj : j < n) (hk : k < n) (ep : p = nI i) (ex : x = nI j) (ey : y = nI k) (h1 : j ≠ i) (h2 : k ≠ i) : anLe p x y (kW I) = pSgn (pCr (I 24 i) (I 40 i) (I 24 j) (I 40 j) (I 24 k) (I 40 k)).toInt64 := by
  rw [kW_n h.1 h.2.1, ep, ex, ey, pSgn_vSg]; exact anLe_t h.1 hi hj hk h1 h2
end CQQ
end CRR
-- THE INVARIANT
def lI (I : Nat → Nat → Int32) (V : Nat → Nat → Option Nat) (N : Nat → Nat) : Prop := (∃ n, cI I n) ∧ mI I ∧ kV I = kW I ∧ bV V N aj_LL ∧ vM V aj_LL
section LI
variable {I I1 I2 : Nat → Nat → Int32} {J J1 J2 : Nat → Nat → Int64} {V V1 : Nat → Nat → Option Nat} {N N1 : Nat → Nat} {q : vw}
theorem lI.c (h : lI I V N) (hR : cR I I1) : lI I1 V N := ⟨hR.2.1, h.2.1.cg (fun i hi => hR.1 i (lms i hi)), (kV.rw (hR.1 168 (by decide)) (hR.1 22 (by decide)) (hR.1 136 (by decide)) (hR.1 152 (by decide))).trans (h.2.2.1.trans hR.2.2.symm), h.2.2.2⟩
theorem kW.m {S : List Nat} (e : eqO S I I1) (h1 : 20 ∉ S) (h2 : 24 ∉ S) (h3 : 40 ∉ S) (h4 : 18 ∉ S) : kW I1 = kW I := kW.off (by rw [e 20 h1]) (e 24 h2) (e 40 h3) (by rw [e 18 h4])
theorem lI.e {S : List Nat} (h : lI I V N) (e : eqO S I I1) (hM : mI I1) (hk : kV I1 = kV I) (h1 : 18 ∉ S) (h2 : 56 ∉ S) (h3 : 72 ∉ S) (h4 : 20 ∉ S) (h5 : 24 ∉ S) (h6 : 40 ∉ S) : lI I1 V N := by
  obtain ⟨⟨n, hC⟩, -, h7, h8⟩ := h
  exact ⟨⟨n, hC.eqS e h1 h2 h3⟩, hM, hk.trans (h7.trans (kW.m e h4 h5 h6 h1).symm), h8⟩
theorem lI.m (h : lI I V N) (hR : mR I J I1 J1) : lI I1 V N := h.e hR.1 hR.2.1 hR.2.2.1 (by decide) (by decide) (by decide) (by decide) (by decide) (by decide)
/-- both sides change alike -/
theorem lI.b0 {S : List Nat} (h : lI I V N) (hc : cQ I I1 q) (e : eqO S I1 I2) (hM : mI I2) (hk : kV I2 = q) (h1 : 18 ∉ S) (h2 : 56 ∉ S) (h3 : 72 ∉ S) (h4 : 20 ∉ S) (h5 : 24 ∉ S) (h6 : 40 ∉ S) : lI I2 V N := by
  obtain ⟨⟨n, hC⟩, hkw⟩ := hc.2
  exact ⟨⟨n, hC.eqS e h1 h2 h3⟩, hM, hk.trans (hkw.symm.trans (kW.m e h4 h5 h6 h1).symm), h.2.2.2⟩
theorem lI.b (h : lI I V N) (hc : cQ I I1 q) (hm : mQ I1 J1 I2 J2 q) : lI I2 V N := h.b0 hc hm.1 hm.2.1 hm.2.2.1 (by decide) (by decide) (by decide) (by decide) (by decide) (by decide)
theorem lI.M (h : lI I V N) (hc : cQ I I1 q) : mI I1 := h.2.1.cg (fun i hi => hc.1 i (lms i hi))
/-- what the reference holds behind the class's call -/
theorem lI.v (h : lI I V N) (hc : cQ I I1 q) : kV I1 = kW I := (kV.rw (hc.1 168 (by decide)) (hc.1 22 (by decide)) (hc.1 136 (by decide)) (hc.1 152 (by decide))).trans h.2.2.1
theorem lI.vc (h : lI I V N) (hc : cR I I1) : kV I1 = kW I := (kV.rw (hc.1 168 (by decide)) (hc.1 22 (by decide)) (hc.1 136 (by decide)) (hc.1 152 (by decide))).trans h.2.2.1
theorem lI.v0 (h : lI I V N) : I 168 3 = I 20 9 ∧ I 22 8 = I 24 12 ∧ I 22 9 = I 40 12 := by
  have e := h.2.2.1
  exact ⟨congrArg vK e, congrArg vX e, congrArg vY e⟩
theorem lI.bN {t : Nat} (hB : bV V N aj_LL) : bV V (aj_ur N 184 t) aj_LL := hB.cg (fun _ _ => rfl) (fun i hi => aj_ur_n _ _ (by intro e; subst e; revert hi; decide))
theorem lI.ba (h : lI I V N) (hc : cQ I I1 q) (hm : mQA 184 I1 J1 I2 J2 q) {t : Nat} : lI I2 V (aj_ur N 184 t) := by
  obtain ⟨a, b, c, hB, hV⟩ := h.b0 hc hm.1 hm.2.1 hm.2.2.1 (by decide) (by decide) (by decide) (by decide) (by decide) (by decide)
  exact ⟨a, b, c, lI.bN hB, hV⟩
theorem lI.a (h : lI I V N) (hR : mRA 184 I J I1 J1) {t : Nat} : lI I1 V (aj_ur N 184 t) := by
  obtain ⟨a, b, c, hB, hV⟩ := h.e hR.1 hR.2.1 hR.2.2.1 (by decide) (by decide) (by decide) (by decide) (by decide) (by decide)
  exact ⟨a, b, c, lI.bN hB, hV⟩
theorem lI.d (h : lI I V N) (hR : mRD 184 200 I I1) {t t2 : Nat} : lI I1 V (aj_ur (aj_ur N 184 t) 200 t2) := by
  obtain ⟨a, b, c, hB, hV⟩ := h.e hR.1 hR.2.1 hR.2.2 (by decide) (by decide) (by decide) (by decide) (by decide) (by decide)
  exact ⟨a, b, c, hB.cg (fun _ _ => rfl) (fun i hi => (aj_ur_n _ _ (by intro e; subst e; revert hi; decide)).trans (aj_ur_n _ _ (by intro e; subst e; revert hi; decide))), hV⟩
theorem lI.s (h : lI I V N) (hR : sI I I1) : lI I1 V (aj_ur (aj_ur (aj_ur (aj_ur (aj_ur N 184 8) 200 8) 216 8) 57 8) 232 8) := by
  obtain ⟨a, b, c, hB, hV⟩ := h.e hR.1 hR.2.1 hR.2.2.1 (by decide) (by decide) (by decide) (by decide) (by decide) (by decide)
  refine ⟨a, b, c, hB.cg (fun _ _ => rfl) (fun i hi => ?_), hV⟩
  have n1 : i ≠ 184 := by intro e; subst e; revert hi; decide
  have n2 : i ≠ 200 := by intro e; subst e; revert hi; decide
  have n3 : i ≠ 216 := by intro e; subst e; revert hi; decide
  have n4 : i ≠ 57 := by intro e; subst e; revert hi; decide
  have n5 : i ≠ 232 := by intro e; subst e; revert hi; decide
  rw [aj_ur_n _ _ n5, aj_ur_n _ _ n4, aj_ur_n _ _ n3, aj_ur_n _ _ n2, aj_ur_n _ _ n1]
theorem lI.no (h : lI I V N) {a : Nat} (ha : a ∉ aj_LL) : ∀ i j, V i j ≠ some a := fun i j e => ha (h.2.2.2.2 i j a e)
theorem lI.noL (h : lI I V N) {a : Nat} (ha : a ∉ aj_LL) : ∀ i ∈ aj_LL, ∀ j, V i j ≠ some a := fun i _ j => h.no ha i j
theorem lI.tX (h : lI I V N) : tX V aj_LL := fun f hf => ⟨by revert f hf; decide, fun i _ j => h.no (by revert f hf; decide) i j⟩
theorem lI.tX2 (h : lI I V N) : ∀ f ∈ tP, ∀ i j, V i j ≠ some f := fun f hf => h.no (by revert f hf; decide)
/-- the references, brought to their form -/
def lVn (V : Nat → Nat → Option Nat) : Nat → Nat → Option Nat := fun i j => if i ∈ aj_LL ∧ (i % 16 = 11 → j < 8) then V i j else none
theorem lVn_row {i : Nat} (hi : i ∈ aj_LL) (h : i % 16 ≠ 11) : lVn V i = V i := funext fun _ => if_pos ⟨hi, fun e => absurd e h⟩
theorem lVn_at {i j : Nat} (hi : i ∈ aj_LL) (h : j < 8) : lVn V i j = V i j := if_pos ⟨hi, fun _ => h⟩
theorem lI.n (h : lI I V N) (hv : ∀ i ∈ aj_LL, i ≠ 27 → i ≠ 43 → V1 i = V i) (h27 : ∀ j, j < 8 → ∃ c, V1 27 j = some c ∧ c ∈ aj_CS) (h43 : ∀ j, j < 8 → ∀ b, V1 43 j = some b → b ∈ aj_LL) (hn : ∀ i ∈ aj_LL, N1 i = N i) : lI I (lVn V1) N1 := by
  obtain ⟨a, b, c, hB, hV⟩ := h
  refine ⟨a, b, c, ?_, ?_⟩
  · unfold bV at hB ⊢
    rw [lVn_row (i := 20) (by decide) (by decide), lVn_row (i := 18) (by decide) (by decide), lVn_row (i := 22) (by decide) (by decide), hv 20 (by decide) (by decide) (by decide), hv 18 (by decide) (by decide) (by decide), hv 22 (by decide) (by decide) (by decide), hn 27 (by decide), hn 43 (by decide), hn 25 (by decide), hn 41 (by decide), hn 24 (by decide), hn 40 (by decide), hn 56 (by decide), hn 72 (by decide), hn 88 (by decide), hn 104 (by decide), hn 120 (by decide), hn 136 (by decide), hn 152 (by decide), hn 168 (by decide)]
    exact ⟨hB.1, hB.2.1, hB.2.2.1, hB.2.2.2.1, hB.2.2.2.2.1, fun j hj => by rw [lVn_at (by decide) hj]; exact h27 j hj⟩
  · intro i j x hx
    unfold lVn at hx
    by_cases e : i ∈ aj_LL ∧ (i % 16 = 11 → j < 8)
    · rw [if_pos e] at hx
      by_cases e1 : i = 27
      · subst e1
        obtain ⟨y, hy, hy2⟩ := h27 j (e.2 (by decide))
        rw [hy] at hx
        cases hx
        exact lcs _ hy2
      · by_cases e2 : i = 43
        · subst e2
          exact h43 j (e.2 (by decide)) x hx
        · rw [hv i e.1 e1 e2] at hx
          exact hV i j x hx
    · rw [if_neg e] at hx
      cases hx
theorem lI.r27 (h : lI I V N) : ∀ j, j < 8 → ∃ c, V 27 j = some c ∧ c ∈ aj_CS := h.2.2.2.1.2.2.2.2.2
theorem lI.t (h : lI I V N) (hk : tK aj_LL I J V N I1 J1 V1 N1) : lI I1 (lVn V1) N1 := by
  have h1 : lI I1 V N := by
    obtain ⟨⟨n, hC⟩, b, c, d⟩ := h
    have e : ∀ i ∈ aj_LL, I1 i = I i := fun i hi => (hk i hi).1
    refine ⟨⟨n, hC.1, ?_, ?_⟩, b.cg (fun i hi => e i (by revert i hi; decide)), (kV.rw (e 168 (by decide)) (e 22 (by decide)) (e 136 (by decide)) (e 152 (by decide))).trans (c.trans (kW.off (by rw [e 20 (by decide)]) (e 24 (by decide)) (e 40 (by decide)) (by rw [e 18 (by decide)])).symm), d⟩
    · rw [e 18 (by decide)]; exact hC.2.1
    · have hf := hC.2.2
      unfold fW at hf ⊢
      rw [e 18 (by decide), e 56 (by decide), e 72 (by decide)]
      exact hf
  exact h1.n (fun i hi _ _ => (hk i hi).2.2.1) (fun j hj => by rw [(hk 27 (by decide)).2.2.1]; exact h.r27 j hj) (fun j _ b hb => by rw [(hk 43 (by decide)).2.2.1] at hb; exact h.2.2.2.2 43 j b hb) (fun i hi => (hk i hi).2.2.2)
theorem lI.u (h : lI I V N) (hk : mRT aj_LL I J V N I1 J1 V1 N1) : lI I1 (lVn V1) N1 := by
  have h1 : lI I1 V N := by
    obtain ⟨⟨n, hC⟩, b, c, d⟩ := h
    have e : ∀ i ∈ aj_LL, i ∉ mS → I1 i = I i := hk.1
    refine ⟨⟨n, hC.1, ?_, ?_⟩, hk.2.1, hk.2.2.1.trans (c.trans (kW.off (by rw [e 20 (by decide) (by decide)]) (e 24 (by decide) (by decide)) (e 40 (by decide) (by decide)) (by rw [e 18 (by decide) (by decide)])).symm), d⟩
    · rw [e 18 (by decide) (by decide)]; exact hC.2.1
    · have hf := hC.2.2
      unfold fW at hf ⊢
      rw [e 18 (by decide) (by decide), e 56 (by decide) (by decide), e 72 (by decide) (by decide)]
      exact hf
  have k := hk.2.2.2
  exact h1.n (fun i hi _ _ => (k i hi).1) (fun j hj => by rw [(k 27 (by decide)).1]; exact h.r27 j hj) (fun j _ b hb => by rw [(k 43 (by decide)).1] at hb; exact h.2.2.2.2 43 j b hb) (fun i hi => (k i hi).2)
theorem lI.so (h : lI I V N) (hB : bV V1 N aj_LL) (hv : ∀ i, i ≠ 27 → i ≠ 43 → V1 i = V i) (h43 : ∀ j, j < 8 → ∃ c, V1 43 j = some c ∧ c ∈ aj_CS) : lI I (lVn V1) N :=
  h.n (fun i _ a b => hv i a b) hB.2.2.2.2.2 (fun j hj b hb => by obtain ⟨c, h1, h2⟩ := h43 j hj; rw [h1] at hb; cases hb; exact lcs _ h2) (fun _ _ => rfl)
end LI
theorem lg_cmp_self (x : Int64) : lg_cmp x x = 0 := by
  unfold lg_cmp
  by_cases h : x > x
  · exact absurd (Int64.lt_iff_toInt_lt.mp h) (Int.lt_irrefl _)
  · rw [if_neg h, if_pos rfl]
theorem sub5 {a i : Nat} (ha : a ≤ 320) (hi : i ≤ 320) : (nI a - 5 < nI i) ↔ ¬ (i + 5 ≤ a) := by
  rw [Int32.lt_iff_toInt_lt, Int32.toInt_sub, nI_toInt (by omega), nI_toInt (by omega)]
  show Int.bmod ((a : Int) - 5) (2 ^ 32) < _ ↔ _
  rw [Int.bmod_def]
  split <;> omega
theorem and63 (x : Int32) : ∃ c, c < 64 ∧ x &&& 63 = nI c := by
  have h : ((x.toBitVec &&& 63#32).toNat) < 64 := by
    rw [BitVec.toNat_and]
    exact Nat.lt_of_le_of_lt Nat.and_le_right (by decide)
  have h2 : (x &&& 63).toInt = ((x.toBitVec &&& 63#32).toNat : Int) := by
    show (x.toBitVec &&& 63#32).toInt = _
    rw [BitVec.toInt_eq_toNat_cond]
    split
    · rfl
    · omega
  refine ⟨(x.toBitVec &&& 63#32).toNat, h, Int32.toInt_inj.mp ?_⟩
  rw [h2, nI_toInt (by omega)]
-- rows of the law alone
section LR
variable {G : aj_G} {cc : ByteArray} {tbl : List (Nat × Instr × Nat)} {own : String} {R0 : Room} {nL : Nat} {pc q : Nat} {lv lv' : List (Option Value)} {st st' : List Value} {I : Nat → Nat → Int32} {J : Nat → Nat → Int64} {V : Nat → Nat → Option Nat} {N : Nat → Nat} {L : List Nat} {bc bs : Nat}
/-- the script stands at the address of number 8 -/
def lS (G : aj_G) (n : Nat) (xs : Nat → Int32) : Prop := va_X (gr G 8) n xs (gs G) (gs G).heap ∧ gr G 8 < (gs G).heap.size ∧ ¬ gA G (gr G 8) ∧ 8 ∉ gF G
theorem x_sld {n : Nat} {xs : Nat → Int32} {j : Int32} (C : aj_C G cc tbl own R0 nL) (hS0 : lS G n xs) (k : Nat) (h : tbl[k]? = some (pc, .iaload, 1)) (hq : pc + 1 = q) (hin : vp_in j n) (kk : aj_X G q lv (.int (xs j.toNatClampNeg) :: st) I J V N L bc bs) : aj_X G pc lv (.int j :: .ref 8 :: st) I J V N L bc bs := by
  subst hq
  intro r H locs cells slots ls hP hD hS hLL hF hc hs hl
  have e : r 8 = gr G 8 := hF 8 hS0.2.2.2
  refine va_sld C.x C.b (b := r 8) (L := n) (xs := xs) ?_ ?_ ?_ hS hin (C.d h) (kk r H locs cells slots ls hP hD hS hLL hF hc hs hl)
  · rw [e]; exact hS0.1
  · rw [e]; exact hS0.2.1
  · rw [e]; exact hS0.2.2.1
theorem x_slen {n : Nat} {xs : Nat → Int32} (C : aj_C G cc tbl own R0 nL) (hS0 : lS G n xs) (k : Nat) (h : tbl[k]? = some (pc, .arraylength, 1)) (hq : pc + 1 = q) (kk : aj_X G q lv (.int (nI n) :: st) I J V N L bc bs) : aj_X G pc lv (.ref 8 :: st) I J V N L bc bs := by
  subst hq
  intro r H locs cells slots ls hP hD hS hLL hF hc hs hl
  have e : r 8 = gr G 8 := hF 8 hS0.2.2.2
  refine va_slen C.x C.b (b := r 8) (L := n) (xs := xs) ?_ ?_ ?_ hS (C.d h) (kk r H locs cells slots ls hP hD hS hLL hF hc hs hl)
  · rw [e]; exact hS0.1
  · rw [e]; exact hS0.2.1
  · rw [e]; exact hS0.2.2.1
theorem aj_fg {a0 a1 a2 a3 a4 z5 z6 : Option Value} (kk : aj_X G pc [a0, a1, a2, a3, a4, none, none] st I J V N L bc bs) : aj_X G pc [a0, a1, a2, a3, a4, z5, z6] st I J V N L bc bs := by
  intro r H locs cells slots ls hP hD hS hLL hF hc hs hl
  refine kk r H locs cells slots ls hP hD hS hLL hF hc hs (aj_lh_mono hl (fun q hq => ?_))
  obtain ⟨k, v, h1, h2⟩ := (aj_lvs_mem r _ 0 q).mp hq
  refine (aj_lvs_mem r _ 0 q).mpr ⟨k, v, ?_, h2⟩
  rcases k with _ | _ | _ | _ | _ | _ | _ | k
  · exact h1
  · exact h1
  · exact h1
  · exact h1
  · exact h1
  · cases h1
  · cases h1
  · cases h1
theorem aj_dropX {X : List Nat} (hg : gL G = []) (kk : aj_X G pc lv st I J V N L bc bs) : aj_X G pc lv st I J V N (L ++ X) bc bs :=
  aj_conv (by rw [hg]; intro i hi; cases hi) (keep_pre _ _) (fun _ _ _ _ => rfl) kk
/-- references told anew: beyond a row's length nothing counts -/
theorem aj_convV {V' : Nat → Nat → Option Nat} (h : ∀ i ∈ L, ∀ j, (i % 16 = 11 → j < N i) → V' i j = V i j) (kk : aj_X G pc lv st I J V' N L bc bs) : aj_X G pc lv st I J V N L bc bs := by
  intro r H locs cells slots ls hP hD hS hLL hF hc hs hl
  have key : ∀ (k : Nat) (q : Nat × va_E), (aj_ws (gcs G) r I J V' N L)[k]? = some q → ∃ i, L[k]? = some i ∧ q = (r i, aj_el (gcs G) r I J V' N i) := by
    intro k q hk
    unfold aj_ws at hk
    rw [List.getElem?_map] at hk
    cases hLk : L[k]? with
    | none => rw [hLk] at hk; cases hk
    | some i => rw [hLk] at hk; exact ⟨i, rfl, (Option.some.inj hk).symm⟩
  have back : ∀ (k i : Nat), L[k]? = some i → (aj_ws (gcs G) r I J V N L)[k]? = some (r i, aj_el (gcs G) r I J V N i) := by
    intro k i hk
    unfold aj_ws
    rw [List.getElem?_map, hk]; rfl
  refine kk r H locs cells slots ls ?_ ?_ hS hLL hF hc hs hl
  · intro k q hk
    obtain ⟨i, hLk, rfl⟩ := key k q hk
    have hi := List.mem_of_getElem? hLk
    have h0 := hP k _ (back k i hLk)
    by_cases e : i % 16 = 11
    · rw [aj_el_refs e] at h0 ⊢
      have h1 : H[r i]? = some (vp_cell (gcs G 3) (N i, .inr (.inr (.inr (.inr (fun j => (V i j).map r)))))) := h0
      show H[r i]? = some (vp_cell (gcs G 3) (N i, .inr (.inr (.inr (.inr (fun j => (V' i j).map r))))))
      rw [h1]
      refine congrArg some ?_
      show arrV (gcs G 3) (N i) (fun j => va_rf ((V i j).map r)) = arrV (gcs G 3) (N i) (fun j => va_rf ((V' i j).map r))
      unfold arrV
      have e2 : (fun j : Fin (N i) => va_rf ((V i j.val).map r)) = fun j : Fin (N i) => va_rf ((V' i j.val).map r) := funext fun j => by rw [h i hi j.val (fun _ => j.isLt)]
      simp only [e2]
    · have e2 : aj_el (gcs G) r I J V' N i = aj_el (gcs G) r I J V N i := aj_el_congr rfl rfl (funext fun j => h i hi j (fun z => absurd z e)) rfl
      rw [e2]; exact h0
  · refine ⟨fun i j p q hp hq he => ?_, fun k q hk => ?_⟩
    · obtain ⟨a, ha, rfl⟩ := key i p hp
      obtain ⟨b, hb, rfl⟩ := key j q hq
      exact hD.1 i j _ _ (back i a ha) (back j b hb) he
    · obtain ⟨a, ha, rfl⟩ := key k q hk
      exact hD.2 k (r a, aj_el (gcs G) r I J V N a) (back k a ha)
theorem lNorm {V1 : Nat → Nat → Option Nat} (hN : ∀ i ∈ aj_LL, N i = N i → i % 16 = 11 → N i = 8) (kk : aj_X G pc lv st I J (lVn V1) N aj_LL bc bs) : aj_X G pc lv st I J V1 N aj_LL bc bs :=
  aj_convV (fun i hi j hj => if_pos ⟨hi, fun e => by have := hN i hi rfl e; have := hj e; omega⟩) kk
theorem lI.n8 {I0 : Nat → Nat → Int32} {V0 : Nat → Nat → Option Nat} (h : lI I0 V0 N) : ∀ i ∈ aj_LL, N i = N i → i % 16 = 11 → N i = 8 := fun i hi _ e => by
  rcases l11 i hi e with z | z
  · subst z; exact bn27 h.2.2.2.1
  · subst z; exact bn43 h.2.2.2.1
end LR
