-- THE LAW: lemmas
def aj_LL : List Nat := [20] ++ [27, 43, 25, 147, 163, 18, 24, 40, 56, 72, 179, 195, 19, 35, 51, 67, 83, 99, 115, 131] ++ [22] ++ [88, 104, 120, 41, 136, 152, 168] ++ [21]
def lGF : List Nat := aj_LL ++ [15, 184, 200, 216, 232, 57, 65, 26, 42, 16, 58]
theorem lBL : ∀ i ∈ aj_BL, i ∈ aj_LL := by decide
theorem lLB : ∀ i ∈ aj_LL, i ∈ aj_BL := by decide
theorem l11 : ∀ i ∈ aj_LL, i % 16 = 11 → i = 27 ∨ i = 43 := by decide
theorem lcs : ∀ i ∈ aj_CS, i ∈ aj_LL := by decide
theorem lms : ∀ i ∈ mS, i ∉ cS := by decide
theorem lms0 : ∀ i ∈ mS, i ∉ cS0 := by decide
theorem bV.cg {V V1 : Nat → Nat → Option Nat} {N N1 : Nat → Nat} {L : List Nat} (h : bV V N L) (hV : ∀ i ∈ aj_BL, V1 i = V i) (hN : ∀ i ∈ aj_BL, N1 i = N i) : bV V1 N1 L := by
  unfold bV at h ⊢
  rw [hV 20 (by decide), hV 18 (by decide), hV 22 (by decide), hV 27 (by decide), hN 27 (by decide), hN 43 (by decide), hN 25 (by decide), hN 41 (by decide), hN 24 (by decide), hN 40 (by decide), hN 56 (by decide), hN 72 (by decide), hN 88 (by decide), hN 104 (by decide), hN 120 (by decide), hN 136 (by decide), hN 152 (by decide), hN 168 (by decide)]
  exact h
-- what the class's calls do, said weakly
section CRR
variable {I I1 : Nat → Nat → Int32} {n : Nat}
theorem kW.nn (h : cI I n) : vN (kW I) = n := by rw [kW_n h.1 h.2.1]; rfl
theorem cR.eq {S : List Nat} (h : cI I n) (e : eqO S I I1) (hs : ∀ i ∈ S, i ∈ cS0) (h1 : 18 ∉ S) (h2 : 56 ∉ S) (h3 : 72 ∉ S) (h4 : 20 ∉ S) (h5 : 24 ∉ S) (h6 : 40 ∉ S) : cR I I1 := ⟨e.mono hs, ⟨n, h.eqS e h1 h2 h3 h5 h6⟩, kW.off (by rw [e 20 h4]) (e 24 h5) (e 40 h6) (by rw [e 18 h1])⟩
theorem cR.rf (h : cI I n) : cR I I := ⟨eqO.rf, ⟨n, h⟩, rfl⟩
theorem cR.u20 (h : cI I n) {k : Nat} {x : Int32} (hk : k ≠ 9) : cR I (aj_u I 20 k x) := ⟨eqO.u (by decide), ⟨n, h.eqS (S := [20]) (eqO.u (by decide)) (by decide) (by decide) (by decide) (by decide) (by decide)⟩, kW.off (aj_u_k _ _ _ (Ne.symm hk)) (aj_u_o _ _ (by decide)) (aj_u_o _ _ (by decide)) (aj_u_i _ _ _ (by decide))⟩
theorem cQ.kn (h : cI I n) : cQ I (aj_u I 20 9 (I 20 9 + 1)) (nxKn (kW I)) := ⟨eqO.u (by decide), ⟨n, h.eqS (S := [20]) (eqO.u (by decide)) (by decide) (by decide) (by decide) (by decide) (by decide)⟩, by
  show vOf _ _ _ _ _ _ = vOf (I 20 9 + 1) (I 24 12) (I 40 12) (nn (I 18 2)) (I 24) (I 40)
  exact vOf_e (aj_u_s _ _ _ _) (by simp [aj_u]) (by simp [aj_u]) (by simp [aj_u]) (fun k _ => by simp [aj_u]) (fun k _ => by simp [aj_u])⟩
theorem cR.stR (h : cI I n) : cR I (stR I) := cR.u20 h (by decide)
def vR (v : vw) : Prop := ∀ k, k < vN v → pIn (vP v k) (-64) 63 = true ∧ pIn (vQ v k) (-64) 63 = true
theorem cstp_r {j : Nat} (h : cI I n) (hR : vR (kW I)) (hj : j < n) {k : Nat} (hk : k < n) : pIn (I 24 k - I 24 j) (-127) 127 = true ∧ pIn (I 40 k - I 40 j) (-127) 127 = true := by
  rw [kW_n h.1 h.2.1] at hR
  have key : ∀ i, i < n → pIn (I 24 i) (-64) 63 = true ∧ pIn (I 40 i) (-64) 63 = true := fun i hi => by
    have z := hR i hi
    change pIn (vMk n (I 24) i) (-64) 63 = true ∧ pIn (vMk n (I 40) i) (-64) 63 = true at z
    rw [vMk_l hi, vMk_l hi] at z
    exact z
  exact ⟨pIn_sub (key k hk).1 (key j hj).1, pIn_sub (key k hk).2 (key j hj).2⟩
-- the class's cells behind its acts
def xR : List Nat := [88, 104, 120, 19, 35, 51, 67, 83, 99, 115, 131]
theorem xRc : ∀ c ∈ aj_CS, c ∈ xR := by decide
def cD (V : Nat → Nat → Option Nat) : Prop := ∀ i j, i < j → j < 8 → vc V i ≠ vc V j
theorem cW_eq {V : Nat → Nat → Option Nat} {N : Nat → Nat} {L : List Nat} (hB : bV V N L) (h : ∀ c ∈ aj_CS, I1 c = I c) : cW I1 V = cW I V := tM_e (fun j hj => by unfold tc; rw [h _ (vcM hB hj)])
theorem cL_eq (h : ∀ c ∈ aj_CS, I1 c = I c) (hL : cL I) : cL I1 := fun c hc => by
  unfold tc
  rw [h c hc]
  exact hL c hc
def cC (I : Nat → Nat → Int32) (V : Nat → Nat → Option Nat) (I1 : Nat → Nat → Int32) (c : cw) : Prop := eqO cS I I1 ∧ (∃ n, cI I1 n) ∧ kW I1 = kW I ∧ cW I1 V = c ∧ cL I1
theorem pSgA_i (a u s : Int32) : pSgA a (pSg a u s) = pSgA a s := by
  unfold pSgA
  by_cases z : a = 0
  · rw [if_pos z, if_pos z]
    unfold pSg pSgA
    rw [if_pos z]
    rcases pk_and1 s with h | h <;> rcases pSgU_02 u s with h2 | h2 <;> rw [h, h2] <;> decide
  · rw [if_neg z, if_neg z]
theorem pSgU_i (a u s : Int32) : pSgU u (pSg a u s) = pSgU u s := by
  unfold pSgU
  by_cases z : u = 0
  · rw [if_pos z, if_pos z]
    unfold pSg pSgU
    rw [if_pos z]
    rcases pSgA_01 a s with h | h <;> rcases pk_and2 s with h2 | h2 <;> rw [h, h2] <;> decide
  · rw [if_neg z, if_neg z]
theorem pSg_i (a u s : Int32) : pSg a u (pSg a u s) = pSg a u s := by
  show pSgA a (pSg a u s) ||| pSgU u (pSg a u s) = _
  rw [pSgA_i, pSgU_i]; rfl
section CC
variable {V : Nat → Nat → Option Nat} {N : Nat → Nat} {L : List Nat} {a u s : Int32} {j : Nat} {c : cw} {ok : Bool} {t : tp}
theorem cC.no (h : cR I I1) (hB : bV V N L) (hL : cL I) (e : c = cW I V) : cC I V I1 c := ⟨h.1.mono cS0_cS, h.2.1, h.2.2, (cW_eq hB (fun c hc => h.1 c (by revert c hc; decide))).trans e.symm, cL_eq (fun c hc => h.1 c (by revert c hc; decide)) hL⟩
theorem stC_o {x : Nat} (h1 : x ≠ 147) (h2 : x ≠ 20) {b : Nat} (h3 : x ≠ b) : stC (stB I 147 a u s) b x = I x := by
  unfold stC
  rw [aj_u_o _ _ h2, stB_o h3, stB_o h1]
theorem stC_c {b : Nat} (h2 : b ≠ 20) : tc (stC (stB I 147 a u s) b) b = qB a u s ∧ stC (stB I 147 a u s) b b 3 = qL (qB a u s) := by
  unfold stC tc
  rw [aj_u_o _ _ h2, stB_0, stB_1, stB_2, stB_0, stB_1, stB_2, stB_3, pSg_i, tB_L]
  refine ⟨rfl, ?_⟩
  have e : qB a u (pSg a u s) = qB a u s := by unfold qB; rw [pSg_i]
  rw [← tB_L, ← tB_L, e]
theorem cC.oC (h : cI I n) (hB : bV V N L) (hL : cL I) (hD : cD V) (hj : j < 8) (ha : pIn a (-127) 127 = true) (hu : pIn u (-127) 127 = true) : cC I V (stC (stB I 147 a u s) (vc V j)) (nxJ j (qB a u s) (cW I V)) := by
  have hc := vcM hB hj
  have hS : eqO [20, 147, 19, 35, 51, 67, 83, 99, 115, 131] I (stC (stB I 147 a u s) (vc V j)) := by
    unfold stC
    refine eqO.tr (stB_eq (a := 147) (by decide)) (eqO.tr (stB_eq (a := vc V j) ?_) (eqO.u (by decide)))
    revert hc; generalize vc V j = b; revert b; decide
  have n20 : ∀ b ∈ aj_CS, b ≠ 20 := by decide
  have n147 : ∀ b ∈ aj_CS, b ≠ 147 := by decide
  refine ⟨hS.mono (by decide), ⟨n, h.eqS hS (by decide) (by decide) (by decide) (by decide) (by decide)⟩, kW.off ?_ (hS 24 (by decide)) (hS 40 (by decide)) (congrFun (hS 18 (by decide)) 2), ?_, ?_⟩
  · unfold stC
    rw [aj_u_k _ _ _ (by decide), stB_o (Ne.symm (n20 _ hc)), stB_o (by decide)]
  · rw [nxJ_t (tRg_t ha hu)]
    funext k
    unfold setC
    by_cases hk : k < 8
    · rw [cW_l hk]
      by_cases e : k = j
      · subst e
        rw [if_pos rfl]
        exact (stC_c (n20 _ hc)).1
      · rw [if_neg e, cW_l hk]
        have hne : vc V k ≠ vc V j := by
          rcases Nat.lt_or_ge k j with w | w
          · exact hD k j w hj
          · exact Ne.symm (hD j k (by omega) hk)
        unfold tc
        rw [stC_o (n147 _ (vcM hB hk)) (n20 _ (vcM hB hk)) hne]
    · rw [if_neg (show ¬ k = j by omega)]
      unfold cW tM
      rw [if_neg hk, if_neg hk]
  · intro b hb
    by_cases e : b = vc V j
    · subst e
      rw [(stC_c (n20 _ hc)).1]
      exact ⟨tB_ok ha hu, (stC_c (n20 _ hc)).2⟩
    · unfold tc
      rw [stC_o (n147 _ hb) (n20 _ hb) e]
      exact hL b hb
theorem mvC_e (hB : bV V N L) (hL : cL I) (hj : j < 8) (ha : pIn a (-127) 127 = true) (hu : pIn u (-127) 127 = true) : mvC (stB I 147 a u s) (vc V j) = anJ j (qB a u s) (cW I V) := by
  have hc := vcM hB hj
  have n147 : ∀ b ∈ aj_CS, b ≠ 147 := by decide
  rw [anJ_t (tRg_t ha hu), cW_l hj]
  unfold mvC
  rw [stB_3, stB_1, stB_2, stB_o (n147 _ hc), (hL _ hc).2, ← tB_L]
  exact pOrd_mOrd (sOk_up (pSg_ok a u s)) (sOk_up (hL _ hc).1.2.2.1) (sOk_U (pSg_ok a u s)) (sOk_U (hL _ hc).1.2.2.1)
theorem cC.pt (h : cI I n) (hB : bV V N L) (hL : cL I) (hD : cD V) (hj : j < 8) (hok : ok = true) (ha : pIn a (-127) 127 = true) (hu : pIn u (-127) 127 = true) : cC I V (stC (stB I 147 a u s) (vc V j)) (nxS ok (nI j) (qB a u s) (cW I V)) ∧ mvC (stB I 147 a u s) (vc V j) = anS (nI j) (qB a u s) (cW I V) := by
  rw [nxS_t hok hj, anS_t hj]
  exact ⟨cC.oC h hB hL hD hj ha hu, mvC_e hB hL hj ha hu⟩
theorem cC.rf9 (h : cI I n) (hB : bV V N L) (hL : cL I) (hj : j < 8) (hF : tRg t = false) : cC I V (stR I) (nxS ok (nI j) t (cW I V)) ∧ (-9 : Int32) = anS (nI j) t (cW I V) := by
  rw [anS_t hj, anJ_f hF]
  refine ⟨cC.no (cR.stR h) hB hL ?_, rfl⟩
  unfold nxS
  split
  · exact nxJ_f hF
  · rfl
theorem pCoo_p (x : Int32) : pCoo x = pIn x (-127) 127 := by
  unfold pCoo pIn
  congr 1
  · by_cases z : x < -127
    · rw [decide_eq_true z, decide_eq_false (Int32.not_le.mpr z)]; rfl
    · rw [decide_eq_false z, decide_eq_true (Int32.not_lt.mp z)]; rfl
  · by_cases z : 127 < x
    · rw [decide_eq_true z, decide_eq_false (Int32.not_le.mpr z)]; rfl
    · rw [decide_eq_false z, decide_eq_true (Int32.not_lt.mp z)]; rfl
theorem tRg_c {b : Bool} (h : (pCoo a && pCoo u) = b) : tRg (qB a u s) = b := by
  rw [pCoo_p, pCoo_p] at h
  exact h
theorem pIn2 {a u : Int32} (h : (pCoo a && pCoo u) = true) : pIn a (-127) 127 = true ∧ pIn u (-127) 127 = true := by
  rw [pCoo_p, pCoo_p] at h
  cases z : pIn a (-127) 127 <;> cases z2 : pIn u (-127) 127 <;> simp_all
theorem pIn_nv {v m : Nat} (h : v ≤ m) (hm : m < 1000) : pIn (nI v) 0 (nI m) = true := pIn_t (nI_pos' (by omega)) (nI_le h (by omega))
theorem cmk_e (hB : bV V N L) (hj : j < 8) {w : Nat} (hw : w < 6) : mkT (nn (nI w)) (cW I V (nn (nI j))) = qB (pRA w (I (vc V j) 0) (I (vc V j) 1)) (pRU w (I (vc V j) 0) (I (vc V j) 1)) (pRS w (I (vc V j) 2)) := by
  rw [nn_nI (show w ≤ 12 by omega), nn_nI (show j ≤ 12 by omega), cW_l hj]; rfl
theorem cmk_r (hL : cL I) {b w : Nat} (hb : b ∈ aj_CS) (hw : w < 6) : pIn (pRA w (I b 0) (I b 1)) (-127) 127 = true ∧ pIn (pRU w (I b 0) (I b 1)) (-127) 127 = true := by
  have h1 : pIn (I b 0) (-127) 127 = true := (hL b hb).1.1
  have h2 : pIn (I b 1) (-127) 127 = true := (hL b hb).1.2.1
  rcases (show w = 0 ∨ w = 1 ∨ w = 2 ∨ w = 3 ∨ w = 4 ∨ w = 5 by omega) with rfl | rfl | rfl | rfl | rfl | rfl
  · exact ⟨h1, pIn_neg h2⟩
  · exact ⟨pIn_neg h1, h2⟩
  · exact ⟨pIn_neg h2, h1⟩
  · exact ⟨h2, pIn_neg h1⟩
  · exact ⟨h2, h1⟩
  · exact ⟨pIn_neg h1, pIn_neg h2⟩
theorem cstr_e (hj : j < 8) {b : Int32} : strT b (cW I V (nn (nI j))) = qB (I (vc V j) 0 * b) (I (vc V j) 1 * b) (I (vc V j) 2) := by
  rw [nn_nI (show j ≤ 12 by omega), cW_l hj]; rfl
theorem cadd_e (hj : j < 8) {k : Nat} (hk : k < 8) : addT (cW I V (nn (nI j))) (cW I V (nn (nI k))) = qB (I (vc V j) 0 + I (vc V k) 0) (I (vc V j) 1 + I (vc V k) 1) (I (vc V j) 2 &&& I (vc V k) 2) := by
  rw [nn_nI (show j ≤ 12 by omega), nn_nI (show k ≤ 12 by omega), cW_l hj, cW_l hk]; rfl
theorem cstp_e (h : cI I n) (hj : j < n) {k : Nat} (hk : k < n) : stpT (nI j) (nI k) (kW I) = qB (I 24 k - I 24 j) (I 40 k - I 40 j) 0 := by
  have hn := h.1
  rw [kW_n h.1 h.2.1]
  unfold stpT
  rw [nn_nI (show j ≤ 12 by omega), nn_nI (show k ≤ 12 by omega)]
  show qB (vMk n (I 24) k - vMk n (I 24) j) (vMk n (I 40) k - vMk n (I 40) j) 0 = _
  rw [vMk_l hj, vMk_l hj, vMk_l hk, vMk_l hk]
def vRc (v : vw) : Prop := pIn (vX v) (-64) 63 = true ∧ pIn (vY v) (-64) 63 = true
theorem sq_z {x : Int32} (h : pIn x (-127) 127 = true) : 0 ≤ (x * x).toInt ∧ (x * x).toInt ≤ 16129 ∧ (x * x).toInt = x.toInt * x.toInt ∧ (x.toInt ≠ 0 → 0 < (x * x).toInt) := by
  have a := pIn_i h
  have e := toInt_m a.1 a.2 a.1 a.2
  have p := mul_rg a.1 a.2 a.1 a.2
  have q : 0 ≤ x.toInt * x.toInt := by
    rcases Int.lt_or_le x.toInt 0 with w | w
    · exact Int.le_of_lt (Int.mul_pos_of_neg_of_neg w w)
    · exact Int.mul_nonneg w w
  refine ⟨by rw [e]; exact q, by rw [e]; exact p.2, e, fun hz => ?_⟩
  rw [e]
  rcases Int.lt_or_le x.toInt 0 with w | w
  · exact Int.mul_pos_of_neg_of_neg w w
  · exact Int.mul_pos (by omega) (by omega)
/-- apart is off -/
theorem pDs_o {cx cy x y : Int32} (h1 : pIn cx (-64) 63 = true) (h2 : pIn cy (-64) 63 = true) (h3 : pIn x (-64) 63 = true) (h4 : pIn y (-64) 63 = true) : decide (0 < pDs cx cy x y) = (!(decide (x = cx) && decide (y = cy))) := by
  have a := sq_z (pIn_sub h3 h1)
  have b := sq_z (pIn_sub h4 h2)
  have e : (pDs cx cy x y).toInt = ((x - cx) * (x - cx)).toInt + ((y - cy) * (y - cy)).toInt := by
    unfold pDs
    rw [Int32.toInt_add]
    exact Int.bmod_eq_of_le (by omega) (by omega)
  by_cases z : x = cx ∧ y = cy
  · rw [decide_eq_true z.1, decide_eq_true z.2, z.1, z.2]
    refine decide_eq_false ?_
    unfold pDs
    rw [Int32.sub_self, Int32.sub_self]
    decide
  · have hn : (!(decide (x = cx) && decide (y = cy))) = true := by
      by_cases w : x = cx
      · rw [decide_eq_true w, decide_eq_false (fun v => z ⟨w, v⟩)]; rfl
      · rw [decide_eq_false w]; rfl
    rw [hn]
    refine decide_eq_true ?_
    rw [i32_p, e]
    by_cases w : x = cx
    · have hy : (y - cy).toInt ≠ 0 := fun v => z ⟨w, i32_sub0 (i32_0.mpr v)⟩
      have := b.2.2.2 hy
      omega
    · have hx : (x - cx).toInt ≠ 0 := fun v => w (i32_sub0 (i32_0.mpr v))
      have := a.2.2.2 hx
      omega
theorem crc_e (h : cI I n) (hR : vR (kW I)) (hRc : vRc (kW I)) {rc : Nat} (e : rc = cnt (oP I) n) : nI rc = anRc (kW I) := by
  have hn := h.1
  rw [kW_n h.1 h.2.1] at hR hRc ⊢
  rw [anRc_of, e]
  have key : ∀ k, k < n → oP I k = (!(decide (I 24 k = I 24 12) && decide (I 40 k = I 40 12))) := fun k hk => by
    have z := hR k hk
    change pIn (vMk n (I 24) k) (-64) 63 = true ∧ pIn (vMk n (I 40) k) (-64) 63 = true at z
    rw [vMk_l hk, vMk_l hk] at z
    exact pDs_o hRc.1 hRc.2 z.1 z.2
  congr 1
  refine Nat.le_antisymm (cnt_leb n (fun k hk hf => ?_)) (cnt_leb n (fun k hk hf => ?_))
  · rw [key k hk] at hf; exact hf
  · rw [key k hk]; exact hf
theorem cord_e (hB : bV V N L) (hL : cL I) (hj : j < 8) {k : Nat} (hk : k < 8) : pOrd (I (vc V j) 3) (I (vc V j) 1) (I (vc V j) 2) (I (vc V k) 3) (I (vc V k) 1) (I (vc V k) 2) = tO (cW I V (nn (nI j))) (cW I V (nn (nI k))) := by
  rw [nn_nI (show j ≤ 12 by omega), nn_nI (show k ≤ 12 by omega), cW_l hj, cW_l hk]
  exact tc_ord hL (vcM hB hj) (vcM hB hk)
theorem cat_e (hj : j < 8) : cW I V (nn (nI j)) = tc I (vc V j) := by rw [nn_nI (show j ≤ 12 by omega), cW_l hj]
theorem csd_e (hj : j < 8) {k : Nat} (hk : k < 8) : (if pNull (I (vc V j) 0) (I (vc V j) 1) = true then (-9 : Int32) else if pNull (I (vc V k) 0) (I (vc V k) 1) = true then -9 else pSgn (pCross (I (vc V j) 0) (I (vc V j) 1) (I (vc V k) 0) (I (vc V k) 1)).toInt64) = sdA (cW I V (nn (nI j))) (cW I V (nn (nI k))) := by
  rw [cat_e hj, cat_e hk, pSgn_vSg]; rfl
theorem clk_e (hB : bV V N L) (hL : cL I) (hj : j < 8) {k : Nat} (hk : k < 8) : bI (decide (pOrd (I (vc V j) 3) (I (vc V j) 1) (I (vc V j) 2) (I (vc V k) 3) (I (vc V k) 1) (I (vc V k) 2) = 0) || (pNoSize (I (vc V j) 1) (I (vc V j) 3) && pNoSize (I (vc V k) 1) (I (vc V k) 3))) = bI (lkA (cW I V (nn (nI j))) (cW I V (nn (nI k)))) := by
  rw [cord_e hB hL hj hk, cat_e hj, cat_e hk, (hL _ (vcM hB hj)).2, (hL _ (vcM hB hk)).2, Bool.or_comm]
  rfl
theorem csm_e (hB : bV V N L) (hL : cL I) (hj : j < 8) {k : Nat} (hk : k < 8) : bI (decide (pOrd (I (vc V j) 3) (I (vc V j) 1) (I (vc V j) 2) (I (vc V k) 3) (I (vc V k) 1) (I (vc V k) 2) = 0)) = bI (decide (tO (cW I V (nn (nI j))) (cW I V (nn (nI k))) = 0)) := by
  rw [cord_e hB hL hj hk]
theorem clo_e (hB : bV V N L) (hL : cL I) (hj : j < 8) : (if pFixed (I (vc V j) 0) (I (vc V j) 1) = true then pLD (I (vc V j) 0) (I (vc V j) 1) (I (vc V j) 3) else (-9 : Int32)) = lwA (cW I V (nn (nI j))) := by
  rw [cat_e hj, (hL _ (vcM hB hj)).2]
  exact clw_e (hL _ (vcM hB hj)).1
theorem cfd_e {b : Bool} (hB : bV V N L) (hL : cL I) {k : Nat} (hk : k < 8) (h : (∃ i, i < 8 ∧ j = cdN b i ∧ pO I (vc V (cdN b i)) (vc V k) = 0 ∧ ∀ q, q < i → ¬ pO I (vc V (cdN b q)) (vc V k) = 0) ∨ ∀ q, q < 8 → ¬ pO I (vc V (cdN b q)) (vc V k) = 0) : j = fdN b (cW I V) (nn (nI k)) := by
  have hc : ∀ i, i < 8 → cdN b i < 8 := fun i hi => by unfold cdN; split <;> omega
  have e : ∀ i, i < 8 → pO I (vc V (cdN b i)) (vc V k) = tO (cW I V (cdN b i)) (cW I V k) := fun i hi => by
    rw [cW_l (hc i hi), cW_l hk]
    exact tc_ord hL (vcM hB (hc i hi)) (vcM hB hk)
  rw [nn_nI (show k ≤ 12 by omega)]
  rcases h with ⟨i, hi, ej, h1, h2⟩ | h
  · rw [ej]
    exact (fdN_e hi (by rw [← e i hi]; exact h1) (fun q hq => by rw [← e q (by omega)]; exact h2 q hq)).symm
  · have hq : cdN b (cdN b k) = k := by unfold cdN; cases b <;> simp <;> omega
    have z := h (cdN b k) (hc k hk)
    rw [e _ (hc k hk), hq, cW_l hk, tO_self (hL _ (vcM hB hk)).1] at z
    exact absurd rfl z
end CC
theorem cQ.ofA {m : Nat} {fx fy : Nat → Int32} (h : fA I I1 m fx fy) (hm : m ≤ 12) {q : vw} (hq : q = vOf (I 20 9) (fx 12) (fy 12) m fx fy) : cQ I I1 q := ⟨h.1.mono (by decide), ⟨m, hm, h.2.2.2.1, h.2.2.2.2.1⟩, by
  rw [hq, kW_n hm h.2.2.2.1]
  exact vOf_e (h.2.1 9 (by decide)) (h.2.2.2.2.2.1 12) (h.2.2.2.2.2.2 12) rfl (fun j _ => h.2.2.2.2.2.1 j) (fun j _ => h.2.2.2.2.2.2 j)⟩
theorem cQ.no {q : vw} (h : cR I I1) (e : q = kW I) : cQ I I1 q := ⟨h.1, h.2.1, h.2.2.trans e.symm⟩
section CQQ
variable {x y p w : Int32} {i j k : Nat} {b : Bool}
theorem kW.okt (h : cI I n) (hi : i < n) (e : p = nI i) : vOk (vN (kW I)) p = true := by rw [kW.nn h, e]; exact vOk_t h.1 hi
theorem kW.okf (h : cI I n) (hf : ∀ j, j < n → ¬ p = nI j) : vOk (vN (kW I)) p = false := by rw [kW.nn h]; exact vOk_f h.1 hf
theorem cQ.adf (h : cI I n) (hF : n = 12 ∨ ∃ j, j < n ∧ I 24 j = x ∧ I 40 j = y) : cQ I (stR I) (nxAdd x y (kW I)) ∧ anAdd x y (kW I) = -9 := by
  have hb : bAdd x y (kW I) = false := by rw [kW_n h.1 h.2.1]; exact bAdd_f hF
  exact ⟨cQ.no (cR.stR h) (nxAdd_f hb), anAdd_f hb⟩
theorem cQ.ad (h : cI I n) (hA : vAt x y = true) (hn : n < 12) (hF : ∀ j, j < n → ¬ (I 24 j = x ∧ I 40 j = y)) (e : fA I I1 (n + 1) (fun k => if k = n then x else I 24 k) (fun k => if k = n then y else I 40 k)) : cQ I I1 (nxAdd x y (kW I)) ∧ anAdd x y (kW I) = nI n := by
  have hb : bAdd x y (vOf (I 20 9) (I 24 12) (I 40 12) n (I 24) (I 40)) = true := bAdd_t hA hn hF
  have z := kW_n h.1 h.2.1
  refine ⟨cQ.ofA e (by omega) ?_, by rw [z]; exact anAdd_t hb⟩
  rw [z, nxAdd_t hb]
  exact vOf_e rfl (if_neg (by omega)).symm (if_neg (by omega)).symm rfl (fun _ _ => rfl) (fun _ _ => rfl)
theorem cQ.rm (h : cI I n) (hi : i < n) (ep : p = nI i) (e : fA I I1 (n - 1) (fun k => if i ≤ k ∧ k < n - 1 then I 24 (k + 1) else I 24 k) (fun k => if i ≤ k ∧ k < n - 1 then I 40 (k + 1) else I 40 k)) : cQ I I1 (nxRem p (kW I)) ∧ anRem (kW I) = nI (n - 1) := by
  have hn := h.1
  refine ⟨cQ.ofA e (by omega) ?_, by rw [kW_n h.1 h.2.1]; rfl⟩
  rw [kW_n h.1 h.2.1, ep, nxRem_t hn hi]
  exact vOf_e rfl (if_neg (by omega)).symm (if_neg (by omega)).symm rfl (fun j hj => aj_if (by omega)) (fun j hj => aj_if (by omega))
theorem cQ.mof (h : cI I n) (hi : i < n) (ep : p = nI i) (hF : ∃ j, j < n ∧ j ≠ i ∧ I 24 j = x ∧ I 40 j = y ∧ ∀ k, k < j → ¬ (I 24 k = x ∧ I 40 k = y)) : cQ I (stR I) (nxMov p x y (kW I)) ∧ anMov p x y (kW I) = -9 := by
  have hb : bMov p x y (kW I) = false := by rw [kW_n h.1 h.2.1, ep]; exact bMov_f h.1 hi hF
  exact ⟨cQ.no (cR.stR h) (nxMov_f hb), anMov_f hb⟩
theorem cQ.mo (h : cI I n) (hi : i < n) (ep : p = nI i) (hA : vAt x y = true) (hF : (I 24 i = x ∧ I 40 i = y ∧ ∀ k, k < i → ¬ (I 24 k = x ∧ I 40 k = y)) ∨ ∀ j, j < n → ¬ (I 24 j = x ∧ I 40 j = y)) (e : fA I I1 n (fun k => if k = i then x else I 24 k) (fun k => if k = i then y else I 40 k)) : cQ I I1 (nxMov p x y (kW I)) ∧ anMov p x y (kW I) = bI (!(decide (I 24 i = x) && decide (I 40 i = y))) := by
  have hn := h.1
  have hb : bMov (nI i) x y (vOf (I 20 9) (I 24 12) (I 40 12) n (I 24) (I 40)) = true := bMov_t hn hi hA hF
  have z := kW_n h.1 h.2.1
  refine ⟨cQ.ofA e hn ?_, ?_⟩
  · rw [z, ep, nxMov_t (by omega) hb]
    exact vOf_e rfl (if_neg (by omega)).symm (if_neg (by omega)).symm rfl (fun _ _ => rfl) (fun _ _ => rfl)
  · rw [z, ep]
    rcases hF with hF | hF
    · rw [anMov_2 hb hi hF.1 hF.2.1, decide_eq_true hF.1, decide_eq_true hF.2.1]; rfl
    · rw [anMov_1 hb hF]
      have g := hF i hi
      by_cases g1 : I 24 i = x
      · rw [decide_eq_true g1, decide_eq_false (fun g2 => g ⟨g1, g2⟩)]; rfl
      · rw [decide_eq_false g1]; rfl
theorem cQ.ce (h : cI I n) (hA : vAt x y = true) (e : fA I I1 n (fun k => if k = 12 then x else I 24 k) (fun k => if k = 12 then y else I 40 k)) : cQ I I1 (nxCe x y (kW I)) := by
  have hn := h.1
  refine cQ.ofA e hn ?_
  rw [kW_n h.1 h.2.1, nxCe_t hA]
  exact vOf_e rfl (if_pos rfl).symm (if_pos rfl).symm rfl (fun j hj => (if_neg (by omega)).symm) (fun j hj => (if_neg (by omega)).symm)
theorem cQ.tu (h : cI I n) (e : fA I I1 n (fun k => if k < 13 then -1 - I 40 k else I 24 k) (fun k => if k < 13 then I 24 k else I 40 k)) : cQ I I1 (nxTu (kW I)) := by
  have hn := h.1
  refine cQ.ofA e hn ?_
  rw [kW_n h.1 h.2.1, nxTu_of]
  exact vOf_e rfl (if_pos (by decide)).symm (if_pos (by decide)).symm rfl (fun j hj => (if_pos (by omega)).symm) (fun j hj => (if_pos (by omega)).symm)
theorem cQ.mi (h : cI I n) (e : fA I I1 n (fun k => if k < 13 then -1 - I 24 k else I 24 k) (fun k => I 40 k)) : cQ I I1 (nxMi (kW I)) := by
  have hn := h.1
  refine cQ.ofA e hn ?_
  rw [kW_n h.1 h.2.1, nxMi_of]
  exact vOf_e rfl (if_pos (by decide)).symm rfl rfl (fun j hj => (if_pos (by omega)).symm) (fun _ _ => rfl)
theorem kW.pl (h : cI I n) (hi : i < n) (ep : p = nI i) : anPl p b (kW I) = if b = true then I 40 i else I 24 i := by
  rw [kW_n h.1 h.2.1, ep]; exact anPl_of hi h.1
theorem kW.d (h : cI I n) (hD : vD (kW I)) {a c : Nat} (ha : a < n) (hc : c < n) (hac : a ≠ c) : ¬ (I 24 a - I 24 c = 0 ∧ I 40 a - I 40 c = 0) := by
  rw [kW_n h.1 h.2.1] at hD
  have key : ∀ i j, i < j → j < n → ¬ (I 24 i = I 24 j ∧ I 40 i = I 40 j) := fun i j hi hj => by
    have z := hD i j hi hj
    change ¬ (vMk n (I 24) i = vMk n (I 24) j ∧ vMk n (I 40) i = vMk n (I 40) j) at z
    rw [vMk_l hj, vMk_l hj, vMk_l (show i < n by omega), vMk_l (show i < n by omega)] at z
    exact z
  intro z
  have e1 := i32_sub0 z.1
  have e2 := i32_sub0 z.2
  rcases Nat.lt_or_ge a c with w | w
  · exact key a c w hc ⟨e1, e2⟩
  · exact key c a (by omega) ha ⟨e1.symm, e2.symm⟩
theorem kW.bo9 (h : cI I n) (hi : i < n) (hj : j < n) (hk : k < n) (ep : p = nI i) (ex : x = nI j) (ey : y = nI k) (hz : j = i ∨ k = i) : anBO p x y (kW I) = -9 := by
  have hn := h.1
  rw [ep, ex, ey]; exact anBO_n (by omega) (by omega) (by omega) hz
theorem kW.bo (h : cI I n) (hD : vD (kW I)) (hi : i < n) (hj : j < n) (hk : k < n) (ep : p = nI i) (ex : x = nI j) (ey : y = nI k) (h1 : j ≠ i) (h2 : k ≠ i) : anBO p x y (kW I) = pOW (I 24 j - I 24 i) (I 40 j - I 40 i) (I 24 k - I 24 i) (I 40 k - I 40 i) := by
  rw [pOW_vWO (kW.d h hD hj hi h1) (kW.d h hD hk hi h2), kW_n h.1 h.2.1, ep, ex, ey]; exact anBO_t h.1 hi hj hk h1 h2
theorem kW.be9 {d : Int32} (ep : p = nI i) (ex : x = nI i) : anBe p x d (kW I) = -9 := by
  rw [ep, ex]; exact anBe_n
theorem kW.be {d : Int32} (h : cI I n) (hD : vD (kW I)) (hR : vR (kW I)) (hi : i < n) (hj : j < n) (hne : i ≠ j) (ep : p = nI i) (ex : x = nI j) (h0 : 0 ≤ d) (h29 : d ≤ 29) : anBe p x d (kW I) = pRD (pAng (I 24 j - I 24 i) (I 40 j - I 40 i) (pSg (I 24 j - I 24 i) (I 40 j - I 40 i) 0) (pLk (I 24 j - I 24 i) (I 40 j - I 40 i) 0)) d := by
  obtain ⟨k, hk, ek⟩ := pIn_nI (x := d) 29 (by decide) (pIn_t h0 h29)
  have r := cstp_r h hR hi hj
  rw [ek, ang_gr r.1 r.2 (kW.d h hD hj hi (fun e => hne e.symm)) (by omega), kW_n h.1 h.2.1, ep, ex]
  exact anBe_t h.1 hi hj hne
theorem kW.le9 (h : cI I n) (hi : i < n) (hj : j < n) (hk : k < n) (ep : p = nI i) (ex : x = nI j) (ey : y = nI k) (hz : j = i ∨ k = i) : anLe p x y (kW I) = -9 := by
  have hn := h.1
  rw [ep, ex, ey]; exact anLe_n (by omega) (by omega) (by omega) hz
theorem kW.le (h : cI I n) (hi : i < n) (hj : j < n) (hk : k < n) (ep : p = nI i) (ex : x = nI j) (ey : y = nI k) (h1 : j ≠ i) (h2 : k ≠ i) : anLe p x y (kW I) = pSgn (pCr (I 24 i) (I 40 i) (I 24 j) (I 40 j) (I 24 k) (I 40 k)).toInt64 := by
  rw [kW_n h.1 h.2.1, ep, ex, ey, pSgn_vSg]; exact anLe_t h.1 hi hj hk h1 h2
end CQQ
end CRR
-- THE INVARIANT
def lI (I : Nat → Nat → Int32) (V : Nat → Nat → Option Nat) (N : Nat → Nat) : Prop := (∃ n, cI I n) ∧ mI I ∧ (kV I = kW I ∧ vD (kW I)) ∧ bV V N aj_LL ∧ vM V aj_LL
section LI
variable {I I1 I2 : Nat → Nat → Int32} {J J1 J2 : Nat → Nat → Int64} {V V1 : Nat → Nat → Option Nat} {N N1 : Nat → Nat} {q : vw}
theorem lI.c (h : lI I V N) (hR : cR I I1) : lI I1 V N := ⟨hR.2.1, h.2.1.cg (fun i hi => hR.1 i (lms0 i hi)), ⟨(kV.rw (hR.1 168 (by decide)) (hR.1 22 (by decide)) (hR.1 136 (by decide)) (hR.1 152 (by decide))).trans (h.2.2.1.1.trans hR.2.2.symm), by rw [hR.2.2]; exact h.2.2.1.2⟩, h.2.2.2⟩
theorem kW.m {S : List Nat} (e : eqO S I I1) (h1 : 20 ∉ S) (h2 : 24 ∉ S) (h3 : 40 ∉ S) (h4 : 18 ∉ S) : kW I1 = kW I := kW.off (by rw [e 20 h1]) (e 24 h2) (e 40 h3) (by rw [e 18 h4])
theorem lI.e {S : List Nat} (h : lI I V N) (e : eqO S I I1) (hM : mI I1) (hk : kV I1 = kV I) (h1 : 18 ∉ S) (h2 : 56 ∉ S) (h3 : 72 ∉ S) (h4 : 20 ∉ S) (h5 : 24 ∉ S) (h6 : 40 ∉ S) : lI I1 V N := by
  obtain ⟨⟨n, hC⟩, -, h7, h8⟩ := h
  exact ⟨⟨n, hC.eqS e h1 h2 h3 h5 h6⟩, hM, ⟨hk.trans (h7.1.trans (kW.m e h4 h5 h6 h1).symm), by rw [kW.m e h4 h5 h6 h1]; exact h7.2⟩, h8⟩
theorem lI.m (h : lI I V N) (hR : mR I J I1 J1) : lI I1 V N := h.e hR.1 hR.2.1 hR.2.2.1 (by decide) (by decide) (by decide) (by decide) (by decide) (by decide)
/-- both sides change alike -/
theorem lI.b0 {S : List Nat} (h : lI I V N) (hc : cQ I I1 q) (hd : vD q) (e : eqO S I1 I2) (hM : mI I2) (hk : kV I2 = q) (h1 : 18 ∉ S) (h2 : 56 ∉ S) (h3 : 72 ∉ S) (h4 : 20 ∉ S) (h5 : 24 ∉ S) (h6 : 40 ∉ S) : lI I2 V N := by
  obtain ⟨⟨n, hC⟩, hkw⟩ := hc.2
  exact ⟨⟨n, hC.eqS e h1 h2 h3 h5 h6⟩, hM, ⟨hk.trans (hkw.symm.trans (kW.m e h4 h5 h6 h1).symm), by rw [kW.m e h4 h5 h6 h1, hkw]; exact hd⟩, h.2.2.2⟩
theorem lI.b (h : lI I V N) (hc : cQ I I1 q) (hd : vD q) (hm : mQ I1 J1 I2 J2 q) : lI I2 V N := h.b0 hc hd hm.1 hm.2.1 hm.2.2.1 (by decide) (by decide) (by decide) (by decide) (by decide) (by decide)
theorem lI.M (h : lI I V N) (hc : cQ I I1 q) : mI I1 := h.2.1.cg (fun i hi => hc.1 i (lms0 i hi))
/-- what the reference holds behind the class's call -/
theorem lI.v (h : lI I V N) (hc : cQ I I1 q) : kV I1 = kW I := (kV.rw (hc.1 168 (by decide)) (hc.1 22 (by decide)) (hc.1 136 (by decide)) (hc.1 152 (by decide))).trans h.2.2.1.1
theorem lI.vc (h : lI I V N) (hc : cR I I1) : kV I1 = kW I := (kV.rw (hc.1 168 (by decide)) (hc.1 22 (by decide)) (hc.1 136 (by decide)) (hc.1 152 (by decide))).trans h.2.2.1.1
theorem lI.v0 (h : lI I V N) : I 168 3 = I 20 9 ∧ I 22 8 = I 24 12 ∧ I 22 9 = I 40 12 := by
  have e := h.2.2.1.1
  exact ⟨congrArg vK e, congrArg vX e, congrArg vY e⟩
theorem lI.bN {t : Nat} (hB : bV V N aj_LL) : bV V (aj_ur N 184 t) aj_LL := hB.cg (fun _ _ => rfl) (fun i hi => aj_ur_n _ _ (by intro e; subst e; revert hi; decide))
theorem lI.ba (h : lI I V N) (hc : cQ I I1 q) (hd : vD q) (hm : mQA 184 I1 J1 I2 J2 q) {t : Nat} : lI I2 V (aj_ur N 184 t) := by
  obtain ⟨a, b, c, hB, hV⟩ := h.b0 hc hd hm.1 hm.2.1 hm.2.2.1 (by decide) (by decide) (by decide) (by decide) (by decide) (by decide)
  exact ⟨a, b, c, lI.bN hB, hV⟩
theorem lI.a (h : lI I V N) (hR : mRA 184 I J I1 J1) {t : Nat} : lI I1 V (aj_ur N 184 t) := by
  obtain ⟨a, b, c, hB, hV⟩ := h.e hR.1 hR.2.1 hR.2.2.1 (by decide) (by decide) (by decide) (by decide) (by decide) (by decide)
  exact ⟨a, b, c, lI.bN hB, hV⟩
theorem lI.d (h : lI I V N) (hR : mRD 184 200 I I1) {t t2 : Nat} : lI I1 V (aj_ur (aj_ur N 184 t) 200 t2) := by
  obtain ⟨a, b, c, hB, hV⟩ := h.e hR.1 hR.2.1 hR.2.2 (by decide) (by decide) (by decide) (by decide) (by decide) (by decide)
  exact ⟨a, b, c, hB.cg (fun _ _ => rfl) (fun i hi => (aj_ur_n _ _ (by intro e; subst e; revert hi; decide)).trans (aj_ur_n _ _ (by intro e; subst e; revert hi; decide))), hV⟩
theorem lI.s (h : lI I V N) (hR : sI I I1) : lI I1 V (aj_ur (aj_ur (aj_ur (aj_ur (aj_ur N 184 8) 200 8) 216 8) 57 8) 232 8) := by
  obtain ⟨a, b, c, hB, hV⟩ := h.e hR.1 hR.2.1 hR.2.2.1 (by decide) (by decide) (by decide) (by decide) (by decide) (by decide)
  refine ⟨a, b, c, hB.cg (fun _ _ => rfl) (fun i hi => ?_), hV⟩
  have n1 : i ≠ 184 := by intro e; subst e; revert hi; decide
  have n2 : i ≠ 200 := by intro e; subst e; revert hi; decide
  have n3 : i ≠ 216 := by intro e; subst e; revert hi; decide
  have n4 : i ≠ 57 := by intro e; subst e; revert hi; decide
  have n5 : i ≠ 232 := by intro e; subst e; revert hi; decide
  rw [aj_ur_n _ _ n5, aj_ur_n _ _ n4, aj_ur_n _ _ n3, aj_ur_n _ _ n2, aj_ur_n _ _ n1]
theorem lI.no (h : lI I V N) {a : Nat} (ha : a ∉ aj_LL) : ∀ i j, V i j ≠ some a := fun i j e => ha (h.2.2.2.2 i j a e)
theorem lI.noL (h : lI I V N) {a : Nat} (ha : a ∉ aj_LL) : ∀ i ∈ aj_LL, ∀ j, V i j ≠ some a := fun i _ j => h.no ha i j
theorem lI.tX (h : lI I V N) : tX V aj_LL := fun f hf => ⟨by revert f hf; decide, fun i _ j => h.no (by revert f hf; decide) i j⟩
theorem lI.tX2 (h : lI I V N) : ∀ f ∈ tP, ∀ i j, V i j ≠ some f := fun f hf => h.no (by revert f hf; decide)
/-- the references, brought to their form -/
def lVn (V : Nat → Nat → Option Nat) : Nat → Nat → Option Nat := fun i j => if i ∈ aj_LL ∧ (i % 16 = 11 → j < 8) then V i j else none
theorem lVn_row {i : Nat} (hi : i ∈ aj_LL) (h : i % 16 ≠ 11) : lVn V i = V i := funext fun _ => if_pos ⟨hi, fun e => absurd e h⟩
theorem lVn_at {i j : Nat} (hi : i ∈ aj_LL) (h : j < 8) : lVn V i j = V i j := if_pos ⟨hi, fun _ => h⟩
theorem lI.n (h : lI I V N) (hv : ∀ i ∈ aj_LL, i ≠ 27 → i ≠ 43 → V1 i = V i) (h27 : ∀ j, j < 8 → ∃ c, V1 27 j = some c ∧ c ∈ aj_CS) (h43 : ∀ j, j < 8 → ∀ b, V1 43 j = some b → b ∈ aj_LL) (hn : ∀ i ∈ aj_LL, N1 i = N i) : lI I (lVn V1) N1 := by
  obtain ⟨a, b, c, hB, hV⟩ := h
  refine ⟨a, b, c, ?_, ?_⟩
  · unfold bV at hB ⊢
    rw [lVn_row (i := 20) (by decide) (by decide), lVn_row (i := 18) (by decide) (by decide), lVn_row (i := 22) (by decide) (by decide), hv 20 (by decide) (by decide) (by decide), hv 18 (by decide) (by decide) (by decide), hv 22 (by decide) (by decide) (by decide), hn 27 (by decide), hn 43 (by decide), hn 25 (by decide), hn 41 (by decide), hn 24 (by decide), hn 40 (by decide), hn 56 (by decide), hn 72 (by decide), hn 88 (by decide), hn 104 (by decide), hn 120 (by decide), hn 136 (by decide), hn 152 (by decide), hn 168 (by decide)]
    exact ⟨hB.1, hB.2.1, hB.2.2.1, hB.2.2.2.1, hB.2.2.2.2.1, fun j hj => by rw [lVn_at (by decide) hj]; exact h27 j hj⟩
  · intro i j x hx
    unfold lVn at hx
    by_cases e : i ∈ aj_LL ∧ (i % 16 = 11 → j < 8)
    · rw [if_pos e] at hx
      by_cases e1 : i = 27
      · subst e1
        obtain ⟨y, hy, hy2⟩ := h27 j (e.2 (by decide))
        rw [hy] at hx
        cases hx
        exact lcs _ hy2
      · by_cases e2 : i = 43
        · subst e2
          exact h43 j (e.2 (by decide)) x hx
        · rw [hv i e.1 e1 e2] at hx
          exact hV i j x hx
    · rw [if_neg e] at hx
      cases hx
theorem lI.r27 (h : lI I V N) : ∀ j, j < 8 → ∃ c, V 27 j = some c ∧ c ∈ aj_CS := h.2.2.2.1.2.2.2.2.2
theorem lI.t (h : lI I V N) (hk : tK aj_LL I J V N I1 J1 V1 N1) : lI I1 (lVn V1) N1 := by
  have h1 : lI I1 V N := by
    obtain ⟨⟨n, hC⟩, b, c, d⟩ := h
    have e : ∀ i ∈ aj_LL, I1 i = I i := fun i hi => (hk i hi).1
    have ew : kW I1 = kW I := kW.off (by rw [e 20 (by decide)]) (e 24 (by decide)) (e 40 (by decide)) (by rw [e 18 (by decide)])
    refine ⟨⟨n, hC.1, ?_, ?_⟩, b.cg (fun i hi => e i (by revert i hi; decide)), ⟨(kV.rw (e 168 (by decide)) (e 22 (by decide)) (e 136 (by decide)) (e 152 (by decide))).trans (c.1.trans ew.symm), by rw [ew]; exact c.2⟩, d⟩
    · rw [e 18 (by decide)]; exact hC.2.1
    · have hf := hC.2.2
      unfold fW oP at hf ⊢
      rw [e 18 (by decide), e 56 (by decide), e 72 (by decide), e 24 (by decide), e 40 (by decide)]
      exact hf
  exact h1.n (fun i hi _ _ => (hk i hi).2.2.1) (fun j hj => by rw [(hk 27 (by decide)).2.2.1]; exact h.r27 j hj) (fun j _ b hb => by rw [(hk 43 (by decide)).2.2.1] at hb; exact h.2.2.2.2 43 j b hb) (fun i hi => (hk i hi).2.2.2)
theorem lI.u (h : lI I V N) (hk : mRT aj_LL I J V N I1 J1 V1 N1) : lI I1 (lVn V1) N1 := by
  have h1 : lI I1 V N := by
    obtain ⟨⟨n, hC⟩, b, c, d⟩ := h
    have e : ∀ i ∈ aj_LL, i ∉ mS0 → I1 i = I i := hk.1
    have ew : kW I1 = kW I := kW.off (by rw [e 20 (by decide) (by decide)]) (e 24 (by decide) (by decide)) (e 40 (by decide) (by decide)) (by rw [e 18 (by decide) (by decide)])
    refine ⟨⟨n, hC.1, ?_, ?_⟩, hk.2.1, ⟨hk.2.2.1.trans (c.1.trans ew.symm), by rw [ew]; exact c.2⟩, d⟩
    · rw [e 18 (by decide) (by decide)]; exact hC.2.1
    · have hf := hC.2.2
      unfold fW oP at hf ⊢
      rw [e 18 (by decide) (by decide), e 56 (by decide) (by decide), e 72 (by decide) (by decide), e 24 (by decide) (by decide), e 40 (by decide) (by decide)]
      exact hf
  have k := hk.2.2.2
  exact h1.n (fun i hi _ _ => (k i hi).1) (fun j hj => by rw [(k 27 (by decide)).1]; exact h.r27 j hj) (fun j _ b hb => by rw [(k 43 (by decide)).1] at hb; exact h.2.2.2.2 43 j b hb) (fun i hi => (k i hi).2)
theorem lI.so (h : lI I V N) (hB : bV V1 N aj_LL) (hv : ∀ i, i ≠ 27 → i ≠ 43 → V1 i = V i) (h43 : ∀ j, j < 8 → ∃ c, V1 43 j = some c ∧ c ∈ aj_CS) : lI I (lVn V1) N :=
  h.n (fun i _ a b => hv i a b) hB.2.2.2.2.2 (fun j hj b hb => by obtain ⟨c, h1, h2⟩ := h43 j hj; rw [h1] at hb; cases hb; exact lcs _ h2) (fun _ _ => rfl)
end LI
-- THE CELLS' PART OF THE INVARIANT
def lX (I : Nat → Nat → Int32) (V : Nat → Nat → Option Nat) : Prop := cV I = cW I V ∧ cL I ∧ cD V
theorem xRL : ∀ i ∈ xR, i ∈ aj_LL := by decide
theorem xRm : ∀ i ∈ xR, i ∉ mS0 := by decide
section LX
variable {I I1 I2 : Nat → Nat → Int32} {J J1 J2 : Nat → Nat → Int64} {V V1 : Nat → Nat → Option Nat} {N N1 : Nat → Nat} {L : List Nat} {c : cw} {b : Bool}
theorem lX.g (h : lX I V) (hB : bV V N L) (e : ∀ i ∈ xR, I1 i = I i) : lX I1 V := ⟨(cV_rw (e 88 (by decide)) (e 104 (by decide)) (e 120 (by decide))).trans (h.1.trans (cW_eq hB (fun c hc => e c (xRc c hc))).symm), cL_eq (fun c hc => e c (xRc c hc)) h.2.1, h.2.2⟩
theorem lX.e {S : List Nat} (h : lX I V) (hB : bV V N L) (e : eqO S I I1) (hs : ∀ i ∈ xR, i ∉ S) : lX I1 V := h.g hB (fun i hi => e i (hs i hi))
theorem lX.v (h : lX I V) (hv : ∀ j, j < 8 → V1 27 j = V 27 j) : lX I V1 := by
  refine ⟨h.1.trans (tM_e (fun j hj => by rw [vc_c (hv j hj)])), h.2.1, fun i j hi hj => ?_⟩
  rw [vc_c (hv i (by omega)), vc_c (hv j hj)]
  exact h.2.2 i j hi hj
theorem lX.n (h : lX I V) : lX I (lVn V) := h.v (fun j hj => lVn_at (by decide) hj)
theorem lX.t (h : lX I V) (hB : bV V N L) (hk : tK aj_LL I J V N I1 J1 V1 N1) : lX I1 (lVn V1) := ((h.g hB (fun i hi => (hk i (xRL i hi)).1)).v (fun j _ => congrFun (hk 27 (by decide)).2.2.1 j)).n
theorem lX.u (h : lX I V) (hB : bV V N L) (hk : mRT aj_LL I J V N I1 J1 V1 N1) : lX I1 (lVn V1) := ((h.g hB (fun i hi => hk.1 i (xRL i hi) (xRm i hi))).v (fun j _ => congrFun (hk.2.2.2 27 (by decide)).1 j)).n
theorem lX.bc (h : lX I V) (hB : bV V N L) (hc : cC I V I1 c) (hm : mC I1 J1 I2 J2 c) : lX I2 V := ⟨hm.2.2.2.1.trans (hc.2.2.2.1.symm.trans (cW_eq hB (fun i hi => hm.1 i (by revert i hi; decide))).symm), cL_eq (fun i hi => hm.1 i (by revert i hi; decide)) hc.2.2.2.2, h.2.2⟩
theorem lX.cv (h : lX I V) (hc : cC I V I1 c) : cV I1 = cW I V := (cV_rw (hc.1 88 (by decide)) (hc.1 104 (by decide)) (hc.1 120 (by decide))).trans h.1
theorem lX.rv (h : lX I V) (hc : cR I I1) : cV I1 = cW I V := (cV_rw (hc.1 88 (by decide)) (hc.1 104 (by decide)) (hc.1 120 (by decide))).trans h.1
theorem lX.ok (h : lX I V) (hB : bV V N L) : cOk (cW I V) := fun j hj => by
  rw [cW_l hj]
  exact (h.2.1 _ (vcM hB hj)).1
/-- both sides have sorted -/
theorem lX.bs (h : lX I V) (hB : bV V N L) (hsr : srtP b I V V1 8) (e1 : ∀ i ∈ xR, I1 i = I i) (h2 : eqO (sT ++ mS) I1 I2) (hr : ∀ k, k < 8 → (I2 88 (rk b (cV I1) k), I2 104 (rk b (cV I1) k), I2 120 (rk b (cV I1) k)) = cV I1 k) : lX I2 (lVn V1) := by
  have ev : cV I1 = cW I V := (cV_rw (e1 88 (by decide)) (e1 104 (by decide)) (e1 120 (by decide))).trans h.1
  have hO := h.ok hB
  rw [ev] at hr
  obtain ⟨⟨l, p1, p2, p3⟩, -⟩ := hsr
  have hlen : l.length = 8 := by rw [p1.length_eq, List.length_range]
  have hmem : ∀ i, i ∈ l → i < 8 := fun i hi => List.mem_range.mp (p1.mem_iff.mp hi)
  have key : ∀ i, i < 8 → cK b (cW I V) i = sK b I V i := fun i hi => by unfold cK sK; rw [cW_l hi]
  have p4 : l.Pairwise (bfR (cK b (cW I V))) := List.Pairwise.imp_of_mem (fun {x y} hx hy hxy => by
    unfold bfR at hxy ⊢
    rw [key x (hmem x hx), key y (hmem y hy)]
    exact hxy) p2
  have at_ : ∀ p, p < 8 → ∃ k, l[p]? = some k ∧ k < 8 ∧ vc V1 p = vc V k := fun p hp => by
    have hp2 : p < l.length := by omega
    have e : l[p]? = some l[p] := List.getElem?_eq_getElem hp2
    exact ⟨l[p], e, hmem _ (List.mem_of_getElem? e), vc_c (p3 p _ e)⟩
  have ec : ∀ c ∈ aj_CS, I2 c = I c := fun c hc => (h2 c (by revert c hc; decide)).trans (e1 c (xRc c hc))
  have hD1 : cD V1 := fun i j hi hj => by
    obtain ⟨x, x1, x2, x3⟩ := at_ i (by omega)
    obtain ⟨y, y1, y2, y3⟩ := at_ j hj
    rw [x3, y3]
    have hi2 : i < l.length := by omega
    have hj2 : j < l.length := by omega
    have z := List.pairwise_iff_getElem.mp p4 i j hi2 hj2 hi
    rw [List.getElem?_eq_getElem hi2] at x1
    rw [List.getElem?_eq_getElem hj2] at y1
    rw [Option.some.inj x1, Option.some.inj y1] at z
    have hne : x ≠ y := fun e => by
      subst e
      unfold bfR at z
      omega
    rcases Nat.lt_or_ge x y with w | w
    · exact h.2.2 x y w y2
    · exact Ne.symm (h.2.2 y x (by omega) x2)
  refine lX.n ⟨tM_e (fun p hp => ?_), cL_eq ec h.2.1, hD1⟩
  obtain ⟨k, k1, k2, k3⟩ := at_ p hp
  have er := rk_l hO p1 p4 k1
  have z := hr k k2
  rw [er, cW_l k2] at z
  rw [k3]
  show (I2 88 p, I2 104 p, I2 120 p) = tc I2 (vc V k)
  rw [z]
  unfold tc
  rw [ec _ (vcM hB k2)]
theorem cnt_idx {l : List Nat} {f : Nat → Bool} {n : Nat} (hlen : l.length = n) : l.countP f = cnt (fun p => f (l.getD p 0)) n := by
  have e : l = (List.range n).map (fun p => l.getD p 0) := by
    refine List.ext_getElem (by rw [List.length_map, List.length_range, hlen]) (fun i h1 h2 => ?_)
    rw [List.getElem_map, List.getElem_range, List.getD_eq_getElem?_getD, List.getElem?_eq_getElem h1]
    rfl
  rw [cnt_countP]
  conv => lhs; rw [e]
  rw [List.countP_map]
  rfl
/-- how many cells the sort changes -/
theorem so_e (h : lX I V) (hB : bV V N L) (hsr : srtP b I V V1 8) : cnt (soC I V V1) 8 = cnt (soM b (cW I V)) 8 := by
  have hO := h.ok hB
  obtain ⟨⟨l, p1, p2, p3⟩, -⟩ := hsr
  have hlen : l.length = 8 := by rw [p1.length_eq, List.length_range]
  have hmem : ∀ i, i ∈ l → i < 8 := fun i hi => List.mem_range.mp (p1.mem_iff.mp hi)
  have key : ∀ i, i < 8 → cK b (cW I V) i = sK b I V i := fun i hi => by unfold cK sK; rw [cW_l hi]
  have p4 : l.Pairwise (bfR (cK b (cW I V))) := List.Pairwise.imp_of_mem (fun {x y} hx hy hxy => by
    unfold bfR at hxy ⊢
    rw [key x (hmem x hx), key y (hmem y hy)]
    exact hxy) p2
  rw [cnt_countP (f := soM b (cW I V)), ← p1.countP_eq, cnt_idx hlen]
  refine Nat.le_antisymm (cnt_leb 8 (fun p hp hf => ?_)) (cnt_leb 8 (fun p hp hf => ?_)) <;>
  · have hp2 : p < l.length := by omega
    have e : l[p]? = some l[p] := List.getElem?_eq_getElem hp2
    have hk := hmem _ (List.mem_of_getElem? e)
    have er := rk_l hO p1 p4 e
    have eg : l.getD p 0 = l[p] := by rw [List.getD_eq_getElem?_getD, e]; rfl
    have ec : vc V1 p = vc V l[p] := vc_c (p3 p _ e)
    have es : soM b (cW I V) (l.getD p 0) = soC I V V1 p := by
      unfold soM soC
      rw [eg, er, cW_l hk, cW_l hp, ec]
    first | (rw [es]; exact hf) | (rw [← es]; exact hf)
end LX
theorem vR.of {V : Nat → Nat → Option Nat} {N : Nat → Nat} {I : Nat → Nat → Int32} (h : lI I V N) : vR (kW I) := by
  rw [← h.2.2.1.1]
  obtain ⟨n, hn, he⟩ := h.2.1.2.1
  rw [kV_n hn he]
  intro k hk
  have hk : k < n := hk
  show pIn (vMk n (I 136) k) (-64) 63 = true ∧ pIn (vMk n (I 152) k) (-64) 63 = true
  rw [vMk_l hk, vMk_l hk]
  exact h.2.1.2.2.1 k (by omega)
theorem vRc.of {V : Nat → Nat → Option Nat} {N : Nat → Nat} {I : Nat → Nat → Int32} (h : lI I V N) : vRc (kW I) := by
  rw [← h.2.2.1.1]
  exact ⟨h.2.1.2.2.2.1, h.2.1.2.2.2.2⟩
/-- both sides have changed a cell alike -/
theorem lI.bc {I I1 I2 : Nat → Nat → Int32} {J1 J2 : Nat → Nat → Int64} {V : Nat → Nat → Option Nat} {N : Nat → Nat} {c : cw} (h : lI I V N) (hc : cC I V I1 c) (hm : mC I1 J1 I2 J2 c) : lI I2 V N := by
  obtain ⟨n, hC⟩ := hc.2.1
  have ek : kV I1 = kV I := kV.rw (hc.1 168 (by decide)) (hc.1 22 (by decide)) (hc.1 136 (by decide)) (hc.1 152 (by decide))
  have ew : kW I2 = kW I := (kW.m hm.1 (by decide) (by decide) (by decide) (by decide)).trans hc.2.2.1
  exact ⟨⟨n, hC.eqS hm.1 (by decide) (by decide) (by decide) (by decide) (by decide)⟩, hm.2.1, ⟨hm.2.2.1.trans (ek.trans (h.2.2.1.1.trans ew.symm)), by rw [ew]; exact h.2.2.1.2⟩, h.2.2.2⟩
theorem lI.MC {I I1 : Nat → Nat → Int32} {V : Nat → Nat → Option Nat} {N : Nat → Nat} {c : cw} (h : lI I V N) (hc : cC I V I1 c) : mI I1 := h.2.1.cg (fun i hi => hc.1 i (lms i hi))
theorem lI.vC {I I1 : Nat → Nat → Int32} {V : Nat → Nat → Option Nat} {N : Nat → Nat} {c : cw} (h : lI I V N) (hc : cC I V I1 c) : kV I1 = kW I := (kV.rw (hc.1 168 (by decide)) (hc.1 22 (by decide)) (hc.1 136 (by decide)) (hc.1 152 (by decide))).trans h.2.2.1.1
theorem lg_cmp_self (x : Int64) : lg_cmp x x = 0 := by
  unfold lg_cmp
  by_cases h : x > x
  · exact absurd (Int64.lt_iff_toInt_lt.mp h) (Int.lt_irrefl _)
  · rw [if_neg h, if_pos rfl]
theorem sub5 {a i : Nat} (ha : a ≤ 320) (hi : i ≤ 320) : (nI a - 5 < nI i) ↔ ¬ (i + 5 ≤ a) := by
  rw [Int32.lt_iff_toInt_lt, Int32.toInt_sub, nI_toInt (by omega), nI_toInt (by omega)]
  show Int.bmod ((a : Int) - 5) (2 ^ 32) < _ ↔ _
  rw [Int.bmod_def]
  split <;> omega
theorem and63 (x : Int32) : ∃ c, c < 64 ∧ x &&& 63 = nI c := by
  have h : ((x.toBitVec &&& 63#32).toNat) < 64 := by
    rw [BitVec.toNat_and]
    exact Nat.lt_of_le_of_lt Nat.and_le_right (by decide)
  have h2 : (x &&& 63).toInt = ((x.toBitVec &&& 63#32).toNat : Int) := by
    show (x.toBitVec &&& 63#32).toInt = _
    rw [BitVec.toInt_eq_toNat_cond]
    split
    · rfl
    · omega
  refine ⟨(x.toBitVec &&& 63#32).toNat, h, Int32.toInt_inj.mp ?_⟩
  rw [h2, nI_toInt (by omega)]
-- rows of the law alone
section LR
variable {G : aj_G} {cc : ByteArray} {tbl : List (Nat × Instr × Nat)} {own : String} {R0 : Room} {nL : Nat} {pc q : Nat} {lv lv' : List (Option Value)} {st st' : List Value} {I : Nat → Nat → Int32} {J : Nat → Nat → Int64} {V : Nat → Nat → Option Nat} {N : Nat → Nat} {L : List Nat} {bc bs : Nat}
/-- the script stands at the address of number 8 -/
def lS (G : aj_G) (n : Nat) (xs : Nat → Int32) : Prop := va_X (gr G 8) n xs (gs G) (gs G).heap ∧ gr G 8 < (gs G).heap.size ∧ ¬ gA G (gr G 8) ∧ 8 ∉ gF G
theorem x_sld {n : Nat} {xs : Nat → Int32} {j : Int32} (C : aj_C G cc tbl own R0 nL) (hS0 : lS G n xs) (k : Nat) (h : tbl[k]? = some (pc, .iaload, 1)) (hq : pc + 1 = q) (hin : vp_in j n) (kk : aj_X G q lv (.int (xs j.toNatClampNeg) :: st) I J V N L bc bs) : aj_X G pc lv (.int j :: .ref 8 :: st) I J V N L bc bs := by
  subst hq
  intro r H locs cells slots ls hP hD hS hLL hF hc hs hl
  have e : r 8 = gr G 8 := hF 8 hS0.2.2.2
  refine va_sld C.x C.b (b := r 8) (L := n) (xs := xs) ?_ ?_ ?_ hS hin (C.d h) (kk r H locs cells slots ls hP hD hS hLL hF hc hs hl)
  · rw [e]; exact hS0.1
  · rw [e]; exact hS0.2.1
  · rw [e]; exact hS0.2.2.1
theorem x_slen {n : Nat} {xs : Nat → Int32} (C : aj_C G cc tbl own R0 nL) (hS0 : lS G n xs) (k : Nat) (h : tbl[k]? = some (pc, .arraylength, 1)) (hq : pc + 1 = q) (kk : aj_X G q lv (.int (nI n) :: st) I J V N L bc bs) : aj_X G pc lv (.ref 8 :: st) I J V N L bc bs := by
  subst hq
  intro r H locs cells slots ls hP hD hS hLL hF hc hs hl
  have e : r 8 = gr G 8 := hF 8 hS0.2.2.2
  refine va_slen C.x C.b (b := r 8) (L := n) (xs := xs) ?_ ?_ ?_ hS (C.d h) (kk r H locs cells slots ls hP hD hS hLL hF hc hs hl)
  · rw [e]; exact hS0.1
  · rw [e]; exact hS0.2.1
  · rw [e]; exact hS0.2.2.1
theorem aj_fg {a0 a1 a2 a3 a4 z5 z6 : Option Value} (kk : aj_X G pc [a0, a1, a2, a3, a4, none, none] st I J V N L bc bs) : aj_X G pc [a0, a1, a2, a3, a4, z5, z6] st I J V N L bc bs := by
  intro r H locs cells slots ls hP hD hS hLL hF hc hs hl
  refine kk r H locs cells slots ls hP hD hS hLL hF hc hs (aj_lh_mono hl (fun q hq => ?_))
  obtain ⟨k, v, h1, h2⟩ := (aj_lvs_mem r _ 0 q).mp hq
  refine (aj_lvs_mem r _ 0 q).mpr ⟨k, v, ?_, h2⟩
  rcases k with _ | _ | _ | _ | _ | _ | _ | k
  · exact h1
  · exact h1
  · exact h1
  · exact h1
  · exact h1
  · cases h1
  · cases h1
  · cases h1
theorem aj_dropX {X : List Nat} (hg : gL G = []) (kk : aj_X G pc lv st I J V N L bc bs) : aj_X G pc lv st I J V N (L ++ X) bc bs :=
  aj_conv (by rw [hg]; intro i hi; cases hi) (keep_pre _ _) (fun _ _ _ _ => rfl) kk
/-- references told anew: beyond a row's length nothing counts -/
theorem aj_convV {V' : Nat → Nat → Option Nat} (h : ∀ i ∈ L, ∀ j, (i % 16 = 11 → j < N i) → V' i j = V i j) (kk : aj_X G pc lv st I J V' N L bc bs) : aj_X G pc lv st I J V N L bc bs := by
  intro r H locs cells slots ls hP hD hS hLL hF hc hs hl
  have key : ∀ (k : Nat) (q : Nat × va_E), (aj_ws (gcs G) r I J V' N L)[k]? = some q → ∃ i, L[k]? = some i ∧ q = (r i, aj_el (gcs G) r I J V' N i) := by
    intro k q hk
    unfold aj_ws at hk
    rw [List.getElem?_map] at hk
    cases hLk : L[k]? with
    | none => rw [hLk] at hk; cases hk
    | some i => rw [hLk] at hk; exact ⟨i, rfl, (Option.some.inj hk).symm⟩
  have back : ∀ (k i : Nat), L[k]? = some i → (aj_ws (gcs G) r I J V N L)[k]? = some (r i, aj_el (gcs G) r I J V N i) := by
    intro k i hk
    unfold aj_ws
    rw [List.getElem?_map, hk]; rfl
  refine kk r H locs cells slots ls ?_ ?_ hS hLL hF hc hs hl
  · intro k q hk
    obtain ⟨i, hLk, rfl⟩ := key k q hk
    have hi := List.mem_of_getElem? hLk
    have h0 := hP k _ (back k i hLk)
    by_cases e : i % 16 = 11
    · rw [aj_el_refs e] at h0 ⊢
      have h1 : H[r i]? = some (vp_cell (gcs G 3) (N i, .inr (.inr (.inr (.inr (fun j => (V i j).map r)))))) := h0
      show H[r i]? = some (vp_cell (gcs G 3) (N i, .inr (.inr (.inr (.inr (fun j => (V' i j).map r))))))
      rw [h1]
      refine congrArg some ?_
      show arrV (gcs G 3) (N i) (fun j => va_rf ((V i j).map r)) = arrV (gcs G 3) (N i) (fun j => va_rf ((V' i j).map r))
      unfold arrV
      have e2 : (fun j : Fin (N i) => va_rf ((V i j.val).map r)) = fun j : Fin (N i) => va_rf ((V' i j.val).map r) := funext fun j => by rw [h i hi j.val (fun _ => j.isLt)]
      simp only [e2]
    · have e2 : aj_el (gcs G) r I J V' N i = aj_el (gcs G) r I J V N i := aj_el_congr rfl rfl (funext fun j => h i hi j (fun z => absurd z e)) rfl
      rw [e2]; exact h0
  · refine ⟨fun i j p q hp hq he => ?_, fun k q hk => ?_⟩
    · obtain ⟨a, ha, rfl⟩ := key i p hp
      obtain ⟨b, hb, rfl⟩ := key j q hq
      exact hD.1 i j _ _ (back i a ha) (back j b hb) he
    · obtain ⟨a, ha, rfl⟩ := key k q hk
      exact hD.2 k (r a, aj_el (gcs G) r I J V N a) (back k a ha)
theorem lNorm {V1 : Nat → Nat → Option Nat} (hN : ∀ i ∈ aj_LL, N i = N i → i % 16 = 11 → N i = 8) (kk : aj_X G pc lv st I J (lVn V1) N aj_LL bc bs) : aj_X G pc lv st I J V1 N aj_LL bc bs :=
  aj_convV (fun i hi j hj => if_pos ⟨hi, fun e => by have := hN i hi rfl e; have := hj e; omega⟩) kk
theorem lI.n8 {I0 : Nat → Nat → Int32} {V0 : Nat → Nat → Option Nat} (h : lI I0 V0 N) : ∀ i ∈ aj_LL, N i = N i → i % 16 = 11 → N i = 8 := fun i hi _ e => by
  rcases l11 i hi e with z | z
  · subst z; exact bn27 h.2.2.2.1
  · subst z; exact bn43 h.2.2.2.1
end LR
