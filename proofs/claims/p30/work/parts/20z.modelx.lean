-- the reference's acts
theorem tH_t {I : Nat → Nat → Int32} {b : Bool} {w : Int32} (h : b = true) : tH I b w 22 0 = w := by subst h; exact (show aj_u I 22 0 w 22 0 = w from aj_u_s _ _ _ _)
theorem tH_f {I : Nat → Nat → Int32} {w : Int32} : tH I false w = I := rfl
theorem mR.t {I : Nat → Nat → Int32} {J : Nat → Nat → Int64} {v : Int32} (h : mI I) : mR I J (aj_u I 22 0 v) J := ⟨eqO.u (by decide), h.t, kV.t, fun _ _ => rfl⟩
theorem mR.tw {I : Nat → Nat → Int32} {J : Nat → Nat → Int64} {b : Bool} {w : Int32} (h : mI I) : mR I J (tH I b w) J := by
  cases b
  · exact mR.rf h
  · exact mR.t h
theorem mR.th {I : Nat → Nat → Int32} {J : Nat → Nat → Int64} {b : Bool} {w v : Int32} (h : mI I) : mR I J (tH (aj_u I 22 0 v) b w) J := mR.tr (mR.t h) (mR.tw h.t)
theorem mR.hs {I : Nat → Nat → Int32} {J : Nat → Nat → Int64} {k : Nat} {v : Int32} (hk : k ≠ 3) (h : mI I) : mR I J (aj_u I 168 k v) J := ⟨eqO.u (by decide), h.h, kV.h hk, fun _ _ => rfl⟩
def mC (I : Nat → Nat → Int32) (J : Nat → Nat → Int64) (I1 : Nat → Nat → Int32) (J1 : Nat → Nat → Int64) (c : cw) : Prop := eqO mS I I1 ∧ mI I1 ∧ kV I1 = kV I ∧ cV I1 = c ∧ ∀ i, i ≠ 41 → J1 i = J i
theorem mR_cV {I I1 : Nat → Nat → Int32} {J J1 : Nat → Nat → Int64} (h : mR I J I1 J1) : cV I1 = cV I := cV_rw (h.1 88 (by decide)) (h.1 104 (by decide)) (h.1 120 (by decide))
section MC
variable {I I0 I1 : Nat → Nat → Int32} {J J0 J1 : Nat → Nat → Int64} {c : cw} {j : Nat} {t : tp} {ok : Bool}
theorem mC.no (h : mR I J I1 J1) (e : c = cV I) : mC I J I1 J1 c := ⟨h.1.mono mS0_mS, h.2.1, h.2.2.1, (mR_cV h).trans e.symm, h.2.2.2⟩
theorem mC.tr (h : mR I J I0 J0) (h2 : mC I0 J0 I1 J1 c) : mC I J I1 J1 c := ⟨eqO.tr (h.1.mono mS0_mS) h2.1, h2.2.1, h2.2.2.1.trans h.2.2.1, h2.2.2.2.1, fun i hi => (h2.2.2.2.2 i hi).trans (h.2.2.2 i hi)⟩
theorem mC.pj (h : mR I J I0 J) (hC : mC I0 J I1 J1 (nxJ j t (cV I0))) (hok : ok = true) (hj : j < 8) : mC I J I1 J1 (nxS ok (nI j) t (cV I)) := by
  rw [nxS_t hok hj, ← mR_cV h]
  exact mC.tr h hC
theorem an_pj (h : mR I J I0 J) (hj : j < 8) : anJ j t (cV I0) = anS (nI j) t (cV I) := by rw [anS_t hj, mR_cV h]
theorem mC.mv {x u a b z w : Int32} {sz : Int64} (hj : j < 8) (hx : pIn x (-127) 127 = true) (hu : pIn u (-127) 127 = true) (hz : zOk z a b) (h : mI I) : mC I J (aj_u (aj_u (aj_u (aj_u I 88 j x) 104 j u) 120 j (mSgn x a + 2 * mSgn u b)) 168 0 w) (aj_u J 41 j sz) (nxJ j (qB x u z) (cV I)) := by
  refine ⟨eqO.tr (eqO.tr (eqO.tr (eqO.u (by decide)) (eqO.u (by decide))) (eqO.u (by decide))) (eqO.u (by decide)), ((mI.xu (Or.inr rfl) hu (mI.xu (Or.inl rfl) hx h)).s).h, (kV.h (by decide)).trans ((kV.uo (by decide) (by decide) (by decide) (by decide)).trans ((kV.uo (by decide) (by decide) (by decide) (by decide)).trans (kV.uo (by decide) (by decide) (by decide) (by decide)))), ?_, fun i hi => aj_u_o _ _ hi⟩
  rw [nxJ_t (tRg_t hx hu)]
  funext k
  unfold setC
  by_cases hk : k < 8
  · rw [cV_l hk]
    by_cases e : k = j
    · subst e
      rw [if_pos rfl]
      unfold qB
      rw [(zOk_s (x := x) (u := u) hz).1]
      simp [aj_u]
    · rw [if_neg e, cV_l hk]
      simp [aj_u, e]
  · rw [if_neg (show ¬ k = j by omega)]
    unfold cV tM
    rw [if_neg hk, if_neg hk]
theorem mv_o {x u a b z : Int32} (hj : j < 8) (hx : pIn x (-127) 127 = true) (hu : pIn u (-127) 127 = true) (hz : zOk z a b) : mOrd (mLk x u (mSgn x a)) u (mSgn u b) (mL I j) (I 104 j) (mU I j) = anJ j (qB x u z) (cV I) := by
  rw [anJ_t (tRg_t hx hu), cV_l hj]
  show _ = mOrd (mLk x u (pSg x u z &&& 1)) u (pSg x u z >>> ((1 : Int32) &&& 31)) (mLk (I 88 j) (I 104 j) (I 120 j &&& 1)) (I 104 j) (I 120 j >>> ((1 : Int32) &&& 31))
  rw [(zOk_s hz).2.1, (zOk_s hz).2.2]
  rfl
theorem hO_s (h : mR I J I0 J0) (hO : cOk (cV I)) (hj : j < 8) : sOk (I0 120 j) := by
  have z := (hO j hj).2.2.1
  rw [← mR_cV h, cV_l hj] at z
  exact z
theorem mk_e (h : mR I J I0 J0) (hj : j < 8) {w : Nat} (hw : w < 6) : mkT (nn (nI w)) (cV I (nn (nI j))) = qB (pRA w (I0 88 j) (I0 104 j)) (pRU w (I0 88 j) (I0 104 j)) (pRS w (I0 120 j)) := by
  rw [nn_nI (show w ≤ 12 by omega), nn_nI (show j ≤ 12 by omega), ← mR_cV h, cV_l hj]; rfl
theorem str_e (h : mR I J I0 J0) (hj : j < 8) {b : Int32} : strT b (cV I (nn (nI j))) = qB (I0 88 j * b) (I0 104 j * b) (I0 120 j) := by
  rw [nn_nI (show j ≤ 12 by omega), ← mR_cV h, cV_l hj]; rfl
theorem add_e (h : mR I J I0 J0) (hj : j < 8) {k : Nat} (hk : k < 8) : addT (cV I (nn (nI j))) (cV I (nn (nI k))) = qB (I0 88 j + I0 88 k) (I0 104 j + I0 104 k) (I0 120 j &&& I0 120 k) := by
  rw [nn_nI (show j ≤ 12 by omega), nn_nI (show k ≤ 12 by omega), ← mR_cV h, cV_l hj, cV_l hk]; rfl
theorem stp_e (h : mR I J I0 J0) {n k : Nat} (hn : n ≤ 12) (he : I0 22 7 = nI n) (hj : j < n) (hk : k < n) : stpT (nI j) (nI k) (kV I) = qB (I0 136 k - I0 136 j) (I0 152 k - I0 152 j) 0 := by
  rw [← h.2.2.1, kV_n hn he]
  unfold stpT
  rw [nn_nI (show j ≤ 12 by omega), nn_nI (show k ≤ 12 by omega)]
  show qB (vMk n (I0 136) k - vMk n (I0 136) j) (vMk n (I0 152) k - vMk n (I0 152) j) 0 = _
  rw [vMk_l hj, vMk_l hj, vMk_l hk, vMk_l hk]
theorem mOA_t (h : mR I J I0 J0) (hj : j < 8) {k : Nat} (hk : k < 8) : mOA I0 j k = tO (cV I (nn (nI j))) (cV I (nn (nI k))) := by
  rw [nn_nI (show j ≤ 12 by omega), nn_nI (show k ≤ 12 by omega), ← mR_cV h, cV_l hj, cV_l hk]; rfl
theorem cV_at (h : mR I J I0 J0) (hj : j < 8) : cV I (nn (nI j)) = (I0 88 j, I0 104 j, I0 120 j) := by
  rw [nn_nI (show j ≤ 12 by omega), ← mR_cV h, cV_l hj]
theorem ckm_f {x : Int32} (h : (!pIn x 0 7) = true) : ckI x = false := by
  unfold ckI
  cases z : pIn x 0 7 with
  | false => rfl
  | true => rw [z] at h; exact absurd h (by decide)
end MC
theorem nC {x : Int32} (h : (!pIn x 0 7) = false) : ∃ j, j < 8 ∧ x = nI j := by
  obtain ⟨j, h1, h2⟩ := pIn_nI (x := x) 7 (by decide) (show pIn x 0 7 = true by simpa using h)
  exact ⟨j, by omega, h2⟩
def pC2 (x y : Int32) : Bool := !pIn x 0 7 || !pIn y 0 7
theorem pC2_f {x y : Int32} (h : pC2 x y = true) : (ckI x && ckI y) = false := by
  unfold pC2 at h
  unfold ckI
  cases z : pIn x 0 7 <;> cases z2 : pIn y 0 7 <;> simp_all
theorem n2 {x y : Int32} (h : pC2 x y = false) : ∃ j k, j < 8 ∧ k < 8 ∧ x = nI j ∧ y = nI k := by
  unfold pC2 at h
  have a1 : (!pIn x 0 7) = false := by cases z : pIn x 0 7 <;> simp_all
  have a2 : (!pIn y 0 7) = false := by cases z : pIn y 0 7 <;> simp_all
  obtain ⟨j, h1, h2⟩ := nC a1
  obtain ⟨k, h3, h4⟩ := nC a2
  exact ⟨j, k, h1, h3, h2, h4⟩
theorem pIn_neg {x : Int32} (h : pIn x (-127) 127 = true) : pIn (-x) (-127) 127 = true := by
  unfold pIn at h ⊢
  rw [Bool.and_eq_true, decide_eq_true_eq, decide_eq_true_eq] at h ⊢
  obtain ⟨h1, h2⟩ := h
  have e1 : (-127 : Int32).toInt = -127 := by decide
  have e2 : (127 : Int32).toInt = 127 := by decide
  rw [Int32.le_iff_toInt_le, e1] at h1
  rw [Int32.le_iff_toInt_le, e2] at h2
  rw [Int32.le_iff_toInt_le, Int32.le_iff_toInt_le, e1, e2, Int32.toInt_neg, Int.bmod_eq_of_le (by omega) (by omega)]
  omega
