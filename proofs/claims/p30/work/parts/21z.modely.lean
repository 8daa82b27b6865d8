-- the reference's places
theorem nP {x : Int32} {I : Nat → Nat → Int32} {n : Nat} (hn : n ≤ 12) (he : I 22 7 = nI n) (h : (!pIn x 0 (I 22 7 - 1)) = false) : ∃ j, j < n ∧ x = nI j := by
  rw [he] at h
  have h0 : pIn x 0 (nI n - 1) = true := by
    cases z : pIn x 0 (nI n - 1) with
    | true => rfl
    | false => rw [z] at h; exact absurd h (by decide)
  unfold pIn at h0
  rw [Bool.and_eq_true, decide_eq_true_eq, decide_eq_true_eq] at h0
  obtain ⟨h1, h2⟩ := h0
  have e0 : (0 : Int32).toInt = 0 := by decide
  have e1 : (1 : Int32).toInt = 1 := by decide
  rw [Int32.le_iff_toInt_le, e0] at h1
  rw [Int32.le_iff_toInt_le, Int32.toInt_sub, show (nI n).toInt = (n : Int) from Int32.toInt_ofNat_of_lt (by omega), e1, Int.bmod_eq_of_le (by omega) (by omega)] at h2
  refine ⟨x.toInt.toNat, by omega, ?_⟩
  apply Int32.toInt_inj.mp
  rw [show (nI x.toInt.toNat).toInt = (x.toInt.toNat : Int) from Int32.toInt_ofNat_of_lt (by omega)]
  omega
theorem nI_dm {n : Nat} (h : 0 < n) (hn : n ≤ 12) : nI n - 1 = nI (n - 1) := by
  apply Int32.toInt_inj.mp
  have e1 : (1 : Int32).toInt = 1 := by decide
  rw [Int32.toInt_sub, show (nI n).toInt = (n : Int) from Int32.toInt_ofNat_of_lt (by omega), e1, Int.bmod_eq_of_le (by omega) (by omega), show (nI (n - 1)).toInt = ((n - 1 : Nat) : Int) from Int32.toInt_ofNat_of_lt (by omega)]
  omega
theorem pIn_sub {x y : Int32} (h : pIn x (-64) 63 = true) (g : pIn y (-64) 63 = true) : pIn (x - y) (-127) 127 = true := by
  unfold pIn at h g ⊢
  rw [Bool.and_eq_true, decide_eq_true_eq, decide_eq_true_eq] at h g ⊢
  obtain ⟨h1, h2⟩ := h
  obtain ⟨g1, g2⟩ := g
  have e1 : (-127 : Int32).toInt = -127 := by decide
  have e2 : (127 : Int32).toInt = 127 := by decide
  have e3 : (-64 : Int32).toInt = -64 := by decide
  have e4 : (63 : Int32).toInt = 63 := by decide
  rw [Int32.le_iff_toInt_le, e3] at h1 g1
  rw [Int32.le_iff_toInt_le, e4] at h2 g2
  rw [Int32.le_iff_toInt_le, Int32.le_iff_toInt_le, e1, e2, Int32.toInt_sub, Int.bmod_eq_of_le (by omega) (by omega)]
  omega
theorem nAt {x y : Int32} (h : (!(pIn x (-64) 63 && pIn y (-64) 63)) = false) : pIn x (-64) 63 = true ∧ pIn y (-64) 63 = true := by
  cases z : pIn x (-64) 63 <;> cases z2 : pIn y (-64) 63 <;> simp_all
-- the reference's acts on places, exactly
theorem mI.mn {I : Nat → Nat → Int32} {n : Nat} (hn : n ≤ 12) (h : mI I) : mI (aj_u I 22 7 (nI n)) := by
  obtain ⟨h1, h2, h3, h4, h5⟩ := h
  refine ⟨?_, ?_, ?_, ?_, ?_⟩
  · rw [aj_u_o _ _ (by decide), aj_u_o _ _ (by decide)]; exact h1
  · exact ⟨n, hn, aj_u_s _ _ _ _⟩
  · rw [aj_u_o _ _ (by decide), aj_u_o _ _ (by decide)]; exact h3
  · rw [aj_u_k _ _ _ (by decide)]; exact h4
  · rw [aj_u_k _ _ _ (by decide)]; exact h5
theorem mI.ce {I : Nat → Nat → Int32} {k : Nat} {v : Int32} (hk : k = 8 ∨ k = 9) (hv : pIn v (-64) 63 = true) (h : mI I) : mI (aj_u I 22 k v) := by
  obtain ⟨h1, h2, h3, h4, h5⟩ := h
  refine ⟨?_, ?_, ?_, ?_, ?_⟩
  · rw [aj_u_o _ _ (by decide), aj_u_o _ _ (by decide)]; exact h1
  · rw [aj_u_k _ _ _ (by omega)]; exact h2
  · rw [aj_u_o _ _ (by decide), aj_u_o _ _ (by decide)]; exact h3
  · rcases hk with rfl | rfl
    · rw [aj_u_s]; exact hv
    · rw [aj_u_k _ _ _ (by decide)]; exact h4
  · rcases hk with rfl | rfl
    · rw [aj_u_k _ _ _ (by decide)]; exact h5
    · rw [aj_u_s]; exact hv
def pAT (I : Nat → Nat → Int32) (n : Nat) (x y r : Int32) : Prop := (∃ j, j < n ∧ r = nI j ∧ I 136 j = x ∧ I 152 j = y ∧ ∀ i, i < j → ¬ (I 136 i = x ∧ I 152 i = y)) ∨ (r = -9 ∧ ∀ i, i < n → ¬ (I 136 i = x ∧ I 152 i = y))
theorem nI_n9 {j : Nat} (h : j < 1000) : ¬ nI j = -9 := fun e => by
  have := congrArg Int32.toInt e
  rw [nI_toInt (by omega), show (-9 : Int32).toInt = -9 by decide] at this
  omega
theorem mQ.no {I I1 : Nat → Nat → Int32} {J J1 : Nat → Nat → Int64} {q : vw} (h : mR I J I1 J1) (e : q = kV I) : mQ I J I1 J1 q := ⟨h.1, h.2.1, h.2.2.1.trans e.symm, h.2.2.2⟩
theorem mQ.fr {I I0 I1 : Nat → Nat → Int32} {J : Nat → Nat → Int64} {q : vw} (h : mR I J I0 J) (h1 : eqO mS0 I0 I1) (hm : mI I1) (hq : kV I1 = q) : mQ I J I1 J q := ⟨eqO.tr h.1 h1, hm, hq, h.2.2.2⟩
section MP
variable {I I0 I3 : Nat → Nat → Int32} {J : Nat → Nat → Int64} {n i j k : Nat} {x y w : Int32}
theorem mQ.kn (hM : mI I) : mQ I J (aj_u (aj_u I 22 0 0) 168 3 (I 168 3 + 1)) J (nxKn (kV I)) := ⟨eqO.tr (eqO.u (by decide)) (eqO.u (by decide)), hM.t.h, by
  show vOf _ _ _ _ _ _ = vOf (I 168 3 + 1) (I 22 8) (I 22 9) (nn (I 22 7)) (I 136) (I 152)
  exact vOf_e (aj_u_s _ _ _ _) (by simp [aj_u]) (by simp [aj_u]) (by simp [aj_u]) (fun k _ => by simp [aj_u]) (fun k _ => by simp [aj_u]), fun _ _ => rfl⟩
theorem mQ.ce (h : mR I J I0 J) (hx : pIn x (-64) 63 = true) (hy : pIn y (-64) 63 = true) : mQ I J (aj_u (aj_u (aj_u I0 22 8 x) 22 9 y) 168 1 w) J (nxCe x y (kV I)) := by
  refine mQ.fr h (eqO.tr (eqO.tr (eqO.u (by decide)) (eqO.u (by decide))) (eqO.u (by decide))) ((mI.ce (Or.inr rfl) hy (mI.ce (Or.inl rfl) hx h.2.1)).h) ?_
  obtain ⟨n, hn, he⟩ := h.2.1.2.1
  rw [← h.2.2.1, kV_n hn he, kV_n hn (show aj_u (aj_u (aj_u I0 22 8 x) 22 9 y) 168 1 w 22 7 = nI n by simp [aj_u, he]), nxCe_t (by unfold vAt; rw [hx, hy]; rfl)]
  refine vOf_e ?_ ?_ ?_ rfl (fun k hk => ?_) (fun k hk => ?_) <;> simp [aj_u]
theorem mQ.ad (h : mR I J I0 J) (hn : n < 12) (he : I0 22 7 = nI n) (hx : pIn x (-64) 63 = true) (hy : pIn y (-64) 63 = true) (hF : ∀ k, k < n → ¬ (I0 136 k = x ∧ I0 152 k = y)) : mQ I J (aj_u (aj_u (aj_u (aj_u I0 136 n x) 152 n y) 22 7 (nI (n + 1))) 168 1 w) J (nxAdd x y (kV I)) ∧ anAdd x y (kV I) = nI n := by
  have hb : bAdd x y (vOf (I0 168 3) (I0 22 8) (I0 22 9) n (I0 136) (I0 152)) = true := bAdd_t (by unfold vAt; rw [hx, hy]; rfl) hn hF
  rw [← h.2.2.1, kV_n (by omega) he]
  refine ⟨mQ.fr h (eqO.tr (eqO.tr (eqO.tr (eqO.u (by decide)) (eqO.u (by decide))) (eqO.u (by decide))) (eqO.u (by decide))) ((mI.mn (by omega) (mI.xy (Or.inr rfl) hy (mI.xy (Or.inl rfl) hx h.2.1))).h) ?_, anAdd_t hb⟩
  rw [kV_n (show n + 1 ≤ 12 by omega) (show aj_u (aj_u (aj_u (aj_u I0 136 n x) 152 n y) 22 7 (nI (n + 1))) 168 1 w 22 7 = nI (n + 1) by simp [aj_u]), nxAdd_t hb]
  refine vOf_e ?_ ?_ ?_ rfl (fun k hk => ?_) (fun k hk => ?_) <;> simp [aj_u]
theorem kV.adf (h : mR I J I0 J) (hn : n ≤ 12) (he : I0 22 7 = nI n) (hF : n = 12 ∨ ∃ j, j < n ∧ I0 136 j = x ∧ I0 152 j = y) : bAdd x y (kV I) = false := by
  rw [← h.2.2.1, kV_n hn he]; exact bAdd_f hF
/-- the row moves up -/
def rmP (I0 I3 : Nat → Nat → Int32) (n j i : Nat) : Prop := eqO [136, 152, 22] I0 I3 ∧ mI I3 ∧ I3 22 7 = nI (n - 1) ∧ I3 22 0 = I0 22 0 ∧ I3 22 8 = I0 22 8 ∧ I3 22 9 = I0 22 9 ∧ (∀ k, I3 136 k = if j ≤ k ∧ k < i then I0 136 (k + 1) else I0 136 k) ∧ ∀ k, I3 152 k = if j ≤ k ∧ k < i then I0 152 (k + 1) else I0 152 k
theorem rmP.st (hn : n ≤ 12) (h : mI I0) : rmP I0 (aj_u I0 22 7 (nI (n - 1))) n j j := by
  refine ⟨eqO.u (by decide), mI.mn (by omega) h, aj_u_s _ _ _ _, aj_u_k _ _ _ (by decide), aj_u_k _ _ _ (by decide), aj_u_k _ _ _ (by decide), fun k => ?_, fun k => ?_⟩ <;> rw [aj_u_o _ _ (by decide), if_neg (by omega)]
theorem rmP.up (h : rmP I0 I3 n j i) (hj : j ≤ i) (hi : i + 1 < 12) : rmP I0 (aj_u (aj_u I3 136 i (I3 136 (i + 1))) 152 i (aj_u I3 136 i (I3 136 (i + 1)) 152 (i + 1))) n j (i + 1) := by
  obtain ⟨h1, h2, h3, h4, h5, h6, h7, h8⟩ := h
  have e : aj_u I3 136 i (I3 136 (i + 1)) 152 (i + 1) = I3 152 (i + 1) := aj_u_i _ _ _ (by decide)
  rw [e]
  refine ⟨eqO.tr h1 (eqO.tr (eqO.u (by decide)) (eqO.u (by decide))), mI.xy (Or.inr rfl) (h2.2.2.1 (i + 1) hi).2 (mI.xy (Or.inl rfl) (h2.2.2.1 (i + 1) hi).1 h2), ?_, ?_, ?_, ?_, fun k => ?_, fun k => ?_⟩
  · rw [aj_u_i _ _ _ (by decide), aj_u_i _ _ _ (by decide)]; exact h3
  · rw [aj_u_i _ _ _ (by decide), aj_u_i _ _ _ (by decide)]; exact h4
  · rw [aj_u_i _ _ _ (by decide), aj_u_i _ _ _ (by decide)]; exact h5
  · rw [aj_u_i _ _ _ (by decide), aj_u_i _ _ _ (by decide)]; exact h6
  · rw [aj_u_i _ _ _ (by decide)]
    by_cases z : k = i
    · subst z; rw [aj_u_s, h7, if_neg (by omega), if_pos ⟨hj, by omega⟩]
    · rw [aj_u_k _ _ _ z, h7]
      by_cases z2 : j ≤ k ∧ k < i
      · rw [if_pos z2, if_pos ⟨z2.1, by omega⟩]
      · rw [if_neg z2, if_neg (by omega)]
  · by_cases z : k = i
    · subst z; rw [aj_u_s, h8, if_neg (by omega), if_pos ⟨hj, by omega⟩]
    · rw [aj_u_k _ _ _ z, aj_u_i _ _ _ (by decide), h8]
      by_cases z2 : j ≤ k ∧ k < i
      · rw [if_pos z2, if_pos ⟨z2.1, by omega⟩]
      · rw [if_neg z2, if_neg (by omega)]
theorem mQ.rm (h : mR I J I0 J) (hn : n ≤ 12) (hj : j < n) (he : I0 22 7 = nI n) (h3 : rmP I0 I3 n j (n - 1)) : mQ I J (aj_u I3 168 1 w) J (nxRem (nI j) (kV I)) ∧ anRem (kV I) = nI (n - 1) := by
  obtain ⟨a1, a2, a3, a4, a5, a6, a7, a8⟩ := h3
  rw [← h.2.2.1, kV_n hn he]
  refine ⟨mQ.fr h (eqO.tr (a1.mono (by decide)) (eqO.u (by decide))) a2.h ?_, rfl⟩
  rw [kV_n (show n - 1 ≤ 12 by omega) (show aj_u I3 168 1 w 22 7 = nI (n - 1) from (aj_u_i _ _ _ (by decide)).trans a3), nxRem_t hn hj]
  refine vOf_e ?_ ?_ ?_ rfl (fun k hk => ?_) (fun k hk => ?_)
  · rw [aj_u_k _ _ _ (by decide), a1 168 (by decide)]
  · rw [aj_u_i _ _ _ (by decide)]; exact a5
  · rw [aj_u_i _ _ _ (by decide)]; exact a6
  · rw [aj_u_i _ _ _ (by decide), a7]
    by_cases z : j ≤ k
    · rw [if_pos ⟨z, hk⟩, if_pos z]
    · rw [if_neg (fun q => z q.1), if_neg z]
  · rw [aj_u_i _ _ _ (by decide), a8]
    by_cases z : j ≤ k
    · rw [if_pos ⟨z, hk⟩, if_pos z]
    · rw [if_neg (fun q => z q.1), if_neg z]
theorem mQ.mo (h : mR I J I0 J) (hn : n ≤ 12) (hj : j < n) (he : I0 22 7 = nI n) (hx : pIn x (-64) 63 = true) (hy : pIn y (-64) 63 = true) (h2 : (I0 136 j = x ∧ I0 152 j = y ∧ ∀ k, k < j → ¬ (I0 136 k = x ∧ I0 152 k = y)) ∨ ∀ k, k < n → ¬ (I0 136 k = x ∧ I0 152 k = y)) : mQ I J (aj_u (aj_u (aj_u I0 136 j x) 152 j y) 168 1 w) J (nxMov (nI j) x y (kV I)) := by
  have hb : bMov (nI j) x y (vOf (I0 168 3) (I0 22 8) (I0 22 9) n (I0 136) (I0 152)) = true := bMov_t hn hj (by unfold vAt; rw [hx, hy]; rfl) h2
  rw [← h.2.2.1, kV_n hn he]
  refine mQ.fr h (eqO.tr (eqO.tr (eqO.u (by decide)) (eqO.u (by decide))) (eqO.u (by decide))) ((mI.xy (Or.inr rfl) hy (mI.xy (Or.inl rfl) hx h.2.1)).h) ?_
  rw [kV_n hn (show aj_u (aj_u (aj_u I0 136 j x) 152 j y) 168 1 w 22 7 = nI n by simp [aj_u, he]), nxMov_t (by omega) hb]
  refine vOf_e ?_ ?_ ?_ rfl (fun k hk => ?_) (fun k hk => ?_) <;> simp [aj_u]
theorem kV.mof (h : mR I J I0 J) (hn : n ≤ 12) (hj : j < n) (he : I0 22 7 = nI n) (hF : ∃ i, i < n ∧ i ≠ j ∧ I0 136 i = x ∧ I0 152 i = y ∧ ∀ k, k < i → ¬ (I0 136 k = x ∧ I0 152 k = y)) : bMov (nI j) x y (kV I) = false := by
  rw [← h.2.2.1, kV_n hn he]; exact bMov_f hn hj hF
theorem kV.mo1 (h : mR I J I0 J) (hn : n ≤ 12) (hj : j < n) (he : I0 22 7 = nI n) (hx : pIn x (-64) 63 = true) (hy : pIn y (-64) 63 = true) (h2 : ∀ k, k < n → ¬ (I0 136 k = x ∧ I0 152 k = y)) : anMov (nI j) x y (kV I) = 1 := by
  rw [← h.2.2.1, kV_n hn he]
  exact anMov_1 (bMov_t hn hj (by unfold vAt; rw [hx, hy]; rfl) (Or.inr h2)) h2
theorem kV.mo2 (h : mR I J I0 J) (hn : n ≤ 12) (hj : j < n) (he : I0 22 7 = nI n) (hx : pIn x (-64) 63 = true) (hy : pIn y (-64) 63 = true) (h2 : I0 136 j = x ∧ I0 152 j = y ∧ ∀ k, k < j → ¬ (I0 136 k = x ∧ I0 152 k = y)) : anMov (nI j) x y (kV I) = 0 := by
  rw [← h.2.2.1, kV_n hn he]
  exact anMov_2 (bMov_t hn hj (by unfold vAt; rw [hx, hy]; rfl) (Or.inl h2)) hj h2.1 h2.2.1
theorem kV.nn (hn : n ≤ 12) (he : I 22 7 = nI n) : vN (kV I) = n := by rw [kV_n hn he]; rfl
theorem kV.pl {b : Bool} (h : mR I J I0 J) (hn : n ≤ 12) (hj : j < n) (he : I0 22 7 = nI n) : anPl (nI j) b (kV I) = if b = true then I0 152 j else I0 136 j := by
  rw [← h.2.2.1, kV_n hn he]; exact anPl_of hj hn
theorem kV.le (h : mR I J I0 J) (hn : n ≤ 12) (he : I0 22 7 = nI n) (hi : i < n) (hj : j < n) (hk : k < n) (h1 : j ≠ i) (h2 : k ≠ i) : anLe (nI i) (nI j) (nI k) (kV I) = vSg (pCr (I0 136 i) (I0 152 i) (I0 136 j) (I0 152 j) (I0 136 k) (I0 152 k)) := by
  rw [← h.2.2.1, kV_n hn he]; exact anLe_t hn hi hj hk h1 h2
theorem kV.bo (h : mR I J I0 J) (hn : n ≤ 12) (he : I0 22 7 = nI n) (hi : i < n) (hj : j < n) (hk : k < n) (h1 : j ≠ i) (h2 : k ≠ i) : anBO (nI i) (nI j) (nI k) (kV I) = vWO (I0 136 j - I0 136 i) (I0 152 j - I0 152 i) (I0 136 k - I0 136 i) (I0 152 k - I0 152 i) := by
  rw [← h.2.2.1, kV_n hn he]; exact anBO_t hn hi hj hk h1 h2
/-- turned up to k -/
def tuP (I0 I3 : Nat → Nat → Int32) (k : Nat) : Prop := eqO [136, 152] I0 I3 ∧ mI I3 ∧ (∀ j, I3 136 j = if j < k then -1 - I0 152 j else I0 136 j) ∧ ∀ j, I3 152 j = if j < k then I0 136 j else I0 152 j
theorem tuP.st (h : mI I0) : tuP I0 I0 0 := ⟨eqO.rf, h, fun j => by rw [if_neg (Nat.not_lt_zero j)], fun j => by rw [if_neg (Nat.not_lt_zero j)]⟩
def miP (I0 I3 : Nat → Nat → Int32) (k : Nat) : Prop := eqO [136] I0 I3 ∧ mI I3 ∧ ∀ j, I3 136 j = if j < k then -1 - I0 136 j else I0 136 j
theorem miP.st (h : mI I0) : miP I0 I0 0 := ⟨eqO.rf, h, fun j => by rw [if_neg (Nat.not_lt_zero j)]⟩
theorem pIn_m1 {x : Int32} (h : pIn x (-64) 63 = true) : pIn (-1 - x) (-64) 63 = true := by
  unfold pIn at h ⊢
  rw [Bool.and_eq_true, decide_eq_true_eq, decide_eq_true_eq] at h ⊢
  obtain ⟨h1, h2⟩ := h
  have e0 : (-1 : Int32).toInt = -1 := by decide
  have e3 : (-64 : Int32).toInt = -64 := by decide
  have e4 : (63 : Int32).toInt = 63 := by decide
  rw [Int32.le_iff_toInt_le, e3] at h1
  rw [Int32.le_iff_toInt_le, e4] at h2
  rw [Int32.le_iff_toInt_le, Int32.le_iff_toInt_le, e3, e4, Int32.toInt_sub, e0, Int.bmod_eq_of_le (by omega) (by omega)]
  omega
theorem tuP.up (h : tuP I0 I3 k) (hk : k < 12) : tuP I0 (aj_u (aj_u I3 136 k (-1 - I3 152 k)) 152 k (I3 136 k)) (k + 1) := by
  obtain ⟨h1, h2, h3, h4⟩ := h
  refine ⟨eqO.tr h1 (eqO.tr (eqO.u (by decide)) (eqO.u (by decide))), mI.xy (Or.inr rfl) (h2.2.2.1 k hk).1 (mI.xy (Or.inl rfl) (pIn_m1 (h2.2.2.1 k hk).2) h2), fun j => ?_, fun j => ?_⟩
  · rw [aj_u_i _ _ _ (by decide)]
    by_cases z : j = k
    · subst z; rw [aj_u_s, h4, if_neg (Nat.lt_irrefl j), if_pos (Nat.lt_succ_self j)]
    · rw [aj_u_k _ _ _ z, h3]
      exact aj_if (by omega)
  · by_cases z : j = k
    · subst z; rw [aj_u_s, h3, if_neg (Nat.lt_irrefl j), if_pos (Nat.lt_succ_self j)]
    · rw [aj_u_k _ _ _ z, aj_u_i _ _ _ (by decide), h4]
      exact aj_if (by omega)
theorem miP.up (h : miP I0 I3 k) (hk : k < 12) : miP I0 (aj_u I3 136 k (-1 - I3 136 k)) (k + 1) := by
  obtain ⟨h1, h2, h3⟩ := h
  refine ⟨eqO.tr h1 (eqO.u (by decide)), mI.xy (Or.inl rfl) (pIn_m1 (h2.2.2.1 k hk).1) h2, fun j => ?_⟩
  by_cases z : j = k
  · subst z; rw [aj_u_s, h3, if_neg (Nat.lt_irrefl j), if_pos (Nat.lt_succ_self j)]
  · rw [aj_u_k _ _ _ z, h3]
    exact aj_if (by omega)
theorem mQ.tu (h : mR I J I0 J) (hn : n ≤ 12) (he : I0 22 7 = nI n) (h3 : tuP I0 I3 n) : mQ I J (aj_u (aj_u (aj_u I3 22 8 (-1 - I3 22 9)) 22 9 (I3 22 8)) 168 1 w) J (nxTu (kV I)) := by
  obtain ⟨a1, a2, a3, a4⟩ := h3
  rw [← h.2.2.1, kV_n hn he]
  refine mQ.fr h (eqO.tr (eqO.tr (eqO.tr (a1.mono (by decide)) (eqO.u (by decide))) (eqO.u (by decide))) (eqO.u (by decide))) ((mI.ce (Or.inr rfl) a2.2.2.2.1 (mI.ce (Or.inl rfl) (pIn_m1 a2.2.2.2.2) a2)).h) ?_
  have e22 : I3 22 = I0 22 := a1 22 (by decide)
  rw [kV_n hn (show aj_u (aj_u (aj_u I3 22 8 (-1 - I3 22 9)) 22 9 (I3 22 8)) 168 1 w 22 7 = nI n by simp [aj_u, e22, he]), nxTu_of]
  refine vOf_e ?_ ?_ ?_ rfl (fun k hk => ?_) (fun k hk => ?_)
  · simp [aj_u, a1 168 (by decide)]
  · simp [aj_u, e22]
  · simp [aj_u, e22]
  · simp [aj_u, a3, hk]
  · simp [aj_u, a4, hk]
theorem mQ.mi (h : mR I J I0 J) (hn : n ≤ 12) (he : I0 22 7 = nI n) (h3 : miP I0 I3 n) : mQ I J (aj_u (aj_u I3 22 8 (-1 - I3 22 8)) 168 1 w) J (nxMi (kV I)) := by
  obtain ⟨a1, a2, a3⟩ := h3
  rw [← h.2.2.1, kV_n hn he]
  refine mQ.fr h (eqO.tr (eqO.tr (a1.mono (by decide)) (eqO.u (by decide))) (eqO.u (by decide))) ((mI.ce (Or.inl rfl) (pIn_m1 a2.2.2.2.1) a2).h) ?_
  have e22 : I3 22 = I0 22 := a1 22 (by decide)
  have e152 : I3 152 = I0 152 := a1 152 (by decide)
  rw [kV_n hn (show aj_u (aj_u I3 22 8 (-1 - I3 22 8)) 168 1 w 22 7 = nI n by simp [aj_u, e22, he]), nxMi_of]
  refine vOf_e ?_ ?_ ?_ rfl (fun k hk => ?_) (fun k hk => ?_)
  · simp [aj_u, a1 168 (by decide)]
  · simp [aj_u, e22]
  · simp [aj_u, e22]
  · simp [aj_u, a3, hk]
  · simp [aj_u, e152]
end MP
theorem vAt_p {x y : Int32} (hx : pIn x (-64) 63 = true) (hy : pIn y (-64) 63 = true) : vAt x y = true := by unfold vAt; rw [hx, hy]; rfl
theorem nAtf {x y : Int32} (h : (!(pIn x (-64) 63 && pIn y (-64) 63)) = true) : vAt x y = false := by
  unfold vAt
  cases z : (pIn x (-64) 63 && pIn y (-64) 63) with
  | false => rfl
  | true => rw [z] at h; exact absurd h (by decide)
theorem kV.okt {I : Nat → Nat → Int32} {n j : Nat} (hn : n ≤ 12) (he : I 22 7 = nI n) (hj : j < n) : vOk (vN (kV I)) (nI j) = true := by rw [kV.nn hn he]; exact vOk_t hn hj
theorem kV.okf {I : Nat → Nat → Int32} {n : Nat} {p : Int32} (hn : n ≤ 12) (he : I 22 7 = nI n) (h : (!pIn p 0 (I 22 7 - 1)) = true) : vOk (vN (kV I)) p = false := by
  rw [kV.nn hn he]
  rw [he] at h
  unfold vOk
  cases z : pIn p 0 (nI n - 1) with
  | false => rfl
  | true => rw [z] at h; exact absurd h (by decide)
