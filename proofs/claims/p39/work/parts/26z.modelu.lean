-- rounds
theorem mOut_e {I I2 : Nat → Nat → Int32} {a k : Nat} (h : ∀ i, i ≠ a → I2 i = I i) (h0 : 22 ≠ a) (h1 : 136 ≠ a) (h2 : 152 ≠ a) : mOut I2 k = mOut I k := by unfold mOut; rw [h 136 h1, h 152 h2, h 22 h0]
def zM (I : Nat → Nat → Int32) (k : Nat) : Int := zKK (I 136 k - I 22 8) (I 152 k - I 22 9)
def rkM (I : Nat → Nat → Int32) (n k o : Nat) : Bool := mOut I o && decide (zM I o < zM I k)
def rnM (I : Nat → Nat → Int32) (n k : Nat) : Nat := cnt (rkM I n k) n
theorem mO_nz {I : Nat → Nat → Int32} {k : Nat} (h : mOut I k = true) : ¬ (I 136 k - I 22 8 = 0 ∧ I 152 k - I 22 9 = 0) := fun z => by
  unfold mOut at h
  rw [decide_eq_true (i32_sub0 z.1), decide_eq_true (i32_sub0 z.2)] at h
  exact absurd h (by decide)
theorem mz_e {I : Nat → Nat → Int32} {l k : Nat} (hM : mI I) (hl : l < 12) (hk : k < 12) (h1 : mOut I l = true) (h2 : mOut I k = true) : (decide (vWO (I 136 l - I 22 8) (I 152 l - I 22 9) (I 136 k - I 22 8) (I 152 k - I 22 9) < 0) || (decide (vWO (I 136 l - I 22 8) (I 152 l - I 22 9) (I 136 k - I 22 8) (I 152 k - I 22 9) = 0) && decide (mDt (I 136 l - I 22 8) (I 152 l - I 22 9) (I 136 l - I 22 8) (I 152 l - I 22 9) < mDt (I 136 k - I 22 8) (I 152 k - I 22 9) (I 136 k - I 22 8) (I 152 k - I 22 9)))) = decide (zM I l < zM I k) := by
  obtain ⟨-, -, m3, m4, m5⟩ := hM
  rw [← pOW_vWO (mO_nz h1) (mO_nz h2), pOW_tO]
  exact cb_k (pIn_sub (m3 l hl).1 m4) (pIn_sub (m3 l hl).2 m5) (pIn_sub (m3 k hk).1 m4) (pIn_sub (m3 k hk).2 m5)
theorem rdV_m {I0 I1 : Nat → Nat → Int32} {n t a : Nat} (hn : n ≤ 12) (he : I0 22 7 = nI n) (ht : t = cnt (mOut I0) n) (hq : rowQ (I1 a) (mOut I0) (rnM I0 n) n) : rdV (kV I0) (I1 a) t := by
  rw [kV_n hn he]
  have eo : ∀ k, k < n → ouV (vOf (hV I0) (I0 22 8) (I0 22 9) n (I0 136) (I0 152)) k = mOut I0 k := fun k hk => by
    show (!(decide (vMk n (I0 136) k = I0 22 8) && decide (vMk n (I0 152) k = I0 22 9))) = _
    rw [vMk_l hk, vMk_l hk]; rfl
  have ez : ∀ k, k < n → zV (vOf (hV I0) (I0 22 8) (I0 22 9) n (I0 136) (I0 152)) k = zM I0 k := fun k hk => by
    show zKK (vMk n (I0 136) k - I0 22 8) (vMk n (I0 152) k - I0 22 9) = _
    rw [vMk_l hk, vMk_l hk]; rfl
  refine ⟨ht.trans (cnt_c (fun k hk => (eo k hk).symm)), rowQ_c hq (fun k hk => (eo k hk).symm) (fun k hk => ?_)⟩
  exact cnt_c (fun o ho => show rkM I0 n k o = _ by unfold rkM; rw [eo o ho, ez o ho, ez k hk])
section RM
variable {I I0 I1 : Nat → Nat → Int32} {n t a l k : Nat}
theorem rkM_k : rkM I n k k = false := by unfold rkM; rw [decide_eq_false (Int.lt_irrefl _), Bool.and_false]
theorem rkM_0 (h : mOut I l = false) : rkM I n k l = false := by unfold rkM; rw [h, Bool.false_and]
theorem rkM_e (hM : mI I) (hl : l < 12) (hk : k < 12) (h1 : mOut I l = true) (h2 : mOut I k = true) : rkM I n k l = (decide (vWO (I 136 l - I 22 8) (I 152 l - I 22 9) (I 136 k - I 22 8) (I 152 k - I 22 9) < 0) || (decide (vWO (I 136 l - I 22 8) (I 152 l - I 22 9) (I 136 k - I 22 8) (I 152 k - I 22 9) = 0) && decide (mDt (I 136 l - I 22 8) (I 152 l - I 22 9) (I 136 l - I 22 8) (I 152 l - I 22 9) < mDt (I 136 k - I 22 8) (I 152 k - I 22 9) (I 136 k - I 22 8) (I 152 k - I 22 9)))) := by
  rw [mz_e hM hl hk h1 h2]
  unfold rkM
  rw [h1, Bool.true_and]
theorem b3_1 {x y z : Bool} (h : x = true) : (x || (y && z)) = true := by subst h; rfl
theorem b3_2 {x y z : Bool} (h : y = true) (h2 : z = true) : (x || (y && z)) = true := by subst h; subst h2; cases x <;> rfl
theorem b3_3 {x y z : Bool} (h : x = false) (h2 : y = false) : (x || (y && z)) = false := by subst h; subst h2; rfl
theorem b3_4 {x y z : Bool} (h : x = false) (h2 : z = false) : (x || (y && z)) = false := by subst h; subst h2; cases y <;> rfl
theorem aHA_m (hn : n ≤ 12) (he : I0 22 7 = nI n) (e1 : I1 136 = I0 136) (e2 : I1 152 = I0 152) (h : hlR (I0 136) (I0 152) n (I1 a) t) : aHA (kV I0) (hrT (I1 136) (I1 152) (fun p => nn (I1 a p)) t) := by
  rw [kV_n hn he, e1, e2]
  exact ⟨I1 a, t, I0 136, I0 152, (show hlR (vMk n (I0 136)) (vMk n (I0 152)) n (I1 a) t from hlR_c (fun k hk => ⟨(vMk_l hk).symm, (vMk_l hk).symm⟩) h), (fun k hk => ⟨(vMk_l (n := n) hk).symm, (vMk_l (n := n) hk).symm⟩), rfl⟩
theorem aHC_m (hn : n ≤ 12) (he : I0 22 7 = nI n) (h : hlR (I0 136) (I0 152) n (I1 a) t) : aHC (kV I0) (nI t) := by
  rw [kV_n hn he]
  exact ⟨I1 a, t, (show hlR (vMk n (I0 136)) (vMk n (I0 152)) n (I1 a) t from hlR_c (fun k hk => ⟨(vMk_l hk).symm, (vMk_l hk).symm⟩) h), rfl⟩
theorem vQP_m (hn : n ≤ 12) (he : I0 22 7 = nI n) : vQP (kV I0) (I0 136) (I0 152) := by
  rw [kV_n hn he]
  exact fun k hk => ⟨(vMk_l (n := n) hk).symm, (vMk_l (n := n) hk).symm⟩
theorem kV_x (hn : n ≤ 12) (he : I0 22 7 = nI n) : vX (kV I0) = I0 22 8 ∧ vY (kV I0) = I0 22 9 := by
  rw [kV_n hn he]
  exact ⟨rfl, rfl⟩
theorem aSB_m (hn : n ≤ 12) (he : I0 22 7 = nI n) (e0 : I1 22 = I0 22) (e1 : I1 136 = I0 136) (e2 : I1 152 = I0 152) (ht : t = cnt (mOut I0) n) (hq : rowQ (I1 a) (mOut I0) (rnM I0 n) n) : aSB (kV I0) (rwS vWO (I1 136) (I1 152) (I1 22 8) (I1 22 9) (fun p => nn (I1 a p)) t) := by
  refine ⟨I1 a, t, I0 136, I0 152, rdV_m hn he ht hq, vQP_m hn he, ?_⟩
  rw [e0, e1, e2, (kV_x hn he).1, (kV_x hn he).2]
theorem aST_m (hn : n ≤ 12) (he : I0 22 7 = nI n) (e0 : I1 22 = I0 22) (e1 : I1 136 = I0 136) (e2 : I1 152 = I0 152) (ht : t = cnt (mOut I0) n) (hq : rowQ (I1 a) (mOut I0) (rnM I0 n) n) : aST (kV I0) (rwT (I1 136) (I1 152) (I1 22 8) (I1 22 9) (fun p => nn (I1 a p)) t) := by
  refine ⟨I1 a, t, I0 136, I0 152, rdV_m hn he ht hq, vQP_m hn he, ?_⟩
  rw [e0, e1, e2, (kV_x hn he).1, (kV_x hn he).2]
end RM
def mQA (a : Nat) (I : Nat → Nat → Int32) (J : Nat → Nat → Int64) (I1 : Nat → Nat → Int32) (J1 : Nat → Nat → Int64) (q : vw) : Prop := eqO (a :: mS0) I I1 ∧ mI I1 ∧ kV I1 = q ∧ ∀ i, J1 i = J i
def mRA (a : Nat) (I : Nat → Nat → Int32) (J : Nat → Nat → Int64) (I1 : Nat → Nat → Int32) (J1 : Nat → Nat → Int64) : Prop := eqO (a :: mS0) I I1 ∧ mI I1 ∧ kV I1 = kV I ∧ ∀ i, J1 i = J i
theorem mQA.of {V : Nat → Nat → Option Nat} {N : Nat → Nat} {L : List Nat} {I I0 I1 : Nat → Nat → Int32} {J J0 : Nat → Nat → Int64} {a : Nat} {q : vw} (hB : bV V N L) (haL : a ∉ L) (h : mQ I J I0 J0 q) (h1 : ∀ i, i ≠ a → I1 i = I0 i) : mQA a I J I1 J0 q := by
  have q0 : ∀ i ∈ aj_BL, I1 i = I0 i := fun i hi => h1 i (fun e => haL (e ▸ hB.1 i hi))
  refine ⟨fun i hi => (h1 i (fun e => hi (e ▸ List.mem_cons_self))).trans (h.1 i (fun z => hi (List.mem_cons_of_mem _ z))), ?_, (kV.rw (q0 168 (by decide)) (q0 22 (by decide)) (q0 136 (by decide)) (q0 152 (by decide))).trans h.2.2.1, h.2.2.2⟩
  obtain ⟨m1, m2, m3, m4, m5⟩ := h.2.1
  refine ⟨?_, ?_, ?_, ?_, ?_⟩
  · rw [q0 88 (by decide), q0 104 (by decide)]; exact m1
  · rw [q0 22 (by decide)]; exact m2
  · rw [q0 136 (by decide), q0 152 (by decide)]; exact m3
  · rw [q0 22 (by decide)]; exact m4
  · rw [q0 22 (by decide)]; exact m5
theorem mRA.of {V : Nat → Nat → Option Nat} {N : Nat → Nat} {L : List Nat} {I I0 I1 : Nat → Nat → Int32} {J J0 : Nat → Nat → Int64} {a : Nat} (hB : bV V N L) (haL : a ∉ L) (h : mR I J I0 J0) (h1 : ∀ i, i ≠ a → I1 i = I0 i) : mRA a I J I1 J0 := mQA.of (q := kV I) hB haL h h1
