theorem w_put {l : Launch} {I : Nat → Nat → Int32} {J : Nat → Nat → Int64} {V : Nat → Nat → Option Nat} {N : Nat → Nat} {L : List Nat} {K : aj_K} {x a u s : Int32} {n : Nat} (hC : cI I n) (hB : bV V N L) (hCL : cL I) (hCD : cD V) (hXO : ckI x = false → K (.inr "java/lang/IndexOutOfBoundsException") I J V N L) (hXA : ckI x = true → okP a u s = false → K (.inr "java/lang/IllegalArgumentException") I J V N L) (hK : ∀ (r : Int32) I1 J1, (ckI x = true ∧ okP a u s = true) → cC I V I1 (nxS (ckI x && okP a u s) x (qB a u s) (cW I V)) → r = anS x (qB a u s) (cW I V) → K (.inl (some (.int r))) I1 J1 V N L) : aj_M l yX3_put (aj_wc yX3_put cX3_put 5 (some .int)) (aj_rm 4 4 24) [] [.ref 20, .int x, .int a, .int u, .int s] I J V N L K := s_X3_put hB hXO hXA (fun j hj ej h1 h2 h3 h4 h5 h6 => by subst ej; exact hK _ _ _ ⟨ckI_t hj, (okP_t (pIn_t h1 h2) (pIn_t h3 h4) (pIn_t h5 h6))⟩ (cC.pt hC hB hCL hCD hj (and_t (ckI_t hj) (okP_t (pIn_t h1 h2) (pIn_t h3 h4) (pIn_t h5 h6))) (pIn_t h1 h2) (pIn_t h3 h4)).1 (cC.pt hC hB hCL hCD hj (and_t (ckI_t hj) (okP_t (pIn_t h1 h2) (pIn_t h3 h4) (pIn_t h5 h6))) (pIn_t h1 h2) (pIn_t h3 h4)).2)
theorem w_make {l : Launch} {I : Nat → Nat → Int32} {J : Nat → Nat → Int64} {V : Nat → Nat → Option Nat} {N : Nat → Nat} {L : List Nat} {K : aj_K} {x w : Int32} {n : Nat} (hC : cI I n) (hB : bV V N L) (hCL : cL I) (hCD : cD V) (hXO : ckI x = false → K (.inr "java/lang/IndexOutOfBoundsException") I J V N L) (hXA : ckI x = true → pIn w 0 5 = false → K (.inr "java/lang/IllegalArgumentException") I J V N L) (hK : ∀ (r : Int32) I1 J1, (ckI x = true ∧ pIn w 0 5 = true) → cC I V I1 (nxS (ckI x && pIn w 0 5) x (mkT (nn w) (cW I V (nn x))) (cW I V)) → r = anS x (mkT (nn w) (cW I V (nn x))) (cW I V) → K (.inl (some (.int r))) I1 J1 V N L) : aj_M l yX3_make (aj_wc yX3_make cX3_make 3 (some .int)) (aj_rm 4 2 12) [] [.ref 20, .int x, .int w] I J V N L K := s_X3_make hB hXO hXA (fun j v hj hv ej ev => by subst ej; subst ev; rw [cmk_e hB hj hv] at hK; exact hK _ _ _ ⟨ckI_t hj, pIn_nv (v := v) (m := 5) (by omega) (by decide)⟩ (cC.pt hC hB hCL hCD hj (and_t (ckI_t hj) (pIn_nv (v := v) (m := 5) (by omega) (by decide))) (cmk_r hCL (vcM hB hj) hv).1 (cmk_r hCL (vcM hB hj) hv).2).1 (cC.pt hC hB hCL hCD hj (and_t (ckI_t hj) (pIn_nv (v := v) (m := 5) (by omega) (by decide))) (cmk_r hCL (vcM hB hj) hv).1 (cmk_r hCL (vcM hB hj) hv).2).2)
theorem w_stretch {l : Launch} {I : Nat → Nat → Int32} {J : Nat → Nat → Int64} {V : Nat → Nat → Option Nat} {N : Nat → Nat} {L : List Nat} {K : aj_K} {x b : Int32} {n : Nat} (hC : cI I n) (hB : bV V N L) (hCL : cL I) (hCD : cD V) (hXO : ckI x = false → K (.inr "java/lang/IndexOutOfBoundsException") I J V N L) (hXA : ckI x = true → pIn b 1 127 = false → K (.inr "java/lang/IllegalArgumentException") I J V N L) (hK : ∀ (r : Int32) I1 J1, (ckI x = true ∧ pIn b 1 127 = true) → cC I V I1 (nxS (ckI x && pIn b 1 127) x (strT b (cW I V (nn x))) (cW I V)) → r = anS x (strT b (cW I V (nn x))) (cW I V) → K (.inl (some (.int r))) I1 J1 V N L) : aj_M l yX3_stretch (aj_wc yX3_stretch cX3_stretch 4 (some .int)) (aj_rm 4 2 12) [] [.ref 20, .int x, .int b] I J V N L K := s_X3_stretch hB hXO hXA (fun j hj ej h1 h2 hz => by subst ej; rw [cstr_e hj] at hK; exact hK _ _ _ ⟨ckI_t hj, pIn_t h1 h2⟩ (cC.rf9 hC hB hCL hj (tRg_c hz)).1 (cC.rf9 (ok := false) hC hB hCL hj (tRg_c hz)).2) (fun j hj ej h1 h2 hz => by subst ej; rw [cstr_e hj] at hK; exact hK _ _ _ ⟨ckI_t hj, pIn_t h1 h2⟩ (cC.pt hC hB hCL hCD hj (and_t (ckI_t hj) (pIn_t h1 h2)) (pIn2 hz).1 (pIn2 hz).2).1 (cC.pt hC hB hCL hCD hj (and_t (ckI_t hj) (pIn_t h1 h2)) (pIn2 hz).1 (pIn2 hz).2).2)
theorem w_addSteps {l : Launch} {I : Nat → Nat → Int32} {J : Nat → Nat → Int64} {V : Nat → Nat → Option Nat} {N : Nat → Nat} {L : List Nat} {K : aj_K} {x y z : Int32} {n : Nat} (hC : cI I n) (hB : bV V N L) (hCL : cL I) (hCD : cD V) (hXO : (ckI x && (ckI y && ckI z)) = false → K (.inr "java/lang/IndexOutOfBoundsException") I J V N L) (hK : ∀ (r : Int32) I1 J1, (ckI x && (ckI y && ckI z)) = true → cC I V I1 (nxS (ckI x && (ckI y && ckI z)) z (addT (cW I V (nn x)) (cW I V (nn y))) (cW I V)) → r = anS z (addT (cW I V (nn x)) (cW I V (nn y))) (cW I V) → K (.inl (some (.int r))) I1 J1 V N L) : aj_M l yX3_addSteps (aj_wc yX3_addSteps cX3_addSteps 6 (some .int)) (aj_rm 4 3 18) [] [.ref 20, .int x, .int y, .int z] I J V N L K := s_X3_addSteps hB hXO (fun i j k hi hj hk ei ej ek hz => by subst ei; subst ej; subst ek; rw [cadd_e hi hj] at hK; exact hK _ _ _ (and_t (ckI_t hi) (and_t (ckI_t hj) (ckI_t hk))) (cC.rf9 hC hB hCL hk (tRg_c hz)).1 (cC.rf9 (ok := false) hC hB hCL hk (tRg_c hz)).2) (fun i j k hi hj hk ei ej ek hz => by subst ei; subst ej; subst ek; rw [cadd_e hi hj] at hK; exact hK _ _ _ (and_t (ckI_t hi) (and_t (ckI_t hj) (ckI_t hk))) (cC.pt hC hB hCL hCD hk (and_t (ckI_t hi) (and_t (ckI_t hj) (ckI_t hk))) (pIn2 hz).1 (pIn2 hz).2).1 (cC.pt hC hB hCL hCD hk (and_t (ckI_t hi) (and_t (ckI_t hj) (ckI_t hk))) (pIn2 hz).1 (pIn2 hz).2).2)
theorem w_takeStep {l : Launch} {I : Nat → Nat → Int32} {J : Nat → Nat → Int64} {V : Nat → Nat → Option Nat} {N : Nat → Nat} {L : List Nat} {K : aj_K} {x y z : Int32} {n : Nat} (hC : cI I n) (hB : bV V N L) (hCL : cL I) (hCD : cD V) (hVR : vR (kW I)) (hXO : (ckI x && (vOk (vN (kW I)) y && vOk (vN (kW I)) z)) = false → K (.inr "java/lang/IndexOutOfBoundsException") I J V N L) (hK : ∀ (r : Int32) I1 J1, (ckI x && (vOk (vN (kW I)) y && vOk (vN (kW I)) z)) = true → cC I V I1 (nxS (ckI x && (vOk (vN (kW I)) y && vOk (vN (kW I)) z)) x (stpT y z (kW I)) (cW I V)) → r = anS x (stpT y z (kW I)) (cW I V) → K (.inl (some (.int r))) I1 J1 V N L) : aj_M l yX3_takeStep (aj_wc yX3_takeStep cX3_takeStep 4 (some .int)) (aj_rm 4 3 18) [] [.ref 20, .int x, .int y, .int z] I J V N L K := s_X3_takeStep hC.1 hC.2.1 hB (fun hz => hXO (by rw [kW.nn hC]; exact hz)) (fun i j k hi hj hk ei ej ek => by subst ei; subst ej; subst ek; rw [cstp_e hC hj hk] at hK; exact hK _ _ _ (and_t (ckI_t hi) (and_t (kW.okt hC hj rfl) (kW.okt hC hk rfl))) (cC.pt hC hB hCL hCD hi (and_t (ckI_t hi) (and_t (kW.okt hC hj rfl) (kW.okt hC hk rfl))) (cstp_r hC hVR hj hk).1 (cstp_r hC hVR hj hk).2).1 (cC.pt hC hB hCL hCD hi (and_t (ckI_t hi) (and_t (kW.okt hC hj rfl) (kW.okt hC hk rfl))) (cstp_r hC hVR hj hk).1 (cstp_r hC hVR hj hk).2).2)
theorem w_across {l : Launch} {I : Nat → Nat → Int32} {J : Nat → Nat → Int64} {V : Nat → Nat → Option Nat} {N : Nat → Nat} {L : List Nat} {K : aj_K} {x : Int32} {n : Nat} (hC : cI I n) (hB : bV V N L) (hCL : cL I) (hXO : ckI x = false → K (.inr "java/lang/IndexOutOfBoundsException") I J V N L) (hK : ∀ (r : Int32) I1 J1, ckI x = true → cR I I1 → r = (cW I V (nn x)).1 → K (.inl (some (.int r))) I1 J1 V N L) : aj_M l yX3_across (aj_wc yX3_across cX3_across 2 (some .int)) (aj_rm 2 1 6) [] [.ref 20, .int x] I J V N L K := s_X3_across hB hXO (fun j hj ej => by subst ej; exact hK _ _ _ (ckI_t hj) (cR.rf hC) (by rw [cat_e hj]; rfl))
theorem w_up {l : Launch} {I : Nat → Nat → Int32} {J : Nat → Nat → Int64} {V : Nat → Nat → Option Nat} {N : Nat → Nat} {L : List Nat} {K : aj_K} {x : Int32} {n : Nat} (hC : cI I n) (hB : bV V N L) (hCL : cL I) (hXO : ckI x = false → K (.inr "java/lang/IndexOutOfBoundsException") I J V N L) (hK : ∀ (r : Int32) I1 J1, ckI x = true → cR I I1 → r = (cW I V (nn x)).2.1 → K (.inl (some (.int r))) I1 J1 V N L) : aj_M l yX3_up (aj_wc yX3_up cX3_up 2 (some .int)) (aj_rm 2 1 6) [] [.ref 20, .int x] I J V N L K := s_X3_up hB hXO (fun j hj ej => by subst ej; exact hK _ _ _ (ckI_t hj) (cR.rf hC) (by rw [cat_e hj]; rfl))
theorem w_signs {l : Launch} {I : Nat → Nat → Int32} {J : Nat → Nat → Int64} {V : Nat → Nat → Option Nat} {N : Nat → Nat} {L : List Nat} {K : aj_K} {x : Int32} {n : Nat} (hC : cI I n) (hB : bV V N L) (hCL : cL I) (hXO : ckI x = false → K (.inr "java/lang/IndexOutOfBoundsException") I J V N L) (hK : ∀ (r : Int32) I1 J1, ckI x = true → cR I I1 → r = (cW I V (nn x)).2.2 → K (.inl (some (.int r))) I1 J1 V N L) : aj_M l yX3_signs (aj_wc yX3_signs cX3_signs 2 (some .int)) (aj_rm 2 1 6) [] [.ref 20, .int x] I J V N L K := s_X3_signs hB hXO (fun j hj ej => by subst ej; exact hK _ _ _ (ckI_t hj) (cR.rf hC) (by rw [cat_e hj]; rfl))
theorem w_order {l : Launch} {I : Nat → Nat → Int32} {J : Nat → Nat → Int64} {V : Nat → Nat → Option Nat} {N : Nat → Nat} {L : List Nat} {K : aj_K} {x y w : Int32} {n : Nat} (hC : cI I n) (hB : bV V N L) (hCL : cL I) (hXO : (ckI x && ckI y) = false → K (.inr "java/lang/IndexOutOfBoundsException") I J V N L) (hXA : (ckI x && ckI y) = true → pIn w 0 2 = false → K (.inr "java/lang/IllegalArgumentException") I J V N L) (hK : ∀ (r : Int32) I1 J1, ((ckI x && ckI y) = true ∧ pIn w 0 2 = true) → cR I I1 → r = tO (cW I V (nn x)) (cW I V (nn y)) → K (.inl (some (.int r))) I1 J1 V N L) : aj_M l yX3_order (aj_wc yX3_order cX3_order 4 (some .int)) (aj_rm 4 3 18) [] [.ref 20, .int x, .int y, .int w] I J V N L K := s_X3_order hB hXO hXA (fun i j hi hj ei ej h1 h2 => by subst ei; subst ej; exact hK _ _ _ ⟨and_t (ckI_t hi) (ckI_t hj), pIn_t h1 h2⟩ (cR.rf hC) (cord_e hB hCL hi hj))
theorem w_eighth {l : Launch} {I : Nat → Nat → Int32} {J : Nat → Nat → Int64} {V : Nat → Nat → Option Nat} {N : Nat → Nat} {L : List Nat} {K : aj_K} {x : Int32} {n : Nat} (hC : cI I n) (hB : bV V N L) (hCL : cL I) (hXO : ckI x = false → K (.inr "java/lang/IndexOutOfBoundsException") I J V N L) (hK : ∀ (r : Int32) I1 J1, ckI x = true → cR I I1 → r = egR (cW I V (nn x)) → K (.inl (some (.int r))) I1 J1 V N L) : aj_M l yX3_eighth (aj_wc yX3_eighth cX3_eighth 4 (some .int)) (aj_rm 4 1 6) [] [.ref 20, .int x] I J V N L K := s_X3_eighth hCL hB hXO (fun j hj ej r I1 e hr => by subst ej; exact hK _ I1 _ (ckI_t hj) (cR.eq hC e (by decide) (by decide) (by decide) (by decide) (by decide) (by decide) (by decide)) (by rw [cat_e hj]; exact hr))
theorem w_like {l : Launch} {I : Nat → Nat → Int32} {J : Nat → Nat → Int64} {V : Nat → Nat → Option Nat} {N : Nat → Nat} {L : List Nat} {K : aj_K} {x y : Int32} {n : Nat} (hC : cI I n) (hB : bV V N L) (hCL : cL I) (hXO : (ckI x && ckI y) = false → K (.inr "java/lang/IndexOutOfBoundsException") I J V N L) (hK : ∀ (r : Int32) I1 J1, (ckI x && ckI y) = true → cR I I1 → r = bI (lkA (cW I V (nn x)) (cW I V (nn y))) → K (.inl (some (.int r))) I1 J1 V N L) : aj_M l yX3_like (aj_wc yX3_like cX3_like 3 (some .boolean)) (aj_rm 4 2 12) [] [.ref 20, .int x, .int y] I J V N L K := s_X3_like hB hXO (fun i j hi hj ei ej => by subst ei; subst ej; exact hK _ _ _ (and_t (ckI_t hi) (ckI_t hj)) (cR.rf hC) (clk_e hB hCL hi hj))
theorem w_same {l : Launch} {I : Nat → Nat → Int32} {J : Nat → Nat → Int64} {V : Nat → Nat → Option Nat} {N : Nat → Nat} {L : List Nat} {K : aj_K} {x y w : Int32} {n : Nat} (hC : cI I n) (hB : bV V N L) (hCL : cL I) (hXO : (ckI x && ckI y) = false → K (.inr "java/lang/IndexOutOfBoundsException") I J V N L) (hXA : (ckI x && ckI y) = true → pIn w 0 1 = false → K (.inr "java/lang/IllegalArgumentException") I J V N L) (hK : ∀ (r : Int32) I1 J1, ((ckI x && ckI y) = true ∧ pIn w 0 1 = true) → cR I I1 → r = bI (decide (tO (cW I V (nn x)) (cW I V (nn y)) = 0)) → K (.inl (some (.int r))) I1 J1 V N L) : aj_M l yX3_same (aj_wc yX3_same cX3_same 4 (some .boolean)) (aj_rm 4 3 18) [] [.ref 20, .int x, .int y, .int w] I J V N L K := s_X3_same hB hXO hXA (fun i j hi hj ei ej h1 h2 => by subst ei; subst ej; exact hK _ _ _ ⟨and_t (ckI_t hi) (ckI_t hj), pIn_t h1 h2⟩ (cR.rf hC) (csm_e hB hCL hi hj))
theorem w_lower {l : Launch} {I : Nat → Nat → Int32} {J : Nat → Nat → Int64} {V : Nat → Nat → Option Nat} {N : Nat → Nat} {L : List Nat} {K : aj_K} {x : Int32} {n : Nat} (hC : cI I n) (hB : bV V N L) (hCL : cL I) (hXO : ckI x = false → K (.inr "java/lang/IndexOutOfBoundsException") I J V N L) (hK : ∀ (r : Int32) I1 J1, ckI x = true → cR I I1 → r = lwA (cW I V (nn x)) → K (.inl (some (.int r))) I1 J1 V N L) : aj_M l yX3_lower (aj_wc yX3_lower cX3_lower 2 (some .int)) (aj_rm 4 1 6) [] [.ref 20, .int x] I J V N L K := s_X3_lower hB hXO (fun j hj ej => by subst ej; exact hK _ _ _ (ckI_t hj) (cR.rf hC) (clo_e hB hCL hj))
theorem w_find {l : Launch} {I : Nat → Nat → Int32} {J : Nat → Nat → Int64} {V : Nat → Nat → Option Nat} {N : Nat → Nat} {L : List Nat} {K : aj_K} {x : Int32} {b : Bool} {n : Nat} (hC : cI I n) (hB : bV V N L) (hCL : cL I) (hXO : ckI x = false → K (.inr "java/lang/IndexOutOfBoundsException") I J V N L) (hK : ∀ (r : Int32) I1 J1, ckI x = true → cR I I1 → r = nI (fdN b (cW I V) (nn x)) → K (.inl (some (.int r))) I1 J1 V N L) : aj_M l yX3_find (aj_wc yX3_find cX3_find 5 (some .int)) (aj_rm 4 1 6) [] [.ref 20, .int x, .int (bI b)] I J V N L K := s_X3_find hB hXO (fun c hc ec j hj hf => by subst ec; exact hK _ _ _ (ckI_t hc) (cR.rf hC) (congrArg nI (cfd_e hB hCL hc hf)))
theorem w_side {l : Launch} {I : Nat → Nat → Int32} {J : Nat → Nat → Int64} {V : Nat → Nat → Option Nat} {N : Nat → Nat} {L : List Nat} {K : aj_K} {x y : Int32} {n : Nat} (hC : cI I n) (hB : bV V N L) (hCL : cL I) (hXO : (ckI x && ckI y) = false → K (.inr "java/lang/IndexOutOfBoundsException") I J V N L) (hK : ∀ (r : Int32) I1 J1, (ckI x && ckI y) = true → cR I I1 → r = sdA (cW I V (nn x)) (cW I V (nn y)) → K (.inl (some (.int r))) I1 J1 V N L) : aj_M l yX3_side (aj_wc yX3_side cX3_side 3 (some .int)) (aj_rm 4 2 12) [] [.ref 20, .int x, .int y] I J V N L K := s_X3_side hB hXO (fun i j hi hj ei ej => by subst ei; subst ej; exact hK _ _ _ (and_t (ckI_t hi) (ckI_t hj)) (cR.rf hC) (csd_e hi hj))
theorem w_rule {l : Launch} {I : Nat → Nat → Int32} {J : Nat → Nat → Int64} {V : Nat → Nat → Option Nat} {N : Nat → Nat} {L : List Nat} {K : aj_K} {x w : Int32} {n : Nat} (hC : cI I n) (hB : bV V N L) (hCL : cL I) (hXO : ckI x = false → K (.inr "java/lang/IndexOutOfBoundsException") I J V N L) (hXA : ckI x = true → pIn w 0 7 = false → K (.inr "java/lang/IllegalArgumentException") I J V N L) (hK : ∀ (r : Int32) I1 J1, (ckI x = true ∧ pIn w 0 7 = true) → cR I I1 → r = ruA w (cW I V (nn x)) → K (.inl (some (.int r))) I1 J1 V N L) : aj_M l yX3_rule (aj_wc yX3_rule cX3_rule 4 (some .int)) (aj_rm 4 2 12) [] [.ref 20, .int x, .int w] I J V N L K := s_X3_rule hB hXO hXA (fun j hj ej h1 h2 => by subst ej; exact hK _ _ _ ⟨ckI_t hj, pIn_t h1 h2⟩ (cR.rf hC) (by rw [cat_e hj]; rfl))
theorem w_upper {l : Launch} {I : Nat → Nat → Int32} {J : Nat → Nat → Int64} {V : Nat → Nat → Option Nat} {N : Nat → Nat} {L : List Nat} {K : aj_K} {x : Int32} {n : Nat} (hC : cI I n) (hB : bV V N L) (hXO : K (.inr "java/lang/IndexOutOfBoundsException") I J V N L) (hK : ∀ (r : Int32) I1 J1, cR I I1 → K (.inl (some (.int r))) I1 J1 V N L) : aj_M l yX3_upper (aj_wc yX3_upper cX3_upper 2 (some .int)) (aj_rm 4 1 6) [] [.ref 20, .int x] I J V N L K := s_X3_upper hB (fun _ => hXO) (fun _ _ _ => hK _ _ _ (cR.rf hC))
theorem w_grade {l : Launch} {I : Nat → Nat → Int32} {J : Nat → Nat → Int64} {V : Nat → Nat → Option Nat} {N : Nat → Nat} {L : List Nat} {K : aj_K} {x d : Int32} {n : Nat} (hC : cI I n) (hB : bV V N L) (hXO : K (.inr "java/lang/IndexOutOfBoundsException") I J V N L) (hXA : K (.inr "java/lang/IllegalArgumentException") I J V N L) (hK : ∀ (r : Int32) I1 J1, cR I I1 → K (.inl (some (.int r))) I1 J1 V N L) : aj_M l yX3_grade (aj_wc yX3_grade cX3_grade 3 (some .int)) (aj_rm 4 2 12) [] [.ref 20, .int x, .int d] I J V N L K := s_X3_grade hB (fun _ => hXO) (fun _ _ => hXA) (fun _ _ _ _ _ => hK _ _ _ (cR.rf hC))
theorem w_addPlace {l : Launch} {I : Nat → Nat → Int32} {J : Nat → Nat → Int64} {V : Nat → Nat → Option Nat} {N : Nat → Nat} {L : List Nat} {K : aj_K} {x y : Int32} {n : Nat} (hC : cI I n) (hB : bV V N L) (hXA : vAt x y = false → K (.inr "java/lang/IllegalArgumentException") I J V N L) (hK : ∀ (r : Int32) I1 J1, vAt x y = true → cQ I I1 (nxAdd x y (kW I)) → r = anAdd x y (kW I) → K (.inl (some (.int r))) I1 J1 V N L) : aj_M l yX3_addPlace (aj_wc yX3_addPlace cX3_addPlace 3 (some .int)) (aj_rm 6 2 12) [] [.ref 20, .int x, .int y] I J V N L K := s_X3_addPlace hC.1 hC.2.1 hB (fun z => hXA (vAt_f z)) (fun h1 h2 h3 h4 hF => hK _ _ _ (vAt_t ⟨⟨h1, h2⟩, h3, h4⟩) (cQ.adf hC hF).1 (cQ.adf hC hF).2.symm) (fun h1 h2 h3 h4 h5 hF I1 e => hK _ I1 _ (vAt_t ⟨⟨h1, h2⟩, h3, h4⟩) (cQ.ad hC (vAt_t ⟨⟨h1, h2⟩, h3, h4⟩) h5 hF e).1 (cQ.ad hC (vAt_t ⟨⟨h1, h2⟩, h3, h4⟩) h5 hF e).2.symm)
theorem w_removePlace {l : Launch} {I : Nat → Nat → Int32} {J : Nat → Nat → Int64} {V : Nat → Nat → Option Nat} {N : Nat → Nat} {L : List Nat} {K : aj_K} {x : Int32} {n : Nat} (hC : cI I n) (hB : bV V N L) (hXO : vOk (vN (kW I)) x = false → K (.inr "java/lang/IndexOutOfBoundsException") I J V N L) (hK : ∀ (r : Int32) I1 J1, vOk (vN (kW I)) x = true → cQ I I1 (nxRem x (kW I)) → r = anRem (kW I) → K (.inl (some (.int r))) I1 J1 V N L) : aj_M l yX3_removePlace (aj_wc yX3_removePlace cX3_removePlace 2 (some .int)) (aj_rm 6 1 6) [] [.ref 20, .int x] I J V N L K := s_X3_removePlace hC.1 hC.2.1 hB (fun hf => hXO (kW.okf hC hf)) (fun i hi ep I1 e => hK _ I1 _ (kW.okt hC hi ep) (cQ.rm hC hi ep e).1 (cQ.rm hC hi ep e).2.symm)
theorem w_movePlace {l : Launch} {I : Nat → Nat → Int32} {J : Nat → Nat → Int64} {V : Nat → Nat → Option Nat} {N : Nat → Nat} {L : List Nat} {K : aj_K} {w x y : Int32} {n : Nat} (hC : cI I n) (hB : bV V N L) (hXO : vOk (vN (kW I)) w = false → K (.inr "java/lang/IndexOutOfBoundsException") I J V N L) (hXA : vOk (vN (kW I)) w = true → vAt x y = false → K (.inr "java/lang/IllegalArgumentException") I J V N L) (hK : ∀ (r : Int32) I1 J1, (vOk (vN (kW I)) w = true ∧ vAt x y = true) → cQ I I1 (nxMov w x y (kW I)) → r = anMov w x y (kW I) → K (.inl (some (.int r))) I1 J1 V N L) : aj_M l yX3_movePlace (aj_wc yX3_movePlace cX3_movePlace 5 (some .int)) (aj_rm 6 3 18) [] [.ref 20, .int w, .int x, .int y] I J V N L K := s_X3_movePlace hC.1 hC.2.1 hC.2.2 hB (fun hf => hXO (kW.okf hC hf)) (fun i hi ep hz => hXA (kW.okt hC hi ep) (vAt_f hz)) (fun i hi ep h1 h2 h3 h4 hF => hK _ _ _ ⟨kW.okt hC hi ep, vAt_t ⟨⟨h1, h2⟩, h3, h4⟩⟩ (cQ.mof hC hi ep hF).1 (cQ.mof hC hi ep hF).2.symm) (fun i hi ep h1 h2 h3 h4 hF I1 e => hK _ I1 _ ⟨kW.okt hC hi ep, vAt_t ⟨⟨h1, h2⟩, h3, h4⟩⟩ (cQ.mo hC hi ep (vAt_t ⟨⟨h1, h2⟩, h3, h4⟩) hF e).1 (cQ.mo hC hi ep (vAt_t ⟨⟨h1, h2⟩, h3, h4⟩) hF e).2.symm)
theorem w_centre {l : Launch} {I : Nat → Nat → Int32} {J : Nat → Nat → Int64} {V : Nat → Nat → Option Nat} {N : Nat → Nat} {L : List Nat} {K : aj_K} {x y : Int32} {n : Nat} (hC : cI I n) (hB : bV V N L) (hXA : vAt x y = false → K (.inr "java/lang/IllegalArgumentException") I J V N L) (hK : ∀ (r : Int32) I1 J1, vAt x y = true → cQ I I1 (nxCe x y (kW I)) → r = anCe x y (kW I) → K (.inl (some (.int r))) I1 J1 V N L) : aj_M l yX3_centre (aj_wc yX3_centre cX3_centre 3 (some .int)) (aj_rm 6 2 12) [] [.ref 20, .int x, .int y] I J V N L K := s_X3_centre hC.1 hC.2.1 hC.2.2 hB (fun z => hXA (vAt_f z)) (fun h1 h2 h3 h4 I1 e => hK _ I1 _ (vAt_t ⟨⟨h1, h2⟩, h3, h4⟩) (cQ.ce hC (vAt_t ⟨⟨h1, h2⟩, h3, h4⟩) e) rfl)
theorem w_turnPlaces {l : Launch} {I : Nat → Nat → Int32} {J : Nat → Nat → Int64} {V : Nat → Nat → Option Nat} {N : Nat → Nat} {L : List Nat} {K : aj_K}  {n : Nat} (hC : cI I n) (hB : bV V N L) (hK : ∀ (r : Int32) I1 J1, cQ I I1 (nxTu (kW I)) → K (.inl (some (.int r))) I1 J1 V N L) : aj_M l yX3_turnPlaces (aj_wc yX3_turnPlaces cX3_turnPlaces 1 (some .int)) (aj_rm 6 0 0) [] [.ref 20] I J V N L K := s_X3_turnPlaces hC.1 hC.2.1 hB (fun I1 r e => hK r I1 _ (cQ.tu hC e))
theorem w_mirrorPlaces {l : Launch} {I : Nat → Nat → Int32} {J : Nat → Nat → Int64} {V : Nat → Nat → Option Nat} {N : Nat → Nat} {L : List Nat} {K : aj_K}  {n : Nat} (hC : cI I n) (hB : bV V N L) (hK : ∀ (r : Int32) I1 J1, cQ I I1 (nxMi (kW I)) → K (.inl (some (.int r))) I1 J1 V N L) : aj_M l yX3_mirrorPlaces (aj_wc yX3_mirrorPlaces cX3_mirrorPlaces 1 (some .int)) (aj_rm 6 0 0) [] [.ref 20] I J V N L K := s_X3_mirrorPlaces hC.1 hC.2.1 hB (fun I1 r e => hK r I1 _ (cQ.mi hC e))
theorem w_places {l : Launch} {I : Nat → Nat → Int32} {J : Nat → Nat → Int64} {V : Nat → Nat → Option Nat} {N : Nat → Nat} {L : List Nat} {K : aj_K}  {n : Nat} (hC : cI I n) (hB : bV V N L) (hK : ∀ (r : Int32) I1 J1, True → cR I I1 → r = nI (vN (kW I)) → K (.inl (some (.int r))) I1 J1 V N L) : aj_M l yX3_places (aj_wc yX3_places cX3_places 1 (some .int)) (aj_rm 2 0 0) [] [.ref 20] I J V N L K := s_X3_places hC.1 hC.2.1 hB (hK _ _ _ True.intro (cR.rf hC) (by rw [kW.nn hC]))
theorem w_place {l : Launch} {I : Nat → Nat → Int32} {J : Nat → Nat → Int64} {V : Nat → Nat → Option Nat} {N : Nat → Nat} {L : List Nat} {K : aj_K} {x : Int32} {b : Bool} {n : Nat} (hC : cI I n) (hB : bV V N L) (hXO : vOk (vN (kW I)) x = false → K (.inr "java/lang/IndexOutOfBoundsException") I J V N L) (hK : ∀ (r : Int32) I1 J1, vOk (vN (kW I)) x = true → cR I I1 → r = anPl x b (kW I) → K (.inl (some (.int r))) I1 J1 V N L) : aj_M l yX3_place (aj_wc yX3_place cX3_place 3 (some .int)) (aj_rm 2 1 6) [] [.ref 20, .int x, .int (bI b)] I J V N L K := s_X3_place hC.1 hC.2.1 hB (fun hf => hXO (kW.okf hC hf)) (fun i hi ep => hK _ _ _ (kW.okt hC hi ep) (cR.rf hC) (kW.pl hC hi ep).symm)
theorem w_centreAt {l : Launch} {I : Nat → Nat → Int32} {J : Nat → Nat → Int64} {V : Nat → Nat → Option Nat} {N : Nat → Nat} {L : List Nat} {K : aj_K} {b : Bool} {n : Nat} (hC : cI I n) (hB : bV V N L) (hK : ∀ (r : Int32) I1 J1, cR I I1 → K (.inl (some (.int r))) I1 J1 V N L) : aj_M l yX3_centreAt (aj_wc yX3_centreAt cX3_centreAt 2 (some .int)) (aj_rm 2 0 0) [] [.ref 20, .int (bI b)] I J V N L K := s_X3_centreAt hB (hK _ _ _ (cR.rf hC))
theorem w_bearing {l : Launch} {I : Nat → Nat → Int32} {J : Nat → Nat → Int64} {V : Nat → Nat → Option Nat} {N : Nat → Nat} {L : List Nat} {K : aj_K} {x y d : Int32} {n : Nat} (hC : cI I n) (hB : bV V N L) (hD : vD (kW I)) (hVR : vR (kW I)) (hXO : (vOk (vN (kW I)) x && vOk (vN (kW I)) y) = false → K (.inr "java/lang/IndexOutOfBoundsException") I J V N L) (hXA : (vOk (vN (kW I)) x && vOk (vN (kW I)) y) = true → pIn d 0 29 = false → K (.inr "java/lang/IllegalArgumentException") I J V N L) (hK : ∀ (r : Int32) I1 J1, ((vOk (vN (kW I)) x && vOk (vN (kW I)) y) = true ∧ pIn d 0 29 = true) → cR I I1 → r = anBe x y d (kW I) → K (.inl (some (.int r))) I1 J1 V N L) : aj_M l yX3_bearing (aj_wc yX3_bearing cX3_bearing 4 (some .int)) (aj_rm 4 3 18) [] [.ref 20, .int x, .int y, .int d] I J V N L K := s_X3_bearing hC.1 hC.2.1 hB (fun hz => hXO (by rw [kW.nn hC]; exact hz)) (fun h hz => hXA (by rw [kW.nn hC]; exact h) hz) (fun i hi ei ej h1 h2 => hK _ _ _ ⟨and_t (kW.okt hC hi ei) (kW.okt hC hi ej), pIn_t h1 h2⟩ (cR.rf hC) (kW.be9 ei ej).symm) (fun i j hi hj hne ei ej h1 h2 => hK _ _ _ ⟨and_t (kW.okt hC hi ei) (kW.okt hC hj ej), pIn_t h1 h2⟩ (cR.eq hC (stB_eq (S := [163]) (by decide)) (by decide) (by decide) (by decide) (by decide) (by decide) (by decide) (by decide)) (kW.be hC hD hVR hi hj hne ei ej h1 h2).symm)
theorem w_bearingOrder {l : Launch} {I : Nat → Nat → Int32} {J : Nat → Nat → Int64} {V : Nat → Nat → Option Nat} {N : Nat → Nat} {L : List Nat} {K : aj_K} {x y z : Int32} {n : Nat} (hC : cI I n) (hB : bV V N L) (hD : vD (kW I)) (hXO : bAll3 x y z (kW I) = false → K (.inr "java/lang/IndexOutOfBoundsException") I J V N L) (hK : ∀ (r : Int32) I1 J1, bAll3 x y z (kW I) = true → cR I I1 → r = anBO x y z (kW I) → K (.inl (some (.int r))) I1 J1 V N L) : aj_M l yX3_bearingOrder (aj_wc yX3_bearingOrder cX3_bearingOrder 4 (some .int)) (aj_rm 4 3 18) [] [.ref 20, .int x, .int y, .int z] I J V N L K := s_X3_bearingOrder hC.1 hC.2.1 hB (fun hf => hXO (all3_f (hf.elim (fun a => Or.inl (kW.okf hC a)) (fun a => a.elim (fun b => Or.inr (Or.inl (kW.okf hC b))) (fun b => Or.inr (Or.inr (kW.okf hC b))))))) (fun i j k hi hj hk ei ej ek hz => hK _ _ _ (all3_t (kW.okt hC hi ei) (kW.okt hC hj ej) (kW.okt hC hk ek)) (cR.rf hC) (kW.bo9 hC hi hj hk ei ej ek hz).symm) (fun i j k hi hj hk ei ej ek h1 h2 => hK _ _ _ (all3_t (kW.okt hC hi ei) (kW.okt hC hj ej) (kW.okt hC hk ek)) (cR.eq hC (tS_eq (S := sX) (by decide) (by decide)) (by decide) (by decide) (by decide) (by decide) (by decide) (by decide) (by decide)) (kW.bo hC hD hi hj hk ei ej ek h1 h2).symm)
theorem w_left {l : Launch} {I : Nat → Nat → Int32} {J : Nat → Nat → Int64} {V : Nat → Nat → Option Nat} {N : Nat → Nat} {L : List Nat} {K : aj_K} {x y z : Int32} {n : Nat} (hC : cI I n) (hB : bV V N L) (hXO : bAll3 x y z (kW I) = false → K (.inr "java/lang/IndexOutOfBoundsException") I J V N L) (hK : ∀ (r : Int32) I1 J1, bAll3 x y z (kW I) = true → cR I I1 → r = anLe x y z (kW I) → K (.inl (some (.int r))) I1 J1 V N L) : aj_M l yX3_left (aj_wc yX3_left cX3_left 4 (some .int)) (aj_rm 4 3 18) [] [.ref 20, .int x, .int y, .int z] I J V N L K := s_X3_left hC.1 hC.2.1 hB (fun hf => hXO (all3_f (hf.elim (fun a => Or.inl (kW.okf hC a)) (fun a => a.elim (fun b => Or.inr (Or.inl (kW.okf hC b))) (fun b => Or.inr (Or.inr (kW.okf hC b))))))) (fun i j k hi hj hk ei ej ek hz => hK _ _ _ (all3_t (kW.okt hC hi ei) (kW.okt hC hj ej) (kW.okt hC hk ek)) (cR.rf hC) (kW.le9 hC hi hj hk ei ej ek hz).symm) (fun i j k hi hj hk ei ej ek h1 h2 => hK _ _ _ (all3_t (kW.okt hC hi ei) (kW.okt hC hj ej) (kW.okt hC hk ek)) (cR.rf hC) (kW.le hC hi hj hk ei ej ek h1 h2).symm)
theorem w_roundCount {l : Launch} {I : Nat → Nat → Int32} {J : Nat → Nat → Int64} {V : Nat → Nat → Option Nat} {N : Nat → Nat} {L : List Nat} {K : aj_K}  {n : Nat} (hC : cI I n) (hB : bV V N L) (hVR : vR (kW I)) (hVC : vRc (kW I)) (hK : ∀ (r : Int32) I1 J1, True → cR I I1 → r = anRc (kW I) → K (.inl (some (.int r))) I1 J1 V N L) : aj_M l yX3_roundCount (aj_wc yX3_roundCount cX3_roundCount 1 (some .int)) (aj_rm 2 0 0) [] [.ref 20] I J V N L K := s_X3_roundCount hC.1 hC.2.2 hB (fun _ _ _ e => hK _ _ _ True.intro (cR.rf hC) (crc_e hC hVR hVC e))
theorem w_hullCount {l : Launch} {I : Nat → Nat → Int32} {J : Nat → Nat → Int64} {V : Nat → Nat → Option Nat} {N : Nat → Nat} {L : List Nat} {K : aj_K}  {n : Nat} (hC : cI I n) (hB : bV V N L) (hK : ∀ (r : Int32) I1 J1, cR I I1 → K (.inl (some (.int r))) I1 J1 V N L) : aj_M l yX3_hullCount (aj_wc yX3_hullCount cX3_hullCount 1 (some .int)) (aj_rm 2 0 0) [] [.ref 20] I J V N L K := s_X3_hullCount hC.1 hC.2.2 hB (fun _ _ _ => hK _ _ _ (cR.rf hC))
theorem w_isStar {l : Launch} {I : Nat → Nat → Int32} {J : Nat → Nat → Int64} {V : Nat → Nat → Option Nat} {N : Nat → Nat} {L : List Nat} {K : aj_K}  {n : Nat} (hC : cI I n) (hB : bV V N L) (hK : ∀ (r : Int32) I1 J1, cR I I1 → K (.inl (some (.int r))) I1 J1 V N L) : aj_M l yX3_isStar (aj_wc yX3_isStar cX3_isStar 1 (some .boolean)) (aj_rm 4 0 0) [] [.ref 20] I J V N L K := s_X3_isStar hC.1 hC.2.2 hB (fun _ I1 e => hK _ I1 _ (cR.eq hC e (by decide) (by decide) (by decide) (by decide) (by decide) (by decide) (by decide)))
theorem w_starArea {l : Launch} {I : Nat → Nat → Int32} {J : Nat → Nat → Int64} {V : Nat → Nat → Option Nat} {N : Nat → Nat} {L : List Nat} {K : aj_K}  {n : Nat} (hC : cI I n) (hB : bV V N L) (hK : ∀ (r : Int32) I1 J1, cR I I1 → K (.inl (some (.int r))) I1 J1 V N L) : aj_M l yX3_starArea (aj_wc yX3_starArea cX3_starArea 1 (some .int)) (aj_rm 4 0 0) [] [.ref 20] I J V N L K := s_X3_starArea hC.1 hC.2.2 hB (fun _ I1 e => hK _ I1 _ (cR.eq hC e (by decide) (by decide) (by decide) (by decide) (by decide) (by decide) (by decide)))
theorem w_hullArea {l : Launch} {I : Nat → Nat → Int32} {J : Nat → Nat → Int64} {V : Nat → Nat → Option Nat} {N : Nat → Nat} {L : List Nat} {K : aj_K}  {n : Nat} (hC : cI I n) (hB : bV V N L) (hK : ∀ (r : Int32) I1 J1, cR I I1 → K (.inl (some (.int r))) I1 J1 V N L) : aj_M l yX3_hullArea (aj_wc yX3_hullArea cX3_hullArea 1 (some .int)) (aj_rm 2 0 0) [] [.ref 20] I J V N L K := s_X3_hullArea hC.1 hC.2.2 hB (fun _ => hK _ _ _ (cR.rf hC))
theorem w_rounds {l : Launch} {I : Nat → Nat → Int32} {J : Nat → Nat → Int64} {V : Nat → Nat → Option Nat} {N : Nat → Nat} {L : List Nat} {K : aj_K}  {n : Nat} (hC : cI I n) (hB : bV V N L) (hK : ∀ (r : Int32) I1 J1, True → cR I I1 → r = anRo (kW I) → K (.inl (some (.int r))) I1 J1 V N L) : aj_M l yX3_rounds (aj_wc yX3_rounds cX3_rounds 1 (some .int)) (aj_rm 3 0 0) [] [.ref 20] I J V N L K := s_X3_rounds hC.1 hC.2.1 hB (hK _ _ _ True.intro (cR.rf hC) rfl)
theorem w_house {l : Launch} {I : Nat → Nat → Int32} {J : Nat → Nat → Int64} {V : Nat → Nat → Option Nat} {N : Nat → Nat} {L : List Nat} {K : aj_K} {x : Int32} {n : Nat} (hC : cI I n) (hB : bV V N L) (hXA : K (.inr "java/lang/IllegalArgumentException") I J V N L) (hK : ∀ (r : Int32) I1 J1, cR I I1 → K (.inl (some (.int r))) I1 J1 V N L) : aj_M l yX3_house (aj_wc yX3_house cX3_house 2 (some .int)) (aj_rm 1 1 6) [] [.ref 20, .int x] I J V N L K := s_X3_house hB hXA (fun _ _ _ => hK _ _ _ (cR.rf hC))
theorem w_isSound {l : Launch} {I : Nat → Nat → Int32} {J : Nat → Nat → Int64} {V : Nat → Nat → Option Nat} {N : Nat → Nat} {L : List Nat} {K : aj_K}  {n : Nat} (hC : cI I n) (hB : bV V N L) (hK : ∀ (r : Int32) I1 J1, cR I I1 → K (.inl (some (.int r))) I1 J1 V N L) : aj_M l yX3_isSound (aj_wc yX3_isSound cX3_isSound 1 (some .boolean)) (aj_rm 6 0 0) [] [.ref 20] I J V N L K := s_X3_isSound hC.1 hC.2.1 hC.2.2 hB (fun _ J1 I1 _ e => hK _ I1 J1 (cR.eq hC e (by decide) (by decide) (by decide) (by decide) (by decide) (by decide) (by decide)))
theorem w_digest {l : Launch} {I : Nat → Nat → Int32} {J : Nat → Nat → Int64} {V : Nat → Nat → Option Nat} {N : Nat → Nat} {L : List Nat} {K : aj_K}  {n : Nat} (hC : cI I n) (hB : bV V N L) (hK : ∀ (r : Int64) I1 J1, cR I I1 → K (.inl (some (.long r))) I1 J1 V N L) : aj_M l yX3_digest (aj_wc yX3_digest cX3_digest 5 (some .long)) (aj_rm 7 0 0) [] [.ref 20] I J V N L K := s_X3_digest hC.1 hC.2.1 hC.2.2 hB (fun _ J1 I1 _ e => hK _ I1 J1 (cR.eq hC e (by decide) (by decide) (by decide) (by decide) (by decide) (by decide) (by decide)))
set_option maxRecDepth 100000 in
set_option maxHeartbeats 800000 in
theorem s_L_put {l : Launch} {I : Nat → Nat → Int32} {J : Nat → Nat → Int64} {V : Nat → Nat → Option Nat} {N : Nat → Nat} {L : List Nat} {K : aj_K} {x a u s : Int32} {n : Nat} (hC : cI I n) (hB : bV V N L) (h15 : 15 ∉ L) (hV15 : ∀ i ∈ L, ∀ j, V i j ≠ some 15) (hCL : cL I) (hCD : cD V) (hK : ∀ (k : Int32) I1 J1, cC I V I1 (nxS (ckI x && okP a u s) x (qB a u s) (cW I V)) → k = cd2 (ckI x) (okP a u s) → (cd2 (ckI x) (okP a u s) = 0 → J1 21 0 = (anS x (qB a u s) (cW I V)).toInt64) → K (.inl (some (.int k))) I1 J1 V N L) : aj_M l yL_put (Cond.codeWith yL_put cL_put 7 (some .int) [(0, 15, 18, 19), (0, 15, 22, 21)] :: aj_TB) (aj_rm 5 4 24) [15] [.ref 20, .int x, .int a, .int u, .int s, .ref 21] I J V N L K := by
  refine aj_introW (tbl := t_L_put) (lv0 := [some (.ref 20), some (.int x), some (.int a), some (.int u), some (.int s), some (.ref 21), none]) (by decide) T_L_put (fun i h => by cases List.mem_singleton.mp h; unfold aj_sp; decide) (Nat.le_of_ble_eq_true rfl) rfl ?_
  intro G hl C Z HT hGL hGF
  have C : aj_C G cL_put t_L_put RL (aj_rm 5 4 24) 7 := C
  refine y_aload5 (q := 2) C 0 rfl rfl ?_
  refine y_aload0 (q := 3) C 1 rfl rfl ?_
  refine y_iload1 (q := 4) C 2 rfl rfl ?_
  refine y_iload2 (q := 5) C 3 rfl rfl ?_
  refine y_iload3 (q := 6) C 4 rfl rfl ?_
  refine y_iload4 (q := 8) C 5 rfl rfl ?_
  refine y_dV4 (q := 11) C 6 rfl rfl ml_RL_7 cd_X3_put cv_X3_put ⟨by decide, rfl⟩ (bL hB _ (by decide)) (by decide) (by decide) (Nat.le_of_ble_eq_true rfl) (bc' := 0) (bs' := 0) rfl rfl (w_put hC hB hCL hCD (fun hz => ?_) (fun hz0 hz => ?_) ?_)
  · show aj_XT G 8 _ _ _ _ _ _ _ _ _
    refine x_catch1 (a := 0) (b := 15) (hp := 18) (ct := 19) C HT ⟨by decide, by decide⟩ (by decide) cl_L_19 (by decide) (by rw [hGF]; exact List.mem_singleton_self _) h15 hV15 (by simp) ?_
    have hR : cC I V I (nxS (ckI x && okP a u s) x (qB a u s) (cW I V)) := cC.no (cR.rf hC) hB hCL (nxS_f (and_f1 hz))
    have hc : (1 : Int32) = cd2 (ckI x) (okP a u s) := (cd2_1 hz).symm
    refine y_astore6 (q := 20) C 10 rfl rfl (Nat.le_of_ble_eq_true rfl) rfl ?_
    refine x_iconst (q := 21) C 11 (n := (1)) (v := (1)) rfl rfl rfl ?_
    exact x_ireturn C Z 12 rfl rfl rfl (by first | exact hK _ _ _ hR hc (fun z => absurd (hc.trans z) (by decide)) | exact hK _ _ _ hR hc (fun _ => by rw [← hr]; exact aj_u_s _ _ _ _) | exact hK _ _ _ hR hc (fun _ => lb_0 hr (by assumption)) | exact hK _ _ _ hR hc (fun _ => lb_1 hr (by assumption)))
  · show aj_XT G 8 _ _ _ _ _ _ _ _ _
    refine x_catch2 (a := 0) (b := 15) (hp := 22) (ct := 21) (a1 := 0) (b1 := 15) (hp1 := 18) (ct1 := 19) C HT ⟨by decide, by decide⟩ ⟨by decide, by decide⟩ cl_L_21 cl_L_19 (by rw [hGF]; exact List.mem_singleton_self _) h15 hV15 (by simp) ?_
    have hR : cC I V I (nxS (ckI x && okP a u s) x (qB a u s) (cW I V)) := cC.no (cR.rf hC) hB hCL (nxS_f (and_f2 hz))
    have hc : (2 : Int32) = cd2 (ckI x) (okP a u s) := (cd2_2 hz0 hz).symm
    refine y_astore6 (q := 24) C 13 rfl rfl (Nat.le_of_ble_eq_true rfl) rfl ?_
    refine x_iconst (q := 25) C 14 (n := (2)) (v := (2)) rfl rfl rfl ?_
    exact x_ireturn C Z 15 rfl rfl rfl (by first | exact hK _ _ _ hR hc (fun z => absurd (hc.trans z) (by decide)) | exact hK _ _ _ hR hc (fun _ => by rw [← hr]; exact aj_u_s _ _ _ _) | exact hK _ _ _ hR hc (fun _ => lb_0 hr (by assumption)) | exact hK _ _ _ hR hc (fun _ => lb_1 hr (by assumption)))
  · intro r I1 J0 hk0 hR hr
    have hc : (0 : Int32) = cd2 (ckI x) (okP a u s) := (cd2_t hk0.1 hk0.2).symm
    show aj_X G 11 _ _ _ _ _ _ _ _ _
    refine x_i2l (q := 12) C 7 rfl rfl ?_
    refine x_putJN (q := 15) C 8 rfl rfl fl_RL_13 rfl rfl (by first | assumption | rfl | decide | exact bL hB _ (by decide)) (by first | assumption | rfl | decide | exact bL hB _ (by decide)) ?_
    refine x_goto (t := 26) C 9 rfl (by decide) ?_
    refine x_iconst (q := 27) C 16 (n := (0)) (v := (0)) rfl rfl rfl ?_
    exact x_ireturn C Z 17 rfl rfl rfl (by first | exact hK _ _ _ hR hc (fun z => absurd (hc.trans z) (by decide)) | exact hK _ _ _ hR hc (fun _ => by rw [← hr]; exact aj_u_s _ _ _ _) | exact hK _ _ _ hR hc (fun _ => lb_0 hr (by assumption)) | exact hK _ _ _ hR hc (fun _ => lb_1 hr (by assumption)))
set_option maxRecDepth 100000 in
set_option maxHeartbeats 800000 in
theorem s_L_make {l : Launch} {I : Nat → Nat → Int32} {J : Nat → Nat → Int64} {V : Nat → Nat → Option Nat} {N : Nat → Nat} {L : List Nat} {K : aj_K} {x w : Int32} {n : Nat} (hC : cI I n) (hB : bV V N L) (h15 : 15 ∉ L) (hV15 : ∀ i ∈ L, ∀ j, V i j ≠ some 15) (hCL : cL I) (hCD : cD V) (hK : ∀ (k : Int32) I1 J1, cC I V I1 (nxS (ckI x && pIn w 0 5) x (mkT (nn w) (cW I V (nn x))) (cW I V)) → k = cd2 (ckI x) (pIn w 0 5) → (cd2 (ckI x) (pIn w 0 5) = 0 → J1 21 0 = (anS x (mkT (nn w) (cW I V (nn x))) (cW I V)).toInt64) → K (.inl (some (.int k))) I1 J1 V N L) : aj_M l yL_make (Cond.codeWith yL_make cL_make 5 (some .int) [(0, 11, 14, 19), (0, 11, 18, 21)] :: aj_TB) (aj_rm 5 2 12) [15] [.ref 20, .int x, .int w, .ref 21] I J V N L K := by
  refine aj_introW (tbl := t_L_make) (lv0 := [some (.ref 20), some (.int x), some (.int w), some (.ref 21), none]) (by decide) T_L_make (fun i h => by cases List.mem_singleton.mp h; unfold aj_sp; decide) (Nat.le_of_ble_eq_true rfl) rfl ?_
  intro G hl C Z HT hGL hGF
  have C : aj_C G cL_make t_L_make RL (aj_rm 5 2 12) 5 := C
  refine y_aload3 (q := 1) C 0 rfl rfl ?_
  refine y_aload0 (q := 2) C 1 rfl rfl ?_
  refine y_iload1 (q := 3) C 2 rfl rfl ?_
  refine y_iload2 (q := 4) C 3 rfl rfl ?_
  refine y_dV2 (q := 7) C 4 rfl rfl ml_RL_23 cd_X3_make cv_X3_make ⟨by decide, rfl⟩ (bL hB _ (by decide)) (by decide) (by decide) (Nat.le_of_ble_eq_true rfl) (bc' := 0) (bs' := 0) rfl rfl (w_make hC hB hCL hCD (fun hz => ?_) (fun hz0 hz => ?_) ?_)
  · show aj_XT G 4 _ _ _ _ _ _ _ _ _
    refine x_catch1 (a := 0) (b := 11) (hp := 14) (ct := 19) C HT ⟨by decide, by decide⟩ (by decide) cl_L_19 (by decide) (by rw [hGF]; exact List.mem_singleton_self _) h15 hV15 (by simp) ?_
    have hR : cC I V I (nxS (ckI x && pIn w 0 5) x (mkT (nn w) (cW I V (nn x))) (cW I V)) := cC.no (cR.rf hC) hB hCL (nxS_f (and_f1 hz))
    have hc : (1 : Int32) = cd2 (ckI x) (pIn w 0 5) := (cd2_1 hz).symm
    refine y_astore4 (q := 16) C 8 rfl rfl (Nat.le_of_ble_eq_true rfl) rfl ?_
    refine x_iconst (q := 17) C 9 (n := (1)) (v := (1)) rfl rfl rfl ?_
    exact x_ireturn C Z 10 rfl rfl rfl (by first | exact hK _ _ _ hR hc (fun z => absurd (hc.trans z) (by decide)) | exact hK _ _ _ hR hc (fun _ => by rw [← hr]; exact aj_u_s _ _ _ _) | exact hK _ _ _ hR hc (fun _ => lb_0 hr (by assumption)) | exact hK _ _ _ hR hc (fun _ => lb_1 hr (by assumption)))
  · show aj_XT G 4 _ _ _ _ _ _ _ _ _
    refine x_catch2 (a := 0) (b := 11) (hp := 18) (ct := 21) (a1 := 0) (b1 := 11) (hp1 := 14) (ct1 := 19) C HT ⟨by decide, by decide⟩ ⟨by decide, by decide⟩ cl_L_21 cl_L_19 (by rw [hGF]; exact List.mem_singleton_self _) h15 hV15 (by simp) ?_
    have hR : cC I V I (nxS (ckI x && pIn w 0 5) x (mkT (nn w) (cW I V (nn x))) (cW I V)) := cC.no (cR.rf hC) hB hCL (nxS_f (and_f2 hz))
    have hc : (2 : Int32) = cd2 (ckI x) (pIn w 0 5) := (cd2_2 hz0 hz).symm
    refine y_astore4 (q := 20) C 11 rfl rfl (Nat.le_of_ble_eq_true rfl) rfl ?_
    refine x_iconst (q := 21) C 12 (n := (2)) (v := (2)) rfl rfl rfl ?_
    exact x_ireturn C Z 13 rfl rfl rfl (by first | exact hK _ _ _ hR hc (fun z => absurd (hc.trans z) (by decide)) | exact hK _ _ _ hR hc (fun _ => by rw [← hr]; exact aj_u_s _ _ _ _) | exact hK _ _ _ hR hc (fun _ => lb_0 hr (by assumption)) | exact hK _ _ _ hR hc (fun _ => lb_1 hr (by assumption)))
  · intro r I1 J0 hk0 hR hr
    have hc : (0 : Int32) = cd2 (ckI x) (pIn w 0 5) := (cd2_t hk0.1 hk0.2).symm
    show aj_X G 7 _ _ _ _ _ _ _ _ _
    refine x_i2l (q := 8) C 5 rfl rfl ?_
    refine x_putJN (q := 11) C 6 rfl rfl fl_RL_13 rfl rfl (by first | assumption | rfl | decide | exact bL hB _ (by decide)) (by first | assumption | rfl | decide | exact bL hB _ (by decide)) ?_
    refine x_goto (t := 22) C 7 rfl (by decide) ?_
    refine x_iconst (q := 23) C 14 (n := (0)) (v := (0)) rfl rfl rfl ?_
    exact x_ireturn C Z 15 rfl rfl rfl (by first | exact hK _ _ _ hR hc (fun z => absurd (hc.trans z) (by decide)) | exact hK _ _ _ hR hc (fun _ => by rw [← hr]; exact aj_u_s _ _ _ _) | exact hK _ _ _ hR hc (fun _ => lb_0 hr (by assumption)) | exact hK _ _ _ hR hc (fun _ => lb_1 hr (by assumption)))
set_option maxRecDepth 100000 in
set_option maxHeartbeats 800000 in
theorem s_L_stretch {l : Launch} {I : Nat → Nat → Int32} {J : Nat → Nat → Int64} {V : Nat → Nat → Option Nat} {N : Nat → Nat} {L : List Nat} {K : aj_K} {x b : Int32} {n : Nat} (hC : cI I n) (hB : bV V N L) (h15 : 15 ∉ L) (hV15 : ∀ i ∈ L, ∀ j, V i j ≠ some 15) (hCL : cL I) (hCD : cD V) (hK : ∀ (k : Int32) I1 J1, cC I V I1 (nxS (ckI x && pIn b 1 127) x (strT b (cW I V (nn x))) (cW I V)) → k = cd2 (ckI x) (pIn b 1 127) → (cd2 (ckI x) (pIn b 1 127) = 0 → J1 21 0 = (anS x (strT b (cW I V (nn x))) (cW I V)).toInt64) → K (.inl (some (.int k))) I1 J1 V N L) : aj_M l yL_stretch (Cond.codeWith yL_stretch cL_stretch 5 (some .int) [(0, 11, 14, 19), (0, 11, 18, 21)] :: aj_TB) (aj_rm 5 2 12) [15] [.ref 20, .int x, .int b, .ref 21] I J V N L K := by
  refine aj_introW (tbl := t_L_stretch) (lv0 := [some (.ref 20), some (.int x), some (.int b), some (.ref 21), none]) (by decide) T_L_stretch (fun i h => by cases List.mem_singleton.mp h; unfold aj_sp; decide) (Nat.le_of_ble_eq_true rfl) rfl ?_
  intro G hl C Z HT hGL hGF
  have C : aj_C G cL_stretch t_L_stretch RL (aj_rm 5 2 12) 5 := C
  refine y_aload3 (q := 1) C 0 rfl rfl ?_
  refine y_aload0 (q := 2) C 1 rfl rfl ?_
  refine y_iload1 (q := 3) C 2 rfl rfl ?_
  refine y_iload2 (q := 4) C 3 rfl rfl ?_
  refine y_dV2 (q := 7) C 4 rfl rfl ml_RL_27 cd_X3_stretch cv_X3_stretch ⟨by decide, rfl⟩ (bL hB _ (by decide)) (by decide) (by decide) (Nat.le_of_ble_eq_true rfl) (bc' := 0) (bs' := 0) rfl rfl (w_stretch hC hB hCL hCD (fun hz => ?_) (fun hz0 hz => ?_) ?_)
  · show aj_XT G 4 _ _ _ _ _ _ _ _ _
    refine x_catch1 (a := 0) (b := 11) (hp := 14) (ct := 19) C HT ⟨by decide, by decide⟩ (by decide) cl_L_19 (by decide) (by rw [hGF]; exact List.mem_singleton_self _) h15 hV15 (by simp) ?_
    have hR : cC I V I (nxS (ckI x && pIn b 1 127) x (strT b (cW I V (nn x))) (cW I V)) := cC.no (cR.rf hC) hB hCL (nxS_f (and_f1 hz))
    have hc : (1 : Int32) = cd2 (ckI x) (pIn b 1 127) := (cd2_1 hz).symm
    refine y_astore4 (q := 16) C 8 rfl rfl (Nat.le_of_ble_eq_true rfl) rfl ?_
    refine x_iconst (q := 17) C 9 (n := (1)) (v := (1)) rfl rfl rfl ?_
    exact x_ireturn C Z 10 rfl rfl rfl (by first | exact hK _ _ _ hR hc (fun z => absurd (hc.trans z) (by decide)) | exact hK _ _ _ hR hc (fun _ => by rw [← hr]; exact aj_u_s _ _ _ _) | exact hK _ _ _ hR hc (fun _ => lb_0 hr (by assumption)) | exact hK _ _ _ hR hc (fun _ => lb_1 hr (by assumption)))
  · show aj_XT G 4 _ _ _ _ _ _ _ _ _
    refine x_catch2 (a := 0) (b := 11) (hp := 18) (ct := 21) (a1 := 0) (b1 := 11) (hp1 := 14) (ct1 := 19) C HT ⟨by decide, by decide⟩ ⟨by decide, by decide⟩ cl_L_21 cl_L_19 (by rw [hGF]; exact List.mem_singleton_self _) h15 hV15 (by simp) ?_
    have hR : cC I V I (nxS (ckI x && pIn b 1 127) x (strT b (cW I V (nn x))) (cW I V)) := cC.no (cR.rf hC) hB hCL (nxS_f (and_f2 hz))
    have hc : (2 : Int32) = cd2 (ckI x) (pIn b 1 127) := (cd2_2 hz0 hz).symm
    refine y_astore4 (q := 20) C 11 rfl rfl (Nat.le_of_ble_eq_true rfl) rfl ?_
    refine x_iconst (q := 21) C 12 (n := (2)) (v := (2)) rfl rfl rfl ?_
    exact x_ireturn C Z 13 rfl rfl rfl (by first | exact hK _ _ _ hR hc (fun z => absurd (hc.trans z) (by decide)) | exact hK _ _ _ hR hc (fun _ => by rw [← hr]; exact aj_u_s _ _ _ _) | exact hK _ _ _ hR hc (fun _ => lb_0 hr (by assumption)) | exact hK _ _ _ hR hc (fun _ => lb_1 hr (by assumption)))
  · intro r I1 J0 hk0 hR hr
    have hc : (0 : Int32) = cd2 (ckI x) (pIn b 1 127) := (cd2_t hk0.1 hk0.2).symm
    show aj_X G 7 _ _ _ _ _ _ _ _ _
    refine x_i2l (q := 8) C 5 rfl rfl ?_
    refine x_putJN (q := 11) C 6 rfl rfl fl_RL_13 rfl rfl (by first | assumption | rfl | decide | exact bL hB _ (by decide)) (by first | assumption | rfl | decide | exact bL hB _ (by decide)) ?_
    refine x_goto (t := 22) C 7 rfl (by decide) ?_
    refine x_iconst (q := 23) C 14 (n := (0)) (v := (0)) rfl rfl rfl ?_
    exact x_ireturn C Z 15 rfl rfl rfl (by first | exact hK _ _ _ hR hc (fun z => absurd (hc.trans z) (by decide)) | exact hK _ _ _ hR hc (fun _ => by rw [← hr]; exact aj_u_s _ _ _ _) | exact hK _ _ _ hR hc (fun _ => lb_0 hr (by assumption)) | exact hK _ _ _ hR hc (fun _ => lb_1 hr (by assumption)))
set_option maxRecDepth 100000 in
set_option maxHeartbeats 800000 in
theorem s_L_addSteps {l : Launch} {I : Nat → Nat → Int32} {J : Nat → Nat → Int64} {V : Nat → Nat → Option Nat} {N : Nat → Nat} {L : List Nat} {K : aj_K} {x y z : Int32} {n : Nat} (hC : cI I n) (hB : bV V N L) (h15 : 15 ∉ L) (hV15 : ∀ i ∈ L, ∀ j, V i j ≠ some 15) (hCL : cL I) (hCD : cD V) (hK : ∀ (k : Int32) I1 J1, cC I V I1 (nxS (ckI x && (ckI y && ckI z)) z (addT (cW I V (nn x)) (cW I V (nn y))) (cW I V)) → k = cd1 (ckI x && (ckI y && ckI z)) → (cd1 (ckI x && (ckI y && ckI z)) = 0 → J1 21 0 = (anS z (addT (cW I V (nn x)) (cW I V (nn y))) (cW I V)).toInt64) → K (.inl (some (.int k))) I1 J1 V N L) : aj_M l yL_addSteps (Cond.codeWith yL_addSteps cL_addSteps 6 (some .int) [(0, 13, 16, 19)] :: aj_TB) (aj_rm 5 3 18) [15] [.ref 20, .int x, .int y, .int z, .ref 21] I J V N L K := by
  refine aj_introW (tbl := t_L_addSteps) (lv0 := [some (.ref 20), some (.int x), some (.int y), some (.int z), some (.ref 21), none]) (by decide) T_L_addSteps (fun i h => by cases List.mem_singleton.mp h; unfold aj_sp; decide) (Nat.le_of_ble_eq_true rfl) rfl ?_
  intro G hl C Z HT hGL hGF
  have C : aj_C G cL_addSteps t_L_addSteps RL (aj_rm 5 3 18) 6 := C
  refine y_aload4 (q := 2) C 0 rfl rfl ?_
  refine y_aload0 (q := 3) C 1 rfl rfl ?_
  refine y_iload1 (q := 4) C 2 rfl rfl ?_
  refine y_iload2 (q := 5) C 3 rfl rfl ?_
  refine y_iload3 (q := 6) C 4 rfl rfl ?_
  refine y_dV3 (q := 9) C 5 rfl rfl ml_RL_30 cd_X3_addSteps cv_X3_addSteps ⟨by decide, rfl⟩ (bL hB _ (by decide)) (by decide) (by decide) (Nat.le_of_ble_eq_true rfl) (bc' := 0) (bs' := 0) rfl rfl (w_addSteps hC hB hCL hCD (fun hz => ?_) ?_)
  · show aj_XT G 6 _ _ _ _ _ _ _ _ _
    refine x_catch1 (a := 0) (b := 13) (hp := 16) (ct := 19) C HT ⟨by decide, by decide⟩ (by decide) cl_L_19 (by decide) (by rw [hGF]; exact List.mem_singleton_self _) h15 hV15 (by simp) ?_
    have hR : cC I V I (nxS (ckI x && (ckI y && ckI z)) z (addT (cW I V (nn x)) (cW I V (nn y))) (cW I V)) := cC.no (cR.rf hC) hB hCL (nxS_f (hz))
    have hc : (1 : Int32) = cd1 (ckI x && (ckI y && ckI z)) := (cd1_f hz).symm
    refine y_astore5 (q := 18) C 9 rfl rfl (Nat.le_of_ble_eq_true rfl) rfl ?_
    refine x_iconst (q := 19) C 10 (n := (1)) (v := (1)) rfl rfl rfl ?_
    exact x_ireturn C Z 11 rfl rfl rfl (by first | exact hK _ _ _ hR hc (fun z => absurd (hc.trans z) (by decide)) | exact hK _ _ _ hR hc (fun _ => by rw [← hr]; exact aj_u_s _ _ _ _) | exact hK _ _ _ hR hc (fun _ => lb_0 hr (by assumption)) | exact hK _ _ _ hR hc (fun _ => lb_1 hr (by assumption)))
  · intro r I1 J0 hk0 hR hr
    have hc : (0 : Int32) = cd1 (ckI x && (ckI y && ckI z)) := (cd1_t hk0).symm
    show aj_X G 9 _ _ _ _ _ _ _ _ _
    refine x_i2l (q := 10) C 6 rfl rfl ?_
    refine x_putJN (q := 13) C 7 rfl rfl fl_RL_13 rfl rfl (by first | assumption | rfl | decide | exact bL hB _ (by decide)) (by first | assumption | rfl | decide | exact bL hB _ (by decide)) ?_
    refine x_goto (t := 20) C 8 rfl (by decide) ?_
    refine x_iconst (q := 21) C 12 (n := (0)) (v := (0)) rfl rfl rfl ?_
    exact x_ireturn C Z 13 rfl rfl rfl (by first | exact hK _ _ _ hR hc (fun z => absurd (hc.trans z) (by decide)) | exact hK _ _ _ hR hc (fun _ => by rw [← hr]; exact aj_u_s _ _ _ _) | exact hK _ _ _ hR hc (fun _ => lb_0 hr (by assumption)) | exact hK _ _ _ hR hc (fun _ => lb_1 hr (by assumption)))
set_option maxRecDepth 100000 in
set_option maxHeartbeats 800000 in
theorem s_L_takeStep {l : Launch} {I : Nat → Nat → Int32} {J : Nat → Nat → Int64} {V : Nat → Nat → Option Nat} {N : Nat → Nat} {L : List Nat} {K : aj_K} {x y z : Int32} {n : Nat} (hC : cI I n) (hB : bV V N L) (h15 : 15 ∉ L) (hV15 : ∀ i ∈ L, ∀ j, V i j ≠ some 15) (hCL : cL I) (hCD : cD V) (hVR : vR (kW I)) (hK : ∀ (k : Int32) I1 J1, cC I V I1 (nxS (ckI x && (vOk (vN (kW I)) y && vOk (vN (kW I)) z)) x (stpT y z (kW I)) (cW I V)) → k = cd1 (ckI x && (vOk (vN (kW I)) y && vOk (vN (kW I)) z)) → (cd1 (ckI x && (vOk (vN (kW I)) y && vOk (vN (kW I)) z)) = 0 → J1 21 0 = (anS x (stpT y z (kW I)) (cW I V)).toInt64) → K (.inl (some (.int k))) I1 J1 V N L) : aj_M l yL_takeStep (Cond.codeWith yL_takeStep cL_takeStep 6 (some .int) [(0, 13, 16, 19)] :: aj_TB) (aj_rm 5 3 18) [15] [.ref 20, .int x, .int y, .int z, .ref 21] I J V N L K := by
  refine aj_introW (tbl := t_L_takeStep) (lv0 := [some (.ref 20), some (.int x), some (.int y), some (.int z), some (.ref 21), none]) (by decide) T_L_takeStep (fun i h => by cases List.mem_singleton.mp h; unfold aj_sp; decide) (Nat.le_of_ble_eq_true rfl) rfl ?_
  intro G hl C Z HT hGL hGF
  have C : aj_C G cL_takeStep t_L_takeStep RL (aj_rm 5 3 18) 6 := C
  refine y_aload4 (q := 2) C 0 rfl rfl ?_
  refine y_aload0 (q := 3) C 1 rfl rfl ?_
  refine y_iload1 (q := 4) C 2 rfl rfl ?_
  refine y_iload2 (q := 5) C 3 rfl rfl ?_
  refine y_iload3 (q := 6) C 4 rfl rfl ?_
  refine y_dV3 (q := 9) C 5 rfl rfl ml_RL_34 cd_X3_takeStep cv_X3_takeStep ⟨by decide, rfl⟩ (bL hB _ (by decide)) (by decide) (by decide) (Nat.le_of_ble_eq_true rfl) (bc' := 0) (bs' := 0) rfl rfl (w_takeStep hC hB hCL hCD hVR (fun hz => ?_) ?_)
  · show aj_XT G 6 _ _ _ _ _ _ _ _ _
    refine x_catch1 (a := 0) (b := 13) (hp := 16) (ct := 19) C HT ⟨by decide, by decide⟩ (by decide) cl_L_19 (by decide) (by rw [hGF]; exact List.mem_singleton_self _) h15 hV15 (by simp) ?_
    have hR : cC I V I (nxS (ckI x && (vOk (vN (kW I)) y && vOk (vN (kW I)) z)) x (stpT y z (kW I)) (cW I V)) := cC.no (cR.rf hC) hB hCL (nxS_f (hz))
    have hc : (1 : Int32) = cd1 (ckI x && (vOk (vN (kW I)) y && vOk (vN (kW I)) z)) := (cd1_f hz).symm
    refine y_astore5 (q := 18) C 9 rfl rfl (Nat.le_of_ble_eq_true rfl) rfl ?_
    refine x_iconst (q := 19) C 10 (n := (1)) (v := (1)) rfl rfl rfl ?_
    exact x_ireturn C Z 11 rfl rfl rfl (by first | exact hK _ _ _ hR hc (fun z => absurd (hc.trans z) (by decide)) | exact hK _ _ _ hR hc (fun _ => by rw [← hr]; exact aj_u_s _ _ _ _) | exact hK _ _ _ hR hc (fun _ => lb_0 hr (by assumption)) | exact hK _ _ _ hR hc (fun _ => lb_1 hr (by assumption)))
  · intro r I1 J0 hk0 hR hr
    have hc : (0 : Int32) = cd1 (ckI x && (vOk (vN (kW I)) y && vOk (vN (kW I)) z)) := (cd1_t hk0).symm
    show aj_X G 9 _ _ _ _ _ _ _ _ _
    refine x_i2l (q := 10) C 6 rfl rfl ?_
    refine x_putJN (q := 13) C 7 rfl rfl fl_RL_13 rfl rfl (by first | assumption | rfl | decide | exact bL hB _ (by decide)) (by first | assumption | rfl | decide | exact bL hB _ (by decide)) ?_
    refine x_goto (t := 20) C 8 rfl (by decide) ?_
    refine x_iconst (q := 21) C 12 (n := (0)) (v := (0)) rfl rfl rfl ?_
    exact x_ireturn C Z 13 rfl rfl rfl (by first | exact hK _ _ _ hR hc (fun z => absurd (hc.trans z) (by decide)) | exact hK _ _ _ hR hc (fun _ => by rw [← hr]; exact aj_u_s _ _ _ _) | exact hK _ _ _ hR hc (fun _ => lb_0 hr (by assumption)) | exact hK _ _ _ hR hc (fun _ => lb_1 hr (by assumption)))
set_option maxRecDepth 100000 in
set_option maxHeartbeats 800000 in
theorem s_L_across {l : Launch} {I : Nat → Nat → Int32} {J : Nat → Nat → Int64} {V : Nat → Nat → Option Nat} {N : Nat → Nat} {L : List Nat} {K : aj_K} {x : Int32} {n : Nat} (hC : cI I n) (hB : bV V N L) (h15 : 15 ∉ L) (hV15 : ∀ i ∈ L, ∀ j, V i j ≠ some 15) (hCL : cL I) (hK : ∀ (k : Int32) I1 J1, cR I I1 → k = cd1 (ckI x) → (cd1 (ckI x) = 0 → J1 21 0 = ((cW I V (nn x)).1).toInt64) → K (.inl (some (.int k))) I1 J1 V N L) : aj_M l yL_across (Cond.codeWith yL_across cL_across 4 (some .int) [(0, 10, 13, 19)] :: aj_TB) (aj_rm 3 1 6) [15] [.ref 20, .int x, .ref 21] I J V N L K := by
  refine aj_introW (tbl := t_L_across) (lv0 := [some (.ref 20), some (.int x), some (.ref 21), none]) (by decide) T_L_across (fun i h => by cases List.mem_singleton.mp h; unfold aj_sp; decide) (Nat.le_of_ble_eq_true rfl) rfl ?_
  intro G hl C Z HT hGL hGF
  have C : aj_C G cL_across t_L_across RL (aj_rm 3 1 6) 4 := C
  refine y_aload2 (q := 1) C 0 rfl rfl ?_
  refine y_aload0 (q := 2) C 1 rfl rfl ?_
  refine y_iload1 (q := 3) C 2 rfl rfl ?_
  refine y_dV1 (q := 6) C 3 rfl rfl ml_RL_37 cd_X3_across cv_X3_across ⟨by decide, rfl⟩ (bL hB _ (by decide)) (by decide) (by decide) (Nat.le_of_ble_eq_true rfl) (bc' := 0) (bs' := 0) rfl rfl (w_across hC hB hCL (fun hz => ?_) ?_)
  · show aj_XT G 3 _ _ _ _ _ _ _ _ _
    refine x_catch1 (a := 0) (b := 10) (hp := 13) (ct := 19) C HT ⟨by decide, by decide⟩ (by decide) cl_L_19 (by decide) (by rw [hGF]; exact List.mem_singleton_self _) h15 hV15 (by simp) ?_
    have hR : cR I I := cR.rf hC
    have hc : (1 : Int32) = cd1 (ckI x) := (cd1_f hz).symm
    refine y_astore3 (q := 14) C 7 rfl rfl (Nat.le_of_ble_eq_true rfl) rfl ?_
    refine x_iconst (q := 15) C 8 (n := (1)) (v := (1)) rfl rfl rfl ?_
    exact x_ireturn C Z 9 rfl rfl rfl (by first | exact hK _ _ _ hR hc (fun z => absurd (hc.trans z) (by decide)) | exact hK _ _ _ hR hc (fun _ => by rw [← hr]; exact aj_u_s _ _ _ _) | exact hK _ _ _ hR hc (fun _ => lb_0 hr (by assumption)) | exact hK _ _ _ hR hc (fun _ => lb_1 hr (by assumption)))
  · intro r I1 J0 hk0 hR hr
    have hc : (0 : Int32) = cd1 (ckI x) := (cd1_t hk0).symm
    show aj_X G 6 _ _ _ _ _ _ _ _ _
    refine x_i2l (q := 7) C 4 rfl rfl ?_
    refine x_putJN (q := 10) C 5 rfl rfl fl_RL_13 rfl rfl (by first | assumption | rfl | decide | exact bL hB _ (by decide)) (by first | assumption | rfl | decide | exact bL hB _ (by decide)) ?_
    refine x_goto (t := 16) C 6 rfl (by decide) ?_
    refine x_iconst (q := 17) C 10 (n := (0)) (v := (0)) rfl rfl rfl ?_
    exact x_ireturn C Z 11 rfl rfl rfl (by first | exact hK _ _ _ hR hc (fun z => absurd (hc.trans z) (by decide)) | exact hK _ _ _ hR hc (fun _ => by rw [← hr]; exact aj_u_s _ _ _ _) | exact hK _ _ _ hR hc (fun _ => lb_0 hr (by assumption)) | exact hK _ _ _ hR hc (fun _ => lb_1 hr (by assumption)))
set_option maxRecDepth 100000 in
set_option maxHeartbeats 800000 in
theorem s_L_up {l : Launch} {I : Nat → Nat → Int32} {J : Nat → Nat → Int64} {V : Nat → Nat → Option Nat} {N : Nat → Nat} {L : List Nat} {K : aj_K} {x : Int32} {n : Nat} (hC : cI I n) (hB : bV V N L) (h15 : 15 ∉ L) (hV15 : ∀ i ∈ L, ∀ j, V i j ≠ some 15) (hCL : cL I) (hK : ∀ (k : Int32) I1 J1, cR I I1 → k = cd1 (ckI x) → (cd1 (ckI x) = 0 → J1 21 0 = ((cW I V (nn x)).2.1).toInt64) → K (.inl (some (.int k))) I1 J1 V N L) : aj_M l yL_up (Cond.codeWith yL_up cL_up 4 (some .int) [(0, 10, 13, 19)] :: aj_TB) (aj_rm 3 1 6) [15] [.ref 20, .int x, .ref 21] I J V N L K := by
  refine aj_introW (tbl := t_L_up) (lv0 := [some (.ref 20), some (.int x), some (.ref 21), none]) (by decide) T_L_up (fun i h => by cases List.mem_singleton.mp h; unfold aj_sp; decide) (Nat.le_of_ble_eq_true rfl) rfl ?_
  intro G hl C Z HT hGL hGF
  have C : aj_C G cL_up t_L_up RL (aj_rm 3 1 6) 4 := C
  refine y_aload2 (q := 1) C 0 rfl rfl ?_
  refine y_aload0 (q := 2) C 1 rfl rfl ?_
  refine y_iload1 (q := 3) C 2 rfl rfl ?_
  refine y_dV1 (q := 6) C 3 rfl rfl ml_RL_41 cd_X3_up cv_X3_up ⟨by decide, rfl⟩ (bL hB _ (by decide)) (by decide) (by decide) (Nat.le_of_ble_eq_true rfl) (bc' := 0) (bs' := 0) rfl rfl (w_up hC hB hCL (fun hz => ?_) ?_)
  · show aj_XT G 3 _ _ _ _ _ _ _ _ _
    refine x_catch1 (a := 0) (b := 10) (hp := 13) (ct := 19) C HT ⟨by decide, by decide⟩ (by decide) cl_L_19 (by decide) (by rw [hGF]; exact List.mem_singleton_self _) h15 hV15 (by simp) ?_
    have hR : cR I I := cR.rf hC
    have hc : (1 : Int32) = cd1 (ckI x) := (cd1_f hz).symm
    refine y_astore3 (q := 14) C 7 rfl rfl (Nat.le_of_ble_eq_true rfl) rfl ?_
    refine x_iconst (q := 15) C 8 (n := (1)) (v := (1)) rfl rfl rfl ?_
    exact x_ireturn C Z 9 rfl rfl rfl (by first | exact hK _ _ _ hR hc (fun z => absurd (hc.trans z) (by decide)) | exact hK _ _ _ hR hc (fun _ => by rw [← hr]; exact aj_u_s _ _ _ _) | exact hK _ _ _ hR hc (fun _ => lb_0 hr (by assumption)) | exact hK _ _ _ hR hc (fun _ => lb_1 hr (by assumption)))
  · intro r I1 J0 hk0 hR hr
    have hc : (0 : Int32) = cd1 (ckI x) := (cd1_t hk0).symm
    show aj_X G 6 _ _ _ _ _ _ _ _ _
    refine x_i2l (q := 7) C 4 rfl rfl ?_
    refine x_putJN (q := 10) C 5 rfl rfl fl_RL_13 rfl rfl (by first | assumption | rfl | decide | exact bL hB _ (by decide)) (by first | assumption | rfl | decide | exact bL hB _ (by decide)) ?_
    refine x_goto (t := 16) C 6 rfl (by decide) ?_
    refine x_iconst (q := 17) C 10 (n := (0)) (v := (0)) rfl rfl rfl ?_
    exact x_ireturn C Z 11 rfl rfl rfl (by first | exact hK _ _ _ hR hc (fun z => absurd (hc.trans z) (by decide)) | exact hK _ _ _ hR hc (fun _ => by rw [← hr]; exact aj_u_s _ _ _ _) | exact hK _ _ _ hR hc (fun _ => lb_0 hr (by assumption)) | exact hK _ _ _ hR hc (fun _ => lb_1 hr (by assumption)))
set_option maxRecDepth 100000 in
set_option maxHeartbeats 800000 in
theorem s_L_signs {l : Launch} {I : Nat → Nat → Int32} {J : Nat → Nat → Int64} {V : Nat → Nat → Option Nat} {N : Nat → Nat} {L : List Nat} {K : aj_K} {x : Int32} {n : Nat} (hC : cI I n) (hB : bV V N L) (h15 : 15 ∉ L) (hV15 : ∀ i ∈ L, ∀ j, V i j ≠ some 15) (hCL : cL I) (hK : ∀ (k : Int32) I1 J1, cR I I1 → k = cd1 (ckI x) → (cd1 (ckI x) = 0 → J1 21 0 = ((cW I V (nn x)).2.2).toInt64) → K (.inl (some (.int k))) I1 J1 V N L) : aj_M l yL_signs (Cond.codeWith yL_signs cL_signs 4 (some .int) [(0, 10, 13, 19)] :: aj_TB) (aj_rm 3 1 6) [15] [.ref 20, .int x, .ref 21] I J V N L K := by
  refine aj_introW (tbl := t_L_signs) (lv0 := [some (.ref 20), some (.int x), some (.ref 21), none]) (by decide) T_L_signs (fun i h => by cases List.mem_singleton.mp h; unfold aj_sp; decide) (Nat.le_of_ble_eq_true rfl) rfl ?_
  intro G hl C Z HT hGL hGF
  have C : aj_C G cL_signs t_L_signs RL (aj_rm 3 1 6) 4 := C
  refine y_aload2 (q := 1) C 0 rfl rfl ?_
  refine y_aload0 (q := 2) C 1 rfl rfl ?_
  refine y_iload1 (q := 3) C 2 rfl rfl ?_
  refine y_dV1 (q := 6) C 3 rfl rfl ml_RL_44 cd_X3_signs cv_X3_signs ⟨by decide, rfl⟩ (bL hB _ (by decide)) (by decide) (by decide) (Nat.le_of_ble_eq_true rfl) (bc' := 0) (bs' := 0) rfl rfl (w_signs hC hB hCL (fun hz => ?_) ?_)
  · show aj_XT G 3 _ _ _ _ _ _ _ _ _
    refine x_catch1 (a := 0) (b := 10) (hp := 13) (ct := 19) C HT ⟨by decide, by decide⟩ (by decide) cl_L_19 (by decide) (by rw [hGF]; exact List.mem_singleton_self _) h15 hV15 (by simp) ?_
    have hR : cR I I := cR.rf hC
    have hc : (1 : Int32) = cd1 (ckI x) := (cd1_f hz).symm
    refine y_astore3 (q := 14) C 7 rfl rfl (Nat.le_of_ble_eq_true rfl) rfl ?_
    refine x_iconst (q := 15) C 8 (n := (1)) (v := (1)) rfl rfl rfl ?_
    exact x_ireturn C Z 9 rfl rfl rfl (by first | exact hK _ _ _ hR hc (fun z => absurd (hc.trans z) (by decide)) | exact hK _ _ _ hR hc (fun _ => by rw [← hr]; exact aj_u_s _ _ _ _) | exact hK _ _ _ hR hc (fun _ => lb_0 hr (by assumption)) | exact hK _ _ _ hR hc (fun _ => lb_1 hr (by assumption)))
  · intro r I1 J0 hk0 hR hr
    have hc : (0 : Int32) = cd1 (ckI x) := (cd1_t hk0).symm
    show aj_X G 6 _ _ _ _ _ _ _ _ _
    refine x_i2l (q := 7) C 4 rfl rfl ?_
    refine x_putJN (q := 10) C 5 rfl rfl fl_RL_13 rfl rfl (by first | assumption | rfl | decide | exact bL hB _ (by decide)) (by first | assumption | rfl | decide | exact bL hB _ (by decide)) ?_
    refine x_goto (t := 16) C 6 rfl (by decide) ?_
    refine x_iconst (q := 17) C 10 (n := (0)) (v := (0)) rfl rfl rfl ?_
    exact x_ireturn C Z 11 rfl rfl rfl (by first | exact hK _ _ _ hR hc (fun z => absurd (hc.trans z) (by decide)) | exact hK _ _ _ hR hc (fun _ => by rw [← hr]; exact aj_u_s _ _ _ _) | exact hK _ _ _ hR hc (fun _ => lb_0 hr (by assumption)) | exact hK _ _ _ hR hc (fun _ => lb_1 hr (by assumption)))
set_option maxRecDepth 100000 in
set_option maxHeartbeats 800000 in
theorem s_L_upper {l : Launch} {I : Nat → Nat → Int32} {J : Nat → Nat → Int64} {V : Nat → Nat → Option Nat} {N : Nat → Nat} {L : List Nat} {K : aj_K} {x : Int32} {n : Nat} (hC : cI I n) (hB : bV V N L) (h15 : 15 ∉ L) (hV15 : ∀ i ∈ L, ∀ j, V i j ≠ some 15) (hK : ∀ (k : Int32) I1 J1, cR I I1 → K (.inl (some (.int k))) I1 J1 V N L) : aj_M l yL_upper (Cond.codeWith yL_upper cL_upper 4 (some .int) [(0, 10, 13, 19)] :: aj_TB) (aj_rm 5 1 6) [15] [.ref 20, .int x, .ref 21] I J V N L K := by
  refine aj_introW (tbl := t_L_upper) (lv0 := [some (.ref 20), some (.int x), some (.ref 21), none]) (by decide) T_L_upper (fun i h => by cases List.mem_singleton.mp h; unfold aj_sp; decide) (Nat.le_of_ble_eq_true rfl) rfl ?_
  intro G hl C Z HT hGL hGF
  have C : aj_C G cL_upper t_L_upper RL (aj_rm 5 1 6) 4 := C
  refine y_aload2 (q := 1) C 0 rfl rfl ?_
  refine y_aload0 (q := 2) C 1 rfl rfl ?_
  refine y_iload1 (q := 3) C 2 rfl rfl ?_
  refine y_dV1 (q := 6) C 3 rfl rfl ml_RL_47 cd_X3_upper cv_X3_upper ⟨by decide, rfl⟩ (bL hB _ (by decide)) (by decide) (by decide) (Nat.le_of_ble_eq_true rfl) (bc' := 0) (bs' := 0) rfl rfl (w_upper hC hB ?_ ?_)
  · show aj_XT G 3 _ _ _ _ _ _ _ _ _
    refine x_catch1 (a := 0) (b := 10) (hp := 13) (ct := 19) C HT ⟨by decide, by decide⟩ (by decide) cl_L_19 (by decide) (by rw [hGF]; exact List.mem_singleton_self _) h15 hV15 (by simp) ?_
    have hR : cR I I := cR.rf hC
    refine y_astore3 (q := 14) C 7 rfl rfl (Nat.le_of_ble_eq_true rfl) rfl ?_
    refine x_iconst (q := 15) C 8 (n := (1)) (v := (1)) rfl rfl rfl ?_
    exact x_ireturn C Z 9 rfl rfl rfl (hK _ _ _ hR)
  · intro r I1 J0 hR
    show aj_X G 6 _ _ _ _ _ _ _ _ _
    refine x_i2l (q := 7) C 4 rfl rfl ?_
    refine x_putJN (q := 10) C 5 rfl rfl fl_RL_13 rfl rfl (by first | assumption | rfl | decide | exact bL hB _ (by decide)) (by first | assumption | rfl | decide | exact bL hB _ (by decide)) ?_
    refine x_goto (t := 16) C 6 rfl (by decide) ?_
    refine x_iconst (q := 17) C 10 (n := (0)) (v := (0)) rfl rfl rfl ?_
    exact x_ireturn C Z 11 rfl rfl rfl (hK _ _ _ hR)
set_option maxRecDepth 100000 in
set_option maxHeartbeats 800000 in
theorem s_L_lower {l : Launch} {I : Nat → Nat → Int32} {J : Nat → Nat → Int64} {V : Nat → Nat → Option Nat} {N : Nat → Nat} {L : List Nat} {K : aj_K} {x : Int32} {n : Nat} (hC : cI I n) (hB : bV V N L) (h15 : 15 ∉ L) (hV15 : ∀ i ∈ L, ∀ j, V i j ≠ some 15) (hCL : cL I) (hK : ∀ (k : Int32) I1 J1, cR I I1 → k = cd1 (ckI x) → (cd1 (ckI x) = 0 → J1 21 0 = (lwA (cW I V (nn x))).toInt64) → K (.inl (some (.int k))) I1 J1 V N L) : aj_M l yL_lower (Cond.codeWith yL_lower cL_lower 4 (some .int) [(0, 10, 13, 19)] :: aj_TB) (aj_rm 5 1 6) [15] [.ref 20, .int x, .ref 21] I J V N L K := by
  refine aj_introW (tbl := t_L_lower) (lv0 := [some (.ref 20), some (.int x), some (.ref 21), none]) (by decide) T_L_lower (fun i h => by cases List.mem_singleton.mp h; unfold aj_sp; decide) (Nat.le_of_ble_eq_true rfl) rfl ?_
  intro G hl C Z HT hGL hGF
  have C : aj_C G cL_lower t_L_lower RL (aj_rm 5 1 6) 4 := C
  refine y_aload2 (q := 1) C 0 rfl rfl ?_
  refine y_aload0 (q := 2) C 1 rfl rfl ?_
  refine y_iload1 (q := 3) C 2 rfl rfl ?_
  refine y_dV1 (q := 6) C 3 rfl rfl ml_RL_50 cd_X3_lower cv_X3_lower ⟨by decide, rfl⟩ (bL hB _ (by decide)) (by decide) (by decide) (Nat.le_of_ble_eq_true rfl) (bc' := 0) (bs' := 0) rfl rfl (w_lower hC hB hCL (fun hz => ?_) ?_)
  · show aj_XT G 3 _ _ _ _ _ _ _ _ _
    refine x_catch1 (a := 0) (b := 10) (hp := 13) (ct := 19) C HT ⟨by decide, by decide⟩ (by decide) cl_L_19 (by decide) (by rw [hGF]; exact List.mem_singleton_self _) h15 hV15 (by simp) ?_
    have hR : cR I I := cR.rf hC
    have hc : (1 : Int32) = cd1 (ckI x) := (cd1_f hz).symm
    refine y_astore3 (q := 14) C 7 rfl rfl (Nat.le_of_ble_eq_true rfl) rfl ?_
    refine x_iconst (q := 15) C 8 (n := (1)) (v := (1)) rfl rfl rfl ?_
    exact x_ireturn C Z 9 rfl rfl rfl (by first | exact hK _ _ _ hR hc (fun z => absurd (hc.trans z) (by decide)) | exact hK _ _ _ hR hc (fun _ => by rw [← hr]; exact aj_u_s _ _ _ _) | exact hK _ _ _ hR hc (fun _ => lb_0 hr (by assumption)) | exact hK _ _ _ hR hc (fun _ => lb_1 hr (by assumption)))
  · intro r I1 J0 hk0 hR hr
    have hc : (0 : Int32) = cd1 (ckI x) := (cd1_t hk0).symm
    show aj_X G 6 _ _ _ _ _ _ _ _ _
    refine x_i2l (q := 7) C 4 rfl rfl ?_
    refine x_putJN (q := 10) C 5 rfl rfl fl_RL_13 rfl rfl (by first | assumption | rfl | decide | exact bL hB _ (by decide)) (by first | assumption | rfl | decide | exact bL hB _ (by decide)) ?_
    refine x_goto (t := 16) C 6 rfl (by decide) ?_
    refine x_iconst (q := 17) C 10 (n := (0)) (v := (0)) rfl rfl rfl ?_
    exact x_ireturn C Z 11 rfl rfl rfl (by first | exact hK _ _ _ hR hc (fun z => absurd (hc.trans z) (by decide)) | exact hK _ _ _ hR hc (fun _ => by rw [← hr]; exact aj_u_s _ _ _ _) | exact hK _ _ _ hR hc (fun _ => lb_0 hr (by assumption)) | exact hK _ _ _ hR hc (fun _ => lb_1 hr (by assumption)))
set_option maxRecDepth 100000 in
set_option maxHeartbeats 800000 in
theorem s_L_grade {l : Launch} {I : Nat → Nat → Int32} {J : Nat → Nat → Int64} {V : Nat → Nat → Option Nat} {N : Nat → Nat} {L : List Nat} {K : aj_K} {x d : Int32} {n : Nat} (hC : cI I n) (hB : bV V N L) (h15 : 15 ∉ L) (hV15 : ∀ i ∈ L, ∀ j, V i j ≠ some 15) (hK : ∀ (k : Int32) I1 J1, cR I I1 → K (.inl (some (.int k))) I1 J1 V N L) : aj_M l yL_grade (Cond.codeWith yL_grade cL_grade 5 (some .int) [(0, 11, 14, 19), (0, 11, 18, 21)] :: aj_TB) (aj_rm 5 2 12) [15] [.ref 20, .int x, .int d, .ref 21] I J V N L K := by
  refine aj_introW (tbl := t_L_grade) (lv0 := [some (.ref 20), some (.int x), some (.int d), some (.ref 21), none]) (by decide) T_L_grade (fun i h => by cases List.mem_singleton.mp h; unfold aj_sp; decide) (Nat.le_of_ble_eq_true rfl) rfl ?_
  intro G hl C Z HT hGL hGF
  have C : aj_C G cL_grade t_L_grade RL (aj_rm 5 2 12) 5 := C
  refine y_aload3 (q := 1) C 0 rfl rfl ?_
  refine y_aload0 (q := 2) C 1 rfl rfl ?_
  refine y_iload1 (q := 3) C 2 rfl rfl ?_
  refine y_iload2 (q := 4) C 3 rfl rfl ?_
  refine y_dV2 (q := 7) C 4 rfl rfl ml_RL_53 cd_X3_grade cv_X3_grade ⟨by decide, rfl⟩ (bL hB _ (by decide)) (by decide) (by decide) (Nat.le_of_ble_eq_true rfl) (bc' := 0) (bs' := 0) rfl rfl (w_grade hC hB ?_ ?_ ?_)
  · show aj_XT G 4 _ _ _ _ _ _ _ _ _
    refine x_catch1 (a := 0) (b := 11) (hp := 14) (ct := 19) C HT ⟨by decide, by decide⟩ (by decide) cl_L_19 (by decide) (by rw [hGF]; exact List.mem_singleton_self _) h15 hV15 (by simp) ?_
    have hR : cR I I := cR.rf hC
    refine y_astore4 (q := 16) C 8 rfl rfl (Nat.le_of_ble_eq_true rfl) rfl ?_
    refine x_iconst (q := 17) C 9 (n := (1)) (v := (1)) rfl rfl rfl ?_
    exact x_ireturn C Z 10 rfl rfl rfl (hK _ _ _ hR)
  · show aj_XT G 4 _ _ _ _ _ _ _ _ _
    refine x_catch2 (a := 0) (b := 11) (hp := 18) (ct := 21) (a1 := 0) (b1 := 11) (hp1 := 14) (ct1 := 19) C HT ⟨by decide, by decide⟩ ⟨by decide, by decide⟩ cl_L_21 cl_L_19 (by rw [hGF]; exact List.mem_singleton_self _) h15 hV15 (by simp) ?_
    have hR : cR I I := cR.rf hC
    refine y_astore4 (q := 20) C 11 rfl rfl (Nat.le_of_ble_eq_true rfl) rfl ?_
    refine x_iconst (q := 21) C 12 (n := (2)) (v := (2)) rfl rfl rfl ?_
    exact x_ireturn C Z 13 rfl rfl rfl (hK _ _ _ hR)
  · intro r I1 J0 hR
    show aj_X G 7 _ _ _ _ _ _ _ _ _
    refine x_i2l (q := 8) C 5 rfl rfl ?_
    refine x_putJN (q := 11) C 6 rfl rfl fl_RL_13 rfl rfl (by first | assumption | rfl | decide | exact bL hB _ (by decide)) (by first | assumption | rfl | decide | exact bL hB _ (by decide)) ?_
    refine x_goto (t := 22) C 7 rfl (by decide) ?_
    refine x_iconst (q := 23) C 14 (n := (0)) (v := (0)) rfl rfl rfl ?_
    exact x_ireturn C Z 15 rfl rfl rfl (hK _ _ _ hR)
set_option maxRecDepth 100000 in
set_option maxHeartbeats 800000 in
theorem s_L_order {l : Launch} {I : Nat → Nat → Int32} {J : Nat → Nat → Int64} {V : Nat → Nat → Option Nat} {N : Nat → Nat} {L : List Nat} {K : aj_K} {x y w : Int32} {n : Nat} (hC : cI I n) (hB : bV V N L) (h15 : 15 ∉ L) (hV15 : ∀ i ∈ L, ∀ j, V i j ≠ some 15) (hCL : cL I) (hK : ∀ (k : Int32) I1 J1, cR I I1 → k = cd2 (ckI x && ckI y) (pIn w 0 2) → (cd2 (ckI x && ckI y) (pIn w 0 2) = 0 → J1 21 0 = (tO (cW I V (nn x)) (cW I V (nn y))).toInt64) → K (.inl (some (.int k))) I1 J1 V N L) : aj_M l yL_order (Cond.codeWith yL_order cL_order 6 (some .int) [(0, 13, 16, 19), (0, 13, 20, 21)] :: aj_TB) (aj_rm 5 3 18) [15] [.ref 20, .int x, .int y, .int w, .ref 21] I J V N L K := by
  refine aj_introW (tbl := t_L_order) (lv0 := [some (.ref 20), some (.int x), some (.int y), some (.int w), some (.ref 21), none]) (by decide) T_L_order (fun i h => by cases List.mem_singleton.mp h; unfold aj_sp; decide) (Nat.le_of_ble_eq_true rfl) rfl ?_
  intro G hl C Z HT hGL hGF
  have C : aj_C G cL_order t_L_order RL (aj_rm 5 3 18) 6 := C
  refine y_aload4 (q := 2) C 0 rfl rfl ?_
  refine y_aload0 (q := 3) C 1 rfl rfl ?_
  refine y_iload1 (q := 4) C 2 rfl rfl ?_
  refine y_iload2 (q := 5) C 3 rfl rfl ?_
  refine y_iload3 (q := 6) C 4 rfl rfl ?_
  refine y_dV3 (q := 9) C 5 rfl rfl ml_RL_56 cd_X3_order cv_X3_order ⟨by decide, rfl⟩ (bL hB _ (by decide)) (by decide) (by decide) (Nat.le_of_ble_eq_true rfl) (bc' := 0) (bs' := 0) rfl rfl (w_order hC hB hCL (fun hz => ?_) (fun hz0 hz => ?_) ?_)
  · show aj_XT G 6 _ _ _ _ _ _ _ _ _
    refine x_catch1 (a := 0) (b := 13) (hp := 16) (ct := 19) C HT ⟨by decide, by decide⟩ (by decide) cl_L_19 (by decide) (by rw [hGF]; exact List.mem_singleton_self _) h15 hV15 (by simp) ?_
    have hR : cR I I := cR.rf hC
    have hc : (1 : Int32) = cd2 (ckI x && ckI y) (pIn w 0 2) := (cd2_1 hz).symm
    refine y_astore5 (q := 18) C 9 rfl rfl (Nat.le_of_ble_eq_true rfl) rfl ?_
    refine x_iconst (q := 19) C 10 (n := (1)) (v := (1)) rfl rfl rfl ?_
    exact x_ireturn C Z 11 rfl rfl rfl (by first | exact hK _ _ _ hR hc (fun z => absurd (hc.trans z) (by decide)) | exact hK _ _ _ hR hc (fun _ => by rw [← hr]; exact aj_u_s _ _ _ _) | exact hK _ _ _ hR hc (fun _ => lb_0 hr (by assumption)) | exact hK _ _ _ hR hc (fun _ => lb_1 hr (by assumption)))
  · show aj_XT G 6 _ _ _ _ _ _ _ _ _
    refine x_catch2 (a := 0) (b := 13) (hp := 20) (ct := 21) (a1 := 0) (b1 := 13) (hp1 := 16) (ct1 := 19) C HT ⟨by decide, by decide⟩ ⟨by decide, by decide⟩ cl_L_21 cl_L_19 (by rw [hGF]; exact List.mem_singleton_self _) h15 hV15 (by simp) ?_
    have hR : cR I I := cR.rf hC
    have hc : (2 : Int32) = cd2 (ckI x && ckI y) (pIn w 0 2) := (cd2_2 hz0 hz).symm
    refine y_astore5 (q := 22) C 12 rfl rfl (Nat.le_of_ble_eq_true rfl) rfl ?_
    refine x_iconst (q := 23) C 13 (n := (2)) (v := (2)) rfl rfl rfl ?_
    exact x_ireturn C Z 14 rfl rfl rfl (by first | exact hK _ _ _ hR hc (fun z => absurd (hc.trans z) (by decide)) | exact hK _ _ _ hR hc (fun _ => by rw [← hr]; exact aj_u_s _ _ _ _) | exact hK _ _ _ hR hc (fun _ => lb_0 hr (by assumption)) | exact hK _ _ _ hR hc (fun _ => lb_1 hr (by assumption)))
  · intro r I1 J0 hk0 hR hr
    have hc : (0 : Int32) = cd2 (ckI x && ckI y) (pIn w 0 2) := (cd2_t hk0.1 hk0.2).symm
    show aj_X G 9 _ _ _ _ _ _ _ _ _
    refine x_i2l (q := 10) C 6 rfl rfl ?_
    refine x_putJN (q := 13) C 7 rfl rfl fl_RL_13 rfl rfl (by first | assumption | rfl | decide | exact bL hB _ (by decide)) (by first | assumption | rfl | decide | exact bL hB _ (by decide)) ?_
    refine x_goto (t := 24) C 8 rfl (by decide) ?_
    refine x_iconst (q := 25) C 15 (n := (0)) (v := (0)) rfl rfl rfl ?_
    exact x_ireturn C Z 16 rfl rfl rfl (by first | exact hK _ _ _ hR hc (fun z => absurd (hc.trans z) (by decide)) | exact hK _ _ _ hR hc (fun _ => by rw [← hr]; exact aj_u_s _ _ _ _) | exact hK _ _ _ hR hc (fun _ => lb_0 hr (by assumption)) | exact hK _ _ _ hR hc (fun _ => lb_1 hr (by assumption)))
set_option maxRecDepth 100000 in
set_option maxHeartbeats 800000 in
theorem s_L_like {l : Launch} {I : Nat → Nat → Int32} {J : Nat → Nat → Int64} {V : Nat → Nat → Option Nat} {N : Nat → Nat} {L : List Nat} {K : aj_K} {x y : Int32} {n : Nat} (hC : cI I n) (hB : bV V N L) (h15 : 15 ∉ L) (hV15 : ∀ i ∈ L, ∀ j, V i j ≠ some 15) (hCL : cL I) (hK : ∀ (k : Int32) I1 J1, cR I I1 → k = cd1 (ckI x && ckI y) → (cd1 (ckI x && ckI y) = 0 → J1 21 0 = (bI (lkA (cW I V (nn x)) (cW I V (nn y)))).toInt64) → K (.inl (some (.int k))) I1 J1 V N L) : aj_M l yL_like (Cond.codeWith yL_like cL_like 5 (some .int) [(0, 18, 21, 19)] :: aj_TB) (aj_rm 5 2 12) [15] [.ref 20, .int x, .int y, .ref 21] I J V N L K := by
  refine aj_introW (tbl := t_L_like) (lv0 := [some (.ref 20), some (.int x), some (.int y), some (.ref 21), none]) (by decide) T_L_like (fun i h => by cases List.mem_singleton.mp h; unfold aj_sp; decide) (Nat.le_of_ble_eq_true rfl) rfl ?_
  intro G hl C Z HT hGL hGF
  have C : aj_C G cL_like t_L_like RL (aj_rm 5 2 12) 5 := C
  refine y_aload3 (q := 1) C 0 rfl rfl ?_
  refine y_aload0 (q := 2) C 1 rfl rfl ?_
  refine y_iload1 (q := 3) C 2 rfl rfl ?_
  refine y_iload2 (q := 4) C 3 rfl rfl ?_
  refine y_dV2 (q := 7) C 4 rfl rfl ml_RL_59 cd_X3_like cv_X3_like ⟨by decide, rfl⟩ (bL hB _ (by decide)) (by decide) (by decide) (Nat.le_of_ble_eq_true rfl) (bc' := 0) (bs' := 0) rfl rfl (w_like hC hB hCL (fun hz => ?_) ?_)
  · show aj_XT G 4 _ _ _ _ _ _ _ _ _
    refine x_catch1 (a := 0) (b := 18) (hp := 21) (ct := 19) C HT ⟨by decide, by decide⟩ (by decide) cl_L_19 (by decide) (by rw [hGF]; exact List.mem_singleton_self _) h15 hV15 (by simp) ?_
    have hR : cR I I := cR.rf hC
    have hc : (1 : Int32) = cd1 (ckI x && ckI y) := (cd1_f hz).symm
    refine y_astore4 (q := 23) C 11 rfl rfl (Nat.le_of_ble_eq_true rfl) rfl ?_
    refine x_iconst (q := 24) C 12 (n := (1)) (v := (1)) rfl rfl rfl ?_
    exact x_ireturn C Z 13 rfl rfl rfl (by first | exact hK _ _ _ hR hc (fun z => absurd (hc.trans z) (by decide)) | exact hK _ _ _ hR hc (fun _ => by rw [← hr]; exact aj_u_s _ _ _ _) | exact hK _ _ _ hR hc (fun _ => lb_0 hr (by assumption)) | exact hK _ _ _ hR hc (fun _ => lb_1 hr (by assumption)))
  · intro r I1 J0 hk0 hR hr
    have hc : (0 : Int32) = cd1 (ckI x && ckI y) := (cd1_t hk0).symm
    show aj_X G 7 _ _ _ _ _ _ _ _ _
    refine x_if_eq (q := 10) (t := 14) C 5 rfl (by decide) rfl (fun c1 => ?_) (fun c1 => ?_)
    · skip
      refine x_lconst (q := 15) C 8 (n := 0) (v := 0) rfl rfl rfl ?_
      refine x_putJN (q := 18) C 9 rfl rfl fl_RL_13 rfl rfl (by first | assumption | rfl | decide | exact bL hB _ (by decide)) (by first | assumption | rfl | decide | exact bL hB _ (by decide)) ?_
      refine x_goto (t := 25) C 10 rfl (by decide) ?_
      refine x_iconst (q := 26) C 14 (n := (0)) (v := (0)) rfl rfl rfl ?_
      exact x_ireturn C Z 15 rfl rfl rfl (by first | exact hK _ _ _ hR hc (fun z => absurd (hc.trans z) (by decide)) | exact hK _ _ _ hR hc (fun _ => by rw [← hr]; exact aj_u_s _ _ _ _) | exact hK _ _ _ hR hc (fun _ => lb_0 hr (by assumption)) | exact hK _ _ _ hR hc (fun _ => lb_1 hr (by assumption)))
    · skip
      refine x_lconst (q := 11) C 6 (n := 1) (v := 1) rfl rfl rfl ?_
      refine x_goto (t := 15) C 7 rfl (by decide) ?_
      refine x_putJN (q := 18) C 9 rfl rfl fl_RL_13 rfl rfl (by first | assumption | rfl | decide | exact bL hB _ (by decide)) (by first | assumption | rfl | decide | exact bL hB _ (by decide)) ?_
      refine x_goto (t := 25) C 10 rfl (by decide) ?_
      refine x_iconst (q := 26) C 14 (n := (0)) (v := (0)) rfl rfl rfl ?_
      exact x_ireturn C Z 15 rfl rfl rfl (by first | exact hK _ _ _ hR hc (fun z => absurd (hc.trans z) (by decide)) | exact hK _ _ _ hR hc (fun _ => by rw [← hr]; exact aj_u_s _ _ _ _) | exact hK _ _ _ hR hc (fun _ => lb_0 hr (by assumption)) | exact hK _ _ _ hR hc (fun _ => lb_1 hr (by assumption)))
set_option maxRecDepth 100000 in
set_option maxHeartbeats 800000 in
theorem s_L_same {l : Launch} {I : Nat → Nat → Int32} {J : Nat → Nat → Int64} {V : Nat → Nat → Option Nat} {N : Nat → Nat} {L : List Nat} {K : aj_K} {x y w : Int32} {n : Nat} (hC : cI I n) (hB : bV V N L) (h15 : 15 ∉ L) (hV15 : ∀ i ∈ L, ∀ j, V i j ≠ some 15) (hCL : cL I) (hK : ∀ (k : Int32) I1 J1, cR I I1 → k = cd2 (ckI x && ckI y) (pIn w 0 1) → (cd2 (ckI x && ckI y) (pIn w 0 1) = 0 → J1 21 0 = (bI (decide (tO (cW I V (nn x)) (cW I V (nn y)) = 0))).toInt64) → K (.inl (some (.int k))) I1 J1 V N L) : aj_M l yL_same (Cond.codeWith yL_same cL_same 6 (some .int) [(0, 20, 23, 19), (0, 20, 27, 21)] :: aj_TB) (aj_rm 5 3 18) [15] [.ref 20, .int x, .int y, .int w, .ref 21] I J V N L K := by
  refine aj_introW (tbl := t_L_same) (lv0 := [some (.ref 20), some (.int x), some (.int y), some (.int w), some (.ref 21), none]) (by decide) T_L_same (fun i h => by cases List.mem_singleton.mp h; unfold aj_sp; decide) (Nat.le_of_ble_eq_true rfl) rfl ?_
  intro G hl C Z HT hGL hGF
  have C : aj_C G cL_same t_L_same RL (aj_rm 5 3 18) 6 := C
  refine y_aload4 (q := 2) C 0 rfl rfl ?_
  refine y_aload0 (q := 3) C 1 rfl rfl ?_
  refine y_iload1 (q := 4) C 2 rfl rfl ?_
  refine y_iload2 (q := 5) C 3 rfl rfl ?_
  refine y_iload3 (q := 6) C 4 rfl rfl ?_
  refine y_dV3 (q := 9) C 5 rfl rfl ml_RL_63 cd_X3_same cv_X3_same ⟨by decide, rfl⟩ (bL hB _ (by decide)) (by decide) (by decide) (Nat.le_of_ble_eq_true rfl) (bc' := 0) (bs' := 0) rfl rfl (w_same hC hB hCL (fun hz => ?_) (fun hz0 hz => ?_) ?_)
  · show aj_XT G 6 _ _ _ _ _ _ _ _ _
    refine x_catch1 (a := 0) (b := 20) (hp := 23) (ct := 19) C HT ⟨by decide, by decide⟩ (by decide) cl_L_19 (by decide) (by rw [hGF]; exact List.mem_singleton_self _) h15 hV15 (by simp) ?_
    have hR : cR I I := cR.rf hC
    have hc : (1 : Int32) = cd2 (ckI x && ckI y) (pIn w 0 1) := (cd2_1 hz).symm
    refine y_astore5 (q := 25) C 12 rfl rfl (Nat.le_of_ble_eq_true rfl) rfl ?_
    refine x_iconst (q := 26) C 13 (n := (1)) (v := (1)) rfl rfl rfl ?_
    exact x_ireturn C Z 14 rfl rfl rfl (by first | exact hK _ _ _ hR hc (fun z => absurd (hc.trans z) (by decide)) | exact hK _ _ _ hR hc (fun _ => by rw [← hr]; exact aj_u_s _ _ _ _) | exact hK _ _ _ hR hc (fun _ => lb_0 hr (by assumption)) | exact hK _ _ _ hR hc (fun _ => lb_1 hr (by assumption)))
  · show aj_XT G 6 _ _ _ _ _ _ _ _ _
    refine x_catch2 (a := 0) (b := 20) (hp := 27) (ct := 21) (a1 := 0) (b1 := 20) (hp1 := 23) (ct1 := 19) C HT ⟨by decide, by decide⟩ ⟨by decide, by decide⟩ cl_L_21 cl_L_19 (by rw [hGF]; exact List.mem_singleton_self _) h15 hV15 (by simp) ?_
    have hR : cR I I := cR.rf hC
    have hc : (2 : Int32) = cd2 (ckI x && ckI y) (pIn w 0 1) := (cd2_2 hz0 hz).symm
    refine y_astore5 (q := 29) C 15 rfl rfl (Nat.le_of_ble_eq_true rfl) rfl ?_
    refine x_iconst (q := 30) C 16 (n := (2)) (v := (2)) rfl rfl rfl ?_
    exact x_ireturn C Z 17 rfl rfl rfl (by first | exact hK _ _ _ hR hc (fun z => absurd (hc.trans z) (by decide)) | exact hK _ _ _ hR hc (fun _ => by rw [← hr]; exact aj_u_s _ _ _ _) | exact hK _ _ _ hR hc (fun _ => lb_0 hr (by assumption)) | exact hK _ _ _ hR hc (fun _ => lb_1 hr (by assumption)))
  · intro r I1 J0 hk0 hR hr
    have hc : (0 : Int32) = cd2 (ckI x && ckI y) (pIn w 0 1) := (cd2_t hk0.1 hk0.2).symm
    show aj_X G 9 _ _ _ _ _ _ _ _ _
    refine x_if_eq (q := 12) (t := 16) C 6 rfl (by decide) rfl (fun c1 => ?_) (fun c1 => ?_)
    · skip
      refine x_lconst (q := 17) C 9 (n := 0) (v := 0) rfl rfl rfl ?_
      refine x_putJN (q := 20) C 10 rfl rfl fl_RL_13 rfl rfl (by first | assumption | rfl | decide | exact bL hB _ (by decide)) (by first | assumption | rfl | decide | exact bL hB _ (by decide)) ?_
      refine x_goto (t := 31) C 11 rfl (by decide) ?_
      refine x_iconst (q := 32) C 18 (n := (0)) (v := (0)) rfl rfl rfl ?_
      exact x_ireturn C Z 19 rfl rfl rfl (by first | exact hK _ _ _ hR hc (fun z => absurd (hc.trans z) (by decide)) | exact hK _ _ _ hR hc (fun _ => by rw [← hr]; exact aj_u_s _ _ _ _) | exact hK _ _ _ hR hc (fun _ => lb_0 hr (by assumption)) | exact hK _ _ _ hR hc (fun _ => lb_1 hr (by assumption)))
    · skip
      refine x_lconst (q := 13) C 7 (n := 1) (v := 1) rfl rfl rfl ?_
      refine x_goto (t := 17) C 8 rfl (by decide) ?_
      refine x_putJN (q := 20) C 10 rfl rfl fl_RL_13 rfl rfl (by first | assumption | rfl | decide | exact bL hB _ (by decide)) (by first | assumption | rfl | decide | exact bL hB _ (by decide)) ?_
      refine x_goto (t := 31) C 11 rfl (by decide) ?_
      refine x_iconst (q := 32) C 18 (n := (0)) (v := (0)) rfl rfl rfl ?_
      exact x_ireturn C Z 19 rfl rfl rfl (by first | exact hK _ _ _ hR hc (fun z => absurd (hc.trans z) (by decide)) | exact hK _ _ _ hR hc (fun _ => by rw [← hr]; exact aj_u_s _ _ _ _) | exact hK _ _ _ hR hc (fun _ => lb_0 hr (by assumption)) | exact hK _ _ _ hR hc (fun _ => lb_1 hr (by assumption)))
set_option maxRecDepth 100000 in
set_option maxHeartbeats 800000 in
theorem s_L_side {l : Launch} {I : Nat → Nat → Int32} {J : Nat → Nat → Int64} {V : Nat → Nat → Option Nat} {N : Nat → Nat} {L : List Nat} {K : aj_K} {x y : Int32} {n : Nat} (hC : cI I n) (hB : bV V N L) (h15 : 15 ∉ L) (hV15 : ∀ i ∈ L, ∀ j, V i j ≠ some 15) (hCL : cL I) (hK : ∀ (k : Int32) I1 J1, cR I I1 → k = cd1 (ckI x && ckI y) → (cd1 (ckI x && ckI y) = 0 → J1 21 0 = (sdA (cW I V (nn x)) (cW I V (nn y))).toInt64) → K (.inl (some (.int k))) I1 J1 V N L) : aj_M l yL_side (Cond.codeWith yL_side cL_side 5 (some .int) [(0, 11, 14, 19)] :: aj_TB) (aj_rm 5 2 12) [15] [.ref 20, .int x, .int y, .ref 21] I J V N L K := by
  refine aj_introW (tbl := t_L_side) (lv0 := [some (.ref 20), some (.int x), some (.int y), some (.ref 21), none]) (by decide) T_L_side (fun i h => by cases List.mem_singleton.mp h; unfold aj_sp; decide) (Nat.le_of_ble_eq_true rfl) rfl ?_
  intro G hl C Z HT hGL hGF
  have C : aj_C G cL_side t_L_side RL (aj_rm 5 2 12) 5 := C
  refine y_aload3 (q := 1) C 0 rfl rfl ?_
  refine y_aload0 (q := 2) C 1 rfl rfl ?_
  refine y_iload1 (q := 3) C 2 rfl rfl ?_
  refine y_iload2 (q := 4) C 3 rfl rfl ?_
  refine y_dV2 (q := 7) C 4 rfl rfl ml_RL_67 cd_X3_side cv_X3_side ⟨by decide, rfl⟩ (bL hB _ (by decide)) (by decide) (by decide) (Nat.le_of_ble_eq_true rfl) (bc' := 0) (bs' := 0) rfl rfl (w_side hC hB hCL (fun hz => ?_) ?_)
  · show aj_XT G 4 _ _ _ _ _ _ _ _ _
    refine x_catch1 (a := 0) (b := 11) (hp := 14) (ct := 19) C HT ⟨by decide, by decide⟩ (by decide) cl_L_19 (by decide) (by rw [hGF]; exact List.mem_singleton_self _) h15 hV15 (by simp) ?_
    have hR : cR I I := cR.rf hC
    have hc : (1 : Int32) = cd1 (ckI x && ckI y) := (cd1_f hz).symm
    refine y_astore4 (q := 16) C 8 rfl rfl (Nat.le_of_ble_eq_true rfl) rfl ?_
    refine x_iconst (q := 17) C 9 (n := (1)) (v := (1)) rfl rfl rfl ?_
    exact x_ireturn C Z 10 rfl rfl rfl (by first | exact hK _ _ _ hR hc (fun z => absurd (hc.trans z) (by decide)) | exact hK _ _ _ hR hc (fun _ => by rw [← hr]; exact aj_u_s _ _ _ _) | exact hK _ _ _ hR hc (fun _ => lb_0 hr (by assumption)) | exact hK _ _ _ hR hc (fun _ => lb_1 hr (by assumption)))
  · intro r I1 J0 hk0 hR hr
    have hc : (0 : Int32) = cd1 (ckI x && ckI y) := (cd1_t hk0).symm
    show aj_X G 7 _ _ _ _ _ _ _ _ _
    refine x_i2l (q := 8) C 5 rfl rfl ?_
    refine x_putJN (q := 11) C 6 rfl rfl fl_RL_13 rfl rfl (by first | assumption | rfl | decide | exact bL hB _ (by decide)) (by first | assumption | rfl | decide | exact bL hB _ (by decide)) ?_
    refine x_goto (t := 18) C 7 rfl (by decide) ?_
    refine x_iconst (q := 19) C 11 (n := (0)) (v := (0)) rfl rfl rfl ?_
    exact x_ireturn C Z 12 rfl rfl rfl (by first | exact hK _ _ _ hR hc (fun z => absurd (hc.trans z) (by decide)) | exact hK _ _ _ hR hc (fun _ => by rw [← hr]; exact aj_u_s _ _ _ _) | exact hK _ _ _ hR hc (fun _ => lb_0 hr (by assumption)) | exact hK _ _ _ hR hc (fun _ => lb_1 hr (by assumption)))
set_option maxRecDepth 100000 in
set_option maxHeartbeats 800000 in
theorem s_L_eighth {l : Launch} {I : Nat → Nat → Int32} {J : Nat → Nat → Int64} {V : Nat → Nat → Option Nat} {N : Nat → Nat} {L : List Nat} {K : aj_K} {x : Int32} {n : Nat} (hC : cI I n) (hB : bV V N L) (h15 : 15 ∉ L) (hV15 : ∀ i ∈ L, ∀ j, V i j ≠ some 15) (hCL : cL I) (hK : ∀ (k : Int32) I1 J1, cR I I1 → k = cd1 (ckI x) → (cd1 (ckI x) = 0 → J1 21 0 = (egR (cW I V (nn x))).toInt64) → K (.inl (some (.int k))) I1 J1 V N L) : aj_M l yL_eighth (Cond.codeWith yL_eighth cL_eighth 4 (some .int) [(0, 10, 13, 19)] :: aj_TB) (aj_rm 5 1 6) [15] [.ref 20, .int x, .ref 21] I J V N L K := by
  refine aj_introW (tbl := t_L_eighth) (lv0 := [some (.ref 20), some (.int x), some (.ref 21), none]) (by decide) T_L_eighth (fun i h => by cases List.mem_singleton.mp h; unfold aj_sp; decide) (Nat.le_of_ble_eq_true rfl) rfl ?_
  intro G hl C Z HT hGL hGF
  have C : aj_C G cL_eighth t_L_eighth RL (aj_rm 5 1 6) 4 := C
  refine y_aload2 (q := 1) C 0 rfl rfl ?_
  refine y_aload0 (q := 2) C 1 rfl rfl ?_
  refine y_iload1 (q := 3) C 2 rfl rfl ?_
  refine y_dV1 (q := 6) C 3 rfl rfl ml_RL_70 cd_X3_eighth cv_X3_eighth ⟨by decide, rfl⟩ (bL hB _ (by decide)) (by decide) (by decide) (Nat.le_of_ble_eq_true rfl) (bc' := 0) (bs' := 0) rfl rfl (w_eighth hC hB hCL (fun hz => ?_) ?_)
  · show aj_XT G 3 _ _ _ _ _ _ _ _ _
    refine x_catch1 (a := 0) (b := 10) (hp := 13) (ct := 19) C HT ⟨by decide, by decide⟩ (by decide) cl_L_19 (by decide) (by rw [hGF]; exact List.mem_singleton_self _) h15 hV15 (by simp) ?_
    have hR : cR I I := cR.rf hC
    have hc : (1 : Int32) = cd1 (ckI x) := (cd1_f hz).symm
    refine y_astore3 (q := 14) C 7 rfl rfl (Nat.le_of_ble_eq_true rfl) rfl ?_
    refine x_iconst (q := 15) C 8 (n := (1)) (v := (1)) rfl rfl rfl ?_
    exact x_ireturn C Z 9 rfl rfl rfl (by first | exact hK _ _ _ hR hc (fun z => absurd (hc.trans z) (by decide)) | exact hK _ _ _ hR hc (fun _ => by rw [← hr]; exact aj_u_s _ _ _ _) | exact hK _ _ _ hR hc (fun _ => lb_0 hr (by assumption)) | exact hK _ _ _ hR hc (fun _ => lb_1 hr (by assumption)))
  · intro r I1 J0 hk0 hR hr
    have hc : (0 : Int32) = cd1 (ckI x) := (cd1_t hk0).symm
    show aj_X G 6 _ _ _ _ _ _ _ _ _
    refine x_i2l (q := 7) C 4 rfl rfl ?_
    refine x_putJN (q := 10) C 5 rfl rfl fl_RL_13 rfl rfl (by first | assumption | rfl | decide | exact bL hB _ (by decide)) (by first | assumption | rfl | decide | exact bL hB _ (by decide)) ?_
    refine x_goto (t := 16) C 6 rfl (by decide) ?_
    refine x_iconst (q := 17) C 10 (n := (0)) (v := (0)) rfl rfl rfl ?_
    exact x_ireturn C Z 11 rfl rfl rfl (by first | exact hK _ _ _ hR hc (fun z => absurd (hc.trans z) (by decide)) | exact hK _ _ _ hR hc (fun _ => by rw [← hr]; exact aj_u_s _ _ _ _) | exact hK _ _ _ hR hc (fun _ => lb_0 hr (by assumption)) | exact hK _ _ _ hR hc (fun _ => lb_1 hr (by assumption)))
set_option maxRecDepth 100000 in
set_option maxHeartbeats 800000 in
theorem s_L_rule {l : Launch} {I : Nat → Nat → Int32} {J : Nat → Nat → Int64} {V : Nat → Nat → Option Nat} {N : Nat → Nat} {L : List Nat} {K : aj_K} {x w : Int32} {n : Nat} (hC : cI I n) (hB : bV V N L) (h15 : 15 ∉ L) (hV15 : ∀ i ∈ L, ∀ j, V i j ≠ some 15) (hCL : cL I) (hK : ∀ (k : Int32) I1 J1, cR I I1 → k = cd2 (ckI x) (pIn w 0 7) → (cd2 (ckI x) (pIn w 0 7) = 0 → J1 21 0 = (ruA w (cW I V (nn x))).toInt64) → K (.inl (some (.int k))) I1 J1 V N L) : aj_M l yL_rule (Cond.codeWith yL_rule cL_rule 5 (some .int) [(0, 11, 14, 19), (0, 11, 18, 21)] :: aj_TB) (aj_rm 5 2 12) [15] [.ref 20, .int x, .int w, .ref 21] I J V N L K := by
  refine aj_introW (tbl := t_L_rule) (lv0 := [some (.ref 20), some (.int x), some (.int w), some (.ref 21), none]) (by decide) T_L_rule (fun i h => by cases List.mem_singleton.mp h; unfold aj_sp; decide) (Nat.le_of_ble_eq_true rfl) rfl ?_
  intro G hl C Z HT hGL hGF
  have C : aj_C G cL_rule t_L_rule RL (aj_rm 5 2 12) 5 := C
  refine y_aload3 (q := 1) C 0 rfl rfl ?_
  refine y_aload0 (q := 2) C 1 rfl rfl ?_
  refine y_iload1 (q := 3) C 2 rfl rfl ?_
  refine y_iload2 (q := 4) C 3 rfl rfl ?_
  refine y_dV2 (q := 7) C 4 rfl rfl ml_RL_73 cd_X3_rule cv_X3_rule ⟨by decide, rfl⟩ (bL hB _ (by decide)) (by decide) (by decide) (Nat.le_of_ble_eq_true rfl) (bc' := 0) (bs' := 0) rfl rfl (w_rule hC hB hCL (fun hz => ?_) (fun hz0 hz => ?_) ?_)
  · show aj_XT G 4 _ _ _ _ _ _ _ _ _
    refine x_catch1 (a := 0) (b := 11) (hp := 14) (ct := 19) C HT ⟨by decide, by decide⟩ (by decide) cl_L_19 (by decide) (by rw [hGF]; exact List.mem_singleton_self _) h15 hV15 (by simp) ?_
    have hR : cR I I := cR.rf hC
    have hc : (1 : Int32) = cd2 (ckI x) (pIn w 0 7) := (cd2_1 hz).symm
    refine y_astore4 (q := 16) C 8 rfl rfl (Nat.le_of_ble_eq_true rfl) rfl ?_
    refine x_iconst (q := 17) C 9 (n := (1)) (v := (1)) rfl rfl rfl ?_
    exact x_ireturn C Z 10 rfl rfl rfl (by first | exact hK _ _ _ hR hc (fun z => absurd (hc.trans z) (by decide)) | exact hK _ _ _ hR hc (fun _ => by rw [← hr]; exact aj_u_s _ _ _ _) | exact hK _ _ _ hR hc (fun _ => lb_0 hr (by assumption)) | exact hK _ _ _ hR hc (fun _ => lb_1 hr (by assumption)))
  · show aj_XT G 4 _ _ _ _ _ _ _ _ _
    refine x_catch2 (a := 0) (b := 11) (hp := 18) (ct := 21) (a1 := 0) (b1 := 11) (hp1 := 14) (ct1 := 19) C HT ⟨by decide, by decide⟩ ⟨by decide, by decide⟩ cl_L_21 cl_L_19 (by rw [hGF]; exact List.mem_singleton_self _) h15 hV15 (by simp) ?_
    have hR : cR I I := cR.rf hC
    have hc : (2 : Int32) = cd2 (ckI x) (pIn w 0 7) := (cd2_2 hz0 hz).symm
    refine y_astore4 (q := 20) C 11 rfl rfl (Nat.le_of_ble_eq_true rfl) rfl ?_
    refine x_iconst (q := 21) C 12 (n := (2)) (v := (2)) rfl rfl rfl ?_
    exact x_ireturn C Z 13 rfl rfl rfl (by first | exact hK _ _ _ hR hc (fun z => absurd (hc.trans z) (by decide)) | exact hK _ _ _ hR hc (fun _ => by rw [← hr]; exact aj_u_s _ _ _ _) | exact hK _ _ _ hR hc (fun _ => lb_0 hr (by assumption)) | exact hK _ _ _ hR hc (fun _ => lb_1 hr (by assumption)))
  · intro r I1 J0 hk0 hR hr
    have hc : (0 : Int32) = cd2 (ckI x) (pIn w 0 7) := (cd2_t hk0.1 hk0.2).symm
    show aj_X G 7 _ _ _ _ _ _ _ _ _
    refine x_i2l (q := 8) C 5 rfl rfl ?_
    refine x_putJN (q := 11) C 6 rfl rfl fl_RL_13 rfl rfl (by first | assumption | rfl | decide | exact bL hB _ (by decide)) (by first | assumption | rfl | decide | exact bL hB _ (by decide)) ?_
    refine x_goto (t := 22) C 7 rfl (by decide) ?_
    refine x_iconst (q := 23) C 14 (n := (0)) (v := (0)) rfl rfl rfl ?_
    exact x_ireturn C Z 15 rfl rfl rfl (by first | exact hK _ _ _ hR hc (fun z => absurd (hc.trans z) (by decide)) | exact hK _ _ _ hR hc (fun _ => by rw [← hr]; exact aj_u_s _ _ _ _) | exact hK _ _ _ hR hc (fun _ => lb_0 hr (by assumption)) | exact hK _ _ _ hR hc (fun _ => lb_1 hr (by assumption)))
set_option maxRecDepth 100000 in
set_option maxHeartbeats 800000 in
theorem s_L_find {l : Launch} {I : Nat → Nat → Int32} {J : Nat → Nat → Int64} {V : Nat → Nat → Option Nat} {N : Nat → Nat} {L : List Nat} {K : aj_K} {x : Int32} {b : Bool} {n : Nat} (hC : cI I n) (hB : bV V N L) (h15 : 15 ∉ L) (hV15 : ∀ i ∈ L, ∀ j, V i j ≠ some 15) (hCL : cL I) (hK : ∀ (k : Int32) I1 J1, cR I I1 → k = cd1 (ckI x) → (cd1 (ckI x) = 0 → J1 21 0 = (nI (fdN b (cW I V) (nn x))).toInt64) → K (.inl (some (.int k))) I1 J1 V N L) : aj_M l yL_find (Cond.codeWith yL_find cL_find 5 (some .int) [(0, 11, 14, 19)] :: aj_TB) (aj_rm 5 1 6) [15] [.ref 20, .int x, .int (bI b), .ref 21] I J V N L K := by
  refine aj_introW (tbl := t_L_find) (lv0 := [some (.ref 20), some (.int x), some (.int (bI b)), some (.ref 21), none]) (by decide) T_L_find (fun i h => by cases List.mem_singleton.mp h; unfold aj_sp; decide) (Nat.le_of_ble_eq_true rfl) rfl ?_
  intro G hl C Z HT hGL hGF
  have C : aj_C G cL_find t_L_find RL (aj_rm 5 1 6) 5 := C
  refine y_aload3 (q := 1) C 0 rfl rfl ?_
  refine y_aload0 (q := 2) C 1 rfl rfl ?_
  refine y_iload1 (q := 3) C 2 rfl rfl ?_
  refine y_iload2 (q := 4) C 3 rfl rfl ?_
  refine y_dV2 (q := 7) C 4 rfl rfl ml_RL_76 cd_X3_find cv_X3_find ⟨by decide, rfl⟩ (bL hB _ (by decide)) (by decide) (by decide) (Nat.le_of_ble_eq_true rfl) (bc' := 0) (bs' := 0) rfl rfl (w_find hC hB hCL (fun hz => ?_) ?_)
  · show aj_XT G 4 _ _ _ _ _ _ _ _ _
    refine x_catch1 (a := 0) (b := 11) (hp := 14) (ct := 19) C HT ⟨by decide, by decide⟩ (by decide) cl_L_19 (by decide) (by rw [hGF]; exact List.mem_singleton_self _) h15 hV15 (by simp) ?_
    have hR : cR I I := cR.rf hC
    have hc : (1 : Int32) = cd1 (ckI x) := (cd1_f hz).symm
    refine y_astore4 (q := 16) C 8 rfl rfl (Nat.le_of_ble_eq_true rfl) rfl ?_
    refine x_iconst (q := 17) C 9 (n := (1)) (v := (1)) rfl rfl rfl ?_
    exact x_ireturn C Z 10 rfl rfl rfl (by first | exact hK _ _ _ hR hc (fun z => absurd (hc.trans z) (by decide)) | exact hK _ _ _ hR hc (fun _ => by rw [← hr]; exact aj_u_s _ _ _ _) | exact hK _ _ _ hR hc (fun _ => lb_0 hr (by assumption)) | exact hK _ _ _ hR hc (fun _ => lb_1 hr (by assumption)))
  · intro r I1 J0 hk0 hR hr
    have hc : (0 : Int32) = cd1 (ckI x) := (cd1_t hk0).symm
    show aj_X G 7 _ _ _ _ _ _ _ _ _
    refine x_i2l (q := 8) C 5 rfl rfl ?_
    refine x_putJN (q := 11) C 6 rfl rfl fl_RL_13 rfl rfl (by first | assumption | rfl | decide | exact bL hB _ (by decide)) (by first | assumption | rfl | decide | exact bL hB _ (by decide)) ?_
    refine x_goto (t := 18) C 7 rfl (by decide) ?_
    refine x_iconst (q := 19) C 11 (n := (0)) (v := (0)) rfl rfl rfl ?_
    exact x_ireturn C Z 12 rfl rfl rfl (by first | exact hK _ _ _ hR hc (fun z => absurd (hc.trans z) (by decide)) | exact hK _ _ _ hR hc (fun _ => by rw [← hr]; exact aj_u_s _ _ _ _) | exact hK _ _ _ hR hc (fun _ => lb_0 hr (by assumption)) | exact hK _ _ _ hR hc (fun _ => lb_1 hr (by assumption)))
set_option maxRecDepth 100000 in
set_option maxHeartbeats 800000 in
theorem s_L_addPlace {l : Launch} {I : Nat → Nat → Int32} {J : Nat → Nat → Int64} {V : Nat → Nat → Option Nat} {N : Nat → Nat} {L : List Nat} {K : aj_K} {x y : Int32} {n : Nat} (hC : cI I n) (hB : bV V N L) (h15 : 15 ∉ L) (hV15 : ∀ i ∈ L, ∀ j, V i j ≠ some 15) (hK : ∀ (k : Int32) I1 J1, cQ I I1 (nxAdd x y (kW I)) → k = cd1 (vAt x y) → (cd1 (vAt x y) = 0 → J1 21 0 = (anAdd x y (kW I)).toInt64) → K (.inl (some (.int k))) I1 J1 V N L) : aj_M l yL_addPlace (Cond.codeWith yL_addPlace cL_addPlace 5 (some .int) [(0, 11, 14, 21)] :: aj_TB) (aj_rm 7 2 12) [15] [.ref 20, .int x, .int y, .ref 21] I J V N L K := by
  refine aj_introW (tbl := t_L_addPlace) (lv0 := [some (.ref 20), some (.int x), some (.int y), some (.ref 21), none]) (by decide) T_L_addPlace (fun i h => by cases List.mem_singleton.mp h; unfold aj_sp; decide) (Nat.le_of_ble_eq_true rfl) rfl ?_
  intro G hl C Z HT hGL hGF
  have C : aj_C G cL_addPlace t_L_addPlace RL (aj_rm 7 2 12) 5 := C
  refine y_aload3 (q := 1) C 0 rfl rfl ?_
  refine y_aload0 (q := 2) C 1 rfl rfl ?_
  refine y_iload1 (q := 3) C 2 rfl rfl ?_
  refine y_iload2 (q := 4) C 3 rfl rfl ?_
  refine y_dV2 (q := 7) C 4 rfl rfl ml_RL_80 cd_X3_addPlace cv_X3_addPlace ⟨by decide, rfl⟩ (bL hB _ (by decide)) (by decide) (by decide) (Nat.le_of_ble_eq_true rfl) (bc' := 0) (bs' := 0) rfl rfl (w_addPlace hC hB (fun hz => ?_) ?_)
  · show aj_XT G 4 _ _ _ _ _ _ _ _ _
    refine x_catch1 (a := 0) (b := 11) (hp := 14) (ct := 21) C HT ⟨by decide, by decide⟩ (by decide) cl_L_21 (by decide) (by rw [hGF]; exact List.mem_singleton_self _) h15 hV15 (by simp) ?_
    have hR : cQ I I (nxAdd x y (kW I)) := cQ.no (cR.rf hC) (nxAdd_f (bAdd_0 hz))
    have hc : (1 : Int32) = cd1 (vAt x y) := (cd1_f hz).symm
    refine y_astore4 (q := 16) C 8 rfl rfl (Nat.le_of_ble_eq_true rfl) rfl ?_
    refine x_iconst (q := 17) C 9 (n := (1)) (v := (1)) rfl rfl rfl ?_
    exact x_ireturn C Z 10 rfl rfl rfl (by first | exact hK _ _ _ hR hc (fun z => absurd (hc.trans z) (by decide)) | exact hK _ _ _ hR hc (fun _ => by rw [← hr]; exact aj_u_s _ _ _ _) | exact hK _ _ _ hR hc (fun _ => lb_0 hr (by assumption)) | exact hK _ _ _ hR hc (fun _ => lb_1 hr (by assumption)))
  · intro r I1 J0 hk0 hR hr
    have hc : (0 : Int32) = cd1 (vAt x y) := (cd1_t hk0).symm
    show aj_X G 7 _ _ _ _ _ _ _ _ _
    refine x_i2l (q := 8) C 5 rfl rfl ?_
    refine x_putJN (q := 11) C 6 rfl rfl fl_RL_13 rfl rfl (by first | assumption | rfl | decide | exact bL hB _ (by decide)) (by first | assumption | rfl | decide | exact bL hB _ (by decide)) ?_
    refine x_goto (t := 18) C 7 rfl (by decide) ?_
    refine x_iconst (q := 19) C 11 (n := (0)) (v := (0)) rfl rfl rfl ?_
    exact x_ireturn C Z 12 rfl rfl rfl (by first | exact hK _ _ _ hR hc (fun z => absurd (hc.trans z) (by decide)) | exact hK _ _ _ hR hc (fun _ => by rw [← hr]; exact aj_u_s _ _ _ _) | exact hK _ _ _ hR hc (fun _ => lb_0 hr (by assumption)) | exact hK _ _ _ hR hc (fun _ => lb_1 hr (by assumption)))
set_option maxRecDepth 100000 in
set_option maxHeartbeats 800000 in
theorem s_L_removePlace {l : Launch} {I : Nat → Nat → Int32} {J : Nat → Nat → Int64} {V : Nat → Nat → Option Nat} {N : Nat → Nat} {L : List Nat} {K : aj_K} {x : Int32} {n : Nat} (hC : cI I n) (hB : bV V N L) (h15 : 15 ∉ L) (hV15 : ∀ i ∈ L, ∀ j, V i j ≠ some 15) (hK : ∀ (k : Int32) I1 J1, cQ I I1 (nxRem x (kW I)) → k = cd1 (vOk (vN (kW I)) x) → (cd1 (vOk (vN (kW I)) x) = 0 → J1 21 0 = (anRem (kW I)).toInt64) → K (.inl (some (.int k))) I1 J1 V N L) : aj_M l yL_removePlace (Cond.codeWith yL_removePlace cL_removePlace 4 (some .int) [(0, 10, 13, 19)] :: aj_TB) (aj_rm 7 1 6) [15] [.ref 20, .int x, .ref 21] I J V N L K := by
  refine aj_introW (tbl := t_L_removePlace) (lv0 := [some (.ref 20), some (.int x), some (.ref 21), none]) (by decide) T_L_removePlace (fun i h => by cases List.mem_singleton.mp h; unfold aj_sp; decide) (Nat.le_of_ble_eq_true rfl) rfl ?_
  intro G hl C Z HT hGL hGF
  have C : aj_C G cL_removePlace t_L_removePlace RL (aj_rm 7 1 6) 4 := C
  refine y_aload2 (q := 1) C 0 rfl rfl ?_
  refine y_aload0 (q := 2) C 1 rfl rfl ?_
  refine y_iload1 (q := 3) C 2 rfl rfl ?_
  refine y_dV1 (q := 6) C 3 rfl rfl ml_RL_83 cd_X3_removePlace cv_X3_removePlace ⟨by decide, rfl⟩ (bL hB _ (by decide)) (by decide) (by decide) (Nat.le_of_ble_eq_true rfl) (bc' := 0) (bs' := 0) rfl rfl (w_removePlace hC hB (fun hz => ?_) ?_)
  · show aj_XT G 3 _ _ _ _ _ _ _ _ _
    refine x_catch1 (a := 0) (b := 10) (hp := 13) (ct := 19) C HT ⟨by decide, by decide⟩ (by decide) cl_L_19 (by decide) (by rw [hGF]; exact List.mem_singleton_self _) h15 hV15 (by simp) ?_
    have hR : cQ I I (nxRem x (kW I)) := cQ.no (cR.rf hC) (nxRem_f hz)
    have hc : (1 : Int32) = cd1 (vOk (vN (kW I)) x) := (cd1_f hz).symm
    refine y_astore3 (q := 14) C 7 rfl rfl (Nat.le_of_ble_eq_true rfl) rfl ?_
    refine x_iconst (q := 15) C 8 (n := (1)) (v := (1)) rfl rfl rfl ?_
    exact x_ireturn C Z 9 rfl rfl rfl (by first | exact hK _ _ _ hR hc (fun z => absurd (hc.trans z) (by decide)) | exact hK _ _ _ hR hc (fun _ => by rw [← hr]; exact aj_u_s _ _ _ _) | exact hK _ _ _ hR hc (fun _ => lb_0 hr (by assumption)) | exact hK _ _ _ hR hc (fun _ => lb_1 hr (by assumption)))
  · intro r I1 J0 hk0 hR hr
    have hc : (0 : Int32) = cd1 (vOk (vN (kW I)) x) := (cd1_t hk0).symm
    show aj_X G 6 _ _ _ _ _ _ _ _ _
    refine x_i2l (q := 7) C 4 rfl rfl ?_
    refine x_putJN (q := 10) C 5 rfl rfl fl_RL_13 rfl rfl (by first | assumption | rfl | decide | exact bL hB _ (by decide)) (by first | assumption | rfl | decide | exact bL hB _ (by decide)) ?_
    refine x_goto (t := 16) C 6 rfl (by decide) ?_
    refine x_iconst (q := 17) C 10 (n := (0)) (v := (0)) rfl rfl rfl ?_
    exact x_ireturn C Z 11 rfl rfl rfl (by first | exact hK _ _ _ hR hc (fun z => absurd (hc.trans z) (by decide)) | exact hK _ _ _ hR hc (fun _ => by rw [← hr]; exact aj_u_s _ _ _ _) | exact hK _ _ _ hR hc (fun _ => lb_0 hr (by assumption)) | exact hK _ _ _ hR hc (fun _ => lb_1 hr (by assumption)))
set_option maxRecDepth 100000 in
set_option maxHeartbeats 800000 in
theorem s_L_movePlace {l : Launch} {I : Nat → Nat → Int32} {J : Nat → Nat → Int64} {V : Nat → Nat → Option Nat} {N : Nat → Nat} {L : List Nat} {K : aj_K} {w x y : Int32} {n : Nat} (hC : cI I n) (hB : bV V N L) (h15 : 15 ∉ L) (hV15 : ∀ i ∈ L, ∀ j, V i j ≠ some 15) (hK : ∀ (k : Int32) I1 J1, cQ I I1 (nxMov w x y (kW I)) → k = cd2 (vOk (vN (kW I)) w) (vAt x y) → (cd2 (vOk (vN (kW I)) w) (vAt x y) = 0 → J1 21 0 = (anMov w x y (kW I)).toInt64) → K (.inl (some (.int k))) I1 J1 V N L) : aj_M l yL_movePlace (Cond.codeWith yL_movePlace cL_movePlace 6 (some .int) [(0, 13, 16, 19), (0, 13, 20, 21)] :: aj_TB) (aj_rm 7 3 18) [15] [.ref 20, .int w, .int x, .int y, .ref 21] I J V N L K := by
  refine aj_introW (tbl := t_L_movePlace) (lv0 := [some (.ref 20), some (.int w), some (.int x), some (.int y), some (.ref 21), none]) (by decide) T_L_movePlace (fun i h => by cases List.mem_singleton.mp h; unfold aj_sp; decide) (Nat.le_of_ble_eq_true rfl) rfl ?_
  intro G hl C Z HT hGL hGF
  have C : aj_C G cL_movePlace t_L_movePlace RL (aj_rm 7 3 18) 6 := C
  refine y_aload4 (q := 2) C 0 rfl rfl ?_
  refine y_aload0 (q := 3) C 1 rfl rfl ?_
  refine y_iload1 (q := 4) C 2 rfl rfl ?_
  refine y_iload2 (q := 5) C 3 rfl rfl ?_
  refine y_iload3 (q := 6) C 4 rfl rfl ?_
  refine y_dV3 (q := 9) C 5 rfl rfl ml_RL_86 cd_X3_movePlace cv_X3_movePlace ⟨by decide, rfl⟩ (bL hB _ (by decide)) (by decide) (by decide) (Nat.le_of_ble_eq_true rfl) (bc' := 0) (bs' := 0) rfl rfl (w_movePlace hC hB (fun hz => ?_) (fun hz0 hz => ?_) ?_)
  · show aj_XT G 6 _ _ _ _ _ _ _ _ _
    refine x_catch1 (a := 0) (b := 13) (hp := 16) (ct := 19) C HT ⟨by decide, by decide⟩ (by decide) cl_L_19 (by decide) (by rw [hGF]; exact List.mem_singleton_self _) h15 hV15 (by simp) ?_
    have hR : cQ I I (nxMov w x y (kW I)) := cQ.no (cR.rf hC) (nxMov_f (bMov_0 hz))
    have hc : (1 : Int32) = cd2 (vOk (vN (kW I)) w) (vAt x y) := (cd2_1 hz).symm
    refine y_astore5 (q := 18) C 9 rfl rfl (Nat.le_of_ble_eq_true rfl) rfl ?_
    refine x_iconst (q := 19) C 10 (n := (1)) (v := (1)) rfl rfl rfl ?_
    exact x_ireturn C Z 11 rfl rfl rfl (by first | exact hK _ _ _ hR hc (fun z => absurd (hc.trans z) (by decide)) | exact hK _ _ _ hR hc (fun _ => by rw [← hr]; exact aj_u_s _ _ _ _) | exact hK _ _ _ hR hc (fun _ => lb_0 hr (by assumption)) | exact hK _ _ _ hR hc (fun _ => lb_1 hr (by assumption)))
  · show aj_XT G 6 _ _ _ _ _ _ _ _ _
    refine x_catch2 (a := 0) (b := 13) (hp := 20) (ct := 21) (a1 := 0) (b1 := 13) (hp1 := 16) (ct1 := 19) C HT ⟨by decide, by decide⟩ ⟨by decide, by decide⟩ cl_L_21 cl_L_19 (by rw [hGF]; exact List.mem_singleton_self _) h15 hV15 (by simp) ?_
    have hR : cQ I I (nxMov w x y (kW I)) := cQ.no (cR.rf hC) (nxMov_f (bMov_1 hz))
    have hc : (2 : Int32) = cd2 (vOk (vN (kW I)) w) (vAt x y) := (cd2_2 hz0 hz).symm
    refine y_astore5 (q := 22) C 12 rfl rfl (Nat.le_of_ble_eq_true rfl) rfl ?_
    refine x_iconst (q := 23) C 13 (n := (2)) (v := (2)) rfl rfl rfl ?_
    exact x_ireturn C Z 14 rfl rfl rfl (by first | exact hK _ _ _ hR hc (fun z => absurd (hc.trans z) (by decide)) | exact hK _ _ _ hR hc (fun _ => by rw [← hr]; exact aj_u_s _ _ _ _) | exact hK _ _ _ hR hc (fun _ => lb_0 hr (by assumption)) | exact hK _ _ _ hR hc (fun _ => lb_1 hr (by assumption)))
  · intro r I1 J0 hk0 hR hr
    have hc : (0 : Int32) = cd2 (vOk (vN (kW I)) w) (vAt x y) := (cd2_t hk0.1 hk0.2).symm
    show aj_X G 9 _ _ _ _ _ _ _ _ _
    refine x_i2l (q := 10) C 6 rfl rfl ?_
    refine x_putJN (q := 13) C 7 rfl rfl fl_RL_13 rfl rfl (by first | assumption | rfl | decide | exact bL hB _ (by decide)) (by first | assumption | rfl | decide | exact bL hB _ (by decide)) ?_
    refine x_goto (t := 24) C 8 rfl (by decide) ?_
    refine x_iconst (q := 25) C 15 (n := (0)) (v := (0)) rfl rfl rfl ?_
    exact x_ireturn C Z 16 rfl rfl rfl (by first | exact hK _ _ _ hR hc (fun z => absurd (hc.trans z) (by decide)) | exact hK _ _ _ hR hc (fun _ => by rw [← hr]; exact aj_u_s _ _ _ _) | exact hK _ _ _ hR hc (fun _ => lb_0 hr (by assumption)) | exact hK _ _ _ hR hc (fun _ => lb_1 hr (by assumption)))
set_option maxRecDepth 100000 in
set_option maxHeartbeats 800000 in
theorem s_L_centre {l : Launch} {I : Nat → Nat → Int32} {J : Nat → Nat → Int64} {V : Nat → Nat → Option Nat} {N : Nat → Nat} {L : List Nat} {K : aj_K} {x y : Int32} {n : Nat} (hC : cI I n) (hB : bV V N L) (h15 : 15 ∉ L) (hV15 : ∀ i ∈ L, ∀ j, V i j ≠ some 15) (hK : ∀ (k : Int32) I1 J1, cQ I I1 (nxCe x y (kW I)) → k = cd1 (vAt x y) → (cd1 (vAt x y) = 0 → J1 21 0 = (anCe x y (kW I)).toInt64) → K (.inl (some (.int k))) I1 J1 V N L) : aj_M l yL_centre (Cond.codeWith yL_centre cL_centre 5 (some .int) [(0, 11, 14, 21)] :: aj_TB) (aj_rm 7 2 12) [15] [.ref 20, .int x, .int y, .ref 21] I J V N L K := by
  refine aj_introW (tbl := t_L_centre) (lv0 := [some (.ref 20), some (.int x), some (.int y), some (.ref 21), none]) (by decide) T_L_centre (fun i h => by cases List.mem_singleton.mp h; unfold aj_sp; decide) (Nat.le_of_ble_eq_true rfl) rfl ?_
  intro G hl C Z HT hGL hGF
  have C : aj_C G cL_centre t_L_centre RL (aj_rm 7 2 12) 5 := C
  refine y_aload3 (q := 1) C 0 rfl rfl ?_
  refine y_aload0 (q := 2) C 1 rfl rfl ?_
  refine y_iload1 (q := 3) C 2 rfl rfl ?_
  refine y_iload2 (q := 4) C 3 rfl rfl ?_
  refine y_dV2 (q := 7) C 4 rfl rfl ml_RL_89 cd_X3_centre cv_X3_centre ⟨by decide, rfl⟩ (bL hB _ (by decide)) (by decide) (by decide) (Nat.le_of_ble_eq_true rfl) (bc' := 0) (bs' := 0) rfl rfl (w_centre hC hB (fun hz => ?_) ?_)
  · show aj_XT G 4 _ _ _ _ _ _ _ _ _
    refine x_catch1 (a := 0) (b := 11) (hp := 14) (ct := 21) C HT ⟨by decide, by decide⟩ (by decide) cl_L_21 (by decide) (by rw [hGF]; exact List.mem_singleton_self _) h15 hV15 (by simp) ?_
    have hR : cQ I I (nxCe x y (kW I)) := cQ.no (cR.rf hC) (nxCe_f hz)
    have hc : (1 : Int32) = cd1 (vAt x y) := (cd1_f hz).symm
    refine y_astore4 (q := 16) C 8 rfl rfl (Nat.le_of_ble_eq_true rfl) rfl ?_
    refine x_iconst (q := 17) C 9 (n := (1)) (v := (1)) rfl rfl rfl ?_
    exact x_ireturn C Z 10 rfl rfl rfl (by first | exact hK _ _ _ hR hc (fun z => absurd (hc.trans z) (by decide)) | exact hK _ _ _ hR hc (fun _ => by rw [← hr]; exact aj_u_s _ _ _ _) | exact hK _ _ _ hR hc (fun _ => lb_0 hr (by assumption)) | exact hK _ _ _ hR hc (fun _ => lb_1 hr (by assumption)))
  · intro r I1 J0 hk0 hR hr
    have hc : (0 : Int32) = cd1 (vAt x y) := (cd1_t hk0).symm
    show aj_X G 7 _ _ _ _ _ _ _ _ _
    refine x_i2l (q := 8) C 5 rfl rfl ?_
    refine x_putJN (q := 11) C 6 rfl rfl fl_RL_13 rfl rfl (by first | assumption | rfl | decide | exact bL hB _ (by decide)) (by first | assumption | rfl | decide | exact bL hB _ (by decide)) ?_
    refine x_goto (t := 18) C 7 rfl (by decide) ?_
    refine x_iconst (q := 19) C 11 (n := (0)) (v := (0)) rfl rfl rfl ?_
    exact x_ireturn C Z 12 rfl rfl rfl (by first | exact hK _ _ _ hR hc (fun z => absurd (hc.trans z) (by decide)) | exact hK _ _ _ hR hc (fun _ => by rw [← hr]; exact aj_u_s _ _ _ _) | exact hK _ _ _ hR hc (fun _ => lb_0 hr (by assumption)) | exact hK _ _ _ hR hc (fun _ => lb_1 hr (by assumption)))
set_option maxRecDepth 100000 in
set_option maxHeartbeats 800000 in
theorem s_L_place {l : Launch} {I : Nat → Nat → Int32} {J : Nat → Nat → Int64} {V : Nat → Nat → Option Nat} {N : Nat → Nat} {L : List Nat} {K : aj_K} {x : Int32} {b : Bool} {n : Nat} (hC : cI I n) (hB : bV V N L) (h15 : 15 ∉ L) (hV15 : ∀ i ∈ L, ∀ j, V i j ≠ some 15) (hK : ∀ (k : Int32) I1 J1, cR I I1 → k = cd1 (vOk (vN (kW I)) x) → (cd1 (vOk (vN (kW I)) x) = 0 → J1 21 0 = (anPl x b (kW I)).toInt64) → K (.inl (some (.int k))) I1 J1 V N L) : aj_M l yL_place (Cond.codeWith yL_place cL_place 5 (some .int) [(0, 11, 14, 19)] :: aj_TB) (aj_rm 3 1 6) [15] [.ref 20, .int x, .int (bI b), .ref 21] I J V N L K := by
  refine aj_introW (tbl := t_L_place) (lv0 := [some (.ref 20), some (.int x), some (.int (bI b)), some (.ref 21), none]) (by decide) T_L_place (fun i h => by cases List.mem_singleton.mp h; unfold aj_sp; decide) (Nat.le_of_ble_eq_true rfl) rfl ?_
  intro G hl C Z HT hGL hGF
  have C : aj_C G cL_place t_L_place RL (aj_rm 3 1 6) 5 := C
  refine y_aload3 (q := 1) C 0 rfl rfl ?_
  refine y_aload0 (q := 2) C 1 rfl rfl ?_
  refine y_iload1 (q := 3) C 2 rfl rfl ?_
  refine y_iload2 (q := 4) C 3 rfl rfl ?_
  refine y_dV2 (q := 7) C 4 rfl rfl ml_RL_92 cd_X3_place cv_X3_place ⟨by decide, rfl⟩ (bL hB _ (by decide)) (by decide) (by decide) (Nat.le_of_ble_eq_true rfl) (bc' := 0) (bs' := 0) rfl rfl (w_place hC hB (fun hz => ?_) ?_)
  · show aj_XT G 4 _ _ _ _ _ _ _ _ _
    refine x_catch1 (a := 0) (b := 11) (hp := 14) (ct := 19) C HT ⟨by decide, by decide⟩ (by decide) cl_L_19 (by decide) (by rw [hGF]; exact List.mem_singleton_self _) h15 hV15 (by simp) ?_
    have hR : cR I I := cR.rf hC
    have hc : (1 : Int32) = cd1 (vOk (vN (kW I)) x) := (cd1_f hz).symm
    refine y_astore4 (q := 16) C 8 rfl rfl (Nat.le_of_ble_eq_true rfl) rfl ?_
    refine x_iconst (q := 17) C 9 (n := (1)) (v := (1)) rfl rfl rfl ?_
    exact x_ireturn C Z 10 rfl rfl rfl (by first | exact hK _ _ _ hR hc (fun z => absurd (hc.trans z) (by decide)) | exact hK _ _ _ hR hc (fun _ => by rw [← hr]; exact aj_u_s _ _ _ _) | exact hK _ _ _ hR hc (fun _ => lb_0 hr (by assumption)) | exact hK _ _ _ hR hc (fun _ => lb_1 hr (by assumption)))
  · intro r I1 J0 hk0 hR hr
    have hc : (0 : Int32) = cd1 (vOk (vN (kW I)) x) := (cd1_t hk0).symm
    show aj_X G 7 _ _ _ _ _ _ _ _ _
    refine x_i2l (q := 8) C 5 rfl rfl ?_
    refine x_putJN (q := 11) C 6 rfl rfl fl_RL_13 rfl rfl (by first | assumption | rfl | decide | exact bL hB _ (by decide)) (by first | assumption | rfl | decide | exact bL hB _ (by decide)) ?_
    refine x_goto (t := 18) C 7 rfl (by decide) ?_
    refine x_iconst (q := 19) C 11 (n := (0)) (v := (0)) rfl rfl rfl ?_
    exact x_ireturn C Z 12 rfl rfl rfl (by first | exact hK _ _ _ hR hc (fun z => absurd (hc.trans z) (by decide)) | exact hK _ _ _ hR hc (fun _ => by rw [← hr]; exact aj_u_s _ _ _ _) | exact hK _ _ _ hR hc (fun _ => lb_0 hr (by assumption)) | exact hK _ _ _ hR hc (fun _ => lb_1 hr (by assumption)))
set_option maxRecDepth 100000 in
set_option maxHeartbeats 800000 in
theorem s_L_bearing {l : Launch} {I : Nat → Nat → Int32} {J : Nat → Nat → Int64} {V : Nat → Nat → Option Nat} {N : Nat → Nat} {L : List Nat} {K : aj_K} {x y d : Int32} {n : Nat} (hC : cI I n) (hB : bV V N L) (h15 : 15 ∉ L) (hV15 : ∀ i ∈ L, ∀ j, V i j ≠ some 15) (hD : vD (kW I)) (hVR : vR (kW I)) (hK : ∀ (k : Int32) I1 J1, cR I I1 → k = cd2 (vOk (vN (kW I)) x && vOk (vN (kW I)) y) (pIn d 0 29) → (cd2 (vOk (vN (kW I)) x && vOk (vN (kW I)) y) (pIn d 0 29) = 0 → J1 21 0 = (anBe x y d (kW I)).toInt64) → K (.inl (some (.int k))) I1 J1 V N L) : aj_M l yL_bearing (Cond.codeWith yL_bearing cL_bearing 6 (some .int) [(0, 13, 16, 19), (0, 13, 20, 21)] :: aj_TB) (aj_rm 5 3 18) [15] [.ref 20, .int x, .int y, .int d, .ref 21] I J V N L K := by
  refine aj_introW (tbl := t_L_bearing) (lv0 := [some (.ref 20), some (.int x), some (.int y), some (.int d), some (.ref 21), none]) (by decide) T_L_bearing (fun i h => by cases List.mem_singleton.mp h; unfold aj_sp; decide) (Nat.le_of_ble_eq_true rfl) rfl ?_
  intro G hl C Z HT hGL hGF
  have C : aj_C G cL_bearing t_L_bearing RL (aj_rm 5 3 18) 6 := C
  refine y_aload4 (q := 2) C 0 rfl rfl ?_
  refine y_aload0 (q := 3) C 1 rfl rfl ?_
  refine y_iload1 (q := 4) C 2 rfl rfl ?_
  refine y_iload2 (q := 5) C 3 rfl rfl ?_
  refine y_iload3 (q := 6) C 4 rfl rfl ?_
  refine y_dV3 (q := 9) C 5 rfl rfl ml_RL_95 cd_X3_bearing cv_X3_bearing ⟨by decide, rfl⟩ (bL hB _ (by decide)) (by decide) (by decide) (Nat.le_of_ble_eq_true rfl) (bc' := 0) (bs' := 0) rfl rfl (w_bearing hC hB hD hVR (fun hz => ?_) (fun hz0 hz => ?_) ?_)
  · show aj_XT G 6 _ _ _ _ _ _ _ _ _
    refine x_catch1 (a := 0) (b := 13) (hp := 16) (ct := 19) C HT ⟨by decide, by decide⟩ (by decide) cl_L_19 (by decide) (by rw [hGF]; exact List.mem_singleton_self _) h15 hV15 (by simp) ?_
    have hR : cR I I := cR.rf hC
    have hc : (1 : Int32) = cd2 (vOk (vN (kW I)) x && vOk (vN (kW I)) y) (pIn d 0 29) := (cd2_1 hz).symm
    refine y_astore5 (q := 18) C 9 rfl rfl (Nat.le_of_ble_eq_true rfl) rfl ?_
    refine x_iconst (q := 19) C 10 (n := (1)) (v := (1)) rfl rfl rfl ?_
    exact x_ireturn C Z 11 rfl rfl rfl (by first | exact hK _ _ _ hR hc (fun z => absurd (hc.trans z) (by decide)) | exact hK _ _ _ hR hc (fun _ => by rw [← hr]; exact aj_u_s _ _ _ _) | exact hK _ _ _ hR hc (fun _ => lb_0 hr (by assumption)) | exact hK _ _ _ hR hc (fun _ => lb_1 hr (by assumption)))
  · show aj_XT G 6 _ _ _ _ _ _ _ _ _
    refine x_catch2 (a := 0) (b := 13) (hp := 20) (ct := 21) (a1 := 0) (b1 := 13) (hp1 := 16) (ct1 := 19) C HT ⟨by decide, by decide⟩ ⟨by decide, by decide⟩ cl_L_21 cl_L_19 (by rw [hGF]; exact List.mem_singleton_self _) h15 hV15 (by simp) ?_
    have hR : cR I I := cR.rf hC
    have hc : (2 : Int32) = cd2 (vOk (vN (kW I)) x && vOk (vN (kW I)) y) (pIn d 0 29) := (cd2_2 hz0 hz).symm
    refine y_astore5 (q := 22) C 12 rfl rfl (Nat.le_of_ble_eq_true rfl) rfl ?_
    refine x_iconst (q := 23) C 13 (n := (2)) (v := (2)) rfl rfl rfl ?_
    exact x_ireturn C Z 14 rfl rfl rfl (by first | exact hK _ _ _ hR hc (fun z => absurd (hc.trans z) (by decide)) | exact hK _ _ _ hR hc (fun _ => by rw [← hr]; exact aj_u_s _ _ _ _) | exact hK _ _ _ hR hc (fun _ => lb_0 hr (by assumption)) | exact hK _ _ _ hR hc (fun _ => lb_1 hr (by assumption)))
  · intro r I1 J0 hk0 hR hr
    have hc : (0 : Int32) = cd2 (vOk (vN (kW I)) x && vOk (vN (kW I)) y) (pIn d 0 29) := (cd2_t hk0.1 hk0.2).symm
    show aj_X G 9 _ _ _ _ _ _ _ _ _
    refine x_i2l (q := 10) C 6 rfl rfl ?_
    refine x_putJN (q := 13) C 7 rfl rfl fl_RL_13 rfl rfl (by first | assumption | rfl | decide | exact bL hB _ (by decide)) (by first | assumption | rfl | decide | exact bL hB _ (by decide)) ?_
    refine x_goto (t := 24) C 8 rfl (by decide) ?_
    refine x_iconst (q := 25) C 15 (n := (0)) (v := (0)) rfl rfl rfl ?_
    exact x_ireturn C Z 16 rfl rfl rfl (by first | exact hK _ _ _ hR hc (fun z => absurd (hc.trans z) (by decide)) | exact hK _ _ _ hR hc (fun _ => by rw [← hr]; exact aj_u_s _ _ _ _) | exact hK _ _ _ hR hc (fun _ => lb_0 hr (by assumption)) | exact hK _ _ _ hR hc (fun _ => lb_1 hr (by assumption)))
set_option maxRecDepth 100000 in
set_option maxHeartbeats 800000 in
theorem s_L_bearingOrder {l : Launch} {I : Nat → Nat → Int32} {J : Nat → Nat → Int64} {V : Nat → Nat → Option Nat} {N : Nat → Nat} {L : List Nat} {K : aj_K} {x y z : Int32} {n : Nat} (hC : cI I n) (hB : bV V N L) (h15 : 15 ∉ L) (hV15 : ∀ i ∈ L, ∀ j, V i j ≠ some 15) (hD : vD (kW I)) (hK : ∀ (k : Int32) I1 J1, cR I I1 → k = cd1 (bAll3 x y z (kW I)) → (cd1 (bAll3 x y z (kW I)) = 0 → J1 21 0 = (anBO x y z (kW I)).toInt64) → K (.inl (some (.int k))) I1 J1 V N L) : aj_M l yL_bearingOrder (Cond.codeWith yL_bearingOrder cL_bearingOrder 6 (some .int) [(0, 13, 16, 19)] :: aj_TB) (aj_rm 5 3 18) [15] [.ref 20, .int x, .int y, .int z, .ref 21] I J V N L K := by
  refine aj_introW (tbl := t_L_bearingOrder) (lv0 := [some (.ref 20), some (.int x), some (.int y), some (.int z), some (.ref 21), none]) (by decide) T_L_bearingOrder (fun i h => by cases List.mem_singleton.mp h; unfold aj_sp; decide) (Nat.le_of_ble_eq_true rfl) rfl ?_
  intro G hl C Z HT hGL hGF
  have C : aj_C G cL_bearingOrder t_L_bearingOrder RL (aj_rm 5 3 18) 6 := C
  refine y_aload4 (q := 2) C 0 rfl rfl ?_
  refine y_aload0 (q := 3) C 1 rfl rfl ?_
  refine y_iload1 (q := 4) C 2 rfl rfl ?_
  refine y_iload2 (q := 5) C 3 rfl rfl ?_
  refine y_iload3 (q := 6) C 4 rfl rfl ?_
  refine y_dV3 (q := 9) C 5 rfl rfl ml_RL_98 cd_X3_bearingOrder cv_X3_bearingOrder ⟨by decide, rfl⟩ (bL hB _ (by decide)) (by decide) (by decide) (Nat.le_of_ble_eq_true rfl) (bc' := 0) (bs' := 0) rfl rfl (w_bearingOrder hC hB hD (fun hz => ?_) ?_)
  · show aj_XT G 6 _ _ _ _ _ _ _ _ _
    refine x_catch1 (a := 0) (b := 13) (hp := 16) (ct := 19) C HT ⟨by decide, by decide⟩ (by decide) cl_L_19 (by decide) (by rw [hGF]; exact List.mem_singleton_self _) h15 hV15 (by simp) ?_
    have hR : cR I I := cR.rf hC
    have hc : (1 : Int32) = cd1 (bAll3 x y z (kW I)) := (cd1_f hz).symm
    refine y_astore5 (q := 18) C 9 rfl rfl (Nat.le_of_ble_eq_true rfl) rfl ?_
    refine x_iconst (q := 19) C 10 (n := (1)) (v := (1)) rfl rfl rfl ?_
    exact x_ireturn C Z 11 rfl rfl rfl (by first | exact hK _ _ _ hR hc (fun z => absurd (hc.trans z) (by decide)) | exact hK _ _ _ hR hc (fun _ => by rw [← hr]; exact aj_u_s _ _ _ _) | exact hK _ _ _ hR hc (fun _ => lb_0 hr (by assumption)) | exact hK _ _ _ hR hc (fun _ => lb_1 hr (by assumption)))
  · intro r I1 J0 hk0 hR hr
    have hc : (0 : Int32) = cd1 (bAll3 x y z (kW I)) := (cd1_t hk0).symm
    show aj_X G 9 _ _ _ _ _ _ _ _ _
    refine x_i2l (q := 10) C 6 rfl rfl ?_
    refine x_putJN (q := 13) C 7 rfl rfl fl_RL_13 rfl rfl (by first | assumption | rfl | decide | exact bL hB _ (by decide)) (by first | assumption | rfl | decide | exact bL hB _ (by decide)) ?_
    refine x_goto (t := 20) C 8 rfl (by decide) ?_
    refine x_iconst (q := 21) C 12 (n := (0)) (v := (0)) rfl rfl rfl ?_
    exact x_ireturn C Z 13 rfl rfl rfl (by first | exact hK _ _ _ hR hc (fun z => absurd (hc.trans z) (by decide)) | exact hK _ _ _ hR hc (fun _ => by rw [← hr]; exact aj_u_s _ _ _ _) | exact hK _ _ _ hR hc (fun _ => lb_0 hr (by assumption)) | exact hK _ _ _ hR hc (fun _ => lb_1 hr (by assumption)))
set_option maxRecDepth 100000 in
set_option maxHeartbeats 800000 in
theorem s_L_left {l : Launch} {I : Nat → Nat → Int32} {J : Nat → Nat → Int64} {V : Nat → Nat → Option Nat} {N : Nat → Nat} {L : List Nat} {K : aj_K} {x y z : Int32} {n : Nat} (hC : cI I n) (hB : bV V N L) (h15 : 15 ∉ L) (hV15 : ∀ i ∈ L, ∀ j, V i j ≠ some 15) (hK : ∀ (k : Int32) I1 J1, cR I I1 → k = cd1 (bAll3 x y z (kW I)) → (cd1 (bAll3 x y z (kW I)) = 0 → J1 21 0 = (anLe x y z (kW I)).toInt64) → K (.inl (some (.int k))) I1 J1 V N L) : aj_M l yL_left (Cond.codeWith yL_left cL_left 6 (some .int) [(0, 13, 16, 19)] :: aj_TB) (aj_rm 5 3 18) [15] [.ref 20, .int x, .int y, .int z, .ref 21] I J V N L K := by
  refine aj_introW (tbl := t_L_left) (lv0 := [some (.ref 20), some (.int x), some (.int y), some (.int z), some (.ref 21), none]) (by decide) T_L_left (fun i h => by cases List.mem_singleton.mp h; unfold aj_sp; decide) (Nat.le_of_ble_eq_true rfl) rfl ?_
  intro G hl C Z HT hGL hGF
  have C : aj_C G cL_left t_L_left RL (aj_rm 5 3 18) 6 := C
  refine y_aload4 (q := 2) C 0 rfl rfl ?_
  refine y_aload0 (q := 3) C 1 rfl rfl ?_
  refine y_iload1 (q := 4) C 2 rfl rfl ?_
  refine y_iload2 (q := 5) C 3 rfl rfl ?_
  refine y_iload3 (q := 6) C 4 rfl rfl ?_
  refine y_dV3 (q := 9) C 5 rfl rfl ml_RL_101 cd_X3_left cv_X3_left ⟨by decide, rfl⟩ (bL hB _ (by decide)) (by decide) (by decide) (Nat.le_of_ble_eq_true rfl) (bc' := 0) (bs' := 0) rfl rfl (w_left hC hB (fun hz => ?_) ?_)
  · show aj_XT G 6 _ _ _ _ _ _ _ _ _
    refine x_catch1 (a := 0) (b := 13) (hp := 16) (ct := 19) C HT ⟨by decide, by decide⟩ (by decide) cl_L_19 (by decide) (by rw [hGF]; exact List.mem_singleton_self _) h15 hV15 (by simp) ?_
    have hR : cR I I := cR.rf hC
    have hc : (1 : Int32) = cd1 (bAll3 x y z (kW I)) := (cd1_f hz).symm
    refine y_astore5 (q := 18) C 9 rfl rfl (Nat.le_of_ble_eq_true rfl) rfl ?_
    refine x_iconst (q := 19) C 10 (n := (1)) (v := (1)) rfl rfl rfl ?_
    exact x_ireturn C Z 11 rfl rfl rfl (by first | exact hK _ _ _ hR hc (fun z => absurd (hc.trans z) (by decide)) | exact hK _ _ _ hR hc (fun _ => by rw [← hr]; exact aj_u_s _ _ _ _) | exact hK _ _ _ hR hc (fun _ => lb_0 hr (by assumption)) | exact hK _ _ _ hR hc (fun _ => lb_1 hr (by assumption)))
  · intro r I1 J0 hk0 hR hr
    have hc : (0 : Int32) = cd1 (bAll3 x y z (kW I)) := (cd1_t hk0).symm
    show aj_X G 9 _ _ _ _ _ _ _ _ _
    refine x_i2l (q := 10) C 6 rfl rfl ?_
    refine x_putJN (q := 13) C 7 rfl rfl fl_RL_13 rfl rfl (by first | assumption | rfl | decide | exact bL hB _ (by decide)) (by first | assumption | rfl | decide | exact bL hB _ (by decide)) ?_
    refine x_goto (t := 20) C 8 rfl (by decide) ?_
    refine x_iconst (q := 21) C 12 (n := (0)) (v := (0)) rfl rfl rfl ?_
    exact x_ireturn C Z 13 rfl rfl rfl (by first | exact hK _ _ _ hR hc (fun z => absurd (hc.trans z) (by decide)) | exact hK _ _ _ hR hc (fun _ => by rw [← hr]; exact aj_u_s _ _ _ _) | exact hK _ _ _ hR hc (fun _ => lb_0 hr (by assumption)) | exact hK _ _ _ hR hc (fun _ => lb_1 hr (by assumption)))
set_option maxRecDepth 100000 in
set_option maxHeartbeats 800000 in
theorem s_L_house {l : Launch} {I : Nat → Nat → Int32} {J : Nat → Nat → Int64} {V : Nat → Nat → Option Nat} {N : Nat → Nat} {L : List Nat} {K : aj_K} {x : Int32} {n : Nat} (hC : cI I n) (hB : bV V N L) (h15 : 15 ∉ L) (hV15 : ∀ i ∈ L, ∀ j, V i j ≠ some 15) (hK : ∀ (k : Int32) I1 J1, cR I I1 → K (.inl (some (.int k))) I1 J1 V N L) : aj_M l yL_house (Cond.codeWith yL_house cL_house 4 (some .int) [(0, 10, 13, 21)] :: aj_TB) (aj_rm 2 1 6) [15] [.ref 20, .int x, .ref 21] I J V N L K := by
  refine aj_introW (tbl := t_L_house) (lv0 := [some (.ref 20), some (.int x), some (.ref 21), none]) (by decide) T_L_house (fun i h => by cases List.mem_singleton.mp h; unfold aj_sp; decide) (Nat.le_of_ble_eq_true rfl) rfl ?_
  intro G hl C Z HT hGL hGF
  have C : aj_C G cL_house t_L_house RL (aj_rm 2 1 6) 4 := C
  refine y_aload2 (q := 1) C 0 rfl rfl ?_
  refine y_aload0 (q := 2) C 1 rfl rfl ?_
  refine y_iload1 (q := 3) C 2 rfl rfl ?_
  refine y_dV1 (q := 6) C 3 rfl rfl ml_RL_104 cd_X3_house cv_X3_house ⟨by decide, rfl⟩ (bL hB _ (by decide)) (by decide) (by decide) (Nat.le_of_ble_eq_true rfl) (bc' := 0) (bs' := 0) rfl rfl (w_house hC hB ?_ ?_)
  · show aj_XT G 3 _ _ _ _ _ _ _ _ _
    refine x_catch1 (a := 0) (b := 10) (hp := 13) (ct := 21) C HT ⟨by decide, by decide⟩ (by decide) cl_L_21 (by decide) (by rw [hGF]; exact List.mem_singleton_self _) h15 hV15 (by simp) ?_
    have hR : cR I I := cR.rf hC
    refine y_astore3 (q := 14) C 7 rfl rfl (Nat.le_of_ble_eq_true rfl) rfl ?_
    refine x_iconst (q := 15) C 8 (n := (1)) (v := (1)) rfl rfl rfl ?_
    exact x_ireturn C Z 9 rfl rfl rfl (hK _ _ _ hR)
  · intro r I1 J0 hR
    show aj_X G 6 _ _ _ _ _ _ _ _ _
    refine x_i2l (q := 7) C 4 rfl rfl ?_
    refine x_putJN (q := 10) C 5 rfl rfl fl_RL_13 rfl rfl (by first | assumption | rfl | decide | exact bL hB _ (by decide)) (by first | assumption | rfl | decide | exact bL hB _ (by decide)) ?_
    refine x_goto (t := 16) C 6 rfl (by decide) ?_
    refine x_iconst (q := 17) C 10 (n := (0)) (v := (0)) rfl rfl rfl ?_
    exact x_ireturn C Z 11 rfl rfl rfl (hK _ _ _ hR)
