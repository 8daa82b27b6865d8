set_option maxRecDepth 100000 in
set_option maxHeartbeats 800000 in
theorem s_X3_checkCell {l : Launch} {I : Nat → Nat → Int32} {J : Nat → Nat → Int64} {V : Nat → Nat → Option Nat} {N : Nat → Nat} {L : List Nat} {K : aj_K} {x : Int32} (hK : ∀ j : Nat, j < 8 → x = nI j → K (.inl none) I J V N L) (hXO : (ckI x) = false → K (.inr "java/lang/IndexOutOfBoundsException") I J V N L) : aj_M l yX3_checkCell (aj_wc yX3_checkCell cX3_checkCell 1 none) (aj_rm 0 1 6) [] [.int x] I J V N L K := by
  refine aj_intro (tbl := t_X3_checkCell) (lv0 := [some (.int x)]) (by decide) T_X3_checkCell aj_f0 (Nat.le_of_ble_eq_true rfl) rfl ?_
  intro G hl C Z NX hnm hGL hGF
  have C : aj_C G cX3_checkCell t_X3_checkCell RX3 (aj_rm 0 1 6) 1 := C
  refine y_iload0 (q := 1) C 0 rfl rfl ?_
  refine x_if_lt (q := 4) (t := 10) C 1 rfl (by decide) rfl (fun c1 => ?_) (fun c1 => ?_)
  · skip
    exact x_throw (text := "no such cell") C Z NX 5 (by decide) rfl rfl rfl rfl rfl ⟨by decide, Nat.le_of_ble_eq_true rfl⟩ rfl rfl (hXO (ckI_f (fun j hj e => by subst e; first | exact absurd (by assumption) (nI_pos (by omega)) | exact absurd (show nI j < 8 from nI_lt (b := 8) hj (by decide)) (by assumption))))
  · skip
    refine y_iload0 (q := 5) C 2 rfl rfl ?_
    refine x_bipush (q := 7) C 3 (n := (8)) (v := (8)) rfl rfl rfl ?_
    refine x_icmp_lt (q := 10) (t := 21) C 4 rfl (by decide) rfl (fun c2 => ?_) (fun c2 => ?_)
    · skip
      exact x_return C Z 10 rfl rfl ((pk_ix x (n := 8) (by decide)).elim (fun h => absurd h (by assumption)) (fun h => h.elim (fun h => absurd (by assumption : x < 8) (Int32.not_lt.mpr h)) (fun ⟨j, hj, e⟩ => hK j hj e)))
    · skip
      exact x_throw (text := "no such cell") C Z NX 5 (by decide) rfl rfl rfl rfl rfl ⟨by decide, Nat.le_of_ble_eq_true rfl⟩ rfl rfl (hXO (ckI_f (fun j hj e => by subst e; first | exact absurd (by assumption) (nI_pos (by omega)) | exact absurd (show nI j < 8 from nI_lt (b := 8) hj (by decide)) (by assumption))))
set_option maxRecDepth 100000 in
set_option maxHeartbeats 800000 in
theorem s_X3_checkPlace {l : Launch} {I : Nat → Nat → Int32} {J : Nat → Nat → Int64} {V : Nat → Nat → Option Nat} {N : Nat → Nat} {L : List Nat} {K : aj_K} {x : Int32} {n : Nat} (hn : n ≤ 12) (hc : I 18 2 = nI n) (hB : bV V N L) (hK : ∀ j : Nat, j < n → x = nI j → K (.inl none) I J V N L) (hXO : (∀ j : Nat, j < n → ¬ x = nI j) → K (.inr "java/lang/IndexOutOfBoundsException") I J V N L) : aj_M l yX3_checkPlace (aj_wc yX3_checkPlace cX3_checkPlace 2 none) (aj_rm 0 1 6) [] [.ref 20, .int x] I J V N L K := by
  refine aj_intro (tbl := t_X3_checkPlace) (lv0 := [some (.ref 20), some (.int x)]) (by decide) T_X3_checkPlace aj_f0 (Nat.le_of_ble_eq_true rfl) rfl ?_
  intro G hl C Z NX hnm hGL hGF
  have C : aj_C G cX3_checkPlace t_X3_checkPlace RX3 (aj_rm 0 1 6) 2 := C
  refine y_iload1 (q := 1) C 0 rfl rfl ?_
  refine x_if_lt (q := 4) (t := 15) C 1 rfl (by decide) rfl (fun c1 => ?_) (fun c1 => ?_)
  · skip
    exact x_throw (text := "no such place") C Z NX 7 (by decide) rfl rfl rfl rfl rfl ⟨by decide, Nat.le_of_ble_eq_true rfl⟩ rfl rfl (hXO (fun j hj e => by subst e; first | exact absurd (by assumption) (nI_pos (by omega)) | exact absurd (nI_lt hj (by omega)) (by assumption)))
  · skip
    refine y_iload1 (q := 5) C 2 rfl rfl ?_
    refine y_aload0 (q := 6) C 3 rfl rfl ?_
    refine x_getR (q := 9) C 4 rfl rfl fl_RX3_33 (bv_4_5 hB) (fun _ _ => rfl) (by first | assumption | rfl | decide | exact bL hB _ (by decide)) (by first | assumption | rfl | decide | exact bL hB _ (by decide)) ?_
    refine x_getI (q := 12) C 5 rfl rfl fl_RX3_141 (fun _ _ => rfl) (by first | assumption | rfl | decide | exact bL hB _ (by decide)) (by first | assumption | rfl | decide | exact bL hB _ (by decide)) ?_
    rw [hc]
    refine x_icmp_lt (q := 15) (t := 26) C 6 rfl (by decide) rfl (fun c2 => ?_) (fun c2 => ?_)
    · skip
      exact x_return C Z 12 rfl rfl ((pk_ix x (n := n) (by omega)).elim (fun h => absurd h (by assumption)) (fun h => h.elim (fun h => absurd (by assumption : x < nI n) (Int32.not_lt.mpr h)) (fun ⟨j, hj, e⟩ => hK j hj e)))
    · skip
      exact x_throw (text := "no such place") C Z NX 7 (by decide) rfl rfl rfl rfl rfl ⟨by decide, Nat.le_of_ble_eq_true rfl⟩ rfl rfl (hXO (fun j hj e => by subst e; first | exact absurd (by assumption) (nI_pos (by omega)) | exact absurd (nI_lt hj (by omega)) (by assumption)))
set_option maxRecDepth 100000 in
set_option maxHeartbeats 800000 in
theorem s_X3_checkBetween {l : Launch} {I : Nat → Nat → Int32} {J : Nat → Nat → Int64} {V : Nat → Nat → Option Nat} {N : Nat → Nat} {L : List Nat} {K : aj_K} {x a b : Int32} (hK : a ≤ x → x ≤ b → K (.inl none) I J V N L) (hXA : ¬ (a ≤ x ∧ x ≤ b) → K (.inr "java/lang/IllegalArgumentException") I J V N L) : aj_M l yX3_checkBetween (aj_wc yX3_checkBetween cX3_checkBetween 3 none) (aj_rm 0 1 6) [] [.int x, .int a, .int b] I J V N L K := by
  refine aj_intro (tbl := t_X3_checkBetween) (lv0 := [some (.int x), some (.int a), some (.int b)]) (by decide) T_X3_checkBetween aj_f0 (Nat.le_of_ble_eq_true rfl) rfl ?_
  intro G hl C Z NX hnm hGL hGF
  have C : aj_C G cX3_checkBetween t_X3_checkBetween RX3 (aj_rm 0 1 6) 3 := C
  refine y_iload0 (q := 1) C 0 rfl rfl ?_
  refine y_iload1 (q := 2) C 1 rfl rfl ?_
  refine x_icmp_lt (q := 5) (t := 10) C 2 rfl (by decide) rfl (fun c1 => ?_) (fun c1 => ?_)
  · skip
    exact x_throw (text := "out of its range") C Z NX 6 (by decide) rfl rfl rfl rfl rfl ⟨by decide, Nat.le_of_ble_eq_true rfl⟩ rfl rfl (hXA (fun z => by first | exact absurd z.1 (Int32.not_le.mpr (by assumption)) | exact absurd z.2 (by assumption)))
  · skip
    refine y_iload0 (q := 6) C 3 rfl rfl ?_
    refine y_iload2 (q := 7) C 4 rfl rfl ?_
    refine x_icmp_le (q := 10) (t := 21) C 5 rfl (by decide) rfl (fun c2 => ?_) (fun c2 => ?_)
    · skip
      exact x_return C Z 11 rfl rfl (hK (Int32.not_lt.mp (by assumption)) (by assumption))
    · skip
      exact x_throw (text := "out of its range") C Z NX 6 (by decide) rfl rfl rfl rfl rfl ⟨by decide, Nat.le_of_ble_eq_true rfl⟩ rfl rfl (hXA (fun z => by first | exact absurd z.1 (Int32.not_le.mpr (by assumption)) | exact absurd z.2 (by assumption)))
set_option maxRecDepth 100000 in
set_option maxHeartbeats 800000 in
theorem s_X3_checkSpot {l : Launch} {I : Nat → Nat → Int32} {J : Nat → Nat → Int64} {V : Nat → Nat → Option Nat} {N : Nat → Nat} {L : List Nat} {K : aj_K} {x y : Int32} (hK : -64 ≤ x → x ≤ 63 → -64 ≤ y → y ≤ 63 → K (.inl none) I J V N L) (hXA : ¬ ((-64 ≤ x ∧ x ≤ 63) ∧ (-64 ≤ y ∧ y ≤ 63)) → K (.inr "java/lang/IllegalArgumentException") I J V N L) : aj_M l yX3_checkSpot (aj_wc yX3_checkSpot cX3_checkSpot 2 none) (aj_rm 1 2 12) [] [.int x, .int y] I J V N L K := by
  refine aj_intro (tbl := t_X3_checkSpot) (lv0 := [some (.int x), some (.int y)]) (by decide) T_X3_checkSpot aj_f0 (Nat.le_of_ble_eq_true rfl) rfl ?_
  intro G hl C Z NX hnm hGL hGF
  have C : aj_C G cX3_checkSpot t_X3_checkSpot RX3 (aj_rm 1 2 12) 2 := C
  refine y_iload0 (q := 1) C 0 rfl rfl ?_
  refine x_bipush (q := 3) C 1 (n := (-64)) (v := (-64)) rfl rfl rfl ?_
  refine x_bipush (q := 5) C 2 (n := (63)) (v := (63)) rfl rfl rfl ?_
  refine y_dS3 (q := 8) C 3 rfl rfl ml_RX3_41 cd_X3_checkBetween sv_X3_checkBetween (by decide) (by decide) (Nat.le_of_ble_eq_true rfl) (bc' := 1) (bs' := 6) rfl rfl (s_X3_checkBetween (fun h1 h2 => ?_) (fun hn => x_out C Z NX (hXA (fun z => hn z.1))))
  show aj_X G 8 _ _ _ _ _ _ _ _ _
  refine y_iload1 (q := 9) C 4 rfl rfl ?_
  refine x_bipush (q := 11) C 5 (n := (-64)) (v := (-64)) rfl rfl rfl ?_
  refine x_bipush (q := 13) C 6 (n := (63)) (v := (63)) rfl rfl rfl ?_
  refine y_dS3 (q := 16) C 7 rfl rfl ml_RX3_41 cd_X3_checkBetween sv_X3_checkBetween (by decide) (by decide) (Nat.le_of_ble_eq_true rfl) (bc' := 0) (bs' := 0) rfl rfl (s_X3_checkBetween (fun h3 h4 => ?_) (fun hn => x_out C Z NX (hXA (fun z => hn z.2))))
  show aj_X G 16 _ _ _ _ _ _ _ _ _
  exact x_return C Z 8 rfl rfl (hK h1 h2 h3 h4)
set_option maxRecDepth 100000 in
set_option maxHeartbeats 800000 in
theorem s_X3_isCoordinate {l : Launch} {I : Nat → Nat → Int32} {J : Nat → Nat → Int64} {V : Nat → Nat → Option Nat} {N : Nat → Nat} {L : List Nat} {K : aj_K} {x : Int32} (hK : K (.inl (some (.int (bI (pCoo x))))) I J V N L) : aj_M l yX3_isCoordinate (aj_wc yX3_isCoordinate cX3_isCoordinate 1 (some .boolean)) (aj_rm 0 0 0) [] [.int x] I J V N L K := by
  refine aj_intro (tbl := t_X3_isCoordinate) (lv0 := [some (.int x)]) (by decide) T_X3_isCoordinate aj_f0 (Nat.le_of_ble_eq_true rfl) rfl ?_
  intro G hl C Z NX hnm hGL hGF
  have C : aj_C G cX3_isCoordinate t_X3_isCoordinate RX3 (aj_rm 0 0 0) 1 := C
  refine y_iload0 (q := 1) C 0 rfl rfl ?_
  refine x_bipush (q := 3) C 1 (n := (-127)) (v := (-127)) rfl rfl rfl ?_
  refine x_icmp_lt (q := 6) (t := 16) C 2 rfl (by decide) rfl (fun c1 => ?_) (fun c1 => ?_)
  · skip
    refine x_iconst (q := 17) C 8 (n := (0)) (v := (0)) rfl rfl rfl ?_
    exact x_ireturn C Z 9 rfl rfl rfl (aj_lf hK (by clear hK C Z; simp_all [pCoo, bI_0, bI_1, ← Int32.not_le]))
  · skip
    refine y_iload0 (q := 7) C 3 rfl rfl ?_
    refine x_bipush (q := 9) C 4 (n := (127)) (v := (127)) rfl rfl rfl ?_
    refine x_icmp_gt (q := 12) (t := 16) C 5 rfl (by decide) rfl (fun c2 => ?_) (fun c2 => ?_)
    · skip
      refine x_iconst (q := 17) C 8 (n := (0)) (v := (0)) rfl rfl rfl ?_
      exact x_ireturn C Z 9 rfl rfl rfl (aj_lf hK (by clear hK C Z; simp_all [pCoo, bI_0, bI_1, ← Int32.not_le]))
    · skip
      refine x_iconst (q := 13) C 6 (n := (1)) (v := (1)) rfl rfl rfl ?_
      refine x_goto (t := 17) C 7 rfl (by decide) ?_
      exact x_ireturn C Z 9 rfl rfl rfl (aj_lf hK (by clear hK C Z; simp_all [pCoo, bI_0, bI_1, ← Int32.not_le]))
set_option maxRecDepth 100000 in
set_option maxHeartbeats 800000 in
theorem s_X3_refuse {l : Launch} {I : Nat → Nat → Int32} {J : Nat → Nat → Int64} {V : Nat → Nat → Option Nat} {N : Nat → Nat} {L : List Nat} {K : aj_K} (hB : bV V N L) (hK : K (.inl (some (.int (-9)))) (stR I) J V N L) : aj_M l yX3_refuse (aj_wc yX3_refuse cX3_refuse 1 (some .int)) (aj_rm 0 0 0) [] [.ref 20] I J V N L K := by
  refine aj_intro (tbl := t_X3_refuse) (lv0 := [some (.ref 20)]) (by decide) T_X3_refuse aj_f0 (Nat.le_of_ble_eq_true rfl) rfl ?_
  intro G hl C Z NX hnm hGL hGF
  have C : aj_C G cX3_refuse t_X3_refuse RX3 (aj_rm 0 0 0) 1 := C
  refine y_aload0 (q := 1) C 0 rfl rfl ?_
  refine x_dupr (q := 2) C 1 rfl rfl ?_
  refine x_getI (q := 5) C 2 rfl rfl fl_RX3_100 (fun _ _ => rfl) (by first | assumption | rfl | decide | exact bL hB _ (by decide) | exact vc3 hB (by omega) | exact vcL hB (by omega)) (by first | assumption | rfl | decide | exact bL hB _ (by decide) | exact vc3 hB (by omega) | exact vcL hB (by omega)) ?_
  refine x_iconst (q := 6) C 3 (n := (1)) (v := (1)) rfl rfl rfl ?_
  refine x_iadd (q := 7) C 4 rfl rfl ?_
  refine x_putI (q := 10) C 5 rfl rfl fl_RX3_100 rfl rfl (by first | assumption | rfl | decide | exact bL hB _ (by decide) | exact vc3 hB (by omega) | exact vcL hB (by omega)) (by first | assumption | rfl | decide | exact bL hB _ (by decide) | exact vc3 hB (by omega) | exact vcL hB (by omega)) ?_
  refine x_bipush (q := 12) C 6 (n := (-9)) (v := (-9)) rfl rfl rfl ?_
  exact x_ireturn C Z 7 rfl rfl rfl (hK)
set_option maxRecDepth 100000 in
set_option maxHeartbeats 800000 in
theorem s_X3_comeTo {l : Launch} {I : Nat → Nat → Int32} {J : Nat → Nat → Int64} {V : Nat → Nat → Option Nat} {N : Nat → Nat} {L : List Nat} {K : aj_K} {j : Nat} (hj : j < 8) (hB : bV V N L) (hK : K (.inl (some (.int (mvC I (vc V j))))) (stC I (vc V j)) J V N L) : aj_M l yX3_comeTo (aj_wc yX3_comeTo cX3_comeTo 3 (some .int)) (aj_rm 2 0 0) [] [.ref 20, .int (nI j)] I J V N L K := by
  refine aj_intro (tbl := t_X3_comeTo) (lv0 := [some (.ref 20), some (.int (nI j)), none]) (by decide) T_X3_comeTo aj_f0 (Nat.le_of_ble_eq_true rfl) rfl ?_
  intro G hl C Z NX hnm hGL hGF
  have C : aj_C G cX3_comeTo t_X3_comeTo RX3 (aj_rm 2 0 0) 3 := C
  refine y_aload0 (q := 1) C 0 rfl rfl ?_
  refine x_getR (q := 4) C 1 rfl rfl fl_RX3_23 (bv_4_3 hB) (fun _ _ => rfl) (by first | assumption | rfl | decide | exact bL hB _ (by decide) | exact vc3 hB (by omega) | exact vcL hB (by omega)) (by first | assumption | rfl | decide | exact bL hB _ (by decide) | exact vc3 hB (by omega) | exact vcL hB (by omega)) ?_
  refine y_aload0 (q := 5) C 2 rfl rfl ?_
  refine x_getR (q := 8) C 3 rfl rfl fl_RX3_11 (bv_4_0 hB) (fun _ _ => rfl) (by first | assumption | rfl | decide | exact bL hB _ (by decide) | exact vc3 hB (by omega) | exact vcL hB (by omega)) (by first | assumption | rfl | decide | exact bL hB _ (by decide) | exact vc3 hB (by omega) | exact vcL hB (by omega)) ?_
  refine y_iload1 (q := 9) C 4 rfl rfl ?_
  refine x_aald (q := 10) C 5 rfl rfl (by first | assumption | rfl | decide | exact bL hB _ (by decide) | exact vc3 hB (by omega) | exact vcL hB (by omega)) (by first | assumption | rfl | decide | exact bL hB _ (by decide) | exact vc3 hB (by omega) | exact vcL hB (by omega)) (by (first | rw [bn24 hB] | rw [bn40 hB] | rw [bn56 hB] | rw [bn72 hB] | rw [bn27 hB] | rw [bn43 hB] | rw [bn25 hB] | rw [bn41 hB] | rw [bn88 hB] | rw [bn104 hB] | rw [bn120 hB] | rw [bn136 hB] | rw [bn152 hB] | rw [bn168 hB]); first | assumption | exact vp_in_nI (by omega) (by decide)) (by rw [nI_clamp (by omega)]; exact vcV hB (by omega)) ?_
  refine y_cV1 (q := 13) C 6 rfl rfl ml_RX3_88 cd_X2_orderTo cv_X2_orderTo (by first | exact ⟨by decide, rfl⟩ | exact vcR hB (by omega)) (by first | assumption | rfl | decide | exact bL hB _ (by decide) | exact vc3 hB (by omega) | exact vcL hB (by omega)) (by decide) (by decide) (Nat.le_of_ble_eq_true rfl) (s_X2_orderTo (by first | assumption | rfl | decide | exact bL hB _ (by decide) | exact vc3 hB (by omega) | exact vcL hB (by omega)) (by first | assumption | rfl | decide | exact bL hB _ (by decide) | exact vc3 hB (by omega) | exact vcL hB (by omega)) (by first | assumption | rfl | decide | exact bL hB _ (by decide) | exact vc3 hB (by omega) | exact vcL hB (by omega)) (by first | assumption | rfl | decide | exact bL hB _ (by decide) | exact vc3 hB (by omega) | exact vcL hB (by omega)) ?_)
  show aj_X G 13 _ _ _ _ _ _ _ _ _
  refine y_istore2 (q := 14) C 7 rfl rfl (Nat.le_of_ble_eq_true rfl) rfl ?_
  refine y_aload0 (q := 15) C 8 rfl rfl ?_
  refine x_getR (q := 18) C 9 rfl rfl fl_RX3_11 (bv_4_0 hB) (fun _ _ => rfl) (by first | assumption | rfl | decide | exact bL hB _ (by decide) | exact vc3 hB (by omega) | exact vcL hB (by omega)) (by first | assumption | rfl | decide | exact bL hB _ (by decide) | exact vc3 hB (by omega) | exact vcL hB (by omega)) ?_
  refine y_iload1 (q := 19) C 10 rfl rfl ?_
  refine x_aald (q := 20) C 11 rfl rfl (by first | assumption | rfl | decide | exact bL hB _ (by decide) | exact vc3 hB (by omega) | exact vcL hB (by omega)) (by first | assumption | rfl | decide | exact bL hB _ (by decide) | exact vc3 hB (by omega) | exact vcL hB (by omega)) (by (first | rw [bn24 hB] | rw [bn40 hB] | rw [bn56 hB] | rw [bn72 hB] | rw [bn27 hB] | rw [bn43 hB] | rw [bn25 hB] | rw [bn41 hB] | rw [bn88 hB] | rw [bn104 hB] | rw [bn120 hB] | rw [bn136 hB] | rw [bn152 hB] | rw [bn168 hB]); first | assumption | exact vp_in_nI (by omega) (by decide)) (by rw [nI_clamp (by omega)]; exact vcV hB (by omega)) ?_
  refine y_aload0 (q := 21) C 12 rfl rfl ?_
  refine x_getR (q := 24) C 13 rfl rfl fl_RX3_23 (bv_4_3 hB) (fun _ _ => rfl) (by first | assumption | rfl | decide | exact bL hB _ (by decide) | exact vc3 hB (by omega) | exact vcL hB (by omega)) (by first | assumption | rfl | decide | exact bL hB _ (by decide) | exact vc3 hB (by omega) | exact vcL hB (by omega)) ?_
  refine x_getI (q := 27) C 14 rfl rfl fl_RX3_56 (fun _ _ => rfl) (by first | assumption | rfl | decide | exact bL hB _ (by decide) | exact vc3 hB (by omega) | exact vcL hB (by omega)) (by first | assumption | rfl | decide | exact bL hB _ (by decide) | exact vc3 hB (by omega) | exact vcL hB (by omega)) ?_
  refine y_aload0 (q := 28) C 15 rfl rfl ?_
  refine x_getR (q := 31) C 16 rfl rfl fl_RX3_23 (bv_4_3 hB) (fun _ _ => rfl) (by first | assumption | rfl | decide | exact bL hB _ (by decide) | exact vc3 hB (by omega) | exact vcL hB (by omega)) (by first | assumption | rfl | decide | exact bL hB _ (by decide) | exact vc3 hB (by omega) | exact vcL hB (by omega)) ?_
  refine x_getI (q := 34) C 17 rfl rfl fl_RX3_60 (fun _ _ => rfl) (by first | assumption | rfl | decide | exact bL hB _ (by decide) | exact vc3 hB (by omega) | exact vcL hB (by omega)) (by first | assumption | rfl | decide | exact bL hB _ (by decide) | exact vc3 hB (by omega) | exact vcL hB (by omega)) ?_
  refine y_aload0 (q := 35) C 18 rfl rfl ?_
  refine x_getR (q := 38) C 19 rfl rfl fl_RX3_23 (bv_4_3 hB) (fun _ _ => rfl) (by first | assumption | rfl | decide | exact bL hB _ (by decide) | exact vc3 hB (by omega) | exact vcL hB (by omega)) (by first | assumption | rfl | decide | exact bL hB _ (by decide) | exact vc3 hB (by omega) | exact vcL hB (by omega)) ?_
  refine x_getI (q := 41) C 20 rfl rfl fl_RX3_63 (fun _ _ => rfl) (by first | assumption | rfl | decide | exact bL hB _ (by decide) | exact vc3 hB (by omega) | exact vcL hB (by omega)) (by first | assumption | rfl | decide | exact bL hB _ (by decide) | exact vc3 hB (by omega) | exact vcL hB (by omega)) ?_
  refine y_cV3 (q := 44) C 21 rfl rfl ml_RX3_45 cd_X2_become cv_X2_become (by first | exact ⟨by decide, rfl⟩ | exact vcR hB (by omega)) (by first | assumption | rfl | decide | exact bL hB _ (by decide) | exact vc3 hB (by omega) | exact vcL hB (by omega)) (by decide) (by decide) (Nat.le_of_ble_eq_true rfl) (s_X2_become (by first | assumption | rfl | decide | exact bL hB _ (by decide) | exact vc3 hB (by omega) | exact vcL hB (by omega)) (by first | assumption | rfl | decide | exact bL hB _ (by decide) | exact vc3 hB (by omega) | exact vcL hB (by omega)) ?_)
  show aj_X G 44 _ _ _ _ _ _ _ _ _
  refine y_aload0 (q := 45) C 22 rfl rfl ?_
  refine x_dupr (q := 46) C 23 rfl rfl ?_
  refine x_getI (q := 49) C 24 rfl rfl fl_RX3_85 (fun _ _ => rfl) (by first | assumption | rfl | decide | exact bL hB _ (by decide) | exact vc3 hB (by omega) | exact vcL hB (by omega)) (by first | assumption | rfl | decide | exact bL hB _ (by decide) | exact vc3 hB (by omega) | exact vcL hB (by omega)) ?_
  rw [show stB I (vc V j) (I 147 0) (I 147 1) (I 147 2) 20 6 = I 20 6 from congrFun (stB_o (fun e => absurd (vcM hB hj) (by rw [← e]; decide))) 6]
  refine x_iconst (q := 50) C 25 (n := (1)) (v := (1)) rfl rfl rfl ?_
  refine x_iadd (q := 51) C 26 rfl rfl ?_
  refine x_putI (q := 54) C 27 rfl rfl fl_RX3_85 rfl rfl (by first | assumption | rfl | decide | exact bL hB _ (by decide) | exact vc3 hB (by omega) | exact vcL hB (by omega)) (by first | assumption | rfl | decide | exact bL hB _ (by decide) | exact vc3 hB (by omega) | exact vcL hB (by omega)) ?_
  refine y_iload2 (q := 55) C 28 rfl rfl ?_
  exact x_ireturn C Z 29 rfl rfl rfl (hK)
set_option maxRecDepth 100000 in
set_option maxHeartbeats 800000 in
theorem s_X3_comeOrRefuse {l : Launch} {I : Nat → Nat → Int32} {J : Nat → Nat → Int64} {V : Nat → Nat → Option Nat} {N : Nat → Nat} {L : List Nat} {K : aj_K} {j : Nat} {x u s : Int32} (hj : j < 8) (hB : bV V N L) (hR : (pCoo x && pCoo u) = false → K (.inl (some (.int (-9)))) (stR I) J V N L) (hK : (pCoo x && pCoo u) = true → K (.inl (some (.int (mvC (stB I 147 x u s) (vc V j))))) (stC (stB I 147 x u s) (vc V j)) J V N L) : aj_M l yX3_comeOrRefuse (aj_wc yX3_comeOrRefuse cX3_comeOrRefuse 5 (some .int)) (aj_rm 3 0 0) [] [.ref 20, .int (nI j), .int x, .int u, .int s] I J V N L K := by
  refine aj_intro (tbl := t_X3_comeOrRefuse) (lv0 := [some (.ref 20), some (.int (nI j)), some (.int x), some (.int u), some (.int s)]) (by decide) T_X3_comeOrRefuse aj_f0 (Nat.le_of_ble_eq_true rfl) rfl ?_
  intro G hl C Z NX hnm hGL hGF
  have C : aj_C G cX3_comeOrRefuse t_X3_comeOrRefuse RX3 (aj_rm 3 0 0) 5 := C
  refine y_iload2 (q := 1) C 0 rfl rfl ?_
  refine y_cS1 (q := 4) C 1 rfl rfl ml_RX3_92 cd_X3_isCoordinate sv_X3_isCoordinate (by decide) (by decide) (Nat.le_of_ble_eq_true rfl) (s_X3_isCoordinate ?_)
  show aj_X G 4 _ _ _ _ _ _ _ _ _
  refine x_if_eqB (q := 7) (t := 14) C 2 rfl (by decide) rfl (fun c1 => ?_) (fun c1 => ?_)
  · skip
    refine y_aload0 (q := 15) C 6 rfl rfl ?_
    refine y_cV0 (q := 18) C 7 rfl rfl ml_RX3_96 cd_X3_refuse cv_X3_refuse ⟨by decide, rfl⟩ (by first | assumption | rfl | decide | exact bL hB _ (by decide) | exact vc3 hB (by omega) | exact vcL hB (by omega)) (by decide) (by decide) (Nat.le_of_ble_eq_true rfl) (s_X3_refuse (by first | assumption | rfl | decide | exact bL hB _ (by decide) | exact vc3 hB (by omega) | exact vcL hB (by omega)) ?_)
    show aj_X G 18 _ _ _ _ _ _ _ _ _
    exact x_ireturn C Z 8 rfl rfl rfl (hR (by simp [*]))
  · skip
    refine y_iload3 (q := 8) C 3 rfl rfl ?_
    refine y_cS1 (q := 11) C 4 rfl rfl ml_RX3_92 cd_X3_isCoordinate sv_X3_isCoordinate (by decide) (by decide) (Nat.le_of_ble_eq_true rfl) (s_X3_isCoordinate ?_)
    show aj_X G 11 _ _ _ _ _ _ _ _ _
    refine x_if_neB (q := 14) (t := 19) C 5 rfl (by decide) rfl (fun c2 => ?_) (fun c2 => ?_)
    · skip
      refine y_aload0 (q := 20) C 9 rfl rfl ?_
      refine x_getR (q := 23) C 10 rfl rfl fl_RX3_23 (bv_4_3 hB) (fun _ _ => rfl) (by first | assumption | rfl | decide | exact bL hB _ (by decide) | exact vc3 hB (by omega) | exact vcL hB (by omega)) (by first | assumption | rfl | decide | exact bL hB _ (by decide) | exact vc3 hB (by omega) | exact vcL hB (by omega)) ?_
      refine y_iload2 (q := 24) C 11 rfl rfl ?_
      refine y_iload3 (q := 25) C 12 rfl rfl ?_
      refine y_iload4 (q := 27) C 13 rfl rfl ?_
      refine y_cV3 (q := 30) C 14 rfl rfl ml_RX3_45 cd_X2_become cv_X2_become (by first | exact ⟨by decide, rfl⟩ | exact vcR hB (by omega)) (by first | assumption | rfl | decide | exact bL hB _ (by decide) | exact vc3 hB (by omega) | exact vcL hB (by omega)) (by decide) (by decide) (Nat.le_of_ble_eq_true rfl) (s_X2_become (by first | assumption | rfl | decide | exact bL hB _ (by decide) | exact vc3 hB (by omega) | exact vcL hB (by omega)) (by first | assumption | rfl | decide | exact bL hB _ (by decide) | exact vc3 hB (by omega) | exact vcL hB (by omega)) ?_)
      show aj_X G 30 _ _ _ _ _ _ _ _ _
      refine y_aload0 (q := 31) C 15 rfl rfl ?_
      refine y_iload1 (q := 32) C 16 rfl rfl ?_
      refine y_cV1 (q := 35) C 17 rfl rfl ml_RX3_48 cd_X3_comeTo cv_X3_comeTo ⟨by decide, rfl⟩ (by first | assumption | rfl | decide | exact bL hB _ (by decide) | exact vc3 hB (by omega) | exact vcL hB (by omega)) (by decide) (by decide) (Nat.le_of_ble_eq_true rfl) (s_X3_comeTo (by first | assumption | rfl | decide | exact bL hB _ (by decide) | exact vc3 hB (by omega) | exact vcL hB (by omega)) (by first | assumption | rfl | decide | exact bL hB _ (by decide) | exact vc3 hB (by omega) | exact vcL hB (by omega)) ?_)
      show aj_X G 35 _ _ _ _ _ _ _ _ _
      exact x_ireturn C Z 18 rfl rfl rfl (hK (by simp [*]))
    · skip
      refine y_aload0 (q := 15) C 6 rfl rfl ?_
      refine y_cV0 (q := 18) C 7 rfl rfl ml_RX3_96 cd_X3_refuse cv_X3_refuse ⟨by decide, rfl⟩ (by first | assumption | rfl | decide | exact bL hB _ (by decide) | exact vc3 hB (by omega) | exact vcL hB (by omega)) (by decide) (by decide) (Nat.le_of_ble_eq_true rfl) (s_X3_refuse (by first | assumption | rfl | decide | exact bL hB _ (by decide) | exact vc3 hB (by omega) | exact vcL hB (by omega)) ?_)
      show aj_X G 18 _ _ _ _ _ _ _ _ _
      exact x_ireturn C Z 8 rfl rfl rfl (hR (by simp [*]))
set_option maxRecDepth 100000 in
set_option maxHeartbeats 800000 in
theorem s_X3_put {l : Launch} {I : Nat → Nat → Int32} {J : Nat → Nat → Int64} {V : Nat → Nat → Option Nat} {N : Nat → Nat} {L : List Nat} {K : aj_K} {x a u s : Int32} (hB : bV V N L) (hXO : (ckI x) = false → K (.inr "java/lang/IndexOutOfBoundsException") I J V N L) (hXA : (ckI x) = true → okP a u s = false → K (.inr "java/lang/IllegalArgumentException") I J V N L) (hK : ∀ j : Nat, j < 8 → x = nI j → -127 ≤ a → a ≤ 127 → -127 ≤ u → u ≤ 127 → 0 ≤ s → s ≤ 3 → K (.inl (some (.int (mvC (stB I 147 a u s) (vc V j))))) (stC (stB I 147 a u s) (vc V j)) J V N L) : aj_M l yX3_put (aj_wc yX3_put cX3_put 5 (some .int)) (aj_rm 4 4 24) [] [.ref 20, .int x, .int a, .int u, .int s] I J V N L K := by
  refine aj_intro (tbl := t_X3_put) (lv0 := [some (.ref 20), some (.int x), some (.int a), some (.int u), some (.int s)]) (by decide) T_X3_put aj_f0 (Nat.le_of_ble_eq_true rfl) rfl ?_
  intro G hl C Z NX hnm hGL hGF
  have C : aj_C G cX3_put t_X3_put RX3 (aj_rm 4 4 24) 5 := C
  refine y_iload1 (q := 1) C 0 rfl rfl ?_
  refine y_dS1 (q := 4) C 1 rfl rfl ml_RX3_37 cd_X3_checkCell sv_X3_checkCell (by decide) (by decide) (Nat.le_of_ble_eq_true rfl) (bc' := 3) (bs' := 18) rfl rfl (s_X3_checkCell (fun j hj ej => ?_) (fun hn1 => x_out C Z NX (hXO hn1)))
  show aj_X G 4 _ _ _ _ _ _ _ _ _
  refine y_iload2 (q := 5) C 2 rfl rfl ?_
  refine x_bipush (q := 7) C 3 (n := (-127)) (v := (-127)) rfl rfl rfl ?_
  refine x_bipush (q := 9) C 4 (n := (127)) (v := (127)) rfl rfl rfl ?_
  refine y_dS3 (q := 12) C 5 rfl rfl ml_RX3_41 cd_X3_checkBetween sv_X3_checkBetween (by decide) (by decide) (Nat.le_of_ble_eq_true rfl) (bc' := 2) (bs' := 12) rfl rfl (s_X3_checkBetween (fun h1 h2 => ?_) (fun hn1 => x_out C Z NX (hXA (by rw [ej]; exact ckI_t hj) (okP_f (Or.inl (pIn_f hn1))))))
  show aj_X G 12 _ _ _ _ _ _ _ _ _
  refine y_iload3 (q := 13) C 6 rfl rfl ?_
  refine x_bipush (q := 15) C 7 (n := (-127)) (v := (-127)) rfl rfl rfl ?_
  refine x_bipush (q := 17) C 8 (n := (127)) (v := (127)) rfl rfl rfl ?_
  refine y_dS3 (q := 20) C 9 rfl rfl ml_RX3_41 cd_X3_checkBetween sv_X3_checkBetween (by decide) (by decide) (Nat.le_of_ble_eq_true rfl) (bc' := 1) (bs' := 6) rfl rfl (s_X3_checkBetween (fun h3 h4 => ?_) (fun hn1 => x_out C Z NX (hXA (by rw [ej]; exact ckI_t hj) (okP_f (Or.inr (Or.inl (pIn_f hn1)))))))
  show aj_X G 20 _ _ _ _ _ _ _ _ _
  refine y_iload4 (q := 22) C 10 rfl rfl ?_
  refine x_iconst (q := 23) C 11 (n := (0)) (v := (0)) rfl rfl rfl ?_
  refine x_iconst (q := 24) C 12 (n := (3)) (v := (3)) rfl rfl rfl ?_
  refine y_dS3 (q := 27) C 13 rfl rfl ml_RX3_41 cd_X3_checkBetween sv_X3_checkBetween (by decide) (by decide) (Nat.le_of_ble_eq_true rfl) (bc' := 0) (bs' := 0) rfl rfl (s_X3_checkBetween (fun h5 h6 => ?_) (fun hn1 => x_out C Z NX (hXA (by rw [ej]; exact ckI_t hj) (okP_f (Or.inr (Or.inr (pIn_f hn1)))))))
  show aj_X G 27 _ _ _ _ _ _ _ _ _
  refine y_aload0 (q := 28) C 14 rfl rfl ?_
  refine x_getR (q := 31) C 15 rfl rfl fl_RX3_23 (bv_4_3 hB) (fun _ _ => rfl) (by first | assumption | rfl | decide | exact bL hB _ (by decide) | exact vc3 hB (by omega) | exact vcL hB (by omega)) (by first | assumption | rfl | decide | exact bL hB _ (by decide) | exact vc3 hB (by omega) | exact vcL hB (by omega)) ?_
  refine y_iload2 (q := 32) C 16 rfl rfl ?_
  refine y_iload3 (q := 33) C 17 rfl rfl ?_
  refine y_iload4 (q := 35) C 18 rfl rfl ?_
  refine y_cV3 (q := 38) C 19 rfl rfl ml_RX3_45 cd_X2_become cv_X2_become (by first | exact ⟨by decide, rfl⟩ | exact vcR hB (by omega)) (by first | assumption | rfl | decide | exact bL hB _ (by decide) | exact vc3 hB (by omega) | exact vcL hB (by omega)) (by decide) (by decide) (Nat.le_of_ble_eq_true rfl) (s_X2_become (by first | assumption | rfl | decide | exact bL hB _ (by decide) | exact vc3 hB (by omega) | exact vcL hB (by omega)) (by first | assumption | rfl | decide | exact bL hB _ (by decide) | exact vc3 hB (by omega) | exact vcL hB (by omega)) ?_)
  show aj_X G 38 _ _ _ _ _ _ _ _ _
  subst ej
  refine y_aload0 (q := 39) C 20 rfl rfl ?_
  refine y_iload1 (q := 40) C 21 rfl rfl ?_
  refine y_cV1 (q := 43) C 22 rfl rfl ml_RX3_48 cd_X3_comeTo cv_X3_comeTo ⟨by decide, rfl⟩ (by first | assumption | rfl | decide | exact bL hB _ (by decide) | exact vc3 hB (by omega) | exact vcL hB (by omega)) (by decide) (by decide) (Nat.le_of_ble_eq_true rfl) (s_X3_comeTo (by first | assumption | rfl | decide | exact bL hB _ (by decide) | exact vc3 hB (by omega) | exact vcL hB (by omega)) (by first | assumption | rfl | decide | exact bL hB _ (by decide) | exact vc3 hB (by omega) | exact vcL hB (by omega)) ?_)
  show aj_X G 43 _ _ _ _ _ _ _ _ _
  exact x_ireturn C Z 23 rfl rfl rfl (hK j hj rfl h1 h2 h3 h4 h5 h6)
set_option maxRecDepth 100000 in
set_option maxHeartbeats 800000 in
theorem s_X3_make {l : Launch} {I : Nat → Nat → Int32} {J : Nat → Nat → Int64} {V : Nat → Nat → Option Nat} {N : Nat → Nat} {L : List Nat} {K : aj_K} {x w : Int32} (hB : bV V N L) (hXO : (ckI x) = false → K (.inr "java/lang/IndexOutOfBoundsException") I J V N L) (hXA : (ckI x) = true → pIn w 0 5 = false → K (.inr "java/lang/IllegalArgumentException") I J V N L) (hK : ∀ j v : Nat, j < 8 → v < 6 → x = nI j → w = nI v → K (.inl (some (.int (mvC (stB I 147 (pRA v (I (vc V j) 0) (I (vc V j) 1)) (pRU v (I (vc V j) 0) (I (vc V j) 1)) (pRS v (I (vc V j) 2))) (vc V j))))) (stC (stB I 147 (pRA v (I (vc V j) 0) (I (vc V j) 1)) (pRU v (I (vc V j) 0) (I (vc V j) 1)) (pRS v (I (vc V j) 2))) (vc V j)) J V N L) : aj_M l yX3_make (aj_wc yX3_make cX3_make 3 (some .int)) (aj_rm 4 2 12) [] [.ref 20, .int x, .int w] I J V N L K := by
  refine aj_intro (tbl := t_X3_make) (lv0 := [some (.ref 20), some (.int x), some (.int w)]) (by decide) T_X3_make aj_f0 (Nat.le_of_ble_eq_true rfl) rfl ?_
  intro G hl C Z NX hnm hGL hGF
  have C : aj_C G cX3_make t_X3_make RX3 (aj_rm 4 2 12) 3 := C
  refine y_iload1 (q := 1) C 0 rfl rfl ?_
  refine y_dS1 (q := 4) C 1 rfl rfl ml_RX3_37 cd_X3_checkCell sv_X3_checkCell (by decide) (by decide) (Nat.le_of_ble_eq_true rfl) (bc' := 1) (bs' := 6) rfl rfl (s_X3_checkCell (fun j hj ej => ?_) (fun hn1 => x_out C Z NX (hXO hn1)))
  show aj_X G 4 _ _ _ _ _ _ _ _ _
  refine y_iload2 (q := 5) C 2 rfl rfl ?_
  refine x_iconst (q := 6) C 3 (n := (0)) (v := (0)) rfl rfl rfl ?_
  refine x_iconst (q := 7) C 4 (n := (5)) (v := (5)) rfl rfl rfl ?_
  refine y_dS3 (q := 10) C 5 rfl rfl ml_RX3_41 cd_X3_checkBetween sv_X3_checkBetween (by decide) (by decide) (Nat.le_of_ble_eq_true rfl) (bc' := 0) (bs' := 0) rfl rfl (s_X3_checkBetween (fun h1 h2 => ?_) (fun hn1 => x_out C Z NX (hXA (by rw [ej]; exact ckI_t hj) (pIn_f hn1))))
  show aj_X G 10 _ _ _ _ _ _ _ _ _
  subst ej
  obtain ⟨v, hv, rfl⟩ : ∃ v : Nat, v < 6 ∧ w = nI v := by
    rcases pk_ix w (n := 6) (by decide) with h | h | h
    · exact absurd h1 (Int32.not_le.mpr h)
    · exact absurd (Int32.le_trans h h2) (by decide)
    · exact h
  refine y_aload0 (q := 11) C 6 rfl rfl ?_
  refine x_getR (q := 14) C 7 rfl rfl fl_RX3_23 (bv_4_3 hB) (fun _ _ => rfl) (by first | assumption | rfl | decide | exact bL hB _ (by decide) | exact vc3 hB (by omega) | exact vcL hB (by omega)) (by first | assumption | rfl | decide | exact bL hB _ (by decide) | exact vc3 hB (by omega) | exact vcL hB (by omega)) ?_
  refine y_aload0 (q := 15) C 8 rfl rfl ?_
  refine x_getR (q := 18) C 9 rfl rfl fl_RX3_11 (bv_4_0 hB) (fun _ _ => rfl) (by first | assumption | rfl | decide | exact bL hB _ (by decide) | exact vc3 hB (by omega) | exact vcL hB (by omega)) (by first | assumption | rfl | decide | exact bL hB _ (by decide) | exact vc3 hB (by omega) | exact vcL hB (by omega)) ?_
  refine y_iload1 (q := 19) C 10 rfl rfl ?_
  refine x_aald (q := 20) C 11 rfl rfl (by first | assumption | rfl | decide | exact bL hB _ (by decide) | exact vc3 hB (by omega) | exact vcL hB (by omega)) (by first | assumption | rfl | decide | exact bL hB _ (by decide) | exact vc3 hB (by omega) | exact vcL hB (by omega)) (by (first | rw [bn24 hB] | rw [bn40 hB] | rw [bn56 hB] | rw [bn72 hB] | rw [bn27 hB] | rw [bn43 hB] | rw [bn25 hB] | rw [bn41 hB] | rw [bn88 hB] | rw [bn104 hB] | rw [bn120 hB] | rw [bn136 hB] | rw [bn152 hB] | rw [bn168 hB]); first | assumption | exact vp_in_nI (by omega) (by decide)) (by rw [nI_clamp (by omega)]; exact vcV hB (by omega)) ?_
  refine y_iload2 (q := 21) C 12 rfl rfl ?_
  refine y_cV2 (q := 24) C 13 rfl rfl ml_RX3_52 cd_X2_becomeByRule cv_X2_becomeByRule (by first | exact ⟨by decide, rfl⟩ | exact vcR hB (by omega)) (by first | assumption | rfl | decide | exact bL hB _ (by decide) | exact vc3 hB (by omega) | exact vcL hB (by omega)) (by decide) (by decide) (Nat.le_of_ble_eq_true rfl) (s_X2_becomeByRule (by decide) (by first | decide | exact bL hB _ (by decide)) (vc3 hB hj) (vcL hB hj) hv ?_)
  show aj_X G 24 _ _ _ _ _ _ _ _ _
  refine y_aload0 (q := 25) C 14 rfl rfl ?_
  refine y_iload1 (q := 26) C 15 rfl rfl ?_
  refine y_cV1 (q := 29) C 16 rfl rfl ml_RX3_48 cd_X3_comeTo cv_X3_comeTo ⟨by decide, rfl⟩ (by first | assumption | rfl | decide | exact bL hB _ (by decide) | exact vc3 hB (by omega) | exact vcL hB (by omega)) (by decide) (by decide) (Nat.le_of_ble_eq_true rfl) (s_X3_comeTo (by first | assumption | rfl | decide | exact bL hB _ (by decide) | exact vc3 hB (by omega) | exact vcL hB (by omega)) (by first | assumption | rfl | decide | exact bL hB _ (by decide) | exact vc3 hB (by omega) | exact vcL hB (by omega)) ?_)
  show aj_X G 29 _ _ _ _ _ _ _ _ _
  exact x_ireturn C Z 17 rfl rfl rfl (hK j v hj hv rfl rfl)
set_option maxRecDepth 100000 in
set_option maxHeartbeats 800000 in
theorem s_X3_stretch {l : Launch} {I : Nat → Nat → Int32} {J : Nat → Nat → Int64} {V : Nat → Nat → Option Nat} {N : Nat → Nat} {L : List Nat} {K : aj_K} {x b : Int32} (hB : bV V N L) (hXO : (ckI x) = false → K (.inr "java/lang/IndexOutOfBoundsException") I J V N L) (hXA : (ckI x) = true → pIn b 1 127 = false → K (.inr "java/lang/IllegalArgumentException") I J V N L) (hR : ∀ j : Nat, j < 8 → x = nI j → 1 ≤ b → b ≤ 127 → (pCoo (I (vc V j) 0 * b) && pCoo (I (vc V j) 1 * b)) = false → K (.inl (some (.int (-9)))) (stR I) J V N L) (hK : ∀ j : Nat, j < 8 → x = nI j → 1 ≤ b → b ≤ 127 → (pCoo (I (vc V j) 0 * b) && pCoo (I (vc V j) 1 * b)) = true → K (.inl (some (.int (mvC (stB I 147 (I (vc V j) 0 * b) (I (vc V j) 1 * b) (I (vc V j) 2)) (vc V j))))) (stC (stB I 147 (I (vc V j) 0 * b) (I (vc V j) 1 * b) (I (vc V j) 2)) (vc V j)) J V N L) : aj_M l yX3_stretch (aj_wc yX3_stretch cX3_stretch 4 (some .int)) (aj_rm 4 2 12) [] [.ref 20, .int x, .int b] I J V N L K := by
  refine aj_intro (tbl := t_X3_stretch) (lv0 := [some (.ref 20), some (.int x), some (.int b), none]) (by decide) T_X3_stretch aj_f0 (Nat.le_of_ble_eq_true rfl) rfl ?_
  intro G hl C Z NX hnm hGL hGF
  have C : aj_C G cX3_stretch t_X3_stretch RX3 (aj_rm 4 2 12) 4 := C
  refine y_iload1 (q := 1) C 0 rfl rfl ?_
  refine y_dS1 (q := 4) C 1 rfl rfl ml_RX3_37 cd_X3_checkCell sv_X3_checkCell (by decide) (by decide) (Nat.le_of_ble_eq_true rfl) (bc' := 1) (bs' := 6) rfl rfl (s_X3_checkCell (fun j hj ej => ?_) (fun hn1 => x_out C Z NX (hXO hn1)))
  show aj_X G 4 _ _ _ _ _ _ _ _ _
  refine y_iload2 (q := 5) C 2 rfl rfl ?_
  refine x_iconst (q := 6) C 3 (n := (1)) (v := (1)) rfl rfl rfl ?_
  refine x_bipush (q := 8) C 4 (n := (127)) (v := (127)) rfl rfl rfl ?_
  refine y_dS3 (q := 11) C 5 rfl rfl ml_RX3_41 cd_X3_checkBetween sv_X3_checkBetween (by decide) (by decide) (Nat.le_of_ble_eq_true rfl) (bc' := 0) (bs' := 0) rfl rfl (s_X3_checkBetween (fun h1 h2 => ?_) (fun hn1 => x_out C Z NX (hXA (by rw [ej]; exact ckI_t hj) (pIn_f hn1))))
  show aj_X G 11 _ _ _ _ _ _ _ _ _
  subst ej
  refine y_aload0 (q := 12) C 6 rfl rfl ?_
  refine x_getR (q := 15) C 7 rfl rfl fl_RX3_11 (bv_4_0 hB) (fun _ _ => rfl) (by first | assumption | rfl | decide | exact bL hB _ (by decide) | exact vc3 hB (by omega) | exact vcL hB (by omega)) (by first | assumption | rfl | decide | exact bL hB _ (by decide) | exact vc3 hB (by omega) | exact vcL hB (by omega)) ?_
  refine y_iload1 (q := 16) C 8 rfl rfl ?_
  refine x_aald (q := 17) C 9 rfl rfl (by first | assumption | rfl | decide | exact bL hB _ (by decide) | exact vc3 hB (by omega) | exact vcL hB (by omega)) (by first | assumption | rfl | decide | exact bL hB _ (by decide) | exact vc3 hB (by omega) | exact vcL hB (by omega)) (by (first | rw [bn24 hB] | rw [bn40 hB] | rw [bn56 hB] | rw [bn72 hB] | rw [bn27 hB] | rw [bn43 hB] | rw [bn25 hB] | rw [bn41 hB] | rw [bn88 hB] | rw [bn104 hB] | rw [bn120 hB] | rw [bn136 hB] | rw [bn152 hB] | rw [bn168 hB]); first | assumption | exact vp_in_nI (by omega) (by decide)) (by rw [nI_clamp (by omega)]; exact vcV hB (by omega)) ?_
  refine y_astore3 (q := 18) C 10 rfl rfl (Nat.le_of_ble_eq_true rfl) rfl ?_
  refine y_aload0 (q := 19) C 11 rfl rfl ?_
  refine y_iload1 (q := 20) C 12 rfl rfl ?_
  refine y_aload3 (q := 21) C 13 rfl rfl ?_
  refine x_getI (q := 24) C 14 rfl rfl fl_RX3_56 (fun _ _ => rfl) (by first | assumption | rfl | decide | exact bL hB _ (by decide) | exact vc3 hB (by omega) | exact vcL hB (by omega)) (by first | assumption | rfl | decide | exact bL hB _ (by decide) | exact vc3 hB (by omega) | exact vcL hB (by omega)) ?_
  refine y_iload2 (q := 25) C 15 rfl rfl ?_
  refine x_imul (q := 26) C 16 rfl rfl ?_
  refine y_aload3 (q := 27) C 17 rfl rfl ?_
  refine x_getI (q := 30) C 18 rfl rfl fl_RX3_60 (fun _ _ => rfl) (by first | assumption | rfl | decide | exact bL hB _ (by decide) | exact vc3 hB (by omega) | exact vcL hB (by omega)) (by first | assumption | rfl | decide | exact bL hB _ (by decide) | exact vc3 hB (by omega) | exact vcL hB (by omega)) ?_
  refine y_iload2 (q := 31) C 19 rfl rfl ?_
  refine x_imul (q := 32) C 20 rfl rfl ?_
  refine y_aload3 (q := 33) C 21 rfl rfl ?_
  refine x_getI (q := 36) C 22 rfl rfl fl_RX3_63 (fun _ _ => rfl) (by first | assumption | rfl | decide | exact bL hB _ (by decide) | exact vc3 hB (by omega) | exact vcL hB (by omega)) (by first | assumption | rfl | decide | exact bL hB _ (by decide) | exact vc3 hB (by omega) | exact vcL hB (by omega)) ?_
  refine y_cV4 (q := 39) C 23 rfl rfl ml_RX3_66 cd_X3_comeOrRefuse cv_X3_comeOrRefuse ⟨by decide, rfl⟩ (by first | assumption | rfl | decide | exact bL hB _ (by decide) | exact vc3 hB (by omega) | exact vcL hB (by omega)) (by decide) (by decide) (Nat.le_of_ble_eq_true rfl) (s_X3_comeOrRefuse hj hB (fun z => x_ireturn C Z 24 rfl rfl rfl (hR j hj rfl h1 h2 z)) (fun z => ?_))
  show aj_X G 39 _ _ _ _ _ _ _ _ _
  exact x_ireturn C Z 24 rfl rfl rfl (hK j hj rfl h1 h2 z)
set_option maxRecDepth 100000 in
set_option maxHeartbeats 800000 in
theorem s_X3_addSteps {l : Launch} {I : Nat → Nat → Int32} {J : Nat → Nat → Int64} {V : Nat → Nat → Option Nat} {N : Nat → Nat} {L : List Nat} {K : aj_K} {x y z : Int32} (hB : bV V N L) (hXO : (ckI x && (ckI y && ckI z)) = false → K (.inr "java/lang/IndexOutOfBoundsException") I J V N L) (hR : ∀ i j k : Nat, i < 8 → j < 8 → k < 8 → x = nI i → y = nI j → z = nI k → (pCoo (I (vc V i) 0 + I (vc V j) 0) && pCoo (I (vc V i) 1 + I (vc V j) 1)) = false → K (.inl (some (.int (-9)))) (stR I) J V N L) (hK : ∀ i j k : Nat, i < 8 → j < 8 → k < 8 → x = nI i → y = nI j → z = nI k → (pCoo (I (vc V i) 0 + I (vc V j) 0) && pCoo (I (vc V i) 1 + I (vc V j) 1)) = true → K (.inl (some (.int (mvC (stB I 147 (I (vc V i) 0 + I (vc V j) 0) (I (vc V i) 1 + I (vc V j) 1) (I (vc V i) 2 &&& I (vc V j) 2)) (vc V k))))) (stC (stB I 147 (I (vc V i) 0 + I (vc V j) 0) (I (vc V i) 1 + I (vc V j) 1) (I (vc V i) 2 &&& I (vc V j) 2)) (vc V k)) J V N L) : aj_M l yX3_addSteps (aj_wc yX3_addSteps cX3_addSteps 6 (some .int)) (aj_rm 4 3 18) [] [.ref 20, .int x, .int y, .int z] I J V N L K := by
  refine aj_intro (tbl := t_X3_addSteps) (lv0 := [some (.ref 20), some (.int x), some (.int y), some (.int z), none, none]) (by decide) T_X3_addSteps aj_f0 (Nat.le_of_ble_eq_true rfl) rfl ?_
  intro G hl C Z NX hnm hGL hGF
  have C : aj_C G cX3_addSteps t_X3_addSteps RX3 (aj_rm 4 3 18) 6 := C
  refine y_iload1 (q := 1) C 0 rfl rfl ?_
  refine y_dS1 (q := 4) C 1 rfl rfl ml_RX3_37 cd_X3_checkCell sv_X3_checkCell (by decide) (by decide) (Nat.le_of_ble_eq_true rfl) (bc' := 2) (bs' := 12) rfl rfl (s_X3_checkCell (fun i hi ei => ?_) (fun hn1 => x_out C Z NX (hXO (and_f1 hn1))))
  show aj_X G 4 _ _ _ _ _ _ _ _ _
  refine y_iload2 (q := 5) C 2 rfl rfl ?_
  refine y_dS1 (q := 8) C 3 rfl rfl ml_RX3_37 cd_X3_checkCell sv_X3_checkCell (by decide) (by decide) (Nat.le_of_ble_eq_true rfl) (bc' := 1) (bs' := 6) rfl rfl (s_X3_checkCell (fun j hj ej => ?_) (fun hn1 => x_out C Z NX (hXO (and_f2 (and_f1 hn1)))))
  show aj_X G 8 _ _ _ _ _ _ _ _ _
  refine y_iload3 (q := 9) C 4 rfl rfl ?_
  refine y_dS1 (q := 12) C 5 rfl rfl ml_RX3_37 cd_X3_checkCell sv_X3_checkCell (by decide) (by decide) (Nat.le_of_ble_eq_true rfl) (bc' := 0) (bs' := 0) rfl rfl (s_X3_checkCell (fun k hk ek => ?_) (fun hn1 => x_out C Z NX (hXO (and_f2 (and_f2 hn1)))))
  show aj_X G 12 _ _ _ _ _ _ _ _ _
  subst ei
  subst ej
  subst ek
  refine y_aload0 (q := 13) C 6 rfl rfl ?_
  refine x_getR (q := 16) C 7 rfl rfl fl_RX3_11 (bv_4_0 hB) (fun _ _ => rfl) (by first | assumption | rfl | decide | exact bL hB _ (by decide) | exact vc3 hB (by omega) | exact vcL hB (by omega)) (by first | assumption | rfl | decide | exact bL hB _ (by decide) | exact vc3 hB (by omega) | exact vcL hB (by omega)) ?_
  refine y_iload1 (q := 17) C 8 rfl rfl ?_
  refine x_aald (q := 18) C 9 rfl rfl (by first | assumption | rfl | decide | exact bL hB _ (by decide) | exact vc3 hB (by omega) | exact vcL hB (by omega)) (by first | assumption | rfl | decide | exact bL hB _ (by decide) | exact vc3 hB (by omega) | exact vcL hB (by omega)) (by (first | rw [bn24 hB] | rw [bn40 hB] | rw [bn56 hB] | rw [bn72 hB] | rw [bn27 hB] | rw [bn43 hB] | rw [bn25 hB] | rw [bn41 hB] | rw [bn88 hB] | rw [bn104 hB] | rw [bn120 hB] | rw [bn136 hB] | rw [bn152 hB] | rw [bn168 hB]); first | assumption | exact vp_in_nI (by omega) (by decide)) (by rw [nI_clamp (by omega)]; exact vcV hB (by omega)) ?_
  refine y_astore4 (q := 20) C 10 rfl rfl (Nat.le_of_ble_eq_true rfl) rfl ?_
  refine y_aload0 (q := 21) C 11 rfl rfl ?_
  refine x_getR (q := 24) C 12 rfl rfl fl_RX3_11 (bv_4_0 hB) (fun _ _ => rfl) (by first | assumption | rfl | decide | exact bL hB _ (by decide) | exact vc3 hB (by omega) | exact vcL hB (by omega)) (by first | assumption | rfl | decide | exact bL hB _ (by decide) | exact vc3 hB (by omega) | exact vcL hB (by omega)) ?_
  refine y_iload2 (q := 25) C 13 rfl rfl ?_
  refine x_aald (q := 26) C 14 rfl rfl (by first | assumption | rfl | decide | exact bL hB _ (by decide) | exact vc3 hB (by omega) | exact vcL hB (by omega)) (by first | assumption | rfl | decide | exact bL hB _ (by decide) | exact vc3 hB (by omega) | exact vcL hB (by omega)) (by (first | rw [bn24 hB] | rw [bn40 hB] | rw [bn56 hB] | rw [bn72 hB] | rw [bn27 hB] | rw [bn43 hB] | rw [bn25 hB] | rw [bn41 hB] | rw [bn88 hB] | rw [bn104 hB] | rw [bn120 hB] | rw [bn136 hB] | rw [bn152 hB] | rw [bn168 hB]); first | assumption | exact vp_in_nI (by omega) (by decide)) (by rw [nI_clamp (by omega)]; exact vcV hB (by omega)) ?_
  refine y_astore5 (q := 28) C 15 rfl rfl (Nat.le_of_ble_eq_true rfl) rfl ?_
  refine y_aload0 (q := 29) C 16 rfl rfl ?_
  refine y_iload3 (q := 30) C 17 rfl rfl ?_
  refine y_aload4 (q := 32) C 18 rfl rfl ?_
  refine x_getI (q := 35) C 19 rfl rfl fl_RX3_56 (fun _ _ => rfl) (by first | assumption | rfl | decide | exact bL hB _ (by decide) | exact vc3 hB (by omega) | exact vcL hB (by omega)) (by first | assumption | rfl | decide | exact bL hB _ (by decide) | exact vc3 hB (by omega) | exact vcL hB (by omega)) ?_
  refine y_aload5 (q := 37) C 20 rfl rfl ?_
  refine x_getI (q := 40) C 21 rfl rfl fl_RX3_56 (fun _ _ => rfl) (by first | assumption | rfl | decide | exact bL hB _ (by decide) | exact vc3 hB (by omega) | exact vcL hB (by omega)) (by first | assumption | rfl | decide | exact bL hB _ (by decide) | exact vc3 hB (by omega) | exact vcL hB (by omega)) ?_
  refine x_iadd (q := 41) C 22 rfl rfl ?_
  refine y_aload4 (q := 43) C 23 rfl rfl ?_
  refine x_getI (q := 46) C 24 rfl rfl fl_RX3_60 (fun _ _ => rfl) (by first | assumption | rfl | decide | exact bL hB _ (by decide) | exact vc3 hB (by omega) | exact vcL hB (by omega)) (by first | assumption | rfl | decide | exact bL hB _ (by decide) | exact vc3 hB (by omega) | exact vcL hB (by omega)) ?_
  refine y_aload5 (q := 48) C 25 rfl rfl ?_
  refine x_getI (q := 51) C 26 rfl rfl fl_RX3_60 (fun _ _ => rfl) (by first | assumption | rfl | decide | exact bL hB _ (by decide) | exact vc3 hB (by omega) | exact vcL hB (by omega)) (by first | assumption | rfl | decide | exact bL hB _ (by decide) | exact vc3 hB (by omega) | exact vcL hB (by omega)) ?_
  refine x_iadd (q := 52) C 27 rfl rfl ?_
  refine y_aload4 (q := 54) C 28 rfl rfl ?_
  refine x_getI (q := 57) C 29 rfl rfl fl_RX3_63 (fun _ _ => rfl) (by first | assumption | rfl | decide | exact bL hB _ (by decide) | exact vc3 hB (by omega) | exact vcL hB (by omega)) (by first | assumption | rfl | decide | exact bL hB _ (by decide) | exact vc3 hB (by omega) | exact vcL hB (by omega)) ?_
  refine y_aload5 (q := 59) C 30 rfl rfl ?_
  refine x_getI (q := 62) C 31 rfl rfl fl_RX3_63 (fun _ _ => rfl) (by first | assumption | rfl | decide | exact bL hB _ (by decide) | exact vc3 hB (by omega) | exact vcL hB (by omega)) (by first | assumption | rfl | decide | exact bL hB _ (by decide) | exact vc3 hB (by omega) | exact vcL hB (by omega)) ?_
  refine x_iand (q := 63) C 32 rfl rfl ?_
  refine y_cV4 (q := 66) C 33 rfl rfl ml_RX3_66 cd_X3_comeOrRefuse cv_X3_comeOrRefuse ⟨by decide, rfl⟩ (by first | assumption | rfl | decide | exact bL hB _ (by decide) | exact vc3 hB (by omega) | exact vcL hB (by omega)) (by decide) (by decide) (Nat.le_of_ble_eq_true rfl) (s_X3_comeOrRefuse hk hB (fun w => x_ireturn C Z 34 rfl rfl rfl (hR i j k hi hj hk rfl rfl rfl w)) (fun w => ?_))
  show aj_X G 66 _ _ _ _ _ _ _ _ _
  exact x_ireturn C Z 34 rfl rfl rfl (hK i j k hi hj hk rfl rfl rfl w)
set_option maxRecDepth 100000 in
set_option maxHeartbeats 800000 in
theorem s_X3_takeStep {l : Launch} {I : Nat → Nat → Int32} {J : Nat → Nat → Int64} {V : Nat → Nat → Option Nat} {N : Nat → Nat} {L : List Nat} {K : aj_K} {x y z : Int32} {n : Nat} (hn : n ≤ 12) (hc : I 18 2 = nI n) (hB : bV V N L) (hXO : (ckI x && (vOk n y && vOk n z)) = false → K (.inr "java/lang/IndexOutOfBoundsException") I J V N L) (hK : ∀ i j k : Nat, i < 8 → j < n → k < n → x = nI i → y = nI j → z = nI k → K (.inl (some (.int (mvC (stB I 147 (I 24 k - I 24 j) (I 40 k - I 40 j) 0) (vc V i))))) (stC (stB I 147 (I 24 k - I 24 j) (I 40 k - I 40 j) 0) (vc V i)) J V N L) : aj_M l yX3_takeStep (aj_wc yX3_takeStep cX3_takeStep 4 (some .int)) (aj_rm 4 3 18) [] [.ref 20, .int x, .int y, .int z] I J V N L K := by
  refine aj_intro (tbl := t_X3_takeStep) (lv0 := [some (.ref 20), some (.int x), some (.int y), some (.int z)]) (by decide) T_X3_takeStep aj_f0 (Nat.le_of_ble_eq_true rfl) rfl ?_
  intro G hl C Z NX hnm hGL hGF
  have C : aj_C G cX3_takeStep t_X3_takeStep RX3 (aj_rm 4 3 18) 4 := C
  refine y_iload1 (q := 1) C 0 rfl rfl ?_
  refine y_dS1 (q := 4) C 1 rfl rfl ml_RX3_37 cd_X3_checkCell sv_X3_checkCell (by decide) (by decide) (Nat.le_of_ble_eq_true rfl) (bc' := 2) (bs' := 12) rfl rfl (s_X3_checkCell (fun i hi ei => ?_) (fun hn1 => x_out C Z NX (hXO (and_f1 hn1))))
  show aj_X G 4 _ _ _ _ _ _ _ _ _
  refine y_aload0 (q := 5) C 2 rfl rfl ?_
  refine y_iload2 (q := 6) C 3 rfl rfl ?_
  refine y_dV1 (q := 9) C 4 rfl rfl ml_RX3_70 cd_X3_checkPlace cv_X3_checkPlace ⟨by decide, rfl⟩ (by first | assumption | rfl | decide | exact bL hB _ (by decide) | exact vc3 hB (by omega) | exact vcL hB (by omega)) (by decide) (by decide) (Nat.le_of_ble_eq_true rfl) (bc' := 1) (bs' := 6) rfl rfl (s_X3_checkPlace hn hc hB (fun j hj ej => ?_) (fun hn1 => x_out C Z NX (hXO (and_f2 (and_f1 (vOk_f hn hn1))))))
  show aj_X G 9 _ _ _ _ _ _ _ _ _
  refine y_aload0 (q := 10) C 5 rfl rfl ?_
  refine y_iload3 (q := 11) C 6 rfl rfl ?_
  refine y_dV1 (q := 14) C 7 rfl rfl ml_RX3_70 cd_X3_checkPlace cv_X3_checkPlace ⟨by decide, rfl⟩ (by first | assumption | rfl | decide | exact bL hB _ (by decide) | exact vc3 hB (by omega) | exact vcL hB (by omega)) (by decide) (by decide) (Nat.le_of_ble_eq_true rfl) (bc' := 0) (bs' := 0) rfl rfl (s_X3_checkPlace hn hc hB (fun k hk ek => ?_) (fun hn1 => x_out C Z NX (hXO (and_f2 (and_f2 (vOk_f hn hn1))))))
  show aj_X G 14 _ _ _ _ _ _ _ _ _
  subst ei
  subst ej
  subst ek
  refine y_aload0 (q := 15) C 8 rfl rfl ?_
  refine x_getR (q := 18) C 9 rfl rfl fl_RX3_33 (bv_4_5 hB) (fun _ _ => rfl) (by first | assumption | rfl | decide | exact bL hB _ (by decide) | exact vc3 hB (by omega) | exact vcL hB (by omega)) (by first | assumption | rfl | decide | exact bL hB _ (by decide) | exact vc3 hB (by omega) | exact vcL hB (by omega)) ?_
  refine y_aload0 (q := 19) C 10 rfl rfl ?_
  refine x_getR (q := 22) C 11 rfl rfl fl_RX3_23 (bv_4_3 hB) (fun _ _ => rfl) (by first | assumption | rfl | decide | exact bL hB _ (by decide) | exact vc3 hB (by omega) | exact vcL hB (by omega)) (by first | assumption | rfl | decide | exact bL hB _ (by decide) | exact vc3 hB (by omega) | exact vcL hB (by omega)) ?_
  refine y_iload2 (q := 23) C 12 rfl rfl ?_
  refine y_iload3 (q := 24) C 13 rfl rfl ?_
  refine y_cV3 (q := 27) C 14 rfl rfl ml_RX3_73 cd_X1_stepBetween cv_X1_stepBetween ⟨by decide, rfl⟩ (by first | assumption | rfl | decide | exact bL hB _ (by decide) | exact vc3 hB (by omega) | exact vcL hB (by omega)) (by decide) (by decide) (Nat.le_of_ble_eq_true rfl) (s_X1_stepBetween (by decide) (bL hB _ (by decide)) (i := j) (j := k) (by omega) (by omega) hB ?_)
  show aj_X G 27 _ _ _ _ _ _ _ _ _
  refine y_aload0 (q := 28) C 15 rfl rfl ?_
  refine y_iload1 (q := 29) C 16 rfl rfl ?_
  refine y_cV1 (q := 32) C 17 rfl rfl ml_RX3_48 cd_X3_comeTo cv_X3_comeTo ⟨by decide, rfl⟩ (by first | assumption | rfl | decide | exact bL hB _ (by decide) | exact vc3 hB (by omega) | exact vcL hB (by omega)) (by decide) (by decide) (Nat.le_of_ble_eq_true rfl) (s_X3_comeTo (by first | assumption | rfl | decide | exact bL hB _ (by decide) | exact vc3 hB (by omega) | exact vcL hB (by omega)) (by first | assumption | rfl | decide | exact bL hB _ (by decide) | exact vc3 hB (by omega) | exact vcL hB (by omega)) ?_)
  show aj_X G 32 _ _ _ _ _ _ _ _ _
  exact x_ireturn C Z 18 rfl rfl rfl (hK i j k hi hj hk rfl rfl rfl)
set_option maxRecDepth 100000 in
set_option maxHeartbeats 800000 in
theorem s_X3_across {l : Launch} {I : Nat → Nat → Int32} {J : Nat → Nat → Int64} {V : Nat → Nat → Option Nat} {N : Nat → Nat} {L : List Nat} {K : aj_K} {x : Int32} (hB : bV V N L) (hXO : (ckI x) = false → K (.inr "java/lang/IndexOutOfBoundsException") I J V N L) (hK : ∀ j : Nat, j < 8 → x = nI j → K (.inl (some (.int (I (vc V j) 0)))) I J V N L) : aj_M l yX3_across (aj_wc yX3_across cX3_across 2 (some .int)) (aj_rm 2 1 6) [] [.ref 20, .int x] I J V N L K := by
  refine aj_intro (tbl := t_X3_across) (lv0 := [some (.ref 20), some (.int x)]) (by decide) T_X3_across aj_f0 (Nat.le_of_ble_eq_true rfl) rfl ?_
  intro G hl C Z NX hnm hGL hGF
  have C : aj_C G cX3_across t_X3_across RX3 (aj_rm 2 1 6) 2 := C
  refine y_iload1 (q := 1) C 0 rfl rfl ?_
  refine y_dS1 (q := 4) C 1 rfl rfl ml_RX3_37 cd_X3_checkCell sv_X3_checkCell (by decide) (by decide) (Nat.le_of_ble_eq_true rfl) (bc' := 0) (bs' := 0) rfl rfl (s_X3_checkCell (fun j hj ej => ?_) (fun hn1 => x_out C Z NX (hXO hn1)))
  show aj_X G 4 _ _ _ _ _ _ _ _ _
  subst ej
  refine y_aload0 (q := 5) C 2 rfl rfl ?_
  refine x_getR (q := 8) C 3 rfl rfl fl_RX3_11 (bv_4_0 hB) (fun _ _ => rfl) (by first | assumption | rfl | decide | exact bL hB _ (by decide) | exact vc3 hB (by omega) | exact vcL hB (by omega)) (by first | assumption | rfl | decide | exact bL hB _ (by decide) | exact vc3 hB (by omega) | exact vcL hB (by omega)) ?_
  refine y_iload1 (q := 9) C 4 rfl rfl ?_
  refine x_aald (q := 10) C 5 rfl rfl (by first | assumption | rfl | decide | exact bL hB _ (by decide) | exact vc3 hB (by omega) | exact vcL hB (by omega)) (by first | assumption | rfl | decide | exact bL hB _ (by decide) | exact vc3 hB (by omega) | exact vcL hB (by omega)) (by (first | rw [bn24 hB] | rw [bn40 hB] | rw [bn56 hB] | rw [bn72 hB] | rw [bn27 hB] | rw [bn43 hB] | rw [bn25 hB] | rw [bn41 hB] | rw [bn88 hB] | rw [bn104 hB] | rw [bn120 hB] | rw [bn136 hB] | rw [bn152 hB] | rw [bn168 hB]); first | assumption | exact vp_in_nI (by omega) (by decide)) (by rw [nI_clamp (by omega)]; exact vcV hB (by omega)) ?_
  refine x_getI (q := 13) C 6 rfl rfl fl_RX3_56 (fun _ _ => rfl) (by first | assumption | rfl | decide | exact bL hB _ (by decide) | exact vc3 hB (by omega) | exact vcL hB (by omega)) (by first | assumption | rfl | decide | exact bL hB _ (by decide) | exact vc3 hB (by omega) | exact vcL hB (by omega)) ?_
  exact x_ireturn C Z 7 rfl rfl rfl (hK j hj rfl)
set_option maxRecDepth 100000 in
set_option maxHeartbeats 800000 in
theorem s_X3_up {l : Launch} {I : Nat → Nat → Int32} {J : Nat → Nat → Int64} {V : Nat → Nat → Option Nat} {N : Nat → Nat} {L : List Nat} {K : aj_K} {x : Int32} (hB : bV V N L) (hXO : (ckI x) = false → K (.inr "java/lang/IndexOutOfBoundsException") I J V N L) (hK : ∀ j : Nat, j < 8 → x = nI j → K (.inl (some (.int (I (vc V j) 1)))) I J V N L) : aj_M l yX3_up (aj_wc yX3_up cX3_up 2 (some .int)) (aj_rm 2 1 6) [] [.ref 20, .int x] I J V N L K := by
  refine aj_intro (tbl := t_X3_up) (lv0 := [some (.ref 20), some (.int x)]) (by decide) T_X3_up aj_f0 (Nat.le_of_ble_eq_true rfl) rfl ?_
  intro G hl C Z NX hnm hGL hGF
  have C : aj_C G cX3_up t_X3_up RX3 (aj_rm 2 1 6) 2 := C
  refine y_iload1 (q := 1) C 0 rfl rfl ?_
  refine y_dS1 (q := 4) C 1 rfl rfl ml_RX3_37 cd_X3_checkCell sv_X3_checkCell (by decide) (by decide) (Nat.le_of_ble_eq_true rfl) (bc' := 0) (bs' := 0) rfl rfl (s_X3_checkCell (fun j hj ej => ?_) (fun hn1 => x_out C Z NX (hXO hn1)))
  show aj_X G 4 _ _ _ _ _ _ _ _ _
  subst ej
  refine y_aload0 (q := 5) C 2 rfl rfl ?_
  refine x_getR (q := 8) C 3 rfl rfl fl_RX3_11 (bv_4_0 hB) (fun _ _ => rfl) (by first | assumption | rfl | decide | exact bL hB _ (by decide) | exact vc3 hB (by omega) | exact vcL hB (by omega)) (by first | assumption | rfl | decide | exact bL hB _ (by decide) | exact vc3 hB (by omega) | exact vcL hB (by omega)) ?_
  refine y_iload1 (q := 9) C 4 rfl rfl ?_
  refine x_aald (q := 10) C 5 rfl rfl (by first | assumption | rfl | decide | exact bL hB _ (by decide) | exact vc3 hB (by omega) | exact vcL hB (by omega)) (by first | assumption | rfl | decide | exact bL hB _ (by decide) | exact vc3 hB (by omega) | exact vcL hB (by omega)) (by (first | rw [bn24 hB] | rw [bn40 hB] | rw [bn56 hB] | rw [bn72 hB] | rw [bn27 hB] | rw [bn43 hB] | rw [bn25 hB] | rw [bn41 hB] | rw [bn88 hB] | rw [bn104 hB] | rw [bn120 hB] | rw [bn136 hB] | rw [bn152 hB] | rw [bn168 hB]); first | assumption | exact vp_in_nI (by omega) (by decide)) (by rw [nI_clamp (by omega)]; exact vcV hB (by omega)) ?_
  refine x_getI (q := 13) C 6 rfl rfl fl_RX3_60 (fun _ _ => rfl) (by first | assumption | rfl | decide | exact bL hB _ (by decide) | exact vc3 hB (by omega) | exact vcL hB (by omega)) (by first | assumption | rfl | decide | exact bL hB _ (by decide) | exact vc3 hB (by omega) | exact vcL hB (by omega)) ?_
  exact x_ireturn C Z 7 rfl rfl rfl (hK j hj rfl)
set_option maxRecDepth 100000 in
set_option maxHeartbeats 800000 in
theorem s_X3_signs {l : Launch} {I : Nat → Nat → Int32} {J : Nat → Nat → Int64} {V : Nat → Nat → Option Nat} {N : Nat → Nat} {L : List Nat} {K : aj_K} {x : Int32} (hB : bV V N L) (hXO : (ckI x) = false → K (.inr "java/lang/IndexOutOfBoundsException") I J V N L) (hK : ∀ j : Nat, j < 8 → x = nI j → K (.inl (some (.int (I (vc V j) 2)))) I J V N L) : aj_M l yX3_signs (aj_wc yX3_signs cX3_signs 2 (some .int)) (aj_rm 2 1 6) [] [.ref 20, .int x] I J V N L K := by
  refine aj_intro (tbl := t_X3_signs) (lv0 := [some (.ref 20), some (.int x)]) (by decide) T_X3_signs aj_f0 (Nat.le_of_ble_eq_true rfl) rfl ?_
  intro G hl C Z NX hnm hGL hGF
  have C : aj_C G cX3_signs t_X3_signs RX3 (aj_rm 2 1 6) 2 := C
  refine y_iload1 (q := 1) C 0 rfl rfl ?_
  refine y_dS1 (q := 4) C 1 rfl rfl ml_RX3_37 cd_X3_checkCell sv_X3_checkCell (by decide) (by decide) (Nat.le_of_ble_eq_true rfl) (bc' := 0) (bs' := 0) rfl rfl (s_X3_checkCell (fun j hj ej => ?_) (fun hn1 => x_out C Z NX (hXO hn1)))
  show aj_X G 4 _ _ _ _ _ _ _ _ _
  subst ej
  refine y_aload0 (q := 5) C 2 rfl rfl ?_
  refine x_getR (q := 8) C 3 rfl rfl fl_RX3_11 (bv_4_0 hB) (fun _ _ => rfl) (by first | assumption | rfl | decide | exact bL hB _ (by decide) | exact vc3 hB (by omega) | exact vcL hB (by omega)) (by first | assumption | rfl | decide | exact bL hB _ (by decide) | exact vc3 hB (by omega) | exact vcL hB (by omega)) ?_
  refine y_iload1 (q := 9) C 4 rfl rfl ?_
  refine x_aald (q := 10) C 5 rfl rfl (by first | assumption | rfl | decide | exact bL hB _ (by decide) | exact vc3 hB (by omega) | exact vcL hB (by omega)) (by first | assumption | rfl | decide | exact bL hB _ (by decide) | exact vc3 hB (by omega) | exact vcL hB (by omega)) (by (first | rw [bn24 hB] | rw [bn40 hB] | rw [bn56 hB] | rw [bn72 hB] | rw [bn27 hB] | rw [bn43 hB] | rw [bn25 hB] | rw [bn41 hB] | rw [bn88 hB] | rw [bn104 hB] | rw [bn120 hB] | rw [bn136 hB] | rw [bn152 hB] | rw [bn168 hB]); first | assumption | exact vp_in_nI (by omega) (by decide)) (by rw [nI_clamp (by omega)]; exact vcV hB (by omega)) ?_
  refine x_getI (q := 13) C 6 rfl rfl fl_RX3_63 (fun _ _ => rfl) (by first | assumption | rfl | decide | exact bL hB _ (by decide) | exact vc3 hB (by omega) | exact vcL hB (by omega)) (by first | assumption | rfl | decide | exact bL hB _ (by decide) | exact vc3 hB (by omega) | exact vcL hB (by omega)) ?_
  exact x_ireturn C Z 7 rfl rfl rfl (hK j hj rfl)
set_option maxRecDepth 100000 in
set_option maxHeartbeats 800000 in
theorem s_X3_upper {l : Launch} {I : Nat → Nat → Int32} {J : Nat → Nat → Int64} {V : Nat → Nat → Option Nat} {N : Nat → Nat} {L : List Nat} {K : aj_K} {x : Int32} (hB : bV V N L) (hXO : (ckI x) = false → K (.inr "java/lang/IndexOutOfBoundsException") I J V N L) (hK : ∀ j : Nat, j < 8 → x = nI j → K (.inl (some (.int (pFD (I (vc V j) 2) (pAng (I (vc V j) 0) (I (vc V j) 1) (I (vc V j) 2) (I (vc V j) 3)))))) I J V N L) : aj_M l yX3_upper (aj_wc yX3_upper cX3_upper 2 (some .int)) (aj_rm 4 1 6) [] [.ref 20, .int x] I J V N L K := by
  refine aj_intro (tbl := t_X3_upper) (lv0 := [some (.ref 20), some (.int x)]) (by decide) T_X3_upper aj_f0 (Nat.le_of_ble_eq_true rfl) rfl ?_
  intro G hl C Z NX hnm hGL hGF
  have C : aj_C G cX3_upper t_X3_upper RX3 (aj_rm 4 1 6) 2 := C
  refine y_iload1 (q := 1) C 0 rfl rfl ?_
  refine y_dS1 (q := 4) C 1 rfl rfl ml_RX3_37 cd_X3_checkCell sv_X3_checkCell (by decide) (by decide) (Nat.le_of_ble_eq_true rfl) (bc' := 0) (bs' := 0) rfl rfl (s_X3_checkCell (fun j hj ej => ?_) (fun hn1 => x_out C Z NX (hXO hn1)))
  show aj_X G 4 _ _ _ _ _ _ _ _ _
  subst ej
  refine y_aload0 (q := 5) C 2 rfl rfl ?_
  refine x_getR (q := 8) C 3 rfl rfl fl_RX3_11 (bv_4_0 hB) (fun _ _ => rfl) (by first | assumption | rfl | decide | exact bL hB _ (by decide) | exact vc3 hB (by omega) | exact vcL hB (by omega)) (by first | assumption | rfl | decide | exact bL hB _ (by decide) | exact vc3 hB (by omega) | exact vcL hB (by omega)) ?_
  refine y_iload1 (q := 9) C 4 rfl rfl ?_
  refine x_aald (q := 10) C 5 rfl rfl (by first | assumption | rfl | decide | exact bL hB _ (by decide) | exact vc3 hB (by omega) | exact vcL hB (by omega)) (by first | assumption | rfl | decide | exact bL hB _ (by decide) | exact vc3 hB (by omega) | exact vcL hB (by omega)) (by (first | rw [bn24 hB] | rw [bn40 hB] | rw [bn56 hB] | rw [bn72 hB] | rw [bn27 hB] | rw [bn43 hB] | rw [bn25 hB] | rw [bn41 hB] | rw [bn88 hB] | rw [bn104 hB] | rw [bn120 hB] | rw [bn136 hB] | rw [bn152 hB] | rw [bn168 hB]); first | assumption | exact vp_in_nI (by omega) (by decide)) (by rw [nI_clamp (by omega)]; exact vcV hB (by omega)) ?_
  refine y_aload0 (q := 11) C 6 rfl rfl ?_
  refine x_getR (q := 14) C 7 rfl rfl fl_RX3_11 (bv_4_0 hB) (fun _ _ => rfl) (by first | assumption | rfl | decide | exact bL hB _ (by decide) | exact vc3 hB (by omega) | exact vcL hB (by omega)) (by first | assumption | rfl | decide | exact bL hB _ (by decide) | exact vc3 hB (by omega) | exact vcL hB (by omega)) ?_
  refine y_iload1 (q := 15) C 8 rfl rfl ?_
  refine x_aald (q := 16) C 9 rfl rfl (by first | assumption | rfl | decide | exact bL hB _ (by decide) | exact vc3 hB (by omega) | exact vcL hB (by omega)) (by first | assumption | rfl | decide | exact bL hB _ (by decide) | exact vc3 hB (by omega) | exact vcL hB (by omega)) (by (first | rw [bn24 hB] | rw [bn40 hB] | rw [bn56 hB] | rw [bn72 hB] | rw [bn27 hB] | rw [bn43 hB] | rw [bn25 hB] | rw [bn41 hB] | rw [bn88 hB] | rw [bn104 hB] | rw [bn120 hB] | rw [bn136 hB] | rw [bn152 hB] | rw [bn168 hB]); first | assumption | exact vp_in_nI (by omega) (by decide)) (by rw [nI_clamp (by omega)]; exact vcV hB (by omega)) ?_
  refine y_cV0 (q := 19) C 10 rfl rfl ml_RX3_103 cd_X2_angle cv_X2_angle (by first | exact ⟨by decide, rfl⟩ | exact vcR hB (by omega)) (by first | assumption | rfl | decide | exact bL hB _ (by decide) | exact vc3 hB (by omega) | exact vcL hB (by omega)) (by decide) (by decide) (Nat.le_of_ble_eq_true rfl) (s_X2_angle (by first | assumption | rfl | decide | exact bL hB _ (by decide) | exact vc3 hB (by omega) | exact vcL hB (by omega)) (by first | assumption | rfl | decide | exact bL hB _ (by decide) | exact vc3 hB (by omega) | exact vcL hB (by omega)) ?_)
  show aj_X G 19 _ _ _ _ _ _ _ _ _
  refine y_cV1 (q := 22) C 11 rfl rfl ml_RX3_107 cd_X2_firstDigits cv_X2_firstDigits (by first | exact ⟨by decide, rfl⟩ | exact vcR hB (by omega)) (by first | assumption | rfl | decide | exact bL hB _ (by decide) | exact vc3 hB (by omega) | exact vcL hB (by omega)) (by decide) (by decide) (Nat.le_of_ble_eq_true rfl) (s_X2_firstDigits (by first | assumption | rfl | decide | exact bL hB _ (by decide) | exact vc3 hB (by omega) | exact vcL hB (by omega)) (by first | assumption | rfl | decide | exact bL hB _ (by decide) | exact vc3 hB (by omega) | exact vcL hB (by omega)) ?_)
  show aj_X G 22 _ _ _ _ _ _ _ _ _
  exact x_ireturn C Z 12 rfl rfl rfl (hK j hj rfl)
set_option maxRecDepth 100000 in
set_option maxHeartbeats 800000 in
theorem s_X3_lower {l : Launch} {I : Nat → Nat → Int32} {J : Nat → Nat → Int64} {V : Nat → Nat → Option Nat} {N : Nat → Nat} {L : List Nat} {K : aj_K} {x : Int32} (hB : bV V N L) (hXO : (ckI x) = false → K (.inr "java/lang/IndexOutOfBoundsException") I J V N L) (hK : ∀ j : Nat, j < 8 → x = nI j → K (.inl (some (.int (if pFixed (I (vc V j) 0) (I (vc V j) 1) = true then pLD (I (vc V j) 0) (I (vc V j) 1) (I (vc V j) 3) else -9)))) I J V N L) : aj_M l yX3_lower (aj_wc yX3_lower cX3_lower 2 (some .int)) (aj_rm 4 1 6) [] [.ref 20, .int x] I J V N L K := by
  refine aj_intro (tbl := t_X3_lower) (lv0 := [some (.ref 20), some (.int x)]) (by decide) T_X3_lower aj_f0 (Nat.le_of_ble_eq_true rfl) rfl ?_
  intro G hl C Z NX hnm hGL hGF
  have C : aj_C G cX3_lower t_X3_lower RX3 (aj_rm 4 1 6) 2 := C
  refine y_iload1 (q := 1) C 0 rfl rfl ?_
  refine y_dS1 (q := 4) C 1 rfl rfl ml_RX3_37 cd_X3_checkCell sv_X3_checkCell (by decide) (by decide) (Nat.le_of_ble_eq_true rfl) (bc' := 0) (bs' := 0) rfl rfl (s_X3_checkCell (fun j hj ej => ?_) (fun hn1 => x_out C Z NX (hXO hn1)))
  show aj_X G 4 _ _ _ _ _ _ _ _ _
  subst ej
  refine y_aload0 (q := 5) C 2 rfl rfl ?_
  refine x_getR (q := 8) C 3 rfl rfl fl_RX3_11 (bv_4_0 hB) (fun _ _ => rfl) (by first | assumption | rfl | decide | exact bL hB _ (by decide) | exact vc3 hB (by omega) | exact vcL hB (by omega)) (by first | assumption | rfl | decide | exact bL hB _ (by decide) | exact vc3 hB (by omega) | exact vcL hB (by omega)) ?_
  refine y_iload1 (q := 9) C 4 rfl rfl ?_
  refine x_aald (q := 10) C 5 rfl rfl (by first | assumption | rfl | decide | exact bL hB _ (by decide) | exact vc3 hB (by omega) | exact vcL hB (by omega)) (by first | assumption | rfl | decide | exact bL hB _ (by decide) | exact vc3 hB (by omega) | exact vcL hB (by omega)) (by (first | rw [bn24 hB] | rw [bn40 hB] | rw [bn56 hB] | rw [bn72 hB] | rw [bn27 hB] | rw [bn43 hB] | rw [bn25 hB] | rw [bn41 hB] | rw [bn88 hB] | rw [bn104 hB] | rw [bn120 hB] | rw [bn136 hB] | rw [bn152 hB] | rw [bn168 hB]); first | assumption | exact vp_in_nI (by omega) (by decide)) (by rw [nI_clamp (by omega)]; exact vcV hB (by omega)) ?_
  refine y_cV0 (q := 13) C 6 rfl rfl ml_RX3_111 cd_X2_isFixed cv_X2_isFixed (by first | exact ⟨by decide, rfl⟩ | exact vcR hB (by omega)) (by first | assumption | rfl | decide | exact bL hB _ (by decide) | exact vc3 hB (by omega) | exact vcL hB (by omega)) (by decide) (by decide) (Nat.le_of_ble_eq_true rfl) (s_X2_isFixed (by first | assumption | rfl | decide | exact bL hB _ (by decide) | exact vc3 hB (by omega) | exact vcL hB (by omega)) (by first | assumption | rfl | decide | exact bL hB _ (by decide) | exact vc3 hB (by omega) | exact vcL hB (by omega)) ?_)
  show aj_X G 13 _ _ _ _ _ _ _ _ _
  refine x_if_eqB (q := 16) (t := 28) C 7 rfl (by decide) rfl (fun c1 => ?_) (fun c1 => ?_)
  · skip
    refine x_bipush (q := 30) C 14 (n := (-9)) (v := (-9)) rfl rfl rfl ?_
    exact x_ireturn C Z 15 rfl rfl rfl (aj_lf (hK j hj rfl) (by simp [*]))
  · skip
    refine y_aload0 (q := 17) C 8 rfl rfl ?_
    refine x_getR (q := 20) C 9 rfl rfl fl_RX3_11 (bv_4_0 hB) (fun _ _ => rfl) (by first | assumption | rfl | decide | exact bL hB _ (by decide) | exact vc3 hB (by omega) | exact vcL hB (by omega)) (by first | assumption | rfl | decide | exact bL hB _ (by decide) | exact vc3 hB (by omega) | exact vcL hB (by omega)) ?_
    refine y_iload1 (q := 21) C 10 rfl rfl ?_
    refine x_aald (q := 22) C 11 rfl rfl (by first | assumption | rfl | decide | exact bL hB _ (by decide) | exact vc3 hB (by omega) | exact vcL hB (by omega)) (by first | assumption | rfl | decide | exact bL hB _ (by decide) | exact vc3 hB (by omega) | exact vcL hB (by omega)) (by (first | rw [bn24 hB] | rw [bn40 hB] | rw [bn56 hB] | rw [bn72 hB] | rw [bn27 hB] | rw [bn43 hB] | rw [bn25 hB] | rw [bn41 hB] | rw [bn88 hB] | rw [bn104 hB] | rw [bn120 hB] | rw [bn136 hB] | rw [bn152 hB] | rw [bn168 hB]); first | assumption | exact vp_in_nI (by omega) (by decide)) (by rw [nI_clamp (by omega)]; exact vcV hB (by omega)) ?_
    refine y_cV0 (q := 25) C 12 rfl rfl ml_RX3_115 cd_X2_lastDigits cv_X2_lastDigits (by first | exact ⟨by decide, rfl⟩ | exact vcR hB (by omega)) (by first | assumption | rfl | decide | exact bL hB _ (by decide) | exact vc3 hB (by omega) | exact vcL hB (by omega)) (by decide) (by decide) (Nat.le_of_ble_eq_true rfl) (s_X2_lastDigits (by first | assumption | rfl | decide | exact bL hB _ (by decide) | exact vc3 hB (by omega) | exact vcL hB (by omega)) (by first | assumption | rfl | decide | exact bL hB _ (by decide) | exact vc3 hB (by omega) | exact vcL hB (by omega)) ?_)
    show aj_X G 25 _ _ _ _ _ _ _ _ _
    refine x_goto (t := 30) C 13 rfl (by decide) ?_
    exact x_ireturn C Z 15 rfl rfl rfl (aj_lf (hK j hj rfl) (by simp [*]))
set_option maxRecDepth 100000 in
set_option maxHeartbeats 800000 in
theorem s_X3_grade {l : Launch} {I : Nat → Nat → Int32} {J : Nat → Nat → Int64} {V : Nat → Nat → Option Nat} {N : Nat → Nat} {L : List Nat} {K : aj_K} {x d : Int32} (hB : bV V N L) (hXO : (ckI x) = false → K (.inr "java/lang/IndexOutOfBoundsException") I J V N L) (hXA : (ckI x) = true → pIn d 0 29 = false → K (.inr "java/lang/IllegalArgumentException") I J V N L) (hK : ∀ j : Nat, j < 8 → x = nI j → 0 ≤ d → d ≤ 29 → K (.inl (some (.int (pRD (pAng (I (vc V j) 0) (I (vc V j) 1) (I (vc V j) 2) (I (vc V j) 3)) d)))) I J V N L) : aj_M l yX3_grade (aj_wc yX3_grade cX3_grade 3 (some .int)) (aj_rm 4 2 12) [] [.ref 20, .int x, .int d] I J V N L K := by
  refine aj_intro (tbl := t_X3_grade) (lv0 := [some (.ref 20), some (.int x), some (.int d)]) (by decide) T_X3_grade aj_f0 (Nat.le_of_ble_eq_true rfl) rfl ?_
  intro G hl C Z NX hnm hGL hGF
  have C : aj_C G cX3_grade t_X3_grade RX3 (aj_rm 4 2 12) 3 := C
  refine y_iload1 (q := 1) C 0 rfl rfl ?_
  refine y_dS1 (q := 4) C 1 rfl rfl ml_RX3_37 cd_X3_checkCell sv_X3_checkCell (by decide) (by decide) (Nat.le_of_ble_eq_true rfl) (bc' := 1) (bs' := 6) rfl rfl (s_X3_checkCell (fun j hj ej => ?_) (fun hn1 => x_out C Z NX (hXO hn1)))
  show aj_X G 4 _ _ _ _ _ _ _ _ _
  refine y_iload2 (q := 5) C 2 rfl rfl ?_
  refine x_iconst (q := 6) C 3 (n := (0)) (v := (0)) rfl rfl rfl ?_
  refine x_bipush (q := 8) C 4 (n := (29)) (v := (29)) rfl rfl rfl ?_
  refine y_dS3 (q := 11) C 5 rfl rfl ml_RX3_41 cd_X3_checkBetween sv_X3_checkBetween (by decide) (by decide) (Nat.le_of_ble_eq_true rfl) (bc' := 0) (bs' := 0) rfl rfl (s_X3_checkBetween (fun h1 h2 => ?_) (fun hn1 => x_out C Z NX (hXA (by rw [ej]; exact ckI_t hj) (pIn_f hn1))))
  show aj_X G 11 _ _ _ _ _ _ _ _ _
  subst ej
  refine y_aload0 (q := 12) C 6 rfl rfl ?_
  refine x_getR (q := 15) C 7 rfl rfl fl_RX3_11 (bv_4_0 hB) (fun _ _ => rfl) (by first | assumption | rfl | decide | exact bL hB _ (by decide) | exact vc3 hB (by omega) | exact vcL hB (by omega)) (by first | assumption | rfl | decide | exact bL hB _ (by decide) | exact vc3 hB (by omega) | exact vcL hB (by omega)) ?_
  refine y_iload1 (q := 16) C 8 rfl rfl ?_
  refine x_aald (q := 17) C 9 rfl rfl (by first | assumption | rfl | decide | exact bL hB _ (by decide) | exact vc3 hB (by omega) | exact vcL hB (by omega)) (by first | assumption | rfl | decide | exact bL hB _ (by decide) | exact vc3 hB (by omega) | exact vcL hB (by omega)) (by (first | rw [bn24 hB] | rw [bn40 hB] | rw [bn56 hB] | rw [bn72 hB] | rw [bn27 hB] | rw [bn43 hB] | rw [bn25 hB] | rw [bn41 hB] | rw [bn88 hB] | rw [bn104 hB] | rw [bn120 hB] | rw [bn136 hB] | rw [bn152 hB] | rw [bn168 hB]); first | assumption | exact vp_in_nI (by omega) (by decide)) (by rw [nI_clamp (by omega)]; exact vcV hB (by omega)) ?_
  refine y_cV0 (q := 20) C 10 rfl rfl ml_RX3_103 cd_X2_angle cv_X2_angle (by first | exact ⟨by decide, rfl⟩ | exact vcR hB (by omega)) (by first | assumption | rfl | decide | exact bL hB _ (by decide) | exact vc3 hB (by omega) | exact vcL hB (by omega)) (by decide) (by decide) (Nat.le_of_ble_eq_true rfl) (s_X2_angle (by first | assumption | rfl | decide | exact bL hB _ (by decide) | exact vc3 hB (by omega) | exact vcL hB (by omega)) (by first | assumption | rfl | decide | exact bL hB _ (by decide) | exact vc3 hB (by omega) | exact vcL hB (by omega)) ?_)
  show aj_X G 20 _ _ _ _ _ _ _ _ _
  refine y_iload2 (q := 21) C 11 rfl rfl ?_
  refine y_cS2 (q := 24) C 12 rfl rfl ml_RX3_118 cd_X0_roundDown sv_X0_roundDown (by decide) (by decide) (Nat.le_of_ble_eq_true rfl) (s_X0_roundDown ?_)
  show aj_X G 24 _ _ _ _ _ _ _ _ _
  exact x_ireturn C Z 13 rfl rfl rfl (hK j hj rfl h1 h2)
set_option maxRecDepth 100000 in
set_option maxHeartbeats 800000 in
theorem s_X3_order {l : Launch} {I : Nat → Nat → Int32} {J : Nat → Nat → Int64} {V : Nat → Nat → Option Nat} {N : Nat → Nat} {L : List Nat} {K : aj_K} {x y w : Int32} (hB : bV V N L) (hXO : (ckI x && ckI y) = false → K (.inr "java/lang/IndexOutOfBoundsException") I J V N L) (hXA : (ckI x && ckI y) = true → pIn w 0 2 = false → K (.inr "java/lang/IllegalArgumentException") I J V N L) (hK : ∀ i j : Nat, i < 8 → j < 8 → x = nI i → y = nI j → 0 ≤ w → w ≤ 2 → K (.inl (some (.int (pOrd (I (vc V i) 3) (I (vc V i) 1) (I (vc V i) 2) (I (vc V j) 3) (I (vc V j) 1) (I (vc V j) 2))))) I J V N L) : aj_M l yX3_order (aj_wc yX3_order cX3_order 4 (some .int)) (aj_rm 4 3 18) [] [.ref 20, .int x, .int y, .int w] I J V N L K := by
  refine aj_intro (tbl := t_X3_order) (lv0 := [some (.ref 20), some (.int x), some (.int y), some (.int w)]) (by decide) T_X3_order aj_f0 (Nat.le_of_ble_eq_true rfl) rfl ?_
  intro G hl C Z NX hnm hGL hGF
  have C : aj_C G cX3_order t_X3_order RX3 (aj_rm 4 3 18) 4 := C
  refine y_iload1 (q := 1) C 0 rfl rfl ?_
  refine y_dS1 (q := 4) C 1 rfl rfl ml_RX3_37 cd_X3_checkCell sv_X3_checkCell (by decide) (by decide) (Nat.le_of_ble_eq_true rfl) (bc' := 2) (bs' := 12) rfl rfl (s_X3_checkCell (fun i hi ei => ?_) (fun hn1 => x_out C Z NX (hXO (and_f1 hn1))))
  show aj_X G 4 _ _ _ _ _ _ _ _ _
  refine y_iload2 (q := 5) C 2 rfl rfl ?_
  refine y_dS1 (q := 8) C 3 rfl rfl ml_RX3_37 cd_X3_checkCell sv_X3_checkCell (by decide) (by decide) (Nat.le_of_ble_eq_true rfl) (bc' := 1) (bs' := 6) rfl rfl (s_X3_checkCell (fun j hj ej => ?_) (fun hn1 => x_out C Z NX (hXO (and_f2 hn1))))
  show aj_X G 8 _ _ _ _ _ _ _ _ _
  refine y_iload3 (q := 9) C 4 rfl rfl ?_
  refine x_iconst (q := 10) C 5 (n := (0)) (v := (0)) rfl rfl rfl ?_
  refine x_iconst (q := 11) C 6 (n := (2)) (v := (2)) rfl rfl rfl ?_
  refine y_dS3 (q := 14) C 7 rfl rfl ml_RX3_41 cd_X3_checkBetween sv_X3_checkBetween (by decide) (by decide) (Nat.le_of_ble_eq_true rfl) (bc' := 0) (bs' := 0) rfl rfl (s_X3_checkBetween (fun h1 h2 => ?_) (fun hn1 => x_out C Z NX (hXA (and_t (by rw [ei]; exact ckI_t hi) (by rw [ej]; exact ckI_t hj)) (pIn_f hn1))))
  show aj_X G 14 _ _ _ _ _ _ _ _ _
  subst ei
  subst ej
  refine y_aload0 (q := 15) C 8 rfl rfl ?_
  refine x_getR (q := 18) C 9 rfl rfl fl_RX3_11 (bv_4_0 hB) (fun _ _ => rfl) (by first | assumption | rfl | decide | exact bL hB _ (by decide) | exact vc3 hB (by omega) | exact vcL hB (by omega)) (by first | assumption | rfl | decide | exact bL hB _ (by decide) | exact vc3 hB (by omega) | exact vcL hB (by omega)) ?_
  refine y_iload1 (q := 19) C 10 rfl rfl ?_
  refine x_aald (q := 20) C 11 rfl rfl (by first | assumption | rfl | decide | exact bL hB _ (by decide) | exact vc3 hB (by omega) | exact vcL hB (by omega)) (by first | assumption | rfl | decide | exact bL hB _ (by decide) | exact vc3 hB (by omega) | exact vcL hB (by omega)) (by (first | rw [bn24 hB] | rw [bn40 hB] | rw [bn56 hB] | rw [bn72 hB] | rw [bn27 hB] | rw [bn43 hB] | rw [bn25 hB] | rw [bn41 hB] | rw [bn88 hB] | rw [bn104 hB] | rw [bn120 hB] | rw [bn136 hB] | rw [bn152 hB] | rw [bn168 hB]); first | assumption | exact vp_in_nI (by omega) (by decide)) (by rw [nI_clamp (by omega)]; exact vcV hB (by omega)) ?_
  refine y_aload0 (q := 21) C 12 rfl rfl ?_
  refine x_getR (q := 24) C 13 rfl rfl fl_RX3_11 (bv_4_0 hB) (fun _ _ => rfl) (by first | assumption | rfl | decide | exact bL hB _ (by decide) | exact vc3 hB (by omega) | exact vcL hB (by omega)) (by first | assumption | rfl | decide | exact bL hB _ (by decide) | exact vc3 hB (by omega) | exact vcL hB (by omega)) ?_
  refine y_iload2 (q := 25) C 14 rfl rfl ?_
  refine x_aald (q := 26) C 15 rfl rfl (by first | assumption | rfl | decide | exact bL hB _ (by decide) | exact vc3 hB (by omega) | exact vcL hB (by omega)) (by first | assumption | rfl | decide | exact bL hB _ (by decide) | exact vc3 hB (by omega) | exact vcL hB (by omega)) (by (first | rw [bn24 hB] | rw [bn40 hB] | rw [bn56 hB] | rw [bn72 hB] | rw [bn27 hB] | rw [bn43 hB] | rw [bn25 hB] | rw [bn41 hB] | rw [bn88 hB] | rw [bn104 hB] | rw [bn120 hB] | rw [bn136 hB] | rw [bn152 hB] | rw [bn168 hB]); first | assumption | exact vp_in_nI (by omega) (by decide)) (by rw [nI_clamp (by omega)]; exact vcV hB (by omega)) ?_
  refine y_cV1 (q := 29) C 16 rfl rfl ml_RX3_88 cd_X2_orderTo cv_X2_orderTo (by first | exact ⟨by decide, rfl⟩ | exact vcR hB (by omega)) (by first | assumption | rfl | decide | exact bL hB _ (by decide) | exact vc3 hB (by omega) | exact vcL hB (by omega)) (by decide) (by decide) (Nat.le_of_ble_eq_true rfl) (s_X2_orderTo (by first | assumption | rfl | decide | exact bL hB _ (by decide) | exact vc3 hB (by omega) | exact vcL hB (by omega)) (by first | assumption | rfl | decide | exact bL hB _ (by decide) | exact vc3 hB (by omega) | exact vcL hB (by omega)) (by first | assumption | rfl | decide | exact bL hB _ (by decide) | exact vc3 hB (by omega) | exact vcL hB (by omega)) (by first | assumption | rfl | decide | exact bL hB _ (by decide) | exact vc3 hB (by omega) | exact vcL hB (by omega)) ?_)
  show aj_X G 29 _ _ _ _ _ _ _ _ _
  exact x_ireturn C Z 17 rfl rfl rfl (hK i j hi hj rfl rfl h1 h2)
set_option maxRecDepth 100000 in
set_option maxHeartbeats 800000 in
theorem s_X3_like {l : Launch} {I : Nat → Nat → Int32} {J : Nat → Nat → Int64} {V : Nat → Nat → Option Nat} {N : Nat → Nat} {L : List Nat} {K : aj_K} {x y : Int32} (hB : bV V N L) (hXO : (ckI x && ckI y) = false → K (.inr "java/lang/IndexOutOfBoundsException") I J V N L) (hK : ∀ i j : Nat, i < 8 → j < 8 → x = nI i → y = nI j → K (.inl (some (.int (bI (decide (pOrd (I (vc V i) 3) (I (vc V i) 1) (I (vc V i) 2) (I (vc V j) 3) (I (vc V j) 1) (I (vc V j) 2) = 0) || (pNoSize (I (vc V i) 1) (I (vc V i) 3) && pNoSize (I (vc V j) 1) (I (vc V j) 3))))))) I J V N L) : aj_M l yX3_like (aj_wc yX3_like cX3_like 3 (some .boolean)) (aj_rm 4 2 12) [] [.ref 20, .int x, .int y] I J V N L K := by
  refine aj_intro (tbl := t_X3_like) (lv0 := [some (.ref 20), some (.int x), some (.int y)]) (by decide) T_X3_like aj_f0 (Nat.le_of_ble_eq_true rfl) rfl ?_
  intro G hl C Z NX hnm hGL hGF
  have C : aj_C G cX3_like t_X3_like RX3 (aj_rm 4 2 12) 3 := C
  refine y_iload1 (q := 1) C 0 rfl rfl ?_
  refine y_dS1 (q := 4) C 1 rfl rfl ml_RX3_37 cd_X3_checkCell sv_X3_checkCell (by decide) (by decide) (Nat.le_of_ble_eq_true rfl) (bc' := 1) (bs' := 6) rfl rfl (s_X3_checkCell (fun i hi ei => ?_) (fun hn1 => x_out C Z NX (hXO (and_f1 hn1))))
  show aj_X G 4 _ _ _ _ _ _ _ _ _
  refine y_iload2 (q := 5) C 2 rfl rfl ?_
  refine y_dS1 (q := 8) C 3 rfl rfl ml_RX3_37 cd_X3_checkCell sv_X3_checkCell (by decide) (by decide) (Nat.le_of_ble_eq_true rfl) (bc' := 0) (bs' := 0) rfl rfl (s_X3_checkCell (fun j hj ej => ?_) (fun hn1 => x_out C Z NX (hXO (and_f2 hn1))))
  show aj_X G 8 _ _ _ _ _ _ _ _ _
  subst ei
  subst ej
  refine y_aload0 (q := 9) C 4 rfl rfl ?_
  refine x_getR (q := 12) C 5 rfl rfl fl_RX3_11 (bv_4_0 hB) (fun _ _ => rfl) (by first | assumption | rfl | decide | exact bL hB _ (by decide) | exact vc3 hB (by omega) | exact vcL hB (by omega)) (by first | assumption | rfl | decide | exact bL hB _ (by decide) | exact vc3 hB (by omega) | exact vcL hB (by omega)) ?_
  refine y_iload1 (q := 13) C 6 rfl rfl ?_
  refine x_aald (q := 14) C 7 rfl rfl (by first | assumption | rfl | decide | exact bL hB _ (by decide) | exact vc3 hB (by omega) | exact vcL hB (by omega)) (by first | assumption | rfl | decide | exact bL hB _ (by decide) | exact vc3 hB (by omega) | exact vcL hB (by omega)) (by (first | rw [bn24 hB] | rw [bn40 hB] | rw [bn56 hB] | rw [bn72 hB] | rw [bn27 hB] | rw [bn43 hB] | rw [bn25 hB] | rw [bn41 hB] | rw [bn88 hB] | rw [bn104 hB] | rw [bn120 hB] | rw [bn136 hB] | rw [bn152 hB] | rw [bn168 hB]); first | assumption | exact vp_in_nI (by omega) (by decide)) (by rw [nI_clamp (by omega)]; exact vcV hB (by omega)) ?_
  refine y_aload0 (q := 15) C 8 rfl rfl ?_
  refine x_getR (q := 18) C 9 rfl rfl fl_RX3_11 (bv_4_0 hB) (fun _ _ => rfl) (by first | assumption | rfl | decide | exact bL hB _ (by decide) | exact vc3 hB (by omega) | exact vcL hB (by omega)) (by first | assumption | rfl | decide | exact bL hB _ (by decide) | exact vc3 hB (by omega) | exact vcL hB (by omega)) ?_
  refine y_iload2 (q := 19) C 10 rfl rfl ?_
  refine x_aald (q := 20) C 11 rfl rfl (by first | assumption | rfl | decide | exact bL hB _ (by decide) | exact vc3 hB (by omega) | exact vcL hB (by omega)) (by first | assumption | rfl | decide | exact bL hB _ (by decide) | exact vc3 hB (by omega) | exact vcL hB (by omega)) (by (first | rw [bn24 hB] | rw [bn40 hB] | rw [bn56 hB] | rw [bn72 hB] | rw [bn27 hB] | rw [bn43 hB] | rw [bn25 hB] | rw [bn41 hB] | rw [bn88 hB] | rw [bn104 hB] | rw [bn120 hB] | rw [bn136 hB] | rw [bn152 hB] | rw [bn168 hB]); first | assumption | exact vp_in_nI (by omega) (by decide)) (by rw [nI_clamp (by omega)]; exact vcV hB (by omega)) ?_
  refine y_cV1 (q := 23) C 12 rfl rfl ml_RX3_88 cd_X2_orderTo cv_X2_orderTo (by first | exact ⟨by decide, rfl⟩ | exact vcR hB (by omega)) (by first | assumption | rfl | decide | exact bL hB _ (by decide) | exact vc3 hB (by omega) | exact vcL hB (by omega)) (by decide) (by decide) (Nat.le_of_ble_eq_true rfl) (s_X2_orderTo (by first | assumption | rfl | decide | exact bL hB _ (by decide) | exact vc3 hB (by omega) | exact vcL hB (by omega)) (by first | assumption | rfl | decide | exact bL hB _ (by decide) | exact vc3 hB (by omega) | exact vcL hB (by omega)) (by first | assumption | rfl | decide | exact bL hB _ (by decide) | exact vc3 hB (by omega) | exact vcL hB (by omega)) (by first | assumption | rfl | decide | exact bL hB _ (by decide) | exact vc3 hB (by omega) | exact vcL hB (by omega)) ?_)
  show aj_X G 23 _ _ _ _ _ _ _ _ _
  refine x_if_eq (q := 26) (t := 50) C 13 rfl (by decide) rfl (fun c1 => ?_) (fun c1 => ?_)
  · skip
    refine x_iconst (q := 51) C 26 (n := (1)) (v := (1)) rfl rfl rfl ?_
    refine x_goto (t := 55) C 27 rfl (by decide) ?_
    exact x_ireturn C Z 29 rfl rfl rfl (aj_lf (hK i j hi hj rfl rfl) (by clear C Z hK; simp_all [bI_0, bI_1]))
  · skip
    refine y_aload0 (q := 27) C 14 rfl rfl ?_
    refine x_getR (q := 30) C 15 rfl rfl fl_RX3_11 (bv_4_0 hB) (fun _ _ => rfl) (by first | assumption | rfl | decide | exact bL hB _ (by decide) | exact vc3 hB (by omega) | exact vcL hB (by omega)) (by first | assumption | rfl | decide | exact bL hB _ (by decide) | exact vc3 hB (by omega) | exact vcL hB (by omega)) ?_
    refine y_iload1 (q := 31) C 16 rfl rfl ?_
    refine x_aald (q := 32) C 17 rfl rfl (by first | assumption | rfl | decide | exact bL hB _ (by decide) | exact vc3 hB (by omega) | exact vcL hB (by omega)) (by first | assumption | rfl | decide | exact bL hB _ (by decide) | exact vc3 hB (by omega) | exact vcL hB (by omega)) (by (first | rw [bn24 hB] | rw [bn40 hB] | rw [bn56 hB] | rw [bn72 hB] | rw [bn27 hB] | rw [bn43 hB] | rw [bn25 hB] | rw [bn41 hB] | rw [bn88 hB] | rw [bn104 hB] | rw [bn120 hB] | rw [bn136 hB] | rw [bn152 hB] | rw [bn168 hB]); first | assumption | exact vp_in_nI (by omega) (by decide)) (by rw [nI_clamp (by omega)]; exact vcV hB (by omega)) ?_
    refine y_cV0 (q := 35) C 18 rfl rfl ml_RX3_124 cd_X2_isOfNoSize cv_X2_isOfNoSize (by first | exact ⟨by decide, rfl⟩ | exact vcR hB (by omega)) (by first | assumption | rfl | decide | exact bL hB _ (by decide) | exact vc3 hB (by omega) | exact vcL hB (by omega)) (by decide) (by decide) (Nat.le_of_ble_eq_true rfl) (s_X2_isOfNoSize (by first | assumption | rfl | decide | exact bL hB _ (by decide) | exact vc3 hB (by omega) | exact vcL hB (by omega)) (by first | assumption | rfl | decide | exact bL hB _ (by decide) | exact vc3 hB (by omega) | exact vcL hB (by omega)) ?_)
    show aj_X G 35 _ _ _ _ _ _ _ _ _
    refine x_if_eqB (q := 38) (t := 54) C 19 rfl (by decide) rfl (fun c2 => ?_) (fun c2 => ?_)
    · skip
      refine x_iconst (q := 55) C 28 (n := (0)) (v := (0)) rfl rfl rfl ?_
      exact x_ireturn C Z 29 rfl rfl rfl (aj_lf (hK i j hi hj rfl rfl) (by clear C Z hK; simp_all [bI_0, bI_1]))
    · skip
      refine y_aload0 (q := 39) C 20 rfl rfl ?_
      refine x_getR (q := 42) C 21 rfl rfl fl_RX3_11 (bv_4_0 hB) (fun _ _ => rfl) (by first | assumption | rfl | decide | exact bL hB _ (by decide) | exact vc3 hB (by omega) | exact vcL hB (by omega)) (by first | assumption | rfl | decide | exact bL hB _ (by decide) | exact vc3 hB (by omega) | exact vcL hB (by omega)) ?_
      refine y_iload2 (q := 43) C 22 rfl rfl ?_
      refine x_aald (q := 44) C 23 rfl rfl (by first | assumption | rfl | decide | exact bL hB _ (by decide) | exact vc3 hB (by omega) | exact vcL hB (by omega)) (by first | assumption | rfl | decide | exact bL hB _ (by decide) | exact vc3 hB (by omega) | exact vcL hB (by omega)) (by (first | rw [bn24 hB] | rw [bn40 hB] | rw [bn56 hB] | rw [bn72 hB] | rw [bn27 hB] | rw [bn43 hB] | rw [bn25 hB] | rw [bn41 hB] | rw [bn88 hB] | rw [bn104 hB] | rw [bn120 hB] | rw [bn136 hB] | rw [bn152 hB] | rw [bn168 hB]); first | assumption | exact vp_in_nI (by omega) (by decide)) (by rw [nI_clamp (by omega)]; exact vcV hB (by omega)) ?_
      refine y_cV0 (q := 47) C 24 rfl rfl ml_RX3_124 cd_X2_isOfNoSize cv_X2_isOfNoSize (by first | exact ⟨by decide, rfl⟩ | exact vcR hB (by omega)) (by first | assumption | rfl | decide | exact bL hB _ (by decide) | exact vc3 hB (by omega) | exact vcL hB (by omega)) (by decide) (by decide) (Nat.le_of_ble_eq_true rfl) (s_X2_isOfNoSize (by first | assumption | rfl | decide | exact bL hB _ (by decide) | exact vc3 hB (by omega) | exact vcL hB (by omega)) (by first | assumption | rfl | decide | exact bL hB _ (by decide) | exact vc3 hB (by omega) | exact vcL hB (by omega)) ?_)
      show aj_X G 47 _ _ _ _ _ _ _ _ _
      refine x_if_eqB (q := 50) (t := 54) C 25 rfl (by decide) rfl (fun c3 => ?_) (fun c3 => ?_)
      · skip
        refine x_iconst (q := 55) C 28 (n := (0)) (v := (0)) rfl rfl rfl ?_
        exact x_ireturn C Z 29 rfl rfl rfl (aj_lf (hK i j hi hj rfl rfl) (by clear C Z hK; simp_all [bI_0, bI_1]))
      · skip
        refine x_iconst (q := 51) C 26 (n := (1)) (v := (1)) rfl rfl rfl ?_
        refine x_goto (t := 55) C 27 rfl (by decide) ?_
        exact x_ireturn C Z 29 rfl rfl rfl (aj_lf (hK i j hi hj rfl rfl) (by clear C Z hK; simp_all [bI_0, bI_1]))
set_option maxRecDepth 100000 in
set_option maxHeartbeats 800000 in
theorem s_X3_same {l : Launch} {I : Nat → Nat → Int32} {J : Nat → Nat → Int64} {V : Nat → Nat → Option Nat} {N : Nat → Nat} {L : List Nat} {K : aj_K} {x y w : Int32} (hB : bV V N L) (hXO : (ckI x && ckI y) = false → K (.inr "java/lang/IndexOutOfBoundsException") I J V N L) (hXA : (ckI x && ckI y) = true → pIn w 0 1 = false → K (.inr "java/lang/IllegalArgumentException") I J V N L) (hK : ∀ i j : Nat, i < 8 → j < 8 → x = nI i → y = nI j → 0 ≤ w → w ≤ 1 → K (.inl (some (.int (bI (decide (pOrd (I (vc V i) 3) (I (vc V i) 1) (I (vc V i) 2) (I (vc V j) 3) (I (vc V j) 1) (I (vc V j) 2) = 0)))))) I J V N L) : aj_M l yX3_same (aj_wc yX3_same cX3_same 4 (some .boolean)) (aj_rm 4 3 18) [] [.ref 20, .int x, .int y, .int w] I J V N L K := by
  refine aj_intro (tbl := t_X3_same) (lv0 := [some (.ref 20), some (.int x), some (.int y), some (.int w)]) (by decide) T_X3_same aj_f0 (Nat.le_of_ble_eq_true rfl) rfl ?_
  intro G hl C Z NX hnm hGL hGF
  have C : aj_C G cX3_same t_X3_same RX3 (aj_rm 4 3 18) 4 := C
  refine y_iload1 (q := 1) C 0 rfl rfl ?_
  refine y_dS1 (q := 4) C 1 rfl rfl ml_RX3_37 cd_X3_checkCell sv_X3_checkCell (by decide) (by decide) (Nat.le_of_ble_eq_true rfl) (bc' := 2) (bs' := 12) rfl rfl (s_X3_checkCell (fun i hi ei => ?_) (fun hn1 => x_out C Z NX (hXO (and_f1 hn1))))
  show aj_X G 4 _ _ _ _ _ _ _ _ _
  refine y_iload2 (q := 5) C 2 rfl rfl ?_
  refine y_dS1 (q := 8) C 3 rfl rfl ml_RX3_37 cd_X3_checkCell sv_X3_checkCell (by decide) (by decide) (Nat.le_of_ble_eq_true rfl) (bc' := 1) (bs' := 6) rfl rfl (s_X3_checkCell (fun j hj ej => ?_) (fun hn1 => x_out C Z NX (hXO (and_f2 hn1))))
  show aj_X G 8 _ _ _ _ _ _ _ _ _
  refine y_iload3 (q := 9) C 4 rfl rfl ?_
  refine x_iconst (q := 10) C 5 (n := (0)) (v := (0)) rfl rfl rfl ?_
  refine x_iconst (q := 11) C 6 (n := (1)) (v := (1)) rfl rfl rfl ?_
  refine y_dS3 (q := 14) C 7 rfl rfl ml_RX3_41 cd_X3_checkBetween sv_X3_checkBetween (by decide) (by decide) (Nat.le_of_ble_eq_true rfl) (bc' := 0) (bs' := 0) rfl rfl (s_X3_checkBetween (fun h1 h2 => ?_) (fun hn1 => x_out C Z NX (hXA (and_t (by rw [ei]; exact ckI_t hi) (by rw [ej]; exact ckI_t hj)) (pIn_f hn1))))
  show aj_X G 14 _ _ _ _ _ _ _ _ _
  subst ei
  subst ej
  refine y_aload0 (q := 15) C 8 rfl rfl ?_
  refine x_getR (q := 18) C 9 rfl rfl fl_RX3_11 (bv_4_0 hB) (fun _ _ => rfl) (by first | assumption | rfl | decide | exact bL hB _ (by decide) | exact vc3 hB (by omega) | exact vcL hB (by omega)) (by first | assumption | rfl | decide | exact bL hB _ (by decide) | exact vc3 hB (by omega) | exact vcL hB (by omega)) ?_
  refine y_iload1 (q := 19) C 10 rfl rfl ?_
  refine x_aald (q := 20) C 11 rfl rfl (by first | assumption | rfl | decide | exact bL hB _ (by decide) | exact vc3 hB (by omega) | exact vcL hB (by omega)) (by first | assumption | rfl | decide | exact bL hB _ (by decide) | exact vc3 hB (by omega) | exact vcL hB (by omega)) (by (first | rw [bn24 hB] | rw [bn40 hB] | rw [bn56 hB] | rw [bn72 hB] | rw [bn27 hB] | rw [bn43 hB] | rw [bn25 hB] | rw [bn41 hB] | rw [bn88 hB] | rw [bn104 hB] | rw [bn120 hB] | rw [bn136 hB] | rw [bn152 hB] | rw [bn168 hB]); first | assumption | exact vp_in_nI (by omega) (by decide)) (by rw [nI_clamp (by omega)]; exact vcV hB (by omega)) ?_
  refine y_aload0 (q := 21) C 12 rfl rfl ?_
  refine x_getR (q := 24) C 13 rfl rfl fl_RX3_11 (bv_4_0 hB) (fun _ _ => rfl) (by first | assumption | rfl | decide | exact bL hB _ (by decide) | exact vc3 hB (by omega) | exact vcL hB (by omega)) (by first | assumption | rfl | decide | exact bL hB _ (by decide) | exact vc3 hB (by omega) | exact vcL hB (by omega)) ?_
  refine y_iload2 (q := 25) C 14 rfl rfl ?_
  refine x_aald (q := 26) C 15 rfl rfl (by first | assumption | rfl | decide | exact bL hB _ (by decide) | exact vc3 hB (by omega) | exact vcL hB (by omega)) (by first | assumption | rfl | decide | exact bL hB _ (by decide) | exact vc3 hB (by omega) | exact vcL hB (by omega)) (by (first | rw [bn24 hB] | rw [bn40 hB] | rw [bn56 hB] | rw [bn72 hB] | rw [bn27 hB] | rw [bn43 hB] | rw [bn25 hB] | rw [bn41 hB] | rw [bn88 hB] | rw [bn104 hB] | rw [bn120 hB] | rw [bn136 hB] | rw [bn152 hB] | rw [bn168 hB]); first | assumption | exact vp_in_nI (by omega) (by decide)) (by rw [nI_clamp (by omega)]; exact vcV hB (by omega)) ?_
  refine y_cV1 (q := 29) C 16 rfl rfl ml_RX3_88 cd_X2_orderTo cv_X2_orderTo (by first | exact ⟨by decide, rfl⟩ | exact vcR hB (by omega)) (by first | assumption | rfl | decide | exact bL hB _ (by decide) | exact vc3 hB (by omega) | exact vcL hB (by omega)) (by decide) (by decide) (Nat.le_of_ble_eq_true rfl) (s_X2_orderTo (by first | assumption | rfl | decide | exact bL hB _ (by decide) | exact vc3 hB (by omega) | exact vcL hB (by omega)) (by first | assumption | rfl | decide | exact bL hB _ (by decide) | exact vc3 hB (by omega) | exact vcL hB (by omega)) (by first | assumption | rfl | decide | exact bL hB _ (by decide) | exact vc3 hB (by omega) | exact vcL hB (by omega)) (by first | assumption | rfl | decide | exact bL hB _ (by decide) | exact vc3 hB (by omega) | exact vcL hB (by omega)) ?_)
  show aj_X G 29 _ _ _ _ _ _ _ _ _
  refine x_if_ne (q := 32) (t := 36) C 17 rfl (by decide) rfl (fun c1 => ?_) (fun c1 => ?_)
  · skip
    refine x_iconst (q := 37) C 20 (n := (0)) (v := (0)) rfl rfl rfl ?_
    exact x_ireturn C Z 21 rfl rfl rfl (aj_lf (hK i j hi hj rfl rfl h1 h2) (by clear C Z hK; simp_all [bI_0, bI_1]))
  · skip
    refine x_iconst (q := 33) C 18 (n := (1)) (v := (1)) rfl rfl rfl ?_
    refine x_goto (t := 37) C 19 rfl (by decide) ?_
    exact x_ireturn C Z 21 rfl rfl rfl (aj_lf (hK i j hi hj rfl rfl h1 h2) (by clear C Z hK; simp_all [bI_0, bI_1]))
set_option maxRecDepth 100000 in
set_option maxHeartbeats 800000 in
theorem s_X3_side {l : Launch} {I : Nat → Nat → Int32} {J : Nat → Nat → Int64} {V : Nat → Nat → Option Nat} {N : Nat → Nat} {L : List Nat} {K : aj_K} {x y : Int32} (hB : bV V N L) (hXO : (ckI x && ckI y) = false → K (.inr "java/lang/IndexOutOfBoundsException") I J V N L) (hK : ∀ i j : Nat, i < 8 → j < 8 → x = nI i → y = nI j → K (.inl (some (.int (if pNull (I (vc V i) 0) (I (vc V i) 1) = true then -9 else if pNull (I (vc V j) 0) (I (vc V j) 1) = true then -9 else pSgn (pCross (I (vc V i) 0) (I (vc V i) 1) (I (vc V j) 0) (I (vc V j) 1)).toInt64)))) I J V N L) : aj_M l yX3_side (aj_wc yX3_side cX3_side 3 (some .int)) (aj_rm 4 2 12) [] [.ref 20, .int x, .int y] I J V N L K := by
  refine aj_intro (tbl := t_X3_side) (lv0 := [some (.ref 20), some (.int x), some (.int y)]) (by decide) T_X3_side aj_f0 (Nat.le_of_ble_eq_true rfl) rfl ?_
  intro G hl C Z NX hnm hGL hGF
  have C : aj_C G cX3_side t_X3_side RX3 (aj_rm 4 2 12) 3 := C
  refine y_iload1 (q := 1) C 0 rfl rfl ?_
  refine y_dS1 (q := 4) C 1 rfl rfl ml_RX3_37 cd_X3_checkCell sv_X3_checkCell (by decide) (by decide) (Nat.le_of_ble_eq_true rfl) (bc' := 1) (bs' := 6) rfl rfl (s_X3_checkCell (fun i hi ei => ?_) (fun hn1 => x_out C Z NX (hXO (and_f1 hn1))))
  show aj_X G 4 _ _ _ _ _ _ _ _ _
  refine y_iload2 (q := 5) C 2 rfl rfl ?_
  refine y_dS1 (q := 8) C 3 rfl rfl ml_RX3_37 cd_X3_checkCell sv_X3_checkCell (by decide) (by decide) (Nat.le_of_ble_eq_true rfl) (bc' := 0) (bs' := 0) rfl rfl (s_X3_checkCell (fun j hj ej => ?_) (fun hn1 => x_out C Z NX (hXO (and_f2 hn1))))
  show aj_X G 8 _ _ _ _ _ _ _ _ _
  subst ei
  subst ej
  refine y_aload0 (q := 9) C 4 rfl rfl ?_
  refine x_getR (q := 12) C 5 rfl rfl fl_RX3_11 (bv_4_0 hB) (fun _ _ => rfl) (by first | assumption | rfl | decide | exact bL hB _ (by decide) | exact vc3 hB (by omega) | exact vcL hB (by omega)) (by first | assumption | rfl | decide | exact bL hB _ (by decide) | exact vc3 hB (by omega) | exact vcL hB (by omega)) ?_
  refine y_iload1 (q := 13) C 6 rfl rfl ?_
  refine x_aald (q := 14) C 7 rfl rfl (by first | assumption | rfl | decide | exact bL hB _ (by decide) | exact vc3 hB (by omega) | exact vcL hB (by omega)) (by first | assumption | rfl | decide | exact bL hB _ (by decide) | exact vc3 hB (by omega) | exact vcL hB (by omega)) (by (first | rw [bn24 hB] | rw [bn40 hB] | rw [bn56 hB] | rw [bn72 hB] | rw [bn27 hB] | rw [bn43 hB] | rw [bn25 hB] | rw [bn41 hB] | rw [bn88 hB] | rw [bn104 hB] | rw [bn120 hB] | rw [bn136 hB] | rw [bn152 hB] | rw [bn168 hB]); first | assumption | exact vp_in_nI (by omega) (by decide)) (by rw [nI_clamp (by omega)]; exact vcV hB (by omega)) ?_
  refine y_cV0 (q := 17) C 8 rfl rfl ml_RX3_127 cd_X2_isNull cv_X2_isNull (by first | exact ⟨by decide, rfl⟩ | exact vcR hB (by omega)) (by first | assumption | rfl | decide | exact bL hB _ (by decide) | exact vc3 hB (by omega) | exact vcL hB (by omega)) (by decide) (by decide) (Nat.le_of_ble_eq_true rfl) (s_X2_isNull (by first | assumption | rfl | decide | exact bL hB _ (by decide) | exact vc3 hB (by omega) | exact vcL hB (by omega)) (by first | assumption | rfl | decide | exact bL hB _ (by decide) | exact vc3 hB (by omega) | exact vcL hB (by omega)) ?_)
  show aj_X G 17 _ _ _ _ _ _ _ _ _
  refine x_if_neB (q := 20) (t := 32) C 9 rfl (by decide) rfl (fun c1 => ?_) (fun c1 => ?_)
  · skip
    refine x_bipush (q := 34) C 16 (n := (-9)) (v := (-9)) rfl rfl rfl ?_
    refine x_goto (t := 52) C 17 rfl (by decide) ?_
    exact x_ireturn C Z 27 rfl rfl rfl (aj_lf (hK i j hi hj rfl rfl) (by simp [*]))
  · skip
    refine y_aload0 (q := 21) C 10 rfl rfl ?_
    refine x_getR (q := 24) C 11 rfl rfl fl_RX3_11 (bv_4_0 hB) (fun _ _ => rfl) (by first | assumption | rfl | decide | exact bL hB _ (by decide) | exact vc3 hB (by omega) | exact vcL hB (by omega)) (by first | assumption | rfl | decide | exact bL hB _ (by decide) | exact vc3 hB (by omega) | exact vcL hB (by omega)) ?_
    refine y_iload2 (q := 25) C 12 rfl rfl ?_
    refine x_aald (q := 26) C 13 rfl rfl (by first | assumption | rfl | decide | exact bL hB _ (by decide) | exact vc3 hB (by omega) | exact vcL hB (by omega)) (by first | assumption | rfl | decide | exact bL hB _ (by decide) | exact vc3 hB (by omega) | exact vcL hB (by omega)) (by (first | rw [bn24 hB] | rw [bn40 hB] | rw [bn56 hB] | rw [bn72 hB] | rw [bn27 hB] | rw [bn43 hB] | rw [bn25 hB] | rw [bn41 hB] | rw [bn88 hB] | rw [bn104 hB] | rw [bn120 hB] | rw [bn136 hB] | rw [bn152 hB] | rw [bn168 hB]); first | assumption | exact vp_in_nI (by omega) (by decide)) (by rw [nI_clamp (by omega)]; exact vcV hB (by omega)) ?_
    refine y_cV0 (q := 29) C 14 rfl rfl ml_RX3_127 cd_X2_isNull cv_X2_isNull (by first | exact ⟨by decide, rfl⟩ | exact vcR hB (by omega)) (by first | assumption | rfl | decide | exact bL hB _ (by decide) | exact vc3 hB (by omega) | exact vcL hB (by omega)) (by decide) (by decide) (Nat.le_of_ble_eq_true rfl) (s_X2_isNull (by first | assumption | rfl | decide | exact bL hB _ (by decide) | exact vc3 hB (by omega) | exact vcL hB (by omega)) (by first | assumption | rfl | decide | exact bL hB _ (by decide) | exact vc3 hB (by omega) | exact vcL hB (by omega)) ?_)
    show aj_X G 29 _ _ _ _ _ _ _ _ _
    refine x_if_eqB (q := 32) (t := 37) C 15 rfl (by decide) rfl (fun c2 => ?_) (fun c2 => ?_)
    · skip
      refine y_aload0 (q := 38) C 18 rfl rfl ?_
      refine x_getR (q := 41) C 19 rfl rfl fl_RX3_11 (bv_4_0 hB) (fun _ _ => rfl) (by first | assumption | rfl | decide | exact bL hB _ (by decide) | exact vc3 hB (by omega) | exact vcL hB (by omega)) (by first | assumption | rfl | decide | exact bL hB _ (by decide) | exact vc3 hB (by omega) | exact vcL hB (by omega)) ?_
      refine y_iload1 (q := 42) C 20 rfl rfl ?_
      refine x_aald (q := 43) C 21 rfl rfl (by first | assumption | rfl | decide | exact bL hB _ (by decide) | exact vc3 hB (by omega) | exact vcL hB (by omega)) (by first | assumption | rfl | decide | exact bL hB _ (by decide) | exact vc3 hB (by omega) | exact vcL hB (by omega)) (by (first | rw [bn24 hB] | rw [bn40 hB] | rw [bn56 hB] | rw [bn72 hB] | rw [bn27 hB] | rw [bn43 hB] | rw [bn25 hB] | rw [bn41 hB] | rw [bn88 hB] | rw [bn104 hB] | rw [bn120 hB] | rw [bn136 hB] | rw [bn152 hB] | rw [bn168 hB]); first | assumption | exact vp_in_nI (by omega) (by decide)) (by rw [nI_clamp (by omega)]; exact vcV hB (by omega)) ?_
      refine y_aload0 (q := 44) C 22 rfl rfl ?_
      refine x_getR (q := 47) C 23 rfl rfl fl_RX3_11 (bv_4_0 hB) (fun _ _ => rfl) (by first | assumption | rfl | decide | exact bL hB _ (by decide) | exact vc3 hB (by omega) | exact vcL hB (by omega)) (by first | assumption | rfl | decide | exact bL hB _ (by decide) | exact vc3 hB (by omega) | exact vcL hB (by omega)) ?_
      refine y_iload2 (q := 48) C 24 rfl rfl ?_
      refine x_aald (q := 49) C 25 rfl rfl (by first | assumption | rfl | decide | exact bL hB _ (by decide) | exact vc3 hB (by omega) | exact vcL hB (by omega)) (by first | assumption | rfl | decide | exact bL hB _ (by decide) | exact vc3 hB (by omega) | exact vcL hB (by omega)) (by (first | rw [bn24 hB] | rw [bn40 hB] | rw [bn56 hB] | rw [bn72 hB] | rw [bn27 hB] | rw [bn43 hB] | rw [bn25 hB] | rw [bn41 hB] | rw [bn88 hB] | rw [bn104 hB] | rw [bn120 hB] | rw [bn136 hB] | rw [bn152 hB] | rw [bn168 hB]); first | assumption | exact vp_in_nI (by omega) (by decide)) (by rw [nI_clamp (by omega)]; exact vcV hB (by omega)) ?_
      refine y_cV1 (q := 52) C 26 rfl rfl ml_RX3_130 cd_X2_sideOf cv_X2_sideOf (by first | exact ⟨by decide, rfl⟩ | exact vcR hB (by omega)) (by first | assumption | rfl | decide | exact bL hB _ (by decide) | exact vc3 hB (by omega) | exact vcL hB (by omega)) (by decide) (by decide) (Nat.le_of_ble_eq_true rfl) (s_X2_sideOf (by first | assumption | rfl | decide | exact bL hB _ (by decide) | exact vc3 hB (by omega) | exact vcL hB (by omega)) (by first | assumption | rfl | decide | exact bL hB _ (by decide) | exact vc3 hB (by omega) | exact vcL hB (by omega)) (by first | assumption | rfl | decide | exact bL hB _ (by decide) | exact vc3 hB (by omega) | exact vcL hB (by omega)) (by first | assumption | rfl | decide | exact bL hB _ (by decide) | exact vc3 hB (by omega) | exact vcL hB (by omega)) ?_)
      show aj_X G 52 _ _ _ _ _ _ _ _ _
      exact x_ireturn C Z 27 rfl rfl rfl (aj_lf (hK i j hi hj rfl rfl) (by simp [*]))
    · skip
      refine x_bipush (q := 34) C 16 (n := (-9)) (v := (-9)) rfl rfl rfl ?_
      refine x_goto (t := 52) C 17 rfl (by decide) ?_
      exact x_ireturn C Z 27 rfl rfl rfl (aj_lf (hK i j hi hj rfl rfl) (by simp [*]))
set_option maxRecDepth 100000 in
set_option maxHeartbeats 800000 in
theorem s_X3_rule {l : Launch} {I : Nat → Nat → Int32} {J : Nat → Nat → Int64} {V : Nat → Nat → Option Nat} {N : Nat → Nat} {L : List Nat} {K : aj_K} {x w : Int32} (hB : bV V N L) (hXO : (ckI x) = false → K (.inr "java/lang/IndexOutOfBoundsException") I J V N L) (hXA : (ckI x) = true → pIn w 0 7 = false → K (.inr "java/lang/IllegalArgumentException") I J V N L) (hK : ∀ j : Nat, j < 8 → x = nI j → 0 ≤ w → w ≤ 7 → K (.inl (some (.int (if 2 ≤ w then (if w ≤ 5 then (if pNull (I (vc V j) 0) (I (vc V j) 1) = true then -9 else 1) else 1) else 1)))) I J V N L) : aj_M l yX3_rule (aj_wc yX3_rule cX3_rule 4 (some .int)) (aj_rm 4 2 12) [] [.ref 20, .int x, .int w] I J V N L K := by
  refine aj_intro (tbl := t_X3_rule) (lv0 := [some (.ref 20), some (.int x), some (.int w), none]) (by decide) T_X3_rule aj_f0 (Nat.le_of_ble_eq_true rfl) rfl ?_
  intro G hl C Z NX hnm hGL hGF
  have C : aj_C G cX3_rule t_X3_rule RX3 (aj_rm 4 2 12) 4 := C
  refine y_iload1 (q := 1) C 0 rfl rfl ?_
  refine y_dS1 (q := 4) C 1 rfl rfl ml_RX3_37 cd_X3_checkCell sv_X3_checkCell (by decide) (by decide) (Nat.le_of_ble_eq_true rfl) (bc' := 1) (bs' := 6) rfl rfl (s_X3_checkCell (fun j hj ej => ?_) (fun hn1 => x_out C Z NX (hXO hn1)))
  show aj_X G 4 _ _ _ _ _ _ _ _ _
  refine y_iload2 (q := 5) C 2 rfl rfl ?_
  refine x_iconst (q := 6) C 3 (n := (0)) (v := (0)) rfl rfl rfl ?_
  refine x_bipush (q := 8) C 4 (n := (7)) (v := (7)) rfl rfl rfl ?_
  refine y_dS3 (q := 11) C 5 rfl rfl ml_RX3_41 cd_X3_checkBetween sv_X3_checkBetween (by decide) (by decide) (Nat.le_of_ble_eq_true rfl) (bc' := 0) (bs' := 0) rfl rfl (s_X3_checkBetween (fun h1 h2 => ?_) (fun hn1 => x_out C Z NX (hXA (by rw [ej]; exact ckI_t hj) (pIn_f hn1))))
  show aj_X G 11 _ _ _ _ _ _ _ _ _
  subst ej
  refine y_iload2 (q := 12) C 6 rfl rfl ?_
  refine x_iconst (q := 13) C 7 (n := (2)) (v := (2)) rfl rfl rfl ?_
  refine x_icmp_lt (q := 16) (t := 25) C 8 rfl (by decide) rfl (fun c1 => ?_) (fun c1 => ?_)
  · skip
    refine x_iconst (q := 26) C 14 (n := (0)) (v := bI false) rfl rfl rfl ?_
    refine y_istore3 (q := 27) C 15 rfl rfl (Nat.le_of_ble_eq_true rfl) rfl ?_
    refine y_iload3 (q := 28) C 16 rfl rfl ?_
    refine x_if_eqB (q := 31) (t := 48) C 17 rfl (by decide) rfl (fun c2 => ?_) (fun c2 => ?_)
    · skip
      refine x_iconst (q := 49) C 26 (n := (1)) (v := (1)) rfl rfl rfl ?_
      exact x_ireturn C Z 27 rfl rfl rfl (aj_lf (hK j hj rfl h1 h2) (by clear C Z hK; simp_all [← Int32.not_le]))
    · skip
      exact absurd c2 (by decide)
  · skip
    refine y_iload2 (q := 17) C 9 rfl rfl ?_
    refine x_iconst (q := 18) C 10 (n := (5)) (v := (5)) rfl rfl rfl ?_
    refine x_icmp_gt (q := 21) (t := 25) C 11 rfl (by decide) rfl (fun c3 => ?_) (fun c3 => ?_)
    · skip
      refine x_iconst (q := 26) C 14 (n := (0)) (v := bI false) rfl rfl rfl ?_
      refine y_istore3 (q := 27) C 15 rfl rfl (Nat.le_of_ble_eq_true rfl) rfl ?_
      refine y_iload3 (q := 28) C 16 rfl rfl ?_
      refine x_if_eqB (q := 31) (t := 48) C 17 rfl (by decide) rfl (fun c4 => ?_) (fun c4 => ?_)
      · skip
        refine x_iconst (q := 49) C 26 (n := (1)) (v := (1)) rfl rfl rfl ?_
        exact x_ireturn C Z 27 rfl rfl rfl (aj_lf (hK j hj rfl h1 h2) (by clear C Z hK; simp_all [← Int32.not_le]))
      · skip
        exact absurd c4 (by decide)
    · skip
      refine x_iconst (q := 22) C 12 (n := (1)) (v := bI true) rfl rfl rfl ?_
      refine x_goto (t := 26) C 13 rfl (by decide) ?_
      refine y_istore3 (q := 27) C 15 rfl rfl (Nat.le_of_ble_eq_true rfl) rfl ?_
      refine y_iload3 (q := 28) C 16 rfl rfl ?_
      refine x_if_eqB (q := 31) (t := 48) C 17 rfl (by decide) rfl (fun c5 => ?_) (fun c5 => ?_)
      · skip
        exact absurd c5 (by decide)
      · skip
        refine y_aload0 (q := 32) C 18 rfl rfl ?_
        refine x_getR (q := 35) C 19 rfl rfl fl_RX3_11 (bv_4_0 hB) (fun _ _ => rfl) (by first | assumption | rfl | decide | exact bL hB _ (by decide) | exact vc3 hB (by omega) | exact vcL hB (by omega)) (by first | assumption | rfl | decide | exact bL hB _ (by decide) | exact vc3 hB (by omega) | exact vcL hB (by omega)) ?_
        refine y_iload1 (q := 36) C 20 rfl rfl ?_
        refine x_aald (q := 37) C 21 rfl rfl (by first | assumption | rfl | decide | exact bL hB _ (by decide) | exact vc3 hB (by omega) | exact vcL hB (by omega)) (by first | assumption | rfl | decide | exact bL hB _ (by decide) | exact vc3 hB (by omega) | exact vcL hB (by omega)) (by (first | rw [bn24 hB] | rw [bn40 hB] | rw [bn56 hB] | rw [bn72 hB] | rw [bn27 hB] | rw [bn43 hB] | rw [bn25 hB] | rw [bn41 hB] | rw [bn88 hB] | rw [bn104 hB] | rw [bn120 hB] | rw [bn136 hB] | rw [bn152 hB] | rw [bn168 hB]); first | assumption | exact vp_in_nI (by omega) (by decide)) (by rw [nI_clamp (by omega)]; exact vcV hB (by omega)) ?_
        refine y_cV0 (q := 40) C 22 rfl rfl ml_RX3_127 cd_X2_isNull cv_X2_isNull (by first | exact ⟨by decide, rfl⟩ | exact vcR hB (by omega)) (by first | assumption | rfl | decide | exact bL hB _ (by decide) | exact vc3 hB (by omega) | exact vcL hB (by omega)) (by decide) (by decide) (Nat.le_of_ble_eq_true rfl) (s_X2_isNull (by first | assumption | rfl | decide | exact bL hB _ (by decide) | exact vc3 hB (by omega) | exact vcL hB (by omega)) (by first | assumption | rfl | decide | exact bL hB _ (by decide) | exact vc3 hB (by omega) | exact vcL hB (by omega)) ?_)
        show aj_X G 40 _ _ _ _ _ _ _ _ _
        refine x_if_eqB (q := 43) (t := 48) C 23 rfl (by decide) rfl (fun c6 => ?_) (fun c6 => ?_)
        · skip
          refine x_iconst (q := 49) C 26 (n := (1)) (v := (1)) rfl rfl rfl ?_
          exact x_ireturn C Z 27 rfl rfl rfl (aj_lf (hK j hj rfl h1 h2) (by clear C Z hK; simp_all [← Int32.not_le]))
        · skip
          refine x_bipush (q := 45) C 24 (n := (-9)) (v := (-9)) rfl rfl rfl ?_
          refine x_goto (t := 49) C 25 rfl (by decide) ?_
          exact x_ireturn C Z 27 rfl rfl rfl (aj_lf (hK j hj rfl h1 h2) (by clear C Z hK; simp_all [← Int32.not_le]))
