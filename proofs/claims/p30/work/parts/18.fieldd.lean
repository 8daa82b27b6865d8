set_option maxRecDepth 100000 in
set_option maxHeartbeats 800000 in
theorem s_X1_takeRoundSteps {l : Launch} {I : Nat → Nat → Int32} {J : Nat → Nat → Int64} {V : Nat → Nat → Option Nat} {N : Nat → Nat} {L : List Nat} {K : aj_K} {n rc a : Nat} (hn : n ≤ 12) (hr : I 18 4 = nI rc) (ha : a < rc) (hrn : rc ≤ n) (hv : ∀ j, j < rc → ∃ m, m < n ∧ I 56 j = nI m) (hB : bV V N L) (hK : ∀ I1 : Nat → Nat → Int32, eqO sX I I1 → K (.inl none) I1 J V N L) : aj_M l yX1_takeRoundSteps (aj_wc yX1_takeRoundSteps cX1_takeRoundSteps 2 none) (aj_rm 2 0 0) [] [.ref 18, .int (nI a)] I J V N L K := by
  refine aj_intro (tbl := t_X1_takeRoundSteps) (lv0 := [some (.ref 18), some (.int (nI a))]) (by decide) T_X1_takeRoundSteps aj_f0 (Nat.le_of_ble_eq_true rfl) rfl ?_
  intro G hl C Z NX hnm hGL hGF
  have C : aj_C G cX1_takeRoundSteps t_X1_takeRoundSteps RX1 (aj_rm 2 0 0) 2 := C
  have hfo : (if a + 1 < rc then a + 1 else 0) < rc := by split <;> omega
  refine y_aload0 (q := 1) C 0 rfl rfl ?_
  refine x_bipush (q := 3) C 1 (n := (12)) (v := nI 12) rfl rfl rfl ?_
  refine y_aload0 (q := 4) C 2 rfl rfl ?_
  refine x_getR (q := 7) C 3 rfl rfl fl_RX1_16 (bv_2_3 hB) (fun _ _ => rfl) (by first | assumption | rfl | decide | exact bL hB _ (by decide)) (by first | assumption | rfl | decide | exact bL hB _ (by decide)) ?_
  refine y_iload1 (q := 8) C 4 rfl rfl ?_
  refine x_iald (q := 9) C 5 rfl rfl (by first | assumption | rfl | decide | exact bL hB _ (by decide)) (by first | assumption | rfl | decide | exact bL hB _ (by decide)) (by (first | rw [bn24 hB] | rw [bn40 hB] | rw [bn56 hB] | rw [bn72 hB] | rw [bn27 hB] | rw [bn43 hB] | rw [bn25 hB] | rw [bn41 hB] | rw [bn88 hB] | rw [bn104 hB] | rw [bn120 hB] | rw [bn136 hB] | rw [bn152 hB] | rw [bn168 hB]); first | assumption | exact vp_in_nI (by omega) (by decide)) ?_
  rw [nI_clamp (by omega)]
  obtain ⟨p1, hp1, hq1⟩ := hv a ha
  rw [hq1]
  refine y_aload0 (q := 10) C 6 rfl rfl ?_
  refine x_getR (q := 13) C 7 rfl rfl fl_RX1_16 (bv_2_3 hB) (fun _ _ => rfl) (by first | assumption | rfl | decide | exact bL hB _ (by decide)) (by first | assumption | rfl | decide | exact bL hB _ (by decide)) ?_
  refine y_iload1 (q := 14) C 8 rfl rfl ?_
  refine y_aload0 (q := 15) C 9 rfl rfl ?_
  refine x_getI (q := 18) C 10 rfl rfl fl_RX1_49 (fun _ _ => rfl) (by first | assumption | rfl | decide | exact bL hB _ (by decide)) (by first | assumption | rfl | decide | exact bL hB _ (by decide)) ?_
  rw [hr]
  refine y_cS2 (q := 21) C 11 rfl rfl ml_RX1_86 cd_X1_following sv_X1_following (by decide) (by decide) (Nat.le_of_ble_eq_true rfl) (s_X1_following (by omega) (by omega) ?_)
  show aj_X G 21 _ _ _ _ _ _ _ _ _
  refine x_iald (q := 22) C 12 rfl rfl (by first | assumption | rfl | decide | exact bL hB _ (by decide)) (by first | assumption | rfl | decide | exact bL hB _ (by decide)) (by (first | rw [bn24 hB] | rw [bn40 hB] | rw [bn56 hB] | rw [bn72 hB] | rw [bn27 hB] | rw [bn43 hB] | rw [bn25 hB] | rw [bn41 hB] | rw [bn88 hB] | rw [bn104 hB] | rw [bn120 hB] | rw [bn136 hB] | rw [bn152 hB] | rw [bn168 hB]); first | assumption | exact vp_in_nI (by omega) (by decide)) ?_
  rw [nI_clamp (by omega)]
  obtain ⟨p2, hp2, hq2⟩ := hv (if a + 1 < rc then a + 1 else 0) hfo
  rw [hq2]
  refine y_cV3 (q := 25) C 13 rfl rfl ml_RX1_60 cd_X1_takeSteps cv_X1_takeSteps ⟨by decide, rfl⟩ (by first | assumption | rfl | decide | exact bL hB _ (by decide)) (by decide) (by decide) (Nat.le_of_ble_eq_true rfl) (s_X1_takeSteps (i := 12) (j := p1) (k := p2) (by decide) (by omega) (by omega) hB ?_)
  show aj_X G 25 _ _ _ _ _ _ _ _ _
  exact x_return C Z 14 rfl rfl (hK _ (tS_eq (by decide) (by decide)))
set_option maxRecDepth 100000 in
set_option maxHeartbeats 800000 in
theorem s_X1_isRoundStar {l : Launch} {I : Nat → Nat → Int32} {J : Nat → Nat → Int64} {V : Nat → Nat → Option Nat} {N : Nat → Nat} {L : List Nat} {K : aj_K} {n : Nat} (hn : n ≤ 12) (hf : fW I n) (hB : bV V N L) (hK : ∀ (b : Bool) (I1 : Nat → Nat → Int32), eqO sX I I1 → K (.inl (some (.int (bI b)))) I1 J V N L) : aj_M l yX1_isRoundStar (aj_wc yX1_isRoundStar cX1_isRoundStar 3 (some .boolean)) (aj_rm 3 0 0) [] [.ref 18] I J V N L K := by
  refine aj_intro (tbl := t_X1_isRoundStar) (lv0 := [some (.ref 18), none, none]) (by decide) T_X1_isRoundStar aj_f0 (Nat.le_of_ble_eq_true rfl) rfl ?_
  intro G hl C Z NX hnm hGL hGF
  have C : aj_C G cX1_isRoundStar t_X1_isRoundStar RX1 (aj_rm 3 0 0) 3 := C
  obtain ⟨rc, qc, hrn, hqn, hr, hq, hv, hw, hrc⟩ := hf
  refine x_iconst (q := 1) C 0 (n := (0)) (v := bI false) rfl rfl rfl ?_
  refine y_istore1 (q := 2) C 1 rfl rfl (Nat.le_of_ble_eq_true rfl) rfl ?_
  refine x_iconst (q := 3) C 2 (n := (0)) (v := nI 0) rfl rfl rfl ?_
  refine y_istore2 (q := 4) C 3 rfl rfl (Nat.le_of_ble_eq_true rfl) rfl ?_
  have lp4 : ∀ (m j : Nat) (b : Bool) (I1 : Nat → Nat → Int32), j + m = rc → eqO sX I I1 → aj_X G 4 [some (.ref 18), some (.int (bI b)), some (.int (nI j))] [] I1 J V N L 0 0 := by
    intro m
    induction m with
    | zero =>
      intro j b I1 hj hE
      refine y_iload2 (q := 5) C 4 rfl rfl ?_
      refine y_aload0 (q := 6) C 5 rfl rfl ?_
      refine x_getI (q := 9) C 6 rfl rfl fl_RX1_49 (fun _ _ => rfl) (by first | assumption | rfl | decide | exact bL hB _ (by decide)) (by first | assumption | rfl | decide | exact bL hB _ (by decide)) ?_
      rw [hE 18 (by decide), hr]
      refine x_icmp_ge (q := 12) (t := 56) C 7 rfl (by decide) rfl (fun c1 => ?_) (fun c1 => ?_)
      · skip
        refine y_iload1 (q := 57) C 30 rfl rfl ?_
        exact x_ireturn C Z 31 rfl rfl (bI_nar _) (hK b I1 hE)
      · skip
        exact absurd (nI_le (by omega) (by omega)) c1
    | succ m ih =>
      intro j b I1 hj hE
      refine y_iload2 (q := 5) C 4 rfl rfl ?_
      refine y_aload0 (q := 6) C 5 rfl rfl ?_
      refine x_getI (q := 9) C 6 rfl rfl fl_RX1_49 (fun _ _ => rfl) (by first | assumption | rfl | decide | exact bL hB _ (by decide)) (by first | assumption | rfl | decide | exact bL hB _ (by decide)) ?_
      rw [hE 18 (by decide), hr]
      refine x_icmp_ge (q := 12) (t := 56) C 7 rfl (by decide) rfl (fun c2 => ?_) (fun c2 => ?_)
      · skip
        exact absurd c2 (nI_ge (by omega) (by omega))
      · skip
        refine y_aload0 (q := 13) C 8 rfl rfl ?_
        refine y_iload2 (q := 14) C 9 rfl rfl ?_
        refine y_cV1 (q := 17) C 10 rfl rfl ml_RX1_89 cd_X1_takeRoundSteps cv_X1_takeRoundSteps ⟨by decide, rfl⟩ (by first | assumption | rfl | decide | exact bL hB _ (by decide)) (by decide) (by decide) (Nat.le_of_ble_eq_true rfl) (s_X1_takeRoundSteps hn (by rw [hE 18 (by decide)]; exact hr) (a := j) (by omega) hrn (fun i hi => by rw [hE 56 (by decide)]; exact hv i hi) hB ?_)
        intro I2 hE2
        show aj_X G 17 _ _ _ _ _ _ _ _ _
        refine y_aload0 (q := 18) C 11 rfl rfl ?_
        refine x_getR (q := 21) C 12 rfl rfl fl_RX1_25 (bv_2_7 hB) (fun _ _ => rfl) (by first | assumption | rfl | decide | exact bL hB _ (by decide)) (by first | assumption | rfl | decide | exact bL hB _ (by decide)) ?_
        refine y_aload0 (q := 22) C 13 rfl rfl ?_
        refine x_getR (q := 25) C 14 rfl rfl fl_RX1_29 (bv_2_8 hB) (fun _ _ => rfl) (by first | assumption | rfl | decide | exact bL hB _ (by decide)) (by first | assumption | rfl | decide | exact bL hB _ (by decide)) ?_
        refine y_cV1 (q := 28) C 15 rfl rfl ml_RX1_63 cd_X2_orderTo cv_X2_orderTo ⟨by decide, rfl⟩ (by first | assumption | rfl | decide | exact bL hB _ (by decide)) (by decide) (by decide) (Nat.le_of_ble_eq_true rfl) (s_X2_orderTo (by first | assumption | rfl | decide | exact bL hB _ (by decide)) (by first | assumption | rfl | decide | exact bL hB _ (by decide)) (by first | assumption | rfl | decide | exact bL hB _ (by decide)) (by first | assumption | rfl | decide | exact bL hB _ (by decide)) ?_)
        show aj_X G 28 _ _ _ _ _ _ _ _ _
        refine x_if_eq (q := 31) (t := 50) C 16 rfl (by decide) rfl (fun c3 => ?_) (fun c3 => ?_)
        · skip
          refine y_iinc2 (q := 53) C 28 rfl rfl (nI_1 j) (Nat.le_of_ble_eq_true rfl) rfl ?_
          refine x_goto (t := 4) C 29 rfl (by decide) ?_
          exact ih (j + 1) _ _ (by omega) (eqO.tr hE hE2)
        · skip
          refine y_aload0 (q := 32) C 17 rfl rfl ?_
          refine x_getR (q := 35) C 18 rfl rfl fl_RX1_25 (bv_2_7 hB) (fun _ _ => rfl) (by first | assumption | rfl | decide | exact bL hB _ (by decide)) (by first | assumption | rfl | decide | exact bL hB _ (by decide)) ?_
          refine y_aload0 (q := 36) C 19 rfl rfl ?_
          refine x_getR (q := 39) C 20 rfl rfl fl_RX1_29 (bv_2_8 hB) (fun _ _ => rfl) (by first | assumption | rfl | decide | exact bL hB _ (by decide)) (by first | assumption | rfl | decide | exact bL hB _ (by decide)) ?_
          refine y_cV1 (q := 42) C 21 rfl rfl ml_RX1_93 cd_X2_sideOf cv_X2_sideOf ⟨by decide, rfl⟩ (by first | assumption | rfl | decide | exact bL hB _ (by decide)) (by decide) (by decide) (Nat.le_of_ble_eq_true rfl) (s_X2_sideOf (by first | assumption | rfl | decide | exact bL hB _ (by decide)) (by first | assumption | rfl | decide | exact bL hB _ (by decide)) (by first | assumption | rfl | decide | exact bL hB _ (by decide)) (by first | assumption | rfl | decide | exact bL hB _ (by decide)) ?_)
          show aj_X G 42 _ _ _ _ _ _ _ _ _
          refine x_iconst (q := 43) C 22 (n := (1)) (v := (1)) rfl rfl rfl ?_
          refine x_icmp_eq (q := 46) (t := 48) C 23 rfl (by decide) rfl (fun c4 => ?_) (fun c4 => ?_)
          · skip
            refine x_iconst (q := 49) C 26 (n := (1)) (v := bI true) rfl rfl rfl ?_
            refine y_istore1 (q := 50) C 27 rfl rfl (Nat.le_of_ble_eq_true rfl) rfl ?_
            refine y_iinc2 (q := 53) C 28 rfl rfl (nI_1 j) (Nat.le_of_ble_eq_true rfl) rfl ?_
            refine x_goto (t := 4) C 29 rfl (by decide) ?_
            exact ih (j + 1) _ _ (by omega) (eqO.tr hE hE2)
          · skip
            refine x_iconst (q := 47) C 24 (n := (0)) (v := bI false) rfl rfl rfl ?_
            exact x_ireturn C Z 25 rfl rfl (bI_nar _) (hK false I2 (eqO.tr hE hE2))
  exact lp4 rc 0 false I (by omega) eqO.rf
set_option maxRecDepth 100000 in
set_option maxHeartbeats 800000 in
theorem s_X1_areaOfStar {l : Launch} {I : Nat → Nat → Int32} {J : Nat → Nat → Int64} {V : Nat → Nat → Option Nat} {N : Nat → Nat} {L : List Nat} {K : aj_K} {n : Nat} (hn : n ≤ 12) (hf : fW I n) (hB : bV V N L) (hK : ∀ (r : Int32) (I1 : Nat → Nat → Int32), eqO sX I I1 → K (.inl (some (.int r))) I1 J V N L) : aj_M l yX1_areaOfStar (aj_wc yX1_areaOfStar cX1_areaOfStar 3 (some .int)) (aj_rm 3 0 0) [] [.ref 18] I J V N L K := by
  refine aj_intro (tbl := t_X1_areaOfStar) (lv0 := [some (.ref 18), none, none]) (by decide) T_X1_areaOfStar aj_f0 (Nat.le_of_ble_eq_true rfl) rfl ?_
  intro G hl C Z NX hnm hGL hGF
  have C : aj_C G cX1_areaOfStar t_X1_areaOfStar RX1 (aj_rm 3 0 0) 3 := C
  obtain ⟨rc, qc, hrn, hqn, hr, hq, hv, hw, hrc⟩ := hf
  refine x_iconst (q := 1) C 0 (n := (0)) (v := (0)) rfl rfl rfl ?_
  refine y_istore1 (q := 2) C 1 rfl rfl (Nat.le_of_ble_eq_true rfl) rfl ?_
  refine x_iconst (q := 3) C 2 (n := (0)) (v := nI 0) rfl rfl rfl ?_
  refine y_istore2 (q := 4) C 3 rfl rfl (Nat.le_of_ble_eq_true rfl) rfl ?_
  have lp4 : ∀ (m j : Nat) (b : Int32) (I1 : Nat → Nat → Int32), j + m = rc → eqO sX I I1 → aj_X G 4 [some (.ref 18), some (.int b), some (.int (nI j))] [] I1 J V N L 0 0 := by
    intro m
    induction m with
    | zero =>
      intro j b I1 hj hE
      refine y_iload2 (q := 5) C 4 rfl rfl ?_
      refine y_aload0 (q := 6) C 5 rfl rfl ?_
      refine x_getI (q := 9) C 6 rfl rfl fl_RX1_49 (fun _ _ => rfl) (by first | assumption | rfl | decide | exact bL hB _ (by decide)) (by first | assumption | rfl | decide | exact bL hB _ (by decide)) ?_
      rw [hE 18 (by decide), hr]
      refine x_icmp_ge (q := 12) (t := 37) C 7 rfl (by decide) rfl (fun c1 => ?_) (fun c1 => ?_)
      · skip
        refine y_iload1 (q := 38) C 21 rfl rfl ?_
        exact x_ireturn C Z 22 rfl rfl rfl (hK b I1 hE)
      · skip
        exact absurd (nI_le (by omega) (by omega)) c1
    | succ m ih =>
      intro j b I1 hj hE
      refine y_iload2 (q := 5) C 4 rfl rfl ?_
      refine y_aload0 (q := 6) C 5 rfl rfl ?_
      refine x_getI (q := 9) C 6 rfl rfl fl_RX1_49 (fun _ _ => rfl) (by first | assumption | rfl | decide | exact bL hB _ (by decide)) (by first | assumption | rfl | decide | exact bL hB _ (by decide)) ?_
      rw [hE 18 (by decide), hr]
      refine x_icmp_ge (q := 12) (t := 37) C 7 rfl (by decide) rfl (fun c2 => ?_) (fun c2 => ?_)
      · skip
        exact absurd c2 (nI_ge (by omega) (by omega))
      · skip
        refine y_aload0 (q := 13) C 8 rfl rfl ?_
        refine y_iload2 (q := 14) C 9 rfl rfl ?_
        refine y_cV1 (q := 17) C 10 rfl rfl ml_RX1_89 cd_X1_takeRoundSteps cv_X1_takeRoundSteps ⟨by decide, rfl⟩ (by first | assumption | rfl | decide | exact bL hB _ (by decide)) (by decide) (by decide) (Nat.le_of_ble_eq_true rfl) (s_X1_takeRoundSteps hn (by rw [hE 18 (by decide)]; exact hr) (a := j) (by omega) hrn (fun i hi => by rw [hE 56 (by decide)]; exact hv i hi) hB ?_)
        intro I2 hE2
        show aj_X G 17 _ _ _ _ _ _ _ _ _
        refine y_iload1 (q := 18) C 11 rfl rfl ?_
        refine y_aload0 (q := 19) C 12 rfl rfl ?_
        refine x_getR (q := 22) C 13 rfl rfl fl_RX1_25 (bv_2_7 hB) (fun _ _ => rfl) (by first | assumption | rfl | decide | exact bL hB _ (by decide)) (by first | assumption | rfl | decide | exact bL hB _ (by decide)) ?_
        refine y_aload0 (q := 23) C 14 rfl rfl ?_
        refine x_getR (q := 26) C 15 rfl rfl fl_RX1_29 (bv_2_8 hB) (fun _ _ => rfl) (by first | assumption | rfl | decide | exact bL hB _ (by decide)) (by first | assumption | rfl | decide | exact bL hB _ (by decide)) ?_
        refine y_cV1 (q := 29) C 16 rfl rfl ml_RX1_96 cd_X2_crossWith cv_X2_crossWith ⟨by decide, rfl⟩ (by first | assumption | rfl | decide | exact bL hB _ (by decide)) (by decide) (by decide) (Nat.le_of_ble_eq_true rfl) (s_X2_crossWith (by first | assumption | rfl | decide | exact bL hB _ (by decide)) (by first | assumption | rfl | decide | exact bL hB _ (by decide)) (by first | assumption | rfl | decide | exact bL hB _ (by decide)) (by first | assumption | rfl | decide | exact bL hB _ (by decide)) ?_)
        show aj_X G 29 _ _ _ _ _ _ _ _ _
        refine x_iadd (q := 30) C 17 rfl rfl ?_
        refine y_istore1 (q := 31) C 18 rfl rfl (Nat.le_of_ble_eq_true rfl) rfl ?_
        refine y_iinc2 (q := 34) C 19 rfl rfl (nI_1 j) (Nat.le_of_ble_eq_true rfl) rfl ?_
        refine x_goto (t := 4) C 20 rfl (by decide) ?_
        exact ih (j + 1) _ _ (by omega) (eqO.tr hE hE2)
  exact lp4 rc 0 0 I (by omega) eqO.rf
set_option maxRecDepth 100000 in
set_option maxHeartbeats 800000 in
theorem s_X1_areaOfHull {l : Launch} {I : Nat → Nat → Int32} {J : Nat → Nat → Int64} {V : Nat → Nat → Option Nat} {N : Nat → Nat} {L : List Nat} {K : aj_K} {n : Nat} (hn : n ≤ 12) (hf : fW I n) (hB : bV V N L) (hK : ∀ (r : Int32), K (.inl (some (.int r))) I J V N L) : aj_M l yX1_areaOfHull (aj_wc yX1_areaOfHull cX1_areaOfHull 5 (some .int)) (aj_rm 1 0 0) [] [.ref 18] I J V N L K := by
  refine aj_intro (tbl := t_X1_areaOfHull) (lv0 := [some (.ref 18), none, none, none, none]) (by decide) T_X1_areaOfHull aj_f0 (Nat.le_of_ble_eq_true rfl) rfl ?_
  intro G hl C Z NX hnm hGL hGF
  have C : aj_C G cX1_areaOfHull t_X1_areaOfHull RX1 (aj_rm 1 0 0) 5 := C
  obtain ⟨rc, qc, hrn, hqn, hr, hq, hv, hw, hrc⟩ := hf
  refine x_iconst (q := 1) C 0 (n := (0)) (v := (0)) rfl rfl rfl ?_
  refine y_istore1 (q := 2) C 1 rfl rfl (Nat.le_of_ble_eq_true rfl) rfl ?_
  refine x_iconst (q := 3) C 2 (n := (0)) (v := nI 0) rfl rfl rfl ?_
  refine y_istore2 (q := 4) C 3 rfl rfl (Nat.le_of_ble_eq_true rfl) rfl ?_
  have lp4 : ∀ (m j : Nat) (b : Int32) (z3 z4 : Option Value), aj_nlv z3 = true → j + m = qc → aj_X G 4 [some (.ref 18), some (.int b), some (.int (nI j)), z3, z4] [] I J V N L 0 0 := by
    intro m
    induction m with
    | zero =>
      intro j b z3 z4 hz3 hj
      refine y_iload2 (q := 5) C 4 rfl rfl ?_
      refine y_aload0 (q := 6) C 5 rfl rfl ?_
      refine x_getI (q := 9) C 6 rfl rfl fl_RX1_67 (fun _ _ => rfl) (by first | assumption | rfl | decide | exact bL hB _ (by decide)) (by first | assumption | rfl | decide | exact bL hB _ (by decide)) ?_
      rw [hq]
      refine x_icmp_ge (q := 12) (t := 72) C 7 rfl (by decide) rfl (fun c1 => ?_) (fun c1 => ?_)
      · skip
        refine y_iload1 (q := 73) C 45 rfl rfl ?_
        exact x_ireturn C Z 46 rfl rfl rfl (hK b)
      · skip
        exact absurd (nI_le (by omega) (by omega)) c1
    | succ m ih =>
      intro j b z3 z4 hz3 hj
      refine y_iload2 (q := 5) C 4 rfl rfl ?_
      refine y_aload0 (q := 6) C 5 rfl rfl ?_
      refine x_getI (q := 9) C 6 rfl rfl fl_RX1_67 (fun _ _ => rfl) (by first | assumption | rfl | decide | exact bL hB _ (by decide)) (by first | assumption | rfl | decide | exact bL hB _ (by decide)) ?_
      rw [hq]
      refine x_icmp_ge (q := 12) (t := 72) C 7 rfl (by decide) rfl (fun c2 => ?_) (fun c2 => ?_)
      · skip
        exact absurd c2 (nI_ge (by omega) (by omega))
      · skip
        have hfo : (if j + 1 < qc then j + 1 else 0) < qc := by split <;> omega
        refine y_aload0 (q := 13) C 8 rfl rfl ?_
        refine x_getR (q := 16) C 9 rfl rfl fl_RX1_19 (bv_2_5 hB) (fun _ _ => rfl) (by first | assumption | rfl | decide | exact bL hB _ (by decide)) (by first | assumption | rfl | decide | exact bL hB _ (by decide)) ?_
        refine y_iload2 (q := 17) C 10 rfl rfl ?_
        refine x_iald (q := 18) C 11 rfl rfl (by first | assumption | rfl | decide | exact bL hB _ (by decide)) (by first | assumption | rfl | decide | exact bL hB _ (by decide)) (by (first | rw [bn24 hB] | rw [bn40 hB] | rw [bn56 hB] | rw [bn72 hB] | rw [bn27 hB] | rw [bn43 hB] | rw [bn25 hB] | rw [bn41 hB] | rw [bn88 hB] | rw [bn104 hB] | rw [bn120 hB] | rw [bn136 hB] | rw [bn152 hB] | rw [bn168 hB]); first | assumption | exact vp_in_nI (by omega) (by decide)) ?_
        rw [nI_clamp (by omega)]
        obtain ⟨p1, hp1, hq1⟩ := hw j (by omega)
        rw [hq1]
        refine y_istore3 (q := 19) C 12 rfl rfl (Nat.le_of_ble_eq_true rfl) rfl ?_
        refine y_aload0 (q := 20) C 13 rfl rfl ?_
        refine x_getR (q := 23) C 14 rfl rfl fl_RX1_19 (bv_2_5 hB) (fun _ _ => rfl) (by first | assumption | rfl | decide | exact bL hB _ (by decide)) (by first | assumption | rfl | decide | exact bL hB _ (by decide)) ?_
        refine y_iload2 (q := 24) C 15 rfl rfl ?_
        refine y_aload0 (q := 25) C 16 rfl rfl ?_
        refine x_getI (q := 28) C 17 rfl rfl fl_RX1_67 (fun _ _ => rfl) (by first | assumption | rfl | decide | exact bL hB _ (by decide)) (by first | assumption | rfl | decide | exact bL hB _ (by decide)) ?_
        rw [hq]
        refine y_cS2 (q := 31) C 18 rfl rfl ml_RX1_86 cd_X1_following sv_X1_following (by decide) (by decide) (Nat.le_of_ble_eq_true rfl) (s_X1_following (by omega) (by omega) ?_)
        show aj_X G 31 _ _ _ _ _ _ _ _ _
        refine x_iald (q := 32) C 19 rfl rfl (by first | assumption | rfl | decide | exact bL hB _ (by decide)) (by first | assumption | rfl | decide | exact bL hB _ (by decide)) (by (first | rw [bn24 hB] | rw [bn40 hB] | rw [bn56 hB] | rw [bn72 hB] | rw [bn27 hB] | rw [bn43 hB] | rw [bn25 hB] | rw [bn41 hB] | rw [bn88 hB] | rw [bn104 hB] | rw [bn120 hB] | rw [bn136 hB] | rw [bn152 hB] | rw [bn168 hB]); first | assumption | exact vp_in_nI (by omega) (by decide)) ?_
        rw [nI_clamp (by omega)]
        obtain ⟨p2, hp2, hq2⟩ := hw (if j + 1 < qc then j + 1 else 0) hfo
        rw [hq2]
        refine y_istore4 (q := 34) C 20 rfl rfl (Nat.le_of_ble_eq_true rfl) rfl ?_
        refine y_iload1 (q := 35) C 21 rfl rfl ?_
        refine y_aload0 (q := 36) C 22 rfl rfl ?_
        refine x_getR (q := 39) C 23 rfl rfl fl_RX1_9 (bv_2_0 hB) (fun _ _ => rfl) (by first | assumption | rfl | decide | exact bL hB _ (by decide)) (by first | assumption | rfl | decide | exact bL hB _ (by decide)) ?_
        refine y_iload3 (q := 40) C 24 rfl rfl ?_
        refine x_iald (q := 41) C 25 rfl rfl (by first | assumption | rfl | decide | exact bL hB _ (by decide)) (by first | assumption | rfl | decide | exact bL hB _ (by decide)) (by (first | rw [bn24 hB] | rw [bn40 hB] | rw [bn56 hB] | rw [bn72 hB] | rw [bn27 hB] | rw [bn43 hB] | rw [bn25 hB] | rw [bn41 hB] | rw [bn88 hB] | rw [bn104 hB] | rw [bn120 hB] | rw [bn136 hB] | rw [bn152 hB] | rw [bn168 hB]); first | assumption | exact vp_in_nI (by omega) (by decide)) ?_
        rw [nI_clamp (by omega)]
        refine y_aload0 (q := 42) C 26 rfl rfl ?_
        refine x_getR (q := 45) C 27 rfl rfl fl_RX1_13 (bv_2_1 hB) (fun _ _ => rfl) (by first | assumption | rfl | decide | exact bL hB _ (by decide)) (by first | assumption | rfl | decide | exact bL hB _ (by decide)) ?_
        refine y_iload4 (q := 47) C 28 rfl rfl ?_
        refine x_iald (q := 48) C 29 rfl rfl (by first | assumption | rfl | decide | exact bL hB _ (by decide)) (by first | assumption | rfl | decide | exact bL hB _ (by decide)) (by (first | rw [bn24 hB] | rw [bn40 hB] | rw [bn56 hB] | rw [bn72 hB] | rw [bn27 hB] | rw [bn43 hB] | rw [bn25 hB] | rw [bn41 hB] | rw [bn88 hB] | rw [bn104 hB] | rw [bn120 hB] | rw [bn136 hB] | rw [bn152 hB] | rw [bn168 hB]); first | assumption | exact vp_in_nI (by omega) (by decide)) ?_
        rw [nI_clamp (by omega)]
        refine x_imul (q := 49) C 30 rfl rfl ?_
        refine y_aload0 (q := 50) C 31 rfl rfl ?_
        refine x_getR (q := 53) C 32 rfl rfl fl_RX1_13 (bv_2_1 hB) (fun _ _ => rfl) (by first | assumption | rfl | decide | exact bL hB _ (by decide)) (by first | assumption | rfl | decide | exact bL hB _ (by decide)) ?_
        refine y_iload3 (q := 54) C 33 rfl rfl ?_
        refine x_iald (q := 55) C 34 rfl rfl (by first | assumption | rfl | decide | exact bL hB _ (by decide)) (by first | assumption | rfl | decide | exact bL hB _ (by decide)) (by (first | rw [bn24 hB] | rw [bn40 hB] | rw [bn56 hB] | rw [bn72 hB] | rw [bn27 hB] | rw [bn43 hB] | rw [bn25 hB] | rw [bn41 hB] | rw [bn88 hB] | rw [bn104 hB] | rw [bn120 hB] | rw [bn136 hB] | rw [bn152 hB] | rw [bn168 hB]); first | assumption | exact vp_in_nI (by omega) (by decide)) ?_
        rw [nI_clamp (by omega)]
        refine y_aload0 (q := 56) C 35 rfl rfl ?_
        refine x_getR (q := 59) C 36 rfl rfl fl_RX1_9 (bv_2_0 hB) (fun _ _ => rfl) (by first | assumption | rfl | decide | exact bL hB _ (by decide)) (by first | assumption | rfl | decide | exact bL hB _ (by decide)) ?_
        refine y_iload4 (q := 61) C 37 rfl rfl ?_
        refine x_iald (q := 62) C 38 rfl rfl (by first | assumption | rfl | decide | exact bL hB _ (by decide)) (by first | assumption | rfl | decide | exact bL hB _ (by decide)) (by (first | rw [bn24 hB] | rw [bn40 hB] | rw [bn56 hB] | rw [bn72 hB] | rw [bn27 hB] | rw [bn43 hB] | rw [bn25 hB] | rw [bn41 hB] | rw [bn88 hB] | rw [bn104 hB] | rw [bn120 hB] | rw [bn136 hB] | rw [bn152 hB] | rw [bn168 hB]); first | assumption | exact vp_in_nI (by omega) (by decide)) ?_
        rw [nI_clamp (by omega)]
        refine x_imul (q := 63) C 39 rfl rfl ?_
        refine x_isub (q := 64) C 40 rfl rfl ?_
        refine x_iadd (q := 65) C 41 rfl rfl ?_
        refine y_istore1 (q := 66) C 42 rfl rfl (Nat.le_of_ble_eq_true rfl) rfl ?_
        refine y_iinc2 (q := 69) C 43 rfl rfl (nI_1 j) (Nat.le_of_ble_eq_true rfl) rfl ?_
        refine x_goto (t := 4) C 44 rfl (by decide) ?_
        exact ih (j + 1) _ _ _ rfl (by omega)
  exact lp4 qc 0 0 _ _ rfl (by omega)
set_option maxRecDepth 100000 in
set_option maxHeartbeats 800000 in
theorem s_X1_isCentreOnWalk {l : Launch} {I : Nat → Nat → Int32} {J : Nat → Nat → Int64} {V : Nat → Nat → Option Nat} {N : Nat → Nat} {L : List Nat} {K : aj_K} {n : Nat} (hn : n ≤ 12) (hc : I 18 2 = nI n) (hB : bV V N L) (hK : ∀ (b : Bool), (b = true → ∃ k, k < n ∧ wOn (I 24 12) (I 40 12) (I 24) (I 40) n k = true) → (b = false → ∀ k, k < n → wOn (I 24 12) (I 40 12) (I 24) (I 40) n k = false) → K (.inl (some (.int (bI b)))) I J V N L) : aj_M l yX1_isCentreOnWalk (aj_wc yX1_isCentreOnWalk cX1_isCentreOnWalk 3 (some .boolean)) (aj_rm 1 0 0) [] [.ref 18] I J V N L K := by
  refine aj_intro (tbl := t_X1_isCentreOnWalk) (lv0 := [some (.ref 18), none, none]) (by decide) T_X1_isCentreOnWalk aj_f0 (Nat.le_of_ble_eq_true rfl) rfl ?_
  intro G hl C Z NX hnm hGL hGF
  have C : aj_C G cX1_isCentreOnWalk t_X1_isCentreOnWalk RX1 (aj_rm 1 0 0) 3 := C
  refine x_iconst (q := 1) C 0 (n := (0)) (v := nI 0) rfl rfl rfl ?_
  refine y_istore1 (q := 2) C 1 rfl rfl (Nat.le_of_ble_eq_true rfl) rfl ?_
  have lp2 : ∀ (m j : Nat) (z2 : Option Value), j + m = n → (∀ i, i < j → wOn (I 24 12) (I 40 12) (I 24) (I 40) n i = false) → aj_X G 2 [some (.ref 18), some (.int (nI j)), z2] [] I J V N L 0 0 := by
    intro m
    induction m with
    | zero =>
      intro j z2 hj hp
      refine y_iload1 (q := 3) C 2 rfl rfl ?_
      refine y_aload0 (q := 4) C 3 rfl rfl ?_
      refine x_getI (q := 7) C 4 rfl rfl fl_RX1_32 (fun _ _ => rfl) (by first | assumption | rfl | decide | exact bL hB _ (by decide)) (by first | assumption | rfl | decide | exact bL hB _ (by decide)) ?_
      rw [hc]
      refine x_icmp_ge (q := 10) (t := 49) C 5 rfl (by decide) rfl (fun c1 => ?_) (fun c1 => ?_)
      · skip
        refine x_iconst (q := 50) C 27 (n := (0)) (v := (0)) rfl rfl rfl ?_
        exact x_ireturn C Z 28 rfl rfl rfl (hK false (fun z => absurd z (by decide)) (fun _ k hk => hp k (by omega)))
      · skip
        exact absurd (nI_le (by omega) (by omega)) c1
    | succ m ih =>
      intro j z2 hj hp
      refine y_iload1 (q := 3) C 2 rfl rfl ?_
      refine y_aload0 (q := 4) C 3 rfl rfl ?_
      refine x_getI (q := 7) C 4 rfl rfl fl_RX1_32 (fun _ _ => rfl) (by first | assumption | rfl | decide | exact bL hB _ (by decide)) (by first | assumption | rfl | decide | exact bL hB _ (by decide)) ?_
      rw [hc]
      refine x_icmp_ge (q := 10) (t := 49) C 5 rfl (by decide) rfl (fun c2 => ?_) (fun c2 => ?_)
      · skip
        exact absurd c2 (nI_ge (by omega) (by omega))
      · skip
        have hfo : vfo n j < n := vfo_l (by omega)
        refine y_iload1 (q := 11) C 6 rfl rfl ?_
        refine y_aload0 (q := 12) C 7 rfl rfl ?_
        refine x_getI (q := 15) C 8 rfl rfl fl_RX1_32 (fun _ _ => rfl) (by first | assumption | rfl | decide | exact bL hB _ (by decide)) (by first | assumption | rfl | decide | exact bL hB _ (by decide)) ?_
        rw [hc]
        refine y_cS2 (q := 18) C 9 rfl rfl ml_RX1_86 cd_X1_following sv_X1_following (by decide) (by decide) (Nat.le_of_ble_eq_true rfl) (s_X1_following (by omega) (by omega) ?_)
        rw [show (if j + 1 < n then j + 1 else 0) = vfo n j from rfl]
        show aj_X G 18 _ _ _ _ _ _ _ _ _
        refine y_istore2 (q := 19) C 10 rfl rfl (Nat.le_of_ble_eq_true rfl) rfl ?_
        refine y_aload0 (q := 20) C 11 rfl rfl ?_
        refine x_bipush (q := 22) C 12 (n := (12)) (v := nI 12) rfl rfl rfl ?_
        refine y_iload1 (q := 23) C 13 rfl rfl ?_
        refine y_iload2 (q := 24) C 14 rfl rfl ?_
        refine y_cV3 (q := 27) C 15 rfl rfl ml_RX1_82 cd_X1_cross cv_X1_cross ⟨by decide, rfl⟩ (by first | assumption | rfl | decide | exact bL hB _ (by decide)) (by decide) (by decide) (Nat.le_of_ble_eq_true rfl) (s_X1_cross (i := 12) (j := j) (by decide) (by omega) (by omega) hB ?_)
        show aj_X G 27 _ _ _ _ _ _ _ _ _
        refine x_if_ne (q := 30) (t := 43) C 16 rfl (by decide) rfl (fun c3 => ?_) (fun c3 => ?_)
        · skip
          refine y_iinc1 (q := 46) C 25 rfl rfl (nI_1 j) (Nat.le_of_ble_eq_true rfl) rfl ?_
          refine x_goto (t := 2) C 26 rfl (by decide) ?_
          exact ih (j + 1) _ (by omega) (lt_snoc hp (by first | exact wOn_1 (by assumption) | exact wOn_2 (by assumption)))
        · skip
          refine y_aload0 (q := 31) C 17 rfl rfl ?_
          refine x_bipush (q := 33) C 18 (n := (12)) (v := nI 12) rfl rfl rfl ?_
          refine y_iload1 (q := 34) C 19 rfl rfl ?_
          refine y_iload2 (q := 35) C 20 rfl rfl ?_
          refine y_cV3 (q := 38) C 21 rfl rfl ml_RX1_99 cd_X1_dot cv_X1_dot ⟨by decide, rfl⟩ (by first | assumption | rfl | decide | exact bL hB _ (by decide)) (by decide) (by decide) (Nat.le_of_ble_eq_true rfl) (s_X1_dot (i := 12) (j := j) (by decide) (by omega) (by omega) hB ?_)
          show aj_X G 38 _ _ _ _ _ _ _ _ _
          refine x_if_gt (q := 41) (t := 43) C 22 rfl (by decide) rfl (fun c4 => ?_) (fun c4 => ?_)
          · skip
            refine y_iinc1 (q := 46) C 25 rfl rfl (nI_1 j) (Nat.le_of_ble_eq_true rfl) rfl ?_
            refine x_goto (t := 2) C 26 rfl (by decide) ?_
            exact ih (j + 1) _ (by omega) (lt_snoc hp (by first | exact wOn_1 (by assumption) | exact wOn_2 (by assumption)))
          · skip
            refine x_iconst (q := 42) C 23 (n := (1)) (v := (1)) rfl rfl rfl ?_
            exact x_ireturn C Z 24 rfl rfl rfl (hK true (fun _ => ⟨j, by omega, wOn_t (by assumption) (by assumption)⟩) (fun z => absurd z (by decide)))
  exact lp2 n 0 _ (by omega) (fun i hi => absurd hi (Nat.not_lt_zero i))
set_option maxRecDepth 100000 in
set_option maxHeartbeats 800000 in
theorem s_X1_windingOf {l : Launch} {I : Nat → Nat → Int32} {J : Nat → Nat → Int64} {V : Nat → Nat → Option Nat} {N : Nat → Nat} {L : List Nat} {K : aj_K} {i j : Nat} (hi : i < 13) (hj : j < 13) (hB : bV V N L) (hK : K (.inl (some (.int (wT (I 24 12) (I 40 12) (I 24 i) (I 40 i) (I 24 j) (I 40 j))))) I J V N L) : aj_M l yX1_windingOf (aj_wc yX1_windingOf cX1_windingOf 6 (some .int)) (aj_rm 1 0 0) [] [.ref 18, .int (nI i), .int (nI j)] I J V N L K := by
  refine aj_intro (tbl := t_X1_windingOf) (lv0 := [some (.ref 18), some (.int (nI i)), some (.int (nI j)), none, none, none]) (by decide) T_X1_windingOf aj_f0 (Nat.le_of_ble_eq_true rfl) rfl ?_
  intro G hl C Z NX hnm hGL hGF
  have C : aj_C G cX1_windingOf t_X1_windingOf RX1 (aj_rm 1 0 0) 6 := C
  refine y_aload0 (q := 1) C 0 rfl rfl ?_
  refine x_getR (q := 4) C 1 rfl rfl fl_RX1_13 (bv_2_1 hB) (fun _ _ => rfl) (by first | assumption | rfl | decide | exact bL hB _ (by decide)) (by first | assumption | rfl | decide | exact bL hB _ (by decide)) ?_
  refine y_iload1 (q := 5) C 2 rfl rfl ?_
  refine x_iald (q := 6) C 3 rfl rfl (by first | assumption | rfl | decide | exact bL hB _ (by decide)) (by first | assumption | rfl | decide | exact bL hB _ (by decide)) (by (first | rw [bn24 hB] | rw [bn40 hB] | rw [bn56 hB] | rw [bn72 hB] | rw [bn27 hB] | rw [bn43 hB] | rw [bn25 hB] | rw [bn41 hB] | rw [bn88 hB] | rw [bn104 hB] | rw [bn120 hB] | rw [bn136 hB] | rw [bn152 hB] | rw [bn168 hB]); first | assumption | exact vp_in_nI (by omega) (by decide)) ?_
  rw [nI_clamp (by omega)]
  refine y_aload0 (q := 7) C 4 rfl rfl ?_
  refine x_getR (q := 10) C 5 rfl rfl fl_RX1_13 (bv_2_1 hB) (fun _ _ => rfl) (by first | assumption | rfl | decide | exact bL hB _ (by decide)) (by first | assumption | rfl | decide | exact bL hB _ (by decide)) ?_
  refine x_bipush (q := 12) C 6 (n := (12)) (v := nI 12) rfl rfl rfl ?_
  refine x_iald (q := 13) C 7 rfl rfl (by first | assumption | rfl | decide | exact bL hB _ (by decide)) (by first | assumption | rfl | decide | exact bL hB _ (by decide)) (by (first | rw [bn24 hB] | rw [bn40 hB] | rw [bn56 hB] | rw [bn72 hB] | rw [bn27 hB] | rw [bn43 hB] | rw [bn25 hB] | rw [bn41 hB] | rw [bn88 hB] | rw [bn104 hB] | rw [bn120 hB] | rw [bn136 hB] | rw [bn152 hB] | rw [bn168 hB]); first | assumption | exact vp_in_nI (by omega) (by decide)) ?_
  rw [nI_clamp (by omega)]
  refine x_icmp_lt (q := 16) (t := 20) C 8 rfl (by decide) rfl (fun c1 => ?_) (fun c1 => ?_)
  · skip
    refine x_iconst (q := 21) C 11 (n := (0)) (v := (0)) rfl rfl rfl ?_
    refine y_istore3 (q := 22) C 12 rfl rfl (Nat.le_of_ble_eq_true rfl) rfl ?_
    refine y_aload0 (q := 23) C 13 rfl rfl ?_
    refine x_getR (q := 26) C 14 rfl rfl fl_RX1_13 (bv_2_1 hB) (fun _ _ => rfl) (by first | assumption | rfl | decide | exact bL hB _ (by decide)) (by first | assumption | rfl | decide | exact bL hB _ (by decide)) ?_
    refine y_iload2 (q := 27) C 15 rfl rfl ?_
    refine x_iald (q := 28) C 16 rfl rfl (by first | assumption | rfl | decide | exact bL hB _ (by decide)) (by first | assumption | rfl | decide | exact bL hB _ (by decide)) (by (first | rw [bn24 hB] | rw [bn40 hB] | rw [bn56 hB] | rw [bn72 hB] | rw [bn27 hB] | rw [bn43 hB] | rw [bn25 hB] | rw [bn41 hB] | rw [bn88 hB] | rw [bn104 hB] | rw [bn120 hB] | rw [bn136 hB] | rw [bn152 hB] | rw [bn168 hB]); first | assumption | exact vp_in_nI (by omega) (by decide)) ?_
    rw [nI_clamp (by omega)]
    refine y_aload0 (q := 29) C 17 rfl rfl ?_
    refine x_getR (q := 32) C 18 rfl rfl fl_RX1_13 (bv_2_1 hB) (fun _ _ => rfl) (by first | assumption | rfl | decide | exact bL hB _ (by decide)) (by first | assumption | rfl | decide | exact bL hB _ (by decide)) ?_
    refine x_bipush (q := 34) C 19 (n := (12)) (v := nI 12) rfl rfl rfl ?_
    refine x_iald (q := 35) C 20 rfl rfl (by first | assumption | rfl | decide | exact bL hB _ (by decide)) (by first | assumption | rfl | decide | exact bL hB _ (by decide)) (by (first | rw [bn24 hB] | rw [bn40 hB] | rw [bn56 hB] | rw [bn72 hB] | rw [bn27 hB] | rw [bn43 hB] | rw [bn25 hB] | rw [bn41 hB] | rw [bn88 hB] | rw [bn104 hB] | rw [bn120 hB] | rw [bn136 hB] | rw [bn152 hB] | rw [bn168 hB]); first | assumption | exact vp_in_nI (by omega) (by decide)) ?_
    rw [nI_clamp (by omega)]
    refine x_icmp_lt (q := 38) (t := 42) C 21 rfl (by decide) rfl (fun c2 => ?_) (fun c2 => ?_)
    · skip
      refine x_iconst (q := 43) C 24 (n := (0)) (v := (0)) rfl rfl rfl ?_
      refine y_istore4 (q := 45) C 25 rfl rfl (Nat.le_of_ble_eq_true rfl) rfl ?_
      refine y_aload0 (q := 46) C 26 rfl rfl ?_
      refine y_iload1 (q := 47) C 27 rfl rfl ?_
      refine y_iload2 (q := 48) C 28 rfl rfl ?_
      refine x_bipush (q := 50) C 29 (n := (12)) (v := nI 12) rfl rfl rfl ?_
      refine y_cV3 (q := 53) C 30 rfl rfl ml_RX1_82 cd_X1_cross cv_X1_cross ⟨by decide, rfl⟩ (by first | assumption | rfl | decide | exact bL hB _ (by decide)) (by decide) (by decide) (Nat.le_of_ble_eq_true rfl) (s_X1_cross (k := 12) hi hj (by decide) hB ?_)
      show aj_X G 53 _ _ _ _ _ _ _ _ _
      refine y_istore5 (q := 55) C 31 rfl rfl (Nat.le_of_ble_eq_true rfl) rfl ?_
      refine y_iload3 (q := 56) C 32 rfl rfl ?_
      refine x_if_eq (q := 59) (t := 71) C 33 rfl (by decide) rfl (fun c3 => ?_) (fun c3 => ?_)
      · skip
        refine y_iload3 (q := 72) C 40 rfl rfl ?_
        refine x_if_ne (q := 75) (t := 89) C 41 rfl (by decide) rfl (fun c4 => ?_) (fun c4 => ?_)
        · skip
          refine x_iconst (q := 90) C 48 (n := (0)) (v := (0)) rfl rfl rfl ?_
          exact x_ireturn C Z 49 rfl rfl rfl (aj_lf hK (by clear hK C Z; simp_all [wT, ← Int32.not_le]))
        · skip
          refine y_iload4 (q := 77) C 42 rfl rfl ?_
          refine x_if_eq (q := 80) (t := 89) C 43 rfl (by decide) rfl (fun c5 => ?_) (fun c5 => ?_)
          · skip
            refine x_iconst (q := 90) C 48 (n := (0)) (v := (0)) rfl rfl rfl ?_
            exact x_ireturn C Z 49 rfl rfl rfl (aj_lf hK (by clear hK C Z; simp_all [wT, ← Int32.not_le]))
          · skip
            refine y_iload5 (q := 82) C 44 rfl rfl ?_
            refine x_if_ge (q := 85) (t := 89) C 45 rfl (by decide) rfl (fun c6 => ?_) (fun c6 => ?_)
            · skip
              refine x_iconst (q := 90) C 48 (n := (0)) (v := (0)) rfl rfl rfl ?_
              exact x_ireturn C Z 49 rfl rfl rfl (aj_lf hK (by clear hK C Z; simp_all [wT, ← Int32.not_le]))
            · skip
              refine x_iconst (q := 86) C 46 (n := (-1)) (v := (-1)) rfl rfl rfl ?_
              refine x_goto (t := 90) C 47 rfl (by decide) ?_
              exact x_ireturn C Z 49 rfl rfl rfl (aj_lf hK (by clear hK C Z; simp_all [wT, ← Int32.not_le]))
      · skip
        refine y_iload4 (q := 61) C 34 rfl rfl ?_
        refine x_if_ne (q := 64) (t := 71) C 35 rfl (by decide) rfl (fun c7 => ?_) (fun c7 => ?_)
        · skip
          refine y_iload3 (q := 72) C 40 rfl rfl ?_
          refine x_if_ne (q := 75) (t := 89) C 41 rfl (by decide) rfl (fun c8 => ?_) (fun c8 => ?_)
          · skip
            refine x_iconst (q := 90) C 48 (n := (0)) (v := (0)) rfl rfl rfl ?_
            exact x_ireturn C Z 49 rfl rfl rfl (aj_lf hK (by clear hK C Z; simp_all [wT, ← Int32.not_le]))
          · skip
            refine y_iload4 (q := 77) C 42 rfl rfl ?_
            refine x_if_eq (q := 80) (t := 89) C 43 rfl (by decide) rfl (fun c9 => ?_) (fun c9 => ?_)
            · skip
              refine x_iconst (q := 90) C 48 (n := (0)) (v := (0)) rfl rfl rfl ?_
              exact x_ireturn C Z 49 rfl rfl rfl (aj_lf hK (by clear hK C Z; simp_all [wT, ← Int32.not_le]))
            · skip
              refine y_iload5 (q := 82) C 44 rfl rfl ?_
              refine x_if_ge (q := 85) (t := 89) C 45 rfl (by decide) rfl (fun c10 => ?_) (fun c10 => ?_)
              · skip
                refine x_iconst (q := 90) C 48 (n := (0)) (v := (0)) rfl rfl rfl ?_
                exact x_ireturn C Z 49 rfl rfl rfl (aj_lf hK (by clear hK C Z; simp_all [wT, ← Int32.not_le]))
              · skip
                refine x_iconst (q := 86) C 46 (n := (-1)) (v := (-1)) rfl rfl rfl ?_
                refine x_goto (t := 90) C 47 rfl (by decide) ?_
                exact x_ireturn C Z 49 rfl rfl rfl (aj_lf hK (by clear hK C Z; simp_all [wT, ← Int32.not_le]))
        · skip
          refine y_iload5 (q := 66) C 36 rfl rfl ?_
          refine x_if_le (q := 69) (t := 71) C 37 rfl (by decide) rfl (fun c11 => ?_) (fun c11 => ?_)
          · skip
            refine y_iload3 (q := 72) C 40 rfl rfl ?_
            refine x_if_ne (q := 75) (t := 89) C 41 rfl (by decide) rfl (fun c12 => ?_) (fun c12 => ?_)
            · skip
              refine x_iconst (q := 90) C 48 (n := (0)) (v := (0)) rfl rfl rfl ?_
              exact x_ireturn C Z 49 rfl rfl rfl (aj_lf hK (by clear hK C Z; simp_all [wT, ← Int32.not_le]))
            · skip
              refine y_iload4 (q := 77) C 42 rfl rfl ?_
              refine x_if_eq (q := 80) (t := 89) C 43 rfl (by decide) rfl (fun c13 => ?_) (fun c13 => ?_)
              · skip
                refine x_iconst (q := 90) C 48 (n := (0)) (v := (0)) rfl rfl rfl ?_
                exact x_ireturn C Z 49 rfl rfl rfl (aj_lf hK (by clear hK C Z; simp_all [wT, ← Int32.not_le]))
              · skip
                refine y_iload5 (q := 82) C 44 rfl rfl ?_
                refine x_if_ge (q := 85) (t := 89) C 45 rfl (by decide) rfl (fun c14 => ?_) (fun c14 => ?_)
                · skip
                  refine x_iconst (q := 90) C 48 (n := (0)) (v := (0)) rfl rfl rfl ?_
                  exact x_ireturn C Z 49 rfl rfl rfl (aj_lf hK (by clear hK C Z; simp_all [wT, ← Int32.not_le]))
                · skip
                  refine x_iconst (q := 86) C 46 (n := (-1)) (v := (-1)) rfl rfl rfl ?_
                  refine x_goto (t := 90) C 47 rfl (by decide) ?_
                  exact x_ireturn C Z 49 rfl rfl rfl (aj_lf hK (by clear hK C Z; simp_all [wT, ← Int32.not_le]))
          · skip
            refine x_iconst (q := 70) C 38 (n := (1)) (v := (1)) rfl rfl rfl ?_
            exact x_ireturn C Z 39 rfl rfl rfl (aj_lf hK (by clear hK C Z; simp_all [wT, ← Int32.not_le]))
    · skip
      refine x_iconst (q := 39) C 22 (n := (1)) (v := (1)) rfl rfl rfl ?_
      refine x_goto (t := 43) C 23 rfl (by decide) ?_
      refine y_istore4 (q := 45) C 25 rfl rfl (Nat.le_of_ble_eq_true rfl) rfl ?_
      refine y_aload0 (q := 46) C 26 rfl rfl ?_
      refine y_iload1 (q := 47) C 27 rfl rfl ?_
      refine y_iload2 (q := 48) C 28 rfl rfl ?_
      refine x_bipush (q := 50) C 29 (n := (12)) (v := nI 12) rfl rfl rfl ?_
      refine y_cV3 (q := 53) C 30 rfl rfl ml_RX1_82 cd_X1_cross cv_X1_cross ⟨by decide, rfl⟩ (by first | assumption | rfl | decide | exact bL hB _ (by decide)) (by decide) (by decide) (Nat.le_of_ble_eq_true rfl) (s_X1_cross (k := 12) hi hj (by decide) hB ?_)
      show aj_X G 53 _ _ _ _ _ _ _ _ _
      refine y_istore5 (q := 55) C 31 rfl rfl (Nat.le_of_ble_eq_true rfl) rfl ?_
      refine y_iload3 (q := 56) C 32 rfl rfl ?_
      refine x_if_eq (q := 59) (t := 71) C 33 rfl (by decide) rfl (fun c15 => ?_) (fun c15 => ?_)
      · skip
        refine y_iload3 (q := 72) C 40 rfl rfl ?_
        refine x_if_ne (q := 75) (t := 89) C 41 rfl (by decide) rfl (fun c16 => ?_) (fun c16 => ?_)
        · skip
          refine x_iconst (q := 90) C 48 (n := (0)) (v := (0)) rfl rfl rfl ?_
          exact x_ireturn C Z 49 rfl rfl rfl (aj_lf hK (by clear hK C Z; simp_all [wT, ← Int32.not_le]))
        · skip
          refine y_iload4 (q := 77) C 42 rfl rfl ?_
          refine x_if_eq (q := 80) (t := 89) C 43 rfl (by decide) rfl (fun c17 => ?_) (fun c17 => ?_)
          · skip
            refine x_iconst (q := 90) C 48 (n := (0)) (v := (0)) rfl rfl rfl ?_
            exact x_ireturn C Z 49 rfl rfl rfl (aj_lf hK (by clear hK C Z; simp_all [wT, ← Int32.not_le]))
          · skip
            refine y_iload5 (q := 82) C 44 rfl rfl ?_
            refine x_if_ge (q := 85) (t := 89) C 45 rfl (by decide) rfl (fun c18 => ?_) (fun c18 => ?_)
            · skip
              refine x_iconst (q := 90) C 48 (n := (0)) (v := (0)) rfl rfl rfl ?_
              exact x_ireturn C Z 49 rfl rfl rfl (aj_lf hK (by clear hK C Z; simp_all [wT, ← Int32.not_le]))
            · skip
              refine x_iconst (q := 86) C 46 (n := (-1)) (v := (-1)) rfl rfl rfl ?_
              refine x_goto (t := 90) C 47 rfl (by decide) ?_
              exact x_ireturn C Z 49 rfl rfl rfl (aj_lf hK (by clear hK C Z; simp_all [wT, ← Int32.not_le]))
      · skip
        refine y_iload4 (q := 61) C 34 rfl rfl ?_
        refine x_if_ne (q := 64) (t := 71) C 35 rfl (by decide) rfl (fun c19 => ?_) (fun c19 => ?_)
        · skip
          refine y_iload3 (q := 72) C 40 rfl rfl ?_
          refine x_if_ne (q := 75) (t := 89) C 41 rfl (by decide) rfl (fun c20 => ?_) (fun c20 => ?_)
          · skip
            refine x_iconst (q := 90) C 48 (n := (0)) (v := (0)) rfl rfl rfl ?_
            exact x_ireturn C Z 49 rfl rfl rfl (aj_lf hK (by clear hK C Z; simp_all [wT, ← Int32.not_le]))
          · skip
            refine y_iload4 (q := 77) C 42 rfl rfl ?_
            refine x_if_eq (q := 80) (t := 89) C 43 rfl (by decide) rfl (fun c21 => ?_) (fun c21 => ?_)
            · skip
              refine x_iconst (q := 90) C 48 (n := (0)) (v := (0)) rfl rfl rfl ?_
              exact x_ireturn C Z 49 rfl rfl rfl (aj_lf hK (by clear hK C Z; simp_all [wT, ← Int32.not_le]))
            · skip
              refine y_iload5 (q := 82) C 44 rfl rfl ?_
              refine x_if_ge (q := 85) (t := 89) C 45 rfl (by decide) rfl (fun c22 => ?_) (fun c22 => ?_)
              · skip
                refine x_iconst (q := 90) C 48 (n := (0)) (v := (0)) rfl rfl rfl ?_
                exact x_ireturn C Z 49 rfl rfl rfl (aj_lf hK (by clear hK C Z; simp_all [wT, ← Int32.not_le]))
              · skip
                refine x_iconst (q := 86) C 46 (n := (-1)) (v := (-1)) rfl rfl rfl ?_
                refine x_goto (t := 90) C 47 rfl (by decide) ?_
                exact x_ireturn C Z 49 rfl rfl rfl (aj_lf hK (by clear hK C Z; simp_all [wT, ← Int32.not_le]))
        · skip
          refine y_iload5 (q := 66) C 36 rfl rfl ?_
          refine x_if_le (q := 69) (t := 71) C 37 rfl (by decide) rfl (fun c23 => ?_) (fun c23 => ?_)
          · skip
            refine y_iload3 (q := 72) C 40 rfl rfl ?_
            refine x_if_ne (q := 75) (t := 89) C 41 rfl (by decide) rfl (fun c24 => ?_) (fun c24 => ?_)
            · skip
              refine x_iconst (q := 90) C 48 (n := (0)) (v := (0)) rfl rfl rfl ?_
              exact x_ireturn C Z 49 rfl rfl rfl (aj_lf hK (by clear hK C Z; simp_all [wT, ← Int32.not_le]))
            · skip
              refine y_iload4 (q := 77) C 42 rfl rfl ?_
              refine x_if_eq (q := 80) (t := 89) C 43 rfl (by decide) rfl (fun c25 => ?_) (fun c25 => ?_)
              · skip
                refine x_iconst (q := 90) C 48 (n := (0)) (v := (0)) rfl rfl rfl ?_
                exact x_ireturn C Z 49 rfl rfl rfl (aj_lf hK (by clear hK C Z; simp_all [wT, ← Int32.not_le]))
              · skip
                refine y_iload5 (q := 82) C 44 rfl rfl ?_
                refine x_if_ge (q := 85) (t := 89) C 45 rfl (by decide) rfl (fun c26 => ?_) (fun c26 => ?_)
                · skip
                  refine x_iconst (q := 90) C 48 (n := (0)) (v := (0)) rfl rfl rfl ?_
                  exact x_ireturn C Z 49 rfl rfl rfl (aj_lf hK (by clear hK C Z; simp_all [wT, ← Int32.not_le]))
                · skip
                  refine x_iconst (q := 86) C 46 (n := (-1)) (v := (-1)) rfl rfl rfl ?_
                  refine x_goto (t := 90) C 47 rfl (by decide) ?_
                  exact x_ireturn C Z 49 rfl rfl rfl (aj_lf hK (by clear hK C Z; simp_all [wT, ← Int32.not_le]))
          · skip
            refine x_iconst (q := 70) C 38 (n := (1)) (v := (1)) rfl rfl rfl ?_
            exact x_ireturn C Z 39 rfl rfl rfl (aj_lf hK (by clear hK C Z; simp_all [wT, ← Int32.not_le]))
  · skip
    refine x_iconst (q := 17) C 9 (n := (1)) (v := (1)) rfl rfl rfl ?_
    refine x_goto (t := 21) C 10 rfl (by decide) ?_
    refine y_istore3 (q := 22) C 12 rfl rfl (Nat.le_of_ble_eq_true rfl) rfl ?_
    refine y_aload0 (q := 23) C 13 rfl rfl ?_
    refine x_getR (q := 26) C 14 rfl rfl fl_RX1_13 (bv_2_1 hB) (fun _ _ => rfl) (by first | assumption | rfl | decide | exact bL hB _ (by decide)) (by first | assumption | rfl | decide | exact bL hB _ (by decide)) ?_
    refine y_iload2 (q := 27) C 15 rfl rfl ?_
    refine x_iald (q := 28) C 16 rfl rfl (by first | assumption | rfl | decide | exact bL hB _ (by decide)) (by first | assumption | rfl | decide | exact bL hB _ (by decide)) (by (first | rw [bn24 hB] | rw [bn40 hB] | rw [bn56 hB] | rw [bn72 hB] | rw [bn27 hB] | rw [bn43 hB] | rw [bn25 hB] | rw [bn41 hB] | rw [bn88 hB] | rw [bn104 hB] | rw [bn120 hB] | rw [bn136 hB] | rw [bn152 hB] | rw [bn168 hB]); first | assumption | exact vp_in_nI (by omega) (by decide)) ?_
    rw [nI_clamp (by omega)]
    refine y_aload0 (q := 29) C 17 rfl rfl ?_
    refine x_getR (q := 32) C 18 rfl rfl fl_RX1_13 (bv_2_1 hB) (fun _ _ => rfl) (by first | assumption | rfl | decide | exact bL hB _ (by decide)) (by first | assumption | rfl | decide | exact bL hB _ (by decide)) ?_
    refine x_bipush (q := 34) C 19 (n := (12)) (v := nI 12) rfl rfl rfl ?_
    refine x_iald (q := 35) C 20 rfl rfl (by first | assumption | rfl | decide | exact bL hB _ (by decide)) (by first | assumption | rfl | decide | exact bL hB _ (by decide)) (by (first | rw [bn24 hB] | rw [bn40 hB] | rw [bn56 hB] | rw [bn72 hB] | rw [bn27 hB] | rw [bn43 hB] | rw [bn25 hB] | rw [bn41 hB] | rw [bn88 hB] | rw [bn104 hB] | rw [bn120 hB] | rw [bn136 hB] | rw [bn152 hB] | rw [bn168 hB]); first | assumption | exact vp_in_nI (by omega) (by decide)) ?_
    rw [nI_clamp (by omega)]
    refine x_icmp_lt (q := 38) (t := 42) C 21 rfl (by decide) rfl (fun c27 => ?_) (fun c27 => ?_)
    · skip
      refine x_iconst (q := 43) C 24 (n := (0)) (v := (0)) rfl rfl rfl ?_
      refine y_istore4 (q := 45) C 25 rfl rfl (Nat.le_of_ble_eq_true rfl) rfl ?_
      refine y_aload0 (q := 46) C 26 rfl rfl ?_
      refine y_iload1 (q := 47) C 27 rfl rfl ?_
      refine y_iload2 (q := 48) C 28 rfl rfl ?_
      refine x_bipush (q := 50) C 29 (n := (12)) (v := nI 12) rfl rfl rfl ?_
      refine y_cV3 (q := 53) C 30 rfl rfl ml_RX1_82 cd_X1_cross cv_X1_cross ⟨by decide, rfl⟩ (by first | assumption | rfl | decide | exact bL hB _ (by decide)) (by decide) (by decide) (Nat.le_of_ble_eq_true rfl) (s_X1_cross (k := 12) hi hj (by decide) hB ?_)
      show aj_X G 53 _ _ _ _ _ _ _ _ _
      refine y_istore5 (q := 55) C 31 rfl rfl (Nat.le_of_ble_eq_true rfl) rfl ?_
      refine y_iload3 (q := 56) C 32 rfl rfl ?_
      refine x_if_eq (q := 59) (t := 71) C 33 rfl (by decide) rfl (fun c28 => ?_) (fun c28 => ?_)
      · skip
        refine y_iload3 (q := 72) C 40 rfl rfl ?_
        refine x_if_ne (q := 75) (t := 89) C 41 rfl (by decide) rfl (fun c29 => ?_) (fun c29 => ?_)
        · skip
          refine x_iconst (q := 90) C 48 (n := (0)) (v := (0)) rfl rfl rfl ?_
          exact x_ireturn C Z 49 rfl rfl rfl (aj_lf hK (by clear hK C Z; simp_all [wT, ← Int32.not_le]))
        · skip
          refine y_iload4 (q := 77) C 42 rfl rfl ?_
          refine x_if_eq (q := 80) (t := 89) C 43 rfl (by decide) rfl (fun c30 => ?_) (fun c30 => ?_)
          · skip
            refine x_iconst (q := 90) C 48 (n := (0)) (v := (0)) rfl rfl rfl ?_
            exact x_ireturn C Z 49 rfl rfl rfl (aj_lf hK (by clear hK C Z; simp_all [wT, ← Int32.not_le]))
          · skip
            refine y_iload5 (q := 82) C 44 rfl rfl ?_
            refine x_if_ge (q := 85) (t := 89) C 45 rfl (by decide) rfl (fun c31 => ?_) (fun c31 => ?_)
            · skip
              refine x_iconst (q := 90) C 48 (n := (0)) (v := (0)) rfl rfl rfl ?_
              exact x_ireturn C Z 49 rfl rfl rfl (aj_lf hK (by clear hK C Z; simp_all [wT, ← Int32.not_le]))
            · skip
              refine x_iconst (q := 86) C 46 (n := (-1)) (v := (-1)) rfl rfl rfl ?_
              refine x_goto (t := 90) C 47 rfl (by decide) ?_
              exact x_ireturn C Z 49 rfl rfl rfl (aj_lf hK (by clear hK C Z; simp_all [wT, ← Int32.not_le]))
      · skip
        refine y_iload4 (q := 61) C 34 rfl rfl ?_
        refine x_if_ne (q := 64) (t := 71) C 35 rfl (by decide) rfl (fun c32 => ?_) (fun c32 => ?_)
        · skip
          refine y_iload3 (q := 72) C 40 rfl rfl ?_
          refine x_if_ne (q := 75) (t := 89) C 41 rfl (by decide) rfl (fun c33 => ?_) (fun c33 => ?_)
          · skip
            refine x_iconst (q := 90) C 48 (n := (0)) (v := (0)) rfl rfl rfl ?_
            exact x_ireturn C Z 49 rfl rfl rfl (aj_lf hK (by clear hK C Z; simp_all [wT, ← Int32.not_le]))
          · skip
            refine y_iload4 (q := 77) C 42 rfl rfl ?_
            refine x_if_eq (q := 80) (t := 89) C 43 rfl (by decide) rfl (fun c34 => ?_) (fun c34 => ?_)
            · skip
              refine x_iconst (q := 90) C 48 (n := (0)) (v := (0)) rfl rfl rfl ?_
              exact x_ireturn C Z 49 rfl rfl rfl (aj_lf hK (by clear hK C Z; simp_all [wT, ← Int32.not_le]))
            · skip
              refine y_iload5 (q := 82) C 44 rfl rfl ?_
              refine x_if_ge (q := 85) (t := 89) C 45 rfl (by decide) rfl (fun c35 => ?_) (fun c35 => ?_)
              · skip
                refine x_iconst (q := 90) C 48 (n := (0)) (v := (0)) rfl rfl rfl ?_
                exact x_ireturn C Z 49 rfl rfl rfl (aj_lf hK (by clear hK C Z; simp_all [wT, ← Int32.not_le]))
              · skip
                refine x_iconst (q := 86) C 46 (n := (-1)) (v := (-1)) rfl rfl rfl ?_
                refine x_goto (t := 90) C 47 rfl (by decide) ?_
                exact x_ireturn C Z 49 rfl rfl rfl (aj_lf hK (by clear hK C Z; simp_all [wT, ← Int32.not_le]))
        · skip
          refine y_iload5 (q := 66) C 36 rfl rfl ?_
          refine x_if_le (q := 69) (t := 71) C 37 rfl (by decide) rfl (fun c36 => ?_) (fun c36 => ?_)
          · skip
            refine y_iload3 (q := 72) C 40 rfl rfl ?_
            refine x_if_ne (q := 75) (t := 89) C 41 rfl (by decide) rfl (fun c37 => ?_) (fun c37 => ?_)
            · skip
              refine x_iconst (q := 90) C 48 (n := (0)) (v := (0)) rfl rfl rfl ?_
              exact x_ireturn C Z 49 rfl rfl rfl (aj_lf hK (by clear hK C Z; simp_all [wT, ← Int32.not_le]))
            · skip
              refine y_iload4 (q := 77) C 42 rfl rfl ?_
              refine x_if_eq (q := 80) (t := 89) C 43 rfl (by decide) rfl (fun c38 => ?_) (fun c38 => ?_)
              · skip
                refine x_iconst (q := 90) C 48 (n := (0)) (v := (0)) rfl rfl rfl ?_
                exact x_ireturn C Z 49 rfl rfl rfl (aj_lf hK (by clear hK C Z; simp_all [wT, ← Int32.not_le]))
              · skip
                refine y_iload5 (q := 82) C 44 rfl rfl ?_
                refine x_if_ge (q := 85) (t := 89) C 45 rfl (by decide) rfl (fun c39 => ?_) (fun c39 => ?_)
                · skip
                  refine x_iconst (q := 90) C 48 (n := (0)) (v := (0)) rfl rfl rfl ?_
                  exact x_ireturn C Z 49 rfl rfl rfl (aj_lf hK (by clear hK C Z; simp_all [wT, ← Int32.not_le]))
                · skip
                  refine x_iconst (q := 86) C 46 (n := (-1)) (v := (-1)) rfl rfl rfl ?_
                  refine x_goto (t := 90) C 47 rfl (by decide) ?_
                  exact x_ireturn C Z 49 rfl rfl rfl (aj_lf hK (by clear hK C Z; simp_all [wT, ← Int32.not_le]))
          · skip
            refine x_iconst (q := 70) C 38 (n := (1)) (v := (1)) rfl rfl rfl ?_
            exact x_ireturn C Z 39 rfl rfl rfl (aj_lf hK (by clear hK C Z; simp_all [wT, ← Int32.not_le]))
    · skip
      refine x_iconst (q := 39) C 22 (n := (1)) (v := (1)) rfl rfl rfl ?_
      refine x_goto (t := 43) C 23 rfl (by decide) ?_
      refine y_istore4 (q := 45) C 25 rfl rfl (Nat.le_of_ble_eq_true rfl) rfl ?_
      refine y_aload0 (q := 46) C 26 rfl rfl ?_
      refine y_iload1 (q := 47) C 27 rfl rfl ?_
      refine y_iload2 (q := 48) C 28 rfl rfl ?_
      refine x_bipush (q := 50) C 29 (n := (12)) (v := nI 12) rfl rfl rfl ?_
      refine y_cV3 (q := 53) C 30 rfl rfl ml_RX1_82 cd_X1_cross cv_X1_cross ⟨by decide, rfl⟩ (by first | assumption | rfl | decide | exact bL hB _ (by decide)) (by decide) (by decide) (Nat.le_of_ble_eq_true rfl) (s_X1_cross (k := 12) hi hj (by decide) hB ?_)
      show aj_X G 53 _ _ _ _ _ _ _ _ _
      refine y_istore5 (q := 55) C 31 rfl rfl (Nat.le_of_ble_eq_true rfl) rfl ?_
      refine y_iload3 (q := 56) C 32 rfl rfl ?_
      refine x_if_eq (q := 59) (t := 71) C 33 rfl (by decide) rfl (fun c40 => ?_) (fun c40 => ?_)
      · skip
        refine y_iload3 (q := 72) C 40 rfl rfl ?_
        refine x_if_ne (q := 75) (t := 89) C 41 rfl (by decide) rfl (fun c41 => ?_) (fun c41 => ?_)
        · skip
          refine x_iconst (q := 90) C 48 (n := (0)) (v := (0)) rfl rfl rfl ?_
          exact x_ireturn C Z 49 rfl rfl rfl (aj_lf hK (by clear hK C Z; simp_all [wT, ← Int32.not_le]))
        · skip
          refine y_iload4 (q := 77) C 42 rfl rfl ?_
          refine x_if_eq (q := 80) (t := 89) C 43 rfl (by decide) rfl (fun c42 => ?_) (fun c42 => ?_)
          · skip
            refine x_iconst (q := 90) C 48 (n := (0)) (v := (0)) rfl rfl rfl ?_
            exact x_ireturn C Z 49 rfl rfl rfl (aj_lf hK (by clear hK C Z; simp_all [wT, ← Int32.not_le]))
          · skip
            refine y_iload5 (q := 82) C 44 rfl rfl ?_
            refine x_if_ge (q := 85) (t := 89) C 45 rfl (by decide) rfl (fun c43 => ?_) (fun c43 => ?_)
            · skip
              refine x_iconst (q := 90) C 48 (n := (0)) (v := (0)) rfl rfl rfl ?_
              exact x_ireturn C Z 49 rfl rfl rfl (aj_lf hK (by clear hK C Z; simp_all [wT, ← Int32.not_le]))
            · skip
              refine x_iconst (q := 86) C 46 (n := (-1)) (v := (-1)) rfl rfl rfl ?_
              refine x_goto (t := 90) C 47 rfl (by decide) ?_
              exact x_ireturn C Z 49 rfl rfl rfl (aj_lf hK (by clear hK C Z; simp_all [wT, ← Int32.not_le]))
      · skip
        refine y_iload4 (q := 61) C 34 rfl rfl ?_
        refine x_if_ne (q := 64) (t := 71) C 35 rfl (by decide) rfl (fun c44 => ?_) (fun c44 => ?_)
        · skip
          refine y_iload3 (q := 72) C 40 rfl rfl ?_
          refine x_if_ne (q := 75) (t := 89) C 41 rfl (by decide) rfl (fun c45 => ?_) (fun c45 => ?_)
          · skip
            refine x_iconst (q := 90) C 48 (n := (0)) (v := (0)) rfl rfl rfl ?_
            exact x_ireturn C Z 49 rfl rfl rfl (aj_lf hK (by clear hK C Z; simp_all [wT, ← Int32.not_le]))
          · skip
            refine y_iload4 (q := 77) C 42 rfl rfl ?_
            refine x_if_eq (q := 80) (t := 89) C 43 rfl (by decide) rfl (fun c46 => ?_) (fun c46 => ?_)
            · skip
              refine x_iconst (q := 90) C 48 (n := (0)) (v := (0)) rfl rfl rfl ?_
              exact x_ireturn C Z 49 rfl rfl rfl (aj_lf hK (by clear hK C Z; simp_all [wT, ← Int32.not_le]))
            · skip
              refine y_iload5 (q := 82) C 44 rfl rfl ?_
              refine x_if_ge (q := 85) (t := 89) C 45 rfl (by decide) rfl (fun c47 => ?_) (fun c47 => ?_)
              · skip
                refine x_iconst (q := 90) C 48 (n := (0)) (v := (0)) rfl rfl rfl ?_
                exact x_ireturn C Z 49 rfl rfl rfl (aj_lf hK (by clear hK C Z; simp_all [wT, ← Int32.not_le]))
              · skip
                refine x_iconst (q := 86) C 46 (n := (-1)) (v := (-1)) rfl rfl rfl ?_
                refine x_goto (t := 90) C 47 rfl (by decide) ?_
                exact x_ireturn C Z 49 rfl rfl rfl (aj_lf hK (by clear hK C Z; simp_all [wT, ← Int32.not_le]))
        · skip
          refine y_iload5 (q := 66) C 36 rfl rfl ?_
          refine x_if_le (q := 69) (t := 71) C 37 rfl (by decide) rfl (fun c48 => ?_) (fun c48 => ?_)
          · skip
            refine y_iload3 (q := 72) C 40 rfl rfl ?_
            refine x_if_ne (q := 75) (t := 89) C 41 rfl (by decide) rfl (fun c49 => ?_) (fun c49 => ?_)
            · skip
              refine x_iconst (q := 90) C 48 (n := (0)) (v := (0)) rfl rfl rfl ?_
              exact x_ireturn C Z 49 rfl rfl rfl (aj_lf hK (by clear hK C Z; simp_all [wT, ← Int32.not_le]))
            · skip
              refine y_iload4 (q := 77) C 42 rfl rfl ?_
              refine x_if_eq (q := 80) (t := 89) C 43 rfl (by decide) rfl (fun c50 => ?_) (fun c50 => ?_)
              · skip
                refine x_iconst (q := 90) C 48 (n := (0)) (v := (0)) rfl rfl rfl ?_
                exact x_ireturn C Z 49 rfl rfl rfl (aj_lf hK (by clear hK C Z; simp_all [wT, ← Int32.not_le]))
              · skip
                refine y_iload5 (q := 82) C 44 rfl rfl ?_
                refine x_if_ge (q := 85) (t := 89) C 45 rfl (by decide) rfl (fun c51 => ?_) (fun c51 => ?_)
                · skip
                  refine x_iconst (q := 90) C 48 (n := (0)) (v := (0)) rfl rfl rfl ?_
                  exact x_ireturn C Z 49 rfl rfl rfl (aj_lf hK (by clear hK C Z; simp_all [wT, ← Int32.not_le]))
                · skip
                  refine x_iconst (q := 86) C 46 (n := (-1)) (v := (-1)) rfl rfl rfl ?_
                  refine x_goto (t := 90) C 47 rfl (by decide) ?_
                  exact x_ireturn C Z 49 rfl rfl rfl (aj_lf hK (by clear hK C Z; simp_all [wT, ← Int32.not_le]))
          · skip
            refine x_iconst (q := 70) C 38 (n := (1)) (v := (1)) rfl rfl rfl ?_
            exact x_ireturn C Z 39 rfl rfl rfl (aj_lf hK (by clear hK C Z; simp_all [wT, ← Int32.not_le]))
set_option maxRecDepth 100000 in
set_option maxHeartbeats 800000 in
theorem s_X1_windings {l : Launch} {I : Nat → Nat → Int32} {J : Nat → Nat → Int64} {V : Nat → Nat → Option Nat} {N : Nat → Nat} {L : List Nat} {K : aj_K} {n : Nat} (hn : n ≤ 12) (hc : I 18 2 = nI n) (hB : bV V N L) (hK : K (.inl (some (.int (vSm (wW (I 24 12) (I 40 12) (I 24) (I 40) n) n)))) I J V N L) : aj_M l yX1_windings (aj_wc yX1_windings cX1_windings 3 (some .int)) (aj_rm 2 0 0) [] [.ref 18] I J V N L K := by
  refine aj_intro (tbl := t_X1_windings) (lv0 := [some (.ref 18), none, none]) (by decide) T_X1_windings aj_f0 (Nat.le_of_ble_eq_true rfl) rfl ?_
  intro G hl C Z NX hnm hGL hGF
  have C : aj_C G cX1_windings t_X1_windings RX1 (aj_rm 2 0 0) 3 := C
  refine x_iconst (q := 1) C 0 (n := (0)) (v := (0)) rfl rfl rfl ?_
  refine y_istore1 (q := 2) C 1 rfl rfl (Nat.le_of_ble_eq_true rfl) rfl ?_
  refine x_iconst (q := 3) C 2 (n := (0)) (v := nI 0) rfl rfl rfl ?_
  refine y_istore2 (q := 4) C 3 rfl rfl (Nat.le_of_ble_eq_true rfl) rfl ?_
  have lp4 : ∀ (m j : Nat), j + m = n → aj_X G 4 [some (.ref 18), some (.int (vSm (wW (I 24 12) (I 40 12) (I 24) (I 40) n) j)), some (.int (nI j))] [] I J V N L 0 0 := by
    intro m
    induction m with
    | zero =>
      intro j hj
      refine y_iload2 (q := 5) C 4 rfl rfl ?_
      refine y_aload0 (q := 6) C 5 rfl rfl ?_
      refine x_getI (q := 9) C 6 rfl rfl fl_RX1_32 (fun _ _ => rfl) (by first | assumption | rfl | decide | exact bL hB _ (by decide)) (by first | assumption | rfl | decide | exact bL hB _ (by decide)) ?_
      rw [hc]
      refine x_icmp_ge (q := 12) (t := 34) C 7 rfl (by decide) rfl (fun c1 => ?_) (fun c1 => ?_)
      · skip
        refine y_iload1 (q := 35) C 20 rfl rfl ?_
        exact x_ireturn C Z 21 rfl rfl rfl (by rw [show j = n from by first | omega | exact Nat.le_antisymm (by omega) (by omega)] at *; exact hK)
      · skip
        exact absurd (nI_le (by omega) (by omega)) c1
    | succ m ih =>
      intro j hj
      refine y_iload2 (q := 5) C 4 rfl rfl ?_
      refine y_aload0 (q := 6) C 5 rfl rfl ?_
      refine x_getI (q := 9) C 6 rfl rfl fl_RX1_32 (fun _ _ => rfl) (by first | assumption | rfl | decide | exact bL hB _ (by decide)) (by first | assumption | rfl | decide | exact bL hB _ (by decide)) ?_
      rw [hc]
      refine x_icmp_ge (q := 12) (t := 34) C 7 rfl (by decide) rfl (fun c2 => ?_) (fun c2 => ?_)
      · skip
        exact absurd c2 (nI_ge (by omega) (by omega))
      · skip
        have hfo : vfo n j < n := vfo_l (by omega)
        refine y_iload1 (q := 13) C 8 rfl rfl ?_
        refine y_aload0 (q := 14) C 9 rfl rfl ?_
        refine y_iload2 (q := 15) C 10 rfl rfl ?_
        refine y_iload2 (q := 16) C 11 rfl rfl ?_
        refine y_aload0 (q := 17) C 12 rfl rfl ?_
        refine x_getI (q := 20) C 13 rfl rfl fl_RX1_32 (fun _ _ => rfl) (by first | assumption | rfl | decide | exact bL hB _ (by decide)) (by first | assumption | rfl | decide | exact bL hB _ (by decide)) ?_
        rw [hc]
        refine y_cS2 (q := 23) C 14 rfl rfl ml_RX1_86 cd_X1_following sv_X1_following (by decide) (by decide) (Nat.le_of_ble_eq_true rfl) (s_X1_following (by omega) (by omega) ?_)
        rw [show (if j + 1 < n then j + 1 else 0) = vfo n j from rfl]
        show aj_X G 23 _ _ _ _ _ _ _ _ _
        refine y_cV2 (q := 26) C 15 rfl rfl ml_RX1_102 cd_X1_windingOf cv_X1_windingOf ⟨by decide, rfl⟩ (by first | assumption | rfl | decide | exact bL hB _ (by decide)) (by decide) (by decide) (Nat.le_of_ble_eq_true rfl) (s_X1_windingOf (by omega) (by omega) hB ?_)
        show aj_X G 26 _ _ _ _ _ _ _ _ _
        refine x_iadd (q := 27) C 16 rfl rfl ?_
        refine y_istore1 (q := 28) C 17 rfl rfl (Nat.le_of_ble_eq_true rfl) rfl ?_
        refine y_iinc2 (q := 31) C 18 rfl rfl (nI_1 j) (Nat.le_of_ble_eq_true rfl) rfl ?_
        refine x_goto (t := 4) C 19 rfl (by decide) ?_
        exact ih (j + 1) (by omega)
  exact lp4 n 0 (by omega)
set_option maxRecDepth 100000 in
set_option maxHeartbeats 800000 in
theorem s_X1_isRoundSound {l : Launch} {I : Nat → Nat → Int32} {J : Nat → Nat → Int64} {V : Nat → Nat → Option Nat} {N : Nat → Nat} {L : List Nat} {K : aj_K} {n : Nat} (hn : n ≤ 12) (hf : fW I n) (hB : bV V N L) (hK : ∀ (b : Bool) (I1 : Nat → Nat → Int32), eqO sX I I1 → K (.inl (some (.int (bI b)))) I1 J V N L) : aj_M l yX1_isRoundSound (aj_wc yX1_isRoundSound cX1_isRoundSound 2 (some .boolean)) (aj_rm 3 0 0) [] [.ref 18] I J V N L K := by
  refine aj_intro (tbl := t_X1_isRoundSound) (lv0 := [some (.ref 18), none]) (by decide) T_X1_isRoundSound aj_f0 (Nat.le_of_ble_eq_true rfl) rfl ?_
  intro G hl C Z NX hnm hGL hGF
  have C : aj_C G cX1_isRoundSound t_X1_isRoundSound RX1 (aj_rm 3 0 0) 2 := C
  obtain ⟨rc, qc, hrn, hqn, hr, hq, hv, hw, hrc⟩ := hf
  refine x_iconst (q := 1) C 0 (n := (0)) (v := nI 0) rfl rfl rfl ?_
  refine y_istore1 (q := 2) C 1 rfl rfl (Nat.le_of_ble_eq_true rfl) rfl ?_
  have lp2 : ∀ (m j : Nat) (I1 : Nat → Nat → Int32), j ≤ 13 → rc ≤ j + m → eqO sX I I1 → aj_X G 2 [some (.ref 18), some (.int (nI j))] [] I1 J V N L 0 0 := by
    intro m
    induction m with
    | zero =>
      intro j I1 h13 hj hE
      refine y_iload1 (q := 3) C 2 rfl rfl ?_
      refine x_iconst (q := 4) C 3 (n := (1)) (v := nI 1) rfl rfl rfl ?_
      refine x_iadd (q := 5) C 4 rfl rfl ?_
      rw [nI_add]
      refine y_aload0 (q := 6) C 5 rfl rfl ?_
      refine x_getI (q := 9) C 6 rfl rfl fl_RX1_49 (fun _ _ => rfl) (by first | assumption | rfl | decide | exact bL hB _ (by decide)) (by first | assumption | rfl | decide | exact bL hB _ (by decide)) ?_
      rw [hE 18 (by decide), hr]
      refine x_icmp_ge (q := 12) (t := 41) C 7 rfl (by decide) rfl (fun c1 => ?_) (fun c1 => ?_)
      · skip
        refine x_iconst (q := 42) C 25 (n := (1)) (v := (1)) rfl rfl rfl ?_
        exact x_ireturn C Z 26 rfl rfl rfl (hK true I1 hE)
      · skip
        exact absurd (nI_le (by omega) (by omega)) c1
    | succ m ih =>
      intro j I1 h13 hj hE
      refine y_iload1 (q := 3) C 2 rfl rfl ?_
      refine x_iconst (q := 4) C 3 (n := (1)) (v := nI 1) rfl rfl rfl ?_
      refine x_iadd (q := 5) C 4 rfl rfl ?_
      rw [nI_add]
      refine y_aload0 (q := 6) C 5 rfl rfl ?_
      refine x_getI (q := 9) C 6 rfl rfl fl_RX1_49 (fun _ _ => rfl) (by first | assumption | rfl | decide | exact bL hB _ (by decide)) (by first | assumption | rfl | decide | exact bL hB _ (by decide)) ?_
      rw [hE 18 (by decide), hr]
      refine x_icmp_ge (q := 12) (t := 41) C 7 rfl (by decide) rfl (fun c2 => ?_) (fun c2 => ?_)
      · skip
        refine x_iconst (q := 42) C 25 (n := (1)) (v := (1)) rfl rfl rfl ?_
        exact x_ireturn C Z 26 rfl rfl rfl (hK true I1 hE)
      · skip
        have hjl : j + 1 < rc := by
          rcases Nat.lt_or_ge (j + 1) rc with w | w
          · exact w
          · exact absurd (nI_le w (by omega)) (by assumption)
        refine y_aload0 (q := 13) C 8 rfl rfl ?_
        refine y_aload0 (q := 14) C 9 rfl rfl ?_
        refine x_getR (q := 17) C 10 rfl rfl fl_RX1_16 (bv_2_3 hB) (fun _ _ => rfl) (by first | assumption | rfl | decide | exact bL hB _ (by decide)) (by first | assumption | rfl | decide | exact bL hB _ (by decide)) ?_
        refine y_iload1 (q := 18) C 11 rfl rfl ?_
        refine x_iald (q := 19) C 12 rfl rfl (by first | assumption | rfl | decide | exact bL hB _ (by decide)) (by first | assumption | rfl | decide | exact bL hB _ (by decide)) (by (first | rw [bn24 hB] | rw [bn40 hB] | rw [bn56 hB] | rw [bn72 hB] | rw [bn27 hB] | rw [bn43 hB] | rw [bn25 hB] | rw [bn41 hB] | rw [bn88 hB] | rw [bn104 hB] | rw [bn120 hB] | rw [bn136 hB] | rw [bn152 hB] | rw [bn168 hB]); first | assumption | exact vp_in_nI (by omega) (by decide)) ?_
        rw [nI_clamp (by omega)]
        obtain ⟨p1, hp1, hq1⟩ := hv j (by omega)
        rw [show I1 56 j = nI p1 by rw [hE 56 (by decide)]; exact hq1]
        refine y_aload0 (q := 20) C 13 rfl rfl ?_
        refine x_getR (q := 23) C 14 rfl rfl fl_RX1_16 (bv_2_3 hB) (fun _ _ => rfl) (by first | assumption | rfl | decide | exact bL hB _ (by decide)) (by first | assumption | rfl | decide | exact bL hB _ (by decide)) ?_
        refine y_iload1 (q := 24) C 15 rfl rfl ?_
        refine x_iconst (q := 25) C 16 (n := (1)) (v := nI 1) rfl rfl rfl ?_
        refine x_iadd (q := 26) C 17 rfl rfl ?_
        rw [nI_add]
        refine x_iald (q := 27) C 18 rfl rfl (by first | assumption | rfl | decide | exact bL hB _ (by decide)) (by first | assumption | rfl | decide | exact bL hB _ (by decide)) (by (first | rw [bn24 hB] | rw [bn40 hB] | rw [bn56 hB] | rw [bn72 hB] | rw [bn27 hB] | rw [bn43 hB] | rw [bn25 hB] | rw [bn41 hB] | rw [bn88 hB] | rw [bn104 hB] | rw [bn120 hB] | rw [bn136 hB] | rw [bn152 hB] | rw [bn168 hB]); first | assumption | exact vp_in_nI (by omega) (by decide)) ?_
        rw [nI_clamp (by omega)]
        obtain ⟨p2, hp2, hq2⟩ := hv (j + 1) (by omega)
        rw [show I1 56 (j + 1) = nI p2 by rw [hE 56 (by decide)]; exact hq2]
        refine y_cV2 (q := 30) C 19 rfl rfl ml_RX1_56 cd_X1_comesBefore cv_X1_comesBefore ⟨by decide, rfl⟩ (by first | assumption | rfl | decide | exact bL hB _ (by decide)) (by decide) (by decide) (Nat.le_of_ble_eq_true rfl) (s_X1_comesBefore (by omega) (by omega) hB ?_)
        show aj_X G 30 _ _ _ _ _ _ _ _ _
        refine x_if_neB (q := 33) (t := 35) C 20 rfl (by decide) rfl (fun c3 => ?_) (fun c3 => ?_)
        · skip
          refine y_iinc1 (q := 38) C 23 rfl rfl (nI_1 j) (Nat.le_of_ble_eq_true rfl) rfl ?_
          refine x_goto (t := 2) C 24 rfl (by decide) ?_
          exact ih (j + 1) _ (by omega) (by omega) (eqO.tr hE (tS_eq (by decide) (by decide)))
        · skip
          refine x_iconst (q := 34) C 21 (n := (0)) (v := (0)) rfl rfl rfl ?_
          exact x_ireturn C Z 22 rfl rfl rfl (hK false _ (eqO.tr hE (tS_eq (by decide) (by decide))))
  exact lp2 rc 0 I (by omega) (by omega) eqO.rf
set_option maxRecDepth 100000 in
set_option maxHeartbeats 800000 in
theorem s_X1_isHullSound {l : Launch} {I : Nat → Nat → Int32} {J : Nat → Nat → Int64} {V : Nat → Nat → Option Nat} {N : Nat → Nat} {L : List Nat} {K : aj_K} {n : Nat} (hn : n ≤ 12) (hc : I 18 2 = nI n) (hf : fW I n) (hB : bV V N L) (hK : ∀ (b : Bool), K (.inl (some (.int (bI b)))) I J V N L) : aj_M l yX1_isHullSound (aj_wc yX1_isHullSound cX1_isHullSound 4 (some .boolean)) (aj_rm 2 0 0) [] [.ref 18] I J V N L K := by
  refine aj_intro (tbl := t_X1_isHullSound) (lv0 := [some (.ref 18), none, none, none]) (by decide) T_X1_isHullSound aj_f0 (Nat.le_of_ble_eq_true rfl) rfl ?_
  intro G hl C Z NX hnm hGL hGF
  have C : aj_C G cX1_isHullSound t_X1_isHullSound RX1 (aj_rm 2 0 0) 4 := C
  obtain ⟨rc, qc, hrn, hqn, hr, hq, hv, hw, hrc⟩ := hf
  refine x_iconst (q := 1) C 0 (n := (0)) (v := nI 0) rfl rfl rfl ?_
  refine y_istore1 (q := 2) C 1 rfl rfl (Nat.le_of_ble_eq_true rfl) rfl ?_
  have lp2 : ∀ (m j : Nat) (z2 z3 : Option Value), aj_nlv z2 = true → j + m = qc → aj_X G 2 [some (.ref 18), some (.int (nI j)), z2, z3] [] I J V N L 0 0 := by
    intro m
    induction m with
    | zero =>
      intro j z2 z3 hz2 hj
      refine y_iload1 (q := 3) C 2 rfl rfl ?_
      refine y_aload0 (q := 4) C 3 rfl rfl ?_
      refine x_getI (q := 7) C 4 rfl rfl fl_RX1_67 (fun _ _ => rfl) (by first | assumption | rfl | decide | exact bL hB _ (by decide)) (by first | assumption | rfl | decide | exact bL hB _ (by decide)) ?_
      rw [hq]
      refine x_icmp_ge (q := 10) (t := 107) C 5 rfl (by decide) rfl (fun c1 => ?_) (fun c1 => ?_)
      · skip
        refine x_iconst (q := 108) C 61 (n := (1)) (v := (1)) rfl rfl rfl ?_
        exact x_ireturn C Z 62 rfl rfl rfl (hK true)
      · skip
        exact absurd (nI_le (by omega) (by omega)) c1
    | succ m ih =>
      intro j z2 z3 hz2 hj
      refine y_iload1 (q := 3) C 2 rfl rfl ?_
      refine y_aload0 (q := 4) C 3 rfl rfl ?_
      refine x_getI (q := 7) C 4 rfl rfl fl_RX1_67 (fun _ _ => rfl) (by first | assumption | rfl | decide | exact bL hB _ (by decide)) (by first | assumption | rfl | decide | exact bL hB _ (by decide)) ?_
      rw [hq]
      refine x_icmp_ge (q := 10) (t := 107) C 5 rfl (by decide) rfl (fun c2 => ?_) (fun c2 => ?_)
      · skip
        exact absurd c2 (nI_ge (by omega) (by omega))
      · skip
        obtain ⟨nx, hnx⟩ : ∃ z, z = (if j + 1 < qc then j + 1 else 0) := ⟨_, rfl⟩
        have hfo : nx < qc := by rw [hnx]; split <;> omega
        obtain ⟨ny, hny⟩ : ∃ z, z = (if nx + 1 < qc then nx + 1 else 0) := ⟨_, rfl⟩
        have hfy : ny < qc := by rw [hny]; split <;> omega
        obtain ⟨p1, hp1, hq1⟩ := hw j (by omega)
        obtain ⟨p2, hp2, hq2⟩ := hw nx hfo
        obtain ⟨p3, hp3, hq3⟩ := hw ny hfy
        refine y_iload1 (q := 11) C 6 rfl rfl ?_
        refine y_aload0 (q := 12) C 7 rfl rfl ?_
        refine x_getI (q := 15) C 8 rfl rfl fl_RX1_67 (fun _ _ => rfl) (by first | assumption | rfl | decide | exact bL hB _ (by decide)) (by first | assumption | rfl | decide | exact bL hB _ (by decide)) ?_
        rw [hq]
        refine y_cS2 (q := 18) C 9 rfl rfl ml_RX1_86 cd_X1_following sv_X1_following (by decide) (by decide) (Nat.le_of_ble_eq_true rfl) (s_X1_following (by omega) (by omega) ?_)
        rw [← hnx]
        show aj_X G 18 _ _ _ _ _ _ _ _ _
        refine y_istore2 (q := 19) C 10 rfl rfl (Nat.le_of_ble_eq_true rfl) rfl ?_
        refine x_iconst (q := 20) C 11 (n := (0)) (v := nI 0) rfl rfl rfl ?_
        refine y_istore3 (q := 21) C 12 rfl rfl (Nat.le_of_ble_eq_true rfl) rfl ?_
        have lp21 : ∀ (mi k : Nat), k + mi = n → aj_X G 21 [some (.ref 18), some (.int (nI j)), some (.int (nI nx)), some (.int (nI k))] [] I J V N L 0 0 := by
          intro mi
          induction mi with
          | zero =>
            intro k hk
            refine y_iload3 (q := 22) C 13 rfl rfl ?_
            refine y_aload0 (q := 23) C 14 rfl rfl ?_
            refine x_getI (q := 26) C 15 rfl rfl fl_RX1_32 (fun _ _ => rfl) (by first | assumption | rfl | decide | exact bL hB _ (by decide)) (by first | assumption | rfl | decide | exact bL hB _ (by decide)) ?_
            rw [hc]
            refine x_icmp_ge (q := 29) (t := 57) C 16 rfl (by decide) rfl (fun c3 => ?_) (fun c3 => ?_)
            · skip
              refine y_aload0 (q := 58) C 33 rfl rfl ?_
              refine x_getR (q := 61) C 34 rfl rfl fl_RX1_19 (bv_2_5 hB) (fun _ _ => rfl) (by first | assumption | rfl | decide | exact bL hB _ (by decide)) (by first | assumption | rfl | decide | exact bL hB _ (by decide)) ?_
              refine y_iload2 (q := 62) C 35 rfl rfl ?_
              refine y_aload0 (q := 63) C 36 rfl rfl ?_
              refine x_getI (q := 66) C 37 rfl rfl fl_RX1_67 (fun _ _ => rfl) (by first | assumption | rfl | decide | exact bL hB _ (by decide)) (by first | assumption | rfl | decide | exact bL hB _ (by decide)) ?_
              rw [hq]
              refine y_cS2 (q := 69) C 38 rfl rfl ml_RX1_86 cd_X1_following sv_X1_following (by decide) (by decide) (Nat.le_of_ble_eq_true rfl) (s_X1_following (by omega) (by omega) ?_)
              rw [← hny]
              show aj_X G 69 _ _ _ _ _ _ _ _ _
              refine x_iald (q := 70) C 39 rfl rfl (by first | assumption | rfl | decide | exact bL hB _ (by decide)) (by first | assumption | rfl | decide | exact bL hB _ (by decide)) (by (first | rw [bn24 hB] | rw [bn40 hB] | rw [bn56 hB] | rw [bn72 hB] | rw [bn27 hB] | rw [bn43 hB] | rw [bn25 hB] | rw [bn41 hB] | rw [bn88 hB] | rw [bn104 hB] | rw [bn120 hB] | rw [bn136 hB] | rw [bn152 hB] | rw [bn168 hB]); first | assumption | exact vp_in_nI (by omega) (by decide)) ?_
              rw [nI_clamp (by omega)]
              rw [hq3]
              refine y_istore3 (q := 71) C 40 rfl rfl (Nat.le_of_ble_eq_true rfl) rfl ?_
              refine y_aload0 (q := 72) C 41 rfl rfl ?_
              refine x_getI (q := 75) C 42 rfl rfl fl_RX1_67 (fun _ _ => rfl) (by first | assumption | rfl | decide | exact bL hB _ (by decide)) (by first | assumption | rfl | decide | exact bL hB _ (by decide)) ?_
              rw [hq]
              refine x_iconst (q := 76) C 43 (n := (3)) (v := (3)) rfl rfl rfl ?_
              refine x_icmp_lt (q := 79) (t := 101) C 44 rfl (by decide) rfl (fun c4 => ?_) (fun c4 => ?_)
              · skip
                refine y_iinc1 (q := 104) C 59 rfl rfl (nI_1 j) (Nat.le_of_ble_eq_true rfl) rfl ?_
                refine x_goto (t := 2) C 60 rfl (by decide) ?_
                exact ih (j + 1) _ _ rfl (by omega)
              · skip
                refine y_aload0 (q := 80) C 45 rfl rfl ?_
                refine y_aload0 (q := 81) C 46 rfl rfl ?_
                refine x_getR (q := 84) C 47 rfl rfl fl_RX1_19 (bv_2_5 hB) (fun _ _ => rfl) (by first | assumption | rfl | decide | exact bL hB _ (by decide)) (by first | assumption | rfl | decide | exact bL hB _ (by decide)) ?_
                refine y_iload1 (q := 85) C 48 rfl rfl ?_
                refine x_iald (q := 86) C 49 rfl rfl (by first | assumption | rfl | decide | exact bL hB _ (by decide)) (by first | assumption | rfl | decide | exact bL hB _ (by decide)) (by (first | rw [bn24 hB] | rw [bn40 hB] | rw [bn56 hB] | rw [bn72 hB] | rw [bn27 hB] | rw [bn43 hB] | rw [bn25 hB] | rw [bn41 hB] | rw [bn88 hB] | rw [bn104 hB] | rw [bn120 hB] | rw [bn136 hB] | rw [bn152 hB] | rw [bn168 hB]); first | assumption | exact vp_in_nI (by omega) (by decide)) ?_
                rw [nI_clamp (by omega)]
                rw [hq1]
                refine y_aload0 (q := 87) C 50 rfl rfl ?_
                refine x_getR (q := 90) C 51 rfl rfl fl_RX1_19 (bv_2_5 hB) (fun _ _ => rfl) (by first | assumption | rfl | decide | exact bL hB _ (by decide)) (by first | assumption | rfl | decide | exact bL hB _ (by decide)) ?_
                refine y_iload2 (q := 91) C 52 rfl rfl ?_
                refine x_iald (q := 92) C 53 rfl rfl (by first | assumption | rfl | decide | exact bL hB _ (by decide)) (by first | assumption | rfl | decide | exact bL hB _ (by decide)) (by (first | rw [bn24 hB] | rw [bn40 hB] | rw [bn56 hB] | rw [bn72 hB] | rw [bn27 hB] | rw [bn43 hB] | rw [bn25 hB] | rw [bn41 hB] | rw [bn88 hB] | rw [bn104 hB] | rw [bn120 hB] | rw [bn136 hB] | rw [bn152 hB] | rw [bn168 hB]); first | assumption | exact vp_in_nI (by omega) (by decide)) ?_
                rw [nI_clamp (by omega)]
                rw [hq2]
                refine y_iload3 (q := 93) C 54 rfl rfl ?_
                refine y_cV3 (q := 96) C 55 rfl rfl ml_RX1_82 cd_X1_cross cv_X1_cross ⟨by decide, rfl⟩ (by first | assumption | rfl | decide | exact bL hB _ (by decide)) (by decide) (by decide) (Nat.le_of_ble_eq_true rfl) (s_X1_cross (by omega) (by omega) (by omega) hB ?_)
                show aj_X G 96 _ _ _ _ _ _ _ _ _
                refine x_if_gt (q := 99) (t := 101) C 56 rfl (by decide) rfl (fun c5 => ?_) (fun c5 => ?_)
                · skip
                  refine y_iinc1 (q := 104) C 59 rfl rfl (nI_1 j) (Nat.le_of_ble_eq_true rfl) rfl ?_
                  refine x_goto (t := 2) C 60 rfl (by decide) ?_
                  exact ih (j + 1) _ _ rfl (by omega)
                · skip
                  refine x_iconst (q := 100) C 57 (n := (0)) (v := (0)) rfl rfl rfl ?_
                  exact x_ireturn C Z 58 rfl rfl rfl (hK false)
            · skip
              exact absurd (nI_le (by omega) (by omega)) c3
          | succ mi ihi =>
            intro k hk
            refine y_iload3 (q := 22) C 13 rfl rfl ?_
            refine y_aload0 (q := 23) C 14 rfl rfl ?_
            refine x_getI (q := 26) C 15 rfl rfl fl_RX1_32 (fun _ _ => rfl) (by first | assumption | rfl | decide | exact bL hB _ (by decide)) (by first | assumption | rfl | decide | exact bL hB _ (by decide)) ?_
            rw [hc]
            refine x_icmp_ge (q := 29) (t := 57) C 16 rfl (by decide) rfl (fun c6 => ?_) (fun c6 => ?_)
            · skip
              exact absurd c6 (nI_ge (by omega) (by omega))
            · skip
              refine y_aload0 (q := 30) C 17 rfl rfl ?_
              refine y_aload0 (q := 31) C 18 rfl rfl ?_
              refine x_getR (q := 34) C 19 rfl rfl fl_RX1_19 (bv_2_5 hB) (fun _ _ => rfl) (by first | assumption | rfl | decide | exact bL hB _ (by decide)) (by first | assumption | rfl | decide | exact bL hB _ (by decide)) ?_
              refine y_iload1 (q := 35) C 20 rfl rfl ?_
              refine x_iald (q := 36) C 21 rfl rfl (by first | assumption | rfl | decide | exact bL hB _ (by decide)) (by first | assumption | rfl | decide | exact bL hB _ (by decide)) (by (first | rw [bn24 hB] | rw [bn40 hB] | rw [bn56 hB] | rw [bn72 hB] | rw [bn27 hB] | rw [bn43 hB] | rw [bn25 hB] | rw [bn41 hB] | rw [bn88 hB] | rw [bn104 hB] | rw [bn120 hB] | rw [bn136 hB] | rw [bn152 hB] | rw [bn168 hB]); first | assumption | exact vp_in_nI (by omega) (by decide)) ?_
              rw [nI_clamp (by omega)]
              rw [hq1]
              refine y_aload0 (q := 37) C 22 rfl rfl ?_
              refine x_getR (q := 40) C 23 rfl rfl fl_RX1_19 (bv_2_5 hB) (fun _ _ => rfl) (by first | assumption | rfl | decide | exact bL hB _ (by decide)) (by first | assumption | rfl | decide | exact bL hB _ (by decide)) ?_
              refine y_iload2 (q := 41) C 24 rfl rfl ?_
              refine x_iald (q := 42) C 25 rfl rfl (by first | assumption | rfl | decide | exact bL hB _ (by decide)) (by first | assumption | rfl | decide | exact bL hB _ (by decide)) (by (first | rw [bn24 hB] | rw [bn40 hB] | rw [bn56 hB] | rw [bn72 hB] | rw [bn27 hB] | rw [bn43 hB] | rw [bn25 hB] | rw [bn41 hB] | rw [bn88 hB] | rw [bn104 hB] | rw [bn120 hB] | rw [bn136 hB] | rw [bn152 hB] | rw [bn168 hB]); first | assumption | exact vp_in_nI (by omega) (by decide)) ?_
              rw [nI_clamp (by omega)]
              rw [hq2]
              refine y_iload3 (q := 43) C 26 rfl rfl ?_
              refine y_cV3 (q := 46) C 27 rfl rfl ml_RX1_82 cd_X1_cross cv_X1_cross ⟨by decide, rfl⟩ (by first | assumption | rfl | decide | exact bL hB _ (by decide)) (by decide) (by decide) (Nat.le_of_ble_eq_true rfl) (s_X1_cross (by omega) (by omega) (by omega) hB ?_)
              show aj_X G 46 _ _ _ _ _ _ _ _ _
              refine x_if_ge (q := 49) (t := 51) C 28 rfl (by decide) rfl (fun c7 => ?_) (fun c7 => ?_)
              · skip
                refine y_iinc3 (q := 54) C 31 rfl rfl (nI_1 k) (Nat.le_of_ble_eq_true rfl) rfl ?_
                refine x_goto (t := 21) C 32 rfl (by decide) ?_
                exact ihi (k + 1) (by omega)
              · skip
                refine x_iconst (q := 50) C 29 (n := (0)) (v := (0)) rfl rfl rfl ?_
                exact x_ireturn C Z 30 rfl rfl rfl (hK false)
        exact lp21 n 0 (by omega)
  exact lp2 qc 0 _ _ rfl (by omega)
set_option maxRecDepth 100000 in
set_option maxHeartbeats 800000 in
theorem s_X1_isStarSound {l : Launch} {I : Nat → Nat → Int32} {J : Nat → Nat → Int64} {V : Nat → Nat → Option Nat} {N : Nat → Nat} {L : List Nat} {K : aj_K} {n : Nat} (hn : n ≤ 12) (hf : fW I n) (hB : bV V N L) (hK : ∀ (b : Bool) (I1 : Nat → Nat → Int32), eqO sX I I1 → K (.inl (some (.int (bI b)))) I1 J V N L) : aj_M l yX1_isStarSound (aj_wc yX1_isStarSound cX1_isStarSound 2 (some .boolean)) (aj_rm 4 0 0) [] [.ref 18] I J V N L K := by
  refine aj_intro (tbl := t_X1_isStarSound) (lv0 := [some (.ref 18), none]) (by decide) T_X1_isStarSound aj_f0 (Nat.le_of_ble_eq_true rfl) rfl ?_
  intro G hl C Z NX hnm hGL hGF
  have C : aj_C G cX1_isStarSound t_X1_isStarSound RX1 (aj_rm 4 0 0) 2 := C
  refine y_aload0 (q := 1) C 0 rfl rfl ?_
  refine y_cV0 (q := 4) C 1 rfl rfl ml_RX1_105 cd_X1_isRoundStar cv_X1_isRoundStar ⟨by decide, rfl⟩ (by first | assumption | rfl | decide | exact bL hB _ (by decide)) (by decide) (by decide) (Nat.le_of_ble_eq_true rfl) (s_X1_isRoundStar hn hf hB ?_)
  intro b1 I1 hE1
  show aj_X G 4 _ _ _ _ _ _ _ _ _
  refine x_if_neB (q := 7) (t := 9) C 2 rfl (by decide) rfl (fun c1 => ?_) (fun c1 => ?_)
  · skip
    refine y_aload0 (q := 10) C 5 rfl rfl ?_
    refine y_cV0 (q := 13) C 6 rfl rfl ml_RX1_109 cd_X1_areaOfStar cv_X1_areaOfStar ⟨by decide, rfl⟩ (by first | assumption | rfl | decide | exact bL hB _ (by decide)) (by decide) (by decide) (Nat.le_of_ble_eq_true rfl) (s_X1_areaOfStar hn (hf.eqS hE1 (by decide) (by decide) (by decide) (by decide) (by decide)) hB ?_)
    intro r2 I2 hE2
    show aj_X G 13 _ _ _ _ _ _ _ _ _
    refine y_istore1 (q := 14) C 7 rfl rfl (Nat.le_of_ble_eq_true rfl) rfl ?_
    refine y_iload1 (q := 15) C 8 rfl rfl ?_
    refine x_if_le (q := 18) (t := 30) C 9 rfl (by decide) rfl (fun c2 => ?_) (fun c2 => ?_)
    · skip
      refine x_iconst (q := 31) C 16 (n := (0)) (v := (0)) rfl rfl rfl ?_
      exact x_ireturn C Z 17 rfl rfl (by first | rfl | exact bI_nar _) (hK false I2 (eqO.tr hE1 hE2))
    · skip
      refine y_iload1 (q := 19) C 10 rfl rfl ?_
      refine y_aload0 (q := 20) C 11 rfl rfl ?_
      refine y_cV0 (q := 23) C 12 rfl rfl ml_RX1_112 cd_X1_areaOfHull cv_X1_areaOfHull ⟨by decide, rfl⟩ (by first | assumption | rfl | decide | exact bL hB _ (by decide)) (by decide) (by decide) (Nat.le_of_ble_eq_true rfl) (s_X1_areaOfHull hn ((hf.eqS hE1 (by decide) (by decide) (by decide) (by decide) (by decide)).eqS hE2 (by decide) (by decide) (by decide) (by decide) (by decide)) hB ?_)
      intro r3
      show aj_X G 23 _ _ _ _ _ _ _ _ _
      refine x_icmp_gt (q := 26) (t := 30) C 13 rfl (by decide) rfl (fun c3 => ?_) (fun c3 => ?_)
      · skip
        refine x_iconst (q := 31) C 16 (n := (0)) (v := (0)) rfl rfl rfl ?_
        exact x_ireturn C Z 17 rfl rfl (by first | rfl | exact bI_nar _) (hK false I2 (eqO.tr hE1 hE2))
      · skip
        refine x_iconst (q := 27) C 14 (n := (1)) (v := (1)) rfl rfl rfl ?_
        refine x_goto (t := 31) C 15 rfl (by decide) ?_
        exact x_ireturn C Z 17 rfl rfl (by first | rfl | exact bI_nar _) (hK true I2 (eqO.tr hE1 hE2))
  · skip
    refine x_iconst (q := 8) C 3 (n := (1)) (v := (1)) rfl rfl rfl ?_
    exact x_ireturn C Z 4 rfl rfl (by first | rfl | exact bI_nar _) (hK true I1 hE1)
