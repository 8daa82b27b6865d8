set_option maxRecDepth 100000 in
set_option maxHeartbeats 800000 in
theorem s_X5_addSteps {l : Launch} {I : Nat → Nat → Int32} {J : Nat → Nat → Int64} {V : Nat → Nat → Option Nat} {N : Nat → Nat} {L : List Nat} {K : aj_K} {x y z : Int32} (hM : mI I) (hO : cOk (cV I)) (hB : bV V N L) (hK : ∀ (r : Int32) I1 J1, mC I J I1 J1 (nxS (ckI x && (ckI y && ckI z)) z (addT (cV I (nn x)) (cV I (nn y))) (cV I)) → I1 22 0 = cd1 (ckI x && (ckI y && ckI z)) → (cd1 (ckI x && (ckI y && ckI z)) = 0 → r = anS z (addT (cV I (nn x)) (cV I (nn y))) (cV I)) → K (.inl (some (.int r))) I1 J1 V N L) : aj_M l yX5_addSteps (aj_wc yX5_addSteps cX5_addSteps 5 (some .int)) (aj_rm 6 0 0) [] [.ref 22, .int x, .int y, .int z] I J V N L K := by
  refine aj_intro (tbl := t_X5_addSteps) (lv0 := [some (.ref 22), some (.int x), some (.int y), some (.int z), none]) (by decide) T_X5_addSteps aj_f0 (Nat.le_of_ble_eq_true rfl) rfl ?_
  intro G hl C Z NX hnm hGL hGF
  have C : aj_C G cX5_addSteps t_X5_addSteps RX5 (aj_rm 6 0 0) 5 := C
  refine y_aload0 (q := 1) C 0 rfl rfl ?_
  refine y_iload1 (q := 2) C 1 rfl rfl ?_
  refine y_cS1 (q := 5) C 2 rfl rfl ml_RX5_132 cd_X5_isNoCell sv_X5_isNoCell (by decide) (by decide) (Nat.le_of_ble_eq_true rfl) (s_X5_isNoCell ?_)
  show aj_X G 5 _ _ _ _ _ _ _ _ _
  refine x_if_neB (q := 8) (t := 22) C 3 rfl (by decide) rfl (fun c1 => ?_) (fun c1 => ?_)
  · skip
    refine x_iconst (q := 23) C 10 (n := (1)) (v := (1)) rfl rfl rfl ?_
    refine x_goto (t := 27) C 11 rfl (by decide) ?_
    refine x_iconst (q := 28) C 13 (n := (1)) (v := (1)) rfl rfl rfl ?_
    refine y_cV2 (q := 31) C 14 rfl rfl ml_RX5_135 cd_X5_start cv_X5_start ⟨by decide, rfl⟩ (by first | assumption | rfl | decide | exact bL hB _ (by decide)) (by decide) (by decide) (Nat.le_of_ble_eq_true rfl) (s_X5_start (b := true) (by decide) hB ?_)
    show aj_X G 31 _ _ _ _ _ _ _ _ _
    refine x_if_eqB (q := 34) (t := 36) C 15 rfl (by decide) rfl (fun c2 => ?_) (fun c2 => ?_)
    · skip
      exact absurd c2 (by decide)
    · skip
      refine x_iconst (q := 35) C 16 (n := (0)) (v := (0)) rfl rfl rfl ?_
      exact x_ireturn C Z 17 rfl rfl rfl (hK _ _ _ (mC.no (mR.th hM) (nxS_f (and_f1 (ckm_f (by assumption))))) (by rw [cd1_f (and_f1 (ckm_f (by assumption)))]; exact tH_t rfl) (cd1_n (and_f1 (ckm_f (by assumption)))))
  · skip
    refine y_iload2 (q := 9) C 4 rfl rfl ?_
    refine y_cS1 (q := 12) C 5 rfl rfl ml_RX5_132 cd_X5_isNoCell sv_X5_isNoCell (by decide) (by decide) (Nat.le_of_ble_eq_true rfl) (s_X5_isNoCell ?_)
    show aj_X G 12 _ _ _ _ _ _ _ _ _
    refine x_if_neB (q := 15) (t := 22) C 6 rfl (by decide) rfl (fun c3 => ?_) (fun c3 => ?_)
    · skip
      refine x_iconst (q := 23) C 10 (n := (1)) (v := (1)) rfl rfl rfl ?_
      refine x_goto (t := 27) C 11 rfl (by decide) ?_
      refine x_iconst (q := 28) C 13 (n := (1)) (v := (1)) rfl rfl rfl ?_
      refine y_cV2 (q := 31) C 14 rfl rfl ml_RX5_135 cd_X5_start cv_X5_start ⟨by decide, rfl⟩ (by first | assumption | rfl | decide | exact bL hB _ (by decide)) (by decide) (by decide) (Nat.le_of_ble_eq_true rfl) (s_X5_start (b := true) (by decide) hB ?_)
      show aj_X G 31 _ _ _ _ _ _ _ _ _
      refine x_if_eqB (q := 34) (t := 36) C 15 rfl (by decide) rfl (fun c4 => ?_) (fun c4 => ?_)
      · skip
        exact absurd c4 (by decide)
      · skip
        refine x_iconst (q := 35) C 16 (n := (0)) (v := (0)) rfl rfl rfl ?_
        exact x_ireturn C Z 17 rfl rfl rfl (hK _ _ _ (mC.no (mR.th hM) (nxS_f (and_f2 (and_f1 (ckm_f (by assumption)))))) (by rw [cd1_f (and_f2 (and_f1 (ckm_f (by assumption))))]; exact tH_t rfl) (cd1_n (and_f2 (and_f1 (ckm_f (by assumption))))))
    · skip
      refine y_iload3 (q := 16) C 7 rfl rfl ?_
      refine y_cS1 (q := 19) C 8 rfl rfl ml_RX5_132 cd_X5_isNoCell sv_X5_isNoCell (by decide) (by decide) (Nat.le_of_ble_eq_true rfl) (s_X5_isNoCell ?_)
      show aj_X G 19 _ _ _ _ _ _ _ _ _
      refine x_if_eqB (q := 22) (t := 26) C 9 rfl (by decide) rfl (fun c5 => ?_) (fun c5 => ?_)
      · skip
        refine x_iconst (q := 27) C 12 (n := (0)) (v := (0)) rfl rfl rfl ?_
        refine x_iconst (q := 28) C 13 (n := (1)) (v := (1)) rfl rfl rfl ?_
        refine y_cV2 (q := 31) C 14 rfl rfl ml_RX5_135 cd_X5_start cv_X5_start ⟨by decide, rfl⟩ (by first | assumption | rfl | decide | exact bL hB _ (by decide)) (by decide) (by decide) (Nat.le_of_ble_eq_true rfl) (s_X5_start (b := false) (by decide) hB ?_)
        show aj_X G 31 _ _ _ _ _ _ _ _ _
        refine x_if_eqB (q := 34) (t := 36) C 15 rfl (by decide) rfl (fun c6 => ?_) (fun c6 => ?_)
        · skip
          rw [tH_f]
          have hR0 : mR I J (aj_u I 22 0 0) J := mR.t hM
          have hT : aj_u I 22 0 0 22 0 = 0 := aj_u_s _ _ _ _
          generalize aj_u I 22 0 0 = I0 at hR0 hT ⊢
          obtain ⟨j, hj, rfl⟩ := nC (x := x) (by assumption)
          obtain ⟨k, hk, rfl⟩ := nC (x := y) (by assumption)
          obtain ⟨i, hi, rfl⟩ := nC (x := z) (by assumption)
          rw [add_e hR0 hj hk] at hK
          refine y_aload0 (q := 37) C 18 rfl rfl ?_
          refine x_getR (q := 40) C 19 rfl rfl fl_RX5_16 (bv_6_3 hB) (fun _ _ => rfl) (by first | assumption | rfl | decide | exact bL hB _ (by decide)) (by first | assumption | rfl | decide | exact bL hB _ (by decide)) ?_
          refine y_iload1 (q := 41) C 20 rfl rfl ?_
          refine x_iald (q := 42) C 21 rfl rfl (by first | assumption | rfl | decide | exact bL hB _ (by decide)) (by first | assumption | rfl | decide | exact bL hB _ (by decide)) (by (first | rw [bn24 hB] | rw [bn40 hB] | rw [bn56 hB] | rw [bn72 hB] | rw [bn27 hB] | rw [bn43 hB] | rw [bn25 hB] | rw [bn41 hB] | rw [bn88 hB] | rw [bn104 hB] | rw [bn120 hB] | rw [bn136 hB] | rw [bn152 hB] | rw [bn168 hB]); first | assumption | exact vp_in_nI (by omega) (by decide)) ?_
          rw [nI_clamp (by omega)]
          refine y_aload0 (q := 43) C 22 rfl rfl ?_
          refine x_getR (q := 46) C 23 rfl rfl fl_RX5_16 (bv_6_3 hB) (fun _ _ => rfl) (by first | assumption | rfl | decide | exact bL hB _ (by decide)) (by first | assumption | rfl | decide | exact bL hB _ (by decide)) ?_
          refine y_iload2 (q := 47) C 24 rfl rfl ?_
          refine x_iald (q := 48) C 25 rfl rfl (by first | assumption | rfl | decide | exact bL hB _ (by decide)) (by first | assumption | rfl | decide | exact bL hB _ (by decide)) (by (first | rw [bn24 hB] | rw [bn40 hB] | rw [bn56 hB] | rw [bn72 hB] | rw [bn27 hB] | rw [bn43 hB] | rw [bn25 hB] | rw [bn41 hB] | rw [bn88 hB] | rw [bn104 hB] | rw [bn120 hB] | rw [bn136 hB] | rw [bn152 hB] | rw [bn168 hB]); first | assumption | exact vp_in_nI (by omega) (by decide)) ?_
          rw [nI_clamp (by omega)]
          refine x_iand (q := 49) C 26 rfl rfl ?_
          refine y_istore4 (q := 51) C 27 rfl rfl (Nat.le_of_ble_eq_true rfl) rfl ?_
          refine y_aload0 (q := 52) C 28 rfl rfl ?_
          refine y_iload3 (q := 53) C 29 rfl rfl ?_
          refine y_aload0 (q := 54) C 30 rfl rfl ?_
          refine x_getR (q := 57) C 31 rfl rfl fl_RX5_9 (bv_6_1 hB) (fun _ _ => rfl) (by first | assumption | rfl | decide | exact bL hB _ (by decide)) (by first | assumption | rfl | decide | exact bL hB _ (by decide)) ?_
          refine y_iload1 (q := 58) C 32 rfl rfl ?_
          refine x_iald (q := 59) C 33 rfl rfl (by first | assumption | rfl | decide | exact bL hB _ (by decide)) (by first | assumption | rfl | decide | exact bL hB _ (by decide)) (by (first | rw [bn24 hB] | rw [bn40 hB] | rw [bn56 hB] | rw [bn72 hB] | rw [bn27 hB] | rw [bn43 hB] | rw [bn25 hB] | rw [bn41 hB] | rw [bn88 hB] | rw [bn104 hB] | rw [bn120 hB] | rw [bn136 hB] | rw [bn152 hB] | rw [bn168 hB]); first | assumption | exact vp_in_nI (by omega) (by decide)) ?_
          rw [nI_clamp (by omega)]
          refine y_aload0 (q := 60) C 34 rfl rfl ?_
          refine x_getR (q := 63) C 35 rfl rfl fl_RX5_9 (bv_6_1 hB) (fun _ _ => rfl) (by first | assumption | rfl | decide | exact bL hB _ (by decide)) (by first | assumption | rfl | decide | exact bL hB _ (by decide)) ?_
          refine y_iload2 (q := 64) C 36 rfl rfl ?_
          refine x_iald (q := 65) C 37 rfl rfl (by first | assumption | rfl | decide | exact bL hB _ (by decide)) (by first | assumption | rfl | decide | exact bL hB _ (by decide)) (by (first | rw [bn24 hB] | rw [bn40 hB] | rw [bn56 hB] | rw [bn72 hB] | rw [bn27 hB] | rw [bn43 hB] | rw [bn25 hB] | rw [bn41 hB] | rw [bn88 hB] | rw [bn104 hB] | rw [bn120 hB] | rw [bn136 hB] | rw [bn152 hB] | rw [bn168 hB]); first | assumption | exact vp_in_nI (by omega) (by decide)) ?_
          rw [nI_clamp (by omega)]
          refine x_iadd (q := 66) C 38 rfl rfl ?_
          refine y_aload0 (q := 67) C 39 rfl rfl ?_
          refine x_getR (q := 70) C 40 rfl rfl fl_RX5_13 (bv_6_2 hB) (fun _ _ => rfl) (by first | assumption | rfl | decide | exact bL hB _ (by decide)) (by first | assumption | rfl | decide | exact bL hB _ (by decide)) ?_
          refine y_iload1 (q := 71) C 41 rfl rfl ?_
          refine x_iald (q := 72) C 42 rfl rfl (by first | assumption | rfl | decide | exact bL hB _ (by decide)) (by first | assumption | rfl | decide | exact bL hB _ (by decide)) (by (first | rw [bn24 hB] | rw [bn40 hB] | rw [bn56 hB] | rw [bn72 hB] | rw [bn27 hB] | rw [bn43 hB] | rw [bn25 hB] | rw [bn41 hB] | rw [bn88 hB] | rw [bn104 hB] | rw [bn120 hB] | rw [bn136 hB] | rw [bn152 hB] | rw [bn168 hB]); first | assumption | exact vp_in_nI (by omega) (by decide)) ?_
          rw [nI_clamp (by omega)]
          refine y_aload0 (q := 73) C 43 rfl rfl ?_
          refine x_getR (q := 76) C 44 rfl rfl fl_RX5_13 (bv_6_2 hB) (fun _ _ => rfl) (by first | assumption | rfl | decide | exact bL hB _ (by decide)) (by first | assumption | rfl | decide | exact bL hB _ (by decide)) ?_
          refine y_iload2 (q := 77) C 45 rfl rfl ?_
          refine x_iald (q := 78) C 46 rfl rfl (by first | assumption | rfl | decide | exact bL hB _ (by decide)) (by first | assumption | rfl | decide | exact bL hB _ (by decide)) (by (first | rw [bn24 hB] | rw [bn40 hB] | rw [bn56 hB] | rw [bn72 hB] | rw [bn27 hB] | rw [bn43 hB] | rw [bn25 hB] | rw [bn41 hB] | rw [bn88 hB] | rw [bn104 hB] | rw [bn120 hB] | rw [bn136 hB] | rw [bn152 hB] | rw [bn168 hB]); first | assumption | exact vp_in_nI (by omega) (by decide)) ?_
          rw [nI_clamp (by omega)]
          refine x_iadd (q := 79) C 47 rfl rfl ?_
          refine y_iload4 (q := 81) C 48 rfl rfl ?_
          refine x_iconst (q := 82) C 49 (n := (1)) (v := (1)) rfl rfl rfl ?_
          refine x_iand (q := 83) C 50 rfl rfl ?_
          refine y_iload4 (q := 85) C 51 rfl rfl ?_
          refine x_iconst (q := 86) C 52 (n := (1)) (v := (1)) rfl rfl rfl ?_
          refine x_ishr (q := 87) C 53 rfl rfl ?_
          refine y_cV5 (q := 90) C 54 rfl rfl ml_RX5_146 cd_X5_moveTo cv_X5_moveTo ⟨by decide, rfl⟩ (by first | assumption | rfl | decide | exact bL hB _ (by decide)) (by decide) (by decide) (Nat.le_of_ble_eq_true rfl) (s_X5_moveTo hi (zOk_v (sOk_and (hO_s hR0 hO hj) (hO_s hR0 hO hk))) hR0.2.1 hB ?_)
          intro r I1 J1 hC1 hc1 hr1
          show aj_X G 90 _ _ _ _ _ _ _ _ _
          exact x_ireturn C Z 55 rfl rfl rfl (hK _ _ _ (mC.pj hR0 hC1 (and_t (ckI_t hj) (and_t (ckI_t hk) (ckI_t hi))) hi) (by rw [cd1_t (and_t (ckI_t hj) (and_t (ckI_t hk) (ckI_t hi)))]; exact hc1.trans hT) (fun _ => hr1.trans (an_pj hR0 hi)))
        · skip
          exact absurd c6 (by decide)
      · skip
        refine x_iconst (q := 23) C 10 (n := (1)) (v := (1)) rfl rfl rfl ?_
        refine x_goto (t := 27) C 11 rfl (by decide) ?_
        refine x_iconst (q := 28) C 13 (n := (1)) (v := (1)) rfl rfl rfl ?_
        refine y_cV2 (q := 31) C 14 rfl rfl ml_RX5_135 cd_X5_start cv_X5_start ⟨by decide, rfl⟩ (by first | assumption | rfl | decide | exact bL hB _ (by decide)) (by decide) (by decide) (Nat.le_of_ble_eq_true rfl) (s_X5_start (b := true) (by decide) hB ?_)
        show aj_X G 31 _ _ _ _ _ _ _ _ _
        refine x_if_eqB (q := 34) (t := 36) C 15 rfl (by decide) rfl (fun c7 => ?_) (fun c7 => ?_)
        · skip
          exact absurd c7 (by decide)
        · skip
          refine x_iconst (q := 35) C 16 (n := (0)) (v := (0)) rfl rfl rfl ?_
          exact x_ireturn C Z 17 rfl rfl rfl (hK _ _ _ (mC.no (mR.th hM) (nxS_f (and_f2 (and_f2 (ckm_f (by assumption)))))) (by rw [cd1_f (and_f2 (and_f2 (ckm_f (by assumption))))]; exact tH_t rfl) (cd1_n (and_f2 (and_f2 (ckm_f (by assumption))))))
set_option maxRecDepth 100000 in
set_option maxHeartbeats 800000 in
theorem s_X5_takeStep {l : Launch} {I : Nat → Nat → Int32} {J : Nat → Nat → Int64} {V : Nat → Nat → Option Nat} {N : Nat → Nat} {L : List Nat} {K : aj_K} {x p q : Int32} (hM : mI I) (hB : bV V N L) (hK : ∀ (r : Int32) I1 J1, mC I J I1 J1 (nxS (ckI x && (vOk (vN (kV I)) p && vOk (vN (kV I)) q)) x (stpT p q (kV I)) (cV I)) → I1 22 0 = cd1 (ckI x && (vOk (vN (kV I)) p && vOk (vN (kV I)) q)) → (cd1 (ckI x && (vOk (vN (kV I)) p && vOk (vN (kV I)) q)) = 0 → r = anS x (stpT p q (kV I)) (cV I)) → K (.inl (some (.int r))) I1 J1 V N L) : aj_M l yX5_takeStep (aj_wc yX5_takeStep cX5_takeStep 4 (some .int)) (aj_rm 5 0 0) [] [.ref 22, .int x, .int p, .int q] I J V N L K := by
  refine aj_intro (tbl := t_X5_takeStep) (lv0 := [some (.ref 22), some (.int x), some (.int p), some (.int q)]) (by decide) T_X5_takeStep aj_f0 (Nat.le_of_ble_eq_true rfl) rfl ?_
  intro G hl C Z NX hnm hGL hGF
  have C : aj_C G cX5_takeStep t_X5_takeStep RX5 (aj_rm 5 0 0) 4 := C
  obtain ⟨n, hn, he⟩ := hM.2.1
  refine y_aload0 (q := 1) C 0 rfl rfl ?_
  refine y_iload1 (q := 2) C 1 rfl rfl ?_
  refine y_cS1 (q := 5) C 2 rfl rfl ml_RX5_132 cd_X5_isNoCell sv_X5_isNoCell (by decide) (by decide) (Nat.le_of_ble_eq_true rfl) (s_X5_isNoCell ?_)
  show aj_X G 5 _ _ _ _ _ _ _ _ _
  refine x_if_neB (q := 8) (t := 24) C 3 rfl (by decide) rfl (fun c1 => ?_) (fun c1 => ?_)
  · skip
    refine x_iconst (q := 25) C 12 (n := (1)) (v := (1)) rfl rfl rfl ?_
    refine x_goto (t := 29) C 13 rfl (by decide) ?_
    refine x_iconst (q := 30) C 15 (n := (1)) (v := (1)) rfl rfl rfl ?_
    refine y_cV2 (q := 33) C 16 rfl rfl ml_RX5_135 cd_X5_start cv_X5_start ⟨by decide, rfl⟩ (by first | assumption | rfl | decide | exact bL hB _ (by decide)) (by decide) (by decide) (Nat.le_of_ble_eq_true rfl) (s_X5_start (b := true) (by decide) hB ?_)
    show aj_X G 33 _ _ _ _ _ _ _ _ _
    refine x_if_eqB (q := 36) (t := 40) C 17 rfl (by decide) rfl (fun c2 => ?_) (fun c2 => ?_)
    · skip
      exact absurd c2 (by decide)
    · skip
      refine x_iconst (q := 37) C 18 (n := (0)) (v := (0)) rfl rfl rfl ?_
      refine x_goto (t := 73) C 19 rfl (by decide) ?_
      exact x_ireturn C Z 43 rfl rfl rfl (hK _ _ _ (mC.no (mR.th hM) (nxS_f (and_f1 (ckm_f (by assumption))))) (by rw [cd1_f (and_f1 (ckm_f (by assumption)))]; exact tH_t rfl) (cd1_n (and_f1 (ckm_f (by assumption)))))
  · skip
    refine y_aload0 (q := 9) C 4 rfl rfl ?_
    refine y_iload2 (q := 10) C 5 rfl rfl ?_
    refine y_cV1 (q := 13) C 6 rfl rfl ml_RX5_149 cd_X5_isNoPlace cv_X5_isNoPlace ⟨by decide, rfl⟩ (by first | assumption | rfl | decide | exact bL hB _ (by decide)) (by decide) (by decide) (Nat.le_of_ble_eq_true rfl) (s_X5_isNoPlace (by first | assumption | rfl | decide | exact bL hB _ (by decide)) ?_)
    show aj_X G 13 _ _ _ _ _ _ _ _ _
    refine x_if_neB (q := 16) (t := 24) C 7 rfl (by decide) rfl (fun c3 => ?_) (fun c3 => ?_)
    · skip
      refine x_iconst (q := 25) C 12 (n := (1)) (v := (1)) rfl rfl rfl ?_
      refine x_goto (t := 29) C 13 rfl (by decide) ?_
      refine x_iconst (q := 30) C 15 (n := (1)) (v := (1)) rfl rfl rfl ?_
      refine y_cV2 (q := 33) C 16 rfl rfl ml_RX5_135 cd_X5_start cv_X5_start ⟨by decide, rfl⟩ (by first | assumption | rfl | decide | exact bL hB _ (by decide)) (by decide) (by decide) (Nat.le_of_ble_eq_true rfl) (s_X5_start (b := true) (by decide) hB ?_)
      show aj_X G 33 _ _ _ _ _ _ _ _ _
      refine x_if_eqB (q := 36) (t := 40) C 17 rfl (by decide) rfl (fun c4 => ?_) (fun c4 => ?_)
      · skip
        exact absurd c4 (by decide)
      · skip
        refine x_iconst (q := 37) C 18 (n := (0)) (v := (0)) rfl rfl rfl ?_
        refine x_goto (t := 73) C 19 rfl (by decide) ?_
        exact x_ireturn C Z 43 rfl rfl rfl (hK _ _ _ (mC.no (mR.th hM) (nxS_f (and_f2 (and_f1 (kV.okf hn he (by assumption)))))) (by rw [cd1_f (and_f2 (and_f1 (kV.okf hn he (by assumption))))]; exact tH_t rfl) (cd1_n (and_f2 (and_f1 (kV.okf hn he (by assumption))))))
    · skip
      refine y_aload0 (q := 17) C 8 rfl rfl ?_
      refine y_iload3 (q := 18) C 9 rfl rfl ?_
      refine y_cV1 (q := 21) C 10 rfl rfl ml_RX5_149 cd_X5_isNoPlace cv_X5_isNoPlace ⟨by decide, rfl⟩ (by first | assumption | rfl | decide | exact bL hB _ (by decide)) (by decide) (by decide) (Nat.le_of_ble_eq_true rfl) (s_X5_isNoPlace (by first | assumption | rfl | decide | exact bL hB _ (by decide)) ?_)
      show aj_X G 21 _ _ _ _ _ _ _ _ _
      refine x_if_eqB (q := 24) (t := 28) C 11 rfl (by decide) rfl (fun c5 => ?_) (fun c5 => ?_)
      · skip
        refine x_iconst (q := 29) C 14 (n := (0)) (v := (0)) rfl rfl rfl ?_
        refine x_iconst (q := 30) C 15 (n := (1)) (v := (1)) rfl rfl rfl ?_
        refine y_cV2 (q := 33) C 16 rfl rfl ml_RX5_135 cd_X5_start cv_X5_start ⟨by decide, rfl⟩ (by first | assumption | rfl | decide | exact bL hB _ (by decide)) (by decide) (by decide) (Nat.le_of_ble_eq_true rfl) (s_X5_start (b := false) (by decide) hB ?_)
        show aj_X G 33 _ _ _ _ _ _ _ _ _
        refine x_if_eqB (q := 36) (t := 40) C 17 rfl (by decide) rfl (fun c6 => ?_) (fun c6 => ?_)
        · skip
          rw [tH_f]
          have hR0 : mR I J (aj_u I 22 0 0) J := mR.t hM
          have hT : aj_u I 22 0 0 22 0 = 0 := aj_u_s _ _ _ _
          have he0 : aj_u I 22 0 0 22 7 = nI n := (aj_u_k _ _ _ (by decide)).trans he
          generalize aj_u I 22 0 0 = I0 at hR0 hT he0 ⊢
          obtain ⟨i, hi, rfl⟩ := nC (x := x) (by assumption)
          obtain ⟨j, hj, rfl⟩ := nP hn he (show (!pIn p 0 (I 22 7 - 1)) = false by assumption)
          obtain ⟨k, hk, rfl⟩ := nP hn he (show (!pIn q 0 (I 22 7 - 1)) = false by assumption)
          rw [stp_e hR0 hn he0 hj hk] at hK
          refine y_aload0 (q := 41) C 20 rfl rfl ?_
          refine y_iload1 (q := 42) C 21 rfl rfl ?_
          refine y_aload0 (q := 43) C 22 rfl rfl ?_
          refine x_getR (q := 46) C 23 rfl rfl fl_RX5_23 (bv_6_5 hB) (fun _ _ => rfl) (by first | assumption | rfl | decide | exact bL hB _ (by decide)) (by first | assumption | rfl | decide | exact bL hB _ (by decide)) ?_
          refine y_iload3 (q := 47) C 24 rfl rfl ?_
          refine x_iald (q := 48) C 25 rfl rfl (by first | assumption | rfl | decide | exact bL hB _ (by decide)) (by first | assumption | rfl | decide | exact bL hB _ (by decide)) (by (first | rw [bn24 hB] | rw [bn40 hB] | rw [bn56 hB] | rw [bn72 hB] | rw [bn27 hB] | rw [bn43 hB] | rw [bn25 hB] | rw [bn41 hB] | rw [bn88 hB] | rw [bn104 hB] | rw [bn120 hB] | rw [bn136 hB] | rw [bn152 hB] | rw [bn168 hB]); first | assumption | exact vp_in_nI (by omega) (by decide)) ?_
          rw [nI_clamp (by omega)]
          refine y_aload0 (q := 49) C 26 rfl rfl ?_
          refine x_getR (q := 52) C 27 rfl rfl fl_RX5_23 (bv_6_5 hB) (fun _ _ => rfl) (by first | assumption | rfl | decide | exact bL hB _ (by decide)) (by first | assumption | rfl | decide | exact bL hB _ (by decide)) ?_
          refine y_iload2 (q := 53) C 28 rfl rfl ?_
          refine x_iald (q := 54) C 29 rfl rfl (by first | assumption | rfl | decide | exact bL hB _ (by decide)) (by first | assumption | rfl | decide | exact bL hB _ (by decide)) (by (first | rw [bn24 hB] | rw [bn40 hB] | rw [bn56 hB] | rw [bn72 hB] | rw [bn27 hB] | rw [bn43 hB] | rw [bn25 hB] | rw [bn41 hB] | rw [bn88 hB] | rw [bn104 hB] | rw [bn120 hB] | rw [bn136 hB] | rw [bn152 hB] | rw [bn168 hB]); first | assumption | exact vp_in_nI (by omega) (by decide)) ?_
          rw [nI_clamp (by omega)]
          refine x_isub (q := 55) C 30 rfl rfl ?_
          refine y_aload0 (q := 56) C 31 rfl rfl ?_
          refine x_getR (q := 59) C 32 rfl rfl fl_RX5_26 (bv_6_6 hB) (fun _ _ => rfl) (by first | assumption | rfl | decide | exact bL hB _ (by decide)) (by first | assumption | rfl | decide | exact bL hB _ (by decide)) ?_
          refine y_iload3 (q := 60) C 33 rfl rfl ?_
          refine x_iald (q := 61) C 34 rfl rfl (by first | assumption | rfl | decide | exact bL hB _ (by decide)) (by first | assumption | rfl | decide | exact bL hB _ (by decide)) (by (first | rw [bn24 hB] | rw [bn40 hB] | rw [bn56 hB] | rw [bn72 hB] | rw [bn27 hB] | rw [bn43 hB] | rw [bn25 hB] | rw [bn41 hB] | rw [bn88 hB] | rw [bn104 hB] | rw [bn120 hB] | rw [bn136 hB] | rw [bn152 hB] | rw [bn168 hB]); first | assumption | exact vp_in_nI (by omega) (by decide)) ?_
          rw [nI_clamp (by omega)]
          refine y_aload0 (q := 62) C 35 rfl rfl ?_
          refine x_getR (q := 65) C 36 rfl rfl fl_RX5_26 (bv_6_6 hB) (fun _ _ => rfl) (by first | assumption | rfl | decide | exact bL hB _ (by decide)) (by first | assumption | rfl | decide | exact bL hB _ (by decide)) ?_
          refine y_iload2 (q := 66) C 37 rfl rfl ?_
          refine x_iald (q := 67) C 38 rfl rfl (by first | assumption | rfl | decide | exact bL hB _ (by decide)) (by first | assumption | rfl | decide | exact bL hB _ (by decide)) (by (first | rw [bn24 hB] | rw [bn40 hB] | rw [bn56 hB] | rw [bn72 hB] | rw [bn27 hB] | rw [bn43 hB] | rw [bn25 hB] | rw [bn41 hB] | rw [bn88 hB] | rw [bn104 hB] | rw [bn120 hB] | rw [bn136 hB] | rw [bn152 hB] | rw [bn168 hB]); first | assumption | exact vp_in_nI (by omega) (by decide)) ?_
          rw [nI_clamp (by omega)]
          refine x_isub (q := 68) C 39 rfl rfl ?_
          refine x_iconst (q := 69) C 40 (n := (0)) (v := (0)) rfl rfl rfl ?_
          refine x_iconst (q := 70) C 41 (n := (0)) (v := (0)) rfl rfl rfl ?_
          refine y_cV5 (q := 73) C 42 rfl rfl ml_RX5_138 cd_X5_move cv_X5_move ⟨by decide, rfl⟩ (by first | assumption | rfl | decide | exact bL hB _ (by decide)) (by decide) (by decide) (Nat.le_of_ble_eq_true rfl) (s_X5_move hi (pIn_sub (hR0.2.1.2.2.1 _ (by omega)).1 (hR0.2.1.2.2.1 _ (by omega)).1) (pIn_sub (hR0.2.1.2.2.1 _ (by omega)).2 (hR0.2.1.2.2.1 _ (by omega)).2) zOk_0 hR0.2.1 hB ?_)
          intro r I1 J1 hC1 hc1 hr1
          show aj_X G 73 _ _ _ _ _ _ _ _ _
          exact x_ireturn C Z 43 rfl rfl rfl (hK _ _ _ (mC.pj hR0 hC1 (and_t (ckI_t hi) (and_t (kV.okt hn he hj) (kV.okt hn he hk))) hi) (by rw [cd1_t (and_t (ckI_t hi) (and_t (kV.okt hn he hj) (kV.okt hn he hk)))]; exact hc1.trans hT) (fun _ => hr1.trans (an_pj hR0 hi)))
        · skip
          exact absurd c6 (by decide)
      · skip
        refine x_iconst (q := 25) C 12 (n := (1)) (v := (1)) rfl rfl rfl ?_
        refine x_goto (t := 29) C 13 rfl (by decide) ?_
        refine x_iconst (q := 30) C 15 (n := (1)) (v := (1)) rfl rfl rfl ?_
        refine y_cV2 (q := 33) C 16 rfl rfl ml_RX5_135 cd_X5_start cv_X5_start ⟨by decide, rfl⟩ (by first | assumption | rfl | decide | exact bL hB _ (by decide)) (by decide) (by decide) (Nat.le_of_ble_eq_true rfl) (s_X5_start (b := true) (by decide) hB ?_)
        show aj_X G 33 _ _ _ _ _ _ _ _ _
        refine x_if_eqB (q := 36) (t := 40) C 17 rfl (by decide) rfl (fun c7 => ?_) (fun c7 => ?_)
        · skip
          exact absurd c7 (by decide)
        · skip
          refine x_iconst (q := 37) C 18 (n := (0)) (v := (0)) rfl rfl rfl ?_
          refine x_goto (t := 73) C 19 rfl (by decide) ?_
          exact x_ireturn C Z 43 rfl rfl rfl (hK _ _ _ (mC.no (mR.th hM) (nxS_f (and_f2 (and_f2 (kV.okf hn he (by assumption)))))) (by rw [cd1_f (and_f2 (and_f2 (kV.okf hn he (by assumption))))]; exact tH_t rfl) (cd1_n (and_f2 (and_f2 (kV.okf hn he (by assumption))))))
set_option maxRecDepth 100000 in
set_option maxHeartbeats 800000 in
theorem s_X5_startTwo {l : Launch} {I : Nat → Nat → Int32} {J : Nat → Nat → Int64} {V : Nat → Nat → Option Nat} {N : Nat → Nat} {L : List Nat} {K : aj_K} {x y : Int32} (hB : bV V N L) (hK : K (.inl (some (.int (bI (pC2 x y))))) (tH (aj_u I 22 0 0) (pC2 x y) 1) J V N L) : aj_M l yX5_startTwo (aj_wc yX5_startTwo cX5_startTwo 3 (some .boolean)) (aj_rm 2 0 0) [] [.ref 22, .int x, .int y] I J V N L K := by
  refine aj_intro (tbl := t_X5_startTwo) (lv0 := [some (.ref 22), some (.int x), some (.int y)]) (by decide) T_X5_startTwo aj_f0 (Nat.le_of_ble_eq_true rfl) rfl ?_
  intro G hl C Z NX hnm hGL hGF
  have C : aj_C G cX5_startTwo t_X5_startTwo RX5 (aj_rm 2 0 0) 3 := C
  refine y_aload0 (q := 1) C 0 rfl rfl ?_
  refine y_iload1 (q := 2) C 1 rfl rfl ?_
  refine y_cS1 (q := 5) C 2 rfl rfl ml_RX5_132 cd_X5_isNoCell sv_X5_isNoCell (by decide) (by decide) (Nat.le_of_ble_eq_true rfl) (s_X5_isNoCell ?_)
  show aj_X G 5 _ _ _ _ _ _ _ _ _
  refine x_if_neB (q := 8) (t := 15) C 3 rfl (by decide) rfl (fun c1 => ?_) (fun c1 => ?_)
  · skip
    refine x_iconst (q := 16) C 7 (n := (1)) (v := (1)) rfl rfl rfl ?_
    refine x_goto (t := 20) C 8 rfl (by decide) ?_
    refine x_iconst (q := 21) C 10 (n := (1)) (v := (1)) rfl rfl rfl ?_
    refine y_cV2 (q := 24) C 11 rfl rfl ml_RX5_135 cd_X5_start cv_X5_start ⟨by decide, rfl⟩ (by first | assumption | rfl | decide | exact bL hB _ (by decide)) (by decide) (by decide) (Nat.le_of_ble_eq_true rfl) (s_X5_start (b := true) (by decide) hB ?_)
    show aj_X G 24 _ _ _ _ _ _ _ _ _
    exact x_ireturn C Z 12 rfl rfl (by first | rfl | exact bI_nar _) (by rw [show pC2 x y = true by unfold pC2; simp [*]] at hK; exact hK)
  · skip
    refine y_iload2 (q := 9) C 4 rfl rfl ?_
    refine y_cS1 (q := 12) C 5 rfl rfl ml_RX5_132 cd_X5_isNoCell sv_X5_isNoCell (by decide) (by decide) (Nat.le_of_ble_eq_true rfl) (s_X5_isNoCell ?_)
    show aj_X G 12 _ _ _ _ _ _ _ _ _
    refine x_if_eqB (q := 15) (t := 19) C 6 rfl (by decide) rfl (fun c2 => ?_) (fun c2 => ?_)
    · skip
      refine x_iconst (q := 20) C 9 (n := (0)) (v := (0)) rfl rfl rfl ?_
      refine x_iconst (q := 21) C 10 (n := (1)) (v := (1)) rfl rfl rfl ?_
      refine y_cV2 (q := 24) C 11 rfl rfl ml_RX5_135 cd_X5_start cv_X5_start ⟨by decide, rfl⟩ (by first | assumption | rfl | decide | exact bL hB _ (by decide)) (by decide) (by decide) (Nat.le_of_ble_eq_true rfl) (s_X5_start (b := false) (by decide) hB ?_)
      show aj_X G 24 _ _ _ _ _ _ _ _ _
      exact x_ireturn C Z 12 rfl rfl (by first | rfl | exact bI_nar _) (by rw [show pC2 x y = false by unfold pC2; simp [*]] at hK; exact hK)
    · skip
      refine x_iconst (q := 16) C 7 (n := (1)) (v := (1)) rfl rfl rfl ?_
      refine x_goto (t := 20) C 8 rfl (by decide) ?_
      refine x_iconst (q := 21) C 10 (n := (1)) (v := (1)) rfl rfl rfl ?_
      refine y_cV2 (q := 24) C 11 rfl rfl ml_RX5_135 cd_X5_start cv_X5_start ⟨by decide, rfl⟩ (by first | assumption | rfl | decide | exact bL hB _ (by decide)) (by decide) (by decide) (Nat.le_of_ble_eq_true rfl) (s_X5_start (b := true) (by decide) hB ?_)
      show aj_X G 24 _ _ _ _ _ _ _ _ _
      exact x_ireturn C Z 12 rfl rfl (by first | rfl | exact bI_nar _) (by rw [show pC2 x y = true by unfold pC2; simp [*]] at hK; exact hK)
set_option maxRecDepth 100000 in
set_option maxHeartbeats 800000 in
theorem s_X5_order {l : Launch} {I : Nat → Nat → Int32} {J : Nat → Nat → Int64} {V : Nat → Nat → Option Nat} {N : Nat → Nat} {L : List Nat} {K : aj_K} {x y t : Int32} (hM : mI I) (hB : bV V N L) (hK : ∀ (r : Int32) I1 J1, mR I J I1 J1 → I1 22 0 = cd2 (ckI x && ckI y) (pIn t 0 2) → (cd2 (ckI x && ckI y) (pIn t 0 2) = 0 → r = tO (cV I (nn x)) (cV I (nn y))) → K (.inl (some (.int r))) I1 J1 V N L) : aj_M l yX5_order (aj_wc yX5_order cX5_order 4 (some .int)) (aj_rm 3 0 0) [] [.ref 22, .int x, .int y, .int t] I J V N L K := by
  refine aj_intro (tbl := t_X5_order) (lv0 := [some (.ref 22), some (.int x), some (.int y), some (.int t)]) (by decide) T_X5_order aj_f0 (Nat.le_of_ble_eq_true rfl) rfl ?_
  intro G hl C Z NX hnm hGL hGF
  have C : aj_C G cX5_order t_X5_order RX5 (aj_rm 3 0 0) 4 := C
  refine y_aload0 (q := 1) C 0 rfl rfl ?_
  refine y_iload1 (q := 2) C 1 rfl rfl ?_
  refine y_iload2 (q := 3) C 2 rfl rfl ?_
  refine y_cV2 (q := 6) C 3 rfl rfl ml_RX5_162 cd_X5_startTwo cv_X5_startTwo ⟨by decide, rfl⟩ (by first | assumption | rfl | decide | exact bL hB _ (by decide)) (by decide) (by decide) (Nat.le_of_ble_eq_true rfl) (s_X5_startTwo (by first | assumption | rfl | decide | exact bL hB _ (by decide)) ?_)
  show aj_X G 6 _ _ _ _ _ _ _ _ _
  refine x_if_neB (q := 9) (t := 31) C 4 rfl (by decide) rfl (fun c1 => ?_) (fun c1 => ?_)
  · skip
    refine x_iconst (q := 32) C 17 (n := (0)) (v := (0)) rfl rfl rfl ?_
    refine x_goto (t := 41) C 18 rfl (by decide) ?_
    exact x_ireturn C Z 23 rfl rfl rfl (hK _ _ _ (mR.th hM) (by rw [cd2_1 (pC2_f (by assumption))]; exact tH_t (by assumption)) (cd2_n (Or.inl (pC2_f (by assumption)))))
  · skip
    rw [show (pC2 x y) = false by assumption, tH_f]
    have hR0 : mR I J (aj_u I 22 0 0) J := mR.t hM
    have hT : aj_u I 22 0 0 22 0 = 0 := aj_u_s _ _ _ _
    generalize aj_u I 22 0 0 = I0 at hR0 hT ⊢
    obtain ⟨j, k, hj, hk, rfl, rfl⟩ := n2 (show pC2 x y = false by assumption)
    refine y_aload0 (q := 10) C 5 rfl rfl ?_
    refine y_iload3 (q := 11) C 6 rfl rfl ?_
    refine x_iconst (q := 12) C 7 (n := (0)) (v := (0)) rfl rfl rfl ?_
    refine x_iconst (q := 13) C 8 (n := (2)) (v := (2)) rfl rfl rfl ?_
    refine y_cS3 (q := 16) C 9 rfl rfl ml_RX5_40 cd_X5_isIn sv_X5_isIn (by decide) (by decide) (Nat.le_of_ble_eq_true rfl) (s_X5_isIn ?_)
    show aj_X G 16 _ _ _ _ _ _ _ _ _
    refine x_if_neB (q := 19) (t := 23) C 10 rfl (by decide) rfl (fun c2 => ?_) (fun c2 => ?_)
    · skip
      refine x_iconst (q := 24) C 13 (n := (0)) (v := (0)) rfl rfl rfl ?_
      refine x_iconst (q := 25) C 14 (n := (2)) (v := (2)) rfl rfl rfl ?_
      refine y_cV2 (q := 28) C 15 rfl rfl ml_RX5_36 cd_X5_refuse cv_X5_refuse ⟨by decide, rfl⟩ (by first | assumption | rfl | decide | exact bL hB _ (by decide)) (by decide) (by decide) (Nat.le_of_ble_eq_true rfl) (s_X5_refuse (b := false) (by decide) hT hB ?_)
      show aj_X G 28 _ _ _ _ _ _ _ _ _
      refine x_if_eqB (q := 31) (t := 35) C 16 rfl (by decide) rfl (fun c3 => ?_) (fun c3 => ?_)
      · skip
        rw [tH_f]
        refine y_aload0 (q := 36) C 19 rfl rfl ?_
        refine y_iload1 (q := 37) C 20 rfl rfl ?_
        refine y_iload2 (q := 38) C 21 rfl rfl ?_
        refine y_cV2 (q := 41) C 22 rfl rfl ml_RX5_104 cd_X5_orderAt cv_X5_orderAt ⟨by decide, rfl⟩ (by first | assumption | rfl | decide | exact bL hB _ (by decide)) (by decide) (by decide) (Nat.le_of_ble_eq_true rfl) (s_X5_orderAt (by first | assumption | rfl | decide | exact bL hB _ (by decide)) (by first | assumption | rfl | decide | exact bL hB _ (by decide)) (by first | assumption | rfl | decide | exact bL hB _ (by decide)) ?_)
        show aj_X G 41 _ _ _ _ _ _ _ _ _
        exact x_ireturn C Z 23 rfl rfl rfl (hK _ _ _ hR0 (by rw [cd2_t (and_t (ckI_t hj) (ckI_t hk)) (by assumption)]; exact hT) (fun _ => mOA_t hR0 hj hk))
      · skip
        exact absurd c3 (by decide)
    · skip
      refine x_iconst (q := 20) C 11 (n := (1)) (v := (1)) rfl rfl rfl ?_
      refine x_goto (t := 24) C 12 rfl (by decide) ?_
      refine x_iconst (q := 25) C 14 (n := (2)) (v := (2)) rfl rfl rfl ?_
      refine y_cV2 (q := 28) C 15 rfl rfl ml_RX5_36 cd_X5_refuse cv_X5_refuse ⟨by decide, rfl⟩ (by first | assumption | rfl | decide | exact bL hB _ (by decide)) (by decide) (by decide) (Nat.le_of_ble_eq_true rfl) (s_X5_refuse (b := true) (by decide) hT hB ?_)
      show aj_X G 28 _ _ _ _ _ _ _ _ _
      refine x_if_eqB (q := 31) (t := 35) C 16 rfl (by decide) rfl (fun c4 => ?_) (fun c4 => ?_)
      · skip
        exact absurd c4 (by decide)
      · skip
        refine x_iconst (q := 32) C 17 (n := (0)) (v := (0)) rfl rfl rfl ?_
        refine x_goto (t := 41) C 18 rfl (by decide) ?_
        exact x_ireturn C Z 23 rfl rfl rfl (hK _ _ _ (mR.tr hR0 (mR.tw hR0.2.1)) (by rw [cd2_2 (and_t (ckI_t hj) (ckI_t hk)) (by assumption)]; exact tH_t rfl) (cd2_n (Or.inr (by assumption))))
set_option maxRecDepth 100000 in
set_option maxHeartbeats 800000 in
theorem s_X5_like {l : Launch} {I : Nat → Nat → Int32} {J : Nat → Nat → Int64} {V : Nat → Nat → Option Nat} {N : Nat → Nat} {L : List Nat} {K : aj_K} {x y : Int32} (hM : mI I) (hB : bV V N L) (hK : ∀ (b : Bool) I1 J1, mR I J I1 J1 → I1 22 0 = cd1 (ckI x && ckI y) → (cd1 (ckI x && ckI y) = 0 → b = lkA (cV I (nn x)) (cV I (nn y))) → K (.inl (some (.int (bI b)))) I1 J1 V N L) : aj_M l yX5_like (aj_wc yX5_like cX5_like 3 (some .boolean)) (aj_rm 4 0 0) [] [.ref 22, .int x, .int y] I J V N L K := by
  refine aj_intro (tbl := t_X5_like) (lv0 := [some (.ref 22), some (.int x), some (.int y)]) (by decide) T_X5_like aj_f0 (Nat.le_of_ble_eq_true rfl) rfl ?_
  intro G hl C Z NX hnm hGL hGF
  have C : aj_C G cX5_like t_X5_like RX5 (aj_rm 4 0 0) 3 := C
  refine y_aload0 (q := 1) C 0 rfl rfl ?_
  refine y_iload1 (q := 2) C 1 rfl rfl ?_
  refine y_iload2 (q := 3) C 2 rfl rfl ?_
  refine y_cV2 (q := 6) C 3 rfl rfl ml_RX5_162 cd_X5_startTwo cv_X5_startTwo ⟨by decide, rfl⟩ (by first | assumption | rfl | decide | exact bL hB _ (by decide)) (by decide) (by decide) (Nat.le_of_ble_eq_true rfl) (s_X5_startTwo (by first | assumption | rfl | decide | exact bL hB _ (by decide)) ?_)
  show aj_X G 6 _ _ _ _ _ _ _ _ _
  refine x_if_neB (q := 9) (t := 22) C 4 rfl (by decide) rfl (fun c1 => ?_) (fun c1 => ?_)
  · skip
    refine x_iconst (q := 23) C 12 (n := (0)) (v := (0)) rfl rfl rfl ?_
    exact x_ireturn C Z 13 rfl rfl rfl (hK false _ _ (mR.th hM) (by rw [cd1_f (pC2_f (by assumption))]; exact tH_t (by assumption)) (cd1_n (pC2_f (by assumption))))
  · skip
    rw [show (pC2 x y) = false by assumption, tH_f]
    have hR0 : mR I J (aj_u I 22 0 0) J := mR.t hM
    have hT : aj_u I 22 0 0 22 0 = 0 := aj_u_s _ _ _ _
    generalize aj_u I 22 0 0 = I0 at hR0 hT ⊢
    obtain ⟨j, k, hj, hk, rfl, rfl⟩ := n2 (show pC2 x y = false by assumption)
    refine y_aload0 (q := 10) C 5 rfl rfl ?_
    refine y_iload1 (q := 11) C 6 rfl rfl ?_
    refine y_iload2 (q := 12) C 7 rfl rfl ?_
    refine y_cV2 (q := 15) C 8 rfl rfl ml_RX5_166 cd_X5_isLike cv_X5_isLike ⟨by decide, rfl⟩ (by first | assumption | rfl | decide | exact bL hB _ (by decide)) (by decide) (by decide) (Nat.le_of_ble_eq_true rfl) (s_X5_isLike (by first | assumption | rfl | decide | exact bL hB _ (by decide)) (by first | assumption | rfl | decide | exact bL hB _ (by decide)) (by first | assumption | rfl | decide | exact bL hB _ (by decide)) ?_)
    show aj_X G 15 _ _ _ _ _ _ _ _ _
    refine x_if_eqB (q := 18) (t := 22) C 9 rfl (by decide) rfl (fun c2 => ?_) (fun c2 => ?_)
    · skip
      refine x_iconst (q := 23) C 12 (n := (0)) (v := (0)) rfl rfl rfl ?_
      exact x_ireturn C Z 13 rfl rfl rfl (hK false _ _ hR0 (by rw [cd1_t (and_t (ckI_t hj) (ckI_t hk))]; exact hT) (fun _ => by rw [cV_at hR0 hj, cV_at hR0 hk]; exact (show lkA (I0 88 j, I0 104 j, I0 120 j) (I0 88 k, I0 104 k, I0 120 k) = false by assumption).symm))
    · skip
      refine x_iconst (q := 19) C 10 (n := (1)) (v := (1)) rfl rfl rfl ?_
      refine x_goto (t := 23) C 11 rfl (by decide) ?_
      exact x_ireturn C Z 13 rfl rfl rfl (hK true _ _ hR0 (by rw [cd1_t (and_t (ckI_t hj) (ckI_t hk))]; exact hT) (fun _ => by rw [cV_at hR0 hj, cV_at hR0 hk]; exact (show lkA (I0 88 j, I0 104 j, I0 120 j) (I0 88 k, I0 104 k, I0 120 k) = true by assumption).symm))
set_option maxRecDepth 100000 in
set_option maxHeartbeats 800000 in
theorem s_X5_same {l : Launch} {I : Nat → Nat → Int32} {J : Nat → Nat → Int64} {V : Nat → Nat → Option Nat} {N : Nat → Nat} {L : List Nat} {K : aj_K} {x y t : Int32} (hM : mI I) (hB : bV V N L) (hK : ∀ (b : Bool) I1 J1, mR I J I1 J1 → I1 22 0 = cd2 (ckI x && ckI y) (pIn t 0 1) → (cd2 (ckI x && ckI y) (pIn t 0 1) = 0 → b = decide (tO (cV I (nn x)) (cV I (nn y)) = 0)) → K (.inl (some (.int (bI b)))) I1 J1 V N L) : aj_M l yX5_same (aj_wc yX5_same cX5_same 4 (some .boolean)) (aj_rm 3 0 0) [] [.ref 22, .int x, .int y, .int t] I J V N L K := by
  refine aj_intro (tbl := t_X5_same) (lv0 := [some (.ref 22), some (.int x), some (.int y), some (.int t)]) (by decide) T_X5_same aj_f0 (Nat.le_of_ble_eq_true rfl) rfl ?_
  intro G hl C Z NX hnm hGL hGF
  have C : aj_C G cX5_same t_X5_same RX5 (aj_rm 3 0 0) 4 := C
  refine y_aload0 (q := 1) C 0 rfl rfl ?_
  refine y_iload1 (q := 2) C 1 rfl rfl ?_
  refine y_iload2 (q := 3) C 2 rfl rfl ?_
  refine y_cV2 (q := 6) C 3 rfl rfl ml_RX5_162 cd_X5_startTwo cv_X5_startTwo ⟨by decide, rfl⟩ (by first | assumption | rfl | decide | exact bL hB _ (by decide)) (by decide) (by decide) (Nat.le_of_ble_eq_true rfl) (s_X5_startTwo (by first | assumption | rfl | decide | exact bL hB _ (by decide)) ?_)
  show aj_X G 6 _ _ _ _ _ _ _ _ _
  refine x_if_neB (q := 9) (t := 44) C 4 rfl (by decide) rfl (fun c1 => ?_) (fun c1 => ?_)
  · skip
    refine x_iconst (q := 45) C 24 (n := (0)) (v := (0)) rfl rfl rfl ?_
    exact x_ireturn C Z 25 rfl rfl rfl (hK false _ _ (mR.th hM) (by rw [cd2_1 (pC2_f (by assumption))]; exact tH_t (by assumption)) (cd2_n (Or.inl (pC2_f (by assumption)))))
  · skip
    rw [show (pC2 x y) = false by assumption, tH_f]
    have hR0 : mR I J (aj_u I 22 0 0) J := mR.t hM
    have hT : aj_u I 22 0 0 22 0 = 0 := aj_u_s _ _ _ _
    generalize aj_u I 22 0 0 = I0 at hR0 hT ⊢
    obtain ⟨j, k, hj, hk, rfl, rfl⟩ := n2 (show pC2 x y = false by assumption)
    refine y_aload0 (q := 10) C 5 rfl rfl ?_
    refine y_iload3 (q := 11) C 6 rfl rfl ?_
    refine x_iconst (q := 12) C 7 (n := (0)) (v := (0)) rfl rfl rfl ?_
    refine x_iconst (q := 13) C 8 (n := (1)) (v := (1)) rfl rfl rfl ?_
    refine y_cS3 (q := 16) C 9 rfl rfl ml_RX5_40 cd_X5_isIn sv_X5_isIn (by decide) (by decide) (Nat.le_of_ble_eq_true rfl) (s_X5_isIn ?_)
    show aj_X G 16 _ _ _ _ _ _ _ _ _
    refine x_if_neB (q := 19) (t := 23) C 10 rfl (by decide) rfl (fun c2 => ?_) (fun c2 => ?_)
    · skip
      refine x_iconst (q := 24) C 13 (n := (0)) (v := (0)) rfl rfl rfl ?_
      refine x_iconst (q := 25) C 14 (n := (2)) (v := (2)) rfl rfl rfl ?_
      refine y_cV2 (q := 28) C 15 rfl rfl ml_RX5_36 cd_X5_refuse cv_X5_refuse ⟨by decide, rfl⟩ (by first | assumption | rfl | decide | exact bL hB _ (by decide)) (by decide) (by decide) (Nat.le_of_ble_eq_true rfl) (s_X5_refuse (b := false) (by decide) hT hB ?_)
      show aj_X G 28 _ _ _ _ _ _ _ _ _
      refine x_if_neB (q := 31) (t := 44) C 16 rfl (by decide) rfl (fun c3 => ?_) (fun c3 => ?_)
      · skip
        exact absurd c3 (by decide)
      · skip
        rw [tH_f]
        refine y_aload0 (q := 32) C 17 rfl rfl ?_
        refine y_iload1 (q := 33) C 18 rfl rfl ?_
        refine y_iload2 (q := 34) C 19 rfl rfl ?_
        refine y_cV2 (q := 37) C 20 rfl rfl ml_RX5_104 cd_X5_orderAt cv_X5_orderAt ⟨by decide, rfl⟩ (by first | assumption | rfl | decide | exact bL hB _ (by decide)) (by decide) (by decide) (Nat.le_of_ble_eq_true rfl) (s_X5_orderAt (by first | assumption | rfl | decide | exact bL hB _ (by decide)) (by first | assumption | rfl | decide | exact bL hB _ (by decide)) (by first | assumption | rfl | decide | exact bL hB _ (by decide)) ?_)
        show aj_X G 37 _ _ _ _ _ _ _ _ _
        refine x_if_ne (q := 40) (t := 44) C 21 rfl (by decide) rfl (fun c4 => ?_) (fun c4 => ?_)
        · skip
          refine x_iconst (q := 45) C 24 (n := (0)) (v := (0)) rfl rfl rfl ?_
          exact x_ireturn C Z 25 rfl rfl rfl (hK false _ _ hR0 (by rw [cd2_t (and_t (ckI_t hj) (ckI_t hk)) (by assumption)]; exact hT) (fun _ => by rw [← mOA_t hR0 hj hk]; exact (decide_eq_false (by assumption)).symm))
        · skip
          refine x_iconst (q := 41) C 22 (n := (1)) (v := (1)) rfl rfl rfl ?_
          refine x_goto (t := 45) C 23 rfl (by decide) ?_
          exact x_ireturn C Z 25 rfl rfl rfl (hK true _ _ hR0 (by rw [cd2_t (and_t (ckI_t hj) (ckI_t hk)) (by assumption)]; exact hT) (fun _ => by rw [← mOA_t hR0 hj hk]; exact (decide_eq_true (by assumption)).symm))
    · skip
      refine x_iconst (q := 20) C 11 (n := (1)) (v := (1)) rfl rfl rfl ?_
      refine x_goto (t := 24) C 12 rfl (by decide) ?_
      refine x_iconst (q := 25) C 14 (n := (2)) (v := (2)) rfl rfl rfl ?_
      refine y_cV2 (q := 28) C 15 rfl rfl ml_RX5_36 cd_X5_refuse cv_X5_refuse ⟨by decide, rfl⟩ (by first | assumption | rfl | decide | exact bL hB _ (by decide)) (by decide) (by decide) (Nat.le_of_ble_eq_true rfl) (s_X5_refuse (b := true) (by decide) hT hB ?_)
      show aj_X G 28 _ _ _ _ _ _ _ _ _
      refine x_if_neB (q := 31) (t := 44) C 16 rfl (by decide) rfl (fun c5 => ?_) (fun c5 => ?_)
      · skip
        refine x_iconst (q := 45) C 24 (n := (0)) (v := (0)) rfl rfl rfl ?_
        exact x_ireturn C Z 25 rfl rfl rfl (hK false _ _ (mR.tr hR0 (mR.tw hR0.2.1)) (by rw [cd2_2 (and_t (ckI_t hj) (ckI_t hk)) (by assumption)]; exact tH_t rfl) (cd2_n (Or.inr (by assumption))))
      · skip
        exact absurd c5 (by decide)
set_option maxRecDepth 100000 in
set_option maxHeartbeats 800000 in
theorem s_X5_side {l : Launch} {I : Nat → Nat → Int32} {J : Nat → Nat → Int64} {V : Nat → Nat → Option Nat} {N : Nat → Nat} {L : List Nat} {K : aj_K} {x y : Int32} (hM : mI I) (hB : bV V N L) (hK : ∀ (r : Int32) I1 J1, mR I J I1 J1 → I1 22 0 = cd1 (ckI x && ckI y) → (cd1 (ckI x && ckI y) = 0 → r = sdA (cV I (nn x)) (cV I (nn y))) → K (.inl (some (.int r))) I1 J1 V N L) : aj_M l yX5_side (aj_wc yX5_side cX5_side 3 (some .int)) (aj_rm 3 0 0) [] [.ref 22, .int x, .int y] I J V N L K := by
  refine aj_intro (tbl := t_X5_side) (lv0 := [some (.ref 22), some (.int x), some (.int y)]) (by decide) T_X5_side aj_f0 (Nat.le_of_ble_eq_true rfl) rfl ?_
  intro G hl C Z NX hnm hGL hGF
  have C : aj_C G cX5_side t_X5_side RX5 (aj_rm 3 0 0) 3 := C
  refine y_aload0 (q := 1) C 0 rfl rfl ?_
  refine y_iload1 (q := 2) C 1 rfl rfl ?_
  refine y_iload2 (q := 3) C 2 rfl rfl ?_
  refine y_cV2 (q := 6) C 3 rfl rfl ml_RX5_162 cd_X5_startTwo cv_X5_startTwo ⟨by decide, rfl⟩ (by first | assumption | rfl | decide | exact bL hB _ (by decide)) (by decide) (by decide) (Nat.le_of_ble_eq_true rfl) (s_X5_startTwo (by first | assumption | rfl | decide | exact bL hB _ (by decide)) ?_)
  show aj_X G 6 _ _ _ _ _ _ _ _ _
  refine x_if_eqB (q := 9) (t := 13) C 4 rfl (by decide) rfl (fun c1 => ?_) (fun c1 => ?_)
  · skip
    rw [show (pC2 x y) = false by assumption, tH_f]
    have hR0 : mR I J (aj_u I 22 0 0) J := mR.t hM
    have hT : aj_u I 22 0 0 22 0 = 0 := aj_u_s _ _ _ _
    generalize aj_u I 22 0 0 = I0 at hR0 hT ⊢
    obtain ⟨j, k, hj, hk, rfl, rfl⟩ := n2 (show pC2 x y = false by assumption)
    refine y_aload0 (q := 14) C 7 rfl rfl ?_
    refine y_iload1 (q := 15) C 8 rfl rfl ?_
    refine y_iload2 (q := 16) C 9 rfl rfl ?_
    refine y_cV2 (q := 19) C 10 rfl rfl ml_RX5_169 cd_X5_sideAt cv_X5_sideAt ⟨by decide, rfl⟩ (by first | assumption | rfl | decide | exact bL hB _ (by decide)) (by decide) (by decide) (Nat.le_of_ble_eq_true rfl) (s_X5_sideAt (by first | assumption | rfl | decide | exact bL hB _ (by decide)) (by first | assumption | rfl | decide | exact bL hB _ (by decide)) (by first | assumption | rfl | decide | exact bL hB _ (by decide)) ?_)
    show aj_X G 19 _ _ _ _ _ _ _ _ _
    exact x_ireturn C Z 11 rfl rfl rfl (hK _ _ _ hR0 (by rw [cd1_t (and_t (ckI_t hj) (ckI_t hk))]; exact hT) (fun _ => by rw [cV_at hR0 hj, cV_at hR0 hk]))
  · skip
    refine x_iconst (q := 10) C 5 (n := (0)) (v := (0)) rfl rfl rfl ?_
    refine x_goto (t := 19) C 6 rfl (by decide) ?_
    exact x_ireturn C Z 11 rfl rfl rfl (hK _ _ _ (mR.th hM) (by rw [cd1_f (pC2_f (by assumption))]; exact tH_t (by assumption)) (cd1_n (pC2_f (by assumption))))
set_option maxRecDepth 100000 in
set_option maxHeartbeats 800000 in
theorem s_X5_rule {l : Launch} {I : Nat → Nat → Int32} {J : Nat → Nat → Int64} {V : Nat → Nat → Option Nat} {N : Nat → Nat} {L : List Nat} {K : aj_K} {x t : Int32} (hM : mI I) (hB : bV V N L) (hK : ∀ (r : Int32) I1 J1, mR I J I1 J1 → I1 22 0 = cd2 (ckI x) (pIn t 0 7) → (cd2 (ckI x) (pIn t 0 7) = 0 → r = ruA t (cV I (nn x))) → K (.inl (some (.int r))) I1 J1 V N L) : aj_M l yX5_rule (aj_wc yX5_rule cX5_rule 3 (some .int)) (aj_rm 2 0 0) [] [.ref 22, .int x, .int t] I J V N L K := by
  refine aj_intro (tbl := t_X5_rule) (lv0 := [some (.ref 22), some (.int x), some (.int t)]) (by decide) T_X5_rule aj_f0 (Nat.le_of_ble_eq_true rfl) rfl ?_
  intro G hl C Z NX hnm hGL hGF
  have C : aj_C G cX5_rule t_X5_rule RX5 (aj_rm 2 0 0) 3 := C
  refine y_aload0 (q := 1) C 0 rfl rfl ?_
  refine y_iload1 (q := 2) C 1 rfl rfl ?_
  refine y_cS1 (q := 5) C 2 rfl rfl ml_RX5_132 cd_X5_isNoCell sv_X5_isNoCell (by decide) (by decide) (Nat.le_of_ble_eq_true rfl) (s_X5_isNoCell ?_)
  show aj_X G 5 _ _ _ _ _ _ _ _ _
  refine x_iconst (q := 6) C 3 (n := (1)) (v := (1)) rfl rfl rfl ?_
  refine y_cV2 (q := 9) C 4 rfl rfl ml_RX5_135 cd_X5_start cv_X5_start ⟨by decide, rfl⟩ (by first | assumption | rfl | decide | exact bL hB _ (by decide)) (by decide) (by decide) (Nat.le_of_ble_eq_true rfl) (s_X5_start (by first | assumption | rfl | decide | exact bL hB _ (by decide)) (by first | assumption | rfl | decide | exact bL hB _ (by decide)) ?_)
  show aj_X G 9 _ _ _ _ _ _ _ _ _
  refine x_if_neB (q := 12) (t := 35) C 5 rfl (by decide) rfl (fun c1 => ?_) (fun c1 => ?_)
  · skip
    refine x_iconst (q := 36) C 18 (n := (0)) (v := (0)) rfl rfl rfl ?_
    exact x_ireturn C Z 19 rfl rfl rfl (hK _ _ _ (mR.th hM) (by rw [cd2_1 (ckm_f (by assumption))]; exact tH_t (by assumption)) (cd2_n (Or.inl (ckm_f (by assumption)))))
  · skip
    rw [show (!pIn x 0 7) = false by assumption, tH_f]
    have hR0 : mR I J (aj_u I 22 0 0) J := mR.t hM
    have hT : aj_u I 22 0 0 22 0 = 0 := aj_u_s _ _ _ _
    generalize aj_u I 22 0 0 = I0 at hR0 hT ⊢
    obtain ⟨j, hj, rfl⟩ := nC (by assumption)
    refine y_aload0 (q := 13) C 6 rfl rfl ?_
    refine y_iload2 (q := 14) C 7 rfl rfl ?_
    refine x_iconst (q := 15) C 8 (n := (0)) (v := (0)) rfl rfl rfl ?_
    refine x_bipush (q := 17) C 9 (n := (7)) (v := (7)) rfl rfl rfl ?_
    refine y_cS3 (q := 20) C 10 rfl rfl ml_RX5_40 cd_X5_isIn sv_X5_isIn (by decide) (by decide) (Nat.le_of_ble_eq_true rfl) (s_X5_isIn ?_)
    show aj_X G 20 _ _ _ _ _ _ _ _ _
    refine x_if_neB (q := 23) (t := 27) C 11 rfl (by decide) rfl (fun c2 => ?_) (fun c2 => ?_)
    · skip
      refine x_iconst (q := 28) C 14 (n := (0)) (v := (0)) rfl rfl rfl ?_
      refine x_iconst (q := 29) C 15 (n := (2)) (v := (2)) rfl rfl rfl ?_
      refine y_cV2 (q := 32) C 16 rfl rfl ml_RX5_36 cd_X5_refuse cv_X5_refuse ⟨by decide, rfl⟩ (by first | assumption | rfl | decide | exact bL hB _ (by decide)) (by decide) (by decide) (Nat.le_of_ble_eq_true rfl) (s_X5_refuse (b := false) (by decide) hT hB ?_)
      show aj_X G 32 _ _ _ _ _ _ _ _ _
      refine x_if_eqB (q := 35) (t := 37) C 17 rfl (by decide) rfl (fun c3 => ?_) (fun c3 => ?_)
      · skip
        rw [tH_f]
        refine y_aload0 (q := 38) C 20 rfl rfl ?_
        refine y_iload1 (q := 39) C 21 rfl rfl ?_
        refine y_cV1 (q := 42) C 22 rfl rfl ml_RX5_108 cd_X5_isNull cv_X5_isNull ⟨by decide, rfl⟩ (by first | assumption | rfl | decide | exact bL hB _ (by decide)) (by decide) (by decide) (Nat.le_of_ble_eq_true rfl) (s_X5_isNull (by first | assumption | rfl | decide | exact bL hB _ (by decide)) (by first | assumption | rfl | decide | exact bL hB _ (by decide)) ?_)
        show aj_X G 42 _ _ _ _ _ _ _ _ _
        refine x_if_eqB (q := 45) (t := 59) C 23 rfl (by decide) rfl (fun c4 => ?_) (fun c4 => ?_)
        · skip
          refine x_iconst (q := 60) C 31 (n := (1)) (v := (1)) rfl rfl rfl ?_
          exact x_ireturn C Z 32 rfl rfl rfl (hK _ _ _ hR0 (by rw [cd2_t (ckI_t hj) (by assumption)]; exact hT) (fun _ => by rw [cV_at hR0 hj]; clear hK C Z; simp_all [ruA, pIn, ← Int32.not_le]))
        · skip
          refine y_iload2 (q := 46) C 24 rfl rfl ?_
          refine x_iconst (q := 47) C 25 (n := (2)) (v := (2)) rfl rfl rfl ?_
          refine x_iconst (q := 48) C 26 (n := (5)) (v := (5)) rfl rfl rfl ?_
          refine y_cS3 (q := 51) C 27 rfl rfl ml_RX5_40 cd_X5_isIn sv_X5_isIn (by decide) (by decide) (Nat.le_of_ble_eq_true rfl) (s_X5_isIn ?_)
          show aj_X G 51 _ _ _ _ _ _ _ _ _
          refine x_if_eqB (q := 54) (t := 59) C 28 rfl (by decide) rfl (fun c5 => ?_) (fun c5 => ?_)
          · skip
            refine x_iconst (q := 60) C 31 (n := (1)) (v := (1)) rfl rfl rfl ?_
            exact x_ireturn C Z 32 rfl rfl rfl (hK _ _ _ hR0 (by rw [cd2_t (ckI_t hj) (by assumption)]; exact hT) (fun _ => by rw [cV_at hR0 hj]; clear hK C Z; simp_all [ruA, pIn, ← Int32.not_le]))
          · skip
            refine x_bipush (q := 56) C 29 (n := (-9)) (v := (-9)) rfl rfl rfl ?_
            refine x_goto (t := 60) C 30 rfl (by decide) ?_
            exact x_ireturn C Z 32 rfl rfl rfl (hK _ _ _ hR0 (by rw [cd2_t (ckI_t hj) (by assumption)]; exact hT) (fun _ => by rw [cV_at hR0 hj]; clear hK C Z; simp_all [ruA, pIn, ← Int32.not_le]))
      · skip
        exact absurd c3 (by decide)
    · skip
      refine x_iconst (q := 24) C 12 (n := (1)) (v := (1)) rfl rfl rfl ?_
      refine x_goto (t := 28) C 13 rfl (by decide) ?_
      refine x_iconst (q := 29) C 15 (n := (2)) (v := (2)) rfl rfl rfl ?_
      refine y_cV2 (q := 32) C 16 rfl rfl ml_RX5_36 cd_X5_refuse cv_X5_refuse ⟨by decide, rfl⟩ (by first | assumption | rfl | decide | exact bL hB _ (by decide)) (by decide) (by decide) (Nat.le_of_ble_eq_true rfl) (s_X5_refuse (b := true) (by decide) hT hB ?_)
      show aj_X G 32 _ _ _ _ _ _ _ _ _
      refine x_if_eqB (q := 35) (t := 37) C 17 rfl (by decide) rfl (fun c6 => ?_) (fun c6 => ?_)
      · skip
        exact absurd c6 (by decide)
      · skip
        refine x_iconst (q := 36) C 18 (n := (0)) (v := (0)) rfl rfl rfl ?_
        exact x_ireturn C Z 19 rfl rfl rfl (hK _ _ _ (mR.tr hR0 (mR.tw hR0.2.1)) (by rw [cd2_2 (ckI_t hj) (by assumption)]; exact tH_t rfl) (cd2_n (Or.inr (by assumption))))
set_option maxRecDepth 100000 in
set_option maxHeartbeats 800000 in
theorem s_X5_at {l : Launch} {I : Nat → Nat → Int32} {J : Nat → Nat → Int64} {V : Nat → Nat → Option Nat} {N : Nat → Nat} {L : List Nat} {K : aj_K} {x y : Int32} {n : Nat} (hn : n ≤ 12) (he : I 22 7 = nI n) (hB : bV V N L) (hK : ∀ r : Int32, pAT I n x y r → K (.inl (some (.int r))) I J V N L) : aj_M l yX5_at (aj_wc yX5_at cX5_at 4 (some .int)) (aj_rm 0 0 0) [] [.ref 22, .int x, .int y] I J V N L K := by
  refine aj_intro (tbl := t_X5_at) (lv0 := [some (.ref 22), some (.int x), some (.int y), none]) (by decide) T_X5_at aj_f0 (Nat.le_of_ble_eq_true rfl) rfl ?_
  intro G hl C Z NX hnm hGL hGF
  have C : aj_C G cX5_at t_X5_at RX5 (aj_rm 0 0 0) 4 := C
  refine x_iconst (q := 1) C 0 (n := (0)) (v := nI 0) rfl rfl rfl ?_
  refine y_istore3 (q := 2) C 1 rfl rfl (Nat.le_of_ble_eq_true rfl) rfl ?_
  have lp2 : ∀ (m j : Nat), j + m = n → (∀ i, i < j → ¬ (I 136 i = x ∧ I 152 i = y)) → aj_X G 2 [some (.ref 22), some (.int x), some (.int y), some (.int (nI j))] [] I J V N L 0 0 := by
    intro m
    induction m with
    | zero =>
      intro j hj hp
      refine y_iload3 (q := 3) C 2 rfl rfl ?_
      refine y_aload0 (q := 4) C 3 rfl rfl ?_
      refine x_getI (q := 7) C 4 rfl rfl fl_RX5_44 (fun _ _ => rfl) (by first | assumption | rfl | decide | exact bL hB _ (by decide)) (by first | assumption | rfl | decide | exact bL hB _ (by decide)) ?_
      rw [he]
      refine x_icmp_ge (q := 10) (t := 38) C 5 rfl (by decide) rfl (fun c1 => ?_) (fun c1 => ?_)
      · skip
        refine x_bipush (q := 40) C 22 (n := (-9)) (v := (-9)) rfl rfl rfl ?_
        exact x_ireturn C Z 23 rfl rfl rfl (hK _ (Or.inr ⟨rfl, fun i hi => hp i (by omega)⟩))
      · skip
        exact absurd (nI_le (by omega) (by omega)) c1
    | succ m ih =>
      intro j hj hp
      refine y_iload3 (q := 3) C 2 rfl rfl ?_
      refine y_aload0 (q := 4) C 3 rfl rfl ?_
      refine x_getI (q := 7) C 4 rfl rfl fl_RX5_44 (fun _ _ => rfl) (by first | assumption | rfl | decide | exact bL hB _ (by decide)) (by first | assumption | rfl | decide | exact bL hB _ (by decide)) ?_
      rw [he]
      refine x_icmp_ge (q := 10) (t := 38) C 5 rfl (by decide) rfl (fun c2 => ?_) (fun c2 => ?_)
      · skip
        exact absurd c2 (nI_ge (by omega) (by omega))
      · skip
        refine y_aload0 (q := 11) C 6 rfl rfl ?_
        refine x_getR (q := 14) C 7 rfl rfl fl_RX5_23 (bv_6_5 hB) (fun _ _ => rfl) (by first | assumption | rfl | decide | exact bL hB _ (by decide)) (by first | assumption | rfl | decide | exact bL hB _ (by decide)) ?_
        refine y_iload3 (q := 15) C 8 rfl rfl ?_
        refine x_iald (q := 16) C 9 rfl rfl (by first | assumption | rfl | decide | exact bL hB _ (by decide)) (by first | assumption | rfl | decide | exact bL hB _ (by decide)) (by (first | rw [bn24 hB] | rw [bn40 hB] | rw [bn56 hB] | rw [bn72 hB] | rw [bn27 hB] | rw [bn43 hB] | rw [bn25 hB] | rw [bn41 hB] | rw [bn88 hB] | rw [bn104 hB] | rw [bn120 hB] | rw [bn136 hB] | rw [bn152 hB] | rw [bn168 hB]); first | assumption | exact vp_in_nI (by omega) (by decide)) ?_
        rw [nI_clamp (by omega)]
        refine y_iload1 (q := 17) C 10 rfl rfl ?_
        refine x_icmp_ne (q := 20) (t := 32) C 11 rfl (by decide) rfl (fun c3 => ?_) (fun c3 => ?_)
        · skip
          refine y_iinc3 (q := 35) C 20 rfl rfl (nI_1 j) (Nat.le_of_ble_eq_true rfl) rfl ?_
          refine x_goto (t := 2) C 21 rfl (by decide) ?_
          exact ih (j + 1) (by omega) (lt_snoc hp (fun z => by first | exact absurd z.1 (by assumption) | exact absurd z.2 (by assumption)))
        · skip
          refine y_aload0 (q := 21) C 12 rfl rfl ?_
          refine x_getR (q := 24) C 13 rfl rfl fl_RX5_26 (bv_6_6 hB) (fun _ _ => rfl) (by first | assumption | rfl | decide | exact bL hB _ (by decide)) (by first | assumption | rfl | decide | exact bL hB _ (by decide)) ?_
          refine y_iload3 (q := 25) C 14 rfl rfl ?_
          refine x_iald (q := 26) C 15 rfl rfl (by first | assumption | rfl | decide | exact bL hB _ (by decide)) (by first | assumption | rfl | decide | exact bL hB _ (by decide)) (by (first | rw [bn24 hB] | rw [bn40 hB] | rw [bn56 hB] | rw [bn72 hB] | rw [bn27 hB] | rw [bn43 hB] | rw [bn25 hB] | rw [bn41 hB] | rw [bn88 hB] | rw [bn104 hB] | rw [bn120 hB] | rw [bn136 hB] | rw [bn152 hB] | rw [bn168 hB]); first | assumption | exact vp_in_nI (by omega) (by decide)) ?_
          rw [nI_clamp (by omega)]
          refine y_iload2 (q := 27) C 16 rfl rfl ?_
          refine x_icmp_ne (q := 30) (t := 32) C 17 rfl (by decide) rfl (fun c4 => ?_) (fun c4 => ?_)
          · skip
            refine y_iinc3 (q := 35) C 20 rfl rfl (nI_1 j) (Nat.le_of_ble_eq_true rfl) rfl ?_
            refine x_goto (t := 2) C 21 rfl (by decide) ?_
            exact ih (j + 1) (by omega) (lt_snoc hp (fun z => by first | exact absurd z.1 (by assumption) | exact absurd z.2 (by assumption)))
          · skip
            refine y_iload3 (q := 31) C 18 rfl rfl ?_
            exact x_ireturn C Z 19 rfl rfl rfl (hK _ (Or.inl ⟨j, by omega, rfl, by assumption, by assumption, hp⟩))
  exact lp2 n 0 (by omega) (fun i hi => absurd hi (Nat.not_lt_zero i))
set_option maxRecDepth 100000 in
set_option maxHeartbeats 800000 in
theorem s_X5_place {l : Launch} {I : Nat → Nat → Int32} {J : Nat → Nat → Int64} {V : Nat → Nat → Option Nat} {N : Nat → Nat} {L : List Nat} {K : aj_K} {p : Int32} {b : Bool} (hM : mI I) (hB : bV V N L) (hK : ∀ (r : Int32) I1 J1, mR I J I1 J1 → I1 22 0 = cd1 (vOk (vN (kV I)) p) → (cd1 (vOk (vN (kV I)) p) = 0 → r = anPl p b (kV I)) → K (.inl (some (.int r))) I1 J1 V N L) : aj_M l yX5_place (aj_wc yX5_place cX5_place 3 (some .int)) (aj_rm 2 0 0) [] [.ref 22, .int p, .int (bI b)] I J V N L K := by
  refine aj_intro (tbl := t_X5_place) (lv0 := [some (.ref 22), some (.int p), some (.int (bI b))]) (by decide) T_X5_place aj_f0 (Nat.le_of_ble_eq_true rfl) rfl ?_
  intro G hl C Z NX hnm hGL hGF
  have C : aj_C G cX5_place t_X5_place RX5 (aj_rm 2 0 0) 3 := C
  obtain ⟨n, hn, he⟩ := hM.2.1
  refine y_aload0 (q := 1) C 0 rfl rfl ?_
  refine y_aload0 (q := 2) C 1 rfl rfl ?_
  refine y_iload1 (q := 3) C 2 rfl rfl ?_
  refine y_cV1 (q := 6) C 3 rfl rfl ml_RX5_149 cd_X5_isNoPlace cv_X5_isNoPlace ⟨by decide, rfl⟩ (by first | assumption | rfl | decide | exact bL hB _ (by decide)) (by decide) (by decide) (Nat.le_of_ble_eq_true rfl) (s_X5_isNoPlace (by first | assumption | rfl | decide | exact bL hB _ (by decide)) ?_)
  show aj_X G 6 _ _ _ _ _ _ _ _ _
  refine x_iconst (q := 7) C 4 (n := (1)) (v := (1)) rfl rfl rfl ?_
  refine y_cV2 (q := 10) C 5 rfl rfl ml_RX5_135 cd_X5_start cv_X5_start ⟨by decide, rfl⟩ (by first | assumption | rfl | decide | exact bL hB _ (by decide)) (by decide) (by decide) (Nat.le_of_ble_eq_true rfl) (s_X5_start (by first | assumption | rfl | decide | exact bL hB _ (by decide)) (by first | assumption | rfl | decide | exact bL hB _ (by decide)) ?_)
  show aj_X G 10 _ _ _ _ _ _ _ _ _
  refine x_if_eqB (q := 13) (t := 17) C 6 rfl (by decide) rfl (fun c1 => ?_) (fun c1 => ?_)
  · skip
    rw [show (!pIn p 0 (I 22 7 - 1)) = false by assumption, tH_f]
    have hR0 : mR I J (aj_u I 22 0 0) J := mR.t hM
    have hT : aj_u I 22 0 0 22 0 = 0 := aj_u_s _ _ _ _
    have he0 : aj_u I 22 0 0 22 7 = nI n := (aj_u_k _ _ _ (by decide)).trans he
    generalize aj_u I 22 0 0 = I0 at hR0 hT he0 ⊢
    obtain ⟨j, hj, rfl⟩ := nP hn he (show (!pIn p 0 (I 22 7 - 1)) = false by assumption)
    refine y_iload2 (q := 18) C 9 rfl rfl ?_
    refine x_if_eqB (q := 21) (t := 30) C 10 rfl (by decide) rfl (fun c2 => ?_) (fun c2 => ?_)
    · skip
      refine y_aload0 (q := 31) C 16 rfl rfl ?_
      refine x_getR (q := 34) C 17 rfl rfl fl_RX5_23 (bv_6_5 hB) (fun _ _ => rfl) (by first | assumption | rfl | decide | exact bL hB _ (by decide)) (by first | assumption | rfl | decide | exact bL hB _ (by decide)) ?_
      refine y_iload1 (q := 35) C 18 rfl rfl ?_
      refine x_iald (q := 36) C 19 rfl rfl (by first | assumption | rfl | decide | exact bL hB _ (by decide)) (by first | assumption | rfl | decide | exact bL hB _ (by decide)) (by (first | rw [bn24 hB] | rw [bn40 hB] | rw [bn56 hB] | rw [bn72 hB] | rw [bn27 hB] | rw [bn43 hB] | rw [bn25 hB] | rw [bn41 hB] | rw [bn88 hB] | rw [bn104 hB] | rw [bn120 hB] | rw [bn136 hB] | rw [bn152 hB] | rw [bn168 hB]); first | assumption | exact vp_in_nI (by omega) (by decide)) ?_
      rw [nI_clamp (by omega)]
      exact x_ireturn C Z 20 rfl rfl rfl (hK _ _ _ hR0 (by rw [cd1_t (kV.okt hn he hj)]; exact hT) (fun _ => by rw [kV.pl hR0 hn hj he0, show b = false by assumption]; rfl))
    · skip
      refine y_aload0 (q := 22) C 11 rfl rfl ?_
      refine x_getR (q := 25) C 12 rfl rfl fl_RX5_26 (bv_6_6 hB) (fun _ _ => rfl) (by first | assumption | rfl | decide | exact bL hB _ (by decide)) (by first | assumption | rfl | decide | exact bL hB _ (by decide)) ?_
      refine y_iload1 (q := 26) C 13 rfl rfl ?_
      refine x_iald (q := 27) C 14 rfl rfl (by first | assumption | rfl | decide | exact bL hB _ (by decide)) (by first | assumption | rfl | decide | exact bL hB _ (by decide)) (by (first | rw [bn24 hB] | rw [bn40 hB] | rw [bn56 hB] | rw [bn72 hB] | rw [bn27 hB] | rw [bn43 hB] | rw [bn25 hB] | rw [bn41 hB] | rw [bn88 hB] | rw [bn104 hB] | rw [bn120 hB] | rw [bn136 hB] | rw [bn152 hB] | rw [bn168 hB]); first | assumption | exact vp_in_nI (by omega) (by decide)) ?_
      rw [nI_clamp (by omega)]
      refine x_goto (t := 36) C 15 rfl (by decide) ?_
      exact x_ireturn C Z 20 rfl rfl rfl (hK _ _ _ hR0 (by rw [cd1_t (kV.okt hn he hj)]; exact hT) (fun _ => by rw [kV.pl hR0 hn hj he0, show b = true by assumption]; rfl))
  · skip
    refine x_iconst (q := 14) C 7 (n := (0)) (v := (0)) rfl rfl rfl ?_
    refine x_goto (t := 36) C 8 rfl (by decide) ?_
    exact x_ireturn C Z 20 rfl rfl rfl (hK _ _ _ (mR.th hM) (by rw [cd1_f (kV.okf hn he (by assumption))]; exact tH_t (by assumption)) (cd1_n (kV.okf hn he (by assumption))))
set_option maxRecDepth 100000 in
set_option maxHeartbeats 800000 in
theorem s_X5_thrown {l : Launch} {I : Nat → Nat → Int32} {J : Nat → Nat → Int64} {V : Nat → Nat → Option Nat} {N : Nat → Nat} {L : List Nat} {K : aj_K} (hB : bV V N L) (hK : K (.inl (some (.int (I 22 0)))) I J V N L) : aj_M l yX5_thrown (aj_wc yX5_thrown cX5_thrown 1 (some .int)) (aj_rm 0 0 0) [] [.ref 22] I J V N L K := by
  refine aj_intro (tbl := t_X5_thrown) (lv0 := [some (.ref 22)]) (by decide) T_X5_thrown aj_f0 (Nat.le_of_ble_eq_true rfl) rfl ?_
  intro G hl C Z NX hnm hGL hGF
  have C : aj_C G cX5_thrown t_X5_thrown RX5 (aj_rm 0 0 0) 1 := C
  refine y_aload0 (q := 1) C 0 rfl rfl ?_
  refine x_getI (q := 4) C 1 rfl rfl fl_RX5_32 (fun _ _ => rfl) (by first | assumption | rfl | decide | exact bL hB _ (by decide)) (by first | assumption | rfl | decide | exact bL hB _ (by decide)) ?_
  exact x_ireturn C Z 2 rfl rfl rfl (hK)
set_option maxRecDepth 100000 in
set_option maxHeartbeats 800000 in
theorem s_X5_places {l : Launch} {I : Nat → Nat → Int32} {J : Nat → Nat → Int64} {V : Nat → Nat → Option Nat} {N : Nat → Nat} {L : List Nat} {K : aj_K} (hM : mI I) (hB : bV V N L) (hK : ∀ I1, mR I J I1 J → K (.inl (some (.int (nI (vN (kV I)))))) I1 J V N L) : aj_M l yX5_places (aj_wc yX5_places cX5_places 1 (some .int)) (aj_rm 0 0 0) [] [.ref 22] I J V N L K := by
  refine aj_intro (tbl := t_X5_places) (lv0 := [some (.ref 22)]) (by decide) T_X5_places aj_f0 (Nat.le_of_ble_eq_true rfl) rfl ?_
  intro G hl C Z NX hnm hGL hGF
  have C : aj_C G cX5_places t_X5_places RX5 (aj_rm 0 0 0) 1 := C
  obtain ⟨n, hn, he⟩ := hM.2.1
  refine y_aload0 (q := 1) C 0 rfl rfl ?_
  refine x_iconst (q := 2) C 1 (n := (0)) (v := (0)) rfl rfl rfl ?_
  refine x_putI (q := 5) C 2 rfl rfl fl_RX5_32 rfl rfl (by first | assumption | rfl | decide | exact bL hB _ (by decide)) (by first | assumption | rfl | decide | exact bL hB _ (by decide)) ?_
  refine y_aload0 (q := 6) C 3 rfl rfl ?_
  refine x_getI (q := 9) C 4 rfl rfl fl_RX5_44 (fun _ _ => rfl) (by first | assumption | rfl | decide | exact bL hB _ (by decide)) (by first | assumption | rfl | decide | exact bL hB _ (by decide)) ?_
  exact x_ireturn C Z 5 rfl rfl rfl (aj_lf (hK _ (mR.t hM)) (by rw [kV.nn hn he]; first | exact he.symm | (rw [aj_u_k _ _ _ (by decide)]; exact he.symm)))
set_option maxRecDepth 100000 in
set_option maxHeartbeats 800000 in
theorem s_X5_centreAt {l : Launch} {I : Nat → Nat → Int32} {J : Nat → Nat → Int64} {V : Nat → Nat → Option Nat} {N : Nat → Nat} {L : List Nat} {K : aj_K} {b : Bool} (hM : mI I) (hB : bV V N L) (hK : ∀ I1, mR I J I1 J → K (.inl (some (.int (if b = true then I 22 9 else I 22 8)))) I1 J V N L) : aj_M l yX5_centreAt (aj_wc yX5_centreAt cX5_centreAt 2 (some .int)) (aj_rm 0 0 0) [] [.ref 22, .int (bI b)] I J V N L K := by
  refine aj_intro (tbl := t_X5_centreAt) (lv0 := [some (.ref 22), some (.int (bI b))]) (by decide) T_X5_centreAt aj_f0 (Nat.le_of_ble_eq_true rfl) rfl ?_
  intro G hl C Z NX hnm hGL hGF
  have C : aj_C G cX5_centreAt t_X5_centreAt RX5 (aj_rm 0 0 0) 2 := C
  refine y_aload0 (q := 1) C 0 rfl rfl ?_
  refine x_iconst (q := 2) C 1 (n := (0)) (v := (0)) rfl rfl rfl ?_
  refine x_putI (q := 5) C 2 rfl rfl fl_RX5_32 rfl rfl (by first | assumption | rfl | decide | exact bL hB _ (by decide)) (by first | assumption | rfl | decide | exact bL hB _ (by decide)) ?_
  refine y_iload1 (q := 6) C 3 rfl rfl ?_
  refine x_if_eqB (q := 9) (t := 16) C 4 rfl (by decide) rfl (fun c1 => ?_) (fun c1 => ?_)
  · skip
    refine y_aload0 (q := 17) C 8 rfl rfl ?_
    refine x_getI (q := 20) C 9 rfl rfl fl_RX5_185 (fun _ _ => rfl) (by first | assumption | rfl | decide | exact bL hB _ (by decide)) (by first | assumption | rfl | decide | exact bL hB _ (by decide)) ?_
    exact x_ireturn C Z 10 rfl rfl rfl (aj_lf (hK _ (mR.t hM)) (by rw [show b = false by assumption]; rfl))
  · skip
    refine y_aload0 (q := 10) C 5 rfl rfl ?_
    refine x_getI (q := 13) C 6 rfl rfl fl_RX5_188 (fun _ _ => rfl) (by first | assumption | rfl | decide | exact bL hB _ (by decide)) (by first | assumption | rfl | decide | exact bL hB _ (by decide)) ?_
    refine x_goto (t := 20) C 7 rfl (by decide) ?_
    exact x_ireturn C Z 10 rfl rfl rfl (aj_lf (hK _ (mR.t hM)) (by rw [show b = true by assumption]; rfl))
set_option maxRecDepth 100000 in
set_option maxHeartbeats 800000 in
theorem s_X5_isSound {l : Launch} {I : Nat → Nat → Int32} {J : Nat → Nat → Int64} {V : Nat → Nat → Option Nat} {N : Nat → Nat} {L : List Nat} {K : aj_K} (hM : mI I) (hB : bV V N L) (hK : ∀ (b : Bool) I1 J1, mR I J I1 J1 → K (.inl (some (.int (bI b)))) I1 J1 V N L) : aj_M l yX5_isSound (aj_wc yX5_isSound cX5_isSound 1 (some .boolean)) (aj_rm 0 0 0) [] [.ref 22] I J V N L K := by
  refine aj_intro (tbl := t_X5_isSound) (lv0 := [some (.ref 22)]) (by decide) T_X5_isSound aj_f0 (Nat.le_of_ble_eq_true rfl) rfl ?_
  intro G hl C Z NX hnm hGL hGF
  have C : aj_C G cX5_isSound t_X5_isSound RX5 (aj_rm 0 0 0) 1 := C
  refine y_aload0 (q := 1) C 0 rfl rfl ?_
  refine x_iconst (q := 2) C 1 (n := (0)) (v := (0)) rfl rfl rfl ?_
  refine x_putI (q := 5) C 2 rfl rfl fl_RX5_32 rfl rfl (by first | assumption | rfl | decide | exact bL hB _ (by decide)) (by first | assumption | rfl | decide | exact bL hB _ (by decide)) ?_
  refine x_iconst (q := 6) C 3 (n := (1)) (v := (1)) rfl rfl rfl ?_
  exact x_ireturn C Z 4 rfl rfl rfl (hK true _ _ (mR.t hM))
set_option maxRecDepth 100000 in
set_option maxHeartbeats 800000 in
theorem s_X5_house {l : Launch} {I : Nat → Nat → Int32} {J : Nat → Nat → Int64} {V : Nat → Nat → Option Nat} {N : Nat → Nat} {L : List Nat} {K : aj_K} {x : Int32} (hM : mI I) (hB : bV V N L) (hK : ∀ (r : Int32) I1 J1, mR I J I1 J1 → K (.inl (some (.int r))) I1 J1 V N L) : aj_M l yX5_house (aj_wc yX5_house cX5_house 2 (some .int)) (aj_rm 2 0 0) [] [.ref 22, .int x] I J V N L K := by
  refine aj_intro (tbl := t_X5_house) (lv0 := [some (.ref 22), some (.int x)]) (by decide) T_X5_house aj_f0 (Nat.le_of_ble_eq_true rfl) rfl ?_
  intro G hl C Z NX hnm hGL hGF
  have C : aj_C G cX5_house t_X5_house RX5 (aj_rm 2 0 0) 2 := C
  refine y_aload0 (q := 1) C 0 rfl rfl ?_
  refine y_iload1 (q := 2) C 1 rfl rfl ?_
  refine x_iconst (q := 3) C 2 (n := (0)) (v := (0)) rfl rfl rfl ?_
  refine x_iconst (q := 4) C 3 (n := (3)) (v := (3)) rfl rfl rfl ?_
  refine y_cS3 (q := 7) C 4 rfl rfl ml_RX5_40 cd_X5_isIn sv_X5_isIn (by decide) (by decide) (Nat.le_of_ble_eq_true rfl) (s_X5_isIn ?_)
  show aj_X G 7 _ _ _ _ _ _ _ _ _
  refine x_if_neB (q := 10) (t := 14) C 5 rfl (by decide) rfl (fun c1 => ?_) (fun c1 => ?_)
  · skip
    refine x_iconst (q := 15) C 8 (n := (0)) (v := (0)) rfl rfl rfl ?_
    refine x_iconst (q := 16) C 9 (n := (1)) (v := (1)) rfl rfl rfl ?_
    refine y_cV2 (q := 19) C 10 rfl rfl ml_RX5_135 cd_X5_start cv_X5_start ⟨by decide, rfl⟩ (by first | assumption | rfl | decide | exact bL hB _ (by decide)) (by decide) (by decide) (Nat.le_of_ble_eq_true rfl) (s_X5_start (b := false) (by decide) hB ?_)
    show aj_X G 19 _ _ _ _ _ _ _ _ _
    refine x_if_eqB (q := 22) (t := 26) C 11 rfl (by decide) rfl (fun c2 => ?_) (fun c2 => ?_)
    · skip
      rw [tH_f]
      have hR0 : mR I J (aj_u I 22 0 0) J := mR.t hM
      have hT : aj_u I 22 0 0 22 0 = 0 := aj_u_s _ _ _ _
      generalize aj_u I 22 0 0 = I0 at hR0 hT ⊢
      obtain ⟨j, hj, rfl⟩ := pIn_nI (x := x) 3 (by decide) (by assumption)
      refine y_aload0 (q := 27) C 14 rfl rfl ?_
      refine x_getR (q := 30) C 15 rfl rfl fl_RX5_29 (bv_6_10 hB) (fun _ _ => rfl) (by first | assumption | rfl | decide | exact bL hB _ (by decide)) (by first | assumption | rfl | decide | exact bL hB _ (by decide)) ?_
      refine y_iload1 (q := 31) C 16 rfl rfl ?_
      refine x_iald (q := 32) C 17 rfl rfl (by first | assumption | rfl | decide | exact bL hB _ (by decide)) (by first | assumption | rfl | decide | exact bL hB _ (by decide)) (by (first | rw [bn24 hB] | rw [bn40 hB] | rw [bn56 hB] | rw [bn72 hB] | rw [bn27 hB] | rw [bn43 hB] | rw [bn25 hB] | rw [bn41 hB] | rw [bn88 hB] | rw [bn104 hB] | rw [bn120 hB] | rw [bn136 hB] | rw [bn152 hB] | rw [bn168 hB]); first | assumption | exact vp_in_nI (by omega) (by decide)) ?_
      rw [nI_clamp (by omega)]
      exact x_ireturn C Z 18 rfl rfl rfl (hK _ _ _ (by first | exact mR.th hM | exact hR0 | exact mR.tr hR0 hR1 | exact mR.tr hR0 (mR.tw hR0.2.1) | exact mR.tr hR0 (mR.rf hR0.2.1) | exact mR.rf hM))
    · skip
      exact absurd c2 (by decide)
  · skip
    refine x_iconst (q := 11) C 6 (n := (1)) (v := (1)) rfl rfl rfl ?_
    refine x_goto (t := 15) C 7 rfl (by decide) ?_
    refine x_iconst (q := 16) C 9 (n := (1)) (v := (1)) rfl rfl rfl ?_
    refine y_cV2 (q := 19) C 10 rfl rfl ml_RX5_135 cd_X5_start cv_X5_start ⟨by decide, rfl⟩ (by first | assumption | rfl | decide | exact bL hB _ (by decide)) (by decide) (by decide) (Nat.le_of_ble_eq_true rfl) (s_X5_start (b := true) (by decide) hB ?_)
    show aj_X G 19 _ _ _ _ _ _ _ _ _
    refine x_if_eqB (q := 22) (t := 26) C 11 rfl (by decide) rfl (fun c3 => ?_) (fun c3 => ?_)
    · skip
      exact absurd c3 (by decide)
    · skip
      refine x_iconst (q := 23) C 12 (n := (0)) (v := (0)) rfl rfl rfl ?_
      refine x_goto (t := 32) C 13 rfl (by decide) ?_
      exact x_ireturn C Z 18 rfl rfl rfl (hK _ _ _ (by first | exact mR.th hM | exact hR0 | exact mR.tr hR0 hR1 | exact mR.tr hR0 (mR.tw hR0.2.1) | exact mR.tr hR0 (mR.rf hR0.2.1) | exact mR.rf hM))
set_option maxRecDepth 100000 in
set_option maxHeartbeats 800000 in
theorem s_X5_knock {l : Launch} {I : Nat → Nat → Int32} {J : Nat → Nat → Int64} {V : Nat → Nat → Option Nat} {N : Nat → Nat} {L : List Nat} {K : aj_K} (hM : mI I) (hB : bV V N L) (hK : ∀ I1, mQ I J I1 J (nxKn (kV I)) → K (.inl (some (.int (I 168 3 + 1)))) I1 J V N L) : aj_M l yX5_knock (aj_wc yX5_knock cX5_knock 1 (some .int)) (aj_rm 0 0 0) [] [.ref 22] I J V N L K := by
  refine aj_intro (tbl := t_X5_knock) (lv0 := [some (.ref 22)]) (by decide) T_X5_knock aj_f0 (Nat.le_of_ble_eq_true rfl) rfl ?_
  intro G hl C Z NX hnm hGL hGF
  have C : aj_C G cX5_knock t_X5_knock RX5 (aj_rm 0 0 0) 1 := C
  refine y_aload0 (q := 1) C 0 rfl rfl ?_
  refine x_iconst (q := 2) C 1 (n := (0)) (v := (0)) rfl rfl rfl ?_
  refine x_putI (q := 5) C 2 rfl rfl fl_RX5_32 rfl rfl (by first | assumption | rfl | decide | exact bL hB _ (by decide)) (by first | assumption | rfl | decide | exact bL hB _ (by decide)) ?_
  refine y_aload0 (q := 6) C 3 rfl rfl ?_
  refine x_getR (q := 9) C 4 rfl rfl fl_RX5_29 (bv_6_10 hB) (fun _ _ => rfl) (by first | assumption | rfl | decide | exact bL hB _ (by decide)) (by first | assumption | rfl | decide | exact bL hB _ (by decide)) ?_
  refine x_iconst (q := 10) C 5 (n := (3)) (v := nI 3) rfl rfl rfl ?_
  refine x_dup2 (q := 11) C 6 rfl rfl ?_
  refine x_iald (q := 12) C 7 rfl rfl (by first | assumption | rfl | decide | exact bL hB _ (by decide)) (by first | assumption | rfl | decide | exact bL hB _ (by decide)) (by (first | rw [bn24 hB] | rw [bn40 hB] | rw [bn56 hB] | rw [bn72 hB] | rw [bn27 hB] | rw [bn43 hB] | rw [bn25 hB] | rw [bn41 hB] | rw [bn88 hB] | rw [bn104 hB] | rw [bn120 hB] | rw [bn136 hB] | rw [bn152 hB] | rw [bn168 hB]); first | assumption | exact vp_in_nI (by omega) (by decide)) ?_
  rw [nI_clamp (by omega)]
  refine x_iconst (q := 13) C 8 (n := (1)) (v := (1)) rfl rfl rfl ?_
  refine x_iadd (q := 14) C 9 rfl rfl ?_
  refine x_iast (q := 15) C 10 rfl rfl (by first | assumption | rfl | decide | exact bL hB _ (by decide)) (by first | assumption | rfl | decide | exact bL hB _ (by decide)) (by (first | rw [bn24 hB] | rw [bn40 hB] | rw [bn56 hB] | rw [bn72 hB] | rw [bn27 hB] | rw [bn43 hB] | rw [bn25 hB] | rw [bn41 hB] | rw [bn88 hB] | rw [bn104 hB] | rw [bn120 hB] | rw [bn136 hB] | rw [bn152 hB] | rw [bn168 hB]); first | assumption | exact vp_in_nI (by omega) (by decide)) ?_
  rw [nI_clamp (by omega)]
  refine y_aload0 (q := 16) C 11 rfl rfl ?_
  refine x_getR (q := 19) C 12 rfl rfl fl_RX5_29 (bv_6_10 hB) (fun _ _ => rfl) (by first | assumption | rfl | decide | exact bL hB _ (by decide)) (by first | assumption | rfl | decide | exact bL hB _ (by decide)) ?_
  refine x_iconst (q := 20) C 13 (n := (3)) (v := nI 3) rfl rfl rfl ?_
  refine x_iald (q := 21) C 14 rfl rfl (by first | assumption | rfl | decide | exact bL hB _ (by decide)) (by first | assumption | rfl | decide | exact bL hB _ (by decide)) (by (first | rw [bn24 hB] | rw [bn40 hB] | rw [bn56 hB] | rw [bn72 hB] | rw [bn27 hB] | rw [bn43 hB] | rw [bn25 hB] | rw [bn41 hB] | rw [bn88 hB] | rw [bn104 hB] | rw [bn120 hB] | rw [bn136 hB] | rw [bn152 hB] | rw [bn168 hB]); first | assumption | exact vp_in_nI (by omega) (by decide)) ?_
  rw [nI_clamp (by omega)]
  exact x_ireturn C Z 15 rfl rfl rfl (aj_lf (hK (aj_u (aj_u I 22 0 0) 168 3 (I 168 3 + 1)) (mQ.kn hM)) rfl)
