set_option maxRecDepth 100000 in
set_option maxHeartbeats 800000 in
theorem s_X5_removePlace {l : Launch} {I : Nat → Nat → Int32} {J : Nat → Nat → Int64} {V : Nat → Nat → Option Nat} {N : Nat → Nat} {L : List Nat} {K : aj_K} {p : Int32} (hM : mI I) (hB : bV V N L) (hK : ∀ (r : Int32) I1 J1, mQ I J I1 J1 (nxRem p (kV I)) → I1 22 0 = cd1 (vOk (vN (kV I)) p) → (cd1 (vOk (vN (kV I)) p) = 0 → r = anRem (kV I)) → K (.inl (some (.int r))) I1 J1 V N L) : aj_M l yX5_removePlace (aj_wc yX5_removePlace cX5_removePlace 3 (some .int)) (aj_rm 2 0 0) [] [.ref 22, .int p] I J V N L K := by
  refine aj_intro (tbl := t_X5_removePlace) (lv0 := [some (.ref 22), some (.int p), none]) (by decide) T_X5_removePlace aj_f0 (Nat.le_of_ble_eq_true rfl) rfl ?_
  intro G hl C Z NX hnm hGL hGF
  have C : aj_C G cX5_removePlace t_X5_removePlace RX5 (aj_rm 2 0 0) 3 := C
  obtain ⟨n, hn, he⟩ := hM.2.1
  refine y_aload0 (q := 1) C 0 rfl rfl ?_
  refine y_aload0 (q := 2) C 1 rfl rfl ?_
  refine y_iload1 (q := 3) C 2 rfl rfl ?_
  refine y_cV1 (q := 6) C 3 rfl rfl ml_RX5_149 cd_X5_isNoPlace cv_X5_isNoPlace ⟨by decide, rfl⟩ (by first | assumption | rfl | decide | omega | exact bL hB _ (by decide)) (by decide) (by decide) (Nat.le_of_ble_eq_true rfl) (s_X5_isNoPlace (by first | assumption | rfl | decide | omega | exact bL hB _ (by decide)) ?_)
  show aj_X G 6 _ _ _ _ _ _ _ _ _
  refine x_iconst (q := 7) C 4 (n := (1)) (v := (1)) rfl rfl rfl ?_
  refine y_cV2 (q := 10) C 5 rfl rfl ml_RX5_135 cd_X5_start cv_X5_start ⟨by decide, rfl⟩ (by first | assumption | rfl | decide | omega | exact bL hB _ (by decide)) (by decide) (by decide) (Nat.le_of_ble_eq_true rfl) (s_X5_start (by first | assumption | rfl | decide | omega | exact bL hB _ (by decide)) (by first | assumption | rfl | decide | omega | exact bL hB _ (by decide)) ?_)
  show aj_X G 10 _ _ _ _ _ _ _ _ _
  refine x_if_eqB (q := 13) (t := 15) C 6 rfl (by decide) rfl (fun c1 => ?_) (fun c1 => ?_)
  · skip
    rw [show (!pIn p 0 (I 22 7 - 1)) = false by assumption, tH_f]
    have hR0 : mR I J (aj_u I 22 0 0) J := mR.t hM
    have hT : aj_u I 22 0 0 22 0 = 0 := aj_u_s _ _ _ _
    have he0 : aj_u I 22 0 0 22 7 = nI n := (aj_u_k _ _ _ (by decide)).trans he
    generalize aj_u I 22 0 0 = I0 at hR0 hT he0 ⊢
    obtain ⟨j, hj, rfl⟩ := nP hn he (show (!pIn p 0 (I 22 7 - 1)) = false by assumption)
    refine y_aload0 (q := 16) C 9 rfl rfl ?_
    refine x_dupr (q := 17) C 10 rfl rfl ?_
    refine x_getI (q := 20) C 11 rfl rfl fl_RX5_44 (fun _ _ => rfl) (by first | assumption | rfl | decide | omega | exact bL hB _ (by decide)) (by first | assumption | rfl | decide | omega | exact bL hB _ (by decide)) ?_
    rw [he0]
    refine x_iconst (q := 21) C 12 (n := (1)) (v := (1)) rfl rfl rfl ?_
    refine x_isub (q := 22) C 13 rfl rfl ?_
    rw [nI_dm (by omega) hn]
    refine x_putI (q := 25) C 14 rfl rfl fl_RX5_44 rfl rfl (by first | assumption | rfl | decide | omega | exact bL hB _ (by decide)) (by first | assumption | rfl | decide | omega | exact bL hB _ (by decide)) ?_
    have h30 : rmP I0 (aj_u I0 22 7 (nI (n - 1))) n j j := rmP.st hn hR0.2.1
    generalize aj_u I0 22 7 (nI (n - 1)) = I2 at h30 ⊢
    refine y_iload1 (q := 26) C 15 rfl rfl ?_
    refine y_istore2 (q := 27) C 16 rfl rfl (Nat.le_of_ble_eq_true rfl) rfl ?_
    have lp27 : ∀ (m i : Nat) (I3 : Nat → Nat → Int32), i + m = n - 1 → j ≤ i → rmP I0 I3 n j i → aj_X G 27 [some (.ref 22), some (.int (nI j)), some (.int (nI i))] [] I3 J V N L 0 0 := by
      intro m
      induction m with
      | zero =>
        intro i I3 hi hji h3
        refine y_iload2 (q := 28) C 17 rfl rfl ?_
        refine y_aload0 (q := 29) C 18 rfl rfl ?_
        refine x_getI (q := 32) C 19 rfl rfl fl_RX5_44 (fun _ _ => rfl) (by first | assumption | rfl | decide | omega | exact bL hB _ (by decide)) (by first | assumption | rfl | decide | omega | exact bL hB _ (by decide)) ?_
        rw [h3.2.2.1]
        refine x_icmp_ge (q := 35) (t := 69) C 20 rfl (by decide) rfl (fun c2 => ?_) (fun c2 => ?_)
        · skip
          refine y_aload0 (q := 70) C 43 rfl rfl ?_
          refine x_getR (q := 73) C 44 rfl rfl fl_RX5_29 (bv_6_10 hB) (fun _ _ => rfl) (by first | assumption | rfl | decide | omega | exact bL hB _ (by decide)) (by first | assumption | rfl | decide | omega | exact bL hB _ (by decide)) ?_
          refine x_iconst (q := 74) C 45 (n := (1)) (v := nI 1) rfl rfl rfl ?_
          refine x_dup2 (q := 75) C 46 rfl rfl ?_
          refine x_iald (q := 76) C 47 rfl rfl (by first | assumption | rfl | decide | omega | exact bL hB _ (by decide)) (by first | assumption | rfl | decide | omega | exact bL hB _ (by decide)) (by (first | rw [bn24 hB] | rw [bn40 hB] | rw [bn56 hB] | rw [bn72 hB] | rw [bn27 hB] | rw [bn43 hB] | rw [bn25 hB] | rw [bn41 hB] | rw [bn88 hB] | rw [bn104 hB] | rw [bn120 hB] | rw [bn136 hB] | rw [bn152 hB] | rw [bn168 hB]); first | assumption | exact vp_in_nI (by omega) (by decide)) ?_
          rw [nI_clamp (by omega)]
          refine x_iconst (q := 77) C 48 (n := (1)) (v := (1)) rfl rfl rfl ?_
          refine x_iadd (q := 78) C 49 rfl rfl ?_
          refine x_iast (q := 79) C 50 rfl rfl (by first | assumption | rfl | decide | omega | exact bL hB _ (by decide)) (by first | assumption | rfl | decide | omega | exact bL hB _ (by decide)) (by (first | rw [bn24 hB] | rw [bn40 hB] | rw [bn56 hB] | rw [bn72 hB] | rw [bn27 hB] | rw [bn43 hB] | rw [bn25 hB] | rw [bn41 hB] | rw [bn88 hB] | rw [bn104 hB] | rw [bn120 hB] | rw [bn136 hB] | rw [bn152 hB] | rw [bn168 hB]); first | assumption | exact vp_in_nI (by omega) (by decide)) ?_
          rw [nI_clamp (by omega)]
          refine y_aload0 (q := 80) C 51 rfl rfl ?_
          refine x_getI (q := 83) C 52 rfl rfl fl_RX5_44 (fun _ _ => rfl) (by first | assumption | rfl | decide | omega | exact bL hB _ (by decide)) (by first | assumption | rfl | decide | omega | exact bL hB _ (by decide)) ?_
          exact x_ireturn C Z 53 rfl rfl rfl (hK _ _ _ (mQ.rm hR0 hn hj he0 (by have e : i = n - 1 := (by omega); subst e; exact h3)).1 (by rw [cd1_t (kV.okt hn he hj), aj_u_i _ _ _ (by decide), h3.2.2.2.1]; exact hT) (fun _ => by rw [(mQ.rm (w := 0) hR0 hn hj he0 (by have e : i = n - 1 := (by omega); subst e; exact h3)).2]; first | exact h3.2.2.1 | (rw [aj_u_i _ _ _ (by decide)]; exact h3.2.2.1)))
        · skip
          exact absurd (nI_le (by omega) (by omega)) c2
      | succ m ih =>
        intro i I3 hi hji h3
        refine y_iload2 (q := 28) C 17 rfl rfl ?_
        refine y_aload0 (q := 29) C 18 rfl rfl ?_
        refine x_getI (q := 32) C 19 rfl rfl fl_RX5_44 (fun _ _ => rfl) (by first | assumption | rfl | decide | omega | exact bL hB _ (by decide)) (by first | assumption | rfl | decide | omega | exact bL hB _ (by decide)) ?_
        rw [h3.2.2.1]
        refine x_icmp_ge (q := 35) (t := 69) C 20 rfl (by decide) rfl (fun c3 => ?_) (fun c3 => ?_)
        · skip
          exact absurd c3 (nI_ge (by omega) (by omega))
        · skip
          refine y_aload0 (q := 36) C 21 rfl rfl ?_
          refine x_getR (q := 39) C 22 rfl rfl fl_RX5_23 (bv_6_5 hB) (fun _ _ => rfl) (by first | assumption | rfl | decide | omega | exact bL hB _ (by decide)) (by first | assumption | rfl | decide | omega | exact bL hB _ (by decide)) ?_
          refine y_iload2 (q := 40) C 23 rfl rfl ?_
          refine y_aload0 (q := 41) C 24 rfl rfl ?_
          refine x_getR (q := 44) C 25 rfl rfl fl_RX5_23 (bv_6_5 hB) (fun _ _ => rfl) (by first | assumption | rfl | decide | omega | exact bL hB _ (by decide)) (by first | assumption | rfl | decide | omega | exact bL hB _ (by decide)) ?_
          refine y_iload2 (q := 45) C 26 rfl rfl ?_
          refine x_iconst (q := 46) C 27 (n := (1)) (v := (1)) rfl rfl rfl ?_
          refine x_iadd (q := 47) C 28 rfl rfl ?_
          rw [nI_1]
          refine x_iald (q := 48) C 29 rfl rfl (by first | assumption | rfl | decide | omega | exact bL hB _ (by decide)) (by first | assumption | rfl | decide | omega | exact bL hB _ (by decide)) (by (first | rw [bn24 hB] | rw [bn40 hB] | rw [bn56 hB] | rw [bn72 hB] | rw [bn27 hB] | rw [bn43 hB] | rw [bn25 hB] | rw [bn41 hB] | rw [bn88 hB] | rw [bn104 hB] | rw [bn120 hB] | rw [bn136 hB] | rw [bn152 hB] | rw [bn168 hB]); first | assumption | exact vp_in_nI (by omega) (by decide)) ?_
          rw [nI_clamp (by omega)]
          refine x_iast (q := 49) C 30 rfl rfl (by first | assumption | rfl | decide | omega | exact bL hB _ (by decide)) (by first | assumption | rfl | decide | omega | exact bL hB _ (by decide)) (by (first | rw [bn24 hB] | rw [bn40 hB] | rw [bn56 hB] | rw [bn72 hB] | rw [bn27 hB] | rw [bn43 hB] | rw [bn25 hB] | rw [bn41 hB] | rw [bn88 hB] | rw [bn104 hB] | rw [bn120 hB] | rw [bn136 hB] | rw [bn152 hB] | rw [bn168 hB]); first | assumption | exact vp_in_nI (by omega) (by decide)) ?_
          rw [nI_clamp (by omega)]
          refine y_aload0 (q := 50) C 31 rfl rfl ?_
          refine x_getR (q := 53) C 32 rfl rfl fl_RX5_26 (bv_6_6 hB) (fun _ _ => rfl) (by first | assumption | rfl | decide | omega | exact bL hB _ (by decide)) (by first | assumption | rfl | decide | omega | exact bL hB _ (by decide)) ?_
          refine y_iload2 (q := 54) C 33 rfl rfl ?_
          refine y_aload0 (q := 55) C 34 rfl rfl ?_
          refine x_getR (q := 58) C 35 rfl rfl fl_RX5_26 (bv_6_6 hB) (fun _ _ => rfl) (by first | assumption | rfl | decide | omega | exact bL hB _ (by decide)) (by first | assumption | rfl | decide | omega | exact bL hB _ (by decide)) ?_
          refine y_iload2 (q := 59) C 36 rfl rfl ?_
          refine x_iconst (q := 60) C 37 (n := (1)) (v := (1)) rfl rfl rfl ?_
          refine x_iadd (q := 61) C 38 rfl rfl ?_
          rw [nI_1]
          refine x_iald (q := 62) C 39 rfl rfl (by first | assumption | rfl | decide | omega | exact bL hB _ (by decide)) (by first | assumption | rfl | decide | omega | exact bL hB _ (by decide)) (by (first | rw [bn24 hB] | rw [bn40 hB] | rw [bn56 hB] | rw [bn72 hB] | rw [bn27 hB] | rw [bn43 hB] | rw [bn25 hB] | rw [bn41 hB] | rw [bn88 hB] | rw [bn104 hB] | rw [bn120 hB] | rw [bn136 hB] | rw [bn152 hB] | rw [bn168 hB]); first | assumption | exact vp_in_nI (by omega) (by decide)) ?_
          rw [nI_clamp (by omega)]
          refine x_iast (q := 63) C 40 rfl rfl (by first | assumption | rfl | decide | omega | exact bL hB _ (by decide)) (by first | assumption | rfl | decide | omega | exact bL hB _ (by decide)) (by (first | rw [bn24 hB] | rw [bn40 hB] | rw [bn56 hB] | rw [bn72 hB] | rw [bn27 hB] | rw [bn43 hB] | rw [bn25 hB] | rw [bn41 hB] | rw [bn88 hB] | rw [bn104 hB] | rw [bn120 hB] | rw [bn136 hB] | rw [bn152 hB] | rw [bn168 hB]); first | assumption | exact vp_in_nI (by omega) (by decide)) ?_
          rw [nI_clamp (by omega)]
          refine y_iinc2 (q := 66) C 41 rfl rfl (nI_1 i) (Nat.le_of_ble_eq_true rfl) rfl ?_
          refine x_goto (t := 27) C 42 rfl (by decide) ?_
          exact ih (i + 1) _ (by omega) (by omega) (h3.up (by omega) (by omega))
    exact lp27 (n - 1 - j) j I2 (by omega) (Nat.le_refl j) h30
  · skip
    refine x_iconst (q := 14) C 7 (n := (0)) (v := (0)) rfl rfl rfl ?_
    exact x_ireturn C Z 8 rfl rfl rfl (hK _ _ _ (mQ.no (mR.th hM) (nxRem_f (kV.okf hn he (by assumption)))) (by rw [cd1_f (kV.okf hn he (by assumption))]; exact tH_t (by assumption)) (cd1_n (kV.okf hn he (by assumption))))
