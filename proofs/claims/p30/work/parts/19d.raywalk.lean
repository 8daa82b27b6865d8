set_option maxRecDepth 100000 in
set_option maxHeartbeats 800000 in
theorem s_X3_sortSteps {l : Launch} {I : Nat → Nat → Int32} {J : Nat → Nat → Int64} {V : Nat → Nat → Option Nat} {N : Nat → Nat} {L : List Nat} {K : aj_K} {b : Bool} (hCL : cL I) (hB : bV V N L) (hK : ∀ V1 (r : Int32), bV V1 N L → (∀ i, i ≠ 27 → i ≠ 43 → V1 i = V i) → (∀ j, j < 8 → V1 43 j = V 27 j) → srtP b I V V1 8 → r = nI (cnt (soC I V V1) 8) → K (.inl (some (.int r))) (aj_u I 20 6 (I 20 6 + 1)) J V1 N L) : aj_M l yX3_sortSteps (aj_wc yX3_sortSteps cX3_sortSteps 4 (some .int)) (aj_rm 4 0 0) [] [.ref 20, .int (bI b)] I J V N L K := by
  refine aj_intro (tbl := t_X3_sortSteps) (lv0 := [some (.ref 20), some (.int (bI b)), none, none]) (by decide) T_X3_sortSteps aj_f0 (Nat.le_of_ble_eq_true rfl) rfl ?_
  intro G hl C Z NX hnm hGL hGF
  have C : aj_C G cX3_sortSteps t_X3_sortSteps RX3 (aj_rm 4 0 0) 4 := C
  refine x_iconst (q := 1) C 0 (n := (0)) (v := nI 0) rfl rfl rfl ?_
  refine y_istore2 (q := 2) C 1 rfl rfl (Nat.le_of_ble_eq_true rfl) rfl ?_
  have lp2 : ∀ (m j : Nat) (V1 : Nat → Nat → Option Nat), j + m = 8 → V1 27 = V 27 → bV V1 N L → (∀ i, i ≠ 27 → i ≠ 43 → V1 i = V i) → (∀ k, k < j → V1 43 k = V 27 k) → aj_X G 2 [some (.ref 20), some (.int (bI b)), some (.int (nI j)), none] [] I J V1 N L 0 0 := by
    intro m
    induction m with
    | zero =>
      intro j V1 hj h27 hB1 hv1 hs1
      refine y_iload2 (q := 3) C 2 rfl rfl ?_
      refine x_bipush (q := 5) C 3 (n := (8)) (v := nI 8) rfl rfl rfl ?_
      refine x_icmp_ge (q := 8) (t := 26) C 4 rfl (by decide) rfl (fun c1 => ?_) (fun c1 => ?_)
      · skip
        refine x_iconst (q := 27) C 15 (n := (1)) (v := nI 1) rfl rfl rfl ?_
        refine y_istore2 (q := 28) C 16 rfl rfl (Nat.le_of_ble_eq_true rfl) rfl ?_
        have lp28 : ∀ (mi j : Nat) (V1 : Nat → Nat → Option Nat), j + mi = 8 → srtP b I V V1 j → bV V1 N L → (∀ i, i ≠ 27 → i ≠ 43 → V1 i = V i) → (∀ j, j < 8 → V1 43 j = V 27 j) → aj_X G 28 [some (.ref 20), some (.int (bI b)), some (.int (nI j)), none] [] I J V1 N L 0 0 := by
          intro mi
          induction mi with
          | zero =>
            intro q V1 hq hsr hB1 hv1 h43
            refine y_iload2 (q := 29) C 17 rfl rfl ?_
            refine x_bipush (q := 31) C 18 (n := (8)) (v := nI 8) rfl rfl rfl ?_
            refine x_icmp_ge (q := 34) (t := 46) C 19 rfl (by decide) rfl (fun c2 => ?_) (fun c2 => ?_)
            · skip
              refine x_iconst (q := 47) C 26 (n := (0)) (v := (0)) rfl rfl rfl ?_
              refine y_istore2 (q := 48) C 27 rfl rfl (Nat.le_of_ble_eq_true rfl) rfl ?_
              refine x_iconst (q := 49) C 28 (n := (0)) (v := nI 0) rfl rfl rfl ?_
              refine y_istore3 (q := 50) C 29 rfl rfl (Nat.le_of_ble_eq_true rfl) rfl ?_
              have lp50 : ∀ (mk j : Nat) (r : Int32), j + mk = 8 → r = nI (cnt (soC I V V1) j) → aj_X G 50 [some (.ref 20), some (.int (bI b)), some (.int r), some (.int (nI j))] [] I J V1 N L 0 0 := by
                intro mk
                induction mk with
                | zero =>
                  intro j r hj hr
                  refine y_iload3 (q := 51) C 30 rfl rfl ?_
                  refine x_bipush (q := 53) C 31 (n := (8)) (v := nI 8) rfl rfl rfl ?_
                  refine x_icmp_ge (q := 56) (t := 83) C 32 rfl (by decide) rfl (fun c3 => ?_) (fun c3 => ?_)
                  · skip
                    refine y_aload0 (q := 84) C 46 rfl rfl ?_
                    refine x_dupr (q := 85) C 47 rfl rfl ?_
                    refine x_getI (q := 88) C 48 rfl rfl fl_RX3_85 (fun _ _ => rfl) (by first | assumption | rfl | decide | exact bL hB _ (by decide) | exact vc3 hB (by omega) | exact vcL hB (by omega) | exact bL hB1 _ (by decide) | exact vc3 hB1 (by omega) | exact vcL hB1 (by omega)) (by first | assumption | rfl | decide | exact bL hB _ (by decide) | exact vc3 hB (by omega) | exact vcL hB (by omega) | exact bL hB1 _ (by decide) | exact vc3 hB1 (by omega) | exact vcL hB1 (by omega)) ?_
                    refine x_iconst (q := 89) C 49 (n := (1)) (v := (1)) rfl rfl rfl ?_
                    refine x_iadd (q := 90) C 50 rfl rfl ?_
                    refine x_putI (q := 93) C 51 rfl rfl fl_RX3_85 rfl rfl (by first | assumption | rfl | decide | exact bL hB _ (by decide) | exact vc3 hB (by omega) | exact vcL hB (by omega) | exact bL hB1 _ (by decide) | exact vc3 hB1 (by omega) | exact vcL hB1 (by omega)) (by first | assumption | rfl | decide | exact bL hB _ (by decide) | exact vc3 hB (by omega) | exact vcL hB (by omega) | exact bL hB1 _ (by decide) | exact vc3 hB1 (by omega) | exact vcL hB1 (by omega)) ?_
                    refine y_iload2 (q := 94) C 52 rfl rfl ?_
                    exact x_ireturn C Z 53 rfl rfl rfl (hK V1 r hB1 hv1 h43 (by rw [show q = 8 by omega] at hsr; exact hsr) (by rw [hr, show j = 8 by omega]))
                  · skip
                    exact absurd (nI_le (by omega) (by omega)) c3
                | succ mk ihk =>
                  intro j r hj hr
                  refine y_iload3 (q := 51) C 30 rfl rfl ?_
                  refine x_bipush (q := 53) C 31 (n := (8)) (v := nI 8) rfl rfl rfl ?_
                  refine x_icmp_ge (q := 56) (t := 83) C 32 rfl (by decide) rfl (fun c4 => ?_) (fun c4 => ?_)
                  · skip
                    exact absurd c4 (nI_ge (by omega) (by omega))
                  · skip
                    have hc2 : V1 43 j = some (vc V j) := (h43 j (by omega)).trans (vcV hB (by omega))
                    have hc3 : vc V j ∈ aj_CS := vcM hB (by omega)
                    refine y_aload0 (q := 57) C 33 rfl rfl ?_
                    refine x_getR (q := 60) C 34 rfl rfl fl_RX3_11 (bv_4_0 hB1) (fun _ _ => rfl) (by first | assumption | rfl | decide | exact bL hB _ (by decide) | exact vc3 hB (by omega) | exact vcL hB (by omega) | exact bL hB1 _ (by decide) | exact vc3 hB1 (by omega) | exact vcL hB1 (by omega)) (by first | assumption | rfl | decide | exact bL hB _ (by decide) | exact vc3 hB (by omega) | exact vcL hB (by omega) | exact bL hB1 _ (by decide) | exact vc3 hB1 (by omega) | exact vcL hB1 (by omega)) ?_
                    refine y_iload3 (q := 61) C 35 rfl rfl ?_
                    refine x_aald (q := 62) C 36 rfl rfl (by first | assumption | rfl | decide | exact bL hB _ (by decide) | exact vc3 hB (by omega) | exact vcL hB (by omega) | exact bL hB1 _ (by decide) | exact vc3 hB1 (by omega) | exact vcL hB1 (by omega)) (by first | assumption | rfl | decide | exact bL hB _ (by decide) | exact vc3 hB (by omega) | exact vcL hB (by omega) | exact bL hB1 _ (by decide) | exact vc3 hB1 (by omega) | exact vcL hB1 (by omega)) (by (first | rw [bn24 hB1] | rw [bn40 hB1] | rw [bn56 hB1] | rw [bn72 hB1] | rw [bn27 hB1] | rw [bn43 hB1] | rw [bn25 hB1] | rw [bn41 hB1] | rw [bn88 hB1] | rw [bn104 hB1] | rw [bn120 hB1] | rw [bn136 hB1] | rw [bn152 hB1] | rw [bn168 hB1]); first | assumption | exact vp_in_nI (by omega) (by decide)) (by rw [nI_clamp (by omega)]; exact vcV hB1 (by omega)) ?_
                    refine y_aload0 (q := 63) C 37 rfl rfl ?_
                    refine x_getR (q := 66) C 38 rfl rfl fl_RX3_15 (bv_4_1 hB1) (fun _ _ => rfl) (by first | assumption | rfl | decide | exact bL hB _ (by decide) | exact vc3 hB (by omega) | exact vcL hB (by omega) | exact bL hB1 _ (by decide) | exact vc3 hB1 (by omega) | exact vcL hB1 (by omega)) (by first | assumption | rfl | decide | exact bL hB _ (by decide) | exact vc3 hB (by omega) | exact vcL hB (by omega) | exact bL hB1 _ (by decide) | exact vc3 hB1 (by omega) | exact vcL hB1 (by omega)) ?_
                    refine y_iload3 (q := 67) C 39 rfl rfl ?_
                    refine x_aald (q := 68) C 40 rfl rfl (by first | assumption | rfl | decide | exact bL hB _ (by decide) | exact vc3 hB (by omega) | exact vcL hB (by omega) | exact bL hB1 _ (by decide) | exact vc3 hB1 (by omega) | exact vcL hB1 (by omega)) (by first | assumption | rfl | decide | exact bL hB _ (by decide) | exact vc3 hB (by omega) | exact vcL hB (by omega) | exact bL hB1 _ (by decide) | exact vc3 hB1 (by omega) | exact vcL hB1 (by omega)) (by (first | rw [bn24 hB1] | rw [bn40 hB1] | rw [bn56 hB1] | rw [bn72 hB1] | rw [bn27 hB1] | rw [bn43 hB1] | rw [bn25 hB1] | rw [bn41 hB1] | rw [bn88 hB1] | rw [bn104 hB1] | rw [bn120 hB1] | rw [bn136 hB1] | rw [bn152 hB1] | rw [bn168 hB1]); first | assumption | exact vp_in_nI (by omega) (by decide)) (by rw [nI_clamp (by omega)]; exact hc2) ?_
                    refine y_cV1 (q := 71) C 41 rfl rfl ml_RX3_81 cd_X2_isTwinOf cv_X2_isTwinOf (by first | exact ⟨by decide, rfl⟩ | exact vcR hB1 (by omega)) (by first | assumption | rfl | decide | exact bL hB _ (by decide) | exact vc3 hB (by omega) | exact vcL hB (by omega) | exact bL hB1 _ (by decide) | exact vc3 hB1 (by omega) | exact vcL hB1 (by omega)) (by decide) (by decide) (Nat.le_of_ble_eq_true rfl) (s_X2_isTwinOf (vc3 hB1 (by omega)) (vcL hB1 (by omega)) (cs3 _ hc3) (bL hB1 _ (csB _ hc3)) ?_)
                    show aj_X G 71 _ _ _ _ _ _ _ _ _
                    refine x_if_neB (q := 74) (t := 77) C 42 rfl (by decide) rfl (fun c5 => ?_) (fun c5 => ?_)
                    · skip
                      refine y_iinc3 (q := 80) C 44 rfl rfl (nI_1 j) (Nat.le_of_ble_eq_true rfl) rfl ?_
                      refine x_goto (t := 50) C 45 rfl (by decide) ?_
                      exact ihk (j + 1) _ (by omega) (hr.trans (congrArg nI (cnt_f (by show (!decide (tc I (vc V1 j) = tc I (vc V j))) = false; rw [← pTw_e, show pTwin (I (vc V1 j) 0) (I (vc V1 j) 1) (I (vc V1 j) 2) (I (vc V j) 0) (I (vc V j) 1) (I (vc V j) 2) = true by assumption]; rfl)).symm))
                    · skip
                      refine y_iinc2 (q := 77) C 43 rfl rfl rfl (Nat.le_of_ble_eq_true rfl) rfl ?_
                      refine y_iinc3 (q := 80) C 44 rfl rfl (nI_1 j) (Nat.le_of_ble_eq_true rfl) rfl ?_
                      refine x_goto (t := 50) C 45 rfl (by decide) ?_
                      exact ihk (j + 1) _ (by omega) (by rw [hr, show Int32.ofInt 1 = 1 from rfl]; exact (nI_1 _).trans (congrArg nI (cnt_t (by show (!decide (tc I (vc V1 j) = tc I (vc V j))) = true; rw [← pTw_e, show pTwin (I (vc V1 j) 0) (I (vc V1 j) 1) (I (vc V1 j) 2) (I (vc V j) 0) (I (vc V j) 1) (I (vc V j) 2) = false by assumption]; rfl)).symm))
              exact lp50 8 0 0 (by omega) rfl
            · skip
              exact absurd (nI_le (by omega) (by omega)) c2
          | succ mi ihi =>
            intro q V1 hq hsr hB1 hv1 h43
            refine y_iload2 (q := 29) C 17 rfl rfl ?_
            refine x_bipush (q := 31) C 18 (n := (8)) (v := nI 8) rfl rfl rfl ?_
            refine x_icmp_ge (q := 34) (t := 46) C 19 rfl (by decide) rfl (fun c6 => ?_) (fun c6 => ?_)
            · skip
              exact absurd c6 (nI_ge (by omega) (by omega))
            · skip
              refine y_aload0 (q := 35) C 20 rfl rfl ?_
              refine y_iload2 (q := 36) C 21 rfl rfl ?_
              refine y_iload1 (q := 37) C 22 rfl rfl ?_
              refine y_cV2 (q := 40) C 23 rfl rfl ml_RX3_77 cd_X3_sinkIntoSorted cv_X3_sinkIntoSorted ⟨by decide, rfl⟩ (by first | assumption | rfl | decide | exact bL hB _ (by decide) | exact vc3 hB (by omega) | exact vcL hB (by omega) | exact bL hB1 _ (by decide) | exact vc3 hB1 (by omega) | exact vcL hB1 (by omega)) (by decide) (by decide) (Nat.le_of_ble_eq_true rfl) (s_X3_sinkIntoSorted (by omega) hB1 ?_)
              intro V2 a2 hB2 hv2 ha2 hi2 hw2 hn2
              show aj_X G 40 _ _ _ _ _ _ _ _ _
              refine y_iinc2 (q := 43) C 24 rfl rfl (nI_1 q) (Nat.le_of_ble_eq_true rfl) rfl ?_
              refine x_goto (t := 28) C 25 rfl (by decide) ?_
              exact ihi (q + 1) _ (by omega) (srtP.up hB hCL (by omega) hsr ha2 hi2 hw2 hn2) hB2 (fun i h1 h2 => (hv2 i h1).trans (hv1 i h1 h2)) (fun k hk => by rw [hv2 43 (by decide)]; exact h43 k hk)
        exact lp28 7 1 V1 (by omega) (srtP.st h27) hB1 hv1 (fun k hk => hs1 k (by omega))
      · skip
        exact absurd (nI_le (by omega) (by omega)) c1
    | succ m ih =>
      intro j V1 hj h27 hB1 hv1 hs1
      refine y_iload2 (q := 3) C 2 rfl rfl ?_
      refine x_bipush (q := 5) C 3 (n := (8)) (v := nI 8) rfl rfl rfl ?_
      refine x_icmp_ge (q := 8) (t := 26) C 4 rfl (by decide) rfl (fun c7 => ?_) (fun c7 => ?_)
      · skip
        exact absurd c7 (nI_ge (by omega) (by omega))
      · skip
        refine y_aload0 (q := 9) C 5 rfl rfl ?_
        refine x_getR (q := 12) C 6 rfl rfl fl_RX3_15 (bv_4_1 hB1) (fun _ _ => rfl) (by first | assumption | rfl | decide | exact bL hB _ (by decide) | exact vc3 hB (by omega) | exact vcL hB (by omega) | exact bL hB1 _ (by decide) | exact vc3 hB1 (by omega) | exact vcL hB1 (by omega)) (by first | assumption | rfl | decide | exact bL hB _ (by decide) | exact vc3 hB (by omega) | exact vcL hB (by omega) | exact bL hB1 _ (by decide) | exact vc3 hB1 (by omega) | exact vcL hB1 (by omega)) ?_
        refine y_iload2 (q := 13) C 7 rfl rfl ?_
        refine y_aload0 (q := 14) C 8 rfl rfl ?_
        refine x_getR (q := 17) C 9 rfl rfl fl_RX3_11 (bv_4_0 hB1) (fun _ _ => rfl) (by first | assumption | rfl | decide | exact bL hB _ (by decide) | exact vc3 hB (by omega) | exact vcL hB (by omega) | exact bL hB1 _ (by decide) | exact vc3 hB1 (by omega) | exact vcL hB1 (by omega)) (by first | assumption | rfl | decide | exact bL hB _ (by decide) | exact vc3 hB (by omega) | exact vcL hB (by omega) | exact bL hB1 _ (by decide) | exact vc3 hB1 (by omega) | exact vcL hB1 (by omega)) ?_
        refine y_iload2 (q := 18) C 10 rfl rfl ?_
        refine x_aald (q := 19) C 11 rfl rfl (by first | assumption | rfl | decide | exact bL hB _ (by decide) | exact vc3 hB (by omega) | exact vcL hB (by omega) | exact bL hB1 _ (by decide) | exact vc3 hB1 (by omega) | exact vcL hB1 (by omega)) (by first | assumption | rfl | decide | exact bL hB _ (by decide) | exact vc3 hB (by omega) | exact vcL hB (by omega) | exact bL hB1 _ (by decide) | exact vc3 hB1 (by omega) | exact vcL hB1 (by omega)) (by (first | rw [bn24 hB1] | rw [bn40 hB1] | rw [bn56 hB1] | rw [bn72 hB1] | rw [bn27 hB1] | rw [bn43 hB1] | rw [bn25 hB1] | rw [bn41 hB1] | rw [bn88 hB1] | rw [bn104 hB1] | rw [bn120 hB1] | rw [bn136 hB1] | rw [bn152 hB1] | rw [bn168 hB1]); first | assumption | exact vp_in_nI (by omega) (by decide)) (by rw [nI_clamp (by omega)]; exact vcV hB1 (by omega)) ?_
        refine x_aast (q := 20) C 12 rfl rfl (by first | assumption | rfl | decide | exact bL hB _ (by decide) | exact vc3 hB (by omega) | exact vcL hB (by omega) | exact bL hB1 _ (by decide) | exact vc3 hB1 (by omega) | exact vcL hB1 (by omega)) (by first | assumption | rfl | decide | exact bL hB _ (by decide) | exact vc3 hB (by omega) | exact vcL hB (by omega) | exact bL hB1 _ (by decide) | exact vc3 hB1 (by omega) | exact vcL hB1 (by omega)) (vc3 hB1 (by omega)) (vcL hB1 (by omega)) (by (first | rw [bn24 hB1] | rw [bn40 hB1] | rw [bn56 hB1] | rw [bn72 hB1] | rw [bn27 hB1] | rw [bn43 hB1] | rw [bn25 hB1] | rw [bn41 hB1] | rw [bn88 hB1] | rw [bn104 hB1] | rw [bn120 hB1] | rw [bn136 hB1] | rw [bn152 hB1] | rw [bn168 hB1]); first | assumption | exact vp_in_nI (by omega) (by decide)) ?_
        rw [nI_clamp (by omega)]
        refine y_iinc2 (q := 23) C 13 rfl rfl (nI_1 j) (Nat.le_of_ble_eq_true rfl) rfl ?_
        refine x_goto (t := 2) C 14 rfl (by decide) ?_
        exact ih (j + 1) _ (by omega) ((aj_u_o _ _ (by decide)).trans h27) (bV.v hB1 (fun i h1 h2 => aj_u_o _ _ h2) (fun k hk => by rw [aj_u_o _ _ (by decide)]; exact hB1.2.2.2.2.2 k hk)) (fun i h1 h2 => (aj_u_o _ _ h2).trans (hv1 i h1 h2)) (fun k hk => by
          by_cases z : k = j
          · subst z; exact (aj_u_s _ _ _ _).trans ((vcV hB1 (by omega)).symm.trans (congrFun h27 k))
          · rw [aj_u_k _ _ _ z]; exact hs1 k (by omega))
  exact lp2 8 0 V (by omega) rfl hB (fun _ _ _ => rfl) (fun k hk => absurd hk (Nat.not_lt_zero k))
set_option maxRecDepth 100000 in
set_option maxHeartbeats 800000 in
theorem s_X3_isPairSound {l : Launch} {I : Nat → Nat → Int32} {J : Nat → Nat → Int64} {V : Nat → Nat → Option Nat} {N : Nat → Nat} {L : List Nat} {K : aj_K} {i j : Nat} (hi : i < 8) (hj : j < 8) (hB : bV V N L) (hK : ∀ b : Bool, K (.inl (some (.int (bI b)))) I J V N L) : aj_M l yX3_isPairSound (aj_wc yX3_isPairSound cX3_isPairSound 6 (some .boolean)) (aj_rm 4 0 0) [] [.ref 20, .int (nI i), .int (nI j)] I J V N L K := by
  refine aj_intro (tbl := t_X3_isPairSound) (lv0 := [some (.ref 20), some (.int (nI i)), some (.int (nI j)), none, none, none]) (by decide) T_X3_isPairSound aj_f0 (Nat.le_of_ble_eq_true rfl) rfl ?_
  intro G hl C Z NX hnm hGL hGF
  have C : aj_C G cX3_isPairSound t_X3_isPairSound RX3 (aj_rm 4 0 0) 6 := C
  refine y_aload0 (q := 1) C 0 rfl rfl ?_
  refine x_getR (q := 4) C 1 rfl rfl fl_RX3_11 (bv_4_0 hB) (fun _ _ => rfl) (by first | assumption | rfl | decide | exact bL hB _ (by decide) | exact vc3 hB (by omega) | exact vcL hB (by omega)) (by first | assumption | rfl | decide | exact bL hB _ (by decide) | exact vc3 hB (by omega) | exact vcL hB (by omega)) ?_
  refine y_iload1 (q := 5) C 2 rfl rfl ?_
  refine x_aald (q := 6) C 3 rfl rfl (by first | assumption | rfl | decide | exact bL hB _ (by decide) | exact vc3 hB (by omega) | exact vcL hB (by omega)) (by first | assumption | rfl | decide | exact bL hB _ (by decide) | exact vc3 hB (by omega) | exact vcL hB (by omega)) (by (first | rw [bn24 hB] | rw [bn40 hB] | rw [bn56 hB] | rw [bn72 hB] | rw [bn27 hB] | rw [bn43 hB] | rw [bn25 hB] | rw [bn41 hB] | rw [bn88 hB] | rw [bn104 hB] | rw [bn120 hB] | rw [bn136 hB] | rw [bn152 hB] | rw [bn168 hB]); first | assumption | exact vp_in_nI (by omega) (by decide)) (by rw [nI_clamp (by omega)]; exact vcV hB (by omega)) ?_
  refine y_astore3 (q := 7) C 4 rfl rfl (Nat.le_of_ble_eq_true rfl) rfl ?_
  refine y_aload0 (q := 8) C 5 rfl rfl ?_
  refine x_getR (q := 11) C 6 rfl rfl fl_RX3_11 (bv_4_0 hB) (fun _ _ => rfl) (by first | assumption | rfl | decide | exact bL hB _ (by decide) | exact vc3 hB (by omega) | exact vcL hB (by omega)) (by first | assumption | rfl | decide | exact bL hB _ (by decide) | exact vc3 hB (by omega) | exact vcL hB (by omega)) ?_
  refine y_iload2 (q := 12) C 7 rfl rfl ?_
  refine x_aald (q := 13) C 8 rfl rfl (by first | assumption | rfl | decide | exact bL hB _ (by decide) | exact vc3 hB (by omega) | exact vcL hB (by omega)) (by first | assumption | rfl | decide | exact bL hB _ (by decide) | exact vc3 hB (by omega) | exact vcL hB (by omega)) (by (first | rw [bn24 hB] | rw [bn40 hB] | rw [bn56 hB] | rw [bn72 hB] | rw [bn27 hB] | rw [bn43 hB] | rw [bn25 hB] | rw [bn41 hB] | rw [bn88 hB] | rw [bn104 hB] | rw [bn120 hB] | rw [bn136 hB] | rw [bn152 hB] | rw [bn168 hB]); first | assumption | exact vp_in_nI (by omega) (by decide)) (by rw [nI_clamp (by omega)]; exact vcV hB (by omega)) ?_
  refine y_astore4 (q := 15) C 9 rfl rfl (Nat.le_of_ble_eq_true rfl) rfl ?_
  refine y_aload3 (q := 16) C 10 rfl rfl ?_
  refine y_aload0 (q := 17) C 11 rfl rfl ?_
  refine x_getR (q := 20) C 12 rfl rfl fl_RX3_18 (bv_4_2 hB) (fun _ _ => rfl) (by first | assumption | rfl | decide | exact bL hB _ (by decide) | exact vc3 hB (by omega) | exact vcL hB (by omega)) (by first | assumption | rfl | decide | exact bL hB _ (by decide) | exact vc3 hB (by omega) | exact vcL hB (by omega)) ?_
  refine y_iload1 (q := 21) C 13 rfl rfl ?_
  refine x_lald (q := 22) C 14 rfl rfl (by first | assumption | rfl | decide | exact bL hB _ (by decide) | exact vc3 hB (by omega) | exact vcL hB (by omega)) (by first | assumption | rfl | decide | exact bL hB _ (by decide) | exact vc3 hB (by omega) | exact vcL hB (by omega)) (by (first | rw [bn24 hB] | rw [bn40 hB] | rw [bn56 hB] | rw [bn72 hB] | rw [bn27 hB] | rw [bn43 hB] | rw [bn25 hB] | rw [bn41 hB] | rw [bn88 hB] | rw [bn104 hB] | rw [bn120 hB] | rw [bn136 hB] | rw [bn152 hB] | rw [bn168 hB]); first | assumption | exact vp_in_nI (by omega) (by decide)) ?_
  rw [nI_clamp (by omega)]
  refine y_cV1 (q := 25) C 15 rfl rfl ml_RX3_107 cd_X2_firstDigits cv_X2_firstDigits (by first | exact ⟨by decide, rfl⟩ | exact vcR hB (by omega)) (by first | assumption | rfl | decide | exact bL hB _ (by decide) | exact vc3 hB (by omega) | exact vcL hB (by omega)) (by decide) (by decide) (Nat.le_of_ble_eq_true rfl) (s_X2_firstDigits (by first | assumption | rfl | decide | exact bL hB _ (by decide) | exact vc3 hB (by omega) | exact vcL hB (by omega)) (by first | assumption | rfl | decide | exact bL hB _ (by decide) | exact vc3 hB (by omega) | exact vcL hB (by omega)) ?_)
  show aj_X G 25 _ _ _ _ _ _ _ _ _
  refine y_aload4 (q := 27) C 16 rfl rfl ?_
  refine y_aload0 (q := 28) C 17 rfl rfl ?_
  refine x_getR (q := 31) C 18 rfl rfl fl_RX3_18 (bv_4_2 hB) (fun _ _ => rfl) (by first | assumption | rfl | decide | exact bL hB _ (by decide) | exact vc3 hB (by omega) | exact vcL hB (by omega)) (by first | assumption | rfl | decide | exact bL hB _ (by decide) | exact vc3 hB (by omega) | exact vcL hB (by omega)) ?_
  refine y_iload2 (q := 32) C 19 rfl rfl ?_
  refine x_lald (q := 33) C 20 rfl rfl (by first | assumption | rfl | decide | exact bL hB _ (by decide) | exact vc3 hB (by omega) | exact vcL hB (by omega)) (by first | assumption | rfl | decide | exact bL hB _ (by decide) | exact vc3 hB (by omega) | exact vcL hB (by omega)) (by (first | rw [bn24 hB] | rw [bn40 hB] | rw [bn56 hB] | rw [bn72 hB] | rw [bn27 hB] | rw [bn43 hB] | rw [bn25 hB] | rw [bn41 hB] | rw [bn88 hB] | rw [bn104 hB] | rw [bn120 hB] | rw [bn136 hB] | rw [bn152 hB] | rw [bn168 hB]); first | assumption | exact vp_in_nI (by omega) (by decide)) ?_
  rw [nI_clamp (by omega)]
  refine y_cV1 (q := 36) C 21 rfl rfl ml_RX3_107 cd_X2_firstDigits cv_X2_firstDigits (by first | exact ⟨by decide, rfl⟩ | exact vcR hB (by omega)) (by first | assumption | rfl | decide | exact bL hB _ (by decide) | exact vc3 hB (by omega) | exact vcL hB (by omega)) (by decide) (by decide) (Nat.le_of_ble_eq_true rfl) (s_X2_firstDigits (by first | assumption | rfl | decide | exact bL hB _ (by decide) | exact vc3 hB (by omega) | exact vcL hB (by omega)) (by first | assumption | rfl | decide | exact bL hB _ (by decide) | exact vc3 hB (by omega) | exact vcL hB (by omega)) ?_)
  show aj_X G 36 _ _ _ _ _ _ _ _ _
  refine y_cS2 (q := 39) C 22 rfl rfl ml_RX3_247 cd_X0_compareDigits sv_X0_compareDigits (by decide) (by decide) (Nat.le_of_ble_eq_true rfl) (s_X0_compareDigits ?_)
  show aj_X G 39 _ _ _ _ _ _ _ _ _
  refine y_istore5 (q := 41) C 23 rfl rfl (Nat.le_of_ble_eq_true rfl) rfl ?_
  refine y_iload5 (q := 43) C 24 rfl rfl ?_
  refine y_aload3 (q := 44) C 25 rfl rfl ?_
  refine y_aload4 (q := 46) C 26 rfl rfl ?_
  refine y_cV1 (q := 49) C 27 rfl rfl ml_RX3_88 cd_X2_orderTo cv_X2_orderTo (by first | exact ⟨by decide, rfl⟩ | exact vcR hB (by omega)) (by first | assumption | rfl | decide | exact bL hB _ (by decide) | exact vc3 hB (by omega) | exact vcL hB (by omega)) (by decide) (by decide) (Nat.le_of_ble_eq_true rfl) (s_X2_orderTo (by first | assumption | rfl | decide | exact bL hB _ (by decide) | exact vc3 hB (by omega) | exact vcL hB (by omega)) (by first | assumption | rfl | decide | exact bL hB _ (by decide) | exact vc3 hB (by omega) | exact vcL hB (by omega)) (by first | assumption | rfl | decide | exact bL hB _ (by decide) | exact vc3 hB (by omega) | exact vcL hB (by omega)) (by first | assumption | rfl | decide | exact bL hB _ (by decide) | exact vc3 hB (by omega) | exact vcL hB (by omega)) ?_)
  show aj_X G 49 _ _ _ _ _ _ _ _ _
  refine x_icmp_eq (q := 52) (t := 54) C 28 rfl (by decide) rfl (fun c1 => ?_) (fun c1 => ?_)
  · skip
    refine y_aload3 (q := 55) C 31 rfl rfl ?_
    refine y_cV0 (q := 58) C 32 rfl rfl ml_RX3_127 cd_X2_isNull cv_X2_isNull (by first | exact ⟨by decide, rfl⟩ | exact vcR hB (by omega)) (by first | assumption | rfl | decide | exact bL hB _ (by decide) | exact vc3 hB (by omega) | exact vcL hB (by omega)) (by decide) (by decide) (Nat.le_of_ble_eq_true rfl) (s_X2_isNull (by first | assumption | rfl | decide | exact bL hB _ (by decide) | exact vc3 hB (by omega) | exact vcL hB (by omega)) (by first | assumption | rfl | decide | exact bL hB _ (by decide) | exact vc3 hB (by omega) | exact vcL hB (by omega)) ?_)
    show aj_X G 58 _ _ _ _ _ _ _ _ _
    refine x_if_neB (q := 61) (t := 93) C 33 rfl (by decide) rfl (fun c2 => ?_) (fun c2 => ?_)
    · skip
      refine x_iconst (q := 94) C 50 (n := (1)) (v := (1)) rfl rfl rfl ?_
      refine x_goto (t := 98) C 51 rfl (by decide) ?_
      exact x_ireturn C Z 53 rfl rfl rfl (hK true)
    · skip
      refine y_aload4 (q := 63) C 34 rfl rfl ?_
      refine y_cV0 (q := 66) C 35 rfl rfl ml_RX3_127 cd_X2_isNull cv_X2_isNull (by first | exact ⟨by decide, rfl⟩ | exact vcR hB (by omega)) (by first | assumption | rfl | decide | exact bL hB _ (by decide) | exact vc3 hB (by omega) | exact vcL hB (by omega)) (by decide) (by decide) (Nat.le_of_ble_eq_true rfl) (s_X2_isNull (by first | assumption | rfl | decide | exact bL hB _ (by decide) | exact vc3 hB (by omega) | exact vcL hB (by omega)) (by first | assumption | rfl | decide | exact bL hB _ (by decide) | exact vc3 hB (by omega) | exact vcL hB (by omega)) ?_)
      show aj_X G 66 _ _ _ _ _ _ _ _ _
      refine x_if_neB (q := 69) (t := 93) C 36 rfl (by decide) rfl (fun c3 => ?_) (fun c3 => ?_)
      · skip
        refine x_iconst (q := 94) C 50 (n := (1)) (v := (1)) rfl rfl rfl ?_
        refine x_goto (t := 98) C 51 rfl (by decide) ?_
        exact x_ireturn C Z 53 rfl rfl rfl (hK true)
      · skip
        refine y_aload0 (q := 70) C 37 rfl rfl ?_
        refine x_getR (q := 73) C 38 rfl rfl fl_RX3_18 (bv_4_2 hB) (fun _ _ => rfl) (by first | assumption | rfl | decide | exact bL hB _ (by decide) | exact vc3 hB (by omega) | exact vcL hB (by omega)) (by first | assumption | rfl | decide | exact bL hB _ (by decide) | exact vc3 hB (by omega) | exact vcL hB (by omega)) ?_
        refine y_iload1 (q := 74) C 39 rfl rfl ?_
        refine x_lald (q := 75) C 40 rfl rfl (by first | assumption | rfl | decide | exact bL hB _ (by decide) | exact vc3 hB (by omega) | exact vcL hB (by omega)) (by first | assumption | rfl | decide | exact bL hB _ (by decide) | exact vc3 hB (by omega) | exact vcL hB (by omega)) (by (first | rw [bn24 hB] | rw [bn40 hB] | rw [bn56 hB] | rw [bn72 hB] | rw [bn27 hB] | rw [bn43 hB] | rw [bn25 hB] | rw [bn41 hB] | rw [bn88 hB] | rw [bn104 hB] | rw [bn120 hB] | rw [bn136 hB] | rw [bn152 hB] | rw [bn168 hB]); first | assumption | exact vp_in_nI (by omega) (by decide)) ?_
        rw [nI_clamp (by omega)]
        refine y_aload0 (q := 76) C 41 rfl rfl ?_
        refine x_getR (q := 79) C 42 rfl rfl fl_RX3_18 (bv_4_2 hB) (fun _ _ => rfl) (by first | assumption | rfl | decide | exact bL hB _ (by decide) | exact vc3 hB (by omega) | exact vcL hB (by omega)) (by first | assumption | rfl | decide | exact bL hB _ (by decide) | exact vc3 hB (by omega) | exact vcL hB (by omega)) ?_
        refine y_iload2 (q := 80) C 43 rfl rfl ?_
        refine x_lald (q := 81) C 44 rfl rfl (by first | assumption | rfl | decide | exact bL hB _ (by decide) | exact vc3 hB (by omega) | exact vcL hB (by omega)) (by first | assumption | rfl | decide | exact bL hB _ (by decide) | exact vc3 hB (by omega) | exact vcL hB (by omega)) (by (first | rw [bn24 hB] | rw [bn40 hB] | rw [bn56 hB] | rw [bn72 hB] | rw [bn27 hB] | rw [bn43 hB] | rw [bn25 hB] | rw [bn41 hB] | rw [bn88 hB] | rw [bn104 hB] | rw [bn120 hB] | rw [bn136 hB] | rw [bn152 hB] | rw [bn168 hB]); first | assumption | exact vp_in_nI (by omega) (by decide)) ?_
        rw [nI_clamp (by omega)]
        refine y_cS2 (q := 84) C 45 rfl rfl ml_RX3_250 cd_X0_sideBetween sv_X0_sideBetween (by decide) (by decide) (Nat.le_of_ble_eq_true rfl) (s_X0_sideBetween ?_)
        show aj_X G 84 _ _ _ _ _ _ _ _ _
        refine y_aload3 (q := 85) C 46 rfl rfl ?_
        refine y_aload4 (q := 87) C 47 rfl rfl ?_
        refine y_cV1 (q := 90) C 48 rfl rfl ml_RX3_130 cd_X2_sideOf cv_X2_sideOf (by first | exact ⟨by decide, rfl⟩ | exact vcR hB (by omega)) (by first | assumption | rfl | decide | exact bL hB _ (by decide) | exact vc3 hB (by omega) | exact vcL hB (by omega)) (by decide) (by decide) (Nat.le_of_ble_eq_true rfl) (s_X2_sideOf (by first | assumption | rfl | decide | exact bL hB _ (by decide) | exact vc3 hB (by omega) | exact vcL hB (by omega)) (by first | assumption | rfl | decide | exact bL hB _ (by decide) | exact vc3 hB (by omega) | exact vcL hB (by omega)) (by first | assumption | rfl | decide | exact bL hB _ (by decide) | exact vc3 hB (by omega) | exact vcL hB (by omega)) (by first | assumption | rfl | decide | exact bL hB _ (by decide) | exact vc3 hB (by omega) | exact vcL hB (by omega)) ?_)
        show aj_X G 90 _ _ _ _ _ _ _ _ _
        refine x_icmp_ne (q := 93) (t := 97) C 49 rfl (by decide) rfl (fun c4 => ?_) (fun c4 => ?_)
        · skip
          refine x_iconst (q := 98) C 52 (n := (0)) (v := (0)) rfl rfl rfl ?_
          exact x_ireturn C Z 53 rfl rfl rfl (hK false)
        · skip
          refine x_iconst (q := 94) C 50 (n := (1)) (v := (1)) rfl rfl rfl ?_
          refine x_goto (t := 98) C 51 rfl (by decide) ?_
          exact x_ireturn C Z 53 rfl rfl rfl (hK true)
  · skip
    refine x_iconst (q := 53) C 29 (n := (0)) (v := (0)) rfl rfl rfl ?_
    exact x_ireturn C Z 30 rfl rfl rfl (hK false)
set_option maxRecDepth 100000 in
set_option maxHeartbeats 800000 in
theorem s_X3_areAnglesSound {l : Launch} {I : Nat → Nat → Int32} {J : Nat → Nat → Int64} {V : Nat → Nat → Option Nat} {N : Nat → Nat} {L : List Nat} {K : aj_K} (hB : bV V N L) (hK : ∀ (b : Bool) J1, (∀ i, i ≠ 25 → J1 i = J i) → K (.inl (some (.int (bI b)))) I J1 V N L) : aj_M l yX3_areAnglesSound (aj_wc yX3_areAnglesSound cX3_areAnglesSound 3 (some .boolean)) (aj_rm 5 0 0) [] [.ref 20] I J V N L K := by
  refine aj_intro (tbl := t_X3_areAnglesSound) (lv0 := [some (.ref 20), none, none]) (by decide) T_X3_areAnglesSound aj_f0 (Nat.le_of_ble_eq_true rfl) rfl ?_
  intro G hl C Z NX hnm hGL hGF
  have C : aj_C G cX3_areAnglesSound t_X3_areAnglesSound RX3 (aj_rm 5 0 0) 3 := C
  refine x_iconst (q := 1) C 0 (n := (0)) (v := nI 0) rfl rfl rfl ?_
  refine y_istore1 (q := 2) C 1 rfl rfl (Nat.le_of_ble_eq_true rfl) rfl ?_
  have lp2 : ∀ (m j : Nat) J1, j + m = 8 → (∀ i, i ≠ 25 → J1 i = J i) → aj_X G 2 [some (.ref 20), some (.int (nI j)), none] [] I J1 V N L 0 0 := by
    intro m
    induction m with
    | zero =>
      intro j J1 hj hJ
      refine y_iload1 (q := 3) C 2 rfl rfl ?_
      refine x_bipush (q := 5) C 3 (n := (8)) (v := nI 8) rfl rfl rfl ?_
      refine x_icmp_ge (q := 8) (t := 29) C 4 rfl (by decide) rfl (fun c1 => ?_) (fun c1 => ?_)
      · skip
        refine x_iconst (q := 30) C 16 (n := (0)) (v := nI 0) rfl rfl rfl ?_
        refine y_istore1 (q := 31) C 17 rfl rfl (Nat.le_of_ble_eq_true rfl) rfl ?_
        have lp31 : ∀ (mi j : Nat) (z2 : Option Value), j + mi = 8 → aj_X G 31 [some (.ref 20), some (.int (nI j)), z2] [] I J1 V N L 0 0 := by
          intro mi
          induction mi with
          | zero =>
            intro j z2 hj
            refine y_iload1 (q := 32) C 18 rfl rfl ?_
            refine x_bipush (q := 34) C 19 (n := (8)) (v := nI 8) rfl rfl rfl ?_
            refine x_icmp_ge (q := 37) (t := 70) C 20 rfl (by decide) rfl (fun c2 => ?_) (fun c2 => ?_)
            · skip
              refine x_iconst (q := 71) C 39 (n := (1)) (v := (1)) rfl rfl rfl ?_
              exact x_ireturn C Z 40 rfl rfl rfl (hK true J1 hJ)
            · skip
              exact absurd (nI_le (by omega) (by omega)) c2
          | succ mi ihi =>
            intro j z2 hj
            refine y_iload1 (q := 32) C 18 rfl rfl ?_
            refine x_bipush (q := 34) C 19 (n := (8)) (v := nI 8) rfl rfl rfl ?_
            refine x_icmp_ge (q := 37) (t := 70) C 20 rfl (by decide) rfl (fun c3 => ?_) (fun c3 => ?_)
            · skip
              exact absurd c3 (nI_ge (by omega) (by omega))
            · skip
              refine y_iload1 (q := 38) C 21 rfl rfl ?_
              refine x_iconst (q := 39) C 22 (n := (1)) (v := nI 1) rfl rfl rfl ?_
              refine x_iadd (q := 40) C 23 rfl rfl ?_
              rw [nI_add]
              refine y_istore2 (q := 41) C 24 rfl rfl (Nat.le_of_ble_eq_true rfl) rfl ?_
              have lp41 : ∀ (mk k : Nat), k ≤ 8 → 8 ≤ k + mk → aj_X G 41 [some (.ref 20), some (.int (nI j)), some (.int (nI k))] [] I J1 V N L 0 0 := by
                intro mk
                induction mk with
                | zero =>
                  intro k hk8 hk
                  refine y_iload2 (q := 42) C 25 rfl rfl ?_
                  refine x_bipush (q := 44) C 26 (n := (8)) (v := nI 8) rfl rfl rfl ?_
                  refine x_icmp_ge (q := 47) (t := 64) C 27 rfl (by decide) rfl (fun c4 => ?_) (fun c4 => ?_)
                  · skip
                    refine y_iinc1 (q := 67) C 37 rfl rfl (nI_1 j) (Nat.le_of_ble_eq_true rfl) rfl ?_
                    refine x_goto (t := 31) C 38 rfl (by decide) ?_
                    exact ihi (j + 1) _ (by omega)
                  · skip
                    exact absurd (nI_le (by omega) (by omega)) c4
                | succ mk ihk =>
                  intro k hk8 hk
                  refine y_iload2 (q := 42) C 25 rfl rfl ?_
                  refine x_bipush (q := 44) C 26 (n := (8)) (v := nI 8) rfl rfl rfl ?_
                  refine x_icmp_ge (q := 47) (t := 64) C 27 rfl (by decide) rfl (fun c5 => ?_) (fun c5 => ?_)
                  · skip
                    refine y_iinc1 (q := 67) C 37 rfl rfl (nI_1 j) (Nat.le_of_ble_eq_true rfl) rfl ?_
                    refine x_goto (t := 31) C 38 rfl (by decide) ?_
                    exact ihi (j + 1) _ (by omega)
                  · skip
                    have hkl : k < 8 := by
                      rcases Nat.lt_or_ge k 8 with w | w
                      · exact w
                      · exact absurd (nI_le w (by omega)) (by assumption)
                    refine y_aload0 (q := 48) C 28 rfl rfl ?_
                    refine y_iload1 (q := 49) C 29 rfl rfl ?_
                    refine y_iload2 (q := 50) C 30 rfl rfl ?_
                    refine y_cV2 (q := 53) C 31 rfl rfl ml_RX3_243 cd_X3_isPairSound cv_X3_isPairSound ⟨by decide, rfl⟩ (by first | assumption | rfl | decide | exact bL hB _ (by decide) | exact vc3 hB (by omega) | exact vcL hB (by omega)) (by decide) (by decide) (Nat.le_of_ble_eq_true rfl) (s_X3_isPairSound (by omega) (by omega) hB ?_)
                    intro b
                    show aj_X G 53 _ _ _ _ _ _ _ _ _
                    refine x_if_neB (q := 56) (t := 58) C 32 rfl (by decide) rfl (fun c6 => ?_) (fun c6 => ?_)
                    · skip
                      refine y_iinc2 (q := 61) C 35 rfl rfl (nI_1 k) (Nat.le_of_ble_eq_true rfl) rfl ?_
                      refine x_goto (t := 41) C 36 rfl (by decide) ?_
                      exact ihk (k + 1) (by omega) (by omega)
                    · skip
                      refine x_iconst (q := 57) C 33 (n := (0)) (v := (0)) rfl rfl rfl ?_
                      exact x_ireturn C Z 34 rfl rfl rfl (hK false J1 hJ)
              exact lp41 8 (j + 1) (by omega) (by omega)
        exact lp31 8 0 _ (by omega)
      · skip
        exact absurd (nI_le (by omega) (by omega)) c1
    | succ m ih =>
      intro j J1 hj hJ
      refine y_iload1 (q := 3) C 2 rfl rfl ?_
      refine x_bipush (q := 5) C 3 (n := (8)) (v := nI 8) rfl rfl rfl ?_
      refine x_icmp_ge (q := 8) (t := 29) C 4 rfl (by decide) rfl (fun c7 => ?_) (fun c7 => ?_)
      · skip
        exact absurd c7 (nI_ge (by omega) (by omega))
      · skip
        refine y_aload0 (q := 9) C 5 rfl rfl ?_
        refine x_getR (q := 12) C 6 rfl rfl fl_RX3_18 (bv_4_2 hB) (fun _ _ => rfl) (by first | assumption | rfl | decide | exact bL hB _ (by decide) | exact vc3 hB (by omega) | exact vcL hB (by omega)) (by first | assumption | rfl | decide | exact bL hB _ (by decide) | exact vc3 hB (by omega) | exact vcL hB (by omega)) ?_
        refine y_iload1 (q := 13) C 7 rfl rfl ?_
        refine y_aload0 (q := 14) C 8 rfl rfl ?_
        refine x_getR (q := 17) C 9 rfl rfl fl_RX3_11 (bv_4_0 hB) (fun _ _ => rfl) (by first | assumption | rfl | decide | exact bL hB _ (by decide) | exact vc3 hB (by omega) | exact vcL hB (by omega)) (by first | assumption | rfl | decide | exact bL hB _ (by decide) | exact vc3 hB (by omega) | exact vcL hB (by omega)) ?_
        refine y_iload1 (q := 18) C 10 rfl rfl ?_
        refine x_aald (q := 19) C 11 rfl rfl (by first | assumption | rfl | decide | exact bL hB _ (by decide) | exact vc3 hB (by omega) | exact vcL hB (by omega)) (by first | assumption | rfl | decide | exact bL hB _ (by decide) | exact vc3 hB (by omega) | exact vcL hB (by omega)) (by (first | rw [bn24 hB] | rw [bn40 hB] | rw [bn56 hB] | rw [bn72 hB] | rw [bn27 hB] | rw [bn43 hB] | rw [bn25 hB] | rw [bn41 hB] | rw [bn88 hB] | rw [bn104 hB] | rw [bn120 hB] | rw [bn136 hB] | rw [bn152 hB] | rw [bn168 hB]); first | assumption | exact vp_in_nI (by omega) (by decide)) (by rw [nI_clamp (by omega)]; exact vcV hB (by omega)) ?_
        refine y_cV0 (q := 22) C 12 rfl rfl ml_RX3_103 cd_X2_angle cv_X2_angle (by first | exact ⟨by decide, rfl⟩ | exact vcR hB (by omega)) (by first | assumption | rfl | decide | exact bL hB _ (by decide) | exact vc3 hB (by omega) | exact vcL hB (by omega)) (by decide) (by decide) (Nat.le_of_ble_eq_true rfl) (s_X2_angle (by first | assumption | rfl | decide | exact bL hB _ (by decide) | exact vc3 hB (by omega) | exact vcL hB (by omega)) (by first | assumption | rfl | decide | exact bL hB _ (by decide) | exact vc3 hB (by omega) | exact vcL hB (by omega)) ?_)
        show aj_X G 22 _ _ _ _ _ _ _ _ _
        refine x_last (q := 23) C 13 rfl rfl (by first | assumption | rfl | decide | exact bL hB _ (by decide) | exact vc3 hB (by omega) | exact vcL hB (by omega)) (by first | assumption | rfl | decide | exact bL hB _ (by decide) | exact vc3 hB (by omega) | exact vcL hB (by omega)) (by (first | rw [bn24 hB] | rw [bn40 hB] | rw [bn56 hB] | rw [bn72 hB] | rw [bn27 hB] | rw [bn43 hB] | rw [bn25 hB] | rw [bn41 hB] | rw [bn88 hB] | rw [bn104 hB] | rw [bn120 hB] | rw [bn136 hB] | rw [bn152 hB] | rw [bn168 hB]); first | assumption | exact vp_in_nI (by omega) (by decide)) ?_
        rw [nI_clamp (by omega)]
        refine y_iinc1 (q := 26) C 14 rfl rfl (nI_1 j) (Nat.le_of_ble_eq_true rfl) rfl ?_
        refine x_goto (t := 2) C 15 rfl (by decide) ?_
        exact ih (j + 1) _ (by omega) (fun i hi => (aj_u_o _ _ hi).trans (hJ i hi))
  exact lp2 8 0 J (by omega) (fun _ _ => rfl)
set_option maxRecDepth 100000 in
set_option maxHeartbeats 800000 in
theorem s_X3_isSound {l : Launch} {I : Nat → Nat → Int32} {J : Nat → Nat → Int64} {V : Nat → Nat → Option Nat} {N : Nat → Nat} {L : List Nat} {K : aj_K} {n : Nat} (hn : n ≤ 12) (hc : I 18 2 = nI n) (hf : fW I n) (hB : bV V N L) (hK : ∀ (b : Bool) J1 I1, (∀ i, i ≠ 25 → J1 i = J i) → eqO sX I I1 → K (.inl (some (.int (bI b)))) I1 J1 V N L) : aj_M l yX3_isSound (aj_wc yX3_isSound cX3_isSound 1 (some .boolean)) (aj_rm 6 0 0) [] [.ref 20] I J V N L K := by
  refine aj_intro (tbl := t_X3_isSound) (lv0 := [some (.ref 20)]) (by decide) T_X3_isSound aj_f0 (Nat.le_of_ble_eq_true rfl) rfl ?_
  intro G hl C Z NX hnm hGL hGF
  have C : aj_C G cX3_isSound t_X3_isSound RX3 (aj_rm 6 0 0) 1 := C
  refine y_aload0 (q := 1) C 0 rfl rfl ?_
  refine y_cV0 (q := 4) C 1 rfl rfl ml_RX3_231 cd_X3_areAnglesSound cv_X3_areAnglesSound ⟨by decide, rfl⟩ (by first | assumption | rfl | decide | exact bL hB _ (by decide) | exact vc3 hB (by omega) | exact vcL hB (by omega)) (by decide) (by decide) (Nat.le_of_ble_eq_true rfl) (s_X3_areAnglesSound hB ?_)
  intro b1 J1 hJ
  show aj_X G 4 _ _ _ _ _ _ _ _ _
  refine x_if_eqB (q := 7) (t := 41) C 2 rfl (by decide) rfl (fun c1 => ?_) (fun c1 => ?_)
  · skip
    refine x_iconst (q := 42) C 17 (n := (0)) (v := (0)) rfl rfl rfl ?_
    exact x_ireturn C Z 18 rfl rfl rfl (hK false J1 I hJ eqO.rf)
  · skip
    refine y_aload0 (q := 8) C 3 rfl rfl ?_
    refine x_getR (q := 11) C 4 rfl rfl fl_RX3_33 (bv_4_5 hB) (fun _ _ => rfl) (by first | assumption | rfl | decide | exact bL hB _ (by decide) | exact vc3 hB (by omega) | exact vcL hB (by omega)) (by first | assumption | rfl | decide | exact bL hB _ (by decide) | exact vc3 hB (by omega) | exact vcL hB (by omega)) ?_
    refine y_cV0 (q := 14) C 5 rfl rfl ml_RX3_234 cd_X1_isRoundSound cv_X1_isRoundSound ⟨by decide, rfl⟩ (by first | assumption | rfl | decide | exact bL hB _ (by decide) | exact vc3 hB (by omega) | exact vcL hB (by omega)) (by decide) (by decide) (Nat.le_of_ble_eq_true rfl) (s_X1_isRoundSound hn hf hB ?_)
    intro b2 I1 hE1
    show aj_X G 14 _ _ _ _ _ _ _ _ _
    refine x_if_eqB (q := 17) (t := 41) C 6 rfl (by decide) rfl (fun c2 => ?_) (fun c2 => ?_)
    · skip
      refine x_iconst (q := 42) C 17 (n := (0)) (v := (0)) rfl rfl rfl ?_
      exact x_ireturn C Z 18 rfl rfl rfl (hK false J1 I1 hJ hE1)
    · skip
      refine y_aload0 (q := 18) C 7 rfl rfl ?_
      refine x_getR (q := 21) C 8 rfl rfl fl_RX3_33 (bv_4_5 hB) (fun _ _ => rfl) (by first | assumption | rfl | decide | exact bL hB _ (by decide) | exact vc3 hB (by omega) | exact vcL hB (by omega)) (by first | assumption | rfl | decide | exact bL hB _ (by decide) | exact vc3 hB (by omega) | exact vcL hB (by omega)) ?_
      refine y_cV0 (q := 24) C 9 rfl rfl ml_RX3_237 cd_X1_isHullSound cv_X1_isHullSound ⟨by decide, rfl⟩ (by first | assumption | rfl | decide | exact bL hB _ (by decide) | exact vc3 hB (by omega) | exact vcL hB (by omega)) (by decide) (by decide) (Nat.le_of_ble_eq_true rfl) (s_X1_isHullSound hn (by rw [hE1 18 (by decide)]; exact hc) (hf.eqS hE1 (by decide) (by decide) (by decide) (by decide) (by decide)) hB ?_)
      intro b3
      show aj_X G 24 _ _ _ _ _ _ _ _ _
      refine x_if_eqB (q := 27) (t := 41) C 10 rfl (by decide) rfl (fun c3 => ?_) (fun c3 => ?_)
      · skip
        refine x_iconst (q := 42) C 17 (n := (0)) (v := (0)) rfl rfl rfl ?_
        exact x_ireturn C Z 18 rfl rfl rfl (hK false J1 I1 hJ hE1)
      · skip
        refine y_aload0 (q := 28) C 11 rfl rfl ?_
        refine x_getR (q := 31) C 12 rfl rfl fl_RX3_33 (bv_4_5 hB) (fun _ _ => rfl) (by first | assumption | rfl | decide | exact bL hB _ (by decide) | exact vc3 hB (by omega) | exact vcL hB (by omega)) (by first | assumption | rfl | decide | exact bL hB _ (by decide) | exact vc3 hB (by omega) | exact vcL hB (by omega)) ?_
        refine y_cV0 (q := 34) C 13 rfl rfl ml_RX3_240 cd_X1_isStarSound cv_X1_isStarSound ⟨by decide, rfl⟩ (by first | assumption | rfl | decide | exact bL hB _ (by decide) | exact vc3 hB (by omega) | exact vcL hB (by omega)) (by decide) (by decide) (Nat.le_of_ble_eq_true rfl) (s_X1_isStarSound hn (hf.eqS hE1 (by decide) (by decide) (by decide) (by decide) (by decide)) hB ?_)
        intro b4 I2 hE2
        show aj_X G 34 _ _ _ _ _ _ _ _ _
        refine x_if_eqB (q := 37) (t := 41) C 14 rfl (by decide) rfl (fun c4 => ?_) (fun c4 => ?_)
        · skip
          refine x_iconst (q := 42) C 17 (n := (0)) (v := (0)) rfl rfl rfl ?_
          exact x_ireturn C Z 18 rfl rfl rfl (hK false J1 I2 hJ (eqO.tr hE1 hE2))
        · skip
          refine x_iconst (q := 38) C 15 (n := (1)) (v := (1)) rfl rfl rfl ?_
          refine x_goto (t := 42) C 16 rfl (by decide) ?_
          exact x_ireturn C Z 18 rfl rfl rfl (hK true J1 I2 hJ (eqO.tr hE1 hE2))
set_option maxRecDepth 100000 in
set_option maxHeartbeats 800000 in
theorem s_X3_with {l : Launch} {I : Nat → Nat → Int32} {J : Nat → Nat → Int64} {V : Nat → Nat → Option Nat} {N : Nat → Nat} {L : List Nat} {K : aj_K} {d v : Int64} (hK : K (.inl (some (.long (d * 31 + v)))) I J V N L) : aj_M l yX3_with (aj_wc yX3_with cX3_with 4 (some .long)) (aj_rm 0 0 0) [] [.long d, .long v] I J V N L K := by
  refine aj_intro (tbl := t_X3_with) (lv0 := [some (.long d), none, some (.long v), none]) (by decide) T_X3_with aj_f0 (Nat.le_of_ble_eq_true rfl) rfl ?_
  intro G hl C Z NX hnm hGL hGF
  have C : aj_C G cX3_with t_X3_with RX3 (aj_rm 0 0 0) 4 := C
  refine y_lload0 (q := 1) C 0 rfl rfl ?_
  refine x_ldc2 (q := 4) C 1 kc_RX3_325 rfl rfl ?_
  refine x_lmul (q := 5) C 2 rfl rfl ?_
  refine y_lload2 (q := 6) C 3 rfl rfl ?_
  refine x_ladd (q := 7) C 4 rfl rfl ?_
  exact x_lreturn C Z 5 rfl rfl (hK)
set_option maxRecDepth 100000 in
set_option maxHeartbeats 800000 in
theorem s_X3_withRow {l : Launch} {I : Nat → Nat → Int32} {J : Nat → Nat → Int64} {V : Nat → Nat → Option Nat} {N : Nat → Nat} {L : List Nat} {K : aj_K} {d : Int64} {a n : Nat} (ha : a % 16 = 8) (haL : a ∈ L) (hn : n ≤ 12) (hN : N a = 12) (hK : ∀ r : Int64, K (.inl (some (.long r))) I J V N L) : aj_M l yX3_withRow (aj_wc yX3_withRow cX3_withRow 7 (some .long)) (aj_rm 1 0 0) [] [.long d, .ref a, .int (nI n)] I J V N L K := by
  refine aj_intro (tbl := t_X3_withRow) (lv0 := [some (.long d), none, some (.ref a), some (.int (nI n)), none, none, none]) (by decide) T_X3_withRow aj_f0 (Nat.le_of_ble_eq_true rfl) rfl ?_
  intro G hl C Z NX hnm hGL hGF
  have C : aj_C G cX3_withRow t_X3_withRow RX3 (aj_rm 1 0 0) 7 := C
  refine y_lload0 (q := 1) C 0 rfl rfl ?_
  refine y_iload3 (q := 2) C 1 rfl rfl ?_
  refine x_i2l (q := 3) C 2 rfl rfl ?_
  refine y_cS2 (q := 6) C 3 rfl rfl ml_RX3_263 cd_X3_with sv_X3_with (by decide) (by decide) (Nat.le_of_ble_eq_true rfl) (s_X3_with ?_)
  show aj_X G 6 _ _ _ _ _ _ _ _ _
  refine y_lstore4 (q := 8) C 4 rfl rfl (Nat.le_of_ble_eq_true rfl) rfl ?_
  refine x_iconst (q := 9) C 5 (n := (0)) (v := nI 0) rfl rfl rfl ?_
  refine y_istore6 (q := 11) C 6 rfl rfl (Nat.le_of_ble_eq_true rfl) rfl ?_
  have lp11 : ∀ (m j : Nat) (r : Int64), j + m = n → aj_X G 11 [some (.long d), none, some (.ref a), some (.int (nI n)), some (.long r), none, some (.int (nI j))] [] I J V N L 0 0 := by
    intro m
    induction m with
    | zero =>
      intro j r hj
      refine y_iload6 (q := 13) C 7 rfl rfl ?_
      refine y_iload3 (q := 14) C 8 rfl rfl ?_
      refine x_icmp_ge (q := 17) (t := 35) C 9 rfl (by decide) rfl (fun c1 => ?_) (fun c1 => ?_)
      · skip
        refine y_lload4 (q := 37) C 19 rfl rfl ?_
        exact x_lreturn C Z 20 rfl rfl (hK r)
      · skip
        exact absurd (nI_le (by omega) (by omega)) c1
    | succ m ih =>
      intro j r hj
      refine y_iload6 (q := 13) C 7 rfl rfl ?_
      refine y_iload3 (q := 14) C 8 rfl rfl ?_
      refine x_icmp_ge (q := 17) (t := 35) C 9 rfl (by decide) rfl (fun c2 => ?_) (fun c2 => ?_)
      · skip
        exact absurd c2 (nI_ge (by omega) (by omega))
      · skip
        refine y_lload4 (q := 19) C 10 rfl rfl ?_
        refine y_aload2 (q := 20) C 11 rfl rfl ?_
        refine y_iload6 (q := 22) C 12 rfl rfl ?_
        refine x_iald (q := 23) C 13 rfl rfl (by first | assumption | rfl | decide | exact bL hB _ (by decide) | exact vc3 hB (by omega) | exact vcL hB (by omega)) (by first | assumption | rfl | decide | exact bL hB _ (by decide) | exact vc3 hB (by omega) | exact vcL hB (by omega)) (by rw [hN]; exact vp_in_nI (by omega) (by decide)) ?_
        rw [nI_clamp (by omega)]
        refine x_i2l (q := 24) C 14 rfl rfl ?_
        refine y_cS2 (q := 27) C 15 rfl rfl ml_RX3_263 cd_X3_with sv_X3_with (by decide) (by decide) (Nat.le_of_ble_eq_true rfl) (s_X3_with ?_)
        show aj_X G 27 _ _ _ _ _ _ _ _ _
        refine y_lstore4 (q := 29) C 16 rfl rfl (Nat.le_of_ble_eq_true rfl) rfl ?_
        refine y_iinc6 (q := 32) C 17 rfl rfl (nI_1 j) (Nat.le_of_ble_eq_true rfl) rfl ?_
        refine x_goto (t := 11) C 18 rfl (by decide) ?_
        exact ih (j + 1) _ (by omega)
  exact lp11 n 0 _ (by omega)
set_option maxRecDepth 100000 in
set_option maxHeartbeats 800000 in
theorem s_X3_withCell {l : Launch} {I : Nat → Nat → Int32} {J : Nat → Nat → Int64} {V : Nat → Nat → Option Nat} {N : Nat → Nat} {L : List Nat} {K : aj_K} {d : Int64} {j : Nat} (hj : j < 8) (hB : bV V N L) (hK : ∀ (r : Int64) I1, eqO [163] I I1 → K (.inl (some (.long r))) I1 J V N L) : aj_M l yX3_withCell (aj_wc yX3_withCell cX3_withCell 6 (some .long)) (aj_rm 6 0 0) [] [.ref 20, .long d, .int (nI j)] I J V N L K := by
  refine aj_intro (tbl := t_X3_withCell) (lv0 := [some (.ref 20), some (.long d), none, some (.int (nI j)), none, none]) (by decide) T_X3_withCell aj_f0 (Nat.le_of_ble_eq_true rfl) rfl ?_
  intro G hl C Z NX hnm hGL hGF
  have C : aj_C G cX3_withCell t_X3_withCell RX3 (aj_rm 6 0 0) 6 := C
  refine y_lload1 (q := 1) C 0 rfl rfl ?_
  refine y_aload0 (q := 2) C 1 rfl rfl ?_
  refine y_iload3 (q := 3) C 2 rfl rfl ?_
  refine y_cV1 (q := 6) C 3 rfl rfl ml_RX3_283 cd_X3_across cv_X3_across ⟨by decide, rfl⟩ (by first | assumption | rfl | decide | exact bL hB _ (by decide) | exact vc3 hB (by omega) | exact vcL hB (by omega)) (by decide) (by decide) (Nat.le_of_ble_eq_true rfl) (s_X3_across0 hj hB ?_)
  show aj_X G 6 _ _ _ _ _ _ _ _ _
  refine x_i2l (q := 7) C 4 rfl rfl ?_
  refine y_cS2 (q := 10) C 5 rfl rfl ml_RX3_263 cd_X3_with sv_X3_with (by decide) (by decide) (Nat.le_of_ble_eq_true rfl) (s_X3_with ?_)
  show aj_X G 10 _ _ _ _ _ _ _ _ _
  refine y_lstore4 (q := 12) C 6 rfl rfl (Nat.le_of_ble_eq_true rfl) rfl ?_
  refine y_lload4 (q := 14) C 7 rfl rfl ?_
  refine y_aload0 (q := 15) C 8 rfl rfl ?_
  refine y_iload3 (q := 16) C 9 rfl rfl ?_
  refine y_cV1 (q := 19) C 10 rfl rfl ml_RX3_285 cd_X3_up cv_X3_up ⟨by decide, rfl⟩ (by first | assumption | rfl | decide | exact bL hB _ (by decide) | exact vc3 hB (by omega) | exact vcL hB (by omega)) (by decide) (by decide) (Nat.le_of_ble_eq_true rfl) (s_X3_up0 hj hB ?_)
  show aj_X G 19 _ _ _ _ _ _ _ _ _
  refine x_i2l (q := 20) C 11 rfl rfl ?_
  refine y_cS2 (q := 23) C 12 rfl rfl ml_RX3_263 cd_X3_with sv_X3_with (by decide) (by decide) (Nat.le_of_ble_eq_true rfl) (s_X3_with ?_)
  show aj_X G 23 _ _ _ _ _ _ _ _ _
  refine y_lstore4 (q := 25) C 13 rfl rfl (Nat.le_of_ble_eq_true rfl) rfl ?_
  refine y_lload4 (q := 27) C 14 rfl rfl ?_
  refine y_aload0 (q := 28) C 15 rfl rfl ?_
  refine y_iload3 (q := 29) C 16 rfl rfl ?_
  refine y_cV1 (q := 32) C 17 rfl rfl ml_RX3_287 cd_X3_signs cv_X3_signs ⟨by decide, rfl⟩ (by first | assumption | rfl | decide | exact bL hB _ (by decide) | exact vc3 hB (by omega) | exact vcL hB (by omega)) (by decide) (by decide) (Nat.le_of_ble_eq_true rfl) (s_X3_signs0 hj hB ?_)
  show aj_X G 32 _ _ _ _ _ _ _ _ _
  refine x_i2l (q := 33) C 18 rfl rfl ?_
  refine y_cS2 (q := 36) C 19 rfl rfl ml_RX3_263 cd_X3_with sv_X3_with (by decide) (by decide) (Nat.le_of_ble_eq_true rfl) (s_X3_with ?_)
  show aj_X G 36 _ _ _ _ _ _ _ _ _
  refine y_lstore4 (q := 38) C 20 rfl rfl (Nat.le_of_ble_eq_true rfl) rfl ?_
  refine y_lload4 (q := 40) C 21 rfl rfl ?_
  refine y_aload0 (q := 41) C 22 rfl rfl ?_
  refine y_iload3 (q := 42) C 23 rfl rfl ?_
  refine y_cV1 (q := 45) C 24 rfl rfl ml_RX3_289 cd_X3_upper cv_X3_upper ⟨by decide, rfl⟩ (by first | assumption | rfl | decide | exact bL hB _ (by decide) | exact vc3 hB (by omega) | exact vcL hB (by omega)) (by decide) (by decide) (Nat.le_of_ble_eq_true rfl) (s_X3_upper0 hj hB ?_)
  show aj_X G 45 _ _ _ _ _ _ _ _ _
  refine x_i2l (q := 46) C 25 rfl rfl ?_
  refine y_cS2 (q := 49) C 26 rfl rfl ml_RX3_263 cd_X3_with sv_X3_with (by decide) (by decide) (Nat.le_of_ble_eq_true rfl) (s_X3_with ?_)
  show aj_X G 49 _ _ _ _ _ _ _ _ _
  refine y_lstore4 (q := 51) C 27 rfl rfl (Nat.le_of_ble_eq_true rfl) rfl ?_
  refine y_lload4 (q := 53) C 28 rfl rfl ?_
  refine y_aload0 (q := 54) C 29 rfl rfl ?_
  refine y_iload3 (q := 55) C 30 rfl rfl ?_
  refine y_cV1 (q := 58) C 31 rfl rfl ml_RX3_292 cd_X3_lower cv_X3_lower ⟨by decide, rfl⟩ (by first | assumption | rfl | decide | exact bL hB _ (by decide) | exact vc3 hB (by omega) | exact vcL hB (by omega)) (by decide) (by decide) (Nat.le_of_ble_eq_true rfl) (s_X3_lower0 hj hB ?_)
  show aj_X G 58 _ _ _ _ _ _ _ _ _
  refine x_i2l (q := 59) C 32 rfl rfl ?_
  refine y_cS2 (q := 62) C 33 rfl rfl ml_RX3_263 cd_X3_with sv_X3_with (by decide) (by decide) (Nat.le_of_ble_eq_true rfl) (s_X3_with ?_)
  show aj_X G 62 _ _ _ _ _ _ _ _ _
  refine y_lstore4 (q := 64) C 34 rfl rfl (Nat.le_of_ble_eq_true rfl) rfl ?_
  refine y_lload4 (q := 66) C 35 rfl rfl ?_
  refine y_aload0 (q := 67) C 36 rfl rfl ?_
  refine y_iload3 (q := 68) C 37 rfl rfl ?_
  refine x_bipush (q := 70) C 38 (n := (29)) (v := (29)) rfl rfl rfl ?_
  refine y_cV2 (q := 73) C 39 rfl rfl ml_RX3_295 cd_X3_grade cv_X3_grade ⟨by decide, rfl⟩ (by first | assumption | rfl | decide | exact bL hB _ (by decide) | exact vc3 hB (by omega) | exact vcL hB (by omega)) (by decide) (by decide) (Nat.le_of_ble_eq_true rfl) (s_X3_grade0 hj hB ?_)
  show aj_X G 73 _ _ _ _ _ _ _ _ _
  refine x_i2l (q := 74) C 40 rfl rfl ?_
  refine y_cS2 (q := 77) C 41 rfl rfl ml_RX3_263 cd_X3_with sv_X3_with (by decide) (by decide) (Nat.le_of_ble_eq_true rfl) (s_X3_with ?_)
  show aj_X G 77 _ _ _ _ _ _ _ _ _
  refine y_lstore4 (q := 79) C 42 rfl rfl (Nat.le_of_ble_eq_true rfl) rfl ?_
  refine y_lload4 (q := 81) C 43 rfl rfl ?_
  refine y_aload0 (q := 82) C 44 rfl rfl ?_
  refine y_iload3 (q := 83) C 45 rfl rfl ?_
  refine y_cV1 (q := 86) C 46 rfl rfl ml_RX3_298 cd_X3_eighth cv_X3_eighth ⟨by decide, rfl⟩ (by first | assumption | rfl | decide | exact bL hB _ (by decide) | exact vc3 hB (by omega) | exact vcL hB (by omega)) (by decide) (by decide) (Nat.le_of_ble_eq_true rfl) (s_X3_eighth0 hj hB ?_)
  intro r1 I1 hE1
  show aj_X G 86 _ _ _ _ _ _ _ _ _
  refine x_i2l (q := 87) C 47 rfl rfl ?_
  refine y_cS2 (q := 90) C 48 rfl rfl ml_RX3_263 cd_X3_with sv_X3_with (by decide) (by decide) (Nat.le_of_ble_eq_true rfl) (s_X3_with ?_)
  show aj_X G 90 _ _ _ _ _ _ _ _ _
  refine y_lstore4 (q := 92) C 49 rfl rfl (Nat.le_of_ble_eq_true rfl) rfl ?_
  refine y_lload4 (q := 94) C 50 rfl rfl ?_
  refine y_aload0 (q := 95) C 51 rfl rfl ?_
  refine y_iload3 (q := 96) C 52 rfl rfl ?_
  refine x_iconst (q := 97) C 53 (n := (0)) (v := bI false) rfl rfl rfl ?_
  refine y_cV2 (q := 100) C 54 rfl rfl ml_RX3_301 cd_X3_find cv_X3_find ⟨by decide, rfl⟩ (by first | assumption | rfl | decide | exact bL hB _ (by decide) | exact vc3 hB (by omega) | exact vcL hB (by omega)) (by decide) (by decide) (Nat.le_of_ble_eq_true rfl) (s_X3_find0 hj hB ?_)
  intro j1 hj1
  show aj_X G 100 _ _ _ _ _ _ _ _ _
  refine x_i2l (q := 101) C 55 rfl rfl ?_
  refine y_cS2 (q := 104) C 56 rfl rfl ml_RX3_263 cd_X3_with sv_X3_with (by decide) (by decide) (Nat.le_of_ble_eq_true rfl) (s_X3_with ?_)
  show aj_X G 104 _ _ _ _ _ _ _ _ _
  exact x_lreturn C Z 57 rfl rfl (hK _ I1 hE1)
set_option maxRecDepth 100000 in
set_option maxHeartbeats 800000 in
theorem s_X3_withField {l : Launch} {I : Nat → Nat → Int32} {J : Nat → Nat → Int64} {V : Nat → Nat → Option Nat} {N : Nat → Nat} {L : List Nat} {K : aj_K} {d : Int64} {n : Nat} (hn : n ≤ 12) (hc : I 18 2 = nI n) (hf : fW I n) (hB : bV V N L) (hK : ∀ (r : Int64) I1, eqO sX I I1 → K (.inl (some (.long r))) I1 J V N L) : aj_M l yX3_withField (aj_wc yX3_withField cX3_withField 6 (some .long)) (aj_rm 5 0 0) [] [.ref 20, .long d] I J V N L K := by
  refine aj_intro (tbl := t_X3_withField) (lv0 := [some (.ref 20), some (.long d), none, none, none, none]) (by decide) T_X3_withField aj_f0 (Nat.le_of_ble_eq_true rfl) rfl ?_
  intro G hl C Z NX hnm hGL hGF
  have C : aj_C G cX3_withField t_X3_withField RX3 (aj_rm 5 0 0) 6 := C
  obtain ⟨rc, qc, hrn, hqn, hr, hq, hv, hw, hrc⟩ := id hf
  refine y_lload1 (q := 1) C 0 rfl rfl ?_
  refine y_aload0 (q := 2) C 1 rfl rfl ?_
  refine x_getR (q := 5) C 2 rfl rfl fl_RX3_33 (bv_4_5 hB) (fun _ _ => rfl) (by first | assumption | rfl | decide | exact bL hB _ (by decide) | exact vc3 hB (by omega) | exact vcL hB (by omega)) (by first | assumption | rfl | decide | exact bL hB _ (by decide) | exact vc3 hB (by omega) | exact vcL hB (by omega)) ?_
  refine x_getI (q := 8) C 3 rfl rfl fl_RX3_141 (fun _ _ => rfl) (by first | assumption | rfl | decide | exact bL hB _ (by decide) | exact vc3 hB (by omega) | exact vcL hB (by omega)) (by first | assumption | rfl | decide | exact bL hB _ (by decide) | exact vc3 hB (by omega) | exact vcL hB (by omega)) ?_
  rw [hc]
  refine x_i2l (q := 9) C 4 rfl rfl ?_
  refine y_cS2 (q := 12) C 5 rfl rfl ml_RX3_263 cd_X3_with sv_X3_with (by decide) (by decide) (Nat.le_of_ble_eq_true rfl) (s_X3_with ?_)
  show aj_X G 12 _ _ _ _ _ _ _ _ _
  refine y_lstore3 (q := 13) C 6 rfl rfl (Nat.le_of_ble_eq_true rfl) rfl ?_
  refine x_iconst (q := 14) C 7 (n := (0)) (v := nI 0) rfl rfl rfl ?_
  refine y_istore5 (q := 16) C 8 rfl rfl (Nat.le_of_ble_eq_true rfl) rfl ?_
  have lp16 : ∀ (m j : Nat) (r : Int64), j + m = n → aj_X G 16 [some (.ref 20), some (.long d), none, some (.long r), none, some (.int (nI j))] [] I J V N L 0 0 := by
    intro m
    induction m with
    | zero =>
      intro j r hj
      refine y_iload5 (q := 18) C 9 rfl rfl ?_
      refine y_aload0 (q := 19) C 10 rfl rfl ?_
      refine x_getR (q := 22) C 11 rfl rfl fl_RX3_33 (bv_4_5 hB) (fun _ _ => rfl) (by first | assumption | rfl | decide | exact bL hB _ (by decide) | exact vc3 hB (by omega) | exact vcL hB (by omega)) (by first | assumption | rfl | decide | exact bL hB _ (by decide) | exact vc3 hB (by omega) | exact vcL hB (by omega)) ?_
      refine x_getI (q := 25) C 12 rfl rfl fl_RX3_141 (fun _ _ => rfl) (by first | assumption | rfl | decide | exact bL hB _ (by decide) | exact vc3 hB (by omega) | exact vcL hB (by omega)) (by first | assumption | rfl | decide | exact bL hB _ (by decide) | exact vc3 hB (by omega) | exact vcL hB (by omega)) ?_
      rw [hc]
      refine x_icmp_ge (q := 28) (t := 66) C 13 rfl (by decide) rfl (fun c1 => ?_) (fun c1 => ?_)
      · skip
        refine y_lload3 (q := 67) C 34 rfl rfl ?_
        refine y_aload0 (q := 68) C 35 rfl rfl ?_
        refine x_iconst (q := 69) C 36 (n := (0)) (v := bI false) rfl rfl rfl ?_
        refine y_cV1 (q := 72) C 37 rfl rfl ml_RX3_305 cd_X3_centreAt cv_X3_centreAt ⟨by decide, rfl⟩ (by first | assumption | rfl | decide | exact bL hB _ (by decide) | exact vc3 hB (by omega) | exact vcL hB (by omega)) (by decide) (by decide) (Nat.le_of_ble_eq_true rfl) (s_X3_centreAt (by first | assumption | rfl | decide | exact bL hB _ (by decide) | exact vc3 hB (by omega) | exact vcL hB (by omega)) ?_)
        show aj_X G 72 _ _ _ _ _ _ _ _ _
        refine x_i2l (q := 73) C 38 rfl rfl ?_
        refine y_cS2 (q := 76) C 39 rfl rfl ml_RX3_263 cd_X3_with sv_X3_with (by decide) (by decide) (Nat.le_of_ble_eq_true rfl) (s_X3_with ?_)
        show aj_X G 76 _ _ _ _ _ _ _ _ _
        refine y_lstore3 (q := 77) C 40 rfl rfl (Nat.le_of_ble_eq_true rfl) rfl ?_
        refine y_lload3 (q := 78) C 41 rfl rfl ?_
        refine y_aload0 (q := 79) C 42 rfl rfl ?_
        refine x_iconst (q := 80) C 43 (n := (1)) (v := bI true) rfl rfl rfl ?_
        refine y_cV1 (q := 83) C 44 rfl rfl ml_RX3_305 cd_X3_centreAt cv_X3_centreAt ⟨by decide, rfl⟩ (by first | assumption | rfl | decide | exact bL hB _ (by decide) | exact vc3 hB (by omega) | exact vcL hB (by omega)) (by decide) (by decide) (Nat.le_of_ble_eq_true rfl) (s_X3_centreAt (by first | assumption | rfl | decide | exact bL hB _ (by decide) | exact vc3 hB (by omega) | exact vcL hB (by omega)) ?_)
        show aj_X G 83 _ _ _ _ _ _ _ _ _
        refine x_i2l (q := 84) C 45 rfl rfl ?_
        refine y_cS2 (q := 87) C 46 rfl rfl ml_RX3_263 cd_X3_with sv_X3_with (by decide) (by decide) (Nat.le_of_ble_eq_true rfl) (s_X3_with ?_)
        show aj_X G 87 _ _ _ _ _ _ _ _ _
        refine y_lstore3 (q := 88) C 47 rfl rfl (Nat.le_of_ble_eq_true rfl) rfl ?_
        refine y_lload3 (q := 89) C 48 rfl rfl ?_
        refine y_aload0 (q := 90) C 49 rfl rfl ?_
        refine x_getR (q := 93) C 50 rfl rfl fl_RX3_33 (bv_4_5 hB) (fun _ _ => rfl) (by first | assumption | rfl | decide | exact bL hB _ (by decide) | exact vc3 hB (by omega) | exact vcL hB (by omega)) (by first | assumption | rfl | decide | exact bL hB _ (by decide) | exact vc3 hB (by omega) | exact vcL hB (by omega)) ?_
        refine x_getR (q := 96) C 51 rfl rfl fl_RX3_189 (bv_2_3 hB) (fun _ _ => rfl) (by first | assumption | rfl | decide | exact bL hB _ (by decide) | exact vc3 hB (by omega) | exact vcL hB (by omega)) (by first | assumption | rfl | decide | exact bL hB _ (by decide) | exact vc3 hB (by omega) | exact vcL hB (by omega)) ?_
        refine y_aload0 (q := 97) C 52 rfl rfl ?_
        refine x_getR (q := 100) C 53 rfl rfl fl_RX3_33 (bv_4_5 hB) (fun _ _ => rfl) (by first | assumption | rfl | decide | exact bL hB _ (by decide) | exact vc3 hB (by omega) | exact vcL hB (by omega)) (by first | assumption | rfl | decide | exact bL hB _ (by decide) | exact vc3 hB (by omega) | exact vcL hB (by omega)) ?_
        refine x_getI (q := 103) C 54 rfl rfl fl_RX3_186 (fun _ _ => rfl) (by first | assumption | rfl | decide | exact bL hB _ (by decide) | exact vc3 hB (by omega) | exact vcL hB (by omega)) (by first | assumption | rfl | decide | exact bL hB _ (by decide) | exact vc3 hB (by omega) | exact vcL hB (by omega)) ?_
        rw [hr]
        refine y_cS3 (q := 106) C 55 rfl rfl ml_RX3_309 cd_X3_withRow sv_X3_withRow (by decide) (by decide) (Nat.le_of_ble_eq_true rfl) (s_X3_withRow (by decide) (bL hB _ (by decide)) (by omega) (bn56 hB) ?_)
        intro r1
        show aj_X G 106 _ _ _ _ _ _ _ _ _
        refine y_lstore3 (q := 107) C 56 rfl rfl (Nat.le_of_ble_eq_true rfl) rfl ?_
        refine y_lload3 (q := 108) C 57 rfl rfl ?_
        refine y_aload0 (q := 109) C 58 rfl rfl ?_
        refine y_cV0 (q := 112) C 59 rfl rfl ml_RX3_313 cd_X3_isStar cv_X3_isStar ⟨by decide, rfl⟩ (by first | assumption | rfl | decide | exact bL hB _ (by decide) | exact vc3 hB (by omega) | exact vcL hB (by omega)) (by decide) (by decide) (Nat.le_of_ble_eq_true rfl) (s_X3_isStar hn hf hB ?_)
        intro b1 I1 hE1
        show aj_X G 112 _ _ _ _ _ _ _ _ _
        refine x_if_eqB (q := 115) (t := 119) C 60 rfl (by decide) rfl (fun c2 => ?_) (fun c2 => ?_)
        · skip
          refine x_lconst (q := 120) C 63 (n := 0) (v := 0) rfl rfl rfl ?_
          refine y_cS2 (q := 123) C 64 rfl rfl ml_RX3_263 cd_X3_with sv_X3_with (by decide) (by decide) (Nat.le_of_ble_eq_true rfl) (s_X3_with ?_)
          show aj_X G 123 _ _ _ _ _ _ _ _ _
          refine y_lstore3 (q := 124) C 65 rfl rfl (Nat.le_of_ble_eq_true rfl) rfl ?_
          refine y_lload3 (q := 125) C 66 rfl rfl ?_
          refine y_aload0 (q := 126) C 67 rfl rfl ?_
          refine y_cV0 (q := 129) C 68 rfl rfl ml_RX3_316 cd_X3_starArea cv_X3_starArea ⟨by decide, rfl⟩ (by first | assumption | rfl | decide | exact bL hB _ (by decide) | exact vc3 hB (by omega) | exact vcL hB (by omega)) (by decide) (by decide) (Nat.le_of_ble_eq_true rfl) (s_X3_starArea hn (hf.eqS hE1 (by decide) (by decide) (by decide) (by decide) (by decide)) hB ?_)
          intro r2 I2 hE2
          show aj_X G 129 _ _ _ _ _ _ _ _ _
          refine x_i2l (q := 130) C 69 rfl rfl ?_
          refine y_cS2 (q := 133) C 70 rfl rfl ml_RX3_263 cd_X3_with sv_X3_with (by decide) (by decide) (Nat.le_of_ble_eq_true rfl) (s_X3_with ?_)
          show aj_X G 133 _ _ _ _ _ _ _ _ _
          refine y_lstore3 (q := 134) C 71 rfl rfl (Nat.le_of_ble_eq_true rfl) rfl ?_
          refine y_lload3 (q := 135) C 72 rfl rfl ?_
          refine y_aload0 (q := 136) C 73 rfl rfl ?_
          refine x_getR (q := 139) C 74 rfl rfl fl_RX3_33 (bv_4_5 hB) (fun _ _ => rfl) (by first | assumption | rfl | decide | exact bL hB _ (by decide) | exact vc3 hB (by omega) | exact vcL hB (by omega)) (by first | assumption | rfl | decide | exact bL hB _ (by decide) | exact vc3 hB (by omega) | exact vcL hB (by omega)) ?_
          refine x_getR (q := 142) C 75 rfl rfl fl_RX3_205 (bv_2_5 hB) (fun _ _ => rfl) (by first | assumption | rfl | decide | exact bL hB _ (by decide) | exact vc3 hB (by omega) | exact vcL hB (by omega)) (by first | assumption | rfl | decide | exact bL hB _ (by decide) | exact vc3 hB (by omega) | exact vcL hB (by omega)) ?_
          refine y_aload0 (q := 143) C 76 rfl rfl ?_
          refine x_getR (q := 146) C 77 rfl rfl fl_RX3_33 (bv_4_5 hB) (fun _ _ => rfl) (by first | assumption | rfl | decide | exact bL hB _ (by decide) | exact vc3 hB (by omega) | exact vcL hB (by omega)) (by first | assumption | rfl | decide | exact bL hB _ (by decide) | exact vc3 hB (by omega) | exact vcL hB (by omega)) ?_
          refine x_getI (q := 149) C 78 rfl rfl fl_RX3_202 (fun _ _ => rfl) (by first | assumption | rfl | decide | exact bL hB _ (by decide) | exact vc3 hB (by omega) | exact vcL hB (by omega)) (by first | assumption | rfl | decide | exact bL hB _ (by decide) | exact vc3 hB (by omega) | exact vcL hB (by omega)) ?_
          rw [show I2 18 6 = nI qc by rw [hE2 18 (by decide), hE1 18 (by decide)]; exact hq]
          refine y_cS3 (q := 152) C 79 rfl rfl ml_RX3_309 cd_X3_withRow sv_X3_withRow (by decide) (by decide) (Nat.le_of_ble_eq_true rfl) (s_X3_withRow (by decide) (bL hB _ (by decide)) (by omega) (bn72 hB) ?_)
          intro r3
          show aj_X G 152 _ _ _ _ _ _ _ _ _
          refine y_lstore3 (q := 153) C 80 rfl rfl (Nat.le_of_ble_eq_true rfl) rfl ?_
          refine y_lload3 (q := 154) C 81 rfl rfl ?_
          refine y_aload0 (q := 155) C 82 rfl rfl ?_
          refine y_cV0 (q := 158) C 83 rfl rfl ml_RX3_319 cd_X3_hullArea cv_X3_hullArea ⟨by decide, rfl⟩ (by first | assumption | rfl | decide | exact bL hB _ (by decide) | exact vc3 hB (by omega) | exact vcL hB (by omega)) (by decide) (by decide) (Nat.le_of_ble_eq_true rfl) (s_X3_hullArea hn ((hf.eqS hE1 (by decide) (by decide) (by decide) (by decide) (by decide)).eqS hE2 (by decide) (by decide) (by decide) (by decide) (by decide)) hB ?_)
          intro r4
          show aj_X G 158 _ _ _ _ _ _ _ _ _
          refine x_i2l (q := 159) C 84 rfl rfl ?_
          refine y_cS2 (q := 162) C 85 rfl rfl ml_RX3_263 cd_X3_with sv_X3_with (by decide) (by decide) (Nat.le_of_ble_eq_true rfl) (s_X3_with ?_)
          show aj_X G 162 _ _ _ _ _ _ _ _ _
          refine y_lstore3 (q := 163) C 86 rfl rfl (Nat.le_of_ble_eq_true rfl) rfl ?_
          refine y_lload3 (q := 164) C 87 rfl rfl ?_
          refine y_aload0 (q := 165) C 88 rfl rfl ?_
          refine y_cV0 (q := 168) C 89 rfl rfl ml_RX3_322 cd_X3_rounds cv_X3_rounds ⟨by decide, rfl⟩ (by first | assumption | rfl | decide | exact bL hB _ (by decide) | exact vc3 hB (by omega) | exact vcL hB (by omega)) (by decide) (by decide) (Nat.le_of_ble_eq_true rfl) (s_X3_rounds hn (by rw [hE2 18 (by decide), hE1 18 (by decide)]; exact hc) hB ?_)
          show aj_X G 168 _ _ _ _ _ _ _ _ _
          refine x_i2l (q := 169) C 90 rfl rfl ?_
          refine y_cS2 (q := 172) C 91 rfl rfl ml_RX3_263 cd_X3_with sv_X3_with (by decide) (by decide) (Nat.le_of_ble_eq_true rfl) (s_X3_with ?_)
          show aj_X G 172 _ _ _ _ _ _ _ _ _
          exact x_lreturn C Z 92 rfl rfl (hK _ I2 (eqO.tr hE1 hE2))
        · skip
          refine x_lconst (q := 116) C 61 (n := 1) (v := 1) rfl rfl rfl ?_
          refine x_goto (t := 120) C 62 rfl (by decide) ?_
          refine y_cS2 (q := 123) C 64 rfl rfl ml_RX3_263 cd_X3_with sv_X3_with (by decide) (by decide) (Nat.le_of_ble_eq_true rfl) (s_X3_with ?_)
          show aj_X G 123 _ _ _ _ _ _ _ _ _
          refine y_lstore3 (q := 124) C 65 rfl rfl (Nat.le_of_ble_eq_true rfl) rfl ?_
          refine y_lload3 (q := 125) C 66 rfl rfl ?_
          refine y_aload0 (q := 126) C 67 rfl rfl ?_
          refine y_cV0 (q := 129) C 68 rfl rfl ml_RX3_316 cd_X3_starArea cv_X3_starArea ⟨by decide, rfl⟩ (by first | assumption | rfl | decide | exact bL hB _ (by decide) | exact vc3 hB (by omega) | exact vcL hB (by omega)) (by decide) (by decide) (Nat.le_of_ble_eq_true rfl) (s_X3_starArea hn (hf.eqS hE1 (by decide) (by decide) (by decide) (by decide) (by decide)) hB ?_)
          intro r2 I2 hE2
          show aj_X G 129 _ _ _ _ _ _ _ _ _
          refine x_i2l (q := 130) C 69 rfl rfl ?_
          refine y_cS2 (q := 133) C 70 rfl rfl ml_RX3_263 cd_X3_with sv_X3_with (by decide) (by decide) (Nat.le_of_ble_eq_true rfl) (s_X3_with ?_)
          show aj_X G 133 _ _ _ _ _ _ _ _ _
          refine y_lstore3 (q := 134) C 71 rfl rfl (Nat.le_of_ble_eq_true rfl) rfl ?_
          refine y_lload3 (q := 135) C 72 rfl rfl ?_
          refine y_aload0 (q := 136) C 73 rfl rfl ?_
          refine x_getR (q := 139) C 74 rfl rfl fl_RX3_33 (bv_4_5 hB) (fun _ _ => rfl) (by first | assumption | rfl | decide | exact bL hB _ (by decide) | exact vc3 hB (by omega) | exact vcL hB (by omega)) (by first | assumption | rfl | decide | exact bL hB _ (by decide) | exact vc3 hB (by omega) | exact vcL hB (by omega)) ?_
          refine x_getR (q := 142) C 75 rfl rfl fl_RX3_205 (bv_2_5 hB) (fun _ _ => rfl) (by first | assumption | rfl | decide | exact bL hB _ (by decide) | exact vc3 hB (by omega) | exact vcL hB (by omega)) (by first | assumption | rfl | decide | exact bL hB _ (by decide) | exact vc3 hB (by omega) | exact vcL hB (by omega)) ?_
          refine y_aload0 (q := 143) C 76 rfl rfl ?_
          refine x_getR (q := 146) C 77 rfl rfl fl_RX3_33 (bv_4_5 hB) (fun _ _ => rfl) (by first | assumption | rfl | decide | exact bL hB _ (by decide) | exact vc3 hB (by omega) | exact vcL hB (by omega)) (by first | assumption | rfl | decide | exact bL hB _ (by decide) | exact vc3 hB (by omega) | exact vcL hB (by omega)) ?_
          refine x_getI (q := 149) C 78 rfl rfl fl_RX3_202 (fun _ _ => rfl) (by first | assumption | rfl | decide | exact bL hB _ (by decide) | exact vc3 hB (by omega) | exact vcL hB (by omega)) (by first | assumption | rfl | decide | exact bL hB _ (by decide) | exact vc3 hB (by omega) | exact vcL hB (by omega)) ?_
          rw [show I2 18 6 = nI qc by rw [hE2 18 (by decide), hE1 18 (by decide)]; exact hq]
          refine y_cS3 (q := 152) C 79 rfl rfl ml_RX3_309 cd_X3_withRow sv_X3_withRow (by decide) (by decide) (Nat.le_of_ble_eq_true rfl) (s_X3_withRow (by decide) (bL hB _ (by decide)) (by omega) (bn72 hB) ?_)
          intro r3
          show aj_X G 152 _ _ _ _ _ _ _ _ _
          refine y_lstore3 (q := 153) C 80 rfl rfl (Nat.le_of_ble_eq_true rfl) rfl ?_
          refine y_lload3 (q := 154) C 81 rfl rfl ?_
          refine y_aload0 (q := 155) C 82 rfl rfl ?_
          refine y_cV0 (q := 158) C 83 rfl rfl ml_RX3_319 cd_X3_hullArea cv_X3_hullArea ⟨by decide, rfl⟩ (by first | assumption | rfl | decide | exact bL hB _ (by decide) | exact vc3 hB (by omega) | exact vcL hB (by omega)) (by decide) (by decide) (Nat.le_of_ble_eq_true rfl) (s_X3_hullArea hn ((hf.eqS hE1 (by decide) (by decide) (by decide) (by decide) (by decide)).eqS hE2 (by decide) (by decide) (by decide) (by decide) (by decide)) hB ?_)
          intro r4
          show aj_X G 158 _ _ _ _ _ _ _ _ _
          refine x_i2l (q := 159) C 84 rfl rfl ?_
          refine y_cS2 (q := 162) C 85 rfl rfl ml_RX3_263 cd_X3_with sv_X3_with (by decide) (by decide) (Nat.le_of_ble_eq_true rfl) (s_X3_with ?_)
          show aj_X G 162 _ _ _ _ _ _ _ _ _
          refine y_lstore3 (q := 163) C 86 rfl rfl (Nat.le_of_ble_eq_true rfl) rfl ?_
          refine y_lload3 (q := 164) C 87 rfl rfl ?_
          refine y_aload0 (q := 165) C 88 rfl rfl ?_
          refine y_cV0 (q := 168) C 89 rfl rfl ml_RX3_322 cd_X3_rounds cv_X3_rounds ⟨by decide, rfl⟩ (by first | assumption | rfl | decide | exact bL hB _ (by decide) | exact vc3 hB (by omega) | exact vcL hB (by omega)) (by decide) (by decide) (Nat.le_of_ble_eq_true rfl) (s_X3_rounds hn (by rw [hE2 18 (by decide), hE1 18 (by decide)]; exact hc) hB ?_)
          show aj_X G 168 _ _ _ _ _ _ _ _ _
          refine x_i2l (q := 169) C 90 rfl rfl ?_
          refine y_cS2 (q := 172) C 91 rfl rfl ml_RX3_263 cd_X3_with sv_X3_with (by decide) (by decide) (Nat.le_of_ble_eq_true rfl) (s_X3_with ?_)
          show aj_X G 172 _ _ _ _ _ _ _ _ _
          exact x_lreturn C Z 92 rfl rfl (hK _ I2 (eqO.tr hE1 hE2))
      · skip
        exact absurd (nI_le (by omega) (by omega)) c1
    | succ m ih =>
      intro j r hj
      refine y_iload5 (q := 18) C 9 rfl rfl ?_
      refine y_aload0 (q := 19) C 10 rfl rfl ?_
      refine x_getR (q := 22) C 11 rfl rfl fl_RX3_33 (bv_4_5 hB) (fun _ _ => rfl) (by first | assumption | rfl | decide | exact bL hB _ (by decide) | exact vc3 hB (by omega) | exact vcL hB (by omega)) (by first | assumption | rfl | decide | exact bL hB _ (by decide) | exact vc3 hB (by omega) | exact vcL hB (by omega)) ?_
      refine x_getI (q := 25) C 12 rfl rfl fl_RX3_141 (fun _ _ => rfl) (by first | assumption | rfl | decide | exact bL hB _ (by decide) | exact vc3 hB (by omega) | exact vcL hB (by omega)) (by first | assumption | rfl | decide | exact bL hB _ (by decide) | exact vc3 hB (by omega) | exact vcL hB (by omega)) ?_
      rw [hc]
      refine x_icmp_ge (q := 28) (t := 66) C 13 rfl (by decide) rfl (fun c3 => ?_) (fun c3 => ?_)
      · skip
        exact absurd c3 (nI_ge (by omega) (by omega))
      · skip
        refine y_lload3 (q := 29) C 14 rfl rfl ?_
        refine y_aload0 (q := 30) C 15 rfl rfl ?_
        refine x_getR (q := 33) C 16 rfl rfl fl_RX3_33 (bv_4_5 hB) (fun _ _ => rfl) (by first | assumption | rfl | decide | exact bL hB _ (by decide) | exact vc3 hB (by omega) | exact vcL hB (by omega)) (by first | assumption | rfl | decide | exact bL hB _ (by decide) | exact vc3 hB (by omega) | exact vcL hB (by omega)) ?_
        refine x_getR (q := 36) C 17 rfl rfl fl_RX3_173 (bv_2_0 hB) (fun _ _ => rfl) (by first | assumption | rfl | decide | exact bL hB _ (by decide) | exact vc3 hB (by omega) | exact vcL hB (by omega)) (by first | assumption | rfl | decide | exact bL hB _ (by decide) | exact vc3 hB (by omega) | exact vcL hB (by omega)) ?_
        refine y_iload5 (q := 38) C 18 rfl rfl ?_
        refine x_iald (q := 39) C 19 rfl rfl (by first | assumption | rfl | decide | exact bL hB _ (by decide) | exact vc3 hB (by omega) | exact vcL hB (by omega)) (by first | assumption | rfl | decide | exact bL hB _ (by decide) | exact vc3 hB (by omega) | exact vcL hB (by omega)) (by (first | rw [bn24 hB] | rw [bn40 hB] | rw [bn56 hB] | rw [bn72 hB] | rw [bn27 hB] | rw [bn43 hB] | rw [bn25 hB] | rw [bn41 hB] | rw [bn88 hB] | rw [bn104 hB] | rw [bn120 hB] | rw [bn136 hB] | rw [bn152 hB] | rw [bn168 hB]); first | assumption | exact vp_in_nI (by omega) (by decide)) ?_
        rw [nI_clamp (by omega)]
        refine x_i2l (q := 40) C 20 rfl rfl ?_
        refine y_cS2 (q := 43) C 21 rfl rfl ml_RX3_263 cd_X3_with sv_X3_with (by decide) (by decide) (Nat.le_of_ble_eq_true rfl) (s_X3_with ?_)
        show aj_X G 43 _ _ _ _ _ _ _ _ _
        refine y_lstore3 (q := 44) C 22 rfl rfl (Nat.le_of_ble_eq_true rfl) rfl ?_
        refine y_lload3 (q := 45) C 23 rfl rfl ?_
        refine y_aload0 (q := 46) C 24 rfl rfl ?_
        refine x_getR (q := 49) C 25 rfl rfl fl_RX3_33 (bv_4_5 hB) (fun _ _ => rfl) (by first | assumption | rfl | decide | exact bL hB _ (by decide) | exact vc3 hB (by omega) | exact vcL hB (by omega)) (by first | assumption | rfl | decide | exact bL hB _ (by decide) | exact vc3 hB (by omega) | exact vcL hB (by omega)) ?_
        refine x_getR (q := 52) C 26 rfl rfl fl_RX3_170 (bv_2_1 hB) (fun _ _ => rfl) (by first | assumption | rfl | decide | exact bL hB _ (by decide) | exact vc3 hB (by omega) | exact vcL hB (by omega)) (by first | assumption | rfl | decide | exact bL hB _ (by decide) | exact vc3 hB (by omega) | exact vcL hB (by omega)) ?_
        refine y_iload5 (q := 54) C 27 rfl rfl ?_
        refine x_iald (q := 55) C 28 rfl rfl (by first | assumption | rfl | decide | exact bL hB _ (by decide) | exact vc3 hB (by omega) | exact vcL hB (by omega)) (by first | assumption | rfl | decide | exact bL hB _ (by decide) | exact vc3 hB (by omega) | exact vcL hB (by omega)) (by (first | rw [bn24 hB] | rw [bn40 hB] | rw [bn56 hB] | rw [bn72 hB] | rw [bn27 hB] | rw [bn43 hB] | rw [bn25 hB] | rw [bn41 hB] | rw [bn88 hB] | rw [bn104 hB] | rw [bn120 hB] | rw [bn136 hB] | rw [bn152 hB] | rw [bn168 hB]); first | assumption | exact vp_in_nI (by omega) (by decide)) ?_
        rw [nI_clamp (by omega)]
        refine x_i2l (q := 56) C 29 rfl rfl ?_
        refine y_cS2 (q := 59) C 30 rfl rfl ml_RX3_263 cd_X3_with sv_X3_with (by decide) (by decide) (Nat.le_of_ble_eq_true rfl) (s_X3_with ?_)
        show aj_X G 59 _ _ _ _ _ _ _ _ _
        refine y_lstore3 (q := 60) C 31 rfl rfl (Nat.le_of_ble_eq_true rfl) rfl ?_
        refine y_iinc5 (q := 63) C 32 rfl rfl (nI_1 j) (Nat.le_of_ble_eq_true rfl) rfl ?_
        refine x_goto (t := 16) C 33 rfl (by decide) ?_
        exact ih (j + 1) _ (by omega)
  exact lp16 n 0 _ (by omega)
set_option maxRecDepth 100000 in
set_option maxHeartbeats 800000 in
theorem s_X3_digest {l : Launch} {I : Nat → Nat → Int32} {J : Nat → Nat → Int64} {V : Nat → Nat → Option Nat} {N : Nat → Nat} {L : List Nat} {K : aj_K} {n : Nat} (hn : n ≤ 12) (hc : I 18 2 = nI n) (hf : fW I n) (hB : bV V N L) (hK : ∀ (r : Int64) J1 I1, (∀ i, i ≠ 25 → J1 i = J i) → eqO [163, 179, 195] I I1 → K (.inl (some (.long r))) I1 J1 V N L) : aj_M l yX3_digest (aj_wc yX3_digest cX3_digest 5 (some .long)) (aj_rm 7 0 0) [] [.ref 20] I J V N L K := by
  refine aj_intro (tbl := t_X3_digest) (lv0 := [some (.ref 20), none, none, none, none]) (by decide) T_X3_digest aj_f0 (Nat.le_of_ble_eq_true rfl) rfl ?_
  intro G hl C Z NX hnm hGL hGF
  have C : aj_C G cX3_digest t_X3_digest RX3 (aj_rm 7 0 0) 5 := C
  refine x_ldc2 (q := 3) C 0 kc_RX3_254 rfl rfl ?_
  refine y_lstore1 (q := 4) C 1 rfl rfl (Nat.le_of_ble_eq_true rfl) rfl ?_
  refine x_iconst (q := 5) C 2 (n := (0)) (v := nI 0) rfl rfl rfl ?_
  refine y_istore3 (q := 6) C 3 rfl rfl (Nat.le_of_ble_eq_true rfl) rfl ?_
  have lp6 : ∀ (m j : Nat) (r : Int64) I1, j + m = 8 → eqO [163, 179, 195] I I1 → aj_X G 6 [some (.ref 20), some (.long r), none, some (.int (nI j)), none] [] I1 J V N L 0 0 := by
    intro m
    induction m with
    | zero =>
      intro j r I1 hj hE1
      refine y_iload3 (q := 7) C 4 rfl rfl ?_
      refine x_bipush (q := 9) C 5 (n := (8)) (v := nI 8) rfl rfl rfl ?_
      refine x_icmp_ge (q := 12) (t := 25) C 6 rfl (by decide) rfl (fun c1 => ?_) (fun c1 => ?_)
      · skip
        refine x_iconst (q := 26) C 14 (n := (0)) (v := nI 0) rfl rfl rfl ?_
        refine y_istore3 (q := 27) C 15 rfl rfl (Nat.le_of_ble_eq_true rfl) rfl ?_
        have lp27 : ∀ (mi j : Nat) (r : Int64) (z4 : Option Value), j + mi = 8 → aj_X G 27 [some (.ref 20), some (.long r), none, some (.int (nI j)), z4] [] I1 J V N L 0 0 := by
          intro mi
          induction mi with
          | zero =>
            intro j r z4 hj
            refine y_iload3 (q := 28) C 16 rfl rfl ?_
            refine x_bipush (q := 30) C 17 (n := (8)) (v := nI 8) rfl rfl rfl ?_
            refine x_icmp_ge (q := 33) (t := 104) C 18 rfl (by decide) rfl (fun c2 => ?_) (fun c2 => ?_)
            · skip
              refine y_aload0 (q := 105) C 58 rfl rfl ?_
              refine y_lload1 (q := 106) C 59 rfl rfl ?_
              refine y_cV1 (q := 109) C 60 rfl rfl ml_RX3_273 cd_X3_withField cv_X3_withField ⟨by decide, rfl⟩ (by first | assumption | rfl | decide | exact bL hB _ (by decide) | exact vc3 hB (by omega) | exact vcL hB (by omega)) (by decide) (by decide) (Nat.le_of_ble_eq_true rfl) (s_X3_withField hn (by rw [hE1 18 (by decide)]; exact hc) (hf.eqS hE1 (by decide) (by decide) (by decide) (by decide) (by decide)) hB ?_)
              intro r2 I2 hE2
              show aj_X G 109 _ _ _ _ _ _ _ _ _
              refine y_lstore1 (q := 110) C 61 rfl rfl (Nat.le_of_ble_eq_true rfl) rfl ?_
              refine x_iconst (q := 111) C 62 (n := (0)) (v := nI 0) rfl rfl rfl ?_
              refine y_istore3 (q := 112) C 63 rfl rfl (Nat.le_of_ble_eq_true rfl) rfl ?_
              have lp112 : ∀ (mh j : Nat) (r : Int64) (z4 : Option Value), j + mh = 4 → aj_X G 112 [some (.ref 20), some (.long r), none, some (.int (nI j)), z4] [] I2 J V N L 0 0 := by
                intro mh
                induction mh with
                | zero =>
                  intro j r z4 hj
                  refine y_iload3 (q := 113) C 64 rfl rfl ?_
                  refine x_iconst (q := 114) C 65 (n := (3)) (v := nI 3) rfl rfl rfl ?_
                  refine x_icmp_gt (q := 117) (t := 134) C 66 rfl (by decide) rfl (fun c3 => ?_) (fun c3 => ?_)
                  · skip
                    refine y_lload1 (q := 135) C 76 rfl rfl ?_
                    refine y_aload0 (q := 136) C 77 rfl rfl ?_
                    refine y_cV0 (q := 139) C 78 rfl rfl ml_RX3_280 cd_X3_isSound cv_X3_isSound ⟨by decide, rfl⟩ (by first | assumption | rfl | decide | exact bL hB _ (by decide) | exact vc3 hB (by omega) | exact vcL hB (by omega)) (by decide) (by decide) (Nat.le_of_ble_eq_true rfl) (s_X3_isSound hn (by rw [hE2 18 (by decide), hE1 18 (by decide)]; exact hc) ((hf.eqS hE1 (by decide) (by decide) (by decide) (by decide) (by decide)).eqS hE2 (by decide) (by decide) (by decide) (by decide) (by decide)) hB ?_)
                    intro b J1 I3 hJ hE3
                    show aj_X G 139 _ _ _ _ _ _ _ _ _
                    refine x_if_eqB (q := 142) (t := 146) C 79 rfl (by decide) rfl (fun c4 => ?_) (fun c4 => ?_)
                    · skip
                      refine x_lconst (q := 147) C 82 (n := 0) (v := 0) rfl rfl rfl ?_
                      refine y_cS2 (q := 150) C 83 rfl rfl ml_RX3_263 cd_X3_with sv_X3_with (by decide) (by decide) (Nat.le_of_ble_eq_true rfl) (s_X3_with ?_)
                      show aj_X G 150 _ _ _ _ _ _ _ _ _
                      exact x_lreturn C Z 84 rfl rfl (hK _ J1 I3 hJ (eqO.tr hE1 (eqO.tr (hE2.mono (by decide)) (hE3.mono (by decide)))))
                    · skip
                      refine x_lconst (q := 143) C 80 (n := 1) (v := 1) rfl rfl rfl ?_
                      refine x_goto (t := 147) C 81 rfl (by decide) ?_
                      refine y_cS2 (q := 150) C 83 rfl rfl ml_RX3_263 cd_X3_with sv_X3_with (by decide) (by decide) (Nat.le_of_ble_eq_true rfl) (s_X3_with ?_)
                      show aj_X G 150 _ _ _ _ _ _ _ _ _
                      exact x_lreturn C Z 84 rfl rfl (hK _ J1 I3 hJ (eqO.tr hE1 (eqO.tr (hE2.mono (by decide)) (hE3.mono (by decide)))))
                  · skip
                    exact absurd (nI_lt (a := 3) (by omega) (by omega)) c3
                | succ mh ihh =>
                  intro j r z4 hj
                  refine y_iload3 (q := 113) C 64 rfl rfl ?_
                  refine x_iconst (q := 114) C 65 (n := (3)) (v := nI 3) rfl rfl rfl ?_
                  refine x_icmp_gt (q := 117) (t := 134) C 66 rfl (by decide) rfl (fun c5 => ?_) (fun c5 => ?_)
                  · skip
                    exact absurd c5 (nI_nlt (by omega) (by omega))
                  · skip
                    refine y_lload1 (q := 118) C 67 rfl rfl ?_
                    refine y_aload0 (q := 119) C 68 rfl rfl ?_
                    refine y_iload3 (q := 120) C 69 rfl rfl ?_
                    refine y_cV1 (q := 123) C 70 rfl rfl ml_RX3_277 cd_X3_house cv_X3_house ⟨by decide, rfl⟩ (by first | assumption | rfl | decide | exact bL hB _ (by decide) | exact vc3 hB (by omega) | exact vcL hB (by omega)) (by decide) (by decide) (Nat.le_of_ble_eq_true rfl) (s_X3_house0 (by omega) hB ?_)
                    show aj_X G 123 _ _ _ _ _ _ _ _ _
                    refine x_i2l (q := 124) C 71 rfl rfl ?_
                    refine y_cS2 (q := 127) C 72 rfl rfl ml_RX3_263 cd_X3_with sv_X3_with (by decide) (by decide) (Nat.le_of_ble_eq_true rfl) (s_X3_with ?_)
                    show aj_X G 127 _ _ _ _ _ _ _ _ _
                    refine y_lstore1 (q := 128) C 73 rfl rfl (Nat.le_of_ble_eq_true rfl) rfl ?_
                    refine y_iinc3 (q := 131) C 74 rfl rfl (nI_1 j) (Nat.le_of_ble_eq_true rfl) rfl ?_
                    refine x_goto (t := 112) C 75 rfl (by decide) ?_
                    exact ihh (j + 1) _ _ (by omega)
              exact lp112 4 0 _ _ (by omega)
            · skip
              exact absurd (nI_le (by omega) (by omega)) c2
          | succ mi ihi =>
            intro j r z4 hj
            refine y_iload3 (q := 28) C 16 rfl rfl ?_
            refine x_bipush (q := 30) C 17 (n := (8)) (v := nI 8) rfl rfl rfl ?_
            refine x_icmp_ge (q := 33) (t := 104) C 18 rfl (by decide) rfl (fun c6 => ?_) (fun c6 => ?_)
            · skip
              exact absurd c6 (nI_ge (by omega) (by omega))
            · skip
              refine y_iload3 (q := 34) C 19 rfl rfl ?_
              refine x_iconst (q := 35) C 20 (n := (1)) (v := nI 1) rfl rfl rfl ?_
              refine x_iadd (q := 36) C 21 rfl rfl ?_
              rw [nI_add]
              refine y_istore4 (q := 38) C 22 rfl rfl (Nat.le_of_ble_eq_true rfl) rfl ?_
              have lp38 : ∀ (mk k : Nat) (r : Int64), k ≤ 8 → 8 ≤ k + mk → aj_X G 38 [some (.ref 20), some (.long r), none, some (.int (nI j)), some (.int (nI k))] [] I1 J V N L 0 0 := by
                intro mk
                induction mk with
                | zero =>
                  intro k r hk8 hk
                  refine y_iload4 (q := 40) C 23 rfl rfl ?_
                  refine x_bipush (q := 42) C 24 (n := (8)) (v := nI 8) rfl rfl rfl ?_
                  refine x_icmp_ge (q := 45) (t := 98) C 25 rfl (by decide) rfl (fun c7 => ?_) (fun c7 => ?_)
                  · skip
                    refine y_iinc3 (q := 101) C 56 rfl rfl (nI_1 j) (Nat.le_of_ble_eq_true rfl) rfl ?_
                    refine x_goto (t := 27) C 57 rfl (by decide) ?_
                    exact ihi (j + 1) _ _ (by omega)
                  · skip
                    exact absurd (nI_le (by omega) (by omega)) c7
                | succ mk ihk =>
                  intro k r hk8 hk
                  refine y_iload4 (q := 40) C 23 rfl rfl ?_
                  refine x_bipush (q := 42) C 24 (n := (8)) (v := nI 8) rfl rfl rfl ?_
                  refine x_icmp_ge (q := 45) (t := 98) C 25 rfl (by decide) rfl (fun c8 => ?_) (fun c8 => ?_)
                  · skip
                    refine y_iinc3 (q := 101) C 56 rfl rfl (nI_1 j) (Nat.le_of_ble_eq_true rfl) rfl ?_
                    refine x_goto (t := 27) C 57 rfl (by decide) ?_
                    exact ihi (j + 1) _ _ (by omega)
                  · skip
                    have hkl : k < 8 := by
                      rcases Nat.lt_or_ge k 8 with w | w
                      · exact w
                      · exact absurd (nI_le w (by omega)) (by assumption)
                    refine y_lload1 (q := 46) C 26 rfl rfl ?_
                    refine y_aload0 (q := 47) C 27 rfl rfl ?_
                    refine y_iload3 (q := 48) C 28 rfl rfl ?_
                    refine y_iload4 (q := 50) C 29 rfl rfl ?_
                    refine x_iconst (q := 51) C 30 (n := (0)) (v := (0)) rfl rfl rfl ?_
                    refine y_cV3 (q := 54) C 31 rfl rfl ml_RX3_260 cd_X3_order cv_X3_order ⟨by decide, rfl⟩ (by first | assumption | rfl | decide | exact bL hB _ (by decide) | exact vc3 hB (by omega) | exact vcL hB (by omega)) (by decide) (by decide) (Nat.le_of_ble_eq_true rfl) (s_X3_order0 (by omega) hkl hB ?_)
                    show aj_X G 54 _ _ _ _ _ _ _ _ _
                    refine x_i2l (q := 55) C 32 rfl rfl ?_
                    refine y_cS2 (q := 58) C 33 rfl rfl ml_RX3_263 cd_X3_with sv_X3_with (by decide) (by decide) (Nat.le_of_ble_eq_true rfl) (s_X3_with ?_)
                    show aj_X G 58 _ _ _ _ _ _ _ _ _
                    refine y_lstore1 (q := 59) C 34 rfl rfl (Nat.le_of_ble_eq_true rfl) rfl ?_
                    refine y_lload1 (q := 60) C 35 rfl rfl ?_
                    refine y_aload0 (q := 61) C 36 rfl rfl ?_
                    refine y_iload3 (q := 62) C 37 rfl rfl ?_
                    refine y_iload4 (q := 64) C 38 rfl rfl ?_
                    refine y_cV2 (q := 67) C 39 rfl rfl ml_RX3_267 cd_X3_like cv_X3_like ⟨by decide, rfl⟩ (by first | assumption | rfl | decide | exact bL hB _ (by decide) | exact vc3 hB (by omega) | exact vcL hB (by omega)) (by decide) (by decide) (Nat.le_of_ble_eq_true rfl) (s_X3_like0 (by omega) hkl hB ?_)
                    show aj_X G 67 _ _ _ _ _ _ _ _ _
                    refine x_if_eqB (q := 70) (t := 74) C 40 rfl (by decide) rfl (fun c9 => ?_) (fun c9 => ?_)
                    · skip
                      refine x_lconst (q := 75) C 43 (n := 0) (v := 0) rfl rfl rfl ?_
                      refine y_cS2 (q := 78) C 44 rfl rfl ml_RX3_263 cd_X3_with sv_X3_with (by decide) (by decide) (Nat.le_of_ble_eq_true rfl) (s_X3_with ?_)
                      show aj_X G 78 _ _ _ _ _ _ _ _ _
                      refine y_lstore1 (q := 79) C 45 rfl rfl (Nat.le_of_ble_eq_true rfl) rfl ?_
                      refine y_lload1 (q := 80) C 46 rfl rfl ?_
                      refine y_aload0 (q := 81) C 47 rfl rfl ?_
                      refine y_iload3 (q := 82) C 48 rfl rfl ?_
                      refine y_iload4 (q := 84) C 49 rfl rfl ?_
                      refine y_cV2 (q := 87) C 50 rfl rfl ml_RX3_270 cd_X3_side cv_X3_side ⟨by decide, rfl⟩ (by first | assumption | rfl | decide | exact bL hB _ (by decide) | exact vc3 hB (by omega) | exact vcL hB (by omega)) (by decide) (by decide) (Nat.le_of_ble_eq_true rfl) (s_X3_side0 (by omega) hkl hB ?_)
                      show aj_X G 87 _ _ _ _ _ _ _ _ _
                      refine x_i2l (q := 88) C 51 rfl rfl ?_
                      refine y_cS2 (q := 91) C 52 rfl rfl ml_RX3_263 cd_X3_with sv_X3_with (by decide) (by decide) (Nat.le_of_ble_eq_true rfl) (s_X3_with ?_)
                      show aj_X G 91 _ _ _ _ _ _ _ _ _
                      refine y_lstore1 (q := 92) C 53 rfl rfl (Nat.le_of_ble_eq_true rfl) rfl ?_
                      refine y_iinc4 (q := 95) C 54 rfl rfl (nI_1 k) (Nat.le_of_ble_eq_true rfl) rfl ?_
                      refine x_goto (t := 38) C 55 rfl (by decide) ?_
                      exact ihk (k + 1) _ (by omega) (by omega)
                    · skip
                      refine x_lconst (q := 71) C 41 (n := 1) (v := 1) rfl rfl rfl ?_
                      refine x_goto (t := 75) C 42 rfl (by decide) ?_
                      refine y_cS2 (q := 78) C 44 rfl rfl ml_RX3_263 cd_X3_with sv_X3_with (by decide) (by decide) (Nat.le_of_ble_eq_true rfl) (s_X3_with ?_)
                      show aj_X G 78 _ _ _ _ _ _ _ _ _
                      refine y_lstore1 (q := 79) C 45 rfl rfl (Nat.le_of_ble_eq_true rfl) rfl ?_
                      refine y_lload1 (q := 80) C 46 rfl rfl ?_
                      refine y_aload0 (q := 81) C 47 rfl rfl ?_
                      refine y_iload3 (q := 82) C 48 rfl rfl ?_
                      refine y_iload4 (q := 84) C 49 rfl rfl ?_
                      refine y_cV2 (q := 87) C 50 rfl rfl ml_RX3_270 cd_X3_side cv_X3_side ⟨by decide, rfl⟩ (by first | assumption | rfl | decide | exact bL hB _ (by decide) | exact vc3 hB (by omega) | exact vcL hB (by omega)) (by decide) (by decide) (Nat.le_of_ble_eq_true rfl) (s_X3_side0 (by omega) hkl hB ?_)
                      show aj_X G 87 _ _ _ _ _ _ _ _ _
                      refine x_i2l (q := 88) C 51 rfl rfl ?_
                      refine y_cS2 (q := 91) C 52 rfl rfl ml_RX3_263 cd_X3_with sv_X3_with (by decide) (by decide) (Nat.le_of_ble_eq_true rfl) (s_X3_with ?_)
                      show aj_X G 91 _ _ _ _ _ _ _ _ _
                      refine y_lstore1 (q := 92) C 53 rfl rfl (Nat.le_of_ble_eq_true rfl) rfl ?_
                      refine y_iinc4 (q := 95) C 54 rfl rfl (nI_1 k) (Nat.le_of_ble_eq_true rfl) rfl ?_
                      refine x_goto (t := 38) C 55 rfl (by decide) ?_
                      exact ihk (k + 1) _ (by omega) (by omega)
              exact lp38 8 (j + 1) _ (by omega) (by omega)
        exact lp27 8 0 _ _ (by omega)
      · skip
        exact absurd (nI_le (by omega) (by omega)) c1
    | succ m ih =>
      intro j r I1 hj hE1
      refine y_iload3 (q := 7) C 4 rfl rfl ?_
      refine x_bipush (q := 9) C 5 (n := (8)) (v := nI 8) rfl rfl rfl ?_
      refine x_icmp_ge (q := 12) (t := 25) C 6 rfl (by decide) rfl (fun c10 => ?_) (fun c10 => ?_)
      · skip
        exact absurd c10 (nI_ge (by omega) (by omega))
      · skip
        refine y_aload0 (q := 13) C 7 rfl rfl ?_
        refine y_lload1 (q := 14) C 8 rfl rfl ?_
        refine y_iload3 (q := 15) C 9 rfl rfl ?_
        refine y_cV2 (q := 18) C 10 rfl rfl ml_RX3_256 cd_X3_withCell cv_X3_withCell ⟨by decide, rfl⟩ (by first | assumption | rfl | decide | exact bL hB _ (by decide) | exact vc3 hB (by omega) | exact vcL hB (by omega)) (by decide) (by decide) (Nat.le_of_ble_eq_true rfl) (s_X3_withCell (by omega) hB ?_)
        intro r1 I2 hE2
        show aj_X G 18 _ _ _ _ _ _ _ _ _
        refine y_lstore1 (q := 19) C 11 rfl rfl (Nat.le_of_ble_eq_true rfl) rfl ?_
        refine y_iinc3 (q := 22) C 12 rfl rfl (nI_1 j) (Nat.le_of_ble_eq_true rfl) rfl ?_
        refine x_goto (t := 6) C 13 rfl (by decide) ?_
        exact ih (j + 1) _ _ (by omega) (eqO.tr hE1 (hE2.mono (by decide)))
  exact lp6 8 0 _ I (by omega) eqO.rf
