set_option maxRecDepth 100000 in
set_option maxHeartbeats 800000 in
theorem s_X1_numberAt {l : Launch} {I : Nat → Nat → Int32} {J : Nat → Nat → Int64} {V : Nat → Nat → Option Nat} {N : Nat → Nat} {L : List Nat} {K : aj_K} {x y : Int32} {n : Nat} (hn : n ≤ 12) (hc : I 18 2 = nI n) (hB : bV V N L) (hK : ∀ r : Int32, pNA I n x y r → K (.inl (some (.int r))) I J V N L) : aj_M l yX1_numberAt (aj_wc yX1_numberAt cX1_numberAt 4 (some .int)) (aj_rm 0 0 0) [] [.ref 18, .int x, .int y] I J V N L K := by
  refine aj_intro (tbl := t_X1_numberAt) (lv0 := [some (.ref 18), some (.int x), some (.int y), none]) (by decide) T_X1_numberAt aj_f0 (Nat.le_of_ble_eq_true rfl) rfl ?_
  intro G hl C Z NX hnm hGL hGF
  have C : aj_C G cX1_numberAt t_X1_numberAt RX1 (aj_rm 0 0 0) 4 := C
  refine x_iconst (q := 1) C 0 (n := (0)) (v := nI 0) rfl rfl rfl ?_
  refine y_istore3 (q := 2) C 1 rfl rfl (Nat.le_of_ble_eq_true rfl) rfl ?_
  have lp2 : ∀ (m j : Nat), j + m = n → (∀ i, i < j → ¬ (I 24 i = x ∧ I 40 i = y)) → aj_X G 2 [some (.ref 18), some (.int x), some (.int y), some (.int (nI j))] [] I J V N L 0 0 := by
    intro m
    induction m with
    | zero =>
      intro j hj hp
      refine y_iload3 (q := 3) C 2 rfl rfl ?_
      refine y_aload0 (q := 4) C 3 rfl rfl ?_
      refine x_getI (q := 7) C 4 rfl rfl fl_RX1_32 (fun _ _ => rfl) (by first | assumption | rfl | decide | exact bL hB _ (by decide)) (by first | assumption | rfl | decide | exact bL hB _ (by decide)) ?_
      rw [hc]
      refine x_icmp_ge (q := 10) (t := 38) C 5 rfl (by decide) rfl (fun c1 => ?_) (fun c1 => ?_)
      · skip
        refine x_iconst (q := 39) C 22 (n := (-1)) (v := (-1)) rfl rfl rfl ?_
        exact x_ireturn C Z 23 rfl rfl rfl (hK _ (Or.inr ⟨rfl, fun i hi => hp i (by omega)⟩))
      · skip
        exact absurd (nI_le (by omega) (by omega)) c1
    | succ m ih =>
      intro j hj hp
      refine y_iload3 (q := 3) C 2 rfl rfl ?_
      refine y_aload0 (q := 4) C 3 rfl rfl ?_
      refine x_getI (q := 7) C 4 rfl rfl fl_RX1_32 (fun _ _ => rfl) (by first | assumption | rfl | decide | exact bL hB _ (by decide)) (by first | assumption | rfl | decide | exact bL hB _ (by decide)) ?_
      rw [hc]
      refine x_icmp_ge (q := 10) (t := 38) C 5 rfl (by decide) rfl (fun c2 => ?_) (fun c2 => ?_)
      · skip
        exact absurd c2 (nI_ge (by omega) (by omega))
      · skip
        refine y_aload0 (q := 11) C 6 rfl rfl ?_
        refine x_getR (q := 14) C 7 rfl rfl fl_RX1_9 (bv_2_0 hB) (fun _ _ => rfl) (by first | assumption | rfl | decide | exact bL hB _ (by decide)) (by first | assumption | rfl | decide | exact bL hB _ (by decide)) ?_
        refine y_iload3 (q := 15) C 8 rfl rfl ?_
        refine x_iald (q := 16) C 9 rfl rfl (by first | assumption | rfl | decide | exact bL hB _ (by decide)) (by first | assumption | rfl | decide | exact bL hB _ (by decide)) (by (first | rw [bn24 hB] | rw [bn40 hB] | rw [bn56 hB] | rw [bn72 hB] | rw [bn27 hB] | rw [bn43 hB] | rw [bn25 hB] | rw [bn41 hB] | rw [bn88 hB] | rw [bn104 hB] | rw [bn120 hB] | rw [bn136 hB] | rw [bn152 hB] | rw [bn168 hB]); first | assumption | exact vp_in_nI (by omega) (by decide)) ?_
        rw [nI_clamp (by omega)]
        refine y_iload1 (q := 17) C 10 rfl rfl ?_
        refine x_icmp_ne (q := 20) (t := 32) C 11 rfl (by decide) rfl (fun c3 => ?_) (fun c3 => ?_)
        · skip
          refine y_iinc3 (q := 35) C 20 rfl rfl (nI_1 j) (Nat.le_of_ble_eq_true rfl) rfl ?_
          refine x_goto (t := 2) C 21 rfl (by decide) ?_
          exact ih (j + 1) (by omega) (lt_snoc hp (fun z => by first | exact absurd z.1 (by assumption) | exact absurd z.2 (by assumption)))
        · skip
          refine y_aload0 (q := 21) C 12 rfl rfl ?_
          refine x_getR (q := 24) C 13 rfl rfl fl_RX1_13 (bv_2_1 hB) (fun _ _ => rfl) (by first | assumption | rfl | decide | exact bL hB _ (by decide)) (by first | assumption | rfl | decide | exact bL hB _ (by decide)) ?_
          refine y_iload3 (q := 25) C 14 rfl rfl ?_
          refine x_iald (q := 26) C 15 rfl rfl (by first | assumption | rfl | decide | exact bL hB _ (by decide)) (by first | assumption | rfl | decide | exact bL hB _ (by decide)) (by (first | rw [bn24 hB] | rw [bn40 hB] | rw [bn56 hB] | rw [bn72 hB] | rw [bn27 hB] | rw [bn43 hB] | rw [bn25 hB] | rw [bn41 hB] | rw [bn88 hB] | rw [bn104 hB] | rw [bn120 hB] | rw [bn136 hB] | rw [bn152 hB] | rw [bn168 hB]); first | assumption | exact vp_in_nI (by omega) (by decide)) ?_
          rw [nI_clamp (by omega)]
          refine y_iload2 (q := 27) C 16 rfl rfl ?_
          refine x_icmp_ne (q := 30) (t := 32) C 17 rfl (by decide) rfl (fun c4 => ?_) (fun c4 => ?_)
          · skip
            refine y_iinc3 (q := 35) C 20 rfl rfl (nI_1 j) (Nat.le_of_ble_eq_true rfl) rfl ?_
            refine x_goto (t := 2) C 21 rfl (by decide) ?_
            exact ih (j + 1) (by omega) (lt_snoc hp (fun z => by first | exact absurd z.1 (by assumption) | exact absurd z.2 (by assumption)))
          · skip
            refine y_iload3 (q := 31) C 18 rfl rfl ?_
            exact x_ireturn C Z 19 rfl rfl rfl (hK _ (Or.inl ⟨j, by omega, rfl, by assumption, by assumption, hp⟩))
  exact lp2 n 0 (by omega) (fun i hi => absurd hi (Nat.not_lt_zero i))
set_option maxRecDepth 100000 in
set_option maxHeartbeats 800000 in
theorem s_X1_lowest {l : Launch} {I : Nat → Nat → Int32} {J : Nat → Nat → Int64} {V : Nat → Nat → Option Nat} {N : Nat → Nat} {L : List Nat} {K : aj_K} {n : Nat} (hn : n ≤ 12) (hc : I 18 2 = nI n) (hB : bV V N L) (hK : ∀ m : Nat, (0 < n → m < n) → m ≤ 12 → K (.inl (some (.int (nI m)))) I J V N L) : aj_M l yX1_lowest (aj_wc yX1_lowest cX1_lowest 3 (some .int)) (aj_rm 0 0 0) [] [.ref 18] I J V N L K := by
  refine aj_intro (tbl := t_X1_lowest) (lv0 := [some (.ref 18), none, none]) (by decide) T_X1_lowest aj_f0 (Nat.le_of_ble_eq_true rfl) rfl ?_
  intro G hl C Z NX hnm hGL hGF
  have C : aj_C G cX1_lowest t_X1_lowest RX1 (aj_rm 0 0 0) 3 := C
  refine x_iconst (q := 1) C 0 (n := (0)) (v := nI 0) rfl rfl rfl ?_
  refine y_istore1 (q := 2) C 1 rfl rfl (Nat.le_of_ble_eq_true rfl) rfl ?_
  refine x_iconst (q := 3) C 2 (n := (1)) (v := nI 1) rfl rfl rfl ?_
  refine y_istore2 (q := 4) C 3 rfl rfl (Nat.le_of_ble_eq_true rfl) rfl ?_
  have lp4 : ∀ (m j lo : Nat), 1 ≤ j → j ≤ 13 → n ≤ j + m → (0 < n → lo < n) → lo ≤ 12 → aj_X G 4 [some (.ref 18), some (.int (nI lo)), some (.int (nI j))] [] I J V N L 0 0 := by
    intro m
    induction m with
    | zero =>
      intro j lo h1 h13 hj hl hl2
      have hjn : ¬ nI n ≤ nI j → j < n := fun z => by
        rcases Nat.lt_or_ge j n with w | w
        · exact w
        · exact absurd (nI_le w (by omega)) z
      refine y_iload2 (q := 5) C 4 rfl rfl ?_
      refine y_aload0 (q := 6) C 5 rfl rfl ?_
      refine x_getI (q := 9) C 6 rfl rfl fl_RX1_32 (fun _ _ => rfl) (by first | assumption | rfl | decide | exact bL hB _ (by decide)) (by first | assumption | rfl | decide | exact bL hB _ (by decide)) ?_
      rw [hc]
      refine x_icmp_ge (q := 12) (t := 65) C 7 rfl (by decide) rfl (fun c1 => ?_) (fun c1 => ?_)
      · skip
        refine y_iload1 (q := 66) C 39 rfl rfl ?_
        exact x_ireturn C Z 40 rfl rfl rfl (hK lo hl hl2)
      · skip
        exact absurd (nI_le (by omega) (by omega)) c1
    | succ m ih =>
      intro j lo h1 h13 hj hl hl2
      have hjn : ¬ nI n ≤ nI j → j < n := fun z => by
        rcases Nat.lt_or_ge j n with w | w
        · exact w
        · exact absurd (nI_le w (by omega)) z
      refine y_iload2 (q := 5) C 4 rfl rfl ?_
      refine y_aload0 (q := 6) C 5 rfl rfl ?_
      refine x_getI (q := 9) C 6 rfl rfl fl_RX1_32 (fun _ _ => rfl) (by first | assumption | rfl | decide | exact bL hB _ (by decide)) (by first | assumption | rfl | decide | exact bL hB _ (by decide)) ?_
      rw [hc]
      refine x_icmp_ge (q := 12) (t := 65) C 7 rfl (by decide) rfl (fun c2 => ?_) (fun c2 => ?_)
      · skip
        refine y_iload1 (q := 66) C 39 rfl rfl ?_
        exact x_ireturn C Z 40 rfl rfl rfl (hK lo hl hl2)
      · skip
        have hjl : j < n := hjn (by assumption)
        refine y_aload0 (q := 13) C 8 rfl rfl ?_
        refine x_getR (q := 16) C 9 rfl rfl fl_RX1_13 (bv_2_1 hB) (fun _ _ => rfl) (by first | assumption | rfl | decide | exact bL hB _ (by decide)) (by first | assumption | rfl | decide | exact bL hB _ (by decide)) ?_
        refine y_iload2 (q := 17) C 10 rfl rfl ?_
        refine x_iald (q := 18) C 11 rfl rfl (by first | assumption | rfl | decide | exact bL hB _ (by decide)) (by first | assumption | rfl | decide | exact bL hB _ (by decide)) (by (first | rw [bn24 hB] | rw [bn40 hB] | rw [bn56 hB] | rw [bn72 hB] | rw [bn27 hB] | rw [bn43 hB] | rw [bn25 hB] | rw [bn41 hB] | rw [bn88 hB] | rw [bn104 hB] | rw [bn120 hB] | rw [bn136 hB] | rw [bn152 hB] | rw [bn168 hB]); first | assumption | exact vp_in_nI (by omega) (by decide)) ?_
        rw [nI_clamp (by omega)]
        refine y_aload0 (q := 19) C 12 rfl rfl ?_
        refine x_getR (q := 22) C 13 rfl rfl fl_RX1_13 (bv_2_1 hB) (fun _ _ => rfl) (by first | assumption | rfl | decide | exact bL hB _ (by decide)) (by first | assumption | rfl | decide | exact bL hB _ (by decide)) ?_
        refine y_iload1 (q := 23) C 14 rfl rfl ?_
        refine x_iald (q := 24) C 15 rfl rfl (by first | assumption | rfl | decide | exact bL hB _ (by decide)) (by first | assumption | rfl | decide | exact bL hB _ (by decide)) (by (first | rw [bn24 hB] | rw [bn40 hB] | rw [bn56 hB] | rw [bn72 hB] | rw [bn27 hB] | rw [bn43 hB] | rw [bn25 hB] | rw [bn41 hB] | rw [bn88 hB] | rw [bn104 hB] | rw [bn120 hB] | rw [bn136 hB] | rw [bn152 hB] | rw [bn168 hB]); first | assumption | exact vp_in_nI (by omega) (by decide)) ?_
        rw [nI_clamp (by omega)]
        refine x_icmp_lt (q := 27) (t := 57) C 16 rfl (by decide) rfl (fun c3 => ?_) (fun c3 => ?_)
        · skip
          refine y_iload2 (q := 58) C 35 rfl rfl ?_
          refine y_istore1 (q := 59) C 36 rfl rfl (Nat.le_of_ble_eq_true rfl) rfl ?_
          refine y_iinc2 (q := 62) C 37 rfl rfl (nI_1 j) (Nat.le_of_ble_eq_true rfl) rfl ?_
          refine x_goto (t := 4) C 38 rfl (by decide) ?_
          exact ih (j + 1) _ (by omega) (by omega) (by omega) (by omega) (by omega)
        · skip
          refine y_aload0 (q := 28) C 17 rfl rfl ?_
          refine x_getR (q := 31) C 18 rfl rfl fl_RX1_13 (bv_2_1 hB) (fun _ _ => rfl) (by first | assumption | rfl | decide | exact bL hB _ (by decide)) (by first | assumption | rfl | decide | exact bL hB _ (by decide)) ?_
          refine y_iload2 (q := 32) C 19 rfl rfl ?_
          refine x_iald (q := 33) C 20 rfl rfl (by first | assumption | rfl | decide | exact bL hB _ (by decide)) (by first | assumption | rfl | decide | exact bL hB _ (by decide)) (by (first | rw [bn24 hB] | rw [bn40 hB] | rw [bn56 hB] | rw [bn72 hB] | rw [bn27 hB] | rw [bn43 hB] | rw [bn25 hB] | rw [bn41 hB] | rw [bn88 hB] | rw [bn104 hB] | rw [bn120 hB] | rw [bn136 hB] | rw [bn152 hB] | rw [bn168 hB]); first | assumption | exact vp_in_nI (by omega) (by decide)) ?_
          rw [nI_clamp (by omega)]
          refine y_aload0 (q := 34) C 21 rfl rfl ?_
          refine x_getR (q := 37) C 22 rfl rfl fl_RX1_13 (bv_2_1 hB) (fun _ _ => rfl) (by first | assumption | rfl | decide | exact bL hB _ (by decide)) (by first | assumption | rfl | decide | exact bL hB _ (by decide)) ?_
          refine y_iload1 (q := 38) C 23 rfl rfl ?_
          refine x_iald (q := 39) C 24 rfl rfl (by first | assumption | rfl | decide | exact bL hB _ (by decide)) (by first | assumption | rfl | decide | exact bL hB _ (by decide)) (by (first | rw [bn24 hB] | rw [bn40 hB] | rw [bn56 hB] | rw [bn72 hB] | rw [bn27 hB] | rw [bn43 hB] | rw [bn25 hB] | rw [bn41 hB] | rw [bn88 hB] | rw [bn104 hB] | rw [bn120 hB] | rw [bn136 hB] | rw [bn152 hB] | rw [bn168 hB]); first | assumption | exact vp_in_nI (by omega) (by decide)) ?_
          rw [nI_clamp (by omega)]
          refine x_icmp_ne (q := 42) (t := 59) C 25 rfl (by decide) rfl (fun c4 => ?_) (fun c4 => ?_)
          · skip
            refine y_iinc2 (q := 62) C 37 rfl rfl (nI_1 j) (Nat.le_of_ble_eq_true rfl) rfl ?_
            refine x_goto (t := 4) C 38 rfl (by decide) ?_
            exact ih (j + 1) _ (by omega) (by omega) (by omega) (by omega) (by omega)
          · skip
            refine y_aload0 (q := 43) C 26 rfl rfl ?_
            refine x_getR (q := 46) C 27 rfl rfl fl_RX1_9 (bv_2_0 hB) (fun _ _ => rfl) (by first | assumption | rfl | decide | exact bL hB _ (by decide)) (by first | assumption | rfl | decide | exact bL hB _ (by decide)) ?_
            refine y_iload2 (q := 47) C 28 rfl rfl ?_
            refine x_iald (q := 48) C 29 rfl rfl (by first | assumption | rfl | decide | exact bL hB _ (by decide)) (by first | assumption | rfl | decide | exact bL hB _ (by decide)) (by (first | rw [bn24 hB] | rw [bn40 hB] | rw [bn56 hB] | rw [bn72 hB] | rw [bn27 hB] | rw [bn43 hB] | rw [bn25 hB] | rw [bn41 hB] | rw [bn88 hB] | rw [bn104 hB] | rw [bn120 hB] | rw [bn136 hB] | rw [bn152 hB] | rw [bn168 hB]); first | assumption | exact vp_in_nI (by omega) (by decide)) ?_
            rw [nI_clamp (by omega)]
            refine y_aload0 (q := 49) C 30 rfl rfl ?_
            refine x_getR (q := 52) C 31 rfl rfl fl_RX1_9 (bv_2_0 hB) (fun _ _ => rfl) (by first | assumption | rfl | decide | exact bL hB _ (by decide)) (by first | assumption | rfl | decide | exact bL hB _ (by decide)) ?_
            refine y_iload1 (q := 53) C 32 rfl rfl ?_
            refine x_iald (q := 54) C 33 rfl rfl (by first | assumption | rfl | decide | exact bL hB _ (by decide)) (by first | assumption | rfl | decide | exact bL hB _ (by decide)) (by (first | rw [bn24 hB] | rw [bn40 hB] | rw [bn56 hB] | rw [bn72 hB] | rw [bn27 hB] | rw [bn43 hB] | rw [bn25 hB] | rw [bn41 hB] | rw [bn88 hB] | rw [bn104 hB] | rw [bn120 hB] | rw [bn136 hB] | rw [bn152 hB] | rw [bn168 hB]); first | assumption | exact vp_in_nI (by omega) (by decide)) ?_
            rw [nI_clamp (by omega)]
            refine x_icmp_ge (q := 57) (t := 59) C 34 rfl (by decide) rfl (fun c5 => ?_) (fun c5 => ?_)
            · skip
              refine y_iinc2 (q := 62) C 37 rfl rfl (nI_1 j) (Nat.le_of_ble_eq_true rfl) rfl ?_
              refine x_goto (t := 4) C 38 rfl (by decide) ?_
              exact ih (j + 1) _ (by omega) (by omega) (by omega) (by omega) (by omega)
            · skip
              refine y_iload2 (q := 58) C 35 rfl rfl ?_
              refine y_istore1 (q := 59) C 36 rfl rfl (Nat.le_of_ble_eq_true rfl) rfl ?_
              refine y_iinc2 (q := 62) C 37 rfl rfl (nI_1 j) (Nat.le_of_ble_eq_true rfl) rfl ?_
              refine x_goto (t := 4) C 38 rfl (by decide) ?_
              exact ih (j + 1) _ (by omega) (by omega) (by omega) (by omega) (by omega)
  exact lp4 n 1 0 (by omega) (by omega) (by omega) (by omega) (by omega)
set_option maxRecDepth 100000 in
set_option maxHeartbeats 800000 in
theorem s_X1_isOutside {l : Launch} {I : Nat → Nat → Int32} {J : Nat → Nat → Int64} {V : Nat → Nat → Option Nat} {N : Nat → Nat} {L : List Nat} {K : aj_K} {i j k : Nat} (hi : i < 13) (hj : j < 13) (hk : k < 13) (hB : bV V N L) (hK : ∀ b : Bool, K (.inl (some (.int (bI b)))) I J V N L) : aj_M l yX1_isOutside (aj_wc yX1_isOutside cX1_isOutside 5 (some .boolean)) (aj_rm 1 0 0) [] [.ref 18, .int (nI i), .int (nI j), .int (nI k)] I J V N L K := by
  refine aj_intro (tbl := t_X1_isOutside) (lv0 := [some (.ref 18), some (.int (nI i)), some (.int (nI j)), some (.int (nI k)), none]) (by decide) T_X1_isOutside aj_f0 (Nat.le_of_ble_eq_true rfl) rfl ?_
  intro G hl C Z NX hnm hGL hGF
  have C : aj_C G cX1_isOutside t_X1_isOutside RX1 (aj_rm 1 0 0) 5 := C
  refine y_aload0 (q := 1) C 0 rfl rfl ?_
  refine y_iload1 (q := 2) C 1 rfl rfl ?_
  refine y_iload2 (q := 3) C 2 rfl rfl ?_
  refine y_iload3 (q := 4) C 3 rfl rfl ?_
  refine y_cV3 (q := 7) C 4 rfl rfl ml_RX1_82 cd_X1_cross cv_X1_cross ⟨by decide, rfl⟩ (by first | assumption | rfl | decide | exact bL hB _ (by decide)) (by decide) (by decide) (Nat.le_of_ble_eq_true rfl) (s_X1_cross hi hj hk hB ?_)
  show aj_X G 7 _ _ _ _ _ _ _ _ _
  refine y_istore4 (q := 9) C 5 rfl rfl (Nat.le_of_ble_eq_true rfl) rfl ?_
  refine y_iload4 (q := 11) C 6 rfl rfl ?_
  refine x_if_lt (q := 14) (t := 34) C 7 rfl (by decide) rfl (fun c1 => ?_) (fun c1 => ?_)
  · skip
    refine x_iconst (q := 35) C 19 (n := (1)) (v := (1)) rfl rfl rfl ?_
    refine x_goto (t := 39) C 20 rfl (by decide) ?_
    exact x_ireturn C Z 22 rfl rfl rfl (hK true)
  · skip
    refine y_iload4 (q := 16) C 8 rfl rfl ?_
    refine x_if_ne (q := 19) (t := 38) C 9 rfl (by decide) rfl (fun c2 => ?_) (fun c2 => ?_)
    · skip
      refine x_iconst (q := 39) C 21 (n := (0)) (v := (0)) rfl rfl rfl ?_
      exact x_ireturn C Z 22 rfl rfl rfl (hK false)
    · skip
      refine y_aload0 (q := 20) C 10 rfl rfl ?_
      refine y_iload1 (q := 21) C 11 rfl rfl ?_
      refine y_iload3 (q := 22) C 12 rfl rfl ?_
      refine y_cV2 (q := 25) C 13 rfl rfl ml_RX1_52 cd_X1_distance cv_X1_distance ⟨by decide, rfl⟩ (by first | assumption | rfl | decide | exact bL hB _ (by decide)) (by decide) (by decide) (Nat.le_of_ble_eq_true rfl) (s_X1_distance hi hk hB ?_)
      show aj_X G 25 _ _ _ _ _ _ _ _ _
      refine y_aload0 (q := 26) C 14 rfl rfl ?_
      refine y_iload1 (q := 27) C 15 rfl rfl ?_
      refine y_iload2 (q := 28) C 16 rfl rfl ?_
      refine y_cV2 (q := 31) C 17 rfl rfl ml_RX1_52 cd_X1_distance cv_X1_distance ⟨by decide, rfl⟩ (by first | assumption | rfl | decide | exact bL hB _ (by decide)) (by decide) (by decide) (Nat.le_of_ble_eq_true rfl) (s_X1_distance hi hj hB ?_)
      show aj_X G 31 _ _ _ _ _ _ _ _ _
      refine x_icmp_le (q := 34) (t := 38) C 18 rfl (by decide) rfl (fun c3 => ?_) (fun c3 => ?_)
      · skip
        refine x_iconst (q := 39) C 21 (n := (0)) (v := (0)) rfl rfl rfl ?_
        exact x_ireturn C Z 22 rfl rfl rfl (hK false)
      · skip
        refine x_iconst (q := 35) C 19 (n := (1)) (v := (1)) rfl rfl rfl ?_
        refine x_goto (t := 39) C 20 rfl (by decide) ?_
        exact x_ireturn C Z 22 rfl rfl rfl (hK true)
set_option maxRecDepth 100000 in
set_option maxHeartbeats 800000 in
theorem s_X1_cornerAfter {l : Launch} {I : Nat → Nat → Int32} {J : Nat → Nat → Int64} {V : Nat → Nat → Option Nat} {N : Nat → Nat} {L : List Nat} {K : aj_K} {n c : Nat} (hcn : c < n) (hn : n ≤ 12) (hc : I 18 2 = nI n) (hB : bV V N L) (hK : ∀ m : Nat, m < n → K (.inl (some (.int (nI m)))) I J V N L) : aj_M l yX1_cornerAfter (aj_wc yX1_cornerAfter cX1_cornerAfter 4 (some .int)) (aj_rm 2 0 0) [] [.ref 18, .int (nI c)] I J V N L K := by
  refine aj_intro (tbl := t_X1_cornerAfter) (lv0 := [some (.ref 18), some (.int (nI c)), none, none]) (by decide) T_X1_cornerAfter aj_f0 (Nat.le_of_ble_eq_true rfl) rfl ?_
  intro G hl C Z NX hnm hGL hGF
  have C : aj_C G cX1_cornerAfter t_X1_cornerAfter RX1 (aj_rm 2 0 0) 4 := C
  refine y_iload1 (q := 1) C 0 rfl rfl ?_
  refine y_istore2 (q := 2) C 1 rfl rfl (Nat.le_of_ble_eq_true rfl) rfl ?_
  refine x_iconst (q := 3) C 2 (n := (0)) (v := nI 0) rfl rfl rfl ?_
  refine y_istore3 (q := 4) C 3 rfl rfl (Nat.le_of_ble_eq_true rfl) rfl ?_
  have lp4 : ∀ (m j nx : Nat), j + m = n → nx < n → aj_X G 4 [some (.ref 18), some (.int (nI c)), some (.int (nI nx)), some (.int (nI j))] [] I J V N L 0 0 := by
    intro m
    induction m with
    | zero =>
      intro j nx hj hx
      refine y_iload3 (q := 5) C 4 rfl rfl ?_
      refine y_aload0 (q := 6) C 5 rfl rfl ?_
      refine x_getI (q := 9) C 6 rfl rfl fl_RX1_32 (fun _ _ => rfl) (by first | assumption | rfl | decide | exact bL hB _ (by decide)) (by first | assumption | rfl | decide | exact bL hB _ (by decide)) ?_
      rw [hc]
      refine x_icmp_ge (q := 12) (t := 40) C 7 rfl (by decide) rfl (fun c1 => ?_) (fun c1 => ?_)
      · skip
        refine y_iload2 (q := 41) C 24 rfl rfl ?_
        exact x_ireturn C Z 25 rfl rfl rfl (hK nx hx)
      · skip
        exact absurd (nI_le (by omega) (by omega)) c1
    | succ m ih =>
      intro j nx hj hx
      refine y_iload3 (q := 5) C 4 rfl rfl ?_
      refine y_aload0 (q := 6) C 5 rfl rfl ?_
      refine x_getI (q := 9) C 6 rfl rfl fl_RX1_32 (fun _ _ => rfl) (by first | assumption | rfl | decide | exact bL hB _ (by decide)) (by first | assumption | rfl | decide | exact bL hB _ (by decide)) ?_
      rw [hc]
      refine x_icmp_ge (q := 12) (t := 40) C 7 rfl (by decide) rfl (fun c2 => ?_) (fun c2 => ?_)
      · skip
        exact absurd c2 (nI_ge (by omega) (by omega))
      · skip
        refine y_iload3 (q := 13) C 8 rfl rfl ?_
        refine y_iload1 (q := 14) C 9 rfl rfl ?_
        refine x_icmp_eq (q := 17) (t := 34) C 10 rfl (by decide) rfl (fun c3 => ?_) (fun c3 => ?_)
        · skip
          refine y_iinc3 (q := 37) C 22 rfl rfl (nI_1 j) (Nat.le_of_ble_eq_true rfl) rfl ?_
          refine x_goto (t := 4) C 23 rfl (by decide) ?_
          exact ih (j + 1) _ (by omega) (by omega)
        · skip
          refine y_iload2 (q := 18) C 11 rfl rfl ?_
          refine y_iload1 (q := 19) C 12 rfl rfl ?_
          refine x_icmp_eq (q := 22) (t := 32) C 13 rfl (by decide) rfl (fun c4 => ?_) (fun c4 => ?_)
          · skip
            refine y_iload3 (q := 33) C 20 rfl rfl ?_
            refine y_istore2 (q := 34) C 21 rfl rfl (Nat.le_of_ble_eq_true rfl) rfl ?_
            refine y_iinc3 (q := 37) C 22 rfl rfl (nI_1 j) (Nat.le_of_ble_eq_true rfl) rfl ?_
            refine x_goto (t := 4) C 23 rfl (by decide) ?_
            exact ih (j + 1) _ (by omega) (by omega)
          · skip
            refine y_aload0 (q := 23) C 14 rfl rfl ?_
            refine y_iload1 (q := 24) C 15 rfl rfl ?_
            refine y_iload2 (q := 25) C 16 rfl rfl ?_
            refine y_iload3 (q := 26) C 17 rfl rfl ?_
            refine y_cV3 (q := 29) C 18 rfl rfl ml_RX1_78 cd_X1_isOutside cv_X1_isOutside ⟨by decide, rfl⟩ (by first | assumption | rfl | decide | exact bL hB _ (by decide)) (by decide) (by decide) (Nat.le_of_ble_eq_true rfl) (s_X1_isOutside (by omega) (by omega) (by omega) hB ?_)
            intro b@n
            show aj_X G 29 _ _ _ _ _ _ _ _ _
            refine x_if_eqB (q := 32) (t := 34) C 19 rfl (by decide) rfl (fun c5 => ?_) (fun c5 => ?_)
            · skip
              refine y_iinc3 (q := 37) C 22 rfl rfl (nI_1 j) (Nat.le_of_ble_eq_true rfl) rfl ?_
              refine x_goto (t := 4) C 23 rfl (by decide) ?_
              exact ih (j + 1) _ (by omega) (by omega)
            · skip
              refine y_iload3 (q := 33) C 20 rfl rfl ?_
              refine y_istore2 (q := 34) C 21 rfl rfl (Nat.le_of_ble_eq_true rfl) rfl ?_
              refine y_iinc3 (q := 37) C 22 rfl rfl (nI_1 j) (Nat.le_of_ble_eq_true rfl) rfl ?_
              refine x_goto (t := 4) C 23 rfl (by decide) ?_
              exact ih (j + 1) _ (by omega) (by omega)
  exact lp4 n 0 c (by omega) hcn
set_option maxRecDepth 100000 in
set_option maxHeartbeats 800000 in
theorem s_X1_layHull {l : Launch} {I : Nat → Nat → Int32} {J : Nat → Nat → Int64} {V : Nat → Nat → Option Nat} {N : Nat → Nat} {L : List Nat} {K : aj_K} {n : Nat} (hn : n ≤ 12) (hc : I 18 2 = nI n) (hB : bV V N L) (hK : ∀ (I1 : Nat → Nat → Int32) (hcn : Nat), eqO [18, 72] I I1 → (∀ k, k ≠ 6 → I1 18 k = I 18 k) → hcn ≤ n → I1 18 6 = nI hcn → (∀ j, j < hcn → ∃ m, m < n ∧ I1 72 j = nI m) → K (.inl none) I1 J V N L) : aj_M l yX1_layHull (aj_wc yX1_layHull cX1_layHull 4 none) (aj_rm 3 0 0) [] [.ref 18] I J V N L K := by
  refine aj_intro (tbl := t_X1_layHull) (lv0 := [some (.ref 18), none, none, none]) (by decide) T_X1_layHull aj_f0 (Nat.le_of_ble_eq_true rfl) rfl ?_
  intro G hl C Z NX hnm hGL hGF
  have C : aj_C G cX1_layHull t_X1_layHull RX1 (aj_rm 3 0 0) 4 := C
  refine y_aload0 (q := 1) C 0 rfl rfl ?_
  refine x_iconst (q := 2) C 1 (n := (0)) (v := nI 0) rfl rfl rfl ?_
  refine x_putI (q := 5) C 2 rfl rfl fl_RX1_67 rfl rfl (by first | assumption | rfl | decide | exact bL hB _ (by decide)) (by first | assumption | rfl | decide | exact bL hB _ (by decide)) ?_
  refine y_aload0 (q := 6) C 3 rfl rfl ?_
  refine y_cV0 (q := 9) C 4 rfl rfl ml_RX1_70 cd_X1_lowest cv_X1_lowest ⟨by decide, rfl⟩ (by first | assumption | rfl | decide | exact bL hB _ (by decide)) (by decide) (by decide) (Nat.le_of_ble_eq_true rfl) (s_X1_lowest hn (by rw [aj_u_k _ _ _ (by decide)]; exact hc) hB ?_)
  intro lo hlo hlo2
  show aj_X G 9 _ _ _ _ _ _ _ _ _
  refine y_istore1 (q := 10) C 5 rfl rfl (Nat.le_of_ble_eq_true rfl) rfl ?_
  refine y_iload1 (q := 11) C 6 rfl rfl ?_
  refine y_istore2 (q := 12) C 7 rfl rfl (Nat.le_of_ble_eq_true rfl) rfl ?_
  refine x_iconst (q := 13) C 8 (n := (0)) (v := nI 0) rfl rfl rfl ?_
  refine y_istore3 (q := 14) C 9 rfl rfl (Nat.le_of_ble_eq_true rfl) rfl ?_
  have lp14 : ∀ (m j cr : Nat) (I1 : Nat → Nat → Int32), j + m = n → (0 < n → cr < n) → cr ≤ 12 → eqO [18, 72] I I1 → (∀ k, k ≠ 6 → I1 18 k = I 18 k) → I1 18 6 = nI j → (∀ i, i < j → ∃ m, m < n ∧ I1 72 i = nI m) → aj_X G 14 [some (.ref 18), some (.int (nI lo)), some (.int (nI cr)), some (.int (nI j))] [] I1 J V N L 0 0 := by
    intro m
    induction m with
    | zero =>
      intro j cr I1 hj hcr hcr2 hE hk1 h6 hh
      refine y_iload3 (q := 15) C 10 rfl rfl ?_
      refine y_aload0 (q := 16) C 11 rfl rfl ?_
      refine x_getI (q := 19) C 12 rfl rfl fl_RX1_32 (fun _ _ => rfl) (by first | assumption | rfl | decide | exact bL hB _ (by decide)) (by first | assumption | rfl | decide | exact bL hB _ (by decide)) ?_
      rw [hk1 2 (by decide), hc]
      refine x_icmp_ge (q := 22) (t := 57) C 13 rfl (by decide) rfl (fun c1 => ?_) (fun c1 => ?_)
      · skip
        exact x_return C Z 35 rfl rfl (hK _ j hE hk1 (by omega) h6 hh)
      · skip
        exact absurd (nI_le (by omega) (by omega)) c1
    | succ m ih =>
      intro j cr I1 hj hcr hcr2 hE hk1 h6 hh
      refine y_iload3 (q := 15) C 10 rfl rfl ?_
      refine y_aload0 (q := 16) C 11 rfl rfl ?_
      refine x_getI (q := 19) C 12 rfl rfl fl_RX1_32 (fun _ _ => rfl) (by first | assumption | rfl | decide | exact bL hB _ (by decide)) (by first | assumption | rfl | decide | exact bL hB _ (by decide)) ?_
      rw [hk1 2 (by decide), hc]
      refine x_icmp_ge (q := 22) (t := 57) C 13 rfl (by decide) rfl (fun c2 => ?_) (fun c2 => ?_)
      · skip
        exact absurd c2 (nI_ge (by omega) (by omega))
      · skip
        refine y_aload0 (q := 23) C 14 rfl rfl ?_
        refine x_getR (q := 26) C 15 rfl rfl fl_RX1_19 (bv_2_5 hB) (fun _ _ => rfl) (by first | assumption | rfl | decide | exact bL hB _ (by decide)) (by first | assumption | rfl | decide | exact bL hB _ (by decide)) ?_
        refine y_iload3 (q := 27) C 16 rfl rfl ?_
        refine y_iload2 (q := 28) C 17 rfl rfl ?_
        refine x_iast (q := 29) C 18 rfl rfl (by first | assumption | rfl | decide | exact bL hB _ (by decide)) (by first | assumption | rfl | decide | exact bL hB _ (by decide)) (by (first | rw [bn24 hB] | rw [bn40 hB] | rw [bn56 hB] | rw [bn72 hB] | rw [bn27 hB] | rw [bn43 hB] | rw [bn25 hB] | rw [bn41 hB] | rw [bn88 hB] | rw [bn104 hB] | rw [bn120 hB] | rw [bn136 hB] | rw [bn152 hB] | rw [bn168 hB]); first | assumption | exact vp_in_nI (by omega) (by decide)) ?_
        rw [nI_clamp (by omega)]
        refine y_aload0 (q := 30) C 19 rfl rfl ?_
        refine x_dupr (q := 31) C 20 rfl rfl ?_
        refine x_getI (q := 34) C 21 rfl rfl fl_RX1_67 (fun _ _ => rfl) (by first | assumption | rfl | decide | exact bL hB _ (by decide)) (by first | assumption | rfl | decide | exact bL hB _ (by decide)) ?_
        rw [show aj_u I1 72 j (nI cr) 18 6 = I1 18 6 from congrFun (aj_u_o I1 _ (by decide)) 6, h6]
        refine x_iconst (q := 35) C 22 (n := (1)) (v := nI 1) rfl rfl rfl ?_
        refine x_iadd (q := 36) C 23 rfl rfl ?_
        rw [nI_add]
        refine x_putI (q := 39) C 24 rfl rfl fl_RX1_67 rfl rfl (by first | assumption | rfl | decide | exact bL hB _ (by decide)) (by first | assumption | rfl | decide | exact bL hB _ (by decide)) ?_
        refine y_aload0 (q := 40) C 25 rfl rfl ?_
        refine y_iload2 (q := 41) C 26 rfl rfl ?_
        refine y_cV1 (q := 44) C 27 rfl rfl ml_RX1_74 cd_X1_cornerAfter cv_X1_cornerAfter ⟨by decide, rfl⟩ (by first | assumption | rfl | decide | exact bL hB _ (by decide)) (by decide) (by decide) (Nat.le_of_ble_eq_true rfl) (s_X1_cornerAfter (c := cr) (by omega) hn (by rw [aj_u_k _ _ _ (by decide), aj_u_o _ _ (by decide), hk1 2 (by decide)]; exact hc) hB ?_)
        intro m@n hm@n
        show aj_X G 44 _ _ _ _ _ _ _ _ _
        refine y_istore2 (q := 45) C 28 rfl rfl (Nat.le_of_ble_eq_true rfl) rfl ?_
        refine y_iload2 (q := 46) C 29 rfl rfl ?_
        refine y_iload1 (q := 47) C 30 rfl rfl ?_
        refine x_icmp_ne (q := 50) (t := 51) C 31 rfl (by decide) rfl (fun c3 => ?_) (fun c3 => ?_)
        · skip
          refine y_iinc3 (q := 54) C 33 rfl rfl (nI_1 j) (Nat.le_of_ble_eq_true rfl) rfl ?_
          refine x_goto (t := 14) C 34 rfl (by decide) ?_
          exact ih (j + 1) _ _ (by omega) (by omega) (by omega) (eqO.tr hE (eqO.tr (eqO.u (by decide)) (eqO.u (by decide)))) (fun k hk => by rw [aj_u_k _ _ _ hk, aj_u_o _ _ (by decide)]; exact hk1 k hk) (aj_u_s _ _ _ _) (fun i hi => by
            rw [aj_u_o _ _ (by decide)]
            by_cases z : i = j
            · subst z; exact ⟨cr, by omega, aj_u_s _ _ _ _⟩
            · rw [aj_u_k _ _ _ z]; exact hh i (by omega))
        · skip
          exact x_return C Z 32 rfl rfl (hK _ (j + 1) (eqO.tr hE (eqO.tr (eqO.u (by decide)) (eqO.u (by decide)))) (fun k hk => by rw [aj_u_k _ _ _ hk, aj_u_o _ _ (by decide)]; exact hk1 k hk) (by omega) (aj_u_s _ _ _ _) (fun i hi => by rw [aj_u_o _ _ (by decide)]; exact (if z : i = j then (by subst z; exact ⟨cr, by omega, aj_u_s _ _ _ _⟩) else (by rw [aj_u_k _ _ _ z]; exact hh i (by omega)))))
  exact lp14 n 0 lo _ (by omega) hlo hlo2 (eqO.u (by decide)) (fun k hk => aj_u_k _ _ _ hk) (aj_u_s _ _ _ _) (fun i hi => absurd hi (Nat.not_lt_zero i))
set_option maxRecDepth 100000 in
set_option maxHeartbeats 800000 in
theorem s_X1_layRound {l : Launch} {I : Nat → Nat → Int32} {J : Nat → Nat → Int64} {V : Nat → Nat → Option Nat} {N : Nat → Nat} {L : List Nat} {K : aj_K} {n : Nat} (hn : n ≤ 12) (hc : I 18 2 = nI n) (hB : bV V N L) (hK : ∀ (I1 : Nat → Nat → Int32) (rc : Nat), eqO [18, 56, 179, 195] I I1 → (∀ k, k ≠ 4 → I1 18 k = I 18 k) → I1 18 4 = nI rc → rc ≤ n → (∀ j, j < rc → ∃ m, m < n ∧ I1 56 j = nI m) → rc = cnt (oP I) n → K (.inl none) I1 J V N L) : aj_M l yX1_layRound (aj_wc yX1_layRound cX1_layRound 3 none) (aj_rm 3 0 0) [] [.ref 18] I J V N L K := by
  refine aj_intro (tbl := t_X1_layRound) (lv0 := [some (.ref 18), none, none]) (by decide) T_X1_layRound aj_f0 (Nat.le_of_ble_eq_true rfl) rfl ?_
  intro G hl C Z NX hnm hGL hGF
  have C : aj_C G cX1_layRound t_X1_layRound RX1 (aj_rm 3 0 0) 3 := C
  refine y_aload0 (q := 1) C 0 rfl rfl ?_
  refine x_iconst (q := 2) C 1 (n := (0)) (v := nI 0) rfl rfl rfl ?_
  refine x_putI (q := 5) C 2 rfl rfl fl_RX1_49 rfl rfl (by first | assumption | rfl | decide | exact bL hB _ (by decide)) (by first | assumption | rfl | decide | exact bL hB _ (by decide)) ?_
  refine x_iconst (q := 6) C 3 (n := (0)) (v := nI 0) rfl rfl rfl ?_
  refine y_istore1 (q := 7) C 4 rfl rfl (Nat.le_of_ble_eq_true rfl) rfl ?_
  have lp7 : ∀ (m j rc : Nat) (I1 : Nat → Nat → Int32), j + m = n → rc ≤ j → eqO [18, 56, 179, 195] I I1 → (∀ k, k ≠ 4 → I1 18 k = I 18 k) → I1 18 4 = nI rc → (∀ i, i < rc → ∃ m, m < n ∧ I1 56 i = nI m) → rc = cnt (oP I) j → ∀ z2 : Option Value, aj_X G 7 [some (.ref 18), some (.int (nI j)), z2] [] I1 J V N L 0 0 := by
    intro m
    induction m with
    | zero =>
      intro j rc I1 hj hrj hE hk1 h4 hh hrc z2
      refine y_iload1 (q := 8) C 5 rfl rfl ?_
      refine y_aload0 (q := 9) C 6 rfl rfl ?_
      refine x_getI (q := 12) C 7 rfl rfl fl_RX1_32 (fun _ _ => rfl) (by first | assumption | rfl | decide | exact bL hB _ (by decide)) (by first | assumption | rfl | decide | exact bL hB _ (by decide)) ?_
      rw [hk1 2 (by decide), hc]
      refine x_icmp_ge (q := 15) (t := 93) C 8 rfl (by decide) rfl (fun c1 => ?_) (fun c1 => ?_)
      · skip
        exact x_return C Z 54 rfl rfl (hK _ rc hE hk1 h4 (by omega) (fun i hi => hh i hi) (by rw [hrc, show j = n by omega]))
      · skip
        exact absurd (nI_le (by omega) (by omega)) c1
    | succ m ih =>
      intro j rc I1 hj hrj hE hk1 h4 hh hrc z2
      refine y_iload1 (q := 8) C 5 rfl rfl ?_
      refine y_aload0 (q := 9) C 6 rfl rfl ?_
      refine x_getI (q := 12) C 7 rfl rfl fl_RX1_32 (fun _ _ => rfl) (by first | assumption | rfl | decide | exact bL hB _ (by decide)) (by first | assumption | rfl | decide | exact bL hB _ (by decide)) ?_
      rw [hk1 2 (by decide), hc]
      refine x_icmp_ge (q := 15) (t := 93) C 8 rfl (by decide) rfl (fun c2 => ?_) (fun c2 => ?_)
      · skip
        exact absurd c2 (nI_ge (by omega) (by omega))
      · skip
        refine y_aload0 (q := 16) C 9 rfl rfl ?_
        refine x_bipush (q := 18) C 10 (n := (12)) (v := nI 12) rfl rfl rfl ?_
        refine y_iload1 (q := 19) C 11 rfl rfl ?_
        refine y_cV2 (q := 22) C 12 rfl rfl ml_RX1_52 cd_X1_distance cv_X1_distance ⟨by decide, rfl⟩ (by first | assumption | rfl | decide | exact bL hB _ (by decide)) (by decide) (by decide) (Nat.le_of_ble_eq_true rfl) (s_X1_distance (i := 12) (j := j) (by decide) (by omega) hB ?_)
        show aj_X G 22 _ _ _ _ _ _ _ _ _
        refine x_if_le (q := 25) (t := 87) C 13 rfl (by decide) rfl (fun c3 => ?_) (fun c3 => ?_)
        · skip
          have hod : ¬ 0 < pDs (I 24 12) (I 40 12) (I 24 j) (I 40 j) := by
            have z : pDs (I1 24 12) (I1 40 12) (I1 24 j) (I1 40 j) ≤ 0 := by assumption
            rw [hE 24 (by decide), hE 40 (by decide)] at z
            exact Int32.not_lt.mpr z
          refine y_iinc1 (q := 90) C 52 rfl rfl (nI_1 j) (Nat.le_of_ble_eq_true rfl) rfl ?_
          refine x_goto (t := 7) C 53 rfl (by decide) ?_
          exact ih (j + 1) rc _ (by omega) (by omega) hE hk1 h4 hh (hrc.trans (cnt_f (decide_eq_false hod)).symm) _
        · skip
          have hod : 0 < pDs (I 24 12) (I 40 12) (I 24 j) (I 40 j) := by
            have z : ¬ pDs (I1 24 12) (I1 40 12) (I1 24 j) (I1 40 j) ≤ 0 := by assumption
            rw [hE 24 (by decide), hE 40 (by decide)] at z
            exact Int32.not_le.mp z
          refine y_aload0 (q := 26) C 14 rfl rfl ?_
          refine x_getI (q := 29) C 15 rfl rfl fl_RX1_49 (fun _ _ => rfl) (by first | assumption | rfl | decide | exact bL hB _ (by decide)) (by first | assumption | rfl | decide | exact bL hB _ (by decide)) ?_
          rw [h4]
          refine y_istore2 (q := 30) C 16 rfl rfl (Nat.le_of_ble_eq_true rfl) rfl ?_
          have lp30 : ∀ (mi a : Nat) (I2 : Nat → Nat → Int32), a = mi → a ≤ rc → eqO [18, 56, 179, 195] I I2 → (∀ k, k ≠ 4 → I2 18 k = I 18 k) → I2 18 4 = nI rc → (∀ i, i ≤ rc → i ≠ a → ∃ m, m < n ∧ I2 56 i = nI m) → aj_X G 30 [some (.ref 18), some (.int (nI j)), some (.int (nI a))] [] I2 J V N L 0 0 := by
            intro mi
            induction mi with
            | zero =>
              intro a I2 ha har hE2 hk2 h42 hv
              refine y_iload2 (q := 31) C 17 rfl rfl ?_
              refine x_if_le (q := 34) (t := 70) C 18 rfl (by decide) rfl (fun c4 => ?_) (fun c4 => ?_)
              · skip
                refine y_aload0 (q := 71) C 41 rfl rfl ?_
                refine x_getR (q := 74) C 42 rfl rfl fl_RX1_16 (bv_2_3 hB) (fun _ _ => rfl) (by first | assumption | rfl | decide | exact bL hB _ (by decide)) (by first | assumption | rfl | decide | exact bL hB _ (by decide)) ?_
                refine y_iload2 (q := 75) C 43 rfl rfl ?_
                refine y_iload1 (q := 76) C 44 rfl rfl ?_
                refine x_iast (q := 77) C 45 rfl rfl (by first | assumption | rfl | decide | exact bL hB _ (by decide)) (by first | assumption | rfl | decide | exact bL hB _ (by decide)) (by (first | rw [bn24 hB] | rw [bn40 hB] | rw [bn56 hB] | rw [bn72 hB] | rw [bn27 hB] | rw [bn43 hB] | rw [bn25 hB] | rw [bn41 hB] | rw [bn88 hB] | rw [bn104 hB] | rw [bn120 hB] | rw [bn136 hB] | rw [bn152 hB] | rw [bn168 hB]); first | assumption | exact vp_in_nI (by omega) (by decide)) ?_
                rw [nI_clamp (by omega)]
                refine y_aload0 (q := 78) C 46 rfl rfl ?_
                refine x_dupr (q := 79) C 47 rfl rfl ?_
                refine x_getI (q := 82) C 48 rfl rfl fl_RX1_49 (fun _ _ => rfl) (by first | assumption | rfl | decide | exact bL hB _ (by decide)) (by first | assumption | rfl | decide | exact bL hB _ (by decide)) ?_
                rw [show aj_u I2 56 a (nI j) 18 4 = I2 18 4 from congrFun (aj_u_o I2 _ (by decide)) 4, h42]
                refine x_iconst (q := 83) C 49 (n := (1)) (v := nI 1) rfl rfl rfl ?_
                refine x_iadd (q := 84) C 50 rfl rfl ?_
                rw [nI_add]
                refine x_putI (q := 87) C 51 rfl rfl fl_RX1_49 rfl rfl (by first | assumption | rfl | decide | exact bL hB _ (by decide)) (by first | assumption | rfl | decide | exact bL hB _ (by decide)) ?_
                refine y_iinc1 (q := 90) C 52 rfl rfl (nI_1 j) (Nat.le_of_ble_eq_true rfl) rfl ?_
                refine x_goto (t := 7) C 53 rfl (by decide) ?_
                exact ih (j + 1) (rc + 1) _ (by omega) (by omega) (eqO.tr hE2 (eqO.tr (eqO.u (by decide)) (eqO.u (by decide)))) (fun k hk => by rw [aj_u_k _ _ _ hk, aj_u_o _ _ (by decide)]; exact hk2 k hk) (aj_u_s _ _ _ _) (fun i hi => by
                  rw [aj_u_o _ _ (by decide)]
                  by_cases z : i = a
                  · subst z; exact ⟨j, by omega, aj_u_s _ _ _ _⟩
                  · rw [aj_u_k _ _ _ z]; exact hv i (by omega) z) (by rw [hrc]; exact (cnt_t (decide_eq_true hod)).symm) _
              · skip
                exact absurd (by rw [ha]; decide) c4
            | succ mi ihi =>
              intro a I2 ha har hE2 hk2 h42 hv
              refine y_iload2 (q := 31) C 17 rfl rfl ?_
              refine x_if_le (q := 34) (t := 70) C 18 rfl (by decide) rfl (fun c5 => ?_) (fun c5 => ?_)
              · skip
                exact absurd c5 (nI_nle (by omega) (by omega))
              · skip
                refine y_aload0 (q := 35) C 19 rfl rfl ?_
                refine y_iload1 (q := 36) C 20 rfl rfl ?_
                refine y_aload0 (q := 37) C 21 rfl rfl ?_
                refine x_getR (q := 40) C 22 rfl rfl fl_RX1_16 (bv_2_3 hB) (fun _ _ => rfl) (by first | assumption | rfl | decide | exact bL hB _ (by decide)) (by first | assumption | rfl | decide | exact bL hB _ (by decide)) ?_
                refine y_iload2 (q := 41) C 23 rfl rfl ?_
                refine x_iconst (q := 42) C 24 (n := (1)) (v := nI 1) rfl rfl rfl ?_
                refine x_isub (q := 43) C 25 rfl rfl ?_
                rw [pk_sub (by omega)]
                refine x_iald (q := 44) C 26 rfl rfl (by first | assumption | rfl | decide | exact bL hB _ (by decide)) (by first | assumption | rfl | decide | exact bL hB _ (by decide)) (by (first | rw [bn24 hB] | rw [bn40 hB] | rw [bn56 hB] | rw [bn72 hB] | rw [bn27 hB] | rw [bn43 hB] | rw [bn25 hB] | rw [bn41 hB] | rw [bn88 hB] | rw [bn104 hB] | rw [bn120 hB] | rw [bn136 hB] | rw [bn152 hB] | rw [bn168 hB]); first | assumption | exact vp_in_nI (by omega) (by decide)) ?_
                rw [nI_clamp (by omega)]
                obtain ⟨p1, hp1, hq1⟩ := hv (a - 1) (by omega) (by omega)
                rw [hq1]
                refine y_cV2 (q := 47) C 27 rfl rfl ml_RX1_56 cd_X1_comesBefore cv_X1_comesBefore ⟨by decide, rfl⟩ (by first | assumption | rfl | decide | exact bL hB _ (by decide)) (by decide) (by decide) (Nat.le_of_ble_eq_true rfl) (s_X1_comesBefore (j := j) (k := p1) (by omega) (by omega) hB ?_)
                show aj_X G 47 _ _ _ _ _ _ _ _ _
                refine x_if_eqB (q := 50) (t := 70) C 28 rfl (by decide) rfl (fun c6 => ?_) (fun c6 => ?_)
                · skip
                  refine (fun (h : ∀ I3 : Nat → Nat → Int32, eqO [18, 56, 179, 195] I I3 → (∀ k, k ≠ 4 → I3 18 k = I 18 k) → I3 18 4 = nI rc → (∀ i, i ≤ rc → i ≠ a → ∃ m, m < n ∧ I3 56 i = nI m) → aj_X G 70 [some (.ref 18), some (.int (nI j)), some (.int (nI a))] [] I3 J V N L 0 0) => h _ (eqO.tr hE2 (tS_eq (by decide) (by decide))) (fun k hk => by rw [tS_o (by decide) (by decide)]; exact hk2 k hk) (by rw [tS_o (by decide) (by decide)]; exact h42) (fun i hi hne => by rw [tS_o (by decide) (by decide)]; exact hv i hi hne)) ?_
                  clear hE2 hk2 h42 hv
                  intro I2 hE2 hk2 h42 hv
                  refine y_aload0 (q := 71) C 41 rfl rfl ?_
                  refine x_getR (q := 74) C 42 rfl rfl fl_RX1_16 (bv_2_3 hB) (fun _ _ => rfl) (by first | assumption | rfl | decide | exact bL hB _ (by decide)) (by first | assumption | rfl | decide | exact bL hB _ (by decide)) ?_
                  refine y_iload2 (q := 75) C 43 rfl rfl ?_
                  refine y_iload1 (q := 76) C 44 rfl rfl ?_
                  refine x_iast (q := 77) C 45 rfl rfl (by first | assumption | rfl | decide | exact bL hB _ (by decide)) (by first | assumption | rfl | decide | exact bL hB _ (by decide)) (by (first | rw [bn24 hB] | rw [bn40 hB] | rw [bn56 hB] | rw [bn72 hB] | rw [bn27 hB] | rw [bn43 hB] | rw [bn25 hB] | rw [bn41 hB] | rw [bn88 hB] | rw [bn104 hB] | rw [bn120 hB] | rw [bn136 hB] | rw [bn152 hB] | rw [bn168 hB]); first | assumption | exact vp_in_nI (by omega) (by decide)) ?_
                  rw [nI_clamp (by omega)]
                  refine y_aload0 (q := 78) C 46 rfl rfl ?_
                  refine x_dupr (q := 79) C 47 rfl rfl ?_
                  refine x_getI (q := 82) C 48 rfl rfl fl_RX1_49 (fun _ _ => rfl) (by first | assumption | rfl | decide | exact bL hB _ (by decide)) (by first | assumption | rfl | decide | exact bL hB _ (by decide)) ?_
                  rw [show aj_u I2 56 a (nI j) 18 4 = I2 18 4 from congrFun (aj_u_o I2 _ (by decide)) 4, h42]
                  refine x_iconst (q := 83) C 49 (n := (1)) (v := nI 1) rfl rfl rfl ?_
                  refine x_iadd (q := 84) C 50 rfl rfl ?_
                  rw [nI_add]
                  refine x_putI (q := 87) C 51 rfl rfl fl_RX1_49 rfl rfl (by first | assumption | rfl | decide | exact bL hB _ (by decide)) (by first | assumption | rfl | decide | exact bL hB _ (by decide)) ?_
                  refine y_iinc1 (q := 90) C 52 rfl rfl (nI_1 j) (Nat.le_of_ble_eq_true rfl) rfl ?_
                  refine x_goto (t := 7) C 53 rfl (by decide) ?_
                  exact ih (j + 1) (rc + 1) _ (by omega) (by omega) (eqO.tr hE2 (eqO.tr (eqO.u (by decide)) (eqO.u (by decide)))) (fun k hk => by rw [aj_u_k _ _ _ hk, aj_u_o _ _ (by decide)]; exact hk2 k hk) (aj_u_s _ _ _ _) (fun i hi => by
                    rw [aj_u_o _ _ (by decide)]
                    by_cases z : i = a
                    · subst z; exact ⟨j, by omega, aj_u_s _ _ _ _⟩
                    · rw [aj_u_k _ _ _ z]; exact hv i (by omega) z) (by rw [hrc]; exact (cnt_t (decide_eq_true hod)).symm) _
                · skip
                  refine y_aload0 (q := 51) C 29 rfl rfl ?_
                  refine x_getR (q := 54) C 30 rfl rfl fl_RX1_16 (bv_2_3 hB) (fun _ _ => rfl) (by first | assumption | rfl | decide | exact bL hB _ (by decide)) (by first | assumption | rfl | decide | exact bL hB _ (by decide)) ?_
                  refine y_iload2 (q := 55) C 31 rfl rfl ?_
                  refine y_aload0 (q := 56) C 32 rfl rfl ?_
                  refine x_getR (q := 59) C 33 rfl rfl fl_RX1_16 (bv_2_3 hB) (fun _ _ => rfl) (by first | assumption | rfl | decide | exact bL hB _ (by decide)) (by first | assumption | rfl | decide | exact bL hB _ (by decide)) ?_
                  refine y_iload2 (q := 60) C 34 rfl rfl ?_
                  refine x_iconst (q := 61) C 35 (n := (1)) (v := nI 1) rfl rfl rfl ?_
                  refine x_isub (q := 62) C 36 rfl rfl ?_
                  rw [pk_sub (by omega)]
                  refine x_iald (q := 63) C 37 rfl rfl (by first | assumption | rfl | decide | exact bL hB _ (by decide)) (by first | assumption | rfl | decide | exact bL hB _ (by decide)) (by (first | rw [bn24 hB] | rw [bn40 hB] | rw [bn56 hB] | rw [bn72 hB] | rw [bn27 hB] | rw [bn43 hB] | rw [bn25 hB] | rw [bn41 hB] | rw [bn88 hB] | rw [bn104 hB] | rw [bn120 hB] | rw [bn136 hB] | rw [bn152 hB] | rw [bn168 hB]); first | assumption | exact vp_in_nI (by omega) (by decide)) ?_
                  rw [nI_clamp (by omega)]
                  have hqq : tS I2 (I2 24 j - I2 24 12) (I2 40 j - I2 40 12) (I2 24 p1 - I2 24 12) (I2 40 p1 - I2 40 12) 56 (a - 1) = nI p1 := by rw [tS_o (by decide) (by decide)]; exact hq1
                  refine x_iast (q := 64) C 38 rfl rfl (by first | assumption | rfl | decide | exact bL hB _ (by decide)) (by first | assumption | rfl | decide | exact bL hB _ (by decide)) (by (first | rw [bn24 hB] | rw [bn40 hB] | rw [bn56 hB] | rw [bn72 hB] | rw [bn27 hB] | rw [bn43 hB] | rw [bn25 hB] | rw [bn41 hB] | rw [bn88 hB] | rw [bn104 hB] | rw [bn120 hB] | rw [bn136 hB] | rw [bn152 hB] | rw [bn168 hB]); first | assumption | exact vp_in_nI (by omega) (by decide)) ?_
                  rw [nI_clamp (by omega)]
                  refine y_iinc2 (q := 67) C 39 rfl rfl (v := nI mi) (by rw [ha]; exact pk_m1 mi) (Nat.le_of_ble_eq_true rfl) rfl ?_
                  refine x_goto (t := 30) C 40 rfl (by decide) ?_
                  exact ihi mi _ rfl (by omega) (eqO.tr hE2 (eqO.tr (tS_eq (by decide) (by decide)) (eqO.u (by decide)))) (fun k hk => by rw [aj_u_o _ _ (by decide), tS_o (by decide) (by decide)]; exact hk2 k hk) (by rw [aj_u_o _ _ (by decide), tS_o (by decide) (by decide)]; exact h42) (fun i hi hne => by
                    by_cases z : i = a
                    · subst z; rw [aj_u_s]; exact ⟨p1, hp1, hqq⟩
                    · rw [aj_u_k _ _ _ z, tS_o (by decide) (by decide)]; exact hv i hi z)
          exact lp30 rc rc I1 rfl (by omega) hE hk1 h4 (fun i hi hne => hh i (by omega))
  exact lp7 n 0 0 _ (by omega) (by omega) (eqO.u (by decide)) (fun k hk => aj_u_k _ _ _ hk) (aj_u_s _ _ _ _) (fun i hi => absurd hi (Nat.not_lt_zero i)) rfl _
