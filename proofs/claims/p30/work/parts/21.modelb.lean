set_option maxRecDepth 100000 in
set_option maxHeartbeats 800000 in
theorem s_X5_eighthOf {l : Launch} {I : Nat → Nat → Int32} {J : Nat → Nat → Int64} {V : Nat → Nat → Option Nat} {N : Nat → Nat} {L : List Nat} {K : aj_K} {j : Nat} (hj : j < 8) (hB : bV V N L) (hK : K (.inl (some (.int (egR (I 88 j, I 104 j, I 120 j))))) I J V N L) : aj_M l yX5_eighthOf (aj_wc yX5_eighthOf cX5_eighthOf 4 (some .int)) (aj_rm 3 0 0) [] [.ref 22, .int (nI j)] I J V N L K := by
  refine aj_intro (tbl := t_X5_eighthOf) (lv0 := [some (.ref 22), some (.int (nI j)), none, none]) (by decide) T_X5_eighthOf aj_f0 (Nat.le_of_ble_eq_true rfl) rfl ?_
  intro G hl C Z NX hnm hGL hGF
  have C : aj_C G cX5_eighthOf t_X5_eighthOf RX5 (aj_rm 3 0 0) 4 := C
  refine y_aload0 (q := 1) C 0 rfl rfl ?_
  refine y_iload1 (q := 2) C 1 rfl rfl ?_
  refine x_iconst (q := 3) C 2 (n := (1)) (v := (1)) rfl rfl rfl ?_
  refine x_iconst (q := 4) C 3 (n := (0)) (v := (0)) rfl rfl rfl ?_
  refine y_cV3 (q := 7) C 4 rfl rfl ml_RX5_116 cd_X5_isNotAhead cv_X5_isNotAhead ⟨by decide, rfl⟩ (by first | assumption | rfl | decide | exact bL hB _ (by decide)) (by decide) (by decide) (Nat.le_of_ble_eq_true rfl) (s_X5_isNotAhead (by first | assumption | rfl | decide | exact bL hB _ (by decide)) (by first | assumption | rfl | decide | exact bL hB _ (by decide)) ?_)
  show aj_X G 7 _ _ _ _ _ _ _ _ _
  refine y_aload0 (q := 8) C 5 rfl rfl ?_
  refine y_iload1 (q := 9) C 6 rfl rfl ?_
  refine x_iconst (q := 10) C 7 (n := (-1)) (v := (-1)) rfl rfl rfl ?_
  refine x_iconst (q := 11) C 8 (n := (0)) (v := (0)) rfl rfl rfl ?_
  refine y_cV3 (q := 14) C 9 rfl rfl ml_RX5_116 cd_X5_isNotAhead cv_X5_isNotAhead ⟨by decide, rfl⟩ (by first | assumption | rfl | decide | exact bL hB _ (by decide)) (by decide) (by decide) (Nat.le_of_ble_eq_true rfl) (s_X5_isNotAhead (by first | assumption | rfl | decide | exact bL hB _ (by decide)) (by first | assumption | rfl | decide | exact bL hB _ (by decide)) ?_)
  show aj_X G 14 _ _ _ _ _ _ _ _ _
  refine x_iadd (q := 15) C 10 rfl rfl ?_
  refine y_istore2 (q := 16) C 11 rfl rfl (Nat.le_of_ble_eq_true rfl) rfl ?_
  refine x_iconst (q := 17) C 12 (n := (-1)) (v := (-1)) rfl rfl rfl ?_
  refine y_istore3 (q := 18) C 13 rfl rfl (Nat.le_of_ble_eq_true rfl) rfl ?_
  refine y_iload3 (q := 19) C 14 rfl rfl ?_
  refine x_iconst (q := 20) C 15 (n := (1)) (v := (1)) rfl rfl rfl ?_
  refine x_icmp_gt (q := 23) (t := 47) C 16 rfl (by decide) rfl (fun c1 => ?_) (fun c1 => ?_)
  · skip
    exact absurd c1 (by decide)
  · skip
    refine y_iload2 (q := 24) C 17 rfl rfl ?_
    refine y_aload0 (q := 25) C 18 rfl rfl ?_
    refine y_iload1 (q := 26) C 19 rfl rfl ?_
    refine y_iload3 (q := 27) C 20 rfl rfl ?_
    refine x_iconst (q := 28) C 21 (n := (-1)) (v := (-1)) rfl rfl rfl ?_
    refine y_cV3 (q := 31) C 22 rfl rfl ml_RX5_116 cd_X5_isNotAhead cv_X5_isNotAhead ⟨by decide, rfl⟩ (by first | assumption | rfl | decide | exact bL hB _ (by decide)) (by decide) (by decide) (Nat.le_of_ble_eq_true rfl) (s_X5_isNotAhead (by first | assumption | rfl | decide | exact bL hB _ (by decide)) (by first | assumption | rfl | decide | exact bL hB _ (by decide)) ?_)
    show aj_X G 31 _ _ _ _ _ _ _ _ _
    refine y_aload0 (q := 32) C 23 rfl rfl ?_
    refine y_iload1 (q := 33) C 24 rfl rfl ?_
    refine y_iload3 (q := 34) C 25 rfl rfl ?_
    refine x_iconst (q := 35) C 26 (n := (1)) (v := (1)) rfl rfl rfl ?_
    refine y_cV3 (q := 38) C 27 rfl rfl ml_RX5_116 cd_X5_isNotAhead cv_X5_isNotAhead ⟨by decide, rfl⟩ (by first | assumption | rfl | decide | exact bL hB _ (by decide)) (by decide) (by decide) (Nat.le_of_ble_eq_true rfl) (s_X5_isNotAhead (by first | assumption | rfl | decide | exact bL hB _ (by decide)) (by first | assumption | rfl | decide | exact bL hB _ (by decide)) ?_)
    show aj_X G 38 _ _ _ _ _ _ _ _ _
    refine x_iadd (q := 39) C 28 rfl rfl ?_
    refine x_iadd (q := 40) C 29 rfl rfl ?_
    refine y_istore2 (q := 41) C 30 rfl rfl (Nat.le_of_ble_eq_true rfl) rfl ?_
    refine y_iinc3 (q := 44) C 31 rfl rfl (v := 0) (by decide) (Nat.le_of_ble_eq_true rfl) rfl ?_
    refine x_goto (t := 18) C 32 rfl (by decide) ?_
    refine y_iload3 (q := 19) C 14 rfl rfl ?_
    refine x_iconst (q := 20) C 15 (n := (1)) (v := (1)) rfl rfl rfl ?_
    refine x_icmp_gt (q := 23) (t := 47) C 16 rfl (by decide) rfl (fun c2 => ?_) (fun c2 => ?_)
    · skip
      exact absurd c2 (by decide)
    · skip
      refine y_iload2 (q := 24) C 17 rfl rfl ?_
      refine y_aload0 (q := 25) C 18 rfl rfl ?_
      refine y_iload1 (q := 26) C 19 rfl rfl ?_
      refine y_iload3 (q := 27) C 20 rfl rfl ?_
      refine x_iconst (q := 28) C 21 (n := (-1)) (v := (-1)) rfl rfl rfl ?_
      refine y_cV3 (q := 31) C 22 rfl rfl ml_RX5_116 cd_X5_isNotAhead cv_X5_isNotAhead ⟨by decide, rfl⟩ (by first | assumption | rfl | decide | exact bL hB _ (by decide)) (by decide) (by decide) (Nat.le_of_ble_eq_true rfl) (s_X5_isNotAhead (by first | assumption | rfl | decide | exact bL hB _ (by decide)) (by first | assumption | rfl | decide | exact bL hB _ (by decide)) ?_)
      show aj_X G 31 _ _ _ _ _ _ _ _ _
      refine y_aload0 (q := 32) C 23 rfl rfl ?_
      refine y_iload1 (q := 33) C 24 rfl rfl ?_
      refine y_iload3 (q := 34) C 25 rfl rfl ?_
      refine x_iconst (q := 35) C 26 (n := (1)) (v := (1)) rfl rfl rfl ?_
      refine y_cV3 (q := 38) C 27 rfl rfl ml_RX5_116 cd_X5_isNotAhead cv_X5_isNotAhead ⟨by decide, rfl⟩ (by first | assumption | rfl | decide | exact bL hB _ (by decide)) (by decide) (by decide) (Nat.le_of_ble_eq_true rfl) (s_X5_isNotAhead (by first | assumption | rfl | decide | exact bL hB _ (by decide)) (by first | assumption | rfl | decide | exact bL hB _ (by decide)) ?_)
      show aj_X G 38 _ _ _ _ _ _ _ _ _
      refine x_iadd (q := 39) C 28 rfl rfl ?_
      refine x_iadd (q := 40) C 29 rfl rfl ?_
      refine y_istore2 (q := 41) C 30 rfl rfl (Nat.le_of_ble_eq_true rfl) rfl ?_
      refine y_iinc3 (q := 44) C 31 rfl rfl (v := 1) (by decide) (Nat.le_of_ble_eq_true rfl) rfl ?_
      refine x_goto (t := 18) C 32 rfl (by decide) ?_
      refine y_iload3 (q := 19) C 14 rfl rfl ?_
      refine x_iconst (q := 20) C 15 (n := (1)) (v := (1)) rfl rfl rfl ?_
      refine x_icmp_gt (q := 23) (t := 47) C 16 rfl (by decide) rfl (fun c3 => ?_) (fun c3 => ?_)
      · skip
        exact absurd c3 (by decide)
      · skip
        refine y_iload2 (q := 24) C 17 rfl rfl ?_
        refine y_aload0 (q := 25) C 18 rfl rfl ?_
        refine y_iload1 (q := 26) C 19 rfl rfl ?_
        refine y_iload3 (q := 27) C 20 rfl rfl ?_
        refine x_iconst (q := 28) C 21 (n := (-1)) (v := (-1)) rfl rfl rfl ?_
        refine y_cV3 (q := 31) C 22 rfl rfl ml_RX5_116 cd_X5_isNotAhead cv_X5_isNotAhead ⟨by decide, rfl⟩ (by first | assumption | rfl | decide | exact bL hB _ (by decide)) (by decide) (by decide) (Nat.le_of_ble_eq_true rfl) (s_X5_isNotAhead (by first | assumption | rfl | decide | exact bL hB _ (by decide)) (by first | assumption | rfl | decide | exact bL hB _ (by decide)) ?_)
        show aj_X G 31 _ _ _ _ _ _ _ _ _
        refine y_aload0 (q := 32) C 23 rfl rfl ?_
        refine y_iload1 (q := 33) C 24 rfl rfl ?_
        refine y_iload3 (q := 34) C 25 rfl rfl ?_
        refine x_iconst (q := 35) C 26 (n := (1)) (v := (1)) rfl rfl rfl ?_
        refine y_cV3 (q := 38) C 27 rfl rfl ml_RX5_116 cd_X5_isNotAhead cv_X5_isNotAhead ⟨by decide, rfl⟩ (by first | assumption | rfl | decide | exact bL hB _ (by decide)) (by decide) (by decide) (Nat.le_of_ble_eq_true rfl) (s_X5_isNotAhead (by first | assumption | rfl | decide | exact bL hB _ (by decide)) (by first | assumption | rfl | decide | exact bL hB _ (by decide)) ?_)
        show aj_X G 38 _ _ _ _ _ _ _ _ _
        refine x_iadd (q := 39) C 28 rfl rfl ?_
        refine x_iadd (q := 40) C 29 rfl rfl ?_
        refine y_istore2 (q := 41) C 30 rfl rfl (Nat.le_of_ble_eq_true rfl) rfl ?_
        refine y_iinc3 (q := 44) C 31 rfl rfl (v := 2) (by decide) (Nat.le_of_ble_eq_true rfl) rfl ?_
        refine x_goto (t := 18) C 32 rfl (by decide) ?_
        refine y_iload3 (q := 19) C 14 rfl rfl ?_
        refine x_iconst (q := 20) C 15 (n := (1)) (v := (1)) rfl rfl rfl ?_
        refine x_icmp_gt (q := 23) (t := 47) C 16 rfl (by decide) rfl (fun c4 => ?_) (fun c4 => ?_)
        · skip
          refine y_iload2 (q := 48) C 33 rfl rfl ?_
          exact x_ireturn C Z 34 rfl rfl rfl (hK)
        · skip
          exact absurd c4 (by decide)
set_option maxRecDepth 100000 in
set_option maxHeartbeats 800000 in
theorem s_X5_upperOf {l : Launch} {I : Nat → Nat → Int32} {J : Nat → Nat → Int64} {V : Nat → Nat → Option Nat} {N : Nat → Nat} {L : List Nat} {K : aj_K} {j : Nat} (hj : j < 8) (hB : bV V N L) (hK : ∀ r : Int32, K (.inl (some (.int r))) I J V N L) : aj_M l yX5_upperOf (aj_wc yX5_upperOf cX5_upperOf 6 (some .int)) (aj_rm 1 0 0) [] [.ref 22, .int (nI j)] I J V N L K := by
  refine aj_intro (tbl := t_X5_upperOf) (lv0 := [some (.ref 22), some (.int (nI j)), none, none, none, none]) (by decide) T_X5_upperOf aj_f0 (Nat.le_of_ble_eq_true rfl) rfl ?_
  intro G hl C Z NX hnm hGL hGF
  have C : aj_C G cX5_upperOf t_X5_upperOf RX5 (aj_rm 1 0 0) 6 := C
  refine y_aload0 (q := 1) C 0 rfl rfl ?_
  refine x_getR (q := 4) C 1 rfl rfl fl_RX5_19 (bv_6_4 hB) (fun _ _ => rfl) (by first | assumption | rfl | decide | exact bL hB _ (by decide)) (by first | assumption | rfl | decide | exact bL hB _ (by decide)) ?_
  refine y_iload1 (q := 5) C 2 rfl rfl ?_
  refine x_lald (q := 6) C 3 rfl rfl (by first | assumption | rfl | decide | exact bL hB _ (by decide)) (by first | assumption | rfl | decide | exact bL hB _ (by decide)) (by (first | rw [bn24 hB] | rw [bn40 hB] | rw [bn56 hB] | rw [bn72 hB] | rw [bn27 hB] | rw [bn43 hB] | rw [bn25 hB] | rw [bn41 hB] | rw [bn88 hB] | rw [bn104 hB] | rw [bn120 hB] | rw [bn136 hB] | rw [bn152 hB] | rw [bn168 hB]); first | assumption | exact vp_in_nI (by omega) (by decide)) ?_
  rw [nI_clamp (by omega)]
  refine y_lstore2 (q := 7) C 4 rfl rfl (Nat.le_of_ble_eq_true rfl) rfl ?_
  refine y_aload0 (q := 8) C 5 rfl rfl ?_
  refine y_iload1 (q := 9) C 6 rfl rfl ?_
  refine y_cV1 (q := 12) C 7 rfl rfl ml_RX5_97 cd_X5_upSignOf cv_X5_upSignOf ⟨by decide, rfl⟩ (by first | assumption | rfl | decide | exact bL hB _ (by decide)) (by decide) (by decide) (Nat.le_of_ble_eq_true rfl) (s_X5_upSignOf (by first | assumption | rfl | decide | exact bL hB _ (by decide)) (by first | assumption | rfl | decide | exact bL hB _ (by decide)) ?_)
  show aj_X G 12 _ _ _ _ _ _ _ _ _
  refine x_bipush (q := 14) C 8 (n := (31)) (v := (31)) rfl rfl rfl ?_
  refine x_ishl (q := 15) C 9 rfl rfl ?_
  refine y_istore4 (q := 17) C 10 rfl rfl (Nat.le_of_ble_eq_true rfl) rfl ?_
  refine y_lload2 (q := 18) C 11 rfl rfl ?_
  refine x_lconst (q := 19) C 12 (n := 0) (v := 0) rfl rfl rfl ?_
  refine x_lcmp (q := 20) C 13 rfl rfl ?_
  refine x_if_ne (q := 23) (t := 26) C 14 rfl (by decide) rfl (fun c1 => ?_) (fun c1 => ?_)
  · skip
    refine x_iconst (q := 27) C 17 (n := (1)) (v := (1)) rfl rfl rfl ?_
    refine y_istore5 (q := 29) C 18 rfl rfl (Nat.le_of_ble_eq_true rfl) rfl ?_
    have lp29 : ∀ (m : Nat) (w : Int32), m ≤ 61 → w = Int32.ofInt ((m : Int) - 60) → aj_X G 29 [some (.ref 22), some (.int (nI j)), some (.long (J 41 j)), none, some (.int (mU I j <<< ((31 : Int32) &&& 31))), some (.int w)] [] I J V N L 0 0 := by
      intro m
      induction m with
      | zero =>
        intro w hn hw
        refine y_lload2 (q := 30) C 19 rfl rfl ?_
        refine x_bipush (q := 32) C 20 (n := (60)) (v := (60)) rfl rfl rfl ?_
        refine y_iload5 (q := 34) C 21 rfl rfl ?_
        refine x_iadd (q := 35) C 22 rfl rfl ?_
        refine x_lshr (q := 36) C 23 rfl rfl ?_
        refine x_lconst (q := 37) C 24 (n := 0) (v := 0) rfl rfl rfl ?_
        refine x_lcmp (q := 38) C 25 rfl rfl ?_
        refine x_if_ne (q := 41) (t := 47) C 26 rfl (by decide) rfl (fun c2 => ?_) (fun c2 => ?_)
        · skip
          refine y_iload4 (q := 49) C 29 rfl rfl ?_
          refine y_iload5 (q := 51) C 30 rfl rfl ?_
          refine x_sipush (q := 54) C 31 (n := (1023)) (v := (1023)) rfl rfl rfl ?_
          refine x_iadd (q := 55) C 32 rfl rfl ?_
          refine x_bipush (q := 57) C 33 (n := (20)) (v := (20)) rfl rfl rfl ?_
          refine x_ishl (q := 58) C 34 rfl rfl ?_
          refine x_ior (q := 59) C 35 rfl rfl ?_
          refine y_lload2 (q := 60) C 36 rfl rfl ?_
          refine x_bipush (q := 62) C 37 (n := (40)) (v := (40)) rfl rfl rfl ?_
          refine y_iload5 (q := 64) C 38 rfl rfl ?_
          refine x_iadd (q := 65) C 39 rfl rfl ?_
          refine x_lshr (q := 66) C 40 rfl rfl ?_
          refine x_l2i (q := 67) C 41 rfl rfl ?_
          refine x_ldc (q := 69) C 42 kc_RX5_119 rfl rfl ?_
          refine x_isub (q := 70) C 43 rfl rfl ?_
          refine x_ior (q := 71) C 44 rfl rfl ?_
          exact x_ireturn C Z 45 rfl rfl rfl (hK _)
        · skip
          rw [lg_cmp_eq, hw, show ((60 : Int32) + Int32.ofInt (((0 : Nat) : Int) - 60)).toInt64 &&& 63 = 0 from by decide] at c2
          exact absurd (by simpa using c2) (by simpa only [lg_cmp_eq] using c1)
      | succ m ih =>
        intro w hn hw
        refine y_lload2 (q := 30) C 19 rfl rfl ?_
        refine x_bipush (q := 32) C 20 (n := (60)) (v := (60)) rfl rfl rfl ?_
        refine y_iload5 (q := 34) C 21 rfl rfl ?_
        refine x_iadd (q := 35) C 22 rfl rfl ?_
        refine x_lshr (q := 36) C 23 rfl rfl ?_
        refine x_lconst (q := 37) C 24 (n := 0) (v := 0) rfl rfl rfl ?_
        refine x_lcmp (q := 38) C 25 rfl rfl ?_
        refine x_if_ne (q := 41) (t := 47) C 26 rfl (by decide) rfl (fun c3 => ?_) (fun c3 => ?_)
        · skip
          refine y_iload4 (q := 49) C 29 rfl rfl ?_
          refine y_iload5 (q := 51) C 30 rfl rfl ?_
          refine x_sipush (q := 54) C 31 (n := (1023)) (v := (1023)) rfl rfl rfl ?_
          refine x_iadd (q := 55) C 32 rfl rfl ?_
          refine x_bipush (q := 57) C 33 (n := (20)) (v := (20)) rfl rfl rfl ?_
          refine x_ishl (q := 58) C 34 rfl rfl ?_
          refine x_ior (q := 59) C 35 rfl rfl ?_
          refine y_lload2 (q := 60) C 36 rfl rfl ?_
          refine x_bipush (q := 62) C 37 (n := (40)) (v := (40)) rfl rfl rfl ?_
          refine y_iload5 (q := 64) C 38 rfl rfl ?_
          refine x_iadd (q := 65) C 39 rfl rfl ?_
          refine x_lshr (q := 66) C 40 rfl rfl ?_
          refine x_l2i (q := 67) C 41 rfl rfl ?_
          refine x_ldc (q := 69) C 42 kc_RX5_119 rfl rfl ?_
          refine x_isub (q := 70) C 43 rfl rfl ?_
          refine x_ior (q := 71) C 44 rfl rfl ?_
          exact x_ireturn C Z 45 rfl rfl rfl (hK _)
        · skip
          refine y_iinc5 (q := 44) C 27 rfl rfl rfl (Nat.le_of_ble_eq_true rfl) rfl ?_
          refine x_goto (t := 29) C 28 rfl (by decide) ?_
          exact ih _ (by omega) (by rw [hw, ← Int32.ofInt_add]; congr 1; omega)
    exact lp29 61 1 (by decide) rfl
  · skip
    refine y_iload4 (q := 25) C 15 rfl rfl ?_
    exact x_ireturn C Z 16 rfl rfl rfl (hK _)
set_option maxRecDepth 100000 in
set_option maxHeartbeats 800000 in
theorem s_X5_lowerOf {l : Launch} {I : Nat → Nat → Int32} {J : Nat → Nat → Int64} {V : Nat → Nat → Option Nat} {N : Nat → Nat} {L : List Nat} {K : aj_K} {j : Nat} (hj : j < 8) (hB : bV V N L) (hK : K (.inl (some (.int (lwA (I 88 j, I 104 j, I 120 j))))) I J V N L) : aj_M l yX5_lowerOf (aj_wc yX5_lowerOf cX5_lowerOf 2 (some .int)) (aj_rm 3 0 0) [] [.ref 22, .int (nI j)] I J V N L K := by
  refine aj_intro (tbl := t_X5_lowerOf) (lv0 := [some (.ref 22), some (.int (nI j))]) (by decide) T_X5_lowerOf aj_f0 (Nat.le_of_ble_eq_true rfl) rfl ?_
  intro G hl C Z NX hnm hGL hGF
  have C : aj_C G cX5_lowerOf t_X5_lowerOf RX5 (aj_rm 3 0 0) 2 := C
  refine y_aload0 (q := 1) C 0 rfl rfl ?_
  refine x_getR (q := 4) C 1 rfl rfl fl_RX5_9 (bv_6_1 hB) (fun _ _ => rfl) (by first | assumption | rfl | decide | exact bL hB _ (by decide)) (by first | assumption | rfl | decide | exact bL hB _ (by decide)) ?_
  refine y_iload1 (q := 5) C 2 rfl rfl ?_
  refine x_iald (q := 6) C 3 rfl rfl (by first | assumption | rfl | decide | exact bL hB _ (by decide)) (by first | assumption | rfl | decide | exact bL hB _ (by decide)) (by (first | rw [bn24 hB] | rw [bn40 hB] | rw [bn56 hB] | rw [bn72 hB] | rw [bn27 hB] | rw [bn43 hB] | rw [bn25 hB] | rw [bn41 hB] | rw [bn88 hB] | rw [bn104 hB] | rw [bn120 hB] | rw [bn136 hB] | rw [bn152 hB] | rw [bn168 hB]); first | assumption | exact vp_in_nI (by omega) (by decide)) ?_
  rw [nI_clamp (by omega)]
  refine x_if_eq (q := 9) (t := 64) C 4 rfl (by decide) rfl (fun c1 => ?_) (fun c1 => ?_)
  · skip
    refine y_aload0 (q := 65) C 33 rfl rfl ?_
    refine y_iload1 (q := 66) C 34 rfl rfl ?_
    refine y_cV1 (q := 69) C 35 rfl rfl ml_RX5_100 cd_X5_isZero cv_X5_isZero ⟨by decide, rfl⟩ (by first | assumption | rfl | decide | exact bL hB _ (by decide)) (by decide) (by decide) (Nat.le_of_ble_eq_true rfl) (s_X5_isZero (by first | assumption | rfl | decide | exact bL hB _ (by decide)) (by first | assumption | rfl | decide | exact bL hB _ (by decide)) ?_)
    show aj_X G 69 _ _ _ _ _ _ _ _ _
    refine x_if_eqB (q := 72) (t := 76) C 36 rfl (by decide) rfl (fun c2 => ?_) (fun c2 => ?_)
    · skip
      refine x_ldc (q := 78) C 39 kc_RX5_124 rfl rfl ?_
      exact x_ireturn C Z 40 rfl rfl rfl (aj_lf hK (by unfold lwA; rw [if_pos (show I 88 j = 0 ∨ I 104 j = 0 from Or.inl (by assumption))]; rw [if_neg (by rw [show zzA (I 88 j, I 104 j, I 120 j) = false by assumption]; decide)]))
    · skip
      refine x_iconst (q := 73) C 37 (n := (0)) (v := (0)) rfl rfl rfl ?_
      refine x_goto (t := 78) C 38 rfl (by decide) ?_
      exact x_ireturn C Z 40 rfl rfl rfl (aj_lf hK (by unfold lwA; rw [if_pos (show I 88 j = 0 ∨ I 104 j = 0 from Or.inl (by assumption))]; rw [if_pos (show zzA (I 88 j, I 104 j, I 120 j) = true by assumption)]))
  · skip
    refine y_aload0 (q := 10) C 5 rfl rfl ?_
    refine x_getR (q := 13) C 6 rfl rfl fl_RX5_13 (bv_6_2 hB) (fun _ _ => rfl) (by first | assumption | rfl | decide | exact bL hB _ (by decide)) (by first | assumption | rfl | decide | exact bL hB _ (by decide)) ?_
    refine y_iload1 (q := 14) C 7 rfl rfl ?_
    refine x_iald (q := 15) C 8 rfl rfl (by first | assumption | rfl | decide | exact bL hB _ (by decide)) (by first | assumption | rfl | decide | exact bL hB _ (by decide)) (by (first | rw [bn24 hB] | rw [bn40 hB] | rw [bn56 hB] | rw [bn72 hB] | rw [bn27 hB] | rw [bn43 hB] | rw [bn25 hB] | rw [bn41 hB] | rw [bn88 hB] | rw [bn104 hB] | rw [bn120 hB] | rw [bn136 hB] | rw [bn152 hB] | rw [bn168 hB]); first | assumption | exact vp_in_nI (by omega) (by decide)) ?_
    rw [nI_clamp (by omega)]
    refine x_if_eq (q := 18) (t := 64) C 9 rfl (by decide) rfl (fun c3 => ?_) (fun c3 => ?_)
    · skip
      refine y_aload0 (q := 65) C 33 rfl rfl ?_
      refine y_iload1 (q := 66) C 34 rfl rfl ?_
      refine y_cV1 (q := 69) C 35 rfl rfl ml_RX5_100 cd_X5_isZero cv_X5_isZero ⟨by decide, rfl⟩ (by first | assumption | rfl | decide | exact bL hB _ (by decide)) (by decide) (by decide) (Nat.le_of_ble_eq_true rfl) (s_X5_isZero (by first | assumption | rfl | decide | exact bL hB _ (by decide)) (by first | assumption | rfl | decide | exact bL hB _ (by decide)) ?_)
      show aj_X G 69 _ _ _ _ _ _ _ _ _
      refine x_if_eqB (q := 72) (t := 76) C 36 rfl (by decide) rfl (fun c4 => ?_) (fun c4 => ?_)
      · skip
        refine x_ldc (q := 78) C 39 kc_RX5_124 rfl rfl ?_
        exact x_ireturn C Z 40 rfl rfl rfl (aj_lf hK (by unfold lwA; rw [if_pos (show I 88 j = 0 ∨ I 104 j = 0 from Or.inr (by assumption))]; rw [if_neg (by rw [show zzA (I 88 j, I 104 j, I 120 j) = false by assumption]; decide)]))
      · skip
        refine x_iconst (q := 73) C 37 (n := (0)) (v := (0)) rfl rfl rfl ?_
        refine x_goto (t := 78) C 38 rfl (by decide) ?_
        exact x_ireturn C Z 40 rfl rfl rfl (aj_lf hK (by unfold lwA; rw [if_pos (show I 88 j = 0 ∨ I 104 j = 0 from Or.inr (by assumption))]; rw [if_pos (show zzA (I 88 j, I 104 j, I 120 j) = true by assumption)]))
    · skip
      refine y_aload0 (q := 19) C 10 rfl rfl ?_
      refine x_getR (q := 22) C 11 rfl rfl fl_RX5_9 (bv_6_1 hB) (fun _ _ => rfl) (by first | assumption | rfl | decide | exact bL hB _ (by decide)) (by first | assumption | rfl | decide | exact bL hB _ (by decide)) ?_
      refine y_iload1 (q := 23) C 12 rfl rfl ?_
      refine x_iald (q := 24) C 13 rfl rfl (by first | assumption | rfl | decide | exact bL hB _ (by decide)) (by first | assumption | rfl | decide | exact bL hB _ (by decide)) (by (first | rw [bn24 hB] | rw [bn40 hB] | rw [bn56 hB] | rw [bn72 hB] | rw [bn27 hB] | rw [bn43 hB] | rw [bn25 hB] | rw [bn41 hB] | rw [bn88 hB] | rw [bn104 hB] | rw [bn120 hB] | rw [bn136 hB] | rw [bn152 hB] | rw [bn168 hB]); first | assumption | exact vp_in_nI (by omega) (by decide)) ?_
      rw [nI_clamp (by omega)]
      refine x_abs (q := 27) C 14 rfl rfl ml_RX5_68 ob_abs ⟨by decide, Nat.le_of_ble_eq_true rfl⟩ ?_
      refine y_aload0 (q := 28) C 15 rfl rfl ?_
      refine x_getR (q := 31) C 16 rfl rfl fl_RX5_13 (bv_6_2 hB) (fun _ _ => rfl) (by first | assumption | rfl | decide | exact bL hB _ (by decide)) (by first | assumption | rfl | decide | exact bL hB _ (by decide)) ?_
      refine y_iload1 (q := 32) C 17 rfl rfl ?_
      refine x_iald (q := 33) C 18 rfl rfl (by first | assumption | rfl | decide | exact bL hB _ (by decide)) (by first | assumption | rfl | decide | exact bL hB _ (by decide)) (by (first | rw [bn24 hB] | rw [bn40 hB] | rw [bn56 hB] | rw [bn72 hB] | rw [bn27 hB] | rw [bn43 hB] | rw [bn25 hB] | rw [bn41 hB] | rw [bn88 hB] | rw [bn104 hB] | rw [bn120 hB] | rw [bn136 hB] | rw [bn152 hB] | rw [bn168 hB]); first | assumption | exact vp_in_nI (by omega) (by decide)) ?_
      rw [nI_clamp (by omega)]
      refine x_abs (q := 36) C 19 rfl rfl ml_RX5_68 ob_abs ⟨by decide, Nat.le_of_ble_eq_true rfl⟩ ?_
      refine x_icmp_eq (q := 39) (t := 44) C 20 rfl (by decide) rfl (fun c5 => ?_) (fun c5 => ?_)
      · skip
        refine y_aload0 (q := 45) C 23 rfl rfl ?_
        refine x_getR (q := 48) C 24 rfl rfl fl_RX5_9 (bv_6_1 hB) (fun _ _ => rfl) (by first | assumption | rfl | decide | exact bL hB _ (by decide)) (by first | assumption | rfl | decide | exact bL hB _ (by decide)) ?_
        refine y_iload1 (q := 49) C 25 rfl rfl ?_
        refine x_iald (q := 50) C 26 rfl rfl (by first | assumption | rfl | decide | exact bL hB _ (by decide)) (by first | assumption | rfl | decide | exact bL hB _ (by decide)) (by (first | rw [bn24 hB] | rw [bn40 hB] | rw [bn56 hB] | rw [bn72 hB] | rw [bn27 hB] | rw [bn43 hB] | rw [bn25 hB] | rw [bn41 hB] | rw [bn88 hB] | rw [bn104 hB] | rw [bn120 hB] | rw [bn136 hB] | rw [bn152 hB] | rw [bn168 hB]); first | assumption | exact vp_in_nI (by omega) (by decide)) ?_
        rw [nI_clamp (by omega)]
        refine x_if_ge (q := 53) (t := 59) C 27 rfl (by decide) rfl (fun c6 => ?_) (fun c6 => ?_)
        · skip
          refine x_ldc2 (q := 62) C 30 kc_RX5_122 rfl rfl ?_
          refine x_l2i (q := 63) C 31 rfl rfl ?_
          exact x_ireturn C Z 32 rfl rfl rfl (aj_lf hK (by unfold lwA; rw [if_neg (show ¬ (I 88 j = 0 ∨ I 104 j = 0) from fun w => w.elim (by assumption) (by assumption))]; rw [if_pos (show abI (I 88 j) = abI (I 104 j) by assumption)]; exact if_neg (Int32.not_lt.mpr (by assumption))))
        · skip
          refine x_ldc2 (q := 56) C 28 kc_RX5_120 rfl rfl ?_
          refine x_goto (t := 62) C 29 rfl (by decide) ?_
          refine x_l2i (q := 63) C 31 rfl rfl ?_
          exact x_ireturn C Z 32 rfl rfl rfl (aj_lf hK (by unfold lwA; rw [if_neg (show ¬ (I 88 j = 0 ∨ I 104 j = 0) from fun w => w.elim (by assumption) (by assumption))]; rw [if_pos (show abI (I 88 j) = abI (I 104 j) by assumption)]; exact if_pos (Int32.not_le.mp (by assumption))))
      · skip
        refine x_bipush (q := 41) C 21 (n := (-9)) (v := (-9)) rfl rfl rfl ?_
        refine x_goto (t := 63) C 22 rfl (by decide) ?_
        exact x_ireturn C Z 32 rfl rfl rfl (aj_lf hK (by unfold lwA; rw [if_neg (show ¬ (I 88 j = 0 ∨ I 104 j = 0) from fun w => w.elim (by assumption) (by assumption))]; exact if_neg (by assumption)))
set_option maxRecDepth 100000 in
set_option maxHeartbeats 800000 in
theorem s_X5_failed {l : Launch} {I : Nat → Nat → Int32} {J : Nat → Nat → Int64} {V : Nat → Nat → Option Nat} {N : Nat → Nat} {L : List Nat} {K : aj_K} (hB : bV V N L) (hK : K (.inl (some (.int (-9)))) (aj_u I 168 2 (I 168 2 + 1)) J V N L) : aj_M l yX5_failed (aj_wc yX5_failed cX5_failed 1 (some .int)) (aj_rm 0 0 0) [] [.ref 22] I J V N L K := by
  refine aj_intro (tbl := t_X5_failed) (lv0 := [some (.ref 22)]) (by decide) T_X5_failed aj_f0 (Nat.le_of_ble_eq_true rfl) rfl ?_
  intro G hl C Z NX hnm hGL hGF
  have C : aj_C G cX5_failed t_X5_failed RX5 (aj_rm 0 0 0) 1 := C
  refine y_aload0 (q := 1) C 0 rfl rfl ?_
  refine x_getR (q := 4) C 1 rfl rfl fl_RX5_29 (bv_6_10 hB) (fun _ _ => rfl) (by first | assumption | rfl | decide | exact bL hB _ (by decide)) (by first | assumption | rfl | decide | exact bL hB _ (by decide)) ?_
  refine x_iconst (q := 5) C 2 (n := (2)) (v := nI 2) rfl rfl rfl ?_
  refine x_dup2 (q := 6) C 3 rfl rfl ?_
  refine x_iald (q := 7) C 4 rfl rfl (by first | assumption | rfl | decide | exact bL hB _ (by decide)) (by first | assumption | rfl | decide | exact bL hB _ (by decide)) (by (first | rw [bn24 hB] | rw [bn40 hB] | rw [bn56 hB] | rw [bn72 hB] | rw [bn27 hB] | rw [bn43 hB] | rw [bn25 hB] | rw [bn41 hB] | rw [bn88 hB] | rw [bn104 hB] | rw [bn120 hB] | rw [bn136 hB] | rw [bn152 hB] | rw [bn168 hB]); first | assumption | exact vp_in_nI (by omega) (by decide)) ?_
  rw [nI_clamp (by omega)]
  refine x_iconst (q := 8) C 5 (n := (1)) (v := (1)) rfl rfl rfl ?_
  refine x_iadd (q := 9) C 6 rfl rfl ?_
  refine x_iast (q := 10) C 7 rfl rfl (by first | assumption | rfl | decide | exact bL hB _ (by decide)) (by first | assumption | rfl | decide | exact bL hB _ (by decide)) (by (first | rw [bn24 hB] | rw [bn40 hB] | rw [bn56 hB] | rw [bn72 hB] | rw [bn27 hB] | rw [bn43 hB] | rw [bn25 hB] | rw [bn41 hB] | rw [bn88 hB] | rw [bn104 hB] | rw [bn120 hB] | rw [bn136 hB] | rw [bn152 hB] | rw [bn168 hB]); first | assumption | exact vp_in_nI (by omega) (by decide)) ?_
  rw [nI_clamp (by omega)]
  refine x_bipush (q := 12) C 8 (n := (-9)) (v := (-9)) rfl rfl rfl ?_
  exact x_ireturn C Z 9 rfl rfl rfl (hK)
set_option maxRecDepth 100000 in
set_option maxHeartbeats 800000 in
theorem s_X5_move {l : Launch} {I : Nat → Nat → Int32} {J : Nat → Nat → Int64} {V : Nat → Nat → Option Nat} {N : Nat → Nat} {L : List Nat} {K : aj_K} {j : Nat} {x u a b z : Int32} (hj : j < 8) (hx : pIn x (-127) 127 = true) (hu : pIn u (-127) 127 = true) (hz : zOk z a b) (hM : mI I) (hB : bV V N L) (hK : ∀ (r : Int32) I1 J1, mC I J I1 J1 (nxJ j (qB x u z) (cV I)) → I1 22 0 = I 22 0 → r = anJ j (qB x u z) (cV I) → K (.inl (some (.int r))) I1 J1 V N L) : aj_M l yX5_move (aj_wc yX5_move cX5_move 9 (some .int)) (aj_rm 4 0 0) [] [.ref 22, .int (nI j), .int x, .int u, .int a, .int b] I J V N L K := by
  refine aj_intro (tbl := t_X5_move) (lv0 := [some (.ref 22), some (.int (nI j)), some (.int x), some (.int u), some (.int a), some (.int b), none, none, none]) (by decide) T_X5_move aj_f0 (Nat.le_of_ble_eq_true rfl) rfl ?_
  intro G hl C Z NX hnm hGL hGF
  have C : aj_C G cX5_move t_X5_move RX5 (aj_rm 4 0 0) 9 := C
  refine y_iload2 (q := 1) C 0 rfl rfl ?_
  refine y_iload4 (q := 3) C 1 rfl rfl ?_
  refine y_cS2 (q := 6) C 2 rfl rfl ml_RX5_125 cd_X5_sign sv_X5_sign (by decide) (by decide) (Nat.le_of_ble_eq_true rfl) (s_X5_sign ?_)
  show aj_X G 6 _ _ _ _ _ _ _ _ _
  refine y_istore6 (q := 8) C 3 rfl rfl (Nat.le_of_ble_eq_true rfl) rfl ?_
  refine y_iload3 (q := 9) C 4 rfl rfl ?_
  refine y_iload5 (q := 11) C 5 rfl rfl ?_
  refine y_cS2 (q := 14) C 6 rfl rfl ml_RX5_125 cd_X5_sign sv_X5_sign (by decide) (by decide) (Nat.le_of_ble_eq_true rfl) (s_X5_sign ?_)
  show aj_X G 14 _ _ _ _ _ _ _ _ _
  refine y_istore7 (q := 16) C 7 rfl rfl (Nat.le_of_ble_eq_true rfl) rfl ?_
  refine y_iload2 (q := 17) C 8 rfl rfl ?_
  refine y_iload3 (q := 18) C 9 rfl rfl ?_
  refine y_iload6 (q := 20) C 10 rfl rfl ?_
  refine y_cS3 (q := 23) C 11 rfl rfl ml_RX5_88 cd_X5_lookOf sv_X5_lookOf (by decide) (by decide) (Nat.le_of_ble_eq_true rfl) (s_X5_lookOf ?_)
  show aj_X G 23 _ _ _ _ _ _ _ _ _
  refine y_iload3 (q := 24) C 12 rfl rfl ?_
  refine y_iload7 (q := 26) C 13 rfl rfl ?_
  refine y_aload0 (q := 27) C 14 rfl rfl ?_
  refine y_iload1 (q := 28) C 15 rfl rfl ?_
  refine y_cV1 (q := 31) C 16 rfl rfl ml_RX5_94 cd_X5_look cv_X5_look ⟨by decide, rfl⟩ (by first | assumption | rfl | decide | exact bL hB _ (by decide)) (by decide) (by decide) (Nat.le_of_ble_eq_true rfl) (s_X5_look (by first | assumption | rfl | decide | exact bL hB _ (by decide)) (by first | assumption | rfl | decide | exact bL hB _ (by decide)) ?_)
  show aj_X G 31 _ _ _ _ _ _ _ _ _
  refine y_aload0 (q := 32) C 17 rfl rfl ?_
  refine x_getR (q := 35) C 18 rfl rfl fl_RX5_13 (bv_6_2 hB) (fun _ _ => rfl) (by first | assumption | rfl | decide | exact bL hB _ (by decide)) (by first | assumption | rfl | decide | exact bL hB _ (by decide)) ?_
  refine y_iload1 (q := 36) C 19 rfl rfl ?_
  refine x_iald (q := 37) C 20 rfl rfl (by first | assumption | rfl | decide | exact bL hB _ (by decide)) (by first | assumption | rfl | decide | exact bL hB _ (by decide)) (by (first | rw [bn24 hB] | rw [bn40 hB] | rw [bn56 hB] | rw [bn72 hB] | rw [bn27 hB] | rw [bn43 hB] | rw [bn25 hB] | rw [bn41 hB] | rw [bn88 hB] | rw [bn104 hB] | rw [bn120 hB] | rw [bn136 hB] | rw [bn152 hB] | rw [bn168 hB]); first | assumption | exact vp_in_nI (by omega) (by decide)) ?_
  rw [nI_clamp (by omega)]
  refine y_aload0 (q := 38) C 21 rfl rfl ?_
  refine y_iload1 (q := 39) C 22 rfl rfl ?_
  refine y_cV1 (q := 42) C 23 rfl rfl ml_RX5_97 cd_X5_upSignOf cv_X5_upSignOf ⟨by decide, rfl⟩ (by first | assumption | rfl | decide | exact bL hB _ (by decide)) (by decide) (by decide) (Nat.le_of_ble_eq_true rfl) (s_X5_upSignOf (by first | assumption | rfl | decide | exact bL hB _ (by decide)) (by first | assumption | rfl | decide | exact bL hB _ (by decide)) ?_)
  show aj_X G 42 _ _ _ _ _ _ _ _ _
  refine y_cS6 (q := 45) C 24 rfl rfl ml_RX5_58 cd_X5_orderOf sv_X5_orderOf (by decide) (by decide) (Nat.le_of_ble_eq_true rfl) (s_X5_orderOf ?_)
  show aj_X G 45 _ _ _ _ _ _ _ _ _
  refine y_istore8 (q := 47) C 25 rfl rfl (Nat.le_of_ble_eq_true rfl) rfl ?_
  refine y_aload0 (q := 48) C 26 rfl rfl ?_
  refine x_getR (q := 51) C 27 rfl rfl fl_RX5_9 (bv_6_1 hB) (fun _ _ => rfl) (by first | assumption | rfl | decide | exact bL hB _ (by decide)) (by first | assumption | rfl | decide | exact bL hB _ (by decide)) ?_
  refine y_iload1 (q := 52) C 28 rfl rfl ?_
  refine y_iload2 (q := 53) C 29 rfl rfl ?_
  refine x_iast (q := 54) C 30 rfl rfl (by first | assumption | rfl | decide | exact bL hB _ (by decide)) (by first | assumption | rfl | decide | exact bL hB _ (by decide)) (by (first | rw [bn24 hB] | rw [bn40 hB] | rw [bn56 hB] | rw [bn72 hB] | rw [bn27 hB] | rw [bn43 hB] | rw [bn25 hB] | rw [bn41 hB] | rw [bn88 hB] | rw [bn104 hB] | rw [bn120 hB] | rw [bn136 hB] | rw [bn152 hB] | rw [bn168 hB]); first | assumption | exact vp_in_nI (by omega) (by decide)) ?_
  rw [nI_clamp (by omega)]
  refine y_aload0 (q := 55) C 31 rfl rfl ?_
  refine x_getR (q := 58) C 32 rfl rfl fl_RX5_13 (bv_6_2 hB) (fun _ _ => rfl) (by first | assumption | rfl | decide | exact bL hB _ (by decide)) (by first | assumption | rfl | decide | exact bL hB _ (by decide)) ?_
  refine y_iload1 (q := 59) C 33 rfl rfl ?_
  refine y_iload3 (q := 60) C 34 rfl rfl ?_
  refine x_iast (q := 61) C 35 rfl rfl (by first | assumption | rfl | decide | exact bL hB _ (by decide)) (by first | assumption | rfl | decide | exact bL hB _ (by decide)) (by (first | rw [bn24 hB] | rw [bn40 hB] | rw [bn56 hB] | rw [bn72 hB] | rw [bn27 hB] | rw [bn43 hB] | rw [bn25 hB] | rw [bn41 hB] | rw [bn88 hB] | rw [bn104 hB] | rw [bn120 hB] | rw [bn136 hB] | rw [bn152 hB] | rw [bn168 hB]); first | assumption | exact vp_in_nI (by omega) (by decide)) ?_
  rw [nI_clamp (by omega)]
  refine y_aload0 (q := 62) C 36 rfl rfl ?_
  refine x_getR (q := 65) C 37 rfl rfl fl_RX5_16 (bv_6_3 hB) (fun _ _ => rfl) (by first | assumption | rfl | decide | exact bL hB _ (by decide)) (by first | assumption | rfl | decide | exact bL hB _ (by decide)) ?_
  refine y_iload1 (q := 66) C 38 rfl rfl ?_
  refine y_iload6 (q := 68) C 39 rfl rfl ?_
  refine x_iconst (q := 69) C 40 (n := (2)) (v := (2)) rfl rfl rfl ?_
  refine y_iload7 (q := 71) C 41 rfl rfl ?_
  refine x_imul (q := 72) C 42 rfl rfl ?_
  refine x_iadd (q := 73) C 43 rfl rfl ?_
  refine x_iast (q := 74) C 44 rfl rfl (by first | assumption | rfl | decide | exact bL hB _ (by decide)) (by first | assumption | rfl | decide | exact bL hB _ (by decide)) (by (first | rw [bn24 hB] | rw [bn40 hB] | rw [bn56 hB] | rw [bn72 hB] | rw [bn27 hB] | rw [bn43 hB] | rw [bn25 hB] | rw [bn41 hB] | rw [bn88 hB] | rw [bn104 hB] | rw [bn120 hB] | rw [bn136 hB] | rw [bn152 hB] | rw [bn168 hB]); first | assumption | exact vp_in_nI (by omega) (by decide)) ?_
  rw [nI_clamp (by omega)]
  refine y_aload0 (q := 75) C 45 rfl rfl ?_
  refine x_getR (q := 78) C 46 rfl rfl fl_RX5_19 (bv_6_4 hB) (fun _ _ => rfl) (by first | assumption | rfl | decide | exact bL hB _ (by decide)) (by first | assumption | rfl | decide | exact bL hB _ (by decide)) ?_
  refine y_iload1 (q := 79) C 47 rfl rfl ?_
  refine y_iload2 (q := 80) C 48 rfl rfl ?_
  refine y_iload3 (q := 81) C 49 rfl rfl ?_
  refine y_iload6 (q := 83) C 50 rfl rfl ?_
  refine y_cS3 (q := 86) C 51 rfl rfl ml_RX5_128 cd_X5_sizeOf sv_X5_sizeOf (by decide) (by decide) (Nat.le_of_ble_eq_true rfl) (s_X5_sizeOf (by first | assumption | rfl | decide | exact bL hB _ (by decide)) (by first | assumption | rfl | decide | exact bL hB _ (by decide)) ?_)
  show aj_X G 86 _ _ _ _ _ _ _ _ _
  refine x_last (q := 87) C 52 rfl rfl (by first | assumption | rfl | decide | exact bL hB _ (by decide)) (by first | assumption | rfl | decide | exact bL hB _ (by decide)) (by (first | rw [bn24 hB] | rw [bn40 hB] | rw [bn56 hB] | rw [bn72 hB] | rw [bn27 hB] | rw [bn43 hB] | rw [bn25 hB] | rw [bn41 hB] | rw [bn88 hB] | rw [bn104 hB] | rw [bn120 hB] | rw [bn136 hB] | rw [bn152 hB] | rw [bn168 hB]); first | assumption | exact vp_in_nI (by omega) (by decide)) ?_
  rw [nI_clamp (by omega)]
  refine y_aload0 (q := 88) C 53 rfl rfl ?_
  refine x_getR (q := 91) C 54 rfl rfl fl_RX5_29 (bv_6_10 hB) (fun _ _ => rfl) (by first | assumption | rfl | decide | exact bL hB _ (by decide)) (by first | assumption | rfl | decide | exact bL hB _ (by decide)) ?_
  refine x_iconst (q := 92) C 55 (n := (0)) (v := nI 0) rfl rfl rfl ?_
  refine x_dup2 (q := 93) C 56 rfl rfl ?_
  refine x_iald (q := 94) C 57 rfl rfl (by first | assumption | rfl | decide | exact bL hB _ (by decide)) (by first | assumption | rfl | decide | exact bL hB _ (by decide)) (by (first | rw [bn24 hB] | rw [bn40 hB] | rw [bn56 hB] | rw [bn72 hB] | rw [bn27 hB] | rw [bn43 hB] | rw [bn25 hB] | rw [bn41 hB] | rw [bn88 hB] | rw [bn104 hB] | rw [bn120 hB] | rw [bn136 hB] | rw [bn152 hB] | rw [bn168 hB]); first | assumption | exact vp_in_nI (by omega) (by decide)) ?_
  rw [nI_clamp (by omega)]
  refine x_iconst (q := 95) C 58 (n := (1)) (v := (1)) rfl rfl rfl ?_
  refine x_iadd (q := 96) C 59 rfl rfl ?_
  refine x_iast (q := 97) C 60 rfl rfl (by first | assumption | rfl | decide | exact bL hB _ (by decide)) (by first | assumption | rfl | decide | exact bL hB _ (by decide)) (by (first | rw [bn24 hB] | rw [bn40 hB] | rw [bn56 hB] | rw [bn72 hB] | rw [bn27 hB] | rw [bn43 hB] | rw [bn25 hB] | rw [bn41 hB] | rw [bn88 hB] | rw [bn104 hB] | rw [bn120 hB] | rw [bn136 hB] | rw [bn152 hB] | rw [bn168 hB]); first | assumption | exact vp_in_nI (by omega) (by decide)) ?_
  rw [nI_clamp (by omega)]
  refine y_iload8 (q := 99) C 61 rfl rfl ?_
  exact x_ireturn C Z 62 rfl rfl rfl (hK _ _ _ (mC.mv hj hx hu hz hM) (by simp [aj_u]) (mv_o hj hx hu hz))
set_option maxRecDepth 100000 in
set_option maxHeartbeats 800000 in
theorem s_X5_put {l : Launch} {I : Nat → Nat → Int32} {J : Nat → Nat → Int64} {V : Nat → Nat → Option Nat} {N : Nat → Nat} {L : List Nat} {K : aj_K} {x a u s : Int32} (hM : mI I) (hB : bV V N L) (hK : ∀ (r : Int32) I1 J1, mC I J I1 J1 (nxS (ckI x && okP a u s) x (qB a u s) (cV I)) → I1 22 0 = cd2 (ckI x) (okP a u s) → (cd2 (ckI x) (okP a u s) = 0 → r = anS x (qB a u s) (cV I)) → K (.inl (some (.int r))) I1 J1 V N L) : aj_M l yX5_put (aj_wc yX5_put cX5_put 5 (some .int)) (aj_rm 5 0 0) [] [.ref 22, .int x, .int a, .int u, .int s] I J V N L K := by
  refine aj_intro (tbl := t_X5_put) (lv0 := [some (.ref 22), some (.int x), some (.int a), some (.int u), some (.int s)]) (by decide) T_X5_put aj_f0 (Nat.le_of_ble_eq_true rfl) rfl ?_
  intro G hl C Z NX hnm hGL hGF
  have C : aj_C G cX5_put t_X5_put RX5 (aj_rm 5 0 0) 5 := C
  refine y_aload0 (q := 1) C 0 rfl rfl ?_
  refine y_iload1 (q := 2) C 1 rfl rfl ?_
  refine y_cS1 (q := 5) C 2 rfl rfl ml_RX5_132 cd_X5_isNoCell sv_X5_isNoCell (by decide) (by decide) (Nat.le_of_ble_eq_true rfl) (s_X5_isNoCell ?_)
  show aj_X G 5 _ _ _ _ _ _ _ _ _
  refine x_iconst (q := 6) C 3 (n := (1)) (v := (1)) rfl rfl rfl ?_
  refine y_cV2 (q := 9) C 4 rfl rfl ml_RX5_135 cd_X5_start cv_X5_start ⟨by decide, rfl⟩ (by first | assumption | rfl | decide | exact bL hB _ (by decide)) (by decide) (by decide) (Nat.le_of_ble_eq_true rfl) (s_X5_start (by first | assumption | rfl | decide | exact bL hB _ (by decide)) (by first | assumption | rfl | decide | exact bL hB _ (by decide)) ?_)
  show aj_X G 9 _ _ _ _ _ _ _ _ _
  refine x_if_neB (q := 12) (t := 57) C 5 rfl (by decide) rfl (fun c1 => ?_) (fun c1 => ?_)
  · skip
    refine x_iconst (q := 58) C 28 (n := (0)) (v := (0)) rfl rfl rfl ?_
    exact x_ireturn C Z 29 rfl rfl rfl (hK _ _ _ (mC.no (mR.th hM) (nxS_f (and_f1 (ckm_f (by assumption))))) (by rw [cd2_1 (ckm_f (by assumption))]; exact tH_t (by assumption)) (cd2_n (Or.inl (ckm_f (by assumption)))))
  · skip
    rw [show (!pIn x 0 7) = false by assumption, tH_f]
    have hR0 : mR I J (aj_u I 22 0 0) J := mR.t hM
    have hT : aj_u I 22 0 0 22 0 = 0 := aj_u_s _ _ _ _
    generalize aj_u I 22 0 0 = I0 at hR0 hT ⊢
    obtain ⟨j, hj, rfl⟩ := nC (by assumption)
    refine y_aload0 (q := 13) C 6 rfl rfl ?_
    refine y_iload2 (q := 14) C 7 rfl rfl ?_
    refine x_bipush (q := 16) C 8 (n := (-127)) (v := (-127)) rfl rfl rfl ?_
    refine x_bipush (q := 18) C 9 (n := (127)) (v := (127)) rfl rfl rfl ?_
    refine y_cS3 (q := 21) C 10 rfl rfl ml_RX5_40 cd_X5_isIn sv_X5_isIn (by decide) (by decide) (Nat.le_of_ble_eq_true rfl) (s_X5_isIn ?_)
    show aj_X G 21 _ _ _ _ _ _ _ _ _
    refine x_if_eqB (q := 24) (t := 45) C 11 rfl (by decide) rfl (fun c2 => ?_) (fun c2 => ?_)
    · skip
      refine x_iconst (q := 46) C 22 (n := (1)) (v := (1)) rfl rfl rfl ?_
      refine x_goto (t := 50) C 23 rfl (by decide) ?_
      refine x_iconst (q := 51) C 25 (n := (2)) (v := (2)) rfl rfl rfl ?_
      refine y_cV2 (q := 54) C 26 rfl rfl ml_RX5_36 cd_X5_refuse cv_X5_refuse ⟨by decide, rfl⟩ (by first | assumption | rfl | decide | exact bL hB _ (by decide)) (by decide) (by decide) (Nat.le_of_ble_eq_true rfl) (s_X5_refuse (b := true) (by decide) hT hB ?_)
      show aj_X G 54 _ _ _ _ _ _ _ _ _
      refine x_if_eqB (q := 57) (t := 59) C 27 rfl (by decide) rfl (fun c3 => ?_) (fun c3 => ?_)
      · skip
        exact absurd c3 (by decide)
      · skip
        refine x_iconst (q := 58) C 28 (n := (0)) (v := (0)) rfl rfl rfl ?_
        exact x_ireturn C Z 29 rfl rfl rfl (hK _ _ _ (mC.no (mR.tr hR0 (mR.tw hR0.2.1)) (nxS_f (and_f2 (okP_f (Or.inl (by assumption)))))) (by rw [cd2_2 (ckI_t hj) (okP_f (Or.inl (by assumption)))]; exact tH_t rfl) (cd2_n (Or.inr (okP_f (Or.inl (by assumption))))))
    · skip
      refine y_iload3 (q := 25) C 12 rfl rfl ?_
      refine x_bipush (q := 27) C 13 (n := (-127)) (v := (-127)) rfl rfl rfl ?_
      refine x_bipush (q := 29) C 14 (n := (127)) (v := (127)) rfl rfl rfl ?_
      refine y_cS3 (q := 32) C 15 rfl rfl ml_RX5_40 cd_X5_isIn sv_X5_isIn (by decide) (by decide) (Nat.le_of_ble_eq_true rfl) (s_X5_isIn ?_)
      show aj_X G 32 _ _ _ _ _ _ _ _ _
      refine x_if_eqB (q := 35) (t := 45) C 16 rfl (by decide) rfl (fun c4 => ?_) (fun c4 => ?_)
      · skip
        refine x_iconst (q := 46) C 22 (n := (1)) (v := (1)) rfl rfl rfl ?_
        refine x_goto (t := 50) C 23 rfl (by decide) ?_
        refine x_iconst (q := 51) C 25 (n := (2)) (v := (2)) rfl rfl rfl ?_
        refine y_cV2 (q := 54) C 26 rfl rfl ml_RX5_36 cd_X5_refuse cv_X5_refuse ⟨by decide, rfl⟩ (by first | assumption | rfl | decide | exact bL hB _ (by decide)) (by decide) (by decide) (Nat.le_of_ble_eq_true rfl) (s_X5_refuse (b := true) (by decide) hT hB ?_)
        show aj_X G 54 _ _ _ _ _ _ _ _ _
        refine x_if_eqB (q := 57) (t := 59) C 27 rfl (by decide) rfl (fun c5 => ?_) (fun c5 => ?_)
        · skip
          exact absurd c5 (by decide)
        · skip
          refine x_iconst (q := 58) C 28 (n := (0)) (v := (0)) rfl rfl rfl ?_
          exact x_ireturn C Z 29 rfl rfl rfl (hK _ _ _ (mC.no (mR.tr hR0 (mR.tw hR0.2.1)) (nxS_f (and_f2 (okP_f (Or.inr (Or.inl (by assumption))))))) (by rw [cd2_2 (ckI_t hj) (okP_f (Or.inr (Or.inl (by assumption))))]; exact tH_t rfl) (cd2_n (Or.inr (okP_f (Or.inr (Or.inl (by assumption)))))))
      · skip
        refine y_iload4 (q := 37) C 17 rfl rfl ?_
        refine x_iconst (q := 38) C 18 (n := (0)) (v := (0)) rfl rfl rfl ?_
        refine x_iconst (q := 39) C 19 (n := (3)) (v := (3)) rfl rfl rfl ?_
        refine y_cS3 (q := 42) C 20 rfl rfl ml_RX5_40 cd_X5_isIn sv_X5_isIn (by decide) (by decide) (Nat.le_of_ble_eq_true rfl) (s_X5_isIn ?_)
        show aj_X G 42 _ _ _ _ _ _ _ _ _
        refine x_if_neB (q := 45) (t := 49) C 21 rfl (by decide) rfl (fun c6 => ?_) (fun c6 => ?_)
        · skip
          refine x_iconst (q := 50) C 24 (n := (0)) (v := (0)) rfl rfl rfl ?_
          refine x_iconst (q := 51) C 25 (n := (2)) (v := (2)) rfl rfl rfl ?_
          refine y_cV2 (q := 54) C 26 rfl rfl ml_RX5_36 cd_X5_refuse cv_X5_refuse ⟨by decide, rfl⟩ (by first | assumption | rfl | decide | exact bL hB _ (by decide)) (by decide) (by decide) (Nat.le_of_ble_eq_true rfl) (s_X5_refuse (b := false) (by decide) hT hB ?_)
          show aj_X G 54 _ _ _ _ _ _ _ _ _
          refine x_if_eqB (q := 57) (t := 59) C 27 rfl (by decide) rfl (fun c7 => ?_) (fun c7 => ?_)
          · skip
            rw [tH_f]
            refine y_aload0 (q := 60) C 30 rfl rfl ?_
            refine y_iload1 (q := 61) C 31 rfl rfl ?_
            refine y_iload2 (q := 62) C 32 rfl rfl ?_
            refine y_iload3 (q := 63) C 33 rfl rfl ?_
            refine y_iload4 (q := 65) C 34 rfl rfl ?_
            refine x_iconst (q := 66) C 35 (n := (2)) (v := (2)) rfl rfl rfl ?_
            refine x_irem (q := 67) C 36 (by decide) rfl rfl ?_
            refine y_iload4 (q := 69) C 37 rfl rfl ?_
            refine x_iconst (q := 70) C 38 (n := (2)) (v := (2)) rfl rfl rfl ?_
            refine x_idiv (q := 71) C 39 (by decide) rfl rfl ?_
            refine y_cV5 (q := 74) C 40 rfl rfl ml_RX5_138 cd_X5_move cv_X5_move ⟨by decide, rfl⟩ (by first | assumption | rfl | decide | exact bL hB _ (by decide)) (by decide) (by decide) (Nat.le_of_ble_eq_true rfl) (s_X5_move hj (by assumption) (by assumption) (zOk_p (sOk_i (by assumption))) hR0.2.1 hB ?_)
            intro r I1 J1 hC1 hc1 hr1
            show aj_X G 74 _ _ _ _ _ _ _ _ _
            exact x_ireturn C Z 41 rfl rfl rfl (hK _ _ _ (mC.pj hR0 hC1 (and_t (ckI_t hj) (okP_t (by assumption) (by assumption) (by assumption))) hj) (by rw [cd2_t (ckI_t hj) (okP_t (by assumption) (by assumption) (by assumption))]; exact hc1.trans hT) (fun _ => hr1.trans (an_pj hR0 hj)))
          · skip
            exact absurd c7 (by decide)
        · skip
          refine x_iconst (q := 46) C 22 (n := (1)) (v := (1)) rfl rfl rfl ?_
          refine x_goto (t := 50) C 23 rfl (by decide) ?_
          refine x_iconst (q := 51) C 25 (n := (2)) (v := (2)) rfl rfl rfl ?_
          refine y_cV2 (q := 54) C 26 rfl rfl ml_RX5_36 cd_X5_refuse cv_X5_refuse ⟨by decide, rfl⟩ (by first | assumption | rfl | decide | exact bL hB _ (by decide)) (by decide) (by decide) (Nat.le_of_ble_eq_true rfl) (s_X5_refuse (b := true) (by decide) hT hB ?_)
          show aj_X G 54 _ _ _ _ _ _ _ _ _
          refine x_if_eqB (q := 57) (t := 59) C 27 rfl (by decide) rfl (fun c8 => ?_) (fun c8 => ?_)
          · skip
            exact absurd c8 (by decide)
          · skip
            refine x_iconst (q := 58) C 28 (n := (0)) (v := (0)) rfl rfl rfl ?_
            exact x_ireturn C Z 29 rfl rfl rfl (hK _ _ _ (mC.no (mR.tr hR0 (mR.tw hR0.2.1)) (nxS_f (and_f2 (okP_f (Or.inr (Or.inr (by assumption))))))) (by rw [cd2_2 (ckI_t hj) (okP_f (Or.inr (Or.inr (by assumption))))]; exact tH_t rfl) (cd2_n (Or.inr (okP_f (Or.inr (Or.inr (by assumption)))))))
set_option maxRecDepth 100000 in
set_option maxHeartbeats 800000 in
theorem s_X5_make {l : Launch} {I : Nat → Nat → Int32} {J : Nat → Nat → Int64} {V : Nat → Nat → Option Nat} {N : Nat → Nat} {L : List Nat} {K : aj_K} {x t : Int32} (hM : mI I) (hO : cOk (cV I)) (hB : bV V N L) (hK : ∀ (r : Int32) I1 J1, mC I J I1 J1 (nxS (ckI x && pIn t 0 5) x (mkT (nn t) (cV I (nn x))) (cV I)) → I1 22 0 = cd2 (ckI x) (pIn t 0 5) → (cd2 (ckI x) (pIn t 0 5) = 0 → r = anS x (mkT (nn t) (cV I (nn x))) (cV I)) → K (.inl (some (.int r))) I1 J1 V N L) : aj_M l yX5_make (aj_wc yX5_make cX5_make 7 (some .int)) (aj_rm 5 0 0) [] [.ref 22, .int x, .int t] I J V N L K := by
  refine aj_intro (tbl := t_X5_make) (lv0 := [some (.ref 22), some (.int x), some (.int t), none, none, none, none]) (by decide) T_X5_make aj_f0 (Nat.le_of_ble_eq_true rfl) rfl ?_
  intro G hl C Z NX hnm hGL hGF
  have C : aj_C G cX5_make t_X5_make RX5 (aj_rm 5 0 0) 7 := C
  refine y_aload0 (q := 1) C 0 rfl rfl ?_
  refine y_iload1 (q := 2) C 1 rfl rfl ?_
  refine y_cS1 (q := 5) C 2 rfl rfl ml_RX5_132 cd_X5_isNoCell sv_X5_isNoCell (by decide) (by decide) (Nat.le_of_ble_eq_true rfl) (s_X5_isNoCell ?_)
  show aj_X G 5 _ _ _ _ _ _ _ _ _
  refine x_iconst (q := 6) C 3 (n := (1)) (v := (1)) rfl rfl rfl ?_
  refine y_cV2 (q := 9) C 4 rfl rfl ml_RX5_135 cd_X5_start cv_X5_start ⟨by decide, rfl⟩ (by first | assumption | rfl | decide | exact bL hB _ (by decide)) (by decide) (by decide) (Nat.le_of_ble_eq_true rfl) (s_X5_start (by first | assumption | rfl | decide | exact bL hB _ (by decide)) (by first | assumption | rfl | decide | exact bL hB _ (by decide)) ?_)
  show aj_X G 9 _ _ _ _ _ _ _ _ _
  refine x_if_neB (q := 12) (t := 34) C 5 rfl (by decide) rfl (fun c1 => ?_) (fun c1 => ?_)
  · skip
    refine x_iconst (q := 35) C 18 (n := (0)) (v := (0)) rfl rfl rfl ?_
    exact x_ireturn C Z 19 rfl rfl rfl (hK _ _ _ (mC.no (mR.th hM) (nxS_f (and_f1 (ckm_f (by assumption))))) (by rw [cd2_1 (ckm_f (by assumption))]; exact tH_t (by assumption)) (cd2_n (Or.inl (ckm_f (by assumption)))))
  · skip
    rw [show (!pIn x 0 7) = false by assumption, tH_f]
    have hR0 : mR I J (aj_u I 22 0 0) J := mR.t hM
    have hT : aj_u I 22 0 0 22 0 = 0 := aj_u_s _ _ _ _
    generalize aj_u I 22 0 0 = I0 at hR0 hT ⊢
    obtain ⟨j, hj, rfl⟩ := nC (by assumption)
    refine y_aload0 (q := 13) C 6 rfl rfl ?_
    refine y_iload2 (q := 14) C 7 rfl rfl ?_
    refine x_iconst (q := 15) C 8 (n := (0)) (v := (0)) rfl rfl rfl ?_
    refine x_iconst (q := 16) C 9 (n := (5)) (v := (5)) rfl rfl rfl ?_
    refine y_cS3 (q := 19) C 10 rfl rfl ml_RX5_40 cd_X5_isIn sv_X5_isIn (by decide) (by decide) (Nat.le_of_ble_eq_true rfl) (s_X5_isIn ?_)
    show aj_X G 19 _ _ _ _ _ _ _ _ _
    refine x_if_neB (q := 22) (t := 26) C 11 rfl (by decide) rfl (fun c2 => ?_) (fun c2 => ?_)
    · skip
      refine x_iconst (q := 27) C 14 (n := (0)) (v := (0)) rfl rfl rfl ?_
      refine x_iconst (q := 28) C 15 (n := (2)) (v := (2)) rfl rfl rfl ?_
      refine y_cV2 (q := 31) C 16 rfl rfl ml_RX5_36 cd_X5_refuse cv_X5_refuse ⟨by decide, rfl⟩ (by first | assumption | rfl | decide | exact bL hB _ (by decide)) (by decide) (by decide) (Nat.le_of_ble_eq_true rfl) (s_X5_refuse (b := false) (by decide) hT hB ?_)
      show aj_X G 31 _ _ _ _ _ _ _ _ _
      refine x_if_eqB (q := 34) (t := 36) C 17 rfl (by decide) rfl (fun c3 => ?_) (fun c3 => ?_)
      · skip
        rw [tH_f]
        have hs := hO_s hR0 hO hj
        have hok : pIn t 0 5 = true := by assumption
        obtain ⟨w, hw, rfl⟩ := pIn_nI (x := t) 5 (by decide) (by assumption)
        rw [mk_e hR0 hj (show w < 6 by omega)] at hK
        refine y_aload0 (q := 37) C 20 rfl rfl ?_
        refine x_getR (q := 40) C 21 rfl rfl fl_RX5_9 (bv_6_1 hB) (fun _ _ => rfl) (by first | assumption | rfl | decide | exact bL hB _ (by decide)) (by first | assumption | rfl | decide | exact bL hB _ (by decide)) ?_
        refine y_iload1 (q := 41) C 22 rfl rfl ?_
        refine x_iald (q := 42) C 23 rfl rfl (by first | assumption | rfl | decide | exact bL hB _ (by decide)) (by first | assumption | rfl | decide | exact bL hB _ (by decide)) (by (first | rw [bn24 hB] | rw [bn40 hB] | rw [bn56 hB] | rw [bn72 hB] | rw [bn27 hB] | rw [bn43 hB] | rw [bn25 hB] | rw [bn41 hB] | rw [bn88 hB] | rw [bn104 hB] | rw [bn120 hB] | rw [bn136 hB] | rw [bn152 hB] | rw [bn168 hB]); first | assumption | exact vp_in_nI (by omega) (by decide)) ?_
        rw [nI_clamp (by omega)]
        refine y_istore3 (q := 43) C 24 rfl rfl (Nat.le_of_ble_eq_true rfl) rfl ?_
        refine y_aload0 (q := 44) C 25 rfl rfl ?_
        refine x_getR (q := 47) C 26 rfl rfl fl_RX5_13 (bv_6_2 hB) (fun _ _ => rfl) (by first | assumption | rfl | decide | exact bL hB _ (by decide)) (by first | assumption | rfl | decide | exact bL hB _ (by decide)) ?_
        refine y_iload1 (q := 48) C 27 rfl rfl ?_
        refine x_iald (q := 49) C 28 rfl rfl (by first | assumption | rfl | decide | exact bL hB _ (by decide)) (by first | assumption | rfl | decide | exact bL hB _ (by decide)) (by (first | rw [bn24 hB] | rw [bn40 hB] | rw [bn56 hB] | rw [bn72 hB] | rw [bn27 hB] | rw [bn43 hB] | rw [bn25 hB] | rw [bn41 hB] | rw [bn88 hB] | rw [bn104 hB] | rw [bn120 hB] | rw [bn136 hB] | rw [bn152 hB] | rw [bn168 hB]); first | assumption | exact vp_in_nI (by omega) (by decide)) ?_
        rw [nI_clamp (by omega)]
        refine y_istore4 (q := 51) C 29 rfl rfl (Nat.le_of_ble_eq_true rfl) rfl ?_
        refine y_aload0 (q := 52) C 30 rfl rfl ?_
        refine x_getR (q := 55) C 31 rfl rfl fl_RX5_16 (bv_6_3 hB) (fun _ _ => rfl) (by first | assumption | rfl | decide | exact bL hB _ (by decide)) (by first | assumption | rfl | decide | exact bL hB _ (by decide)) ?_
        refine y_iload1 (q := 56) C 32 rfl rfl ?_
        refine x_iald (q := 57) C 33 rfl rfl (by first | assumption | rfl | decide | exact bL hB _ (by decide)) (by first | assumption | rfl | decide | exact bL hB _ (by decide)) (by (first | rw [bn24 hB] | rw [bn40 hB] | rw [bn56 hB] | rw [bn72 hB] | rw [bn27 hB] | rw [bn43 hB] | rw [bn25 hB] | rw [bn41 hB] | rw [bn88 hB] | rw [bn104 hB] | rw [bn120 hB] | rw [bn136 hB] | rw [bn152 hB] | rw [bn168 hB]); first | assumption | exact vp_in_nI (by omega) (by decide)) ?_
        rw [nI_clamp (by omega)]
        refine x_iconst (q := 58) C 34 (n := (1)) (v := (1)) rfl rfl rfl ?_
        refine x_iand (q := 59) C 35 rfl rfl ?_
        refine y_istore5 (q := 61) C 36 rfl rfl (Nat.le_of_ble_eq_true rfl) rfl ?_
        refine y_aload0 (q := 62) C 37 rfl rfl ?_
        refine y_iload1 (q := 63) C 38 rfl rfl ?_
        refine y_cV1 (q := 66) C 39 rfl rfl ml_RX5_97 cd_X5_upSignOf cv_X5_upSignOf ⟨by decide, rfl⟩ (by first | assumption | rfl | decide | exact bL hB _ (by decide)) (by decide) (by decide) (Nat.le_of_ble_eq_true rfl) (s_X5_upSignOf (by first | assumption | rfl | decide | exact bL hB _ (by decide)) (by first | assumption | rfl | decide | exact bL hB _ (by decide)) ?_)
        show aj_X G 66 _ _ _ _ _ _ _ _ _
        refine y_istore6 (q := 68) C 40 rfl rfl (Nat.le_of_ble_eq_true rfl) rfl ?_
        refine y_iload2 (q := 69) C 41 rfl rfl ?_
        rcases (show w = 0 ∨ w = 1 ∨ w = 2 ∨ w = 3 ∨ w = 4 ∨ w = 5 by omega) with rfl | rfl | rfl | rfl | rfl | rfl
        · skip
          refine x_swIn (off := 35) (t := 104) C 42 rfl (by decide) (by decide) (by decide) (by decide) ?_
          refine y_aload0 (q := 105) C 43 rfl rfl ?_
          refine y_iload1 (q := 106) C 44 rfl rfl ?_
          refine y_iload3 (q := 107) C 45 rfl rfl ?_
          refine y_iload4 (q := 109) C 46 rfl rfl ?_
          refine x_ineg (q := 110) C 47 rfl rfl ?_
          refine y_iload5 (q := 112) C 48 rfl rfl ?_
          refine x_iconst (q := 113) C 49 (n := (1)) (v := (1)) rfl rfl rfl ?_
          refine y_iload6 (q := 115) C 50 rfl rfl ?_
          refine x_isub (q := 116) C 51 rfl rfl ?_
          refine y_cV5 (q := 119) C 52 rfl rfl ml_RX5_138 cd_X5_move cv_X5_move ⟨by decide, rfl⟩ (by first | assumption | rfl | decide | exact bL hB _ (by decide)) (by decide) (by decide) (Nat.le_of_ble_eq_true rfl) (s_X5_move hj ((hR0.2.1.1 j hj).1) (pIn_neg (hR0.2.1.1 j hj).2) ((zOk_m hs).1) hR0.2.1 hB ?_)
          intro r I1 J1 hC1 hc1 hr1
          show aj_X G 119 _ _ _ _ _ _ _ _ _
          exact x_ireturn C Z 53 rfl rfl rfl (hK _ _ _ (mC.pj hR0 hC1 (and_t (ckI_t hj) hok) hj) (by rw [cd2_t (ckI_t hj) hok]; exact hc1.trans hT) (fun _ => hr1.trans (an_pj hR0 hj)))
        · skip
          refine x_swIn (off := 51) (t := 120) C 42 rfl (by decide) (by decide) (by decide) (by decide) ?_
          refine y_aload0 (q := 121) C 54 rfl rfl ?_
          refine y_iload1 (q := 122) C 55 rfl rfl ?_
          refine y_iload3 (q := 123) C 56 rfl rfl ?_
          refine x_ineg (q := 124) C 57 rfl rfl ?_
          refine y_iload4 (q := 126) C 58 rfl rfl ?_
          refine x_iconst (q := 127) C 59 (n := (1)) (v := (1)) rfl rfl rfl ?_
          refine y_iload5 (q := 129) C 60 rfl rfl ?_
          refine x_isub (q := 130) C 61 rfl rfl ?_
          refine y_iload6 (q := 132) C 62 rfl rfl ?_
          refine y_cV5 (q := 135) C 63 rfl rfl ml_RX5_138 cd_X5_move cv_X5_move ⟨by decide, rfl⟩ (by first | assumption | rfl | decide | exact bL hB _ (by decide)) (by decide) (by decide) (Nat.le_of_ble_eq_true rfl) (s_X5_move hj (pIn_neg (hR0.2.1.1 j hj).1) ((hR0.2.1.1 j hj).2) ((zOk_m hs).2.1) hR0.2.1 hB ?_)
          intro r I1 J1 hC1 hc1 hr1
          show aj_X G 135 _ _ _ _ _ _ _ _ _
          exact x_ireturn C Z 64 rfl rfl rfl (hK _ _ _ (mC.pj hR0 hC1 (and_t (ckI_t hj) hok) hj) (by rw [cd2_t (ckI_t hj) hok]; exact hc1.trans hT) (fun _ => hr1.trans (an_pj hR0 hj)))
        · skip
          refine x_swIn (off := 67) (t := 136) C 42 rfl (by decide) (by decide) (by decide) (by decide) ?_
          refine y_aload0 (q := 137) C 65 rfl rfl ?_
          refine y_iload1 (q := 138) C 66 rfl rfl ?_
          refine y_iload4 (q := 140) C 67 rfl rfl ?_
          refine x_ineg (q := 141) C 68 rfl rfl ?_
          refine y_iload3 (q := 142) C 69 rfl rfl ?_
          refine x_iconst (q := 143) C 70 (n := (1)) (v := (1)) rfl rfl rfl ?_
          refine y_iload6 (q := 145) C 71 rfl rfl ?_
          refine x_isub (q := 146) C 72 rfl rfl ?_
          refine y_iload5 (q := 148) C 73 rfl rfl ?_
          refine y_cV5 (q := 151) C 74 rfl rfl ml_RX5_138 cd_X5_move cv_X5_move ⟨by decide, rfl⟩ (by first | assumption | rfl | decide | exact bL hB _ (by decide)) (by decide) (by decide) (Nat.le_of_ble_eq_true rfl) (s_X5_move hj (pIn_neg (hR0.2.1.1 j hj).2) ((hR0.2.1.1 j hj).1) ((zOk_m hs).2.2.1) hR0.2.1 hB ?_)
          intro r I1 J1 hC1 hc1 hr1
          show aj_X G 151 _ _ _ _ _ _ _ _ _
          exact x_ireturn C Z 75 rfl rfl rfl (hK _ _ _ (mC.pj hR0 hC1 (and_t (ckI_t hj) hok) hj) (by rw [cd2_t (ckI_t hj) hok]; exact hc1.trans hT) (fun _ => hr1.trans (an_pj hR0 hj)))
        · skip
          refine x_swIn (off := 83) (t := 152) C 42 rfl (by decide) (by decide) (by decide) (by decide) ?_
          refine y_aload0 (q := 153) C 76 rfl rfl ?_
          refine y_iload1 (q := 154) C 77 rfl rfl ?_
          refine y_iload4 (q := 156) C 78 rfl rfl ?_
          refine y_iload3 (q := 157) C 79 rfl rfl ?_
          refine x_ineg (q := 158) C 80 rfl rfl ?_
          refine y_iload6 (q := 160) C 81 rfl rfl ?_
          refine x_iconst (q := 161) C 82 (n := (1)) (v := (1)) rfl rfl rfl ?_
          refine y_iload5 (q := 163) C 83 rfl rfl ?_
          refine x_isub (q := 164) C 84 rfl rfl ?_
          refine y_cV5 (q := 167) C 85 rfl rfl ml_RX5_138 cd_X5_move cv_X5_move ⟨by decide, rfl⟩ (by first | assumption | rfl | decide | exact bL hB _ (by decide)) (by decide) (by decide) (Nat.le_of_ble_eq_true rfl) (s_X5_move hj ((hR0.2.1.1 j hj).2) (pIn_neg (hR0.2.1.1 j hj).1) ((zOk_m hs).2.2.2.1) hR0.2.1 hB ?_)
          intro r I1 J1 hC1 hc1 hr1
          show aj_X G 167 _ _ _ _ _ _ _ _ _
          exact x_ireturn C Z 86 rfl rfl rfl (hK _ _ _ (mC.pj hR0 hC1 (and_t (ckI_t hj) hok) hj) (by rw [cd2_t (ckI_t hj) hok]; exact hc1.trans hT) (fun _ => hr1.trans (an_pj hR0 hj)))
        · skip
          refine x_swIn (off := 99) (t := 168) C 42 rfl (by decide) (by decide) (by decide) (by decide) ?_
          refine y_aload0 (q := 169) C 87 rfl rfl ?_
          refine y_iload1 (q := 170) C 88 rfl rfl ?_
          refine y_iload4 (q := 172) C 89 rfl rfl ?_
          refine y_iload3 (q := 173) C 90 rfl rfl ?_
          refine y_iload6 (q := 175) C 91 rfl rfl ?_
          refine y_iload5 (q := 177) C 92 rfl rfl ?_
          refine y_cV5 (q := 180) C 93 rfl rfl ml_RX5_138 cd_X5_move cv_X5_move ⟨by decide, rfl⟩ (by first | assumption | rfl | decide | exact bL hB _ (by decide)) (by decide) (by decide) (Nat.le_of_ble_eq_true rfl) (s_X5_move hj ((hR0.2.1.1 j hj).2) ((hR0.2.1.1 j hj).1) ((zOk_m hs).2.2.2.2.1) hR0.2.1 hB ?_)
          intro r I1 J1 hC1 hc1 hr1
          show aj_X G 180 _ _ _ _ _ _ _ _ _
          exact x_ireturn C Z 94 rfl rfl rfl (hK _ _ _ (mC.pj hR0 hC1 (and_t (ckI_t hj) hok) hj) (by rw [cd2_t (ckI_t hj) hok]; exact hc1.trans hT) (fun _ => hr1.trans (an_pj hR0 hj)))
        · skip
          refine x_swOut (t := 181) C 42 rfl (by decide) (by decide) ?_
          refine y_aload0 (q := 182) C 95 rfl rfl ?_
          refine y_iload1 (q := 183) C 96 rfl rfl ?_
          refine y_iload3 (q := 184) C 97 rfl rfl ?_
          refine x_ineg (q := 185) C 98 rfl rfl ?_
          refine y_iload4 (q := 187) C 99 rfl rfl ?_
          refine x_ineg (q := 188) C 100 rfl rfl ?_
          refine x_iconst (q := 189) C 101 (n := (1)) (v := (1)) rfl rfl rfl ?_
          refine y_iload5 (q := 191) C 102 rfl rfl ?_
          refine x_isub (q := 192) C 103 rfl rfl ?_
          refine x_iconst (q := 193) C 104 (n := (1)) (v := (1)) rfl rfl rfl ?_
          refine y_iload6 (q := 195) C 105 rfl rfl ?_
          refine x_isub (q := 196) C 106 rfl rfl ?_
          refine y_cV5 (q := 199) C 107 rfl rfl ml_RX5_138 cd_X5_move cv_X5_move ⟨by decide, rfl⟩ (by first | assumption | rfl | decide | exact bL hB _ (by decide)) (by decide) (by decide) (Nat.le_of_ble_eq_true rfl) (s_X5_move hj (pIn_neg (hR0.2.1.1 j hj).1) (pIn_neg (hR0.2.1.1 j hj).2) ((zOk_m hs).2.2.2.2.2) hR0.2.1 hB ?_)
          intro r I1 J1 hC1 hc1 hr1
          show aj_X G 199 _ _ _ _ _ _ _ _ _
          exact x_ireturn C Z 108 rfl rfl rfl (hK _ _ _ (mC.pj hR0 hC1 (and_t (ckI_t hj) hok) hj) (by rw [cd2_t (ckI_t hj) hok]; exact hc1.trans hT) (fun _ => hr1.trans (an_pj hR0 hj)))
      · skip
        exact absurd c3 (by decide)
    · skip
      refine x_iconst (q := 23) C 12 (n := (1)) (v := (1)) rfl rfl rfl ?_
      refine x_goto (t := 27) C 13 rfl (by decide) ?_
      refine x_iconst (q := 28) C 15 (n := (2)) (v := (2)) rfl rfl rfl ?_
      refine y_cV2 (q := 31) C 16 rfl rfl ml_RX5_36 cd_X5_refuse cv_X5_refuse ⟨by decide, rfl⟩ (by first | assumption | rfl | decide | exact bL hB _ (by decide)) (by decide) (by decide) (Nat.le_of_ble_eq_true rfl) (s_X5_refuse (b := true) (by decide) hT hB ?_)
      show aj_X G 31 _ _ _ _ _ _ _ _ _
      refine x_if_eqB (q := 34) (t := 36) C 17 rfl (by decide) rfl (fun c4 => ?_) (fun c4 => ?_)
      · skip
        exact absurd c4 (by decide)
      · skip
        refine x_iconst (q := 35) C 18 (n := (0)) (v := (0)) rfl rfl rfl ?_
        exact x_ireturn C Z 19 rfl rfl rfl (hK _ _ _ (mC.no (mR.tr hR0 (mR.tw hR0.2.1)) (nxS_f (and_f2 (by assumption)))) (by rw [cd2_2 (ckI_t hj) (by assumption)]; exact tH_t rfl) (cd2_n (Or.inr (by assumption))))
set_option maxRecDepth 100000 in
set_option maxHeartbeats 800000 in
theorem s_X5_moveTo {l : Launch} {I : Nat → Nat → Int32} {J : Nat → Nat → Int64} {V : Nat → Nat → Option Nat} {N : Nat → Nat} {L : List Nat} {K : aj_K} {j : Nat} {x u a b z : Int32} (hj : j < 8) (hz : zOk z a b) (hM : mI I) (hB : bV V N L) (hK : ∀ (r : Int32) I1 J1, mC I J I1 J1 (nxJ j (qB x u z) (cV I)) → I1 22 0 = I 22 0 → r = anJ j (qB x u z) (cV I) → K (.inl (some (.int r))) I1 J1 V N L) : aj_M l yX5_moveTo (aj_wc yX5_moveTo cX5_moveTo 6 (some .int)) (aj_rm 5 0 0) [] [.ref 22, .int (nI j), .int x, .int u, .int a, .int b] I J V N L K := by
  refine aj_intro (tbl := t_X5_moveTo) (lv0 := [some (.ref 22), some (.int (nI j)), some (.int x), some (.int u), some (.int a), some (.int b)]) (by decide) T_X5_moveTo aj_f0 (Nat.le_of_ble_eq_true rfl) rfl ?_
  intro G hl C Z NX hnm hGL hGF
  have C : aj_C G cX5_moveTo t_X5_moveTo RX5 (aj_rm 5 0 0) 6 := C
  refine y_iload2 (q := 1) C 0 rfl rfl ?_
  refine x_bipush (q := 3) C 1 (n := (-127)) (v := (-127)) rfl rfl rfl ?_
  refine x_bipush (q := 5) C 2 (n := (127)) (v := (127)) rfl rfl rfl ?_
  refine y_cS3 (q := 8) C 3 rfl rfl ml_RX5_40 cd_X5_isIn sv_X5_isIn (by decide) (by decide) (Nat.le_of_ble_eq_true rfl) (s_X5_isIn ?_)
  show aj_X G 8 _ _ _ _ _ _ _ _ _
  refine x_if_eqB (q := 11) (t := 36) C 4 rfl (by decide) rfl (fun c1 => ?_) (fun c1 => ?_)
  · skip
    refine y_aload0 (q := 37) C 18 rfl rfl ?_
    refine y_cV0 (q := 40) C 19 rfl rfl ml_RX5_142 cd_X5_failed cv_X5_failed ⟨by decide, rfl⟩ (by first | assumption | rfl | decide | exact bL hB _ (by decide)) (by decide) (by decide) (Nat.le_of_ble_eq_true rfl) (s_X5_failed hB ?_)
    show aj_X G 40 _ _ _ _ _ _ _ _ _
    exact x_ireturn C Z 20 rfl rfl rfl (hK _ _ _ (mC.no (mR.hs (by decide) hM) (nxJ_f (tRg_f (Or.inl (by assumption))))) (aj_u_i _ _ _ (by decide)) (anJ_f (tRg_f (Or.inl (by assumption)))).symm)
  · skip
    refine y_iload3 (q := 12) C 5 rfl rfl ?_
    refine x_bipush (q := 14) C 6 (n := (-127)) (v := (-127)) rfl rfl rfl ?_
    refine x_bipush (q := 16) C 7 (n := (127)) (v := (127)) rfl rfl rfl ?_
    refine y_cS3 (q := 19) C 8 rfl rfl ml_RX5_40 cd_X5_isIn sv_X5_isIn (by decide) (by decide) (Nat.le_of_ble_eq_true rfl) (s_X5_isIn ?_)
    show aj_X G 19 _ _ _ _ _ _ _ _ _
    refine x_if_eqB (q := 22) (t := 36) C 9 rfl (by decide) rfl (fun c2 => ?_) (fun c2 => ?_)
    · skip
      refine y_aload0 (q := 37) C 18 rfl rfl ?_
      refine y_cV0 (q := 40) C 19 rfl rfl ml_RX5_142 cd_X5_failed cv_X5_failed ⟨by decide, rfl⟩ (by first | assumption | rfl | decide | exact bL hB _ (by decide)) (by decide) (by decide) (Nat.le_of_ble_eq_true rfl) (s_X5_failed hB ?_)
      show aj_X G 40 _ _ _ _ _ _ _ _ _
      exact x_ireturn C Z 20 rfl rfl rfl (hK _ _ _ (mC.no (mR.hs (by decide) hM) (nxJ_f (tRg_f (Or.inr (by assumption))))) (aj_u_i _ _ _ (by decide)) (anJ_f (tRg_f (Or.inr (by assumption)))).symm)
    · skip
      refine y_aload0 (q := 23) C 10 rfl rfl ?_
      refine y_iload1 (q := 24) C 11 rfl rfl ?_
      refine y_iload2 (q := 25) C 12 rfl rfl ?_
      refine y_iload3 (q := 26) C 13 rfl rfl ?_
      refine y_iload4 (q := 28) C 14 rfl rfl ?_
      refine y_iload5 (q := 30) C 15 rfl rfl ?_
      refine y_cV5 (q := 33) C 16 rfl rfl ml_RX5_138 cd_X5_move cv_X5_move ⟨by decide, rfl⟩ (by first | assumption | rfl | decide | exact bL hB _ (by decide)) (by decide) (by decide) (Nat.le_of_ble_eq_true rfl) (s_X5_move hj (by assumption) (by assumption) hz hM hB ?_)
      intro r I1 J1 hC1 hc1 hr1
      show aj_X G 33 _ _ _ _ _ _ _ _ _
      refine x_goto (t := 40) C 17 rfl (by decide) ?_
      exact x_ireturn C Z 20 rfl rfl rfl (hK _ _ _ hC1 hc1 hr1)
set_option maxRecDepth 100000 in
set_option maxHeartbeats 800000 in
theorem s_X5_stretch {l : Launch} {I : Nat → Nat → Int32} {J : Nat → Nat → Int64} {V : Nat → Nat → Option Nat} {N : Nat → Nat} {L : List Nat} {K : aj_K} {x t : Int32} (hM : mI I) (hO : cOk (cV I)) (hB : bV V N L) (hK : ∀ (r : Int32) I1 J1, mC I J I1 J1 (nxS (ckI x && pIn t 1 127) x (strT t (cV I (nn x))) (cV I)) → I1 22 0 = cd2 (ckI x) (pIn t 1 127) → (cd2 (ckI x) (pIn t 1 127) = 0 → r = anS x (strT t (cV I (nn x))) (cV I)) → K (.inl (some (.int r))) I1 J1 V N L) : aj_M l yX5_stretch (aj_wc yX5_stretch cX5_stretch 3 (some .int)) (aj_rm 6 0 0) [] [.ref 22, .int x, .int t] I J V N L K := by
  refine aj_intro (tbl := t_X5_stretch) (lv0 := [some (.ref 22), some (.int x), some (.int t)]) (by decide) T_X5_stretch aj_f0 (Nat.le_of_ble_eq_true rfl) rfl ?_
  intro G hl C Z NX hnm hGL hGF
  have C : aj_C G cX5_stretch t_X5_stretch RX5 (aj_rm 6 0 0) 3 := C
  refine y_aload0 (q := 1) C 0 rfl rfl ?_
  refine y_iload1 (q := 2) C 1 rfl rfl ?_
  refine y_cS1 (q := 5) C 2 rfl rfl ml_RX5_132 cd_X5_isNoCell sv_X5_isNoCell (by decide) (by decide) (Nat.le_of_ble_eq_true rfl) (s_X5_isNoCell ?_)
  show aj_X G 5 _ _ _ _ _ _ _ _ _
  refine x_iconst (q := 6) C 3 (n := (1)) (v := (1)) rfl rfl rfl ?_
  refine y_cV2 (q := 9) C 4 rfl rfl ml_RX5_135 cd_X5_start cv_X5_start ⟨by decide, rfl⟩ (by first | assumption | rfl | decide | exact bL hB _ (by decide)) (by decide) (by decide) (Nat.le_of_ble_eq_true rfl) (s_X5_start (by first | assumption | rfl | decide | exact bL hB _ (by decide)) (by first | assumption | rfl | decide | exact bL hB _ (by decide)) ?_)
  show aj_X G 9 _ _ _ _ _ _ _ _ _
  refine x_if_neB (q := 12) (t := 35) C 5 rfl (by decide) rfl (fun c1 => ?_) (fun c1 => ?_)
  · skip
    refine x_iconst (q := 36) C 18 (n := (0)) (v := (0)) rfl rfl rfl ?_
    refine x_goto (t := 73) C 19 rfl (by decide) ?_
    exact x_ireturn C Z 44 rfl rfl rfl (hK _ _ _ (mC.no (mR.th hM) (nxS_f (and_f1 (ckm_f (by assumption))))) (by rw [cd2_1 (ckm_f (by assumption))]; exact tH_t (by assumption)) (cd2_n (Or.inl (ckm_f (by assumption)))))
  · skip
    rw [show (!pIn x 0 7) = false by assumption, tH_f]
    have hR0 : mR I J (aj_u I 22 0 0) J := mR.t hM
    have hT : aj_u I 22 0 0 22 0 = 0 := aj_u_s _ _ _ _
    generalize aj_u I 22 0 0 = I0 at hR0 hT ⊢
    obtain ⟨j, hj, rfl⟩ := nC (by assumption)
    refine y_aload0 (q := 13) C 6 rfl rfl ?_
    refine y_iload2 (q := 14) C 7 rfl rfl ?_
    refine x_iconst (q := 15) C 8 (n := (1)) (v := (1)) rfl rfl rfl ?_
    refine x_bipush (q := 17) C 9 (n := (127)) (v := (127)) rfl rfl rfl ?_
    refine y_cS3 (q := 20) C 10 rfl rfl ml_RX5_40 cd_X5_isIn sv_X5_isIn (by decide) (by decide) (Nat.le_of_ble_eq_true rfl) (s_X5_isIn ?_)
    show aj_X G 20 _ _ _ _ _ _ _ _ _
    refine x_if_neB (q := 23) (t := 27) C 11 rfl (by decide) rfl (fun c2 => ?_) (fun c2 => ?_)
    · skip
      refine x_iconst (q := 28) C 14 (n := (0)) (v := (0)) rfl rfl rfl ?_
      refine x_iconst (q := 29) C 15 (n := (2)) (v := (2)) rfl rfl rfl ?_
      refine y_cV2 (q := 32) C 16 rfl rfl ml_RX5_36 cd_X5_refuse cv_X5_refuse ⟨by decide, rfl⟩ (by first | assumption | rfl | decide | exact bL hB _ (by decide)) (by decide) (by decide) (Nat.le_of_ble_eq_true rfl) (s_X5_refuse (b := false) (by decide) hT hB ?_)
      show aj_X G 32 _ _ _ _ _ _ _ _ _
      refine x_if_eqB (q := 35) (t := 39) C 17 rfl (by decide) rfl (fun c3 => ?_) (fun c3 => ?_)
      · skip
        rw [tH_f]
        rw [str_e hR0 hj] at hK
        refine y_aload0 (q := 40) C 20 rfl rfl ?_
        refine y_iload1 (q := 41) C 21 rfl rfl ?_
        refine y_aload0 (q := 42) C 22 rfl rfl ?_
        refine x_getR (q := 45) C 23 rfl rfl fl_RX5_9 (bv_6_1 hB) (fun _ _ => rfl) (by first | assumption | rfl | decide | exact bL hB _ (by decide)) (by first | assumption | rfl | decide | exact bL hB _ (by decide)) ?_
        refine y_iload1 (q := 46) C 24 rfl rfl ?_
        refine x_iald (q := 47) C 25 rfl rfl (by first | assumption | rfl | decide | exact bL hB _ (by decide)) (by first | assumption | rfl | decide | exact bL hB _ (by decide)) (by (first | rw [bn24 hB] | rw [bn40 hB] | rw [bn56 hB] | rw [bn72 hB] | rw [bn27 hB] | rw [bn43 hB] | rw [bn25 hB] | rw [bn41 hB] | rw [bn88 hB] | rw [bn104 hB] | rw [bn120 hB] | rw [bn136 hB] | rw [bn152 hB] | rw [bn168 hB]); first | assumption | exact vp_in_nI (by omega) (by decide)) ?_
        rw [nI_clamp (by omega)]
        refine y_iload2 (q := 48) C 26 rfl rfl ?_
        refine x_imul (q := 49) C 27 rfl rfl ?_
        refine y_aload0 (q := 50) C 28 rfl rfl ?_
        refine x_getR (q := 53) C 29 rfl rfl fl_RX5_13 (bv_6_2 hB) (fun _ _ => rfl) (by first | assumption | rfl | decide | exact bL hB _ (by decide)) (by first | assumption | rfl | decide | exact bL hB _ (by decide)) ?_
        refine y_iload1 (q := 54) C 30 rfl rfl ?_
        refine x_iald (q := 55) C 31 rfl rfl (by first | assumption | rfl | decide | exact bL hB _ (by decide)) (by first | assumption | rfl | decide | exact bL hB _ (by decide)) (by (first | rw [bn24 hB] | rw [bn40 hB] | rw [bn56 hB] | rw [bn72 hB] | rw [bn27 hB] | rw [bn43 hB] | rw [bn25 hB] | rw [bn41 hB] | rw [bn88 hB] | rw [bn104 hB] | rw [bn120 hB] | rw [bn136 hB] | rw [bn152 hB] | rw [bn168 hB]); first | assumption | exact vp_in_nI (by omega) (by decide)) ?_
        rw [nI_clamp (by omega)]
        refine y_iload2 (q := 56) C 32 rfl rfl ?_
        refine x_imul (q := 57) C 33 rfl rfl ?_
        refine y_aload0 (q := 58) C 34 rfl rfl ?_
        refine x_getR (q := 61) C 35 rfl rfl fl_RX5_16 (bv_6_3 hB) (fun _ _ => rfl) (by first | assumption | rfl | decide | exact bL hB _ (by decide)) (by first | assumption | rfl | decide | exact bL hB _ (by decide)) ?_
        refine y_iload1 (q := 62) C 36 rfl rfl ?_
        refine x_iald (q := 63) C 37 rfl rfl (by first | assumption | rfl | decide | exact bL hB _ (by decide)) (by first | assumption | rfl | decide | exact bL hB _ (by decide)) (by (first | rw [bn24 hB] | rw [bn40 hB] | rw [bn56 hB] | rw [bn72 hB] | rw [bn27 hB] | rw [bn43 hB] | rw [bn25 hB] | rw [bn41 hB] | rw [bn88 hB] | rw [bn104 hB] | rw [bn120 hB] | rw [bn136 hB] | rw [bn152 hB] | rw [bn168 hB]); first | assumption | exact vp_in_nI (by omega) (by decide)) ?_
        rw [nI_clamp (by omega)]
        refine x_iconst (q := 64) C 38 (n := (1)) (v := (1)) rfl rfl rfl ?_
        refine x_iand (q := 65) C 39 rfl rfl ?_
        refine y_aload0 (q := 66) C 40 rfl rfl ?_
        refine y_iload1 (q := 67) C 41 rfl rfl ?_
        refine y_cV1 (q := 70) C 42 rfl rfl ml_RX5_97 cd_X5_upSignOf cv_X5_upSignOf ⟨by decide, rfl⟩ (by first | assumption | rfl | decide | exact bL hB _ (by decide)) (by decide) (by decide) (Nat.le_of_ble_eq_true rfl) (s_X5_upSignOf (by first | assumption | rfl | decide | exact bL hB _ (by decide)) (by first | assumption | rfl | decide | exact bL hB _ (by decide)) ?_)
        show aj_X G 70 _ _ _ _ _ _ _ _ _
        refine y_cV5 (q := 73) C 43 rfl rfl ml_RX5_146 cd_X5_moveTo cv_X5_moveTo ⟨by decide, rfl⟩ (by first | assumption | rfl | decide | exact bL hB _ (by decide)) (by decide) (by decide) (Nat.le_of_ble_eq_true rfl) (s_X5_moveTo hj (zOk_v (hO_s hR0 hO hj)) hR0.2.1 hB ?_)
        intro r I1 J1 hC1 hc1 hr1
        show aj_X G 73 _ _ _ _ _ _ _ _ _
        exact x_ireturn C Z 44 rfl rfl rfl (hK _ _ _ (mC.pj hR0 hC1 (and_t (ckI_t hj) (by assumption)) hj) (by rw [cd2_t (ckI_t hj) (by assumption)]; exact hc1.trans hT) (fun _ => hr1.trans (an_pj hR0 hj)))
      · skip
        exact absurd c3 (by decide)
    · skip
      refine x_iconst (q := 24) C 12 (n := (1)) (v := (1)) rfl rfl rfl ?_
      refine x_goto (t := 28) C 13 rfl (by decide) ?_
      refine x_iconst (q := 29) C 15 (n := (2)) (v := (2)) rfl rfl rfl ?_
      refine y_cV2 (q := 32) C 16 rfl rfl ml_RX5_36 cd_X5_refuse cv_X5_refuse ⟨by decide, rfl⟩ (by first | assumption | rfl | decide | exact bL hB _ (by decide)) (by decide) (by decide) (Nat.le_of_ble_eq_true rfl) (s_X5_refuse (b := true) (by decide) hT hB ?_)
      show aj_X G 32 _ _ _ _ _ _ _ _ _
      refine x_if_eqB (q := 35) (t := 39) C 17 rfl (by decide) rfl (fun c4 => ?_) (fun c4 => ?_)
      · skip
        exact absurd c4 (by decide)
      · skip
        refine x_iconst (q := 36) C 18 (n := (0)) (v := (0)) rfl rfl rfl ?_
        refine x_goto (t := 73) C 19 rfl (by decide) ?_
        exact x_ireturn C Z 44 rfl rfl rfl (hK _ _ _ (mC.no (mR.tr hR0 (mR.tw hR0.2.1)) (nxS_f (and_f2 (by assumption)))) (by rw [cd2_2 (ckI_t hj) (by assumption)]; exact tH_t rfl) (cd2_n (Or.inr (by assumption))))
set_option maxRecDepth 100000 in
set_option maxHeartbeats 800000 in
theorem s_X5_across {l : Launch} {I : Nat → Nat → Int32} {J : Nat → Nat → Int64} {V : Nat → Nat → Option Nat} {N : Nat → Nat} {L : List Nat} {K : aj_K} {x : Int32} (hM : mI I) (hB : bV V N L) (hK : ∀ (r : Int32) I1 J1, mR I J I1 J1 → I1 22 0 = cd1 (ckI x) → (cd1 (ckI x) = 0 → r = (cV I (nn x)).1) → K (.inl (some (.int r))) I1 J1 V N L) : aj_M l yX5_across (aj_wc yX5_across cX5_across 2 (some .int)) (aj_rm 2 0 0) [] [.ref 22, .int x] I J V N L K := by
  refine aj_intro (tbl := t_X5_across) (lv0 := [some (.ref 22), some (.int x)]) (by decide) T_X5_across aj_f0 (Nat.le_of_ble_eq_true rfl) rfl ?_
  intro G hl C Z NX hnm hGL hGF
  have C : aj_C G cX5_across t_X5_across RX5 (aj_rm 2 0 0) 2 := C
  refine y_aload0 (q := 1) C 0 rfl rfl ?_
  refine y_iload1 (q := 2) C 1 rfl rfl ?_
  refine y_cS1 (q := 5) C 2 rfl rfl ml_RX5_132 cd_X5_isNoCell sv_X5_isNoCell (by decide) (by decide) (Nat.le_of_ble_eq_true rfl) (s_X5_isNoCell ?_)
  show aj_X G 5 _ _ _ _ _ _ _ _ _
  refine x_iconst (q := 6) C 3 (n := (1)) (v := (1)) rfl rfl rfl ?_
  refine y_cV2 (q := 9) C 4 rfl rfl ml_RX5_135 cd_X5_start cv_X5_start ⟨by decide, rfl⟩ (by first | assumption | rfl | decide | exact bL hB _ (by decide)) (by decide) (by decide) (Nat.le_of_ble_eq_true rfl) (s_X5_start (by first | assumption | rfl | decide | exact bL hB _ (by decide)) (by first | assumption | rfl | decide | exact bL hB _ (by decide)) ?_)
  show aj_X G 9 _ _ _ _ _ _ _ _ _
  refine x_if_eqB (q := 12) (t := 16) C 5 rfl (by decide) rfl (fun c1 => ?_) (fun c1 => ?_)
  · skip
    rw [show (!pIn x 0 7) = false by assumption, tH_f]
    have hR0 : mR I J (aj_u I 22 0 0) J := mR.t hM
    have hT : aj_u I 22 0 0 22 0 = 0 := aj_u_s _ _ _ _
    generalize aj_u I 22 0 0 = I0 at hR0 hT ⊢
    obtain ⟨j, hj, rfl⟩ := nC (by assumption)
    refine y_aload0 (q := 17) C 8 rfl rfl ?_
    refine x_getR (q := 20) C 9 rfl rfl fl_RX5_9 (bv_6_1 hB) (fun _ _ => rfl) (by first | assumption | rfl | decide | exact bL hB _ (by decide)) (by first | assumption | rfl | decide | exact bL hB _ (by decide)) ?_
    refine y_iload1 (q := 21) C 10 rfl rfl ?_
    refine x_iald (q := 22) C 11 rfl rfl (by first | assumption | rfl | decide | exact bL hB _ (by decide)) (by first | assumption | rfl | decide | exact bL hB _ (by decide)) (by (first | rw [bn24 hB] | rw [bn40 hB] | rw [bn56 hB] | rw [bn72 hB] | rw [bn27 hB] | rw [bn43 hB] | rw [bn25 hB] | rw [bn41 hB] | rw [bn88 hB] | rw [bn104 hB] | rw [bn120 hB] | rw [bn136 hB] | rw [bn152 hB] | rw [bn168 hB]); first | assumption | exact vp_in_nI (by omega) (by decide)) ?_
    rw [nI_clamp (by omega)]
    exact x_ireturn C Z 12 rfl rfl rfl (hK _ _ _ hR0 (by rw [cd1_t (ckI_t hj)]; exact hT) (fun _ => by rw [cV_at hR0 hj]))
  · skip
    refine x_iconst (q := 13) C 6 (n := (0)) (v := (0)) rfl rfl rfl ?_
    refine x_goto (t := 22) C 7 rfl (by decide) ?_
    exact x_ireturn C Z 12 rfl rfl rfl (hK _ _ _ (mR.th hM) (by rw [cd1_f (ckm_f (by assumption))]; exact tH_t (by assumption)) (cd1_n (ckm_f (by assumption))))
set_option maxRecDepth 100000 in
set_option maxHeartbeats 800000 in
theorem s_X5_up {l : Launch} {I : Nat → Nat → Int32} {J : Nat → Nat → Int64} {V : Nat → Nat → Option Nat} {N : Nat → Nat} {L : List Nat} {K : aj_K} {x : Int32} (hM : mI I) (hB : bV V N L) (hK : ∀ (r : Int32) I1 J1, mR I J I1 J1 → I1 22 0 = cd1 (ckI x) → (cd1 (ckI x) = 0 → r = (cV I (nn x)).2.1) → K (.inl (some (.int r))) I1 J1 V N L) : aj_M l yX5_up (aj_wc yX5_up cX5_up 2 (some .int)) (aj_rm 2 0 0) [] [.ref 22, .int x] I J V N L K := by
  refine aj_intro (tbl := t_X5_up) (lv0 := [some (.ref 22), some (.int x)]) (by decide) T_X5_up aj_f0 (Nat.le_of_ble_eq_true rfl) rfl ?_
  intro G hl C Z NX hnm hGL hGF
  have C : aj_C G cX5_up t_X5_up RX5 (aj_rm 2 0 0) 2 := C
  refine y_aload0 (q := 1) C 0 rfl rfl ?_
  refine y_iload1 (q := 2) C 1 rfl rfl ?_
  refine y_cS1 (q := 5) C 2 rfl rfl ml_RX5_132 cd_X5_isNoCell sv_X5_isNoCell (by decide) (by decide) (Nat.le_of_ble_eq_true rfl) (s_X5_isNoCell ?_)
  show aj_X G 5 _ _ _ _ _ _ _ _ _
  refine x_iconst (q := 6) C 3 (n := (1)) (v := (1)) rfl rfl rfl ?_
  refine y_cV2 (q := 9) C 4 rfl rfl ml_RX5_135 cd_X5_start cv_X5_start ⟨by decide, rfl⟩ (by first | assumption | rfl | decide | exact bL hB _ (by decide)) (by decide) (by decide) (Nat.le_of_ble_eq_true rfl) (s_X5_start (by first | assumption | rfl | decide | exact bL hB _ (by decide)) (by first | assumption | rfl | decide | exact bL hB _ (by decide)) ?_)
  show aj_X G 9 _ _ _ _ _ _ _ _ _
  refine x_if_eqB (q := 12) (t := 16) C 5 rfl (by decide) rfl (fun c1 => ?_) (fun c1 => ?_)
  · skip
    rw [show (!pIn x 0 7) = false by assumption, tH_f]
    have hR0 : mR I J (aj_u I 22 0 0) J := mR.t hM
    have hT : aj_u I 22 0 0 22 0 = 0 := aj_u_s _ _ _ _
    generalize aj_u I 22 0 0 = I0 at hR0 hT ⊢
    obtain ⟨j, hj, rfl⟩ := nC (by assumption)
    refine y_aload0 (q := 17) C 8 rfl rfl ?_
    refine x_getR (q := 20) C 9 rfl rfl fl_RX5_13 (bv_6_2 hB) (fun _ _ => rfl) (by first | assumption | rfl | decide | exact bL hB _ (by decide)) (by first | assumption | rfl | decide | exact bL hB _ (by decide)) ?_
    refine y_iload1 (q := 21) C 10 rfl rfl ?_
    refine x_iald (q := 22) C 11 rfl rfl (by first | assumption | rfl | decide | exact bL hB _ (by decide)) (by first | assumption | rfl | decide | exact bL hB _ (by decide)) (by (first | rw [bn24 hB] | rw [bn40 hB] | rw [bn56 hB] | rw [bn72 hB] | rw [bn27 hB] | rw [bn43 hB] | rw [bn25 hB] | rw [bn41 hB] | rw [bn88 hB] | rw [bn104 hB] | rw [bn120 hB] | rw [bn136 hB] | rw [bn152 hB] | rw [bn168 hB]); first | assumption | exact vp_in_nI (by omega) (by decide)) ?_
    rw [nI_clamp (by omega)]
    exact x_ireturn C Z 12 rfl rfl rfl (hK _ _ _ hR0 (by rw [cd1_t (ckI_t hj)]; exact hT) (fun _ => by rw [cV_at hR0 hj]))
  · skip
    refine x_iconst (q := 13) C 6 (n := (0)) (v := (0)) rfl rfl rfl ?_
    refine x_goto (t := 22) C 7 rfl (by decide) ?_
    exact x_ireturn C Z 12 rfl rfl rfl (hK _ _ _ (mR.th hM) (by rw [cd1_f (ckm_f (by assumption))]; exact tH_t (by assumption)) (cd1_n (ckm_f (by assumption))))
set_option maxRecDepth 100000 in
set_option maxHeartbeats 800000 in
theorem s_X5_signs {l : Launch} {I : Nat → Nat → Int32} {J : Nat → Nat → Int64} {V : Nat → Nat → Option Nat} {N : Nat → Nat} {L : List Nat} {K : aj_K} {x : Int32} (hM : mI I) (hB : bV V N L) (hK : ∀ (r : Int32) I1 J1, mR I J I1 J1 → I1 22 0 = cd1 (ckI x) → (cd1 (ckI x) = 0 → r = (cV I (nn x)).2.2) → K (.inl (some (.int r))) I1 J1 V N L) : aj_M l yX5_signs (aj_wc yX5_signs cX5_signs 2 (some .int)) (aj_rm 2 0 0) [] [.ref 22, .int x] I J V N L K := by
  refine aj_intro (tbl := t_X5_signs) (lv0 := [some (.ref 22), some (.int x)]) (by decide) T_X5_signs aj_f0 (Nat.le_of_ble_eq_true rfl) rfl ?_
  intro G hl C Z NX hnm hGL hGF
  have C : aj_C G cX5_signs t_X5_signs RX5 (aj_rm 2 0 0) 2 := C
  refine y_aload0 (q := 1) C 0 rfl rfl ?_
  refine y_iload1 (q := 2) C 1 rfl rfl ?_
  refine y_cS1 (q := 5) C 2 rfl rfl ml_RX5_132 cd_X5_isNoCell sv_X5_isNoCell (by decide) (by decide) (Nat.le_of_ble_eq_true rfl) (s_X5_isNoCell ?_)
  show aj_X G 5 _ _ _ _ _ _ _ _ _
  refine x_iconst (q := 6) C 3 (n := (1)) (v := (1)) rfl rfl rfl ?_
  refine y_cV2 (q := 9) C 4 rfl rfl ml_RX5_135 cd_X5_start cv_X5_start ⟨by decide, rfl⟩ (by first | assumption | rfl | decide | exact bL hB _ (by decide)) (by decide) (by decide) (Nat.le_of_ble_eq_true rfl) (s_X5_start (by first | assumption | rfl | decide | exact bL hB _ (by decide)) (by first | assumption | rfl | decide | exact bL hB _ (by decide)) ?_)
  show aj_X G 9 _ _ _ _ _ _ _ _ _
  refine x_if_eqB (q := 12) (t := 16) C 5 rfl (by decide) rfl (fun c1 => ?_) (fun c1 => ?_)
  · skip
    rw [show (!pIn x 0 7) = false by assumption, tH_f]
    have hR0 : mR I J (aj_u I 22 0 0) J := mR.t hM
    have hT : aj_u I 22 0 0 22 0 = 0 := aj_u_s _ _ _ _
    generalize aj_u I 22 0 0 = I0 at hR0 hT ⊢
    obtain ⟨j, hj, rfl⟩ := nC (by assumption)
    refine y_aload0 (q := 17) C 8 rfl rfl ?_
    refine x_getR (q := 20) C 9 rfl rfl fl_RX5_16 (bv_6_3 hB) (fun _ _ => rfl) (by first | assumption | rfl | decide | exact bL hB _ (by decide)) (by first | assumption | rfl | decide | exact bL hB _ (by decide)) ?_
    refine y_iload1 (q := 21) C 10 rfl rfl ?_
    refine x_iald (q := 22) C 11 rfl rfl (by first | assumption | rfl | decide | exact bL hB _ (by decide)) (by first | assumption | rfl | decide | exact bL hB _ (by decide)) (by (first | rw [bn24 hB] | rw [bn40 hB] | rw [bn56 hB] | rw [bn72 hB] | rw [bn27 hB] | rw [bn43 hB] | rw [bn25 hB] | rw [bn41 hB] | rw [bn88 hB] | rw [bn104 hB] | rw [bn120 hB] | rw [bn136 hB] | rw [bn152 hB] | rw [bn168 hB]); first | assumption | exact vp_in_nI (by omega) (by decide)) ?_
    rw [nI_clamp (by omega)]
    exact x_ireturn C Z 12 rfl rfl rfl (hK _ _ _ hR0 (by rw [cd1_t (ckI_t hj)]; exact hT) (fun _ => by rw [cV_at hR0 hj]))
  · skip
    refine x_iconst (q := 13) C 6 (n := (0)) (v := (0)) rfl rfl rfl ?_
    refine x_goto (t := 22) C 7 rfl (by decide) ?_
    exact x_ireturn C Z 12 rfl rfl rfl (hK _ _ _ (mR.th hM) (by rw [cd1_f (ckm_f (by assumption))]; exact tH_t (by assumption)) (cd1_n (ckm_f (by assumption))))
set_option maxRecDepth 100000 in
set_option maxHeartbeats 800000 in
theorem s_X5_upper {l : Launch} {I : Nat → Nat → Int32} {J : Nat → Nat → Int64} {V : Nat → Nat → Option Nat} {N : Nat → Nat} {L : List Nat} {K : aj_K} {x : Int32} (hM : mI I) (hB : bV V N L) (hK : ∀ (r : Int32) I1 J1, mR I J I1 J1 → K (.inl (some (.int r))) I1 J1 V N L) : aj_M l yX5_upper (aj_wc yX5_upper cX5_upper 2 (some .int)) (aj_rm 2 0 0) [] [.ref 22, .int x] I J V N L K := by
  refine aj_intro (tbl := t_X5_upper) (lv0 := [some (.ref 22), some (.int x)]) (by decide) T_X5_upper aj_f0 (Nat.le_of_ble_eq_true rfl) rfl ?_
  intro G hl C Z NX hnm hGL hGF
  have C : aj_C G cX5_upper t_X5_upper RX5 (aj_rm 2 0 0) 2 := C
  refine y_aload0 (q := 1) C 0 rfl rfl ?_
  refine y_iload1 (q := 2) C 1 rfl rfl ?_
  refine y_cS1 (q := 5) C 2 rfl rfl ml_RX5_132 cd_X5_isNoCell sv_X5_isNoCell (by decide) (by decide) (Nat.le_of_ble_eq_true rfl) (s_X5_isNoCell ?_)
  show aj_X G 5 _ _ _ _ _ _ _ _ _
  refine x_iconst (q := 6) C 3 (n := (1)) (v := (1)) rfl rfl rfl ?_
  refine y_cV2 (q := 9) C 4 rfl rfl ml_RX5_135 cd_X5_start cv_X5_start ⟨by decide, rfl⟩ (by first | assumption | rfl | decide | exact bL hB _ (by decide)) (by decide) (by decide) (Nat.le_of_ble_eq_true rfl) (s_X5_start (by first | assumption | rfl | decide | exact bL hB _ (by decide)) (by first | assumption | rfl | decide | exact bL hB _ (by decide)) ?_)
  show aj_X G 9 _ _ _ _ _ _ _ _ _
  refine x_if_eqB (q := 12) (t := 16) C 5 rfl (by decide) rfl (fun c1 => ?_) (fun c1 => ?_)
  · skip
    rw [show (!pIn x 0 7) = false by assumption, tH_f]
    have hR0 : mR I J (aj_u I 22 0 0) J := mR.t hM
    have hT : aj_u I 22 0 0 22 0 = 0 := aj_u_s _ _ _ _
    generalize aj_u I 22 0 0 = I0 at hR0 hT ⊢
    obtain ⟨j, hj, rfl⟩ := nC (by assumption)
    refine y_aload0 (q := 17) C 8 rfl rfl ?_
    refine y_iload1 (q := 18) C 9 rfl rfl ?_
    refine y_cV1 (q := 21) C 10 rfl rfl ml_RX5_152 cd_X5_upperOf cv_X5_upperOf ⟨by decide, rfl⟩ (by first | assumption | rfl | decide | exact bL hB _ (by decide)) (by decide) (by decide) (Nat.le_of_ble_eq_true rfl) (s_X5_upperOf (by first | assumption | rfl | decide | exact bL hB _ (by decide)) (by first | assumption | rfl | decide | exact bL hB _ (by decide)) ?_)
    intro r
    show aj_X G 21 _ _ _ _ _ _ _ _ _
    exact x_ireturn C Z 11 rfl rfl rfl (hK _ _ _ (by first | exact mR.th hM | exact hR0 | exact mR.tr hR0 hR1 | exact mR.tr hR0 (mR.tw hR0.2.1) | exact mR.tr hR0 (mR.rf hR0.2.1) | exact mR.rf hM))
  · skip
    refine x_iconst (q := 13) C 6 (n := (0)) (v := (0)) rfl rfl rfl ?_
    refine x_goto (t := 21) C 7 rfl (by decide) ?_
    exact x_ireturn C Z 11 rfl rfl rfl (hK _ _ _ (by first | exact mR.th hM | exact hR0 | exact mR.tr hR0 hR1 | exact mR.tr hR0 (mR.tw hR0.2.1) | exact mR.tr hR0 (mR.rf hR0.2.1) | exact mR.rf hM))
set_option maxRecDepth 100000 in
set_option maxHeartbeats 800000 in
theorem s_X5_lower {l : Launch} {I : Nat → Nat → Int32} {J : Nat → Nat → Int64} {V : Nat → Nat → Option Nat} {N : Nat → Nat} {L : List Nat} {K : aj_K} {x : Int32} (hM : mI I) (hB : bV V N L) (hK : ∀ (r : Int32) I1 J1, mR I J I1 J1 → I1 22 0 = cd1 (ckI x) → (cd1 (ckI x) = 0 → r = lwA (cV I (nn x))) → K (.inl (some (.int r))) I1 J1 V N L) : aj_M l yX5_lower (aj_wc yX5_lower cX5_lower 2 (some .int)) (aj_rm 4 0 0) [] [.ref 22, .int x] I J V N L K := by
  refine aj_intro (tbl := t_X5_lower) (lv0 := [some (.ref 22), some (.int x)]) (by decide) T_X5_lower aj_f0 (Nat.le_of_ble_eq_true rfl) rfl ?_
  intro G hl C Z NX hnm hGL hGF
  have C : aj_C G cX5_lower t_X5_lower RX5 (aj_rm 4 0 0) 2 := C
  refine y_aload0 (q := 1) C 0 rfl rfl ?_
  refine y_iload1 (q := 2) C 1 rfl rfl ?_
  refine y_cS1 (q := 5) C 2 rfl rfl ml_RX5_132 cd_X5_isNoCell sv_X5_isNoCell (by decide) (by decide) (Nat.le_of_ble_eq_true rfl) (s_X5_isNoCell ?_)
  show aj_X G 5 _ _ _ _ _ _ _ _ _
  refine x_iconst (q := 6) C 3 (n := (1)) (v := (1)) rfl rfl rfl ?_
  refine y_cV2 (q := 9) C 4 rfl rfl ml_RX5_135 cd_X5_start cv_X5_start ⟨by decide, rfl⟩ (by first | assumption | rfl | decide | exact bL hB _ (by decide)) (by decide) (by decide) (Nat.le_of_ble_eq_true rfl) (s_X5_start (by first | assumption | rfl | decide | exact bL hB _ (by decide)) (by first | assumption | rfl | decide | exact bL hB _ (by decide)) ?_)
  show aj_X G 9 _ _ _ _ _ _ _ _ _
  refine x_if_eqB (q := 12) (t := 16) C 5 rfl (by decide) rfl (fun c1 => ?_) (fun c1 => ?_)
  · skip
    rw [show (!pIn x 0 7) = false by assumption, tH_f]
    have hR0 : mR I J (aj_u I 22 0 0) J := mR.t hM
    have hT : aj_u I 22 0 0 22 0 = 0 := aj_u_s _ _ _ _
    generalize aj_u I 22 0 0 = I0 at hR0 hT ⊢
    obtain ⟨j, hj, rfl⟩ := nC (by assumption)
    refine y_aload0 (q := 17) C 8 rfl rfl ?_
    refine y_iload1 (q := 18) C 9 rfl rfl ?_
    refine y_cV1 (q := 21) C 10 rfl rfl ml_RX5_155 cd_X5_lowerOf cv_X5_lowerOf ⟨by decide, rfl⟩ (by first | assumption | rfl | decide | exact bL hB _ (by decide)) (by decide) (by decide) (Nat.le_of_ble_eq_true rfl) (s_X5_lowerOf (by first | assumption | rfl | decide | exact bL hB _ (by decide)) (by first | assumption | rfl | decide | exact bL hB _ (by decide)) ?_)
    show aj_X G 21 _ _ _ _ _ _ _ _ _
    exact x_ireturn C Z 11 rfl rfl rfl (hK _ _ _ hR0 (by rw [cd1_t (ckI_t hj)]; exact hT) (fun _ => by rw [cV_at hR0 hj]))
  · skip
    refine x_iconst (q := 13) C 6 (n := (0)) (v := (0)) rfl rfl rfl ?_
    refine x_goto (t := 21) C 7 rfl (by decide) ?_
    exact x_ireturn C Z 11 rfl rfl rfl (hK _ _ _ (mR.th hM) (by rw [cd1_f (ckm_f (by assumption))]; exact tH_t (by assumption)) (cd1_n (ckm_f (by assumption))))
set_option maxRecDepth 100000 in
set_option maxHeartbeats 800000 in
theorem s_X5_eighth {l : Launch} {I : Nat → Nat → Int32} {J : Nat → Nat → Int64} {V : Nat → Nat → Option Nat} {N : Nat → Nat} {L : List Nat} {K : aj_K} {x : Int32} (hM : mI I) (hB : bV V N L) (hK : ∀ (r : Int32) I1 J1, mR I J I1 J1 → I1 22 0 = cd1 (ckI x) → (cd1 (ckI x) = 0 → r = egR (cV I (nn x))) → K (.inl (some (.int r))) I1 J1 V N L) : aj_M l yX5_eighth (aj_wc yX5_eighth cX5_eighth 2 (some .int)) (aj_rm 4 0 0) [] [.ref 22, .int x] I J V N L K := by
  refine aj_intro (tbl := t_X5_eighth) (lv0 := [some (.ref 22), some (.int x)]) (by decide) T_X5_eighth aj_f0 (Nat.le_of_ble_eq_true rfl) rfl ?_
  intro G hl C Z NX hnm hGL hGF
  have C : aj_C G cX5_eighth t_X5_eighth RX5 (aj_rm 4 0 0) 2 := C
  refine y_aload0 (q := 1) C 0 rfl rfl ?_
  refine y_iload1 (q := 2) C 1 rfl rfl ?_
  refine y_cS1 (q := 5) C 2 rfl rfl ml_RX5_132 cd_X5_isNoCell sv_X5_isNoCell (by decide) (by decide) (Nat.le_of_ble_eq_true rfl) (s_X5_isNoCell ?_)
  show aj_X G 5 _ _ _ _ _ _ _ _ _
  refine x_iconst (q := 6) C 3 (n := (1)) (v := (1)) rfl rfl rfl ?_
  refine y_cV2 (q := 9) C 4 rfl rfl ml_RX5_135 cd_X5_start cv_X5_start ⟨by decide, rfl⟩ (by first | assumption | rfl | decide | exact bL hB _ (by decide)) (by decide) (by decide) (Nat.le_of_ble_eq_true rfl) (s_X5_start (by first | assumption | rfl | decide | exact bL hB _ (by decide)) (by first | assumption | rfl | decide | exact bL hB _ (by decide)) ?_)
  show aj_X G 9 _ _ _ _ _ _ _ _ _
  refine x_if_eqB (q := 12) (t := 16) C 5 rfl (by decide) rfl (fun c1 => ?_) (fun c1 => ?_)
  · skip
    rw [show (!pIn x 0 7) = false by assumption, tH_f]
    have hR0 : mR I J (aj_u I 22 0 0) J := mR.t hM
    have hT : aj_u I 22 0 0 22 0 = 0 := aj_u_s _ _ _ _
    generalize aj_u I 22 0 0 = I0 at hR0 hT ⊢
    obtain ⟨j, hj, rfl⟩ := nC (by assumption)
    refine y_aload0 (q := 17) C 8 rfl rfl ?_
    refine y_iload1 (q := 18) C 9 rfl rfl ?_
    refine y_cV1 (q := 21) C 10 rfl rfl ml_RX5_172 cd_X5_eighthOf cv_X5_eighthOf ⟨by decide, rfl⟩ (by first | assumption | rfl | decide | exact bL hB _ (by decide)) (by decide) (by decide) (Nat.le_of_ble_eq_true rfl) (s_X5_eighthOf (by first | assumption | rfl | decide | exact bL hB _ (by decide)) (by first | assumption | rfl | decide | exact bL hB _ (by decide)) ?_)
    show aj_X G 21 _ _ _ _ _ _ _ _ _
    exact x_ireturn C Z 11 rfl rfl rfl (hK _ _ _ hR0 (by rw [cd1_t (ckI_t hj)]; exact hT) (fun _ => by rw [cV_at hR0 hj]))
  · skip
    refine x_iconst (q := 13) C 6 (n := (0)) (v := (0)) rfl rfl rfl ?_
    refine x_goto (t := 21) C 7 rfl (by decide) ?_
    exact x_ireturn C Z 11 rfl rfl rfl (hK _ _ _ (mR.th hM) (by rw [cd1_f (ckm_f (by assumption))]; exact tH_t (by assumption)) (cd1_n (ckm_f (by assumption))))
set_option maxRecDepth 100000 in
set_option maxHeartbeats 800000 in
theorem s_X5_grade {l : Launch} {I : Nat → Nat → Int32} {J : Nat → Nat → Int64} {V : Nat → Nat → Option Nat} {N : Nat → Nat} {L : List Nat} {K : aj_K} {x t : Int32} (hM : mI I) (hB : bV V N L) (hK : ∀ (r : Int32) I1 J1, mR I J I1 J1 → K (.inl (some (.int r))) I1 J1 V N L) : aj_M l yX5_grade (aj_wc yX5_grade cX5_grade 3 (some .int)) (aj_rm 2 0 0) [] [.ref 22, .int x, .int t] I J V N L K := by
  refine aj_intro (tbl := t_X5_grade) (lv0 := [some (.ref 22), some (.int x), some (.int t)]) (by decide) T_X5_grade aj_f0 (Nat.le_of_ble_eq_true rfl) rfl ?_
  intro G hl C Z NX hnm hGL hGF
  have C : aj_C G cX5_grade t_X5_grade RX5 (aj_rm 2 0 0) 3 := C
  refine y_aload0 (q := 1) C 0 rfl rfl ?_
  refine y_iload1 (q := 2) C 1 rfl rfl ?_
  refine y_cS1 (q := 5) C 2 rfl rfl ml_RX5_132 cd_X5_isNoCell sv_X5_isNoCell (by decide) (by decide) (Nat.le_of_ble_eq_true rfl) (s_X5_isNoCell ?_)
  show aj_X G 5 _ _ _ _ _ _ _ _ _
  refine x_iconst (q := 6) C 3 (n := (1)) (v := (1)) rfl rfl rfl ?_
  refine y_cV2 (q := 9) C 4 rfl rfl ml_RX5_135 cd_X5_start cv_X5_start ⟨by decide, rfl⟩ (by first | assumption | rfl | decide | exact bL hB _ (by decide)) (by decide) (by decide) (Nat.le_of_ble_eq_true rfl) (s_X5_start (by first | assumption | rfl | decide | exact bL hB _ (by decide)) (by first | assumption | rfl | decide | exact bL hB _ (by decide)) ?_)
  show aj_X G 9 _ _ _ _ _ _ _ _ _
  refine x_if_neB (q := 12) (t := 35) C 5 rfl (by decide) rfl (fun c1 => ?_) (fun c1 => ?_)
  · skip
    refine x_iconst (q := 36) C 18 (n := (0)) (v := (0)) rfl rfl rfl ?_
    refine x_goto (t := 54) C 19 rfl (by decide) ?_
    exact x_ireturn C Z 29 rfl rfl rfl (hK _ _ _ (by first | exact mR.th hM | exact hR0 | exact mR.tr hR0 hR1 | exact mR.tr hR0 (mR.tw hR0.2.1) | exact mR.tr hR0 (mR.rf hR0.2.1) | exact mR.rf hM))
  · skip
    rw [show (!pIn x 0 7) = false by assumption, tH_f]
    have hR0 : mR I J (aj_u I 22 0 0) J := mR.t hM
    have hT : aj_u I 22 0 0 22 0 = 0 := aj_u_s _ _ _ _
    generalize aj_u I 22 0 0 = I0 at hR0 hT ⊢
    obtain ⟨j, hj, rfl⟩ := nC (by assumption)
    refine y_aload0 (q := 13) C 6 rfl rfl ?_
    refine y_iload2 (q := 14) C 7 rfl rfl ?_
    refine x_iconst (q := 15) C 8 (n := (0)) (v := (0)) rfl rfl rfl ?_
    refine x_bipush (q := 17) C 9 (n := (29)) (v := (29)) rfl rfl rfl ?_
    refine y_cS3 (q := 20) C 10 rfl rfl ml_RX5_40 cd_X5_isIn sv_X5_isIn (by decide) (by decide) (Nat.le_of_ble_eq_true rfl) (s_X5_isIn ?_)
    show aj_X G 20 _ _ _ _ _ _ _ _ _
    refine x_if_neB (q := 23) (t := 27) C 11 rfl (by decide) rfl (fun c2 => ?_) (fun c2 => ?_)
    · skip
      refine x_iconst (q := 28) C 14 (n := (0)) (v := (0)) rfl rfl rfl ?_
      refine x_iconst (q := 29) C 15 (n := (2)) (v := (2)) rfl rfl rfl ?_
      refine y_cV2 (q := 32) C 16 rfl rfl ml_RX5_36 cd_X5_refuse cv_X5_refuse ⟨by decide, rfl⟩ (by first | assumption | rfl | decide | exact bL hB _ (by decide)) (by decide) (by decide) (Nat.le_of_ble_eq_true rfl) (s_X5_refuse (b := false) (by decide) hT hB ?_)
      show aj_X G 32 _ _ _ _ _ _ _ _ _
      refine x_if_eqB (q := 35) (t := 39) C 17 rfl (by decide) rfl (fun c3 => ?_) (fun c3 => ?_)
      · skip
        rw [tH_f]
        refine y_aload0 (q := 40) C 20 rfl rfl ?_
        refine x_getR (q := 43) C 21 rfl rfl fl_RX5_19 (bv_6_4 hB) (fun _ _ => rfl) (by first | assumption | rfl | decide | exact bL hB _ (by decide)) (by first | assumption | rfl | decide | exact bL hB _ (by decide)) ?_
        refine y_iload1 (q := 44) C 22 rfl rfl ?_
        refine x_lald (q := 45) C 23 rfl rfl (by first | assumption | rfl | decide | exact bL hB _ (by decide)) (by first | assumption | rfl | decide | exact bL hB _ (by decide)) (by (first | rw [bn24 hB] | rw [bn40 hB] | rw [bn56 hB] | rw [bn72 hB] | rw [bn27 hB] | rw [bn43 hB] | rw [bn25 hB] | rw [bn41 hB] | rw [bn88 hB] | rw [bn104 hB] | rw [bn120 hB] | rw [bn136 hB] | rw [bn152 hB] | rw [bn168 hB]); first | assumption | exact vp_in_nI (by omega) (by decide)) ?_
        rw [nI_clamp (by omega)]
        refine y_aload0 (q := 46) C 24 rfl rfl ?_
        refine y_iload1 (q := 47) C 25 rfl rfl ?_
        refine y_cV1 (q := 50) C 26 rfl rfl ml_RX5_97 cd_X5_upSignOf cv_X5_upSignOf ⟨by decide, rfl⟩ (by first | assumption | rfl | decide | exact bL hB _ (by decide)) (by decide) (by decide) (Nat.le_of_ble_eq_true rfl) (s_X5_upSignOf (by first | assumption | rfl | decide | exact bL hB _ (by decide)) (by first | assumption | rfl | decide | exact bL hB _ (by decide)) ?_)
        show aj_X G 50 _ _ _ _ _ _ _ _ _
        refine y_iload2 (q := 51) C 27 rfl rfl ?_
        refine y_cS3 (q := 54) C 28 rfl rfl ml_RX5_158 cd_X5_gradeOf sv_X5_gradeOf (by decide) (by decide) (Nat.le_of_ble_eq_true rfl) (s_X5_gradeOf ?_)
        show aj_X G 54 _ _ _ _ _ _ _ _ _
        exact x_ireturn C Z 29 rfl rfl rfl (hK _ _ _ (by first | exact mR.th hM | exact hR0 | exact mR.tr hR0 hR1 | exact mR.tr hR0 (mR.tw hR0.2.1) | exact mR.tr hR0 (mR.rf hR0.2.1) | exact mR.rf hM))
      · skip
        exact absurd c3 (by decide)
    · skip
      refine x_iconst (q := 24) C 12 (n := (1)) (v := (1)) rfl rfl rfl ?_
      refine x_goto (t := 28) C 13 rfl (by decide) ?_
      refine x_iconst (q := 29) C 15 (n := (2)) (v := (2)) rfl rfl rfl ?_
      refine y_cV2 (q := 32) C 16 rfl rfl ml_RX5_36 cd_X5_refuse cv_X5_refuse ⟨by decide, rfl⟩ (by first | assumption | rfl | decide | exact bL hB _ (by decide)) (by decide) (by decide) (Nat.le_of_ble_eq_true rfl) (s_X5_refuse (b := true) (by decide) hT hB ?_)
      show aj_X G 32 _ _ _ _ _ _ _ _ _
      refine x_if_eqB (q := 35) (t := 39) C 17 rfl (by decide) rfl (fun c4 => ?_) (fun c4 => ?_)
      · skip
        exact absurd c4 (by decide)
      · skip
        refine x_iconst (q := 36) C 18 (n := (0)) (v := (0)) rfl rfl rfl ?_
        refine x_goto (t := 54) C 19 rfl (by decide) ?_
        exact x_ireturn C Z 29 rfl rfl rfl (hK _ _ _ (by first | exact mR.th hM | exact hR0 | exact mR.tr hR0 hR1 | exact mR.tr hR0 (mR.tw hR0.2.1) | exact mR.tr hR0 (mR.rf hR0.2.1) | exact mR.rf hM))
